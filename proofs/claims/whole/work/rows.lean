section
-- ===== PART A: goes FIRST, ahead of the names: the tables' words, and 'selects' of the private methods out of them =====
/-- a private method of a class that the tables say can be made, by its rows of tables_1 -/
def lw_okq (q : MethodName × Nat) : Prop := (q.1.cls ≠ "java/lang/invoke/MethodHandle" ∧ q.1.cls ≠ "java/lang/invoke/VarHandle") ∧ Cond.instantiable q.1.cls q.2 ∈ tables_1 ∧ Cond.privateMethod q.1 ∈ tables_1 ∧ Cond.instanceMethod q.1 ∈ tables_1
theorem lw_p0 : lw_okq (⟨"GlassHill", "meet", "(I)I"⟩, 8) := ⟨⟨by decide +kernel, by decide +kernel⟩, List.mem_of_getElem? (i := 13) (by decide +kernel), List.mem_of_getElem? (i := 178) (by decide +kernel), List.mem_of_getElem? (i := 179) (by decide +kernel)⟩
theorem lw_p1 : lw_okq (⟨"GlassHill", "isPace", "(I)Z"⟩, 8) := ⟨⟨by decide +kernel, by decide +kernel⟩, List.mem_of_getElem? (i := 13) (by decide +kernel), List.mem_of_getElem? (i := 202) (by decide +kernel), List.mem_of_getElem? (i := 203) (by decide +kernel)⟩
theorem lw_p2 : lw_okq (⟨"GlassHill", "isRider", "(I)Z"⟩, 8) := ⟨⟨by decide +kernel, by decide +kernel⟩, List.mem_of_getElem? (i := 13) (by decide +kernel), List.mem_of_getElem? (i := 210) (by decide +kernel), List.mem_of_getElem? (i := 211) (by decide +kernel)⟩
theorem lw_p3 : lw_okq (⟨"GlassHill", "readSteps", "(IIIIZ)I"⟩, 8) := ⟨⟨by decide +kernel, by decide +kernel⟩, List.mem_of_getElem? (i := 13) (by decide +kernel), List.mem_of_getElem? (i := 245) (by decide +kernel), List.mem_of_getElem? (i := 246) (by decide +kernel)⟩
theorem lw_p4 : lw_okq (⟨"GlassHill", "firstWrong", "(I)I"⟩, 8) := ⟨⟨by decide +kernel, by decide +kernel⟩, List.mem_of_getElem? (i := 13) (by decide +kernel), List.mem_of_getElem? (i := 249) (by decide +kernel), List.mem_of_getElem? (i := 250) (by decide +kernel)⟩
theorem lw_p5 : lw_okq (⟨"GlassHill$Climb", "slideBack", "(II)V"⟩, 5) := ⟨⟨by decide +kernel, by decide +kernel⟩, List.mem_of_getElem? (i := 105) (by decide +kernel), List.mem_of_getElem? (i := 281) (by decide +kernel), List.mem_of_getElem? (i := 282) (by decide +kernel)⟩
theorem lw_p6 : lw_okq (⟨"GlassHill", "firstUp", "(I)I"⟩, 8) := ⟨⟨by decide +kernel, by decide +kernel⟩, List.mem_of_getElem? (i := 13) (by decide +kernel), List.mem_of_getElem? (i := 288) (by decide +kernel), List.mem_of_getElem? (i := 289) (by decide +kernel)⟩
theorem lw_p7 : lw_okq (⟨"GlassHill", "fewestTries", "(I)I"⟩, 8) := ⟨⟨by decide +kernel, by decide +kernel⟩, List.mem_of_getElem? (i := 13) (by decide +kernel), List.mem_of_getElem? (i := 312) (by decide +kernel), List.mem_of_getElem? (i := 313) (by decide +kernel)⟩
theorem lw_p8 : lw_okq (⟨"GlassHill", "heightsOfOthers", "(IZ)I"⟩, 8) := ⟨⟨by decide +kernel, by decide +kernel⟩, List.mem_of_getElem? (i := 13) (by decide +kernel), List.mem_of_getElem? (i := 351) (by decide +kernel), List.mem_of_getElem? (i := 352) (by decide +kernel)⟩
theorem lw_p9 : lw_okq (⟨"GlassHill", "readSeen", "(ZIIIIZ)I"⟩, 8) := ⟨⟨by decide +kernel, by decide +kernel⟩, List.mem_of_getElem? (i := 13) (by decide +kernel), List.mem_of_getElem? (i := 375) (by decide +kernel), List.mem_of_getElem? (i := 376) (by decide +kernel)⟩
theorem lw_p10 : lw_okq (⟨"GlassHill", "isSeenWith", "(IIII)Z"⟩, 8) := ⟨⟨by decide +kernel, by decide +kernel⟩, List.mem_of_getElem? (i := 13) (by decide +kernel), List.mem_of_getElem? (i := 379) (by decide +kernel), List.mem_of_getElem? (i := 380) (by decide +kernel)⟩
theorem lw_p11 : lw_okq (⟨"GlassHill", "setSeenWith", "(IIII)I"⟩, 8) := ⟨⟨by decide +kernel, by decide +kernel⟩, List.mem_of_getElem? (i := 13) (by decide +kernel), List.mem_of_getElem? (i := 392) (by decide +kernel), List.mem_of_getElem? (i := 393) (by decide +kernel)⟩
theorem lw_p12 : lw_okq (⟨"GlassHill", "tellAsLad", "(I)I"⟩, 8) := ⟨⟨by decide +kernel, by decide +kernel⟩, List.mem_of_getElem? (i := 13) (by decide +kernel), List.mem_of_getElem? (i := 450) (by decide +kernel), List.mem_of_getElem? (i := 451) (by decide +kernel)⟩
theorem lw_p13 : lw_okq (⟨"GlassHill", "leave", "(I)V"⟩, 8) := ⟨⟨by decide +kernel, by decide +kernel⟩, List.mem_of_getElem? (i := 13) (by decide +kernel), List.mem_of_getElem? (i := 454) (by decide +kernel), List.mem_of_getElem? (i := 455) (by decide +kernel)⟩
theorem lw_p14 : lw_okq (⟨"GlassHill", "tellAsNight", "(I)I"⟩, 8) := ⟨⟨by decide +kernel, by decide +kernel⟩, List.mem_of_getElem? (i := 13) (by decide +kernel), List.mem_of_getElem? (i := 458) (by decide +kernel), List.mem_of_getElem? (i := 459) (by decide +kernel)⟩
theorem lw_p15 : lw_okq (⟨"GlassHill", "tellAsRider", "(I)I"⟩, 8) := ⟨⟨by decide +kernel, by decide +kernel⟩, List.mem_of_getElem? (i := 13) (by decide +kernel), List.mem_of_getElem? (i := 462) (by decide +kernel), List.mem_of_getElem? (i := 463) (by decide +kernel)⟩
def lw_privs_1 : List (MethodName × Nat) := [(⟨"GlassHill", "meet", "(I)I"⟩, 8), (⟨"GlassHill", "isPace", "(I)Z"⟩, 8), (⟨"GlassHill", "isRider", "(I)Z"⟩, 8), (⟨"GlassHill", "readSteps", "(IIIIZ)I"⟩, 8), (⟨"GlassHill", "firstWrong", "(I)I"⟩, 8), (⟨"GlassHill$Climb", "slideBack", "(II)V"⟩, 5), (⟨"GlassHill", "firstUp", "(I)I"⟩, 8), (⟨"GlassHill", "fewestTries", "(I)I"⟩, 8), (⟨"GlassHill", "heightsOfOthers", "(IZ)I"⟩, 8), (⟨"GlassHill", "readSeen", "(ZIIIIZ)I"⟩, 8), (⟨"GlassHill", "isSeenWith", "(IIII)Z"⟩, 8), (⟨"GlassHill", "setSeenWith", "(IIII)I"⟩, 8), (⟨"GlassHill", "tellAsLad", "(I)I"⟩, 8), (⟨"GlassHill", "leave", "(I)V"⟩, 8), (⟨"GlassHill", "tellAsNight", "(I)I"⟩, 8), (⟨"GlassHill", "tellAsRider", "(I)I"⟩, 8)]
theorem lw_r1 : ∀ q ∈ lw_privs_1, lw_okq q := List.forall_mem_cons.mpr ⟨lw_p0, List.forall_mem_cons.mpr ⟨lw_p1, List.forall_mem_cons.mpr ⟨lw_p2, List.forall_mem_cons.mpr ⟨lw_p3, List.forall_mem_cons.mpr ⟨lw_p4, List.forall_mem_cons.mpr ⟨lw_p5, List.forall_mem_cons.mpr ⟨lw_p6, List.forall_mem_cons.mpr ⟨lw_p7, List.forall_mem_cons.mpr ⟨lw_p8, List.forall_mem_cons.mpr ⟨lw_p9, List.forall_mem_cons.mpr ⟨lw_p10, List.forall_mem_cons.mpr ⟨lw_p11, List.forall_mem_cons.mpr ⟨lw_p12, List.forall_mem_cons.mpr ⟨lw_p13, List.forall_mem_cons.mpr ⟨lw_p14, List.forall_mem_cons.mpr ⟨lw_p15, fun _ h => absurd h List.not_mem_nil⟩⟩⟩⟩⟩⟩⟩⟩⟩⟩⟩⟩⟩⟩⟩⟩
theorem lw_p16 : lw_okq (⟨"GlassHillModel", "against", "(IIII)I"⟩, 30) := ⟨⟨by decide +kernel, by decide +kernel⟩, List.mem_of_getElem? (i := 486) (by decide +kernel), List.mem_of_getElem? (i := 596) (by decide +kernel), List.mem_of_getElem? (i := 597) (by decide +kernel)⟩
theorem lw_p17 : lw_okq (⟨"GlassHillModel", "fails", "(I)I"⟩, 30) := ⟨⟨by decide +kernel, by decide +kernel⟩, List.mem_of_getElem? (i := 486) (by decide +kernel), List.mem_of_getElem? (i := 600) (by decide +kernel), List.mem_of_getElem? (i := 601) (by decide +kernel)⟩
theorem lw_p18 : lw_okq (⟨"GlassHillModel", "readHill", "(I)Z"⟩, 30) := ⟨⟨by decide +kernel, by decide +kernel⟩, List.mem_of_getElem? (i := 486) (by decide +kernel), List.mem_of_getElem? (i := 604) (by decide +kernel), List.mem_of_getElem? (i := 605) (by decide +kernel)⟩
theorem lw_p19 : lw_okq (⟨"GlassHillModel", "isSign", "(II)Z"⟩, 30) := ⟨⟨by decide +kernel, by decide +kernel⟩, List.mem_of_getElem? (i := 486) (by decide +kernel), List.mem_of_getElem? (i := 608) (by decide +kernel), List.mem_of_getElem? (i := 609) (by decide +kernel)⟩
theorem lw_p20 : lw_okq (⟨"GlassHillModel", "digit", "(III)I"⟩, 30) := ⟨⟨by decide +kernel, by decide +kernel⟩, List.mem_of_getElem? (i := 486) (by decide +kernel), List.mem_of_getElem? (i := 612) (by decide +kernel), List.mem_of_getElem? (i := 613) (by decide +kernel)⟩
theorem lw_p21 : lw_okq (⟨"GlassHillModel", "readRider", "(I)Z"⟩, 30) := ⟨⟨by decide +kernel, by decide +kernel⟩, List.mem_of_getElem? (i := 486) (by decide +kernel), List.mem_of_getElem? (i := 616) (by decide +kernel), List.mem_of_getElem? (i := 617) (by decide +kernel)⟩
theorem lw_p22 : lw_okq (⟨"GlassHillModel", "isPace", "(I)Z"⟩, 30) := ⟨⟨by decide +kernel, by decide +kernel⟩, List.mem_of_getElem? (i := 486) (by decide +kernel), List.mem_of_getElem? (i := 624) (by decide +kernel), List.mem_of_getElem? (i := 625) (by decide +kernel)⟩
theorem lw_p23 : lw_okq (⟨"GlassHillModel", "isRider", "(I)Z"⟩, 30) := ⟨⟨by decide +kernel, by decide +kernel⟩, List.mem_of_getElem? (i := 486) (by decide +kernel), List.mem_of_getElem? (i := 632) (by decide +kernel), List.mem_of_getElem? (i := 633) (by decide +kernel)⟩
theorem lw_p24 : lw_okq (⟨"GlassHillModel", "takesOf", "(III)I"⟩, 30) := ⟨⟨by decide +kernel, by decide +kernel⟩, List.mem_of_getElem? (i := 486) (by decide +kernel), List.mem_of_getElem? (i := 655) (by decide +kernel), List.mem_of_getElem? (i := 656) (by decide +kernel)⟩
theorem lw_p25 : lw_okq (⟨"GlassHillModel", "laySteps", "(IIII)I"⟩, 30) := ⟨⟨by decide +kernel, by decide +kernel⟩, List.mem_of_getElem? (i := 486) (by decide +kernel), List.mem_of_getElem? (i := 666) (by decide +kernel), List.mem_of_getElem? (i := 667) (by decide +kernel)⟩
theorem lw_p26 : lw_okq (⟨"GlassHillModel", "go", "()I"⟩, 30) := ⟨⟨by decide +kernel, by decide +kernel⟩, List.mem_of_getElem? (i := 486) (by decide +kernel), List.mem_of_getElem? (i := 670) (by decide +kernel), List.mem_of_getElem? (i := 671) (by decide +kernel)⟩
theorem lw_p27 : lw_okq (⟨"GlassHillModel", "begin", "()V"⟩, 30) := ⟨⟨by decide +kernel, by decide +kernel⟩, List.mem_of_getElem? (i := 486) (by decide +kernel), List.mem_of_getElem? (i := 674) (by decide +kernel), List.mem_of_getElem? (i := 675) (by decide +kernel)⟩
theorem lw_p28 : lw_okq (⟨"GlassHillModel", "rain", "()V"⟩, 30) := ⟨⟨by decide +kernel, by decide +kernel⟩, List.mem_of_getElem? (i := 486) (by decide +kernel), List.mem_of_getElem? (i := 678) (by decide +kernel), List.mem_of_getElem? (i := 679) (by decide +kernel)⟩
theorem lw_p29 : lw_okq (⟨"GlassHillModel", "isUp", "(I)Z"⟩, 30) := ⟨⟨by decide +kernel, by decide +kernel⟩, List.mem_of_getElem? (i := 486) (by decide +kernel), List.mem_of_getElem? (i := 682) (by decide +kernel), List.mem_of_getElem? (i := 683) (by decide +kernel)⟩
theorem lw_p30 : lw_okq (⟨"GlassHillModel", "tryOnce", "(I)V"⟩, 30) := ⟨⟨by decide +kernel, by decide +kernel⟩, List.mem_of_getElem? (i := 486) (by decide +kernel), List.mem_of_getElem? (i := 686) (by decide +kernel), List.mem_of_getElem? (i := 687) (by decide +kernel)⟩
theorem lw_p31 : lw_okq (⟨"GlassHillModel", "tellDays", "(I)I"⟩, 30) := ⟨⟨by decide +kernel, by decide +kernel⟩, List.mem_of_getElem? (i := 486) (by decide +kernel), List.mem_of_getElem? (i := 690) (by decide +kernel), List.mem_of_getElem? (i := 691) (by decide +kernel)⟩
def lw_privs_2 : List (MethodName × Nat) := [(⟨"GlassHillModel", "against", "(IIII)I"⟩, 30), (⟨"GlassHillModel", "fails", "(I)I"⟩, 30), (⟨"GlassHillModel", "readHill", "(I)Z"⟩, 30), (⟨"GlassHillModel", "isSign", "(II)Z"⟩, 30), (⟨"GlassHillModel", "digit", "(III)I"⟩, 30), (⟨"GlassHillModel", "readRider", "(I)Z"⟩, 30), (⟨"GlassHillModel", "isPace", "(I)Z"⟩, 30), (⟨"GlassHillModel", "isRider", "(I)Z"⟩, 30), (⟨"GlassHillModel", "takesOf", "(III)I"⟩, 30), (⟨"GlassHillModel", "laySteps", "(IIII)I"⟩, 30), (⟨"GlassHillModel", "go", "()I"⟩, 30), (⟨"GlassHillModel", "begin", "()V"⟩, 30), (⟨"GlassHillModel", "rain", "()V"⟩, 30), (⟨"GlassHillModel", "isUp", "(I)Z"⟩, 30), (⟨"GlassHillModel", "tryOnce", "(I)V"⟩, 30), (⟨"GlassHillModel", "tellDays", "(I)I"⟩, 30)]
theorem lw_r2 : ∀ q ∈ lw_privs_2, lw_okq q := List.forall_mem_cons.mpr ⟨lw_p16, List.forall_mem_cons.mpr ⟨lw_p17, List.forall_mem_cons.mpr ⟨lw_p18, List.forall_mem_cons.mpr ⟨lw_p19, List.forall_mem_cons.mpr ⟨lw_p20, List.forall_mem_cons.mpr ⟨lw_p21, List.forall_mem_cons.mpr ⟨lw_p22, List.forall_mem_cons.mpr ⟨lw_p23, List.forall_mem_cons.mpr ⟨lw_p24, List.forall_mem_cons.mpr ⟨lw_p25, List.forall_mem_cons.mpr ⟨lw_p26, List.forall_mem_cons.mpr ⟨lw_p27, List.forall_mem_cons.mpr ⟨lw_p28, List.forall_mem_cons.mpr ⟨lw_p29, List.forall_mem_cons.mpr ⟨lw_p30, List.forall_mem_cons.mpr ⟨lw_p31, fun _ h => absurd h List.not_mem_nil⟩⟩⟩⟩⟩⟩⟩⟩⟩⟩⟩⟩⟩⟩⟩⟩
theorem lw_p32 : lw_okq (⟨"GlassHillModel", "findFewest", "(I)V"⟩, 30) := ⟨⟨by decide +kernel, by decide +kernel⟩, List.mem_of_getElem? (i := 486) (by decide +kernel), List.mem_of_getElem? (i := 698) (by decide +kernel), List.mem_of_getElem? (i := 699) (by decide +kernel)⟩
theorem lw_p33 : lw_okq (⟨"GlassHillModel", "layRow", "(II)V"⟩, 30) := ⟨⟨by decide +kernel, by decide +kernel⟩, List.mem_of_getElem? (i := 486) (by decide +kernel), List.mem_of_getElem? (i := 702) (by decide +kernel), List.mem_of_getElem? (i := 703) (by decide +kernel)⟩
theorem lw_p34 : lw_okq (⟨"GlassHillModel", "isUpBySand", "(II)Z"⟩, 30) := ⟨⟨by decide +kernel, by decide +kernel⟩, List.mem_of_getElem? (i := 486) (by decide +kernel), List.mem_of_getElem? (i := 713) (by decide +kernel), List.mem_of_getElem? (i := 714) (by decide +kernel)⟩
theorem lw_p35 : lw_okq (⟨"GlassHillModel", "endOf", "(IIII)I"⟩, 30) := ⟨⟨by decide +kernel, by decide +kernel⟩, List.mem_of_getElem? (i := 486) (by decide +kernel), List.mem_of_getElem? (i := 721) (by decide +kernel), List.mem_of_getElem? (i := 722) (by decide +kernel)⟩
theorem lw_p36 : lw_okq (⟨"GlassHillModel", "othersHeights", "(IZ)I"⟩, 30) := ⟨⟨by decide +kernel, by decide +kernel⟩, List.mem_of_getElem? (i := 486) (by decide +kernel), List.mem_of_getElem? (i := 732) (by decide +kernel), List.mem_of_getElem? (i := 733) (by decide +kernel)⟩
theorem lw_p37 : lw_okq (⟨"GlassHillModel", "lay", "(ZIIII)I"⟩, 30) := ⟨⟨by decide +kernel, by decide +kernel⟩, List.mem_of_getElem? (i := 486) (by decide +kernel), List.mem_of_getElem? (i := 748) (by decide +kernel), List.mem_of_getElem? (i := 749) (by decide +kernel)⟩
theorem lw_p38 : lw_okq (⟨"GlassHillModel", "areSo", "()Z"⟩, 30) := ⟨⟨by decide +kernel, by decide +kernel⟩, List.mem_of_getElem? (i := 486) (by decide +kernel), List.mem_of_getElem? (i := 752) (by decide +kernel), List.mem_of_getElem? (i := 753) (by decide +kernel)⟩
theorem lw_p39 : lw_okq (⟨"GlassHillModel", "isUpByRain", "(II)Z"⟩, 30) := ⟨⟨by decide +kernel, by decide +kernel⟩, List.mem_of_getElem? (i := 486) (by decide +kernel), List.mem_of_getElem? (i := 773) (by decide +kernel), List.mem_of_getElem? (i := 774) (by decide +kernel)⟩
theorem lw_p40 : lw_okq (⟨"GlassHillModel", "lost", "(I)J"⟩, 30) := ⟨⟨by decide +kernel, by decide +kernel⟩, List.mem_of_getElem? (i := 486) (by decide +kernel), List.mem_of_getElem? (i := 796) (by decide +kernel), List.mem_of_getElem? (i := 797) (by decide +kernel)⟩
theorem lw_p41 : lw_okq (⟨"GlassHillModel", "begins", "(I)V"⟩, 30) := ⟨⟨by decide +kernel, by decide +kernel⟩, List.mem_of_getElem? (i := 486) (by decide +kernel), List.mem_of_getElem? (i := 808) (by decide +kernel), List.mem_of_getElem? (i := 809) (by decide +kernel)⟩
def lw_privs_3 : List (MethodName × Nat) := [(⟨"GlassHillModel", "findFewest", "(I)V"⟩, 30), (⟨"GlassHillModel", "layRow", "(II)V"⟩, 30), (⟨"GlassHillModel", "isUpBySand", "(II)Z"⟩, 30), (⟨"GlassHillModel", "endOf", "(IIII)I"⟩, 30), (⟨"GlassHillModel", "othersHeights", "(IZ)I"⟩, 30), (⟨"GlassHillModel", "lay", "(ZIIII)I"⟩, 30), (⟨"GlassHillModel", "areSo", "()Z"⟩, 30), (⟨"GlassHillModel", "isUpByRain", "(II)Z"⟩, 30), (⟨"GlassHillModel", "lost", "(I)J"⟩, 30), (⟨"GlassHillModel", "begins", "(I)V"⟩, 30)]
theorem lw_r3 : ∀ q ∈ lw_privs_3, lw_okq q := List.forall_mem_cons.mpr ⟨lw_p32, List.forall_mem_cons.mpr ⟨lw_p33, List.forall_mem_cons.mpr ⟨lw_p34, List.forall_mem_cons.mpr ⟨lw_p35, List.forall_mem_cons.mpr ⟨lw_p36, List.forall_mem_cons.mpr ⟨lw_p37, List.forall_mem_cons.mpr ⟨lw_p38, List.forall_mem_cons.mpr ⟨lw_p39, List.forall_mem_cons.mpr ⟨lw_p40, List.forall_mem_cons.mpr ⟨lw_p41, fun _ h => absurd h List.not_mem_nil⟩⟩⟩⟩⟩⟩⟩⟩⟩⟩
def lw_privs : List (MethodName × Nat) := lw_privs_1 ++ (lw_privs_2 ++ (lw_privs_3))
def lw_tbl : List Cond := k2_sels lw_privs ++ tables_1
theorem lw_privs_ok : ∀ q ∈ lw_privs, lw_okq q := by
  show ∀ q ∈ lw_privs_1 ++ (lw_privs_2 ++ (lw_privs_3)), lw_okq q
  exact List.forall_mem_append.mpr ⟨lw_r1, List.forall_mem_append.mpr ⟨lw_r2, lw_r3⟩⟩
def RX0 : String := "GlassHill$Climb"
def TX0 : u_T := fun k => match k with
  | 0 => ("GlassHill$Climb", "slope", "LGlassHill$Slope;", true)
  | 1 => ("GlassHill$Climb", "scratches", "[I", true)
  | 2 => ("GlassHill$Climb", "tries", "[I", true)
  | 3 => ("GlassHill$Climb", "heights", "[I", true)
  | _ => ("GlassHill$Climb", "up", "I", false)
def tyX0 : Nat → FieldType := fun k => match k with
  | 0 => .object "GlassHill$Slope"
  | 1 => .array .int
  | 2 => .array .int
  | 3 => .array .int
  | _ => .int
abbrev wsX00 : List Cond := u_ws RX0 TX0 5
theorem nmX0 : ∀ a, a < 5 → ∀ b, b < 5 → a ≠ b → (TX0 a).2.1 ≠ (TX0 b).2.1 := by decide +kernel
theorem tyX0_ok : ∀ k, k < 5 → parseFieldDescriptor (TX0 k).2.2.1 = some (tyX0 k) := by decide +kernel
abbrev cX0_init : ByteArray := prog_2_method_1_code
def yX0_init : MethodName := ⟨RX0, "<init>", "(LGlassHill$Slope;)V"⟩
abbrev cX0_begin : ByteArray := prog_2_method_2_code
def yX0_begin : MethodName := ⟨RX0, "begin", "()V"⟩
abbrev cX0_become : ByteArray := prog_2_method_3_code
def yX0_become : MethodName := ⟨RX0, "become", "(LGlassHill$Climb;)V"⟩
abbrev cX0_isUp : ByteArray := prog_2_method_4_code
def yX0_isUp : MethodName := ⟨RX0, "isUp", "(I)Z"⟩
abbrev cX0_goOn : ByteArray := prog_2_method_5_code
def yX0_goOn : MethodName := ⟨RX0, "goOn", "(I)V"⟩
abbrev cX0_polish : ByteArray := prog_2_method_6_code
def yX0_polish : MethodName := ⟨RX0, "polish", "()V"⟩
abbrev cX0_attempt : ByteArray := prog_2_method_7_code
def yX0_attempt : MethodName := ⟨RX0, "attempt", "(I)V"⟩
abbrev cX0_slideBack : ByteArray := prog_2_method_8_code
def yX0_slideBack : MethodName := ⟨RX0, "slideBack", "(II)V"⟩
abbrev cX0_scratchesOf : ByteArray := prog_2_method_9_code
def yX0_scratchesOf : MethodName := ⟨RX0, "scratchesOf", "(I)I"⟩
abbrev cX0_heightOf : ByteArray := prog_2_method_10_code
def yX0_heightOf : MethodName := ⟨RX0, "heightOf", "(I)I"⟩
def RX1 : String := "GlassHill$Readings"
def TX1 : u_T := fun k => match k with
  | 0 => ("GlassHill$Readings", "count", "I", false)
  | 1 => ("GlassHill$Readings", "riders", "[I", true)
  | _ => ("GlassHill$Readings", "heights", "[I", true)
def tyX1 : Nat → FieldType := fun k => match k with
  | 0 => .int
  | 1 => .array .int
  | _ => .array .int
abbrev wsX10 : List Cond := u_ws RX1 TX1 3
theorem nmX1 : ∀ a, a < 3 → ∀ b, b < 3 → a ≠ b → (TX1 a).2.1 ≠ (TX1 b).2.1 := by decide +kernel
theorem tyX1_ok : ∀ k, k < 3 → parseFieldDescriptor (TX1 k).2.2.1 = some (tyX1 k) := by decide +kernel
abbrev cX1_init : ByteArray := prog_3_method_1_code
def yX1_init : MethodName := ⟨RX1, "<init>", "()V"⟩
abbrev cX1_isFull : ByteArray := prog_3_method_2_code
def yX1_isFull : MethodName := ⟨RX1, "isFull", "()Z"⟩
abbrev cX1_add : ByteArray := prog_3_method_3_code
def yX1_add : MethodName := ⟨RX1, "add", "(II)I"⟩
abbrev cX1_areSo : ByteArray := prog_3_method_4_code
def yX1_areSo : MethodName := ⟨RX1, "areSo", "(LGlassHill$Climb;)Z"⟩
def RX2 : String := "GlassHill$Row"
def TX2 : u_T := fun k => match k with
  | 0 => ("GlassHill$Row", "lane", "I", false)
  | 1 => ("GlassHill$Row", "length", "I", false)
  | _ => ("GlassHill$Row", "cells", "[I", true)
def tyX2 : Nat → FieldType := fun k => match k with
  | 0 => .int
  | 1 => .int
  | _ => .array .int
abbrev wsX20 : List Cond := u_ws RX2 TX2 3
theorem nmX2 : ∀ a, a < 3 → ∀ b, b < 3 → a ≠ b → (TX2 a).2.1 ≠ (TX2 b).2.1 := by decide +kernel
theorem tyX2_ok : ∀ k, k < 3 → parseFieldDescriptor (TX2 k).2.2.1 = some (tyX2 k) := by decide +kernel
abbrev cX2_init : ByteArray := prog_4_method_1_code
def yX2_init : MethodName := ⟨RX2, "<init>", "()V"⟩
abbrev cX2_isNothing : ByteArray := prog_4_method_2_code
def yX2_isNothing : MethodName := ⟨RX2, "isNothing", "()Z"⟩
abbrev cX2_renew : ByteArray := prog_4_method_3_code
def yX2_renew : MethodName := ⟨RX2, "renew", "(II)V"⟩
abbrev cX2_holds : ByteArray := prog_4_method_4_code
def yX2_holds : MethodName := ⟨RX2, "holds", "(II)Z"⟩
abbrev cX2_lay : ByteArray := prog_4_method_5_code
def yX2_lay : MethodName := ⟨RX2, "lay", "(II)V"⟩
def RX3 : String := "GlassHill$Slope"
def TX3 : u_T := fun k => match k with
  | 0 => ("GlassHill$Slope", "paces", "I", false)
  | 1 => ("GlassHill$Slope", "riders", "I", false)
  | 2 => ("GlassHill$Slope", "slick", "[I", true)
  | 3 => ("GlassHill$Slope", "laid", "[I", true)
  | 4 => ("GlassHill$Slope", "kind", "[I", true)
  | 5 => ("GlassHill$Slope", "speed", "[I", true)
  | _ => ("GlassHill$Slope", "nails", "[I", true)
def tyX3 : Nat → FieldType := fun k => match k with
  | 0 => .int
  | 1 => .int
  | 2 => .array .int
  | 3 => .array .int
  | 4 => .array .int
  | 5 => .array .int
  | _ => .array .int
abbrev wsX30 : List Cond := u_ws RX3 TX3 7
theorem nmX3 : ∀ a, a < 7 → ∀ b, b < 7 → a ≠ b → (TX3 a).2.1 ≠ (TX3 b).2.1 := by decide +kernel
theorem tyX3_ok : ∀ k, k < 7 → parseFieldDescriptor (TX3 k).2.2.1 = some (tyX3 k) := by decide +kernel
abbrev cX3_init : ByteArray := prog_5_method_1_code
def yX3_init : MethodName := ⟨RX3, "<init>", "()V"⟩
abbrev cX3_toll : ByteArray := prog_5_method_2_code
def yX3_toll : MethodName := ⟨RX3, "toll", "(III)I"⟩
abbrev cX3_marks : ByteArray := prog_5_method_3_code
def yX3_marks : MethodName := ⟨RX3, "marks", "(I)I"⟩
abbrev cX3_isUpWithSand : ByteArray := prog_5_method_4_code
def yX3_isUpWithSand : MethodName := ⟨RX3, "isUpWithSand", "(II)Z"⟩
abbrev cX3_exchange : ByteArray := prog_5_method_5_code
def yX3_exchange : MethodName := ⟨RX3, "exchange", "(III)I"⟩
def RX4 : String := "GlassHill$Text"
def TX4 : u_T := fun k => match k with
  | _ => ("", "", "", false)
def tyX4 : Nat → FieldType := fun k => match k with
  | _ => .int
abbrev wsX40 : List Cond := u_ws RX4 TX4 0
theorem nmX4 : ∀ a, a < 0 → ∀ b, b < 0 → a ≠ b → (TX4 a).2.1 ≠ (TX4 b).2.1 := by decide +kernel
theorem tyX4_ok : ∀ k, k < 0 → parseFieldDescriptor (TX4 k).2.2.1 = some (tyX4 k) := by decide +kernel
abbrev cX4_firstFault : ByteArray := prog_6_method_2_code
def yX4_firstFault : MethodName := ⟨RX4, "firstFault", "(LGlassHill$Row;II)I"⟩
abbrev cX4_goesOn : ByteArray := prog_6_method_3_code
def yX4_goesOn : MethodName := ⟨RX4, "goesOn", "(III)Z"⟩
abbrev cX4_build : ByteArray := prog_6_method_4_code
def yX4_build : MethodName := ⟨RX4, "build", "(LGlassHill$Slope;LGlassHill$Row;II)V"⟩
abbrev cX4_digit : ByteArray := prog_6_method_5_code
def yX4_digit : MethodName := ⟨RX4, "digit", "(LGlassHill$Row;I)I"⟩
abbrev cX4_kindOf : ByteArray := prog_6_method_6_code
def yX4_kindOf : MethodName := ⟨RX4, "kindOf", "(I)I"⟩
def RX5 : String := "GlassHill"
def TX5 : u_T := fun k => match k with
  | 0 => ("GlassHill", "slope", "LGlassHill$Slope;", true)
  | 1 => ("GlassHill", "readings", "LGlassHill$Readings;", true)
  | 2 => ("GlassHill", "sheets", "[LGlassHill$Row;", true)
  | 3 => ("GlassHill", "climbs", "[LGlassHill$Climb;", true)
  | 4 => ("GlassHill", "steps", "[I", true)
  | 5 => ("GlassHill", "row", "[I", true)
  | 6 => ("GlassHill", "trace", "I", false)
  | _ => ("GlassHill", "fault", "I", false)
def tyX5 : Nat → FieldType := fun k => match k with
  | 0 => .object "GlassHill$Slope"
  | 1 => .object "GlassHill$Readings"
  | 2 => .array (.object "GlassHill$Row")
  | 3 => .array (.object "GlassHill$Climb")
  | 4 => .array .int
  | 5 => .array .int
  | 6 => .int
  | _ => .int
abbrev wsX50 : List Cond := u_ws RX5 TX5 8
theorem nmX5 : ∀ a, a < 8 → ∀ b, b < 8 → a ≠ b → (TX5 a).2.1 ≠ (TX5 b).2.1 := by decide +kernel
theorem tyX5_ok : ∀ k, k < 8 → parseFieldDescriptor (TX5 k).2.2.1 = some (tyX5 k) := by decide +kernel
abbrev cX5_init : ByteArray := prog_1_method_1_code
def yX5_init : MethodName := ⟨RX5, "<init>", "()V"⟩
abbrev cX5_hill : ByteArray := prog_1_method_2_code
def yX5_hill : MethodName := ⟨RX5, "hill", "(IIII)I"⟩
abbrev cX5_ofPace : ByteArray := prog_1_method_3_code
def yX5_ofPace : MethodName := ⟨RX5, "ofPace", "(II)I"⟩
abbrev cX5_ofRider : ByteArray := prog_1_method_4_code
def yX5_ofRider : MethodName := ⟨RX5, "ofRider", "(II)I"⟩
abbrev cX5_scratch : ByteArray := prog_1_method_5_code
def yX5_scratch : MethodName := ⟨RX5, "scratch", "(II)I"⟩
abbrev cX5_speed : ByteArray := prog_1_method_6_code
def yX5_speed : MethodName := ⟨RX5, "speed", "(II)I"⟩
abbrev cX5_shoe : ByteArray := prog_1_method_7_code
def yX5_shoe : MethodName := ⟨RX5, "shoe", "(II)I"⟩
abbrev cX5_takes : ByteArray := prog_1_method_8_code
def yX5_takes : MethodName := ⟨RX5, "takes", "(III)I"⟩
abbrev cX5_days : ByteArray := prog_1_method_9_code
def yX5_days : MethodName := ⟨RX5, "days", "(IIIII)I"⟩
abbrev cX5_fewest : ByteArray := prog_1_method_10_code
def yX5_fewest : MethodName := ⟨RX5, "fewest", "(II)I"⟩
abbrev cX5_sand : ByteArray := prog_1_method_11_code
def yX5_sand : MethodName := ⟨RX5, "sand", "(I)I"⟩
abbrev cX5_game : ByteArray := prog_1_method_12_code
def yX5_game : MethodName := ⟨RX5, "game", "(III)I"⟩
abbrev cX5_worth : ByteArray := prog_1_method_13_code
def yX5_worth : MethodName := ⟨RX5, "worth", "(I)I"⟩
abbrev cX5_reading : ByteArray := prog_1_method_14_code
def yX5_reading : MethodName := ⟨RX5, "reading", "(II)I"⟩
abbrev cX5_back : ByteArray := prog_1_method_15_code
def yX5_back : MethodName := ⟨RX5, "back", "(I)I"⟩
abbrev cX5_speeds : ByteArray := prog_1_method_16_code
def yX5_speeds : MethodName := ⟨RX5, "speeds", "(IIIIII)I"⟩
abbrev cX5_nails : ByteArray := prog_1_method_17_code
def yX5_nails : MethodName := ⟨RX5, "nails", "(IIIII)I"⟩
abbrev cX5_slicks : ByteArray := prog_1_method_18_code
def yX5_slicks : MethodName := ⟨RX5, "slicks", "(IIIII)I"⟩
abbrev cX5_kinds : ByteArray := prog_1_method_19_code
def yX5_kinds : MethodName := ⟨RX5, "kinds", "(IIIII)I"⟩
abbrev cX5_odds : ByteArray := prog_1_method_20_code
def yX5_odds : MethodName := ⟨RX5, "odds", "(IIIIII)J"⟩
abbrev cX5_sheet : ByteArray := prog_1_method_21_code
def yX5_sheet : MethodName := ⟨RX5, "sheet", "(III)I"⟩
abbrev cX5_lose : ByteArray := prog_1_method_22_code
def yX5_lose : MethodName := ⟨RX5, "lose", "(I)I"⟩
abbrev cX5_put : ByteArray := prog_1_method_23_code
def yX5_put : MethodName := ⟨RX5, "put", "(III)I"⟩
abbrev cX5_cell : ByteArray := prog_1_method_24_code
def yX5_cell : MethodName := ⟨RX5, "cell", "(III)J"⟩
abbrev cX5_copy : ByteArray := prog_1_method_25_code
def yX5_copy : MethodName := ⟨RX5, "copy", "(IIIII)I"⟩
abbrev cX5_tell : ByteArray := prog_1_method_26_code
def yX5_tell : MethodName := ⟨RX5, "tell", "(I)I"⟩
abbrev cX5_cheer : ByteArray := prog_1_method_27_code
def yX5_cheer : MethodName := ⟨RX5, "cheer", "(I)I"⟩
abbrev cX5_as : ByteArray := prog_1_method_28_code
def yX5_as : MethodName := ⟨RX5, "as", "(II)I"⟩
abbrev cX5_trace : ByteArray := prog_1_method_29_code
def yX5_trace : MethodName := ⟨RX5, "trace", "()I"⟩
abbrev cX5_fault : ByteArray := prog_1_method_30_code
def yX5_fault : MethodName := ⟨RX5, "fault", "()I"⟩
abbrev cX5_many : ByteArray := prog_1_method_31_code
def yX5_many : MethodName := ⟨RX5, "many", "(I)I"⟩
abbrev cX5_isIn : ByteArray := prog_1_method_32_code
def yX5_isIn : MethodName := ⟨RX5, "isIn", "(III)Z"⟩
abbrev cX5_isSheet : ByteArray := prog_1_method_33_code
def yX5_isSheet : MethodName := ⟨RX5, "isSheet", "(I)Z"⟩
abbrev cX5_isLane : ByteArray := prog_1_method_34_code
def yX5_isLane : MethodName := ⟨RX5, "isLane", "(I)Z"⟩
abbrev cX5_isRider : ByteArray := prog_1_method_35_code
def yX5_isRider : MethodName := ⟨RX5, "isRider", "(I)Z"⟩
abbrev cX5_isPace : ByteArray := prog_1_method_36_code
def yX5_isPace : MethodName := ⟨RX5, "isPace", "(I)Z"⟩
abbrev cX5_meet : ByteArray := prog_1_method_37_code
def yX5_meet : MethodName := ⟨RX5, "meet", "(I)I"⟩
abbrev cX5_faultOfCells : ByteArray := prog_1_method_38_code
def yX5_faultOfCells : MethodName := ⟨RX5, "faultOfCells", "(LGlassHill$Row;III)I"⟩
abbrev cX5_readSteps : ByteArray := prog_1_method_39_code
def yX5_readSteps : MethodName := ⟨RX5, "readSteps", "(IIIIZ)I"⟩
abbrev cX5_firstWrong : ByteArray := prog_1_method_40_code
def yX5_firstWrong : MethodName := ⟨RX5, "firstWrong", "(I)I"⟩
abbrev cX5_firstUp : ByteArray := prog_1_method_41_code
def yX5_firstUp : MethodName := ⟨RX5, "firstUp", "(I)I"⟩
abbrev cX5_fewestTries : ByteArray := prog_1_method_42_code
def yX5_fewestTries : MethodName := ⟨RX5, "fewestTries", "(I)I"⟩
abbrev cX5_findRow : ByteArray := prog_1_method_43_code
def yX5_findRow : MethodName := ⟨RX5, "findRow", "([LGlassHill$Climb;[IIII)Z"⟩
abbrev cX5_bestPlay : ByteArray := prog_1_method_44_code
def yX5_bestPlay : MethodName := ⟨RX5, "bestPlay", "([LGlassHill$Climb;IIII)I"⟩
abbrev cX5_heightsOfOthers : ByteArray := prog_1_method_45_code
def yX5_heightsOfOthers : MethodName := ⟨RX5, "heightsOfOthers", "(IZ)I"⟩
abbrev cX5_readSeen : ByteArray := prog_1_method_46_code
def yX5_readSeen : MethodName := ⟨RX5, "readSeen", "(ZIIIIZ)I"⟩
abbrev cX5_isSeenWith : ByteArray := prog_1_method_47_code
def yX5_isSeenWith : MethodName := ⟨RX5, "isSeenWith", "(IIII)Z"⟩
abbrev cX5_setSeenWith : ByteArray := prog_1_method_48_code
def yX5_setSeenWith : MethodName := ⟨RX5, "setSeenWith", "(IIII)I"⟩
abbrev cX5_weathersUp : ByteArray := prog_1_method_49_code
def yX5_weathersUp : MethodName := ⟨RX5, "weathersUp", "([LGlassHill$Climb;[IIII)I"⟩
abbrev cX5_leave : ByteArray := prog_1_method_50_code
def yX5_leave : MethodName := ⟨RX5, "leave", "(I)V"⟩
abbrev cX5_tellAsRider : ByteArray := prog_1_method_51_code
def yX5_tellAsRider : MethodName := ⟨RX5, "tellAsRider", "(I)I"⟩
abbrev cX5_tellAsNight : ByteArray := prog_1_method_52_code
def yX5_tellAsNight : MethodName := ⟨RX5, "tellAsNight", "(I)I"⟩
abbrev cX5_tellAsLad : ByteArray := prog_1_method_53_code
def yX5_tellAsLad : MethodName := ⟨RX5, "tellAsLad", "(I)I"⟩
def RX6 : String := "GlassHillModel"
def TX6 : u_T := fun k => match k with
  | 0 => ("GlassHillModel", "fault", "I", false)
  | 1 => ("GlassHillModel", "trace", "I", false)
  | 2 => ("GlassHillModel", "sorts", "[I", true)
  | 3 => ("GlassHillModel", "sheetLong", "[I", true)
  | 4 => ("GlassHillModel", "cells", "[I", true)
  | 5 => ("GlassHillModel", "paces", "I", false)
  | 6 => ("GlassHillModel", "riders", "I", false)
  | 7 => ("GlassHillModel", "slick", "[I", true)
  | 8 => ("GlassHillModel", "ahead", "[I", true)
  | 9 => ("GlassHillModel", "kind", "[I", true)
  | 10 => ("GlassHillModel", "speedOf", "[I", true)
  | 11 => ("GlassHillModel", "nailsOf", "[I", true)
  | 12 => ("GlassHillModel", "at", "I", false)
  | 13 => ("GlassHillModel", "readPaces", "I", false)
  | 14 => ("GlassHillModel", "readMany", "I", false)
  | 15 => ("GlassHillModel", "readSlick", "[I", true)
  | 16 => ("GlassHillModel", "read", "[I", true)
  | 17 => ("GlassHillModel", "scratches", "[I", true)
  | 18 => ("GlassHillModel", "tries", "[I", true)
  | 19 => ("GlassHillModel", "height", "[I", true)
  | 20 => ("GlassHillModel", "up", "I", false)
  | 21 => ("GlassHillModel", "steps", "I", false)
  | 22 => ("GlassHillModel", "step", "[I", true)
  | 23 => ("GlassHillModel", "firstUp", "I", false)
  | 24 => ("GlassHillModel", "foundLong", "I", false)
  | 25 => ("GlassHillModel", "foundNumber", "I", false)
  | 26 => ("GlassHillModel", "ends", "[I", true)
  | 27 => ("GlassHillModel", "readings", "I", false)
  | 28 => ("GlassHillModel", "readRiderOf", "[I", true)
  | _ => ("GlassHillModel", "readHeight", "[I", true)
def tyX6 : Nat → FieldType := fun k => match k with
  | 0 => .int
  | 1 => .int
  | 2 => .array .int
  | 3 => .array .int
  | 4 => .array .int
  | 5 => .int
  | 6 => .int
  | 7 => .array .int
  | 8 => .array .int
  | 9 => .array .int
  | 10 => .array .int
  | 11 => .array .int
  | 12 => .int
  | 13 => .int
  | 14 => .int
  | 15 => .array .int
  | 16 => .array .int
  | 17 => .array .int
  | 18 => .array .int
  | 19 => .array .int
  | 20 => .int
  | 21 => .int
  | 22 => .array .int
  | 23 => .int
  | 24 => .int
  | 25 => .int
  | 26 => .array .int
  | 27 => .int
  | 28 => .array .int
  | _ => .array .int
abbrev wsX60 : List Cond := u_ws RX6 TX6 30
theorem nmX6 : ∀ a, a < 30 → ∀ b, b < 30 → a ≠ b → (TX6 a).2.1 ≠ (TX6 b).2.1 := by decide +kernel
theorem tyX6_ok : ∀ k, k < 30 → parseFieldDescriptor (TX6 k).2.2.1 = some (tyX6 k) := by decide +kernel
abbrev cX6_init : ByteArray := prog_8_method_1_code
def yX6_init : MethodName := ⟨RX6, "<init>", "()V"⟩
abbrev cX6_fails : ByteArray := prog_8_method_3_code
def yX6_fails : MethodName := ⟨RX6, "fails", "(I)I"⟩
abbrev cX6_lost : ByteArray := prog_8_method_4_code
def yX6_lost : MethodName := ⟨RX6, "lost", "(I)J"⟩
abbrev cX6_within : ByteArray := prog_8_method_5_code
def yX6_within : MethodName := ⟨RX6, "within", "(III)Z"⟩
abbrev cX6_isSheet : ByteArray := prog_8_method_6_code
def yX6_isSheet : MethodName := ⟨RX6, "isSheet", "(I)Z"⟩
abbrev cX6_isSort : ByteArray := prog_8_method_7_code
def yX6_isSort : MethodName := ⟨RX6, "isSort", "(I)Z"⟩
abbrev cX6_against : ByteArray := prog_8_method_8_code
def yX6_against : MethodName := ⟨RX6, "against", "(IIII)I"⟩
abbrev cX6_isPace : ByteArray := prog_8_method_9_code
def yX6_isPace : MethodName := ⟨RX6, "isPace", "(I)Z"⟩
abbrev cX6_isRider : ByteArray := prog_8_method_10_code
def yX6_isRider : MethodName := ⟨RX6, "isRider", "(I)Z"⟩
abbrev cX6_isNine : ByteArray := prog_8_method_11_code
def yX6_isNine : MethodName := ⟨RX6, "isNine", "(I)Z"⟩
abbrev cX6_digit : ByteArray := prog_8_method_12_code
def yX6_digit : MethodName := ⟨RX6, "digit", "(III)I"⟩
abbrev cX6_isSign : ByteArray := prog_8_method_13_code
def yX6_isSign : MethodName := ⟨RX6, "isSign", "(II)Z"⟩
abbrev cX6_hill : ByteArray := prog_8_method_14_code
def yX6_hill : MethodName := ⟨RX6, "hill", "(IIII)I"⟩
abbrev cX6_readHill : ByteArray := prog_8_method_15_code
def yX6_readHill : MethodName := ⟨RX6, "readHill", "(I)Z"⟩
abbrev cX6_readRider : ByteArray := prog_8_method_16_code
def yX6_readRider : MethodName := ⟨RX6, "readRider", "(I)Z"⟩
abbrev cX6_ofPace : ByteArray := prog_8_method_17_code
def yX6_ofPace : MethodName := ⟨RX6, "ofPace", "(II)I"⟩
abbrev cX6_ofRider : ByteArray := prog_8_method_18_code
def yX6_ofRider : MethodName := ⟨RX6, "ofRider", "(II)I"⟩
abbrev cX6_scratch : ByteArray := prog_8_method_19_code
def yX6_scratch : MethodName := ⟨RX6, "scratch", "(II)I"⟩
abbrev cX6_speed : ByteArray := prog_8_method_20_code
def yX6_speed : MethodName := ⟨RX6, "speed", "(II)I"⟩
abbrev cX6_shoe : ByteArray := prog_8_method_21_code
def yX6_shoe : MethodName := ⟨RX6, "shoe", "(II)I"⟩
abbrev cX6_takesOf : ByteArray := prog_8_method_22_code
def yX6_takesOf : MethodName := ⟨RX6, "takesOf", "(III)I"⟩
abbrev cX6_takes : ByteArray := prog_8_method_23_code
def yX6_takes : MethodName := ⟨RX6, "takes", "(III)I"⟩
abbrev cX6_begin : ByteArray := prog_8_method_24_code
def yX6_begin : MethodName := ⟨RX6, "begin", "()V"⟩
abbrev cX6_isUp : ByteArray := prog_8_method_25_code
def yX6_isUp : MethodName := ⟨RX6, "isUp", "(I)Z"⟩
abbrev cX6_tryOnce : ByteArray := prog_8_method_26_code
def yX6_tryOnce : MethodName := ⟨RX6, "tryOnce", "(I)V"⟩
abbrev cX6_rain : ByteArray := prog_8_method_27_code
def yX6_rain : MethodName := ⟨RX6, "rain", "()V"⟩
abbrev cX6_laySteps : ByteArray := prog_8_method_28_code
def yX6_laySteps : MethodName := ⟨RX6, "laySteps", "(IIII)I"⟩
abbrev cX6_go : ByteArray := prog_8_method_29_code
def yX6_go : MethodName := ⟨RX6, "go", "()I"⟩
abbrev cX6_isRow : ByteArray := prog_8_method_30_code
def yX6_isRow : MethodName := ⟨RX6, "isRow", "(II)Z"⟩
abbrev cX6_days : ByteArray := prog_8_method_31_code
def yX6_days : MethodName := ⟨RX6, "days", "(IIIII)I"⟩
abbrev cX6_tellDays : ByteArray := prog_8_method_32_code
def yX6_tellDays : MethodName := ⟨RX6, "tellDays", "(I)I"⟩
abbrev cX6_layRow : ByteArray := prog_8_method_33_code
def yX6_layRow : MethodName := ⟨RX6, "layRow", "(II)V"⟩
abbrev cX6_findFewest : ByteArray := prog_8_method_34_code
def yX6_findFewest : MethodName := ⟨RX6, "findFewest", "(I)V"⟩
abbrev cX6_fewest : ByteArray := prog_8_method_35_code
def yX6_fewest : MethodName := ⟨RX6, "fewest", "(II)I"⟩
abbrev cX6_size : ByteArray := prog_8_method_36_code
def yX6_size : MethodName := ⟨RX6, "size", "(I)I"⟩
abbrev cX6_isUpBySand : ByteArray := prog_8_method_37_code
def yX6_isUpBySand : MethodName := ⟨RX6, "isUpBySand", "(II)Z"⟩
abbrev cX6_sand : ByteArray := prog_8_method_38_code
def yX6_sand : MethodName := ⟨RX6, "sand", "(I)I"⟩
abbrev cX6_endOf : ByteArray := prog_8_method_39_code
def yX6_endOf : MethodName := ⟨RX6, "endOf", "(IIII)I"⟩
abbrev cX6_better : ByteArray := prog_8_method_40_code
def yX6_better : MethodName := ⟨RX6, "better", "(III)I"⟩
abbrev cX6_game : ByteArray := prog_8_method_41_code
def yX6_game : MethodName := ⟨RX6, "game", "(III)I"⟩
abbrev cX6_othersHeights : ByteArray := prog_8_method_42_code
def yX6_othersHeights : MethodName := ⟨RX6, "othersHeights", "(IZ)I"⟩
abbrev cX6_worth : ByteArray := prog_8_method_43_code
def yX6_worth : MethodName := ⟨RX6, "worth", "(I)I"⟩
abbrev cX6_reading : ByteArray := prog_8_method_44_code
def yX6_reading : MethodName := ⟨RX6, "reading", "(II)I"⟩
abbrev cX6_back : ByteArray := prog_8_method_45_code
def yX6_back : MethodName := ⟨RX6, "back", "(I)I"⟩
abbrev cX6_areSo : ByteArray := prog_8_method_46_code
def yX6_areSo : MethodName := ⟨RX6, "areSo", "()Z"⟩
abbrev cX6_lay : ByteArray := prog_8_method_47_code
def yX6_lay : MethodName := ⟨RX6, "lay", "(ZIIII)I"⟩
abbrev cX6_speeds : ByteArray := prog_8_method_48_code
def yX6_speeds : MethodName := ⟨RX6, "speeds", "(IIIIII)I"⟩
abbrev cX6_nails : ByteArray := prog_8_method_49_code
def yX6_nails : MethodName := ⟨RX6, "nails", "(IIIII)I"⟩
abbrev cX6_slicks : ByteArray := prog_8_method_50_code
def yX6_slicks : MethodName := ⟨RX6, "slicks", "(IIIII)I"⟩
abbrev cX6_kinds : ByteArray := prog_8_method_51_code
def yX6_kinds : MethodName := ⟨RX6, "kinds", "(IIIII)I"⟩
abbrev cX6_inLeastTerms : ByteArray := prog_8_method_52_code
def yX6_inLeastTerms : MethodName := ⟨RX6, "inLeastTerms", "(JJI)J"⟩
abbrev cX6_isUpByRain : ByteArray := prog_8_method_53_code
def yX6_isUpByRain : MethodName := ⟨RX6, "isUpByRain", "(II)Z"⟩
abbrev cX6_odds : ByteArray := prog_8_method_54_code
def yX6_odds : MethodName := ⟨RX6, "odds", "(IIIIII)J"⟩
abbrev cX6_sheet : ByteArray := prog_8_method_55_code
def yX6_sheet : MethodName := ⟨RX6, "sheet", "(III)I"⟩
abbrev cX6_lose : ByteArray := prog_8_method_56_code
def yX6_lose : MethodName := ⟨RX6, "lose", "(I)I"⟩
abbrev cX6_put : ByteArray := prog_8_method_57_code
def yX6_put : MethodName := ⟨RX6, "put", "(III)I"⟩
abbrev cX6_cell : ByteArray := prog_8_method_58_code
def yX6_cell : MethodName := ⟨RX6, "cell", "(III)J"⟩
abbrev cX6_copy : ByteArray := prog_8_method_59_code
def yX6_copy : MethodName := ⟨RX6, "copy", "(IIIII)I"⟩
abbrev cX6_begins : ByteArray := prog_8_method_60_code
def yX6_begins : MethodName := ⟨RX6, "begins", "(I)V"⟩
abbrev cX6_tell : ByteArray := prog_8_method_61_code
def yX6_tell : MethodName := ⟨RX6, "tell", "(I)I"⟩
abbrev cX6_cheer : ByteArray := prog_8_method_62_code
def yX6_cheer : MethodName := ⟨RX6, "cheer", "(I)I"⟩
abbrev cX6_as : ByteArray := prog_8_method_63_code
def yX6_as : MethodName := ⟨RX6, "as", "(II)I"⟩
abbrev cX6_trace : ByteArray := prog_8_method_64_code
def yX6_trace : MethodName := ⟨RX6, "trace", "()I"⟩
abbrev cX6_fault : ByteArray := prog_8_method_65_code
def yX6_fault : MethodName := ⟨RX6, "fault", "()I"⟩
abbrev cX6_many : ByteArray := prog_8_method_66_code
def yX6_many : MethodName := ⟨RX6, "many", "(I)I"⟩
def RJ6 : String := "java/lang/Integer"
def TJ6 : u_T := fun k => match k with
  | _ => ("", "", "", false)
def tyJ6 : Nat → FieldType := fun k => match k with
  | _ => .int
abbrev wsJ60 : List Cond := u_ws RJ6 TJ6 0
theorem nmJ6 : ∀ a, a < 0 → ∀ b, b < 0 → a ≠ b → (TJ6 a).2.1 ≠ (TJ6 b).2.1 := by decide +kernel
theorem tyJ6_ok : ∀ k, k < 0 → parseFieldDescriptor (TJ6 k).2.2.1 = some (tyJ6 k) := by decide +kernel
abbrev cJ6_numberOfTrailingZeros_0f7a4 : ByteArray := prog_9_method_48_code
def yJ6_numberOfTrailingZeros_0f7a4 : MethodName := ⟨RJ6, "numberOfTrailingZeros", "(I)I"⟩
abbrev cJ6_bitCount_0f7a4 : ByteArray := prog_9_method_49_code
def yJ6_bitCount_0f7a4 : MethodName := ⟨RJ6, "bitCount", "(I)I"⟩
def RJ9 : String := "java/lang/Math"
def TJ9 : u_T := fun k => match k with
  | _ => ("", "", "", false)
def tyJ9 : Nat → FieldType := fun k => match k with
  | _ => .int
abbrev wsJ90 : List Cond := u_ws RJ9 TJ9 0
theorem nmJ9 : ∀ a, a < 0 → ∀ b, b < 0 → a ≠ b → (TJ9 a).2.1 ≠ (TJ9 b).2.1 := by decide +kernel
theorem tyJ9_ok : ∀ k, k < 0 → parseFieldDescriptor (TJ9 k).2.2.1 = some (tyJ9 k) := by decide +kernel
abbrev cJ9_max_7cf53 : ByteArray := prog_10_method_65_code
def yJ9_max_7cf53 : MethodName := ⟨RJ9, "max", "(II)I"⟩
abbrev cJ9_min_7cf53 : ByteArray := prog_10_method_69_code
def yJ9_min_7cf53 : MethodName := ⟨RJ9, "min", "(II)I"⟩
def RJ10 : String := "java/lang/System"
def TJ10 : u_T := fun k => match k with
  | _ => ("", "", "", false)
def tyJ10 : Nat → FieldType := fun k => match k with
  | _ => .int
abbrev wsJ100 : List Cond := u_ws RJ10 TJ10 0
theorem nmJ10 : ∀ a, a < 0 → ∀ b, b < 0 → a ≠ b → (TJ10 a).2.1 ≠ (TJ10 b).2.1 := by decide +kernel
theorem tyJ10_ok : ∀ k, k < 0 → parseFieldDescriptor (TJ10 k).2.2.1 = some (tyJ10 k) := by decide +kernel
def RJ7 : String := "java/util/Arrays"
def TJ7 : u_T := fun k => match k with
  | _ => ("", "", "", false)
def tyJ7 : Nat → FieldType := fun k => match k with
  | _ => .int
abbrev wsJ70 : List Cond := u_ws RJ7 TJ7 0
theorem nmJ7 : ∀ a, a < 0 → ∀ b, b < 0 → a ≠ b → (TJ7 a).2.1 ≠ (TJ7 b).2.1 := by decide +kernel
theorem tyJ7_ok : ∀ k, k < 0 → parseFieldDescriptor (TJ7 k).2.2.1 = some (tyJ7 k) := by decide +kernel
abbrev cJ7_fill_53178 : ByteArray := prog_12_method_103_code
def yJ7_fill_53178 : MethodName := ⟨RJ7, "fill", "([II)V"⟩
def RL : String := "GlassHillLaw"
abbrev cL_law : ByteArray := code
def yL_law : MethodName := ⟨RL, "law", "([I)Z"⟩
abbrev vwCl : List vw_C := [(RX0, TX0, 5), (RX1, TX1, 3), (RX2, TX2, 3), (RX3, TX3, 7), (RX5, TX5, 8), (RX6, TX6, 30)]
end
section
set_option maxRecDepth 100000 in
def lw_tg : List Cond := lw_tbl.filter goodWord
set_option maxRecDepth 100000 in
theorem lw_in0 {w : Cond} {i : Nat} (h : tables_1[i]? = some w) : w ∈ lw_tbl := List.mem_append_right _ (List.mem_of_getElem? h)
set_option maxRecDepth 100000 in
theorem lw_in {w : Cond} {i : Nat} (h : tables_1[i]? = some w) (hg : goodWord w = true) : w ∈ lw_tg := List.mem_filter.mpr ⟨lw_in0 h, hg⟩
set_option maxRecDepth 100000 in
theorem lw_tg_in {w : Cond} (h : w ∈ lw_tg) : w ∈ lw_tbl := (List.mem_filter.mp h).1
set_option maxRecDepth 100000 in
theorem lw_tg_good : GoodIn lw_tg lw_tg := fun w h => ⟨h, good_of_word (List.mem_filter.mp h).2⟩
set_option maxRecDepth 100000 in
theorem i_X0 : ∀ w ∈ u_ws RX0 TX0 5, w ∈ lw_tg := by decide +kernel
set_option maxRecDepth 100000 in
theorem i_X1 : ∀ w ∈ u_ws RX1 TX1 3, w ∈ lw_tg := by decide +kernel
set_option maxRecDepth 100000 in
theorem i_X2 : ∀ w ∈ u_ws RX2 TX2 3, w ∈ lw_tg := by decide +kernel
set_option maxRecDepth 100000 in
theorem i_X3 : ∀ w ∈ u_ws RX3 TX3 7, w ∈ lw_tg := by decide +kernel
set_option maxRecDepth 100000 in
theorem i_X5 : ∀ w ∈ u_ws RX5 TX5 8, w ∈ lw_tg := by decide +kernel
set_option maxRecDepth 100000 in
theorem i_X6 : ∀ w ∈ u_ws RX6 TX6 30, w ∈ lw_tg := by decide +kernel
set_option maxRecDepth 100000 in
theorem q_in_RL : Cond.initialized RL ∈ lw_tg := lw_in (i := 0) (by decide +kernel) rfl
set_option maxRecDepth 100000 in
theorem q_in_RX5 : Cond.initialized RX5 ∈ lw_tg := lw_in (i := 1) (by decide +kernel) rfl
set_option maxRecDepth 100000 in
theorem q_in_RX3 : Cond.initialized RX3 ∈ lw_tg := lw_in (i := 2) (by decide +kernel) rfl
set_option maxRecDepth 100000 in
theorem q_in_RX1 : Cond.initialized RX1 ∈ lw_tg := lw_in (i := 3) (by decide +kernel) rfl
set_option maxRecDepth 100000 in
theorem q_in_RX2 : Cond.initialized RX2 ∈ lw_tg := lw_in (i := 4) (by decide +kernel) rfl
set_option maxRecDepth 100000 in
theorem q_in_RX0 : Cond.initialized RX0 ∈ lw_tg := lw_in (i := 5) (by decide +kernel) rfl
set_option maxRecDepth 100000 in
theorem q_in_RX6 : Cond.initialized RX6 ∈ lw_tg := lw_in (i := 6) (by decide +kernel) rfl
set_option maxRecDepth 100000 in
theorem q_in_RX4 : Cond.initialized RX4 ∈ lw_tg := lw_in (i := 7) (by decide +kernel) rfl
set_option maxRecDepth 100000 in
theorem q_in_RJ9 : Cond.initialized RJ9 ∈ lw_tg := lw_in (i := 8) (by decide +kernel) rfl
set_option maxRecDepth 100000 in
theorem q_in_RJ10 : Cond.initialized RJ10 ∈ lw_tg := lw_in (i := 9) (by decide +kernel) rfl
set_option maxRecDepth 100000 in
theorem q_in_RJ7 : Cond.initialized RJ7 ∈ lw_tg := lw_in (i := 10) (by decide +kernel) rfl
set_option maxRecDepth 100000 in
theorem q_in_RJ6 : Cond.initialized RJ6 ∈ lw_tg := lw_in (i := 11) (by decide +kernel) rfl
set_option maxRecDepth 100000 in
theorem q_cl_RL_7 : Cond.classLink RL 7 RX5 ∈ lw_tg := lw_in (i := 12) (by decide +kernel) rfl
set_option maxRecDepth 100000 in
theorem q_is_RX5 : Cond.instantiable RX5 8 ∈ lw_tg := lw_in (i := 13) (by decide +kernel) rfl
set_option maxRecDepth 100000 in
theorem q_ml_RL_9 : Cond.methodLink RL 9 yX5_init ∈ lw_tg := lw_in (i := 14) (by decide +kernel) rfl
set_option maxRecDepth 100000 in
theorem q_im_yX5_init : Cond.instanceMethod yX5_init ∈ lw_tg := lw_in (i := 15) (by decide +kernel) rfl
set_option maxRecDepth 100000 in
theorem q_co_yX5_init : Cond.code yX5_init cX5_init 2 (none : Option Jvm.ClassFile.FieldType) ∈ lw_tg := lw_in (i := 16) (by decide +kernel) rfl
set_option maxRecDepth 100000 in
theorem q_ml_RX5_3 : Cond.methodLink RX5 3 objectInit ∈ lw_tg := lw_in (i := 17) (by decide +kernel) rfl
set_option maxRecDepth 100000 in
theorem q_im_objectInit : Cond.instanceMethod objectInit ∈ lw_tg := lw_in (i := 18) (by decide +kernel) rfl
set_option maxRecDepth 100000 in
theorem q_co_objectInit : Cond.code objectInit object_method_1_code 1 (none : Option Jvm.ClassFile.FieldType) ∈ lw_tg := lw_in (i := 19) (by decide +kernel) rfl
set_option maxRecDepth 100000 in
theorem q_cl_RX5_9 : Cond.classLink RX5 9 RX3 ∈ lw_tg := lw_in (i := 20) (by decide +kernel) rfl
set_option maxRecDepth 100000 in
theorem q_is_RX3 : Cond.instantiable RX3 7 ∈ lw_tg := lw_in (i := 21) (by decide +kernel) rfl
set_option maxRecDepth 100000 in
theorem q_mn_RX5_11 : Cond.methodLinkNest RX5 11 yX3_init RX5 ∈ lw_tbl := lw_in0 (i := 22) (by decide +kernel)
set_option maxRecDepth 100000 in
theorem q_im_yX3_init : Cond.instanceMethod yX3_init ∈ lw_tg := lw_in (i := 23) (by decide +kernel) rfl
set_option maxRecDepth 100000 in
theorem q_co_yX3_init : Cond.code yX3_init cX3_init 1 (none : Option Jvm.ClassFile.FieldType) ∈ lw_tg := lw_in (i := 24) (by decide +kernel) rfl
set_option maxRecDepth 100000 in
theorem q_ml_RX3_3 : Cond.methodLink RX3 3 objectInit ∈ lw_tg := lw_in (i := 25) (by decide +kernel) rfl
set_option maxRecDepth 100000 in
theorem q_fl_RX4_28 : Cond.fieldLink RX4 28 "GlassHill$Slope" "paces" "I" ∈ lw_tg := lw_in (i := 26) (by decide +kernel) rfl
set_option maxRecDepth 100000 in
theorem q_fl_RX3_33 : Cond.fieldLink RX3 33 "GlassHill$Slope" "paces" "I" ∈ lw_tg := lw_in (i := 27) (by decide +kernel) rfl
set_option maxRecDepth 100000 in
theorem q_fl_RX0_57 : Cond.fieldLink RX0 57 "GlassHill$Slope" "paces" "I" ∈ lw_tg := lw_in (i := 28) (by decide +kernel) rfl
set_option maxRecDepth 100000 in
theorem q_fl_RX5_137 : Cond.fieldLink RX5 137 "GlassHill$Slope" "paces" "I" ∈ lw_tg := lw_in (i := 29) (by decide +kernel) rfl
set_option maxRecDepth 100000 in
theorem q_fl_RX5_80 : Cond.fieldLink RX5 80 "GlassHill$Slope" "riders" "I" ∈ lw_tg := lw_in (i := 30) (by decide +kernel) rfl
set_option maxRecDepth 100000 in
theorem q_fl_RX4_34 : Cond.fieldLink RX4 34 "GlassHill$Slope" "riders" "I" ∈ lw_tg := lw_in (i := 31) (by decide +kernel) rfl
set_option maxRecDepth 100000 in
theorem q_fl_RX0_88 : Cond.fieldLink RX0 88 "GlassHill$Slope" "riders" "I" ∈ lw_tg := lw_in (i := 32) (by decide +kernel) rfl
set_option maxRecDepth 100000 in
theorem q_fl_RX3_9 : Cond.fieldLink RX3 9 "GlassHill$Slope" "slick" "[I" ∈ lw_tg := lw_in (i := 33) (by decide +kernel) rfl
set_option maxRecDepth 100000 in
theorem q_fl_RX5_90 : Cond.fieldLink RX5 90 "GlassHill$Slope" "slick" "[I" ∈ lw_tg := lw_in (i := 34) (by decide +kernel) rfl
set_option maxRecDepth 100000 in
theorem q_fl_RX4_37 : Cond.fieldLink RX4 37 "GlassHill$Slope" "slick" "[I" ∈ lw_tg := lw_in (i := 35) (by decide +kernel) rfl
set_option maxRecDepth 100000 in
theorem q_fl_RX3_15 : Cond.fieldLink RX3 15 "GlassHill$Slope" "laid" "[I" ∈ lw_tg := lw_in (i := 36) (by decide +kernel) rfl
set_option maxRecDepth 100000 in
theorem q_fl_RX0_25 : Cond.fieldLink RX0 25 "GlassHill$Slope" "laid" "[I" ∈ lw_tg := lw_in (i := 37) (by decide +kernel) rfl
set_option maxRecDepth 100000 in
theorem q_fl_RX5_93 : Cond.fieldLink RX5 93 "GlassHill$Slope" "laid" "[I" ∈ lw_tg := lw_in (i := 38) (by decide +kernel) rfl
set_option maxRecDepth 100000 in
theorem q_fl_RX4_40 : Cond.fieldLink RX4 40 "GlassHill$Slope" "laid" "[I" ∈ lw_tg := lw_in (i := 39) (by decide +kernel) rfl
set_option maxRecDepth 100000 in
theorem q_fl_RX3_18 : Cond.fieldLink RX3 18 "GlassHill$Slope" "kind" "[I" ∈ lw_tg := lw_in (i := 40) (by decide +kernel) rfl
set_option maxRecDepth 100000 in
theorem q_fl_RX5_99 : Cond.fieldLink RX5 99 "GlassHill$Slope" "kind" "[I" ∈ lw_tg := lw_in (i := 41) (by decide +kernel) rfl
set_option maxRecDepth 100000 in
theorem q_fl_RX4_43 : Cond.fieldLink RX4 43 "GlassHill$Slope" "kind" "[I" ∈ lw_tg := lw_in (i := 42) (by decide +kernel) rfl
set_option maxRecDepth 100000 in
theorem q_fl_RX3_21 : Cond.fieldLink RX3 21 "GlassHill$Slope" "speed" "[I" ∈ lw_tg := lw_in (i := 43) (by decide +kernel) rfl
set_option maxRecDepth 100000 in
theorem q_fl_RX5_102 : Cond.fieldLink RX5 102 "GlassHill$Slope" "speed" "[I" ∈ lw_tg := lw_in (i := 44) (by decide +kernel) rfl
set_option maxRecDepth 100000 in
theorem q_fl_RX4_50 : Cond.fieldLink RX4 50 "GlassHill$Slope" "speed" "[I" ∈ lw_tg := lw_in (i := 45) (by decide +kernel) rfl
set_option maxRecDepth 100000 in
theorem q_fl_RX0_66 : Cond.fieldLink RX0 66 "GlassHill$Slope" "speed" "[I" ∈ lw_tg := lw_in (i := 46) (by decide +kernel) rfl
set_option maxRecDepth 100000 in
theorem q_fl_RX3_24 : Cond.fieldLink RX3 24 "GlassHill$Slope" "nails" "[I" ∈ lw_tg := lw_in (i := 47) (by decide +kernel) rfl
set_option maxRecDepth 100000 in
theorem q_fl_RX5_105 : Cond.fieldLink RX5 105 "GlassHill$Slope" "nails" "[I" ∈ lw_tg := lw_in (i := 48) (by decide +kernel) rfl
set_option maxRecDepth 100000 in
theorem q_fl_RX4_53 : Cond.fieldLink RX4 53 "GlassHill$Slope" "nails" "[I" ∈ lw_tg := lw_in (i := 49) (by decide +kernel) rfl
set_option maxRecDepth 100000 in
theorem q_ac : Cond.arrayClass .int ∈ lw_tg := lw_in (i := 65) (by decide +kernel) rfl
set_option maxRecDepth 100000 in
theorem q_cl_RX5_18 : Cond.classLink RX5 18 RX1 ∈ lw_tg := lw_in (i := 66) (by decide +kernel) rfl
set_option maxRecDepth 100000 in
theorem q_is_RX1 : Cond.instantiable RX1 3 ∈ lw_tg := lw_in (i := 67) (by decide +kernel) rfl
set_option maxRecDepth 100000 in
theorem q_mn_RX5_20 : Cond.methodLinkNest RX5 20 yX1_init RX5 ∈ lw_tbl := lw_in0 (i := 68) (by decide +kernel)
set_option maxRecDepth 100000 in
theorem q_im_yX1_init : Cond.instanceMethod yX1_init ∈ lw_tg := lw_in (i := 69) (by decide +kernel) rfl
set_option maxRecDepth 100000 in
theorem q_co_yX1_init : Cond.code yX1_init cX1_init 1 (none : Option Jvm.ClassFile.FieldType) ∈ lw_tg := lw_in (i := 70) (by decide +kernel) rfl
set_option maxRecDepth 100000 in
theorem q_ml_RX1_1 : Cond.methodLink RX1 1 objectInit ∈ lw_tg := lw_in (i := 71) (by decide +kernel) rfl
set_option maxRecDepth 100000 in
theorem q_fl_RX1_16 : Cond.fieldLink RX1 16 "GlassHill$Readings" "count" "I" ∈ lw_tg := lw_in (i := 72) (by decide +kernel) rfl
set_option maxRecDepth 100000 in
theorem q_fl_RX5_77 : Cond.fieldLink RX5 77 "GlassHill$Readings" "count" "I" ∈ lw_tg := lw_in (i := 73) (by decide +kernel) rfl
set_option maxRecDepth 100000 in
theorem q_fl_RX1_9 : Cond.fieldLink RX1 9 "GlassHill$Readings" "riders" "[I" ∈ lw_tg := lw_in (i := 74) (by decide +kernel) rfl
set_option maxRecDepth 100000 in
theorem q_fl_RX1_13 : Cond.fieldLink RX1 13 "GlassHill$Readings" "heights" "[I" ∈ lw_tg := lw_in (i := 75) (by decide +kernel) rfl
set_option maxRecDepth 100000 in
theorem q_cl_RX5_25 : Cond.classLink RX5 25 RX2 ∈ lw_tg := lw_in (i := 83) (by decide +kernel) rfl
set_option maxRecDepth 100000 in
theorem q_ao_84 : Cond.arrayOver (Jvm.ClassFile.FieldType.object "GlassHill$Row") ∈ lw_tbl := lw_in0 (i := 84) (by decide +kernel)
set_option maxRecDepth 100000 in
theorem q_is_RX2 : Cond.instantiable RX2 3 ∈ lw_tg := lw_in (i := 85) (by decide +kernel) rfl
set_option maxRecDepth 100000 in
theorem q_mn_RX5_31 : Cond.methodLinkNest RX5 31 yX2_init RX5 ∈ lw_tbl := lw_in0 (i := 86) (by decide +kernel)
set_option maxRecDepth 100000 in
theorem q_im_yX2_init : Cond.instanceMethod yX2_init ∈ lw_tg := lw_in (i := 87) (by decide +kernel) rfl
set_option maxRecDepth 100000 in
theorem q_co_yX2_init : Cond.code yX2_init cX2_init 1 (none : Option Jvm.ClassFile.FieldType) ∈ lw_tg := lw_in (i := 88) (by decide +kernel) rfl
set_option maxRecDepth 100000 in
theorem q_ml_RX2_3 : Cond.methodLink RX2 3 objectInit ∈ lw_tg := lw_in (i := 89) (by decide +kernel) rfl
set_option maxRecDepth 100000 in
theorem q_fl_RX2_11 : Cond.fieldLink RX2 11 "GlassHill$Row" "lane" "I" ∈ lw_tg := lw_in (i := 90) (by decide +kernel) rfl
set_option maxRecDepth 100000 in
theorem q_fl_RX5_201 : Cond.fieldLink RX5 201 "GlassHill$Row" "lane" "I" ∈ lw_tg := lw_in (i := 91) (by decide +kernel) rfl
set_option maxRecDepth 100000 in
theorem q_fl_RX2_19 : Cond.fieldLink RX2 19 "GlassHill$Row" "length" "I" ∈ lw_tg := lw_in (i := 92) (by decide +kernel) rfl
set_option maxRecDepth 100000 in
theorem q_fl_RX2_15 : Cond.fieldLink RX2 15 "GlassHill$Row" "cells" "[I" ∈ lw_tg := lw_in (i := 93) (by decide +kernel) rfl
set_option maxRecDepth 100000 in
theorem q_fl_RX4_9 : Cond.fieldLink RX4 9 "GlassHill$Row" "cells" "[I" ∈ lw_tg := lw_in (i := 94) (by decide +kernel) rfl
set_option maxRecDepth 100000 in
theorem q_fl_RX5_207 : Cond.fieldLink RX5 207 "GlassHill$Row" "cells" "[I" ∈ lw_tg := lw_in (i := 95) (by decide +kernel) rfl
set_option maxRecDepth 100000 in
theorem q_cl_RX5_32 : Cond.classLink RX5 32 RX0 ∈ lw_tg := lw_in (i := 103) (by decide +kernel) rfl
set_option maxRecDepth 100000 in
theorem q_ao_104 : Cond.arrayOver (Jvm.ClassFile.FieldType.object "GlassHill$Climb") ∈ lw_tbl := lw_in0 (i := 104) (by decide +kernel)
set_option maxRecDepth 100000 in
theorem q_is_RX0 : Cond.instantiable RX0 5 ∈ lw_tg := lw_in (i := 105) (by decide +kernel) rfl
set_option maxRecDepth 100000 in
theorem q_ml_RX5_38 : Cond.methodLink RX5 38 yX0_init ∈ lw_tg := lw_in (i := 106) (by decide +kernel) rfl
set_option maxRecDepth 100000 in
theorem q_im_yX0_init : Cond.instanceMethod yX0_init ∈ lw_tg := lw_in (i := 107) (by decide +kernel) rfl
set_option maxRecDepth 100000 in
theorem q_co_yX0_init : Cond.code yX0_init cX0_init 2 (none : Option Jvm.ClassFile.FieldType) ∈ lw_tg := lw_in (i := 108) (by decide +kernel) rfl
set_option maxRecDepth 100000 in
theorem q_ml_RX0_3 : Cond.methodLink RX0 3 objectInit ∈ lw_tg := lw_in (i := 109) (by decide +kernel) rfl
set_option maxRecDepth 100000 in
theorem q_fl_RX0_21 : Cond.fieldLink RX0 21 "GlassHill$Climb" "slope" "LGlassHill$Slope;" ∈ lw_tg := lw_in (i := 110) (by decide +kernel) rfl
set_option maxRecDepth 100000 in
theorem q_fl_RX5_251 : Cond.fieldLink RX5 251 "GlassHill$Climb" "slope" "LGlassHill$Slope;" ∈ lw_tg := lw_in (i := 111) (by decide +kernel) rfl
set_option maxRecDepth 100000 in
theorem q_fl_RX0_9 : Cond.fieldLink RX0 9 "GlassHill$Climb" "scratches" "[I" ∈ lw_tg := lw_in (i := 112) (by decide +kernel) rfl
set_option maxRecDepth 100000 in
theorem q_fl_RX0_15 : Cond.fieldLink RX0 15 "GlassHill$Climb" "tries" "[I" ∈ lw_tg := lw_in (i := 113) (by decide +kernel) rfl
set_option maxRecDepth 100000 in
theorem q_fl_RX0_18 : Cond.fieldLink RX0 18 "GlassHill$Climb" "heights" "[I" ∈ lw_tg := lw_in (i := 114) (by decide +kernel) rfl
set_option maxRecDepth 100000 in
theorem q_fl_RX0_42 : Cond.fieldLink RX0 42 "GlassHill$Climb" "up" "I" ∈ lw_tg := lw_in (i := 115) (by decide +kernel) rfl
set_option maxRecDepth 100000 in
theorem q_fl_RX5_122 : Cond.fieldLink RX5 122 "GlassHill$Climb" "up" "I" ∈ lw_tg := lw_in (i := 116) (by decide +kernel) rfl
set_option maxRecDepth 100000 in
theorem q_fl_RX5_12 : Cond.fieldLink RX5 12 "GlassHill" "slope" "LGlassHill$Slope;" ∈ lw_tg := lw_in (i := 128) (by decide +kernel) rfl
set_option maxRecDepth 100000 in
theorem q_fl_RX5_21 : Cond.fieldLink RX5 21 "GlassHill" "readings" "LGlassHill$Readings;" ∈ lw_tg := lw_in (i := 129) (by decide +kernel) rfl
set_option maxRecDepth 100000 in
theorem q_fl_RX5_27 : Cond.fieldLink RX5 27 "GlassHill" "sheets" "[LGlassHill$Row;" ∈ lw_tg := lw_in (i := 130) (by decide +kernel) rfl
set_option maxRecDepth 100000 in
theorem q_fl_RX5_34 : Cond.fieldLink RX5 34 "GlassHill" "climbs" "[LGlassHill$Climb;" ∈ lw_tg := lw_in (i := 131) (by decide +kernel) rfl
set_option maxRecDepth 100000 in
theorem q_fl_RX5_41 : Cond.fieldLink RX5 41 "GlassHill" "steps" "[I" ∈ lw_tg := lw_in (i := 132) (by decide +kernel) rfl
set_option maxRecDepth 100000 in
theorem q_fl_RX5_45 : Cond.fieldLink RX5 45 "GlassHill" "row" "[I" ∈ lw_tg := lw_in (i := 133) (by decide +kernel) rfl
set_option maxRecDepth 100000 in
theorem q_fl_RX5_232 : Cond.fieldLink RX5 232 "GlassHill" "trace" "I" ∈ lw_tg := lw_in (i := 134) (by decide +kernel) rfl
set_option maxRecDepth 100000 in
theorem q_fl_RX5_48 : Cond.fieldLink RX5 48 "GlassHill" "fault" "I" ∈ lw_tg := lw_in (i := 135) (by decide +kernel) rfl
set_option maxRecDepth 100000 in
theorem q_ml_RL_13 : Cond.methodLink RL 13 yX5_hill ∈ lw_tg := lw_in (i := 153) (by decide +kernel) rfl
set_option maxRecDepth 100000 in
theorem q_im_yX5_hill : Cond.instanceMethod yX5_hill ∈ lw_tg := lw_in (i := 154) (by decide +kernel) rfl
set_option maxRecDepth 100000 in
theorem q_se_yX5_hill : Cond.selects RX5 yX5_hill yX5_hill ∈ lw_tg := lw_in (i := 155) (by decide +kernel) rfl
set_option maxRecDepth 100000 in
theorem q_co_yX5_hill : Cond.code yX5_hill cX5_hill 8 (some .int) ∈ lw_tg := lw_in (i := 156) (by decide +kernel) rfl
set_option maxRecDepth 100000 in
theorem q_ml_RX5_52 : Cond.methodLink RX5 52 yX5_isSheet ∈ lw_tg := lw_in (i := 157) (by decide +kernel) rfl
set_option maxRecDepth 100000 in
theorem q_st_yX5_isSheet : Cond.static yX5_isSheet ∈ lw_tg := lw_in (i := 158) (by decide +kernel) rfl
set_option maxRecDepth 100000 in
theorem q_co_yX5_isSheet : Cond.code yX5_isSheet cX5_isSheet 1 (some .boolean) ∈ lw_tg := lw_in (i := 159) (by decide +kernel) rfl
set_option maxRecDepth 100000 in
theorem q_ml_RX5_86 : Cond.methodLink RX5 86 yX5_isIn ∈ lw_tg := lw_in (i := 160) (by decide +kernel) rfl
set_option maxRecDepth 100000 in
theorem q_st_yX5_isIn : Cond.static yX5_isIn ∈ lw_tg := lw_in (i := 161) (by decide +kernel) rfl
set_option maxRecDepth 100000 in
theorem q_co_yX5_isIn : Cond.code yX5_isIn cX5_isIn 3 (some .boolean) ∈ lw_tg := lw_in (i := 162) (by decide +kernel) rfl
set_option maxRecDepth 100000 in
theorem q_ml_RX5_56 : Cond.methodLink RX5 56 yX5_isLane ∈ lw_tg := lw_in (i := 163) (by decide +kernel) rfl
set_option maxRecDepth 100000 in
theorem q_st_yX5_isLane : Cond.static yX5_isLane ∈ lw_tg := lw_in (i := 164) (by decide +kernel) rfl
set_option maxRecDepth 100000 in
theorem q_co_yX5_isLane : Cond.code yX5_isLane cX5_isLane 1 (some .boolean) ∈ lw_tg := lw_in (i := 165) (by decide +kernel) rfl
set_option maxRecDepth 100000 in
theorem q_ml_RX5_59 : Cond.methodLink RX5 59 yX5_faultOfCells ∈ lw_tg := lw_in (i := 166) (by decide +kernel) rfl
set_option maxRecDepth 100000 in
theorem q_st_yX5_faultOfCells : Cond.static yX5_faultOfCells ∈ lw_tg := lw_in (i := 167) (by decide +kernel) rfl
set_option maxRecDepth 100000 in
theorem q_co_yX5_faultOfCells : Cond.code yX5_faultOfCells cX5_faultOfCells 4 (some .int) ∈ lw_tg := lw_in (i := 168) (by decide +kernel) rfl
set_option maxRecDepth 100000 in
theorem q_ml_RX5_198 : Cond.methodLink RX5 198 yX2_isNothing ∈ lw_tg := lw_in (i := 169) (by decide +kernel) rfl
set_option maxRecDepth 100000 in
theorem q_im_yX2_isNothing : Cond.instanceMethod yX2_isNothing ∈ lw_tg := lw_in (i := 170) (by decide +kernel) rfl
set_option maxRecDepth 100000 in
theorem q_se_yX2_isNothing : Cond.selects RX2 yX2_isNothing yX2_isNothing ∈ lw_tg := lw_in (i := 171) (by decide +kernel) rfl
set_option maxRecDepth 100000 in
theorem q_co_yX2_isNothing : Cond.code yX2_isNothing cX2_isNothing 1 (some .boolean) ∈ lw_tg := lw_in (i := 172) (by decide +kernel) rfl
set_option maxRecDepth 100000 in
theorem q_ml_RX5_210 : Cond.methodLink RX5 210 yX2_holds ∈ lw_tg := lw_in (i := 173) (by decide +kernel) rfl
set_option maxRecDepth 100000 in
theorem q_im_yX2_holds : Cond.instanceMethod yX2_holds ∈ lw_tg := lw_in (i := 174) (by decide +kernel) rfl
set_option maxRecDepth 100000 in
theorem q_se_yX2_holds : Cond.selects RX2 yX2_holds yX2_holds ∈ lw_tg := lw_in (i := 175) (by decide +kernel) rfl
set_option maxRecDepth 100000 in
theorem q_co_yX2_holds : Cond.code yX2_holds cX2_holds 3 (some .boolean) ∈ lw_tg := lw_in (i := 176) (by decide +kernel) rfl
set_option maxRecDepth 100000 in
theorem q_ml_RX5_63 : Cond.methodLink RX5 63 yX5_meet ∈ lw_tg := lw_in (i := 177) (by decide +kernel) rfl
set_option maxRecDepth 100000 in
theorem q_im_yX5_meet : Cond.instanceMethod yX5_meet ∈ lw_tg := lw_in (i := 179) (by decide +kernel) rfl
set_option maxRecDepth 100000 in
theorem q_co_yX5_meet : Cond.code yX5_meet cX5_meet 2 (some .int) ∈ lw_tg := lw_in (i := 180) (by decide +kernel) rfl
set_option maxRecDepth 100000 in
theorem q_ml_RX5_67 : Cond.methodLink RX5 67 yX4_firstFault ∈ lw_tg := lw_in (i := 181) (by decide +kernel) rfl
set_option maxRecDepth 100000 in
theorem q_st_yX4_firstFault : Cond.static yX4_firstFault ∈ lw_tg := lw_in (i := 182) (by decide +kernel) rfl
set_option maxRecDepth 100000 in
theorem q_co_yX4_firstFault : Cond.code yX4_firstFault cX4_firstFault 6 (some .int) ∈ lw_tg := lw_in (i := 183) (by decide +kernel) rfl
set_option maxRecDepth 100000 in
theorem q_ml_RX4_15 : Cond.methodLink RX4 15 yX4_goesOn ∈ lw_tg := lw_in (i := 184) (by decide +kernel) rfl
set_option maxRecDepth 100000 in
theorem q_st_yX4_goesOn : Cond.static yX4_goesOn ∈ lw_tg := lw_in (i := 185) (by decide +kernel) rfl
set_option maxRecDepth 100000 in
theorem q_co_yX4_goesOn : Cond.code yX4_goesOn cX4_goesOn 4 (some .boolean) ∈ lw_tg := lw_in (i := 186) (by decide +kernel) rfl
set_option maxRecDepth 100000 in
theorem q_mn_RX4_21 : Cond.methodLinkNest RX4 21 yX5_isIn RX5 ∈ lw_tbl := lw_in0 (i := 187) (by decide +kernel)
set_option maxRecDepth 100000 in
theorem q_ml_RX5_73 : Cond.methodLink RX5 73 yX4_build ∈ lw_tg := lw_in (i := 188) (by decide +kernel) rfl
set_option maxRecDepth 100000 in
theorem q_st_yX4_build : Cond.static yX4_build ∈ lw_tg := lw_in (i := 189) (by decide +kernel) rfl
set_option maxRecDepth 100000 in
theorem q_co_yX4_build : Cond.code yX4_build cX4_build 6 (none : Option Jvm.ClassFile.FieldType) ∈ lw_tg := lw_in (i := 190) (by decide +kernel) rfl
set_option maxRecDepth 100000 in
theorem q_ml_RX4_24 : Cond.methodLink RX4 24 yX4_digit ∈ lw_tg := lw_in (i := 191) (by decide +kernel) rfl
set_option maxRecDepth 100000 in
theorem q_st_yX4_digit : Cond.static yX4_digit ∈ lw_tg := lw_in (i := 192) (by decide +kernel) rfl
set_option maxRecDepth 100000 in
theorem q_co_yX4_digit : Cond.code yX4_digit cX4_digit 2 (some .int) ∈ lw_tg := lw_in (i := 193) (by decide +kernel) rfl
set_option maxRecDepth 100000 in
theorem q_ml_RX4_46 : Cond.methodLink RX4 46 yX4_kindOf ∈ lw_tg := lw_in (i := 194) (by decide +kernel) rfl
set_option maxRecDepth 100000 in
theorem q_st_yX4_kindOf : Cond.static yX4_kindOf ∈ lw_tg := lw_in (i := 195) (by decide +kernel) rfl
set_option maxRecDepth 100000 in
theorem q_co_yX4_kindOf : Cond.code yX4_kindOf cX4_kindOf 1 (some .int) ∈ lw_tg := lw_in (i := 196) (by decide +kernel) rfl
set_option maxRecDepth 100000 in
theorem q_ml_RL_18 : Cond.methodLink RL 18 yX5_ofPace ∈ lw_tg := lw_in (i := 197) (by decide +kernel) rfl
set_option maxRecDepth 100000 in
theorem q_im_yX5_ofPace : Cond.instanceMethod yX5_ofPace ∈ lw_tg := lw_in (i := 198) (by decide +kernel) rfl
set_option maxRecDepth 100000 in
theorem q_se_yX5_ofPace : Cond.selects RX5 yX5_ofPace yX5_ofPace ∈ lw_tg := lw_in (i := 199) (by decide +kernel) rfl
set_option maxRecDepth 100000 in
theorem q_co_yX5_ofPace : Cond.code yX5_ofPace cX5_ofPace 3 (some .int) ∈ lw_tg := lw_in (i := 200) (by decide +kernel) rfl
set_option maxRecDepth 100000 in
theorem q_ml_RX5_83 : Cond.methodLink RX5 83 yX5_isPace ∈ lw_tg := lw_in (i := 201) (by decide +kernel) rfl
set_option maxRecDepth 100000 in
theorem q_im_yX5_isPace : Cond.instanceMethod yX5_isPace ∈ lw_tg := lw_in (i := 203) (by decide +kernel) rfl
set_option maxRecDepth 100000 in
theorem q_co_yX5_isPace : Cond.code yX5_isPace cX5_isPace 2 (some .boolean) ∈ lw_tg := lw_in (i := 204) (by decide +kernel) rfl
set_option maxRecDepth 100000 in
theorem q_ml_RL_23 : Cond.methodLink RL 23 yX5_ofRider ∈ lw_tg := lw_in (i := 205) (by decide +kernel) rfl
set_option maxRecDepth 100000 in
theorem q_im_yX5_ofRider : Cond.instanceMethod yX5_ofRider ∈ lw_tg := lw_in (i := 206) (by decide +kernel) rfl
set_option maxRecDepth 100000 in
theorem q_se_yX5_ofRider : Cond.selects RX5 yX5_ofRider yX5_ofRider ∈ lw_tg := lw_in (i := 207) (by decide +kernel) rfl
set_option maxRecDepth 100000 in
theorem q_co_yX5_ofRider : Cond.code yX5_ofRider cX5_ofRider 3 (some .int) ∈ lw_tg := lw_in (i := 208) (by decide +kernel) rfl
set_option maxRecDepth 100000 in
theorem q_ml_RX5_96 : Cond.methodLink RX5 96 yX5_isRider ∈ lw_tg := lw_in (i := 209) (by decide +kernel) rfl
set_option maxRecDepth 100000 in
theorem q_im_yX5_isRider : Cond.instanceMethod yX5_isRider ∈ lw_tg := lw_in (i := 211) (by decide +kernel) rfl
set_option maxRecDepth 100000 in
theorem q_co_yX5_isRider : Cond.code yX5_isRider cX5_isRider 2 (some .boolean) ∈ lw_tg := lw_in (i := 212) (by decide +kernel) rfl
set_option maxRecDepth 100000 in
theorem q_ml_RL_27 : Cond.methodLink RL 27 yX5_scratch ∈ lw_tg := lw_in (i := 213) (by decide +kernel) rfl
set_option maxRecDepth 100000 in
theorem q_im_yX5_scratch : Cond.instanceMethod yX5_scratch ∈ lw_tg := lw_in (i := 214) (by decide +kernel) rfl
set_option maxRecDepth 100000 in
theorem q_se_yX5_scratch : Cond.selects RX5 yX5_scratch yX5_scratch ∈ lw_tg := lw_in (i := 215) (by decide +kernel) rfl
set_option maxRecDepth 100000 in
theorem q_co_yX5_scratch : Cond.code yX5_scratch cX5_scratch 4 (some .int) ∈ lw_tg := lw_in (i := 216) (by decide +kernel) rfl
set_option maxRecDepth 100000 in
theorem q_ml_RL_31 : Cond.methodLink RL 31 yX5_speed ∈ lw_tg := lw_in (i := 217) (by decide +kernel) rfl
set_option maxRecDepth 100000 in
theorem q_im_yX5_speed : Cond.instanceMethod yX5_speed ∈ lw_tg := lw_in (i := 218) (by decide +kernel) rfl
set_option maxRecDepth 100000 in
theorem q_se_yX5_speed : Cond.selects RX5 yX5_speed yX5_speed ∈ lw_tg := lw_in (i := 219) (by decide +kernel) rfl
set_option maxRecDepth 100000 in
theorem q_co_yX5_speed : Cond.code yX5_speed cX5_speed 3 (some .int) ∈ lw_tg := lw_in (i := 220) (by decide +kernel) rfl
set_option maxRecDepth 100000 in
theorem q_ml_RX5_108 : Cond.methodLink RX5 108 yX3_exchange ∈ lw_tg := lw_in (i := 221) (by decide +kernel) rfl
set_option maxRecDepth 100000 in
theorem q_im_yX3_exchange : Cond.instanceMethod yX3_exchange ∈ lw_tg := lw_in (i := 222) (by decide +kernel) rfl
set_option maxRecDepth 100000 in
theorem q_se_yX3_exchange : Cond.selects RX3 yX3_exchange yX3_exchange ∈ lw_tg := lw_in (i := 223) (by decide +kernel) rfl
set_option maxRecDepth 100000 in
theorem q_co_yX3_exchange : Cond.code yX3_exchange cX3_exchange 6 (some .int) ∈ lw_tg := lw_in (i := 224) (by decide +kernel) rfl
set_option maxRecDepth 100000 in
theorem q_ml_RL_35 : Cond.methodLink RL 35 yX5_shoe ∈ lw_tg := lw_in (i := 225) (by decide +kernel) rfl
set_option maxRecDepth 100000 in
theorem q_im_yX5_shoe : Cond.instanceMethod yX5_shoe ∈ lw_tg := lw_in (i := 226) (by decide +kernel) rfl
set_option maxRecDepth 100000 in
theorem q_se_yX5_shoe : Cond.selects RX5 yX5_shoe yX5_shoe ∈ lw_tg := lw_in (i := 227) (by decide +kernel) rfl
set_option maxRecDepth 100000 in
theorem q_co_yX5_shoe : Cond.code yX5_shoe cX5_shoe 3 (some .int) ∈ lw_tg := lw_in (i := 228) (by decide +kernel) rfl
set_option maxRecDepth 100000 in
theorem q_ml_RL_39 : Cond.methodLink RL 39 yX5_takes ∈ lw_tg := lw_in (i := 229) (by decide +kernel) rfl
set_option maxRecDepth 100000 in
theorem q_im_yX5_takes : Cond.instanceMethod yX5_takes ∈ lw_tg := lw_in (i := 230) (by decide +kernel) rfl
set_option maxRecDepth 100000 in
theorem q_se_yX5_takes : Cond.selects RX5 yX5_takes yX5_takes ∈ lw_tg := lw_in (i := 231) (by decide +kernel) rfl
set_option maxRecDepth 100000 in
theorem q_co_yX5_takes : Cond.code yX5_takes cX5_takes 4 (some .int) ∈ lw_tg := lw_in (i := 232) (by decide +kernel) rfl
set_option maxRecDepth 100000 in
theorem q_ml_RX5_112 : Cond.methodLink RX5 112 yX3_toll ∈ lw_tg := lw_in (i := 233) (by decide +kernel) rfl
set_option maxRecDepth 100000 in
theorem q_im_yX3_toll : Cond.instanceMethod yX3_toll ∈ lw_tg := lw_in (i := 234) (by decide +kernel) rfl
set_option maxRecDepth 100000 in
theorem q_se_yX3_toll : Cond.selects RX3 yX3_toll yX3_toll ∈ lw_tg := lw_in (i := 235) (by decide +kernel) rfl
set_option maxRecDepth 100000 in
theorem q_co_yX3_toll : Cond.code yX3_toll cX3_toll 5 (some .int) ∈ lw_tg := lw_in (i := 236) (by decide +kernel) rfl
set_option maxRecDepth 100000 in
theorem q_ml_RX3_27 : Cond.methodLink RX3 27 Lib.Math.max.name ∈ lw_tg := lw_in (i := 237) (by decide +kernel) rfl
set_option maxRecDepth 100000 in
theorem q_st_max : Cond.static Lib.Math.max.name ∈ lw_tg := lw_in (i := 238) (by decide +kernel) rfl
set_option maxRecDepth 100000 in
theorem q_co_max : Cond.code Lib.Math.max.name Lib.Math.max.code 2 (some .int) ∈ lw_tg := lw_in (i := 239) (by decide +kernel) rfl
set_option maxRecDepth 100000 in
theorem q_ml_RL_44 : Cond.methodLink RL 44 yX5_days ∈ lw_tg := lw_in (i := 240) (by decide +kernel) rfl
set_option maxRecDepth 100000 in
theorem q_im_yX5_days : Cond.instanceMethod yX5_days ∈ lw_tg := lw_in (i := 241) (by decide +kernel) rfl
set_option maxRecDepth 100000 in
theorem q_se_yX5_days : Cond.selects RX5 yX5_days yX5_days ∈ lw_tg := lw_in (i := 242) (by decide +kernel) rfl
set_option maxRecDepth 100000 in
theorem q_co_yX5_days : Cond.code yX5_days cX5_days 9 (some .int) ∈ lw_tg := lw_in (i := 243) (by decide +kernel) rfl
set_option maxRecDepth 100000 in
theorem q_ml_RX5_115 : Cond.methodLink RX5 115 yX5_readSteps ∈ lw_tg := lw_in (i := 244) (by decide +kernel) rfl
set_option maxRecDepth 100000 in
theorem q_im_yX5_readSteps : Cond.instanceMethod yX5_readSteps ∈ lw_tg := lw_in (i := 246) (by decide +kernel) rfl
set_option maxRecDepth 100000 in
theorem q_co_yX5_readSteps : Cond.code yX5_readSteps cX5_readSteps 9 (some .int) ∈ lw_tg := lw_in (i := 247) (by decide +kernel) rfl
set_option maxRecDepth 100000 in
theorem q_ml_RX5_119 : Cond.methodLink RX5 119 yX5_firstWrong ∈ lw_tg := lw_in (i := 248) (by decide +kernel) rfl
set_option maxRecDepth 100000 in
theorem q_im_yX5_firstWrong : Cond.instanceMethod yX5_firstWrong ∈ lw_tg := lw_in (i := 250) (by decide +kernel) rfl
set_option maxRecDepth 100000 in
theorem q_co_yX5_firstWrong : Cond.code yX5_firstWrong cX5_firstWrong 4 (some .int) ∈ lw_tg := lw_in (i := 251) (by decide +kernel) rfl
set_option maxRecDepth 100000 in
theorem q_ml_RX5_149 : Cond.methodLink RX5 149 yX0_begin ∈ lw_tg := lw_in (i := 252) (by decide +kernel) rfl
set_option maxRecDepth 100000 in
theorem q_im_yX0_begin : Cond.instanceMethod yX0_begin ∈ lw_tg := lw_in (i := 253) (by decide +kernel) rfl
set_option maxRecDepth 100000 in
theorem q_se_yX0_begin : Cond.selects RX0 yX0_begin yX0_begin ∈ lw_tg := lw_in (i := 254) (by decide +kernel) rfl
set_option maxRecDepth 100000 in
theorem q_co_yX0_begin : Cond.code yX0_begin cX0_begin 1 (none : Option Jvm.ClassFile.FieldType) ∈ lw_tg := lw_in (i := 255) (by decide +kernel) rfl
set_option maxRecDepth 100000 in
theorem q_ml_RX0_30 : Cond.methodLink RX0 30 arraycopyName ∈ lw_tg := lw_in (i := 256) (by decide +kernel) rfl
set_option maxRecDepth 100000 in
theorem q_st_arraycopy : Cond.static arraycopyName ∈ lw_tg := lw_in (i := 257) (by decide +kernel) rfl
set_option maxRecDepth 100000 in
theorem q_na_arraycopy : Cond.native arraycopyName ∈ lw_tg := lw_in (i := 258) (by decide +kernel) rfl
set_option maxRecDepth 100000 in
theorem q_ml_RX0_36 : Cond.methodLink RX0 36 yJ7_fill_53178 ∈ lw_tg := lw_in (i := 259) (by decide +kernel) rfl
set_option maxRecDepth 100000 in
theorem q_st_yJ7_fill_53178 : Cond.static yJ7_fill_53178 ∈ lw_tg := lw_in (i := 260) (by decide +kernel) rfl
set_option maxRecDepth 100000 in
theorem q_co_yJ7_fill_53178 : Cond.code yJ7_fill_53178 cJ7_fill_53178 4 (none : Option Jvm.ClassFile.FieldType) ∈ lw_tg := lw_in (i := 261) (by decide +kernel) rfl
set_option maxRecDepth 100000 in
theorem q_ml_RX5_235 : Cond.methodLink RX5 235 yX0_polish ∈ lw_tg := lw_in (i := 262) (by decide +kernel) rfl
set_option maxRecDepth 100000 in
theorem q_im_yX0_polish : Cond.instanceMethod yX0_polish ∈ lw_tg := lw_in (i := 263) (by decide +kernel) rfl
set_option maxRecDepth 100000 in
theorem q_se_yX0_polish : Cond.selects RX0 yX0_polish yX0_polish ∈ lw_tg := lw_in (i := 264) (by decide +kernel) rfl
set_option maxRecDepth 100000 in
theorem q_co_yX0_polish : Cond.code yX0_polish cX0_polish 2 (none : Option Jvm.ClassFile.FieldType) ∈ lw_tg := lw_in (i := 265) (by decide +kernel) rfl
set_option maxRecDepth 100000 in
theorem q_ml_RX0_60 : Cond.methodLink RX0 60 Lib.Math.max.name ∈ lw_tg := lw_in (i := 266) (by decide +kernel) rfl
set_option maxRecDepth 100000 in
theorem q_ml_RX5_238 : Cond.methodLink RX5 238 yX0_isUp ∈ lw_tg := lw_in (i := 267) (by decide +kernel) rfl
set_option maxRecDepth 100000 in
theorem q_im_yX0_isUp : Cond.instanceMethod yX0_isUp ∈ lw_tg := lw_in (i := 268) (by decide +kernel) rfl
set_option maxRecDepth 100000 in
theorem q_se_yX0_isUp : Cond.selects RX0 yX0_isUp yX0_isUp ∈ lw_tg := lw_in (i := 269) (by decide +kernel) rfl
set_option maxRecDepth 100000 in
theorem q_co_yX0_isUp : Cond.code yX0_isUp cX0_isUp 2 (some .boolean) ∈ lw_tg := lw_in (i := 270) (by decide +kernel) rfl
set_option maxRecDepth 100000 in
theorem q_ml_RX5_241 : Cond.methodLink RX5 241 yX0_attempt ∈ lw_tg := lw_in (i := 271) (by decide +kernel) rfl
set_option maxRecDepth 100000 in
theorem q_im_yX0_attempt : Cond.instanceMethod yX0_attempt ∈ lw_tg := lw_in (i := 272) (by decide +kernel) rfl
set_option maxRecDepth 100000 in
theorem q_se_yX0_attempt : Cond.selects RX0 yX0_attempt yX0_attempt ∈ lw_tg := lw_in (i := 273) (by decide +kernel) rfl
set_option maxRecDepth 100000 in
theorem q_co_yX0_attempt : Cond.code yX0_attempt cX0_attempt 6 (none : Option Jvm.ClassFile.FieldType) ∈ lw_tg := lw_in (i := 274) (by decide +kernel) rfl
set_option maxRecDepth 100000 in
theorem q_ml_RX0_69 : Cond.methodLink RX0 69 yX3_toll ∈ lw_tg := lw_in (i := 275) (by decide +kernel) rfl
set_option maxRecDepth 100000 in
theorem q_ml_RX0_73 : Cond.methodLink RX0 73 yX3_marks ∈ lw_tg := lw_in (i := 276) (by decide +kernel) rfl
set_option maxRecDepth 100000 in
theorem q_im_yX3_marks : Cond.instanceMethod yX3_marks ∈ lw_tg := lw_in (i := 277) (by decide +kernel) rfl
set_option maxRecDepth 100000 in
theorem q_se_yX3_marks : Cond.selects RX3 yX3_marks yX3_marks ∈ lw_tg := lw_in (i := 278) (by decide +kernel) rfl
set_option maxRecDepth 100000 in
theorem q_co_yX3_marks : Cond.code yX3_marks cX3_marks 2 (some .int) ∈ lw_tg := lw_in (i := 279) (by decide +kernel) rfl
set_option maxRecDepth 100000 in
theorem q_ml_RX0_77 : Cond.methodLink RX0 77 yX0_slideBack ∈ lw_tg := lw_in (i := 280) (by decide +kernel) rfl
set_option maxRecDepth 100000 in
theorem q_im_yX0_slideBack : Cond.instanceMethod yX0_slideBack ∈ lw_tg := lw_in (i := 282) (by decide +kernel) rfl
set_option maxRecDepth 100000 in
theorem q_co_yX0_slideBack : Cond.code yX0_slideBack cX0_slideBack 4 (none : Option Jvm.ClassFile.FieldType) ∈ lw_tg := lw_in (i := 283) (by decide +kernel) rfl
set_option maxRecDepth 100000 in
theorem q_ml_RX0_81 : Cond.methodLink RX0 81 Lib.Math.min.name ∈ lw_tg := lw_in (i := 284) (by decide +kernel) rfl
set_option maxRecDepth 100000 in
theorem q_st_min : Cond.static Lib.Math.min.name ∈ lw_tg := lw_in (i := 285) (by decide +kernel) rfl
set_option maxRecDepth 100000 in
theorem q_co_min : Cond.code Lib.Math.min.name Lib.Math.min.code 2 (some .int) ∈ lw_tg := lw_in (i := 286) (by decide +kernel) rfl
set_option maxRecDepth 100000 in
theorem q_ml_RX5_125 : Cond.methodLink RX5 125 yX5_firstUp ∈ lw_tg := lw_in (i := 287) (by decide +kernel) rfl
set_option maxRecDepth 100000 in
theorem q_im_yX5_firstUp : Cond.instanceMethod yX5_firstUp ∈ lw_tg := lw_in (i := 289) (by decide +kernel) rfl
set_option maxRecDepth 100000 in
theorem q_co_yX5_firstUp : Cond.code yX5_firstUp cX5_firstUp 4 (some .int) ∈ lw_tg := lw_in (i := 290) (by decide +kernel) rfl
set_option maxRecDepth 100000 in
theorem q_ml_RX5_244 : Cond.methodLink RX5 244 yX0_goOn ∈ lw_tg := lw_in (i := 291) (by decide +kernel) rfl
set_option maxRecDepth 100000 in
theorem q_im_yX0_goOn : Cond.instanceMethod yX0_goOn ∈ lw_tg := lw_in (i := 292) (by decide +kernel) rfl
set_option maxRecDepth 100000 in
theorem q_se_yX0_goOn : Cond.selects RX0 yX0_goOn yX0_goOn ∈ lw_tg := lw_in (i := 293) (by decide +kernel) rfl
set_option maxRecDepth 100000 in
theorem q_co_yX0_goOn : Cond.code yX0_goOn cX0_goOn 2 (none : Option Jvm.ClassFile.FieldType) ∈ lw_tg := lw_in (i := 294) (by decide +kernel) rfl
set_option maxRecDepth 100000 in
theorem q_ml_RX0_46 : Cond.methodLink RX0 46 yX0_polish ∈ lw_tg := lw_in (i := 295) (by decide +kernel) rfl
set_option maxRecDepth 100000 in
theorem q_ml_RX0_49 : Cond.methodLink RX0 49 yX0_isUp ∈ lw_tg := lw_in (i := 296) (by decide +kernel) rfl
set_option maxRecDepth 100000 in
theorem q_ml_RX0_53 : Cond.methodLink RX0 53 yX0_attempt ∈ lw_tg := lw_in (i := 297) (by decide +kernel) rfl
set_option maxRecDepth 100000 in
theorem q_ml_RX5_128 : Cond.methodLink RX5 128 yX0_scratchesOf ∈ lw_tg := lw_in (i := 298) (by decide +kernel) rfl
set_option maxRecDepth 100000 in
theorem q_im_yX0_scratchesOf : Cond.instanceMethod yX0_scratchesOf ∈ lw_tg := lw_in (i := 299) (by decide +kernel) rfl
set_option maxRecDepth 100000 in
theorem q_se_yX0_scratchesOf : Cond.selects RX0 yX0_scratchesOf yX0_scratchesOf ∈ lw_tg := lw_in (i := 300) (by decide +kernel) rfl
set_option maxRecDepth 100000 in
theorem q_co_yX0_scratchesOf : Cond.code yX0_scratchesOf cX0_scratchesOf 2 (some .int) ∈ lw_tg := lw_in (i := 301) (by decide +kernel) rfl
set_option maxRecDepth 100000 in
theorem q_mn_RX0_84 : Cond.methodLinkNest RX0 84 yX5_isIn RX5 ∈ lw_tbl := lw_in0 (i := 302) (by decide +kernel)
set_option maxRecDepth 100000 in
theorem q_ml_RX5_131 : Cond.methodLink RX5 131 yX0_heightOf ∈ lw_tg := lw_in (i := 303) (by decide +kernel) rfl
set_option maxRecDepth 100000 in
theorem q_im_yX0_heightOf : Cond.instanceMethod yX0_heightOf ∈ lw_tg := lw_in (i := 304) (by decide +kernel) rfl
set_option maxRecDepth 100000 in
theorem q_se_yX0_heightOf : Cond.selects RX0 yX0_heightOf yX0_heightOf ∈ lw_tg := lw_in (i := 305) (by decide +kernel) rfl
set_option maxRecDepth 100000 in
theorem q_co_yX0_heightOf : Cond.code yX0_heightOf cX0_heightOf 2 (some .int) ∈ lw_tg := lw_in (i := 306) (by decide +kernel) rfl
set_option maxRecDepth 100000 in
theorem q_ml_RL_49 : Cond.methodLink RL 49 yX5_fewest ∈ lw_tg := lw_in (i := 307) (by decide +kernel) rfl
set_option maxRecDepth 100000 in
theorem q_im_yX5_fewest : Cond.instanceMethod yX5_fewest ∈ lw_tg := lw_in (i := 308) (by decide +kernel) rfl
set_option maxRecDepth 100000 in
theorem q_se_yX5_fewest : Cond.selects RX5 yX5_fewest yX5_fewest ∈ lw_tg := lw_in (i := 309) (by decide +kernel) rfl
set_option maxRecDepth 100000 in
theorem q_co_yX5_fewest : Cond.code yX5_fewest cX5_fewest 4 (some .int) ∈ lw_tg := lw_in (i := 310) (by decide +kernel) rfl
set_option maxRecDepth 100000 in
theorem q_ml_RX5_134 : Cond.methodLink RX5 134 yX5_fewestTries ∈ lw_tg := lw_in (i := 311) (by decide +kernel) rfl
set_option maxRecDepth 100000 in
theorem q_im_yX5_fewestTries : Cond.instanceMethod yX5_fewestTries ∈ lw_tg := lw_in (i := 313) (by decide +kernel) rfl
set_option maxRecDepth 100000 in
theorem q_co_yX5_fewestTries : Cond.code yX5_fewestTries cX5_fewestTries 3 (some .int) ∈ lw_tg := lw_in (i := 314) (by decide +kernel) rfl
set_option maxRecDepth 100000 in
theorem q_ml_RX5_247 : Cond.methodLink RX5 247 yX5_findRow ∈ lw_tg := lw_in (i := 315) (by decide +kernel) rfl
set_option maxRecDepth 100000 in
theorem q_st_yX5_findRow : Cond.static yX5_findRow ∈ lw_tg := lw_in (i := 316) (by decide +kernel) rfl
set_option maxRecDepth 100000 in
theorem q_co_yX5_findRow : Cond.code yX5_findRow cX5_findRow 11 (some .boolean) ∈ lw_tg := lw_in (i := 317) (by decide +kernel) rfl
set_option maxRecDepth 100000 in
theorem q_ml_RX5_252 : Cond.methodLink RX5 252 yX0_become ∈ lw_tg := lw_in (i := 318) (by decide +kernel) rfl
set_option maxRecDepth 100000 in
theorem q_im_yX0_become : Cond.instanceMethod yX0_become ∈ lw_tg := lw_in (i := 319) (by decide +kernel) rfl
set_option maxRecDepth 100000 in
theorem q_se_yX0_become : Cond.selects RX0 yX0_become yX0_become ∈ lw_tg := lw_in (i := 320) (by decide +kernel) rfl
set_option maxRecDepth 100000 in
theorem q_co_yX0_become : Cond.code yX0_become cX0_become 2 (none : Option Jvm.ClassFile.FieldType) ∈ lw_tg := lw_in (i := 321) (by decide +kernel) rfl
set_option maxRecDepth 100000 in
theorem q_ml_RL_53 : Cond.methodLink RL 53 yX5_sand ∈ lw_tg := lw_in (i := 322) (by decide +kernel) rfl
set_option maxRecDepth 100000 in
theorem q_im_yX5_sand : Cond.instanceMethod yX5_sand ∈ lw_tg := lw_in (i := 323) (by decide +kernel) rfl
set_option maxRecDepth 100000 in
theorem q_se_yX5_sand : Cond.selects RX5 yX5_sand yX5_sand ∈ lw_tg := lw_in (i := 324) (by decide +kernel) rfl
set_option maxRecDepth 100000 in
theorem q_co_yX5_sand : Cond.code yX5_sand cX5_sand 4 (some .int) ∈ lw_tg := lw_in (i := 325) (by decide +kernel) rfl
set_option maxRecDepth 100000 in
theorem q_ml_RX5_140 : Cond.methodLink RX5 140 yJ6_bitCount_0f7a4 ∈ lw_tg := lw_in (i := 326) (by decide +kernel) rfl
set_option maxRecDepth 100000 in
theorem q_st_yJ6_bitCount_0f7a4 : Cond.static yJ6_bitCount_0f7a4 ∈ lw_tg := lw_in (i := 327) (by decide +kernel) rfl
set_option maxRecDepth 100000 in
theorem q_co_yJ6_bitCount_0f7a4 : Cond.code yJ6_bitCount_0f7a4 cJ6_bitCount_0f7a4 1 (some .int) ∈ lw_tg := lw_in (i := 328) (by decide +kernel) rfl
set_option maxRecDepth 100000 in
theorem q_k_RJ6_265 : Cond.constant RJ6 265 (1431655765 : Int32) ∈ lw_tg := lw_in (i := 329) (by decide +kernel) rfl
set_option maxRecDepth 100000 in
theorem q_k_RJ6_266 : Cond.constant RJ6 266 (858993459 : Int32) ∈ lw_tg := lw_in (i := 330) (by decide +kernel) rfl
set_option maxRecDepth 100000 in
theorem q_k_RJ6_267 : Cond.constant RJ6 267 (252645135 : Int32) ∈ lw_tg := lw_in (i := 331) (by decide +kernel) rfl
set_option maxRecDepth 100000 in
theorem q_ml_RX5_145 : Cond.methodLink RX5 145 yX3_isUpWithSand ∈ lw_tg := lw_in (i := 332) (by decide +kernel) rfl
set_option maxRecDepth 100000 in
theorem q_im_yX3_isUpWithSand : Cond.instanceMethod yX3_isUpWithSand ∈ lw_tg := lw_in (i := 333) (by decide +kernel) rfl
set_option maxRecDepth 100000 in
theorem q_se_yX3_isUpWithSand : Cond.selects RX3 yX3_isUpWithSand yX3_isUpWithSand ∈ lw_tg := lw_in (i := 334) (by decide +kernel) rfl
set_option maxRecDepth 100000 in
theorem q_co_yX3_isUpWithSand : Cond.code yX3_isUpWithSand cX3_isUpWithSand 5 (some .boolean) ∈ lw_tg := lw_in (i := 335) (by decide +kernel) rfl
set_option maxRecDepth 100000 in
theorem q_ml_RX3_37 : Cond.methodLink RX3 37 yX3_toll ∈ lw_tg := lw_in (i := 336) (by decide +kernel) rfl
set_option maxRecDepth 100000 in
theorem q_ml_RL_58 : Cond.methodLink RL 58 yX5_game ∈ lw_tg := lw_in (i := 337) (by decide +kernel) rfl
set_option maxRecDepth 100000 in
theorem q_im_yX5_game : Cond.instanceMethod yX5_game ∈ lw_tg := lw_in (i := 338) (by decide +kernel) rfl
set_option maxRecDepth 100000 in
theorem q_se_yX5_game : Cond.selects RX5 yX5_game yX5_game ∈ lw_tg := lw_in (i := 339) (by decide +kernel) rfl
set_option maxRecDepth 100000 in
theorem q_co_yX5_game : Cond.code yX5_game cX5_game 5 (some .int) ∈ lw_tg := lw_in (i := 340) (by decide +kernel) rfl
set_option maxRecDepth 100000 in
theorem q_ml_RX5_152 : Cond.methodLink RX5 152 yX5_bestPlay ∈ lw_tg := lw_in (i := 341) (by decide +kernel) rfl
set_option maxRecDepth 100000 in
theorem q_st_yX5_bestPlay : Cond.static yX5_bestPlay ∈ lw_tg := lw_in (i := 342) (by decide +kernel) rfl
set_option maxRecDepth 100000 in
theorem q_co_yX5_bestPlay : Cond.code yX5_bestPlay cX5_bestPlay 11 (some .int) ∈ lw_tg := lw_in (i := 343) (by decide +kernel) rfl
set_option maxRecDepth 100000 in
theorem q_ml_RX5_256 : Cond.methodLink RX5 256 Lib.Math.max.name ∈ lw_tg := lw_in (i := 344) (by decide +kernel) rfl
set_option maxRecDepth 100000 in
theorem q_ml_RX5_189 : Cond.methodLink RX5 189 Lib.Math.min.name ∈ lw_tg := lw_in (i := 345) (by decide +kernel) rfl
set_option maxRecDepth 100000 in
theorem q_ml_RL_62 : Cond.methodLink RL 62 yX5_worth ∈ lw_tg := lw_in (i := 346) (by decide +kernel) rfl
set_option maxRecDepth 100000 in
theorem q_im_yX5_worth : Cond.instanceMethod yX5_worth ∈ lw_tg := lw_in (i := 347) (by decide +kernel) rfl
set_option maxRecDepth 100000 in
theorem q_se_yX5_worth : Cond.selects RX5 yX5_worth yX5_worth ∈ lw_tg := lw_in (i := 348) (by decide +kernel) rfl
set_option maxRecDepth 100000 in
theorem q_co_yX5_worth : Cond.code yX5_worth cX5_worth 2 (some .int) ∈ lw_tg := lw_in (i := 349) (by decide +kernel) rfl
set_option maxRecDepth 100000 in
theorem q_ml_RX5_156 : Cond.methodLink RX5 156 yX5_heightsOfOthers ∈ lw_tg := lw_in (i := 350) (by decide +kernel) rfl
set_option maxRecDepth 100000 in
theorem q_im_yX5_heightsOfOthers : Cond.instanceMethod yX5_heightsOfOthers ∈ lw_tg := lw_in (i := 352) (by decide +kernel) rfl
set_option maxRecDepth 100000 in
theorem q_co_yX5_heightsOfOthers : Cond.code yX5_heightsOfOthers cX5_heightsOfOthers 6 (some .int) ∈ lw_tg := lw_in (i := 353) (by decide +kernel) rfl
set_option maxRecDepth 100000 in
theorem q_ml_RL_66 : Cond.methodLink RL 66 yX5_reading ∈ lw_tg := lw_in (i := 354) (by decide +kernel) rfl
set_option maxRecDepth 100000 in
theorem q_im_yX5_reading : Cond.instanceMethod yX5_reading ∈ lw_tg := lw_in (i := 355) (by decide +kernel) rfl
set_option maxRecDepth 100000 in
theorem q_se_yX5_reading : Cond.selects RX5 yX5_reading yX5_reading ∈ lw_tg := lw_in (i := 356) (by decide +kernel) rfl
set_option maxRecDepth 100000 in
theorem q_co_yX5_reading : Cond.code yX5_reading cX5_reading 3 (some .int) ∈ lw_tg := lw_in (i := 357) (by decide +kernel) rfl
set_option maxRecDepth 100000 in
theorem q_ml_RX5_160 : Cond.methodLink RX5 160 yX1_isFull ∈ lw_tg := lw_in (i := 358) (by decide +kernel) rfl
set_option maxRecDepth 100000 in
theorem q_im_yX1_isFull : Cond.instanceMethod yX1_isFull ∈ lw_tg := lw_in (i := 359) (by decide +kernel) rfl
set_option maxRecDepth 100000 in
theorem q_se_yX1_isFull : Cond.selects RX1 yX1_isFull yX1_isFull ∈ lw_tg := lw_in (i := 360) (by decide +kernel) rfl
set_option maxRecDepth 100000 in
theorem q_co_yX1_isFull : Cond.code yX1_isFull cX1_isFull 1 (some .boolean) ∈ lw_tg := lw_in (i := 361) (by decide +kernel) rfl
set_option maxRecDepth 100000 in
theorem q_ml_RX5_164 : Cond.methodLink RX5 164 yX1_add ∈ lw_tg := lw_in (i := 362) (by decide +kernel) rfl
set_option maxRecDepth 100000 in
theorem q_im_yX1_add : Cond.instanceMethod yX1_add ∈ lw_tg := lw_in (i := 363) (by decide +kernel) rfl
set_option maxRecDepth 100000 in
theorem q_se_yX1_add : Cond.selects RX1 yX1_add yX1_add ∈ lw_tg := lw_in (i := 364) (by decide +kernel) rfl
set_option maxRecDepth 100000 in
theorem q_co_yX1_add : Cond.code yX1_add cX1_add 3 (some .int) ∈ lw_tg := lw_in (i := 365) (by decide +kernel) rfl
set_option maxRecDepth 100000 in
theorem q_ml_RL_70 : Cond.methodLink RL 70 yX5_back ∈ lw_tg := lw_in (i := 366) (by decide +kernel) rfl
set_option maxRecDepth 100000 in
theorem q_im_yX5_back : Cond.instanceMethod yX5_back ∈ lw_tg := lw_in (i := 367) (by decide +kernel) rfl
set_option maxRecDepth 100000 in
theorem q_se_yX5_back : Cond.selects RX5 yX5_back yX5_back ∈ lw_tg := lw_in (i := 368) (by decide +kernel) rfl
set_option maxRecDepth 100000 in
theorem q_co_yX5_back : Cond.code yX5_back cX5_back 2 (some .int) ∈ lw_tg := lw_in (i := 369) (by decide +kernel) rfl
set_option maxRecDepth 100000 in
theorem q_ml_RL_74 : Cond.methodLink RL 74 yX5_speeds ∈ lw_tg := lw_in (i := 370) (by decide +kernel) rfl
set_option maxRecDepth 100000 in
theorem q_im_yX5_speeds : Cond.instanceMethod yX5_speeds ∈ lw_tg := lw_in (i := 371) (by decide +kernel) rfl
set_option maxRecDepth 100000 in
theorem q_se_yX5_speeds : Cond.selects RX5 yX5_speeds yX5_speeds ∈ lw_tg := lw_in (i := 372) (by decide +kernel) rfl
set_option maxRecDepth 100000 in
theorem q_co_yX5_speeds : Cond.code yX5_speeds cX5_speeds 12 (some .int) ∈ lw_tg := lw_in (i := 373) (by decide +kernel) rfl
set_option maxRecDepth 100000 in
theorem q_ml_RX5_168 : Cond.methodLink RX5 168 yX5_readSeen ∈ lw_tg := lw_in (i := 374) (by decide +kernel) rfl
set_option maxRecDepth 100000 in
theorem q_im_yX5_readSeen : Cond.instanceMethod yX5_readSeen ∈ lw_tg := lw_in (i := 376) (by decide +kernel) rfl
set_option maxRecDepth 100000 in
theorem q_co_yX5_readSeen : Cond.code yX5_readSeen cX5_readSeen 7 (some .int) ∈ lw_tg := lw_in (i := 377) (by decide +kernel) rfl
set_option maxRecDepth 100000 in
theorem q_ml_RX5_172 : Cond.methodLink RX5 172 yX5_isSeenWith ∈ lw_tg := lw_in (i := 378) (by decide +kernel) rfl
set_option maxRecDepth 100000 in
theorem q_im_yX5_isSeenWith : Cond.instanceMethod yX5_isSeenWith ∈ lw_tg := lw_in (i := 380) (by decide +kernel) rfl
set_option maxRecDepth 100000 in
theorem q_co_yX5_isSeenWith : Cond.code yX5_isSeenWith cX5_isSeenWith 5 (some .boolean) ∈ lw_tg := lw_in (i := 381) (by decide +kernel) rfl
set_option maxRecDepth 100000 in
theorem q_ml_RX5_259 : Cond.methodLink RX5 259 yX1_areSo ∈ lw_tg := lw_in (i := 382) (by decide +kernel) rfl
set_option maxRecDepth 100000 in
theorem q_im_yX1_areSo : Cond.instanceMethod yX1_areSo ∈ lw_tg := lw_in (i := 383) (by decide +kernel) rfl
set_option maxRecDepth 100000 in
theorem q_se_yX1_areSo : Cond.selects RX1 yX1_areSo yX1_areSo ∈ lw_tg := lw_in (i := 384) (by decide +kernel) rfl
set_option maxRecDepth 100000 in
theorem q_co_yX1_areSo : Cond.code yX1_areSo cX1_areSo 3 (some .boolean) ∈ lw_tg := lw_in (i := 385) (by decide +kernel) rfl
set_option maxRecDepth 100000 in
theorem q_ml_RX1_20 : Cond.methodLink RX1 20 yX0_heightOf ∈ lw_tg := lw_in (i := 386) (by decide +kernel) rfl
set_option maxRecDepth 100000 in
theorem q_ml_RL_79 : Cond.methodLink RL 79 yX5_nails ∈ lw_tg := lw_in (i := 387) (by decide +kernel) rfl
set_option maxRecDepth 100000 in
theorem q_im_yX5_nails : Cond.instanceMethod yX5_nails ∈ lw_tg := lw_in (i := 388) (by decide +kernel) rfl
set_option maxRecDepth 100000 in
theorem q_se_yX5_nails : Cond.selects RX5 yX5_nails yX5_nails ∈ lw_tg := lw_in (i := 389) (by decide +kernel) rfl
set_option maxRecDepth 100000 in
theorem q_co_yX5_nails : Cond.code yX5_nails cX5_nails 7 (some .int) ∈ lw_tg := lw_in (i := 390) (by decide +kernel) rfl
set_option maxRecDepth 100000 in
theorem q_ml_RX5_176 : Cond.methodLink RX5 176 yX5_setSeenWith ∈ lw_tg := lw_in (i := 391) (by decide +kernel) rfl
set_option maxRecDepth 100000 in
theorem q_im_yX5_setSeenWith : Cond.instanceMethod yX5_setSeenWith ∈ lw_tg := lw_in (i := 393) (by decide +kernel) rfl
set_option maxRecDepth 100000 in
theorem q_co_yX5_setSeenWith : Cond.code yX5_setSeenWith cX5_setSeenWith 8 (some .int) ∈ lw_tg := lw_in (i := 394) (by decide +kernel) rfl
set_option maxRecDepth 100000 in
theorem q_ml_RL_83 : Cond.methodLink RL 83 yX5_slicks ∈ lw_tg := lw_in (i := 395) (by decide +kernel) rfl
set_option maxRecDepth 100000 in
theorem q_im_yX5_slicks : Cond.instanceMethod yX5_slicks ∈ lw_tg := lw_in (i := 396) (by decide +kernel) rfl
set_option maxRecDepth 100000 in
theorem q_se_yX5_slicks : Cond.selects RX5 yX5_slicks yX5_slicks ∈ lw_tg := lw_in (i := 397) (by decide +kernel) rfl
set_option maxRecDepth 100000 in
theorem q_co_yX5_slicks : Cond.code yX5_slicks cX5_slicks 7 (some .int) ∈ lw_tg := lw_in (i := 398) (by decide +kernel) rfl
set_option maxRecDepth 100000 in
theorem q_ml_RL_87 : Cond.methodLink RL 87 yX5_kinds ∈ lw_tg := lw_in (i := 399) (by decide +kernel) rfl
set_option maxRecDepth 100000 in
theorem q_im_yX5_kinds : Cond.instanceMethod yX5_kinds ∈ lw_tg := lw_in (i := 400) (by decide +kernel) rfl
set_option maxRecDepth 100000 in
theorem q_se_yX5_kinds : Cond.selects RX5 yX5_kinds yX5_kinds ∈ lw_tg := lw_in (i := 401) (by decide +kernel) rfl
set_option maxRecDepth 100000 in
theorem q_co_yX5_kinds : Cond.code yX5_kinds cX5_kinds 7 (some .int) ∈ lw_tg := lw_in (i := 402) (by decide +kernel) rfl
set_option maxRecDepth 100000 in
theorem q_ml_RL_91 : Cond.methodLink RL 91 yX5_odds ∈ lw_tg := lw_in (i := 403) (by decide +kernel) rfl
set_option maxRecDepth 100000 in
theorem q_im_yX5_odds : Cond.instanceMethod yX5_odds ∈ lw_tg := lw_in (i := 404) (by decide +kernel) rfl
set_option maxRecDepth 100000 in
theorem q_se_yX5_odds : Cond.selects RX5 yX5_odds yX5_odds ∈ lw_tg := lw_in (i := 405) (by decide +kernel) rfl
set_option maxRecDepth 100000 in
theorem q_co_yX5_odds : Cond.code yX5_odds cX5_odds 10 (some .long) ∈ lw_tg := lw_in (i := 406) (by decide +kernel) rfl
set_option maxRecDepth 100000 in
theorem q_k_RX5_180 : Cond.constantLong RX5 180 (-9223372036854775808 : Int64) ∈ lw_tg := lw_in (i := 407) (by decide +kernel) rfl
set_option maxRecDepth 100000 in
theorem q_ml_RX5_182 : Cond.methodLink RX5 182 yX5_weathersUp ∈ lw_tg := lw_in (i := 408) (by decide +kernel) rfl
set_option maxRecDepth 100000 in
theorem q_st_yX5_weathersUp : Cond.static yX5_weathersUp ∈ lw_tg := lw_in (i := 409) (by decide +kernel) rfl
set_option maxRecDepth 100000 in
theorem q_co_yX5_weathersUp : Cond.code yX5_weathersUp cX5_weathersUp 8 (some .int) ∈ lw_tg := lw_in (i := 410) (by decide +kernel) rfl
set_option maxRecDepth 100000 in
theorem q_ml_RX5_186 : Cond.methodLink RX5 186 yJ6_numberOfTrailingZeros_0f7a4 ∈ lw_tg := lw_in (i := 411) (by decide +kernel) rfl
set_option maxRecDepth 100000 in
theorem q_st_yJ6_numberOfTrailingZeros_0f7a4 : Cond.static yJ6_numberOfTrailingZeros_0f7a4 ∈ lw_tg := lw_in (i := 412) (by decide +kernel) rfl
set_option maxRecDepth 100000 in
theorem q_co_yJ6_numberOfTrailingZeros_0f7a4 : Cond.code yJ6_numberOfTrailingZeros_0f7a4 cJ6_numberOfTrailingZeros_0f7a4 2 (some .int) ∈ lw_tg := lw_in (i := 413) (by decide +kernel) rfl
set_option maxRecDepth 100000 in
theorem q_k_RJ6_264 : Cond.constant RJ6 264 (65536 : Int32) ∈ lw_tg := lw_in (i := 414) (by decide +kernel) rfl
set_option maxRecDepth 100000 in
theorem q_ml_RL_96 : Cond.methodLink RL 96 yX5_sheet ∈ lw_tg := lw_in (i := 415) (by decide +kernel) rfl
set_option maxRecDepth 100000 in
theorem q_im_yX5_sheet : Cond.instanceMethod yX5_sheet ∈ lw_tg := lw_in (i := 416) (by decide +kernel) rfl
set_option maxRecDepth 100000 in
theorem q_se_yX5_sheet : Cond.selects RX5 yX5_sheet yX5_sheet ∈ lw_tg := lw_in (i := 417) (by decide +kernel) rfl
set_option maxRecDepth 100000 in
theorem q_co_yX5_sheet : Cond.code yX5_sheet cX5_sheet 4 (some .int) ∈ lw_tg := lw_in (i := 418) (by decide +kernel) rfl
set_option maxRecDepth 100000 in
theorem q_ml_RX5_194 : Cond.methodLink RX5 194 yX2_renew ∈ lw_tg := lw_in (i := 419) (by decide +kernel) rfl
set_option maxRecDepth 100000 in
theorem q_im_yX2_renew : Cond.instanceMethod yX2_renew ∈ lw_tg := lw_in (i := 420) (by decide +kernel) rfl
set_option maxRecDepth 100000 in
theorem q_se_yX2_renew : Cond.selects RX2 yX2_renew yX2_renew ∈ lw_tg := lw_in (i := 421) (by decide +kernel) rfl
set_option maxRecDepth 100000 in
theorem q_co_yX2_renew : Cond.code yX2_renew cX2_renew 3 (none : Option Jvm.ClassFile.FieldType) ∈ lw_tg := lw_in (i := 422) (by decide +kernel) rfl
set_option maxRecDepth 100000 in
theorem q_ml_RX2_22 : Cond.methodLink RX2 22 yJ7_fill_53178 ∈ lw_tg := lw_in (i := 423) (by decide +kernel) rfl
set_option maxRecDepth 100000 in
theorem q_ml_RL_100 : Cond.methodLink RL 100 yX5_lose ∈ lw_tg := lw_in (i := 424) (by decide +kernel) rfl
set_option maxRecDepth 100000 in
theorem q_im_yX5_lose : Cond.instanceMethod yX5_lose ∈ lw_tg := lw_in (i := 425) (by decide +kernel) rfl
set_option maxRecDepth 100000 in
theorem q_se_yX5_lose : Cond.selects RX5 yX5_lose yX5_lose ∈ lw_tg := lw_in (i := 426) (by decide +kernel) rfl
set_option maxRecDepth 100000 in
theorem q_co_yX5_lose : Cond.code yX5_lose cX5_lose 3 (some .int) ∈ lw_tg := lw_in (i := 427) (by decide +kernel) rfl
set_option maxRecDepth 100000 in
theorem q_ml_RL_104 : Cond.methodLink RL 104 yX5_put ∈ lw_tg := lw_in (i := 428) (by decide +kernel) rfl
set_option maxRecDepth 100000 in
theorem q_im_yX5_put : Cond.instanceMethod yX5_put ∈ lw_tg := lw_in (i := 429) (by decide +kernel) rfl
set_option maxRecDepth 100000 in
theorem q_se_yX5_put : Cond.selects RX5 yX5_put yX5_put ∈ lw_tg := lw_in (i := 430) (by decide +kernel) rfl
set_option maxRecDepth 100000 in
theorem q_co_yX5_put : Cond.code yX5_put cX5_put 6 (some .int) ∈ lw_tg := lw_in (i := 431) (by decide +kernel) rfl
set_option maxRecDepth 100000 in
theorem q_ml_RX5_204 : Cond.methodLink RX5 204 yX2_lay ∈ lw_tg := lw_in (i := 432) (by decide +kernel) rfl
set_option maxRecDepth 100000 in
theorem q_im_yX2_lay : Cond.instanceMethod yX2_lay ∈ lw_tg := lw_in (i := 433) (by decide +kernel) rfl
set_option maxRecDepth 100000 in
theorem q_se_yX2_lay : Cond.selects RX2 yX2_lay yX2_lay ∈ lw_tg := lw_in (i := 434) (by decide +kernel) rfl
set_option maxRecDepth 100000 in
theorem q_co_yX2_lay : Cond.code yX2_lay cX2_lay 3 (none : Option Jvm.ClassFile.FieldType) ∈ lw_tg := lw_in (i := 435) (by decide +kernel) rfl
set_option maxRecDepth 100000 in
theorem q_ml_RL_108 : Cond.methodLink RL 108 yX5_cell ∈ lw_tg := lw_in (i := 436) (by decide +kernel) rfl
set_option maxRecDepth 100000 in
theorem q_im_yX5_cell : Cond.instanceMethod yX5_cell ∈ lw_tg := lw_in (i := 437) (by decide +kernel) rfl
set_option maxRecDepth 100000 in
theorem q_se_yX5_cell : Cond.selects RX5 yX5_cell yX5_cell ∈ lw_tg := lw_in (i := 438) (by decide +kernel) rfl
set_option maxRecDepth 100000 in
theorem q_co_yX5_cell : Cond.code yX5_cell cX5_cell 5 (some .long) ∈ lw_tg := lw_in (i := 439) (by decide +kernel) rfl
set_option maxRecDepth 100000 in
theorem q_ml_RL_113 : Cond.methodLink RL 113 yX5_copy ∈ lw_tg := lw_in (i := 440) (by decide +kernel) rfl
set_option maxRecDepth 100000 in
theorem q_im_yX5_copy : Cond.instanceMethod yX5_copy ∈ lw_tg := lw_in (i := 441) (by decide +kernel) rfl
set_option maxRecDepth 100000 in
theorem q_se_yX5_copy : Cond.selects RX5 yX5_copy yX5_copy ∈ lw_tg := lw_in (i := 442) (by decide +kernel) rfl
set_option maxRecDepth 100000 in
theorem q_co_yX5_copy : Cond.code yX5_copy cX5_copy 8 (some .int) ∈ lw_tg := lw_in (i := 443) (by decide +kernel) rfl
set_option maxRecDepth 100000 in
theorem q_ml_RX5_213 : Cond.methodLink RX5 213 arraycopyName ∈ lw_tg := lw_in (i := 444) (by decide +kernel) rfl
set_option maxRecDepth 100000 in
theorem q_ml_RL_117 : Cond.methodLink RL 117 yX5_tell ∈ lw_tg := lw_in (i := 445) (by decide +kernel) rfl
set_option maxRecDepth 100000 in
theorem q_im_yX5_tell : Cond.instanceMethod yX5_tell ∈ lw_tg := lw_in (i := 446) (by decide +kernel) rfl
set_option maxRecDepth 100000 in
theorem q_se_yX5_tell : Cond.selects RX5 yX5_tell yX5_tell ∈ lw_tg := lw_in (i := 447) (by decide +kernel) rfl
set_option maxRecDepth 100000 in
theorem q_co_yX5_tell : Cond.code yX5_tell cX5_tell 2 (some .int) ∈ lw_tg := lw_in (i := 448) (by decide +kernel) rfl
set_option maxRecDepth 100000 in
theorem q_ml_RX5_219 : Cond.methodLink RX5 219 yX5_tellAsLad ∈ lw_tg := lw_in (i := 449) (by decide +kernel) rfl
set_option maxRecDepth 100000 in
theorem q_im_yX5_tellAsLad : Cond.instanceMethod yX5_tellAsLad ∈ lw_tg := lw_in (i := 451) (by decide +kernel) rfl
set_option maxRecDepth 100000 in
theorem q_co_yX5_tellAsLad : Cond.code yX5_tellAsLad cX5_tellAsLad 3 (some .int) ∈ lw_tg := lw_in (i := 452) (by decide +kernel) rfl
set_option maxRecDepth 100000 in
theorem q_ml_RX5_228 : Cond.methodLink RX5 228 yX5_leave ∈ lw_tg := lw_in (i := 453) (by decide +kernel) rfl
set_option maxRecDepth 100000 in
theorem q_im_yX5_leave : Cond.instanceMethod yX5_leave ∈ lw_tg := lw_in (i := 455) (by decide +kernel) rfl
set_option maxRecDepth 100000 in
theorem q_co_yX5_leave : Cond.code yX5_leave cX5_leave 2 (none : Option Jvm.ClassFile.FieldType) ∈ lw_tg := lw_in (i := 456) (by decide +kernel) rfl
set_option maxRecDepth 100000 in
theorem q_ml_RX5_222 : Cond.methodLink RX5 222 yX5_tellAsNight ∈ lw_tg := lw_in (i := 457) (by decide +kernel) rfl
set_option maxRecDepth 100000 in
theorem q_im_yX5_tellAsNight : Cond.instanceMethod yX5_tellAsNight ∈ lw_tg := lw_in (i := 459) (by decide +kernel) rfl
set_option maxRecDepth 100000 in
theorem q_co_yX5_tellAsNight : Cond.code yX5_tellAsNight cX5_tellAsNight 2 (some .int) ∈ lw_tg := lw_in (i := 460) (by decide +kernel) rfl
set_option maxRecDepth 100000 in
theorem q_ml_RX5_225 : Cond.methodLink RX5 225 yX5_tellAsRider ∈ lw_tg := lw_in (i := 461) (by decide +kernel) rfl
set_option maxRecDepth 100000 in
theorem q_im_yX5_tellAsRider : Cond.instanceMethod yX5_tellAsRider ∈ lw_tg := lw_in (i := 463) (by decide +kernel) rfl
set_option maxRecDepth 100000 in
theorem q_co_yX5_tellAsRider : Cond.code yX5_tellAsRider cX5_tellAsRider 2 (some .int) ∈ lw_tg := lw_in (i := 464) (by decide +kernel) rfl
set_option maxRecDepth 100000 in
theorem q_ml_RL_121 : Cond.methodLink RL 121 yX5_cheer ∈ lw_tg := lw_in (i := 465) (by decide +kernel) rfl
set_option maxRecDepth 100000 in
theorem q_im_yX5_cheer : Cond.instanceMethod yX5_cheer ∈ lw_tg := lw_in (i := 466) (by decide +kernel) rfl
set_option maxRecDepth 100000 in
theorem q_se_yX5_cheer : Cond.selects RX5 yX5_cheer yX5_cheer ∈ lw_tg := lw_in (i := 467) (by decide +kernel) rfl
set_option maxRecDepth 100000 in
theorem q_co_yX5_cheer : Cond.code yX5_cheer cX5_cheer 2 (some .int) ∈ lw_tg := lw_in (i := 468) (by decide +kernel) rfl
set_option maxRecDepth 100000 in
theorem q_ml_RL_125 : Cond.methodLink RL 125 yX5_as ∈ lw_tg := lw_in (i := 469) (by decide +kernel) rfl
set_option maxRecDepth 100000 in
theorem q_im_yX5_as : Cond.instanceMethod yX5_as ∈ lw_tg := lw_in (i := 470) (by decide +kernel) rfl
set_option maxRecDepth 100000 in
theorem q_se_yX5_as : Cond.selects RX5 yX5_as yX5_as ∈ lw_tg := lw_in (i := 471) (by decide +kernel) rfl
set_option maxRecDepth 100000 in
theorem q_co_yX5_as : Cond.code yX5_as cX5_as 3 (some .int) ∈ lw_tg := lw_in (i := 472) (by decide +kernel) rfl
set_option maxRecDepth 100000 in
theorem q_ml_RL_129 : Cond.methodLink RL 129 yX5_trace ∈ lw_tg := lw_in (i := 473) (by decide +kernel) rfl
set_option maxRecDepth 100000 in
theorem q_im_yX5_trace : Cond.instanceMethod yX5_trace ∈ lw_tg := lw_in (i := 474) (by decide +kernel) rfl
set_option maxRecDepth 100000 in
theorem q_se_yX5_trace : Cond.selects RX5 yX5_trace yX5_trace ∈ lw_tg := lw_in (i := 475) (by decide +kernel) rfl
set_option maxRecDepth 100000 in
theorem q_co_yX5_trace : Cond.code yX5_trace cX5_trace 1 (some .int) ∈ lw_tg := lw_in (i := 476) (by decide +kernel) rfl
set_option maxRecDepth 100000 in
theorem q_ml_RL_134 : Cond.methodLink RL 134 yX5_fault ∈ lw_tg := lw_in (i := 477) (by decide +kernel) rfl
set_option maxRecDepth 100000 in
theorem q_im_yX5_fault : Cond.instanceMethod yX5_fault ∈ lw_tg := lw_in (i := 478) (by decide +kernel) rfl
set_option maxRecDepth 100000 in
theorem q_se_yX5_fault : Cond.selects RX5 yX5_fault yX5_fault ∈ lw_tg := lw_in (i := 479) (by decide +kernel) rfl
set_option maxRecDepth 100000 in
theorem q_co_yX5_fault : Cond.code yX5_fault cX5_fault 1 (some .int) ∈ lw_tg := lw_in (i := 480) (by decide +kernel) rfl
set_option maxRecDepth 100000 in
theorem q_ml_RL_138 : Cond.methodLink RL 138 yX5_many ∈ lw_tg := lw_in (i := 481) (by decide +kernel) rfl
set_option maxRecDepth 100000 in
theorem q_im_yX5_many : Cond.instanceMethod yX5_many ∈ lw_tg := lw_in (i := 482) (by decide +kernel) rfl
set_option maxRecDepth 100000 in
theorem q_se_yX5_many : Cond.selects RX5 yX5_many yX5_many ∈ lw_tg := lw_in (i := 483) (by decide +kernel) rfl
set_option maxRecDepth 100000 in
theorem q_co_yX5_many : Cond.code yX5_many cX5_many 2 (some .int) ∈ lw_tg := lw_in (i := 484) (by decide +kernel) rfl
set_option maxRecDepth 100000 in
theorem q_cl_RL_10 : Cond.classLink RL 10 RX6 ∈ lw_tg := lw_in (i := 485) (by decide +kernel) rfl
set_option maxRecDepth 100000 in
theorem q_is_RX6 : Cond.instantiable RX6 30 ∈ lw_tg := lw_in (i := 486) (by decide +kernel) rfl
set_option maxRecDepth 100000 in
theorem q_ml_RL_12 : Cond.methodLink RL 12 yX6_init ∈ lw_tg := lw_in (i := 487) (by decide +kernel) rfl
set_option maxRecDepth 100000 in
theorem q_im_yX6_init : Cond.instanceMethod yX6_init ∈ lw_tg := lw_in (i := 488) (by decide +kernel) rfl
set_option maxRecDepth 100000 in
theorem q_co_yX6_init : Cond.code yX6_init cX6_init 1 (none : Option Jvm.ClassFile.FieldType) ∈ lw_tg := lw_in (i := 489) (by decide +kernel) rfl
set_option maxRecDepth 100000 in
theorem q_ml_RX6_1 : Cond.methodLink RX6 1 objectInit ∈ lw_tg := lw_in (i := 490) (by decide +kernel) rfl
set_option maxRecDepth 100000 in
theorem q_fl_RX6_61 : Cond.fieldLink RX6 61 "GlassHillModel" "fault" "I" ∈ lw_tg := lw_in (i := 491) (by decide +kernel) rfl
set_option maxRecDepth 100000 in
theorem q_fl_RX6_213 : Cond.fieldLink RX6 213 "GlassHillModel" "trace" "I" ∈ lw_tg := lw_in (i := 492) (by decide +kernel) rfl
set_option maxRecDepth 100000 in
theorem q_fl_RX6_9 : Cond.fieldLink RX6 9 "GlassHillModel" "sorts" "[I" ∈ lw_tg := lw_in (i := 493) (by decide +kernel) rfl
set_option maxRecDepth 100000 in
theorem q_fl_RX6_13 : Cond.fieldLink RX6 13 "GlassHillModel" "sheetLong" "[I" ∈ lw_tg := lw_in (i := 494) (by decide +kernel) rfl
set_option maxRecDepth 100000 in
theorem q_fl_RX6_16 : Cond.fieldLink RX6 16 "GlassHillModel" "cells" "[I" ∈ lw_tg := lw_in (i := 495) (by decide +kernel) rfl
set_option maxRecDepth 100000 in
theorem q_fl_RX6_71 : Cond.fieldLink RX6 71 "GlassHillModel" "paces" "I" ∈ lw_tg := lw_in (i := 496) (by decide +kernel) rfl
set_option maxRecDepth 100000 in
theorem q_fl_RX6_74 : Cond.fieldLink RX6 74 "GlassHillModel" "riders" "I" ∈ lw_tg := lw_in (i := 497) (by decide +kernel) rfl
set_option maxRecDepth 100000 in
theorem q_fl_RX6_19 : Cond.fieldLink RX6 19 "GlassHillModel" "slick" "[I" ∈ lw_tg := lw_in (i := 498) (by decide +kernel) rfl
set_option maxRecDepth 100000 in
theorem q_fl_RX6_22 : Cond.fieldLink RX6 22 "GlassHillModel" "ahead" "[I" ∈ lw_tg := lw_in (i := 499) (by decide +kernel) rfl
set_option maxRecDepth 100000 in
theorem q_fl_RX6_25 : Cond.fieldLink RX6 25 "GlassHillModel" "kind" "[I" ∈ lw_tg := lw_in (i := 500) (by decide +kernel) rfl
set_option maxRecDepth 100000 in
theorem q_fl_RX6_28 : Cond.fieldLink RX6 28 "GlassHillModel" "speedOf" "[I" ∈ lw_tg := lw_in (i := 501) (by decide +kernel) rfl
set_option maxRecDepth 100000 in
theorem q_fl_RX6_31 : Cond.fieldLink RX6 31 "GlassHillModel" "nailsOf" "[I" ∈ lw_tg := lw_in (i := 502) (by decide +kernel) rfl
set_option maxRecDepth 100000 in
theorem q_fl_RX6_77 : Cond.fieldLink RX6 77 "GlassHillModel" "at" "I" ∈ lw_tg := lw_in (i := 503) (by decide +kernel) rfl
set_option maxRecDepth 100000 in
theorem q_fl_RX6_98 : Cond.fieldLink RX6 98 "GlassHillModel" "readPaces" "I" ∈ lw_tg := lw_in (i := 504) (by decide +kernel) rfl
set_option maxRecDepth 100000 in
theorem q_fl_RX6_101 : Cond.fieldLink RX6 101 "GlassHillModel" "readMany" "I" ∈ lw_tg := lw_in (i := 505) (by decide +kernel) rfl
set_option maxRecDepth 100000 in
theorem q_fl_RX6_34 : Cond.fieldLink RX6 34 "GlassHillModel" "readSlick" "[I" ∈ lw_tg := lw_in (i := 506) (by decide +kernel) rfl
set_option maxRecDepth 100000 in
theorem q_fl_RX6_37 : Cond.fieldLink RX6 37 "GlassHillModel" "read" "[I" ∈ lw_tg := lw_in (i := 507) (by decide +kernel) rfl
set_option maxRecDepth 100000 in
theorem q_fl_RX6_40 : Cond.fieldLink RX6 40 "GlassHillModel" "scratches" "[I" ∈ lw_tg := lw_in (i := 508) (by decide +kernel) rfl
set_option maxRecDepth 100000 in
theorem q_fl_RX6_43 : Cond.fieldLink RX6 43 "GlassHillModel" "tries" "[I" ∈ lw_tg := lw_in (i := 509) (by decide +kernel) rfl
set_option maxRecDepth 100000 in
theorem q_fl_RX6_46 : Cond.fieldLink RX6 46 "GlassHillModel" "height" "[I" ∈ lw_tg := lw_in (i := 510) (by decide +kernel) rfl
set_option maxRecDepth 100000 in
theorem q_fl_RX6_130 : Cond.fieldLink RX6 130 "GlassHillModel" "up" "I" ∈ lw_tg := lw_in (i := 511) (by decide +kernel) rfl
set_option maxRecDepth 100000 in
theorem q_fl_RX6_133 : Cond.fieldLink RX6 133 "GlassHillModel" "steps" "I" ∈ lw_tg := lw_in (i := 512) (by decide +kernel) rfl
set_option maxRecDepth 100000 in
theorem q_fl_RX6_49 : Cond.fieldLink RX6 49 "GlassHillModel" "step" "[I" ∈ lw_tg := lw_in (i := 513) (by decide +kernel) rfl
set_option maxRecDepth 100000 in
theorem q_fl_RX6_139 : Cond.fieldLink RX6 139 "GlassHillModel" "firstUp" "I" ∈ lw_tg := lw_in (i := 514) (by decide +kernel) rfl
set_option maxRecDepth 100000 in
theorem q_fl_RX6_165 : Cond.fieldLink RX6 165 "GlassHillModel" "foundLong" "I" ∈ lw_tg := lw_in (i := 515) (by decide +kernel) rfl
set_option maxRecDepth 100000 in
theorem q_fl_RX6_172 : Cond.fieldLink RX6 172 "GlassHillModel" "foundNumber" "I" ∈ lw_tg := lw_in (i := 516) (by decide +kernel) rfl
set_option maxRecDepth 100000 in
theorem q_fl_RX6_52 : Cond.fieldLink RX6 52 "GlassHillModel" "ends" "[I" ∈ lw_tg := lw_in (i := 517) (by decide +kernel) rfl
set_option maxRecDepth 100000 in
theorem q_fl_RX6_104 : Cond.fieldLink RX6 104 "GlassHillModel" "readings" "I" ∈ lw_tg := lw_in (i := 518) (by decide +kernel) rfl
set_option maxRecDepth 100000 in
theorem q_fl_RX6_55 : Cond.fieldLink RX6 55 "GlassHillModel" "readRiderOf" "[I" ∈ lw_tg := lw_in (i := 519) (by decide +kernel) rfl
set_option maxRecDepth 100000 in
theorem q_fl_RX6_58 : Cond.fieldLink RX6 58 "GlassHillModel" "readHeight" "[I" ∈ lw_tg := lw_in (i := 520) (by decide +kernel) rfl
set_option maxRecDepth 100000 in
theorem q_ml_RL_17 : Cond.methodLink RL 17 yX6_hill ∈ lw_tg := lw_in (i := 582) (by decide +kernel) rfl
set_option maxRecDepth 100000 in
theorem q_im_yX6_hill : Cond.instanceMethod yX6_hill ∈ lw_tg := lw_in (i := 583) (by decide +kernel) rfl
set_option maxRecDepth 100000 in
theorem q_se_yX6_hill : Cond.selects RX6 yX6_hill yX6_hill ∈ lw_tg := lw_in (i := 584) (by decide +kernel) rfl
set_option maxRecDepth 100000 in
theorem q_co_yX6_hill : Cond.code yX6_hill cX6_hill 8 (some .int) ∈ lw_tg := lw_in (i := 585) (by decide +kernel) rfl
set_option maxRecDepth 100000 in
theorem q_ml_RX6_80 : Cond.methodLink RX6 80 yX6_isSheet ∈ lw_tg := lw_in (i := 586) (by decide +kernel) rfl
set_option maxRecDepth 100000 in
theorem q_st_yX6_isSheet : Cond.static yX6_isSheet ∈ lw_tg := lw_in (i := 587) (by decide +kernel) rfl
set_option maxRecDepth 100000 in
theorem q_co_yX6_isSheet : Cond.code yX6_isSheet cX6_isSheet 1 (some .boolean) ∈ lw_tg := lw_in (i := 588) (by decide +kernel) rfl
set_option maxRecDepth 100000 in
theorem q_ml_RX6_67 : Cond.methodLink RX6 67 yX6_within ∈ lw_tg := lw_in (i := 589) (by decide +kernel) rfl
set_option maxRecDepth 100000 in
theorem q_st_yX6_within : Cond.static yX6_within ∈ lw_tg := lw_in (i := 590) (by decide +kernel) rfl
set_option maxRecDepth 100000 in
theorem q_co_yX6_within : Cond.code yX6_within cX6_within 3 (some .boolean) ∈ lw_tg := lw_in (i := 591) (by decide +kernel) rfl
set_option maxRecDepth 100000 in
theorem q_ml_RX6_84 : Cond.methodLink RX6 84 yX6_isSort ∈ lw_tg := lw_in (i := 592) (by decide +kernel) rfl
set_option maxRecDepth 100000 in
theorem q_st_yX6_isSort : Cond.static yX6_isSort ∈ lw_tg := lw_in (i := 593) (by decide +kernel) rfl
set_option maxRecDepth 100000 in
theorem q_co_yX6_isSort : Cond.code yX6_isSort cX6_isSort 1 (some .boolean) ∈ lw_tg := lw_in (i := 594) (by decide +kernel) rfl
set_option maxRecDepth 100000 in
theorem q_ml_RX6_87 : Cond.methodLink RX6 87 yX6_against ∈ lw_tg := lw_in (i := 595) (by decide +kernel) rfl
set_option maxRecDepth 100000 in
theorem q_im_yX6_against : Cond.instanceMethod yX6_against ∈ lw_tg := lw_in (i := 597) (by decide +kernel) rfl
set_option maxRecDepth 100000 in
theorem q_co_yX6_against : Cond.code yX6_against cX6_against 5 (some .int) ∈ lw_tg := lw_in (i := 598) (by decide +kernel) rfl
set_option maxRecDepth 100000 in
theorem q_ml_RX6_91 : Cond.methodLink RX6 91 yX6_fails ∈ lw_tg := lw_in (i := 599) (by decide +kernel) rfl
set_option maxRecDepth 100000 in
theorem q_im_yX6_fails : Cond.instanceMethod yX6_fails ∈ lw_tg := lw_in (i := 601) (by decide +kernel) rfl
set_option maxRecDepth 100000 in
theorem q_co_yX6_fails : Cond.code yX6_fails cX6_fails 2 (some .int) ∈ lw_tg := lw_in (i := 602) (by decide +kernel) rfl
set_option maxRecDepth 100000 in
theorem q_ml_RX6_95 : Cond.methodLink RX6 95 yX6_readHill ∈ lw_tg := lw_in (i := 603) (by decide +kernel) rfl
set_option maxRecDepth 100000 in
theorem q_im_yX6_readHill : Cond.instanceMethod yX6_readHill ∈ lw_tg := lw_in (i := 605) (by decide +kernel) rfl
set_option maxRecDepth 100000 in
theorem q_co_yX6_readHill : Cond.code yX6_readHill cX6_readHill 3 (some .boolean) ∈ lw_tg := lw_in (i := 606) (by decide +kernel) rfl
set_option maxRecDepth 100000 in
theorem q_ml_RX6_107 : Cond.methodLink RX6 107 yX6_isSign ∈ lw_tg := lw_in (i := 607) (by decide +kernel) rfl
set_option maxRecDepth 100000 in
theorem q_im_yX6_isSign : Cond.instanceMethod yX6_isSign ∈ lw_tg := lw_in (i := 609) (by decide +kernel) rfl
set_option maxRecDepth 100000 in
theorem q_co_yX6_isSign : Cond.code yX6_isSign cX6_isSign 3 (some .boolean) ∈ lw_tg := lw_in (i := 610) (by decide +kernel) rfl
set_option maxRecDepth 100000 in
theorem q_ml_RX6_111 : Cond.methodLink RX6 111 yX6_digit ∈ lw_tg := lw_in (i := 611) (by decide +kernel) rfl
set_option maxRecDepth 100000 in
theorem q_im_yX6_digit : Cond.instanceMethod yX6_digit ∈ lw_tg := lw_in (i := 613) (by decide +kernel) rfl
set_option maxRecDepth 100000 in
theorem q_co_yX6_digit : Cond.code yX6_digit cX6_digit 4 (some .int) ∈ lw_tg := lw_in (i := 614) (by decide +kernel) rfl
set_option maxRecDepth 100000 in
theorem q_ml_RX6_115 : Cond.methodLink RX6 115 yX6_readRider ∈ lw_tg := lw_in (i := 615) (by decide +kernel) rfl
set_option maxRecDepth 100000 in
theorem q_im_yX6_readRider : Cond.instanceMethod yX6_readRider ∈ lw_tg := lw_in (i := 617) (by decide +kernel) rfl
set_option maxRecDepth 100000 in
theorem q_co_yX6_readRider : Cond.code yX6_readRider cX6_readRider 6 (some .boolean) ∈ lw_tg := lw_in (i := 618) (by decide +kernel) rfl
set_option maxRecDepth 100000 in
theorem q_ml_RL_22 : Cond.methodLink RL 22 yX6_ofPace ∈ lw_tg := lw_in (i := 619) (by decide +kernel) rfl
set_option maxRecDepth 100000 in
theorem q_im_yX6_ofPace : Cond.instanceMethod yX6_ofPace ∈ lw_tg := lw_in (i := 620) (by decide +kernel) rfl
set_option maxRecDepth 100000 in
theorem q_se_yX6_ofPace : Cond.selects RX6 yX6_ofPace yX6_ofPace ∈ lw_tg := lw_in (i := 621) (by decide +kernel) rfl
set_option maxRecDepth 100000 in
theorem q_co_yX6_ofPace : Cond.code yX6_ofPace cX6_ofPace 3 (some .int) ∈ lw_tg := lw_in (i := 622) (by decide +kernel) rfl
set_option maxRecDepth 100000 in
theorem q_ml_RX6_118 : Cond.methodLink RX6 118 yX6_isPace ∈ lw_tg := lw_in (i := 623) (by decide +kernel) rfl
set_option maxRecDepth 100000 in
theorem q_im_yX6_isPace : Cond.instanceMethod yX6_isPace ∈ lw_tg := lw_in (i := 625) (by decide +kernel) rfl
set_option maxRecDepth 100000 in
theorem q_co_yX6_isPace : Cond.code yX6_isPace cX6_isPace 2 (some .boolean) ∈ lw_tg := lw_in (i := 626) (by decide +kernel) rfl
set_option maxRecDepth 100000 in
theorem q_ml_RL_26 : Cond.methodLink RL 26 yX6_ofRider ∈ lw_tg := lw_in (i := 627) (by decide +kernel) rfl
set_option maxRecDepth 100000 in
theorem q_im_yX6_ofRider : Cond.instanceMethod yX6_ofRider ∈ lw_tg := lw_in (i := 628) (by decide +kernel) rfl
set_option maxRecDepth 100000 in
theorem q_se_yX6_ofRider : Cond.selects RX6 yX6_ofRider yX6_ofRider ∈ lw_tg := lw_in (i := 629) (by decide +kernel) rfl
set_option maxRecDepth 100000 in
theorem q_co_yX6_ofRider : Cond.code yX6_ofRider cX6_ofRider 3 (some .int) ∈ lw_tg := lw_in (i := 630) (by decide +kernel) rfl
set_option maxRecDepth 100000 in
theorem q_ml_RX6_121 : Cond.methodLink RX6 121 yX6_isRider ∈ lw_tg := lw_in (i := 631) (by decide +kernel) rfl
set_option maxRecDepth 100000 in
theorem q_im_yX6_isRider : Cond.instanceMethod yX6_isRider ∈ lw_tg := lw_in (i := 633) (by decide +kernel) rfl
set_option maxRecDepth 100000 in
theorem q_co_yX6_isRider : Cond.code yX6_isRider cX6_isRider 2 (some .boolean) ∈ lw_tg := lw_in (i := 634) (by decide +kernel) rfl
set_option maxRecDepth 100000 in
theorem q_ml_RL_30 : Cond.methodLink RL 30 yX6_scratch ∈ lw_tg := lw_in (i := 635) (by decide +kernel) rfl
set_option maxRecDepth 100000 in
theorem q_im_yX6_scratch : Cond.instanceMethod yX6_scratch ∈ lw_tg := lw_in (i := 636) (by decide +kernel) rfl
set_option maxRecDepth 100000 in
theorem q_se_yX6_scratch : Cond.selects RX6 yX6_scratch yX6_scratch ∈ lw_tg := lw_in (i := 637) (by decide +kernel) rfl
set_option maxRecDepth 100000 in
theorem q_co_yX6_scratch : Cond.code yX6_scratch cX6_scratch 4 (some .int) ∈ lw_tg := lw_in (i := 638) (by decide +kernel) rfl
set_option maxRecDepth 100000 in
theorem q_ml_RX6_124 : Cond.methodLink RX6 124 yX6_isNine ∈ lw_tg := lw_in (i := 639) (by decide +kernel) rfl
set_option maxRecDepth 100000 in
theorem q_st_yX6_isNine : Cond.static yX6_isNine ∈ lw_tg := lw_in (i := 640) (by decide +kernel) rfl
set_option maxRecDepth 100000 in
theorem q_co_yX6_isNine : Cond.code yX6_isNine cX6_isNine 1 (some .boolean) ∈ lw_tg := lw_in (i := 641) (by decide +kernel) rfl
set_option maxRecDepth 100000 in
theorem q_ml_RL_34 : Cond.methodLink RL 34 yX6_speed ∈ lw_tg := lw_in (i := 642) (by decide +kernel) rfl
set_option maxRecDepth 100000 in
theorem q_im_yX6_speed : Cond.instanceMethod yX6_speed ∈ lw_tg := lw_in (i := 643) (by decide +kernel) rfl
set_option maxRecDepth 100000 in
theorem q_se_yX6_speed : Cond.selects RX6 yX6_speed yX6_speed ∈ lw_tg := lw_in (i := 644) (by decide +kernel) rfl
set_option maxRecDepth 100000 in
theorem q_co_yX6_speed : Cond.code yX6_speed cX6_speed 4 (some .int) ∈ lw_tg := lw_in (i := 645) (by decide +kernel) rfl
set_option maxRecDepth 100000 in
theorem q_ml_RL_38 : Cond.methodLink RL 38 yX6_shoe ∈ lw_tg := lw_in (i := 646) (by decide +kernel) rfl
set_option maxRecDepth 100000 in
theorem q_im_yX6_shoe : Cond.instanceMethod yX6_shoe ∈ lw_tg := lw_in (i := 647) (by decide +kernel) rfl
set_option maxRecDepth 100000 in
theorem q_se_yX6_shoe : Cond.selects RX6 yX6_shoe yX6_shoe ∈ lw_tg := lw_in (i := 648) (by decide +kernel) rfl
set_option maxRecDepth 100000 in
theorem q_co_yX6_shoe : Cond.code yX6_shoe cX6_shoe 4 (some .int) ∈ lw_tg := lw_in (i := 649) (by decide +kernel) rfl
set_option maxRecDepth 100000 in
theorem q_ml_RL_43 : Cond.methodLink RL 43 yX6_takes ∈ lw_tg := lw_in (i := 650) (by decide +kernel) rfl
set_option maxRecDepth 100000 in
theorem q_im_yX6_takes : Cond.instanceMethod yX6_takes ∈ lw_tg := lw_in (i := 651) (by decide +kernel) rfl
set_option maxRecDepth 100000 in
theorem q_se_yX6_takes : Cond.selects RX6 yX6_takes yX6_takes ∈ lw_tg := lw_in (i := 652) (by decide +kernel) rfl
set_option maxRecDepth 100000 in
theorem q_co_yX6_takes : Cond.code yX6_takes cX6_takes 4 (some .int) ∈ lw_tg := lw_in (i := 653) (by decide +kernel) rfl
set_option maxRecDepth 100000 in
theorem q_ml_RX6_127 : Cond.methodLink RX6 127 yX6_takesOf ∈ lw_tg := lw_in (i := 654) (by decide +kernel) rfl
set_option maxRecDepth 100000 in
theorem q_im_yX6_takesOf : Cond.instanceMethod yX6_takesOf ∈ lw_tg := lw_in (i := 656) (by decide +kernel) rfl
set_option maxRecDepth 100000 in
theorem q_co_yX6_takesOf : Cond.code yX6_takesOf cX6_takesOf 5 (some .int) ∈ lw_tg := lw_in (i := 657) (by decide +kernel) rfl
set_option maxRecDepth 100000 in
theorem q_ml_RL_48 : Cond.methodLink RL 48 yX6_days ∈ lw_tg := lw_in (i := 658) (by decide +kernel) rfl
set_option maxRecDepth 100000 in
theorem q_im_yX6_days : Cond.instanceMethod yX6_days ∈ lw_tg := lw_in (i := 659) (by decide +kernel) rfl
set_option maxRecDepth 100000 in
theorem q_se_yX6_days : Cond.selects RX6 yX6_days yX6_days ∈ lw_tg := lw_in (i := 660) (by decide +kernel) rfl
set_option maxRecDepth 100000 in
theorem q_co_yX6_days : Cond.code yX6_days cX6_days 8 (some .int) ∈ lw_tg := lw_in (i := 661) (by decide +kernel) rfl
set_option maxRecDepth 100000 in
theorem q_ml_RX6_152 : Cond.methodLink RX6 152 yX6_isRow ∈ lw_tg := lw_in (i := 662) (by decide +kernel) rfl
set_option maxRecDepth 100000 in
theorem q_st_yX6_isRow : Cond.static yX6_isRow ∈ lw_tg := lw_in (i := 663) (by decide +kernel) rfl
set_option maxRecDepth 100000 in
theorem q_co_yX6_isRow : Cond.code yX6_isRow cX6_isRow 2 (some .boolean) ∈ lw_tg := lw_in (i := 664) (by decide +kernel) rfl
set_option maxRecDepth 100000 in
theorem q_ml_RX6_155 : Cond.methodLink RX6 155 yX6_laySteps ∈ lw_tg := lw_in (i := 665) (by decide +kernel) rfl
set_option maxRecDepth 100000 in
theorem q_im_yX6_laySteps : Cond.instanceMethod yX6_laySteps ∈ lw_tg := lw_in (i := 667) (by decide +kernel) rfl
set_option maxRecDepth 100000 in
theorem q_co_yX6_laySteps : Cond.code yX6_laySteps cX6_laySteps 8 (some .int) ∈ lw_tg := lw_in (i := 668) (by decide +kernel) rfl
set_option maxRecDepth 100000 in
theorem q_ml_RX6_158 : Cond.methodLink RX6 158 yX6_go ∈ lw_tg := lw_in (i := 669) (by decide +kernel) rfl
set_option maxRecDepth 100000 in
theorem q_im_yX6_go : Cond.instanceMethod yX6_go ∈ lw_tg := lw_in (i := 671) (by decide +kernel) rfl
set_option maxRecDepth 100000 in
theorem q_co_yX6_go : Cond.code yX6_go cX6_go 2 (some .int) ∈ lw_tg := lw_in (i := 672) (by decide +kernel) rfl
set_option maxRecDepth 100000 in
theorem q_ml_RX6_136 : Cond.methodLink RX6 136 yX6_begin ∈ lw_tg := lw_in (i := 673) (by decide +kernel) rfl
set_option maxRecDepth 100000 in
theorem q_im_yX6_begin : Cond.instanceMethod yX6_begin ∈ lw_tg := lw_in (i := 675) (by decide +kernel) rfl
set_option maxRecDepth 100000 in
theorem q_co_yX6_begin : Cond.code yX6_begin cX6_begin 2 (none : Option Jvm.ClassFile.FieldType) ∈ lw_tg := lw_in (i := 676) (by decide +kernel) rfl
set_option maxRecDepth 100000 in
theorem q_ml_RX6_142 : Cond.methodLink RX6 142 yX6_rain ∈ lw_tg := lw_in (i := 677) (by decide +kernel) rfl
set_option maxRecDepth 100000 in
theorem q_im_yX6_rain : Cond.instanceMethod yX6_rain ∈ lw_tg := lw_in (i := 679) (by decide +kernel) rfl
set_option maxRecDepth 100000 in
theorem q_co_yX6_rain : Cond.code yX6_rain cX6_rain 2 (none : Option Jvm.ClassFile.FieldType) ∈ lw_tg := lw_in (i := 680) (by decide +kernel) rfl
set_option maxRecDepth 100000 in
theorem q_ml_RX6_145 : Cond.methodLink RX6 145 yX6_isUp ∈ lw_tg := lw_in (i := 681) (by decide +kernel) rfl
set_option maxRecDepth 100000 in
theorem q_im_yX6_isUp : Cond.instanceMethod yX6_isUp ∈ lw_tg := lw_in (i := 683) (by decide +kernel) rfl
set_option maxRecDepth 100000 in
theorem q_co_yX6_isUp : Cond.code yX6_isUp cX6_isUp 2 (some .boolean) ∈ lw_tg := lw_in (i := 684) (by decide +kernel) rfl
set_option maxRecDepth 100000 in
theorem q_ml_RX6_148 : Cond.methodLink RX6 148 yX6_tryOnce ∈ lw_tg := lw_in (i := 685) (by decide +kernel) rfl
set_option maxRecDepth 100000 in
theorem q_im_yX6_tryOnce : Cond.instanceMethod yX6_tryOnce ∈ lw_tg := lw_in (i := 687) (by decide +kernel) rfl
set_option maxRecDepth 100000 in
theorem q_co_yX6_tryOnce : Cond.code yX6_tryOnce cX6_tryOnce 6 (none : Option Jvm.ClassFile.FieldType) ∈ lw_tg := lw_in (i := 688) (by decide +kernel) rfl
set_option maxRecDepth 100000 in
theorem q_ml_RX6_162 : Cond.methodLink RX6 162 yX6_tellDays ∈ lw_tg := lw_in (i := 689) (by decide +kernel) rfl
set_option maxRecDepth 100000 in
theorem q_im_yX6_tellDays : Cond.instanceMethod yX6_tellDays ∈ lw_tg := lw_in (i := 691) (by decide +kernel) rfl
set_option maxRecDepth 100000 in
theorem q_co_yX6_tellDays : Cond.code yX6_tellDays cX6_tellDays 2 (some .int) ∈ lw_tg := lw_in (i := 692) (by decide +kernel) rfl
set_option maxRecDepth 100000 in
theorem q_ml_RL_52 : Cond.methodLink RL 52 yX6_fewest ∈ lw_tg := lw_in (i := 693) (by decide +kernel) rfl
set_option maxRecDepth 100000 in
theorem q_im_yX6_fewest : Cond.instanceMethod yX6_fewest ∈ lw_tg := lw_in (i := 694) (by decide +kernel) rfl
set_option maxRecDepth 100000 in
theorem q_se_yX6_fewest : Cond.selects RX6 yX6_fewest yX6_fewest ∈ lw_tg := lw_in (i := 695) (by decide +kernel) rfl
set_option maxRecDepth 100000 in
theorem q_co_yX6_fewest : Cond.code yX6_fewest cX6_fewest 3 (some .int) ∈ lw_tg := lw_in (i := 696) (by decide +kernel) rfl
set_option maxRecDepth 100000 in
theorem q_ml_RX6_175 : Cond.methodLink RX6 175 yX6_findFewest ∈ lw_tg := lw_in (i := 697) (by decide +kernel) rfl
set_option maxRecDepth 100000 in
theorem q_im_yX6_findFewest : Cond.instanceMethod yX6_findFewest ∈ lw_tg := lw_in (i := 699) (by decide +kernel) rfl
set_option maxRecDepth 100000 in
theorem q_co_yX6_findFewest : Cond.code yX6_findFewest cX6_findFewest 5 (none : Option Jvm.ClassFile.FieldType) ∈ lw_tg := lw_in (i := 700) (by decide +kernel) rfl
set_option maxRecDepth 100000 in
theorem q_ml_RX6_168 : Cond.methodLink RX6 168 yX6_layRow ∈ lw_tg := lw_in (i := 701) (by decide +kernel) rfl
set_option maxRecDepth 100000 in
theorem q_im_yX6_layRow : Cond.instanceMethod yX6_layRow ∈ lw_tg := lw_in (i := 703) (by decide +kernel) rfl
set_option maxRecDepth 100000 in
theorem q_co_yX6_layRow : Cond.code yX6_layRow cX6_layRow 5 (none : Option Jvm.ClassFile.FieldType) ∈ lw_tg := lw_in (i := 704) (by decide +kernel) rfl
set_option maxRecDepth 100000 in
theorem q_ml_RL_57 : Cond.methodLink RL 57 yX6_sand ∈ lw_tg := lw_in (i := 705) (by decide +kernel) rfl
set_option maxRecDepth 100000 in
theorem q_im_yX6_sand : Cond.instanceMethod yX6_sand ∈ lw_tg := lw_in (i := 706) (by decide +kernel) rfl
set_option maxRecDepth 100000 in
theorem q_se_yX6_sand : Cond.selects RX6 yX6_sand yX6_sand ∈ lw_tg := lw_in (i := 707) (by decide +kernel) rfl
set_option maxRecDepth 100000 in
theorem q_co_yX6_sand : Cond.code yX6_sand cX6_sand 4 (some .int) ∈ lw_tg := lw_in (i := 708) (by decide +kernel) rfl
set_option maxRecDepth 100000 in
theorem q_ml_RX6_178 : Cond.methodLink RX6 178 yX6_size ∈ lw_tg := lw_in (i := 709) (by decide +kernel) rfl
set_option maxRecDepth 100000 in
theorem q_st_yX6_size : Cond.static yX6_size ∈ lw_tg := lw_in (i := 710) (by decide +kernel) rfl
set_option maxRecDepth 100000 in
theorem q_co_yX6_size : Cond.code yX6_size cX6_size 3 (some .int) ∈ lw_tg := lw_in (i := 711) (by decide +kernel) rfl
set_option maxRecDepth 100000 in
theorem q_ml_RX6_181 : Cond.methodLink RX6 181 yX6_isUpBySand ∈ lw_tg := lw_in (i := 712) (by decide +kernel) rfl
set_option maxRecDepth 100000 in
theorem q_im_yX6_isUpBySand : Cond.instanceMethod yX6_isUpBySand ∈ lw_tg := lw_in (i := 714) (by decide +kernel) rfl
set_option maxRecDepth 100000 in
theorem q_co_yX6_isUpBySand : Cond.code yX6_isUpBySand cX6_isUpBySand 5 (some .boolean) ∈ lw_tg := lw_in (i := 715) (by decide +kernel) rfl
set_option maxRecDepth 100000 in
theorem q_ml_RL_61 : Cond.methodLink RL 61 yX6_game ∈ lw_tg := lw_in (i := 716) (by decide +kernel) rfl
set_option maxRecDepth 100000 in
theorem q_im_yX6_game : Cond.instanceMethod yX6_game ∈ lw_tg := lw_in (i := 717) (by decide +kernel) rfl
set_option maxRecDepth 100000 in
theorem q_se_yX6_game : Cond.selects RX6 yX6_game yX6_game ∈ lw_tg := lw_in (i := 718) (by decide +kernel) rfl
set_option maxRecDepth 100000 in
theorem q_co_yX6_game : Cond.code yX6_game cX6_game 6 (some .int) ∈ lw_tg := lw_in (i := 719) (by decide +kernel) rfl
set_option maxRecDepth 100000 in
theorem q_ml_RX6_184 : Cond.methodLink RX6 184 yX6_endOf ∈ lw_tg := lw_in (i := 720) (by decide +kernel) rfl
set_option maxRecDepth 100000 in
theorem q_im_yX6_endOf : Cond.instanceMethod yX6_endOf ∈ lw_tg := lw_in (i := 722) (by decide +kernel) rfl
set_option maxRecDepth 100000 in
theorem q_co_yX6_endOf : Cond.code yX6_endOf cX6_endOf 7 (some .int) ∈ lw_tg := lw_in (i := 723) (by decide +kernel) rfl
set_option maxRecDepth 100000 in
theorem q_ml_RX6_187 : Cond.methodLink RX6 187 yX6_better ∈ lw_tg := lw_in (i := 724) (by decide +kernel) rfl
set_option maxRecDepth 100000 in
theorem q_st_yX6_better : Cond.static yX6_better ∈ lw_tg := lw_in (i := 725) (by decide +kernel) rfl
set_option maxRecDepth 100000 in
theorem q_co_yX6_better : Cond.code yX6_better cX6_better 3 (some .int) ∈ lw_tg := lw_in (i := 726) (by decide +kernel) rfl
set_option maxRecDepth 100000 in
theorem q_ml_RL_65 : Cond.methodLink RL 65 yX6_worth ∈ lw_tg := lw_in (i := 727) (by decide +kernel) rfl
set_option maxRecDepth 100000 in
theorem q_im_yX6_worth : Cond.instanceMethod yX6_worth ∈ lw_tg := lw_in (i := 728) (by decide +kernel) rfl
set_option maxRecDepth 100000 in
theorem q_se_yX6_worth : Cond.selects RX6 yX6_worth yX6_worth ∈ lw_tg := lw_in (i := 729) (by decide +kernel) rfl
set_option maxRecDepth 100000 in
theorem q_co_yX6_worth : Cond.code yX6_worth cX6_worth 2 (some .int) ∈ lw_tg := lw_in (i := 730) (by decide +kernel) rfl
set_option maxRecDepth 100000 in
theorem q_ml_RX6_190 : Cond.methodLink RX6 190 yX6_othersHeights ∈ lw_tg := lw_in (i := 731) (by decide +kernel) rfl
set_option maxRecDepth 100000 in
theorem q_im_yX6_othersHeights : Cond.instanceMethod yX6_othersHeights ∈ lw_tg := lw_in (i := 733) (by decide +kernel) rfl
set_option maxRecDepth 100000 in
theorem q_co_yX6_othersHeights : Cond.code yX6_othersHeights cX6_othersHeights 5 (some .int) ∈ lw_tg := lw_in (i := 734) (by decide +kernel) rfl
set_option maxRecDepth 100000 in
theorem q_ml_RL_69 : Cond.methodLink RL 69 yX6_reading ∈ lw_tg := lw_in (i := 735) (by decide +kernel) rfl
set_option maxRecDepth 100000 in
theorem q_im_yX6_reading : Cond.instanceMethod yX6_reading ∈ lw_tg := lw_in (i := 736) (by decide +kernel) rfl
set_option maxRecDepth 100000 in
theorem q_se_yX6_reading : Cond.selects RX6 yX6_reading yX6_reading ∈ lw_tg := lw_in (i := 737) (by decide +kernel) rfl
set_option maxRecDepth 100000 in
theorem q_co_yX6_reading : Cond.code yX6_reading cX6_reading 3 (some .int) ∈ lw_tg := lw_in (i := 738) (by decide +kernel) rfl
set_option maxRecDepth 100000 in
theorem q_ml_RL_73 : Cond.methodLink RL 73 yX6_back ∈ lw_tg := lw_in (i := 739) (by decide +kernel) rfl
set_option maxRecDepth 100000 in
theorem q_im_yX6_back : Cond.instanceMethod yX6_back ∈ lw_tg := lw_in (i := 740) (by decide +kernel) rfl
set_option maxRecDepth 100000 in
theorem q_se_yX6_back : Cond.selects RX6 yX6_back yX6_back ∈ lw_tg := lw_in (i := 741) (by decide +kernel) rfl
set_option maxRecDepth 100000 in
theorem q_co_yX6_back : Cond.code yX6_back cX6_back 2 (some .int) ∈ lw_tg := lw_in (i := 742) (by decide +kernel) rfl
set_option maxRecDepth 100000 in
theorem q_ml_RL_78 : Cond.methodLink RL 78 yX6_speeds ∈ lw_tg := lw_in (i := 743) (by decide +kernel) rfl
set_option maxRecDepth 100000 in
theorem q_im_yX6_speeds : Cond.instanceMethod yX6_speeds ∈ lw_tg := lw_in (i := 744) (by decide +kernel) rfl
set_option maxRecDepth 100000 in
theorem q_se_yX6_speeds : Cond.selects RX6 yX6_speeds yX6_speeds ∈ lw_tg := lw_in (i := 745) (by decide +kernel) rfl
set_option maxRecDepth 100000 in
theorem q_co_yX6_speeds : Cond.code yX6_speeds cX6_speeds 12 (some .int) ∈ lw_tg := lw_in (i := 746) (by decide +kernel) rfl
set_option maxRecDepth 100000 in
theorem q_ml_RX6_194 : Cond.methodLink RX6 194 yX6_lay ∈ lw_tg := lw_in (i := 747) (by decide +kernel) rfl
set_option maxRecDepth 100000 in
theorem q_im_yX6_lay : Cond.instanceMethod yX6_lay ∈ lw_tg := lw_in (i := 749) (by decide +kernel) rfl
set_option maxRecDepth 100000 in
theorem q_co_yX6_lay : Cond.code yX6_lay cX6_lay 6 (some .int) ∈ lw_tg := lw_in (i := 750) (by decide +kernel) rfl
set_option maxRecDepth 100000 in
theorem q_ml_RX6_198 : Cond.methodLink RX6 198 yX6_areSo ∈ lw_tg := lw_in (i := 751) (by decide +kernel) rfl
set_option maxRecDepth 100000 in
theorem q_im_yX6_areSo : Cond.instanceMethod yX6_areSo ∈ lw_tg := lw_in (i := 753) (by decide +kernel) rfl
set_option maxRecDepth 100000 in
theorem q_co_yX6_areSo : Cond.code yX6_areSo cX6_areSo 2 (some .boolean) ∈ lw_tg := lw_in (i := 754) (by decide +kernel) rfl
set_option maxRecDepth 100000 in
theorem q_ml_RL_82 : Cond.methodLink RL 82 yX6_nails ∈ lw_tg := lw_in (i := 755) (by decide +kernel) rfl
set_option maxRecDepth 100000 in
theorem q_im_yX6_nails : Cond.instanceMethod yX6_nails ∈ lw_tg := lw_in (i := 756) (by decide +kernel) rfl
set_option maxRecDepth 100000 in
theorem q_se_yX6_nails : Cond.selects RX6 yX6_nails yX6_nails ∈ lw_tg := lw_in (i := 757) (by decide +kernel) rfl
set_option maxRecDepth 100000 in
theorem q_co_yX6_nails : Cond.code yX6_nails cX6_nails 10 (some .int) ∈ lw_tg := lw_in (i := 758) (by decide +kernel) rfl
set_option maxRecDepth 100000 in
theorem q_ml_RL_86 : Cond.methodLink RL 86 yX6_slicks ∈ lw_tg := lw_in (i := 759) (by decide +kernel) rfl
set_option maxRecDepth 100000 in
theorem q_im_yX6_slicks : Cond.instanceMethod yX6_slicks ∈ lw_tg := lw_in (i := 760) (by decide +kernel) rfl
set_option maxRecDepth 100000 in
theorem q_se_yX6_slicks : Cond.selects RX6 yX6_slicks yX6_slicks ∈ lw_tg := lw_in (i := 761) (by decide +kernel) rfl
set_option maxRecDepth 100000 in
theorem q_co_yX6_slicks : Cond.code yX6_slicks cX6_slicks 10 (some .int) ∈ lw_tg := lw_in (i := 762) (by decide +kernel) rfl
set_option maxRecDepth 100000 in
theorem q_ml_RL_90 : Cond.methodLink RL 90 yX6_kinds ∈ lw_tg := lw_in (i := 763) (by decide +kernel) rfl
set_option maxRecDepth 100000 in
theorem q_im_yX6_kinds : Cond.instanceMethod yX6_kinds ∈ lw_tg := lw_in (i := 764) (by decide +kernel) rfl
set_option maxRecDepth 100000 in
theorem q_se_yX6_kinds : Cond.selects RX6 yX6_kinds yX6_kinds ∈ lw_tg := lw_in (i := 765) (by decide +kernel) rfl
set_option maxRecDepth 100000 in
theorem q_co_yX6_kinds : Cond.code yX6_kinds cX6_kinds 10 (some .int) ∈ lw_tg := lw_in (i := 766) (by decide +kernel) rfl
set_option maxRecDepth 100000 in
theorem q_ml_RL_95 : Cond.methodLink RL 95 yX6_odds ∈ lw_tg := lw_in (i := 767) (by decide +kernel) rfl
set_option maxRecDepth 100000 in
theorem q_im_yX6_odds : Cond.instanceMethod yX6_odds ∈ lw_tg := lw_in (i := 768) (by decide +kernel) rfl
set_option maxRecDepth 100000 in
theorem q_se_yX6_odds : Cond.selects RX6 yX6_odds yX6_odds ∈ lw_tg := lw_in (i := 769) (by decide +kernel) rfl
set_option maxRecDepth 100000 in
theorem q_co_yX6_odds : Cond.code yX6_odds cX6_odds 9 (some .long) ∈ lw_tg := lw_in (i := 770) (by decide +kernel) rfl
set_option maxRecDepth 100000 in
theorem q_k_RX6_65 : Cond.constantLong RX6 65 (-9223372036854775808 : Int64) ∈ lw_tg := lw_in (i := 771) (by decide +kernel) rfl
set_option maxRecDepth 100000 in
theorem q_ml_RX6_202 : Cond.methodLink RX6 202 yX6_isUpByRain ∈ lw_tg := lw_in (i := 772) (by decide +kernel) rfl
set_option maxRecDepth 100000 in
theorem q_im_yX6_isUpByRain : Cond.instanceMethod yX6_isUpByRain ∈ lw_tg := lw_in (i := 774) (by decide +kernel) rfl
set_option maxRecDepth 100000 in
theorem q_co_yX6_isUpByRain : Cond.code yX6_isUpByRain cX6_isUpByRain 4 (some .boolean) ∈ lw_tg := lw_in (i := 775) (by decide +kernel) rfl
set_option maxRecDepth 100000 in
theorem q_ml_RX6_205 : Cond.methodLink RX6 205 yX6_inLeastTerms ∈ lw_tg := lw_in (i := 776) (by decide +kernel) rfl
set_option maxRecDepth 100000 in
theorem q_st_yX6_inLeastTerms : Cond.static yX6_inLeastTerms ∈ lw_tg := lw_in (i := 777) (by decide +kernel) rfl
set_option maxRecDepth 100000 in
theorem q_co_yX6_inLeastTerms : Cond.code yX6_inLeastTerms cX6_inLeastTerms 11 (some .long) ∈ lw_tg := lw_in (i := 778) (by decide +kernel) rfl
set_option maxRecDepth 100000 in
theorem q_ml_RL_99 : Cond.methodLink RL 99 yX6_sheet ∈ lw_tg := lw_in (i := 779) (by decide +kernel) rfl
set_option maxRecDepth 100000 in
theorem q_im_yX6_sheet : Cond.instanceMethod yX6_sheet ∈ lw_tg := lw_in (i := 780) (by decide +kernel) rfl
set_option maxRecDepth 100000 in
theorem q_se_yX6_sheet : Cond.selects RX6 yX6_sheet yX6_sheet ∈ lw_tg := lw_in (i := 781) (by decide +kernel) rfl
set_option maxRecDepth 100000 in
theorem q_co_yX6_sheet : Cond.code yX6_sheet cX6_sheet 5 (some .int) ∈ lw_tg := lw_in (i := 782) (by decide +kernel) rfl
set_option maxRecDepth 100000 in
theorem q_ml_RL_103 : Cond.methodLink RL 103 yX6_lose ∈ lw_tg := lw_in (i := 783) (by decide +kernel) rfl
set_option maxRecDepth 100000 in
theorem q_im_yX6_lose : Cond.instanceMethod yX6_lose ∈ lw_tg := lw_in (i := 784) (by decide +kernel) rfl
set_option maxRecDepth 100000 in
theorem q_se_yX6_lose : Cond.selects RX6 yX6_lose yX6_lose ∈ lw_tg := lw_in (i := 785) (by decide +kernel) rfl
set_option maxRecDepth 100000 in
theorem q_co_yX6_lose : Cond.code yX6_lose cX6_lose 3 (some .int) ∈ lw_tg := lw_in (i := 786) (by decide +kernel) rfl
set_option maxRecDepth 100000 in
theorem q_ml_RL_107 : Cond.methodLink RL 107 yX6_put ∈ lw_tg := lw_in (i := 787) (by decide +kernel) rfl
set_option maxRecDepth 100000 in
theorem q_im_yX6_put : Cond.instanceMethod yX6_put ∈ lw_tg := lw_in (i := 788) (by decide +kernel) rfl
set_option maxRecDepth 100000 in
theorem q_se_yX6_put : Cond.selects RX6 yX6_put yX6_put ∈ lw_tg := lw_in (i := 789) (by decide +kernel) rfl
set_option maxRecDepth 100000 in
theorem q_co_yX6_put : Cond.code yX6_put cX6_put 4 (some .int) ∈ lw_tg := lw_in (i := 790) (by decide +kernel) rfl
set_option maxRecDepth 100000 in
theorem q_ml_RL_112 : Cond.methodLink RL 112 yX6_cell ∈ lw_tg := lw_in (i := 791) (by decide +kernel) rfl
set_option maxRecDepth 100000 in
theorem q_im_yX6_cell : Cond.instanceMethod yX6_cell ∈ lw_tg := lw_in (i := 792) (by decide +kernel) rfl
set_option maxRecDepth 100000 in
theorem q_se_yX6_cell : Cond.selects RX6 yX6_cell yX6_cell ∈ lw_tg := lw_in (i := 793) (by decide +kernel) rfl
set_option maxRecDepth 100000 in
theorem q_co_yX6_cell : Cond.code yX6_cell cX6_cell 4 (some .long) ∈ lw_tg := lw_in (i := 794) (by decide +kernel) rfl
set_option maxRecDepth 100000 in
theorem q_ml_RX6_209 : Cond.methodLink RX6 209 yX6_lost ∈ lw_tg := lw_in (i := 795) (by decide +kernel) rfl
set_option maxRecDepth 100000 in
theorem q_im_yX6_lost : Cond.instanceMethod yX6_lost ∈ lw_tg := lw_in (i := 797) (by decide +kernel) rfl
set_option maxRecDepth 100000 in
theorem q_co_yX6_lost : Cond.code yX6_lost cX6_lost 2 (some .long) ∈ lw_tg := lw_in (i := 798) (by decide +kernel) rfl
set_option maxRecDepth 100000 in
theorem q_ml_RL_116 : Cond.methodLink RL 116 yX6_copy ∈ lw_tg := lw_in (i := 799) (by decide +kernel) rfl
set_option maxRecDepth 100000 in
theorem q_im_yX6_copy : Cond.instanceMethod yX6_copy ∈ lw_tg := lw_in (i := 800) (by decide +kernel) rfl
set_option maxRecDepth 100000 in
theorem q_se_yX6_copy : Cond.selects RX6 yX6_copy yX6_copy ∈ lw_tg := lw_in (i := 801) (by decide +kernel) rfl
set_option maxRecDepth 100000 in
theorem q_co_yX6_copy : Cond.code yX6_copy cX6_copy 10 (some .int) ∈ lw_tg := lw_in (i := 802) (by decide +kernel) rfl
set_option maxRecDepth 100000 in
theorem q_ml_RL_120 : Cond.methodLink RL 120 yX6_tell ∈ lw_tg := lw_in (i := 803) (by decide +kernel) rfl
set_option maxRecDepth 100000 in
theorem q_im_yX6_tell : Cond.instanceMethod yX6_tell ∈ lw_tg := lw_in (i := 804) (by decide +kernel) rfl
set_option maxRecDepth 100000 in
theorem q_se_yX6_tell : Cond.selects RX6 yX6_tell yX6_tell ∈ lw_tg := lw_in (i := 805) (by decide +kernel) rfl
set_option maxRecDepth 100000 in
theorem q_co_yX6_tell : Cond.code yX6_tell cX6_tell 3 (some .int) ∈ lw_tg := lw_in (i := 806) (by decide +kernel) rfl
set_option maxRecDepth 100000 in
theorem q_ml_RX6_216 : Cond.methodLink RX6 216 yX6_begins ∈ lw_tg := lw_in (i := 807) (by decide +kernel) rfl
set_option maxRecDepth 100000 in
theorem q_im_yX6_begins : Cond.instanceMethod yX6_begins ∈ lw_tg := lw_in (i := 809) (by decide +kernel) rfl
set_option maxRecDepth 100000 in
theorem q_co_yX6_begins : Cond.code yX6_begins cX6_begins 2 (none : Option Jvm.ClassFile.FieldType) ∈ lw_tg := lw_in (i := 810) (by decide +kernel) rfl
set_option maxRecDepth 100000 in
theorem q_ml_RL_124 : Cond.methodLink RL 124 yX6_cheer ∈ lw_tg := lw_in (i := 811) (by decide +kernel) rfl
set_option maxRecDepth 100000 in
theorem q_im_yX6_cheer : Cond.instanceMethod yX6_cheer ∈ lw_tg := lw_in (i := 812) (by decide +kernel) rfl
set_option maxRecDepth 100000 in
theorem q_se_yX6_cheer : Cond.selects RX6 yX6_cheer yX6_cheer ∈ lw_tg := lw_in (i := 813) (by decide +kernel) rfl
set_option maxRecDepth 100000 in
theorem q_co_yX6_cheer : Cond.code yX6_cheer cX6_cheer 2 (some .int) ∈ lw_tg := lw_in (i := 814) (by decide +kernel) rfl
set_option maxRecDepth 100000 in
theorem q_ml_RL_128 : Cond.methodLink RL 128 yX6_as ∈ lw_tg := lw_in (i := 815) (by decide +kernel) rfl
set_option maxRecDepth 100000 in
theorem q_im_yX6_as : Cond.instanceMethod yX6_as ∈ lw_tg := lw_in (i := 816) (by decide +kernel) rfl
set_option maxRecDepth 100000 in
theorem q_se_yX6_as : Cond.selects RX6 yX6_as yX6_as ∈ lw_tg := lw_in (i := 817) (by decide +kernel) rfl
set_option maxRecDepth 100000 in
theorem q_co_yX6_as : Cond.code yX6_as cX6_as 3 (some .int) ∈ lw_tg := lw_in (i := 818) (by decide +kernel) rfl
set_option maxRecDepth 100000 in
theorem q_ml_RL_133 : Cond.methodLink RL 133 yX6_trace ∈ lw_tg := lw_in (i := 819) (by decide +kernel) rfl
set_option maxRecDepth 100000 in
theorem q_im_yX6_trace : Cond.instanceMethod yX6_trace ∈ lw_tg := lw_in (i := 820) (by decide +kernel) rfl
set_option maxRecDepth 100000 in
theorem q_se_yX6_trace : Cond.selects RX6 yX6_trace yX6_trace ∈ lw_tg := lw_in (i := 821) (by decide +kernel) rfl
set_option maxRecDepth 100000 in
theorem q_co_yX6_trace : Cond.code yX6_trace cX6_trace 1 (some .int) ∈ lw_tg := lw_in (i := 822) (by decide +kernel) rfl
set_option maxRecDepth 100000 in
theorem q_ml_RL_137 : Cond.methodLink RL 137 yX6_fault ∈ lw_tg := lw_in (i := 823) (by decide +kernel) rfl
set_option maxRecDepth 100000 in
theorem q_im_yX6_fault : Cond.instanceMethod yX6_fault ∈ lw_tg := lw_in (i := 824) (by decide +kernel) rfl
set_option maxRecDepth 100000 in
theorem q_se_yX6_fault : Cond.selects RX6 yX6_fault yX6_fault ∈ lw_tg := lw_in (i := 825) (by decide +kernel) rfl
set_option maxRecDepth 100000 in
theorem q_co_yX6_fault : Cond.code yX6_fault cX6_fault 1 (some .int) ∈ lw_tg := lw_in (i := 826) (by decide +kernel) rfl
set_option maxRecDepth 100000 in
theorem q_ml_RL_141 : Cond.methodLink RL 141 yX6_many ∈ lw_tg := lw_in (i := 827) (by decide +kernel) rfl
set_option maxRecDepth 100000 in
theorem q_im_yX6_many : Cond.instanceMethod yX6_many ∈ lw_tg := lw_in (i := 828) (by decide +kernel) rfl
set_option maxRecDepth 100000 in
theorem q_se_yX6_many : Cond.selects RX6 yX6_many yX6_many ∈ lw_tg := lw_in (i := 829) (by decide +kernel) rfl
set_option maxRecDepth 100000 in
theorem q_co_yX6_many : Cond.code yX6_many cX6_many 2 (some .int) ∈ lw_tg := lw_in (i := 830) (by decide +kernel) rfl
set_option maxRecDepth 100000 in
theorem q_se_yX5_meet : Cond.selects RX5 yX5_meet yX5_meet ∈ lw_tg := List.mem_filter.mpr ⟨List.mem_append_left _ (List.mem_of_getElem? (i := 0) (by decide +kernel)), rfl⟩
set_option maxRecDepth 100000 in
theorem q_se_yX5_isPace : Cond.selects RX5 yX5_isPace yX5_isPace ∈ lw_tg := List.mem_filter.mpr ⟨List.mem_append_left _ (List.mem_of_getElem? (i := 1) (by decide +kernel)), rfl⟩
set_option maxRecDepth 100000 in
theorem q_se_yX5_isRider : Cond.selects RX5 yX5_isRider yX5_isRider ∈ lw_tg := List.mem_filter.mpr ⟨List.mem_append_left _ (List.mem_of_getElem? (i := 2) (by decide +kernel)), rfl⟩
set_option maxRecDepth 100000 in
theorem q_se_yX5_readSteps : Cond.selects RX5 yX5_readSteps yX5_readSteps ∈ lw_tg := List.mem_filter.mpr ⟨List.mem_append_left _ (List.mem_of_getElem? (i := 3) (by decide +kernel)), rfl⟩
set_option maxRecDepth 100000 in
theorem q_se_yX5_firstWrong : Cond.selects RX5 yX5_firstWrong yX5_firstWrong ∈ lw_tg := List.mem_filter.mpr ⟨List.mem_append_left _ (List.mem_of_getElem? (i := 4) (by decide +kernel)), rfl⟩
set_option maxRecDepth 100000 in
theorem q_se_yX0_slideBack : Cond.selects RX0 yX0_slideBack yX0_slideBack ∈ lw_tg := List.mem_filter.mpr ⟨List.mem_append_left _ (List.mem_of_getElem? (i := 5) (by decide +kernel)), rfl⟩
set_option maxRecDepth 100000 in
theorem q_se_yX5_firstUp : Cond.selects RX5 yX5_firstUp yX5_firstUp ∈ lw_tg := List.mem_filter.mpr ⟨List.mem_append_left _ (List.mem_of_getElem? (i := 6) (by decide +kernel)), rfl⟩
set_option maxRecDepth 100000 in
theorem q_se_yX5_fewestTries : Cond.selects RX5 yX5_fewestTries yX5_fewestTries ∈ lw_tg := List.mem_filter.mpr ⟨List.mem_append_left _ (List.mem_of_getElem? (i := 7) (by decide +kernel)), rfl⟩
set_option maxRecDepth 100000 in
theorem q_se_yX5_heightsOfOthers : Cond.selects RX5 yX5_heightsOfOthers yX5_heightsOfOthers ∈ lw_tg := List.mem_filter.mpr ⟨List.mem_append_left _ (List.mem_of_getElem? (i := 8) (by decide +kernel)), rfl⟩
set_option maxRecDepth 100000 in
theorem q_se_yX5_readSeen : Cond.selects RX5 yX5_readSeen yX5_readSeen ∈ lw_tg := List.mem_filter.mpr ⟨List.mem_append_left _ (List.mem_of_getElem? (i := 9) (by decide +kernel)), rfl⟩
set_option maxRecDepth 100000 in
theorem q_se_yX5_isSeenWith : Cond.selects RX5 yX5_isSeenWith yX5_isSeenWith ∈ lw_tg := List.mem_filter.mpr ⟨List.mem_append_left _ (List.mem_of_getElem? (i := 10) (by decide +kernel)), rfl⟩
set_option maxRecDepth 100000 in
theorem q_se_yX5_setSeenWith : Cond.selects RX5 yX5_setSeenWith yX5_setSeenWith ∈ lw_tg := List.mem_filter.mpr ⟨List.mem_append_left _ (List.mem_of_getElem? (i := 11) (by decide +kernel)), rfl⟩
set_option maxRecDepth 100000 in
theorem q_se_yX5_tellAsLad : Cond.selects RX5 yX5_tellAsLad yX5_tellAsLad ∈ lw_tg := List.mem_filter.mpr ⟨List.mem_append_left _ (List.mem_of_getElem? (i := 12) (by decide +kernel)), rfl⟩
set_option maxRecDepth 100000 in
theorem q_se_yX5_leave : Cond.selects RX5 yX5_leave yX5_leave ∈ lw_tg := List.mem_filter.mpr ⟨List.mem_append_left _ (List.mem_of_getElem? (i := 13) (by decide +kernel)), rfl⟩
set_option maxRecDepth 100000 in
theorem q_se_yX5_tellAsNight : Cond.selects RX5 yX5_tellAsNight yX5_tellAsNight ∈ lw_tg := List.mem_filter.mpr ⟨List.mem_append_left _ (List.mem_of_getElem? (i := 14) (by decide +kernel)), rfl⟩
set_option maxRecDepth 100000 in
theorem q_se_yX5_tellAsRider : Cond.selects RX5 yX5_tellAsRider yX5_tellAsRider ∈ lw_tg := List.mem_filter.mpr ⟨List.mem_append_left _ (List.mem_of_getElem? (i := 15) (by decide +kernel)), rfl⟩
set_option maxRecDepth 100000 in
theorem q_se_yX6_against : Cond.selects RX6 yX6_against yX6_against ∈ lw_tg := List.mem_filter.mpr ⟨List.mem_append_left _ (List.mem_of_getElem? (i := 16) (by decide +kernel)), rfl⟩
set_option maxRecDepth 100000 in
theorem q_se_yX6_fails : Cond.selects RX6 yX6_fails yX6_fails ∈ lw_tg := List.mem_filter.mpr ⟨List.mem_append_left _ (List.mem_of_getElem? (i := 17) (by decide +kernel)), rfl⟩
set_option maxRecDepth 100000 in
theorem q_se_yX6_readHill : Cond.selects RX6 yX6_readHill yX6_readHill ∈ lw_tg := List.mem_filter.mpr ⟨List.mem_append_left _ (List.mem_of_getElem? (i := 18) (by decide +kernel)), rfl⟩
set_option maxRecDepth 100000 in
theorem q_se_yX6_isSign : Cond.selects RX6 yX6_isSign yX6_isSign ∈ lw_tg := List.mem_filter.mpr ⟨List.mem_append_left _ (List.mem_of_getElem? (i := 19) (by decide +kernel)), rfl⟩
set_option maxRecDepth 100000 in
theorem q_se_yX6_digit : Cond.selects RX6 yX6_digit yX6_digit ∈ lw_tg := List.mem_filter.mpr ⟨List.mem_append_left _ (List.mem_of_getElem? (i := 20) (by decide +kernel)), rfl⟩
set_option maxRecDepth 100000 in
theorem q_se_yX6_readRider : Cond.selects RX6 yX6_readRider yX6_readRider ∈ lw_tg := List.mem_filter.mpr ⟨List.mem_append_left _ (List.mem_of_getElem? (i := 21) (by decide +kernel)), rfl⟩
set_option maxRecDepth 100000 in
theorem q_se_yX6_isPace : Cond.selects RX6 yX6_isPace yX6_isPace ∈ lw_tg := List.mem_filter.mpr ⟨List.mem_append_left _ (List.mem_of_getElem? (i := 22) (by decide +kernel)), rfl⟩
set_option maxRecDepth 100000 in
theorem q_se_yX6_isRider : Cond.selects RX6 yX6_isRider yX6_isRider ∈ lw_tg := List.mem_filter.mpr ⟨List.mem_append_left _ (List.mem_of_getElem? (i := 23) (by decide +kernel)), rfl⟩
set_option maxRecDepth 100000 in
theorem q_se_yX6_takesOf : Cond.selects RX6 yX6_takesOf yX6_takesOf ∈ lw_tg := List.mem_filter.mpr ⟨List.mem_append_left _ (List.mem_of_getElem? (i := 24) (by decide +kernel)), rfl⟩
set_option maxRecDepth 100000 in
theorem q_se_yX6_laySteps : Cond.selects RX6 yX6_laySteps yX6_laySteps ∈ lw_tg := List.mem_filter.mpr ⟨List.mem_append_left _ (List.mem_of_getElem? (i := 25) (by decide +kernel)), rfl⟩
set_option maxRecDepth 100000 in
theorem q_se_yX6_go : Cond.selects RX6 yX6_go yX6_go ∈ lw_tg := List.mem_filter.mpr ⟨List.mem_append_left _ (List.mem_of_getElem? (i := 26) (by decide +kernel)), rfl⟩
set_option maxRecDepth 100000 in
theorem q_se_yX6_begin : Cond.selects RX6 yX6_begin yX6_begin ∈ lw_tg := List.mem_filter.mpr ⟨List.mem_append_left _ (List.mem_of_getElem? (i := 27) (by decide +kernel)), rfl⟩
set_option maxRecDepth 100000 in
theorem q_se_yX6_rain : Cond.selects RX6 yX6_rain yX6_rain ∈ lw_tg := List.mem_filter.mpr ⟨List.mem_append_left _ (List.mem_of_getElem? (i := 28) (by decide +kernel)), rfl⟩
set_option maxRecDepth 100000 in
theorem q_se_yX6_isUp : Cond.selects RX6 yX6_isUp yX6_isUp ∈ lw_tg := List.mem_filter.mpr ⟨List.mem_append_left _ (List.mem_of_getElem? (i := 29) (by decide +kernel)), rfl⟩
set_option maxRecDepth 100000 in
theorem q_se_yX6_tryOnce : Cond.selects RX6 yX6_tryOnce yX6_tryOnce ∈ lw_tg := List.mem_filter.mpr ⟨List.mem_append_left _ (List.mem_of_getElem? (i := 30) (by decide +kernel)), rfl⟩
set_option maxRecDepth 100000 in
theorem q_se_yX6_tellDays : Cond.selects RX6 yX6_tellDays yX6_tellDays ∈ lw_tg := List.mem_filter.mpr ⟨List.mem_append_left _ (List.mem_of_getElem? (i := 31) (by decide +kernel)), rfl⟩
set_option maxRecDepth 100000 in
theorem q_se_yX6_findFewest : Cond.selects RX6 yX6_findFewest yX6_findFewest ∈ lw_tg := List.mem_filter.mpr ⟨List.mem_append_left _ (List.mem_of_getElem? (i := 32) (by decide +kernel)), rfl⟩
set_option maxRecDepth 100000 in
theorem q_se_yX6_layRow : Cond.selects RX6 yX6_layRow yX6_layRow ∈ lw_tg := List.mem_filter.mpr ⟨List.mem_append_left _ (List.mem_of_getElem? (i := 33) (by decide +kernel)), rfl⟩
set_option maxRecDepth 100000 in
theorem q_se_yX6_isUpBySand : Cond.selects RX6 yX6_isUpBySand yX6_isUpBySand ∈ lw_tg := List.mem_filter.mpr ⟨List.mem_append_left _ (List.mem_of_getElem? (i := 34) (by decide +kernel)), rfl⟩
set_option maxRecDepth 100000 in
theorem q_se_yX6_endOf : Cond.selects RX6 yX6_endOf yX6_endOf ∈ lw_tg := List.mem_filter.mpr ⟨List.mem_append_left _ (List.mem_of_getElem? (i := 35) (by decide +kernel)), rfl⟩
set_option maxRecDepth 100000 in
theorem q_se_yX6_othersHeights : Cond.selects RX6 yX6_othersHeights yX6_othersHeights ∈ lw_tg := List.mem_filter.mpr ⟨List.mem_append_left _ (List.mem_of_getElem? (i := 36) (by decide +kernel)), rfl⟩
set_option maxRecDepth 100000 in
theorem q_se_yX6_lay : Cond.selects RX6 yX6_lay yX6_lay ∈ lw_tg := List.mem_filter.mpr ⟨List.mem_append_left _ (List.mem_of_getElem? (i := 37) (by decide +kernel)), rfl⟩
set_option maxRecDepth 100000 in
theorem q_se_yX6_areSo : Cond.selects RX6 yX6_areSo yX6_areSo ∈ lw_tg := List.mem_filter.mpr ⟨List.mem_append_left _ (List.mem_of_getElem? (i := 38) (by decide +kernel)), rfl⟩
set_option maxRecDepth 100000 in
theorem q_se_yX6_isUpByRain : Cond.selects RX6 yX6_isUpByRain yX6_isUpByRain ∈ lw_tg := List.mem_filter.mpr ⟨List.mem_append_left _ (List.mem_of_getElem? (i := 39) (by decide +kernel)), rfl⟩
set_option maxRecDepth 100000 in
theorem q_se_yX6_lost : Cond.selects RX6 yX6_lost yX6_lost ∈ lw_tg := List.mem_filter.mpr ⟨List.mem_append_left _ (List.mem_of_getElem? (i := 40) (by decide +kernel)), rfl⟩
set_option maxRecDepth 100000 in
theorem q_se_yX6_begins : Cond.selects RX6 yX6_begins yX6_begins ∈ lw_tg := List.mem_filter.mpr ⟨List.mem_append_left _ (List.mem_of_getElem? (i := 41) (by decide +kernel)), rfl⟩
end
section
theorem dX0_init_0 : decode cX0_init 0 = .ok (.aload_n 0, 1) := by decide +kernel
theorem dX0_init_1 : decode cX0_init 1 = .ok (.invokespecial 3, 3) := by decide +kernel
theorem dX0_init_4 : decode cX0_init 4 = .ok (.aload_n 0, 1) := by decide +kernel
theorem dX0_init_5 : decode cX0_init 5 = .ok (.bipush 8, 2) := by decide +kernel
theorem dX0_init_7 : decode cX0_init 7 = .ok (.newarray .int, 2) := by decide +kernel
theorem dX0_init_9 : decode cX0_init 9 = .ok (.putfield 9, 3) := by decide +kernel
theorem dX0_init_12 : decode cX0_init 12 = .ok (.aload_n 0, 1) := by decide +kernel
theorem dX0_init_13 : decode cX0_init 13 = .ok (.iconst 5, 1) := by decide +kernel
theorem dX0_init_14 : decode cX0_init 14 = .ok (.newarray .int, 2) := by decide +kernel
theorem dX0_init_16 : decode cX0_init 16 = .ok (.putfield 15, 3) := by decide +kernel
theorem dX0_init_19 : decode cX0_init 19 = .ok (.aload_n 0, 1) := by decide +kernel
theorem dX0_init_20 : decode cX0_init 20 = .ok (.iconst 5, 1) := by decide +kernel
theorem dX0_init_21 : decode cX0_init 21 = .ok (.newarray .int, 2) := by decide +kernel
theorem dX0_init_23 : decode cX0_init 23 = .ok (.putfield 18, 3) := by decide +kernel
theorem dX0_init_26 : decode cX0_init 26 = .ok (.aload_n 0, 1) := by decide +kernel
theorem dX0_init_27 : decode cX0_init 27 = .ok (.aload_n 1, 1) := by decide +kernel
theorem dX0_init_28 : decode cX0_init 28 = .ok (.putfield 21, 3) := by decide +kernel
theorem dX0_init_31 : decode cX0_init 31 = .ok (.return_, 1) := by decide +kernel
theorem dX0_begin_0 : decode cX0_begin 0 = .ok (.aload_n 0, 1) := by decide +kernel
theorem dX0_begin_1 : decode cX0_begin 1 = .ok (.getfield 21, 3) := by decide +kernel
theorem dX0_begin_4 : decode cX0_begin 4 = .ok (.getfield 25, 3) := by decide +kernel
theorem dX0_begin_7 : decode cX0_begin 7 = .ok (.iconst 0, 1) := by decide +kernel
theorem dX0_begin_8 : decode cX0_begin 8 = .ok (.aload_n 0, 1) := by decide +kernel
theorem dX0_begin_9 : decode cX0_begin 9 = .ok (.getfield 9, 3) := by decide +kernel
theorem dX0_begin_12 : decode cX0_begin 12 = .ok (.iconst 0, 1) := by decide +kernel
theorem dX0_begin_13 : decode cX0_begin 13 = .ok (.bipush 8, 2) := by decide +kernel
theorem dX0_begin_15 : decode cX0_begin 15 = .ok (.invokestatic 30, 3) := by decide +kernel
theorem dX0_begin_18 : decode cX0_begin 18 = .ok (.aload_n 0, 1) := by decide +kernel
theorem dX0_begin_19 : decode cX0_begin 19 = .ok (.getfield 15, 3) := by decide +kernel
theorem dX0_begin_22 : decode cX0_begin 22 = .ok (.iconst 0, 1) := by decide +kernel
theorem dX0_begin_23 : decode cX0_begin 23 = .ok (.invokestatic 36, 3) := by decide +kernel
theorem dX0_begin_26 : decode cX0_begin 26 = .ok (.aload_n 0, 1) := by decide +kernel
theorem dX0_begin_27 : decode cX0_begin 27 = .ok (.getfield 18, 3) := by decide +kernel
theorem dX0_begin_30 : decode cX0_begin 30 = .ok (.bipush (-9), 2) := by decide +kernel
theorem dX0_begin_32 : decode cX0_begin 32 = .ok (.invokestatic 36, 3) := by decide +kernel
theorem dX0_begin_35 : decode cX0_begin 35 = .ok (.aload_n 0, 1) := by decide +kernel
theorem dX0_begin_36 : decode cX0_begin 36 = .ok (.iconst 0, 1) := by decide +kernel
theorem dX0_begin_37 : decode cX0_begin 37 = .ok (.putfield 42, 3) := by decide +kernel
theorem dX0_begin_40 : decode cX0_begin 40 = .ok (.return_, 1) := by decide +kernel
theorem dX0_become_0 : decode cX0_become 0 = .ok (.aload_n 1, 1) := by decide +kernel
theorem dX0_become_1 : decode cX0_become 1 = .ok (.getfield 9, 3) := by decide +kernel
theorem dX0_become_4 : decode cX0_become 4 = .ok (.iconst 0, 1) := by decide +kernel
theorem dX0_become_5 : decode cX0_become 5 = .ok (.aload_n 0, 1) := by decide +kernel
theorem dX0_become_6 : decode cX0_become 6 = .ok (.getfield 9, 3) := by decide +kernel
theorem dX0_become_9 : decode cX0_become 9 = .ok (.iconst 0, 1) := by decide +kernel
theorem dX0_become_10 : decode cX0_become 10 = .ok (.bipush 8, 2) := by decide +kernel
theorem dX0_become_12 : decode cX0_become 12 = .ok (.invokestatic 30, 3) := by decide +kernel
theorem dX0_become_15 : decode cX0_become 15 = .ok (.aload_n 1, 1) := by decide +kernel
theorem dX0_become_16 : decode cX0_become 16 = .ok (.getfield 15, 3) := by decide +kernel
theorem dX0_become_19 : decode cX0_become 19 = .ok (.iconst 0, 1) := by decide +kernel
theorem dX0_become_20 : decode cX0_become 20 = .ok (.aload_n 0, 1) := by decide +kernel
theorem dX0_become_21 : decode cX0_become 21 = .ok (.getfield 15, 3) := by decide +kernel
theorem dX0_become_24 : decode cX0_become 24 = .ok (.iconst 0, 1) := by decide +kernel
theorem dX0_become_25 : decode cX0_become 25 = .ok (.iconst 5, 1) := by decide +kernel
theorem dX0_become_26 : decode cX0_become 26 = .ok (.invokestatic 30, 3) := by decide +kernel
theorem dX0_become_29 : decode cX0_become 29 = .ok (.aload_n 1, 1) := by decide +kernel
theorem dX0_become_30 : decode cX0_become 30 = .ok (.getfield 18, 3) := by decide +kernel
theorem dX0_become_33 : decode cX0_become 33 = .ok (.iconst 0, 1) := by decide +kernel
theorem dX0_become_34 : decode cX0_become 34 = .ok (.aload_n 0, 1) := by decide +kernel
theorem dX0_become_35 : decode cX0_become 35 = .ok (.getfield 18, 3) := by decide +kernel
theorem dX0_become_38 : decode cX0_become 38 = .ok (.iconst 0, 1) := by decide +kernel
theorem dX0_become_39 : decode cX0_become 39 = .ok (.iconst 5, 1) := by decide +kernel
theorem dX0_become_40 : decode cX0_become 40 = .ok (.invokestatic 30, 3) := by decide +kernel
theorem dX0_become_43 : decode cX0_become 43 = .ok (.aload_n 0, 1) := by decide +kernel
theorem dX0_become_44 : decode cX0_become 44 = .ok (.aload_n 1, 1) := by decide +kernel
theorem dX0_become_45 : decode cX0_become 45 = .ok (.getfield 42, 3) := by decide +kernel
theorem dX0_become_48 : decode cX0_become 48 = .ok (.putfield 42, 3) := by decide +kernel
theorem dX0_become_51 : decode cX0_become 51 = .ok (.return_, 1) := by decide +kernel
theorem dX0_isUp_0 : decode cX0_isUp 0 = .ok (.aload_n 0, 1) := by decide +kernel
theorem dX0_isUp_1 : decode cX0_isUp 1 = .ok (.getfield 42, 3) := by decide +kernel
theorem dX0_isUp_4 : decode cX0_isUp 4 = .ok (.iload_n 1, 1) := by decide +kernel
theorem dX0_isUp_5 : decode cX0_isUp 5 = .ok (.ishr, 1) := by decide +kernel
theorem dX0_isUp_6 : decode cX0_isUp 6 = .ok (.iconst 1, 1) := by decide +kernel
theorem dX0_isUp_7 : decode cX0_isUp 7 = .ok (.iand, 1) := by decide +kernel
theorem dX0_isUp_8 : decode cX0_isUp 8 = .ok (.iconst 1, 1) := by decide +kernel
theorem dX0_isUp_9 : decode cX0_isUp 9 = .ok (.if_icmp .ne 7, 3) := by decide +kernel
theorem dX0_isUp_12 : decode cX0_isUp 12 = .ok (.iconst 1, 1) := by decide +kernel
theorem dX0_isUp_13 : decode cX0_isUp 13 = .ok (.goto 4, 3) := by decide +kernel
theorem dX0_isUp_16 : decode cX0_isUp 16 = .ok (.iconst 0, 1) := by decide +kernel
theorem dX0_isUp_17 : decode cX0_isUp 17 = .ok (.ireturn, 1) := by decide +kernel
theorem dX0_goOn_0 : decode cX0_goOn 0 = .ok (.iload_n 1, 1) := by decide +kernel
theorem dX0_goOn_1 : decode cX0_goOn 1 = .ok (.iconst 5, 1) := by decide +kernel
theorem dX0_goOn_2 : decode cX0_goOn 2 = .ok (.if_icmp .ne 10, 3) := by decide +kernel
theorem dX0_goOn_5 : decode cX0_goOn 5 = .ok (.aload_n 0, 1) := by decide +kernel
theorem dX0_goOn_6 : decode cX0_goOn 6 = .ok (.invokevirtual 46, 3) := by decide +kernel
theorem dX0_goOn_9 : decode cX0_goOn 9 = .ok (.goto 16, 3) := by decide +kernel
theorem dX0_goOn_12 : decode cX0_goOn 12 = .ok (.aload_n 0, 1) := by decide +kernel
theorem dX0_goOn_13 : decode cX0_goOn 13 = .ok (.iload_n 1, 1) := by decide +kernel
theorem dX0_goOn_14 : decode cX0_goOn 14 = .ok (.invokevirtual 49, 3) := by decide +kernel
theorem dX0_goOn_17 : decode cX0_goOn 17 = .ok (.ifCond .ne 8, 3) := by decide +kernel
theorem dX0_goOn_20 : decode cX0_goOn 20 = .ok (.aload_n 0, 1) := by decide +kernel
theorem dX0_goOn_21 : decode cX0_goOn 21 = .ok (.iload_n 1, 1) := by decide +kernel
theorem dX0_goOn_22 : decode cX0_goOn 22 = .ok (.invokevirtual 53, 3) := by decide +kernel
theorem dX0_goOn_25 : decode cX0_goOn 25 = .ok (.return_, 1) := by decide +kernel
theorem dX0_polish_0 : decode cX0_polish 0 = .ok (.iconst 0, 1) := by decide +kernel
theorem dX0_polish_1 : decode cX0_polish 1 = .ok (.istore_n 1, 1) := by decide +kernel
theorem dX0_polish_2 : decode cX0_polish 2 = .ok (.iload_n 1, 1) := by decide +kernel
theorem dX0_polish_3 : decode cX0_polish 3 = .ok (.aload_n 0, 1) := by decide +kernel
theorem dX0_polish_4 : decode cX0_polish 4 = .ok (.getfield 21, 3) := by decide +kernel
theorem dX0_polish_7 : decode cX0_polish 7 = .ok (.getfield 57, 3) := by decide +kernel
theorem dX0_polish_10 : decode cX0_polish 10 = .ok (.if_icmp .ge 27, 3) := by decide +kernel
theorem dX0_polish_13 : decode cX0_polish 13 = .ok (.aload_n 0, 1) := by decide +kernel
theorem dX0_polish_14 : decode cX0_polish 14 = .ok (.getfield 9, 3) := by decide +kernel
theorem dX0_polish_17 : decode cX0_polish 17 = .ok (.iload_n 1, 1) := by decide +kernel
theorem dX0_polish_18 : decode cX0_polish 18 = .ok (.iconst 0, 1) := by decide +kernel
theorem dX0_polish_19 : decode cX0_polish 19 = .ok (.aload_n 0, 1) := by decide +kernel
theorem dX0_polish_20 : decode cX0_polish 20 = .ok (.getfield 9, 3) := by decide +kernel
theorem dX0_polish_23 : decode cX0_polish 23 = .ok (.iload_n 1, 1) := by decide +kernel
theorem dX0_polish_24 : decode cX0_polish 24 = .ok (.iaload, 1) := by decide +kernel
theorem dX0_polish_25 : decode cX0_polish 25 = .ok (.iconst 1, 1) := by decide +kernel
theorem dX0_polish_26 : decode cX0_polish 26 = .ok (.isub, 1) := by decide +kernel
theorem dX0_polish_27 : decode cX0_polish 27 = .ok (.invokestatic 60, 3) := by decide +kernel
theorem dX0_polish_30 : decode cX0_polish 30 = .ok (.iastore, 1) := by decide +kernel
theorem dX0_polish_31 : decode cX0_polish 31 = .ok (.iinc 1 1, 3) := by decide +kernel
theorem dX0_polish_34 : decode cX0_polish 34 = .ok (.goto (-32), 3) := by decide +kernel
theorem dX0_polish_37 : decode cX0_polish 37 = .ok (.return_, 1) := by decide +kernel
theorem dX0_attempt_0 : decode cX0_attempt 0 = .ok (.iconst 0, 1) := by decide +kernel
theorem dX0_attempt_1 : decode cX0_attempt 1 = .ok (.aload_n 0, 1) := by decide +kernel
theorem dX0_attempt_2 : decode cX0_attempt 2 = .ok (.getfield 21, 3) := by decide +kernel
theorem dX0_attempt_5 : decode cX0_attempt 5 = .ok (.getfield 66, 3) := by decide +kernel
theorem dX0_attempt_8 : decode cX0_attempt 8 = .ok (.iload_n 1, 1) := by decide +kernel
theorem dX0_attempt_9 : decode cX0_attempt 9 = .ok (.iaload, 1) := by decide +kernel
theorem dX0_attempt_10 : decode cX0_attempt 10 = .ok (.aload_n 0, 1) := by decide +kernel
theorem dX0_attempt_11 : decode cX0_attempt 11 = .ok (.getfield 15, 3) := by decide +kernel
theorem dX0_attempt_14 : decode cX0_attempt 14 = .ok (.iload_n 1, 1) := by decide +kernel
theorem dX0_attempt_15 : decode cX0_attempt 15 = .ok (.iaload, 1) := by decide +kernel
theorem dX0_attempt_16 : decode cX0_attempt 16 = .ok (.isub, 1) := by decide +kernel
theorem dX0_attempt_17 : decode cX0_attempt 17 = .ok (.invokestatic 60, 3) := by decide +kernel
theorem dX0_attempt_20 : decode cX0_attempt 20 = .ok (.istore_n 2, 1) := by decide +kernel
theorem dX0_attempt_21 : decode cX0_attempt 21 = .ok (.iconst 0, 1) := by decide +kernel
theorem dX0_attempt_22 : decode cX0_attempt 22 = .ok (.istore_n 3, 1) := by decide +kernel
theorem dX0_attempt_23 : decode cX0_attempt 23 = .ok (.iconst 0, 1) := by decide +kernel
theorem dX0_attempt_24 : decode cX0_attempt 24 = .ok (.istore 4, 2) := by decide +kernel
theorem dX0_attempt_26 : decode cX0_attempt 26 = .ok (.iload 4, 2) := by decide +kernel
theorem dX0_attempt_28 : decode cX0_attempt 28 = .ok (.aload_n 0, 1) := by decide +kernel
theorem dX0_attempt_29 : decode cX0_attempt 29 = .ok (.getfield 21, 3) := by decide +kernel
theorem dX0_attempt_32 : decode cX0_attempt 32 = .ok (.getfield 57, 3) := by decide +kernel
theorem dX0_attempt_35 : decode cX0_attempt 35 = .ok (.if_icmp .ge 45, 3) := by decide +kernel
theorem dX0_attempt_38 : decode cX0_attempt 38 = .ok (.aload_n 0, 1) := by decide +kernel
theorem dX0_attempt_39 : decode cX0_attempt 39 = .ok (.getfield 21, 3) := by decide +kernel
theorem dX0_attempt_42 : decode cX0_attempt 42 = .ok (.iload_n 1, 1) := by decide +kernel
theorem dX0_attempt_43 : decode cX0_attempt 43 = .ok (.iload 4, 2) := by decide +kernel
theorem dX0_attempt_45 : decode cX0_attempt 45 = .ok (.aload_n 0, 1) := by decide +kernel
theorem dX0_attempt_46 : decode cX0_attempt 46 = .ok (.getfield 9, 3) := by decide +kernel
theorem dX0_attempt_49 : decode cX0_attempt 49 = .ok (.iload 4, 2) := by decide +kernel
theorem dX0_attempt_51 : decode cX0_attempt 51 = .ok (.iaload, 1) := by decide +kernel
theorem dX0_attempt_52 : decode cX0_attempt 52 = .ok (.invokevirtual 69, 3) := by decide +kernel
theorem dX0_attempt_55 : decode cX0_attempt 55 = .ok (.istore 5, 2) := by decide +kernel
theorem dX0_attempt_57 : decode cX0_attempt 57 = .ok (.iload 5, 2) := by decide +kernel
theorem dX0_attempt_59 : decode cX0_attempt 59 = .ok (.iload_n 2, 1) := by decide +kernel
theorem dX0_attempt_60 : decode cX0_attempt 60 = .ok (.if_icmp .le 6, 3) := by decide +kernel
theorem dX0_attempt_63 : decode cX0_attempt 63 = .ok (.goto 17, 3) := by decide +kernel
theorem dX0_attempt_66 : decode cX0_attempt 66 = .ok (.iload_n 2, 1) := by decide +kernel
theorem dX0_attempt_67 : decode cX0_attempt 67 = .ok (.iload 5, 2) := by decide +kernel
theorem dX0_attempt_69 : decode cX0_attempt 69 = .ok (.isub, 1) := by decide +kernel
theorem dX0_attempt_70 : decode cX0_attempt 70 = .ok (.istore_n 2, 1) := by decide +kernel
theorem dX0_attempt_71 : decode cX0_attempt 71 = .ok (.iinc 3 1, 3) := by decide +kernel
theorem dX0_attempt_74 : decode cX0_attempt 74 = .ok (.iinc 4 1, 3) := by decide +kernel
theorem dX0_attempt_77 : decode cX0_attempt 77 = .ok (.goto (-51), 3) := by decide +kernel
theorem dX0_attempt_80 : decode cX0_attempt 80 = .ok (.aload_n 0, 1) := by decide +kernel
theorem dX0_attempt_81 : decode cX0_attempt 81 = .ok (.getfield 15, 3) := by decide +kernel
theorem dX0_attempt_84 : decode cX0_attempt 84 = .ok (.iload_n 1, 1) := by decide +kernel
theorem dX0_attempt_85 : decode cX0_attempt 85 = .ok (.dup2, 1) := by decide +kernel
theorem dX0_attempt_86 : decode cX0_attempt 86 = .ok (.iaload, 1) := by decide +kernel
theorem dX0_attempt_87 : decode cX0_attempt 87 = .ok (.iconst 1, 1) := by decide +kernel
theorem dX0_attempt_88 : decode cX0_attempt 88 = .ok (.iadd, 1) := by decide +kernel
theorem dX0_attempt_89 : decode cX0_attempt 89 = .ok (.iastore, 1) := by decide +kernel
theorem dX0_attempt_90 : decode cX0_attempt 90 = .ok (.aload_n 0, 1) := by decide +kernel
theorem dX0_attempt_91 : decode cX0_attempt 91 = .ok (.getfield 18, 3) := by decide +kernel
theorem dX0_attempt_94 : decode cX0_attempt 94 = .ok (.iload_n 1, 1) := by decide +kernel
theorem dX0_attempt_95 : decode cX0_attempt 95 = .ok (.iload_n 3, 1) := by decide +kernel
theorem dX0_attempt_96 : decode cX0_attempt 96 = .ok (.iastore, 1) := by decide +kernel
theorem dX0_attempt_97 : decode cX0_attempt 97 = .ok (.iload_n 3, 1) := by decide +kernel
theorem dX0_attempt_98 : decode cX0_attempt 98 = .ok (.aload_n 0, 1) := by decide +kernel
theorem dX0_attempt_99 : decode cX0_attempt 99 = .ok (.getfield 21, 3) := by decide +kernel
theorem dX0_attempt_102 : decode cX0_attempt 102 = .ok (.getfield 57, 3) := by decide +kernel
theorem dX0_attempt_105 : decode cX0_attempt 105 = .ok (.if_icmp .ne 18, 3) := by decide +kernel
theorem dX0_attempt_108 : decode cX0_attempt 108 = .ok (.aload_n 0, 1) := by decide +kernel
theorem dX0_attempt_109 : decode cX0_attempt 109 = .ok (.dup, 1) := by decide +kernel
theorem dX0_attempt_110 : decode cX0_attempt 110 = .ok (.getfield 42, 3) := by decide +kernel
theorem dX0_attempt_113 : decode cX0_attempt 113 = .ok (.iconst 1, 1) := by decide +kernel
theorem dX0_attempt_114 : decode cX0_attempt 114 = .ok (.iload_n 1, 1) := by decide +kernel
theorem dX0_attempt_115 : decode cX0_attempt 115 = .ok (.ishl, 1) := by decide +kernel
theorem dX0_attempt_116 : decode cX0_attempt 116 = .ok (.ior, 1) := by decide +kernel
theorem dX0_attempt_117 : decode cX0_attempt 117 = .ok (.putfield 42, 3) := by decide +kernel
theorem dX0_attempt_120 : decode cX0_attempt 120 = .ok (.goto 16, 3) := by decide +kernel
theorem dX0_attempt_123 : decode cX0_attempt 123 = .ok (.aload_n 0, 1) := by decide +kernel
theorem dX0_attempt_124 : decode cX0_attempt 124 = .ok (.iload_n 3, 1) := by decide +kernel
theorem dX0_attempt_125 : decode cX0_attempt 125 = .ok (.aload_n 0, 1) := by decide +kernel
theorem dX0_attempt_126 : decode cX0_attempt 126 = .ok (.getfield 21, 3) := by decide +kernel
theorem dX0_attempt_129 : decode cX0_attempt 129 = .ok (.iload_n 1, 1) := by decide +kernel
theorem dX0_attempt_130 : decode cX0_attempt 130 = .ok (.invokevirtual 73, 3) := by decide +kernel
theorem dX0_attempt_133 : decode cX0_attempt 133 = .ok (.invokevirtual 77, 3) := by decide +kernel
theorem dX0_attempt_136 : decode cX0_attempt 136 = .ok (.return_, 1) := by decide +kernel
theorem dX0_slideBack_0 : decode cX0_slideBack 0 = .ok (.iconst 0, 1) := by decide +kernel
theorem dX0_slideBack_1 : decode cX0_slideBack 1 = .ok (.istore_n 3, 1) := by decide +kernel
theorem dX0_slideBack_2 : decode cX0_slideBack 2 = .ok (.iload_n 3, 1) := by decide +kernel
theorem dX0_slideBack_3 : decode cX0_slideBack 3 = .ok (.iload_n 1, 1) := by decide +kernel
theorem dX0_slideBack_4 : decode cX0_slideBack 4 = .ok (.if_icmp .ge 28, 3) := by decide +kernel
theorem dX0_slideBack_7 : decode cX0_slideBack 7 = .ok (.aload_n 0, 1) := by decide +kernel
theorem dX0_slideBack_8 : decode cX0_slideBack 8 = .ok (.getfield 9, 3) := by decide +kernel
theorem dX0_slideBack_11 : decode cX0_slideBack 11 = .ok (.iload_n 3, 1) := by decide +kernel
theorem dX0_slideBack_12 : decode cX0_slideBack 12 = .ok (.bipush 9, 2) := by decide +kernel
theorem dX0_slideBack_14 : decode cX0_slideBack 14 = .ok (.aload_n 0, 1) := by decide +kernel
theorem dX0_slideBack_15 : decode cX0_slideBack 15 = .ok (.getfield 9, 3) := by decide +kernel
theorem dX0_slideBack_18 : decode cX0_slideBack 18 = .ok (.iload_n 3, 1) := by decide +kernel
theorem dX0_slideBack_19 : decode cX0_slideBack 19 = .ok (.iaload, 1) := by decide +kernel
theorem dX0_slideBack_20 : decode cX0_slideBack 20 = .ok (.iload_n 2, 1) := by decide +kernel
theorem dX0_slideBack_21 : decode cX0_slideBack 21 = .ok (.iadd, 1) := by decide +kernel
theorem dX0_slideBack_22 : decode cX0_slideBack 22 = .ok (.invokestatic 81, 3) := by decide +kernel
theorem dX0_slideBack_25 : decode cX0_slideBack 25 = .ok (.iastore, 1) := by decide +kernel
theorem dX0_slideBack_26 : decode cX0_slideBack 26 = .ok (.iinc 3 1, 3) := by decide +kernel
theorem dX0_slideBack_29 : decode cX0_slideBack 29 = .ok (.goto (-27), 3) := by decide +kernel
theorem dX0_slideBack_32 : decode cX0_slideBack 32 = .ok (.return_, 1) := by decide +kernel
theorem dX0_scratchesOf_0 : decode cX0_scratchesOf 0 = .ok (.iload_n 1, 1) := by decide +kernel
theorem dX0_scratchesOf_1 : decode cX0_scratchesOf 1 = .ok (.iconst 0, 1) := by decide +kernel
theorem dX0_scratchesOf_2 : decode cX0_scratchesOf 2 = .ok (.aload_n 0, 1) := by decide +kernel
theorem dX0_scratchesOf_3 : decode cX0_scratchesOf 3 = .ok (.getfield 21, 3) := by decide +kernel
theorem dX0_scratchesOf_6 : decode cX0_scratchesOf 6 = .ok (.getfield 57, 3) := by decide +kernel
theorem dX0_scratchesOf_9 : decode cX0_scratchesOf 9 = .ok (.iconst 1, 1) := by decide +kernel
theorem dX0_scratchesOf_10 : decode cX0_scratchesOf 10 = .ok (.isub, 1) := by decide +kernel
theorem dX0_scratchesOf_11 : decode cX0_scratchesOf 11 = .ok (.invokestatic 84, 3) := by decide +kernel
theorem dX0_scratchesOf_14 : decode cX0_scratchesOf 14 = .ok (.ifCond .eq 12, 3) := by decide +kernel
theorem dX0_scratchesOf_17 : decode cX0_scratchesOf 17 = .ok (.aload_n 0, 1) := by decide +kernel
theorem dX0_scratchesOf_18 : decode cX0_scratchesOf 18 = .ok (.getfield 9, 3) := by decide +kernel
theorem dX0_scratchesOf_21 : decode cX0_scratchesOf 21 = .ok (.iload_n 1, 1) := by decide +kernel
theorem dX0_scratchesOf_22 : decode cX0_scratchesOf 22 = .ok (.iaload, 1) := by decide +kernel
theorem dX0_scratchesOf_23 : decode cX0_scratchesOf 23 = .ok (.goto 5, 3) := by decide +kernel
theorem dX0_scratchesOf_26 : decode cX0_scratchesOf 26 = .ok (.bipush (-9), 2) := by decide +kernel
theorem dX0_scratchesOf_28 : decode cX0_scratchesOf 28 = .ok (.ireturn, 1) := by decide +kernel
theorem dX0_heightOf_0 : decode cX0_heightOf 0 = .ok (.iload_n 1, 1) := by decide +kernel
theorem dX0_heightOf_1 : decode cX0_heightOf 1 = .ok (.iconst 0, 1) := by decide +kernel
theorem dX0_heightOf_2 : decode cX0_heightOf 2 = .ok (.aload_n 0, 1) := by decide +kernel
theorem dX0_heightOf_3 : decode cX0_heightOf 3 = .ok (.getfield 21, 3) := by decide +kernel
theorem dX0_heightOf_6 : decode cX0_heightOf 6 = .ok (.getfield 88, 3) := by decide +kernel
theorem dX0_heightOf_9 : decode cX0_heightOf 9 = .ok (.iconst 1, 1) := by decide +kernel
theorem dX0_heightOf_10 : decode cX0_heightOf 10 = .ok (.isub, 1) := by decide +kernel
theorem dX0_heightOf_11 : decode cX0_heightOf 11 = .ok (.invokestatic 84, 3) := by decide +kernel
theorem dX0_heightOf_14 : decode cX0_heightOf 14 = .ok (.ifCond .eq 12, 3) := by decide +kernel
theorem dX0_heightOf_17 : decode cX0_heightOf 17 = .ok (.aload_n 0, 1) := by decide +kernel
theorem dX0_heightOf_18 : decode cX0_heightOf 18 = .ok (.getfield 18, 3) := by decide +kernel
theorem dX0_heightOf_21 : decode cX0_heightOf 21 = .ok (.iload_n 1, 1) := by decide +kernel
theorem dX0_heightOf_22 : decode cX0_heightOf 22 = .ok (.iaload, 1) := by decide +kernel
theorem dX0_heightOf_23 : decode cX0_heightOf 23 = .ok (.goto 5, 3) := by decide +kernel
theorem dX0_heightOf_26 : decode cX0_heightOf 26 = .ok (.bipush (-9), 2) := by decide +kernel
theorem dX0_heightOf_28 : decode cX0_heightOf 28 = .ok (.ireturn, 1) := by decide +kernel
theorem dX1_init_0 : decode cX1_init 0 = .ok (.aload_n 0, 1) := by decide +kernel
theorem dX1_init_1 : decode cX1_init 1 = .ok (.invokespecial 1, 3) := by decide +kernel
theorem dX1_init_4 : decode cX1_init 4 = .ok (.aload_n 0, 1) := by decide +kernel
theorem dX1_init_5 : decode cX1_init 5 = .ok (.bipush 8, 2) := by decide +kernel
theorem dX1_init_7 : decode cX1_init 7 = .ok (.newarray .int, 2) := by decide +kernel
theorem dX1_init_9 : decode cX1_init 9 = .ok (.putfield 9, 3) := by decide +kernel
theorem dX1_init_12 : decode cX1_init 12 = .ok (.aload_n 0, 1) := by decide +kernel
theorem dX1_init_13 : decode cX1_init 13 = .ok (.bipush 8, 2) := by decide +kernel
theorem dX1_init_15 : decode cX1_init 15 = .ok (.newarray .int, 2) := by decide +kernel
theorem dX1_init_17 : decode cX1_init 17 = .ok (.putfield 13, 3) := by decide +kernel
theorem dX1_init_20 : decode cX1_init 20 = .ok (.return_, 1) := by decide +kernel
theorem dX1_isFull_0 : decode cX1_isFull 0 = .ok (.aload_n 0, 1) := by decide +kernel
theorem dX1_isFull_1 : decode cX1_isFull 1 = .ok (.getfield 16, 3) := by decide +kernel
theorem dX1_isFull_4 : decode cX1_isFull 4 = .ok (.bipush 8, 2) := by decide +kernel
theorem dX1_isFull_6 : decode cX1_isFull 6 = .ok (.if_icmp .lt 7, 3) := by decide +kernel
theorem dX1_isFull_9 : decode cX1_isFull 9 = .ok (.iconst 1, 1) := by decide +kernel
theorem dX1_isFull_10 : decode cX1_isFull 10 = .ok (.goto 4, 3) := by decide +kernel
theorem dX1_isFull_13 : decode cX1_isFull 13 = .ok (.iconst 0, 1) := by decide +kernel
theorem dX1_isFull_14 : decode cX1_isFull 14 = .ok (.ireturn, 1) := by decide +kernel
theorem dX1_add_0 : decode cX1_add 0 = .ok (.aload_n 0, 1) := by decide +kernel
theorem dX1_add_1 : decode cX1_add 1 = .ok (.getfield 9, 3) := by decide +kernel
theorem dX1_add_4 : decode cX1_add 4 = .ok (.aload_n 0, 1) := by decide +kernel
theorem dX1_add_5 : decode cX1_add 5 = .ok (.getfield 16, 3) := by decide +kernel
theorem dX1_add_8 : decode cX1_add 8 = .ok (.iload_n 1, 1) := by decide +kernel
theorem dX1_add_9 : decode cX1_add 9 = .ok (.iastore, 1) := by decide +kernel
theorem dX1_add_10 : decode cX1_add 10 = .ok (.aload_n 0, 1) := by decide +kernel
theorem dX1_add_11 : decode cX1_add 11 = .ok (.getfield 13, 3) := by decide +kernel
theorem dX1_add_14 : decode cX1_add 14 = .ok (.aload_n 0, 1) := by decide +kernel
theorem dX1_add_15 : decode cX1_add 15 = .ok (.getfield 16, 3) := by decide +kernel
theorem dX1_add_18 : decode cX1_add 18 = .ok (.iload_n 2, 1) := by decide +kernel
theorem dX1_add_19 : decode cX1_add 19 = .ok (.iastore, 1) := by decide +kernel
theorem dX1_add_20 : decode cX1_add 20 = .ok (.aload_n 0, 1) := by decide +kernel
theorem dX1_add_21 : decode cX1_add 21 = .ok (.dup, 1) := by decide +kernel
theorem dX1_add_22 : decode cX1_add 22 = .ok (.getfield 16, 3) := by decide +kernel
theorem dX1_add_25 : decode cX1_add 25 = .ok (.iconst 1, 1) := by decide +kernel
theorem dX1_add_26 : decode cX1_add 26 = .ok (.iadd, 1) := by decide +kernel
theorem dX1_add_27 : decode cX1_add 27 = .ok (.putfield 16, 3) := by decide +kernel
theorem dX1_add_30 : decode cX1_add 30 = .ok (.aload_n 0, 1) := by decide +kernel
theorem dX1_add_31 : decode cX1_add 31 = .ok (.getfield 16, 3) := by decide +kernel
theorem dX1_add_34 : decode cX1_add 34 = .ok (.iconst 1, 1) := by decide +kernel
theorem dX1_add_35 : decode cX1_add 35 = .ok (.isub, 1) := by decide +kernel
theorem dX1_add_36 : decode cX1_add 36 = .ok (.ireturn, 1) := by decide +kernel
theorem dX1_areSo_0 : decode cX1_areSo 0 = .ok (.iconst 0, 1) := by decide +kernel
theorem dX1_areSo_1 : decode cX1_areSo 1 = .ok (.istore_n 2, 1) := by decide +kernel
theorem dX1_areSo_2 : decode cX1_areSo 2 = .ok (.iload_n 2, 1) := by decide +kernel
theorem dX1_areSo_3 : decode cX1_areSo 3 = .ok (.aload_n 0, 1) := by decide +kernel
theorem dX1_areSo_4 : decode cX1_areSo 4 = .ok (.getfield 16, 3) := by decide +kernel
theorem dX1_areSo_7 : decode cX1_areSo 7 = .ok (.if_icmp .ge 30, 3) := by decide +kernel
theorem dX1_areSo_10 : decode cX1_areSo 10 = .ok (.aload_n 1, 1) := by decide +kernel
theorem dX1_areSo_11 : decode cX1_areSo 11 = .ok (.aload_n 0, 1) := by decide +kernel
theorem dX1_areSo_12 : decode cX1_areSo 12 = .ok (.getfield 9, 3) := by decide +kernel
theorem dX1_areSo_15 : decode cX1_areSo 15 = .ok (.iload_n 2, 1) := by decide +kernel
theorem dX1_areSo_16 : decode cX1_areSo 16 = .ok (.iaload, 1) := by decide +kernel
theorem dX1_areSo_17 : decode cX1_areSo 17 = .ok (.invokevirtual 20, 3) := by decide +kernel
theorem dX1_areSo_20 : decode cX1_areSo 20 = .ok (.aload_n 0, 1) := by decide +kernel
theorem dX1_areSo_21 : decode cX1_areSo 21 = .ok (.getfield 13, 3) := by decide +kernel
theorem dX1_areSo_24 : decode cX1_areSo 24 = .ok (.iload_n 2, 1) := by decide +kernel
theorem dX1_areSo_25 : decode cX1_areSo 25 = .ok (.iaload, 1) := by decide +kernel
theorem dX1_areSo_26 : decode cX1_areSo 26 = .ok (.if_icmp .eq 5, 3) := by decide +kernel
theorem dX1_areSo_29 : decode cX1_areSo 29 = .ok (.iconst 0, 1) := by decide +kernel
theorem dX1_areSo_30 : decode cX1_areSo 30 = .ok (.ireturn, 1) := by decide +kernel
theorem dX1_areSo_31 : decode cX1_areSo 31 = .ok (.iinc 2 1, 3) := by decide +kernel
theorem dX1_areSo_34 : decode cX1_areSo 34 = .ok (.goto (-32), 3) := by decide +kernel
theorem dX1_areSo_37 : decode cX1_areSo 37 = .ok (.iconst 1, 1) := by decide +kernel
theorem dX1_areSo_38 : decode cX1_areSo 38 = .ok (.ireturn, 1) := by decide +kernel
theorem dX2_init_0 : decode cX2_init 0 = .ok (.aload_n 0, 1) := by decide +kernel
theorem dX2_init_1 : decode cX2_init 1 = .ok (.invokespecial 3, 3) := by decide +kernel
theorem dX2_init_4 : decode cX2_init 4 = .ok (.aload_n 0, 1) := by decide +kernel
theorem dX2_init_5 : decode cX2_init 5 = .ok (.iconst (-1), 1) := by decide +kernel
theorem dX2_init_6 : decode cX2_init 6 = .ok (.putfield 11, 3) := by decide +kernel
theorem dX2_init_9 : decode cX2_init 9 = .ok (.aload_n 0, 1) := by decide +kernel
theorem dX2_init_10 : decode cX2_init 10 = .ok (.bipush 60, 2) := by decide +kernel
theorem dX2_init_12 : decode cX2_init 12 = .ok (.newarray .int, 2) := by decide +kernel
theorem dX2_init_14 : decode cX2_init 14 = .ok (.putfield 15, 3) := by decide +kernel
theorem dX2_init_17 : decode cX2_init 17 = .ok (.return_, 1) := by decide +kernel
theorem dX2_isNothing_0 : decode cX2_isNothing 0 = .ok (.aload_n 0, 1) := by decide +kernel
theorem dX2_isNothing_1 : decode cX2_isNothing 1 = .ok (.getfield 11, 3) := by decide +kernel
theorem dX2_isNothing_4 : decode cX2_isNothing 4 = .ok (.iconst (-1), 1) := by decide +kernel
theorem dX2_isNothing_5 : decode cX2_isNothing 5 = .ok (.if_icmp .ne 7, 3) := by decide +kernel
theorem dX2_isNothing_8 : decode cX2_isNothing 8 = .ok (.iconst 1, 1) := by decide +kernel
theorem dX2_isNothing_9 : decode cX2_isNothing 9 = .ok (.goto 4, 3) := by decide +kernel
theorem dX2_isNothing_12 : decode cX2_isNothing 12 = .ok (.iconst 0, 1) := by decide +kernel
theorem dX2_isNothing_13 : decode cX2_isNothing 13 = .ok (.ireturn, 1) := by decide +kernel
theorem dX2_renew_0 : decode cX2_renew 0 = .ok (.aload_n 0, 1) := by decide +kernel
theorem dX2_renew_1 : decode cX2_renew 1 = .ok (.iload_n 1, 1) := by decide +kernel
theorem dX2_renew_2 : decode cX2_renew 2 = .ok (.putfield 11, 3) := by decide +kernel
theorem dX2_renew_5 : decode cX2_renew 5 = .ok (.aload_n 0, 1) := by decide +kernel
theorem dX2_renew_6 : decode cX2_renew 6 = .ok (.iload_n 2, 1) := by decide +kernel
theorem dX2_renew_7 : decode cX2_renew 7 = .ok (.putfield 19, 3) := by decide +kernel
theorem dX2_renew_10 : decode cX2_renew 10 = .ok (.aload_n 0, 1) := by decide +kernel
theorem dX2_renew_11 : decode cX2_renew 11 = .ok (.getfield 15, 3) := by decide +kernel
theorem dX2_renew_14 : decode cX2_renew 14 = .ok (.iconst 0, 1) := by decide +kernel
theorem dX2_renew_15 : decode cX2_renew 15 = .ok (.invokestatic 22, 3) := by decide +kernel
theorem dX2_renew_18 : decode cX2_renew 18 = .ok (.return_, 1) := by decide +kernel
theorem dX2_holds_0 : decode cX2_holds 0 = .ok (.iload_n 1, 1) := by decide +kernel
theorem dX2_holds_1 : decode cX2_holds 1 = .ok (.ifCond .lt 29, 3) := by decide +kernel
theorem dX2_holds_4 : decode cX2_holds 4 = .ok (.iload_n 1, 1) := by decide +kernel
theorem dX2_holds_5 : decode cX2_holds 5 = .ok (.aload_n 0, 1) := by decide +kernel
theorem dX2_holds_6 : decode cX2_holds 6 = .ok (.getfield 19, 3) := by decide +kernel
theorem dX2_holds_9 : decode cX2_holds 9 = .ok (.if_icmp .gt 21, 3) := by decide +kernel
theorem dX2_holds_12 : decode cX2_holds 12 = .ok (.iload_n 2, 1) := by decide +kernel
theorem dX2_holds_13 : decode cX2_holds 13 = .ok (.ifCond .lt 17, 3) := by decide +kernel
theorem dX2_holds_16 : decode cX2_holds 16 = .ok (.iload_n 2, 1) := by decide +kernel
theorem dX2_holds_17 : decode cX2_holds 17 = .ok (.aload_n 0, 1) := by decide +kernel
theorem dX2_holds_18 : decode cX2_holds 18 = .ok (.getfield 19, 3) := by decide +kernel
theorem dX2_holds_21 : decode cX2_holds 21 = .ok (.iload_n 1, 1) := by decide +kernel
theorem dX2_holds_22 : decode cX2_holds 22 = .ok (.isub, 1) := by decide +kernel
theorem dX2_holds_23 : decode cX2_holds 23 = .ok (.if_icmp .gt 7, 3) := by decide +kernel
theorem dX2_holds_26 : decode cX2_holds 26 = .ok (.iconst 1, 1) := by decide +kernel
theorem dX2_holds_27 : decode cX2_holds 27 = .ok (.goto 4, 3) := by decide +kernel
theorem dX2_holds_30 : decode cX2_holds 30 = .ok (.iconst 0, 1) := by decide +kernel
theorem dX2_holds_31 : decode cX2_holds 31 = .ok (.ireturn, 1) := by decide +kernel
theorem dX2_lay_0 : decode cX2_lay 0 = .ok (.aload_n 0, 1) := by decide +kernel
theorem dX2_lay_1 : decode cX2_lay 1 = .ok (.getfield 11, 3) := by decide +kernel
theorem dX2_lay_4 : decode cX2_lay 4 = .ok (.ifCond .ne 14, 3) := by decide +kernel
theorem dX2_lay_7 : decode cX2_lay 7 = .ok (.aload_n 0, 1) := by decide +kernel
theorem dX2_lay_8 : decode cX2_lay 8 = .ok (.getfield 15, 3) := by decide +kernel
theorem dX2_lay_11 : decode cX2_lay 11 = .ok (.iload_n 1, 1) := by decide +kernel
theorem dX2_lay_12 : decode cX2_lay 12 = .ok (.iload_n 2, 1) := by decide +kernel
theorem dX2_lay_13 : decode cX2_lay 13 = .ok (.i2b, 1) := by decide +kernel
theorem dX2_lay_14 : decode cX2_lay 14 = .ok (.iastore, 1) := by decide +kernel
theorem dX2_lay_15 : decode cX2_lay 15 = .ok (.goto 29, 3) := by decide +kernel
theorem dX2_lay_18 : decode cX2_lay 18 = .ok (.aload_n 0, 1) := by decide +kernel
theorem dX2_lay_19 : decode cX2_lay 19 = .ok (.getfield 11, 3) := by decide +kernel
theorem dX2_lay_22 : decode cX2_lay 22 = .ok (.iconst 1, 1) := by decide +kernel
theorem dX2_lay_23 : decode cX2_lay 23 = .ok (.if_icmp .ne 14, 3) := by decide +kernel
theorem dX2_lay_26 : decode cX2_lay 26 = .ok (.aload_n 0, 1) := by decide +kernel
theorem dX2_lay_27 : decode cX2_lay 27 = .ok (.getfield 15, 3) := by decide +kernel
theorem dX2_lay_30 : decode cX2_lay 30 = .ok (.iload_n 1, 1) := by decide +kernel
theorem dX2_lay_31 : decode cX2_lay 31 = .ok (.iload_n 2, 1) := by decide +kernel
theorem dX2_lay_32 : decode cX2_lay 32 = .ok (.i2s, 1) := by decide +kernel
theorem dX2_lay_33 : decode cX2_lay 33 = .ok (.iastore, 1) := by decide +kernel
theorem dX2_lay_34 : decode cX2_lay 34 = .ok (.goto 10, 3) := by decide +kernel
theorem dX2_lay_37 : decode cX2_lay 37 = .ok (.aload_n 0, 1) := by decide +kernel
theorem dX2_lay_38 : decode cX2_lay 38 = .ok (.getfield 15, 3) := by decide +kernel
theorem dX2_lay_41 : decode cX2_lay 41 = .ok (.iload_n 1, 1) := by decide +kernel
theorem dX2_lay_42 : decode cX2_lay 42 = .ok (.iload_n 2, 1) := by decide +kernel
theorem dX2_lay_43 : decode cX2_lay 43 = .ok (.iastore, 1) := by decide +kernel
theorem dX2_lay_44 : decode cX2_lay 44 = .ok (.return_, 1) := by decide +kernel
theorem dX3_init_0 : decode cX3_init 0 = .ok (.aload_n 0, 1) := by decide +kernel
theorem dX3_init_1 : decode cX3_init 1 = .ok (.invokespecial 3, 3) := by decide +kernel
theorem dX3_init_4 : decode cX3_init 4 = .ok (.aload_n 0, 1) := by decide +kernel
theorem dX3_init_5 : decode cX3_init 5 = .ok (.bipush 8, 2) := by decide +kernel
theorem dX3_init_7 : decode cX3_init 7 = .ok (.newarray .int, 2) := by decide +kernel
theorem dX3_init_9 : decode cX3_init 9 = .ok (.putfield 9, 3) := by decide +kernel
theorem dX3_init_12 : decode cX3_init 12 = .ok (.aload_n 0, 1) := by decide +kernel
theorem dX3_init_13 : decode cX3_init 13 = .ok (.bipush 8, 2) := by decide +kernel
theorem dX3_init_15 : decode cX3_init 15 = .ok (.newarray .int, 2) := by decide +kernel
theorem dX3_init_17 : decode cX3_init 17 = .ok (.putfield 15, 3) := by decide +kernel
theorem dX3_init_20 : decode cX3_init 20 = .ok (.aload_n 0, 1) := by decide +kernel
theorem dX3_init_21 : decode cX3_init 21 = .ok (.iconst 5, 1) := by decide +kernel
theorem dX3_init_22 : decode cX3_init 22 = .ok (.newarray .int, 2) := by decide +kernel
theorem dX3_init_24 : decode cX3_init 24 = .ok (.putfield 18, 3) := by decide +kernel
theorem dX3_init_27 : decode cX3_init 27 = .ok (.aload_n 0, 1) := by decide +kernel
theorem dX3_init_28 : decode cX3_init 28 = .ok (.iconst 5, 1) := by decide +kernel
theorem dX3_init_29 : decode cX3_init 29 = .ok (.newarray .int, 2) := by decide +kernel
theorem dX3_init_31 : decode cX3_init 31 = .ok (.putfield 21, 3) := by decide +kernel
theorem dX3_init_34 : decode cX3_init 34 = .ok (.aload_n 0, 1) := by decide +kernel
theorem dX3_init_35 : decode cX3_init 35 = .ok (.iconst 5, 1) := by decide +kernel
theorem dX3_init_36 : decode cX3_init 36 = .ok (.newarray .int, 2) := by decide +kernel
theorem dX3_init_38 : decode cX3_init 38 = .ok (.putfield 24, 3) := by decide +kernel
theorem dX3_init_41 : decode cX3_init 41 = .ok (.return_, 1) := by decide +kernel
theorem dX3_toll_0 : decode cX3_toll 0 = .ok (.aload_n 0, 1) := by decide +kernel
theorem dX3_toll_1 : decode cX3_toll 1 = .ok (.getfield 9, 3) := by decide +kernel
theorem dX3_toll_4 : decode cX3_toll 4 = .ok (.iload_n 2, 1) := by decide +kernel
theorem dX3_toll_5 : decode cX3_toll 5 = .ok (.iaload, 1) := by decide +kernel
theorem dX3_toll_6 : decode cX3_toll 6 = .ok (.iload_n 3, 1) := by decide +kernel
theorem dX3_toll_7 : decode cX3_toll 7 = .ok (.isub, 1) := by decide +kernel
theorem dX3_toll_8 : decode cX3_toll 8 = .ok (.aload_n 0, 1) := by decide +kernel
theorem dX3_toll_9 : decode cX3_toll 9 = .ok (.getfield 24, 3) := by decide +kernel
theorem dX3_toll_12 : decode cX3_toll 12 = .ok (.iload_n 1, 1) := by decide +kernel
theorem dX3_toll_13 : decode cX3_toll 13 = .ok (.iaload, 1) := by decide +kernel
theorem dX3_toll_14 : decode cX3_toll 14 = .ok (.isub, 1) := by decide +kernel
theorem dX3_toll_15 : decode cX3_toll 15 = .ok (.istore 4, 2) := by decide +kernel
theorem dX3_toll_17 : decode cX3_toll 17 = .ok (.iconst 0, 1) := by decide +kernel
theorem dX3_toll_18 : decode cX3_toll 18 = .ok (.aload_n 0, 1) := by decide +kernel
theorem dX3_toll_19 : decode cX3_toll 19 = .ok (.getfield 18, 3) := by decide +kernel
theorem dX3_toll_22 : decode cX3_toll 22 = .ok (.iload_n 1, 1) := by decide +kernel
theorem dX3_toll_23 : decode cX3_toll 23 = .ok (.iaload, 1) := by decide +kernel
theorem dX3_toll_24 : decode cX3_toll 24 = .ok (.iconst 1, 1) := by decide +kernel
theorem dX3_toll_25 : decode cX3_toll 25 = .ok (.if_icmp .ne 10, 3) := by decide +kernel
theorem dX3_toll_28 : decode cX3_toll 28 = .ok (.iload 4, 2) := by decide +kernel
theorem dX3_toll_30 : decode cX3_toll 30 = .ok (.iconst 1, 1) := by decide +kernel
theorem dX3_toll_31 : decode cX3_toll 31 = .ok (.isub, 1) := by decide +kernel
theorem dX3_toll_32 : decode cX3_toll 32 = .ok (.goto 5, 3) := by decide +kernel
theorem dX3_toll_35 : decode cX3_toll 35 = .ok (.iload 4, 2) := by decide +kernel
theorem dX3_toll_37 : decode cX3_toll 37 = .ok (.invokestatic 27, 3) := by decide +kernel
theorem dX3_toll_40 : decode cX3_toll 40 = .ok (.ireturn, 1) := by decide +kernel
theorem dX3_marks_0 : decode cX3_marks 0 = .ok (.aload_n 0, 1) := by decide +kernel
theorem dX3_marks_1 : decode cX3_marks 1 = .ok (.getfield 18, 3) := by decide +kernel
theorem dX3_marks_4 : decode cX3_marks 4 = .ok (.iload_n 1, 1) := by decide +kernel
theorem dX3_marks_5 : decode cX3_marks 5 = .ok (.iaload, 1) := by decide +kernel
theorem dX3_marks_6 : decode cX3_marks 6 = .ok (.iconst 2, 1) := by decide +kernel
theorem dX3_marks_7 : decode cX3_marks 7 = .ok (.if_icmp .ne 7, 3) := by decide +kernel
theorem dX3_marks_10 : decode cX3_marks 10 = .ok (.iconst 2, 1) := by decide +kernel
theorem dX3_marks_11 : decode cX3_marks 11 = .ok (.goto 4, 3) := by decide +kernel
theorem dX3_marks_14 : decode cX3_marks 14 = .ok (.iconst 1, 1) := by decide +kernel
theorem dX3_marks_15 : decode cX3_marks 15 = .ok (.ireturn, 1) := by decide +kernel
theorem dX3_isUpWithSand_0 : decode cX3_isUpWithSand 0 = .ok (.aload_n 0, 1) := by decide +kernel
theorem dX3_isUpWithSand_1 : decode cX3_isUpWithSand 1 = .ok (.getfield 21, 3) := by decide +kernel
theorem dX3_isUpWithSand_4 : decode cX3_isUpWithSand 4 = .ok (.iload_n 1, 1) := by decide +kernel
theorem dX3_isUpWithSand_5 : decode cX3_isUpWithSand 5 = .ok (.iaload, 1) := by decide +kernel
theorem dX3_isUpWithSand_6 : decode cX3_isUpWithSand 6 = .ok (.istore_n 3, 1) := by decide +kernel
theorem dX3_isUpWithSand_7 : decode cX3_isUpWithSand 7 = .ok (.iconst 0, 1) := by decide +kernel
theorem dX3_isUpWithSand_8 : decode cX3_isUpWithSand 8 = .ok (.istore 4, 2) := by decide +kernel
theorem dX3_isUpWithSand_10 : decode cX3_isUpWithSand 10 = .ok (.iload 4, 2) := by decide +kernel
theorem dX3_isUpWithSand_12 : decode cX3_isUpWithSand 12 = .ok (.aload_n 0, 1) := by decide +kernel
theorem dX3_isUpWithSand_13 : decode cX3_isUpWithSand 13 = .ok (.getfield 33, 3) := by decide +kernel
theorem dX3_isUpWithSand_16 : decode cX3_isUpWithSand 16 = .ok (.if_icmp .ge 35, 3) := by decide +kernel
theorem dX3_isUpWithSand_19 : decode cX3_isUpWithSand 19 = .ok (.iload_n 2, 1) := by decide +kernel
theorem dX3_isUpWithSand_20 : decode cX3_isUpWithSand 20 = .ok (.iload 4, 2) := by decide +kernel
theorem dX3_isUpWithSand_22 : decode cX3_isUpWithSand 22 = .ok (.ishr, 1) := by decide +kernel
theorem dX3_isUpWithSand_23 : decode cX3_isUpWithSand 23 = .ok (.iconst 1, 1) := by decide +kernel
theorem dX3_isUpWithSand_24 : decode cX3_isUpWithSand 24 = .ok (.iand, 1) := by decide +kernel
theorem dX3_isUpWithSand_25 : decode cX3_isUpWithSand 25 = .ok (.ifCond .ne 20, 3) := by decide +kernel
theorem dX3_isUpWithSand_28 : decode cX3_isUpWithSand 28 = .ok (.iload_n 3, 1) := by decide +kernel
theorem dX3_isUpWithSand_29 : decode cX3_isUpWithSand 29 = .ok (.aload_n 0, 1) := by decide +kernel
theorem dX3_isUpWithSand_30 : decode cX3_isUpWithSand 30 = .ok (.iload_n 1, 1) := by decide +kernel
theorem dX3_isUpWithSand_31 : decode cX3_isUpWithSand 31 = .ok (.iload 4, 2) := by decide +kernel
theorem dX3_isUpWithSand_33 : decode cX3_isUpWithSand 33 = .ok (.aload_n 0, 1) := by decide +kernel
theorem dX3_isUpWithSand_34 : decode cX3_isUpWithSand 34 = .ok (.getfield 15, 3) := by decide +kernel
theorem dX3_isUpWithSand_37 : decode cX3_isUpWithSand 37 = .ok (.iload 4, 2) := by decide +kernel
theorem dX3_isUpWithSand_39 : decode cX3_isUpWithSand 39 = .ok (.iaload, 1) := by decide +kernel
theorem dX3_isUpWithSand_40 : decode cX3_isUpWithSand 40 = .ok (.invokevirtual 37, 3) := by decide +kernel
theorem dX3_isUpWithSand_43 : decode cX3_isUpWithSand 43 = .ok (.isub, 1) := by decide +kernel
theorem dX3_isUpWithSand_44 : decode cX3_isUpWithSand 44 = .ok (.istore_n 3, 1) := by decide +kernel
theorem dX3_isUpWithSand_45 : decode cX3_isUpWithSand 45 = .ok (.iinc 4 1, 3) := by decide +kernel
theorem dX3_isUpWithSand_48 : decode cX3_isUpWithSand 48 = .ok (.goto (-38), 3) := by decide +kernel
theorem dX3_isUpWithSand_51 : decode cX3_isUpWithSand 51 = .ok (.iload_n 3, 1) := by decide +kernel
theorem dX3_isUpWithSand_52 : decode cX3_isUpWithSand 52 = .ok (.ifCond .lt 7, 3) := by decide +kernel
theorem dX3_isUpWithSand_55 : decode cX3_isUpWithSand 55 = .ok (.iconst 1, 1) := by decide +kernel
theorem dX3_isUpWithSand_56 : decode cX3_isUpWithSand 56 = .ok (.goto 4, 3) := by decide +kernel
theorem dX3_isUpWithSand_59 : decode cX3_isUpWithSand 59 = .ok (.iconst 0, 1) := by decide +kernel
theorem dX3_isUpWithSand_60 : decode cX3_isUpWithSand 60 = .ok (.ireturn, 1) := by decide +kernel
theorem dX3_exchange_0 : decode cX3_exchange 0 = .ok (.iload_n 1, 1) := by decide +kernel
theorem dX3_exchange_1 : decode cX3_exchange 1 = .ok (.ifCond .ne 10, 3) := by decide +kernel
theorem dX3_exchange_4 : decode cX3_exchange 4 = .ok (.aload_n 0, 1) := by decide +kernel
theorem dX3_exchange_5 : decode cX3_exchange 5 = .ok (.getfield 21, 3) := by decide +kernel
theorem dX3_exchange_8 : decode cX3_exchange 8 = .ok (.goto 31, 3) := by decide +kernel
theorem dX3_exchange_11 : decode cX3_exchange 11 = .ok (.iload_n 1, 1) := by decide +kernel
theorem dX3_exchange_12 : decode cX3_exchange 12 = .ok (.iconst 1, 1) := by decide +kernel
theorem dX3_exchange_13 : decode cX3_exchange 13 = .ok (.if_icmp .ne 10, 3) := by decide +kernel
theorem dX3_exchange_16 : decode cX3_exchange 16 = .ok (.aload_n 0, 1) := by decide +kernel
theorem dX3_exchange_17 : decode cX3_exchange 17 = .ok (.getfield 24, 3) := by decide +kernel
theorem dX3_exchange_20 : decode cX3_exchange 20 = .ok (.goto 19, 3) := by decide +kernel
theorem dX3_exchange_23 : decode cX3_exchange 23 = .ok (.iload_n 1, 1) := by decide +kernel
theorem dX3_exchange_24 : decode cX3_exchange 24 = .ok (.iconst 2, 1) := by decide +kernel
theorem dX3_exchange_25 : decode cX3_exchange 25 = .ok (.if_icmp .ne 10, 3) := by decide +kernel
theorem dX3_exchange_28 : decode cX3_exchange 28 = .ok (.aload_n 0, 1) := by decide +kernel
theorem dX3_exchange_29 : decode cX3_exchange 29 = .ok (.getfield 9, 3) := by decide +kernel
theorem dX3_exchange_32 : decode cX3_exchange 32 = .ok (.goto 7, 3) := by decide +kernel
theorem dX3_exchange_35 : decode cX3_exchange 35 = .ok (.aload_n 0, 1) := by decide +kernel
theorem dX3_exchange_36 : decode cX3_exchange 36 = .ok (.getfield 18, 3) := by decide +kernel
theorem dX3_exchange_39 : decode cX3_exchange 39 = .ok (.astore 4, 2) := by decide +kernel
theorem dX3_exchange_41 : decode cX3_exchange 41 = .ok (.aload 4, 2) := by decide +kernel
theorem dX3_exchange_43 : decode cX3_exchange 43 = .ok (.iload_n 2, 1) := by decide +kernel
theorem dX3_exchange_44 : decode cX3_exchange 44 = .ok (.iaload, 1) := by decide +kernel
theorem dX3_exchange_45 : decode cX3_exchange 45 = .ok (.istore 5, 2) := by decide +kernel
theorem dX3_exchange_47 : decode cX3_exchange 47 = .ok (.aload 4, 2) := by decide +kernel
theorem dX3_exchange_49 : decode cX3_exchange 49 = .ok (.iload_n 2, 1) := by decide +kernel
theorem dX3_exchange_50 : decode cX3_exchange 50 = .ok (.iload_n 3, 1) := by decide +kernel
theorem dX3_exchange_51 : decode cX3_exchange 51 = .ok (.iastore, 1) := by decide +kernel
theorem dX3_exchange_52 : decode cX3_exchange 52 = .ok (.iload 5, 2) := by decide +kernel
theorem dX3_exchange_54 : decode cX3_exchange 54 = .ok (.ireturn, 1) := by decide +kernel
theorem dX4_firstFault_0 : decode cX4_firstFault 0 = .ok (.iconst 0, 1) := by decide +kernel
theorem dX4_firstFault_1 : decode cX4_firstFault 1 = .ok (.istore_n 3, 1) := by decide +kernel
theorem dX4_firstFault_2 : decode cX4_firstFault 2 = .ok (.iconst 0, 1) := by decide +kernel
theorem dX4_firstFault_3 : decode cX4_firstFault 3 = .ok (.istore 4, 2) := by decide +kernel
theorem dX4_firstFault_5 : decode cX4_firstFault 5 = .ok (.iload 4, 2) := by decide +kernel
theorem dX4_firstFault_7 : decode cX4_firstFault 7 = .ok (.iload_n 2, 1) := by decide +kernel
theorem dX4_firstFault_8 : decode cX4_firstFault 8 = .ok (.if_icmp .ge 46, 3) := by decide +kernel
theorem dX4_firstFault_11 : decode cX4_firstFault 11 = .ok (.aload_n 0, 1) := by decide +kernel
theorem dX4_firstFault_12 : decode cX4_firstFault 12 = .ok (.getfield 9, 3) := by decide +kernel
theorem dX4_firstFault_15 : decode cX4_firstFault 15 = .ok (.iload_n 1, 1) := by decide +kernel
theorem dX4_firstFault_16 : decode cX4_firstFault 16 = .ok (.iload 4, 2) := by decide +kernel
theorem dX4_firstFault_18 : decode cX4_firstFault 18 = .ok (.iadd, 1) := by decide +kernel
theorem dX4_firstFault_19 : decode cX4_firstFault 19 = .ok (.iaload, 1) := by decide +kernel
theorem dX4_firstFault_20 : decode cX4_firstFault 20 = .ok (.istore 5, 2) := by decide +kernel
theorem dX4_firstFault_22 : decode cX4_firstFault 22 = .ok (.iload 4, 2) := by decide +kernel
theorem dX4_firstFault_24 : decode cX4_firstFault 24 = .ok (.iload 5, 2) := by decide +kernel
theorem dX4_firstFault_26 : decode cX4_firstFault 26 = .ok (.iload_n 3, 1) := by decide +kernel
theorem dX4_firstFault_27 : decode cX4_firstFault 27 = .ok (.invokestatic 15, 3) := by decide +kernel
theorem dX4_firstFault_30 : decode cX4_firstFault 30 = .ok (.ifCond .ne 6, 3) := by decide +kernel
theorem dX4_firstFault_33 : decode cX4_firstFault 33 = .ok (.iload 4, 2) := by decide +kernel
theorem dX4_firstFault_35 : decode cX4_firstFault 35 = .ok (.ireturn, 1) := by decide +kernel
theorem dX4_firstFault_36 : decode cX4_firstFault 36 = .ok (.iload 4, 2) := by decide +kernel
theorem dX4_firstFault_38 : decode cX4_firstFault 38 = .ok (.iconst 1, 1) := by decide +kernel
theorem dX4_firstFault_39 : decode cX4_firstFault 39 = .ok (.if_icmp .ne 9, 3) := by decide +kernel
theorem dX4_firstFault_42 : decode cX4_firstFault 42 = .ok (.iload 5, 2) := by decide +kernel
theorem dX4_firstFault_44 : decode cX4_firstFault 44 = .ok (.bipush 48, 2) := by decide +kernel
theorem dX4_firstFault_46 : decode cX4_firstFault 46 = .ok (.isub, 1) := by decide +kernel
theorem dX4_firstFault_47 : decode cX4_firstFault 47 = .ok (.istore_n 3, 1) := by decide +kernel
theorem dX4_firstFault_48 : decode cX4_firstFault 48 = .ok (.iinc 4 1, 3) := by decide +kernel
theorem dX4_firstFault_51 : decode cX4_firstFault 51 = .ok (.goto (-46), 3) := by decide +kernel
theorem dX4_firstFault_54 : decode cX4_firstFault 54 = .ok (.iload_n 2, 1) := by decide +kernel
theorem dX4_firstFault_55 : decode cX4_firstFault 55 = .ok (.iconst 2, 1) := by decide +kernel
theorem dX4_firstFault_56 : decode cX4_firstFault 56 = .ok (.isub, 1) := by decide +kernel
theorem dX4_firstFault_57 : decode cX4_firstFault 57 = .ok (.iload_n 3, 1) := by decide +kernel
theorem dX4_firstFault_58 : decode cX4_firstFault 58 = .ok (.isub, 1) := by decide +kernel
theorem dX4_firstFault_59 : decode cX4_firstFault 59 = .ok (.istore 4, 2) := by decide +kernel
theorem dX4_firstFault_61 : decode cX4_firstFault 61 = .ok (.iload 4, 2) := by decide +kernel
theorem dX4_firstFault_63 : decode cX4_firstFault 63 = .ok (.ifCond .le 15, 3) := by decide +kernel
theorem dX4_firstFault_66 : decode cX4_firstFault 66 = .ok (.iload 4, 2) := by decide +kernel
theorem dX4_firstFault_68 : decode cX4_firstFault 68 = .ok (.iconst 5, 1) := by decide +kernel
theorem dX4_firstFault_69 : decode cX4_firstFault 69 = .ok (.irem, 1) := by decide +kernel
theorem dX4_firstFault_70 : decode cX4_firstFault 70 = .ok (.ifCond .ne 8, 3) := by decide +kernel
theorem dX4_firstFault_73 : decode cX4_firstFault 73 = .ok (.bipush (-9), 2) := by decide +kernel
theorem dX4_firstFault_75 : decode cX4_firstFault 75 = .ok (.goto 4, 3) := by decide +kernel
theorem dX4_firstFault_78 : decode cX4_firstFault 78 = .ok (.iload_n 2, 1) := by decide +kernel
theorem dX4_firstFault_79 : decode cX4_firstFault 79 = .ok (.ireturn, 1) := by decide +kernel
theorem dX4_goesOn_0 : decode cX4_goesOn 0 = .ok (.iload_n 0, 1) := by decide +kernel
theorem dX4_goesOn_1 : decode cX4_goesOn 1 = .ok (.ifCond .ne 15, 3) := by decide +kernel
theorem dX4_goesOn_4 : decode cX4_goesOn 4 = .ok (.iload_n 1, 1) := by decide +kernel
theorem dX4_goesOn_5 : decode cX4_goesOn 5 = .ok (.bipush 97, 2) := by decide +kernel
theorem dX4_goesOn_7 : decode cX4_goesOn 7 = .ok (.if_icmp .ne 7, 3) := by decide +kernel
theorem dX4_goesOn_10 : decode cX4_goesOn 10 = .ok (.iconst 1, 1) := by decide +kernel
theorem dX4_goesOn_11 : decode cX4_goesOn 11 = .ok (.goto 4, 3) := by decide +kernel
theorem dX4_goesOn_14 : decode cX4_goesOn 14 = .ok (.iconst 0, 1) := by decide +kernel
theorem dX4_goesOn_15 : decode cX4_goesOn 15 = .ok (.ireturn, 1) := by decide +kernel
theorem dX4_goesOn_16 : decode cX4_goesOn 16 = .ok (.iload_n 0, 1) := by decide +kernel
theorem dX4_goesOn_17 : decode cX4_goesOn 17 = .ok (.iconst 1, 1) := by decide +kernel
theorem dX4_goesOn_18 : decode cX4_goesOn 18 = .ok (.if_icmp .ne 12, 3) := by decide +kernel
theorem dX4_goesOn_21 : decode cX4_goesOn 21 = .ok (.iload_n 1, 1) := by decide +kernel
theorem dX4_goesOn_22 : decode cX4_goesOn 22 = .ok (.bipush 50, 2) := by decide +kernel
theorem dX4_goesOn_24 : decode cX4_goesOn 24 = .ok (.bipush 56, 2) := by decide +kernel
theorem dX4_goesOn_26 : decode cX4_goesOn 26 = .ok (.invokestatic 21, 3) := by decide +kernel
theorem dX4_goesOn_29 : decode cX4_goesOn 29 = .ok (.ireturn, 1) := by decide +kernel
theorem dX4_goesOn_30 : decode cX4_goesOn 30 = .ok (.iload_n 0, 1) := by decide +kernel
theorem dX4_goesOn_31 : decode cX4_goesOn 31 = .ok (.iconst 2, 1) := by decide +kernel
theorem dX4_goesOn_32 : decode cX4_goesOn 32 = .ok (.isub, 1) := by decide +kernel
theorem dX4_goesOn_33 : decode cX4_goesOn 33 = .ok (.iload_n 2, 1) := by decide +kernel
theorem dX4_goesOn_34 : decode cX4_goesOn 34 = .ok (.isub, 1) := by decide +kernel
theorem dX4_goesOn_35 : decode cX4_goesOn 35 = .ok (.istore_n 3, 1) := by decide +kernel
theorem dX4_goesOn_36 : decode cX4_goesOn 36 = .ok (.iload_n 3, 1) := by decide +kernel
theorem dX4_goesOn_37 : decode cX4_goesOn 37 = .ok (.ifCond .ge 12, 3) := by decide +kernel
theorem dX4_goesOn_40 : decode cX4_goesOn 40 = .ok (.iload_n 1, 1) := by decide +kernel
theorem dX4_goesOn_41 : decode cX4_goesOn 41 = .ok (.bipush 48, 2) := by decide +kernel
theorem dX4_goesOn_43 : decode cX4_goesOn 43 = .ok (.bipush 57, 2) := by decide +kernel
theorem dX4_goesOn_45 : decode cX4_goesOn 45 = .ok (.invokestatic 21, 3) := by decide +kernel
theorem dX4_goesOn_48 : decode cX4_goesOn 48 = .ok (.ireturn, 1) := by decide +kernel
theorem dX4_goesOn_49 : decode cX4_goesOn 49 = .ok (.iload_n 3, 1) := by decide +kernel
theorem dX4_goesOn_50 : decode cX4_goesOn 50 = .ok (.bipush 25, 2) := by decide +kernel
theorem dX4_goesOn_52 : decode cX4_goesOn 52 = .ok (.if_icmp .lt 5, 3) := by decide +kernel
theorem dX4_goesOn_55 : decode cX4_goesOn 55 = .ok (.iconst 0, 1) := by decide +kernel
theorem dX4_goesOn_56 : decode cX4_goesOn 56 = .ok (.ireturn, 1) := by decide +kernel
theorem dX4_goesOn_57 : decode cX4_goesOn 57 = .ok (.iload_n 3, 1) := by decide +kernel
theorem dX4_goesOn_58 : decode cX4_goesOn 58 = .ok (.iconst 5, 1) := by decide +kernel
theorem dX4_goesOn_59 : decode cX4_goesOn 59 = .ok (.irem, 1) := by decide +kernel
theorem dX4_goesOn_60 : decode cX4_goesOn 60 = .ok (.lookupswitch 64 #[(0, 28), (1, 40)], 28) := by decide +kernel
theorem dX4_goesOn_88 : decode cX4_goesOn 88 = .ok (.iload_n 1, 1) := by decide +kernel
theorem dX4_goesOn_89 : decode cX4_goesOn 89 = .ok (.bipush 44, 2) := by decide +kernel
theorem dX4_goesOn_91 : decode cX4_goesOn 91 = .ok (.if_icmp .ne 7, 3) := by decide +kernel
theorem dX4_goesOn_94 : decode cX4_goesOn 94 = .ok (.iconst 1, 1) := by decide +kernel
theorem dX4_goesOn_95 : decode cX4_goesOn 95 = .ok (.goto 4, 3) := by decide +kernel
theorem dX4_goesOn_98 : decode cX4_goesOn 98 = .ok (.iconst 0, 1) := by decide +kernel
theorem dX4_goesOn_99 : decode cX4_goesOn 99 = .ok (.ireturn, 1) := by decide +kernel
theorem dX4_goesOn_100 : decode cX4_goesOn 100 = .ok (.iload_n 1, 1) := by decide +kernel
theorem dX4_goesOn_101 : decode cX4_goesOn 101 = .ok (.bipush 114, 2) := by decide +kernel
theorem dX4_goesOn_103 : decode cX4_goesOn 103 = .ok (.if_icmp .eq 15, 3) := by decide +kernel
theorem dX4_goesOn_106 : decode cX4_goesOn 106 = .ok (.iload_n 1, 1) := by decide +kernel
theorem dX4_goesOn_107 : decode cX4_goesOn 107 = .ok (.bipush 110, 2) := by decide +kernel
theorem dX4_goesOn_109 : decode cX4_goesOn 109 = .ok (.if_icmp .eq 9, 3) := by decide +kernel
theorem dX4_goesOn_112 : decode cX4_goesOn 112 = .ok (.iload_n 1, 1) := by decide +kernel
theorem dX4_goesOn_113 : decode cX4_goesOn 113 = .ok (.bipush 108, 2) := by decide +kernel
theorem dX4_goesOn_115 : decode cX4_goesOn 115 = .ok (.if_icmp .ne 7, 3) := by decide +kernel
theorem dX4_goesOn_118 : decode cX4_goesOn 118 = .ok (.iconst 1, 1) := by decide +kernel
theorem dX4_goesOn_119 : decode cX4_goesOn 119 = .ok (.goto 4, 3) := by decide +kernel
theorem dX4_goesOn_122 : decode cX4_goesOn 122 = .ok (.iconst 0, 1) := by decide +kernel
theorem dX4_goesOn_123 : decode cX4_goesOn 123 = .ok (.ireturn, 1) := by decide +kernel
theorem dX4_goesOn_124 : decode cX4_goesOn 124 = .ok (.iload_n 1, 1) := by decide +kernel
theorem dX4_goesOn_125 : decode cX4_goesOn 125 = .ok (.bipush 48, 2) := by decide +kernel
theorem dX4_goesOn_127 : decode cX4_goesOn 127 = .ok (.bipush 57, 2) := by decide +kernel
theorem dX4_goesOn_129 : decode cX4_goesOn 129 = .ok (.invokestatic 21, 3) := by decide +kernel
theorem dX4_goesOn_132 : decode cX4_goesOn 132 = .ok (.ireturn, 1) := by decide +kernel
theorem dX4_build_0 : decode cX4_build 0 = .ok (.aload_n 0, 1) := by decide +kernel
theorem dX4_build_1 : decode cX4_build 1 = .ok (.aload_n 1, 1) := by decide +kernel
theorem dX4_build_2 : decode cX4_build 2 = .ok (.iload_n 2, 1) := by decide +kernel
theorem dX4_build_3 : decode cX4_build 3 = .ok (.iconst 1, 1) := by decide +kernel
theorem dX4_build_4 : decode cX4_build 4 = .ok (.iadd, 1) := by decide +kernel
theorem dX4_build_5 : decode cX4_build 5 = .ok (.invokestatic 24, 3) := by decide +kernel
theorem dX4_build_8 : decode cX4_build 8 = .ok (.putfield 28, 3) := by decide +kernel
theorem dX4_build_11 : decode cX4_build 11 = .ok (.aload_n 0, 1) := by decide +kernel
theorem dX4_build_12 : decode cX4_build 12 = .ok (.iload_n 3, 1) := by decide +kernel
theorem dX4_build_13 : decode cX4_build 13 = .ok (.iconst 2, 1) := by decide +kernel
theorem dX4_build_14 : decode cX4_build 14 = .ok (.isub, 1) := by decide +kernel
theorem dX4_build_15 : decode cX4_build 15 = .ok (.aload_n 0, 1) := by decide +kernel
theorem dX4_build_16 : decode cX4_build 16 = .ok (.getfield 28, 3) := by decide +kernel
theorem dX4_build_19 : decode cX4_build 19 = .ok (.isub, 1) := by decide +kernel
theorem dX4_build_20 : decode cX4_build 20 = .ok (.iconst 5, 1) := by decide +kernel
theorem dX4_build_21 : decode cX4_build 21 = .ok (.idiv, 1) := by decide +kernel
theorem dX4_build_22 : decode cX4_build 22 = .ok (.putfield 34, 3) := by decide +kernel
theorem dX4_build_25 : decode cX4_build 25 = .ok (.iconst 0, 1) := by decide +kernel
theorem dX4_build_26 : decode cX4_build 26 = .ok (.istore 4, 2) := by decide +kernel
theorem dX4_build_28 : decode cX4_build 28 = .ok (.iload 4, 2) := by decide +kernel
theorem dX4_build_30 : decode cX4_build 30 = .ok (.aload_n 0, 1) := by decide +kernel
theorem dX4_build_31 : decode cX4_build 31 = .ok (.getfield 28, 3) := by decide +kernel
theorem dX4_build_34 : decode cX4_build 34 = .ok (.if_icmp .ge 34, 3) := by decide +kernel
theorem dX4_build_37 : decode cX4_build 37 = .ok (.aload_n 0, 1) := by decide +kernel
theorem dX4_build_38 : decode cX4_build 38 = .ok (.getfield 37, 3) := by decide +kernel
theorem dX4_build_41 : decode cX4_build 41 = .ok (.iload 4, 2) := by decide +kernel
theorem dX4_build_43 : decode cX4_build 43 = .ok (.aload_n 1, 1) := by decide +kernel
theorem dX4_build_44 : decode cX4_build 44 = .ok (.iload_n 2, 1) := by decide +kernel
theorem dX4_build_45 : decode cX4_build 45 = .ok (.iconst 2, 1) := by decide +kernel
theorem dX4_build_46 : decode cX4_build 46 = .ok (.iadd, 1) := by decide +kernel
theorem dX4_build_47 : decode cX4_build 47 = .ok (.iload 4, 2) := by decide +kernel
theorem dX4_build_49 : decode cX4_build 49 = .ok (.iadd, 1) := by decide +kernel
theorem dX4_build_50 : decode cX4_build 50 = .ok (.invokestatic 24, 3) := by decide +kernel
theorem dX4_build_53 : decode cX4_build 53 = .ok (.iastore, 1) := by decide +kernel
theorem dX4_build_54 : decode cX4_build 54 = .ok (.aload_n 0, 1) := by decide +kernel
theorem dX4_build_55 : decode cX4_build 55 = .ok (.getfield 40, 3) := by decide +kernel
theorem dX4_build_58 : decode cX4_build 58 = .ok (.iload 4, 2) := by decide +kernel
theorem dX4_build_60 : decode cX4_build 60 = .ok (.iconst 0, 1) := by decide +kernel
theorem dX4_build_61 : decode cX4_build 61 = .ok (.iastore, 1) := by decide +kernel
theorem dX4_build_62 : decode cX4_build 62 = .ok (.iinc 4 1, 3) := by decide +kernel
theorem dX4_build_65 : decode cX4_build 65 = .ok (.goto (-37), 3) := by decide +kernel
theorem dX4_build_68 : decode cX4_build 68 = .ok (.iconst 0, 1) := by decide +kernel
theorem dX4_build_69 : decode cX4_build 69 = .ok (.istore 4, 2) := by decide +kernel
theorem dX4_build_71 : decode cX4_build 71 = .ok (.iload 4, 2) := by decide +kernel
theorem dX4_build_73 : decode cX4_build 73 = .ok (.aload_n 0, 1) := by decide +kernel
theorem dX4_build_74 : decode cX4_build 74 = .ok (.getfield 34, 3) := by decide +kernel
theorem dX4_build_77 : decode cX4_build 77 = .ok (.if_icmp .ge 85, 3) := by decide +kernel
theorem dX4_build_80 : decode cX4_build 80 = .ok (.iload_n 2, 1) := by decide +kernel
theorem dX4_build_81 : decode cX4_build 81 = .ok (.iconst 2, 1) := by decide +kernel
theorem dX4_build_82 : decode cX4_build 82 = .ok (.iadd, 1) := by decide +kernel
theorem dX4_build_83 : decode cX4_build 83 = .ok (.aload_n 0, 1) := by decide +kernel
theorem dX4_build_84 : decode cX4_build 84 = .ok (.getfield 28, 3) := by decide +kernel
theorem dX4_build_87 : decode cX4_build 87 = .ok (.iadd, 1) := by decide +kernel
theorem dX4_build_88 : decode cX4_build 88 = .ok (.iload 4, 2) := by decide +kernel
theorem dX4_build_90 : decode cX4_build 90 = .ok (.iconst 5, 1) := by decide +kernel
theorem dX4_build_91 : decode cX4_build 91 = .ok (.imul, 1) := by decide +kernel
theorem dX4_build_92 : decode cX4_build 92 = .ok (.iadd, 1) := by decide +kernel
theorem dX4_build_93 : decode cX4_build 93 = .ok (.istore 5, 2) := by decide +kernel
theorem dX4_build_95 : decode cX4_build 95 = .ok (.aload_n 0, 1) := by decide +kernel
theorem dX4_build_96 : decode cX4_build 96 = .ok (.getfield 43, 3) := by decide +kernel
theorem dX4_build_99 : decode cX4_build 99 = .ok (.iload 4, 2) := by decide +kernel
theorem dX4_build_101 : decode cX4_build 101 = .ok (.aload_n 1, 1) := by decide +kernel
theorem dX4_build_102 : decode cX4_build 102 = .ok (.getfield 9, 3) := by decide +kernel
theorem dX4_build_105 : decode cX4_build 105 = .ok (.iload 5, 2) := by decide +kernel
theorem dX4_build_107 : decode cX4_build 107 = .ok (.iconst 1, 1) := by decide +kernel
theorem dX4_build_108 : decode cX4_build 108 = .ok (.iadd, 1) := by decide +kernel
theorem dX4_build_109 : decode cX4_build 109 = .ok (.iaload, 1) := by decide +kernel
theorem dX4_build_110 : decode cX4_build 110 = .ok (.invokestatic 46, 3) := by decide +kernel
theorem dX4_build_113 : decode cX4_build 113 = .ok (.iastore, 1) := by decide +kernel
theorem dX4_build_114 : decode cX4_build 114 = .ok (.aload_n 0, 1) := by decide +kernel
theorem dX4_build_115 : decode cX4_build 115 = .ok (.getfield 50, 3) := by decide +kernel
theorem dX4_build_118 : decode cX4_build 118 = .ok (.iload 4, 2) := by decide +kernel
theorem dX4_build_120 : decode cX4_build 120 = .ok (.bipush 10, 2) := by decide +kernel
theorem dX4_build_122 : decode cX4_build 122 = .ok (.aload_n 1, 1) := by decide +kernel
theorem dX4_build_123 : decode cX4_build 123 = .ok (.iload 5, 2) := by decide +kernel
theorem dX4_build_125 : decode cX4_build 125 = .ok (.iconst 2, 1) := by decide +kernel
theorem dX4_build_126 : decode cX4_build 126 = .ok (.iadd, 1) := by decide +kernel
theorem dX4_build_127 : decode cX4_build 127 = .ok (.invokestatic 24, 3) := by decide +kernel
theorem dX4_build_130 : decode cX4_build 130 = .ok (.imul, 1) := by decide +kernel
theorem dX4_build_131 : decode cX4_build 131 = .ok (.aload_n 1, 1) := by decide +kernel
theorem dX4_build_132 : decode cX4_build 132 = .ok (.iload 5, 2) := by decide +kernel
theorem dX4_build_134 : decode cX4_build 134 = .ok (.iconst 3, 1) := by decide +kernel
theorem dX4_build_135 : decode cX4_build 135 = .ok (.iadd, 1) := by decide +kernel
theorem dX4_build_136 : decode cX4_build 136 = .ok (.invokestatic 24, 3) := by decide +kernel
theorem dX4_build_139 : decode cX4_build 139 = .ok (.iadd, 1) := by decide +kernel
theorem dX4_build_140 : decode cX4_build 140 = .ok (.iastore, 1) := by decide +kernel
theorem dX4_build_141 : decode cX4_build 141 = .ok (.aload_n 0, 1) := by decide +kernel
theorem dX4_build_142 : decode cX4_build 142 = .ok (.getfield 53, 3) := by decide +kernel
theorem dX4_build_145 : decode cX4_build 145 = .ok (.iload 4, 2) := by decide +kernel
theorem dX4_build_147 : decode cX4_build 147 = .ok (.aload_n 1, 1) := by decide +kernel
theorem dX4_build_148 : decode cX4_build 148 = .ok (.iload 5, 2) := by decide +kernel
theorem dX4_build_150 : decode cX4_build 150 = .ok (.iconst 4, 1) := by decide +kernel
theorem dX4_build_151 : decode cX4_build 151 = .ok (.iadd, 1) := by decide +kernel
theorem dX4_build_152 : decode cX4_build 152 = .ok (.invokestatic 24, 3) := by decide +kernel
theorem dX4_build_155 : decode cX4_build 155 = .ok (.iastore, 1) := by decide +kernel
theorem dX4_build_156 : decode cX4_build 156 = .ok (.iinc 4 1, 3) := by decide +kernel
theorem dX4_build_159 : decode cX4_build 159 = .ok (.goto (-88), 3) := by decide +kernel
theorem dX4_build_162 : decode cX4_build 162 = .ok (.return_, 1) := by decide +kernel
theorem dX4_digit_0 : decode cX4_digit 0 = .ok (.aload_n 0, 1) := by decide +kernel
theorem dX4_digit_1 : decode cX4_digit 1 = .ok (.getfield 9, 3) := by decide +kernel
theorem dX4_digit_4 : decode cX4_digit 4 = .ok (.iload_n 1, 1) := by decide +kernel
theorem dX4_digit_5 : decode cX4_digit 5 = .ok (.iaload, 1) := by decide +kernel
theorem dX4_digit_6 : decode cX4_digit 6 = .ok (.bipush 48, 2) := by decide +kernel
theorem dX4_digit_8 : decode cX4_digit 8 = .ok (.isub, 1) := by decide +kernel
theorem dX4_digit_9 : decode cX4_digit 9 = .ok (.ireturn, 1) := by decide +kernel
theorem dX4_kindOf_0 : decode cX4_kindOf 0 = .ok (.iload_n 0, 1) := by decide +kernel
theorem dX4_kindOf_1 : decode cX4_kindOf 1 = .ok (.bipush 108, 2) := by decide +kernel
theorem dX4_kindOf_3 : decode cX4_kindOf 3 = .ok (.if_icmp .ne 5, 3) := by decide +kernel
theorem dX4_kindOf_6 : decode cX4_kindOf 6 = .ok (.iconst 2, 1) := by decide +kernel
theorem dX4_kindOf_7 : decode cX4_kindOf 7 = .ok (.ireturn, 1) := by decide +kernel
theorem dX4_kindOf_8 : decode cX4_kindOf 8 = .ok (.iload_n 0, 1) := by decide +kernel
theorem dX4_kindOf_9 : decode cX4_kindOf 9 = .ok (.bipush 110, 2) := by decide +kernel
theorem dX4_kindOf_11 : decode cX4_kindOf 11 = .ok (.if_icmp .ne 7, 3) := by decide +kernel
theorem dX4_kindOf_14 : decode cX4_kindOf 14 = .ok (.iconst 1, 1) := by decide +kernel
theorem dX4_kindOf_15 : decode cX4_kindOf 15 = .ok (.goto 4, 3) := by decide +kernel
theorem dX4_kindOf_18 : decode cX4_kindOf 18 = .ok (.iconst 0, 1) := by decide +kernel
theorem dX4_kindOf_19 : decode cX4_kindOf 19 = .ok (.ireturn, 1) := by decide +kernel
theorem dX5_init_0 : decode cX5_init 0 = .ok (.aload_n 0, 1) := by decide +kernel
theorem dX5_init_1 : decode cX5_init 1 = .ok (.invokespecial 3, 3) := by decide +kernel
theorem dX5_init_4 : decode cX5_init 4 = .ok (.aload_n 0, 1) := by decide +kernel
theorem dX5_init_5 : decode cX5_init 5 = .ok (.new 9, 3) := by decide +kernel
theorem dX5_init_8 : decode cX5_init 8 = .ok (.dup, 1) := by decide +kernel
theorem dX5_init_9 : decode cX5_init 9 = .ok (.invokespecial 11, 3) := by decide +kernel
theorem dX5_init_12 : decode cX5_init 12 = .ok (.putfield 12, 3) := by decide +kernel
theorem dX5_init_15 : decode cX5_init 15 = .ok (.aload_n 0, 1) := by decide +kernel
theorem dX5_init_16 : decode cX5_init 16 = .ok (.new 18, 3) := by decide +kernel
theorem dX5_init_19 : decode cX5_init 19 = .ok (.dup, 1) := by decide +kernel
theorem dX5_init_20 : decode cX5_init 20 = .ok (.invokespecial 20, 3) := by decide +kernel
theorem dX5_init_23 : decode cX5_init 23 = .ok (.putfield 21, 3) := by decide +kernel
theorem dX5_init_26 : decode cX5_init 26 = .ok (.aload_n 0, 1) := by decide +kernel
theorem dX5_init_27 : decode cX5_init 27 = .ok (.iconst 4, 1) := by decide +kernel
theorem dX5_init_28 : decode cX5_init 28 = .ok (.anewarray 25, 3) := by decide +kernel
theorem dX5_init_31 : decode cX5_init 31 = .ok (.putfield 27, 3) := by decide +kernel
theorem dX5_init_34 : decode cX5_init 34 = .ok (.iconst 0, 1) := by decide +kernel
theorem dX5_init_35 : decode cX5_init 35 = .ok (.istore_n 1, 1) := by decide +kernel
theorem dX5_init_36 : decode cX5_init 36 = .ok (.iload_n 1, 1) := by decide +kernel
theorem dX5_init_37 : decode cX5_init 37 = .ok (.iconst 4, 1) := by decide +kernel
theorem dX5_init_38 : decode cX5_init 38 = .ok (.if_icmp .ge 22, 3) := by decide +kernel
theorem dX5_init_41 : decode cX5_init 41 = .ok (.aload_n 0, 1) := by decide +kernel
theorem dX5_init_42 : decode cX5_init 42 = .ok (.getfield 27, 3) := by decide +kernel
theorem dX5_init_45 : decode cX5_init 45 = .ok (.iload_n 1, 1) := by decide +kernel
theorem dX5_init_46 : decode cX5_init 46 = .ok (.new 25, 3) := by decide +kernel
theorem dX5_init_49 : decode cX5_init 49 = .ok (.dup, 1) := by decide +kernel
theorem dX5_init_50 : decode cX5_init 50 = .ok (.invokespecial 31, 3) := by decide +kernel
theorem dX5_init_53 : decode cX5_init 53 = .ok (.aastore, 1) := by decide +kernel
theorem dX5_init_54 : decode cX5_init 54 = .ok (.iinc 1 1, 3) := by decide +kernel
theorem dX5_init_57 : decode cX5_init 57 = .ok (.goto (-21), 3) := by decide +kernel
theorem dX5_init_60 : decode cX5_init 60 = .ok (.aload_n 0, 1) := by decide +kernel
theorem dX5_init_61 : decode cX5_init 61 = .ok (.bipush 11, 2) := by decide +kernel
theorem dX5_init_63 : decode cX5_init 63 = .ok (.anewarray 32, 3) := by decide +kernel
theorem dX5_init_66 : decode cX5_init 66 = .ok (.putfield 34, 3) := by decide +kernel
theorem dX5_init_69 : decode cX5_init 69 = .ok (.iconst 0, 1) := by decide +kernel
theorem dX5_init_70 : decode cX5_init 70 = .ok (.istore_n 1, 1) := by decide +kernel
theorem dX5_init_71 : decode cX5_init 71 = .ok (.iload_n 1, 1) := by decide +kernel
theorem dX5_init_72 : decode cX5_init 72 = .ok (.bipush 10, 2) := by decide +kernel
theorem dX5_init_74 : decode cX5_init 74 = .ok (.if_icmp .gt 26, 3) := by decide +kernel
theorem dX5_init_77 : decode cX5_init 77 = .ok (.aload_n 0, 1) := by decide +kernel
theorem dX5_init_78 : decode cX5_init 78 = .ok (.getfield 34, 3) := by decide +kernel
theorem dX5_init_81 : decode cX5_init 81 = .ok (.iload_n 1, 1) := by decide +kernel
theorem dX5_init_82 : decode cX5_init 82 = .ok (.new 32, 3) := by decide +kernel
theorem dX5_init_85 : decode cX5_init 85 = .ok (.dup, 1) := by decide +kernel
theorem dX5_init_86 : decode cX5_init 86 = .ok (.aload_n 0, 1) := by decide +kernel
theorem dX5_init_87 : decode cX5_init 87 = .ok (.getfield 12, 3) := by decide +kernel
theorem dX5_init_90 : decode cX5_init 90 = .ok (.invokespecial 38, 3) := by decide +kernel
theorem dX5_init_93 : decode cX5_init 93 = .ok (.aastore, 1) := by decide +kernel
theorem dX5_init_94 : decode cX5_init 94 = .ok (.iinc 1 1, 3) := by decide +kernel
theorem dX5_init_97 : decode cX5_init 97 = .ok (.goto (-26), 3) := by decide +kernel
theorem dX5_init_100 : decode cX5_init 100 = .ok (.aload_n 0, 1) := by decide +kernel
theorem dX5_init_101 : decode cX5_init 101 = .ok (.bipush 30, 2) := by decide +kernel
theorem dX5_init_103 : decode cX5_init 103 = .ok (.newarray .int, 2) := by decide +kernel
theorem dX5_init_105 : decode cX5_init 105 = .ok (.putfield 41, 3) := by decide +kernel
theorem dX5_init_108 : decode cX5_init 108 = .ok (.aload_n 0, 1) := by decide +kernel
theorem dX5_init_109 : decode cX5_init 109 = .ok (.bipush 6, 2) := by decide +kernel
theorem dX5_init_111 : decode cX5_init 111 = .ok (.newarray .int, 2) := by decide +kernel
theorem dX5_init_113 : decode cX5_init 113 = .ok (.putfield 45, 3) := by decide +kernel
theorem dX5_init_116 : decode cX5_init 116 = .ok (.return_, 1) := by decide +kernel
theorem dX5_hill_0 : decode cX5_hill 0 = .ok (.aload_n 0, 1) := by decide +kernel
theorem dX5_hill_1 : decode cX5_hill 1 = .ok (.iconst 0, 1) := by decide +kernel
theorem dX5_hill_2 : decode cX5_hill 2 = .ok (.putfield 48, 3) := by decide +kernel
theorem dX5_hill_5 : decode cX5_hill 5 = .ok (.iload_n 1, 1) := by decide +kernel
theorem dX5_hill_6 : decode cX5_hill 6 = .ok (.invokestatic 52, 3) := by decide +kernel
theorem dX5_hill_9 : decode cX5_hill 9 = .ok (.ifCond .ne 5, 3) := by decide +kernel
theorem dX5_hill_12 : decode cX5_hill 12 = .ok (.iconst (-1), 1) := by decide +kernel
theorem dX5_hill_13 : decode cX5_hill 13 = .ok (.ireturn, 1) := by decide +kernel
theorem dX5_hill_14 : decode cX5_hill 14 = .ok (.iload_n 2, 1) := by decide +kernel
theorem dX5_hill_15 : decode cX5_hill 15 = .ok (.invokestatic 56, 3) := by decide +kernel
theorem dX5_hill_18 : decode cX5_hill 18 = .ok (.ifCond .ne 6, 3) := by decide +kernel
theorem dX5_hill_21 : decode cX5_hill 21 = .ok (.bipush (-2), 2) := by decide +kernel
theorem dX5_hill_23 : decode cX5_hill 23 = .ok (.ireturn, 1) := by decide +kernel
theorem dX5_hill_24 : decode cX5_hill 24 = .ok (.aload_n 0, 1) := by decide +kernel
theorem dX5_hill_25 : decode cX5_hill 25 = .ok (.getfield 27, 3) := by decide +kernel
theorem dX5_hill_28 : decode cX5_hill 28 = .ok (.iload_n 1, 1) := by decide +kernel
theorem dX5_hill_29 : decode cX5_hill 29 = .ok (.aaload, 1) := by decide +kernel
theorem dX5_hill_30 : decode cX5_hill 30 = .ok (.astore 5, 2) := by decide +kernel
theorem dX5_hill_32 : decode cX5_hill 32 = .ok (.aload 5, 2) := by decide +kernel
theorem dX5_hill_34 : decode cX5_hill 34 = .ok (.iload_n 2, 1) := by decide +kernel
theorem dX5_hill_35 : decode cX5_hill 35 = .ok (.iload_n 3, 1) := by decide +kernel
theorem dX5_hill_36 : decode cX5_hill 36 = .ok (.iload 4, 2) := by decide +kernel
theorem dX5_hill_38 : decode cX5_hill 38 = .ok (.invokestatic 59, 3) := by decide +kernel
theorem dX5_hill_41 : decode cX5_hill 41 = .ok (.istore 6, 2) := by decide +kernel
theorem dX5_hill_43 : decode cX5_hill 43 = .ok (.iload 6, 2) := by decide +kernel
theorem dX5_hill_45 : decode cX5_hill 45 = .ok (.ifCond .eq 10, 3) := by decide +kernel
theorem dX5_hill_48 : decode cX5_hill 48 = .ok (.aload_n 0, 1) := by decide +kernel
theorem dX5_hill_49 : decode cX5_hill 49 = .ok (.iload 6, 2) := by decide +kernel
theorem dX5_hill_51 : decode cX5_hill 51 = .ok (.invokevirtual 63, 3) := by decide +kernel
theorem dX5_hill_54 : decode cX5_hill 54 = .ok (.ireturn, 1) := by decide +kernel
theorem dX5_hill_55 : decode cX5_hill 55 = .ok (.aload 5, 2) := by decide +kernel
theorem dX5_hill_57 : decode cX5_hill 57 = .ok (.iload_n 3, 1) := by decide +kernel
theorem dX5_hill_58 : decode cX5_hill 58 = .ok (.iload 4, 2) := by decide +kernel
theorem dX5_hill_60 : decode cX5_hill 60 = .ok (.invokestatic 67, 3) := by decide +kernel
theorem dX5_hill_63 : decode cX5_hill 63 = .ok (.istore 7, 2) := by decide +kernel
theorem dX5_hill_65 : decode cX5_hill 65 = .ok (.iload 7, 2) := by decide +kernel
theorem dX5_hill_67 : decode cX5_hill 67 = .ok (.bipush (-9), 2) := by decide +kernel
theorem dX5_hill_69 : decode cX5_hill 69 = .ok (.if_icmp .eq 9, 3) := by decide +kernel
theorem dX5_hill_72 : decode cX5_hill 72 = .ok (.bipush (-100), 2) := by decide +kernel
theorem dX5_hill_74 : decode cX5_hill 74 = .ok (.iload 7, 2) := by decide +kernel
theorem dX5_hill_76 : decode cX5_hill 76 = .ok (.isub, 1) := by decide +kernel
theorem dX5_hill_77 : decode cX5_hill 77 = .ok (.ireturn, 1) := by decide +kernel
theorem dX5_hill_78 : decode cX5_hill 78 = .ok (.aload_n 0, 1) := by decide +kernel
theorem dX5_hill_79 : decode cX5_hill 79 = .ok (.getfield 12, 3) := by decide +kernel
theorem dX5_hill_82 : decode cX5_hill 82 = .ok (.aload 5, 2) := by decide +kernel
theorem dX5_hill_84 : decode cX5_hill 84 = .ok (.iload_n 3, 1) := by decide +kernel
theorem dX5_hill_85 : decode cX5_hill 85 = .ok (.iload 4, 2) := by decide +kernel
theorem dX5_hill_87 : decode cX5_hill 87 = .ok (.invokestatic 73, 3) := by decide +kernel
theorem dX5_hill_90 : decode cX5_hill 90 = .ok (.aload_n 0, 1) := by decide +kernel
theorem dX5_hill_91 : decode cX5_hill 91 = .ok (.getfield 21, 3) := by decide +kernel
theorem dX5_hill_94 : decode cX5_hill 94 = .ok (.iconst 0, 1) := by decide +kernel
theorem dX5_hill_95 : decode cX5_hill 95 = .ok (.putfield 77, 3) := by decide +kernel
theorem dX5_hill_98 : decode cX5_hill 98 = .ok (.aload_n 0, 1) := by decide +kernel
theorem dX5_hill_99 : decode cX5_hill 99 = .ok (.getfield 12, 3) := by decide +kernel
theorem dX5_hill_102 : decode cX5_hill 102 = .ok (.getfield 80, 3) := by decide +kernel
theorem dX5_hill_105 : decode cX5_hill 105 = .ok (.ireturn, 1) := by decide +kernel
theorem dX5_ofPace_0 : decode cX5_ofPace 0 = .ok (.aload_n 0, 1) := by decide +kernel
theorem dX5_ofPace_1 : decode cX5_ofPace 1 = .ok (.iload_n 1, 1) := by decide +kernel
theorem dX5_ofPace_2 : decode cX5_ofPace 2 = .ok (.invokevirtual 83, 3) := by decide +kernel
theorem dX5_ofPace_5 : decode cX5_ofPace 5 = .ok (.ifCond .ne 5, 3) := by decide +kernel
theorem dX5_ofPace_8 : decode cX5_ofPace 8 = .ok (.iconst (-1), 1) := by decide +kernel
theorem dX5_ofPace_9 : decode cX5_ofPace 9 = .ok (.ireturn, 1) := by decide +kernel
theorem dX5_ofPace_10 : decode cX5_ofPace 10 = .ok (.iload_n 2, 1) := by decide +kernel
theorem dX5_ofPace_11 : decode cX5_ofPace 11 = .ok (.iconst 0, 1) := by decide +kernel
theorem dX5_ofPace_12 : decode cX5_ofPace 12 = .ok (.iconst 1, 1) := by decide +kernel
theorem dX5_ofPace_13 : decode cX5_ofPace 13 = .ok (.invokestatic 86, 3) := by decide +kernel
theorem dX5_ofPace_16 : decode cX5_ofPace 16 = .ok (.ifCond .ne 6, 3) := by decide +kernel
theorem dX5_ofPace_19 : decode cX5_ofPace 19 = .ok (.bipush (-2), 2) := by decide +kernel
theorem dX5_ofPace_21 : decode cX5_ofPace 21 = .ok (.ireturn, 1) := by decide +kernel
theorem dX5_ofPace_22 : decode cX5_ofPace 22 = .ok (.iload_n 2, 1) := by decide +kernel
theorem dX5_ofPace_23 : decode cX5_ofPace 23 = .ok (.ifCond .ne 15, 3) := by decide +kernel
theorem dX5_ofPace_26 : decode cX5_ofPace 26 = .ok (.aload_n 0, 1) := by decide +kernel
theorem dX5_ofPace_27 : decode cX5_ofPace 27 = .ok (.getfield 12, 3) := by decide +kernel
theorem dX5_ofPace_30 : decode cX5_ofPace 30 = .ok (.getfield 90, 3) := by decide +kernel
theorem dX5_ofPace_33 : decode cX5_ofPace 33 = .ok (.iload_n 1, 1) := by decide +kernel
theorem dX5_ofPace_34 : decode cX5_ofPace 34 = .ok (.iaload, 1) := by decide +kernel
theorem dX5_ofPace_35 : decode cX5_ofPace 35 = .ok (.goto 12, 3) := by decide +kernel
theorem dX5_ofPace_38 : decode cX5_ofPace 38 = .ok (.aload_n 0, 1) := by decide +kernel
theorem dX5_ofPace_39 : decode cX5_ofPace 39 = .ok (.getfield 12, 3) := by decide +kernel
theorem dX5_ofPace_42 : decode cX5_ofPace 42 = .ok (.getfield 93, 3) := by decide +kernel
theorem dX5_ofPace_45 : decode cX5_ofPace 45 = .ok (.iload_n 1, 1) := by decide +kernel
theorem dX5_ofPace_46 : decode cX5_ofPace 46 = .ok (.iaload, 1) := by decide +kernel
theorem dX5_ofPace_47 : decode cX5_ofPace 47 = .ok (.ireturn, 1) := by decide +kernel
theorem dX5_ofRider_0 : decode cX5_ofRider 0 = .ok (.aload_n 0, 1) := by decide +kernel
theorem dX5_ofRider_1 : decode cX5_ofRider 1 = .ok (.iload_n 1, 1) := by decide +kernel
theorem dX5_ofRider_2 : decode cX5_ofRider 2 = .ok (.invokevirtual 96, 3) := by decide +kernel
theorem dX5_ofRider_5 : decode cX5_ofRider 5 = .ok (.ifCond .ne 5, 3) := by decide +kernel
theorem dX5_ofRider_8 : decode cX5_ofRider 8 = .ok (.iconst (-1), 1) := by decide +kernel
theorem dX5_ofRider_9 : decode cX5_ofRider 9 = .ok (.ireturn, 1) := by decide +kernel
theorem dX5_ofRider_10 : decode cX5_ofRider 10 = .ok (.iload_n 2, 1) := by decide +kernel
theorem dX5_ofRider_11 : decode cX5_ofRider 11 = .ok (.iconst 0, 1) := by decide +kernel
theorem dX5_ofRider_12 : decode cX5_ofRider 12 = .ok (.iconst 2, 1) := by decide +kernel
theorem dX5_ofRider_13 : decode cX5_ofRider 13 = .ok (.invokestatic 86, 3) := by decide +kernel
theorem dX5_ofRider_16 : decode cX5_ofRider 16 = .ok (.ifCond .ne 6, 3) := by decide +kernel
theorem dX5_ofRider_19 : decode cX5_ofRider 19 = .ok (.bipush (-2), 2) := by decide +kernel
theorem dX5_ofRider_21 : decode cX5_ofRider 21 = .ok (.ireturn, 1) := by decide +kernel
theorem dX5_ofRider_22 : decode cX5_ofRider 22 = .ok (.iload_n 2, 1) := by decide +kernel
theorem dX5_ofRider_23 : decode cX5_ofRider 23 = .ok (.ifCond .ne 13, 3) := by decide +kernel
theorem dX5_ofRider_26 : decode cX5_ofRider 26 = .ok (.aload_n 0, 1) := by decide +kernel
theorem dX5_ofRider_27 : decode cX5_ofRider 27 = .ok (.getfield 12, 3) := by decide +kernel
theorem dX5_ofRider_30 : decode cX5_ofRider 30 = .ok (.getfield 99, 3) := by decide +kernel
theorem dX5_ofRider_33 : decode cX5_ofRider 33 = .ok (.iload_n 1, 1) := by decide +kernel
theorem dX5_ofRider_34 : decode cX5_ofRider 34 = .ok (.iaload, 1) := by decide +kernel
theorem dX5_ofRider_35 : decode cX5_ofRider 35 = .ok (.ireturn, 1) := by decide +kernel
theorem dX5_ofRider_36 : decode cX5_ofRider 36 = .ok (.iload_n 2, 1) := by decide +kernel
theorem dX5_ofRider_37 : decode cX5_ofRider 37 = .ok (.iconst 1, 1) := by decide +kernel
theorem dX5_ofRider_38 : decode cX5_ofRider 38 = .ok (.if_icmp .ne 15, 3) := by decide +kernel
theorem dX5_ofRider_41 : decode cX5_ofRider 41 = .ok (.aload_n 0, 1) := by decide +kernel
theorem dX5_ofRider_42 : decode cX5_ofRider 42 = .ok (.getfield 12, 3) := by decide +kernel
theorem dX5_ofRider_45 : decode cX5_ofRider 45 = .ok (.getfield 102, 3) := by decide +kernel
theorem dX5_ofRider_48 : decode cX5_ofRider 48 = .ok (.iload_n 1, 1) := by decide +kernel
theorem dX5_ofRider_49 : decode cX5_ofRider 49 = .ok (.iaload, 1) := by decide +kernel
theorem dX5_ofRider_50 : decode cX5_ofRider 50 = .ok (.goto 12, 3) := by decide +kernel
theorem dX5_ofRider_53 : decode cX5_ofRider 53 = .ok (.aload_n 0, 1) := by decide +kernel
theorem dX5_ofRider_54 : decode cX5_ofRider 54 = .ok (.getfield 12, 3) := by decide +kernel
theorem dX5_ofRider_57 : decode cX5_ofRider 57 = .ok (.getfield 105, 3) := by decide +kernel
theorem dX5_ofRider_60 : decode cX5_ofRider 60 = .ok (.iload_n 1, 1) := by decide +kernel
theorem dX5_ofRider_61 : decode cX5_ofRider 61 = .ok (.iaload, 1) := by decide +kernel
theorem dX5_ofRider_62 : decode cX5_ofRider 62 = .ok (.ireturn, 1) := by decide +kernel
theorem dX5_scratch_0 : decode cX5_scratch 0 = .ok (.aload_n 0, 1) := by decide +kernel
theorem dX5_scratch_1 : decode cX5_scratch 1 = .ok (.iload_n 1, 1) := by decide +kernel
theorem dX5_scratch_2 : decode cX5_scratch 2 = .ok (.invokevirtual 83, 3) := by decide +kernel
theorem dX5_scratch_5 : decode cX5_scratch 5 = .ok (.ifCond .ne 5, 3) := by decide +kernel
theorem dX5_scratch_8 : decode cX5_scratch 8 = .ok (.iconst (-1), 1) := by decide +kernel
theorem dX5_scratch_9 : decode cX5_scratch 9 = .ok (.ireturn, 1) := by decide +kernel
theorem dX5_scratch_10 : decode cX5_scratch 10 = .ok (.iload_n 2, 1) := by decide +kernel
theorem dX5_scratch_11 : decode cX5_scratch 11 = .ok (.iconst 0, 1) := by decide +kernel
theorem dX5_scratch_12 : decode cX5_scratch 12 = .ok (.bipush 9, 2) := by decide +kernel
theorem dX5_scratch_14 : decode cX5_scratch 14 = .ok (.invokestatic 86, 3) := by decide +kernel
theorem dX5_scratch_17 : decode cX5_scratch 17 = .ok (.ifCond .ne 6, 3) := by decide +kernel
theorem dX5_scratch_20 : decode cX5_scratch 20 = .ok (.bipush (-2), 2) := by decide +kernel
theorem dX5_scratch_22 : decode cX5_scratch 22 = .ok (.ireturn, 1) := by decide +kernel
theorem dX5_scratch_23 : decode cX5_scratch 23 = .ok (.aload_n 0, 1) := by decide +kernel
theorem dX5_scratch_24 : decode cX5_scratch 24 = .ok (.getfield 12, 3) := by decide +kernel
theorem dX5_scratch_27 : decode cX5_scratch 27 = .ok (.getfield 93, 3) := by decide +kernel
theorem dX5_scratch_30 : decode cX5_scratch 30 = .ok (.iload_n 1, 1) := by decide +kernel
theorem dX5_scratch_31 : decode cX5_scratch 31 = .ok (.iaload, 1) := by decide +kernel
theorem dX5_scratch_32 : decode cX5_scratch 32 = .ok (.istore_n 3, 1) := by decide +kernel
theorem dX5_scratch_33 : decode cX5_scratch 33 = .ok (.aload_n 0, 1) := by decide +kernel
theorem dX5_scratch_34 : decode cX5_scratch 34 = .ok (.getfield 12, 3) := by decide +kernel
theorem dX5_scratch_37 : decode cX5_scratch 37 = .ok (.getfield 93, 3) := by decide +kernel
theorem dX5_scratch_40 : decode cX5_scratch 40 = .ok (.iload_n 1, 1) := by decide +kernel
theorem dX5_scratch_41 : decode cX5_scratch 41 = .ok (.iload_n 2, 1) := by decide +kernel
theorem dX5_scratch_42 : decode cX5_scratch 42 = .ok (.iastore, 1) := by decide +kernel
theorem dX5_scratch_43 : decode cX5_scratch 43 = .ok (.iload_n 3, 1) := by decide +kernel
theorem dX5_scratch_44 : decode cX5_scratch 44 = .ok (.ireturn, 1) := by decide +kernel
theorem dX5_speed_0 : decode cX5_speed 0 = .ok (.aload_n 0, 1) := by decide +kernel
theorem dX5_speed_1 : decode cX5_speed 1 = .ok (.iload_n 1, 1) := by decide +kernel
theorem dX5_speed_2 : decode cX5_speed 2 = .ok (.invokevirtual 96, 3) := by decide +kernel
theorem dX5_speed_5 : decode cX5_speed 5 = .ok (.ifCond .ne 5, 3) := by decide +kernel
theorem dX5_speed_8 : decode cX5_speed 8 = .ok (.iconst (-1), 1) := by decide +kernel
theorem dX5_speed_9 : decode cX5_speed 9 = .ok (.ireturn, 1) := by decide +kernel
theorem dX5_speed_10 : decode cX5_speed 10 = .ok (.iload_n 2, 1) := by decide +kernel
theorem dX5_speed_11 : decode cX5_speed 11 = .ok (.iconst 0, 1) := by decide +kernel
theorem dX5_speed_12 : decode cX5_speed 12 = .ok (.bipush 99, 2) := by decide +kernel
theorem dX5_speed_14 : decode cX5_speed 14 = .ok (.invokestatic 86, 3) := by decide +kernel
theorem dX5_speed_17 : decode cX5_speed 17 = .ok (.ifCond .ne 6, 3) := by decide +kernel
theorem dX5_speed_20 : decode cX5_speed 20 = .ok (.bipush (-2), 2) := by decide +kernel
theorem dX5_speed_22 : decode cX5_speed 22 = .ok (.ireturn, 1) := by decide +kernel
theorem dX5_speed_23 : decode cX5_speed 23 = .ok (.aload_n 0, 1) := by decide +kernel
theorem dX5_speed_24 : decode cX5_speed 24 = .ok (.getfield 12, 3) := by decide +kernel
theorem dX5_speed_27 : decode cX5_speed 27 = .ok (.iconst 0, 1) := by decide +kernel
theorem dX5_speed_28 : decode cX5_speed 28 = .ok (.iload_n 1, 1) := by decide +kernel
theorem dX5_speed_29 : decode cX5_speed 29 = .ok (.iload_n 2, 1) := by decide +kernel
theorem dX5_speed_30 : decode cX5_speed 30 = .ok (.invokevirtual 108, 3) := by decide +kernel
theorem dX5_speed_33 : decode cX5_speed 33 = .ok (.ireturn, 1) := by decide +kernel
theorem dX5_shoe_0 : decode cX5_shoe 0 = .ok (.aload_n 0, 1) := by decide +kernel
theorem dX5_shoe_1 : decode cX5_shoe 1 = .ok (.iload_n 1, 1) := by decide +kernel
theorem dX5_shoe_2 : decode cX5_shoe 2 = .ok (.invokevirtual 96, 3) := by decide +kernel
theorem dX5_shoe_5 : decode cX5_shoe 5 = .ok (.ifCond .ne 5, 3) := by decide +kernel
theorem dX5_shoe_8 : decode cX5_shoe 8 = .ok (.iconst (-1), 1) := by decide +kernel
theorem dX5_shoe_9 : decode cX5_shoe 9 = .ok (.ireturn, 1) := by decide +kernel
theorem dX5_shoe_10 : decode cX5_shoe 10 = .ok (.iload_n 2, 1) := by decide +kernel
theorem dX5_shoe_11 : decode cX5_shoe 11 = .ok (.iconst 0, 1) := by decide +kernel
theorem dX5_shoe_12 : decode cX5_shoe 12 = .ok (.bipush 9, 2) := by decide +kernel
theorem dX5_shoe_14 : decode cX5_shoe 14 = .ok (.invokestatic 86, 3) := by decide +kernel
theorem dX5_shoe_17 : decode cX5_shoe 17 = .ok (.ifCond .ne 6, 3) := by decide +kernel
theorem dX5_shoe_20 : decode cX5_shoe 20 = .ok (.bipush (-2), 2) := by decide +kernel
theorem dX5_shoe_22 : decode cX5_shoe 22 = .ok (.ireturn, 1) := by decide +kernel
theorem dX5_shoe_23 : decode cX5_shoe 23 = .ok (.aload_n 0, 1) := by decide +kernel
theorem dX5_shoe_24 : decode cX5_shoe 24 = .ok (.getfield 12, 3) := by decide +kernel
theorem dX5_shoe_27 : decode cX5_shoe 27 = .ok (.iconst 1, 1) := by decide +kernel
theorem dX5_shoe_28 : decode cX5_shoe 28 = .ok (.iload_n 1, 1) := by decide +kernel
theorem dX5_shoe_29 : decode cX5_shoe 29 = .ok (.iload_n 2, 1) := by decide +kernel
theorem dX5_shoe_30 : decode cX5_shoe 30 = .ok (.invokevirtual 108, 3) := by decide +kernel
theorem dX5_shoe_33 : decode cX5_shoe 33 = .ok (.ireturn, 1) := by decide +kernel
theorem dX5_takes_0 : decode cX5_takes 0 = .ok (.aload_n 0, 1) := by decide +kernel
theorem dX5_takes_1 : decode cX5_takes 1 = .ok (.iload_n 1, 1) := by decide +kernel
theorem dX5_takes_2 : decode cX5_takes 2 = .ok (.invokevirtual 96, 3) := by decide +kernel
theorem dX5_takes_5 : decode cX5_takes 5 = .ok (.ifCond .eq 11, 3) := by decide +kernel
theorem dX5_takes_8 : decode cX5_takes 8 = .ok (.aload_n 0, 1) := by decide +kernel
theorem dX5_takes_9 : decode cX5_takes 9 = .ok (.iload_n 2, 1) := by decide +kernel
theorem dX5_takes_10 : decode cX5_takes 10 = .ok (.invokevirtual 83, 3) := by decide +kernel
theorem dX5_takes_13 : decode cX5_takes 13 = .ok (.ifCond .ne 5, 3) := by decide +kernel
theorem dX5_takes_16 : decode cX5_takes 16 = .ok (.iconst (-1), 1) := by decide +kernel
theorem dX5_takes_17 : decode cX5_takes 17 = .ok (.ireturn, 1) := by decide +kernel
theorem dX5_takes_18 : decode cX5_takes 18 = .ok (.iload_n 3, 1) := by decide +kernel
theorem dX5_takes_19 : decode cX5_takes 19 = .ok (.iconst 0, 1) := by decide +kernel
theorem dX5_takes_20 : decode cX5_takes 20 = .ok (.bipush 9, 2) := by decide +kernel
theorem dX5_takes_22 : decode cX5_takes 22 = .ok (.invokestatic 86, 3) := by decide +kernel
theorem dX5_takes_25 : decode cX5_takes 25 = .ok (.ifCond .ne 6, 3) := by decide +kernel
theorem dX5_takes_28 : decode cX5_takes 28 = .ok (.bipush (-2), 2) := by decide +kernel
theorem dX5_takes_30 : decode cX5_takes 30 = .ok (.ireturn, 1) := by decide +kernel
theorem dX5_takes_31 : decode cX5_takes 31 = .ok (.aload_n 0, 1) := by decide +kernel
theorem dX5_takes_32 : decode cX5_takes 32 = .ok (.getfield 12, 3) := by decide +kernel
theorem dX5_takes_35 : decode cX5_takes 35 = .ok (.iload_n 1, 1) := by decide +kernel
theorem dX5_takes_36 : decode cX5_takes 36 = .ok (.iload_n 2, 1) := by decide +kernel
theorem dX5_takes_37 : decode cX5_takes 37 = .ok (.iload_n 3, 1) := by decide +kernel
theorem dX5_takes_38 : decode cX5_takes 38 = .ok (.invokevirtual 112, 3) := by decide +kernel
theorem dX5_takes_41 : decode cX5_takes 41 = .ok (.ireturn, 1) := by decide +kernel
theorem dX5_days_0 : decode cX5_days 0 = .ok (.iload 5, 2) := by decide +kernel
theorem dX5_days_2 : decode cX5_days 2 = .ok (.iconst 0, 1) := by decide +kernel
theorem dX5_days_3 : decode cX5_days 3 = .ok (.iconst 2, 1) := by decide +kernel
theorem dX5_days_4 : decode cX5_days 4 = .ok (.invokestatic 86, 3) := by decide +kernel
theorem dX5_days_7 : decode cX5_days 7 = .ok (.ifCond .ne 27, 3) := by decide +kernel
theorem dX5_days_10 : decode cX5_days 10 = .ok (.iload 5, 2) := by decide +kernel
theorem dX5_days_12 : decode cX5_days 12 = .ok (.bipush 10, 2) := by decide +kernel
theorem dX5_days_14 : decode cX5_days 14 = .ok (.bipush 17, 2) := by decide +kernel
theorem dX5_days_16 : decode cX5_days 16 = .ok (.invokestatic 86, 3) := by decide +kernel
theorem dX5_days_19 : decode cX5_days 19 = .ok (.ifCond .ne 15, 3) := by decide +kernel
theorem dX5_days_22 : decode cX5_days 22 = .ok (.iload 5, 2) := by decide +kernel
theorem dX5_days_24 : decode cX5_days 24 = .ok (.bipush 20, 2) := by decide +kernel
theorem dX5_days_26 : decode cX5_days 26 = .ok (.bipush 24, 2) := by decide +kernel
theorem dX5_days_28 : decode cX5_days 28 = .ok (.invokestatic 86, 3) := by decide +kernel
theorem dX5_days_31 : decode cX5_days 31 = .ok (.ifCond .eq 7, 3) := by decide +kernel
theorem dX5_days_34 : decode cX5_days 34 = .ok (.iconst 1, 1) := by decide +kernel
theorem dX5_days_35 : decode cX5_days 35 = .ok (.goto 4, 3) := by decide +kernel
theorem dX5_days_38 : decode cX5_days 38 = .ok (.iconst 0, 1) := by decide +kernel
theorem dX5_days_39 : decode cX5_days 39 = .ok (.istore 6, 2) := by decide +kernel
theorem dX5_days_41 : decode cX5_days 41 = .ok (.aload_n 0, 1) := by decide +kernel
theorem dX5_days_42 : decode cX5_days 42 = .ok (.iload_n 1, 1) := by decide +kernel
theorem dX5_days_43 : decode cX5_days 43 = .ok (.iload_n 2, 1) := by decide +kernel
theorem dX5_days_44 : decode cX5_days 44 = .ok (.iload_n 3, 1) := by decide +kernel
theorem dX5_days_45 : decode cX5_days 45 = .ok (.iload 4, 2) := by decide +kernel
theorem dX5_days_47 : decode cX5_days 47 = .ok (.iload 4, 2) := by decide +kernel
theorem dX5_days_49 : decode cX5_days 49 = .ok (.iconst 0, 1) := by decide +kernel
theorem dX5_days_50 : decode cX5_days 50 = .ok (.bipush 30, 2) := by decide +kernel
theorem dX5_days_52 : decode cX5_days 52 = .ok (.invokestatic 86, 3) := by decide +kernel
theorem dX5_days_55 : decode cX5_days 55 = .ok (.ifCond .eq 12, 3) := by decide +kernel
theorem dX5_days_58 : decode cX5_days 58 = .ok (.iload 6, 2) := by decide +kernel
theorem dX5_days_60 : decode cX5_days 60 = .ok (.ifCond .eq 7, 3) := by decide +kernel
theorem dX5_days_63 : decode cX5_days 63 = .ok (.iconst 1, 1) := by decide +kernel
theorem dX5_days_64 : decode cX5_days 64 = .ok (.goto 4, 3) := by decide +kernel
theorem dX5_days_67 : decode cX5_days 67 = .ok (.iconst 0, 1) := by decide +kernel
theorem dX5_days_68 : decode cX5_days 68 = .ok (.invokevirtual 115, 3) := by decide +kernel
theorem dX5_days_71 : decode cX5_days 71 = .ok (.istore 7, 2) := by decide +kernel
theorem dX5_days_73 : decode cX5_days 73 = .ok (.iload 7, 2) := by decide +kernel
theorem dX5_days_75 : decode cX5_days 75 = .ok (.ifCond .eq 6, 3) := by decide +kernel
theorem dX5_days_78 : decode cX5_days 78 = .ok (.iload 7, 2) := by decide +kernel
theorem dX5_days_80 : decode cX5_days 80 = .ok (.ireturn, 1) := by decide +kernel
theorem dX5_days_81 : decode cX5_days 81 = .ok (.aload_n 0, 1) := by decide +kernel
theorem dX5_days_82 : decode cX5_days 82 = .ok (.iload 4, 2) := by decide +kernel
theorem dX5_days_84 : decode cX5_days 84 = .ok (.invokevirtual 119, 3) := by decide +kernel
theorem dX5_days_87 : decode cX5_days 87 = .ok (.istore 8, 2) := by decide +kernel
theorem dX5_days_89 : decode cX5_days 89 = .ok (.iload 5, 2) := by decide +kernel
theorem dX5_days_91 : decode cX5_days 91 = .ok (.iconst 1, 1) := by decide +kernel
theorem dX5_days_92 : decode cX5_days 92 = .ok (.if_icmp .ne 6, 3) := by decide +kernel
theorem dX5_days_95 : decode cX5_days 95 = .ok (.iload 8, 2) := by decide +kernel
theorem dX5_days_97 : decode cX5_days 97 = .ok (.ireturn, 1) := by decide +kernel
theorem dX5_days_98 : decode cX5_days 98 = .ok (.iload 8, 2) := by decide +kernel
theorem dX5_days_100 : decode cX5_days 100 = .ok (.bipush (-9), 2) := by decide +kernel
theorem dX5_days_102 : decode cX5_days 102 = .ok (.if_icmp .eq 9, 3) := by decide +kernel
theorem dX5_days_105 : decode cX5_days 105 = .ok (.bipush (-100), 2) := by decide +kernel
theorem dX5_days_107 : decode cX5_days 107 = .ok (.iload 8, 2) := by decide +kernel
theorem dX5_days_109 : decode cX5_days 109 = .ok (.isub, 1) := by decide +kernel
theorem dX5_days_110 : decode cX5_days 110 = .ok (.ireturn, 1) := by decide +kernel
theorem dX5_days_111 : decode cX5_days 111 = .ok (.iload 5, 2) := by decide +kernel
theorem dX5_days_113 : decode cX5_days 113 = .ok (.ifCond .ne 13, 3) := by decide +kernel
theorem dX5_days_116 : decode cX5_days 116 = .ok (.aload_n 0, 1) := by decide +kernel
theorem dX5_days_117 : decode cX5_days 117 = .ok (.getfield 34, 3) := by decide +kernel
theorem dX5_days_120 : decode cX5_days 120 = .ok (.iconst 0, 1) := by decide +kernel
theorem dX5_days_121 : decode cX5_days 121 = .ok (.aaload, 1) := by decide +kernel
theorem dX5_days_122 : decode cX5_days 122 = .ok (.getfield 122, 3) := by decide +kernel
theorem dX5_days_125 : decode cX5_days 125 = .ok (.ireturn, 1) := by decide +kernel
theorem dX5_days_126 : decode cX5_days 126 = .ok (.iload 5, 2) := by decide +kernel
theorem dX5_days_128 : decode cX5_days 128 = .ok (.iconst 2, 1) := by decide +kernel
theorem dX5_days_129 : decode cX5_days 129 = .ok (.if_icmp .ne 10, 3) := by decide +kernel
theorem dX5_days_132 : decode cX5_days 132 = .ok (.aload_n 0, 1) := by decide +kernel
theorem dX5_days_133 : decode cX5_days 133 = .ok (.iload 4, 2) := by decide +kernel
theorem dX5_days_135 : decode cX5_days 135 = .ok (.invokevirtual 125, 3) := by decide +kernel
theorem dX5_days_138 : decode cX5_days 138 = .ok (.ireturn, 1) := by decide +kernel
theorem dX5_days_139 : decode cX5_days 139 = .ok (.iload 5, 2) := by decide +kernel
theorem dX5_days_141 : decode cX5_days 141 = .ok (.bipush 20, 2) := by decide +kernel
theorem dX5_days_143 : decode cX5_days 143 = .ok (.if_icmp .ge 20, 3) := by decide +kernel
theorem dX5_days_146 : decode cX5_days 146 = .ok (.aload_n 0, 1) := by decide +kernel
theorem dX5_days_147 : decode cX5_days 147 = .ok (.getfield 34, 3) := by decide +kernel
theorem dX5_days_150 : decode cX5_days 150 = .ok (.iconst 0, 1) := by decide +kernel
theorem dX5_days_151 : decode cX5_days 151 = .ok (.aaload, 1) := by decide +kernel
theorem dX5_days_152 : decode cX5_days 152 = .ok (.iload 5, 2) := by decide +kernel
theorem dX5_days_154 : decode cX5_days 154 = .ok (.bipush 10, 2) := by decide +kernel
theorem dX5_days_156 : decode cX5_days 156 = .ok (.isub, 1) := by decide +kernel
theorem dX5_days_157 : decode cX5_days 157 = .ok (.invokevirtual 128, 3) := by decide +kernel
theorem dX5_days_160 : decode cX5_days 160 = .ok (.goto 17, 3) := by decide +kernel
theorem dX5_days_163 : decode cX5_days 163 = .ok (.aload_n 0, 1) := by decide +kernel
theorem dX5_days_164 : decode cX5_days 164 = .ok (.getfield 34, 3) := by decide +kernel
theorem dX5_days_167 : decode cX5_days 167 = .ok (.iconst 0, 1) := by decide +kernel
theorem dX5_days_168 : decode cX5_days 168 = .ok (.aaload, 1) := by decide +kernel
theorem dX5_days_169 : decode cX5_days 169 = .ok (.iload 5, 2) := by decide +kernel
theorem dX5_days_171 : decode cX5_days 171 = .ok (.bipush 20, 2) := by decide +kernel
theorem dX5_days_173 : decode cX5_days 173 = .ok (.isub, 1) := by decide +kernel
theorem dX5_days_174 : decode cX5_days 174 = .ok (.invokevirtual 131, 3) := by decide +kernel
theorem dX5_days_177 : decode cX5_days 177 = .ok (.ireturn, 1) := by decide +kernel
theorem dX5_fewest_0 : decode cX5_fewest 0 = .ok (.aload_n 0, 1) := by decide +kernel
theorem dX5_fewest_1 : decode cX5_fewest 1 = .ok (.iload_n 1, 1) := by decide +kernel
theorem dX5_fewest_2 : decode cX5_fewest 2 = .ok (.invokevirtual 96, 3) := by decide +kernel
theorem dX5_fewest_5 : decode cX5_fewest 5 = .ok (.ifCond .eq 8, 3) := by decide +kernel
theorem dX5_fewest_8 : decode cX5_fewest 8 = .ok (.iload_n 2, 1) := by decide +kernel
theorem dX5_fewest_9 : decode cX5_fewest 9 = .ok (.iconst (-1), 1) := by decide +kernel
theorem dX5_fewest_10 : decode cX5_fewest 10 = .ok (.if_icmp .ge 5, 3) := by decide +kernel
theorem dX5_fewest_13 : decode cX5_fewest 13 = .ok (.iconst (-1), 1) := by decide +kernel
theorem dX5_fewest_14 : decode cX5_fewest 14 = .ok (.ireturn, 1) := by decide +kernel
theorem dX5_fewest_15 : decode cX5_fewest 15 = .ok (.aload_n 0, 1) := by decide +kernel
theorem dX5_fewest_16 : decode cX5_fewest 16 = .ok (.iload_n 1, 1) := by decide +kernel
theorem dX5_fewest_17 : decode cX5_fewest 17 = .ok (.invokevirtual 134, 3) := by decide +kernel
theorem dX5_fewest_20 : decode cX5_fewest 20 = .ok (.istore_n 3, 1) := by decide +kernel
theorem dX5_fewest_21 : decode cX5_fewest 21 = .ok (.iload_n 2, 1) := by decide +kernel
theorem dX5_fewest_22 : decode cX5_fewest 22 = .ok (.iconst (-1), 1) := by decide +kernel
theorem dX5_fewest_23 : decode cX5_fewest 23 = .ok (.if_icmp .ne 5, 3) := by decide +kernel
theorem dX5_fewest_26 : decode cX5_fewest 26 = .ok (.iload_n 3, 1) := by decide +kernel
theorem dX5_fewest_27 : decode cX5_fewest 27 = .ok (.ireturn, 1) := by decide +kernel
theorem dX5_fewest_28 : decode cX5_fewest 28 = .ok (.iload_n 2, 1) := by decide +kernel
theorem dX5_fewest_29 : decode cX5_fewest 29 = .ok (.iload_n 3, 1) := by decide +kernel
theorem dX5_fewest_30 : decode cX5_fewest 30 = .ok (.if_icmp .ge 12, 3) := by decide +kernel
theorem dX5_fewest_33 : decode cX5_fewest 33 = .ok (.aload_n 0, 1) := by decide +kernel
theorem dX5_fewest_34 : decode cX5_fewest 34 = .ok (.getfield 45, 3) := by decide +kernel
theorem dX5_fewest_37 : decode cX5_fewest 37 = .ok (.iload_n 2, 1) := by decide +kernel
theorem dX5_fewest_38 : decode cX5_fewest 38 = .ok (.iaload, 1) := by decide +kernel
theorem dX5_fewest_39 : decode cX5_fewest 39 = .ok (.goto 5, 3) := by decide +kernel
theorem dX5_fewest_42 : decode cX5_fewest 42 = .ok (.bipush (-9), 2) := by decide +kernel
theorem dX5_fewest_44 : decode cX5_fewest 44 = .ok (.ireturn, 1) := by decide +kernel
theorem dX5_sand_0 : decode cX5_sand 0 = .ok (.aload_n 0, 1) := by decide +kernel
theorem dX5_sand_1 : decode cX5_sand 1 = .ok (.iload_n 1, 1) := by decide +kernel
theorem dX5_sand_2 : decode cX5_sand 2 = .ok (.invokevirtual 96, 3) := by decide +kernel
theorem dX5_sand_5 : decode cX5_sand 5 = .ok (.ifCond .ne 5, 3) := by decide +kernel
theorem dX5_sand_8 : decode cX5_sand 8 = .ok (.iconst (-1), 1) := by decide +kernel
theorem dX5_sand_9 : decode cX5_sand 9 = .ok (.ireturn, 1) := by decide +kernel
theorem dX5_sand_10 : decode cX5_sand 10 = .ok (.iconst 1, 1) := by decide +kernel
theorem dX5_sand_11 : decode cX5_sand 11 = .ok (.aload_n 0, 1) := by decide +kernel
theorem dX5_sand_12 : decode cX5_sand 12 = .ok (.getfield 12, 3) := by decide +kernel
theorem dX5_sand_15 : decode cX5_sand 15 = .ok (.getfield 137, 3) := by decide +kernel
theorem dX5_sand_18 : decode cX5_sand 18 = .ok (.ishl, 1) := by decide +kernel
theorem dX5_sand_19 : decode cX5_sand 19 = .ok (.iconst 1, 1) := by decide +kernel
theorem dX5_sand_20 : decode cX5_sand 20 = .ok (.isub, 1) := by decide +kernel
theorem dX5_sand_21 : decode cX5_sand 21 = .ok (.istore_n 2, 1) := by decide +kernel
theorem dX5_sand_22 : decode cX5_sand 22 = .ok (.iload_n 2, 1) := by decide +kernel
theorem dX5_sand_23 : decode cX5_sand 23 = .ok (.iconst 1, 1) := by decide +kernel
theorem dX5_sand_24 : decode cX5_sand 24 = .ok (.isub, 1) := by decide +kernel
theorem dX5_sand_25 : decode cX5_sand 25 = .ok (.istore_n 3, 1) := by decide +kernel
theorem dX5_sand_26 : decode cX5_sand 26 = .ok (.iload_n 3, 1) := by decide +kernel
theorem dX5_sand_27 : decode cX5_sand 27 = .ok (.ifCond .lt 34, 3) := by decide +kernel
theorem dX5_sand_30 : decode cX5_sand 30 = .ok (.iload_n 3, 1) := by decide +kernel
theorem dX5_sand_31 : decode cX5_sand 31 = .ok (.invokestatic 140, 3) := by decide +kernel
theorem dX5_sand_34 : decode cX5_sand 34 = .ok (.iload_n 2, 1) := by decide +kernel
theorem dX5_sand_35 : decode cX5_sand 35 = .ok (.invokestatic 140, 3) := by decide +kernel
theorem dX5_sand_38 : decode cX5_sand 38 = .ok (.if_icmp .gt 17, 3) := by decide +kernel
theorem dX5_sand_41 : decode cX5_sand 41 = .ok (.aload_n 0, 1) := by decide +kernel
theorem dX5_sand_42 : decode cX5_sand 42 = .ok (.getfield 12, 3) := by decide +kernel
theorem dX5_sand_45 : decode cX5_sand 45 = .ok (.iload_n 1, 1) := by decide +kernel
theorem dX5_sand_46 : decode cX5_sand 46 = .ok (.iload_n 3, 1) := by decide +kernel
theorem dX5_sand_47 : decode cX5_sand 47 = .ok (.invokevirtual 145, 3) := by decide +kernel
theorem dX5_sand_50 : decode cX5_sand 50 = .ok (.ifCond .eq 5, 3) := by decide +kernel
theorem dX5_sand_53 : decode cX5_sand 53 = .ok (.iload_n 3, 1) := by decide +kernel
theorem dX5_sand_54 : decode cX5_sand 54 = .ok (.istore_n 2, 1) := by decide +kernel
theorem dX5_sand_55 : decode cX5_sand 55 = .ok (.iinc 3 (-1), 3) := by decide +kernel
theorem dX5_sand_58 : decode cX5_sand 58 = .ok (.goto (-32), 3) := by decide +kernel
theorem dX5_sand_61 : decode cX5_sand 61 = .ok (.iload_n 2, 1) := by decide +kernel
theorem dX5_sand_62 : decode cX5_sand 62 = .ok (.ireturn, 1) := by decide +kernel
theorem dX5_game_0 : decode cX5_game 0 = .ok (.aload_n 0, 1) := by decide +kernel
theorem dX5_game_1 : decode cX5_game 1 = .ok (.iload_n 1, 1) := by decide +kernel
theorem dX5_game_2 : decode cX5_game 2 = .ok (.invokevirtual 96, 3) := by decide +kernel
theorem dX5_game_5 : decode cX5_game 5 = .ok (.ifCond .eq 11, 3) := by decide +kernel
theorem dX5_game_8 : decode cX5_game 8 = .ok (.aload_n 0, 1) := by decide +kernel
theorem dX5_game_9 : decode cX5_game 9 = .ok (.iload_n 2, 1) := by decide +kernel
theorem dX5_game_10 : decode cX5_game 10 = .ok (.invokevirtual 96, 3) := by decide +kernel
theorem dX5_game_13 : decode cX5_game 13 = .ok (.ifCond .ne 5, 3) := by decide +kernel
theorem dX5_game_16 : decode cX5_game 16 = .ok (.iconst (-1), 1) := by decide +kernel
theorem dX5_game_17 : decode cX5_game 17 = .ok (.ireturn, 1) := by decide +kernel
theorem dX5_game_18 : decode cX5_game 18 = .ok (.iload_n 1, 1) := by decide +kernel
theorem dX5_game_19 : decode cX5_game 19 = .ok (.iload_n 2, 1) := by decide +kernel
theorem dX5_game_20 : decode cX5_game 20 = .ok (.if_icmp .eq 13, 3) := by decide +kernel
theorem dX5_game_23 : decode cX5_game 23 = .ok (.iload_n 3, 1) := by decide +kernel
theorem dX5_game_24 : decode cX5_game 24 = .ok (.iconst 0, 1) := by decide +kernel
theorem dX5_game_25 : decode cX5_game 25 = .ok (.bipush 10, 2) := by decide +kernel
theorem dX5_game_27 : decode cX5_game 27 = .ok (.invokestatic 86, 3) := by decide +kernel
theorem dX5_game_30 : decode cX5_game 30 = .ok (.ifCond .ne 6, 3) := by decide +kernel
theorem dX5_game_33 : decode cX5_game 33 = .ok (.bipush (-2), 2) := by decide +kernel
theorem dX5_game_35 : decode cX5_game 35 = .ok (.ireturn, 1) := by decide +kernel
theorem dX5_game_36 : decode cX5_game 36 = .ok (.aload_n 0, 1) := by decide +kernel
theorem dX5_game_37 : decode cX5_game 37 = .ok (.getfield 34, 3) := by decide +kernel
theorem dX5_game_40 : decode cX5_game 40 = .ok (.iconst 0, 1) := by decide +kernel
theorem dX5_game_41 : decode cX5_game 41 = .ok (.aaload, 1) := by decide +kernel
theorem dX5_game_42 : decode cX5_game 42 = .ok (.invokevirtual 149, 3) := by decide +kernel
theorem dX5_game_45 : decode cX5_game 45 = .ok (.aload_n 0, 1) := by decide +kernel
theorem dX5_game_46 : decode cX5_game 46 = .ok (.getfield 34, 3) := by decide +kernel
theorem dX5_game_49 : decode cX5_game 49 = .ok (.iload_n 1, 1) := by decide +kernel
theorem dX5_game_50 : decode cX5_game 50 = .ok (.iload_n 2, 1) := by decide +kernel
theorem dX5_game_51 : decode cX5_game 51 = .ok (.iconst 0, 1) := by decide +kernel
theorem dX5_game_52 : decode cX5_game 52 = .ok (.iload_n 3, 1) := by decide +kernel
theorem dX5_game_53 : decode cX5_game 53 = .ok (.invokestatic 152, 3) := by decide +kernel
theorem dX5_game_56 : decode cX5_game 56 = .ok (.istore 4, 2) := by decide +kernel
theorem dX5_game_58 : decode cX5_game 58 = .ok (.iload 4, 2) := by decide +kernel
theorem dX5_game_60 : decode cX5_game 60 = .ok (.iconst (-1), 1) := by decide +kernel
theorem dX5_game_61 : decode cX5_game 61 = .ok (.if_icmp .ne 7, 3) := by decide +kernel
theorem dX5_game_64 : decode cX5_game 64 = .ok (.iconst 2, 1) := by decide +kernel
theorem dX5_game_65 : decode cX5_game 65 = .ok (.goto 5, 3) := by decide +kernel
theorem dX5_game_68 : decode cX5_game 68 = .ok (.iload 4, 2) := by decide +kernel
theorem dX5_game_70 : decode cX5_game 70 = .ok (.ireturn, 1) := by decide +kernel
theorem dX5_worth_0 : decode cX5_worth 0 = .ok (.aload_n 0, 1) := by decide +kernel
theorem dX5_worth_1 : decode cX5_worth 1 = .ok (.iload_n 1, 1) := by decide +kernel
theorem dX5_worth_2 : decode cX5_worth 2 = .ok (.invokevirtual 96, 3) := by decide +kernel
theorem dX5_worth_5 : decode cX5_worth 5 = .ok (.ifCond .ne 5, 3) := by decide +kernel
theorem dX5_worth_8 : decode cX5_worth 8 = .ok (.iconst (-1), 1) := by decide +kernel
theorem dX5_worth_9 : decode cX5_worth 9 = .ok (.ireturn, 1) := by decide +kernel
theorem dX5_worth_10 : decode cX5_worth 10 = .ok (.bipush 100, 2) := by decide +kernel
theorem dX5_worth_12 : decode cX5_worth 12 = .ok (.aload_n 0, 1) := by decide +kernel
theorem dX5_worth_13 : decode cX5_worth 13 = .ok (.iload_n 1, 1) := by decide +kernel
theorem dX5_worth_14 : decode cX5_worth 14 = .ok (.iconst 1, 1) := by decide +kernel
theorem dX5_worth_15 : decode cX5_worth 15 = .ok (.invokevirtual 156, 3) := by decide +kernel
theorem dX5_worth_18 : decode cX5_worth 18 = .ok (.iadd, 1) := by decide +kernel
theorem dX5_worth_19 : decode cX5_worth 19 = .ok (.aload_n 0, 1) := by decide +kernel
theorem dX5_worth_20 : decode cX5_worth 20 = .ok (.iload_n 1, 1) := by decide +kernel
theorem dX5_worth_21 : decode cX5_worth 21 = .ok (.iconst 0, 1) := by decide +kernel
theorem dX5_worth_22 : decode cX5_worth 22 = .ok (.invokevirtual 156, 3) := by decide +kernel
theorem dX5_worth_25 : decode cX5_worth 25 = .ok (.isub, 1) := by decide +kernel
theorem dX5_worth_26 : decode cX5_worth 26 = .ok (.ireturn, 1) := by decide +kernel
theorem dX5_reading_0 : decode cX5_reading 0 = .ok (.aload_n 0, 1) := by decide +kernel
theorem dX5_reading_1 : decode cX5_reading 1 = .ok (.iload_n 1, 1) := by decide +kernel
theorem dX5_reading_2 : decode cX5_reading 2 = .ok (.invokevirtual 96, 3) := by decide +kernel
theorem dX5_reading_5 : decode cX5_reading 5 = .ok (.ifCond .ne 5, 3) := by decide +kernel
theorem dX5_reading_8 : decode cX5_reading 8 = .ok (.iconst (-1), 1) := by decide +kernel
theorem dX5_reading_9 : decode cX5_reading 9 = .ok (.ireturn, 1) := by decide +kernel
theorem dX5_reading_10 : decode cX5_reading 10 = .ok (.iload_n 2, 1) := by decide +kernel
theorem dX5_reading_11 : decode cX5_reading 11 = .ok (.iconst 0, 1) := by decide +kernel
theorem dX5_reading_12 : decode cX5_reading 12 = .ok (.bipush 8, 2) := by decide +kernel
theorem dX5_reading_14 : decode cX5_reading 14 = .ok (.invokestatic 86, 3) := by decide +kernel
theorem dX5_reading_17 : decode cX5_reading 17 = .ok (.ifCond .ne 6, 3) := by decide +kernel
theorem dX5_reading_20 : decode cX5_reading 20 = .ok (.bipush (-2), 2) := by decide +kernel
theorem dX5_reading_22 : decode cX5_reading 22 = .ok (.ireturn, 1) := by decide +kernel
theorem dX5_reading_23 : decode cX5_reading 23 = .ok (.aload_n 0, 1) := by decide +kernel
theorem dX5_reading_24 : decode cX5_reading 24 = .ok (.getfield 21, 3) := by decide +kernel
theorem dX5_reading_27 : decode cX5_reading 27 = .ok (.invokevirtual 160, 3) := by decide +kernel
theorem dX5_reading_30 : decode cX5_reading 30 = .ok (.ifCond .eq 6, 3) := by decide +kernel
theorem dX5_reading_33 : decode cX5_reading 33 = .ok (.bipush (-4), 2) := by decide +kernel
theorem dX5_reading_35 : decode cX5_reading 35 = .ok (.ireturn, 1) := by decide +kernel
theorem dX5_reading_36 : decode cX5_reading 36 = .ok (.aload_n 0, 1) := by decide +kernel
theorem dX5_reading_37 : decode cX5_reading 37 = .ok (.getfield 21, 3) := by decide +kernel
theorem dX5_reading_40 : decode cX5_reading 40 = .ok (.iload_n 1, 1) := by decide +kernel
theorem dX5_reading_41 : decode cX5_reading 41 = .ok (.iload_n 2, 1) := by decide +kernel
theorem dX5_reading_42 : decode cX5_reading 42 = .ok (.invokevirtual 164, 3) := by decide +kernel
theorem dX5_reading_45 : decode cX5_reading 45 = .ok (.ireturn, 1) := by decide +kernel
theorem dX5_back_0 : decode cX5_back 0 = .ok (.iload_n 1, 1) := by decide +kernel
theorem dX5_back_1 : decode cX5_back 1 = .ok (.iconst 0, 1) := by decide +kernel
theorem dX5_back_2 : decode cX5_back 2 = .ok (.aload_n 0, 1) := by decide +kernel
theorem dX5_back_3 : decode cX5_back 3 = .ok (.getfield 21, 3) := by decide +kernel
theorem dX5_back_6 : decode cX5_back 6 = .ok (.getfield 77, 3) := by decide +kernel
theorem dX5_back_9 : decode cX5_back 9 = .ok (.invokestatic 86, 3) := by decide +kernel
theorem dX5_back_12 : decode cX5_back 12 = .ok (.ifCond .ne 6, 3) := by decide +kernel
theorem dX5_back_15 : decode cX5_back 15 = .ok (.bipush (-2), 2) := by decide +kernel
theorem dX5_back_17 : decode cX5_back 17 = .ok (.ireturn, 1) := by decide +kernel
theorem dX5_back_18 : decode cX5_back 18 = .ok (.aload_n 0, 1) := by decide +kernel
theorem dX5_back_19 : decode cX5_back 19 = .ok (.getfield 21, 3) := by decide +kernel
theorem dX5_back_22 : decode cX5_back 22 = .ok (.dup, 1) := by decide +kernel
theorem dX5_back_23 : decode cX5_back 23 = .ok (.getfield 77, 3) := by decide +kernel
theorem dX5_back_26 : decode cX5_back 26 = .ok (.iload_n 1, 1) := by decide +kernel
theorem dX5_back_27 : decode cX5_back 27 = .ok (.isub, 1) := by decide +kernel
theorem dX5_back_28 : decode cX5_back 28 = .ok (.putfield 77, 3) := by decide +kernel
theorem dX5_back_31 : decode cX5_back 31 = .ok (.aload_n 0, 1) := by decide +kernel
theorem dX5_back_32 : decode cX5_back 32 = .ok (.getfield 21, 3) := by decide +kernel
theorem dX5_back_35 : decode cX5_back 35 = .ok (.getfield 77, 3) := by decide +kernel
theorem dX5_back_38 : decode cX5_back 38 = .ok (.ireturn, 1) := by decide +kernel
theorem dX5_speeds_0 : decode cX5_speeds 0 = .ok (.aload_n 0, 1) := by decide +kernel
theorem dX5_speeds_1 : decode cX5_speeds 1 = .ok (.aload_n 0, 1) := by decide +kernel
theorem dX5_speeds_2 : decode cX5_speeds 2 = .ok (.iload_n 1, 1) := by decide +kernel
theorem dX5_speeds_3 : decode cX5_speeds 3 = .ok (.invokevirtual 96, 3) := by decide +kernel
theorem dX5_speeds_6 : decode cX5_speeds 6 = .ok (.iload_n 2, 1) := by decide +kernel
theorem dX5_speeds_7 : decode cX5_speeds 7 = .ok (.iload_n 3, 1) := by decide +kernel
theorem dX5_speeds_8 : decode cX5_speeds 8 = .ok (.iload 4, 2) := by decide +kernel
theorem dX5_speeds_10 : decode cX5_speeds 10 = .ok (.iload 5, 2) := by decide +kernel
theorem dX5_speeds_12 : decode cX5_speeds 12 = .ok (.iload 6, 2) := by decide +kernel
theorem dX5_speeds_14 : decode cX5_speeds 14 = .ok (.iconst 0, 1) := by decide +kernel
theorem dX5_speeds_15 : decode cX5_speeds 15 = .ok (.iconst 1, 1) := by decide +kernel
theorem dX5_speeds_16 : decode cX5_speeds 16 = .ok (.invokestatic 86, 3) := by decide +kernel
theorem dX5_speeds_19 : decode cX5_speeds 19 = .ok (.invokevirtual 168, 3) := by decide +kernel
theorem dX5_speeds_22 : decode cX5_speeds 22 = .ok (.istore 7, 2) := by decide +kernel
theorem dX5_speeds_24 : decode cX5_speeds 24 = .ok (.iload 7, 2) := by decide +kernel
theorem dX5_speeds_26 : decode cX5_speeds 26 = .ok (.ifCond .eq 6, 3) := by decide +kernel
theorem dX5_speeds_29 : decode cX5_speeds 29 = .ok (.iload 7, 2) := by decide +kernel
theorem dX5_speeds_31 : decode cX5_speeds 31 = .ok (.ireturn, 1) := by decide +kernel
theorem dX5_speeds_32 : decode cX5_speeds 32 = .ok (.aload_n 0, 1) := by decide +kernel
theorem dX5_speeds_33 : decode cX5_speeds 33 = .ok (.getfield 12, 3) := by decide +kernel
theorem dX5_speeds_36 : decode cX5_speeds 36 = .ok (.getfield 102, 3) := by decide +kernel
theorem dX5_speeds_39 : decode cX5_speeds 39 = .ok (.iload_n 1, 1) := by decide +kernel
theorem dX5_speeds_40 : decode cX5_speeds 40 = .ok (.iaload, 1) := by decide +kernel
theorem dX5_speeds_41 : decode cX5_speeds 41 = .ok (.istore 8, 2) := by decide +kernel
theorem dX5_speeds_43 : decode cX5_speeds 43 = .ok (.iconst 0, 1) := by decide +kernel
theorem dX5_speeds_44 : decode cX5_speeds 44 = .ok (.istore 9, 2) := by decide +kernel
theorem dX5_speeds_46 : decode cX5_speeds 46 = .ok (.bipush (-9), 2) := by decide +kernel
theorem dX5_speeds_48 : decode cX5_speeds 48 = .ok (.istore 10, 2) := by decide +kernel
theorem dX5_speeds_50 : decode cX5_speeds 50 = .ok (.bipush 99, 2) := by decide +kernel
theorem dX5_speeds_52 : decode cX5_speeds 52 = .ok (.istore 11, 2) := by decide +kernel
theorem dX5_speeds_54 : decode cX5_speeds 54 = .ok (.iload 11, 2) := by decide +kernel
theorem dX5_speeds_56 : decode cX5_speeds 56 = .ok (.ifCond .lt 29, 3) := by decide +kernel
theorem dX5_speeds_59 : decode cX5_speeds 59 = .ok (.aload_n 0, 1) := by decide +kernel
theorem dX5_speeds_60 : decode cX5_speeds 60 = .ok (.iconst 0, 1) := by decide +kernel
theorem dX5_speeds_61 : decode cX5_speeds 61 = .ok (.iload_n 1, 1) := by decide +kernel
theorem dX5_speeds_62 : decode cX5_speeds 62 = .ok (.iload 11, 2) := by decide +kernel
theorem dX5_speeds_64 : decode cX5_speeds 64 = .ok (.iload 5, 2) := by decide +kernel
theorem dX5_speeds_66 : decode cX5_speeds 66 = .ok (.invokevirtual 172, 3) := by decide +kernel
theorem dX5_speeds_69 : decode cX5_speeds 69 = .ok (.ifCond .eq 10, 3) := by decide +kernel
theorem dX5_speeds_72 : decode cX5_speeds 72 = .ok (.iinc 9 1, 3) := by decide +kernel
theorem dX5_speeds_75 : decode cX5_speeds 75 = .ok (.iload 11, 2) := by decide +kernel
theorem dX5_speeds_77 : decode cX5_speeds 77 = .ok (.istore 10, 2) := by decide +kernel
theorem dX5_speeds_79 : decode cX5_speeds 79 = .ok (.iinc 11 (-1), 3) := by decide +kernel
theorem dX5_speeds_82 : decode cX5_speeds 82 = .ok (.goto (-28), 3) := by decide +kernel
theorem dX5_speeds_85 : decode cX5_speeds 85 = .ok (.aload_n 0, 1) := by decide +kernel
theorem dX5_speeds_86 : decode cX5_speeds 86 = .ok (.getfield 12, 3) := by decide +kernel
theorem dX5_speeds_89 : decode cX5_speeds 89 = .ok (.iconst 0, 1) := by decide +kernel
theorem dX5_speeds_90 : decode cX5_speeds 90 = .ok (.iload_n 1, 1) := by decide +kernel
theorem dX5_speeds_91 : decode cX5_speeds 91 = .ok (.iload 8, 2) := by decide +kernel
theorem dX5_speeds_93 : decode cX5_speeds 93 = .ok (.invokevirtual 108, 3) := by decide +kernel
theorem dX5_speeds_96 : decode cX5_speeds 96 = .ok (.pop, 1) := by decide +kernel
theorem dX5_speeds_97 : decode cX5_speeds 97 = .ok (.iload 6, 2) := by decide +kernel
theorem dX5_speeds_99 : decode cX5_speeds 99 = .ok (.ifCond .ne 8, 3) := by decide +kernel
theorem dX5_speeds_102 : decode cX5_speeds 102 = .ok (.iload 9, 2) := by decide +kernel
theorem dX5_speeds_104 : decode cX5_speeds 104 = .ok (.goto 5, 3) := by decide +kernel
theorem dX5_speeds_107 : decode cX5_speeds 107 = .ok (.iload 10, 2) := by decide +kernel
theorem dX5_speeds_109 : decode cX5_speeds 109 = .ok (.ireturn, 1) := by decide +kernel
theorem dX5_nails_0 : decode cX5_nails 0 = .ok (.aload_n 0, 1) := by decide +kernel
theorem dX5_nails_1 : decode cX5_nails 1 = .ok (.aload_n 0, 1) := by decide +kernel
theorem dX5_nails_2 : decode cX5_nails 2 = .ok (.iload_n 1, 1) := by decide +kernel
theorem dX5_nails_3 : decode cX5_nails 3 = .ok (.invokevirtual 96, 3) := by decide +kernel
theorem dX5_nails_6 : decode cX5_nails 6 = .ok (.iload_n 2, 1) := by decide +kernel
theorem dX5_nails_7 : decode cX5_nails 7 = .ok (.iload_n 3, 1) := by decide +kernel
theorem dX5_nails_8 : decode cX5_nails 8 = .ok (.iload 4, 2) := by decide +kernel
theorem dX5_nails_10 : decode cX5_nails 10 = .ok (.iload 5, 2) := by decide +kernel
theorem dX5_nails_12 : decode cX5_nails 12 = .ok (.iconst 1, 1) := by decide +kernel
theorem dX5_nails_13 : decode cX5_nails 13 = .ok (.invokevirtual 168, 3) := by decide +kernel
theorem dX5_nails_16 : decode cX5_nails 16 = .ok (.istore 6, 2) := by decide +kernel
theorem dX5_nails_18 : decode cX5_nails 18 = .ok (.iload 6, 2) := by decide +kernel
theorem dX5_nails_20 : decode cX5_nails 20 = .ok (.ifCond .eq 8, 3) := by decide +kernel
theorem dX5_nails_23 : decode cX5_nails 23 = .ok (.iload 6, 2) := by decide +kernel
theorem dX5_nails_25 : decode cX5_nails 25 = .ok (.goto 13, 3) := by decide +kernel
theorem dX5_nails_28 : decode cX5_nails 28 = .ok (.aload_n 0, 1) := by decide +kernel
theorem dX5_nails_29 : decode cX5_nails 29 = .ok (.iconst 1, 1) := by decide +kernel
theorem dX5_nails_30 : decode cX5_nails 30 = .ok (.iload_n 1, 1) := by decide +kernel
theorem dX5_nails_31 : decode cX5_nails 31 = .ok (.bipush 9, 2) := by decide +kernel
theorem dX5_nails_33 : decode cX5_nails 33 = .ok (.iload 5, 2) := by decide +kernel
theorem dX5_nails_35 : decode cX5_nails 35 = .ok (.invokevirtual 176, 3) := by decide +kernel
theorem dX5_nails_38 : decode cX5_nails 38 = .ok (.ireturn, 1) := by decide +kernel
theorem dX5_slicks_0 : decode cX5_slicks 0 = .ok (.aload_n 0, 1) := by decide +kernel
theorem dX5_slicks_1 : decode cX5_slicks 1 = .ok (.aload_n 0, 1) := by decide +kernel
theorem dX5_slicks_2 : decode cX5_slicks 2 = .ok (.iload_n 1, 1) := by decide +kernel
theorem dX5_slicks_3 : decode cX5_slicks 3 = .ok (.invokevirtual 83, 3) := by decide +kernel
theorem dX5_slicks_6 : decode cX5_slicks 6 = .ok (.iload_n 2, 1) := by decide +kernel
theorem dX5_slicks_7 : decode cX5_slicks 7 = .ok (.iload_n 3, 1) := by decide +kernel
theorem dX5_slicks_8 : decode cX5_slicks 8 = .ok (.iload 4, 2) := by decide +kernel
theorem dX5_slicks_10 : decode cX5_slicks 10 = .ok (.iload 5, 2) := by decide +kernel
theorem dX5_slicks_12 : decode cX5_slicks 12 = .ok (.iconst 1, 1) := by decide +kernel
theorem dX5_slicks_13 : decode cX5_slicks 13 = .ok (.invokevirtual 168, 3) := by decide +kernel
theorem dX5_slicks_16 : decode cX5_slicks 16 = .ok (.istore 6, 2) := by decide +kernel
theorem dX5_slicks_18 : decode cX5_slicks 18 = .ok (.iload 6, 2) := by decide +kernel
theorem dX5_slicks_20 : decode cX5_slicks 20 = .ok (.ifCond .eq 8, 3) := by decide +kernel
theorem dX5_slicks_23 : decode cX5_slicks 23 = .ok (.iload 6, 2) := by decide +kernel
theorem dX5_slicks_25 : decode cX5_slicks 25 = .ok (.goto 13, 3) := by decide +kernel
theorem dX5_slicks_28 : decode cX5_slicks 28 = .ok (.aload_n 0, 1) := by decide +kernel
theorem dX5_slicks_29 : decode cX5_slicks 29 = .ok (.iconst 2, 1) := by decide +kernel
theorem dX5_slicks_30 : decode cX5_slicks 30 = .ok (.iload_n 1, 1) := by decide +kernel
theorem dX5_slicks_31 : decode cX5_slicks 31 = .ok (.bipush 9, 2) := by decide +kernel
theorem dX5_slicks_33 : decode cX5_slicks 33 = .ok (.iload 5, 2) := by decide +kernel
theorem dX5_slicks_35 : decode cX5_slicks 35 = .ok (.invokevirtual 176, 3) := by decide +kernel
theorem dX5_slicks_38 : decode cX5_slicks 38 = .ok (.ireturn, 1) := by decide +kernel
theorem dX5_kinds_0 : decode cX5_kinds 0 = .ok (.aload_n 0, 1) := by decide +kernel
theorem dX5_kinds_1 : decode cX5_kinds 1 = .ok (.aload_n 0, 1) := by decide +kernel
theorem dX5_kinds_2 : decode cX5_kinds 2 = .ok (.iload_n 1, 1) := by decide +kernel
theorem dX5_kinds_3 : decode cX5_kinds 3 = .ok (.invokevirtual 96, 3) := by decide +kernel
theorem dX5_kinds_6 : decode cX5_kinds 6 = .ok (.iload_n 2, 1) := by decide +kernel
theorem dX5_kinds_7 : decode cX5_kinds 7 = .ok (.iload_n 3, 1) := by decide +kernel
theorem dX5_kinds_8 : decode cX5_kinds 8 = .ok (.iload 4, 2) := by decide +kernel
theorem dX5_kinds_10 : decode cX5_kinds 10 = .ok (.iload 5, 2) := by decide +kernel
theorem dX5_kinds_12 : decode cX5_kinds 12 = .ok (.iconst 1, 1) := by decide +kernel
theorem dX5_kinds_13 : decode cX5_kinds 13 = .ok (.invokevirtual 168, 3) := by decide +kernel
theorem dX5_kinds_16 : decode cX5_kinds 16 = .ok (.istore 6, 2) := by decide +kernel
theorem dX5_kinds_18 : decode cX5_kinds 18 = .ok (.iload 6, 2) := by decide +kernel
theorem dX5_kinds_20 : decode cX5_kinds 20 = .ok (.ifCond .eq 8, 3) := by decide +kernel
theorem dX5_kinds_23 : decode cX5_kinds 23 = .ok (.iload 6, 2) := by decide +kernel
theorem dX5_kinds_25 : decode cX5_kinds 25 = .ok (.goto 12, 3) := by decide +kernel
theorem dX5_kinds_28 : decode cX5_kinds 28 = .ok (.aload_n 0, 1) := by decide +kernel
theorem dX5_kinds_29 : decode cX5_kinds 29 = .ok (.iconst 3, 1) := by decide +kernel
theorem dX5_kinds_30 : decode cX5_kinds 30 = .ok (.iload_n 1, 1) := by decide +kernel
theorem dX5_kinds_31 : decode cX5_kinds 31 = .ok (.iconst 2, 1) := by decide +kernel
theorem dX5_kinds_32 : decode cX5_kinds 32 = .ok (.iload 5, 2) := by decide +kernel
theorem dX5_kinds_34 : decode cX5_kinds 34 = .ok (.invokevirtual 176, 3) := by decide +kernel
theorem dX5_kinds_37 : decode cX5_kinds 37 = .ok (.ireturn, 1) := by decide +kernel
theorem dX5_odds_0 : decode cX5_odds 0 = .ok (.aload_n 0, 1) := by decide +kernel
theorem dX5_odds_1 : decode cX5_odds 1 = .ok (.iload_n 1, 1) := by decide +kernel
theorem dX5_odds_2 : decode cX5_odds 2 = .ok (.invokevirtual 96, 3) := by decide +kernel
theorem dX5_odds_5 : decode cX5_odds 5 = .ok (.ifCond .ne 12, 3) := by decide +kernel
theorem dX5_odds_8 : decode cX5_odds 8 = .ok (.aload_n 0, 1) := by decide +kernel
theorem dX5_odds_9 : decode cX5_odds 9 = .ok (.iconst 0, 1) := by decide +kernel
theorem dX5_odds_10 : decode cX5_odds 10 = .ok (.putfield 48, 3) := by decide +kernel
theorem dX5_odds_13 : decode cX5_odds 13 = .ok (.ldc2_w 180, 3) := by decide +kernel
theorem dX5_odds_16 : decode cX5_odds 16 = .ok (.lreturn, 1) := by decide +kernel
theorem dX5_odds_17 : decode cX5_odds 17 = .ok (.iload 5, 2) := by decide +kernel
theorem dX5_odds_19 : decode cX5_odds 19 = .ok (.iconst 0, 1) := by decide +kernel
theorem dX5_odds_20 : decode cX5_odds 20 = .ok (.bipush 10, 2) := by decide +kernel
theorem dX5_odds_22 : decode cX5_odds 22 = .ok (.invokestatic 86, 3) := by decide +kernel
theorem dX5_odds_25 : decode cX5_odds 25 = .ok (.ifCond .eq 17, 3) := by decide +kernel
theorem dX5_odds_28 : decode cX5_odds 28 = .ok (.iload 6, 2) := by decide +kernel
theorem dX5_odds_30 : decode cX5_odds 30 = .ok (.iconst 0, 1) := by decide +kernel
theorem dX5_odds_31 : decode cX5_odds 31 = .ok (.iconst 1, 1) := by decide +kernel
theorem dX5_odds_32 : decode cX5_odds 32 = .ok (.invokestatic 86, 3) := by decide +kernel
theorem dX5_odds_35 : decode cX5_odds 35 = .ok (.ifCond .eq 7, 3) := by decide +kernel
theorem dX5_odds_38 : decode cX5_odds 38 = .ok (.iconst 1, 1) := by decide +kernel
theorem dX5_odds_39 : decode cX5_odds 39 = .ok (.goto 4, 3) := by decide +kernel
theorem dX5_odds_42 : decode cX5_odds 42 = .ok (.iconst 0, 1) := by decide +kernel
theorem dX5_odds_43 : decode cX5_odds 43 = .ok (.istore 7, 2) := by decide +kernel
theorem dX5_odds_45 : decode cX5_odds 45 = .ok (.aload_n 0, 1) := by decide +kernel
theorem dX5_odds_46 : decode cX5_odds 46 = .ok (.iload_n 2, 1) := by decide +kernel
theorem dX5_odds_47 : decode cX5_odds 47 = .ok (.iload_n 3, 1) := by decide +kernel
theorem dX5_odds_48 : decode cX5_odds 48 = .ok (.iload 4, 2) := by decide +kernel
theorem dX5_odds_50 : decode cX5_odds 50 = .ok (.iload 5, 2) := by decide +kernel
theorem dX5_odds_52 : decode cX5_odds 52 = .ok (.iload 7, 2) := by decide +kernel
theorem dX5_odds_54 : decode cX5_odds 54 = .ok (.invokevirtual 115, 3) := by decide +kernel
theorem dX5_odds_57 : decode cX5_odds 57 = .ok (.ifCond .eq 7, 3) := by decide +kernel
theorem dX5_odds_60 : decode cX5_odds 60 = .ok (.ldc2_w 180, 3) := by decide +kernel
theorem dX5_odds_63 : decode cX5_odds 63 = .ok (.lreturn, 1) := by decide +kernel
theorem dX5_odds_64 : decode cX5_odds 64 = .ok (.aload_n 0, 1) := by decide +kernel
theorem dX5_odds_65 : decode cX5_odds 65 = .ok (.getfield 34, 3) := by decide +kernel
theorem dX5_odds_68 : decode cX5_odds 68 = .ok (.iconst 0, 1) := by decide +kernel
theorem dX5_odds_69 : decode cX5_odds 69 = .ok (.aaload, 1) := by decide +kernel
theorem dX5_odds_70 : decode cX5_odds 70 = .ok (.invokevirtual 149, 3) := by decide +kernel
theorem dX5_odds_73 : decode cX5_odds 73 = .ok (.aload_n 0, 1) := by decide +kernel
theorem dX5_odds_74 : decode cX5_odds 74 = .ok (.getfield 34, 3) := by decide +kernel
theorem dX5_odds_77 : decode cX5_odds 77 = .ok (.aload_n 0, 1) := by decide +kernel
theorem dX5_odds_78 : decode cX5_odds 78 = .ok (.getfield 41, 3) := by decide +kernel
theorem dX5_odds_81 : decode cX5_odds 81 = .ok (.iload_n 1, 1) := by decide +kernel
theorem dX5_odds_82 : decode cX5_odds 82 = .ok (.iconst 0, 1) := by decide +kernel
theorem dX5_odds_83 : decode cX5_odds 83 = .ok (.iload 5, 2) := by decide +kernel
theorem dX5_odds_85 : decode cX5_odds 85 = .ok (.invokestatic 182, 3) := by decide +kernel
theorem dX5_odds_88 : decode cX5_odds 88 = .ok (.istore 8, 2) := by decide +kernel
theorem dX5_odds_90 : decode cX5_odds 90 = .ok (.iload 5, 2) := by decide +kernel
theorem dX5_odds_92 : decode cX5_odds 92 = .ok (.iload 8, 2) := by decide +kernel
theorem dX5_odds_94 : decode cX5_odds 94 = .ok (.invokestatic 186, 3) := by decide +kernel
theorem dX5_odds_97 : decode cX5_odds 97 = .ok (.invokestatic 189, 3) := by decide +kernel
theorem dX5_odds_100 : decode cX5_odds 100 = .ok (.istore 9, 2) := by decide +kernel
theorem dX5_odds_102 : decode cX5_odds 102 = .ok (.iload 6, 2) := by decide +kernel
theorem dX5_odds_104 : decode cX5_odds 104 = .ok (.ifCond .ne 12, 3) := by decide +kernel
theorem dX5_odds_107 : decode cX5_odds 107 = .ok (.iload 8, 2) := by decide +kernel
theorem dX5_odds_109 : decode cX5_odds 109 = .ok (.iload 9, 2) := by decide +kernel
theorem dX5_odds_111 : decode cX5_odds 111 = .ok (.ishr, 1) := by decide +kernel
theorem dX5_odds_112 : decode cX5_odds 112 = .ok (.i2l, 1) := by decide +kernel
theorem dX5_odds_113 : decode cX5_odds 113 = .ok (.goto 11, 3) := by decide +kernel
theorem dX5_odds_116 : decode cX5_odds 116 = .ok (.iconst 1, 1) := by decide +kernel
theorem dX5_odds_117 : decode cX5_odds 117 = .ok (.iload 5, 2) := by decide +kernel
theorem dX5_odds_119 : decode cX5_odds 119 = .ok (.ishl, 1) := by decide +kernel
theorem dX5_odds_120 : decode cX5_odds 120 = .ok (.iload 9, 2) := by decide +kernel
theorem dX5_odds_122 : decode cX5_odds 122 = .ok (.ishr, 1) := by decide +kernel
theorem dX5_odds_123 : decode cX5_odds 123 = .ok (.i2l, 1) := by decide +kernel
theorem dX5_odds_124 : decode cX5_odds 124 = .ok (.lreturn, 1) := by decide +kernel
theorem dX5_sheet_0 : decode cX5_sheet 0 = .ok (.aload_n 0, 1) := by decide +kernel
theorem dX5_sheet_1 : decode cX5_sheet 1 = .ok (.iconst 0, 1) := by decide +kernel
theorem dX5_sheet_2 : decode cX5_sheet 2 = .ok (.putfield 48, 3) := by decide +kernel
theorem dX5_sheet_5 : decode cX5_sheet 5 = .ok (.iload_n 1, 1) := by decide +kernel
theorem dX5_sheet_6 : decode cX5_sheet 6 = .ok (.invokestatic 52, 3) := by decide +kernel
theorem dX5_sheet_9 : decode cX5_sheet 9 = .ok (.ifCond .ne 5, 3) := by decide +kernel
theorem dX5_sheet_12 : decode cX5_sheet 12 = .ok (.iconst (-1), 1) := by decide +kernel
theorem dX5_sheet_13 : decode cX5_sheet 13 = .ok (.ireturn, 1) := by decide +kernel
theorem dX5_sheet_14 : decode cX5_sheet 14 = .ok (.iload_n 2, 1) := by decide +kernel
theorem dX5_sheet_15 : decode cX5_sheet 15 = .ok (.invokestatic 56, 3) := by decide +kernel
theorem dX5_sheet_18 : decode cX5_sheet 18 = .ok (.ifCond .eq 9, 3) := by decide +kernel
theorem dX5_sheet_21 : decode cX5_sheet 21 = .ok (.iload_n 3, 1) := by decide +kernel
theorem dX5_sheet_22 : decode cX5_sheet 22 = .ok (.bipush 60, 2) := by decide +kernel
theorem dX5_sheet_24 : decode cX5_sheet 24 = .ok (.if_icmp .le 6, 3) := by decide +kernel
theorem dX5_sheet_27 : decode cX5_sheet 27 = .ok (.bipush (-2), 2) := by decide +kernel
theorem dX5_sheet_29 : decode cX5_sheet 29 = .ok (.ireturn, 1) := by decide +kernel
theorem dX5_sheet_30 : decode cX5_sheet 30 = .ok (.iload_n 3, 1) := by decide +kernel
theorem dX5_sheet_31 : decode cX5_sheet 31 = .ok (.ifCond .ge 9, 3) := by decide +kernel
theorem dX5_sheet_34 : decode cX5_sheet 34 = .ok (.aload_n 0, 1) := by decide +kernel
theorem dX5_sheet_35 : decode cX5_sheet 35 = .ok (.iconst 4, 1) := by decide +kernel
theorem dX5_sheet_36 : decode cX5_sheet 36 = .ok (.invokevirtual 63, 3) := by decide +kernel
theorem dX5_sheet_39 : decode cX5_sheet 39 = .ok (.ireturn, 1) := by decide +kernel
theorem dX5_sheet_40 : decode cX5_sheet 40 = .ok (.aload_n 0, 1) := by decide +kernel
theorem dX5_sheet_41 : decode cX5_sheet 41 = .ok (.getfield 27, 3) := by decide +kernel
theorem dX5_sheet_44 : decode cX5_sheet 44 = .ok (.iload_n 1, 1) := by decide +kernel
theorem dX5_sheet_45 : decode cX5_sheet 45 = .ok (.aaload, 1) := by decide +kernel
theorem dX5_sheet_46 : decode cX5_sheet 46 = .ok (.iload_n 2, 1) := by decide +kernel
theorem dX5_sheet_47 : decode cX5_sheet 47 = .ok (.iload_n 3, 1) := by decide +kernel
theorem dX5_sheet_48 : decode cX5_sheet 48 = .ok (.invokevirtual 194, 3) := by decide +kernel
theorem dX5_sheet_51 : decode cX5_sheet 51 = .ok (.iconst 1, 1) := by decide +kernel
theorem dX5_sheet_52 : decode cX5_sheet 52 = .ok (.ireturn, 1) := by decide +kernel
theorem dX5_lose_0 : decode cX5_lose 0 = .ok (.iload_n 1, 1) := by decide +kernel
theorem dX5_lose_1 : decode cX5_lose 1 = .ok (.invokestatic 52, 3) := by decide +kernel
theorem dX5_lose_4 : decode cX5_lose 4 = .ok (.ifCond .ne 5, 3) := by decide +kernel
theorem dX5_lose_7 : decode cX5_lose 7 = .ok (.iconst (-1), 1) := by decide +kernel
theorem dX5_lose_8 : decode cX5_lose 8 = .ok (.ireturn, 1) := by decide +kernel
theorem dX5_lose_9 : decode cX5_lose 9 = .ok (.aload_n 0, 1) := by decide +kernel
theorem dX5_lose_10 : decode cX5_lose 10 = .ok (.getfield 27, 3) := by decide +kernel
theorem dX5_lose_13 : decode cX5_lose 13 = .ok (.iload_n 1, 1) := by decide +kernel
theorem dX5_lose_14 : decode cX5_lose 14 = .ok (.aaload, 1) := by decide +kernel
theorem dX5_lose_15 : decode cX5_lose 15 = .ok (.invokevirtual 198, 3) := by decide +kernel
theorem dX5_lose_18 : decode cX5_lose 18 = .ok (.ifCond .eq 7, 3) := by decide +kernel
theorem dX5_lose_21 : decode cX5_lose 21 = .ok (.iconst 0, 1) := by decide +kernel
theorem dX5_lose_22 : decode cX5_lose 22 = .ok (.goto 4, 3) := by decide +kernel
theorem dX5_lose_25 : decode cX5_lose 25 = .ok (.iconst 1, 1) := by decide +kernel
theorem dX5_lose_26 : decode cX5_lose 26 = .ok (.istore_n 2, 1) := by decide +kernel
theorem dX5_lose_27 : decode cX5_lose 27 = .ok (.aload_n 0, 1) := by decide +kernel
theorem dX5_lose_28 : decode cX5_lose 28 = .ok (.getfield 27, 3) := by decide +kernel
theorem dX5_lose_31 : decode cX5_lose 31 = .ok (.iload_n 1, 1) := by decide +kernel
theorem dX5_lose_32 : decode cX5_lose 32 = .ok (.aaload, 1) := by decide +kernel
theorem dX5_lose_33 : decode cX5_lose 33 = .ok (.iconst (-1), 1) := by decide +kernel
theorem dX5_lose_34 : decode cX5_lose 34 = .ok (.iconst 0, 1) := by decide +kernel
theorem dX5_lose_35 : decode cX5_lose 35 = .ok (.invokevirtual 194, 3) := by decide +kernel
theorem dX5_lose_38 : decode cX5_lose 38 = .ok (.iload_n 2, 1) := by decide +kernel
theorem dX5_lose_39 : decode cX5_lose 39 = .ok (.ireturn, 1) := by decide +kernel
theorem dX5_put_0 : decode cX5_put 0 = .ok (.aload_n 0, 1) := by decide +kernel
theorem dX5_put_1 : decode cX5_put 1 = .ok (.iconst 0, 1) := by decide +kernel
theorem dX5_put_2 : decode cX5_put 2 = .ok (.putfield 48, 3) := by decide +kernel
theorem dX5_put_5 : decode cX5_put 5 = .ok (.iload_n 1, 1) := by decide +kernel
theorem dX5_put_6 : decode cX5_put 6 = .ok (.invokestatic 52, 3) := by decide +kernel
theorem dX5_put_9 : decode cX5_put 9 = .ok (.ifCond .ne 5, 3) := by decide +kernel
theorem dX5_put_12 : decode cX5_put 12 = .ok (.iconst (-1), 1) := by decide +kernel
theorem dX5_put_13 : decode cX5_put 13 = .ok (.ireturn, 1) := by decide +kernel
theorem dX5_put_14 : decode cX5_put 14 = .ok (.aload_n 0, 1) := by decide +kernel
theorem dX5_put_15 : decode cX5_put 15 = .ok (.getfield 27, 3) := by decide +kernel
theorem dX5_put_18 : decode cX5_put 18 = .ok (.iload_n 1, 1) := by decide +kernel
theorem dX5_put_19 : decode cX5_put 19 = .ok (.aaload, 1) := by decide +kernel
theorem dX5_put_20 : decode cX5_put 20 = .ok (.astore 4, 2) := by decide +kernel
theorem dX5_put_22 : decode cX5_put 22 = .ok (.aload 4, 2) := by decide +kernel
theorem dX5_put_24 : decode cX5_put 24 = .ok (.aload 4, 2) := by decide +kernel
theorem dX5_put_26 : decode cX5_put 26 = .ok (.getfield 201, 3) := by decide +kernel
theorem dX5_put_29 : decode cX5_put 29 = .ok (.iload_n 2, 1) := by decide +kernel
theorem dX5_put_30 : decode cX5_put 30 = .ok (.iconst 1, 1) := by decide +kernel
theorem dX5_put_31 : decode cX5_put 31 = .ok (.invokestatic 59, 3) := by decide +kernel
theorem dX5_put_34 : decode cX5_put 34 = .ok (.istore 5, 2) := by decide +kernel
theorem dX5_put_36 : decode cX5_put 36 = .ok (.iload 5, 2) := by decide +kernel
theorem dX5_put_38 : decode cX5_put 38 = .ok (.ifCond .eq 10, 3) := by decide +kernel
theorem dX5_put_41 : decode cX5_put 41 = .ok (.aload_n 0, 1) := by decide +kernel
theorem dX5_put_42 : decode cX5_put 42 = .ok (.iload 5, 2) := by decide +kernel
theorem dX5_put_44 : decode cX5_put 44 = .ok (.invokevirtual 63, 3) := by decide +kernel
theorem dX5_put_47 : decode cX5_put 47 = .ok (.ireturn, 1) := by decide +kernel
theorem dX5_put_48 : decode cX5_put 48 = .ok (.aload 4, 2) := by decide +kernel
theorem dX5_put_50 : decode cX5_put 50 = .ok (.iload_n 2, 1) := by decide +kernel
theorem dX5_put_51 : decode cX5_put 51 = .ok (.iload_n 3, 1) := by decide +kernel
theorem dX5_put_52 : decode cX5_put 52 = .ok (.invokevirtual 204, 3) := by decide +kernel
theorem dX5_put_55 : decode cX5_put 55 = .ok (.iconst 1, 1) := by decide +kernel
theorem dX5_put_56 : decode cX5_put 56 = .ok (.ireturn, 1) := by decide +kernel
theorem dX5_cell_0 : decode cX5_cell 0 = .ok (.aload_n 0, 1) := by decide +kernel
theorem dX5_cell_1 : decode cX5_cell 1 = .ok (.iconst 0, 1) := by decide +kernel
theorem dX5_cell_2 : decode cX5_cell 2 = .ok (.putfield 48, 3) := by decide +kernel
theorem dX5_cell_5 : decode cX5_cell 5 = .ok (.iload_n 1, 1) := by decide +kernel
theorem dX5_cell_6 : decode cX5_cell 6 = .ok (.invokestatic 52, 3) := by decide +kernel
theorem dX5_cell_9 : decode cX5_cell 9 = .ok (.ifCond .eq 10, 3) := by decide +kernel
theorem dX5_cell_12 : decode cX5_cell 12 = .ok (.iload_n 3, 1) := by decide +kernel
theorem dX5_cell_13 : decode cX5_cell 13 = .ok (.invokestatic 56, 3) := by decide +kernel
theorem dX5_cell_16 : decode cX5_cell 16 = .ok (.ifCond .ne 7, 3) := by decide +kernel
theorem dX5_cell_19 : decode cX5_cell 19 = .ok (.ldc2_w 180, 3) := by decide +kernel
theorem dX5_cell_22 : decode cX5_cell 22 = .ok (.lreturn, 1) := by decide +kernel
theorem dX5_cell_23 : decode cX5_cell 23 = .ok (.aload_n 0, 1) := by decide +kernel
theorem dX5_cell_24 : decode cX5_cell 24 = .ok (.getfield 27, 3) := by decide +kernel
theorem dX5_cell_27 : decode cX5_cell 27 = .ok (.iload_n 1, 1) := by decide +kernel
theorem dX5_cell_28 : decode cX5_cell 28 = .ok (.aaload, 1) := by decide +kernel
theorem dX5_cell_29 : decode cX5_cell 29 = .ok (.iload_n 3, 1) := by decide +kernel
theorem dX5_cell_30 : decode cX5_cell 30 = .ok (.iload_n 2, 1) := by decide +kernel
theorem dX5_cell_31 : decode cX5_cell 31 = .ok (.iconst 1, 1) := by decide +kernel
theorem dX5_cell_32 : decode cX5_cell 32 = .ok (.invokestatic 59, 3) := by decide +kernel
theorem dX5_cell_35 : decode cX5_cell 35 = .ok (.istore 4, 2) := by decide +kernel
theorem dX5_cell_37 : decode cX5_cell 37 = .ok (.iload 4, 2) := by decide +kernel
theorem dX5_cell_39 : decode cX5_cell 39 = .ok (.ifCond .eq 14, 3) := by decide +kernel
theorem dX5_cell_42 : decode cX5_cell 42 = .ok (.aload_n 0, 1) := by decide +kernel
theorem dX5_cell_43 : decode cX5_cell 43 = .ok (.iload 4, 2) := by decide +kernel
theorem dX5_cell_45 : decode cX5_cell 45 = .ok (.invokevirtual 63, 3) := by decide +kernel
theorem dX5_cell_48 : decode cX5_cell 48 = .ok (.pop, 1) := by decide +kernel
theorem dX5_cell_49 : decode cX5_cell 49 = .ok (.ldc2_w 180, 3) := by decide +kernel
theorem dX5_cell_52 : decode cX5_cell 52 = .ok (.lreturn, 1) := by decide +kernel
theorem dX5_cell_53 : decode cX5_cell 53 = .ok (.aload_n 0, 1) := by decide +kernel
theorem dX5_cell_54 : decode cX5_cell 54 = .ok (.getfield 27, 3) := by decide +kernel
theorem dX5_cell_57 : decode cX5_cell 57 = .ok (.iload_n 1, 1) := by decide +kernel
theorem dX5_cell_58 : decode cX5_cell 58 = .ok (.aaload, 1) := by decide +kernel
theorem dX5_cell_59 : decode cX5_cell 59 = .ok (.getfield 207, 3) := by decide +kernel
theorem dX5_cell_62 : decode cX5_cell 62 = .ok (.iload_n 2, 1) := by decide +kernel
theorem dX5_cell_63 : decode cX5_cell 63 = .ok (.iaload, 1) := by decide +kernel
theorem dX5_cell_64 : decode cX5_cell 64 = .ok (.i2l, 1) := by decide +kernel
theorem dX5_cell_65 : decode cX5_cell 65 = .ok (.lreturn, 1) := by decide +kernel
theorem dX5_copy_0 : decode cX5_copy 0 = .ok (.aload_n 0, 1) := by decide +kernel
theorem dX5_copy_1 : decode cX5_copy 1 = .ok (.iconst 0, 1) := by decide +kernel
theorem dX5_copy_2 : decode cX5_copy 2 = .ok (.putfield 48, 3) := by decide +kernel
theorem dX5_copy_5 : decode cX5_copy 5 = .ok (.iload_n 1, 1) := by decide +kernel
theorem dX5_copy_6 : decode cX5_copy 6 = .ok (.invokestatic 52, 3) := by decide +kernel
theorem dX5_copy_9 : decode cX5_copy 9 = .ok (.ifCond .eq 10, 3) := by decide +kernel
theorem dX5_copy_12 : decode cX5_copy 12 = .ok (.iload_n 3, 1) := by decide +kernel
theorem dX5_copy_13 : decode cX5_copy 13 = .ok (.invokestatic 52, 3) := by decide +kernel
theorem dX5_copy_16 : decode cX5_copy 16 = .ok (.ifCond .ne 5, 3) := by decide +kernel
theorem dX5_copy_19 : decode cX5_copy 19 = .ok (.iconst (-1), 1) := by decide +kernel
theorem dX5_copy_20 : decode cX5_copy 20 = .ok (.ireturn, 1) := by decide +kernel
theorem dX5_copy_21 : decode cX5_copy 21 = .ok (.aload_n 0, 1) := by decide +kernel
theorem dX5_copy_22 : decode cX5_copy 22 = .ok (.getfield 27, 3) := by decide +kernel
theorem dX5_copy_25 : decode cX5_copy 25 = .ok (.iload_n 1, 1) := by decide +kernel
theorem dX5_copy_26 : decode cX5_copy 26 = .ok (.aaload, 1) := by decide +kernel
theorem dX5_copy_27 : decode cX5_copy 27 = .ok (.astore 6, 2) := by decide +kernel
theorem dX5_copy_29 : decode cX5_copy 29 = .ok (.aload_n 0, 1) := by decide +kernel
theorem dX5_copy_30 : decode cX5_copy 30 = .ok (.getfield 27, 3) := by decide +kernel
theorem dX5_copy_33 : decode cX5_copy 33 = .ok (.iload_n 3, 1) := by decide +kernel
theorem dX5_copy_34 : decode cX5_copy 34 = .ok (.aaload, 1) := by decide +kernel
theorem dX5_copy_35 : decode cX5_copy 35 = .ok (.astore 7, 2) := by decide +kernel
theorem dX5_copy_37 : decode cX5_copy 37 = .ok (.aload 6, 2) := by decide +kernel
theorem dX5_copy_39 : decode cX5_copy 39 = .ok (.invokevirtual 198, 3) := by decide +kernel
theorem dX5_copy_42 : decode cX5_copy 42 = .ok (.ifCond .ne 11, 3) := by decide +kernel
theorem dX5_copy_45 : decode cX5_copy 45 = .ok (.aload 7, 2) := by decide +kernel
theorem dX5_copy_47 : decode cX5_copy 47 = .ok (.invokevirtual 198, 3) := by decide +kernel
theorem dX5_copy_50 : decode cX5_copy 50 = .ok (.ifCond .eq 9, 3) := by decide +kernel
theorem dX5_copy_53 : decode cX5_copy 53 = .ok (.aload_n 0, 1) := by decide +kernel
theorem dX5_copy_54 : decode cX5_copy 54 = .ok (.iconst 1, 1) := by decide +kernel
theorem dX5_copy_55 : decode cX5_copy 55 = .ok (.invokevirtual 63, 3) := by decide +kernel
theorem dX5_copy_58 : decode cX5_copy 58 = .ok (.ireturn, 1) := by decide +kernel
theorem dX5_copy_59 : decode cX5_copy 59 = .ok (.aload 6, 2) := by decide +kernel
theorem dX5_copy_61 : decode cX5_copy 61 = .ok (.getfield 201, 3) := by decide +kernel
theorem dX5_copy_64 : decode cX5_copy 64 = .ok (.aload 7, 2) := by decide +kernel
theorem dX5_copy_66 : decode cX5_copy 66 = .ok (.getfield 201, 3) := by decide +kernel
theorem dX5_copy_69 : decode cX5_copy 69 = .ok (.if_icmp .eq 9, 3) := by decide +kernel
theorem dX5_copy_72 : decode cX5_copy 72 = .ok (.aload_n 0, 1) := by decide +kernel
theorem dX5_copy_73 : decode cX5_copy 73 = .ok (.iconst 2, 1) := by decide +kernel
theorem dX5_copy_74 : decode cX5_copy 74 = .ok (.invokevirtual 63, 3) := by decide +kernel
theorem dX5_copy_77 : decode cX5_copy 77 = .ok (.ireturn, 1) := by decide +kernel
theorem dX5_copy_78 : decode cX5_copy 78 = .ok (.aload 6, 2) := by decide +kernel
theorem dX5_copy_80 : decode cX5_copy 80 = .ok (.iload_n 2, 1) := by decide +kernel
theorem dX5_copy_81 : decode cX5_copy 81 = .ok (.iload 5, 2) := by decide +kernel
theorem dX5_copy_83 : decode cX5_copy 83 = .ok (.invokevirtual 210, 3) := by decide +kernel
theorem dX5_copy_86 : decode cX5_copy 86 = .ok (.ifCond .eq 15, 3) := by decide +kernel
theorem dX5_copy_89 : decode cX5_copy 89 = .ok (.aload 7, 2) := by decide +kernel
theorem dX5_copy_91 : decode cX5_copy 91 = .ok (.iload 4, 2) := by decide +kernel
theorem dX5_copy_93 : decode cX5_copy 93 = .ok (.iload 5, 2) := by decide +kernel
theorem dX5_copy_95 : decode cX5_copy 95 = .ok (.invokevirtual 210, 3) := by decide +kernel
theorem dX5_copy_98 : decode cX5_copy 98 = .ok (.ifCond .ne 9, 3) := by decide +kernel
theorem dX5_copy_101 : decode cX5_copy 101 = .ok (.aload_n 0, 1) := by decide +kernel
theorem dX5_copy_102 : decode cX5_copy 102 = .ok (.iconst 3, 1) := by decide +kernel
theorem dX5_copy_103 : decode cX5_copy 103 = .ok (.invokevirtual 63, 3) := by decide +kernel
theorem dX5_copy_106 : decode cX5_copy 106 = .ok (.ireturn, 1) := by decide +kernel
theorem dX5_copy_107 : decode cX5_copy 107 = .ok (.aload 6, 2) := by decide +kernel
theorem dX5_copy_109 : decode cX5_copy 109 = .ok (.getfield 207, 3) := by decide +kernel
theorem dX5_copy_112 : decode cX5_copy 112 = .ok (.iload_n 2, 1) := by decide +kernel
theorem dX5_copy_113 : decode cX5_copy 113 = .ok (.aload 7, 2) := by decide +kernel
theorem dX5_copy_115 : decode cX5_copy 115 = .ok (.getfield 207, 3) := by decide +kernel
theorem dX5_copy_118 : decode cX5_copy 118 = .ok (.iload 4, 2) := by decide +kernel
theorem dX5_copy_120 : decode cX5_copy 120 = .ok (.iload 5, 2) := by decide +kernel
theorem dX5_copy_122 : decode cX5_copy 122 = .ok (.invokestatic 213, 3) := by decide +kernel
theorem dX5_copy_125 : decode cX5_copy 125 = .ok (.iload 5, 2) := by decide +kernel
theorem dX5_copy_127 : decode cX5_copy 127 = .ok (.ireturn, 1) := by decide +kernel
theorem dX5_tell_0 : decode cX5_tell 0 = .ok (.aload_n 0, 1) := by decide +kernel
theorem dX5_tell_1 : decode cX5_tell 1 = .ok (.iload_n 1, 1) := by decide +kernel
theorem dX5_tell_2 : decode cX5_tell 2 = .ok (.invokevirtual 96, 3) := by decide +kernel
theorem dX5_tell_5 : decode cX5_tell 5 = .ok (.ifCond .ne 5, 3) := by decide +kernel
theorem dX5_tell_8 : decode cX5_tell 8 = .ok (.iconst (-1), 1) := by decide +kernel
theorem dX5_tell_9 : decode cX5_tell 9 = .ok (.ireturn, 1) := by decide +kernel
theorem dX5_tell_10 : decode cX5_tell 10 = .ok (.aload_n 0, 1) := by decide +kernel
theorem dX5_tell_11 : decode cX5_tell 11 = .ok (.getfield 12, 3) := by decide +kernel
theorem dX5_tell_14 : decode cX5_tell 14 = .ok (.getfield 99, 3) := by decide +kernel
theorem dX5_tell_17 : decode cX5_tell 17 = .ok (.iload_n 1, 1) := by decide +kernel
theorem dX5_tell_18 : decode cX5_tell 18 = .ok (.iaload, 1) := by decide +kernel
theorem dX5_tell_19 : decode cX5_tell 19 = .ok (.iconst 2, 1) := by decide +kernel
theorem dX5_tell_20 : decode cX5_tell 20 = .ok (.if_icmp .ne 9, 3) := by decide +kernel
theorem dX5_tell_23 : decode cX5_tell 23 = .ok (.aload_n 0, 1) := by decide +kernel
theorem dX5_tell_24 : decode cX5_tell 24 = .ok (.iload_n 1, 1) := by decide +kernel
theorem dX5_tell_25 : decode cX5_tell 25 = .ok (.invokevirtual 219, 3) := by decide +kernel
theorem dX5_tell_28 : decode cX5_tell 28 = .ok (.ireturn, 1) := by decide +kernel
theorem dX5_tell_29 : decode cX5_tell 29 = .ok (.aload_n 0, 1) := by decide +kernel
theorem dX5_tell_30 : decode cX5_tell 30 = .ok (.getfield 12, 3) := by decide +kernel
theorem dX5_tell_33 : decode cX5_tell 33 = .ok (.getfield 99, 3) := by decide +kernel
theorem dX5_tell_36 : decode cX5_tell 36 = .ok (.iload_n 1, 1) := by decide +kernel
theorem dX5_tell_37 : decode cX5_tell 37 = .ok (.iaload, 1) := by decide +kernel
theorem dX5_tell_38 : decode cX5_tell 38 = .ok (.iconst 1, 1) := by decide +kernel
theorem dX5_tell_39 : decode cX5_tell 39 = .ok (.if_icmp .ne 11, 3) := by decide +kernel
theorem dX5_tell_42 : decode cX5_tell 42 = .ok (.aload_n 0, 1) := by decide +kernel
theorem dX5_tell_43 : decode cX5_tell 43 = .ok (.iload_n 1, 1) := by decide +kernel
theorem dX5_tell_44 : decode cX5_tell 44 = .ok (.invokevirtual 222, 3) := by decide +kernel
theorem dX5_tell_47 : decode cX5_tell 47 = .ok (.goto 8, 3) := by decide +kernel
theorem dX5_tell_50 : decode cX5_tell 50 = .ok (.aload_n 0, 1) := by decide +kernel
theorem dX5_tell_51 : decode cX5_tell 51 = .ok (.iload_n 1, 1) := by decide +kernel
theorem dX5_tell_52 : decode cX5_tell 52 = .ok (.invokevirtual 225, 3) := by decide +kernel
theorem dX5_tell_55 : decode cX5_tell 55 = .ok (.ireturn, 1) := by decide +kernel
theorem dX5_cheer_0 : decode cX5_cheer 0 = .ok (.aload_n 0, 1) := by decide +kernel
theorem dX5_cheer_1 : decode cX5_cheer 1 = .ok (.iload_n 1, 1) := by decide +kernel
theorem dX5_cheer_2 : decode cX5_cheer 2 = .ok (.invokevirtual 96, 3) := by decide +kernel
theorem dX5_cheer_5 : decode cX5_cheer 5 = .ok (.ifCond .ne 5, 3) := by decide +kernel
theorem dX5_cheer_8 : decode cX5_cheer 8 = .ok (.iconst (-1), 1) := by decide +kernel
theorem dX5_cheer_9 : decode cX5_cheer 9 = .ok (.ireturn, 1) := by decide +kernel
theorem dX5_cheer_10 : decode cX5_cheer 10 = .ok (.aload_n 0, 1) := by decide +kernel
theorem dX5_cheer_11 : decode cX5_cheer 11 = .ok (.getfield 12, 3) := by decide +kernel
theorem dX5_cheer_14 : decode cX5_cheer 14 = .ok (.getfield 99, 3) := by decide +kernel
theorem dX5_cheer_17 : decode cX5_cheer 17 = .ok (.iload_n 1, 1) := by decide +kernel
theorem dX5_cheer_18 : decode cX5_cheer 18 = .ok (.iaload, 1) := by decide +kernel
theorem dX5_cheer_19 : decode cX5_cheer 19 = .ok (.iconst 2, 1) := by decide +kernel
theorem dX5_cheer_20 : decode cX5_cheer 20 = .ok (.if_icmp .ne 11, 3) := by decide +kernel
theorem dX5_cheer_23 : decode cX5_cheer 23 = .ok (.aload_n 0, 1) := by decide +kernel
theorem dX5_cheer_24 : decode cX5_cheer 24 = .ok (.iconst 5, 1) := by decide +kernel
theorem dX5_cheer_25 : decode cX5_cheer 25 = .ok (.invokevirtual 228, 3) := by decide +kernel
theorem dX5_cheer_28 : decode cX5_cheer 28 = .ok (.bipush 80, 2) := by decide +kernel
theorem dX5_cheer_30 : decode cX5_cheer 30 = .ok (.ireturn, 1) := by decide +kernel
theorem dX5_cheer_31 : decode cX5_cheer 31 = .ok (.aload_n 0, 1) := by decide +kernel
theorem dX5_cheer_32 : decode cX5_cheer 32 = .ok (.iconst 4, 1) := by decide +kernel
theorem dX5_cheer_33 : decode cX5_cheer 33 = .ok (.invokevirtual 228, 3) := by decide +kernel
theorem dX5_cheer_36 : decode cX5_cheer 36 = .ok (.iload_n 1, 1) := by decide +kernel
theorem dX5_cheer_37 : decode cX5_cheer 37 = .ok (.ireturn, 1) := by decide +kernel
theorem dX5_as_0 : decode cX5_as 0 = .ok (.aload_n 0, 1) := by decide +kernel
theorem dX5_as_1 : decode cX5_as 1 = .ok (.iconst 0, 1) := by decide +kernel
theorem dX5_as_2 : decode cX5_as 2 = .ok (.putfield 48, 3) := by decide +kernel
theorem dX5_as_5 : decode cX5_as 5 = .ok (.aload_n 0, 1) := by decide +kernel
theorem dX5_as_6 : decode cX5_as 6 = .ok (.iload_n 1, 1) := by decide +kernel
theorem dX5_as_7 : decode cX5_as 7 = .ok (.invokevirtual 96, 3) := by decide +kernel
theorem dX5_as_10 : decode cX5_as 10 = .ok (.ifCond .ne 5, 3) := by decide +kernel
theorem dX5_as_13 : decode cX5_as 13 = .ok (.iconst (-1), 1) := by decide +kernel
theorem dX5_as_14 : decode cX5_as 14 = .ok (.ireturn, 1) := by decide +kernel
theorem dX5_as_15 : decode cX5_as 15 = .ok (.iload_n 2, 1) := by decide +kernel
theorem dX5_as_16 : decode cX5_as 16 = .ok (.iconst 0, 1) := by decide +kernel
theorem dX5_as_17 : decode cX5_as 17 = .ok (.iconst 2, 1) := by decide +kernel
theorem dX5_as_18 : decode cX5_as 18 = .ok (.invokestatic 86, 3) := by decide +kernel
theorem dX5_as_21 : decode cX5_as 21 = .ok (.ifCond .ne 6, 3) := by decide +kernel
theorem dX5_as_24 : decode cX5_as 24 = .ok (.bipush (-2), 2) := by decide +kernel
theorem dX5_as_26 : decode cX5_as 26 = .ok (.ireturn, 1) := by decide +kernel
theorem dX5_as_27 : decode cX5_as 27 = .ok (.aload_n 0, 1) := by decide +kernel
theorem dX5_as_28 : decode cX5_as 28 = .ok (.getfield 12, 3) := by decide +kernel
theorem dX5_as_31 : decode cX5_as 31 = .ok (.getfield 99, 3) := by decide +kernel
theorem dX5_as_34 : decode cX5_as 34 = .ok (.iload_n 1, 1) := by decide +kernel
theorem dX5_as_35 : decode cX5_as 35 = .ok (.iaload, 1) := by decide +kernel
theorem dX5_as_36 : decode cX5_as 36 = .ok (.iload_n 2, 1) := by decide +kernel
theorem dX5_as_37 : decode cX5_as 37 = .ok (.if_icmp .lt 7, 3) := by decide +kernel
theorem dX5_as_40 : decode cX5_as 40 = .ok (.iconst 1, 1) := by decide +kernel
theorem dX5_as_41 : decode cX5_as 41 = .ok (.goto 8, 3) := by decide +kernel
theorem dX5_as_44 : decode cX5_as 44 = .ok (.aload_n 0, 1) := by decide +kernel
theorem dX5_as_45 : decode cX5_as 45 = .ok (.iconst 2, 1) := by decide +kernel
theorem dX5_as_46 : decode cX5_as 46 = .ok (.invokevirtual 63, 3) := by decide +kernel
theorem dX5_as_49 : decode cX5_as 49 = .ok (.ireturn, 1) := by decide +kernel
theorem dX5_trace_0 : decode cX5_trace 0 = .ok (.aload_n 0, 1) := by decide +kernel
theorem dX5_trace_1 : decode cX5_trace 1 = .ok (.getfield 232, 3) := by decide +kernel
theorem dX5_trace_4 : decode cX5_trace 4 = .ok (.ireturn, 1) := by decide +kernel
theorem dX5_fault_0 : decode cX5_fault 0 = .ok (.aload_n 0, 1) := by decide +kernel
theorem dX5_fault_1 : decode cX5_fault 1 = .ok (.getfield 48, 3) := by decide +kernel
theorem dX5_fault_4 : decode cX5_fault 4 = .ok (.ireturn, 1) := by decide +kernel
theorem dX5_many_0 : decode cX5_many 0 = .ok (.iload_n 1, 1) := by decide +kernel
theorem dX5_many_1 : decode cX5_many 1 = .ok (.iconst 0, 1) := by decide +kernel
theorem dX5_many_2 : decode cX5_many 2 = .ok (.iconst 2, 1) := by decide +kernel
theorem dX5_many_3 : decode cX5_many 3 = .ok (.invokestatic 86, 3) := by decide +kernel
theorem dX5_many_6 : decode cX5_many 6 = .ok (.ifCond .ne 6, 3) := by decide +kernel
theorem dX5_many_9 : decode cX5_many 9 = .ok (.bipush (-2), 2) := by decide +kernel
theorem dX5_many_11 : decode cX5_many 11 = .ok (.ireturn, 1) := by decide +kernel
theorem dX5_many_12 : decode cX5_many 12 = .ok (.iload_n 1, 1) := by decide +kernel
theorem dX5_many_13 : decode cX5_many 13 = .ok (.ifCond .ne 11, 3) := by decide +kernel
theorem dX5_many_16 : decode cX5_many 16 = .ok (.aload_n 0, 1) := by decide +kernel
theorem dX5_many_17 : decode cX5_many 17 = .ok (.getfield 12, 3) := by decide +kernel
theorem dX5_many_20 : decode cX5_many 20 = .ok (.getfield 80, 3) := by decide +kernel
theorem dX5_many_23 : decode cX5_many 23 = .ok (.ireturn, 1) := by decide +kernel
theorem dX5_many_24 : decode cX5_many 24 = .ok (.iload_n 1, 1) := by decide +kernel
theorem dX5_many_25 : decode cX5_many 25 = .ok (.iconst 1, 1) := by decide +kernel
theorem dX5_many_26 : decode cX5_many 26 = .ok (.if_icmp .ne 13, 3) := by decide +kernel
theorem dX5_many_29 : decode cX5_many 29 = .ok (.aload_n 0, 1) := by decide +kernel
theorem dX5_many_30 : decode cX5_many 30 = .ok (.getfield 12, 3) := by decide +kernel
theorem dX5_many_33 : decode cX5_many 33 = .ok (.getfield 137, 3) := by decide +kernel
theorem dX5_many_36 : decode cX5_many 36 = .ok (.goto 10, 3) := by decide +kernel
theorem dX5_many_39 : decode cX5_many 39 = .ok (.aload_n 0, 1) := by decide +kernel
theorem dX5_many_40 : decode cX5_many 40 = .ok (.getfield 21, 3) := by decide +kernel
theorem dX5_many_43 : decode cX5_many 43 = .ok (.getfield 77, 3) := by decide +kernel
theorem dX5_many_46 : decode cX5_many 46 = .ok (.ireturn, 1) := by decide +kernel
theorem dX5_isIn_0 : decode cX5_isIn 0 = .ok (.iload_n 0, 1) := by decide +kernel
theorem dX5_isIn_1 : decode cX5_isIn 1 = .ok (.iload_n 1, 1) := by decide +kernel
theorem dX5_isIn_2 : decode cX5_isIn 2 = .ok (.if_icmp .lt 12, 3) := by decide +kernel
theorem dX5_isIn_5 : decode cX5_isIn 5 = .ok (.iload_n 0, 1) := by decide +kernel
theorem dX5_isIn_6 : decode cX5_isIn 6 = .ok (.iload_n 2, 1) := by decide +kernel
theorem dX5_isIn_7 : decode cX5_isIn 7 = .ok (.if_icmp .gt 7, 3) := by decide +kernel
theorem dX5_isIn_10 : decode cX5_isIn 10 = .ok (.iconst 1, 1) := by decide +kernel
theorem dX5_isIn_11 : decode cX5_isIn 11 = .ok (.goto 4, 3) := by decide +kernel
theorem dX5_isIn_14 : decode cX5_isIn 14 = .ok (.iconst 0, 1) := by decide +kernel
theorem dX5_isIn_15 : decode cX5_isIn 15 = .ok (.ireturn, 1) := by decide +kernel
theorem dX5_isSheet_0 : decode cX5_isSheet 0 = .ok (.iload_n 0, 1) := by decide +kernel
theorem dX5_isSheet_1 : decode cX5_isSheet 1 = .ok (.iconst 0, 1) := by decide +kernel
theorem dX5_isSheet_2 : decode cX5_isSheet 2 = .ok (.iconst 3, 1) := by decide +kernel
theorem dX5_isSheet_3 : decode cX5_isSheet 3 = .ok (.invokestatic 86, 3) := by decide +kernel
theorem dX5_isSheet_6 : decode cX5_isSheet 6 = .ok (.ireturn, 1) := by decide +kernel
theorem dX5_isLane_0 : decode cX5_isLane 0 = .ok (.iload_n 0, 1) := by decide +kernel
theorem dX5_isLane_1 : decode cX5_isLane 1 = .ok (.iconst 0, 1) := by decide +kernel
theorem dX5_isLane_2 : decode cX5_isLane 2 = .ok (.iconst 2, 1) := by decide +kernel
theorem dX5_isLane_3 : decode cX5_isLane 3 = .ok (.invokestatic 86, 3) := by decide +kernel
theorem dX5_isLane_6 : decode cX5_isLane 6 = .ok (.ireturn, 1) := by decide +kernel
theorem dX5_isRider_0 : decode cX5_isRider 0 = .ok (.iload_n 1, 1) := by decide +kernel
theorem dX5_isRider_1 : decode cX5_isRider 1 = .ok (.iconst 0, 1) := by decide +kernel
theorem dX5_isRider_2 : decode cX5_isRider 2 = .ok (.aload_n 0, 1) := by decide +kernel
theorem dX5_isRider_3 : decode cX5_isRider 3 = .ok (.getfield 12, 3) := by decide +kernel
theorem dX5_isRider_6 : decode cX5_isRider 6 = .ok (.getfield 80, 3) := by decide +kernel
theorem dX5_isRider_9 : decode cX5_isRider 9 = .ok (.iconst 1, 1) := by decide +kernel
theorem dX5_isRider_10 : decode cX5_isRider 10 = .ok (.isub, 1) := by decide +kernel
theorem dX5_isRider_11 : decode cX5_isRider 11 = .ok (.invokestatic 86, 3) := by decide +kernel
theorem dX5_isRider_14 : decode cX5_isRider 14 = .ok (.ireturn, 1) := by decide +kernel
theorem dX5_isPace_0 : decode cX5_isPace 0 = .ok (.iload_n 1, 1) := by decide +kernel
theorem dX5_isPace_1 : decode cX5_isPace 1 = .ok (.iconst 0, 1) := by decide +kernel
theorem dX5_isPace_2 : decode cX5_isPace 2 = .ok (.aload_n 0, 1) := by decide +kernel
theorem dX5_isPace_3 : decode cX5_isPace 3 = .ok (.getfield 12, 3) := by decide +kernel
theorem dX5_isPace_6 : decode cX5_isPace 6 = .ok (.getfield 137, 3) := by decide +kernel
theorem dX5_isPace_9 : decode cX5_isPace 9 = .ok (.iconst 1, 1) := by decide +kernel
theorem dX5_isPace_10 : decode cX5_isPace 10 = .ok (.isub, 1) := by decide +kernel
theorem dX5_isPace_11 : decode cX5_isPace 11 = .ok (.invokestatic 86, 3) := by decide +kernel
theorem dX5_isPace_14 : decode cX5_isPace 14 = .ok (.ireturn, 1) := by decide +kernel
theorem dX5_meet_0 : decode cX5_meet 0 = .ok (.aload_n 0, 1) := by decide +kernel
theorem dX5_meet_1 : decode cX5_meet 1 = .ok (.iload_n 1, 1) := by decide +kernel
theorem dX5_meet_2 : decode cX5_meet 2 = .ok (.putfield 48, 3) := by decide +kernel
theorem dX5_meet_5 : decode cX5_meet 5 = .ok (.bipush (-10), 2) := by decide +kernel
theorem dX5_meet_7 : decode cX5_meet 7 = .ok (.iload_n 1, 1) := by decide +kernel
theorem dX5_meet_8 : decode cX5_meet 8 = .ok (.isub, 1) := by decide +kernel
theorem dX5_meet_9 : decode cX5_meet 9 = .ok (.ireturn, 1) := by decide +kernel
theorem dX5_faultOfCells_0 : decode cX5_faultOfCells 0 = .ok (.aload_n 0, 1) := by decide +kernel
theorem dX5_faultOfCells_1 : decode cX5_faultOfCells 1 = .ok (.invokevirtual 198, 3) := by decide +kernel
theorem dX5_faultOfCells_4 : decode cX5_faultOfCells 4 = .ok (.ifCond .eq 5, 3) := by decide +kernel
theorem dX5_faultOfCells_7 : decode cX5_faultOfCells 7 = .ok (.iconst 1, 1) := by decide +kernel
theorem dX5_faultOfCells_8 : decode cX5_faultOfCells 8 = .ok (.ireturn, 1) := by decide +kernel
theorem dX5_faultOfCells_9 : decode cX5_faultOfCells 9 = .ok (.aload_n 0, 1) := by decide +kernel
theorem dX5_faultOfCells_10 : decode cX5_faultOfCells 10 = .ok (.getfield 201, 3) := by decide +kernel
theorem dX5_faultOfCells_13 : decode cX5_faultOfCells 13 = .ok (.iload_n 1, 1) := by decide +kernel
theorem dX5_faultOfCells_14 : decode cX5_faultOfCells 14 = .ok (.if_icmp .eq 5, 3) := by decide +kernel
theorem dX5_faultOfCells_17 : decode cX5_faultOfCells 17 = .ok (.iconst 2, 1) := by decide +kernel
theorem dX5_faultOfCells_18 : decode cX5_faultOfCells 18 = .ok (.ireturn, 1) := by decide +kernel
theorem dX5_faultOfCells_19 : decode cX5_faultOfCells 19 = .ok (.iload_n 3, 1) := by decide +kernel
theorem dX5_faultOfCells_20 : decode cX5_faultOfCells 20 = .ok (.ifCond .ge 5, 3) := by decide +kernel
theorem dX5_faultOfCells_23 : decode cX5_faultOfCells 23 = .ok (.iconst 4, 1) := by decide +kernel
theorem dX5_faultOfCells_24 : decode cX5_faultOfCells 24 = .ok (.ireturn, 1) := by decide +kernel
theorem dX5_faultOfCells_25 : decode cX5_faultOfCells 25 = .ok (.aload_n 0, 1) := by decide +kernel
theorem dX5_faultOfCells_26 : decode cX5_faultOfCells 26 = .ok (.iload_n 2, 1) := by decide +kernel
theorem dX5_faultOfCells_27 : decode cX5_faultOfCells 27 = .ok (.iload_n 3, 1) := by decide +kernel
theorem dX5_faultOfCells_28 : decode cX5_faultOfCells 28 = .ok (.invokevirtual 210, 3) := by decide +kernel
theorem dX5_faultOfCells_31 : decode cX5_faultOfCells 31 = .ok (.ifCond .eq 7, 3) := by decide +kernel
theorem dX5_faultOfCells_34 : decode cX5_faultOfCells 34 = .ok (.iconst 0, 1) := by decide +kernel
theorem dX5_faultOfCells_35 : decode cX5_faultOfCells 35 = .ok (.goto 4, 3) := by decide +kernel
theorem dX5_faultOfCells_38 : decode cX5_faultOfCells 38 = .ok (.iconst 3, 1) := by decide +kernel
theorem dX5_faultOfCells_39 : decode cX5_faultOfCells 39 = .ok (.ireturn, 1) := by decide +kernel
theorem dX5_readSteps_0 : decode cX5_readSteps 0 = .ok (.aload_n 0, 1) := by decide +kernel
theorem dX5_readSteps_1 : decode cX5_readSteps 1 = .ok (.iconst 0, 1) := by decide +kernel
theorem dX5_readSteps_2 : decode cX5_readSteps 2 = .ok (.putfield 48, 3) := by decide +kernel
theorem dX5_readSteps_5 : decode cX5_readSteps 5 = .ok (.iload_n 1, 1) := by decide +kernel
theorem dX5_readSteps_6 : decode cX5_readSteps 6 = .ok (.invokestatic 52, 3) := by decide +kernel
theorem dX5_readSteps_9 : decode cX5_readSteps 9 = .ok (.ifCond .ne 5, 3) := by decide +kernel
theorem dX5_readSteps_12 : decode cX5_readSteps 12 = .ok (.iconst (-1), 1) := by decide +kernel
theorem dX5_readSteps_13 : decode cX5_readSteps 13 = .ok (.ireturn, 1) := by decide +kernel
theorem dX5_readSteps_14 : decode cX5_readSteps 14 = .ok (.iload_n 2, 1) := by decide +kernel
theorem dX5_readSteps_15 : decode cX5_readSteps 15 = .ok (.invokestatic 56, 3) := by decide +kernel
theorem dX5_readSteps_18 : decode cX5_readSteps 18 = .ok (.ifCond .eq 8, 3) := by decide +kernel
theorem dX5_readSteps_21 : decode cX5_readSteps 21 = .ok (.iload 5, 2) := by decide +kernel
theorem dX5_readSteps_23 : decode cX5_readSteps 23 = .ok (.ifCond .ne 6, 3) := by decide +kernel
theorem dX5_readSteps_26 : decode cX5_readSteps 26 = .ok (.bipush (-2), 2) := by decide +kernel
theorem dX5_readSteps_28 : decode cX5_readSteps 28 = .ok (.ireturn, 1) := by decide +kernel
theorem dX5_readSteps_29 : decode cX5_readSteps 29 = .ok (.aload_n 0, 1) := by decide +kernel
theorem dX5_readSteps_30 : decode cX5_readSteps 30 = .ok (.getfield 27, 3) := by decide +kernel
theorem dX5_readSteps_33 : decode cX5_readSteps 33 = .ok (.iload_n 1, 1) := by decide +kernel
theorem dX5_readSteps_34 : decode cX5_readSteps 34 = .ok (.aaload, 1) := by decide +kernel
theorem dX5_readSteps_35 : decode cX5_readSteps 35 = .ok (.iload_n 2, 1) := by decide +kernel
theorem dX5_readSteps_36 : decode cX5_readSteps 36 = .ok (.iload_n 3, 1) := by decide +kernel
theorem dX5_readSteps_37 : decode cX5_readSteps 37 = .ok (.iload 4, 2) := by decide +kernel
theorem dX5_readSteps_39 : decode cX5_readSteps 39 = .ok (.invokestatic 59, 3) := by decide +kernel
theorem dX5_readSteps_42 : decode cX5_readSteps 42 = .ok (.istore 6, 2) := by decide +kernel
theorem dX5_readSteps_44 : decode cX5_readSteps 44 = .ok (.iload 6, 2) := by decide +kernel
theorem dX5_readSteps_46 : decode cX5_readSteps 46 = .ok (.ifCond .eq 10, 3) := by decide +kernel
theorem dX5_readSteps_49 : decode cX5_readSteps 49 = .ok (.aload_n 0, 1) := by decide +kernel
theorem dX5_readSteps_50 : decode cX5_readSteps 50 = .ok (.iload 6, 2) := by decide +kernel
theorem dX5_readSteps_52 : decode cX5_readSteps 52 = .ok (.invokevirtual 63, 3) := by decide +kernel
theorem dX5_readSteps_55 : decode cX5_readSteps 55 = .ok (.ireturn, 1) := by decide +kernel
theorem dX5_readSteps_56 : decode cX5_readSteps 56 = .ok (.aload_n 0, 1) := by decide +kernel
theorem dX5_readSteps_57 : decode cX5_readSteps 57 = .ok (.getfield 12, 3) := by decide +kernel
theorem dX5_readSteps_60 : decode cX5_readSteps 60 = .ok (.getfield 137, 3) := by decide +kernel
theorem dX5_readSteps_63 : decode cX5_readSteps 63 = .ok (.ifCond .ne 6, 3) := by decide +kernel
theorem dX5_readSteps_66 : decode cX5_readSteps 66 = .ok (.bipush (-3), 2) := by decide +kernel
theorem dX5_readSteps_68 : decode cX5_readSteps 68 = .ok (.ireturn, 1) := by decide +kernel
theorem dX5_readSteps_69 : decode cX5_readSteps 69 = .ok (.iconst 0, 1) := by decide +kernel
theorem dX5_readSteps_70 : decode cX5_readSteps 70 = .ok (.istore 7, 2) := by decide +kernel
theorem dX5_readSteps_72 : decode cX5_readSteps 72 = .ok (.iload 7, 2) := by decide +kernel
theorem dX5_readSteps_74 : decode cX5_readSteps 74 = .ok (.iload 4, 2) := by decide +kernel
theorem dX5_readSteps_76 : decode cX5_readSteps 76 = .ok (.if_icmp .ge 58, 3) := by decide +kernel
theorem dX5_readSteps_79 : decode cX5_readSteps 79 = .ok (.iload 7, 2) := by decide +kernel
theorem dX5_readSteps_81 : decode cX5_readSteps 81 = .ok (.bipush 30, 2) := by decide +kernel
theorem dX5_readSteps_83 : decode cX5_readSteps 83 = .ok (.if_icmp .ge 51, 3) := by decide +kernel
theorem dX5_readSteps_86 : decode cX5_readSteps 86 = .ok (.aload_n 0, 1) := by decide +kernel
theorem dX5_readSteps_87 : decode cX5_readSteps 87 = .ok (.getfield 27, 3) := by decide +kernel
theorem dX5_readSteps_90 : decode cX5_readSteps 90 = .ok (.iload_n 1, 1) := by decide +kernel
theorem dX5_readSteps_91 : decode cX5_readSteps 91 = .ok (.aaload, 1) := by decide +kernel
theorem dX5_readSteps_92 : decode cX5_readSteps 92 = .ok (.getfield 207, 3) := by decide +kernel
theorem dX5_readSteps_95 : decode cX5_readSteps 95 = .ok (.iload_n 3, 1) := by decide +kernel
theorem dX5_readSteps_96 : decode cX5_readSteps 96 = .ok (.iload 7, 2) := by decide +kernel
theorem dX5_readSteps_98 : decode cX5_readSteps 98 = .ok (.iadd, 1) := by decide +kernel
theorem dX5_readSteps_99 : decode cX5_readSteps 99 = .ok (.iaload, 1) := by decide +kernel
theorem dX5_readSteps_100 : decode cX5_readSteps 100 = .ok (.istore 8, 2) := by decide +kernel
theorem dX5_readSteps_102 : decode cX5_readSteps 102 = .ok (.iload 8, 2) := by decide +kernel
theorem dX5_readSteps_104 : decode cX5_readSteps 104 = .ok (.iconst 5, 1) := by decide +kernel
theorem dX5_readSteps_105 : decode cX5_readSteps 105 = .ok (.if_icmp .eq 14, 3) := by decide +kernel
theorem dX5_readSteps_108 : decode cX5_readSteps 108 = .ok (.aload_n 0, 1) := by decide +kernel
theorem dX5_readSteps_109 : decode cX5_readSteps 109 = .ok (.iload 8, 2) := by decide +kernel
theorem dX5_readSteps_111 : decode cX5_readSteps 111 = .ok (.invokevirtual 96, 3) := by decide +kernel
theorem dX5_readSteps_114 : decode cX5_readSteps 114 = .ok (.ifCond .ne 5, 3) := by decide +kernel
theorem dX5_readSteps_117 : decode cX5_readSteps 117 = .ok (.iconst (-1), 1) := by decide +kernel
theorem dX5_readSteps_118 : decode cX5_readSteps 118 = .ok (.ireturn, 1) := by decide +kernel
theorem dX5_readSteps_119 : decode cX5_readSteps 119 = .ok (.aload_n 0, 1) := by decide +kernel
theorem dX5_readSteps_120 : decode cX5_readSteps 120 = .ok (.getfield 41, 3) := by decide +kernel
theorem dX5_readSteps_123 : decode cX5_readSteps 123 = .ok (.iload 7, 2) := by decide +kernel
theorem dX5_readSteps_125 : decode cX5_readSteps 125 = .ok (.iload 8, 2) := by decide +kernel
theorem dX5_readSteps_127 : decode cX5_readSteps 127 = .ok (.iastore, 1) := by decide +kernel
theorem dX5_readSteps_128 : decode cX5_readSteps 128 = .ok (.iinc 7 1, 3) := by decide +kernel
theorem dX5_readSteps_131 : decode cX5_readSteps 131 = .ok (.goto (-59), 3) := by decide +kernel
theorem dX5_readSteps_134 : decode cX5_readSteps 134 = .ok (.iconst 0, 1) := by decide +kernel
theorem dX5_readSteps_135 : decode cX5_readSteps 135 = .ok (.ireturn, 1) := by decide +kernel
theorem dX5_firstWrong_0 : decode cX5_firstWrong 0 = .ok (.aload_n 0, 1) := by decide +kernel
theorem dX5_firstWrong_1 : decode cX5_firstWrong 1 = .ok (.getfield 34, 3) := by decide +kernel
theorem dX5_firstWrong_4 : decode cX5_firstWrong 4 = .ok (.iconst 0, 1) := by decide +kernel
theorem dX5_firstWrong_5 : decode cX5_firstWrong 5 = .ok (.aaload, 1) := by decide +kernel
theorem dX5_firstWrong_6 : decode cX5_firstWrong 6 = .ok (.astore_n 2, 1) := by decide +kernel
theorem dX5_firstWrong_7 : decode cX5_firstWrong 7 = .ok (.aload_n 2, 1) := by decide +kernel
theorem dX5_firstWrong_8 : decode cX5_firstWrong 8 = .ok (.invokevirtual 149, 3) := by decide +kernel
theorem dX5_firstWrong_11 : decode cX5_firstWrong 11 = .ok (.iconst 0, 1) := by decide +kernel
theorem dX5_firstWrong_12 : decode cX5_firstWrong 12 = .ok (.istore_n 3, 1) := by decide +kernel
theorem dX5_firstWrong_13 : decode cX5_firstWrong 13 = .ok (.iload_n 3, 1) := by decide +kernel
theorem dX5_firstWrong_14 : decode cX5_firstWrong 14 = .ok (.iload_n 1, 1) := by decide +kernel
theorem dX5_firstWrong_15 : decode cX5_firstWrong 15 = .ok (.if_icmp .ge 57, 3) := by decide +kernel
theorem dX5_firstWrong_18 : decode cX5_firstWrong 18 = .ok (.iload_n 3, 1) := by decide +kernel
theorem dX5_firstWrong_19 : decode cX5_firstWrong 19 = .ok (.bipush 30, 2) := by decide +kernel
theorem dX5_firstWrong_21 : decode cX5_firstWrong 21 = .ok (.if_icmp .ge 51, 3) := by decide +kernel
theorem dX5_firstWrong_24 : decode cX5_firstWrong 24 = .ok (.aload_n 0, 1) := by decide +kernel
theorem dX5_firstWrong_25 : decode cX5_firstWrong 25 = .ok (.getfield 41, 3) := by decide +kernel
theorem dX5_firstWrong_28 : decode cX5_firstWrong 28 = .ok (.iload_n 3, 1) := by decide +kernel
theorem dX5_firstWrong_29 : decode cX5_firstWrong 29 = .ok (.iaload, 1) := by decide +kernel
theorem dX5_firstWrong_30 : decode cX5_firstWrong 30 = .ok (.iconst 5, 1) := by decide +kernel
theorem dX5_firstWrong_31 : decode cX5_firstWrong 31 = .ok (.if_icmp .ne 10, 3) := by decide +kernel
theorem dX5_firstWrong_34 : decode cX5_firstWrong 34 = .ok (.aload_n 2, 1) := by decide +kernel
theorem dX5_firstWrong_35 : decode cX5_firstWrong 35 = .ok (.invokevirtual 235, 3) := by decide +kernel
theorem dX5_firstWrong_38 : decode cX5_firstWrong 38 = .ok (.goto 28, 3) := by decide +kernel
theorem dX5_firstWrong_41 : decode cX5_firstWrong 41 = .ok (.aload_n 2, 1) := by decide +kernel
theorem dX5_firstWrong_42 : decode cX5_firstWrong 42 = .ok (.aload_n 0, 1) := by decide +kernel
theorem dX5_firstWrong_43 : decode cX5_firstWrong 43 = .ok (.getfield 41, 3) := by decide +kernel
theorem dX5_firstWrong_46 : decode cX5_firstWrong 46 = .ok (.iload_n 3, 1) := by decide +kernel
theorem dX5_firstWrong_47 : decode cX5_firstWrong 47 = .ok (.iaload, 1) := by decide +kernel
theorem dX5_firstWrong_48 : decode cX5_firstWrong 48 = .ok (.invokevirtual 238, 3) := by decide +kernel
theorem dX5_firstWrong_51 : decode cX5_firstWrong 51 = .ok (.ifCond .eq 5, 3) := by decide +kernel
theorem dX5_firstWrong_54 : decode cX5_firstWrong 54 = .ok (.iload_n 3, 1) := by decide +kernel
theorem dX5_firstWrong_55 : decode cX5_firstWrong 55 = .ok (.ireturn, 1) := by decide +kernel
theorem dX5_firstWrong_56 : decode cX5_firstWrong 56 = .ok (.aload_n 2, 1) := by decide +kernel
theorem dX5_firstWrong_57 : decode cX5_firstWrong 57 = .ok (.aload_n 0, 1) := by decide +kernel
theorem dX5_firstWrong_58 : decode cX5_firstWrong 58 = .ok (.getfield 41, 3) := by decide +kernel
theorem dX5_firstWrong_61 : decode cX5_firstWrong 61 = .ok (.iload_n 3, 1) := by decide +kernel
theorem dX5_firstWrong_62 : decode cX5_firstWrong 62 = .ok (.iaload, 1) := by decide +kernel
theorem dX5_firstWrong_63 : decode cX5_firstWrong 63 = .ok (.invokevirtual 241, 3) := by decide +kernel
theorem dX5_firstWrong_66 : decode cX5_firstWrong 66 = .ok (.iinc 3 1, 3) := by decide +kernel
theorem dX5_firstWrong_69 : decode cX5_firstWrong 69 = .ok (.goto (-56), 3) := by decide +kernel
theorem dX5_firstWrong_72 : decode cX5_firstWrong 72 = .ok (.bipush (-9), 2) := by decide +kernel
theorem dX5_firstWrong_74 : decode cX5_firstWrong 74 = .ok (.ireturn, 1) := by decide +kernel
theorem dX5_firstUp_0 : decode cX5_firstUp 0 = .ok (.aload_n 0, 1) := by decide +kernel
theorem dX5_firstUp_1 : decode cX5_firstUp 1 = .ok (.getfield 34, 3) := by decide +kernel
theorem dX5_firstUp_4 : decode cX5_firstUp 4 = .ok (.iconst 0, 1) := by decide +kernel
theorem dX5_firstUp_5 : decode cX5_firstUp 5 = .ok (.aaload, 1) := by decide +kernel
theorem dX5_firstUp_6 : decode cX5_firstUp 6 = .ok (.astore_n 2, 1) := by decide +kernel
theorem dX5_firstUp_7 : decode cX5_firstUp 7 = .ok (.aload_n 2, 1) := by decide +kernel
theorem dX5_firstUp_8 : decode cX5_firstUp 8 = .ok (.invokevirtual 149, 3) := by decide +kernel
theorem dX5_firstUp_11 : decode cX5_firstUp 11 = .ok (.iconst 0, 1) := by decide +kernel
theorem dX5_firstUp_12 : decode cX5_firstUp 12 = .ok (.istore_n 3, 1) := by decide +kernel
theorem dX5_firstUp_13 : decode cX5_firstUp 13 = .ok (.iload_n 3, 1) := by decide +kernel
theorem dX5_firstUp_14 : decode cX5_firstUp 14 = .ok (.iload_n 1, 1) := by decide +kernel
theorem dX5_firstUp_15 : decode cX5_firstUp 15 = .ok (.if_icmp .ge 34, 3) := by decide +kernel
theorem dX5_firstUp_18 : decode cX5_firstUp 18 = .ok (.iload_n 3, 1) := by decide +kernel
theorem dX5_firstUp_19 : decode cX5_firstUp 19 = .ok (.bipush 30, 2) := by decide +kernel
theorem dX5_firstUp_21 : decode cX5_firstUp 21 = .ok (.if_icmp .ge 28, 3) := by decide +kernel
theorem dX5_firstUp_24 : decode cX5_firstUp 24 = .ok (.aload_n 2, 1) := by decide +kernel
theorem dX5_firstUp_25 : decode cX5_firstUp 25 = .ok (.aload_n 0, 1) := by decide +kernel
theorem dX5_firstUp_26 : decode cX5_firstUp 26 = .ok (.getfield 41, 3) := by decide +kernel
theorem dX5_firstUp_29 : decode cX5_firstUp 29 = .ok (.iload_n 3, 1) := by decide +kernel
theorem dX5_firstUp_30 : decode cX5_firstUp 30 = .ok (.iaload, 1) := by decide +kernel
theorem dX5_firstUp_31 : decode cX5_firstUp 31 = .ok (.invokevirtual 244, 3) := by decide +kernel
theorem dX5_firstUp_34 : decode cX5_firstUp 34 = .ok (.aload_n 2, 1) := by decide +kernel
theorem dX5_firstUp_35 : decode cX5_firstUp 35 = .ok (.getfield 122, 3) := by decide +kernel
theorem dX5_firstUp_38 : decode cX5_firstUp 38 = .ok (.ifCond .eq 5, 3) := by decide +kernel
theorem dX5_firstUp_41 : decode cX5_firstUp 41 = .ok (.iload_n 3, 1) := by decide +kernel
theorem dX5_firstUp_42 : decode cX5_firstUp 42 = .ok (.ireturn, 1) := by decide +kernel
theorem dX5_firstUp_43 : decode cX5_firstUp 43 = .ok (.iinc 3 1, 3) := by decide +kernel
theorem dX5_firstUp_46 : decode cX5_firstUp 46 = .ok (.goto (-33), 3) := by decide +kernel
theorem dX5_firstUp_49 : decode cX5_firstUp 49 = .ok (.bipush (-9), 2) := by decide +kernel
theorem dX5_firstUp_51 : decode cX5_firstUp 51 = .ok (.ireturn, 1) := by decide +kernel
theorem dX5_fewestTries_0 : decode cX5_fewestTries 0 = .ok (.aload_n 0, 1) := by decide +kernel
theorem dX5_fewestTries_1 : decode cX5_fewestTries 1 = .ok (.getfield 34, 3) := by decide +kernel
theorem dX5_fewestTries_4 : decode cX5_fewestTries 4 = .ok (.iconst 0, 1) := by decide +kernel
theorem dX5_fewestTries_5 : decode cX5_fewestTries 5 = .ok (.aaload, 1) := by decide +kernel
theorem dX5_fewestTries_6 : decode cX5_fewestTries 6 = .ok (.invokevirtual 149, 3) := by decide +kernel
theorem dX5_fewestTries_9 : decode cX5_fewestTries 9 = .ok (.iconst 1, 1) := by decide +kernel
theorem dX5_fewestTries_10 : decode cX5_fewestTries 10 = .ok (.istore_n 2, 1) := by decide +kernel
theorem dX5_fewestTries_11 : decode cX5_fewestTries 11 = .ok (.iload_n 2, 1) := by decide +kernel
theorem dX5_fewestTries_12 : decode cX5_fewestTries 12 = .ok (.bipush 6, 2) := by decide +kernel
theorem dX5_fewestTries_14 : decode cX5_fewestTries 14 = .ok (.if_icmp .gt 28, 3) := by decide +kernel
theorem dX5_fewestTries_17 : decode cX5_fewestTries 17 = .ok (.aload_n 0, 1) := by decide +kernel
theorem dX5_fewestTries_18 : decode cX5_fewestTries 18 = .ok (.getfield 34, 3) := by decide +kernel
theorem dX5_fewestTries_21 : decode cX5_fewestTries 21 = .ok (.aload_n 0, 1) := by decide +kernel
theorem dX5_fewestTries_22 : decode cX5_fewestTries 22 = .ok (.getfield 45, 3) := by decide +kernel
theorem dX5_fewestTries_25 : decode cX5_fewestTries 25 = .ok (.iload_n 1, 1) := by decide +kernel
theorem dX5_fewestTries_26 : decode cX5_fewestTries 26 = .ok (.iconst 0, 1) := by decide +kernel
theorem dX5_fewestTries_27 : decode cX5_fewestTries 27 = .ok (.iload_n 2, 1) := by decide +kernel
theorem dX5_fewestTries_28 : decode cX5_fewestTries 28 = .ok (.invokestatic 247, 3) := by decide +kernel
theorem dX5_fewestTries_31 : decode cX5_fewestTries 31 = .ok (.ifCond .eq 5, 3) := by decide +kernel
theorem dX5_fewestTries_34 : decode cX5_fewestTries 34 = .ok (.iload_n 2, 1) := by decide +kernel
theorem dX5_fewestTries_35 : decode cX5_fewestTries 35 = .ok (.ireturn, 1) := by decide +kernel
theorem dX5_fewestTries_36 : decode cX5_fewestTries 36 = .ok (.iinc 2 1, 3) := by decide +kernel
theorem dX5_fewestTries_39 : decode cX5_fewestTries 39 = .ok (.goto (-28), 3) := by decide +kernel
theorem dX5_fewestTries_42 : decode cX5_fewestTries 42 = .ok (.bipush (-9), 2) := by decide +kernel
theorem dX5_fewestTries_44 : decode cX5_fewestTries 44 = .ok (.ireturn, 1) := by decide +kernel
theorem dX5_findRow_0 : decode cX5_findRow 0 = .ok (.iload_n 3, 1) := by decide +kernel
theorem dX5_findRow_1 : decode cX5_findRow 1 = .ok (.iload 4, 2) := by decide +kernel
theorem dX5_findRow_3 : decode cX5_findRow 3 = .ok (.if_icmp .ge 17, 3) := by decide +kernel
theorem dX5_findRow_6 : decode cX5_findRow 6 = .ok (.iload_n 3, 1) := by decide +kernel
theorem dX5_findRow_7 : decode cX5_findRow 7 = .ok (.aload_n 1, 1) := by decide +kernel
theorem dX5_findRow_8 : decode cX5_findRow 8 = .ok (.arraylength, 1) := by decide +kernel
theorem dX5_findRow_9 : decode cX5_findRow 9 = .ok (.if_icmp .ge 11, 3) := by decide +kernel
theorem dX5_findRow_12 : decode cX5_findRow 12 = .ok (.iload_n 3, 1) := by decide +kernel
theorem dX5_findRow_13 : decode cX5_findRow 13 = .ok (.iconst 1, 1) := by decide +kernel
theorem dX5_findRow_14 : decode cX5_findRow 14 = .ok (.iadd, 1) := by decide +kernel
theorem dX5_findRow_15 : decode cX5_findRow 15 = .ok (.aload_n 0, 1) := by decide +kernel
theorem dX5_findRow_16 : decode cX5_findRow 16 = .ok (.arraylength, 1) := by decide +kernel
theorem dX5_findRow_17 : decode cX5_findRow 17 = .ok (.if_icmp .lt 5, 3) := by decide +kernel
theorem dX5_findRow_20 : decode cX5_findRow 20 = .ok (.iconst 0, 1) := by decide +kernel
theorem dX5_findRow_21 : decode cX5_findRow 21 = .ok (.ireturn, 1) := by decide +kernel
theorem dX5_findRow_22 : decode cX5_findRow 22 = .ok (.aload_n 0, 1) := by decide +kernel
theorem dX5_findRow_23 : decode cX5_findRow 23 = .ok (.iload_n 3, 1) := by decide +kernel
theorem dX5_findRow_24 : decode cX5_findRow 24 = .ok (.aaload, 1) := by decide +kernel
theorem dX5_findRow_25 : decode cX5_findRow 25 = .ok (.astore 5, 2) := by decide +kernel
theorem dX5_findRow_27 : decode cX5_findRow 27 = .ok (.aload_n 0, 1) := by decide +kernel
theorem dX5_findRow_28 : decode cX5_findRow 28 = .ok (.iload_n 3, 1) := by decide +kernel
theorem dX5_findRow_29 : decode cX5_findRow 29 = .ok (.iconst 1, 1) := by decide +kernel
theorem dX5_findRow_30 : decode cX5_findRow 30 = .ok (.iadd, 1) := by decide +kernel
theorem dX5_findRow_31 : decode cX5_findRow 31 = .ok (.aaload, 1) := by decide +kernel
theorem dX5_findRow_32 : decode cX5_findRow 32 = .ok (.astore 6, 2) := by decide +kernel
theorem dX5_findRow_34 : decode cX5_findRow 34 = .ok (.iload_n 3, 1) := by decide +kernel
theorem dX5_findRow_35 : decode cX5_findRow 35 = .ok (.iload 4, 2) := by decide +kernel
theorem dX5_findRow_37 : decode cX5_findRow 37 = .ok (.iconst 1, 1) := by decide +kernel
theorem dX5_findRow_38 : decode cX5_findRow 38 = .ok (.isub, 1) := by decide +kernel
theorem dX5_findRow_39 : decode cX5_findRow 39 = .ok (.if_icmp .ne 7, 3) := by decide +kernel
theorem dX5_findRow_42 : decode cX5_findRow 42 = .ok (.iconst 1, 1) := by decide +kernel
theorem dX5_findRow_43 : decode cX5_findRow 43 = .ok (.goto 4, 3) := by decide +kernel
theorem dX5_findRow_46 : decode cX5_findRow 46 = .ok (.iconst 0, 1) := by decide +kernel
theorem dX5_findRow_47 : decode cX5_findRow 47 = .ok (.istore 7, 2) := by decide +kernel
theorem dX5_findRow_49 : decode cX5_findRow 49 = .ok (.iload 7, 2) := by decide +kernel
theorem dX5_findRow_51 : decode cX5_findRow 51 = .ok (.ifCond .eq 7, 3) := by decide +kernel
theorem dX5_findRow_54 : decode cX5_findRow 54 = .ok (.iload_n 2, 1) := by decide +kernel
theorem dX5_findRow_55 : decode cX5_findRow 55 = .ok (.goto 4, 3) := by decide +kernel
theorem dX5_findRow_58 : decode cX5_findRow 58 = .ok (.iconst 0, 1) := by decide +kernel
theorem dX5_findRow_59 : decode cX5_findRow 59 = .ok (.istore 8, 2) := by decide +kernel
theorem dX5_findRow_61 : decode cX5_findRow 61 = .ok (.iload 7, 2) := by decide +kernel
theorem dX5_findRow_63 : decode cX5_findRow 63 = .ok (.ifCond .eq 9, 3) := by decide +kernel
theorem dX5_findRow_66 : decode cX5_findRow 66 = .ok (.iload_n 2, 1) := by decide +kernel
theorem dX5_findRow_67 : decode cX5_findRow 67 = .ok (.iconst 1, 1) := by decide +kernel
theorem dX5_findRow_68 : decode cX5_findRow 68 = .ok (.iadd, 1) := by decide +kernel
theorem dX5_findRow_69 : decode cX5_findRow 69 = .ok (.goto 11, 3) := by decide +kernel
theorem dX5_findRow_72 : decode cX5_findRow 72 = .ok (.aload 5, 2) := by decide +kernel
theorem dX5_findRow_74 : decode cX5_findRow 74 = .ok (.getfield 251, 3) := by decide +kernel
theorem dX5_findRow_77 : decode cX5_findRow 77 = .ok (.getfield 80, 3) := by decide +kernel
theorem dX5_findRow_80 : decode cX5_findRow 80 = .ok (.istore 9, 2) := by decide +kernel
theorem dX5_findRow_82 : decode cX5_findRow 82 = .ok (.iload 8, 2) := by decide +kernel
theorem dX5_findRow_84 : decode cX5_findRow 84 = .ok (.istore 10, 2) := by decide +kernel
theorem dX5_findRow_86 : decode cX5_findRow 86 = .ok (.iload 10, 2) := by decide +kernel
theorem dX5_findRow_88 : decode cX5_findRow 88 = .ok (.iload 9, 2) := by decide +kernel
theorem dX5_findRow_90 : decode cX5_findRow 90 = .ok (.if_icmp .ge 71, 3) := by decide +kernel
theorem dX5_findRow_93 : decode cX5_findRow 93 = .ok (.aload 5, 2) := by decide +kernel
theorem dX5_findRow_95 : decode cX5_findRow 95 = .ok (.iload 10, 2) := by decide +kernel
theorem dX5_findRow_97 : decode cX5_findRow 97 = .ok (.invokevirtual 238, 3) := by decide +kernel
theorem dX5_findRow_100 : decode cX5_findRow 100 = .ok (.ifCond .ne 55, 3) := by decide +kernel
theorem dX5_findRow_103 : decode cX5_findRow 103 = .ok (.aload 6, 2) := by decide +kernel
theorem dX5_findRow_105 : decode cX5_findRow 105 = .ok (.aload 5, 2) := by decide +kernel
theorem dX5_findRow_107 : decode cX5_findRow 107 = .ok (.invokevirtual 252, 3) := by decide +kernel
theorem dX5_findRow_110 : decode cX5_findRow 110 = .ok (.aload 6, 2) := by decide +kernel
theorem dX5_findRow_112 : decode cX5_findRow 112 = .ok (.iload 10, 2) := by decide +kernel
theorem dX5_findRow_114 : decode cX5_findRow 114 = .ok (.invokevirtual 241, 3) := by decide +kernel
theorem dX5_findRow_117 : decode cX5_findRow 117 = .ok (.aload_n 1, 1) := by decide +kernel
theorem dX5_findRow_118 : decode cX5_findRow 118 = .ok (.iload_n 3, 1) := by decide +kernel
theorem dX5_findRow_119 : decode cX5_findRow 119 = .ok (.iload 10, 2) := by decide +kernel
theorem dX5_findRow_121 : decode cX5_findRow 121 = .ok (.iastore, 1) := by decide +kernel
theorem dX5_findRow_122 : decode cX5_findRow 122 = .ok (.iload 7, 2) := by decide +kernel
theorem dX5_findRow_124 : decode cX5_findRow 124 = .ok (.ifCond .eq 15, 3) := by decide +kernel
theorem dX5_findRow_127 : decode cX5_findRow 127 = .ok (.aload 6, 2) := by decide +kernel
theorem dX5_findRow_129 : decode cX5_findRow 129 = .ok (.iload_n 2, 1) := by decide +kernel
theorem dX5_findRow_130 : decode cX5_findRow 130 = .ok (.invokevirtual 238, 3) := by decide +kernel
theorem dX5_findRow_133 : decode cX5_findRow 133 = .ok (.ifCond .eq 22, 3) := by decide +kernel
theorem dX5_findRow_136 : decode cX5_findRow 136 = .ok (.goto 17, 3) := by decide +kernel
theorem dX5_findRow_139 : decode cX5_findRow 139 = .ok (.aload_n 0, 1) := by decide +kernel
theorem dX5_findRow_140 : decode cX5_findRow 140 = .ok (.aload_n 1, 1) := by decide +kernel
theorem dX5_findRow_141 : decode cX5_findRow 141 = .ok (.iload_n 2, 1) := by decide +kernel
theorem dX5_findRow_142 : decode cX5_findRow 142 = .ok (.iload_n 3, 1) := by decide +kernel
theorem dX5_findRow_143 : decode cX5_findRow 143 = .ok (.iconst 1, 1) := by decide +kernel
theorem dX5_findRow_144 : decode cX5_findRow 144 = .ok (.iadd, 1) := by decide +kernel
theorem dX5_findRow_145 : decode cX5_findRow 145 = .ok (.iload 4, 2) := by decide +kernel
theorem dX5_findRow_147 : decode cX5_findRow 147 = .ok (.invokestatic 247, 3) := by decide +kernel
theorem dX5_findRow_150 : decode cX5_findRow 150 = .ok (.ifCond .eq 5, 3) := by decide +kernel
theorem dX5_findRow_153 : decode cX5_findRow 153 = .ok (.iconst 1, 1) := by decide +kernel
theorem dX5_findRow_154 : decode cX5_findRow 154 = .ok (.ireturn, 1) := by decide +kernel
theorem dX5_findRow_155 : decode cX5_findRow 155 = .ok (.iinc 10 1, 3) := by decide +kernel
theorem dX5_findRow_158 : decode cX5_findRow 158 = .ok (.goto (-72), 3) := by decide +kernel
theorem dX5_findRow_161 : decode cX5_findRow 161 = .ok (.iconst 0, 1) := by decide +kernel
theorem dX5_findRow_162 : decode cX5_findRow 162 = .ok (.ireturn, 1) := by decide +kernel
theorem dX5_bestPlay_0 : decode cX5_bestPlay 0 = .ok (.iload_n 3, 1) := by decide +kernel
theorem dX5_bestPlay_1 : decode cX5_bestPlay 1 = .ok (.iload 4, 2) := by decide +kernel
theorem dX5_bestPlay_3 : decode cX5_bestPlay 3 = .ok (.if_icmp .ge 11, 3) := by decide +kernel
theorem dX5_bestPlay_6 : decode cX5_bestPlay 6 = .ok (.iload_n 3, 1) := by decide +kernel
theorem dX5_bestPlay_7 : decode cX5_bestPlay 7 = .ok (.iconst 1, 1) := by decide +kernel
theorem dX5_bestPlay_8 : decode cX5_bestPlay 8 = .ok (.iadd, 1) := by decide +kernel
theorem dX5_bestPlay_9 : decode cX5_bestPlay 9 = .ok (.aload_n 0, 1) := by decide +kernel
theorem dX5_bestPlay_10 : decode cX5_bestPlay 10 = .ok (.arraylength, 1) := by decide +kernel
theorem dX5_bestPlay_11 : decode cX5_bestPlay 11 = .ok (.if_icmp .lt 5, 3) := by decide +kernel
theorem dX5_bestPlay_14 : decode cX5_bestPlay 14 = .ok (.iconst 0, 1) := by decide +kernel
theorem dX5_bestPlay_15 : decode cX5_bestPlay 15 = .ok (.ireturn, 1) := by decide +kernel
theorem dX5_bestPlay_16 : decode cX5_bestPlay 16 = .ok (.iload_n 3, 1) := by decide +kernel
theorem dX5_bestPlay_17 : decode cX5_bestPlay 17 = .ok (.iconst 2, 1) := by decide +kernel
theorem dX5_bestPlay_18 : decode cX5_bestPlay 18 = .ok (.irem, 1) := by decide +kernel
theorem dX5_bestPlay_19 : decode cX5_bestPlay 19 = .ok (.ifCond .ne 7, 3) := by decide +kernel
theorem dX5_bestPlay_22 : decode cX5_bestPlay 22 = .ok (.iconst 1, 1) := by decide +kernel
theorem dX5_bestPlay_23 : decode cX5_bestPlay 23 = .ok (.goto 4, 3) := by decide +kernel
theorem dX5_bestPlay_26 : decode cX5_bestPlay 26 = .ok (.iconst 0, 1) := by decide +kernel
theorem dX5_bestPlay_27 : decode cX5_bestPlay 27 = .ok (.istore 5, 2) := by decide +kernel
theorem dX5_bestPlay_29 : decode cX5_bestPlay 29 = .ok (.iload 5, 2) := by decide +kernel
theorem dX5_bestPlay_31 : decode cX5_bestPlay 31 = .ok (.ifCond .eq 7, 3) := by decide +kernel
theorem dX5_bestPlay_34 : decode cX5_bestPlay 34 = .ok (.iload_n 1, 1) := by decide +kernel
theorem dX5_bestPlay_35 : decode cX5_bestPlay 35 = .ok (.goto 4, 3) := by decide +kernel
theorem dX5_bestPlay_38 : decode cX5_bestPlay 38 = .ok (.iload_n 2, 1) := by decide +kernel
theorem dX5_bestPlay_39 : decode cX5_bestPlay 39 = .ok (.istore 6, 2) := by decide +kernel
theorem dX5_bestPlay_41 : decode cX5_bestPlay 41 = .ok (.iload 5, 2) := by decide +kernel
theorem dX5_bestPlay_43 : decode cX5_bestPlay 43 = .ok (.ifCond .eq 7, 3) := by decide +kernel
theorem dX5_bestPlay_46 : decode cX5_bestPlay 46 = .ok (.iconst 1, 1) := by decide +kernel
theorem dX5_bestPlay_47 : decode cX5_bestPlay 47 = .ok (.goto 4, 3) := by decide +kernel
theorem dX5_bestPlay_50 : decode cX5_bestPlay 50 = .ok (.iconst (-1), 1) := by decide +kernel
theorem dX5_bestPlay_51 : decode cX5_bestPlay 51 = .ok (.istore 7, 2) := by decide +kernel
theorem dX5_bestPlay_53 : decode cX5_bestPlay 53 = .ok (.aload_n 0, 1) := by decide +kernel
theorem dX5_bestPlay_54 : decode cX5_bestPlay 54 = .ok (.iload_n 3, 1) := by decide +kernel
theorem dX5_bestPlay_55 : decode cX5_bestPlay 55 = .ok (.iconst 1, 1) := by decide +kernel
theorem dX5_bestPlay_56 : decode cX5_bestPlay 56 = .ok (.iadd, 1) := by decide +kernel
theorem dX5_bestPlay_57 : decode cX5_bestPlay 57 = .ok (.aaload, 1) := by decide +kernel
theorem dX5_bestPlay_58 : decode cX5_bestPlay 58 = .ok (.astore 8, 2) := by decide +kernel
theorem dX5_bestPlay_60 : decode cX5_bestPlay 60 = .ok (.aload 8, 2) := by decide +kernel
theorem dX5_bestPlay_62 : decode cX5_bestPlay 62 = .ok (.aload_n 0, 1) := by decide +kernel
theorem dX5_bestPlay_63 : decode cX5_bestPlay 63 = .ok (.iload_n 3, 1) := by decide +kernel
theorem dX5_bestPlay_64 : decode cX5_bestPlay 64 = .ok (.aaload, 1) := by decide +kernel
theorem dX5_bestPlay_65 : decode cX5_bestPlay 65 = .ok (.invokevirtual 252, 3) := by decide +kernel
theorem dX5_bestPlay_68 : decode cX5_bestPlay 68 = .ok (.aload 8, 2) := by decide +kernel
theorem dX5_bestPlay_70 : decode cX5_bestPlay 70 = .ok (.iload 6, 2) := by decide +kernel
theorem dX5_bestPlay_72 : decode cX5_bestPlay 72 = .ok (.invokevirtual 241, 3) := by decide +kernel
theorem dX5_bestPlay_75 : decode cX5_bestPlay 75 = .ok (.aload 8, 2) := by decide +kernel
theorem dX5_bestPlay_77 : decode cX5_bestPlay 77 = .ok (.iload 6, 2) := by decide +kernel
theorem dX5_bestPlay_79 : decode cX5_bestPlay 79 = .ok (.invokevirtual 238, 3) := by decide +kernel
theorem dX5_bestPlay_82 : decode cX5_bestPlay 82 = .ok (.ifCond .eq 8, 3) := by decide +kernel
theorem dX5_bestPlay_85 : decode cX5_bestPlay 85 = .ok (.iload 7, 2) := by decide +kernel
theorem dX5_bestPlay_87 : decode cX5_bestPlay 87 = .ok (.goto 14, 3) := by decide +kernel
theorem dX5_bestPlay_90 : decode cX5_bestPlay 90 = .ok (.aload_n 0, 1) := by decide +kernel
theorem dX5_bestPlay_91 : decode cX5_bestPlay 91 = .ok (.iload_n 1, 1) := by decide +kernel
theorem dX5_bestPlay_92 : decode cX5_bestPlay 92 = .ok (.iload_n 2, 1) := by decide +kernel
theorem dX5_bestPlay_93 : decode cX5_bestPlay 93 = .ok (.iload_n 3, 1) := by decide +kernel
theorem dX5_bestPlay_94 : decode cX5_bestPlay 94 = .ok (.iconst 1, 1) := by decide +kernel
theorem dX5_bestPlay_95 : decode cX5_bestPlay 95 = .ok (.iadd, 1) := by decide +kernel
theorem dX5_bestPlay_96 : decode cX5_bestPlay 96 = .ok (.iload 4, 2) := by decide +kernel
theorem dX5_bestPlay_98 : decode cX5_bestPlay 98 = .ok (.invokestatic 152, 3) := by decide +kernel
theorem dX5_bestPlay_101 : decode cX5_bestPlay 101 = .ok (.istore 9, 2) := by decide +kernel
theorem dX5_bestPlay_103 : decode cX5_bestPlay 103 = .ok (.iload 9, 2) := by decide +kernel
theorem dX5_bestPlay_105 : decode cX5_bestPlay 105 = .ok (.iload 7, 2) := by decide +kernel
theorem dX5_bestPlay_107 : decode cX5_bestPlay 107 = .ok (.if_icmp .ne 6, 3) := by decide +kernel
theorem dX5_bestPlay_110 : decode cX5_bestPlay 110 = .ok (.iload 7, 2) := by decide +kernel
theorem dX5_bestPlay_112 : decode cX5_bestPlay 112 = .ok (.ireturn, 1) := by decide +kernel
theorem dX5_bestPlay_113 : decode cX5_bestPlay 113 = .ok (.aload 8, 2) := by decide +kernel
theorem dX5_bestPlay_115 : decode cX5_bestPlay 115 = .ok (.aload_n 0, 1) := by decide +kernel
theorem dX5_bestPlay_116 : decode cX5_bestPlay 116 = .ok (.iload_n 3, 1) := by decide +kernel
theorem dX5_bestPlay_117 : decode cX5_bestPlay 117 = .ok (.aaload, 1) := by decide +kernel
theorem dX5_bestPlay_118 : decode cX5_bestPlay 118 = .ok (.invokevirtual 252, 3) := by decide +kernel
theorem dX5_bestPlay_121 : decode cX5_bestPlay 121 = .ok (.aload_n 0, 1) := by decide +kernel
theorem dX5_bestPlay_122 : decode cX5_bestPlay 122 = .ok (.iload_n 1, 1) := by decide +kernel
theorem dX5_bestPlay_123 : decode cX5_bestPlay 123 = .ok (.iload_n 2, 1) := by decide +kernel
theorem dX5_bestPlay_124 : decode cX5_bestPlay 124 = .ok (.iload_n 3, 1) := by decide +kernel
theorem dX5_bestPlay_125 : decode cX5_bestPlay 125 = .ok (.iconst 1, 1) := by decide +kernel
theorem dX5_bestPlay_126 : decode cX5_bestPlay 126 = .ok (.iadd, 1) := by decide +kernel
theorem dX5_bestPlay_127 : decode cX5_bestPlay 127 = .ok (.iload 4, 2) := by decide +kernel
theorem dX5_bestPlay_129 : decode cX5_bestPlay 129 = .ok (.invokestatic 152, 3) := by decide +kernel
theorem dX5_bestPlay_132 : decode cX5_bestPlay 132 = .ok (.istore 10, 2) := by decide +kernel
theorem dX5_bestPlay_134 : decode cX5_bestPlay 134 = .ok (.iload 5, 2) := by decide +kernel
theorem dX5_bestPlay_136 : decode cX5_bestPlay 136 = .ok (.ifCond .eq 13, 3) := by decide +kernel
theorem dX5_bestPlay_139 : decode cX5_bestPlay 139 = .ok (.iload 9, 2) := by decide +kernel
theorem dX5_bestPlay_141 : decode cX5_bestPlay 141 = .ok (.iload 10, 2) := by decide +kernel
theorem dX5_bestPlay_143 : decode cX5_bestPlay 143 = .ok (.invokestatic 256, 3) := by decide +kernel
theorem dX5_bestPlay_146 : decode cX5_bestPlay 146 = .ok (.goto 10, 3) := by decide +kernel
theorem dX5_bestPlay_149 : decode cX5_bestPlay 149 = .ok (.iload 9, 2) := by decide +kernel
theorem dX5_bestPlay_151 : decode cX5_bestPlay 151 = .ok (.iload 10, 2) := by decide +kernel
theorem dX5_bestPlay_153 : decode cX5_bestPlay 153 = .ok (.invokestatic 189, 3) := by decide +kernel
theorem dX5_bestPlay_156 : decode cX5_bestPlay 156 = .ok (.ireturn, 1) := by decide +kernel
theorem dX5_heightsOfOthers_0 : decode cX5_heightsOfOthers 0 = .ok (.aload_n 0, 1) := by decide +kernel
theorem dX5_heightsOfOthers_1 : decode cX5_heightsOfOthers 1 = .ok (.getfield 34, 3) := by decide +kernel
theorem dX5_heightsOfOthers_4 : decode cX5_heightsOfOthers 4 = .ok (.iconst 0, 1) := by decide +kernel
theorem dX5_heightsOfOthers_5 : decode cX5_heightsOfOthers 5 = .ok (.aaload, 1) := by decide +kernel
theorem dX5_heightsOfOthers_6 : decode cX5_heightsOfOthers 6 = .ok (.astore_n 3, 1) := by decide +kernel
theorem dX5_heightsOfOthers_7 : decode cX5_heightsOfOthers 7 = .ok (.aload_n 3, 1) := by decide +kernel
theorem dX5_heightsOfOthers_8 : decode cX5_heightsOfOthers 8 = .ok (.invokevirtual 149, 3) := by decide +kernel
theorem dX5_heightsOfOthers_11 : decode cX5_heightsOfOthers 11 = .ok (.iconst 0, 1) := by decide +kernel
theorem dX5_heightsOfOthers_12 : decode cX5_heightsOfOthers 12 = .ok (.istore 4, 2) := by decide +kernel
theorem dX5_heightsOfOthers_14 : decode cX5_heightsOfOthers 14 = .ok (.iconst 0, 1) := by decide +kernel
theorem dX5_heightsOfOthers_15 : decode cX5_heightsOfOthers 15 = .ok (.istore 5, 2) := by decide +kernel
theorem dX5_heightsOfOthers_17 : decode cX5_heightsOfOthers 17 = .ok (.iload 5, 2) := by decide +kernel
theorem dX5_heightsOfOthers_19 : decode cX5_heightsOfOthers 19 = .ok (.aload_n 0, 1) := by decide +kernel
theorem dX5_heightsOfOthers_20 : decode cX5_heightsOfOthers 20 = .ok (.getfield 12, 3) := by decide +kernel
theorem dX5_heightsOfOthers_23 : decode cX5_heightsOfOthers 23 = .ok (.getfield 80, 3) := by decide +kernel
theorem dX5_heightsOfOthers_26 : decode cX5_heightsOfOthers 26 = .ok (.if_icmp .ge 42, 3) := by decide +kernel
theorem dX5_heightsOfOthers_29 : decode cX5_heightsOfOthers 29 = .ok (.iload 5, 2) := by decide +kernel
theorem dX5_heightsOfOthers_31 : decode cX5_heightsOfOthers 31 = .ok (.iload_n 1, 1) := by decide +kernel
theorem dX5_heightsOfOthers_32 : decode cX5_heightsOfOthers 32 = .ok (.if_icmp .ne 7, 3) := by decide +kernel
theorem dX5_heightsOfOthers_35 : decode cX5_heightsOfOthers 35 = .ok (.iload_n 2, 1) := by decide +kernel
theorem dX5_heightsOfOthers_36 : decode cX5_heightsOfOthers 36 = .ok (.ifCond .eq 9, 3) := by decide +kernel
theorem dX5_heightsOfOthers_39 : decode cX5_heightsOfOthers 39 = .ok (.aload_n 3, 1) := by decide +kernel
theorem dX5_heightsOfOthers_40 : decode cX5_heightsOfOthers 40 = .ok (.iload 5, 2) := by decide +kernel
theorem dX5_heightsOfOthers_42 : decode cX5_heightsOfOthers 42 = .ok (.invokevirtual 241, 3) := by decide +kernel
theorem dX5_heightsOfOthers_45 : decode cX5_heightsOfOthers 45 = .ok (.iload 5, 2) := by decide +kernel
theorem dX5_heightsOfOthers_47 : decode cX5_heightsOfOthers 47 = .ok (.iload_n 1, 1) := by decide +kernel
theorem dX5_heightsOfOthers_48 : decode cX5_heightsOfOthers 48 = .ok (.if_icmp .eq 14, 3) := by decide +kernel
theorem dX5_heightsOfOthers_51 : decode cX5_heightsOfOthers 51 = .ok (.iload 4, 2) := by decide +kernel
theorem dX5_heightsOfOthers_53 : decode cX5_heightsOfOthers 53 = .ok (.aload_n 3, 1) := by decide +kernel
theorem dX5_heightsOfOthers_54 : decode cX5_heightsOfOthers 54 = .ok (.iload 5, 2) := by decide +kernel
theorem dX5_heightsOfOthers_56 : decode cX5_heightsOfOthers 56 = .ok (.invokevirtual 131, 3) := by decide +kernel
theorem dX5_heightsOfOthers_59 : decode cX5_heightsOfOthers 59 = .ok (.iadd, 1) := by decide +kernel
theorem dX5_heightsOfOthers_60 : decode cX5_heightsOfOthers 60 = .ok (.istore 4, 2) := by decide +kernel
theorem dX5_heightsOfOthers_62 : decode cX5_heightsOfOthers 62 = .ok (.iinc 5 1, 3) := by decide +kernel
theorem dX5_heightsOfOthers_65 : decode cX5_heightsOfOthers 65 = .ok (.goto (-48), 3) := by decide +kernel
theorem dX5_heightsOfOthers_68 : decode cX5_heightsOfOthers 68 = .ok (.iload 4, 2) := by decide +kernel
theorem dX5_heightsOfOthers_70 : decode cX5_heightsOfOthers 70 = .ok (.ireturn, 1) := by decide +kernel
theorem dX5_readSeen_0 : decode cX5_readSeen 0 = .ok (.iload_n 1, 1) := by decide +kernel
theorem dX5_readSeen_1 : decode cX5_readSeen 1 = .ok (.ifCond .ne 10, 3) := by decide +kernel
theorem dX5_readSeen_4 : decode cX5_readSeen 4 = .ok (.aload_n 0, 1) := by decide +kernel
theorem dX5_readSeen_5 : decode cX5_readSeen 5 = .ok (.iconst 0, 1) := by decide +kernel
theorem dX5_readSeen_6 : decode cX5_readSeen 6 = .ok (.putfield 48, 3) := by decide +kernel
theorem dX5_readSeen_9 : decode cX5_readSeen 9 = .ok (.iconst (-1), 1) := by decide +kernel
theorem dX5_readSeen_10 : decode cX5_readSeen 10 = .ok (.ireturn, 1) := by decide +kernel
theorem dX5_readSeen_11 : decode cX5_readSeen 11 = .ok (.aload_n 0, 1) := by decide +kernel
theorem dX5_readSeen_12 : decode cX5_readSeen 12 = .ok (.iload_n 2, 1) := by decide +kernel
theorem dX5_readSeen_13 : decode cX5_readSeen 13 = .ok (.iload_n 3, 1) := by decide +kernel
theorem dX5_readSeen_14 : decode cX5_readSeen 14 = .ok (.iload 4, 2) := by decide +kernel
theorem dX5_readSeen_16 : decode cX5_readSeen 16 = .ok (.iload 5, 2) := by decide +kernel
theorem dX5_readSeen_18 : decode cX5_readSeen 18 = .ok (.iload 6, 2) := by decide +kernel
theorem dX5_readSeen_20 : decode cX5_readSeen 20 = .ok (.ifCond .eq 18, 3) := by decide +kernel
theorem dX5_readSeen_23 : decode cX5_readSeen 23 = .ok (.iload 5, 2) := by decide +kernel
theorem dX5_readSeen_25 : decode cX5_readSeen 25 = .ok (.iconst 0, 1) := by decide +kernel
theorem dX5_readSeen_26 : decode cX5_readSeen 26 = .ok (.bipush 30, 2) := by decide +kernel
theorem dX5_readSeen_28 : decode cX5_readSeen 28 = .ok (.invokestatic 86, 3) := by decide +kernel
theorem dX5_readSeen_31 : decode cX5_readSeen 31 = .ok (.ifCond .eq 7, 3) := by decide +kernel
theorem dX5_readSeen_34 : decode cX5_readSeen 34 = .ok (.iconst 1, 1) := by decide +kernel
theorem dX5_readSeen_35 : decode cX5_readSeen 35 = .ok (.goto 4, 3) := by decide +kernel
theorem dX5_readSeen_38 : decode cX5_readSeen 38 = .ok (.iconst 0, 1) := by decide +kernel
theorem dX5_readSeen_39 : decode cX5_readSeen 39 = .ok (.invokevirtual 115, 3) := by decide +kernel
theorem dX5_readSeen_42 : decode cX5_readSeen 42 = .ok (.ireturn, 1) := by decide +kernel
theorem dX5_isSeenWith_0 : decode cX5_isSeenWith 0 = .ok (.aload_n 0, 1) := by decide +kernel
theorem dX5_isSeenWith_1 : decode cX5_isSeenWith 1 = .ok (.getfield 12, 3) := by decide +kernel
theorem dX5_isSeenWith_4 : decode cX5_isSeenWith 4 = .ok (.iload_n 1, 1) := by decide +kernel
theorem dX5_isSeenWith_5 : decode cX5_isSeenWith 5 = .ok (.iload_n 2, 1) := by decide +kernel
theorem dX5_isSeenWith_6 : decode cX5_isSeenWith 6 = .ok (.iload_n 3, 1) := by decide +kernel
theorem dX5_isSeenWith_7 : decode cX5_isSeenWith 7 = .ok (.invokevirtual 108, 3) := by decide +kernel
theorem dX5_isSeenWith_10 : decode cX5_isSeenWith 10 = .ok (.pop, 1) := by decide +kernel
theorem dX5_isSeenWith_11 : decode cX5_isSeenWith 11 = .ok (.aload_n 0, 1) := by decide +kernel
theorem dX5_isSeenWith_12 : decode cX5_isSeenWith 12 = .ok (.iload 4, 2) := by decide +kernel
theorem dX5_isSeenWith_14 : decode cX5_isSeenWith 14 = .ok (.invokevirtual 119, 3) := by decide +kernel
theorem dX5_isSeenWith_17 : decode cX5_isSeenWith 17 = .ok (.bipush (-9), 2) := by decide +kernel
theorem dX5_isSeenWith_19 : decode cX5_isSeenWith 19 = .ok (.if_icmp .ne 23, 3) := by decide +kernel
theorem dX5_isSeenWith_22 : decode cX5_isSeenWith 22 = .ok (.aload_n 0, 1) := by decide +kernel
theorem dX5_isSeenWith_23 : decode cX5_isSeenWith 23 = .ok (.getfield 21, 3) := by decide +kernel
theorem dX5_isSeenWith_26 : decode cX5_isSeenWith 26 = .ok (.aload_n 0, 1) := by decide +kernel
theorem dX5_isSeenWith_27 : decode cX5_isSeenWith 27 = .ok (.getfield 34, 3) := by decide +kernel
theorem dX5_isSeenWith_30 : decode cX5_isSeenWith 30 = .ok (.iconst 0, 1) := by decide +kernel
theorem dX5_isSeenWith_31 : decode cX5_isSeenWith 31 = .ok (.aaload, 1) := by decide +kernel
theorem dX5_isSeenWith_32 : decode cX5_isSeenWith 32 = .ok (.invokevirtual 259, 3) := by decide +kernel
theorem dX5_isSeenWith_35 : decode cX5_isSeenWith 35 = .ok (.ifCond .eq 7, 3) := by decide +kernel
theorem dX5_isSeenWith_38 : decode cX5_isSeenWith 38 = .ok (.iconst 1, 1) := by decide +kernel
theorem dX5_isSeenWith_39 : decode cX5_isSeenWith 39 = .ok (.goto 4, 3) := by decide +kernel
theorem dX5_isSeenWith_42 : decode cX5_isSeenWith 42 = .ok (.iconst 0, 1) := by decide +kernel
theorem dX5_isSeenWith_43 : decode cX5_isSeenWith 43 = .ok (.ireturn, 1) := by decide +kernel
theorem dX5_setSeenWith_0 : decode cX5_setSeenWith 0 = .ok (.aload_n 0, 1) := by decide +kernel
theorem dX5_setSeenWith_1 : decode cX5_setSeenWith 1 = .ok (.getfield 12, 3) := by decide +kernel
theorem dX5_setSeenWith_4 : decode cX5_setSeenWith 4 = .ok (.iload_n 1, 1) := by decide +kernel
theorem dX5_setSeenWith_5 : decode cX5_setSeenWith 5 = .ok (.iload_n 2, 1) := by decide +kernel
theorem dX5_setSeenWith_6 : decode cX5_setSeenWith 6 = .ok (.iconst 0, 1) := by decide +kernel
theorem dX5_setSeenWith_7 : decode cX5_setSeenWith 7 = .ok (.invokevirtual 108, 3) := by decide +kernel
theorem dX5_setSeenWith_10 : decode cX5_setSeenWith 10 = .ok (.istore 5, 2) := by decide +kernel
theorem dX5_setSeenWith_12 : decode cX5_setSeenWith 12 = .ok (.iconst 0, 1) := by decide +kernel
theorem dX5_setSeenWith_13 : decode cX5_setSeenWith 13 = .ok (.istore 6, 2) := by decide +kernel
theorem dX5_setSeenWith_15 : decode cX5_setSeenWith 15 = .ok (.iconst 0, 1) := by decide +kernel
theorem dX5_setSeenWith_16 : decode cX5_setSeenWith 16 = .ok (.istore 7, 2) := by decide +kernel
theorem dX5_setSeenWith_18 : decode cX5_setSeenWith 18 = .ok (.iload 7, 2) := by decide +kernel
theorem dX5_setSeenWith_20 : decode cX5_setSeenWith 20 = .ok (.iload_n 3, 1) := by decide +kernel
theorem dX5_setSeenWith_21 : decode cX5_setSeenWith 21 = .ok (.if_icmp .gt 31, 3) := by decide +kernel
theorem dX5_setSeenWith_24 : decode cX5_setSeenWith 24 = .ok (.aload_n 0, 1) := by decide +kernel
theorem dX5_setSeenWith_25 : decode cX5_setSeenWith 25 = .ok (.iload_n 1, 1) := by decide +kernel
theorem dX5_setSeenWith_26 : decode cX5_setSeenWith 26 = .ok (.iload_n 2, 1) := by decide +kernel
theorem dX5_setSeenWith_27 : decode cX5_setSeenWith 27 = .ok (.iload 7, 2) := by decide +kernel
theorem dX5_setSeenWith_29 : decode cX5_setSeenWith 29 = .ok (.iload 4, 2) := by decide +kernel
theorem dX5_setSeenWith_31 : decode cX5_setSeenWith 31 = .ok (.invokevirtual 172, 3) := by decide +kernel
theorem dX5_setSeenWith_34 : decode cX5_setSeenWith 34 = .ok (.ifCond .eq 12, 3) := by decide +kernel
theorem dX5_setSeenWith_37 : decode cX5_setSeenWith 37 = .ok (.iload 6, 2) := by decide +kernel
theorem dX5_setSeenWith_39 : decode cX5_setSeenWith 39 = .ok (.iconst 1, 1) := by decide +kernel
theorem dX5_setSeenWith_40 : decode cX5_setSeenWith 40 = .ok (.iload 7, 2) := by decide +kernel
theorem dX5_setSeenWith_42 : decode cX5_setSeenWith 42 = .ok (.ishl, 1) := by decide +kernel
theorem dX5_setSeenWith_43 : decode cX5_setSeenWith 43 = .ok (.ior, 1) := by decide +kernel
theorem dX5_setSeenWith_44 : decode cX5_setSeenWith 44 = .ok (.istore 6, 2) := by decide +kernel
theorem dX5_setSeenWith_46 : decode cX5_setSeenWith 46 = .ok (.iinc 7 1, 3) := by decide +kernel
theorem dX5_setSeenWith_49 : decode cX5_setSeenWith 49 = .ok (.goto (-31), 3) := by decide +kernel
theorem dX5_setSeenWith_52 : decode cX5_setSeenWith 52 = .ok (.aload_n 0, 1) := by decide +kernel
theorem dX5_setSeenWith_53 : decode cX5_setSeenWith 53 = .ok (.getfield 12, 3) := by decide +kernel
theorem dX5_setSeenWith_56 : decode cX5_setSeenWith 56 = .ok (.iload_n 1, 1) := by decide +kernel
theorem dX5_setSeenWith_57 : decode cX5_setSeenWith 57 = .ok (.iload_n 2, 1) := by decide +kernel
theorem dX5_setSeenWith_58 : decode cX5_setSeenWith 58 = .ok (.iload 5, 2) := by decide +kernel
theorem dX5_setSeenWith_60 : decode cX5_setSeenWith 60 = .ok (.invokevirtual 108, 3) := by decide +kernel
theorem dX5_setSeenWith_63 : decode cX5_setSeenWith 63 = .ok (.pop, 1) := by decide +kernel
theorem dX5_setSeenWith_64 : decode cX5_setSeenWith 64 = .ok (.iload 6, 2) := by decide +kernel
theorem dX5_setSeenWith_66 : decode cX5_setSeenWith 66 = .ok (.ireturn, 1) := by decide +kernel
theorem dX5_weathersUp_0 : decode cX5_weathersUp 0 = .ok (.aload_n 0, 1) := by decide +kernel
theorem dX5_weathersUp_1 : decode cX5_weathersUp 1 = .ok (.iload_n 3, 1) := by decide +kernel
theorem dX5_weathersUp_2 : decode cX5_weathersUp 2 = .ok (.aaload, 1) := by decide +kernel
theorem dX5_weathersUp_3 : decode cX5_weathersUp 3 = .ok (.astore 5, 2) := by decide +kernel
theorem dX5_weathersUp_5 : decode cX5_weathersUp 5 = .ok (.aload 5, 2) := by decide +kernel
theorem dX5_weathersUp_7 : decode cX5_weathersUp 7 = .ok (.iload_n 2, 1) := by decide +kernel
theorem dX5_weathersUp_8 : decode cX5_weathersUp 8 = .ok (.invokevirtual 238, 3) := by decide +kernel
theorem dX5_weathersUp_11 : decode cX5_weathersUp 11 = .ok (.ifCond .eq 10, 3) := by decide +kernel
theorem dX5_weathersUp_14 : decode cX5_weathersUp 14 = .ok (.iconst 1, 1) := by decide +kernel
theorem dX5_weathersUp_15 : decode cX5_weathersUp 15 = .ok (.iload 4, 2) := by decide +kernel
theorem dX5_weathersUp_17 : decode cX5_weathersUp 17 = .ok (.iload_n 3, 1) := by decide +kernel
theorem dX5_weathersUp_18 : decode cX5_weathersUp 18 = .ok (.isub, 1) := by decide +kernel
theorem dX5_weathersUp_19 : decode cX5_weathersUp 19 = .ok (.ishl, 1) := by decide +kernel
theorem dX5_weathersUp_20 : decode cX5_weathersUp 20 = .ok (.ireturn, 1) := by decide +kernel
theorem dX5_weathersUp_21 : decode cX5_weathersUp 21 = .ok (.iload_n 3, 1) := by decide +kernel
theorem dX5_weathersUp_22 : decode cX5_weathersUp 22 = .ok (.iload 4, 2) := by decide +kernel
theorem dX5_weathersUp_24 : decode cX5_weathersUp 24 = .ok (.if_icmp .ge 17, 3) := by decide +kernel
theorem dX5_weathersUp_27 : decode cX5_weathersUp 27 = .ok (.iload_n 3, 1) := by decide +kernel
theorem dX5_weathersUp_28 : decode cX5_weathersUp 28 = .ok (.aload_n 1, 1) := by decide +kernel
theorem dX5_weathersUp_29 : decode cX5_weathersUp 29 = .ok (.arraylength, 1) := by decide +kernel
theorem dX5_weathersUp_30 : decode cX5_weathersUp 30 = .ok (.if_icmp .ge 11, 3) := by decide +kernel
theorem dX5_weathersUp_33 : decode cX5_weathersUp 33 = .ok (.iload_n 3, 1) := by decide +kernel
theorem dX5_weathersUp_34 : decode cX5_weathersUp 34 = .ok (.iconst 1, 1) := by decide +kernel
theorem dX5_weathersUp_35 : decode cX5_weathersUp 35 = .ok (.iadd, 1) := by decide +kernel
theorem dX5_weathersUp_36 : decode cX5_weathersUp 36 = .ok (.aload_n 0, 1) := by decide +kernel
theorem dX5_weathersUp_37 : decode cX5_weathersUp 37 = .ok (.arraylength, 1) := by decide +kernel
theorem dX5_weathersUp_38 : decode cX5_weathersUp 38 = .ok (.if_icmp .lt 5, 3) := by decide +kernel
theorem dX5_weathersUp_41 : decode cX5_weathersUp 41 = .ok (.iconst 0, 1) := by decide +kernel
theorem dX5_weathersUp_42 : decode cX5_weathersUp 42 = .ok (.ireturn, 1) := by decide +kernel
theorem dX5_weathersUp_43 : decode cX5_weathersUp 43 = .ok (.aload_n 0, 1) := by decide +kernel
theorem dX5_weathersUp_44 : decode cX5_weathersUp 44 = .ok (.iload_n 3, 1) := by decide +kernel
theorem dX5_weathersUp_45 : decode cX5_weathersUp 45 = .ok (.iconst 1, 1) := by decide +kernel
theorem dX5_weathersUp_46 : decode cX5_weathersUp 46 = .ok (.iadd, 1) := by decide +kernel
theorem dX5_weathersUp_47 : decode cX5_weathersUp 47 = .ok (.aaload, 1) := by decide +kernel
theorem dX5_weathersUp_48 : decode cX5_weathersUp 48 = .ok (.astore 6, 2) := by decide +kernel
theorem dX5_weathersUp_50 : decode cX5_weathersUp 50 = .ok (.aload 6, 2) := by decide +kernel
theorem dX5_weathersUp_52 : decode cX5_weathersUp 52 = .ok (.aload 5, 2) := by decide +kernel
theorem dX5_weathersUp_54 : decode cX5_weathersUp 54 = .ok (.invokevirtual 252, 3) := by decide +kernel
theorem dX5_weathersUp_57 : decode cX5_weathersUp 57 = .ok (.aload 6, 2) := by decide +kernel
theorem dX5_weathersUp_59 : decode cX5_weathersUp 59 = .ok (.aload_n 1, 1) := by decide +kernel
theorem dX5_weathersUp_60 : decode cX5_weathersUp 60 = .ok (.iload_n 3, 1) := by decide +kernel
theorem dX5_weathersUp_61 : decode cX5_weathersUp 61 = .ok (.iaload, 1) := by decide +kernel
theorem dX5_weathersUp_62 : decode cX5_weathersUp 62 = .ok (.invokevirtual 244, 3) := by decide +kernel
theorem dX5_weathersUp_65 : decode cX5_weathersUp 65 = .ok (.aload_n 0, 1) := by decide +kernel
theorem dX5_weathersUp_66 : decode cX5_weathersUp 66 = .ok (.aload_n 1, 1) := by decide +kernel
theorem dX5_weathersUp_67 : decode cX5_weathersUp 67 = .ok (.iload_n 2, 1) := by decide +kernel
theorem dX5_weathersUp_68 : decode cX5_weathersUp 68 = .ok (.iload_n 3, 1) := by decide +kernel
theorem dX5_weathersUp_69 : decode cX5_weathersUp 69 = .ok (.iconst 1, 1) := by decide +kernel
theorem dX5_weathersUp_70 : decode cX5_weathersUp 70 = .ok (.iadd, 1) := by decide +kernel
theorem dX5_weathersUp_71 : decode cX5_weathersUp 71 = .ok (.iload 4, 2) := by decide +kernel
theorem dX5_weathersUp_73 : decode cX5_weathersUp 73 = .ok (.invokestatic 182, 3) := by decide +kernel
theorem dX5_weathersUp_76 : decode cX5_weathersUp 76 = .ok (.istore 7, 2) := by decide +kernel
theorem dX5_weathersUp_78 : decode cX5_weathersUp 78 = .ok (.aload 6, 2) := by decide +kernel
theorem dX5_weathersUp_80 : decode cX5_weathersUp 80 = .ok (.aload 5, 2) := by decide +kernel
theorem dX5_weathersUp_82 : decode cX5_weathersUp 82 = .ok (.invokevirtual 252, 3) := by decide +kernel
theorem dX5_weathersUp_85 : decode cX5_weathersUp 85 = .ok (.aload 6, 2) := by decide +kernel
theorem dX5_weathersUp_87 : decode cX5_weathersUp 87 = .ok (.invokevirtual 235, 3) := by decide +kernel
theorem dX5_weathersUp_90 : decode cX5_weathersUp 90 = .ok (.aload 6, 2) := by decide +kernel
theorem dX5_weathersUp_92 : decode cX5_weathersUp 92 = .ok (.aload_n 1, 1) := by decide +kernel
theorem dX5_weathersUp_93 : decode cX5_weathersUp 93 = .ok (.iload_n 3, 1) := by decide +kernel
theorem dX5_weathersUp_94 : decode cX5_weathersUp 94 = .ok (.iaload, 1) := by decide +kernel
theorem dX5_weathersUp_95 : decode cX5_weathersUp 95 = .ok (.invokevirtual 244, 3) := by decide +kernel
theorem dX5_weathersUp_98 : decode cX5_weathersUp 98 = .ok (.iload 7, 2) := by decide +kernel
theorem dX5_weathersUp_100 : decode cX5_weathersUp 100 = .ok (.aload_n 0, 1) := by decide +kernel
theorem dX5_weathersUp_101 : decode cX5_weathersUp 101 = .ok (.aload_n 1, 1) := by decide +kernel
theorem dX5_weathersUp_102 : decode cX5_weathersUp 102 = .ok (.iload_n 2, 1) := by decide +kernel
theorem dX5_weathersUp_103 : decode cX5_weathersUp 103 = .ok (.iload_n 3, 1) := by decide +kernel
theorem dX5_weathersUp_104 : decode cX5_weathersUp 104 = .ok (.iconst 1, 1) := by decide +kernel
theorem dX5_weathersUp_105 : decode cX5_weathersUp 105 = .ok (.iadd, 1) := by decide +kernel
theorem dX5_weathersUp_106 : decode cX5_weathersUp 106 = .ok (.iload 4, 2) := by decide +kernel
theorem dX5_weathersUp_108 : decode cX5_weathersUp 108 = .ok (.invokestatic 182, 3) := by decide +kernel
theorem dX5_weathersUp_111 : decode cX5_weathersUp 111 = .ok (.iadd, 1) := by decide +kernel
theorem dX5_weathersUp_112 : decode cX5_weathersUp 112 = .ok (.ireturn, 1) := by decide +kernel
theorem dX5_leave_0 : decode cX5_leave 0 = .ok (.aload_n 0, 1) := by decide +kernel
theorem dX5_leave_1 : decode cX5_leave 1 = .ok (.bipush 31, 2) := by decide +kernel
theorem dX5_leave_3 : decode cX5_leave 3 = .ok (.aload_n 0, 1) := by decide +kernel
theorem dX5_leave_4 : decode cX5_leave 4 = .ok (.getfield 232, 3) := by decide +kernel
theorem dX5_leave_7 : decode cX5_leave 7 = .ok (.imul, 1) := by decide +kernel
theorem dX5_leave_8 : decode cX5_leave 8 = .ok (.iload_n 1, 1) := by decide +kernel
theorem dX5_leave_9 : decode cX5_leave 9 = .ok (.iadd, 1) := by decide +kernel
theorem dX5_leave_10 : decode cX5_leave 10 = .ok (.putfield 232, 3) := by decide +kernel
theorem dX5_leave_13 : decode cX5_leave 13 = .ok (.return_, 1) := by decide +kernel
theorem dX5_tellAsRider_0 : decode cX5_tellAsRider 0 = .ok (.aload_n 0, 1) := by decide +kernel
theorem dX5_tellAsRider_1 : decode cX5_tellAsRider 1 = .ok (.iconst 1, 1) := by decide +kernel
theorem dX5_tellAsRider_2 : decode cX5_tellAsRider 2 = .ok (.invokevirtual 228, 3) := by decide +kernel
theorem dX5_tellAsRider_5 : decode cX5_tellAsRider 5 = .ok (.aload_n 0, 1) := by decide +kernel
theorem dX5_tellAsRider_6 : decode cX5_tellAsRider 6 = .ok (.getfield 12, 3) := by decide +kernel
theorem dX5_tellAsRider_9 : decode cX5_tellAsRider 9 = .ok (.getfield 105, 3) := by decide +kernel
theorem dX5_tellAsRider_12 : decode cX5_tellAsRider 12 = .ok (.iload_n 1, 1) := by decide +kernel
theorem dX5_tellAsRider_13 : decode cX5_tellAsRider 13 = .ok (.iaload, 1) := by decide +kernel
theorem dX5_tellAsRider_14 : decode cX5_tellAsRider 14 = .ok (.ireturn, 1) := by decide +kernel
theorem dX5_tellAsNight_0 : decode cX5_tellAsNight 0 = .ok (.aload_n 0, 1) := by decide +kernel
theorem dX5_tellAsNight_1 : decode cX5_tellAsNight 1 = .ok (.iconst 2, 1) := by decide +kernel
theorem dX5_tellAsNight_2 : decode cX5_tellAsNight 2 = .ok (.invokevirtual 228, 3) := by decide +kernel
theorem dX5_tellAsNight_5 : decode cX5_tellAsNight 5 = .ok (.aload_n 0, 1) := by decide +kernel
theorem dX5_tellAsNight_6 : decode cX5_tellAsNight 6 = .ok (.iload_n 1, 1) := by decide +kernel
theorem dX5_tellAsNight_7 : decode cX5_tellAsNight 7 = .ok (.invokevirtual 225, 3) := by decide +kernel
theorem dX5_tellAsNight_10 : decode cX5_tellAsNight 10 = .ok (.bipush 100, 2) := by decide +kernel
theorem dX5_tellAsNight_12 : decode cX5_tellAsNight 12 = .ok (.iadd, 1) := by decide +kernel
theorem dX5_tellAsNight_13 : decode cX5_tellAsNight 13 = .ok (.ireturn, 1) := by decide +kernel
theorem dX5_tellAsLad_0 : decode cX5_tellAsLad 0 = .ok (.aload_n 0, 1) := by decide +kernel
theorem dX5_tellAsLad_1 : decode cX5_tellAsLad 1 = .ok (.iconst 3, 1) := by decide +kernel
theorem dX5_tellAsLad_2 : decode cX5_tellAsLad 2 = .ok (.invokevirtual 228, 3) := by decide +kernel
theorem dX5_tellAsLad_5 : decode cX5_tellAsLad 5 = .ok (.aload_n 0, 1) := by decide +kernel
theorem dX5_tellAsLad_6 : decode cX5_tellAsLad 6 = .ok (.iload_n 1, 1) := by decide +kernel
theorem dX5_tellAsLad_7 : decode cX5_tellAsLad 7 = .ok (.invokevirtual 222, 3) := by decide +kernel
theorem dX5_tellAsLad_10 : decode cX5_tellAsLad 10 = .ok (.istore_n 2, 1) := by decide +kernel
theorem dX5_tellAsLad_11 : decode cX5_tellAsLad 11 = .ok (.iload_n 2, 1) := by decide +kernel
theorem dX5_tellAsLad_12 : decode cX5_tellAsLad 12 = .ok (.aload_n 0, 1) := by decide +kernel
theorem dX5_tellAsLad_13 : decode cX5_tellAsLad 13 = .ok (.iload_n 1, 1) := by decide +kernel
theorem dX5_tellAsLad_14 : decode cX5_tellAsLad 14 = .ok (.invokevirtual 225, 3) := by decide +kernel
theorem dX5_tellAsLad_17 : decode cX5_tellAsLad 17 = .ok (.iadd, 1) := by decide +kernel
theorem dX5_tellAsLad_18 : decode cX5_tellAsLad 18 = .ok (.ireturn, 1) := by decide +kernel
theorem dX6_init_0 : decode cX6_init 0 = .ok (.aload_n 0, 1) := by decide +kernel
theorem dX6_init_1 : decode cX6_init 1 = .ok (.invokespecial 1, 3) := by decide +kernel
theorem dX6_init_4 : decode cX6_init 4 = .ok (.aload_n 0, 1) := by decide +kernel
theorem dX6_init_5 : decode cX6_init 5 = .ok (.iconst 4, 1) := by decide +kernel
theorem dX6_init_6 : decode cX6_init 6 = .ok (.newarray .int, 2) := by decide +kernel
theorem dX6_init_8 : decode cX6_init 8 = .ok (.dup, 1) := by decide +kernel
theorem dX6_init_9 : decode cX6_init 9 = .ok (.iconst 0, 1) := by decide +kernel
theorem dX6_init_10 : decode cX6_init 10 = .ok (.bipush (-9), 2) := by decide +kernel
theorem dX6_init_12 : decode cX6_init 12 = .ok (.iastore, 1) := by decide +kernel
theorem dX6_init_13 : decode cX6_init 13 = .ok (.dup, 1) := by decide +kernel
theorem dX6_init_14 : decode cX6_init 14 = .ok (.iconst 1, 1) := by decide +kernel
theorem dX6_init_15 : decode cX6_init 15 = .ok (.bipush (-9), 2) := by decide +kernel
theorem dX6_init_17 : decode cX6_init 17 = .ok (.iastore, 1) := by decide +kernel
theorem dX6_init_18 : decode cX6_init 18 = .ok (.dup, 1) := by decide +kernel
theorem dX6_init_19 : decode cX6_init 19 = .ok (.iconst 2, 1) := by decide +kernel
theorem dX6_init_20 : decode cX6_init 20 = .ok (.bipush (-9), 2) := by decide +kernel
theorem dX6_init_22 : decode cX6_init 22 = .ok (.iastore, 1) := by decide +kernel
theorem dX6_init_23 : decode cX6_init 23 = .ok (.dup, 1) := by decide +kernel
theorem dX6_init_24 : decode cX6_init 24 = .ok (.iconst 3, 1) := by decide +kernel
theorem dX6_init_25 : decode cX6_init 25 = .ok (.bipush (-9), 2) := by decide +kernel
theorem dX6_init_27 : decode cX6_init 27 = .ok (.iastore, 1) := by decide +kernel
theorem dX6_init_28 : decode cX6_init 28 = .ok (.putfield 9, 3) := by decide +kernel
theorem dX6_init_31 : decode cX6_init 31 = .ok (.aload_n 0, 1) := by decide +kernel
theorem dX6_init_32 : decode cX6_init 32 = .ok (.iconst 4, 1) := by decide +kernel
theorem dX6_init_33 : decode cX6_init 33 = .ok (.newarray .int, 2) := by decide +kernel
theorem dX6_init_35 : decode cX6_init 35 = .ok (.putfield 13, 3) := by decide +kernel
theorem dX6_init_38 : decode cX6_init 38 = .ok (.aload_n 0, 1) := by decide +kernel
theorem dX6_init_39 : decode cX6_init 39 = .ok (.sipush 240, 3) := by decide +kernel
theorem dX6_init_42 : decode cX6_init 42 = .ok (.newarray .int, 2) := by decide +kernel
theorem dX6_init_44 : decode cX6_init 44 = .ok (.putfield 16, 3) := by decide +kernel
theorem dX6_init_47 : decode cX6_init 47 = .ok (.aload_n 0, 1) := by decide +kernel
theorem dX6_init_48 : decode cX6_init 48 = .ok (.bipush 8, 2) := by decide +kernel
theorem dX6_init_50 : decode cX6_init 50 = .ok (.newarray .int, 2) := by decide +kernel
theorem dX6_init_52 : decode cX6_init 52 = .ok (.putfield 19, 3) := by decide +kernel
theorem dX6_init_55 : decode cX6_init 55 = .ok (.aload_n 0, 1) := by decide +kernel
theorem dX6_init_56 : decode cX6_init 56 = .ok (.bipush 8, 2) := by decide +kernel
theorem dX6_init_58 : decode cX6_init 58 = .ok (.newarray .int, 2) := by decide +kernel
theorem dX6_init_60 : decode cX6_init 60 = .ok (.putfield 22, 3) := by decide +kernel
theorem dX6_init_63 : decode cX6_init 63 = .ok (.aload_n 0, 1) := by decide +kernel
theorem dX6_init_64 : decode cX6_init 64 = .ok (.iconst 5, 1) := by decide +kernel
theorem dX6_init_65 : decode cX6_init 65 = .ok (.newarray .int, 2) := by decide +kernel
theorem dX6_init_67 : decode cX6_init 67 = .ok (.putfield 25, 3) := by decide +kernel
theorem dX6_init_70 : decode cX6_init 70 = .ok (.aload_n 0, 1) := by decide +kernel
theorem dX6_init_71 : decode cX6_init 71 = .ok (.iconst 5, 1) := by decide +kernel
theorem dX6_init_72 : decode cX6_init 72 = .ok (.newarray .int, 2) := by decide +kernel
theorem dX6_init_74 : decode cX6_init 74 = .ok (.putfield 28, 3) := by decide +kernel
theorem dX6_init_77 : decode cX6_init 77 = .ok (.aload_n 0, 1) := by decide +kernel
theorem dX6_init_78 : decode cX6_init 78 = .ok (.iconst 5, 1) := by decide +kernel
theorem dX6_init_79 : decode cX6_init 79 = .ok (.newarray .int, 2) := by decide +kernel
theorem dX6_init_81 : decode cX6_init 81 = .ok (.putfield 31, 3) := by decide +kernel
theorem dX6_init_84 : decode cX6_init 84 = .ok (.aload_n 0, 1) := by decide +kernel
theorem dX6_init_85 : decode cX6_init 85 = .ok (.bipush 8, 2) := by decide +kernel
theorem dX6_init_87 : decode cX6_init 87 = .ok (.newarray .int, 2) := by decide +kernel
theorem dX6_init_89 : decode cX6_init 89 = .ok (.putfield 34, 3) := by decide +kernel
theorem dX6_init_92 : decode cX6_init 92 = .ok (.aload_n 0, 1) := by decide +kernel
theorem dX6_init_93 : decode cX6_init 93 = .ok (.bipush 15, 2) := by decide +kernel
theorem dX6_init_95 : decode cX6_init 95 = .ok (.newarray .int, 2) := by decide +kernel
theorem dX6_init_97 : decode cX6_init 97 = .ok (.putfield 37, 3) := by decide +kernel
theorem dX6_init_100 : decode cX6_init 100 = .ok (.aload_n 0, 1) := by decide +kernel
theorem dX6_init_101 : decode cX6_init 101 = .ok (.bipush 8, 2) := by decide +kernel
theorem dX6_init_103 : decode cX6_init 103 = .ok (.newarray .int, 2) := by decide +kernel
theorem dX6_init_105 : decode cX6_init 105 = .ok (.putfield 40, 3) := by decide +kernel
theorem dX6_init_108 : decode cX6_init 108 = .ok (.aload_n 0, 1) := by decide +kernel
theorem dX6_init_109 : decode cX6_init 109 = .ok (.iconst 5, 1) := by decide +kernel
theorem dX6_init_110 : decode cX6_init 110 = .ok (.newarray .int, 2) := by decide +kernel
theorem dX6_init_112 : decode cX6_init 112 = .ok (.putfield 43, 3) := by decide +kernel
theorem dX6_init_115 : decode cX6_init 115 = .ok (.aload_n 0, 1) := by decide +kernel
theorem dX6_init_116 : decode cX6_init 116 = .ok (.iconst 5, 1) := by decide +kernel
theorem dX6_init_117 : decode cX6_init 117 = .ok (.newarray .int, 2) := by decide +kernel
theorem dX6_init_119 : decode cX6_init 119 = .ok (.putfield 46, 3) := by decide +kernel
theorem dX6_init_122 : decode cX6_init 122 = .ok (.aload_n 0, 1) := by decide +kernel
theorem dX6_init_123 : decode cX6_init 123 = .ok (.bipush 30, 2) := by decide +kernel
theorem dX6_init_125 : decode cX6_init 125 = .ok (.newarray .int, 2) := by decide +kernel
theorem dX6_init_127 : decode cX6_init 127 = .ok (.putfield 49, 3) := by decide +kernel
theorem dX6_init_130 : decode cX6_init 130 = .ok (.aload_n 0, 1) := by decide +kernel
theorem dX6_init_131 : decode cX6_init 131 = .ok (.sipush 1024, 3) := by decide +kernel
theorem dX6_init_134 : decode cX6_init 134 = .ok (.newarray .int, 2) := by decide +kernel
theorem dX6_init_136 : decode cX6_init 136 = .ok (.putfield 52, 3) := by decide +kernel
theorem dX6_init_139 : decode cX6_init 139 = .ok (.aload_n 0, 1) := by decide +kernel
theorem dX6_init_140 : decode cX6_init 140 = .ok (.bipush 8, 2) := by decide +kernel
theorem dX6_init_142 : decode cX6_init 142 = .ok (.newarray .int, 2) := by decide +kernel
theorem dX6_init_144 : decode cX6_init 144 = .ok (.putfield 55, 3) := by decide +kernel
theorem dX6_init_147 : decode cX6_init 147 = .ok (.aload_n 0, 1) := by decide +kernel
theorem dX6_init_148 : decode cX6_init 148 = .ok (.bipush 8, 2) := by decide +kernel
theorem dX6_init_150 : decode cX6_init 150 = .ok (.newarray .int, 2) := by decide +kernel
theorem dX6_init_152 : decode cX6_init 152 = .ok (.putfield 58, 3) := by decide +kernel
theorem dX6_init_155 : decode cX6_init 155 = .ok (.return_, 1) := by decide +kernel
theorem dX6_fails_0 : decode cX6_fails 0 = .ok (.aload_n 0, 1) := by decide +kernel
theorem dX6_fails_1 : decode cX6_fails 1 = .ok (.iload_n 1, 1) := by decide +kernel
theorem dX6_fails_2 : decode cX6_fails 2 = .ok (.putfield 61, 3) := by decide +kernel
theorem dX6_fails_5 : decode cX6_fails 5 = .ok (.bipush (-10), 2) := by decide +kernel
theorem dX6_fails_7 : decode cX6_fails 7 = .ok (.iload_n 1, 1) := by decide +kernel
theorem dX6_fails_8 : decode cX6_fails 8 = .ok (.isub, 1) := by decide +kernel
theorem dX6_fails_9 : decode cX6_fails 9 = .ok (.ireturn, 1) := by decide +kernel
theorem dX6_lost_0 : decode cX6_lost 0 = .ok (.aload_n 0, 1) := by decide +kernel
theorem dX6_lost_1 : decode cX6_lost 1 = .ok (.iload_n 1, 1) := by decide +kernel
theorem dX6_lost_2 : decode cX6_lost 2 = .ok (.putfield 61, 3) := by decide +kernel
theorem dX6_lost_5 : decode cX6_lost 5 = .ok (.ldc2_w 65, 3) := by decide +kernel
theorem dX6_lost_8 : decode cX6_lost 8 = .ok (.lreturn, 1) := by decide +kernel
theorem dX6_within_0 : decode cX6_within 0 = .ok (.iload_n 0, 1) := by decide +kernel
theorem dX6_within_1 : decode cX6_within 1 = .ok (.iload_n 1, 1) := by decide +kernel
theorem dX6_within_2 : decode cX6_within 2 = .ok (.if_icmp .lt 12, 3) := by decide +kernel
theorem dX6_within_5 : decode cX6_within 5 = .ok (.iload_n 0, 1) := by decide +kernel
theorem dX6_within_6 : decode cX6_within 6 = .ok (.iload_n 2, 1) := by decide +kernel
theorem dX6_within_7 : decode cX6_within 7 = .ok (.if_icmp .gt 7, 3) := by decide +kernel
theorem dX6_within_10 : decode cX6_within 10 = .ok (.iconst 1, 1) := by decide +kernel
theorem dX6_within_11 : decode cX6_within 11 = .ok (.goto 4, 3) := by decide +kernel
theorem dX6_within_14 : decode cX6_within 14 = .ok (.iconst 0, 1) := by decide +kernel
theorem dX6_within_15 : decode cX6_within 15 = .ok (.ireturn, 1) := by decide +kernel
theorem dX6_isSheet_0 : decode cX6_isSheet 0 = .ok (.iload_n 0, 1) := by decide +kernel
theorem dX6_isSheet_1 : decode cX6_isSheet 1 = .ok (.iconst 0, 1) := by decide +kernel
theorem dX6_isSheet_2 : decode cX6_isSheet 2 = .ok (.iconst 3, 1) := by decide +kernel
theorem dX6_isSheet_3 : decode cX6_isSheet 3 = .ok (.invokestatic 67, 3) := by decide +kernel
theorem dX6_isSheet_6 : decode cX6_isSheet 6 = .ok (.ireturn, 1) := by decide +kernel
theorem dX6_isSort_0 : decode cX6_isSort 0 = .ok (.iload_n 0, 1) := by decide +kernel
theorem dX6_isSort_1 : decode cX6_isSort 1 = .ok (.iconst 0, 1) := by decide +kernel
theorem dX6_isSort_2 : decode cX6_isSort 2 = .ok (.iconst 2, 1) := by decide +kernel
theorem dX6_isSort_3 : decode cX6_isSort 3 = .ok (.invokestatic 67, 3) := by decide +kernel
theorem dX6_isSort_6 : decode cX6_isSort 6 = .ok (.ireturn, 1) := by decide +kernel
theorem dX6_against_0 : decode cX6_against 0 = .ok (.aload_n 0, 1) := by decide +kernel
theorem dX6_against_1 : decode cX6_against 1 = .ok (.getfield 9, 3) := by decide +kernel
theorem dX6_against_4 : decode cX6_against 4 = .ok (.iload_n 1, 1) := by decide +kernel
theorem dX6_against_5 : decode cX6_against 5 = .ok (.iaload, 1) := by decide +kernel
theorem dX6_against_6 : decode cX6_against 6 = .ok (.bipush (-9), 2) := by decide +kernel
theorem dX6_against_8 : decode cX6_against 8 = .ok (.if_icmp .eq 15, 3) := by decide +kernel
theorem dX6_against_11 : decode cX6_against 11 = .ok (.aload_n 0, 1) := by decide +kernel
theorem dX6_against_12 : decode cX6_against 12 = .ok (.getfield 9, 3) := by decide +kernel
theorem dX6_against_15 : decode cX6_against 15 = .ok (.iload_n 1, 1) := by decide +kernel
theorem dX6_against_16 : decode cX6_against 16 = .ok (.iaload, 1) := by decide +kernel
theorem dX6_against_17 : decode cX6_against 17 = .ok (.iload_n 2, 1) := by decide +kernel
theorem dX6_against_18 : decode cX6_against 18 = .ok (.if_icmp .eq 5, 3) := by decide +kernel
theorem dX6_against_21 : decode cX6_against 21 = .ok (.iconst 2, 1) := by decide +kernel
theorem dX6_against_22 : decode cX6_against 22 = .ok (.ireturn, 1) := by decide +kernel
theorem dX6_against_23 : decode cX6_against 23 = .ok (.aload_n 0, 1) := by decide +kernel
theorem dX6_against_24 : decode cX6_against 24 = .ok (.getfield 9, 3) := by decide +kernel
theorem dX6_against_27 : decode cX6_against 27 = .ok (.iload_n 1, 1) := by decide +kernel
theorem dX6_against_28 : decode cX6_against 28 = .ok (.iaload, 1) := by decide +kernel
theorem dX6_against_29 : decode cX6_against 29 = .ok (.bipush (-9), 2) := by decide +kernel
theorem dX6_against_31 : decode cX6_against 31 = .ok (.if_icmp .ne 5, 3) := by decide +kernel
theorem dX6_against_34 : decode cX6_against 34 = .ok (.iconst 1, 1) := by decide +kernel
theorem dX6_against_35 : decode cX6_against 35 = .ok (.ireturn, 1) := by decide +kernel
theorem dX6_against_36 : decode cX6_against 36 = .ok (.iload 4, 2) := by decide +kernel
theorem dX6_against_38 : decode cX6_against 38 = .ok (.ifCond .ge 5, 3) := by decide +kernel
theorem dX6_against_41 : decode cX6_against 41 = .ok (.iconst 4, 1) := by decide +kernel
theorem dX6_against_42 : decode cX6_against 42 = .ok (.ireturn, 1) := by decide +kernel
theorem dX6_against_43 : decode cX6_against 43 = .ok (.iload_n 3, 1) := by decide +kernel
theorem dX6_against_44 : decode cX6_against 44 = .ok (.ifCond .lt 26, 3) := by decide +kernel
theorem dX6_against_47 : decode cX6_against 47 = .ok (.iload_n 3, 1) := by decide +kernel
theorem dX6_against_48 : decode cX6_against 48 = .ok (.aload_n 0, 1) := by decide +kernel
theorem dX6_against_49 : decode cX6_against 49 = .ok (.getfield 13, 3) := by decide +kernel
theorem dX6_against_52 : decode cX6_against 52 = .ok (.iload_n 1, 1) := by decide +kernel
theorem dX6_against_53 : decode cX6_against 53 = .ok (.iaload, 1) := by decide +kernel
theorem dX6_against_54 : decode cX6_against 54 = .ok (.if_icmp .gt 16, 3) := by decide +kernel
theorem dX6_against_57 : decode cX6_against 57 = .ok (.iload 4, 2) := by decide +kernel
theorem dX6_against_59 : decode cX6_against 59 = .ok (.aload_n 0, 1) := by decide +kernel
theorem dX6_against_60 : decode cX6_against 60 = .ok (.getfield 13, 3) := by decide +kernel
theorem dX6_against_63 : decode cX6_against 63 = .ok (.iload_n 1, 1) := by decide +kernel
theorem dX6_against_64 : decode cX6_against 64 = .ok (.iaload, 1) := by decide +kernel
theorem dX6_against_65 : decode cX6_against 65 = .ok (.iload_n 3, 1) := by decide +kernel
theorem dX6_against_66 : decode cX6_against 66 = .ok (.isub, 1) := by decide +kernel
theorem dX6_against_67 : decode cX6_against 67 = .ok (.if_icmp .le 7, 3) := by decide +kernel
theorem dX6_against_70 : decode cX6_against 70 = .ok (.iconst 3, 1) := by decide +kernel
theorem dX6_against_71 : decode cX6_against 71 = .ok (.goto 4, 3) := by decide +kernel
theorem dX6_against_74 : decode cX6_against 74 = .ok (.iconst 0, 1) := by decide +kernel
theorem dX6_against_75 : decode cX6_against 75 = .ok (.ireturn, 1) := by decide +kernel
theorem dX6_isPace_0 : decode cX6_isPace 0 = .ok (.iload_n 1, 1) := by decide +kernel
theorem dX6_isPace_1 : decode cX6_isPace 1 = .ok (.ifCond .lt 15, 3) := by decide +kernel
theorem dX6_isPace_4 : decode cX6_isPace 4 = .ok (.iload_n 1, 1) := by decide +kernel
theorem dX6_isPace_5 : decode cX6_isPace 5 = .ok (.aload_n 0, 1) := by decide +kernel
theorem dX6_isPace_6 : decode cX6_isPace 6 = .ok (.getfield 71, 3) := by decide +kernel
theorem dX6_isPace_9 : decode cX6_isPace 9 = .ok (.if_icmp .ge 7, 3) := by decide +kernel
theorem dX6_isPace_12 : decode cX6_isPace 12 = .ok (.iconst 1, 1) := by decide +kernel
theorem dX6_isPace_13 : decode cX6_isPace 13 = .ok (.goto 4, 3) := by decide +kernel
theorem dX6_isPace_16 : decode cX6_isPace 16 = .ok (.iconst 0, 1) := by decide +kernel
theorem dX6_isPace_17 : decode cX6_isPace 17 = .ok (.ireturn, 1) := by decide +kernel
theorem dX6_isRider_0 : decode cX6_isRider 0 = .ok (.iload_n 1, 1) := by decide +kernel
theorem dX6_isRider_1 : decode cX6_isRider 1 = .ok (.ifCond .lt 15, 3) := by decide +kernel
theorem dX6_isRider_4 : decode cX6_isRider 4 = .ok (.iload_n 1, 1) := by decide +kernel
theorem dX6_isRider_5 : decode cX6_isRider 5 = .ok (.aload_n 0, 1) := by decide +kernel
theorem dX6_isRider_6 : decode cX6_isRider 6 = .ok (.getfield 74, 3) := by decide +kernel
theorem dX6_isRider_9 : decode cX6_isRider 9 = .ok (.if_icmp .ge 7, 3) := by decide +kernel
theorem dX6_isRider_12 : decode cX6_isRider 12 = .ok (.iconst 1, 1) := by decide +kernel
theorem dX6_isRider_13 : decode cX6_isRider 13 = .ok (.goto 4, 3) := by decide +kernel
theorem dX6_isRider_16 : decode cX6_isRider 16 = .ok (.iconst 0, 1) := by decide +kernel
theorem dX6_isRider_17 : decode cX6_isRider 17 = .ok (.ireturn, 1) := by decide +kernel
theorem dX6_isNine_0 : decode cX6_isNine 0 = .ok (.iload_n 0, 1) := by decide +kernel
theorem dX6_isNine_1 : decode cX6_isNine 1 = .ok (.iconst 0, 1) := by decide +kernel
theorem dX6_isNine_2 : decode cX6_isNine 2 = .ok (.bipush 9, 2) := by decide +kernel
theorem dX6_isNine_4 : decode cX6_isNine 4 = .ok (.invokestatic 67, 3) := by decide +kernel
theorem dX6_isNine_7 : decode cX6_isNine 7 = .ok (.ireturn, 1) := by decide +kernel
theorem dX6_digit_0 : decode cX6_digit 0 = .ok (.aload_n 0, 1) := by decide +kernel
theorem dX6_digit_1 : decode cX6_digit 1 = .ok (.getfield 77, 3) := by decide +kernel
theorem dX6_digit_4 : decode cX6_digit 4 = .ok (.iload_n 1, 1) := by decide +kernel
theorem dX6_digit_5 : decode cX6_digit 5 = .ok (.if_icmp .ge 26, 3) := by decide +kernel
theorem dX6_digit_8 : decode cX6_digit 8 = .ok (.aload_n 0, 1) := by decide +kernel
theorem dX6_digit_9 : decode cX6_digit 9 = .ok (.getfield 16, 3) := by decide +kernel
theorem dX6_digit_12 : decode cX6_digit 12 = .ok (.aload_n 0, 1) := by decide +kernel
theorem dX6_digit_13 : decode cX6_digit 13 = .ok (.getfield 77, 3) := by decide +kernel
theorem dX6_digit_16 : decode cX6_digit 16 = .ok (.iaload, 1) := by decide +kernel
theorem dX6_digit_17 : decode cX6_digit 17 = .ok (.bipush 48, 2) := by decide +kernel
theorem dX6_digit_19 : decode cX6_digit 19 = .ok (.iload_n 2, 1) := by decide +kernel
theorem dX6_digit_20 : decode cX6_digit 20 = .ok (.iadd, 1) := by decide +kernel
theorem dX6_digit_21 : decode cX6_digit 21 = .ok (.bipush 48, 2) := by decide +kernel
theorem dX6_digit_23 : decode cX6_digit 23 = .ok (.iload_n 3, 1) := by decide +kernel
theorem dX6_digit_24 : decode cX6_digit 24 = .ok (.iadd, 1) := by decide +kernel
theorem dX6_digit_25 : decode cX6_digit 25 = .ok (.invokestatic 67, 3) := by decide +kernel
theorem dX6_digit_28 : decode cX6_digit 28 = .ok (.ifCond .ne 6, 3) := by decide +kernel
theorem dX6_digit_31 : decode cX6_digit 31 = .ok (.bipush (-9), 2) := by decide +kernel
theorem dX6_digit_33 : decode cX6_digit 33 = .ok (.ireturn, 1) := by decide +kernel
theorem dX6_digit_34 : decode cX6_digit 34 = .ok (.aload_n 0, 1) := by decide +kernel
theorem dX6_digit_35 : decode cX6_digit 35 = .ok (.dup, 1) := by decide +kernel
theorem dX6_digit_36 : decode cX6_digit 36 = .ok (.getfield 77, 3) := by decide +kernel
theorem dX6_digit_39 : decode cX6_digit 39 = .ok (.iconst 1, 1) := by decide +kernel
theorem dX6_digit_40 : decode cX6_digit 40 = .ok (.iadd, 1) := by decide +kernel
theorem dX6_digit_41 : decode cX6_digit 41 = .ok (.putfield 77, 3) := by decide +kernel
theorem dX6_digit_44 : decode cX6_digit 44 = .ok (.aload_n 0, 1) := by decide +kernel
theorem dX6_digit_45 : decode cX6_digit 45 = .ok (.getfield 16, 3) := by decide +kernel
theorem dX6_digit_48 : decode cX6_digit 48 = .ok (.aload_n 0, 1) := by decide +kernel
theorem dX6_digit_49 : decode cX6_digit 49 = .ok (.getfield 77, 3) := by decide +kernel
theorem dX6_digit_52 : decode cX6_digit 52 = .ok (.iconst 1, 1) := by decide +kernel
theorem dX6_digit_53 : decode cX6_digit 53 = .ok (.isub, 1) := by decide +kernel
theorem dX6_digit_54 : decode cX6_digit 54 = .ok (.iaload, 1) := by decide +kernel
theorem dX6_digit_55 : decode cX6_digit 55 = .ok (.bipush 48, 2) := by decide +kernel
theorem dX6_digit_57 : decode cX6_digit 57 = .ok (.isub, 1) := by decide +kernel
theorem dX6_digit_58 : decode cX6_digit 58 = .ok (.ireturn, 1) := by decide +kernel
theorem dX6_isSign_0 : decode cX6_isSign 0 = .ok (.aload_n 0, 1) := by decide +kernel
theorem dX6_isSign_1 : decode cX6_isSign 1 = .ok (.getfield 77, 3) := by decide +kernel
theorem dX6_isSign_4 : decode cX6_isSign 4 = .ok (.iload_n 1, 1) := by decide +kernel
theorem dX6_isSign_5 : decode cX6_isSign 5 = .ok (.if_icmp .ge 16, 3) := by decide +kernel
theorem dX6_isSign_8 : decode cX6_isSign 8 = .ok (.aload_n 0, 1) := by decide +kernel
theorem dX6_isSign_9 : decode cX6_isSign 9 = .ok (.getfield 16, 3) := by decide +kernel
theorem dX6_isSign_12 : decode cX6_isSign 12 = .ok (.aload_n 0, 1) := by decide +kernel
theorem dX6_isSign_13 : decode cX6_isSign 13 = .ok (.getfield 77, 3) := by decide +kernel
theorem dX6_isSign_16 : decode cX6_isSign 16 = .ok (.iaload, 1) := by decide +kernel
theorem dX6_isSign_17 : decode cX6_isSign 17 = .ok (.iload_n 2, 1) := by decide +kernel
theorem dX6_isSign_18 : decode cX6_isSign 18 = .ok (.if_icmp .eq 5, 3) := by decide +kernel
theorem dX6_isSign_21 : decode cX6_isSign 21 = .ok (.iconst 0, 1) := by decide +kernel
theorem dX6_isSign_22 : decode cX6_isSign 22 = .ok (.ireturn, 1) := by decide +kernel
theorem dX6_isSign_23 : decode cX6_isSign 23 = .ok (.aload_n 0, 1) := by decide +kernel
theorem dX6_isSign_24 : decode cX6_isSign 24 = .ok (.dup, 1) := by decide +kernel
theorem dX6_isSign_25 : decode cX6_isSign 25 = .ok (.getfield 77, 3) := by decide +kernel
theorem dX6_isSign_28 : decode cX6_isSign 28 = .ok (.iconst 1, 1) := by decide +kernel
theorem dX6_isSign_29 : decode cX6_isSign 29 = .ok (.iadd, 1) := by decide +kernel
theorem dX6_isSign_30 : decode cX6_isSign 30 = .ok (.putfield 77, 3) := by decide +kernel
theorem dX6_isSign_33 : decode cX6_isSign 33 = .ok (.iconst 1, 1) := by decide +kernel
theorem dX6_isSign_34 : decode cX6_isSign 34 = .ok (.ireturn, 1) := by decide +kernel
theorem dX6_hill_0 : decode cX6_hill 0 = .ok (.aload_n 0, 1) := by decide +kernel
theorem dX6_hill_1 : decode cX6_hill 1 = .ok (.iconst 0, 1) := by decide +kernel
theorem dX6_hill_2 : decode cX6_hill 2 = .ok (.putfield 61, 3) := by decide +kernel
theorem dX6_hill_5 : decode cX6_hill 5 = .ok (.iload_n 1, 1) := by decide +kernel
theorem dX6_hill_6 : decode cX6_hill 6 = .ok (.invokestatic 80, 3) := by decide +kernel
theorem dX6_hill_9 : decode cX6_hill 9 = .ok (.ifCond .ne 5, 3) := by decide +kernel
theorem dX6_hill_12 : decode cX6_hill 12 = .ok (.iconst (-1), 1) := by decide +kernel
theorem dX6_hill_13 : decode cX6_hill 13 = .ok (.ireturn, 1) := by decide +kernel
theorem dX6_hill_14 : decode cX6_hill 14 = .ok (.iload_n 2, 1) := by decide +kernel
theorem dX6_hill_15 : decode cX6_hill 15 = .ok (.invokestatic 84, 3) := by decide +kernel
theorem dX6_hill_18 : decode cX6_hill 18 = .ok (.ifCond .ne 6, 3) := by decide +kernel
theorem dX6_hill_21 : decode cX6_hill 21 = .ok (.bipush (-2), 2) := by decide +kernel
theorem dX6_hill_23 : decode cX6_hill 23 = .ok (.ireturn, 1) := by decide +kernel
theorem dX6_hill_24 : decode cX6_hill 24 = .ok (.aload_n 0, 1) := by decide +kernel
theorem dX6_hill_25 : decode cX6_hill 25 = .ok (.iload_n 1, 1) := by decide +kernel
theorem dX6_hill_26 : decode cX6_hill 26 = .ok (.iload_n 2, 1) := by decide +kernel
theorem dX6_hill_27 : decode cX6_hill 27 = .ok (.iload_n 3, 1) := by decide +kernel
theorem dX6_hill_28 : decode cX6_hill 28 = .ok (.iload 4, 2) := by decide +kernel
theorem dX6_hill_30 : decode cX6_hill 30 = .ok (.invokevirtual 87, 3) := by decide +kernel
theorem dX6_hill_33 : decode cX6_hill 33 = .ok (.istore 5, 2) := by decide +kernel
theorem dX6_hill_35 : decode cX6_hill 35 = .ok (.iload 5, 2) := by decide +kernel
theorem dX6_hill_37 : decode cX6_hill 37 = .ok (.ifCond .eq 10, 3) := by decide +kernel
theorem dX6_hill_40 : decode cX6_hill 40 = .ok (.aload_n 0, 1) := by decide +kernel
theorem dX6_hill_41 : decode cX6_hill 41 = .ok (.iload 5, 2) := by decide +kernel
theorem dX6_hill_43 : decode cX6_hill 43 = .ok (.invokevirtual 91, 3) := by decide +kernel
theorem dX6_hill_46 : decode cX6_hill 46 = .ok (.ireturn, 1) := by decide +kernel
theorem dX6_hill_47 : decode cX6_hill 47 = .ok (.bipush 60, 2) := by decide +kernel
theorem dX6_hill_49 : decode cX6_hill 49 = .ok (.iload_n 1, 1) := by decide +kernel
theorem dX6_hill_50 : decode cX6_hill 50 = .ok (.imul, 1) := by decide +kernel
theorem dX6_hill_51 : decode cX6_hill 51 = .ok (.iload_n 3, 1) := by decide +kernel
theorem dX6_hill_52 : decode cX6_hill 52 = .ok (.iadd, 1) := by decide +kernel
theorem dX6_hill_53 : decode cX6_hill 53 = .ok (.istore 6, 2) := by decide +kernel
theorem dX6_hill_55 : decode cX6_hill 55 = .ok (.aload_n 0, 1) := by decide +kernel
theorem dX6_hill_56 : decode cX6_hill 56 = .ok (.iload 6, 2) := by decide +kernel
theorem dX6_hill_58 : decode cX6_hill 58 = .ok (.putfield 77, 3) := by decide +kernel
theorem dX6_hill_61 : decode cX6_hill 61 = .ok (.aload_n 0, 1) := by decide +kernel
theorem dX6_hill_62 : decode cX6_hill 62 = .ok (.iload 6, 2) := by decide +kernel
theorem dX6_hill_64 : decode cX6_hill 64 = .ok (.iload 4, 2) := by decide +kernel
theorem dX6_hill_66 : decode cX6_hill 66 = .ok (.iadd, 1) := by decide +kernel
theorem dX6_hill_67 : decode cX6_hill 67 = .ok (.invokevirtual 95, 3) := by decide +kernel
theorem dX6_hill_70 : decode cX6_hill 70 = .ok (.ifCond .ne 14, 3) := by decide +kernel
theorem dX6_hill_73 : decode cX6_hill 73 = .ok (.bipush (-100), 2) := by decide +kernel
theorem dX6_hill_75 : decode cX6_hill 75 = .ok (.aload_n 0, 1) := by decide +kernel
theorem dX6_hill_76 : decode cX6_hill 76 = .ok (.getfield 77, 3) := by decide +kernel
theorem dX6_hill_79 : decode cX6_hill 79 = .ok (.iload 6, 2) := by decide +kernel
theorem dX6_hill_81 : decode cX6_hill 81 = .ok (.isub, 1) := by decide +kernel
theorem dX6_hill_82 : decode cX6_hill 82 = .ok (.isub, 1) := by decide +kernel
theorem dX6_hill_83 : decode cX6_hill 83 = .ok (.ireturn, 1) := by decide +kernel
theorem dX6_hill_84 : decode cX6_hill 84 = .ok (.aload_n 0, 1) := by decide +kernel
theorem dX6_hill_85 : decode cX6_hill 85 = .ok (.aload_n 0, 1) := by decide +kernel
theorem dX6_hill_86 : decode cX6_hill 86 = .ok (.getfield 98, 3) := by decide +kernel
theorem dX6_hill_89 : decode cX6_hill 89 = .ok (.putfield 71, 3) := by decide +kernel
theorem dX6_hill_92 : decode cX6_hill 92 = .ok (.aload_n 0, 1) := by decide +kernel
theorem dX6_hill_93 : decode cX6_hill 93 = .ok (.aload_n 0, 1) := by decide +kernel
theorem dX6_hill_94 : decode cX6_hill 94 = .ok (.getfield 101, 3) := by decide +kernel
theorem dX6_hill_97 : decode cX6_hill 97 = .ok (.putfield 74, 3) := by decide +kernel
theorem dX6_hill_100 : decode cX6_hill 100 = .ok (.iconst 0, 1) := by decide +kernel
theorem dX6_hill_101 : decode cX6_hill 101 = .ok (.istore 7, 2) := by decide +kernel
theorem dX6_hill_103 : decode cX6_hill 103 = .ok (.iload 7, 2) := by decide +kernel
theorem dX6_hill_105 : decode cX6_hill 105 = .ok (.aload_n 0, 1) := by decide +kernel
theorem dX6_hill_106 : decode cX6_hill 106 = .ok (.getfield 71, 3) := by decide +kernel
theorem dX6_hill_109 : decode cX6_hill 109 = .ok (.if_icmp .ge 31, 3) := by decide +kernel
theorem dX6_hill_112 : decode cX6_hill 112 = .ok (.aload_n 0, 1) := by decide +kernel
theorem dX6_hill_113 : decode cX6_hill 113 = .ok (.getfield 19, 3) := by decide +kernel
theorem dX6_hill_116 : decode cX6_hill 116 = .ok (.iload 7, 2) := by decide +kernel
theorem dX6_hill_118 : decode cX6_hill 118 = .ok (.aload_n 0, 1) := by decide +kernel
theorem dX6_hill_119 : decode cX6_hill 119 = .ok (.getfield 34, 3) := by decide +kernel
theorem dX6_hill_122 : decode cX6_hill 122 = .ok (.iload 7, 2) := by decide +kernel
theorem dX6_hill_124 : decode cX6_hill 124 = .ok (.iaload, 1) := by decide +kernel
theorem dX6_hill_125 : decode cX6_hill 125 = .ok (.iastore, 1) := by decide +kernel
theorem dX6_hill_126 : decode cX6_hill 126 = .ok (.aload_n 0, 1) := by decide +kernel
theorem dX6_hill_127 : decode cX6_hill 127 = .ok (.getfield 22, 3) := by decide +kernel
theorem dX6_hill_130 : decode cX6_hill 130 = .ok (.iload 7, 2) := by decide +kernel
theorem dX6_hill_132 : decode cX6_hill 132 = .ok (.iconst 0, 1) := by decide +kernel
theorem dX6_hill_133 : decode cX6_hill 133 = .ok (.iastore, 1) := by decide +kernel
theorem dX6_hill_134 : decode cX6_hill 134 = .ok (.iinc 7 1, 3) := by decide +kernel
theorem dX6_hill_137 : decode cX6_hill 137 = .ok (.goto (-34), 3) := by decide +kernel
theorem dX6_hill_140 : decode cX6_hill 140 = .ok (.iconst 0, 1) := by decide +kernel
theorem dX6_hill_141 : decode cX6_hill 141 = .ok (.istore 7, 2) := by decide +kernel
theorem dX6_hill_143 : decode cX6_hill 143 = .ok (.iload 7, 2) := by decide +kernel
theorem dX6_hill_145 : decode cX6_hill 145 = .ok (.aload_n 0, 1) := by decide +kernel
theorem dX6_hill_146 : decode cX6_hill 146 = .ok (.getfield 74, 3) := by decide +kernel
theorem dX6_hill_149 : decode cX6_hill 149 = .ok (.if_icmp .ge 61, 3) := by decide +kernel
theorem dX6_hill_152 : decode cX6_hill 152 = .ok (.aload_n 0, 1) := by decide +kernel
theorem dX6_hill_153 : decode cX6_hill 153 = .ok (.getfield 25, 3) := by decide +kernel
theorem dX6_hill_156 : decode cX6_hill 156 = .ok (.iload 7, 2) := by decide +kernel
theorem dX6_hill_158 : decode cX6_hill 158 = .ok (.aload_n 0, 1) := by decide +kernel
theorem dX6_hill_159 : decode cX6_hill 159 = .ok (.getfield 37, 3) := by decide +kernel
theorem dX6_hill_162 : decode cX6_hill 162 = .ok (.iconst 3, 1) := by decide +kernel
theorem dX6_hill_163 : decode cX6_hill 163 = .ok (.iload 7, 2) := by decide +kernel
theorem dX6_hill_165 : decode cX6_hill 165 = .ok (.imul, 1) := by decide +kernel
theorem dX6_hill_166 : decode cX6_hill 166 = .ok (.iaload, 1) := by decide +kernel
theorem dX6_hill_167 : decode cX6_hill 167 = .ok (.iastore, 1) := by decide +kernel
theorem dX6_hill_168 : decode cX6_hill 168 = .ok (.aload_n 0, 1) := by decide +kernel
theorem dX6_hill_169 : decode cX6_hill 169 = .ok (.getfield 28, 3) := by decide +kernel
theorem dX6_hill_172 : decode cX6_hill 172 = .ok (.iload 7, 2) := by decide +kernel
theorem dX6_hill_174 : decode cX6_hill 174 = .ok (.aload_n 0, 1) := by decide +kernel
theorem dX6_hill_175 : decode cX6_hill 175 = .ok (.getfield 37, 3) := by decide +kernel
theorem dX6_hill_178 : decode cX6_hill 178 = .ok (.iconst 3, 1) := by decide +kernel
theorem dX6_hill_179 : decode cX6_hill 179 = .ok (.iload 7, 2) := by decide +kernel
theorem dX6_hill_181 : decode cX6_hill 181 = .ok (.imul, 1) := by decide +kernel
theorem dX6_hill_182 : decode cX6_hill 182 = .ok (.iconst 1, 1) := by decide +kernel
theorem dX6_hill_183 : decode cX6_hill 183 = .ok (.iadd, 1) := by decide +kernel
theorem dX6_hill_184 : decode cX6_hill 184 = .ok (.iaload, 1) := by decide +kernel
theorem dX6_hill_185 : decode cX6_hill 185 = .ok (.iastore, 1) := by decide +kernel
theorem dX6_hill_186 : decode cX6_hill 186 = .ok (.aload_n 0, 1) := by decide +kernel
theorem dX6_hill_187 : decode cX6_hill 187 = .ok (.getfield 31, 3) := by decide +kernel
theorem dX6_hill_190 : decode cX6_hill 190 = .ok (.iload 7, 2) := by decide +kernel
theorem dX6_hill_192 : decode cX6_hill 192 = .ok (.aload_n 0, 1) := by decide +kernel
theorem dX6_hill_193 : decode cX6_hill 193 = .ok (.getfield 37, 3) := by decide +kernel
theorem dX6_hill_196 : decode cX6_hill 196 = .ok (.iconst 3, 1) := by decide +kernel
theorem dX6_hill_197 : decode cX6_hill 197 = .ok (.iload 7, 2) := by decide +kernel
theorem dX6_hill_199 : decode cX6_hill 199 = .ok (.imul, 1) := by decide +kernel
theorem dX6_hill_200 : decode cX6_hill 200 = .ok (.iconst 2, 1) := by decide +kernel
theorem dX6_hill_201 : decode cX6_hill 201 = .ok (.iadd, 1) := by decide +kernel
theorem dX6_hill_202 : decode cX6_hill 202 = .ok (.iaload, 1) := by decide +kernel
theorem dX6_hill_203 : decode cX6_hill 203 = .ok (.iastore, 1) := by decide +kernel
theorem dX6_hill_204 : decode cX6_hill 204 = .ok (.iinc 7 1, 3) := by decide +kernel
theorem dX6_hill_207 : decode cX6_hill 207 = .ok (.goto (-64), 3) := by decide +kernel
theorem dX6_hill_210 : decode cX6_hill 210 = .ok (.aload_n 0, 1) := by decide +kernel
theorem dX6_hill_211 : decode cX6_hill 211 = .ok (.iconst 0, 1) := by decide +kernel
theorem dX6_hill_212 : decode cX6_hill 212 = .ok (.putfield 104, 3) := by decide +kernel
theorem dX6_hill_215 : decode cX6_hill 215 = .ok (.aload_n 0, 1) := by decide +kernel
theorem dX6_hill_216 : decode cX6_hill 216 = .ok (.getfield 74, 3) := by decide +kernel
theorem dX6_hill_219 : decode cX6_hill 219 = .ok (.ireturn, 1) := by decide +kernel
theorem dX6_readHill_0 : decode cX6_readHill 0 = .ok (.aload_n 0, 1) := by decide +kernel
theorem dX6_readHill_1 : decode cX6_readHill 1 = .ok (.iconst 0, 1) := by decide +kernel
theorem dX6_readHill_2 : decode cX6_readHill 2 = .ok (.putfield 101, 3) := by decide +kernel
theorem dX6_readHill_5 : decode cX6_readHill 5 = .ok (.aload_n 0, 1) := by decide +kernel
theorem dX6_readHill_6 : decode cX6_readHill 6 = .ok (.iload_n 1, 1) := by decide +kernel
theorem dX6_readHill_7 : decode cX6_readHill 7 = .ok (.bipush 97, 2) := by decide +kernel
theorem dX6_readHill_9 : decode cX6_readHill 9 = .ok (.invokevirtual 107, 3) := by decide +kernel
theorem dX6_readHill_12 : decode cX6_readHill 12 = .ok (.ifCond .ne 5, 3) := by decide +kernel
theorem dX6_readHill_15 : decode cX6_readHill 15 = .ok (.iconst 0, 1) := by decide +kernel
theorem dX6_readHill_16 : decode cX6_readHill 16 = .ok (.ireturn, 1) := by decide +kernel
theorem dX6_readHill_17 : decode cX6_readHill 17 = .ok (.aload_n 0, 1) := by decide +kernel
theorem dX6_readHill_18 : decode cX6_readHill 18 = .ok (.aload_n 0, 1) := by decide +kernel
theorem dX6_readHill_19 : decode cX6_readHill 19 = .ok (.iload_n 1, 1) := by decide +kernel
theorem dX6_readHill_20 : decode cX6_readHill 20 = .ok (.iconst 2, 1) := by decide +kernel
theorem dX6_readHill_21 : decode cX6_readHill 21 = .ok (.bipush 8, 2) := by decide +kernel
theorem dX6_readHill_23 : decode cX6_readHill 23 = .ok (.invokevirtual 111, 3) := by decide +kernel
theorem dX6_readHill_26 : decode cX6_readHill 26 = .ok (.putfield 98, 3) := by decide +kernel
theorem dX6_readHill_29 : decode cX6_readHill 29 = .ok (.aload_n 0, 1) := by decide +kernel
theorem dX6_readHill_30 : decode cX6_readHill 30 = .ok (.getfield 98, 3) := by decide +kernel
theorem dX6_readHill_33 : decode cX6_readHill 33 = .ok (.bipush (-9), 2) := by decide +kernel
theorem dX6_readHill_35 : decode cX6_readHill 35 = .ok (.if_icmp .ne 5, 3) := by decide +kernel
theorem dX6_readHill_38 : decode cX6_readHill 38 = .ok (.iconst 0, 1) := by decide +kernel
theorem dX6_readHill_39 : decode cX6_readHill 39 = .ok (.ireturn, 1) := by decide +kernel
theorem dX6_readHill_40 : decode cX6_readHill 40 = .ok (.iconst 0, 1) := by decide +kernel
theorem dX6_readHill_41 : decode cX6_readHill 41 = .ok (.istore_n 2, 1) := by decide +kernel
theorem dX6_readHill_42 : decode cX6_readHill 42 = .ok (.iload_n 2, 1) := by decide +kernel
theorem dX6_readHill_43 : decode cX6_readHill 43 = .ok (.aload_n 0, 1) := by decide +kernel
theorem dX6_readHill_44 : decode cX6_readHill 44 = .ok (.getfield 98, 3) := by decide +kernel
theorem dX6_readHill_47 : decode cX6_readHill 47 = .ok (.if_icmp .ge 36, 3) := by decide +kernel
theorem dX6_readHill_50 : decode cX6_readHill 50 = .ok (.aload_n 0, 1) := by decide +kernel
theorem dX6_readHill_51 : decode cX6_readHill 51 = .ok (.getfield 34, 3) := by decide +kernel
theorem dX6_readHill_54 : decode cX6_readHill 54 = .ok (.iload_n 2, 1) := by decide +kernel
theorem dX6_readHill_55 : decode cX6_readHill 55 = .ok (.aload_n 0, 1) := by decide +kernel
theorem dX6_readHill_56 : decode cX6_readHill 56 = .ok (.iload_n 1, 1) := by decide +kernel
theorem dX6_readHill_57 : decode cX6_readHill 57 = .ok (.iconst 0, 1) := by decide +kernel
theorem dX6_readHill_58 : decode cX6_readHill 58 = .ok (.bipush 9, 2) := by decide +kernel
theorem dX6_readHill_60 : decode cX6_readHill 60 = .ok (.invokevirtual 111, 3) := by decide +kernel
theorem dX6_readHill_63 : decode cX6_readHill 63 = .ok (.iastore, 1) := by decide +kernel
theorem dX6_readHill_64 : decode cX6_readHill 64 = .ok (.aload_n 0, 1) := by decide +kernel
theorem dX6_readHill_65 : decode cX6_readHill 65 = .ok (.getfield 34, 3) := by decide +kernel
theorem dX6_readHill_68 : decode cX6_readHill 68 = .ok (.iload_n 2, 1) := by decide +kernel
theorem dX6_readHill_69 : decode cX6_readHill 69 = .ok (.iaload, 1) := by decide +kernel
theorem dX6_readHill_70 : decode cX6_readHill 70 = .ok (.bipush (-9), 2) := by decide +kernel
theorem dX6_readHill_72 : decode cX6_readHill 72 = .ok (.if_icmp .ne 5, 3) := by decide +kernel
theorem dX6_readHill_75 : decode cX6_readHill 75 = .ok (.iconst 0, 1) := by decide +kernel
theorem dX6_readHill_76 : decode cX6_readHill 76 = .ok (.ireturn, 1) := by decide +kernel
theorem dX6_readHill_77 : decode cX6_readHill 77 = .ok (.iinc 2 1, 3) := by decide +kernel
theorem dX6_readHill_80 : decode cX6_readHill 80 = .ok (.goto (-38), 3) := by decide +kernel
theorem dX6_readHill_83 : decode cX6_readHill 83 = .ok (.aload_n 0, 1) := by decide +kernel
theorem dX6_readHill_84 : decode cX6_readHill 84 = .ok (.getfield 101, 3) := by decide +kernel
theorem dX6_readHill_87 : decode cX6_readHill 87 = .ok (.ifCond .eq 19, 3) := by decide +kernel
theorem dX6_readHill_90 : decode cX6_readHill 90 = .ok (.aload_n 0, 1) := by decide +kernel
theorem dX6_readHill_91 : decode cX6_readHill 91 = .ok (.getfield 101, 3) := by decide +kernel
theorem dX6_readHill_94 : decode cX6_readHill 94 = .ok (.iconst 5, 1) := by decide +kernel
theorem dX6_readHill_95 : decode cX6_readHill 95 = .ok (.if_icmp .ge 31, 3) := by decide +kernel
theorem dX6_readHill_98 : decode cX6_readHill 98 = .ok (.aload_n 0, 1) := by decide +kernel
theorem dX6_readHill_99 : decode cX6_readHill 99 = .ok (.getfield 77, 3) := by decide +kernel
theorem dX6_readHill_102 : decode cX6_readHill 102 = .ok (.iload_n 1, 1) := by decide +kernel
theorem dX6_readHill_103 : decode cX6_readHill 103 = .ok (.if_icmp .ge 23, 3) := by decide +kernel
theorem dX6_readHill_106 : decode cX6_readHill 106 = .ok (.aload_n 0, 1) := by decide +kernel
theorem dX6_readHill_107 : decode cX6_readHill 107 = .ok (.iload_n 1, 1) := by decide +kernel
theorem dX6_readHill_108 : decode cX6_readHill 108 = .ok (.bipush 44, 2) := by decide +kernel
theorem dX6_readHill_110 : decode cX6_readHill 110 = .ok (.invokevirtual 107, 3) := by decide +kernel
theorem dX6_readHill_113 : decode cX6_readHill 113 = .ok (.ifCond .eq 11, 3) := by decide +kernel
theorem dX6_readHill_116 : decode cX6_readHill 116 = .ok (.aload_n 0, 1) := by decide +kernel
theorem dX6_readHill_117 : decode cX6_readHill 117 = .ok (.iload_n 1, 1) := by decide +kernel
theorem dX6_readHill_118 : decode cX6_readHill 118 = .ok (.invokevirtual 115, 3) := by decide +kernel
theorem dX6_readHill_121 : decode cX6_readHill 121 = .ok (.ifCond .ne (-38), 3) := by decide +kernel
theorem dX6_readHill_124 : decode cX6_readHill 124 = .ok (.iconst 0, 1) := by decide +kernel
theorem dX6_readHill_125 : decode cX6_readHill 125 = .ok (.ireturn, 1) := by decide +kernel
theorem dX6_readHill_126 : decode cX6_readHill 126 = .ok (.aload_n 0, 1) := by decide +kernel
theorem dX6_readHill_127 : decode cX6_readHill 127 = .ok (.getfield 77, 3) := by decide +kernel
theorem dX6_readHill_130 : decode cX6_readHill 130 = .ok (.iload_n 1, 1) := by decide +kernel
theorem dX6_readHill_131 : decode cX6_readHill 131 = .ok (.if_icmp .ne 7, 3) := by decide +kernel
theorem dX6_readHill_134 : decode cX6_readHill 134 = .ok (.iconst 1, 1) := by decide +kernel
theorem dX6_readHill_135 : decode cX6_readHill 135 = .ok (.goto 4, 3) := by decide +kernel
theorem dX6_readHill_138 : decode cX6_readHill 138 = .ok (.iconst 0, 1) := by decide +kernel
theorem dX6_readHill_139 : decode cX6_readHill 139 = .ok (.ireturn, 1) := by decide +kernel
theorem dX6_readRider_0 : decode cX6_readRider 0 = .ok (.iconst 3, 1) := by decide +kernel
theorem dX6_readRider_1 : decode cX6_readRider 1 = .ok (.aload_n 0, 1) := by decide +kernel
theorem dX6_readRider_2 : decode cX6_readRider 2 = .ok (.getfield 101, 3) := by decide +kernel
theorem dX6_readRider_5 : decode cX6_readRider 5 = .ok (.imul, 1) := by decide +kernel
theorem dX6_readRider_6 : decode cX6_readRider 6 = .ok (.istore_n 2, 1) := by decide +kernel
theorem dX6_readRider_7 : decode cX6_readRider 7 = .ok (.aload_n 0, 1) := by decide +kernel
theorem dX6_readRider_8 : decode cX6_readRider 8 = .ok (.getfield 77, 3) := by decide +kernel
theorem dX6_readRider_11 : decode cX6_readRider 11 = .ok (.iload_n 1, 1) := by decide +kernel
theorem dX6_readRider_12 : decode cX6_readRider 12 = .ok (.if_icmp .ge 15, 3) := by decide +kernel
theorem dX6_readRider_15 : decode cX6_readRider 15 = .ok (.aload_n 0, 1) := by decide +kernel
theorem dX6_readRider_16 : decode cX6_readRider 16 = .ok (.getfield 16, 3) := by decide +kernel
theorem dX6_readRider_19 : decode cX6_readRider 19 = .ok (.aload_n 0, 1) := by decide +kernel
theorem dX6_readRider_20 : decode cX6_readRider 20 = .ok (.getfield 77, 3) := by decide +kernel
theorem dX6_readRider_23 : decode cX6_readRider 23 = .ok (.iaload, 1) := by decide +kernel
theorem dX6_readRider_24 : decode cX6_readRider 24 = .ok (.goto 4, 3) := by decide +kernel
theorem dX6_readRider_27 : decode cX6_readRider 27 = .ok (.iconst 0, 1) := by decide +kernel
theorem dX6_readRider_28 : decode cX6_readRider 28 = .ok (.istore_n 3, 1) := by decide +kernel
theorem dX6_readRider_29 : decode cX6_readRider 29 = .ok (.aload_n 0, 1) := by decide +kernel
theorem dX6_readRider_30 : decode cX6_readRider 30 = .ok (.getfield 37, 3) := by decide +kernel
theorem dX6_readRider_33 : decode cX6_readRider 33 = .ok (.iload_n 2, 1) := by decide +kernel
theorem dX6_readRider_34 : decode cX6_readRider 34 = .ok (.iload_n 3, 1) := by decide +kernel
theorem dX6_readRider_35 : decode cX6_readRider 35 = .ok (.bipush 114, 2) := by decide +kernel
theorem dX6_readRider_37 : decode cX6_readRider 37 = .ok (.if_icmp .ne 7, 3) := by decide +kernel
theorem dX6_readRider_40 : decode cX6_readRider 40 = .ok (.iconst 0, 1) := by decide +kernel
theorem dX6_readRider_41 : decode cX6_readRider 41 = .ok (.goto 25, 3) := by decide +kernel
theorem dX6_readRider_44 : decode cX6_readRider 44 = .ok (.iload_n 3, 1) := by decide +kernel
theorem dX6_readRider_45 : decode cX6_readRider 45 = .ok (.bipush 110, 2) := by decide +kernel
theorem dX6_readRider_47 : decode cX6_readRider 47 = .ok (.if_icmp .ne 7, 3) := by decide +kernel
theorem dX6_readRider_50 : decode cX6_readRider 50 = .ok (.iconst 1, 1) := by decide +kernel
theorem dX6_readRider_51 : decode cX6_readRider 51 = .ok (.goto 15, 3) := by decide +kernel
theorem dX6_readRider_54 : decode cX6_readRider 54 = .ok (.iload_n 3, 1) := by decide +kernel
theorem dX6_readRider_55 : decode cX6_readRider 55 = .ok (.bipush 108, 2) := by decide +kernel
theorem dX6_readRider_57 : decode cX6_readRider 57 = .ok (.if_icmp .ne 7, 3) := by decide +kernel
theorem dX6_readRider_60 : decode cX6_readRider 60 = .ok (.iconst 2, 1) := by decide +kernel
theorem dX6_readRider_61 : decode cX6_readRider 61 = .ok (.goto 5, 3) := by decide +kernel
theorem dX6_readRider_64 : decode cX6_readRider 64 = .ok (.bipush (-9), 2) := by decide +kernel
theorem dX6_readRider_66 : decode cX6_readRider 66 = .ok (.iastore, 1) := by decide +kernel
theorem dX6_readRider_67 : decode cX6_readRider 67 = .ok (.aload_n 0, 1) := by decide +kernel
theorem dX6_readRider_68 : decode cX6_readRider 68 = .ok (.getfield 37, 3) := by decide +kernel
theorem dX6_readRider_71 : decode cX6_readRider 71 = .ok (.iload_n 2, 1) := by decide +kernel
theorem dX6_readRider_72 : decode cX6_readRider 72 = .ok (.iaload, 1) := by decide +kernel
theorem dX6_readRider_73 : decode cX6_readRider 73 = .ok (.bipush (-9), 2) := by decide +kernel
theorem dX6_readRider_75 : decode cX6_readRider 75 = .ok (.if_icmp .ne 5, 3) := by decide +kernel
theorem dX6_readRider_78 : decode cX6_readRider 78 = .ok (.iconst 0, 1) := by decide +kernel
theorem dX6_readRider_79 : decode cX6_readRider 79 = .ok (.ireturn, 1) := by decide +kernel
theorem dX6_readRider_80 : decode cX6_readRider 80 = .ok (.aload_n 0, 1) := by decide +kernel
theorem dX6_readRider_81 : decode cX6_readRider 81 = .ok (.dup, 1) := by decide +kernel
theorem dX6_readRider_82 : decode cX6_readRider 82 = .ok (.getfield 77, 3) := by decide +kernel
theorem dX6_readRider_85 : decode cX6_readRider 85 = .ok (.iconst 1, 1) := by decide +kernel
theorem dX6_readRider_86 : decode cX6_readRider 86 = .ok (.iadd, 1) := by decide +kernel
theorem dX6_readRider_87 : decode cX6_readRider 87 = .ok (.putfield 77, 3) := by decide +kernel
theorem dX6_readRider_90 : decode cX6_readRider 90 = .ok (.aload_n 0, 1) := by decide +kernel
theorem dX6_readRider_91 : decode cX6_readRider 91 = .ok (.iload_n 1, 1) := by decide +kernel
theorem dX6_readRider_92 : decode cX6_readRider 92 = .ok (.iconst 0, 1) := by decide +kernel
theorem dX6_readRider_93 : decode cX6_readRider 93 = .ok (.bipush 9, 2) := by decide +kernel
theorem dX6_readRider_95 : decode cX6_readRider 95 = .ok (.invokevirtual 111, 3) := by decide +kernel
theorem dX6_readRider_98 : decode cX6_readRider 98 = .ok (.istore 4, 2) := by decide +kernel
theorem dX6_readRider_100 : decode cX6_readRider 100 = .ok (.iload 4, 2) := by decide +kernel
theorem dX6_readRider_102 : decode cX6_readRider 102 = .ok (.bipush (-9), 2) := by decide +kernel
theorem dX6_readRider_104 : decode cX6_readRider 104 = .ok (.if_icmp .ne 5, 3) := by decide +kernel
theorem dX6_readRider_107 : decode cX6_readRider 107 = .ok (.iconst 0, 1) := by decide +kernel
theorem dX6_readRider_108 : decode cX6_readRider 108 = .ok (.ireturn, 1) := by decide +kernel
theorem dX6_readRider_109 : decode cX6_readRider 109 = .ok (.aload_n 0, 1) := by decide +kernel
theorem dX6_readRider_110 : decode cX6_readRider 110 = .ok (.iload_n 1, 1) := by decide +kernel
theorem dX6_readRider_111 : decode cX6_readRider 111 = .ok (.iconst 0, 1) := by decide +kernel
theorem dX6_readRider_112 : decode cX6_readRider 112 = .ok (.bipush 9, 2) := by decide +kernel
theorem dX6_readRider_114 : decode cX6_readRider 114 = .ok (.invokevirtual 111, 3) := by decide +kernel
theorem dX6_readRider_117 : decode cX6_readRider 117 = .ok (.istore 5, 2) := by decide +kernel
theorem dX6_readRider_119 : decode cX6_readRider 119 = .ok (.iload 5, 2) := by decide +kernel
theorem dX6_readRider_121 : decode cX6_readRider 121 = .ok (.bipush (-9), 2) := by decide +kernel
theorem dX6_readRider_123 : decode cX6_readRider 123 = .ok (.if_icmp .ne 5, 3) := by decide +kernel
theorem dX6_readRider_126 : decode cX6_readRider 126 = .ok (.iconst 0, 1) := by decide +kernel
theorem dX6_readRider_127 : decode cX6_readRider 127 = .ok (.ireturn, 1) := by decide +kernel
theorem dX6_readRider_128 : decode cX6_readRider 128 = .ok (.aload_n 0, 1) := by decide +kernel
theorem dX6_readRider_129 : decode cX6_readRider 129 = .ok (.getfield 37, 3) := by decide +kernel
theorem dX6_readRider_132 : decode cX6_readRider 132 = .ok (.iload_n 2, 1) := by decide +kernel
theorem dX6_readRider_133 : decode cX6_readRider 133 = .ok (.iconst 1, 1) := by decide +kernel
theorem dX6_readRider_134 : decode cX6_readRider 134 = .ok (.iadd, 1) := by decide +kernel
theorem dX6_readRider_135 : decode cX6_readRider 135 = .ok (.bipush 10, 2) := by decide +kernel
theorem dX6_readRider_137 : decode cX6_readRider 137 = .ok (.iload 4, 2) := by decide +kernel
theorem dX6_readRider_139 : decode cX6_readRider 139 = .ok (.imul, 1) := by decide +kernel
theorem dX6_readRider_140 : decode cX6_readRider 140 = .ok (.iload 5, 2) := by decide +kernel
theorem dX6_readRider_142 : decode cX6_readRider 142 = .ok (.iadd, 1) := by decide +kernel
theorem dX6_readRider_143 : decode cX6_readRider 143 = .ok (.iastore, 1) := by decide +kernel
theorem dX6_readRider_144 : decode cX6_readRider 144 = .ok (.aload_n 0, 1) := by decide +kernel
theorem dX6_readRider_145 : decode cX6_readRider 145 = .ok (.getfield 37, 3) := by decide +kernel
theorem dX6_readRider_148 : decode cX6_readRider 148 = .ok (.iload_n 2, 1) := by decide +kernel
theorem dX6_readRider_149 : decode cX6_readRider 149 = .ok (.iconst 2, 1) := by decide +kernel
theorem dX6_readRider_150 : decode cX6_readRider 150 = .ok (.iadd, 1) := by decide +kernel
theorem dX6_readRider_151 : decode cX6_readRider 151 = .ok (.aload_n 0, 1) := by decide +kernel
theorem dX6_readRider_152 : decode cX6_readRider 152 = .ok (.iload_n 1, 1) := by decide +kernel
theorem dX6_readRider_153 : decode cX6_readRider 153 = .ok (.iconst 0, 1) := by decide +kernel
theorem dX6_readRider_154 : decode cX6_readRider 154 = .ok (.bipush 9, 2) := by decide +kernel
theorem dX6_readRider_156 : decode cX6_readRider 156 = .ok (.invokevirtual 111, 3) := by decide +kernel
theorem dX6_readRider_159 : decode cX6_readRider 159 = .ok (.iastore, 1) := by decide +kernel
theorem dX6_readRider_160 : decode cX6_readRider 160 = .ok (.aload_n 0, 1) := by decide +kernel
theorem dX6_readRider_161 : decode cX6_readRider 161 = .ok (.dup, 1) := by decide +kernel
theorem dX6_readRider_162 : decode cX6_readRider 162 = .ok (.getfield 101, 3) := by decide +kernel
theorem dX6_readRider_165 : decode cX6_readRider 165 = .ok (.iconst 1, 1) := by decide +kernel
theorem dX6_readRider_166 : decode cX6_readRider 166 = .ok (.iadd, 1) := by decide +kernel
theorem dX6_readRider_167 : decode cX6_readRider 167 = .ok (.putfield 101, 3) := by decide +kernel
theorem dX6_readRider_170 : decode cX6_readRider 170 = .ok (.aload_n 0, 1) := by decide +kernel
theorem dX6_readRider_171 : decode cX6_readRider 171 = .ok (.getfield 37, 3) := by decide +kernel
theorem dX6_readRider_174 : decode cX6_readRider 174 = .ok (.iload_n 2, 1) := by decide +kernel
theorem dX6_readRider_175 : decode cX6_readRider 175 = .ok (.iconst 2, 1) := by decide +kernel
theorem dX6_readRider_176 : decode cX6_readRider 176 = .ok (.iadd, 1) := by decide +kernel
theorem dX6_readRider_177 : decode cX6_readRider 177 = .ok (.iaload, 1) := by decide +kernel
theorem dX6_readRider_178 : decode cX6_readRider 178 = .ok (.bipush (-9), 2) := by decide +kernel
theorem dX6_readRider_180 : decode cX6_readRider 180 = .ok (.if_icmp .eq 7, 3) := by decide +kernel
theorem dX6_readRider_183 : decode cX6_readRider 183 = .ok (.iconst 1, 1) := by decide +kernel
theorem dX6_readRider_184 : decode cX6_readRider 184 = .ok (.goto 4, 3) := by decide +kernel
theorem dX6_readRider_187 : decode cX6_readRider 187 = .ok (.iconst 0, 1) := by decide +kernel
theorem dX6_readRider_188 : decode cX6_readRider 188 = .ok (.ireturn, 1) := by decide +kernel
theorem dX6_ofPace_0 : decode cX6_ofPace 0 = .ok (.aload_n 0, 1) := by decide +kernel
theorem dX6_ofPace_1 : decode cX6_ofPace 1 = .ok (.iload_n 1, 1) := by decide +kernel
theorem dX6_ofPace_2 : decode cX6_ofPace 2 = .ok (.invokevirtual 118, 3) := by decide +kernel
theorem dX6_ofPace_5 : decode cX6_ofPace 5 = .ok (.ifCond .ne 5, 3) := by decide +kernel
theorem dX6_ofPace_8 : decode cX6_ofPace 8 = .ok (.iconst (-1), 1) := by decide +kernel
theorem dX6_ofPace_9 : decode cX6_ofPace 9 = .ok (.ireturn, 1) := by decide +kernel
theorem dX6_ofPace_10 : decode cX6_ofPace 10 = .ok (.iload_n 2, 1) := by decide +kernel
theorem dX6_ofPace_11 : decode cX6_ofPace 11 = .ok (.ifCond .ne 12, 3) := by decide +kernel
theorem dX6_ofPace_14 : decode cX6_ofPace 14 = .ok (.aload_n 0, 1) := by decide +kernel
theorem dX6_ofPace_15 : decode cX6_ofPace 15 = .ok (.getfield 19, 3) := by decide +kernel
theorem dX6_ofPace_18 : decode cX6_ofPace 18 = .ok (.iload_n 1, 1) := by decide +kernel
theorem dX6_ofPace_19 : decode cX6_ofPace 19 = .ok (.iaload, 1) := by decide +kernel
theorem dX6_ofPace_20 : decode cX6_ofPace 20 = .ok (.goto 19, 3) := by decide +kernel
theorem dX6_ofPace_23 : decode cX6_ofPace 23 = .ok (.iload_n 2, 1) := by decide +kernel
theorem dX6_ofPace_24 : decode cX6_ofPace 24 = .ok (.iconst 1, 1) := by decide +kernel
theorem dX6_ofPace_25 : decode cX6_ofPace 25 = .ok (.if_icmp .ne 12, 3) := by decide +kernel
theorem dX6_ofPace_28 : decode cX6_ofPace 28 = .ok (.aload_n 0, 1) := by decide +kernel
theorem dX6_ofPace_29 : decode cX6_ofPace 29 = .ok (.getfield 22, 3) := by decide +kernel
theorem dX6_ofPace_32 : decode cX6_ofPace 32 = .ok (.iload_n 1, 1) := by decide +kernel
theorem dX6_ofPace_33 : decode cX6_ofPace 33 = .ok (.iaload, 1) := by decide +kernel
theorem dX6_ofPace_34 : decode cX6_ofPace 34 = .ok (.goto 5, 3) := by decide +kernel
theorem dX6_ofPace_37 : decode cX6_ofPace 37 = .ok (.bipush (-2), 2) := by decide +kernel
theorem dX6_ofPace_39 : decode cX6_ofPace 39 = .ok (.ireturn, 1) := by decide +kernel
theorem dX6_ofRider_0 : decode cX6_ofRider 0 = .ok (.aload_n 0, 1) := by decide +kernel
theorem dX6_ofRider_1 : decode cX6_ofRider 1 = .ok (.iload_n 1, 1) := by decide +kernel
theorem dX6_ofRider_2 : decode cX6_ofRider 2 = .ok (.invokevirtual 121, 3) := by decide +kernel
theorem dX6_ofRider_5 : decode cX6_ofRider 5 = .ok (.ifCond .ne 5, 3) := by decide +kernel
theorem dX6_ofRider_8 : decode cX6_ofRider 8 = .ok (.iconst (-1), 1) := by decide +kernel
theorem dX6_ofRider_9 : decode cX6_ofRider 9 = .ok (.ireturn, 1) := by decide +kernel
theorem dX6_ofRider_10 : decode cX6_ofRider 10 = .ok (.iload_n 2, 1) := by decide +kernel
theorem dX6_ofRider_11 : decode cX6_ofRider 11 = .ok (.ifCond .ne 12, 3) := by decide +kernel
theorem dX6_ofRider_14 : decode cX6_ofRider 14 = .ok (.aload_n 0, 1) := by decide +kernel
theorem dX6_ofRider_15 : decode cX6_ofRider 15 = .ok (.getfield 25, 3) := by decide +kernel
theorem dX6_ofRider_18 : decode cX6_ofRider 18 = .ok (.iload_n 1, 1) := by decide +kernel
theorem dX6_ofRider_19 : decode cX6_ofRider 19 = .ok (.iaload, 1) := by decide +kernel
theorem dX6_ofRider_20 : decode cX6_ofRider 20 = .ok (.goto 33, 3) := by decide +kernel
theorem dX6_ofRider_23 : decode cX6_ofRider 23 = .ok (.iload_n 2, 1) := by decide +kernel
theorem dX6_ofRider_24 : decode cX6_ofRider 24 = .ok (.iconst 1, 1) := by decide +kernel
theorem dX6_ofRider_25 : decode cX6_ofRider 25 = .ok (.if_icmp .ne 12, 3) := by decide +kernel
theorem dX6_ofRider_28 : decode cX6_ofRider 28 = .ok (.aload_n 0, 1) := by decide +kernel
theorem dX6_ofRider_29 : decode cX6_ofRider 29 = .ok (.getfield 28, 3) := by decide +kernel
theorem dX6_ofRider_32 : decode cX6_ofRider 32 = .ok (.iload_n 1, 1) := by decide +kernel
theorem dX6_ofRider_33 : decode cX6_ofRider 33 = .ok (.iaload, 1) := by decide +kernel
theorem dX6_ofRider_34 : decode cX6_ofRider 34 = .ok (.goto 19, 3) := by decide +kernel
theorem dX6_ofRider_37 : decode cX6_ofRider 37 = .ok (.iload_n 2, 1) := by decide +kernel
theorem dX6_ofRider_38 : decode cX6_ofRider 38 = .ok (.iconst 2, 1) := by decide +kernel
theorem dX6_ofRider_39 : decode cX6_ofRider 39 = .ok (.if_icmp .ne 12, 3) := by decide +kernel
theorem dX6_ofRider_42 : decode cX6_ofRider 42 = .ok (.aload_n 0, 1) := by decide +kernel
theorem dX6_ofRider_43 : decode cX6_ofRider 43 = .ok (.getfield 31, 3) := by decide +kernel
theorem dX6_ofRider_46 : decode cX6_ofRider 46 = .ok (.iload_n 1, 1) := by decide +kernel
theorem dX6_ofRider_47 : decode cX6_ofRider 47 = .ok (.iaload, 1) := by decide +kernel
theorem dX6_ofRider_48 : decode cX6_ofRider 48 = .ok (.goto 5, 3) := by decide +kernel
theorem dX6_ofRider_51 : decode cX6_ofRider 51 = .ok (.bipush (-2), 2) := by decide +kernel
theorem dX6_ofRider_53 : decode cX6_ofRider 53 = .ok (.ireturn, 1) := by decide +kernel
theorem dX6_scratch_0 : decode cX6_scratch 0 = .ok (.aload_n 0, 1) := by decide +kernel
theorem dX6_scratch_1 : decode cX6_scratch 1 = .ok (.iload_n 1, 1) := by decide +kernel
theorem dX6_scratch_2 : decode cX6_scratch 2 = .ok (.invokevirtual 118, 3) := by decide +kernel
theorem dX6_scratch_5 : decode cX6_scratch 5 = .ok (.ifCond .ne 5, 3) := by decide +kernel
theorem dX6_scratch_8 : decode cX6_scratch 8 = .ok (.iconst (-1), 1) := by decide +kernel
theorem dX6_scratch_9 : decode cX6_scratch 9 = .ok (.ireturn, 1) := by decide +kernel
theorem dX6_scratch_10 : decode cX6_scratch 10 = .ok (.iload_n 2, 1) := by decide +kernel
theorem dX6_scratch_11 : decode cX6_scratch 11 = .ok (.invokestatic 124, 3) := by decide +kernel
theorem dX6_scratch_14 : decode cX6_scratch 14 = .ok (.ifCond .ne 6, 3) := by decide +kernel
theorem dX6_scratch_17 : decode cX6_scratch 17 = .ok (.bipush (-2), 2) := by decide +kernel
theorem dX6_scratch_19 : decode cX6_scratch 19 = .ok (.ireturn, 1) := by decide +kernel
theorem dX6_scratch_20 : decode cX6_scratch 20 = .ok (.aload_n 0, 1) := by decide +kernel
theorem dX6_scratch_21 : decode cX6_scratch 21 = .ok (.getfield 22, 3) := by decide +kernel
theorem dX6_scratch_24 : decode cX6_scratch 24 = .ok (.iload_n 1, 1) := by decide +kernel
theorem dX6_scratch_25 : decode cX6_scratch 25 = .ok (.iaload, 1) := by decide +kernel
theorem dX6_scratch_26 : decode cX6_scratch 26 = .ok (.istore_n 3, 1) := by decide +kernel
theorem dX6_scratch_27 : decode cX6_scratch 27 = .ok (.aload_n 0, 1) := by decide +kernel
theorem dX6_scratch_28 : decode cX6_scratch 28 = .ok (.getfield 22, 3) := by decide +kernel
theorem dX6_scratch_31 : decode cX6_scratch 31 = .ok (.iload_n 1, 1) := by decide +kernel
theorem dX6_scratch_32 : decode cX6_scratch 32 = .ok (.iload_n 2, 1) := by decide +kernel
theorem dX6_scratch_33 : decode cX6_scratch 33 = .ok (.iastore, 1) := by decide +kernel
theorem dX6_scratch_34 : decode cX6_scratch 34 = .ok (.iload_n 3, 1) := by decide +kernel
theorem dX6_scratch_35 : decode cX6_scratch 35 = .ok (.ireturn, 1) := by decide +kernel
theorem dX6_speed_0 : decode cX6_speed 0 = .ok (.aload_n 0, 1) := by decide +kernel
theorem dX6_speed_1 : decode cX6_speed 1 = .ok (.iload_n 1, 1) := by decide +kernel
theorem dX6_speed_2 : decode cX6_speed 2 = .ok (.invokevirtual 121, 3) := by decide +kernel
theorem dX6_speed_5 : decode cX6_speed 5 = .ok (.ifCond .ne 5, 3) := by decide +kernel
theorem dX6_speed_8 : decode cX6_speed 8 = .ok (.iconst (-1), 1) := by decide +kernel
theorem dX6_speed_9 : decode cX6_speed 9 = .ok (.ireturn, 1) := by decide +kernel
theorem dX6_speed_10 : decode cX6_speed 10 = .ok (.iload_n 2, 1) := by decide +kernel
theorem dX6_speed_11 : decode cX6_speed 11 = .ok (.iconst 0, 1) := by decide +kernel
theorem dX6_speed_12 : decode cX6_speed 12 = .ok (.bipush 99, 2) := by decide +kernel
theorem dX6_speed_14 : decode cX6_speed 14 = .ok (.invokestatic 67, 3) := by decide +kernel
theorem dX6_speed_17 : decode cX6_speed 17 = .ok (.ifCond .ne 6, 3) := by decide +kernel
theorem dX6_speed_20 : decode cX6_speed 20 = .ok (.bipush (-2), 2) := by decide +kernel
theorem dX6_speed_22 : decode cX6_speed 22 = .ok (.ireturn, 1) := by decide +kernel
theorem dX6_speed_23 : decode cX6_speed 23 = .ok (.aload_n 0, 1) := by decide +kernel
theorem dX6_speed_24 : decode cX6_speed 24 = .ok (.getfield 28, 3) := by decide +kernel
theorem dX6_speed_27 : decode cX6_speed 27 = .ok (.iload_n 1, 1) := by decide +kernel
theorem dX6_speed_28 : decode cX6_speed 28 = .ok (.iaload, 1) := by decide +kernel
theorem dX6_speed_29 : decode cX6_speed 29 = .ok (.istore_n 3, 1) := by decide +kernel
theorem dX6_speed_30 : decode cX6_speed 30 = .ok (.aload_n 0, 1) := by decide +kernel
theorem dX6_speed_31 : decode cX6_speed 31 = .ok (.getfield 28, 3) := by decide +kernel
theorem dX6_speed_34 : decode cX6_speed 34 = .ok (.iload_n 1, 1) := by decide +kernel
theorem dX6_speed_35 : decode cX6_speed 35 = .ok (.iload_n 2, 1) := by decide +kernel
theorem dX6_speed_36 : decode cX6_speed 36 = .ok (.iastore, 1) := by decide +kernel
theorem dX6_speed_37 : decode cX6_speed 37 = .ok (.iload_n 3, 1) := by decide +kernel
theorem dX6_speed_38 : decode cX6_speed 38 = .ok (.ireturn, 1) := by decide +kernel
theorem dX6_shoe_0 : decode cX6_shoe 0 = .ok (.aload_n 0, 1) := by decide +kernel
theorem dX6_shoe_1 : decode cX6_shoe 1 = .ok (.iload_n 1, 1) := by decide +kernel
theorem dX6_shoe_2 : decode cX6_shoe 2 = .ok (.invokevirtual 121, 3) := by decide +kernel
theorem dX6_shoe_5 : decode cX6_shoe 5 = .ok (.ifCond .ne 5, 3) := by decide +kernel
theorem dX6_shoe_8 : decode cX6_shoe 8 = .ok (.iconst (-1), 1) := by decide +kernel
theorem dX6_shoe_9 : decode cX6_shoe 9 = .ok (.ireturn, 1) := by decide +kernel
theorem dX6_shoe_10 : decode cX6_shoe 10 = .ok (.iload_n 2, 1) := by decide +kernel
theorem dX6_shoe_11 : decode cX6_shoe 11 = .ok (.invokestatic 124, 3) := by decide +kernel
theorem dX6_shoe_14 : decode cX6_shoe 14 = .ok (.ifCond .ne 6, 3) := by decide +kernel
theorem dX6_shoe_17 : decode cX6_shoe 17 = .ok (.bipush (-2), 2) := by decide +kernel
theorem dX6_shoe_19 : decode cX6_shoe 19 = .ok (.ireturn, 1) := by decide +kernel
theorem dX6_shoe_20 : decode cX6_shoe 20 = .ok (.aload_n 0, 1) := by decide +kernel
theorem dX6_shoe_21 : decode cX6_shoe 21 = .ok (.getfield 31, 3) := by decide +kernel
theorem dX6_shoe_24 : decode cX6_shoe 24 = .ok (.iload_n 1, 1) := by decide +kernel
theorem dX6_shoe_25 : decode cX6_shoe 25 = .ok (.iaload, 1) := by decide +kernel
theorem dX6_shoe_26 : decode cX6_shoe 26 = .ok (.istore_n 3, 1) := by decide +kernel
theorem dX6_shoe_27 : decode cX6_shoe 27 = .ok (.aload_n 0, 1) := by decide +kernel
theorem dX6_shoe_28 : decode cX6_shoe 28 = .ok (.getfield 31, 3) := by decide +kernel
theorem dX6_shoe_31 : decode cX6_shoe 31 = .ok (.iload_n 1, 1) := by decide +kernel
theorem dX6_shoe_32 : decode cX6_shoe 32 = .ok (.iload_n 2, 1) := by decide +kernel
theorem dX6_shoe_33 : decode cX6_shoe 33 = .ok (.iastore, 1) := by decide +kernel
theorem dX6_shoe_34 : decode cX6_shoe 34 = .ok (.iload_n 3, 1) := by decide +kernel
theorem dX6_shoe_35 : decode cX6_shoe 35 = .ok (.ireturn, 1) := by decide +kernel
theorem dX6_takesOf_0 : decode cX6_takesOf 0 = .ok (.aload_n 0, 1) := by decide +kernel
theorem dX6_takesOf_1 : decode cX6_takesOf 1 = .ok (.getfield 19, 3) := by decide +kernel
theorem dX6_takesOf_4 : decode cX6_takesOf 4 = .ok (.iload_n 2, 1) := by decide +kernel
theorem dX6_takesOf_5 : decode cX6_takesOf 5 = .ok (.iaload, 1) := by decide +kernel
theorem dX6_takesOf_6 : decode cX6_takesOf 6 = .ok (.iload_n 3, 1) := by decide +kernel
theorem dX6_takesOf_7 : decode cX6_takesOf 7 = .ok (.isub, 1) := by decide +kernel
theorem dX6_takesOf_8 : decode cX6_takesOf 8 = .ok (.aload_n 0, 1) := by decide +kernel
theorem dX6_takesOf_9 : decode cX6_takesOf 9 = .ok (.getfield 31, 3) := by decide +kernel
theorem dX6_takesOf_12 : decode cX6_takesOf 12 = .ok (.iload_n 1, 1) := by decide +kernel
theorem dX6_takesOf_13 : decode cX6_takesOf 13 = .ok (.iaload, 1) := by decide +kernel
theorem dX6_takesOf_14 : decode cX6_takesOf 14 = .ok (.isub, 1) := by decide +kernel
theorem dX6_takesOf_15 : decode cX6_takesOf 15 = .ok (.aload_n 0, 1) := by decide +kernel
theorem dX6_takesOf_16 : decode cX6_takesOf 16 = .ok (.getfield 25, 3) := by decide +kernel
theorem dX6_takesOf_19 : decode cX6_takesOf 19 = .ok (.iload_n 1, 1) := by decide +kernel
theorem dX6_takesOf_20 : decode cX6_takesOf 20 = .ok (.iaload, 1) := by decide +kernel
theorem dX6_takesOf_21 : decode cX6_takesOf 21 = .ok (.iconst 1, 1) := by decide +kernel
theorem dX6_takesOf_22 : decode cX6_takesOf 22 = .ok (.if_icmp .ne 7, 3) := by decide +kernel
theorem dX6_takesOf_25 : decode cX6_takesOf 25 = .ok (.iconst 1, 1) := by decide +kernel
theorem dX6_takesOf_26 : decode cX6_takesOf 26 = .ok (.goto 4, 3) := by decide +kernel
theorem dX6_takesOf_29 : decode cX6_takesOf 29 = .ok (.iconst 0, 1) := by decide +kernel
theorem dX6_takesOf_30 : decode cX6_takesOf 30 = .ok (.isub, 1) := by decide +kernel
theorem dX6_takesOf_31 : decode cX6_takesOf 31 = .ok (.istore 4, 2) := by decide +kernel
theorem dX6_takesOf_33 : decode cX6_takesOf 33 = .ok (.iload 4, 2) := by decide +kernel
theorem dX6_takesOf_35 : decode cX6_takesOf 35 = .ok (.ifCond .ge 7, 3) := by decide +kernel
theorem dX6_takesOf_38 : decode cX6_takesOf 38 = .ok (.iconst 0, 1) := by decide +kernel
theorem dX6_takesOf_39 : decode cX6_takesOf 39 = .ok (.goto 5, 3) := by decide +kernel
theorem dX6_takesOf_42 : decode cX6_takesOf 42 = .ok (.iload 4, 2) := by decide +kernel
theorem dX6_takesOf_44 : decode cX6_takesOf 44 = .ok (.ireturn, 1) := by decide +kernel
theorem dX6_takes_0 : decode cX6_takes 0 = .ok (.aload_n 0, 1) := by decide +kernel
theorem dX6_takes_1 : decode cX6_takes 1 = .ok (.iload_n 1, 1) := by decide +kernel
theorem dX6_takes_2 : decode cX6_takes 2 = .ok (.invokevirtual 121, 3) := by decide +kernel
theorem dX6_takes_5 : decode cX6_takes 5 = .ok (.ifCond .eq 11, 3) := by decide +kernel
theorem dX6_takes_8 : decode cX6_takes 8 = .ok (.aload_n 0, 1) := by decide +kernel
theorem dX6_takes_9 : decode cX6_takes 9 = .ok (.iload_n 2, 1) := by decide +kernel
theorem dX6_takes_10 : decode cX6_takes 10 = .ok (.invokevirtual 118, 3) := by decide +kernel
theorem dX6_takes_13 : decode cX6_takes 13 = .ok (.ifCond .ne 5, 3) := by decide +kernel
theorem dX6_takes_16 : decode cX6_takes 16 = .ok (.iconst (-1), 1) := by decide +kernel
theorem dX6_takes_17 : decode cX6_takes 17 = .ok (.ireturn, 1) := by decide +kernel
theorem dX6_takes_18 : decode cX6_takes 18 = .ok (.iload_n 3, 1) := by decide +kernel
theorem dX6_takes_19 : decode cX6_takes 19 = .ok (.invokestatic 124, 3) := by decide +kernel
theorem dX6_takes_22 : decode cX6_takes 22 = .ok (.ifCond .eq 13, 3) := by decide +kernel
theorem dX6_takes_25 : decode cX6_takes 25 = .ok (.aload_n 0, 1) := by decide +kernel
theorem dX6_takes_26 : decode cX6_takes 26 = .ok (.iload_n 1, 1) := by decide +kernel
theorem dX6_takes_27 : decode cX6_takes 27 = .ok (.iload_n 2, 1) := by decide +kernel
theorem dX6_takes_28 : decode cX6_takes 28 = .ok (.iload_n 3, 1) := by decide +kernel
theorem dX6_takes_29 : decode cX6_takes 29 = .ok (.invokevirtual 127, 3) := by decide +kernel
theorem dX6_takes_32 : decode cX6_takes 32 = .ok (.goto 5, 3) := by decide +kernel
theorem dX6_takes_35 : decode cX6_takes 35 = .ok (.bipush (-2), 2) := by decide +kernel
theorem dX6_takes_37 : decode cX6_takes 37 = .ok (.ireturn, 1) := by decide +kernel
theorem dX6_begin_0 : decode cX6_begin 0 = .ok (.iconst 0, 1) := by decide +kernel
theorem dX6_begin_1 : decode cX6_begin 1 = .ok (.istore_n 1, 1) := by decide +kernel
theorem dX6_begin_2 : decode cX6_begin 2 = .ok (.iload_n 1, 1) := by decide +kernel
theorem dX6_begin_3 : decode cX6_begin 3 = .ok (.aload_n 0, 1) := by decide +kernel
theorem dX6_begin_4 : decode cX6_begin 4 = .ok (.getfield 71, 3) := by decide +kernel
theorem dX6_begin_7 : decode cX6_begin 7 = .ok (.if_icmp .ge 21, 3) := by decide +kernel
theorem dX6_begin_10 : decode cX6_begin 10 = .ok (.aload_n 0, 1) := by decide +kernel
theorem dX6_begin_11 : decode cX6_begin 11 = .ok (.getfield 40, 3) := by decide +kernel
theorem dX6_begin_14 : decode cX6_begin 14 = .ok (.iload_n 1, 1) := by decide +kernel
theorem dX6_begin_15 : decode cX6_begin 15 = .ok (.aload_n 0, 1) := by decide +kernel
theorem dX6_begin_16 : decode cX6_begin 16 = .ok (.getfield 22, 3) := by decide +kernel
theorem dX6_begin_19 : decode cX6_begin 19 = .ok (.iload_n 1, 1) := by decide +kernel
theorem dX6_begin_20 : decode cX6_begin 20 = .ok (.iaload, 1) := by decide +kernel
theorem dX6_begin_21 : decode cX6_begin 21 = .ok (.iastore, 1) := by decide +kernel
theorem dX6_begin_22 : decode cX6_begin 22 = .ok (.iinc 1 1, 3) := by decide +kernel
theorem dX6_begin_25 : decode cX6_begin 25 = .ok (.goto (-23), 3) := by decide +kernel
theorem dX6_begin_28 : decode cX6_begin 28 = .ok (.iconst 0, 1) := by decide +kernel
theorem dX6_begin_29 : decode cX6_begin 29 = .ok (.istore_n 1, 1) := by decide +kernel
theorem dX6_begin_30 : decode cX6_begin 30 = .ok (.iload_n 1, 1) := by decide +kernel
theorem dX6_begin_31 : decode cX6_begin 31 = .ok (.aload_n 0, 1) := by decide +kernel
theorem dX6_begin_32 : decode cX6_begin 32 = .ok (.getfield 74, 3) := by decide +kernel
theorem dX6_begin_35 : decode cX6_begin 35 = .ok (.if_icmp .ge 24, 3) := by decide +kernel
theorem dX6_begin_38 : decode cX6_begin 38 = .ok (.aload_n 0, 1) := by decide +kernel
theorem dX6_begin_39 : decode cX6_begin 39 = .ok (.getfield 43, 3) := by decide +kernel
theorem dX6_begin_42 : decode cX6_begin 42 = .ok (.iload_n 1, 1) := by decide +kernel
theorem dX6_begin_43 : decode cX6_begin 43 = .ok (.iconst 0, 1) := by decide +kernel
theorem dX6_begin_44 : decode cX6_begin 44 = .ok (.iastore, 1) := by decide +kernel
theorem dX6_begin_45 : decode cX6_begin 45 = .ok (.aload_n 0, 1) := by decide +kernel
theorem dX6_begin_46 : decode cX6_begin 46 = .ok (.getfield 46, 3) := by decide +kernel
theorem dX6_begin_49 : decode cX6_begin 49 = .ok (.iload_n 1, 1) := by decide +kernel
theorem dX6_begin_50 : decode cX6_begin 50 = .ok (.bipush (-9), 2) := by decide +kernel
theorem dX6_begin_52 : decode cX6_begin 52 = .ok (.iastore, 1) := by decide +kernel
theorem dX6_begin_53 : decode cX6_begin 53 = .ok (.iinc 1 1, 3) := by decide +kernel
theorem dX6_begin_56 : decode cX6_begin 56 = .ok (.goto (-26), 3) := by decide +kernel
theorem dX6_begin_59 : decode cX6_begin 59 = .ok (.aload_n 0, 1) := by decide +kernel
theorem dX6_begin_60 : decode cX6_begin 60 = .ok (.iconst 0, 1) := by decide +kernel
theorem dX6_begin_61 : decode cX6_begin 61 = .ok (.putfield 130, 3) := by decide +kernel
theorem dX6_begin_64 : decode cX6_begin 64 = .ok (.return_, 1) := by decide +kernel
theorem dX6_isUp_0 : decode cX6_isUp 0 = .ok (.aload_n 0, 1) := by decide +kernel
theorem dX6_isUp_1 : decode cX6_isUp 1 = .ok (.getfield 130, 3) := by decide +kernel
theorem dX6_isUp_4 : decode cX6_isUp 4 = .ok (.iload_n 1, 1) := by decide +kernel
theorem dX6_isUp_5 : decode cX6_isUp 5 = .ok (.ishr, 1) := by decide +kernel
theorem dX6_isUp_6 : decode cX6_isUp 6 = .ok (.iconst 1, 1) := by decide +kernel
theorem dX6_isUp_7 : decode cX6_isUp 7 = .ok (.iand, 1) := by decide +kernel
theorem dX6_isUp_8 : decode cX6_isUp 8 = .ok (.iconst 1, 1) := by decide +kernel
theorem dX6_isUp_9 : decode cX6_isUp 9 = .ok (.if_icmp .ne 7, 3) := by decide +kernel
theorem dX6_isUp_12 : decode cX6_isUp 12 = .ok (.iconst 1, 1) := by decide +kernel
theorem dX6_isUp_13 : decode cX6_isUp 13 = .ok (.goto 4, 3) := by decide +kernel
theorem dX6_isUp_16 : decode cX6_isUp 16 = .ok (.iconst 0, 1) := by decide +kernel
theorem dX6_isUp_17 : decode cX6_isUp 17 = .ok (.ireturn, 1) := by decide +kernel
theorem dX6_tryOnce_0 : decode cX6_tryOnce 0 = .ok (.aload_n 0, 1) := by decide +kernel
theorem dX6_tryOnce_1 : decode cX6_tryOnce 1 = .ok (.getfield 28, 3) := by decide +kernel
theorem dX6_tryOnce_4 : decode cX6_tryOnce 4 = .ok (.iload_n 1, 1) := by decide +kernel
theorem dX6_tryOnce_5 : decode cX6_tryOnce 5 = .ok (.iaload, 1) := by decide +kernel
theorem dX6_tryOnce_6 : decode cX6_tryOnce 6 = .ok (.aload_n 0, 1) := by decide +kernel
theorem dX6_tryOnce_7 : decode cX6_tryOnce 7 = .ok (.getfield 43, 3) := by decide +kernel
theorem dX6_tryOnce_10 : decode cX6_tryOnce 10 = .ok (.iload_n 1, 1) := by decide +kernel
theorem dX6_tryOnce_11 : decode cX6_tryOnce 11 = .ok (.iaload, 1) := by decide +kernel
theorem dX6_tryOnce_12 : decode cX6_tryOnce 12 = .ok (.isub, 1) := by decide +kernel
theorem dX6_tryOnce_13 : decode cX6_tryOnce 13 = .ok (.istore_n 2, 1) := by decide +kernel
theorem dX6_tryOnce_14 : decode cX6_tryOnce 14 = .ok (.iload_n 2, 1) := by decide +kernel
theorem dX6_tryOnce_15 : decode cX6_tryOnce 15 = .ok (.ifCond .ge 7, 3) := by decide +kernel
theorem dX6_tryOnce_18 : decode cX6_tryOnce 18 = .ok (.iconst 0, 1) := by decide +kernel
theorem dX6_tryOnce_19 : decode cX6_tryOnce 19 = .ok (.goto 4, 3) := by decide +kernel
theorem dX6_tryOnce_22 : decode cX6_tryOnce 22 = .ok (.iload_n 2, 1) := by decide +kernel
theorem dX6_tryOnce_23 : decode cX6_tryOnce 23 = .ok (.istore_n 2, 1) := by decide +kernel
theorem dX6_tryOnce_24 : decode cX6_tryOnce 24 = .ok (.aload_n 0, 1) := by decide +kernel
theorem dX6_tryOnce_25 : decode cX6_tryOnce 25 = .ok (.getfield 43, 3) := by decide +kernel
theorem dX6_tryOnce_28 : decode cX6_tryOnce 28 = .ok (.iload_n 1, 1) := by decide +kernel
theorem dX6_tryOnce_29 : decode cX6_tryOnce 29 = .ok (.dup2, 1) := by decide +kernel
theorem dX6_tryOnce_30 : decode cX6_tryOnce 30 = .ok (.iaload, 1) := by decide +kernel
theorem dX6_tryOnce_31 : decode cX6_tryOnce 31 = .ok (.iconst 1, 1) := by decide +kernel
theorem dX6_tryOnce_32 : decode cX6_tryOnce 32 = .ok (.iadd, 1) := by decide +kernel
theorem dX6_tryOnce_33 : decode cX6_tryOnce 33 = .ok (.iastore, 1) := by decide +kernel
theorem dX6_tryOnce_34 : decode cX6_tryOnce 34 = .ok (.iconst 0, 1) := by decide +kernel
theorem dX6_tryOnce_35 : decode cX6_tryOnce 35 = .ok (.istore_n 3, 1) := by decide +kernel
theorem dX6_tryOnce_36 : decode cX6_tryOnce 36 = .ok (.iload_n 3, 1) := by decide +kernel
theorem dX6_tryOnce_37 : decode cX6_tryOnce 37 = .ok (.aload_n 0, 1) := by decide +kernel
theorem dX6_tryOnce_38 : decode cX6_tryOnce 38 = .ok (.getfield 71, 3) := by decide +kernel
theorem dX6_tryOnce_41 : decode cX6_tryOnce 41 = .ok (.if_icmp .ge 40, 3) := by decide +kernel
theorem dX6_tryOnce_44 : decode cX6_tryOnce 44 = .ok (.aload_n 0, 1) := by decide +kernel
theorem dX6_tryOnce_45 : decode cX6_tryOnce 45 = .ok (.iload_n 1, 1) := by decide +kernel
theorem dX6_tryOnce_46 : decode cX6_tryOnce 46 = .ok (.iload_n 3, 1) := by decide +kernel
theorem dX6_tryOnce_47 : decode cX6_tryOnce 47 = .ok (.aload_n 0, 1) := by decide +kernel
theorem dX6_tryOnce_48 : decode cX6_tryOnce 48 = .ok (.getfield 40, 3) := by decide +kernel
theorem dX6_tryOnce_51 : decode cX6_tryOnce 51 = .ok (.iload_n 3, 1) := by decide +kernel
theorem dX6_tryOnce_52 : decode cX6_tryOnce 52 = .ok (.iaload, 1) := by decide +kernel
theorem dX6_tryOnce_53 : decode cX6_tryOnce 53 = .ok (.invokevirtual 127, 3) := by decide +kernel
theorem dX6_tryOnce_56 : decode cX6_tryOnce 56 = .ok (.iload_n 2, 1) := by decide +kernel
theorem dX6_tryOnce_57 : decode cX6_tryOnce 57 = .ok (.if_icmp .gt 24, 3) := by decide +kernel
theorem dX6_tryOnce_60 : decode cX6_tryOnce 60 = .ok (.iload_n 2, 1) := by decide +kernel
theorem dX6_tryOnce_61 : decode cX6_tryOnce 61 = .ok (.aload_n 0, 1) := by decide +kernel
theorem dX6_tryOnce_62 : decode cX6_tryOnce 62 = .ok (.iload_n 1, 1) := by decide +kernel
theorem dX6_tryOnce_63 : decode cX6_tryOnce 63 = .ok (.iload_n 3, 1) := by decide +kernel
theorem dX6_tryOnce_64 : decode cX6_tryOnce 64 = .ok (.aload_n 0, 1) := by decide +kernel
theorem dX6_tryOnce_65 : decode cX6_tryOnce 65 = .ok (.getfield 40, 3) := by decide +kernel
theorem dX6_tryOnce_68 : decode cX6_tryOnce 68 = .ok (.iload_n 3, 1) := by decide +kernel
theorem dX6_tryOnce_69 : decode cX6_tryOnce 69 = .ok (.iaload, 1) := by decide +kernel
theorem dX6_tryOnce_70 : decode cX6_tryOnce 70 = .ok (.invokevirtual 127, 3) := by decide +kernel
theorem dX6_tryOnce_73 : decode cX6_tryOnce 73 = .ok (.isub, 1) := by decide +kernel
theorem dX6_tryOnce_74 : decode cX6_tryOnce 74 = .ok (.istore_n 2, 1) := by decide +kernel
theorem dX6_tryOnce_75 : decode cX6_tryOnce 75 = .ok (.iinc 3 1, 3) := by decide +kernel
theorem dX6_tryOnce_78 : decode cX6_tryOnce 78 = .ok (.goto (-42), 3) := by decide +kernel
theorem dX6_tryOnce_81 : decode cX6_tryOnce 81 = .ok (.aload_n 0, 1) := by decide +kernel
theorem dX6_tryOnce_82 : decode cX6_tryOnce 82 = .ok (.getfield 46, 3) := by decide +kernel
theorem dX6_tryOnce_85 : decode cX6_tryOnce 85 = .ok (.iload_n 1, 1) := by decide +kernel
theorem dX6_tryOnce_86 : decode cX6_tryOnce 86 = .ok (.iload_n 3, 1) := by decide +kernel
theorem dX6_tryOnce_87 : decode cX6_tryOnce 87 = .ok (.iastore, 1) := by decide +kernel
theorem dX6_tryOnce_88 : decode cX6_tryOnce 88 = .ok (.iload_n 3, 1) := by decide +kernel
theorem dX6_tryOnce_89 : decode cX6_tryOnce 89 = .ok (.aload_n 0, 1) := by decide +kernel
theorem dX6_tryOnce_90 : decode cX6_tryOnce 90 = .ok (.getfield 71, 3) := by decide +kernel
theorem dX6_tryOnce_93 : decode cX6_tryOnce 93 = .ok (.if_icmp .ne 16, 3) := by decide +kernel
theorem dX6_tryOnce_96 : decode cX6_tryOnce 96 = .ok (.aload_n 0, 1) := by decide +kernel
theorem dX6_tryOnce_97 : decode cX6_tryOnce 97 = .ok (.dup, 1) := by decide +kernel
theorem dX6_tryOnce_98 : decode cX6_tryOnce 98 = .ok (.getfield 130, 3) := by decide +kernel
theorem dX6_tryOnce_101 : decode cX6_tryOnce 101 = .ok (.iconst 1, 1) := by decide +kernel
theorem dX6_tryOnce_102 : decode cX6_tryOnce 102 = .ok (.iload_n 1, 1) := by decide +kernel
theorem dX6_tryOnce_103 : decode cX6_tryOnce 103 = .ok (.ishl, 1) := by decide +kernel
theorem dX6_tryOnce_104 : decode cX6_tryOnce 104 = .ok (.ior, 1) := by decide +kernel
theorem dX6_tryOnce_105 : decode cX6_tryOnce 105 = .ok (.putfield 130, 3) := by decide +kernel
theorem dX6_tryOnce_108 : decode cX6_tryOnce 108 = .ok (.return_, 1) := by decide +kernel
theorem dX6_tryOnce_109 : decode cX6_tryOnce 109 = .ok (.aload_n 0, 1) := by decide +kernel
theorem dX6_tryOnce_110 : decode cX6_tryOnce 110 = .ok (.getfield 25, 3) := by decide +kernel
theorem dX6_tryOnce_113 : decode cX6_tryOnce 113 = .ok (.iload_n 1, 1) := by decide +kernel
theorem dX6_tryOnce_114 : decode cX6_tryOnce 114 = .ok (.iaload, 1) := by decide +kernel
theorem dX6_tryOnce_115 : decode cX6_tryOnce 115 = .ok (.iconst 2, 1) := by decide +kernel
theorem dX6_tryOnce_116 : decode cX6_tryOnce 116 = .ok (.if_icmp .ne 7, 3) := by decide +kernel
theorem dX6_tryOnce_119 : decode cX6_tryOnce 119 = .ok (.iconst 2, 1) := by decide +kernel
theorem dX6_tryOnce_120 : decode cX6_tryOnce 120 = .ok (.goto 4, 3) := by decide +kernel
theorem dX6_tryOnce_123 : decode cX6_tryOnce 123 = .ok (.iconst 1, 1) := by decide +kernel
theorem dX6_tryOnce_124 : decode cX6_tryOnce 124 = .ok (.istore 4, 2) := by decide +kernel
theorem dX6_tryOnce_126 : decode cX6_tryOnce 126 = .ok (.iconst 0, 1) := by decide +kernel
theorem dX6_tryOnce_127 : decode cX6_tryOnce 127 = .ok (.istore 5, 2) := by decide +kernel
theorem dX6_tryOnce_129 : decode cX6_tryOnce 129 = .ok (.iload 5, 2) := by decide +kernel
theorem dX6_tryOnce_131 : decode cX6_tryOnce 131 = .ok (.iload_n 3, 1) := by decide +kernel
theorem dX6_tryOnce_132 : decode cX6_tryOnce 132 = .ok (.if_icmp .ge 46, 3) := by decide +kernel
theorem dX6_tryOnce_135 : decode cX6_tryOnce 135 = .ok (.aload_n 0, 1) := by decide +kernel
theorem dX6_tryOnce_136 : decode cX6_tryOnce 136 = .ok (.getfield 40, 3) := by decide +kernel
theorem dX6_tryOnce_139 : decode cX6_tryOnce 139 = .ok (.iload 5, 2) := by decide +kernel
theorem dX6_tryOnce_141 : decode cX6_tryOnce 141 = .ok (.aload_n 0, 1) := by decide +kernel
theorem dX6_tryOnce_142 : decode cX6_tryOnce 142 = .ok (.getfield 40, 3) := by decide +kernel
theorem dX6_tryOnce_145 : decode cX6_tryOnce 145 = .ok (.iload 5, 2) := by decide +kernel
theorem dX6_tryOnce_147 : decode cX6_tryOnce 147 = .ok (.iaload, 1) := by decide +kernel
theorem dX6_tryOnce_148 : decode cX6_tryOnce 148 = .ok (.iload 4, 2) := by decide +kernel
theorem dX6_tryOnce_150 : decode cX6_tryOnce 150 = .ok (.iadd, 1) := by decide +kernel
theorem dX6_tryOnce_151 : decode cX6_tryOnce 151 = .ok (.bipush 9, 2) := by decide +kernel
theorem dX6_tryOnce_153 : decode cX6_tryOnce 153 = .ok (.if_icmp .le 8, 3) := by decide +kernel
theorem dX6_tryOnce_156 : decode cX6_tryOnce 156 = .ok (.bipush 9, 2) := by decide +kernel
theorem dX6_tryOnce_158 : decode cX6_tryOnce 158 = .ok (.goto 13, 3) := by decide +kernel
theorem dX6_tryOnce_161 : decode cX6_tryOnce 161 = .ok (.aload_n 0, 1) := by decide +kernel
theorem dX6_tryOnce_162 : decode cX6_tryOnce 162 = .ok (.getfield 40, 3) := by decide +kernel
theorem dX6_tryOnce_165 : decode cX6_tryOnce 165 = .ok (.iload 5, 2) := by decide +kernel
theorem dX6_tryOnce_167 : decode cX6_tryOnce 167 = .ok (.iaload, 1) := by decide +kernel
theorem dX6_tryOnce_168 : decode cX6_tryOnce 168 = .ok (.iload 4, 2) := by decide +kernel
theorem dX6_tryOnce_170 : decode cX6_tryOnce 170 = .ok (.iadd, 1) := by decide +kernel
theorem dX6_tryOnce_171 : decode cX6_tryOnce 171 = .ok (.iastore, 1) := by decide +kernel
theorem dX6_tryOnce_172 : decode cX6_tryOnce 172 = .ok (.iinc 5 1, 3) := by decide +kernel
theorem dX6_tryOnce_175 : decode cX6_tryOnce 175 = .ok (.goto (-46), 3) := by decide +kernel
theorem dX6_tryOnce_178 : decode cX6_tryOnce 178 = .ok (.return_, 1) := by decide +kernel
theorem dX6_rain_0 : decode cX6_rain 0 = .ok (.iconst 0, 1) := by decide +kernel
theorem dX6_rain_1 : decode cX6_rain 1 = .ok (.istore_n 1, 1) := by decide +kernel
theorem dX6_rain_2 : decode cX6_rain 2 = .ok (.iload_n 1, 1) := by decide +kernel
theorem dX6_rain_3 : decode cX6_rain 3 = .ok (.aload_n 0, 1) := by decide +kernel
theorem dX6_rain_4 : decode cX6_rain 4 = .ok (.getfield 71, 3) := by decide +kernel
theorem dX6_rain_7 : decode cX6_rain 7 = .ok (.if_icmp .ge 32, 3) := by decide +kernel
theorem dX6_rain_10 : decode cX6_rain 10 = .ok (.aload_n 0, 1) := by decide +kernel
theorem dX6_rain_11 : decode cX6_rain 11 = .ok (.getfield 40, 3) := by decide +kernel
theorem dX6_rain_14 : decode cX6_rain 14 = .ok (.iload_n 1, 1) := by decide +kernel
theorem dX6_rain_15 : decode cX6_rain 15 = .ok (.dup2, 1) := by decide +kernel
theorem dX6_rain_16 : decode cX6_rain 16 = .ok (.iaload, 1) := by decide +kernel
theorem dX6_rain_17 : decode cX6_rain 17 = .ok (.aload_n 0, 1) := by decide +kernel
theorem dX6_rain_18 : decode cX6_rain 18 = .ok (.getfield 40, 3) := by decide +kernel
theorem dX6_rain_21 : decode cX6_rain 21 = .ok (.iload_n 1, 1) := by decide +kernel
theorem dX6_rain_22 : decode cX6_rain 22 = .ok (.iaload, 1) := by decide +kernel
theorem dX6_rain_23 : decode cX6_rain 23 = .ok (.ifCond .le 7, 3) := by decide +kernel
theorem dX6_rain_26 : decode cX6_rain 26 = .ok (.iconst 1, 1) := by decide +kernel
theorem dX6_rain_27 : decode cX6_rain 27 = .ok (.goto 4, 3) := by decide +kernel
theorem dX6_rain_30 : decode cX6_rain 30 = .ok (.iconst 0, 1) := by decide +kernel
theorem dX6_rain_31 : decode cX6_rain 31 = .ok (.isub, 1) := by decide +kernel
theorem dX6_rain_32 : decode cX6_rain 32 = .ok (.iastore, 1) := by decide +kernel
theorem dX6_rain_33 : decode cX6_rain 33 = .ok (.iinc 1 1, 3) := by decide +kernel
theorem dX6_rain_36 : decode cX6_rain 36 = .ok (.goto (-34), 3) := by decide +kernel
theorem dX6_rain_39 : decode cX6_rain 39 = .ok (.return_, 1) := by decide +kernel
theorem dX6_laySteps_0 : decode cX6_laySteps 0 = .ok (.aload_n 0, 1) := by decide +kernel
theorem dX6_laySteps_1 : decode cX6_laySteps 1 = .ok (.iload_n 1, 1) := by decide +kernel
theorem dX6_laySteps_2 : decode cX6_laySteps 2 = .ok (.iload_n 2, 1) := by decide +kernel
theorem dX6_laySteps_3 : decode cX6_laySteps 3 = .ok (.iload_n 3, 1) := by decide +kernel
theorem dX6_laySteps_4 : decode cX6_laySteps 4 = .ok (.iload 4, 2) := by decide +kernel
theorem dX6_laySteps_6 : decode cX6_laySteps 6 = .ok (.invokevirtual 87, 3) := by decide +kernel
theorem dX6_laySteps_9 : decode cX6_laySteps 9 = .ok (.istore 5, 2) := by decide +kernel
theorem dX6_laySteps_11 : decode cX6_laySteps 11 = .ok (.iload 5, 2) := by decide +kernel
theorem dX6_laySteps_13 : decode cX6_laySteps 13 = .ok (.ifCond .eq 10, 3) := by decide +kernel
theorem dX6_laySteps_16 : decode cX6_laySteps 16 = .ok (.aload_n 0, 1) := by decide +kernel
theorem dX6_laySteps_17 : decode cX6_laySteps 17 = .ok (.iload 5, 2) := by decide +kernel
theorem dX6_laySteps_19 : decode cX6_laySteps 19 = .ok (.invokevirtual 91, 3) := by decide +kernel
theorem dX6_laySteps_22 : decode cX6_laySteps 22 = .ok (.ireturn, 1) := by decide +kernel
theorem dX6_laySteps_23 : decode cX6_laySteps 23 = .ok (.aload_n 0, 1) := by decide +kernel
theorem dX6_laySteps_24 : decode cX6_laySteps 24 = .ok (.getfield 74, 3) := by decide +kernel
theorem dX6_laySteps_27 : decode cX6_laySteps 27 = .ok (.ifCond .ne 6, 3) := by decide +kernel
theorem dX6_laySteps_30 : decode cX6_laySteps 30 = .ok (.bipush (-3), 2) := by decide +kernel
theorem dX6_laySteps_32 : decode cX6_laySteps 32 = .ok (.ireturn, 1) := by decide +kernel
theorem dX6_laySteps_33 : decode cX6_laySteps 33 = .ok (.bipush 60, 2) := by decide +kernel
theorem dX6_laySteps_35 : decode cX6_laySteps 35 = .ok (.iload_n 1, 1) := by decide +kernel
theorem dX6_laySteps_36 : decode cX6_laySteps 36 = .ok (.imul, 1) := by decide +kernel
theorem dX6_laySteps_37 : decode cX6_laySteps 37 = .ok (.iload_n 3, 1) := by decide +kernel
theorem dX6_laySteps_38 : decode cX6_laySteps 38 = .ok (.iadd, 1) := by decide +kernel
theorem dX6_laySteps_39 : decode cX6_laySteps 39 = .ok (.istore 6, 2) := by decide +kernel
theorem dX6_laySteps_41 : decode cX6_laySteps 41 = .ok (.iconst 0, 1) := by decide +kernel
theorem dX6_laySteps_42 : decode cX6_laySteps 42 = .ok (.istore 7, 2) := by decide +kernel
theorem dX6_laySteps_44 : decode cX6_laySteps 44 = .ok (.iload 7, 2) := by decide +kernel
theorem dX6_laySteps_46 : decode cX6_laySteps 46 = .ok (.iload 4, 2) := by decide +kernel
theorem dX6_laySteps_48 : decode cX6_laySteps 48 = .ok (.if_icmp .ge 59, 3) := by decide +kernel
theorem dX6_laySteps_51 : decode cX6_laySteps 51 = .ok (.aload_n 0, 1) := by decide +kernel
theorem dX6_laySteps_52 : decode cX6_laySteps 52 = .ok (.getfield 16, 3) := by decide +kernel
theorem dX6_laySteps_55 : decode cX6_laySteps 55 = .ok (.iload 6, 2) := by decide +kernel
theorem dX6_laySteps_57 : decode cX6_laySteps 57 = .ok (.iload 7, 2) := by decide +kernel
theorem dX6_laySteps_59 : decode cX6_laySteps 59 = .ok (.iadd, 1) := by decide +kernel
theorem dX6_laySteps_60 : decode cX6_laySteps 60 = .ok (.iaload, 1) := by decide +kernel
theorem dX6_laySteps_61 : decode cX6_laySteps 61 = .ok (.iconst 5, 1) := by decide +kernel
theorem dX6_laySteps_62 : decode cX6_laySteps 62 = .ok (.if_icmp .eq 22, 3) := by decide +kernel
theorem dX6_laySteps_65 : decode cX6_laySteps 65 = .ok (.aload_n 0, 1) := by decide +kernel
theorem dX6_laySteps_66 : decode cX6_laySteps 66 = .ok (.aload_n 0, 1) := by decide +kernel
theorem dX6_laySteps_67 : decode cX6_laySteps 67 = .ok (.getfield 16, 3) := by decide +kernel
theorem dX6_laySteps_70 : decode cX6_laySteps 70 = .ok (.iload 6, 2) := by decide +kernel
theorem dX6_laySteps_72 : decode cX6_laySteps 72 = .ok (.iload 7, 2) := by decide +kernel
theorem dX6_laySteps_74 : decode cX6_laySteps 74 = .ok (.iadd, 1) := by decide +kernel
theorem dX6_laySteps_75 : decode cX6_laySteps 75 = .ok (.iaload, 1) := by decide +kernel
theorem dX6_laySteps_76 : decode cX6_laySteps 76 = .ok (.invokevirtual 121, 3) := by decide +kernel
theorem dX6_laySteps_79 : decode cX6_laySteps 79 = .ok (.ifCond .ne 5, 3) := by decide +kernel
theorem dX6_laySteps_82 : decode cX6_laySteps 82 = .ok (.iconst (-1), 1) := by decide +kernel
theorem dX6_laySteps_83 : decode cX6_laySteps 83 = .ok (.ireturn, 1) := by decide +kernel
theorem dX6_laySteps_84 : decode cX6_laySteps 84 = .ok (.aload_n 0, 1) := by decide +kernel
theorem dX6_laySteps_85 : decode cX6_laySteps 85 = .ok (.getfield 49, 3) := by decide +kernel
theorem dX6_laySteps_88 : decode cX6_laySteps 88 = .ok (.iload 7, 2) := by decide +kernel
theorem dX6_laySteps_90 : decode cX6_laySteps 90 = .ok (.aload_n 0, 1) := by decide +kernel
theorem dX6_laySteps_91 : decode cX6_laySteps 91 = .ok (.getfield 16, 3) := by decide +kernel
theorem dX6_laySteps_94 : decode cX6_laySteps 94 = .ok (.iload 6, 2) := by decide +kernel
theorem dX6_laySteps_96 : decode cX6_laySteps 96 = .ok (.iload 7, 2) := by decide +kernel
theorem dX6_laySteps_98 : decode cX6_laySteps 98 = .ok (.iadd, 1) := by decide +kernel
theorem dX6_laySteps_99 : decode cX6_laySteps 99 = .ok (.iaload, 1) := by decide +kernel
theorem dX6_laySteps_100 : decode cX6_laySteps 100 = .ok (.iastore, 1) := by decide +kernel
theorem dX6_laySteps_101 : decode cX6_laySteps 101 = .ok (.iinc 7 1, 3) := by decide +kernel
theorem dX6_laySteps_104 : decode cX6_laySteps 104 = .ok (.goto (-60), 3) := by decide +kernel
theorem dX6_laySteps_107 : decode cX6_laySteps 107 = .ok (.aload_n 0, 1) := by decide +kernel
theorem dX6_laySteps_108 : decode cX6_laySteps 108 = .ok (.iload 4, 2) := by decide +kernel
theorem dX6_laySteps_110 : decode cX6_laySteps 110 = .ok (.putfield 133, 3) := by decide +kernel
theorem dX6_laySteps_113 : decode cX6_laySteps 113 = .ok (.iconst 0, 1) := by decide +kernel
theorem dX6_laySteps_114 : decode cX6_laySteps 114 = .ok (.ireturn, 1) := by decide +kernel
theorem dX6_go_0 : decode cX6_go 0 = .ok (.aload_n 0, 1) := by decide +kernel
theorem dX6_go_1 : decode cX6_go 1 = .ok (.invokevirtual 136, 3) := by decide +kernel
theorem dX6_go_4 : decode cX6_go 4 = .ok (.aload_n 0, 1) := by decide +kernel
theorem dX6_go_5 : decode cX6_go 5 = .ok (.bipush (-9), 2) := by decide +kernel
theorem dX6_go_7 : decode cX6_go 7 = .ok (.putfield 139, 3) := by decide +kernel
theorem dX6_go_10 : decode cX6_go 10 = .ok (.iconst 0, 1) := by decide +kernel
theorem dX6_go_11 : decode cX6_go 11 = .ok (.istore_n 1, 1) := by decide +kernel
theorem dX6_go_12 : decode cX6_go 12 = .ok (.iload_n 1, 1) := by decide +kernel
theorem dX6_go_13 : decode cX6_go 13 = .ok (.aload_n 0, 1) := by decide +kernel
theorem dX6_go_14 : decode cX6_go 14 = .ok (.getfield 133, 3) := by decide +kernel
theorem dX6_go_17 : decode cX6_go 17 = .ok (.if_icmp .ge 79, 3) := by decide +kernel
theorem dX6_go_20 : decode cX6_go 20 = .ok (.aload_n 0, 1) := by decide +kernel
theorem dX6_go_21 : decode cX6_go 21 = .ok (.getfield 49, 3) := by decide +kernel
theorem dX6_go_24 : decode cX6_go 24 = .ok (.iload_n 1, 1) := by decide +kernel
theorem dX6_go_25 : decode cX6_go 25 = .ok (.iaload, 1) := by decide +kernel
theorem dX6_go_26 : decode cX6_go 26 = .ok (.iconst 5, 1) := by decide +kernel
theorem dX6_go_27 : decode cX6_go 27 = .ok (.if_icmp .ne 10, 3) := by decide +kernel
theorem dX6_go_30 : decode cX6_go 30 = .ok (.aload_n 0, 1) := by decide +kernel
theorem dX6_go_31 : decode cX6_go 31 = .ok (.invokevirtual 142, 3) := by decide +kernel
theorem dX6_go_34 : decode cX6_go 34 = .ok (.goto 56, 3) := by decide +kernel
theorem dX6_go_37 : decode cX6_go 37 = .ok (.aload_n 0, 1) := by decide +kernel
theorem dX6_go_38 : decode cX6_go 38 = .ok (.aload_n 0, 1) := by decide +kernel
theorem dX6_go_39 : decode cX6_go 39 = .ok (.getfield 49, 3) := by decide +kernel
theorem dX6_go_42 : decode cX6_go 42 = .ok (.iload_n 1, 1) := by decide +kernel
theorem dX6_go_43 : decode cX6_go 43 = .ok (.iaload, 1) := by decide +kernel
theorem dX6_go_44 : decode cX6_go 44 = .ok (.invokevirtual 145, 3) := by decide +kernel
theorem dX6_go_47 : decode cX6_go 47 = .ok (.ifCond .eq 5, 3) := by decide +kernel
theorem dX6_go_50 : decode cX6_go 50 = .ok (.iload_n 1, 1) := by decide +kernel
theorem dX6_go_51 : decode cX6_go 51 = .ok (.ireturn, 1) := by decide +kernel
theorem dX6_go_52 : decode cX6_go 52 = .ok (.aload_n 0, 1) := by decide +kernel
theorem dX6_go_53 : decode cX6_go 53 = .ok (.aload_n 0, 1) := by decide +kernel
theorem dX6_go_54 : decode cX6_go 54 = .ok (.getfield 49, 3) := by decide +kernel
theorem dX6_go_57 : decode cX6_go 57 = .ok (.iload_n 1, 1) := by decide +kernel
theorem dX6_go_58 : decode cX6_go 58 = .ok (.iaload, 1) := by decide +kernel
theorem dX6_go_59 : decode cX6_go 59 = .ok (.invokevirtual 148, 3) := by decide +kernel
theorem dX6_go_62 : decode cX6_go 62 = .ok (.aload_n 0, 1) := by decide +kernel
theorem dX6_go_63 : decode cX6_go 63 = .ok (.aload_n 0, 1) := by decide +kernel
theorem dX6_go_64 : decode cX6_go 64 = .ok (.getfield 139, 3) := by decide +kernel
theorem dX6_go_67 : decode cX6_go 67 = .ok (.bipush (-9), 2) := by decide +kernel
theorem dX6_go_69 : decode cX6_go 69 = .ok (.if_icmp .ne 14, 3) := by decide +kernel
theorem dX6_go_72 : decode cX6_go 72 = .ok (.aload_n 0, 1) := by decide +kernel
theorem dX6_go_73 : decode cX6_go 73 = .ok (.getfield 130, 3) := by decide +kernel
theorem dX6_go_76 : decode cX6_go 76 = .ok (.ifCond .eq 7, 3) := by decide +kernel
theorem dX6_go_79 : decode cX6_go 79 = .ok (.iload_n 1, 1) := by decide +kernel
theorem dX6_go_80 : decode cX6_go 80 = .ok (.goto 7, 3) := by decide +kernel
theorem dX6_go_83 : decode cX6_go 83 = .ok (.aload_n 0, 1) := by decide +kernel
theorem dX6_go_84 : decode cX6_go 84 = .ok (.getfield 139, 3) := by decide +kernel
theorem dX6_go_87 : decode cX6_go 87 = .ok (.putfield 139, 3) := by decide +kernel
theorem dX6_go_90 : decode cX6_go 90 = .ok (.iinc 1 1, 3) := by decide +kernel
theorem dX6_go_93 : decode cX6_go 93 = .ok (.goto (-81), 3) := by decide +kernel
theorem dX6_go_96 : decode cX6_go 96 = .ok (.bipush (-9), 2) := by decide +kernel
theorem dX6_go_98 : decode cX6_go 98 = .ok (.ireturn, 1) := by decide +kernel
theorem dX6_isRow_0 : decode cX6_isRow 0 = .ok (.iload_n 0, 1) := by decide +kernel
theorem dX6_isRow_1 : decode cX6_isRow 1 = .ok (.invokestatic 84, 3) := by decide +kernel
theorem dX6_isRow_4 : decode cX6_isRow 4 = .ok (.ifCond .eq 17, 3) := by decide +kernel
theorem dX6_isRow_7 : decode cX6_isRow 7 = .ok (.iload_n 1, 1) := by decide +kernel
theorem dX6_isRow_8 : decode cX6_isRow 8 = .ok (.iconst 0, 1) := by decide +kernel
theorem dX6_isRow_9 : decode cX6_isRow 9 = .ok (.bipush 30, 2) := by decide +kernel
theorem dX6_isRow_11 : decode cX6_isRow 11 = .ok (.invokestatic 67, 3) := by decide +kernel
theorem dX6_isRow_14 : decode cX6_isRow 14 = .ok (.ifCond .eq 7, 3) := by decide +kernel
theorem dX6_isRow_17 : decode cX6_isRow 17 = .ok (.iconst 1, 1) := by decide +kernel
theorem dX6_isRow_18 : decode cX6_isRow 18 = .ok (.goto 4, 3) := by decide +kernel
theorem dX6_isRow_21 : decode cX6_isRow 21 = .ok (.iconst 0, 1) := by decide +kernel
theorem dX6_isRow_22 : decode cX6_isRow 22 = .ok (.ireturn, 1) := by decide +kernel
theorem dX6_days_0 : decode cX6_days 0 = .ok (.aload_n 0, 1) := by decide +kernel
theorem dX6_days_1 : decode cX6_days 1 = .ok (.iconst 0, 1) := by decide +kernel
theorem dX6_days_2 : decode cX6_days 2 = .ok (.putfield 61, 3) := by decide +kernel
theorem dX6_days_5 : decode cX6_days 5 = .ok (.iload_n 1, 1) := by decide +kernel
theorem dX6_days_6 : decode cX6_days 6 = .ok (.invokestatic 80, 3) := by decide +kernel
theorem dX6_days_9 : decode cX6_days 9 = .ok (.ifCond .ne 5, 3) := by decide +kernel
theorem dX6_days_12 : decode cX6_days 12 = .ok (.iconst (-1), 1) := by decide +kernel
theorem dX6_days_13 : decode cX6_days 13 = .ok (.ireturn, 1) := by decide +kernel
theorem dX6_days_14 : decode cX6_days 14 = .ok (.iload_n 2, 1) := by decide +kernel
theorem dX6_days_15 : decode cX6_days 15 = .ok (.iload 4, 2) := by decide +kernel
theorem dX6_days_17 : decode cX6_days 17 = .ok (.invokestatic 152, 3) := by decide +kernel
theorem dX6_days_20 : decode cX6_days 20 = .ok (.ifCond .eq 37, 3) := by decide +kernel
theorem dX6_days_23 : decode cX6_days 23 = .ok (.iload 5, 2) := by decide +kernel
theorem dX6_days_25 : decode cX6_days 25 = .ok (.iconst 0, 1) := by decide +kernel
theorem dX6_days_26 : decode cX6_days 26 = .ok (.iconst 2, 1) := by decide +kernel
theorem dX6_days_27 : decode cX6_days 27 = .ok (.invokestatic 67, 3) := by decide +kernel
theorem dX6_days_30 : decode cX6_days 30 = .ok (.ifCond .ne 30, 3) := by decide +kernel
theorem dX6_days_33 : decode cX6_days 33 = .ok (.iload 5, 2) := by decide +kernel
theorem dX6_days_35 : decode cX6_days 35 = .ok (.bipush 10, 2) := by decide +kernel
theorem dX6_days_37 : decode cX6_days 37 = .ok (.bipush 17, 2) := by decide +kernel
theorem dX6_days_39 : decode cX6_days 39 = .ok (.invokestatic 67, 3) := by decide +kernel
theorem dX6_days_42 : decode cX6_days 42 = .ok (.ifCond .ne 18, 3) := by decide +kernel
theorem dX6_days_45 : decode cX6_days 45 = .ok (.iload 5, 2) := by decide +kernel
theorem dX6_days_47 : decode cX6_days 47 = .ok (.bipush 20, 2) := by decide +kernel
theorem dX6_days_49 : decode cX6_days 49 = .ok (.bipush 24, 2) := by decide +kernel
theorem dX6_days_51 : decode cX6_days 51 = .ok (.invokestatic 67, 3) := by decide +kernel
theorem dX6_days_54 : decode cX6_days 54 = .ok (.ifCond .ne 6, 3) := by decide +kernel
theorem dX6_days_57 : decode cX6_days 57 = .ok (.bipush (-2), 2) := by decide +kernel
theorem dX6_days_59 : decode cX6_days 59 = .ok (.ireturn, 1) := by decide +kernel
theorem dX6_days_60 : decode cX6_days 60 = .ok (.aload_n 0, 1) := by decide +kernel
theorem dX6_days_61 : decode cX6_days 61 = .ok (.iload_n 1, 1) := by decide +kernel
theorem dX6_days_62 : decode cX6_days 62 = .ok (.iload_n 2, 1) := by decide +kernel
theorem dX6_days_63 : decode cX6_days 63 = .ok (.iload_n 3, 1) := by decide +kernel
theorem dX6_days_64 : decode cX6_days 64 = .ok (.iload 4, 2) := by decide +kernel
theorem dX6_days_66 : decode cX6_days 66 = .ok (.invokevirtual 155, 3) := by decide +kernel
theorem dX6_days_69 : decode cX6_days 69 = .ok (.istore 6, 2) := by decide +kernel
theorem dX6_days_71 : decode cX6_days 71 = .ok (.iload 6, 2) := by decide +kernel
theorem dX6_days_73 : decode cX6_days 73 = .ok (.ifCond .eq 6, 3) := by decide +kernel
theorem dX6_days_76 : decode cX6_days 76 = .ok (.iload 6, 2) := by decide +kernel
theorem dX6_days_78 : decode cX6_days 78 = .ok (.ireturn, 1) := by decide +kernel
theorem dX6_days_79 : decode cX6_days 79 = .ok (.aload_n 0, 1) := by decide +kernel
theorem dX6_days_80 : decode cX6_days 80 = .ok (.invokevirtual 158, 3) := by decide +kernel
theorem dX6_days_83 : decode cX6_days 83 = .ok (.istore 7, 2) := by decide +kernel
theorem dX6_days_85 : decode cX6_days 85 = .ok (.iload 5, 2) := by decide +kernel
theorem dX6_days_87 : decode cX6_days 87 = .ok (.iconst 1, 1) := by decide +kernel
theorem dX6_days_88 : decode cX6_days 88 = .ok (.if_icmp .ne 6, 3) := by decide +kernel
theorem dX6_days_91 : decode cX6_days 91 = .ok (.iload 7, 2) := by decide +kernel
theorem dX6_days_93 : decode cX6_days 93 = .ok (.ireturn, 1) := by decide +kernel
theorem dX6_days_94 : decode cX6_days 94 = .ok (.iload 7, 2) := by decide +kernel
theorem dX6_days_96 : decode cX6_days 96 = .ok (.bipush (-9), 2) := by decide +kernel
theorem dX6_days_98 : decode cX6_days 98 = .ok (.if_icmp .ne 12, 3) := by decide +kernel
theorem dX6_days_101 : decode cX6_days 101 = .ok (.aload_n 0, 1) := by decide +kernel
theorem dX6_days_102 : decode cX6_days 102 = .ok (.iload 5, 2) := by decide +kernel
theorem dX6_days_104 : decode cX6_days 104 = .ok (.invokevirtual 162, 3) := by decide +kernel
theorem dX6_days_107 : decode cX6_days 107 = .ok (.goto 8, 3) := by decide +kernel
theorem dX6_days_110 : decode cX6_days 110 = .ok (.bipush (-100), 2) := by decide +kernel
theorem dX6_days_112 : decode cX6_days 112 = .ok (.iload 7, 2) := by decide +kernel
theorem dX6_days_114 : decode cX6_days 114 = .ok (.isub, 1) := by decide +kernel
theorem dX6_days_115 : decode cX6_days 115 = .ok (.ireturn, 1) := by decide +kernel
theorem dX6_tellDays_0 : decode cX6_tellDays 0 = .ok (.iload_n 1, 1) := by decide +kernel
theorem dX6_tellDays_1 : decode cX6_tellDays 1 = .ok (.bipush 10, 2) := by decide +kernel
theorem dX6_tellDays_3 : decode cX6_tellDays 3 = .ok (.if_icmp .ge 19, 3) := by decide +kernel
theorem dX6_tellDays_6 : decode cX6_tellDays 6 = .ok (.iload_n 1, 1) := by decide +kernel
theorem dX6_tellDays_7 : decode cX6_tellDays 7 = .ok (.ifCond .ne 10, 3) := by decide +kernel
theorem dX6_tellDays_10 : decode cX6_tellDays 10 = .ok (.aload_n 0, 1) := by decide +kernel
theorem dX6_tellDays_11 : decode cX6_tellDays 11 = .ok (.getfield 130, 3) := by decide +kernel
theorem dX6_tellDays_14 : decode cX6_tellDays 14 = .ok (.goto 7, 3) := by decide +kernel
theorem dX6_tellDays_17 : decode cX6_tellDays 17 = .ok (.aload_n 0, 1) := by decide +kernel
theorem dX6_tellDays_18 : decode cX6_tellDays 18 = .ok (.getfield 139, 3) := by decide +kernel
theorem dX6_tellDays_21 : decode cX6_tellDays 21 = .ok (.ireturn, 1) := by decide +kernel
theorem dX6_tellDays_22 : decode cX6_tellDays 22 = .ok (.iload_n 1, 1) := by decide +kernel
theorem dX6_tellDays_23 : decode cX6_tellDays 23 = .ok (.bipush 20, 2) := by decide +kernel
theorem dX6_tellDays_25 : decode cX6_tellDays 25 = .ok (.if_icmp .ge 29, 3) := by decide +kernel
theorem dX6_tellDays_28 : decode cX6_tellDays 28 = .ok (.aload_n 0, 1) := by decide +kernel
theorem dX6_tellDays_29 : decode cX6_tellDays 29 = .ok (.iload_n 1, 1) := by decide +kernel
theorem dX6_tellDays_30 : decode cX6_tellDays 30 = .ok (.bipush 10, 2) := by decide +kernel
theorem dX6_tellDays_32 : decode cX6_tellDays 32 = .ok (.isub, 1) := by decide +kernel
theorem dX6_tellDays_33 : decode cX6_tellDays 33 = .ok (.invokevirtual 118, 3) := by decide +kernel
theorem dX6_tellDays_36 : decode cX6_tellDays 36 = .ok (.ifCond .eq 15, 3) := by decide +kernel
theorem dX6_tellDays_39 : decode cX6_tellDays 39 = .ok (.aload_n 0, 1) := by decide +kernel
theorem dX6_tellDays_40 : decode cX6_tellDays 40 = .ok (.getfield 40, 3) := by decide +kernel
theorem dX6_tellDays_43 : decode cX6_tellDays 43 = .ok (.iload_n 1, 1) := by decide +kernel
theorem dX6_tellDays_44 : decode cX6_tellDays 44 = .ok (.bipush 10, 2) := by decide +kernel
theorem dX6_tellDays_46 : decode cX6_tellDays 46 = .ok (.isub, 1) := by decide +kernel
theorem dX6_tellDays_47 : decode cX6_tellDays 47 = .ok (.iaload, 1) := by decide +kernel
theorem dX6_tellDays_48 : decode cX6_tellDays 48 = .ok (.goto 5, 3) := by decide +kernel
theorem dX6_tellDays_51 : decode cX6_tellDays 51 = .ok (.bipush (-9), 2) := by decide +kernel
theorem dX6_tellDays_53 : decode cX6_tellDays 53 = .ok (.ireturn, 1) := by decide +kernel
theorem dX6_tellDays_54 : decode cX6_tellDays 54 = .ok (.aload_n 0, 1) := by decide +kernel
theorem dX6_tellDays_55 : decode cX6_tellDays 55 = .ok (.iload_n 1, 1) := by decide +kernel
theorem dX6_tellDays_56 : decode cX6_tellDays 56 = .ok (.bipush 20, 2) := by decide +kernel
theorem dX6_tellDays_58 : decode cX6_tellDays 58 = .ok (.isub, 1) := by decide +kernel
theorem dX6_tellDays_59 : decode cX6_tellDays 59 = .ok (.invokevirtual 121, 3) := by decide +kernel
theorem dX6_tellDays_62 : decode cX6_tellDays 62 = .ok (.ifCond .eq 15, 3) := by decide +kernel
theorem dX6_tellDays_65 : decode cX6_tellDays 65 = .ok (.aload_n 0, 1) := by decide +kernel
theorem dX6_tellDays_66 : decode cX6_tellDays 66 = .ok (.getfield 46, 3) := by decide +kernel
theorem dX6_tellDays_69 : decode cX6_tellDays 69 = .ok (.iload_n 1, 1) := by decide +kernel
theorem dX6_tellDays_70 : decode cX6_tellDays 70 = .ok (.bipush 20, 2) := by decide +kernel
theorem dX6_tellDays_72 : decode cX6_tellDays 72 = .ok (.isub, 1) := by decide +kernel
theorem dX6_tellDays_73 : decode cX6_tellDays 73 = .ok (.iaload, 1) := by decide +kernel
theorem dX6_tellDays_74 : decode cX6_tellDays 74 = .ok (.goto 5, 3) := by decide +kernel
theorem dX6_tellDays_77 : decode cX6_tellDays 77 = .ok (.bipush (-9), 2) := by decide +kernel
theorem dX6_tellDays_79 : decode cX6_tellDays 79 = .ok (.ireturn, 1) := by decide +kernel
theorem dX6_layRow_0 : decode cX6_layRow 0 = .ok (.iload_n 1, 1) := by decide +kernel
theorem dX6_layRow_1 : decode cX6_layRow 1 = .ok (.istore_n 3, 1) := by decide +kernel
theorem dX6_layRow_2 : decode cX6_layRow 2 = .ok (.iload_n 2, 1) := by decide +kernel
theorem dX6_layRow_3 : decode cX6_layRow 3 = .ok (.iconst 1, 1) := by decide +kernel
theorem dX6_layRow_4 : decode cX6_layRow 4 = .ok (.isub, 1) := by decide +kernel
theorem dX6_layRow_5 : decode cX6_layRow 5 = .ok (.istore 4, 2) := by decide +kernel
theorem dX6_layRow_7 : decode cX6_layRow 7 = .ok (.iload 4, 2) := by decide +kernel
theorem dX6_layRow_9 : decode cX6_layRow 9 = .ok (.ifCond .lt 29, 3) := by decide +kernel
theorem dX6_layRow_12 : decode cX6_layRow 12 = .ok (.aload_n 0, 1) := by decide +kernel
theorem dX6_layRow_13 : decode cX6_layRow 13 = .ok (.getfield 49, 3) := by decide +kernel
theorem dX6_layRow_16 : decode cX6_layRow 16 = .ok (.iload 4, 2) := by decide +kernel
theorem dX6_layRow_18 : decode cX6_layRow 18 = .ok (.iload_n 3, 1) := by decide +kernel
theorem dX6_layRow_19 : decode cX6_layRow 19 = .ok (.aload_n 0, 1) := by decide +kernel
theorem dX6_layRow_20 : decode cX6_layRow 20 = .ok (.getfield 74, 3) := by decide +kernel
theorem dX6_layRow_23 : decode cX6_layRow 23 = .ok (.irem, 1) := by decide +kernel
theorem dX6_layRow_24 : decode cX6_layRow 24 = .ok (.iastore, 1) := by decide +kernel
theorem dX6_layRow_25 : decode cX6_layRow 25 = .ok (.iload_n 3, 1) := by decide +kernel
theorem dX6_layRow_26 : decode cX6_layRow 26 = .ok (.aload_n 0, 1) := by decide +kernel
theorem dX6_layRow_27 : decode cX6_layRow 27 = .ok (.getfield 74, 3) := by decide +kernel
theorem dX6_layRow_30 : decode cX6_layRow 30 = .ok (.idiv, 1) := by decide +kernel
theorem dX6_layRow_31 : decode cX6_layRow 31 = .ok (.istore_n 3, 1) := by decide +kernel
theorem dX6_layRow_32 : decode cX6_layRow 32 = .ok (.iinc 4 (-1), 3) := by decide +kernel
theorem dX6_layRow_35 : decode cX6_layRow 35 = .ok (.goto (-28), 3) := by decide +kernel
theorem dX6_layRow_38 : decode cX6_layRow 38 = .ok (.aload_n 0, 1) := by decide +kernel
theorem dX6_layRow_39 : decode cX6_layRow 39 = .ok (.iload_n 2, 1) := by decide +kernel
theorem dX6_layRow_40 : decode cX6_layRow 40 = .ok (.putfield 133, 3) := by decide +kernel
theorem dX6_layRow_43 : decode cX6_layRow 43 = .ok (.return_, 1) := by decide +kernel
theorem dX6_findFewest_0 : decode cX6_findFewest 0 = .ok (.aload_n 0, 1) := by decide +kernel
theorem dX6_findFewest_1 : decode cX6_findFewest 1 = .ok (.bipush (-9), 2) := by decide +kernel
theorem dX6_findFewest_3 : decode cX6_findFewest 3 = .ok (.putfield 165, 3) := by decide +kernel
theorem dX6_findFewest_6 : decode cX6_findFewest 6 = .ok (.iconst 1, 1) := by decide +kernel
theorem dX6_findFewest_7 : decode cX6_findFewest 7 = .ok (.istore_n 2, 1) := by decide +kernel
theorem dX6_findFewest_8 : decode cX6_findFewest 8 = .ok (.iconst 1, 1) := by decide +kernel
theorem dX6_findFewest_9 : decode cX6_findFewest 9 = .ok (.istore_n 3, 1) := by decide +kernel
theorem dX6_findFewest_10 : decode cX6_findFewest 10 = .ok (.iload_n 3, 1) := by decide +kernel
theorem dX6_findFewest_11 : decode cX6_findFewest 11 = .ok (.bipush 6, 2) := by decide +kernel
theorem dX6_findFewest_13 : decode cX6_findFewest 13 = .ok (.if_icmp .gt 84, 3) := by decide +kernel
theorem dX6_findFewest_16 : decode cX6_findFewest 16 = .ok (.aload_n 0, 1) := by decide +kernel
theorem dX6_findFewest_17 : decode cX6_findFewest 17 = .ok (.getfield 165, 3) := by decide +kernel
theorem dX6_findFewest_20 : decode cX6_findFewest 20 = .ok (.bipush (-9), 2) := by decide +kernel
theorem dX6_findFewest_22 : decode cX6_findFewest 22 = .ok (.if_icmp .ne 75, 3) := by decide +kernel
theorem dX6_findFewest_25 : decode cX6_findFewest 25 = .ok (.iload_n 2, 1) := by decide +kernel
theorem dX6_findFewest_26 : decode cX6_findFewest 26 = .ok (.aload_n 0, 1) := by decide +kernel
theorem dX6_findFewest_27 : decode cX6_findFewest 27 = .ok (.getfield 74, 3) := by decide +kernel
theorem dX6_findFewest_30 : decode cX6_findFewest 30 = .ok (.imul, 1) := by decide +kernel
theorem dX6_findFewest_31 : decode cX6_findFewest 31 = .ok (.istore_n 2, 1) := by decide +kernel
theorem dX6_findFewest_32 : decode cX6_findFewest 32 = .ok (.iconst 0, 1) := by decide +kernel
theorem dX6_findFewest_33 : decode cX6_findFewest 33 = .ok (.istore 4, 2) := by decide +kernel
theorem dX6_findFewest_35 : decode cX6_findFewest 35 = .ok (.iload 4, 2) := by decide +kernel
theorem dX6_findFewest_37 : decode cX6_findFewest 37 = .ok (.iload_n 2, 1) := by decide +kernel
theorem dX6_findFewest_38 : decode cX6_findFewest 38 = .ok (.if_icmp .ge 53, 3) := by decide +kernel
theorem dX6_findFewest_41 : decode cX6_findFewest 41 = .ok (.aload_n 0, 1) := by decide +kernel
theorem dX6_findFewest_42 : decode cX6_findFewest 42 = .ok (.getfield 165, 3) := by decide +kernel
theorem dX6_findFewest_45 : decode cX6_findFewest 45 = .ok (.bipush (-9), 2) := by decide +kernel
theorem dX6_findFewest_47 : decode cX6_findFewest 47 = .ok (.if_icmp .ne 44, 3) := by decide +kernel
theorem dX6_findFewest_50 : decode cX6_findFewest 50 = .ok (.aload_n 0, 1) := by decide +kernel
theorem dX6_findFewest_51 : decode cX6_findFewest 51 = .ok (.iload 4, 2) := by decide +kernel
theorem dX6_findFewest_53 : decode cX6_findFewest 53 = .ok (.iload_n 3, 1) := by decide +kernel
theorem dX6_findFewest_54 : decode cX6_findFewest 54 = .ok (.invokevirtual 168, 3) := by decide +kernel
theorem dX6_findFewest_57 : decode cX6_findFewest 57 = .ok (.aload_n 0, 1) := by decide +kernel
theorem dX6_findFewest_58 : decode cX6_findFewest 58 = .ok (.invokevirtual 158, 3) := by decide +kernel
theorem dX6_findFewest_61 : decode cX6_findFewest 61 = .ok (.bipush (-9), 2) := by decide +kernel
theorem dX6_findFewest_63 : decode cX6_findFewest 63 = .ok (.if_icmp .ne 22, 3) := by decide +kernel
theorem dX6_findFewest_66 : decode cX6_findFewest 66 = .ok (.aload_n 0, 1) := by decide +kernel
theorem dX6_findFewest_67 : decode cX6_findFewest 67 = .ok (.iload_n 1, 1) := by decide +kernel
theorem dX6_findFewest_68 : decode cX6_findFewest 68 = .ok (.invokevirtual 145, 3) := by decide +kernel
theorem dX6_findFewest_71 : decode cX6_findFewest 71 = .ok (.ifCond .eq 14, 3) := by decide +kernel
theorem dX6_findFewest_74 : decode cX6_findFewest 74 = .ok (.aload_n 0, 1) := by decide +kernel
theorem dX6_findFewest_75 : decode cX6_findFewest 75 = .ok (.iload_n 3, 1) := by decide +kernel
theorem dX6_findFewest_76 : decode cX6_findFewest 76 = .ok (.putfield 165, 3) := by decide +kernel
theorem dX6_findFewest_79 : decode cX6_findFewest 79 = .ok (.aload_n 0, 1) := by decide +kernel
theorem dX6_findFewest_80 : decode cX6_findFewest 80 = .ok (.iload 4, 2) := by decide +kernel
theorem dX6_findFewest_82 : decode cX6_findFewest 82 = .ok (.putfield 172, 3) := by decide +kernel
theorem dX6_findFewest_85 : decode cX6_findFewest 85 = .ok (.iinc 4 1, 3) := by decide +kernel
theorem dX6_findFewest_88 : decode cX6_findFewest 88 = .ok (.goto (-53), 3) := by decide +kernel
theorem dX6_findFewest_91 : decode cX6_findFewest 91 = .ok (.iinc 3 1, 3) := by decide +kernel
theorem dX6_findFewest_94 : decode cX6_findFewest 94 = .ok (.goto (-84), 3) := by decide +kernel
theorem dX6_findFewest_97 : decode cX6_findFewest 97 = .ok (.return_, 1) := by decide +kernel
theorem dX6_fewest_0 : decode cX6_fewest 0 = .ok (.aload_n 0, 1) := by decide +kernel
theorem dX6_fewest_1 : decode cX6_fewest 1 = .ok (.iload_n 1, 1) := by decide +kernel
theorem dX6_fewest_2 : decode cX6_fewest 2 = .ok (.invokevirtual 121, 3) := by decide +kernel
theorem dX6_fewest_5 : decode cX6_fewest 5 = .ok (.ifCond .eq 8, 3) := by decide +kernel
theorem dX6_fewest_8 : decode cX6_fewest 8 = .ok (.iload_n 2, 1) := by decide +kernel
theorem dX6_fewest_9 : decode cX6_fewest 9 = .ok (.iconst (-1), 1) := by decide +kernel
theorem dX6_fewest_10 : decode cX6_fewest 10 = .ok (.if_icmp .ge 5, 3) := by decide +kernel
theorem dX6_fewest_13 : decode cX6_fewest 13 = .ok (.iconst (-1), 1) := by decide +kernel
theorem dX6_fewest_14 : decode cX6_fewest 14 = .ok (.ireturn, 1) := by decide +kernel
theorem dX6_fewest_15 : decode cX6_fewest 15 = .ok (.aload_n 0, 1) := by decide +kernel
theorem dX6_fewest_16 : decode cX6_fewest 16 = .ok (.iload_n 1, 1) := by decide +kernel
theorem dX6_fewest_17 : decode cX6_fewest 17 = .ok (.invokevirtual 175, 3) := by decide +kernel
theorem dX6_fewest_20 : decode cX6_fewest 20 = .ok (.aload_n 0, 1) := by decide +kernel
theorem dX6_fewest_21 : decode cX6_fewest 21 = .ok (.getfield 165, 3) := by decide +kernel
theorem dX6_fewest_24 : decode cX6_fewest 24 = .ok (.bipush (-9), 2) := by decide +kernel
theorem dX6_fewest_26 : decode cX6_fewest 26 = .ok (.if_icmp .eq 11, 3) := by decide +kernel
theorem dX6_fewest_29 : decode cX6_fewest 29 = .ok (.iload_n 2, 1) := by decide +kernel
theorem dX6_fewest_30 : decode cX6_fewest 30 = .ok (.aload_n 0, 1) := by decide +kernel
theorem dX6_fewest_31 : decode cX6_fewest 31 = .ok (.getfield 165, 3) := by decide +kernel
theorem dX6_fewest_34 : decode cX6_fewest 34 = .ok (.if_icmp .lt 6, 3) := by decide +kernel
theorem dX6_fewest_37 : decode cX6_fewest 37 = .ok (.bipush (-9), 2) := by decide +kernel
theorem dX6_fewest_39 : decode cX6_fewest 39 = .ok (.ireturn, 1) := by decide +kernel
theorem dX6_fewest_40 : decode cX6_fewest 40 = .ok (.aload_n 0, 1) := by decide +kernel
theorem dX6_fewest_41 : decode cX6_fewest 41 = .ok (.aload_n 0, 1) := by decide +kernel
theorem dX6_fewest_42 : decode cX6_fewest 42 = .ok (.getfield 172, 3) := by decide +kernel
theorem dX6_fewest_45 : decode cX6_fewest 45 = .ok (.aload_n 0, 1) := by decide +kernel
theorem dX6_fewest_46 : decode cX6_fewest 46 = .ok (.getfield 165, 3) := by decide +kernel
theorem dX6_fewest_49 : decode cX6_fewest 49 = .ok (.invokevirtual 168, 3) := by decide +kernel
theorem dX6_fewest_52 : decode cX6_fewest 52 = .ok (.iload_n 2, 1) := by decide +kernel
theorem dX6_fewest_53 : decode cX6_fewest 53 = .ok (.iconst (-1), 1) := by decide +kernel
theorem dX6_fewest_54 : decode cX6_fewest 54 = .ok (.if_icmp .ne 10, 3) := by decide +kernel
theorem dX6_fewest_57 : decode cX6_fewest 57 = .ok (.aload_n 0, 1) := by decide +kernel
theorem dX6_fewest_58 : decode cX6_fewest 58 = .ok (.getfield 165, 3) := by decide +kernel
theorem dX6_fewest_61 : decode cX6_fewest 61 = .ok (.goto 9, 3) := by decide +kernel
theorem dX6_fewest_64 : decode cX6_fewest 64 = .ok (.aload_n 0, 1) := by decide +kernel
theorem dX6_fewest_65 : decode cX6_fewest 65 = .ok (.getfield 49, 3) := by decide +kernel
theorem dX6_fewest_68 : decode cX6_fewest 68 = .ok (.iload_n 2, 1) := by decide +kernel
theorem dX6_fewest_69 : decode cX6_fewest 69 = .ok (.iaload, 1) := by decide +kernel
theorem dX6_fewest_70 : decode cX6_fewest 70 = .ok (.ireturn, 1) := by decide +kernel
theorem dX6_size_0 : decode cX6_size 0 = .ok (.iconst 0, 1) := by decide +kernel
theorem dX6_size_1 : decode cX6_size 1 = .ok (.istore_n 1, 1) := by decide +kernel
theorem dX6_size_2 : decode cX6_size 2 = .ok (.iload_n 0, 1) := by decide +kernel
theorem dX6_size_3 : decode cX6_size 3 = .ok (.istore_n 2, 1) := by decide +kernel
theorem dX6_size_4 : decode cX6_size 4 = .ok (.iload_n 2, 1) := by decide +kernel
theorem dX6_size_5 : decode cX6_size 5 = .ok (.ifCond .le 16, 3) := by decide +kernel
theorem dX6_size_8 : decode cX6_size 8 = .ok (.iload_n 1, 1) := by decide +kernel
theorem dX6_size_9 : decode cX6_size 9 = .ok (.iload_n 2, 1) := by decide +kernel
theorem dX6_size_10 : decode cX6_size 10 = .ok (.iconst 1, 1) := by decide +kernel
theorem dX6_size_11 : decode cX6_size 11 = .ok (.iand, 1) := by decide +kernel
theorem dX6_size_12 : decode cX6_size 12 = .ok (.iadd, 1) := by decide +kernel
theorem dX6_size_13 : decode cX6_size 13 = .ok (.istore_n 1, 1) := by decide +kernel
theorem dX6_size_14 : decode cX6_size 14 = .ok (.iload_n 2, 1) := by decide +kernel
theorem dX6_size_15 : decode cX6_size 15 = .ok (.iconst 1, 1) := by decide +kernel
theorem dX6_size_16 : decode cX6_size 16 = .ok (.ishr, 1) := by decide +kernel
theorem dX6_size_17 : decode cX6_size 17 = .ok (.istore_n 2, 1) := by decide +kernel
theorem dX6_size_18 : decode cX6_size 18 = .ok (.goto (-14), 3) := by decide +kernel
theorem dX6_size_21 : decode cX6_size 21 = .ok (.iload_n 1, 1) := by decide +kernel
theorem dX6_size_22 : decode cX6_size 22 = .ok (.ireturn, 1) := by decide +kernel
theorem dX6_isUpBySand_0 : decode cX6_isUpBySand 0 = .ok (.iconst 0, 1) := by decide +kernel
theorem dX6_isUpBySand_1 : decode cX6_isUpBySand 1 = .ok (.istore_n 3, 1) := by decide +kernel
theorem dX6_isUpBySand_2 : decode cX6_isUpBySand 2 = .ok (.iconst 0, 1) := by decide +kernel
theorem dX6_isUpBySand_3 : decode cX6_isUpBySand 3 = .ok (.istore 4, 2) := by decide +kernel
theorem dX6_isUpBySand_5 : decode cX6_isUpBySand 5 = .ok (.iload 4, 2) := by decide +kernel
theorem dX6_isUpBySand_7 : decode cX6_isUpBySand 7 = .ok (.aload_n 0, 1) := by decide +kernel
theorem dX6_isUpBySand_8 : decode cX6_isUpBySand 8 = .ok (.getfield 71, 3) := by decide +kernel
theorem dX6_isUpBySand_11 : decode cX6_isUpBySand 11 = .ok (.if_icmp .ge 40, 3) := by decide +kernel
theorem dX6_isUpBySand_14 : decode cX6_isUpBySand 14 = .ok (.iload_n 3, 1) := by decide +kernel
theorem dX6_isUpBySand_15 : decode cX6_isUpBySand 15 = .ok (.iload_n 2, 1) := by decide +kernel
theorem dX6_isUpBySand_16 : decode cX6_isUpBySand 16 = .ok (.iload 4, 2) := by decide +kernel
theorem dX6_isUpBySand_18 : decode cX6_isUpBySand 18 = .ok (.ishr, 1) := by decide +kernel
theorem dX6_isUpBySand_19 : decode cX6_isUpBySand 19 = .ok (.iconst 1, 1) := by decide +kernel
theorem dX6_isUpBySand_20 : decode cX6_isUpBySand 20 = .ok (.iand, 1) := by decide +kernel
theorem dX6_isUpBySand_21 : decode cX6_isUpBySand 21 = .ok (.iconst 1, 1) := by decide +kernel
theorem dX6_isUpBySand_22 : decode cX6_isUpBySand 22 = .ok (.if_icmp .ne 7, 3) := by decide +kernel
theorem dX6_isUpBySand_25 : decode cX6_isUpBySand 25 = .ok (.iconst 0, 1) := by decide +kernel
theorem dX6_isUpBySand_26 : decode cX6_isUpBySand 26 = .ok (.goto 17, 3) := by decide +kernel
theorem dX6_isUpBySand_29 : decode cX6_isUpBySand 29 = .ok (.aload_n 0, 1) := by decide +kernel
theorem dX6_isUpBySand_30 : decode cX6_isUpBySand 30 = .ok (.iload_n 1, 1) := by decide +kernel
theorem dX6_isUpBySand_31 : decode cX6_isUpBySand 31 = .ok (.iload 4, 2) := by decide +kernel
theorem dX6_isUpBySand_33 : decode cX6_isUpBySand 33 = .ok (.aload_n 0, 1) := by decide +kernel
theorem dX6_isUpBySand_34 : decode cX6_isUpBySand 34 = .ok (.getfield 22, 3) := by decide +kernel
theorem dX6_isUpBySand_37 : decode cX6_isUpBySand 37 = .ok (.iload 4, 2) := by decide +kernel
theorem dX6_isUpBySand_39 : decode cX6_isUpBySand 39 = .ok (.iaload, 1) := by decide +kernel
theorem dX6_isUpBySand_40 : decode cX6_isUpBySand 40 = .ok (.invokevirtual 127, 3) := by decide +kernel
theorem dX6_isUpBySand_43 : decode cX6_isUpBySand 43 = .ok (.iadd, 1) := by decide +kernel
theorem dX6_isUpBySand_44 : decode cX6_isUpBySand 44 = .ok (.istore_n 3, 1) := by decide +kernel
theorem dX6_isUpBySand_45 : decode cX6_isUpBySand 45 = .ok (.iinc 4 1, 3) := by decide +kernel
theorem dX6_isUpBySand_48 : decode cX6_isUpBySand 48 = .ok (.goto (-43), 3) := by decide +kernel
theorem dX6_isUpBySand_51 : decode cX6_isUpBySand 51 = .ok (.iload_n 3, 1) := by decide +kernel
theorem dX6_isUpBySand_52 : decode cX6_isUpBySand 52 = .ok (.aload_n 0, 1) := by decide +kernel
theorem dX6_isUpBySand_53 : decode cX6_isUpBySand 53 = .ok (.getfield 28, 3) := by decide +kernel
theorem dX6_isUpBySand_56 : decode cX6_isUpBySand 56 = .ok (.iload_n 1, 1) := by decide +kernel
theorem dX6_isUpBySand_57 : decode cX6_isUpBySand 57 = .ok (.iaload, 1) := by decide +kernel
theorem dX6_isUpBySand_58 : decode cX6_isUpBySand 58 = .ok (.if_icmp .gt 7, 3) := by decide +kernel
theorem dX6_isUpBySand_61 : decode cX6_isUpBySand 61 = .ok (.iconst 1, 1) := by decide +kernel
theorem dX6_isUpBySand_62 : decode cX6_isUpBySand 62 = .ok (.goto 4, 3) := by decide +kernel
theorem dX6_isUpBySand_65 : decode cX6_isUpBySand 65 = .ok (.iconst 0, 1) := by decide +kernel
theorem dX6_isUpBySand_66 : decode cX6_isUpBySand 66 = .ok (.ireturn, 1) := by decide +kernel
theorem dX6_sand_0 : decode cX6_sand 0 = .ok (.aload_n 0, 1) := by decide +kernel
theorem dX6_sand_1 : decode cX6_sand 1 = .ok (.iload_n 1, 1) := by decide +kernel
theorem dX6_sand_2 : decode cX6_sand 2 = .ok (.invokevirtual 121, 3) := by decide +kernel
theorem dX6_sand_5 : decode cX6_sand 5 = .ok (.ifCond .ne 5, 3) := by decide +kernel
theorem dX6_sand_8 : decode cX6_sand 8 = .ok (.iconst (-1), 1) := by decide +kernel
theorem dX6_sand_9 : decode cX6_sand 9 = .ok (.ireturn, 1) := by decide +kernel
theorem dX6_sand_10 : decode cX6_sand 10 = .ok (.iconst 1, 1) := by decide +kernel
theorem dX6_sand_11 : decode cX6_sand 11 = .ok (.aload_n 0, 1) := by decide +kernel
theorem dX6_sand_12 : decode cX6_sand 12 = .ok (.getfield 71, 3) := by decide +kernel
theorem dX6_sand_15 : decode cX6_sand 15 = .ok (.ishl, 1) := by decide +kernel
theorem dX6_sand_16 : decode cX6_sand 16 = .ok (.iconst 1, 1) := by decide +kernel
theorem dX6_sand_17 : decode cX6_sand 17 = .ok (.isub, 1) := by decide +kernel
theorem dX6_sand_18 : decode cX6_sand 18 = .ok (.istore_n 2, 1) := by decide +kernel
theorem dX6_sand_19 : decode cX6_sand 19 = .ok (.iconst 0, 1) := by decide +kernel
theorem dX6_sand_20 : decode cX6_sand 20 = .ok (.istore_n 3, 1) := by decide +kernel
theorem dX6_sand_21 : decode cX6_sand 21 = .ok (.iload_n 3, 1) := by decide +kernel
theorem dX6_sand_22 : decode cX6_sand 22 = .ok (.iconst 1, 1) := by decide +kernel
theorem dX6_sand_23 : decode cX6_sand 23 = .ok (.aload_n 0, 1) := by decide +kernel
theorem dX6_sand_24 : decode cX6_sand 24 = .ok (.getfield 71, 3) := by decide +kernel
theorem dX6_sand_27 : decode cX6_sand 27 = .ok (.ishl, 1) := by decide +kernel
theorem dX6_sand_28 : decode cX6_sand 28 = .ok (.if_icmp .ge 35, 3) := by decide +kernel
theorem dX6_sand_31 : decode cX6_sand 31 = .ok (.iload_n 3, 1) := by decide +kernel
theorem dX6_sand_32 : decode cX6_sand 32 = .ok (.invokestatic 178, 3) := by decide +kernel
theorem dX6_sand_35 : decode cX6_sand 35 = .ok (.iload_n 2, 1) := by decide +kernel
theorem dX6_sand_36 : decode cX6_sand 36 = .ok (.invokestatic 178, 3) := by decide +kernel
theorem dX6_sand_39 : decode cX6_sand 39 = .ok (.if_icmp .ge 16, 3) := by decide +kernel
theorem dX6_sand_42 : decode cX6_sand 42 = .ok (.aload_n 0, 1) := by decide +kernel
theorem dX6_sand_43 : decode cX6_sand 43 = .ok (.iload_n 1, 1) := by decide +kernel
theorem dX6_sand_44 : decode cX6_sand 44 = .ok (.iload_n 3, 1) := by decide +kernel
theorem dX6_sand_45 : decode cX6_sand 45 = .ok (.invokevirtual 181, 3) := by decide +kernel
theorem dX6_sand_48 : decode cX6_sand 48 = .ok (.ifCond .eq 7, 3) := by decide +kernel
theorem dX6_sand_51 : decode cX6_sand 51 = .ok (.iload_n 3, 1) := by decide +kernel
theorem dX6_sand_52 : decode cX6_sand 52 = .ok (.goto 4, 3) := by decide +kernel
theorem dX6_sand_55 : decode cX6_sand 55 = .ok (.iload_n 2, 1) := by decide +kernel
theorem dX6_sand_56 : decode cX6_sand 56 = .ok (.istore_n 2, 1) := by decide +kernel
theorem dX6_sand_57 : decode cX6_sand 57 = .ok (.iinc 3 1, 3) := by decide +kernel
theorem dX6_sand_60 : decode cX6_sand 60 = .ok (.goto (-39), 3) := by decide +kernel
theorem dX6_sand_63 : decode cX6_sand 63 = .ok (.iload_n 2, 1) := by decide +kernel
theorem dX6_sand_64 : decode cX6_sand 64 = .ok (.ireturn, 1) := by decide +kernel
theorem dX6_endOf_0 : decode cX6_endOf 0 = .ok (.aload_n 0, 1) := by decide +kernel
theorem dX6_endOf_1 : decode cX6_endOf 1 = .ok (.invokevirtual 136, 3) := by decide +kernel
theorem dX6_endOf_4 : decode cX6_endOf 4 = .ok (.iconst 0, 1) := by decide +kernel
theorem dX6_endOf_5 : decode cX6_endOf 5 = .ok (.istore 5, 2) := by decide +kernel
theorem dX6_endOf_7 : decode cX6_endOf 7 = .ok (.iload 5, 2) := by decide +kernel
theorem dX6_endOf_9 : decode cX6_endOf 9 = .ok (.iload_n 3, 1) := by decide +kernel
theorem dX6_endOf_10 : decode cX6_endOf 10 = .ok (.if_icmp .ge 62, 3) := by decide +kernel
theorem dX6_endOf_13 : decode cX6_endOf 13 = .ok (.iload 5, 2) := by decide +kernel
theorem dX6_endOf_15 : decode cX6_endOf 15 = .ok (.iconst 2, 1) := by decide +kernel
theorem dX6_endOf_16 : decode cX6_endOf 16 = .ok (.irem, 1) := by decide +kernel
theorem dX6_endOf_17 : decode cX6_endOf 17 = .ok (.ifCond .ne 7, 3) := by decide +kernel
theorem dX6_endOf_20 : decode cX6_endOf 20 = .ok (.iload_n 1, 1) := by decide +kernel
theorem dX6_endOf_21 : decode cX6_endOf 21 = .ok (.goto 4, 3) := by decide +kernel
theorem dX6_endOf_24 : decode cX6_endOf 24 = .ok (.iload_n 2, 1) := by decide +kernel
theorem dX6_endOf_25 : decode cX6_endOf 25 = .ok (.istore 6, 2) := by decide +kernel
theorem dX6_endOf_27 : decode cX6_endOf 27 = .ok (.iload 4, 2) := by decide +kernel
theorem dX6_endOf_29 : decode cX6_endOf 29 = .ok (.iload 5, 2) := by decide +kernel
theorem dX6_endOf_31 : decode cX6_endOf 31 = .ok (.ishr, 1) := by decide +kernel
theorem dX6_endOf_32 : decode cX6_endOf 32 = .ok (.iconst 1, 1) := by decide +kernel
theorem dX6_endOf_33 : decode cX6_endOf 33 = .ok (.iand, 1) := by decide +kernel
theorem dX6_endOf_34 : decode cX6_endOf 34 = .ok (.iconst 1, 1) := by decide +kernel
theorem dX6_endOf_35 : decode cX6_endOf 35 = .ok (.if_icmp .ne 9, 3) := by decide +kernel
theorem dX6_endOf_38 : decode cX6_endOf 38 = .ok (.aload_n 0, 1) := by decide +kernel
theorem dX6_endOf_39 : decode cX6_endOf 39 = .ok (.iload 6, 2) := by decide +kernel
theorem dX6_endOf_41 : decode cX6_endOf 41 = .ok (.invokevirtual 148, 3) := by decide +kernel
theorem dX6_endOf_44 : decode cX6_endOf 44 = .ok (.aload_n 0, 1) := by decide +kernel
theorem dX6_endOf_45 : decode cX6_endOf 45 = .ok (.iload 6, 2) := by decide +kernel
theorem dX6_endOf_47 : decode cX6_endOf 47 = .ok (.invokevirtual 145, 3) := by decide +kernel
theorem dX6_endOf_50 : decode cX6_endOf 50 = .ok (.ifCond .eq 16, 3) := by decide +kernel
theorem dX6_endOf_53 : decode cX6_endOf 53 = .ok (.iload 5, 2) := by decide +kernel
theorem dX6_endOf_55 : decode cX6_endOf 55 = .ok (.iconst 2, 1) := by decide +kernel
theorem dX6_endOf_56 : decode cX6_endOf 56 = .ok (.irem, 1) := by decide +kernel
theorem dX6_endOf_57 : decode cX6_endOf 57 = .ok (.ifCond .ne 7, 3) := by decide +kernel
theorem dX6_endOf_60 : decode cX6_endOf 60 = .ok (.iconst 1, 1) := by decide +kernel
theorem dX6_endOf_61 : decode cX6_endOf 61 = .ok (.goto 4, 3) := by decide +kernel
theorem dX6_endOf_64 : decode cX6_endOf 64 = .ok (.iconst 2, 1) := by decide +kernel
theorem dX6_endOf_65 : decode cX6_endOf 65 = .ok (.ireturn, 1) := by decide +kernel
theorem dX6_endOf_66 : decode cX6_endOf 66 = .ok (.iinc 5 1, 3) := by decide +kernel
theorem dX6_endOf_69 : decode cX6_endOf 69 = .ok (.goto (-62), 3) := by decide +kernel
theorem dX6_endOf_72 : decode cX6_endOf 72 = .ok (.iconst 0, 1) := by decide +kernel
theorem dX6_endOf_73 : decode cX6_endOf 73 = .ok (.ireturn, 1) := by decide +kernel
theorem dX6_better_0 : decode cX6_better 0 = .ok (.iload_n 0, 1) := by decide +kernel
theorem dX6_better_1 : decode cX6_better 1 = .ok (.iload_n 2, 1) := by decide +kernel
theorem dX6_better_2 : decode cX6_better 2 = .ok (.if_icmp .eq 8, 3) := by decide +kernel
theorem dX6_better_5 : decode cX6_better 5 = .ok (.iload_n 1, 1) := by decide +kernel
theorem dX6_better_6 : decode cX6_better 6 = .ok (.iload_n 2, 1) := by decide +kernel
theorem dX6_better_7 : decode cX6_better 7 = .ok (.if_icmp .ne 5, 3) := by decide +kernel
theorem dX6_better_10 : decode cX6_better 10 = .ok (.iload_n 2, 1) := by decide +kernel
theorem dX6_better_11 : decode cX6_better 11 = .ok (.ireturn, 1) := by decide +kernel
theorem dX6_better_12 : decode cX6_better 12 = .ok (.iload_n 0, 1) := by decide +kernel
theorem dX6_better_13 : decode cX6_better 13 = .ok (.ifCond .eq 7, 3) := by decide +kernel
theorem dX6_better_16 : decode cX6_better 16 = .ok (.iload_n 1, 1) := by decide +kernel
theorem dX6_better_17 : decode cX6_better 17 = .ok (.ifCond .ne 7, 3) := by decide +kernel
theorem dX6_better_20 : decode cX6_better 20 = .ok (.iconst 0, 1) := by decide +kernel
theorem dX6_better_21 : decode cX6_better 21 = .ok (.goto 4, 3) := by decide +kernel
theorem dX6_better_24 : decode cX6_better 24 = .ok (.iload_n 0, 1) := by decide +kernel
theorem dX6_better_25 : decode cX6_better 25 = .ok (.ireturn, 1) := by decide +kernel
theorem dX6_game_0 : decode cX6_game 0 = .ok (.aload_n 0, 1) := by decide +kernel
theorem dX6_game_1 : decode cX6_game 1 = .ok (.iload_n 1, 1) := by decide +kernel
theorem dX6_game_2 : decode cX6_game 2 = .ok (.invokevirtual 121, 3) := by decide +kernel
theorem dX6_game_5 : decode cX6_game 5 = .ok (.ifCond .eq 11, 3) := by decide +kernel
theorem dX6_game_8 : decode cX6_game 8 = .ok (.aload_n 0, 1) := by decide +kernel
theorem dX6_game_9 : decode cX6_game 9 = .ok (.iload_n 2, 1) := by decide +kernel
theorem dX6_game_10 : decode cX6_game 10 = .ok (.invokevirtual 121, 3) := by decide +kernel
theorem dX6_game_13 : decode cX6_game 13 = .ok (.ifCond .ne 5, 3) := by decide +kernel
theorem dX6_game_16 : decode cX6_game 16 = .ok (.iconst (-1), 1) := by decide +kernel
theorem dX6_game_17 : decode cX6_game 17 = .ok (.ireturn, 1) := by decide +kernel
theorem dX6_game_18 : decode cX6_game 18 = .ok (.iload_n 1, 1) := by decide +kernel
theorem dX6_game_19 : decode cX6_game 19 = .ok (.iload_n 2, 1) := by decide +kernel
theorem dX6_game_20 : decode cX6_game 20 = .ok (.if_icmp .eq 13, 3) := by decide +kernel
theorem dX6_game_23 : decode cX6_game 23 = .ok (.iload_n 3, 1) := by decide +kernel
theorem dX6_game_24 : decode cX6_game 24 = .ok (.iconst 0, 1) := by decide +kernel
theorem dX6_game_25 : decode cX6_game 25 = .ok (.bipush 10, 2) := by decide +kernel
theorem dX6_game_27 : decode cX6_game 27 = .ok (.invokestatic 67, 3) := by decide +kernel
theorem dX6_game_30 : decode cX6_game 30 = .ok (.ifCond .ne 6, 3) := by decide +kernel
theorem dX6_game_33 : decode cX6_game 33 = .ok (.bipush (-2), 2) := by decide +kernel
theorem dX6_game_35 : decode cX6_game 35 = .ok (.ireturn, 1) := by decide +kernel
theorem dX6_game_36 : decode cX6_game 36 = .ok (.iconst 0, 1) := by decide +kernel
theorem dX6_game_37 : decode cX6_game 37 = .ok (.istore 4, 2) := by decide +kernel
theorem dX6_game_39 : decode cX6_game 39 = .ok (.iload 4, 2) := by decide +kernel
theorem dX6_game_41 : decode cX6_game 41 = .ok (.iconst 1, 1) := by decide +kernel
theorem dX6_game_42 : decode cX6_game 42 = .ok (.iload_n 3, 1) := by decide +kernel
theorem dX6_game_43 : decode cX6_game 43 = .ok (.ishl, 1) := by decide +kernel
theorem dX6_game_44 : decode cX6_game 44 = .ok (.if_icmp .ge 25, 3) := by decide +kernel
theorem dX6_game_47 : decode cX6_game 47 = .ok (.aload_n 0, 1) := by decide +kernel
theorem dX6_game_48 : decode cX6_game 48 = .ok (.getfield 52, 3) := by decide +kernel
theorem dX6_game_51 : decode cX6_game 51 = .ok (.iload 4, 2) := by decide +kernel
theorem dX6_game_53 : decode cX6_game 53 = .ok (.aload_n 0, 1) := by decide +kernel
theorem dX6_game_54 : decode cX6_game 54 = .ok (.iload_n 1, 1) := by decide +kernel
theorem dX6_game_55 : decode cX6_game 55 = .ok (.iload_n 2, 1) := by decide +kernel
theorem dX6_game_56 : decode cX6_game 56 = .ok (.iload_n 3, 1) := by decide +kernel
theorem dX6_game_57 : decode cX6_game 57 = .ok (.iload 4, 2) := by decide +kernel
theorem dX6_game_59 : decode cX6_game 59 = .ok (.invokevirtual 184, 3) := by decide +kernel
theorem dX6_game_62 : decode cX6_game 62 = .ok (.iastore, 1) := by decide +kernel
theorem dX6_game_63 : decode cX6_game 63 = .ok (.iinc 4 1, 3) := by decide +kernel
theorem dX6_game_66 : decode cX6_game 66 = .ok (.goto (-27), 3) := by decide +kernel
theorem dX6_game_69 : decode cX6_game 69 = .ok (.iload_n 3, 1) := by decide +kernel
theorem dX6_game_70 : decode cX6_game 70 = .ok (.iconst 1, 1) := by decide +kernel
theorem dX6_game_71 : decode cX6_game 71 = .ok (.isub, 1) := by decide +kernel
theorem dX6_game_72 : decode cX6_game 72 = .ok (.istore 4, 2) := by decide +kernel
theorem dX6_game_74 : decode cX6_game 74 = .ok (.iload 4, 2) := by decide +kernel
theorem dX6_game_76 : decode cX6_game 76 = .ok (.ifCond .lt 68, 3) := by decide +kernel
theorem dX6_game_79 : decode cX6_game 79 = .ok (.iconst 0, 1) := by decide +kernel
theorem dX6_game_80 : decode cX6_game 80 = .ok (.istore 5, 2) := by decide +kernel
theorem dX6_game_82 : decode cX6_game 82 = .ok (.iload 5, 2) := by decide +kernel
theorem dX6_game_84 : decode cX6_game 84 = .ok (.iconst 1, 1) := by decide +kernel
theorem dX6_game_85 : decode cX6_game 85 = .ok (.iload 4, 2) := by decide +kernel
theorem dX6_game_87 : decode cX6_game 87 = .ok (.ishl, 1) := by decide +kernel
theorem dX6_game_88 : decode cX6_game 88 = .ok (.if_icmp .ge 50, 3) := by decide +kernel
theorem dX6_game_91 : decode cX6_game 91 = .ok (.aload_n 0, 1) := by decide +kernel
theorem dX6_game_92 : decode cX6_game 92 = .ok (.getfield 52, 3) := by decide +kernel
theorem dX6_game_95 : decode cX6_game 95 = .ok (.iload 5, 2) := by decide +kernel
theorem dX6_game_97 : decode cX6_game 97 = .ok (.aload_n 0, 1) := by decide +kernel
theorem dX6_game_98 : decode cX6_game 98 = .ok (.getfield 52, 3) := by decide +kernel
theorem dX6_game_101 : decode cX6_game 101 = .ok (.iload 5, 2) := by decide +kernel
theorem dX6_game_103 : decode cX6_game 103 = .ok (.iaload, 1) := by decide +kernel
theorem dX6_game_104 : decode cX6_game 104 = .ok (.aload_n 0, 1) := by decide +kernel
theorem dX6_game_105 : decode cX6_game 105 = .ok (.getfield 52, 3) := by decide +kernel
theorem dX6_game_108 : decode cX6_game 108 = .ok (.iload 5, 2) := by decide +kernel
theorem dX6_game_110 : decode cX6_game 110 = .ok (.iconst 1, 1) := by decide +kernel
theorem dX6_game_111 : decode cX6_game 111 = .ok (.iload 4, 2) := by decide +kernel
theorem dX6_game_113 : decode cX6_game 113 = .ok (.ishl, 1) := by decide +kernel
theorem dX6_game_114 : decode cX6_game 114 = .ok (.ior, 1) := by decide +kernel
theorem dX6_game_115 : decode cX6_game 115 = .ok (.iaload, 1) := by decide +kernel
theorem dX6_game_116 : decode cX6_game 116 = .ok (.iload 4, 2) := by decide +kernel
theorem dX6_game_118 : decode cX6_game 118 = .ok (.iconst 2, 1) := by decide +kernel
theorem dX6_game_119 : decode cX6_game 119 = .ok (.irem, 1) := by decide +kernel
theorem dX6_game_120 : decode cX6_game 120 = .ok (.ifCond .ne 7, 3) := by decide +kernel
theorem dX6_game_123 : decode cX6_game 123 = .ok (.iconst 1, 1) := by decide +kernel
theorem dX6_game_124 : decode cX6_game 124 = .ok (.goto 4, 3) := by decide +kernel
theorem dX6_game_127 : decode cX6_game 127 = .ok (.iconst 2, 1) := by decide +kernel
theorem dX6_game_128 : decode cX6_game 128 = .ok (.invokestatic 187, 3) := by decide +kernel
theorem dX6_game_131 : decode cX6_game 131 = .ok (.iastore, 1) := by decide +kernel
theorem dX6_game_132 : decode cX6_game 132 = .ok (.iinc 5 1, 3) := by decide +kernel
theorem dX6_game_135 : decode cX6_game 135 = .ok (.goto (-53), 3) := by decide +kernel
theorem dX6_game_138 : decode cX6_game 138 = .ok (.iinc 4 (-1), 3) := by decide +kernel
theorem dX6_game_141 : decode cX6_game 141 = .ok (.goto (-67), 3) := by decide +kernel
theorem dX6_game_144 : decode cX6_game 144 = .ok (.aload_n 0, 1) := by decide +kernel
theorem dX6_game_145 : decode cX6_game 145 = .ok (.getfield 52, 3) := by decide +kernel
theorem dX6_game_148 : decode cX6_game 148 = .ok (.iconst 0, 1) := by decide +kernel
theorem dX6_game_149 : decode cX6_game 149 = .ok (.iaload, 1) := by decide +kernel
theorem dX6_game_150 : decode cX6_game 150 = .ok (.ireturn, 1) := by decide +kernel
theorem dX6_othersHeights_0 : decode cX6_othersHeights 0 = .ok (.aload_n 0, 1) := by decide +kernel
theorem dX6_othersHeights_1 : decode cX6_othersHeights 1 = .ok (.invokevirtual 136, 3) := by decide +kernel
theorem dX6_othersHeights_4 : decode cX6_othersHeights 4 = .ok (.iconst 0, 1) := by decide +kernel
theorem dX6_othersHeights_5 : decode cX6_othersHeights 5 = .ok (.istore_n 3, 1) := by decide +kernel
theorem dX6_othersHeights_6 : decode cX6_othersHeights 6 = .ok (.iconst 0, 1) := by decide +kernel
theorem dX6_othersHeights_7 : decode cX6_othersHeights 7 = .ok (.istore 4, 2) := by decide +kernel
theorem dX6_othersHeights_9 : decode cX6_othersHeights 9 = .ok (.iload 4, 2) := by decide +kernel
theorem dX6_othersHeights_11 : decode cX6_othersHeights 11 = .ok (.aload_n 0, 1) := by decide +kernel
theorem dX6_othersHeights_12 : decode cX6_othersHeights 12 = .ok (.getfield 74, 3) := by decide +kernel
theorem dX6_othersHeights_15 : decode cX6_othersHeights 15 = .ok (.if_icmp .ge 45, 3) := by decide +kernel
theorem dX6_othersHeights_18 : decode cX6_othersHeights 18 = .ok (.iload 4, 2) := by decide +kernel
theorem dX6_othersHeights_20 : decode cX6_othersHeights 20 = .ok (.iload_n 1, 1) := by decide +kernel
theorem dX6_othersHeights_21 : decode cX6_othersHeights 21 = .ok (.if_icmp .ne 7, 3) := by decide +kernel
theorem dX6_othersHeights_24 : decode cX6_othersHeights 24 = .ok (.iload_n 2, 1) := by decide +kernel
theorem dX6_othersHeights_25 : decode cX6_othersHeights 25 = .ok (.ifCond .eq 29, 3) := by decide +kernel
theorem dX6_othersHeights_28 : decode cX6_othersHeights 28 = .ok (.aload_n 0, 1) := by decide +kernel
theorem dX6_othersHeights_29 : decode cX6_othersHeights 29 = .ok (.iload 4, 2) := by decide +kernel
theorem dX6_othersHeights_31 : decode cX6_othersHeights 31 = .ok (.invokevirtual 148, 3) := by decide +kernel
theorem dX6_othersHeights_34 : decode cX6_othersHeights 34 = .ok (.iload_n 3, 1) := by decide +kernel
theorem dX6_othersHeights_35 : decode cX6_othersHeights 35 = .ok (.iload 4, 2) := by decide +kernel
theorem dX6_othersHeights_37 : decode cX6_othersHeights 37 = .ok (.iload_n 1, 1) := by decide +kernel
theorem dX6_othersHeights_38 : decode cX6_othersHeights 38 = .ok (.if_icmp .ne 7, 3) := by decide +kernel
theorem dX6_othersHeights_41 : decode cX6_othersHeights 41 = .ok (.iconst 0, 1) := by decide +kernel
theorem dX6_othersHeights_42 : decode cX6_othersHeights 42 = .ok (.goto 10, 3) := by decide +kernel
theorem dX6_othersHeights_45 : decode cX6_othersHeights 45 = .ok (.aload_n 0, 1) := by decide +kernel
theorem dX6_othersHeights_46 : decode cX6_othersHeights 46 = .ok (.getfield 46, 3) := by decide +kernel
theorem dX6_othersHeights_49 : decode cX6_othersHeights 49 = .ok (.iload 4, 2) := by decide +kernel
theorem dX6_othersHeights_51 : decode cX6_othersHeights 51 = .ok (.iaload, 1) := by decide +kernel
theorem dX6_othersHeights_52 : decode cX6_othersHeights 52 = .ok (.iadd, 1) := by decide +kernel
theorem dX6_othersHeights_53 : decode cX6_othersHeights 53 = .ok (.istore_n 3, 1) := by decide +kernel
theorem dX6_othersHeights_54 : decode cX6_othersHeights 54 = .ok (.iinc 4 1, 3) := by decide +kernel
theorem dX6_othersHeights_57 : decode cX6_othersHeights 57 = .ok (.goto (-48), 3) := by decide +kernel
theorem dX6_othersHeights_60 : decode cX6_othersHeights 60 = .ok (.iload_n 3, 1) := by decide +kernel
theorem dX6_othersHeights_61 : decode cX6_othersHeights 61 = .ok (.ireturn, 1) := by decide +kernel
theorem dX6_worth_0 : decode cX6_worth 0 = .ok (.aload_n 0, 1) := by decide +kernel
theorem dX6_worth_1 : decode cX6_worth 1 = .ok (.iload_n 1, 1) := by decide +kernel
theorem dX6_worth_2 : decode cX6_worth 2 = .ok (.invokevirtual 121, 3) := by decide +kernel
theorem dX6_worth_5 : decode cX6_worth 5 = .ok (.ifCond .eq 22, 3) := by decide +kernel
theorem dX6_worth_8 : decode cX6_worth 8 = .ok (.aload_n 0, 1) := by decide +kernel
theorem dX6_worth_9 : decode cX6_worth 9 = .ok (.iload_n 1, 1) := by decide +kernel
theorem dX6_worth_10 : decode cX6_worth 10 = .ok (.iconst 1, 1) := by decide +kernel
theorem dX6_worth_11 : decode cX6_worth 11 = .ok (.invokevirtual 190, 3) := by decide +kernel
theorem dX6_worth_14 : decode cX6_worth 14 = .ok (.aload_n 0, 1) := by decide +kernel
theorem dX6_worth_15 : decode cX6_worth 15 = .ok (.iload_n 1, 1) := by decide +kernel
theorem dX6_worth_16 : decode cX6_worth 16 = .ok (.iconst 0, 1) := by decide +kernel
theorem dX6_worth_17 : decode cX6_worth 17 = .ok (.invokevirtual 190, 3) := by decide +kernel
theorem dX6_worth_20 : decode cX6_worth 20 = .ok (.isub, 1) := by decide +kernel
theorem dX6_worth_21 : decode cX6_worth 21 = .ok (.bipush 100, 2) := by decide +kernel
theorem dX6_worth_23 : decode cX6_worth 23 = .ok (.iadd, 1) := by decide +kernel
theorem dX6_worth_24 : decode cX6_worth 24 = .ok (.goto 4, 3) := by decide +kernel
theorem dX6_worth_27 : decode cX6_worth 27 = .ok (.iconst (-1), 1) := by decide +kernel
theorem dX6_worth_28 : decode cX6_worth 28 = .ok (.ireturn, 1) := by decide +kernel
theorem dX6_reading_0 : decode cX6_reading 0 = .ok (.aload_n 0, 1) := by decide +kernel
theorem dX6_reading_1 : decode cX6_reading 1 = .ok (.iload_n 1, 1) := by decide +kernel
theorem dX6_reading_2 : decode cX6_reading 2 = .ok (.invokevirtual 121, 3) := by decide +kernel
theorem dX6_reading_5 : decode cX6_reading 5 = .ok (.ifCond .ne 5, 3) := by decide +kernel
theorem dX6_reading_8 : decode cX6_reading 8 = .ok (.iconst (-1), 1) := by decide +kernel
theorem dX6_reading_9 : decode cX6_reading 9 = .ok (.ireturn, 1) := by decide +kernel
theorem dX6_reading_10 : decode cX6_reading 10 = .ok (.iload_n 2, 1) := by decide +kernel
theorem dX6_reading_11 : decode cX6_reading 11 = .ok (.iconst 0, 1) := by decide +kernel
theorem dX6_reading_12 : decode cX6_reading 12 = .ok (.bipush 8, 2) := by decide +kernel
theorem dX6_reading_14 : decode cX6_reading 14 = .ok (.invokestatic 67, 3) := by decide +kernel
theorem dX6_reading_17 : decode cX6_reading 17 = .ok (.ifCond .ne 6, 3) := by decide +kernel
theorem dX6_reading_20 : decode cX6_reading 20 = .ok (.bipush (-2), 2) := by decide +kernel
theorem dX6_reading_22 : decode cX6_reading 22 = .ok (.ireturn, 1) := by decide +kernel
theorem dX6_reading_23 : decode cX6_reading 23 = .ok (.aload_n 0, 1) := by decide +kernel
theorem dX6_reading_24 : decode cX6_reading 24 = .ok (.getfield 104, 3) := by decide +kernel
theorem dX6_reading_27 : decode cX6_reading 27 = .ok (.bipush 8, 2) := by decide +kernel
theorem dX6_reading_29 : decode cX6_reading 29 = .ok (.if_icmp .ne 6, 3) := by decide +kernel
theorem dX6_reading_32 : decode cX6_reading 32 = .ok (.bipush (-4), 2) := by decide +kernel
theorem dX6_reading_34 : decode cX6_reading 34 = .ok (.ireturn, 1) := by decide +kernel
theorem dX6_reading_35 : decode cX6_reading 35 = .ok (.aload_n 0, 1) := by decide +kernel
theorem dX6_reading_36 : decode cX6_reading 36 = .ok (.getfield 55, 3) := by decide +kernel
theorem dX6_reading_39 : decode cX6_reading 39 = .ok (.aload_n 0, 1) := by decide +kernel
theorem dX6_reading_40 : decode cX6_reading 40 = .ok (.getfield 104, 3) := by decide +kernel
theorem dX6_reading_43 : decode cX6_reading 43 = .ok (.iload_n 1, 1) := by decide +kernel
theorem dX6_reading_44 : decode cX6_reading 44 = .ok (.iastore, 1) := by decide +kernel
theorem dX6_reading_45 : decode cX6_reading 45 = .ok (.aload_n 0, 1) := by decide +kernel
theorem dX6_reading_46 : decode cX6_reading 46 = .ok (.getfield 58, 3) := by decide +kernel
theorem dX6_reading_49 : decode cX6_reading 49 = .ok (.aload_n 0, 1) := by decide +kernel
theorem dX6_reading_50 : decode cX6_reading 50 = .ok (.getfield 104, 3) := by decide +kernel
theorem dX6_reading_53 : decode cX6_reading 53 = .ok (.iload_n 2, 1) := by decide +kernel
theorem dX6_reading_54 : decode cX6_reading 54 = .ok (.iastore, 1) := by decide +kernel
theorem dX6_reading_55 : decode cX6_reading 55 = .ok (.aload_n 0, 1) := by decide +kernel
theorem dX6_reading_56 : decode cX6_reading 56 = .ok (.dup, 1) := by decide +kernel
theorem dX6_reading_57 : decode cX6_reading 57 = .ok (.getfield 104, 3) := by decide +kernel
theorem dX6_reading_60 : decode cX6_reading 60 = .ok (.iconst 1, 1) := by decide +kernel
theorem dX6_reading_61 : decode cX6_reading 61 = .ok (.iadd, 1) := by decide +kernel
theorem dX6_reading_62 : decode cX6_reading 62 = .ok (.putfield 104, 3) := by decide +kernel
theorem dX6_reading_65 : decode cX6_reading 65 = .ok (.aload_n 0, 1) := by decide +kernel
theorem dX6_reading_66 : decode cX6_reading 66 = .ok (.getfield 104, 3) := by decide +kernel
theorem dX6_reading_69 : decode cX6_reading 69 = .ok (.iconst 1, 1) := by decide +kernel
theorem dX6_reading_70 : decode cX6_reading 70 = .ok (.isub, 1) := by decide +kernel
theorem dX6_reading_71 : decode cX6_reading 71 = .ok (.ireturn, 1) := by decide +kernel
theorem dX6_back_0 : decode cX6_back 0 = .ok (.iload_n 1, 1) := by decide +kernel
theorem dX6_back_1 : decode cX6_back 1 = .ok (.iconst 0, 1) := by decide +kernel
theorem dX6_back_2 : decode cX6_back 2 = .ok (.aload_n 0, 1) := by decide +kernel
theorem dX6_back_3 : decode cX6_back 3 = .ok (.getfield 104, 3) := by decide +kernel
theorem dX6_back_6 : decode cX6_back 6 = .ok (.invokestatic 67, 3) := by decide +kernel
theorem dX6_back_9 : decode cX6_back 9 = .ok (.ifCond .ne 6, 3) := by decide +kernel
theorem dX6_back_12 : decode cX6_back 12 = .ok (.bipush (-2), 2) := by decide +kernel
theorem dX6_back_14 : decode cX6_back 14 = .ok (.ireturn, 1) := by decide +kernel
theorem dX6_back_15 : decode cX6_back 15 = .ok (.aload_n 0, 1) := by decide +kernel
theorem dX6_back_16 : decode cX6_back 16 = .ok (.dup, 1) := by decide +kernel
theorem dX6_back_17 : decode cX6_back 17 = .ok (.getfield 104, 3) := by decide +kernel
theorem dX6_back_20 : decode cX6_back 20 = .ok (.iload_n 1, 1) := by decide +kernel
theorem dX6_back_21 : decode cX6_back 21 = .ok (.isub, 1) := by decide +kernel
theorem dX6_back_22 : decode cX6_back 22 = .ok (.putfield 104, 3) := by decide +kernel
theorem dX6_back_25 : decode cX6_back 25 = .ok (.aload_n 0, 1) := by decide +kernel
theorem dX6_back_26 : decode cX6_back 26 = .ok (.getfield 104, 3) := by decide +kernel
theorem dX6_back_29 : decode cX6_back 29 = .ok (.ireturn, 1) := by decide +kernel
theorem dX6_areSo_0 : decode cX6_areSo 0 = .ok (.aload_n 0, 1) := by decide +kernel
theorem dX6_areSo_1 : decode cX6_areSo 1 = .ok (.invokevirtual 158, 3) := by decide +kernel
theorem dX6_areSo_4 : decode cX6_areSo 4 = .ok (.bipush (-9), 2) := by decide +kernel
theorem dX6_areSo_6 : decode cX6_areSo 6 = .ok (.if_icmp .eq 5, 3) := by decide +kernel
theorem dX6_areSo_9 : decode cX6_areSo 9 = .ok (.iconst 0, 1) := by decide +kernel
theorem dX6_areSo_10 : decode cX6_areSo 10 = .ok (.ireturn, 1) := by decide +kernel
theorem dX6_areSo_11 : decode cX6_areSo 11 = .ok (.iconst 0, 1) := by decide +kernel
theorem dX6_areSo_12 : decode cX6_areSo 12 = .ok (.istore_n 1, 1) := by decide +kernel
theorem dX6_areSo_13 : decode cX6_areSo 13 = .ok (.iload_n 1, 1) := by decide +kernel
theorem dX6_areSo_14 : decode cX6_areSo 14 = .ok (.aload_n 0, 1) := by decide +kernel
theorem dX6_areSo_15 : decode cX6_areSo 15 = .ok (.getfield 104, 3) := by decide +kernel
theorem dX6_areSo_18 : decode cX6_areSo 18 = .ok (.if_icmp .ge 31, 3) := by decide +kernel
theorem dX6_areSo_21 : decode cX6_areSo 21 = .ok (.aload_n 0, 1) := by decide +kernel
theorem dX6_areSo_22 : decode cX6_areSo 22 = .ok (.getfield 46, 3) := by decide +kernel
theorem dX6_areSo_25 : decode cX6_areSo 25 = .ok (.aload_n 0, 1) := by decide +kernel
theorem dX6_areSo_26 : decode cX6_areSo 26 = .ok (.getfield 55, 3) := by decide +kernel
theorem dX6_areSo_29 : decode cX6_areSo 29 = .ok (.iload_n 1, 1) := by decide +kernel
theorem dX6_areSo_30 : decode cX6_areSo 30 = .ok (.iaload, 1) := by decide +kernel
theorem dX6_areSo_31 : decode cX6_areSo 31 = .ok (.iaload, 1) := by decide +kernel
theorem dX6_areSo_32 : decode cX6_areSo 32 = .ok (.aload_n 0, 1) := by decide +kernel
theorem dX6_areSo_33 : decode cX6_areSo 33 = .ok (.getfield 58, 3) := by decide +kernel
theorem dX6_areSo_36 : decode cX6_areSo 36 = .ok (.iload_n 1, 1) := by decide +kernel
theorem dX6_areSo_37 : decode cX6_areSo 37 = .ok (.iaload, 1) := by decide +kernel
theorem dX6_areSo_38 : decode cX6_areSo 38 = .ok (.if_icmp .eq 5, 3) := by decide +kernel
theorem dX6_areSo_41 : decode cX6_areSo 41 = .ok (.iconst 0, 1) := by decide +kernel
theorem dX6_areSo_42 : decode cX6_areSo 42 = .ok (.ireturn, 1) := by decide +kernel
theorem dX6_areSo_43 : decode cX6_areSo 43 = .ok (.iinc 1 1, 3) := by decide +kernel
theorem dX6_areSo_46 : decode cX6_areSo 46 = .ok (.goto (-33), 3) := by decide +kernel
theorem dX6_areSo_49 : decode cX6_areSo 49 = .ok (.iconst 1, 1) := by decide +kernel
theorem dX6_areSo_50 : decode cX6_areSo 50 = .ok (.ireturn, 1) := by decide +kernel
theorem dX6_lay_0 : decode cX6_lay 0 = .ok (.iload_n 1, 1) := by decide +kernel
theorem dX6_lay_1 : decode cX6_lay 1 = .ok (.ifCond .eq 10, 3) := by decide +kernel
theorem dX6_lay_4 : decode cX6_lay 4 = .ok (.iload_n 2, 1) := by decide +kernel
theorem dX6_lay_5 : decode cX6_lay 5 = .ok (.invokestatic 80, 3) := by decide +kernel
theorem dX6_lay_8 : decode cX6_lay 8 = .ok (.ifCond .ne 5, 3) := by decide +kernel
theorem dX6_lay_11 : decode cX6_lay 11 = .ok (.iconst (-1), 1) := by decide +kernel
theorem dX6_lay_12 : decode cX6_lay 12 = .ok (.ireturn, 1) := by decide +kernel
theorem dX6_lay_13 : decode cX6_lay 13 = .ok (.iload_n 3, 1) := by decide +kernel
theorem dX6_lay_14 : decode cX6_lay 14 = .ok (.iload 5, 2) := by decide +kernel
theorem dX6_lay_16 : decode cX6_lay 16 = .ok (.invokestatic 152, 3) := by decide +kernel
theorem dX6_lay_19 : decode cX6_lay 19 = .ok (.ifCond .eq 16, 3) := by decide +kernel
theorem dX6_lay_22 : decode cX6_lay 22 = .ok (.aload_n 0, 1) := by decide +kernel
theorem dX6_lay_23 : decode cX6_lay 23 = .ok (.iload_n 2, 1) := by decide +kernel
theorem dX6_lay_24 : decode cX6_lay 24 = .ok (.iload_n 3, 1) := by decide +kernel
theorem dX6_lay_25 : decode cX6_lay 25 = .ok (.iload 4, 2) := by decide +kernel
theorem dX6_lay_27 : decode cX6_lay 27 = .ok (.iload 5, 2) := by decide +kernel
theorem dX6_lay_29 : decode cX6_lay 29 = .ok (.invokevirtual 155, 3) := by decide +kernel
theorem dX6_lay_32 : decode cX6_lay 32 = .ok (.goto 5, 3) := by decide +kernel
theorem dX6_lay_35 : decode cX6_lay 35 = .ok (.bipush (-2), 2) := by decide +kernel
theorem dX6_lay_37 : decode cX6_lay 37 = .ok (.ireturn, 1) := by decide +kernel
theorem dX6_speeds_0 : decode cX6_speeds 0 = .ok (.aload_n 0, 1) := by decide +kernel
theorem dX6_speeds_1 : decode cX6_speeds 1 = .ok (.iconst 0, 1) := by decide +kernel
theorem dX6_speeds_2 : decode cX6_speeds 2 = .ok (.putfield 61, 3) := by decide +kernel
theorem dX6_speeds_5 : decode cX6_speeds 5 = .ok (.aload_n 0, 1) := by decide +kernel
theorem dX6_speeds_6 : decode cX6_speeds 6 = .ok (.iload_n 1, 1) := by decide +kernel
theorem dX6_speeds_7 : decode cX6_speeds 7 = .ok (.invokevirtual 121, 3) := by decide +kernel
theorem dX6_speeds_10 : decode cX6_speeds 10 = .ok (.ifCond .eq 23, 3) := by decide +kernel
theorem dX6_speeds_13 : decode cX6_speeds 13 = .ok (.iload_n 2, 1) := by decide +kernel
theorem dX6_speeds_14 : decode cX6_speeds 14 = .ok (.invokestatic 80, 3) := by decide +kernel
theorem dX6_speeds_17 : decode cX6_speeds 17 = .ok (.ifCond .eq 16, 3) := by decide +kernel
theorem dX6_speeds_20 : decode cX6_speeds 20 = .ok (.iload 6, 2) := by decide +kernel
theorem dX6_speeds_22 : decode cX6_speeds 22 = .ok (.iconst 0, 1) := by decide +kernel
theorem dX6_speeds_23 : decode cX6_speeds 23 = .ok (.iconst 1, 1) := by decide +kernel
theorem dX6_speeds_24 : decode cX6_speeds 24 = .ok (.invokestatic 67, 3) := by decide +kernel
theorem dX6_speeds_27 : decode cX6_speeds 27 = .ok (.ifCond .ne 6, 3) := by decide +kernel
theorem dX6_speeds_30 : decode cX6_speeds 30 = .ok (.bipush (-2), 2) := by decide +kernel
theorem dX6_speeds_32 : decode cX6_speeds 32 = .ok (.ireturn, 1) := by decide +kernel
theorem dX6_speeds_33 : decode cX6_speeds 33 = .ok (.aload_n 0, 1) := by decide +kernel
theorem dX6_speeds_34 : decode cX6_speeds 34 = .ok (.aload_n 0, 1) := by decide +kernel
theorem dX6_speeds_35 : decode cX6_speeds 35 = .ok (.iload_n 1, 1) := by decide +kernel
theorem dX6_speeds_36 : decode cX6_speeds 36 = .ok (.invokevirtual 121, 3) := by decide +kernel
theorem dX6_speeds_39 : decode cX6_speeds 39 = .ok (.iload_n 2, 1) := by decide +kernel
theorem dX6_speeds_40 : decode cX6_speeds 40 = .ok (.iload_n 3, 1) := by decide +kernel
theorem dX6_speeds_41 : decode cX6_speeds 41 = .ok (.iload 4, 2) := by decide +kernel
theorem dX6_speeds_43 : decode cX6_speeds 43 = .ok (.iload 5, 2) := by decide +kernel
theorem dX6_speeds_45 : decode cX6_speeds 45 = .ok (.invokevirtual 194, 3) := by decide +kernel
theorem dX6_speeds_48 : decode cX6_speeds 48 = .ok (.istore 7, 2) := by decide +kernel
theorem dX6_speeds_50 : decode cX6_speeds 50 = .ok (.iload 7, 2) := by decide +kernel
theorem dX6_speeds_52 : decode cX6_speeds 52 = .ok (.ifCond .eq 6, 3) := by decide +kernel
theorem dX6_speeds_55 : decode cX6_speeds 55 = .ok (.iload 7, 2) := by decide +kernel
theorem dX6_speeds_57 : decode cX6_speeds 57 = .ok (.ireturn, 1) := by decide +kernel
theorem dX6_speeds_58 : decode cX6_speeds 58 = .ok (.aload_n 0, 1) := by decide +kernel
theorem dX6_speeds_59 : decode cX6_speeds 59 = .ok (.getfield 28, 3) := by decide +kernel
theorem dX6_speeds_62 : decode cX6_speeds 62 = .ok (.iload_n 1, 1) := by decide +kernel
theorem dX6_speeds_63 : decode cX6_speeds 63 = .ok (.iaload, 1) := by decide +kernel
theorem dX6_speeds_64 : decode cX6_speeds 64 = .ok (.istore 8, 2) := by decide +kernel
theorem dX6_speeds_66 : decode cX6_speeds 66 = .ok (.iconst 0, 1) := by decide +kernel
theorem dX6_speeds_67 : decode cX6_speeds 67 = .ok (.istore 9, 2) := by decide +kernel
theorem dX6_speeds_69 : decode cX6_speeds 69 = .ok (.bipush (-9), 2) := by decide +kernel
theorem dX6_speeds_71 : decode cX6_speeds 71 = .ok (.istore 10, 2) := by decide +kernel
theorem dX6_speeds_73 : decode cX6_speeds 73 = .ok (.iconst 0, 1) := by decide +kernel
theorem dX6_speeds_74 : decode cX6_speeds 74 = .ok (.istore 11, 2) := by decide +kernel
theorem dX6_speeds_76 : decode cX6_speeds 76 = .ok (.iload 11, 2) := by decide +kernel
theorem dX6_speeds_78 : decode cX6_speeds 78 = .ok (.bipush 99, 2) := by decide +kernel
theorem dX6_speeds_80 : decode cX6_speeds 80 = .ok (.if_icmp .gt 41, 3) := by decide +kernel
theorem dX6_speeds_83 : decode cX6_speeds 83 = .ok (.aload_n 0, 1) := by decide +kernel
theorem dX6_speeds_84 : decode cX6_speeds 84 = .ok (.getfield 28, 3) := by decide +kernel
theorem dX6_speeds_87 : decode cX6_speeds 87 = .ok (.iload_n 1, 1) := by decide +kernel
theorem dX6_speeds_88 : decode cX6_speeds 88 = .ok (.iload 11, 2) := by decide +kernel
theorem dX6_speeds_90 : decode cX6_speeds 90 = .ok (.iastore, 1) := by decide +kernel
theorem dX6_speeds_91 : decode cX6_speeds 91 = .ok (.aload_n 0, 1) := by decide +kernel
theorem dX6_speeds_92 : decode cX6_speeds 92 = .ok (.invokevirtual 198, 3) := by decide +kernel
theorem dX6_speeds_95 : decode cX6_speeds 95 = .ok (.ifCond .eq 20, 3) := by decide +kernel
theorem dX6_speeds_98 : decode cX6_speeds 98 = .ok (.iload 9, 2) := by decide +kernel
theorem dX6_speeds_100 : decode cX6_speeds 100 = .ok (.ifCond .ne 8, 3) := by decide +kernel
theorem dX6_speeds_103 : decode cX6_speeds 103 = .ok (.iload 11, 2) := by decide +kernel
theorem dX6_speeds_105 : decode cX6_speeds 105 = .ok (.goto 5, 3) := by decide +kernel
theorem dX6_speeds_108 : decode cX6_speeds 108 = .ok (.iload 10, 2) := by decide +kernel
theorem dX6_speeds_110 : decode cX6_speeds 110 = .ok (.istore 10, 2) := by decide +kernel
theorem dX6_speeds_112 : decode cX6_speeds 112 = .ok (.iinc 9 1, 3) := by decide +kernel
theorem dX6_speeds_115 : decode cX6_speeds 115 = .ok (.iinc 11 1, 3) := by decide +kernel
theorem dX6_speeds_118 : decode cX6_speeds 118 = .ok (.goto (-42), 3) := by decide +kernel
theorem dX6_speeds_121 : decode cX6_speeds 121 = .ok (.aload_n 0, 1) := by decide +kernel
theorem dX6_speeds_122 : decode cX6_speeds 122 = .ok (.getfield 28, 3) := by decide +kernel
theorem dX6_speeds_125 : decode cX6_speeds 125 = .ok (.iload_n 1, 1) := by decide +kernel
theorem dX6_speeds_126 : decode cX6_speeds 126 = .ok (.iload 8, 2) := by decide +kernel
theorem dX6_speeds_128 : decode cX6_speeds 128 = .ok (.iastore, 1) := by decide +kernel
theorem dX6_speeds_129 : decode cX6_speeds 129 = .ok (.iload 6, 2) := by decide +kernel
theorem dX6_speeds_131 : decode cX6_speeds 131 = .ok (.ifCond .ne 8, 3) := by decide +kernel
theorem dX6_speeds_134 : decode cX6_speeds 134 = .ok (.iload 9, 2) := by decide +kernel
theorem dX6_speeds_136 : decode cX6_speeds 136 = .ok (.goto 5, 3) := by decide +kernel
theorem dX6_speeds_139 : decode cX6_speeds 139 = .ok (.iload 10, 2) := by decide +kernel
theorem dX6_speeds_141 : decode cX6_speeds 141 = .ok (.ireturn, 1) := by decide +kernel
theorem dX6_nails_0 : decode cX6_nails 0 = .ok (.aload_n 0, 1) := by decide +kernel
theorem dX6_nails_1 : decode cX6_nails 1 = .ok (.iconst 0, 1) := by decide +kernel
theorem dX6_nails_2 : decode cX6_nails 2 = .ok (.putfield 61, 3) := by decide +kernel
theorem dX6_nails_5 : decode cX6_nails 5 = .ok (.aload_n 0, 1) := by decide +kernel
theorem dX6_nails_6 : decode cX6_nails 6 = .ok (.aload_n 0, 1) := by decide +kernel
theorem dX6_nails_7 : decode cX6_nails 7 = .ok (.iload_n 1, 1) := by decide +kernel
theorem dX6_nails_8 : decode cX6_nails 8 = .ok (.invokevirtual 121, 3) := by decide +kernel
theorem dX6_nails_11 : decode cX6_nails 11 = .ok (.iload_n 2, 1) := by decide +kernel
theorem dX6_nails_12 : decode cX6_nails 12 = .ok (.iload_n 3, 1) := by decide +kernel
theorem dX6_nails_13 : decode cX6_nails 13 = .ok (.iload 4, 2) := by decide +kernel
theorem dX6_nails_15 : decode cX6_nails 15 = .ok (.iload 5, 2) := by decide +kernel
theorem dX6_nails_17 : decode cX6_nails 17 = .ok (.invokevirtual 194, 3) := by decide +kernel
theorem dX6_nails_20 : decode cX6_nails 20 = .ok (.istore 6, 2) := by decide +kernel
theorem dX6_nails_22 : decode cX6_nails 22 = .ok (.iload 6, 2) := by decide +kernel
theorem dX6_nails_24 : decode cX6_nails 24 = .ok (.ifCond .eq 6, 3) := by decide +kernel
theorem dX6_nails_27 : decode cX6_nails 27 = .ok (.iload 6, 2) := by decide +kernel
theorem dX6_nails_29 : decode cX6_nails 29 = .ok (.ireturn, 1) := by decide +kernel
theorem dX6_nails_30 : decode cX6_nails 30 = .ok (.aload_n 0, 1) := by decide +kernel
theorem dX6_nails_31 : decode cX6_nails 31 = .ok (.getfield 31, 3) := by decide +kernel
theorem dX6_nails_34 : decode cX6_nails 34 = .ok (.iload_n 1, 1) := by decide +kernel
theorem dX6_nails_35 : decode cX6_nails 35 = .ok (.iaload, 1) := by decide +kernel
theorem dX6_nails_36 : decode cX6_nails 36 = .ok (.istore 7, 2) := by decide +kernel
theorem dX6_nails_38 : decode cX6_nails 38 = .ok (.iconst 0, 1) := by decide +kernel
theorem dX6_nails_39 : decode cX6_nails 39 = .ok (.istore 8, 2) := by decide +kernel
theorem dX6_nails_41 : decode cX6_nails 41 = .ok (.iconst 0, 1) := by decide +kernel
theorem dX6_nails_42 : decode cX6_nails 42 = .ok (.istore 9, 2) := by decide +kernel
theorem dX6_nails_44 : decode cX6_nails 44 = .ok (.iload 9, 2) := by decide +kernel
theorem dX6_nails_46 : decode cX6_nails 46 = .ok (.bipush 9, 2) := by decide +kernel
theorem dX6_nails_48 : decode cX6_nails 48 = .ok (.if_icmp .gt 37, 3) := by decide +kernel
theorem dX6_nails_51 : decode cX6_nails 51 = .ok (.aload_n 0, 1) := by decide +kernel
theorem dX6_nails_52 : decode cX6_nails 52 = .ok (.getfield 31, 3) := by decide +kernel
theorem dX6_nails_55 : decode cX6_nails 55 = .ok (.iload_n 1, 1) := by decide +kernel
theorem dX6_nails_56 : decode cX6_nails 56 = .ok (.iload 9, 2) := by decide +kernel
theorem dX6_nails_58 : decode cX6_nails 58 = .ok (.iastore, 1) := by decide +kernel
theorem dX6_nails_59 : decode cX6_nails 59 = .ok (.iload 8, 2) := by decide +kernel
theorem dX6_nails_61 : decode cX6_nails 61 = .ok (.aload_n 0, 1) := by decide +kernel
theorem dX6_nails_62 : decode cX6_nails 62 = .ok (.invokevirtual 198, 3) := by decide +kernel
theorem dX6_nails_65 : decode cX6_nails 65 = .ok (.ifCond .eq 10, 3) := by decide +kernel
theorem dX6_nails_68 : decode cX6_nails 68 = .ok (.iconst 1, 1) := by decide +kernel
theorem dX6_nails_69 : decode cX6_nails 69 = .ok (.iload 9, 2) := by decide +kernel
theorem dX6_nails_71 : decode cX6_nails 71 = .ok (.ishl, 1) := by decide +kernel
theorem dX6_nails_72 : decode cX6_nails 72 = .ok (.goto 4, 3) := by decide +kernel
theorem dX6_nails_75 : decode cX6_nails 75 = .ok (.iconst 0, 1) := by decide +kernel
theorem dX6_nails_76 : decode cX6_nails 76 = .ok (.ior, 1) := by decide +kernel
theorem dX6_nails_77 : decode cX6_nails 77 = .ok (.istore 8, 2) := by decide +kernel
theorem dX6_nails_79 : decode cX6_nails 79 = .ok (.iinc 9 1, 3) := by decide +kernel
theorem dX6_nails_82 : decode cX6_nails 82 = .ok (.goto (-38), 3) := by decide +kernel
theorem dX6_nails_85 : decode cX6_nails 85 = .ok (.aload_n 0, 1) := by decide +kernel
theorem dX6_nails_86 : decode cX6_nails 86 = .ok (.getfield 31, 3) := by decide +kernel
theorem dX6_nails_89 : decode cX6_nails 89 = .ok (.iload_n 1, 1) := by decide +kernel
theorem dX6_nails_90 : decode cX6_nails 90 = .ok (.iload 7, 2) := by decide +kernel
theorem dX6_nails_92 : decode cX6_nails 92 = .ok (.iastore, 1) := by decide +kernel
theorem dX6_nails_93 : decode cX6_nails 93 = .ok (.iload 8, 2) := by decide +kernel
theorem dX6_nails_95 : decode cX6_nails 95 = .ok (.ireturn, 1) := by decide +kernel
theorem dX6_slicks_0 : decode cX6_slicks 0 = .ok (.aload_n 0, 1) := by decide +kernel
theorem dX6_slicks_1 : decode cX6_slicks 1 = .ok (.iconst 0, 1) := by decide +kernel
theorem dX6_slicks_2 : decode cX6_slicks 2 = .ok (.putfield 61, 3) := by decide +kernel
theorem dX6_slicks_5 : decode cX6_slicks 5 = .ok (.aload_n 0, 1) := by decide +kernel
theorem dX6_slicks_6 : decode cX6_slicks 6 = .ok (.aload_n 0, 1) := by decide +kernel
theorem dX6_slicks_7 : decode cX6_slicks 7 = .ok (.iload_n 1, 1) := by decide +kernel
theorem dX6_slicks_8 : decode cX6_slicks 8 = .ok (.invokevirtual 118, 3) := by decide +kernel
theorem dX6_slicks_11 : decode cX6_slicks 11 = .ok (.iload_n 2, 1) := by decide +kernel
theorem dX6_slicks_12 : decode cX6_slicks 12 = .ok (.iload_n 3, 1) := by decide +kernel
theorem dX6_slicks_13 : decode cX6_slicks 13 = .ok (.iload 4, 2) := by decide +kernel
theorem dX6_slicks_15 : decode cX6_slicks 15 = .ok (.iload 5, 2) := by decide +kernel
theorem dX6_slicks_17 : decode cX6_slicks 17 = .ok (.invokevirtual 194, 3) := by decide +kernel
theorem dX6_slicks_20 : decode cX6_slicks 20 = .ok (.istore 6, 2) := by decide +kernel
theorem dX6_slicks_22 : decode cX6_slicks 22 = .ok (.iload 6, 2) := by decide +kernel
theorem dX6_slicks_24 : decode cX6_slicks 24 = .ok (.ifCond .eq 6, 3) := by decide +kernel
theorem dX6_slicks_27 : decode cX6_slicks 27 = .ok (.iload 6, 2) := by decide +kernel
theorem dX6_slicks_29 : decode cX6_slicks 29 = .ok (.ireturn, 1) := by decide +kernel
theorem dX6_slicks_30 : decode cX6_slicks 30 = .ok (.aload_n 0, 1) := by decide +kernel
theorem dX6_slicks_31 : decode cX6_slicks 31 = .ok (.getfield 19, 3) := by decide +kernel
theorem dX6_slicks_34 : decode cX6_slicks 34 = .ok (.iload_n 1, 1) := by decide +kernel
theorem dX6_slicks_35 : decode cX6_slicks 35 = .ok (.iaload, 1) := by decide +kernel
theorem dX6_slicks_36 : decode cX6_slicks 36 = .ok (.istore 7, 2) := by decide +kernel
theorem dX6_slicks_38 : decode cX6_slicks 38 = .ok (.iconst 0, 1) := by decide +kernel
theorem dX6_slicks_39 : decode cX6_slicks 39 = .ok (.istore 8, 2) := by decide +kernel
theorem dX6_slicks_41 : decode cX6_slicks 41 = .ok (.iconst 0, 1) := by decide +kernel
theorem dX6_slicks_42 : decode cX6_slicks 42 = .ok (.istore 9, 2) := by decide +kernel
theorem dX6_slicks_44 : decode cX6_slicks 44 = .ok (.iload 9, 2) := by decide +kernel
theorem dX6_slicks_46 : decode cX6_slicks 46 = .ok (.bipush 9, 2) := by decide +kernel
theorem dX6_slicks_48 : decode cX6_slicks 48 = .ok (.if_icmp .gt 37, 3) := by decide +kernel
theorem dX6_slicks_51 : decode cX6_slicks 51 = .ok (.aload_n 0, 1) := by decide +kernel
theorem dX6_slicks_52 : decode cX6_slicks 52 = .ok (.getfield 19, 3) := by decide +kernel
theorem dX6_slicks_55 : decode cX6_slicks 55 = .ok (.iload_n 1, 1) := by decide +kernel
theorem dX6_slicks_56 : decode cX6_slicks 56 = .ok (.iload 9, 2) := by decide +kernel
theorem dX6_slicks_58 : decode cX6_slicks 58 = .ok (.iastore, 1) := by decide +kernel
theorem dX6_slicks_59 : decode cX6_slicks 59 = .ok (.iload 8, 2) := by decide +kernel
theorem dX6_slicks_61 : decode cX6_slicks 61 = .ok (.aload_n 0, 1) := by decide +kernel
theorem dX6_slicks_62 : decode cX6_slicks 62 = .ok (.invokevirtual 198, 3) := by decide +kernel
theorem dX6_slicks_65 : decode cX6_slicks 65 = .ok (.ifCond .eq 10, 3) := by decide +kernel
theorem dX6_slicks_68 : decode cX6_slicks 68 = .ok (.iconst 1, 1) := by decide +kernel
theorem dX6_slicks_69 : decode cX6_slicks 69 = .ok (.iload 9, 2) := by decide +kernel
theorem dX6_slicks_71 : decode cX6_slicks 71 = .ok (.ishl, 1) := by decide +kernel
theorem dX6_slicks_72 : decode cX6_slicks 72 = .ok (.goto 4, 3) := by decide +kernel
theorem dX6_slicks_75 : decode cX6_slicks 75 = .ok (.iconst 0, 1) := by decide +kernel
theorem dX6_slicks_76 : decode cX6_slicks 76 = .ok (.ior, 1) := by decide +kernel
theorem dX6_slicks_77 : decode cX6_slicks 77 = .ok (.istore 8, 2) := by decide +kernel
theorem dX6_slicks_79 : decode cX6_slicks 79 = .ok (.iinc 9 1, 3) := by decide +kernel
theorem dX6_slicks_82 : decode cX6_slicks 82 = .ok (.goto (-38), 3) := by decide +kernel
theorem dX6_slicks_85 : decode cX6_slicks 85 = .ok (.aload_n 0, 1) := by decide +kernel
theorem dX6_slicks_86 : decode cX6_slicks 86 = .ok (.getfield 19, 3) := by decide +kernel
theorem dX6_slicks_89 : decode cX6_slicks 89 = .ok (.iload_n 1, 1) := by decide +kernel
theorem dX6_slicks_90 : decode cX6_slicks 90 = .ok (.iload 7, 2) := by decide +kernel
theorem dX6_slicks_92 : decode cX6_slicks 92 = .ok (.iastore, 1) := by decide +kernel
theorem dX6_slicks_93 : decode cX6_slicks 93 = .ok (.iload 8, 2) := by decide +kernel
theorem dX6_slicks_95 : decode cX6_slicks 95 = .ok (.ireturn, 1) := by decide +kernel
theorem dX6_kinds_0 : decode cX6_kinds 0 = .ok (.aload_n 0, 1) := by decide +kernel
theorem dX6_kinds_1 : decode cX6_kinds 1 = .ok (.iconst 0, 1) := by decide +kernel
theorem dX6_kinds_2 : decode cX6_kinds 2 = .ok (.putfield 61, 3) := by decide +kernel
theorem dX6_kinds_5 : decode cX6_kinds 5 = .ok (.aload_n 0, 1) := by decide +kernel
theorem dX6_kinds_6 : decode cX6_kinds 6 = .ok (.aload_n 0, 1) := by decide +kernel
theorem dX6_kinds_7 : decode cX6_kinds 7 = .ok (.iload_n 1, 1) := by decide +kernel
theorem dX6_kinds_8 : decode cX6_kinds 8 = .ok (.invokevirtual 121, 3) := by decide +kernel
theorem dX6_kinds_11 : decode cX6_kinds 11 = .ok (.iload_n 2, 1) := by decide +kernel
theorem dX6_kinds_12 : decode cX6_kinds 12 = .ok (.iload_n 3, 1) := by decide +kernel
theorem dX6_kinds_13 : decode cX6_kinds 13 = .ok (.iload 4, 2) := by decide +kernel
theorem dX6_kinds_15 : decode cX6_kinds 15 = .ok (.iload 5, 2) := by decide +kernel
theorem dX6_kinds_17 : decode cX6_kinds 17 = .ok (.invokevirtual 194, 3) := by decide +kernel
theorem dX6_kinds_20 : decode cX6_kinds 20 = .ok (.istore 6, 2) := by decide +kernel
theorem dX6_kinds_22 : decode cX6_kinds 22 = .ok (.iload 6, 2) := by decide +kernel
theorem dX6_kinds_24 : decode cX6_kinds 24 = .ok (.ifCond .eq 6, 3) := by decide +kernel
theorem dX6_kinds_27 : decode cX6_kinds 27 = .ok (.iload 6, 2) := by decide +kernel
theorem dX6_kinds_29 : decode cX6_kinds 29 = .ok (.ireturn, 1) := by decide +kernel
theorem dX6_kinds_30 : decode cX6_kinds 30 = .ok (.aload_n 0, 1) := by decide +kernel
theorem dX6_kinds_31 : decode cX6_kinds 31 = .ok (.getfield 25, 3) := by decide +kernel
theorem dX6_kinds_34 : decode cX6_kinds 34 = .ok (.iload_n 1, 1) := by decide +kernel
theorem dX6_kinds_35 : decode cX6_kinds 35 = .ok (.iaload, 1) := by decide +kernel
theorem dX6_kinds_36 : decode cX6_kinds 36 = .ok (.istore 7, 2) := by decide +kernel
theorem dX6_kinds_38 : decode cX6_kinds 38 = .ok (.iconst 0, 1) := by decide +kernel
theorem dX6_kinds_39 : decode cX6_kinds 39 = .ok (.istore 8, 2) := by decide +kernel
theorem dX6_kinds_41 : decode cX6_kinds 41 = .ok (.iconst 0, 1) := by decide +kernel
theorem dX6_kinds_42 : decode cX6_kinds 42 = .ok (.istore 9, 2) := by decide +kernel
theorem dX6_kinds_44 : decode cX6_kinds 44 = .ok (.iload 9, 2) := by decide +kernel
theorem dX6_kinds_46 : decode cX6_kinds 46 = .ok (.iconst 3, 1) := by decide +kernel
theorem dX6_kinds_47 : decode cX6_kinds 47 = .ok (.if_icmp .ge 37, 3) := by decide +kernel
theorem dX6_kinds_50 : decode cX6_kinds 50 = .ok (.aload_n 0, 1) := by decide +kernel
theorem dX6_kinds_51 : decode cX6_kinds 51 = .ok (.getfield 25, 3) := by decide +kernel
theorem dX6_kinds_54 : decode cX6_kinds 54 = .ok (.iload_n 1, 1) := by decide +kernel
theorem dX6_kinds_55 : decode cX6_kinds 55 = .ok (.iload 9, 2) := by decide +kernel
theorem dX6_kinds_57 : decode cX6_kinds 57 = .ok (.iastore, 1) := by decide +kernel
theorem dX6_kinds_58 : decode cX6_kinds 58 = .ok (.iload 8, 2) := by decide +kernel
theorem dX6_kinds_60 : decode cX6_kinds 60 = .ok (.aload_n 0, 1) := by decide +kernel
theorem dX6_kinds_61 : decode cX6_kinds 61 = .ok (.invokevirtual 198, 3) := by decide +kernel
theorem dX6_kinds_64 : decode cX6_kinds 64 = .ok (.ifCond .eq 10, 3) := by decide +kernel
theorem dX6_kinds_67 : decode cX6_kinds 67 = .ok (.iconst 1, 1) := by decide +kernel
theorem dX6_kinds_68 : decode cX6_kinds 68 = .ok (.iload 9, 2) := by decide +kernel
theorem dX6_kinds_70 : decode cX6_kinds 70 = .ok (.ishl, 1) := by decide +kernel
theorem dX6_kinds_71 : decode cX6_kinds 71 = .ok (.goto 4, 3) := by decide +kernel
theorem dX6_kinds_74 : decode cX6_kinds 74 = .ok (.iconst 0, 1) := by decide +kernel
theorem dX6_kinds_75 : decode cX6_kinds 75 = .ok (.ior, 1) := by decide +kernel
theorem dX6_kinds_76 : decode cX6_kinds 76 = .ok (.istore 8, 2) := by decide +kernel
theorem dX6_kinds_78 : decode cX6_kinds 78 = .ok (.iinc 9 1, 3) := by decide +kernel
theorem dX6_kinds_81 : decode cX6_kinds 81 = .ok (.goto (-37), 3) := by decide +kernel
theorem dX6_kinds_84 : decode cX6_kinds 84 = .ok (.aload_n 0, 1) := by decide +kernel
theorem dX6_kinds_85 : decode cX6_kinds 85 = .ok (.getfield 25, 3) := by decide +kernel
theorem dX6_kinds_88 : decode cX6_kinds 88 = .ok (.iload_n 1, 1) := by decide +kernel
theorem dX6_kinds_89 : decode cX6_kinds 89 = .ok (.iload 7, 2) := by decide +kernel
theorem dX6_kinds_91 : decode cX6_kinds 91 = .ok (.iastore, 1) := by decide +kernel
theorem dX6_kinds_92 : decode cX6_kinds 92 = .ok (.iload 8, 2) := by decide +kernel
theorem dX6_kinds_94 : decode cX6_kinds 94 = .ok (.ireturn, 1) := by decide +kernel
theorem dX6_inLeastTerms_0 : decode cX6_inLeastTerms 0 = .ok (.lload_n 0, 1) := by decide +kernel
theorem dX6_inLeastTerms_1 : decode cX6_inLeastTerms 1 = .ok (.lstore 5, 2) := by decide +kernel
theorem dX6_inLeastTerms_3 : decode cX6_inLeastTerms 3 = .ok (.lload_n 2, 1) := by decide +kernel
theorem dX6_inLeastTerms_4 : decode cX6_inLeastTerms 4 = .ok (.lstore 7, 2) := by decide +kernel
theorem dX6_inLeastTerms_6 : decode cX6_inLeastTerms 6 = .ok (.lload 7, 2) := by decide +kernel
theorem dX6_inLeastTerms_8 : decode cX6_inLeastTerms 8 = .ok (.lconst 0, 1) := by decide +kernel
theorem dX6_inLeastTerms_9 : decode cX6_inLeastTerms 9 = .ok (.lcmp, 1) := by decide +kernel
theorem dX6_inLeastTerms_10 : decode cX6_inLeastTerms 10 = .ok (.ifCond .eq 21, 3) := by decide +kernel
theorem dX6_inLeastTerms_13 : decode cX6_inLeastTerms 13 = .ok (.lload 5, 2) := by decide +kernel
theorem dX6_inLeastTerms_15 : decode cX6_inLeastTerms 15 = .ok (.lload 7, 2) := by decide +kernel
theorem dX6_inLeastTerms_17 : decode cX6_inLeastTerms 17 = .ok (.lrem, 1) := by decide +kernel
theorem dX6_inLeastTerms_18 : decode cX6_inLeastTerms 18 = .ok (.lstore 9, 2) := by decide +kernel
theorem dX6_inLeastTerms_20 : decode cX6_inLeastTerms 20 = .ok (.lload 7, 2) := by decide +kernel
theorem dX6_inLeastTerms_22 : decode cX6_inLeastTerms 22 = .ok (.lstore 5, 2) := by decide +kernel
theorem dX6_inLeastTerms_24 : decode cX6_inLeastTerms 24 = .ok (.lload 9, 2) := by decide +kernel
theorem dX6_inLeastTerms_26 : decode cX6_inLeastTerms 26 = .ok (.lstore 7, 2) := by decide +kernel
theorem dX6_inLeastTerms_28 : decode cX6_inLeastTerms 28 = .ok (.goto (-22), 3) := by decide +kernel
theorem dX6_inLeastTerms_31 : decode cX6_inLeastTerms 31 = .ok (.iload 4, 2) := by decide +kernel
theorem dX6_inLeastTerms_33 : decode cX6_inLeastTerms 33 = .ok (.ifCond .ne 10, 3) := by decide +kernel
theorem dX6_inLeastTerms_36 : decode cX6_inLeastTerms 36 = .ok (.lload_n 0, 1) := by decide +kernel
theorem dX6_inLeastTerms_37 : decode cX6_inLeastTerms 37 = .ok (.lload 5, 2) := by decide +kernel
theorem dX6_inLeastTerms_39 : decode cX6_inLeastTerms 39 = .ok (.ldiv, 1) := by decide +kernel
theorem dX6_inLeastTerms_40 : decode cX6_inLeastTerms 40 = .ok (.goto 7, 3) := by decide +kernel
theorem dX6_inLeastTerms_43 : decode cX6_inLeastTerms 43 = .ok (.lload_n 2, 1) := by decide +kernel
theorem dX6_inLeastTerms_44 : decode cX6_inLeastTerms 44 = .ok (.lload 5, 2) := by decide +kernel
theorem dX6_inLeastTerms_46 : decode cX6_inLeastTerms 46 = .ok (.ldiv, 1) := by decide +kernel
theorem dX6_inLeastTerms_47 : decode cX6_inLeastTerms 47 = .ok (.lreturn, 1) := by decide +kernel
theorem dX6_isUpByRain_0 : decode cX6_isUpByRain 0 = .ok (.aload_n 0, 1) := by decide +kernel
theorem dX6_isUpByRain_1 : decode cX6_isUpByRain 1 = .ok (.invokevirtual 136, 3) := by decide +kernel
theorem dX6_isUpByRain_4 : decode cX6_isUpByRain 4 = .ok (.iconst 0, 1) := by decide +kernel
theorem dX6_isUpByRain_5 : decode cX6_isUpByRain 5 = .ok (.istore_n 3, 1) := by decide +kernel
theorem dX6_isUpByRain_6 : decode cX6_isUpByRain 6 = .ok (.iload_n 3, 1) := by decide +kernel
theorem dX6_isUpByRain_7 : decode cX6_isUpByRain 7 = .ok (.aload_n 0, 1) := by decide +kernel
theorem dX6_isUpByRain_8 : decode cX6_isUpByRain 8 = .ok (.getfield 133, 3) := by decide +kernel
theorem dX6_isUpByRain_11 : decode cX6_isUpByRain 11 = .ok (.if_icmp .ge 62, 3) := by decide +kernel
theorem dX6_isUpByRain_14 : decode cX6_isUpByRain 14 = .ok (.iload_n 2, 1) := by decide +kernel
theorem dX6_isUpByRain_15 : decode cX6_isUpByRain 15 = .ok (.iload_n 3, 1) := by decide +kernel
theorem dX6_isUpByRain_16 : decode cX6_isUpByRain 16 = .ok (.ishr, 1) := by decide +kernel
theorem dX6_isUpByRain_17 : decode cX6_isUpByRain 17 = .ok (.iconst 1, 1) := by decide +kernel
theorem dX6_isUpByRain_18 : decode cX6_isUpByRain 18 = .ok (.iand, 1) := by decide +kernel
theorem dX6_isUpByRain_19 : decode cX6_isUpByRain 19 = .ok (.iconst 1, 1) := by decide +kernel
theorem dX6_isUpByRain_20 : decode cX6_isUpByRain 20 = .ok (.if_icmp .ne 7, 3) := by decide +kernel
theorem dX6_isUpByRain_23 : decode cX6_isUpByRain 23 = .ok (.aload_n 0, 1) := by decide +kernel
theorem dX6_isUpByRain_24 : decode cX6_isUpByRain 24 = .ok (.invokevirtual 142, 3) := by decide +kernel
theorem dX6_isUpByRain_27 : decode cX6_isUpByRain 27 = .ok (.aload_n 0, 1) := by decide +kernel
theorem dX6_isUpByRain_28 : decode cX6_isUpByRain 28 = .ok (.getfield 49, 3) := by decide +kernel
theorem dX6_isUpByRain_31 : decode cX6_isUpByRain 31 = .ok (.iload_n 3, 1) := by decide +kernel
theorem dX6_isUpByRain_32 : decode cX6_isUpByRain 32 = .ok (.iaload, 1) := by decide +kernel
theorem dX6_isUpByRain_33 : decode cX6_isUpByRain 33 = .ok (.iconst 5, 1) := by decide +kernel
theorem dX6_isUpByRain_34 : decode cX6_isUpByRain 34 = .ok (.if_icmp .ne 10, 3) := by decide +kernel
theorem dX6_isUpByRain_37 : decode cX6_isUpByRain 37 = .ok (.aload_n 0, 1) := by decide +kernel
theorem dX6_isUpByRain_38 : decode cX6_isUpByRain 38 = .ok (.invokevirtual 142, 3) := by decide +kernel
theorem dX6_isUpByRain_41 : decode cX6_isUpByRain 41 = .ok (.goto 26, 3) := by decide +kernel
theorem dX6_isUpByRain_44 : decode cX6_isUpByRain 44 = .ok (.aload_n 0, 1) := by decide +kernel
theorem dX6_isUpByRain_45 : decode cX6_isUpByRain 45 = .ok (.aload_n 0, 1) := by decide +kernel
theorem dX6_isUpByRain_46 : decode cX6_isUpByRain 46 = .ok (.getfield 49, 3) := by decide +kernel
theorem dX6_isUpByRain_49 : decode cX6_isUpByRain 49 = .ok (.iload_n 3, 1) := by decide +kernel
theorem dX6_isUpByRain_50 : decode cX6_isUpByRain 50 = .ok (.iaload, 1) := by decide +kernel
theorem dX6_isUpByRain_51 : decode cX6_isUpByRain 51 = .ok (.invokevirtual 145, 3) := by decide +kernel
theorem dX6_isUpByRain_54 : decode cX6_isUpByRain 54 = .ok (.ifCond .ne 13, 3) := by decide +kernel
theorem dX6_isUpByRain_57 : decode cX6_isUpByRain 57 = .ok (.aload_n 0, 1) := by decide +kernel
theorem dX6_isUpByRain_58 : decode cX6_isUpByRain 58 = .ok (.aload_n 0, 1) := by decide +kernel
theorem dX6_isUpByRain_59 : decode cX6_isUpByRain 59 = .ok (.getfield 49, 3) := by decide +kernel
theorem dX6_isUpByRain_62 : decode cX6_isUpByRain 62 = .ok (.iload_n 3, 1) := by decide +kernel
theorem dX6_isUpByRain_63 : decode cX6_isUpByRain 63 = .ok (.iaload, 1) := by decide +kernel
theorem dX6_isUpByRain_64 : decode cX6_isUpByRain 64 = .ok (.invokevirtual 148, 3) := by decide +kernel
theorem dX6_isUpByRain_67 : decode cX6_isUpByRain 67 = .ok (.iinc 3 1, 3) := by decide +kernel
theorem dX6_isUpByRain_70 : decode cX6_isUpByRain 70 = .ok (.goto (-64), 3) := by decide +kernel
theorem dX6_isUpByRain_73 : decode cX6_isUpByRain 73 = .ok (.aload_n 0, 1) := by decide +kernel
theorem dX6_isUpByRain_74 : decode cX6_isUpByRain 74 = .ok (.iload_n 1, 1) := by decide +kernel
theorem dX6_isUpByRain_75 : decode cX6_isUpByRain 75 = .ok (.invokevirtual 145, 3) := by decide +kernel
theorem dX6_isUpByRain_78 : decode cX6_isUpByRain 78 = .ok (.ireturn, 1) := by decide +kernel
theorem dX6_odds_0 : decode cX6_odds 0 = .ok (.aload_n 0, 1) := by decide +kernel
theorem dX6_odds_1 : decode cX6_odds 1 = .ok (.iconst 0, 1) := by decide +kernel
theorem dX6_odds_2 : decode cX6_odds 2 = .ok (.putfield 61, 3) := by decide +kernel
theorem dX6_odds_5 : decode cX6_odds 5 = .ok (.aload_n 0, 1) := by decide +kernel
theorem dX6_odds_6 : decode cX6_odds 6 = .ok (.iload_n 1, 1) := by decide +kernel
theorem dX6_odds_7 : decode cX6_odds 7 = .ok (.invokevirtual 121, 3) := by decide +kernel
theorem dX6_odds_10 : decode cX6_odds 10 = .ok (.ifCond .eq 38, 3) := by decide +kernel
theorem dX6_odds_13 : decode cX6_odds 13 = .ok (.iload_n 2, 1) := by decide +kernel
theorem dX6_odds_14 : decode cX6_odds 14 = .ok (.invokestatic 80, 3) := by decide +kernel
theorem dX6_odds_17 : decode cX6_odds 17 = .ok (.ifCond .eq 31, 3) := by decide +kernel
theorem dX6_odds_20 : decode cX6_odds 20 = .ok (.iload_n 3, 1) := by decide +kernel
theorem dX6_odds_21 : decode cX6_odds 21 = .ok (.invokestatic 84, 3) := by decide +kernel
theorem dX6_odds_24 : decode cX6_odds 24 = .ok (.ifCond .eq 24, 3) := by decide +kernel
theorem dX6_odds_27 : decode cX6_odds 27 = .ok (.iload 5, 2) := by decide +kernel
theorem dX6_odds_29 : decode cX6_odds 29 = .ok (.iconst 0, 1) := by decide +kernel
theorem dX6_odds_30 : decode cX6_odds 30 = .ok (.bipush 10, 2) := by decide +kernel
theorem dX6_odds_32 : decode cX6_odds 32 = .ok (.invokestatic 67, 3) := by decide +kernel
theorem dX6_odds_35 : decode cX6_odds 35 = .ok (.ifCond .eq 13, 3) := by decide +kernel
theorem dX6_odds_38 : decode cX6_odds 38 = .ok (.iload 6, 2) := by decide +kernel
theorem dX6_odds_40 : decode cX6_odds 40 = .ok (.iconst 0, 1) := by decide +kernel
theorem dX6_odds_41 : decode cX6_odds 41 = .ok (.iconst 1, 1) := by decide +kernel
theorem dX6_odds_42 : decode cX6_odds 42 = .ok (.invokestatic 67, 3) := by decide +kernel
theorem dX6_odds_45 : decode cX6_odds 45 = .ok (.ifCond .ne 7, 3) := by decide +kernel
theorem dX6_odds_48 : decode cX6_odds 48 = .ok (.ldc2_w 65, 3) := by decide +kernel
theorem dX6_odds_51 : decode cX6_odds 51 = .ok (.lreturn, 1) := by decide +kernel
theorem dX6_odds_52 : decode cX6_odds 52 = .ok (.aload_n 0, 1) := by decide +kernel
theorem dX6_odds_53 : decode cX6_odds 53 = .ok (.iload_n 2, 1) := by decide +kernel
theorem dX6_odds_54 : decode cX6_odds 54 = .ok (.iload_n 3, 1) := by decide +kernel
theorem dX6_odds_55 : decode cX6_odds 55 = .ok (.iload 4, 2) := by decide +kernel
theorem dX6_odds_57 : decode cX6_odds 57 = .ok (.iload 5, 2) := by decide +kernel
theorem dX6_odds_59 : decode cX6_odds 59 = .ok (.invokevirtual 155, 3) := by decide +kernel
theorem dX6_odds_62 : decode cX6_odds 62 = .ok (.ifCond .eq 7, 3) := by decide +kernel
theorem dX6_odds_65 : decode cX6_odds 65 = .ok (.ldc2_w 65, 3) := by decide +kernel
theorem dX6_odds_68 : decode cX6_odds 68 = .ok (.lreturn, 1) := by decide +kernel
theorem dX6_odds_69 : decode cX6_odds 69 = .ok (.iconst 0, 1) := by decide +kernel
theorem dX6_odds_70 : decode cX6_odds 70 = .ok (.istore 7, 2) := by decide +kernel
theorem dX6_odds_72 : decode cX6_odds 72 = .ok (.iconst 0, 1) := by decide +kernel
theorem dX6_odds_73 : decode cX6_odds 73 = .ok (.istore 8, 2) := by decide +kernel
theorem dX6_odds_75 : decode cX6_odds 75 = .ok (.iload 8, 2) := by decide +kernel
theorem dX6_odds_77 : decode cX6_odds 77 = .ok (.iconst 1, 1) := by decide +kernel
theorem dX6_odds_78 : decode cX6_odds 78 = .ok (.iload 5, 2) := by decide +kernel
theorem dX6_odds_80 : decode cX6_odds 80 = .ok (.ishl, 1) := by decide +kernel
theorem dX6_odds_81 : decode cX6_odds 81 = .ok (.if_icmp .ge 29, 3) := by decide +kernel
theorem dX6_odds_84 : decode cX6_odds 84 = .ok (.iload 7, 2) := by decide +kernel
theorem dX6_odds_86 : decode cX6_odds 86 = .ok (.aload_n 0, 1) := by decide +kernel
theorem dX6_odds_87 : decode cX6_odds 87 = .ok (.iload_n 1, 1) := by decide +kernel
theorem dX6_odds_88 : decode cX6_odds 88 = .ok (.iload 8, 2) := by decide +kernel
theorem dX6_odds_90 : decode cX6_odds 90 = .ok (.invokevirtual 202, 3) := by decide +kernel
theorem dX6_odds_93 : decode cX6_odds 93 = .ok (.ifCond .eq 7, 3) := by decide +kernel
theorem dX6_odds_96 : decode cX6_odds 96 = .ok (.iconst 1, 1) := by decide +kernel
theorem dX6_odds_97 : decode cX6_odds 97 = .ok (.goto 4, 3) := by decide +kernel
theorem dX6_odds_100 : decode cX6_odds 100 = .ok (.iconst 0, 1) := by decide +kernel
theorem dX6_odds_101 : decode cX6_odds 101 = .ok (.iadd, 1) := by decide +kernel
theorem dX6_odds_102 : decode cX6_odds 102 = .ok (.istore 7, 2) := by decide +kernel
theorem dX6_odds_104 : decode cX6_odds 104 = .ok (.iinc 8 1, 3) := by decide +kernel
theorem dX6_odds_107 : decode cX6_odds 107 = .ok (.goto (-32), 3) := by decide +kernel
theorem dX6_odds_110 : decode cX6_odds 110 = .ok (.iload 7, 2) := by decide +kernel
theorem dX6_odds_112 : decode cX6_odds 112 = .ok (.i2l, 1) := by decide +kernel
theorem dX6_odds_113 : decode cX6_odds 113 = .ok (.lconst 1, 1) := by decide +kernel
theorem dX6_odds_114 : decode cX6_odds 114 = .ok (.iload 5, 2) := by decide +kernel
theorem dX6_odds_116 : decode cX6_odds 116 = .ok (.lshl, 1) := by decide +kernel
theorem dX6_odds_117 : decode cX6_odds 117 = .ok (.iload 6, 2) := by decide +kernel
theorem dX6_odds_119 : decode cX6_odds 119 = .ok (.invokestatic 205, 3) := by decide +kernel
theorem dX6_odds_122 : decode cX6_odds 122 = .ok (.lreturn, 1) := by decide +kernel
theorem dX6_sheet_0 : decode cX6_sheet 0 = .ok (.aload_n 0, 1) := by decide +kernel
theorem dX6_sheet_1 : decode cX6_sheet 1 = .ok (.iconst 0, 1) := by decide +kernel
theorem dX6_sheet_2 : decode cX6_sheet 2 = .ok (.putfield 61, 3) := by decide +kernel
theorem dX6_sheet_5 : decode cX6_sheet 5 = .ok (.iload_n 1, 1) := by decide +kernel
theorem dX6_sheet_6 : decode cX6_sheet 6 = .ok (.invokestatic 80, 3) := by decide +kernel
theorem dX6_sheet_9 : decode cX6_sheet 9 = .ok (.ifCond .ne 5, 3) := by decide +kernel
theorem dX6_sheet_12 : decode cX6_sheet 12 = .ok (.iconst (-1), 1) := by decide +kernel
theorem dX6_sheet_13 : decode cX6_sheet 13 = .ok (.ireturn, 1) := by decide +kernel
theorem dX6_sheet_14 : decode cX6_sheet 14 = .ok (.iload_n 2, 1) := by decide +kernel
theorem dX6_sheet_15 : decode cX6_sheet 15 = .ok (.invokestatic 84, 3) := by decide +kernel
theorem dX6_sheet_18 : decode cX6_sheet 18 = .ok (.ifCond .eq 9, 3) := by decide +kernel
theorem dX6_sheet_21 : decode cX6_sheet 21 = .ok (.iload_n 3, 1) := by decide +kernel
theorem dX6_sheet_22 : decode cX6_sheet 22 = .ok (.bipush 60, 2) := by decide +kernel
theorem dX6_sheet_24 : decode cX6_sheet 24 = .ok (.if_icmp .le 6, 3) := by decide +kernel
theorem dX6_sheet_27 : decode cX6_sheet 27 = .ok (.bipush (-2), 2) := by decide +kernel
theorem dX6_sheet_29 : decode cX6_sheet 29 = .ok (.ireturn, 1) := by decide +kernel
theorem dX6_sheet_30 : decode cX6_sheet 30 = .ok (.iload_n 3, 1) := by decide +kernel
theorem dX6_sheet_31 : decode cX6_sheet 31 = .ok (.ifCond .ge 9, 3) := by decide +kernel
theorem dX6_sheet_34 : decode cX6_sheet 34 = .ok (.aload_n 0, 1) := by decide +kernel
theorem dX6_sheet_35 : decode cX6_sheet 35 = .ok (.iconst 4, 1) := by decide +kernel
theorem dX6_sheet_36 : decode cX6_sheet 36 = .ok (.invokevirtual 91, 3) := by decide +kernel
theorem dX6_sheet_39 : decode cX6_sheet 39 = .ok (.ireturn, 1) := by decide +kernel
theorem dX6_sheet_40 : decode cX6_sheet 40 = .ok (.aload_n 0, 1) := by decide +kernel
theorem dX6_sheet_41 : decode cX6_sheet 41 = .ok (.getfield 9, 3) := by decide +kernel
theorem dX6_sheet_44 : decode cX6_sheet 44 = .ok (.iload_n 1, 1) := by decide +kernel
theorem dX6_sheet_45 : decode cX6_sheet 45 = .ok (.iload_n 2, 1) := by decide +kernel
theorem dX6_sheet_46 : decode cX6_sheet 46 = .ok (.iastore, 1) := by decide +kernel
theorem dX6_sheet_47 : decode cX6_sheet 47 = .ok (.aload_n 0, 1) := by decide +kernel
theorem dX6_sheet_48 : decode cX6_sheet 48 = .ok (.getfield 13, 3) := by decide +kernel
theorem dX6_sheet_51 : decode cX6_sheet 51 = .ok (.iload_n 1, 1) := by decide +kernel
theorem dX6_sheet_52 : decode cX6_sheet 52 = .ok (.iload_n 3, 1) := by decide +kernel
theorem dX6_sheet_53 : decode cX6_sheet 53 = .ok (.iastore, 1) := by decide +kernel
theorem dX6_sheet_54 : decode cX6_sheet 54 = .ok (.iconst 0, 1) := by decide +kernel
theorem dX6_sheet_55 : decode cX6_sheet 55 = .ok (.istore 4, 2) := by decide +kernel
theorem dX6_sheet_57 : decode cX6_sheet 57 = .ok (.iload 4, 2) := by decide +kernel
theorem dX6_sheet_59 : decode cX6_sheet 59 = .ok (.bipush 60, 2) := by decide +kernel
theorem dX6_sheet_61 : decode cX6_sheet 61 = .ok (.if_icmp .ge 22, 3) := by decide +kernel
theorem dX6_sheet_64 : decode cX6_sheet 64 = .ok (.aload_n 0, 1) := by decide +kernel
theorem dX6_sheet_65 : decode cX6_sheet 65 = .ok (.getfield 16, 3) := by decide +kernel
theorem dX6_sheet_68 : decode cX6_sheet 68 = .ok (.bipush 60, 2) := by decide +kernel
theorem dX6_sheet_70 : decode cX6_sheet 70 = .ok (.iload_n 1, 1) := by decide +kernel
theorem dX6_sheet_71 : decode cX6_sheet 71 = .ok (.imul, 1) := by decide +kernel
theorem dX6_sheet_72 : decode cX6_sheet 72 = .ok (.iload 4, 2) := by decide +kernel
theorem dX6_sheet_74 : decode cX6_sheet 74 = .ok (.iadd, 1) := by decide +kernel
theorem dX6_sheet_75 : decode cX6_sheet 75 = .ok (.iconst 0, 1) := by decide +kernel
theorem dX6_sheet_76 : decode cX6_sheet 76 = .ok (.iastore, 1) := by decide +kernel
theorem dX6_sheet_77 : decode cX6_sheet 77 = .ok (.iinc 4 1, 3) := by decide +kernel
theorem dX6_sheet_80 : decode cX6_sheet 80 = .ok (.goto (-23), 3) := by decide +kernel
theorem dX6_sheet_83 : decode cX6_sheet 83 = .ok (.iconst 1, 1) := by decide +kernel
theorem dX6_sheet_84 : decode cX6_sheet 84 = .ok (.ireturn, 1) := by decide +kernel
theorem dX6_lose_0 : decode cX6_lose 0 = .ok (.iload_n 1, 1) := by decide +kernel
theorem dX6_lose_1 : decode cX6_lose 1 = .ok (.invokestatic 80, 3) := by decide +kernel
theorem dX6_lose_4 : decode cX6_lose 4 = .ok (.ifCond .ne 5, 3) := by decide +kernel
theorem dX6_lose_7 : decode cX6_lose 7 = .ok (.iconst (-1), 1) := by decide +kernel
theorem dX6_lose_8 : decode cX6_lose 8 = .ok (.ireturn, 1) := by decide +kernel
theorem dX6_lose_9 : decode cX6_lose 9 = .ok (.aload_n 0, 1) := by decide +kernel
theorem dX6_lose_10 : decode cX6_lose 10 = .ok (.getfield 9, 3) := by decide +kernel
theorem dX6_lose_13 : decode cX6_lose 13 = .ok (.iload_n 1, 1) := by decide +kernel
theorem dX6_lose_14 : decode cX6_lose 14 = .ok (.iaload, 1) := by decide +kernel
theorem dX6_lose_15 : decode cX6_lose 15 = .ok (.bipush (-9), 2) := by decide +kernel
theorem dX6_lose_17 : decode cX6_lose 17 = .ok (.if_icmp .ne 7, 3) := by decide +kernel
theorem dX6_lose_20 : decode cX6_lose 20 = .ok (.iconst 0, 1) := by decide +kernel
theorem dX6_lose_21 : decode cX6_lose 21 = .ok (.goto 4, 3) := by decide +kernel
theorem dX6_lose_24 : decode cX6_lose 24 = .ok (.iconst 1, 1) := by decide +kernel
theorem dX6_lose_25 : decode cX6_lose 25 = .ok (.istore_n 2, 1) := by decide +kernel
theorem dX6_lose_26 : decode cX6_lose 26 = .ok (.aload_n 0, 1) := by decide +kernel
theorem dX6_lose_27 : decode cX6_lose 27 = .ok (.getfield 9, 3) := by decide +kernel
theorem dX6_lose_30 : decode cX6_lose 30 = .ok (.iload_n 1, 1) := by decide +kernel
theorem dX6_lose_31 : decode cX6_lose 31 = .ok (.bipush (-9), 2) := by decide +kernel
theorem dX6_lose_33 : decode cX6_lose 33 = .ok (.iastore, 1) := by decide +kernel
theorem dX6_lose_34 : decode cX6_lose 34 = .ok (.iload_n 2, 1) := by decide +kernel
theorem dX6_lose_35 : decode cX6_lose 35 = .ok (.ireturn, 1) := by decide +kernel
theorem dX6_put_0 : decode cX6_put 0 = .ok (.aload_n 0, 1) := by decide +kernel
theorem dX6_put_1 : decode cX6_put 1 = .ok (.iconst 0, 1) := by decide +kernel
theorem dX6_put_2 : decode cX6_put 2 = .ok (.putfield 61, 3) := by decide +kernel
theorem dX6_put_5 : decode cX6_put 5 = .ok (.iload_n 1, 1) := by decide +kernel
theorem dX6_put_6 : decode cX6_put 6 = .ok (.invokestatic 80, 3) := by decide +kernel
theorem dX6_put_9 : decode cX6_put 9 = .ok (.ifCond .ne 5, 3) := by decide +kernel
theorem dX6_put_12 : decode cX6_put 12 = .ok (.iconst (-1), 1) := by decide +kernel
theorem dX6_put_13 : decode cX6_put 13 = .ok (.ireturn, 1) := by decide +kernel
theorem dX6_put_14 : decode cX6_put 14 = .ok (.aload_n 0, 1) := by decide +kernel
theorem dX6_put_15 : decode cX6_put 15 = .ok (.getfield 9, 3) := by decide +kernel
theorem dX6_put_18 : decode cX6_put 18 = .ok (.iload_n 1, 1) := by decide +kernel
theorem dX6_put_19 : decode cX6_put 19 = .ok (.iaload, 1) := by decide +kernel
theorem dX6_put_20 : decode cX6_put 20 = .ok (.bipush (-9), 2) := by decide +kernel
theorem dX6_put_22 : decode cX6_put 22 = .ok (.if_icmp .ne 9, 3) := by decide +kernel
theorem dX6_put_25 : decode cX6_put 25 = .ok (.aload_n 0, 1) := by decide +kernel
theorem dX6_put_26 : decode cX6_put 26 = .ok (.iconst 1, 1) := by decide +kernel
theorem dX6_put_27 : decode cX6_put 27 = .ok (.invokevirtual 91, 3) := by decide +kernel
theorem dX6_put_30 : decode cX6_put 30 = .ok (.ireturn, 1) := by decide +kernel
theorem dX6_put_31 : decode cX6_put 31 = .ok (.iload_n 2, 1) := by decide +kernel
theorem dX6_put_32 : decode cX6_put 32 = .ok (.iconst 0, 1) := by decide +kernel
theorem dX6_put_33 : decode cX6_put 33 = .ok (.aload_n 0, 1) := by decide +kernel
theorem dX6_put_34 : decode cX6_put 34 = .ok (.getfield 13, 3) := by decide +kernel
theorem dX6_put_37 : decode cX6_put 37 = .ok (.iload_n 1, 1) := by decide +kernel
theorem dX6_put_38 : decode cX6_put 38 = .ok (.iaload, 1) := by decide +kernel
theorem dX6_put_39 : decode cX6_put 39 = .ok (.iconst 1, 1) := by decide +kernel
theorem dX6_put_40 : decode cX6_put 40 = .ok (.isub, 1) := by decide +kernel
theorem dX6_put_41 : decode cX6_put 41 = .ok (.invokestatic 67, 3) := by decide +kernel
theorem dX6_put_44 : decode cX6_put 44 = .ok (.ifCond .ne 9, 3) := by decide +kernel
theorem dX6_put_47 : decode cX6_put 47 = .ok (.aload_n 0, 1) := by decide +kernel
theorem dX6_put_48 : decode cX6_put 48 = .ok (.iconst 3, 1) := by decide +kernel
theorem dX6_put_49 : decode cX6_put 49 = .ok (.invokevirtual 91, 3) := by decide +kernel
theorem dX6_put_52 : decode cX6_put 52 = .ok (.ireturn, 1) := by decide +kernel
theorem dX6_put_53 : decode cX6_put 53 = .ok (.aload_n 0, 1) := by decide +kernel
theorem dX6_put_54 : decode cX6_put 54 = .ok (.getfield 16, 3) := by decide +kernel
theorem dX6_put_57 : decode cX6_put 57 = .ok (.bipush 60, 2) := by decide +kernel
theorem dX6_put_59 : decode cX6_put 59 = .ok (.iload_n 1, 1) := by decide +kernel
theorem dX6_put_60 : decode cX6_put 60 = .ok (.imul, 1) := by decide +kernel
theorem dX6_put_61 : decode cX6_put 61 = .ok (.iload_n 2, 1) := by decide +kernel
theorem dX6_put_62 : decode cX6_put 62 = .ok (.iadd, 1) := by decide +kernel
theorem dX6_put_63 : decode cX6_put 63 = .ok (.aload_n 0, 1) := by decide +kernel
theorem dX6_put_64 : decode cX6_put 64 = .ok (.getfield 9, 3) := by decide +kernel
theorem dX6_put_67 : decode cX6_put 67 = .ok (.iload_n 1, 1) := by decide +kernel
theorem dX6_put_68 : decode cX6_put 68 = .ok (.iaload, 1) := by decide +kernel
theorem dX6_put_69 : decode cX6_put 69 = .ok (.ifCond .ne 8, 3) := by decide +kernel
theorem dX6_put_72 : decode cX6_put 72 = .ok (.iload_n 3, 1) := by decide +kernel
theorem dX6_put_73 : decode cX6_put 73 = .ok (.i2b, 1) := by decide +kernel
theorem dX6_put_74 : decode cX6_put 74 = .ok (.goto 19, 3) := by decide +kernel
theorem dX6_put_77 : decode cX6_put 77 = .ok (.aload_n 0, 1) := by decide +kernel
theorem dX6_put_78 : decode cX6_put 78 = .ok (.getfield 9, 3) := by decide +kernel
theorem dX6_put_81 : decode cX6_put 81 = .ok (.iload_n 1, 1) := by decide +kernel
theorem dX6_put_82 : decode cX6_put 82 = .ok (.iaload, 1) := by decide +kernel
theorem dX6_put_83 : decode cX6_put 83 = .ok (.iconst 1, 1) := by decide +kernel
theorem dX6_put_84 : decode cX6_put 84 = .ok (.if_icmp .ne 8, 3) := by decide +kernel
theorem dX6_put_87 : decode cX6_put 87 = .ok (.iload_n 3, 1) := by decide +kernel
theorem dX6_put_88 : decode cX6_put 88 = .ok (.i2s, 1) := by decide +kernel
theorem dX6_put_89 : decode cX6_put 89 = .ok (.goto 4, 3) := by decide +kernel
theorem dX6_put_92 : decode cX6_put 92 = .ok (.iload_n 3, 1) := by decide +kernel
theorem dX6_put_93 : decode cX6_put 93 = .ok (.iastore, 1) := by decide +kernel
theorem dX6_put_94 : decode cX6_put 94 = .ok (.iconst 1, 1) := by decide +kernel
theorem dX6_put_95 : decode cX6_put 95 = .ok (.ireturn, 1) := by decide +kernel
theorem dX6_cell_0 : decode cX6_cell 0 = .ok (.aload_n 0, 1) := by decide +kernel
theorem dX6_cell_1 : decode cX6_cell 1 = .ok (.iconst 0, 1) := by decide +kernel
theorem dX6_cell_2 : decode cX6_cell 2 = .ok (.putfield 61, 3) := by decide +kernel
theorem dX6_cell_5 : decode cX6_cell 5 = .ok (.iload_n 1, 1) := by decide +kernel
theorem dX6_cell_6 : decode cX6_cell 6 = .ok (.invokestatic 80, 3) := by decide +kernel
theorem dX6_cell_9 : decode cX6_cell 9 = .ok (.ifCond .eq 10, 3) := by decide +kernel
theorem dX6_cell_12 : decode cX6_cell 12 = .ok (.iload_n 3, 1) := by decide +kernel
theorem dX6_cell_13 : decode cX6_cell 13 = .ok (.invokestatic 84, 3) := by decide +kernel
theorem dX6_cell_16 : decode cX6_cell 16 = .ok (.ifCond .ne 7, 3) := by decide +kernel
theorem dX6_cell_19 : decode cX6_cell 19 = .ok (.ldc2_w 65, 3) := by decide +kernel
theorem dX6_cell_22 : decode cX6_cell 22 = .ok (.lreturn, 1) := by decide +kernel
theorem dX6_cell_23 : decode cX6_cell 23 = .ok (.aload_n 0, 1) := by decide +kernel
theorem dX6_cell_24 : decode cX6_cell 24 = .ok (.getfield 9, 3) := by decide +kernel
theorem dX6_cell_27 : decode cX6_cell 27 = .ok (.iload_n 1, 1) := by decide +kernel
theorem dX6_cell_28 : decode cX6_cell 28 = .ok (.iaload, 1) := by decide +kernel
theorem dX6_cell_29 : decode cX6_cell 29 = .ok (.bipush (-9), 2) := by decide +kernel
theorem dX6_cell_31 : decode cX6_cell 31 = .ok (.if_icmp .eq 19, 3) := by decide +kernel
theorem dX6_cell_34 : decode cX6_cell 34 = .ok (.aload_n 0, 1) := by decide +kernel
theorem dX6_cell_35 : decode cX6_cell 35 = .ok (.getfield 9, 3) := by decide +kernel
theorem dX6_cell_38 : decode cX6_cell 38 = .ok (.iload_n 1, 1) := by decide +kernel
theorem dX6_cell_39 : decode cX6_cell 39 = .ok (.iaload, 1) := by decide +kernel
theorem dX6_cell_40 : decode cX6_cell 40 = .ok (.iload_n 3, 1) := by decide +kernel
theorem dX6_cell_41 : decode cX6_cell 41 = .ok (.if_icmp .eq 9, 3) := by decide +kernel
theorem dX6_cell_44 : decode cX6_cell 44 = .ok (.aload_n 0, 1) := by decide +kernel
theorem dX6_cell_45 : decode cX6_cell 45 = .ok (.iconst 2, 1) := by decide +kernel
theorem dX6_cell_46 : decode cX6_cell 46 = .ok (.invokevirtual 209, 3) := by decide +kernel
theorem dX6_cell_49 : decode cX6_cell 49 = .ok (.lreturn, 1) := by decide +kernel
theorem dX6_cell_50 : decode cX6_cell 50 = .ok (.aload_n 0, 1) := by decide +kernel
theorem dX6_cell_51 : decode cX6_cell 51 = .ok (.getfield 9, 3) := by decide +kernel
theorem dX6_cell_54 : decode cX6_cell 54 = .ok (.iload_n 1, 1) := by decide +kernel
theorem dX6_cell_55 : decode cX6_cell 55 = .ok (.iaload, 1) := by decide +kernel
theorem dX6_cell_56 : decode cX6_cell 56 = .ok (.bipush (-9), 2) := by decide +kernel
theorem dX6_cell_58 : decode cX6_cell 58 = .ok (.if_icmp .ne 9, 3) := by decide +kernel
theorem dX6_cell_61 : decode cX6_cell 61 = .ok (.aload_n 0, 1) := by decide +kernel
theorem dX6_cell_62 : decode cX6_cell 62 = .ok (.iconst 1, 1) := by decide +kernel
theorem dX6_cell_63 : decode cX6_cell 63 = .ok (.invokevirtual 209, 3) := by decide +kernel
theorem dX6_cell_66 : decode cX6_cell 66 = .ok (.lreturn, 1) := by decide +kernel
theorem dX6_cell_67 : decode cX6_cell 67 = .ok (.iload_n 2, 1) := by decide +kernel
theorem dX6_cell_68 : decode cX6_cell 68 = .ok (.iconst 0, 1) := by decide +kernel
theorem dX6_cell_69 : decode cX6_cell 69 = .ok (.aload_n 0, 1) := by decide +kernel
theorem dX6_cell_70 : decode cX6_cell 70 = .ok (.getfield 13, 3) := by decide +kernel
theorem dX6_cell_73 : decode cX6_cell 73 = .ok (.iload_n 1, 1) := by decide +kernel
theorem dX6_cell_74 : decode cX6_cell 74 = .ok (.iaload, 1) := by decide +kernel
theorem dX6_cell_75 : decode cX6_cell 75 = .ok (.iconst 1, 1) := by decide +kernel
theorem dX6_cell_76 : decode cX6_cell 76 = .ok (.isub, 1) := by decide +kernel
theorem dX6_cell_77 : decode cX6_cell 77 = .ok (.invokestatic 67, 3) := by decide +kernel
theorem dX6_cell_80 : decode cX6_cell 80 = .ok (.ifCond .ne 9, 3) := by decide +kernel
theorem dX6_cell_83 : decode cX6_cell 83 = .ok (.aload_n 0, 1) := by decide +kernel
theorem dX6_cell_84 : decode cX6_cell 84 = .ok (.iconst 3, 1) := by decide +kernel
theorem dX6_cell_85 : decode cX6_cell 85 = .ok (.invokevirtual 209, 3) := by decide +kernel
theorem dX6_cell_88 : decode cX6_cell 88 = .ok (.lreturn, 1) := by decide +kernel
theorem dX6_cell_89 : decode cX6_cell 89 = .ok (.aload_n 0, 1) := by decide +kernel
theorem dX6_cell_90 : decode cX6_cell 90 = .ok (.getfield 16, 3) := by decide +kernel
theorem dX6_cell_93 : decode cX6_cell 93 = .ok (.bipush 60, 2) := by decide +kernel
theorem dX6_cell_95 : decode cX6_cell 95 = .ok (.iload_n 1, 1) := by decide +kernel
theorem dX6_cell_96 : decode cX6_cell 96 = .ok (.imul, 1) := by decide +kernel
theorem dX6_cell_97 : decode cX6_cell 97 = .ok (.iload_n 2, 1) := by decide +kernel
theorem dX6_cell_98 : decode cX6_cell 98 = .ok (.iadd, 1) := by decide +kernel
theorem dX6_cell_99 : decode cX6_cell 99 = .ok (.iaload, 1) := by decide +kernel
theorem dX6_cell_100 : decode cX6_cell 100 = .ok (.i2l, 1) := by decide +kernel
theorem dX6_cell_101 : decode cX6_cell 101 = .ok (.lreturn, 1) := by decide +kernel
theorem dX6_copy_0 : decode cX6_copy 0 = .ok (.aload_n 0, 1) := by decide +kernel
theorem dX6_copy_1 : decode cX6_copy 1 = .ok (.iconst 0, 1) := by decide +kernel
theorem dX6_copy_2 : decode cX6_copy 2 = .ok (.putfield 61, 3) := by decide +kernel
theorem dX6_copy_5 : decode cX6_copy 5 = .ok (.iload_n 1, 1) := by decide +kernel
theorem dX6_copy_6 : decode cX6_copy 6 = .ok (.invokestatic 80, 3) := by decide +kernel
theorem dX6_copy_9 : decode cX6_copy 9 = .ok (.ifCond .eq 10, 3) := by decide +kernel
theorem dX6_copy_12 : decode cX6_copy 12 = .ok (.iload_n 3, 1) := by decide +kernel
theorem dX6_copy_13 : decode cX6_copy 13 = .ok (.invokestatic 80, 3) := by decide +kernel
theorem dX6_copy_16 : decode cX6_copy 16 = .ok (.ifCond .ne 5, 3) := by decide +kernel
theorem dX6_copy_19 : decode cX6_copy 19 = .ok (.iconst (-1), 1) := by decide +kernel
theorem dX6_copy_20 : decode cX6_copy 20 = .ok (.ireturn, 1) := by decide +kernel
theorem dX6_copy_21 : decode cX6_copy 21 = .ok (.aload_n 0, 1) := by decide +kernel
theorem dX6_copy_22 : decode cX6_copy 22 = .ok (.getfield 9, 3) := by decide +kernel
theorem dX6_copy_25 : decode cX6_copy 25 = .ok (.iload_n 1, 1) := by decide +kernel
theorem dX6_copy_26 : decode cX6_copy 26 = .ok (.iaload, 1) := by decide +kernel
theorem dX6_copy_27 : decode cX6_copy 27 = .ok (.bipush (-9), 2) := by decide +kernel
theorem dX6_copy_29 : decode cX6_copy 29 = .ok (.if_icmp .eq 14, 3) := by decide +kernel
theorem dX6_copy_32 : decode cX6_copy 32 = .ok (.aload_n 0, 1) := by decide +kernel
theorem dX6_copy_33 : decode cX6_copy 33 = .ok (.getfield 9, 3) := by decide +kernel
theorem dX6_copy_36 : decode cX6_copy 36 = .ok (.iload_n 3, 1) := by decide +kernel
theorem dX6_copy_37 : decode cX6_copy 37 = .ok (.iaload, 1) := by decide +kernel
theorem dX6_copy_38 : decode cX6_copy 38 = .ok (.bipush (-9), 2) := by decide +kernel
theorem dX6_copy_40 : decode cX6_copy 40 = .ok (.if_icmp .ne 9, 3) := by decide +kernel
theorem dX6_copy_43 : decode cX6_copy 43 = .ok (.aload_n 0, 1) := by decide +kernel
theorem dX6_copy_44 : decode cX6_copy 44 = .ok (.iconst 1, 1) := by decide +kernel
theorem dX6_copy_45 : decode cX6_copy 45 = .ok (.invokevirtual 91, 3) := by decide +kernel
theorem dX6_copy_48 : decode cX6_copy 48 = .ok (.ireturn, 1) := by decide +kernel
theorem dX6_copy_49 : decode cX6_copy 49 = .ok (.aload_n 0, 1) := by decide +kernel
theorem dX6_copy_50 : decode cX6_copy 50 = .ok (.getfield 9, 3) := by decide +kernel
theorem dX6_copy_53 : decode cX6_copy 53 = .ok (.iload_n 1, 1) := by decide +kernel
theorem dX6_copy_54 : decode cX6_copy 54 = .ok (.iaload, 1) := by decide +kernel
theorem dX6_copy_55 : decode cX6_copy 55 = .ok (.aload_n 0, 1) := by decide +kernel
theorem dX6_copy_56 : decode cX6_copy 56 = .ok (.getfield 9, 3) := by decide +kernel
theorem dX6_copy_59 : decode cX6_copy 59 = .ok (.iload_n 3, 1) := by decide +kernel
theorem dX6_copy_60 : decode cX6_copy 60 = .ok (.iaload, 1) := by decide +kernel
theorem dX6_copy_61 : decode cX6_copy 61 = .ok (.if_icmp .eq 9, 3) := by decide +kernel
theorem dX6_copy_64 : decode cX6_copy 64 = .ok (.aload_n 0, 1) := by decide +kernel
theorem dX6_copy_65 : decode cX6_copy 65 = .ok (.iconst 2, 1) := by decide +kernel
theorem dX6_copy_66 : decode cX6_copy 66 = .ok (.invokevirtual 91, 3) := by decide +kernel
theorem dX6_copy_69 : decode cX6_copy 69 = .ok (.ireturn, 1) := by decide +kernel
theorem dX6_copy_70 : decode cX6_copy 70 = .ok (.iload_n 2, 1) := by decide +kernel
theorem dX6_copy_71 : decode cX6_copy 71 = .ok (.ifCond .lt 38, 3) := by decide +kernel
theorem dX6_copy_74 : decode cX6_copy 74 = .ok (.iload 4, 2) := by decide +kernel
theorem dX6_copy_76 : decode cX6_copy 76 = .ok (.ifCond .lt 33, 3) := by decide +kernel
theorem dX6_copy_79 : decode cX6_copy 79 = .ok (.iload 5, 2) := by decide +kernel
theorem dX6_copy_81 : decode cX6_copy 81 = .ok (.ifCond .lt 28, 3) := by decide +kernel
theorem dX6_copy_84 : decode cX6_copy 84 = .ok (.iload_n 2, 1) := by decide +kernel
theorem dX6_copy_85 : decode cX6_copy 85 = .ok (.aload_n 0, 1) := by decide +kernel
theorem dX6_copy_86 : decode cX6_copy 86 = .ok (.getfield 13, 3) := by decide +kernel
theorem dX6_copy_89 : decode cX6_copy 89 = .ok (.iload_n 1, 1) := by decide +kernel
theorem dX6_copy_90 : decode cX6_copy 90 = .ok (.iaload, 1) := by decide +kernel
theorem dX6_copy_91 : decode cX6_copy 91 = .ok (.if_icmp .gt 18, 3) := by decide +kernel
theorem dX6_copy_94 : decode cX6_copy 94 = .ok (.iload 4, 2) := by decide +kernel
theorem dX6_copy_96 : decode cX6_copy 96 = .ok (.aload_n 0, 1) := by decide +kernel
theorem dX6_copy_97 : decode cX6_copy 97 = .ok (.getfield 13, 3) := by decide +kernel
theorem dX6_copy_100 : decode cX6_copy 100 = .ok (.iload_n 3, 1) := by decide +kernel
theorem dX6_copy_101 : decode cX6_copy 101 = .ok (.iaload, 1) := by decide +kernel
theorem dX6_copy_102 : decode cX6_copy 102 = .ok (.if_icmp .gt 7, 3) := by decide +kernel
theorem dX6_copy_105 : decode cX6_copy 105 = .ok (.iconst 1, 1) := by decide +kernel
theorem dX6_copy_106 : decode cX6_copy 106 = .ok (.goto 4, 3) := by decide +kernel
theorem dX6_copy_109 : decode cX6_copy 109 = .ok (.iconst 0, 1) := by decide +kernel
theorem dX6_copy_110 : decode cX6_copy 110 = .ok (.istore 6, 2) := by decide +kernel
theorem dX6_copy_112 : decode cX6_copy 112 = .ok (.iload 6, 2) := by decide +kernel
theorem dX6_copy_114 : decode cX6_copy 114 = .ok (.ifCond .eq 30, 3) := by decide +kernel
theorem dX6_copy_117 : decode cX6_copy 117 = .ok (.iload 5, 2) := by decide +kernel
theorem dX6_copy_119 : decode cX6_copy 119 = .ok (.aload_n 0, 1) := by decide +kernel
theorem dX6_copy_120 : decode cX6_copy 120 = .ok (.getfield 13, 3) := by decide +kernel
theorem dX6_copy_123 : decode cX6_copy 123 = .ok (.iload_n 1, 1) := by decide +kernel
theorem dX6_copy_124 : decode cX6_copy 124 = .ok (.iaload, 1) := by decide +kernel
theorem dX6_copy_125 : decode cX6_copy 125 = .ok (.iload_n 2, 1) := by decide +kernel
theorem dX6_copy_126 : decode cX6_copy 126 = .ok (.isub, 1) := by decide +kernel
theorem dX6_copy_127 : decode cX6_copy 127 = .ok (.if_icmp .gt 17, 3) := by decide +kernel
theorem dX6_copy_130 : decode cX6_copy 130 = .ok (.iload 5, 2) := by decide +kernel
theorem dX6_copy_132 : decode cX6_copy 132 = .ok (.aload_n 0, 1) := by decide +kernel
theorem dX6_copy_133 : decode cX6_copy 133 = .ok (.getfield 13, 3) := by decide +kernel
theorem dX6_copy_136 : decode cX6_copy 136 = .ok (.iload_n 3, 1) := by decide +kernel
theorem dX6_copy_137 : decode cX6_copy 137 = .ok (.iaload, 1) := by decide +kernel
theorem dX6_copy_138 : decode cX6_copy 138 = .ok (.iload 4, 2) := by decide +kernel
theorem dX6_copy_140 : decode cX6_copy 140 = .ok (.isub, 1) := by decide +kernel
theorem dX6_copy_141 : decode cX6_copy 141 = .ok (.if_icmp .le 9, 3) := by decide +kernel
theorem dX6_copy_144 : decode cX6_copy 144 = .ok (.aload_n 0, 1) := by decide +kernel
theorem dX6_copy_145 : decode cX6_copy 145 = .ok (.iconst 3, 1) := by decide +kernel
theorem dX6_copy_146 : decode cX6_copy 146 = .ok (.invokevirtual 91, 3) := by decide +kernel
theorem dX6_copy_149 : decode cX6_copy 149 = .ok (.ireturn, 1) := by decide +kernel
theorem dX6_copy_150 : decode cX6_copy 150 = .ok (.iload_n 2, 1) := by decide +kernel
theorem dX6_copy_151 : decode cX6_copy 151 = .ok (.iload 4, 2) := by decide +kernel
theorem dX6_copy_153 : decode cX6_copy 153 = .ok (.if_icmp .ge 7, 3) := by decide +kernel
theorem dX6_copy_156 : decode cX6_copy 156 = .ok (.iconst 1, 1) := by decide +kernel
theorem dX6_copy_157 : decode cX6_copy 157 = .ok (.goto 4, 3) := by decide +kernel
theorem dX6_copy_160 : decode cX6_copy 160 = .ok (.iconst 0, 1) := by decide +kernel
theorem dX6_copy_161 : decode cX6_copy 161 = .ok (.istore 7, 2) := by decide +kernel
theorem dX6_copy_163 : decode cX6_copy 163 = .ok (.iconst 0, 1) := by decide +kernel
theorem dX6_copy_164 : decode cX6_copy 164 = .ok (.istore 8, 2) := by decide +kernel
theorem dX6_copy_166 : decode cX6_copy 166 = .ok (.iload 8, 2) := by decide +kernel
theorem dX6_copy_168 : decode cX6_copy 168 = .ok (.iload 5, 2) := by decide +kernel
theorem dX6_copy_170 : decode cX6_copy 170 = .ok (.if_icmp .ge 57, 3) := by decide +kernel
theorem dX6_copy_173 : decode cX6_copy 173 = .ok (.iload 7, 2) := by decide +kernel
theorem dX6_copy_175 : decode cX6_copy 175 = .ok (.ifCond .eq 13, 3) := by decide +kernel
theorem dX6_copy_178 : decode cX6_copy 178 = .ok (.iload 5, 2) := by decide +kernel
theorem dX6_copy_180 : decode cX6_copy 180 = .ok (.iconst 1, 1) := by decide +kernel
theorem dX6_copy_181 : decode cX6_copy 181 = .ok (.isub, 1) := by decide +kernel
theorem dX6_copy_182 : decode cX6_copy 182 = .ok (.iload 8, 2) := by decide +kernel
theorem dX6_copy_184 : decode cX6_copy 184 = .ok (.isub, 1) := by decide +kernel
theorem dX6_copy_185 : decode cX6_copy 185 = .ok (.goto 5, 3) := by decide +kernel
theorem dX6_copy_188 : decode cX6_copy 188 = .ok (.iload 8, 2) := by decide +kernel
theorem dX6_copy_190 : decode cX6_copy 190 = .ok (.istore 9, 2) := by decide +kernel
theorem dX6_copy_192 : decode cX6_copy 192 = .ok (.aload_n 0, 1) := by decide +kernel
theorem dX6_copy_193 : decode cX6_copy 193 = .ok (.getfield 16, 3) := by decide +kernel
theorem dX6_copy_196 : decode cX6_copy 196 = .ok (.bipush 60, 2) := by decide +kernel
theorem dX6_copy_198 : decode cX6_copy 198 = .ok (.iload_n 3, 1) := by decide +kernel
theorem dX6_copy_199 : decode cX6_copy 199 = .ok (.imul, 1) := by decide +kernel
theorem dX6_copy_200 : decode cX6_copy 200 = .ok (.iload 4, 2) := by decide +kernel
theorem dX6_copy_202 : decode cX6_copy 202 = .ok (.iadd, 1) := by decide +kernel
theorem dX6_copy_203 : decode cX6_copy 203 = .ok (.iload 9, 2) := by decide +kernel
theorem dX6_copy_205 : decode cX6_copy 205 = .ok (.iadd, 1) := by decide +kernel
theorem dX6_copy_206 : decode cX6_copy 206 = .ok (.aload_n 0, 1) := by decide +kernel
theorem dX6_copy_207 : decode cX6_copy 207 = .ok (.getfield 16, 3) := by decide +kernel
theorem dX6_copy_210 : decode cX6_copy 210 = .ok (.bipush 60, 2) := by decide +kernel
theorem dX6_copy_212 : decode cX6_copy 212 = .ok (.iload_n 1, 1) := by decide +kernel
theorem dX6_copy_213 : decode cX6_copy 213 = .ok (.imul, 1) := by decide +kernel
theorem dX6_copy_214 : decode cX6_copy 214 = .ok (.iload_n 2, 1) := by decide +kernel
theorem dX6_copy_215 : decode cX6_copy 215 = .ok (.iadd, 1) := by decide +kernel
theorem dX6_copy_216 : decode cX6_copy 216 = .ok (.iload 9, 2) := by decide +kernel
theorem dX6_copy_218 : decode cX6_copy 218 = .ok (.iadd, 1) := by decide +kernel
theorem dX6_copy_219 : decode cX6_copy 219 = .ok (.iaload, 1) := by decide +kernel
theorem dX6_copy_220 : decode cX6_copy 220 = .ok (.iastore, 1) := by decide +kernel
theorem dX6_copy_221 : decode cX6_copy 221 = .ok (.iinc 8 1, 3) := by decide +kernel
theorem dX6_copy_224 : decode cX6_copy 224 = .ok (.goto (-58), 3) := by decide +kernel
theorem dX6_copy_227 : decode cX6_copy 227 = .ok (.iload 5, 2) := by decide +kernel
theorem dX6_copy_229 : decode cX6_copy 229 = .ok (.ireturn, 1) := by decide +kernel
theorem dX6_begins_0 : decode cX6_begins 0 = .ok (.aload_n 0, 1) := by decide +kernel
theorem dX6_begins_1 : decode cX6_begins 1 = .ok (.bipush 31, 2) := by decide +kernel
theorem dX6_begins_3 : decode cX6_begins 3 = .ok (.aload_n 0, 1) := by decide +kernel
theorem dX6_begins_4 : decode cX6_begins 4 = .ok (.getfield 213, 3) := by decide +kernel
theorem dX6_begins_7 : decode cX6_begins 7 = .ok (.imul, 1) := by decide +kernel
theorem dX6_begins_8 : decode cX6_begins 8 = .ok (.iload_n 1, 1) := by decide +kernel
theorem dX6_begins_9 : decode cX6_begins 9 = .ok (.iadd, 1) := by decide +kernel
theorem dX6_begins_10 : decode cX6_begins 10 = .ok (.putfield 213, 3) := by decide +kernel
theorem dX6_begins_13 : decode cX6_begins 13 = .ok (.return_, 1) := by decide +kernel
theorem dX6_tell_0 : decode cX6_tell 0 = .ok (.aload_n 0, 1) := by decide +kernel
theorem dX6_tell_1 : decode cX6_tell 1 = .ok (.iload_n 1, 1) := by decide +kernel
theorem dX6_tell_2 : decode cX6_tell 2 = .ok (.invokevirtual 121, 3) := by decide +kernel
theorem dX6_tell_5 : decode cX6_tell 5 = .ok (.ifCond .ne 5, 3) := by decide +kernel
theorem dX6_tell_8 : decode cX6_tell 8 = .ok (.iconst (-1), 1) := by decide +kernel
theorem dX6_tell_9 : decode cX6_tell 9 = .ok (.ireturn, 1) := by decide +kernel
theorem dX6_tell_10 : decode cX6_tell 10 = .ok (.aload_n 0, 1) := by decide +kernel
theorem dX6_tell_11 : decode cX6_tell 11 = .ok (.getfield 31, 3) := by decide +kernel
theorem dX6_tell_14 : decode cX6_tell 14 = .ok (.iload_n 1, 1) := by decide +kernel
theorem dX6_tell_15 : decode cX6_tell 15 = .ok (.iaload, 1) := by decide +kernel
theorem dX6_tell_16 : decode cX6_tell 16 = .ok (.istore_n 2, 1) := by decide +kernel
theorem dX6_tell_17 : decode cX6_tell 17 = .ok (.aload_n 0, 1) := by decide +kernel
theorem dX6_tell_18 : decode cX6_tell 18 = .ok (.getfield 25, 3) := by decide +kernel
theorem dX6_tell_21 : decode cX6_tell 21 = .ok (.iload_n 1, 1) := by decide +kernel
theorem dX6_tell_22 : decode cX6_tell 22 = .ok (.iaload, 1) := by decide +kernel
theorem dX6_tell_23 : decode cX6_tell 23 = .ok (.lookupswitch 67 #[(1, 25), (2, 40)], 25) := by decide +kernel
theorem dX6_tell_48 : decode cX6_tell 48 = .ok (.aload_n 0, 1) := by decide +kernel
theorem dX6_tell_49 : decode cX6_tell 49 = .ok (.iconst 2, 1) := by decide +kernel
theorem dX6_tell_50 : decode cX6_tell 50 = .ok (.invokevirtual 216, 3) := by decide +kernel
theorem dX6_tell_53 : decode cX6_tell 53 = .ok (.aload_n 0, 1) := by decide +kernel
theorem dX6_tell_54 : decode cX6_tell 54 = .ok (.iconst 1, 1) := by decide +kernel
theorem dX6_tell_55 : decode cX6_tell 55 = .ok (.invokevirtual 216, 3) := by decide +kernel
theorem dX6_tell_58 : decode cX6_tell 58 = .ok (.iload_n 2, 1) := by decide +kernel
theorem dX6_tell_59 : decode cX6_tell 59 = .ok (.bipush 100, 2) := by decide +kernel
theorem dX6_tell_61 : decode cX6_tell 61 = .ok (.iadd, 1) := by decide +kernel
theorem dX6_tell_62 : decode cX6_tell 62 = .ok (.ireturn, 1) := by decide +kernel
theorem dX6_tell_63 : decode cX6_tell 63 = .ok (.aload_n 0, 1) := by decide +kernel
theorem dX6_tell_64 : decode cX6_tell 64 = .ok (.iconst 3, 1) := by decide +kernel
theorem dX6_tell_65 : decode cX6_tell 65 = .ok (.invokevirtual 216, 3) := by decide +kernel
theorem dX6_tell_68 : decode cX6_tell 68 = .ok (.aload_n 0, 1) := by decide +kernel
theorem dX6_tell_69 : decode cX6_tell 69 = .ok (.iconst 2, 1) := by decide +kernel
theorem dX6_tell_70 : decode cX6_tell 70 = .ok (.invokevirtual 216, 3) := by decide +kernel
theorem dX6_tell_73 : decode cX6_tell 73 = .ok (.aload_n 0, 1) := by decide +kernel
theorem dX6_tell_74 : decode cX6_tell 74 = .ok (.iconst 1, 1) := by decide +kernel
theorem dX6_tell_75 : decode cX6_tell 75 = .ok (.invokevirtual 216, 3) := by decide +kernel
theorem dX6_tell_78 : decode cX6_tell 78 = .ok (.aload_n 0, 1) := by decide +kernel
theorem dX6_tell_79 : decode cX6_tell 79 = .ok (.iconst 1, 1) := by decide +kernel
theorem dX6_tell_80 : decode cX6_tell 80 = .ok (.invokevirtual 216, 3) := by decide +kernel
theorem dX6_tell_83 : decode cX6_tell 83 = .ok (.iconst 2, 1) := by decide +kernel
theorem dX6_tell_84 : decode cX6_tell 84 = .ok (.iload_n 2, 1) := by decide +kernel
theorem dX6_tell_85 : decode cX6_tell 85 = .ok (.imul, 1) := by decide +kernel
theorem dX6_tell_86 : decode cX6_tell 86 = .ok (.bipush 100, 2) := by decide +kernel
theorem dX6_tell_88 : decode cX6_tell 88 = .ok (.iadd, 1) := by decide +kernel
theorem dX6_tell_89 : decode cX6_tell 89 = .ok (.ireturn, 1) := by decide +kernel
theorem dX6_tell_90 : decode cX6_tell 90 = .ok (.aload_n 0, 1) := by decide +kernel
theorem dX6_tell_91 : decode cX6_tell 91 = .ok (.iconst 1, 1) := by decide +kernel
theorem dX6_tell_92 : decode cX6_tell 92 = .ok (.invokevirtual 216, 3) := by decide +kernel
theorem dX6_tell_95 : decode cX6_tell 95 = .ok (.iload_n 2, 1) := by decide +kernel
theorem dX6_tell_96 : decode cX6_tell 96 = .ok (.ireturn, 1) := by decide +kernel
theorem dX6_cheer_0 : decode cX6_cheer 0 = .ok (.aload_n 0, 1) := by decide +kernel
theorem dX6_cheer_1 : decode cX6_cheer 1 = .ok (.iload_n 1, 1) := by decide +kernel
theorem dX6_cheer_2 : decode cX6_cheer 2 = .ok (.invokevirtual 121, 3) := by decide +kernel
theorem dX6_cheer_5 : decode cX6_cheer 5 = .ok (.ifCond .ne 5, 3) := by decide +kernel
theorem dX6_cheer_8 : decode cX6_cheer 8 = .ok (.iconst (-1), 1) := by decide +kernel
theorem dX6_cheer_9 : decode cX6_cheer 9 = .ok (.ireturn, 1) := by decide +kernel
theorem dX6_cheer_10 : decode cX6_cheer 10 = .ok (.aload_n 0, 1) := by decide +kernel
theorem dX6_cheer_11 : decode cX6_cheer 11 = .ok (.aload_n 0, 1) := by decide +kernel
theorem dX6_cheer_12 : decode cX6_cheer 12 = .ok (.getfield 25, 3) := by decide +kernel
theorem dX6_cheer_15 : decode cX6_cheer 15 = .ok (.iload_n 1, 1) := by decide +kernel
theorem dX6_cheer_16 : decode cX6_cheer 16 = .ok (.iaload, 1) := by decide +kernel
theorem dX6_cheer_17 : decode cX6_cheer 17 = .ok (.iconst 2, 1) := by decide +kernel
theorem dX6_cheer_18 : decode cX6_cheer 18 = .ok (.if_icmp .ne 7, 3) := by decide +kernel
theorem dX6_cheer_21 : decode cX6_cheer 21 = .ok (.iconst 5, 1) := by decide +kernel
theorem dX6_cheer_22 : decode cX6_cheer 22 = .ok (.goto 4, 3) := by decide +kernel
theorem dX6_cheer_25 : decode cX6_cheer 25 = .ok (.iconst 4, 1) := by decide +kernel
theorem dX6_cheer_26 : decode cX6_cheer 26 = .ok (.invokevirtual 216, 3) := by decide +kernel
theorem dX6_cheer_29 : decode cX6_cheer 29 = .ok (.aload_n 0, 1) := by decide +kernel
theorem dX6_cheer_30 : decode cX6_cheer 30 = .ok (.getfield 25, 3) := by decide +kernel
theorem dX6_cheer_33 : decode cX6_cheer 33 = .ok (.iload_n 1, 1) := by decide +kernel
theorem dX6_cheer_34 : decode cX6_cheer 34 = .ok (.iaload, 1) := by decide +kernel
theorem dX6_cheer_35 : decode cX6_cheer 35 = .ok (.iconst 2, 1) := by decide +kernel
theorem dX6_cheer_36 : decode cX6_cheer 36 = .ok (.if_icmp .ne 8, 3) := by decide +kernel
theorem dX6_cheer_39 : decode cX6_cheer 39 = .ok (.bipush 80, 2) := by decide +kernel
theorem dX6_cheer_41 : decode cX6_cheer 41 = .ok (.goto 4, 3) := by decide +kernel
theorem dX6_cheer_44 : decode cX6_cheer 44 = .ok (.iload_n 1, 1) := by decide +kernel
theorem dX6_cheer_45 : decode cX6_cheer 45 = .ok (.ireturn, 1) := by decide +kernel
theorem dX6_as_0 : decode cX6_as 0 = .ok (.aload_n 0, 1) := by decide +kernel
theorem dX6_as_1 : decode cX6_as 1 = .ok (.iconst 0, 1) := by decide +kernel
theorem dX6_as_2 : decode cX6_as 2 = .ok (.putfield 61, 3) := by decide +kernel
theorem dX6_as_5 : decode cX6_as 5 = .ok (.aload_n 0, 1) := by decide +kernel
theorem dX6_as_6 : decode cX6_as 6 = .ok (.iload_n 1, 1) := by decide +kernel
theorem dX6_as_7 : decode cX6_as 7 = .ok (.invokevirtual 121, 3) := by decide +kernel
theorem dX6_as_10 : decode cX6_as 10 = .ok (.ifCond .ne 5, 3) := by decide +kernel
theorem dX6_as_13 : decode cX6_as 13 = .ok (.iconst (-1), 1) := by decide +kernel
theorem dX6_as_14 : decode cX6_as 14 = .ok (.ireturn, 1) := by decide +kernel
theorem dX6_as_15 : decode cX6_as 15 = .ok (.iload_n 2, 1) := by decide +kernel
theorem dX6_as_16 : decode cX6_as 16 = .ok (.iconst 0, 1) := by decide +kernel
theorem dX6_as_17 : decode cX6_as 17 = .ok (.iconst 2, 1) := by decide +kernel
theorem dX6_as_18 : decode cX6_as 18 = .ok (.invokestatic 67, 3) := by decide +kernel
theorem dX6_as_21 : decode cX6_as 21 = .ok (.ifCond .ne 6, 3) := by decide +kernel
theorem dX6_as_24 : decode cX6_as 24 = .ok (.bipush (-2), 2) := by decide +kernel
theorem dX6_as_26 : decode cX6_as 26 = .ok (.ireturn, 1) := by decide +kernel
theorem dX6_as_27 : decode cX6_as 27 = .ok (.aload_n 0, 1) := by decide +kernel
theorem dX6_as_28 : decode cX6_as 28 = .ok (.getfield 25, 3) := by decide +kernel
theorem dX6_as_31 : decode cX6_as 31 = .ok (.iload_n 1, 1) := by decide +kernel
theorem dX6_as_32 : decode cX6_as 32 = .ok (.iaload, 1) := by decide +kernel
theorem dX6_as_33 : decode cX6_as 33 = .ok (.iload_n 2, 1) := by decide +kernel
theorem dX6_as_34 : decode cX6_as 34 = .ok (.if_icmp .lt 7, 3) := by decide +kernel
theorem dX6_as_37 : decode cX6_as 37 = .ok (.iconst 1, 1) := by decide +kernel
theorem dX6_as_38 : decode cX6_as 38 = .ok (.goto 8, 3) := by decide +kernel
theorem dX6_as_41 : decode cX6_as 41 = .ok (.aload_n 0, 1) := by decide +kernel
theorem dX6_as_42 : decode cX6_as 42 = .ok (.iconst 2, 1) := by decide +kernel
theorem dX6_as_43 : decode cX6_as 43 = .ok (.invokevirtual 91, 3) := by decide +kernel
theorem dX6_as_46 : decode cX6_as 46 = .ok (.ireturn, 1) := by decide +kernel
theorem dX6_trace_0 : decode cX6_trace 0 = .ok (.aload_n 0, 1) := by decide +kernel
theorem dX6_trace_1 : decode cX6_trace 1 = .ok (.getfield 213, 3) := by decide +kernel
theorem dX6_trace_4 : decode cX6_trace 4 = .ok (.ireturn, 1) := by decide +kernel
theorem dX6_fault_0 : decode cX6_fault 0 = .ok (.aload_n 0, 1) := by decide +kernel
theorem dX6_fault_1 : decode cX6_fault 1 = .ok (.getfield 61, 3) := by decide +kernel
theorem dX6_fault_4 : decode cX6_fault 4 = .ok (.ireturn, 1) := by decide +kernel
theorem dX6_many_0 : decode cX6_many 0 = .ok (.iload_n 1, 1) := by decide +kernel
theorem dX6_many_1 : decode cX6_many 1 = .ok (.ifCond .ne 10, 3) := by decide +kernel
theorem dX6_many_4 : decode cX6_many 4 = .ok (.aload_n 0, 1) := by decide +kernel
theorem dX6_many_5 : decode cX6_many 5 = .ok (.getfield 74, 3) := by decide +kernel
theorem dX6_many_8 : decode cX6_many 8 = .ok (.goto 29, 3) := by decide +kernel
theorem dX6_many_11 : decode cX6_many 11 = .ok (.iload_n 1, 1) := by decide +kernel
theorem dX6_many_12 : decode cX6_many 12 = .ok (.iconst 1, 1) := by decide +kernel
theorem dX6_many_13 : decode cX6_many 13 = .ok (.if_icmp .ne 10, 3) := by decide +kernel
theorem dX6_many_16 : decode cX6_many 16 = .ok (.aload_n 0, 1) := by decide +kernel
theorem dX6_many_17 : decode cX6_many 17 = .ok (.getfield 71, 3) := by decide +kernel
theorem dX6_many_20 : decode cX6_many 20 = .ok (.goto 17, 3) := by decide +kernel
theorem dX6_many_23 : decode cX6_many 23 = .ok (.iload_n 1, 1) := by decide +kernel
theorem dX6_many_24 : decode cX6_many 24 = .ok (.iconst 2, 1) := by decide +kernel
theorem dX6_many_25 : decode cX6_many 25 = .ok (.if_icmp .ne 10, 3) := by decide +kernel
theorem dX6_many_28 : decode cX6_many 28 = .ok (.aload_n 0, 1) := by decide +kernel
theorem dX6_many_29 : decode cX6_many 29 = .ok (.getfield 104, 3) := by decide +kernel
theorem dX6_many_32 : decode cX6_many 32 = .ok (.goto 5, 3) := by decide +kernel
theorem dX6_many_35 : decode cX6_many 35 = .ok (.bipush (-2), 2) := by decide +kernel
theorem dX6_many_37 : decode cX6_many 37 = .ok (.ireturn, 1) := by decide +kernel
theorem dJ6_numberOfTrailingZeros_0f7a4_0 : decode cJ6_numberOfTrailingZeros_0f7a4 0 = .ok (.iload_n 0, 1) := by decide +kernel
theorem dJ6_numberOfTrailingZeros_0f7a4_1 : decode cJ6_numberOfTrailingZeros_0f7a4 1 = .ok (.iconst (-1), 1) := by decide +kernel
theorem dJ6_numberOfTrailingZeros_0f7a4_2 : decode cJ6_numberOfTrailingZeros_0f7a4 2 = .ok (.ixor, 1) := by decide +kernel
theorem dJ6_numberOfTrailingZeros_0f7a4_3 : decode cJ6_numberOfTrailingZeros_0f7a4 3 = .ok (.iload_n 0, 1) := by decide +kernel
theorem dJ6_numberOfTrailingZeros_0f7a4_4 : decode cJ6_numberOfTrailingZeros_0f7a4 4 = .ok (.iconst 1, 1) := by decide +kernel
theorem dJ6_numberOfTrailingZeros_0f7a4_5 : decode cJ6_numberOfTrailingZeros_0f7a4 5 = .ok (.isub, 1) := by decide +kernel
theorem dJ6_numberOfTrailingZeros_0f7a4_6 : decode cJ6_numberOfTrailingZeros_0f7a4 6 = .ok (.iand, 1) := by decide +kernel
theorem dJ6_numberOfTrailingZeros_0f7a4_7 : decode cJ6_numberOfTrailingZeros_0f7a4 7 = .ok (.istore_n 0, 1) := by decide +kernel
theorem dJ6_numberOfTrailingZeros_0f7a4_8 : decode cJ6_numberOfTrailingZeros_0f7a4 8 = .ok (.iload_n 0, 1) := by decide +kernel
theorem dJ6_numberOfTrailingZeros_0f7a4_9 : decode cJ6_numberOfTrailingZeros_0f7a4 9 = .ok (.ifCond .gt 8, 3) := by decide +kernel
theorem dJ6_numberOfTrailingZeros_0f7a4_12 : decode cJ6_numberOfTrailingZeros_0f7a4 12 = .ok (.iload_n 0, 1) := by decide +kernel
theorem dJ6_numberOfTrailingZeros_0f7a4_13 : decode cJ6_numberOfTrailingZeros_0f7a4 13 = .ok (.bipush 32, 2) := by decide +kernel
theorem dJ6_numberOfTrailingZeros_0f7a4_15 : decode cJ6_numberOfTrailingZeros_0f7a4 15 = .ok (.iand, 1) := by decide +kernel
theorem dJ6_numberOfTrailingZeros_0f7a4_16 : decode cJ6_numberOfTrailingZeros_0f7a4 16 = .ok (.ireturn, 1) := by decide +kernel
theorem dJ6_numberOfTrailingZeros_0f7a4_17 : decode cJ6_numberOfTrailingZeros_0f7a4 17 = .ok (.iconst 1, 1) := by decide +kernel
theorem dJ6_numberOfTrailingZeros_0f7a4_18 : decode cJ6_numberOfTrailingZeros_0f7a4 18 = .ok (.istore_n 1, 1) := by decide +kernel
theorem dJ6_numberOfTrailingZeros_0f7a4_19 : decode cJ6_numberOfTrailingZeros_0f7a4 19 = .ok (.iload_n 0, 1) := by decide +kernel
theorem dJ6_numberOfTrailingZeros_0f7a4_20 : decode cJ6_numberOfTrailingZeros_0f7a4 20 = .ok (.ldc_w 264, 3) := by decide +kernel
theorem dJ6_numberOfTrailingZeros_0f7a4_23 : decode cJ6_numberOfTrailingZeros_0f7a4 23 = .ok (.if_icmp .le 11, 3) := by decide +kernel
theorem dJ6_numberOfTrailingZeros_0f7a4_26 : decode cJ6_numberOfTrailingZeros_0f7a4 26 = .ok (.iinc 1 16, 3) := by decide +kernel
theorem dJ6_numberOfTrailingZeros_0f7a4_29 : decode cJ6_numberOfTrailingZeros_0f7a4 29 = .ok (.iload_n 0, 1) := by decide +kernel
theorem dJ6_numberOfTrailingZeros_0f7a4_30 : decode cJ6_numberOfTrailingZeros_0f7a4 30 = .ok (.bipush 16, 2) := by decide +kernel
theorem dJ6_numberOfTrailingZeros_0f7a4_32 : decode cJ6_numberOfTrailingZeros_0f7a4 32 = .ok (.iushr, 1) := by decide +kernel
theorem dJ6_numberOfTrailingZeros_0f7a4_33 : decode cJ6_numberOfTrailingZeros_0f7a4 33 = .ok (.istore_n 0, 1) := by decide +kernel
theorem dJ6_numberOfTrailingZeros_0f7a4_34 : decode cJ6_numberOfTrailingZeros_0f7a4 34 = .ok (.iload_n 0, 1) := by decide +kernel
theorem dJ6_numberOfTrailingZeros_0f7a4_35 : decode cJ6_numberOfTrailingZeros_0f7a4 35 = .ok (.sipush 256, 3) := by decide +kernel
theorem dJ6_numberOfTrailingZeros_0f7a4_38 : decode cJ6_numberOfTrailingZeros_0f7a4 38 = .ok (.if_icmp .le 11, 3) := by decide +kernel
theorem dJ6_numberOfTrailingZeros_0f7a4_41 : decode cJ6_numberOfTrailingZeros_0f7a4 41 = .ok (.iinc 1 8, 3) := by decide +kernel
theorem dJ6_numberOfTrailingZeros_0f7a4_44 : decode cJ6_numberOfTrailingZeros_0f7a4 44 = .ok (.iload_n 0, 1) := by decide +kernel
theorem dJ6_numberOfTrailingZeros_0f7a4_45 : decode cJ6_numberOfTrailingZeros_0f7a4 45 = .ok (.bipush 8, 2) := by decide +kernel
theorem dJ6_numberOfTrailingZeros_0f7a4_47 : decode cJ6_numberOfTrailingZeros_0f7a4 47 = .ok (.iushr, 1) := by decide +kernel
theorem dJ6_numberOfTrailingZeros_0f7a4_48 : decode cJ6_numberOfTrailingZeros_0f7a4 48 = .ok (.istore_n 0, 1) := by decide +kernel
theorem dJ6_numberOfTrailingZeros_0f7a4_49 : decode cJ6_numberOfTrailingZeros_0f7a4 49 = .ok (.iload_n 0, 1) := by decide +kernel
theorem dJ6_numberOfTrailingZeros_0f7a4_50 : decode cJ6_numberOfTrailingZeros_0f7a4 50 = .ok (.bipush 16, 2) := by decide +kernel
theorem dJ6_numberOfTrailingZeros_0f7a4_52 : decode cJ6_numberOfTrailingZeros_0f7a4 52 = .ok (.if_icmp .le 10, 3) := by decide +kernel
theorem dJ6_numberOfTrailingZeros_0f7a4_55 : decode cJ6_numberOfTrailingZeros_0f7a4 55 = .ok (.iinc 1 4, 3) := by decide +kernel
theorem dJ6_numberOfTrailingZeros_0f7a4_58 : decode cJ6_numberOfTrailingZeros_0f7a4 58 = .ok (.iload_n 0, 1) := by decide +kernel
theorem dJ6_numberOfTrailingZeros_0f7a4_59 : decode cJ6_numberOfTrailingZeros_0f7a4 59 = .ok (.iconst 4, 1) := by decide +kernel
theorem dJ6_numberOfTrailingZeros_0f7a4_60 : decode cJ6_numberOfTrailingZeros_0f7a4 60 = .ok (.iushr, 1) := by decide +kernel
theorem dJ6_numberOfTrailingZeros_0f7a4_61 : decode cJ6_numberOfTrailingZeros_0f7a4 61 = .ok (.istore_n 0, 1) := by decide +kernel
theorem dJ6_numberOfTrailingZeros_0f7a4_62 : decode cJ6_numberOfTrailingZeros_0f7a4 62 = .ok (.iload_n 0, 1) := by decide +kernel
theorem dJ6_numberOfTrailingZeros_0f7a4_63 : decode cJ6_numberOfTrailingZeros_0f7a4 63 = .ok (.iconst 4, 1) := by decide +kernel
theorem dJ6_numberOfTrailingZeros_0f7a4_64 : decode cJ6_numberOfTrailingZeros_0f7a4 64 = .ok (.if_icmp .le 10, 3) := by decide +kernel
theorem dJ6_numberOfTrailingZeros_0f7a4_67 : decode cJ6_numberOfTrailingZeros_0f7a4 67 = .ok (.iinc 1 2, 3) := by decide +kernel
theorem dJ6_numberOfTrailingZeros_0f7a4_70 : decode cJ6_numberOfTrailingZeros_0f7a4 70 = .ok (.iload_n 0, 1) := by decide +kernel
theorem dJ6_numberOfTrailingZeros_0f7a4_71 : decode cJ6_numberOfTrailingZeros_0f7a4 71 = .ok (.iconst 2, 1) := by decide +kernel
theorem dJ6_numberOfTrailingZeros_0f7a4_72 : decode cJ6_numberOfTrailingZeros_0f7a4 72 = .ok (.iushr, 1) := by decide +kernel
theorem dJ6_numberOfTrailingZeros_0f7a4_73 : decode cJ6_numberOfTrailingZeros_0f7a4 73 = .ok (.istore_n 0, 1) := by decide +kernel
theorem dJ6_numberOfTrailingZeros_0f7a4_74 : decode cJ6_numberOfTrailingZeros_0f7a4 74 = .ok (.iload_n 1, 1) := by decide +kernel
theorem dJ6_numberOfTrailingZeros_0f7a4_75 : decode cJ6_numberOfTrailingZeros_0f7a4 75 = .ok (.iload_n 0, 1) := by decide +kernel
theorem dJ6_numberOfTrailingZeros_0f7a4_76 : decode cJ6_numberOfTrailingZeros_0f7a4 76 = .ok (.iconst 1, 1) := by decide +kernel
theorem dJ6_numberOfTrailingZeros_0f7a4_77 : decode cJ6_numberOfTrailingZeros_0f7a4 77 = .ok (.iushr, 1) := by decide +kernel
theorem dJ6_numberOfTrailingZeros_0f7a4_78 : decode cJ6_numberOfTrailingZeros_0f7a4 78 = .ok (.iadd, 1) := by decide +kernel
theorem dJ6_numberOfTrailingZeros_0f7a4_79 : decode cJ6_numberOfTrailingZeros_0f7a4 79 = .ok (.ireturn, 1) := by decide +kernel
theorem dJ6_bitCount_0f7a4_0 : decode cJ6_bitCount_0f7a4 0 = .ok (.iload_n 0, 1) := by decide +kernel
theorem dJ6_bitCount_0f7a4_1 : decode cJ6_bitCount_0f7a4 1 = .ok (.iload_n 0, 1) := by decide +kernel
theorem dJ6_bitCount_0f7a4_2 : decode cJ6_bitCount_0f7a4 2 = .ok (.iconst 1, 1) := by decide +kernel
theorem dJ6_bitCount_0f7a4_3 : decode cJ6_bitCount_0f7a4 3 = .ok (.iushr, 1) := by decide +kernel
theorem dJ6_bitCount_0f7a4_4 : decode cJ6_bitCount_0f7a4 4 = .ok (.ldc_w 265, 3) := by decide +kernel
theorem dJ6_bitCount_0f7a4_7 : decode cJ6_bitCount_0f7a4 7 = .ok (.iand, 1) := by decide +kernel
theorem dJ6_bitCount_0f7a4_8 : decode cJ6_bitCount_0f7a4 8 = .ok (.isub, 1) := by decide +kernel
theorem dJ6_bitCount_0f7a4_9 : decode cJ6_bitCount_0f7a4 9 = .ok (.istore_n 0, 1) := by decide +kernel
theorem dJ6_bitCount_0f7a4_10 : decode cJ6_bitCount_0f7a4 10 = .ok (.iload_n 0, 1) := by decide +kernel
theorem dJ6_bitCount_0f7a4_11 : decode cJ6_bitCount_0f7a4 11 = .ok (.ldc_w 266, 3) := by decide +kernel
theorem dJ6_bitCount_0f7a4_14 : decode cJ6_bitCount_0f7a4 14 = .ok (.iand, 1) := by decide +kernel
theorem dJ6_bitCount_0f7a4_15 : decode cJ6_bitCount_0f7a4 15 = .ok (.iload_n 0, 1) := by decide +kernel
theorem dJ6_bitCount_0f7a4_16 : decode cJ6_bitCount_0f7a4 16 = .ok (.iconst 2, 1) := by decide +kernel
theorem dJ6_bitCount_0f7a4_17 : decode cJ6_bitCount_0f7a4 17 = .ok (.iushr, 1) := by decide +kernel
theorem dJ6_bitCount_0f7a4_18 : decode cJ6_bitCount_0f7a4 18 = .ok (.ldc_w 266, 3) := by decide +kernel
theorem dJ6_bitCount_0f7a4_21 : decode cJ6_bitCount_0f7a4 21 = .ok (.iand, 1) := by decide +kernel
theorem dJ6_bitCount_0f7a4_22 : decode cJ6_bitCount_0f7a4 22 = .ok (.iadd, 1) := by decide +kernel
theorem dJ6_bitCount_0f7a4_23 : decode cJ6_bitCount_0f7a4 23 = .ok (.istore_n 0, 1) := by decide +kernel
theorem dJ6_bitCount_0f7a4_24 : decode cJ6_bitCount_0f7a4 24 = .ok (.iload_n 0, 1) := by decide +kernel
theorem dJ6_bitCount_0f7a4_25 : decode cJ6_bitCount_0f7a4 25 = .ok (.iload_n 0, 1) := by decide +kernel
theorem dJ6_bitCount_0f7a4_26 : decode cJ6_bitCount_0f7a4 26 = .ok (.iconst 4, 1) := by decide +kernel
theorem dJ6_bitCount_0f7a4_27 : decode cJ6_bitCount_0f7a4 27 = .ok (.iushr, 1) := by decide +kernel
theorem dJ6_bitCount_0f7a4_28 : decode cJ6_bitCount_0f7a4 28 = .ok (.iadd, 1) := by decide +kernel
theorem dJ6_bitCount_0f7a4_29 : decode cJ6_bitCount_0f7a4 29 = .ok (.ldc_w 267, 3) := by decide +kernel
theorem dJ6_bitCount_0f7a4_32 : decode cJ6_bitCount_0f7a4 32 = .ok (.iand, 1) := by decide +kernel
theorem dJ6_bitCount_0f7a4_33 : decode cJ6_bitCount_0f7a4 33 = .ok (.istore_n 0, 1) := by decide +kernel
theorem dJ6_bitCount_0f7a4_34 : decode cJ6_bitCount_0f7a4 34 = .ok (.iload_n 0, 1) := by decide +kernel
theorem dJ6_bitCount_0f7a4_35 : decode cJ6_bitCount_0f7a4 35 = .ok (.iload_n 0, 1) := by decide +kernel
theorem dJ6_bitCount_0f7a4_36 : decode cJ6_bitCount_0f7a4 36 = .ok (.bipush 8, 2) := by decide +kernel
theorem dJ6_bitCount_0f7a4_38 : decode cJ6_bitCount_0f7a4 38 = .ok (.iushr, 1) := by decide +kernel
theorem dJ6_bitCount_0f7a4_39 : decode cJ6_bitCount_0f7a4 39 = .ok (.iadd, 1) := by decide +kernel
theorem dJ6_bitCount_0f7a4_40 : decode cJ6_bitCount_0f7a4 40 = .ok (.istore_n 0, 1) := by decide +kernel
theorem dJ6_bitCount_0f7a4_41 : decode cJ6_bitCount_0f7a4 41 = .ok (.iload_n 0, 1) := by decide +kernel
theorem dJ6_bitCount_0f7a4_42 : decode cJ6_bitCount_0f7a4 42 = .ok (.iload_n 0, 1) := by decide +kernel
theorem dJ6_bitCount_0f7a4_43 : decode cJ6_bitCount_0f7a4 43 = .ok (.bipush 16, 2) := by decide +kernel
theorem dJ6_bitCount_0f7a4_45 : decode cJ6_bitCount_0f7a4 45 = .ok (.iushr, 1) := by decide +kernel
theorem dJ6_bitCount_0f7a4_46 : decode cJ6_bitCount_0f7a4 46 = .ok (.iadd, 1) := by decide +kernel
theorem dJ6_bitCount_0f7a4_47 : decode cJ6_bitCount_0f7a4 47 = .ok (.istore_n 0, 1) := by decide +kernel
theorem dJ6_bitCount_0f7a4_48 : decode cJ6_bitCount_0f7a4 48 = .ok (.iload_n 0, 1) := by decide +kernel
theorem dJ6_bitCount_0f7a4_49 : decode cJ6_bitCount_0f7a4 49 = .ok (.bipush 63, 2) := by decide +kernel
theorem dJ6_bitCount_0f7a4_51 : decode cJ6_bitCount_0f7a4 51 = .ok (.iand, 1) := by decide +kernel
theorem dJ6_bitCount_0f7a4_52 : decode cJ6_bitCount_0f7a4 52 = .ok (.ireturn, 1) := by decide +kernel
theorem dJ9_max_7cf53_0 : decode cJ9_max_7cf53 0 = .ok (.iload_n 0, 1) := by decide +kernel
theorem dJ9_max_7cf53_1 : decode cJ9_max_7cf53 1 = .ok (.iload_n 1, 1) := by decide +kernel
theorem dJ9_max_7cf53_2 : decode cJ9_max_7cf53 2 = .ok (.if_icmp .lt 7, 3) := by decide +kernel
theorem dJ9_max_7cf53_5 : decode cJ9_max_7cf53 5 = .ok (.iload_n 0, 1) := by decide +kernel
theorem dJ9_max_7cf53_6 : decode cJ9_max_7cf53 6 = .ok (.goto 4, 3) := by decide +kernel
theorem dJ9_max_7cf53_9 : decode cJ9_max_7cf53 9 = .ok (.iload_n 1, 1) := by decide +kernel
theorem dJ9_max_7cf53_10 : decode cJ9_max_7cf53 10 = .ok (.ireturn, 1) := by decide +kernel
theorem dJ9_min_7cf53_0 : decode cJ9_min_7cf53 0 = .ok (.iload_n 0, 1) := by decide +kernel
theorem dJ9_min_7cf53_1 : decode cJ9_min_7cf53 1 = .ok (.iload_n 1, 1) := by decide +kernel
theorem dJ9_min_7cf53_2 : decode cJ9_min_7cf53 2 = .ok (.if_icmp .gt 7, 3) := by decide +kernel
theorem dJ9_min_7cf53_5 : decode cJ9_min_7cf53 5 = .ok (.iload_n 0, 1) := by decide +kernel
theorem dJ9_min_7cf53_6 : decode cJ9_min_7cf53 6 = .ok (.goto 4, 3) := by decide +kernel
theorem dJ9_min_7cf53_9 : decode cJ9_min_7cf53 9 = .ok (.iload_n 1, 1) := by decide +kernel
theorem dJ9_min_7cf53_10 : decode cJ9_min_7cf53 10 = .ok (.ireturn, 1) := by decide +kernel
theorem dJ7_fill_53178_0 : decode cJ7_fill_53178 0 = .ok (.iconst 0, 1) := by decide +kernel
theorem dJ7_fill_53178_1 : decode cJ7_fill_53178 1 = .ok (.istore_n 2, 1) := by decide +kernel
theorem dJ7_fill_53178_2 : decode cJ7_fill_53178 2 = .ok (.aload_n 0, 1) := by decide +kernel
theorem dJ7_fill_53178_3 : decode cJ7_fill_53178 3 = .ok (.arraylength, 1) := by decide +kernel
theorem dJ7_fill_53178_4 : decode cJ7_fill_53178 4 = .ok (.istore_n 3, 1) := by decide +kernel
theorem dJ7_fill_53178_5 : decode cJ7_fill_53178 5 = .ok (.iload_n 2, 1) := by decide +kernel
theorem dJ7_fill_53178_6 : decode cJ7_fill_53178 6 = .ok (.iload_n 3, 1) := by decide +kernel
theorem dJ7_fill_53178_7 : decode cJ7_fill_53178 7 = .ok (.if_icmp .ge 13, 3) := by decide +kernel
theorem dJ7_fill_53178_10 : decode cJ7_fill_53178 10 = .ok (.aload_n 0, 1) := by decide +kernel
theorem dJ7_fill_53178_11 : decode cJ7_fill_53178 11 = .ok (.iload_n 2, 1) := by decide +kernel
theorem dJ7_fill_53178_12 : decode cJ7_fill_53178 12 = .ok (.iload_n 1, 1) := by decide +kernel
theorem dJ7_fill_53178_13 : decode cJ7_fill_53178 13 = .ok (.iastore, 1) := by decide +kernel
theorem dJ7_fill_53178_14 : decode cJ7_fill_53178 14 = .ok (.iinc 2 1, 3) := by decide +kernel
theorem dJ7_fill_53178_17 : decode cJ7_fill_53178 17 = .ok (.goto (-12), 3) := by decide +kernel
theorem dJ7_fill_53178_20 : decode cJ7_fill_53178 20 = .ok (.return_, 1) := by decide +kernel
end
section
/-! rules over a whole world: a world family 'wf' (the cells by a state), bundled; contracts over it; calls -/
abbrev St : Type := (Nat → Int32) × (Nat → Nat → Int32)
def uw (y : MethodName) (cc : ByteArray) (n : Nat) (ret : Option FieldType) : List Cond := Cond.code y cc n ret :: lw_tg
def rmk (f w : Nat) : Room := { frames := f, cells := 0, slots := 0, locals := w }
def nw_ok (U : State) : Prop := va_Nw (.methodLinkNest RX5 11 yX3_init RX5) U ∧ va_Nw (.methodLinkNest RX5 20 yX1_init RX5) U ∧ va_Nw (.methodLinkNest RX5 31 yX2_init RX5) U ∧ va_Nw (.methodLinkNest RX0 84 yX5_isIn RX5) U ∧ va_Nw (.methodLinkNest RX4 21 yX5_isIn RX5) U
theorem nw_warm {s U : State} (hW : s.WarmedH U.vm) (h : nw_ok s) : nw_ok U := ⟨va_Nw.warmM hW h.1, va_Nw.warmM hW h.2.1, va_Nw.warmM hW h.2.2.1, va_Nw.warmM hW h.2.2.2.1, va_Nw.warmM hW h.2.2.2.2⟩
theorem nw_same {s U : State} (hW : s.vm = U.vm) (h : nw_ok s) : nw_ok U := ⟨va_Nw.same rfl hW h.1, va_Nw.same rfl hW h.2.1, va_Nw.same rfl hW h.2.2.1, va_Nw.same rfl hW h.2.2.2.1, va_Nw.same rfl hW h.2.2.2.2⟩
theorem uw_good {y : MethodName} {cc : ByteArray} {n : Nat} {ret : Option FieldType} (h : Cond.code y cc n ret ∈ lw_tg) : GoodIn lw_tg (uw y cc n ret) := by
  intro w hw
  rcases List.mem_cons.mp hw with rfl | hw
  · exact lw_tg_good _ h
  · exact lw_tg_good _ hw
section RULES
variable {σ : Type} {wf : σ → va_W} {tys : List (ClassId × FieldType)} {D : va_G} {A : Nat → Prop} {st u : σ}
def BX (wf : σ → va_W) (tys : List (ClassId × FieldType)) (D : va_G) (st : σ) (sz : Nat) : State → Prop := fun U => U.heap.size = sz ∧ va_P D vwCl (wf st) U.heap ∧ va_K D vwCl tys U ∧ va_D (fun _ => True) (wf st) ∧ nw_ok U
def EX (wf : σ → va_W) (tys : List (ClassId × FieldType)) (D : va_G) (A : Nat → Prop) : σ → State → Prop := fun u t => va_P D vwCl (wf u) t.heap ∧ va_K D vwCl tys t ∧ va_D A (wf u)
def HX (wf : σ → va_W) (tys : List (ClassId × FieldType)) (D : va_G) (A : Nat → Prop) (H0 : Heap) (s : State) (st : σ) (H : Heap) (locs : List Loc) : Prop := va_K D vwCl tys s ∧ va_P D vwCl (wf st) H ∧ va_D A (wf st) ∧ va_S A H0 H locs ∧ (∀ q, H0.size ≤ q → A q) ∧ nw_ok s
def CT (l : Launch) (y : MethodName) (cc : ByteArray) (n : Nat) (ret : Option FieldType) (rm : Room) (wf : σ → va_W) (tys : List (ClassId × FieldType)) (D : va_G) (As : List Value) (st : σ) (Qf : (σ → State → Prop) → (Nat → Prop) → Array Value → State → Outcome → State → Prop) : Prop :=
  ∀ sz : Nat, Met l y (uw y cc n ret) rm (va_Pc As (BX wf tys D st sz)) (Qf (EX wf tys D (va_A (wf st) sz)) (va_A (wf st) sz)) 0 0 (va_A (wf st) sz)
def PT (l : Launch) (y : MethodName) (cc : ByteArray) (n : Nat) (ret : Option FieldType) (rm : Room) (As : List Value) (Q : Array Value → State → Outcome → State → Prop) : Prop :=
  Met l y (uw y cc n ret) rm (va_Pc As nw_ok) Q 0 0 (fun _ => False)
/-- what a callee's words are: an instance method that selects itself; a static one; a private one of a nest mate -/
def CV (y : MethodName) (C : String) (bytes : ByteArray) (maxL : Nat) (ret : Option FieldType) (n : Nat) : Prop := Cond.instanceMethod y ∈ lw_tg ∧ Cond.selects C y y ∈ lw_tg ∧ Cond.initialized C ∈ lw_tg ∧ Cond.code y bytes maxL ret ∈ lw_tg ∧ (y.cls = C ∧ y.cls ≠ "java/lang/invoke/MethodHandle" ∧ y.cls ≠ "java/lang/invoke/VarHandle" ∧ (parseMethodDescriptor y.desc).map (fun d => d.parameters.length) = some n)
def CS (y : MethodName) (bytes : ByteArray) (maxL : Nat) (ret : Option FieldType) (n : Nat) : Prop := Cond.static y ∈ lw_tg ∧ Cond.initialized y.cls ∈ lw_tg ∧ Cond.code y bytes maxL ret ∈ lw_tg ∧ (y.cls ≠ "java/lang/invoke/MethodHandle" ∧ y.cls ≠ "java/lang/invoke/VarHandle" ∧ (parseMethodDescriptor y.desc).map (fun d => d.parameters.length) = some n)
def CI (y : MethodName) (bytes : ByteArray) (maxL : Nat) (n : Nat) : Prop := Cond.instanceMethod y ∈ lw_tg ∧ Cond.initialized y.cls ∈ lw_tg ∧ Cond.code y bytes maxL none ∈ lw_tg ∧ y.name = "<init>" ∧ (y.cls ≠ "java/lang/invoke/MethodHandle" ∧ y.cls ≠ "java/lang/invoke/VarHandle" ∧ (parseMethodDescriptor y.desc).map (fun d => d.parameters.length) = some n)
theorem bx_blind {As : List Value} {sz : Nat} : FrameBlind (va_Pc As (BX wf tys D st sz)) := fun a U g mk q => by
  obtain ⟨q0, q1, qP, qK, qD, qN⟩ := q
  exact ⟨q0, q1, qP, va_K.moved (u := U) (U := U.calling g mk a) (Vm.Alike.refl U.vm) qK, qD, nw_same (s := U) (U := U.calling g mk a) rfl qN⟩
theorem pt_blind {As : List Value} : FrameBlind (va_Pc As nw_ok) := fun a U g mk q => ⟨q.1, nw_same (s := U) (U := U.calling g mk a) rfl q.2⟩
theorem CT.of {l : Launch} {y : MethodName} {cc : ByteArray} {n : Nat} {ret : Option FieldType} {f w : Nat} {As : List Value} {own : String} {Qf : (σ → State → Prop) → (Nat → Prop) → Array Value → State → Outcome → State → Prop}
    (hy : plainName y.cls = true) (ho : y.cls = own) (hsl : (lg_sl As).length ≤ n)
    (body : ∀ p e s m args below meth c (A : Nat → Prop) (Q : State → Prop), CallFix p m c cc n s args lw_tg own → meth.sig.returnType = ret → meth.locks = false → HX wf tys D A s.heap s st s.heap [] → MQ below (Qf (EX wf tys D A) A) args s 0 0 A = Q → ∀ ls : Array Slot, lv_has ls n (lv_args 0 As) →
      W p l e (rmk f w) s m args below meth c s.heap [] 0 0 Q (F0 m 0 ls [])) : CT l y cc n ret (rmk f w) wf tys D As st Qf := by
  intro sz
  refine Met.ofW (cc := cc) (maxL := n) (ret := ret) hy rfl ?_
  intro p e s m args below meth c s₁ B hml hv
  obtain ⟨ha, hsz, hP, hK, hD, hN⟩ := hv
  subst hsz
  have hts := atoms_spec (ws := uw y cc n ret) B.pre
  have hown : s.vm.findClass y.cls = some m.cls := findClass_of_methodNamed B.named
  have hl := lv_entry As (n := n) hsl
  have hb := body p e s m args below meth c (va_A (wf st) s.heap.size) _ ⟨B.exec, B.bytes, hml, by rw [← ho]; exact hown, fun w h => hts w (List.mem_cons_of_mem _ h)⟩ B.returns B.notSynchronized ⟨hK, hP, hD.self, va_S.rf, fun q h => Or.inr h, hN⟩ rfl _ hl
  rw [ha, lg_entry_eq]
  rw [ha] at hb
  exact hb
theorem PT.of {l : Launch} {y : MethodName} {cc : ByteArray} {n : Nat} {ret : Option FieldType} {f w : Nat} {As : List Value} {own : String} {Qp : Array Value → State → Outcome → State → Prop}
    (hy : plainName y.cls = true) (ho : y.cls = own) (hsl : (lg_sl As).length ≤ n)
    (body : ∀ p e s m args below meth c (Q : State → Prop), CallFix p m c cc n s args lw_tg own → meth.sig.returnType = ret → meth.locks = false → nw_ok s → MQ below Qp args s 0 0 (fun _ => False) = Q → ∀ ls : Array Slot, lv_has ls n (lv_args 0 As) →
      W p l e (rmk f w) s m args below meth c s.heap [] 0 0 Q (F0 m 0 ls [])) : PT l y cc n ret (rmk f w) As Qp := by
  refine Met.ofW (cc := cc) (maxL := n) (ret := ret) hy rfl ?_
  intro p e s m args below meth c s₁ B hml hv
  obtain ⟨ha, hN⟩ := hv
  have hts := atoms_spec (ws := uw y cc n ret) B.pre
  have hown : s.vm.findClass y.cls = some m.cls := findClass_of_methodNamed B.named
  have hl := lv_entry As (n := n) hsl
  have hb := body p e s m args below meth c _ ⟨B.exec, B.bytes, hml, by rw [← ho]; exact hown, fun w h => hts w (List.mem_cons_of_mem _ h)⟩ B.returns B.notSynchronized hN rfl _ hl
  rw [ha, lg_entry_eq]
  rw [ha] at hb
  exact hb
variable {p : Program} {l : Launch} {e : Env} {R : Room} {s : State} {m : MethodId} {args : Array Value} {below : List Frame} {meth : Method} {c : Code} {H H0 : Heap} {locs : List Loc} {cells slots : Nat} {Q : State → Prop}
variable {cc : ByteArray} {nL pc : Nat} {ls : Array Slot} {rest st0 : List Value} {own : String}
-- ends
theorem r_ireti {post : Int32 → σ → Prop} {v : Int32} (hC : CallFix p m c cc nL s args lw_tg own) (hr : meth.sig.returnType = some .int) (hlk : meth.locks = false) (hW : HX wf tys D A s.heap s u H locs) (hQ : MQ below (va_Qi post (EX wf tys D A) A) args s 0 0 A = Q) (hp : post v u) (hdg : decode cc pc = .ok (.ireturn, 1)) : W p l e R s m args below meth c H locs 0 0 Q (F0 m pc ls [.int v]) :=
  hQ ▸ W.iret hC.1 hC.2.1 hr (fun _ ht hU => ⟨⟨v, u, rfl, hp, by rw [ht]; exact hW.2.1, va_K.moved hU.alike hW.1, hW.2.2.1⟩, hW.2.2.2.1.F ht⟩) hW.2.2.2.1.2.2 hdg hlk
theorem r_iretz {post : Int32 → σ → Prop} {v : Int32} (hC : CallFix p m c cc nL s args lw_tg own) (hr : meth.sig.returnType = some .boolean) (hlk : meth.locks = false) (hW : HX wf tys D A s.heap s u H locs) (hQ : MQ below (va_Qi post (EX wf tys D A) A) args s 0 0 A = Q) (hp : post v u) (hn : narrow .boolean (.int v) = .int v) (hdg : decode cc pc = .ok (.ireturn, 1)) : W p l e R s m args below meth c H locs 0 0 Q (F0 m pc ls [.int v]) :=
  hQ ▸ W.zret hC.1 hC.2.1 hr hn (fun _ ht hU => ⟨⟨v, u, rfl, hp, by rw [ht]; exact hW.2.1, va_K.moved hU.alike hW.1, hW.2.2.1⟩, hW.2.2.2.1.F ht⟩) hW.2.2.2.1.2.2 hdg hlk
theorem r_lret {post : Int64 → σ → Prop} {v : Int64} (hC : CallFix p m c cc nL s args lw_tg own) (hr : meth.sig.returnType = some .long) (hlk : meth.locks = false) (hW : HX wf tys D A s.heap s u H locs) (hQ : MQ below (va_Ql post (EX wf tys D A) A) args s 0 0 A = Q) (hp : post v u) (hdg : decode cc pc = .ok (.lreturn, 1)) : W p l e R s m args below meth c H locs 0 0 Q (F0 m pc ls [.long v]) :=
  hQ ▸ W.lret hC.1 hC.2.1 hr (fun _ ht hU => ⟨⟨v, u, rfl, hp, by rw [ht]; exact hW.2.1, va_K.moved hU.alike hW.1, hW.2.2.1⟩, hW.2.2.2.1.F ht⟩) hW.2.2.2.1.2.2 hdg hlk
theorem r_vret {post : σ → Prop} (hC : CallFix p m c cc nL s args lw_tg own) (hr : meth.sig.returnType = none) (hlk : meth.locks = false) (hW : HX wf tys D A s.heap s u H locs) (hQ : MQ below (va_Qv post (EX wf tys D A) A) args s 0 0 A = Q) (hp : post u) (hdg : decode cc pc = .ok (.return_, 1)) : W p l e R s m args below meth c H locs 0 0 Q (F0 m pc ls []) :=
  hQ ▸ W.vret hC.1 hC.2.1 hr (fun _ ht hU => ⟨⟨u, rfl, hp, by rw [ht]; exact hW.2.1, va_K.moved hU.alike hW.1, hW.2.2.1⟩, hW.2.2.2.1.F ht⟩) hW.2.2.2.1.2.2 hdg hlk
theorem r_pi {post : Int32 → Prop} {v : Int32} (hC : CallFix p m c cc nL s args lw_tg own) (hr : meth.sig.returnType = some .int) (hlk : meth.locks = false) (hQ : MQ below (vp_Si post) args s 0 0 (fun _ => False) = Q) (hp : post v) (hdg : decode cc pc = .ok (.ireturn, 1)) : W p l e R s m args below meth c s.heap [] 0 0 Q (F0 m pc ls [.int v]) :=
  hQ ▸ W.iret hC.1 hC.2.1 hr (fun _ ht _ => ⟨v, rfl, hp, ht⟩) (fun _ h => by cases h) hdg hlk
theorem r_pz {post : Int32 → Prop} {v : Int32} (hC : CallFix p m c cc nL s args lw_tg own) (hr : meth.sig.returnType = some .boolean) (hlk : meth.locks = false) (hQ : MQ below (vp_Si post) args s 0 0 (fun _ => False) = Q) (hp : post v) (hn : narrow .boolean (.int v) = .int v) (hdg : decode cc pc = .ok (.ireturn, 1)) : W p l e R s m args below meth c s.heap [] 0 0 Q (F0 m pc ls [.int v]) :=
  hQ ▸ W.zret hC.1 hC.2.1 hr hn (fun _ ht _ => ⟨v, rfl, hp, ht⟩) (fun _ h => by cases h) hdg hlk
theorem r_pl {post : Int64 → Prop} {v : Int64} (hC : CallFix p m c cc nL s args lw_tg own) (hr : meth.sig.returnType = some .long) (hlk : meth.locks = false) (hQ : MQ below (vp_Sl post) args s 0 0 (fun _ => False) = Q) (hp : post v) (hdg : decode cc pc = .ok (.lreturn, 1)) : W p l e R s m args below meth c s.heap [] 0 0 Q (F0 m pc ls [.long v]) :=
  hQ ▸ W.lret hC.1 hC.2.1 hr (fun _ ht _ => ⟨v, rfl, hp, ht⟩) (fun _ h => by cases h) hdg hlk
theorem r_top {x y : Int32} (h : x = y) (kk : W p l e R s m args below meth c H locs cells slots Q (F0 m pc ls (.int y :: rest))) : W p l e R s m args below meth c H locs cells slots Q (F0 m pc ls (.int x :: rest)) := by
  rw [h]; exact kk
theorem r_topl {x y : Int64} (h : x = y) (kk : W p l e R s m args below meth c H locs cells slots Q (F0 m pc ls (.long y :: rest))) : W p l e R s m args below meth c H locs cells slots Q (F0 m pc ls (.long x :: rest)) := by
  rw [h]; exact kk
-- fields
theorem r_get {C : String} {T : u_T} {N ci index q0 k a : Nat} {ref : String} {fs : List Value} {v : Value} (hC : CallFix p m c cc nL s args lw_tg own) (hW : HX wf tys D A H0 s st H locs)
    (hin : ∀ w ∈ u_ws C T N, w ∈ lw_tg) (he : (wf st)[q0]? = some (a, .inr (ci, fs))) (hc : vwCl[ci]? = some (C, T, N)) (hk : k < N) (hT : (T k).1 = ref) (hlink : Cond.fieldLink own index ref (T k).2.1 (T k).2.2.1 ∈ lw_tg) (hv : fs[k]? = some v) (hdg : decode cc pc = .ok (.getfield index, 3))
    (kk : W p l e R s m args below meth c H locs cells slots Q (F0 m (pc + 3) ls (v :: rest))) : W p l e R s m args below meth c H locs cells slots Q (F0 m pc ls (.ref a :: rest)) :=
  va_get hC.1 hC.2.1 hC.2.2.2.2 hin hC.2.2.2.1 hW.1 hW.2.1 q0 he hc k hk (hC.2.2.2.2 _ hlink) (fun _ h => by rw [← hT]; exact h) hv hdg kk
theorem r_put {C : String} {T : u_T} {N ci index q0 k a : Nat} {ref : String} {fs : List Value} {v : Value} {ty : FieldType} {st' : σ} (hC : CallFix p m c cc nL s args lw_tg own) (hW : HX wf tys D A H0 s st H locs)
    (hin : ∀ w ∈ u_ws C T N, w ∈ lw_tg) {ty0 : Nat → FieldType} (hty : ∀ k, k < N → parseFieldDescriptor (T k).2.2.1 = some (ty0 k)) (hnm : ∀ a, a < N → ∀ b, b < N → a ≠ b → (T a).2.1 ≠ (T b).2.1) (he : (wf st)[q0]? = some (a, .inr (ci, fs))) (hc : vwCl[ci]? = some (C, T, N)) (hk : k < N) (hT : (T k).1 = ref) (hlink : Cond.fieldLink own index ref (T k).2.1 (T k).2.2.1 ∈ lw_tg) (hfin : (T k).2.2.2 = false) (hd : parseFieldDescriptor (T k).2.2.1 = some ty) (hn : narrow ty v = v) (hfit : fits ty v = true) (hl : k < fs.length)
    (hset : (wf st).set q0 (a, .inr (ci, fs.set k v)) = wf st') (hdg : decode cc pc = .ok (.putfield index, 3))
    (kk : ∀ (H1 : Heap) (locs1 : List Loc), HX wf tys D A H0 s st' H1 locs1 → W p l e R s m args below meth c H1 locs1 cells slots Q (F0 m (pc + 3) ls rest)) : W p l e R s m args below meth c H locs cells slots Q (F0 m pc ls (v :: .ref a :: rest)) :=
  va_put hC.1 hC.2.1 hC.2.2.2.2 hin ty0 hty hnm hC.2.2.2.1 hW.1 hW.2.1 hW.2.2.1 hW.2.2.2.1 q0 he hc k hk (hC.2.2.2.2 _ hlink) (fun _ h => by rw [← hT]; exact h) hfin hd hn hfit hl hdg (fun H1 locs1 h1 h2 h3 => kk H1 locs1 ⟨hW.1, by rw [← hset]; exact h1, by rw [← hset]; exact h2, h3, hW.2.2.2.2⟩)
-- arrays
theorem r_ild {q0 t0 a n : Nat} {cA : ClassId} {f : Nat → Int32} {i : Int32} (hC : CallFix p m c cc nL s args lw_tg own) (hW : HX wf tys D A H0 s st H locs) (he : (wf st)[q0]? = some (a, .inl (cA, n, .inl f))) (ht : tys[t0]? = some (cA, .int)) (hin : vp_in i n) (hdg : decode cc pc = .ok (.iaload, 1))
    (kk : W p l e R s m args below meth c H locs cells slots Q (F0 m (pc + 1) ls (.int (f i.toNatClampNeg) :: rest))) : W p l e R s m args below meth c H locs cells slots Q (F0 m pc ls (.int i :: .ref a :: rest)) :=
  va_iald hC.1 hC.2.1 hW.1 hW.2.1 q0 t0 he ht hin hdg kk
theorem r_ildN {q0 t0 a n j : Nat} {cA : ClassId} {f : Nat → Int32} {i : Int32} (hC : CallFix p m c cc nL s args lw_tg own) (hW : HX wf tys D A H0 s st H locs) (he : (wf st)[q0]? = some (a, .inl (cA, n, .inl f))) (ht : tys[t0]? = some (cA, .int)) (hi : i = nI j) (hj : j < n) (hn : n < 2 ^ 31) (hdg : decode cc pc = .ok (.iaload, 1))
    (kk : W p l e R s m args below meth c H locs cells slots Q (F0 m (pc + 1) ls (.int (f j) :: rest))) : W p l e R s m args below meth c H locs cells slots Q (F0 m pc ls (.int i :: .ref a :: rest)) := by
  subst hi
  refine va_iald hC.1 hC.2.1 hW.1 hW.2.1 q0 t0 he ht (vp_in_nI hj hn) hdg ?_
  rw [nI_clamp (by omega)]
  exact kk
theorem r_istN {q0 t0 a n j : Nat} {cA : ClassId} {f : Nat → Int32} {i x : Int32} {st' : σ} (hC : CallFix p m c cc nL s args lw_tg own) (hW : HX wf tys D A H0 s st H locs) (he : (wf st)[q0]? = some (a, .inl (cA, n, .inl f))) (ht : tys[t0]? = some (cA, .int)) (hi : i = nI j) (hj : j < n) (hn : n < 2 ^ 31) (hset : (wf st).set q0 (a, .inl (cA, n, .inl (upd f j x))) = wf st') (hdg : decode cc pc = .ok (.iastore, 1))
    (kk : ∀ (H1 : Heap) (locs1 : List Loc), HX wf tys D A H0 s st' H1 locs1 → W p l e R s m args below meth c H1 locs1 cells slots Q (F0 m (pc + 1) ls rest)) : W p l e R s m args below meth c H locs cells slots Q (F0 m pc ls (.int x :: .int i :: .ref a :: rest)) := by
  subst hi
  refine va_iast hC.1 hC.2.1 hW.1 hW.2.1 hW.2.2.1 hW.2.2.2.1 q0 t0 he ht (vp_in_nI hj hn) hdg ?_
  rw [nI_clamp (by omega), hset]
  exact fun H1 locs1 h1 h2 h3 => kk H1 locs1 ⟨hW.1, h1, h2, h3, hW.2.2.2.2⟩
theorem r_aldN {q0 t0 a n j b : Nat} {cA : ClassId} {C : String} {f : Nat → Option Nat} {i : Int32} (hC : CallFix p m c cc nL s args lw_tg own) (hW : HX wf tys D A H0 s st H locs) (he : (wf st)[q0]? = some (a, .inl (cA, n, .inr (.inr (.inr (.inr f)))))) (ht : tys[t0]? = some (cA, .object C)) (hi : i = nI j) (hj : j < n) (hn : n < 2 ^ 31) (hv : f j = some b) (hdg : decode cc pc = .ok (.aaload, 1))
    (kk : W p l e R s m args below meth c H locs cells slots Q (F0 m (pc + 1) ls (.ref b :: rest))) : W p l e R s m args below meth c H locs cells slots Q (F0 m pc ls (.int i :: .ref a :: rest)) := by
  subst hi
  refine va_aldq hC.1 hC.2.1 hW.1 hW.2.1 q0 t0 he ht (vp_in_nI hj hn) hdg ?_
  rw [nI_clamp (by omega), hv]
  exact kk
theorem r_alen {q0 t0 a : Nat} {cA : ClassId} {x : vp_A} {ty : FieldType} {v : Int32} (hC : CallFix p m c cc nL s args lw_tg own) (hW : HX wf tys D A H0 s st H locs) (he : (wf st)[q0]? = some (a, .inl (cA, x))) (ht : tys[t0]? = some (cA, ty)) (hv : Int32.ofNat x.1 = v) (hdg : decode cc pc = .ok (.arraylength, 1))
    (kk : W p l e R s m args below meth c H locs cells slots Q (F0 m (pc + 1) ls (.int v :: rest))) : W p l e R s m args below meth c H locs cells slots Q (F0 m pc ls (.ref a :: rest)) :=
  va_alen hC.1 hC.2.1 hW.1 hW.2.1 q0 t0 he ht hv hdg kk
theorem r_copy {q0 q1 t0 a a0 n0 n1 index : Nat} {cA : ClassId} {f g : Nat → Int32} {st' : σ} {sp dp n : Int32} (hC : CallFix p m c cc nL s args lw_tg own) (hW : HX wf tys D A H0 s st H locs) (hsz : ls.size = nL) (hlink : Cond.methodLink own index arraycopyName ∈ lw_tg)
    (ha0 : (wf st)[q0]? = some (a0, .inl (cA, n0, .inl f))) (ha1 : (wf st)[q1]? = some (a, .inl (cA, n1, .inl g))) (ht : tys[t0]? = some (cA, .int)) (h1 : ¬ sp < 0) (h2 : ¬ dp < 0) (h3 : ¬ n < 0) (h4 : sp.toNatClampNeg + n.toNatClampNeg ≤ n0) (h5 : dp.toNatClampNeg + n.toNatClampNeg ≤ n1)
    (hset : (wf st).set q1 (a, .inl (cA, n1, .inl (va_cpy f g sp.toNatClampNeg dp.toNatClampNeg n.toNatClampNeg))) = wf st') (hR : 1 ≤ R.frames ∧ (rest.map fun v => v.category).sum + (nativeFrameWords "java/lang/System" "arraycopy" 5 + 11) ≤ R.locals) (hdg : decode cc pc = .ok (.invokestatic index, 3))
    (kk : ∀ (H1 : Heap) (locs1 : List Loc), HX wf tys D A H0 s st' H1 locs1 → W p l e R s m args below meth c H1 locs1 cells slots Q (F0 m (pc + 3) ls rest)) : W p l e R s m args below meth c H locs cells slots Q (F0 m pc ls (.int n :: .int dp :: .ref a :: .int sp :: .ref a0 :: rest)) := by
  refine va_copyi hC.1 hC.2.1 (hC.2.2.1.trans hsz.symm) hC.2.2.2.1 (hC.2.2.2.2 _ hlink) (hC.2.2.2.2 _ q_na_arraycopy) (hC.2.2.2.2 _ q_st_arraycopy) (hC.2.2.2.2 _ q_in_RJ10) hW.1 hW.2.1 hW.2.2.1 hW.2.2.2.1 q0 q1 t0 t0 ha0 ha1 ht ht rfl h1 h2 h3 h4 h5 (fun i _ => rfl) hR.1 hR.2 hdg ?_
  rw [hset]
  exact fun H1 locs1 h1 h2 h3 => kk H1 locs1 ⟨hW.1, h1, h2, h3, hW.2.2.2.2⟩
-- calls
theorem hx_free (hW : HX wf tys D A H0 s st H locs) : ∀ q, va_A (wf st) H.size q → A q := by
  intro q h
  rcases h with ⟨k, e, h⟩ | h
  · exact hW.2.2.1.2 k (q, e) h
  · exact hW.2.2.2.2.1 q (Nat.le_trans hW.2.2.2.1.1 h)
theorem hx_after {t : State} {H1 : Heap} {locs1 : List Loc} (hW : HX wf tys D A H0 s st H locs) (hB : EX wf tys D (va_A (wf st) H.size) u t) (ht : t.heap = H1) (hS : va_S A H0 H1 locs1) : HX wf tys D A H0 s u H1 locs1 :=
  ⟨hW.1, by rw [← ht]; exact hB.1, hB.2.2.weaken (fun _ q _ h => hx_free hW q.1 h), hS, hW.2.2.2.2⟩
theorem fin_i {post : Int32 → σ → Prop} {a : Array Value} (hr : va_Run p l e R s m args below meth c H locs cells slots 0 0 (F0 m pc ls st0) rest (va_Qi post (EX wf tys D (va_A (wf st) H.size)) (va_A (wf st) H.size) a) (va_A (wf st) H.size)) (hW : HX wf tys D A H0 s st H locs)
    (kk : ∀ (r : Int32) (u : σ) (H1 : Heap) (locs1 : List Loc), post r u → HX wf tys D A H0 s u H1 locs1 → W p l e R s m args below meth c H1 locs1 cells slots Q (F0 m (pc + 3) ls (.int r :: rest))) : W p l e R s m args below meth c H locs cells slots Q (F0 m pc ls st0) :=
  va_calli hr hW.2.2.2.1 (fun q _ h => hx_free hW q h) (hx_free hW) (fun r u _ H1 locs1 ht _ hp hB _ _ hS => kk r u H1 locs1 hp (hx_after hW hB ht hS))
theorem fin_l {post : Int64 → σ → Prop} {a : Array Value} (hr : va_Run p l e R s m args below meth c H locs cells slots 0 0 (F0 m pc ls st0) rest (va_Ql post (EX wf tys D (va_A (wf st) H.size)) (va_A (wf st) H.size) a) (va_A (wf st) H.size)) (hW : HX wf tys D A H0 s st H locs)
    (kk : ∀ (r : Int64) (u : σ) (H1 : Heap) (locs1 : List Loc), post r u → HX wf tys D A H0 s u H1 locs1 → W p l e R s m args below meth c H1 locs1 cells slots Q (F0 m (pc + 3) ls (.long r :: rest))) : W p l e R s m args below meth c H locs cells slots Q (F0 m pc ls st0) :=
  va_calll hr hW.2.2.2.1 (fun q _ h => hx_free hW q h) (hx_free hW) (fun r u _ H1 locs1 ht _ hp hB _ _ hS => kk r u H1 locs1 hp (hx_after hW hB ht hS))
theorem fin_v {post : σ → Prop} {a : Array Value} (hr : va_Run p l e R s m args below meth c H locs cells slots 0 0 (F0 m pc ls st0) rest (va_Qv post (EX wf tys D (va_A (wf st) H.size)) (va_A (wf st) H.size) a) (va_A (wf st) H.size)) (hW : HX wf tys D A H0 s st H locs)
    (kk : ∀ (u : σ) (H1 : Heap) (locs1 : List Loc), post u → HX wf tys D A H0 s u H1 locs1 → W p l e R s m args below meth c H1 locs1 cells slots Q (F0 m (pc + 3) ls rest)) : W p l e R s m args below meth c H locs cells slots Q (F0 m pc ls st0) :=
  va_callv hr hW.2.2.2.1 (fun q _ h => hx_free hW q h) (hx_free hW) (fun u _ H1 locs1 ht _ hp hB _ _ hS => kk u H1 locs1 hp (hx_after hW hB ht hS))
theorem bx_of (hW : HX wf tys D A H0 s st H locs) (U : State) (hU : U.heap = H) (hw : s.WarmedH U.vm) : BX wf tys D st H.size U :=
  ⟨by rw [hU], by rw [hU]; exact hW.2.1, va_K.moved hw.alike hW.1, hW.2.2.1.weaken (fun _ _ _ _ => trivial), nw_warm hw hW.2.2.2.2.2⟩
theorem run_V {y : MethodName} {bytes : ByteArray} {maxL n index q0 ci b N : Nat} {ret : Option FieldType} {rm : Room} {C : String} {T : u_T} {fs : List Value} {As : List Value} {Qf : (σ → State → Prop) → (Nat → Prop) → Array Value → State → Outcome → State → Prop}
    (hC : CallFix p m c cc nL s args lw_tg own) (hW : HX wf tys D A H0 s st H locs) (hM : CT l y bytes maxL ret rm wf tys D (.ref b :: As) st Qf) (k : CV y C bytes maxL ret n) (hrm : rm.cells = 0 ∧ rm.slots = 0) (hlink : Cond.methodLink own index y ∈ lw_tg) (he : (wf st)[q0]? = some (b, .inr (ci, fs))) (hc : vwCl[ci]? = some (C, T, N))
    (hn : As.length = n) (hsz : ls.size = nL) (hst : st0 = As.reverse ++ .ref b :: rest) (hcat : (rest.map fun v => v.category).sum ≤ 8) (hR : rm.frames + 1 ≤ R.frames ∧ 8 + (maxL + 11) + rm.locals ≤ R.locals) (hdg : decode cc pc = .ok (.invokevirtual index, 3)) (hf : cells + 0 ≤ R.cells ∧ slots + 0 ≤ R.slots) :
    va_Run p l e R s m args below meth c H locs cells slots 0 0 (F0 m pc ls st0) rest (Qf (EX wf tys D (va_A (wf st) H.size)) (va_A (wf st) H.size) (Value.ref b :: As).toArray) (va_A (wf st) H.size) :=
  va_runV (ws := uw y bytes maxL ret) hC (hM H.size)
    ⟨callB_of n hC.2.2.2.2 (uw_good k.2.2.2.1) rfl hrm.1 hrm.2 (by rw [k.2.2.2.2.1]; exact hC.2.2.2.2 _ k.2.2.1) (hC.2.2.2.2 _ hlink) k.2.2.2.2.2 hR, hC.2.2.2.2 _ k.1, hC.2.2.2.2 _ k.2.1⟩
    ⟨bx_blind, va_recv hW.1 hW.2.1 hc he, fun U hU hw => ⟨rfl, bx_of hW U hU hw⟩⟩ rfl hn hsz hst (lv_room hcat) hdg hf
theorem run_S {y : MethodName} {bytes : ByteArray} {maxL n index : Nat} {ret : Option FieldType} {rm : Room} {As : List Value} {Qf : (σ → State → Prop) → (Nat → Prop) → Array Value → State → Outcome → State → Prop}
    (hC : CallFix p m c cc nL s args lw_tg own) (hW : HX wf tys D A H0 s st H locs) (hM : CT l y bytes maxL ret rm wf tys D As st Qf) (k : CS y bytes maxL ret n) (hrm : rm.cells = 0 ∧ rm.slots = 0) (hlink : Cond.methodLink own index y ∈ lw_tg)
    (hn : As.length = n) (hsz : ls.size = nL) (hst : st0 = As.reverse ++ rest) (hcat : (rest.map fun v => v.category).sum ≤ 8) (hR : rm.frames + 1 ≤ R.frames ∧ 8 + (maxL + 11) + rm.locals ≤ R.locals) (hdg : decode cc pc = .ok (.invokestatic index, 3)) (hf : cells + 0 ≤ R.cells ∧ slots + 0 ≤ R.slots) :
    va_Run p l e R s m args below meth c H locs cells slots 0 0 (F0 m pc ls st0) rest (Qf (EX wf tys D (va_A (wf st) H.size)) (va_A (wf st) H.size) As.toArray) (va_A (wf st) H.size) :=
  va_runS (ws := uw y bytes maxL ret) hC (hM H.size)
    ⟨callB_of n hC.2.2.2.2 (uw_good k.2.2.1) rfl hrm.1 hrm.2 (hC.2.2.2.2 _ k.2.1) (hC.2.2.2.2 _ hlink) k.2.2.2 hR, hC.2.2.2.2 _ k.1⟩
    ⟨bx_blind, fun U hU hw => ⟨rfl, bx_of hW U hU hw⟩⟩ rfl hn hsz hst (lv_room hcat) hdg hf
theorem run_P {y : MethodName} {bytes : ByteArray} {maxL n index : Nat} {ret : Option FieldType} {rm : Room} {As : List Value} {Qp : Array Value → State → Outcome → State → Prop}
    (hC : CallFix p m c cc nL s args lw_tg own) (hN : nw_ok s) (hM : PT l y bytes maxL ret rm As Qp) (k : CS y bytes maxL ret n) (hrm : rm.cells = 0 ∧ rm.slots = 0) (hlink : Cond.methodLink own index y ∈ lw_tg)
    (hn : As.length = n) (hsz : ls.size = nL) (hst : st0 = As.reverse ++ rest) (hcat : (rest.map fun v => v.category).sum ≤ 8) (hR : rm.frames + 1 ≤ R.frames ∧ 8 + (maxL + 11) + rm.locals ≤ R.locals) (hdg : decode cc pc = .ok (.invokestatic index, 3)) (hf : cells + 0 ≤ R.cells ∧ slots + 0 ≤ R.slots) :
    va_Run p l e R s m args below meth c H locs cells slots 0 0 (F0 m pc ls st0) rest (Qp As.toArray) (fun _ => False) :=
  va_runS (ws := uw y bytes maxL ret) hC hM
    ⟨callB_of n hC.2.2.2.2 (uw_good k.2.2.1) rfl hrm.1 hrm.2 (hC.2.2.2.2 _ k.2.1) (hC.2.2.2.2 _ hlink) k.2.2.2 hR, hC.2.2.2.2 _ k.1⟩
    ⟨pt_blind, fun U hU hw => ⟨rfl, nw_warm hw hN⟩⟩ rfl hn hsz hst (lv_room hcat) hdg hf
theorem run_PN {y : MethodName} {bytes : ByteArray} {maxL n index : Nat} {ret : Option FieldType} {rm : Room} {As : List Value} {Qp : Array Value → State → Outcome → State → Prop} {host : String}
    (hC : CallFix p m c cc nL s args lw_tg own) (hN : nw_ok s) (hM : PT l y bytes maxL ret rm As Qp) (k : CS y bytes maxL ret n) (hrm : rm.cells = 0 ∧ rm.slots = 0) (hlink : va_Nw (.methodLinkNest own index y host) s)
    (hn : As.length = n) (hsz : ls.size = nL) (hst : st0 = As.reverse ++ rest) (hcat : (rest.map fun v => v.category).sum ≤ 8) (hR : rm.frames + 1 ≤ R.frames ∧ 8 + (maxL + 11) + rm.locals ≤ R.locals) (hdg : decode cc pc = .ok (.invokestatic index, 3)) (hf : cells + 0 ≤ R.cells ∧ slots + 0 ≤ R.slots) :
    va_Run p l e R s m args below meth c H locs cells slots 0 0 (F0 m pc ls st0) rest (Qp As.toArray) (fun _ => False) :=
  va_runSN (ws := uw y bytes maxL ret) hC hM
    ⟨va_cnB n hC.2.2.2.2 (uw_good k.2.2.1) rfl hrm.1 hrm.2 hlink (hC.2.2.2.2 _ k.2.1) k.2.2.2 hR, hC.2.2.2.2 _ k.1, trivial⟩
    ⟨pt_blind, fun U hU hw => ⟨rfl, nw_warm hw hN⟩⟩ rfl hn hsz hst (lv_room hcat) hdg hf
theorem fin_pi {post : Int32 → Prop} {a : Array Value} (hr : va_Run p l e R s m args below meth c H locs cells slots 0 0 (F0 m pc ls st0) rest (vp_Si post a) (fun _ => False))
    (kk : ∀ (r : Int32), post r → W p l e R s m args below meth c H locs cells slots Q (F0 m (pc + 3) ls (.int r :: rest))) : W p l e R s m args below meth c H locs cells slots Q (F0 m pc ls st0) := by
  intro T hT X
  obtain ⟨v, st₀, t, T', L, h0, X', hL, e1, e2, ⟨r, hv, hp, hh⟩, st⟩ := hr T hT X
  cases hv
  obtain ⟨t2, a1, b1⟩ := kk r hp T' (by rw [e1, hh, h0]) (by
    have : L = [] := by
      cases L with
      | nil => rfl
      | cons a L => exact absurd (hL a List.mem_cons_self) (fun h => h)
    rw [this, List.append_nil] at X'
    exact X')
  exact ⟨t2, st t2 a1, b1⟩
theorem fin_pl {post : Int64 → Prop} {a : Array Value} (hr : va_Run p l e R s m args below meth c H locs cells slots 0 0 (F0 m pc ls st0) rest (vp_Sl post a) (fun _ => False))
    (kk : ∀ (r : Int64), post r → W p l e R s m args below meth c H locs cells slots Q (F0 m (pc + 3) ls (.long r :: rest))) : W p l e R s m args below meth c H locs cells slots Q (F0 m pc ls st0) := by
  intro T hT X
  obtain ⟨v, st₀, t, T', L, h0, X', hL, e1, e2, ⟨r, hv, hp, hh⟩, st⟩ := hr T hT X
  cases hv
  obtain ⟨t2, a1, b1⟩ := kk r hp T' (by rw [e1, hh, h0]) (by
    have : L = [] := by
      cases L with
      | nil => rfl
      | cons a L => exact absurd (hL a List.mem_cons_self) (fun h => h)
    rw [this, List.append_nil] at X'
    exact X')
  exact ⟨t2, st t2 a1, b1⟩
theorem r_max {index : Nat} {x y : Int32} (hC : CallFix p m c cc nL s args lw_tg own) (hsz : ls.size = nL) (hlink : Cond.methodLink own index Lib.Math.max.name ∈ lw_tg) (hR : 1 ≤ R.frames ∧ (rest.map fun v => v.category).sum + 13 ≤ R.locals) (hf : cells ≤ R.cells ∧ slots ≤ R.slots) (hdg : decode cc pc = .ok (.invokestatic index, 3))
    (kk : W p l e R s m args below meth c H locs cells slots Q (F0 m (pc + 3) ls (.int (if x < y then y else x) :: rest))) : W p l e R s m args below meth c H locs cells slots Q (F0 m pc ls (.int y :: .int x :: rest)) :=
  va_mmax hC.1 hC.2.1 (hC.2.2.1.trans hsz.symm) hC.2.2.2.1 (hC.2.2.2.2 _ hlink) (hC.2.2.2.2 _ q_st_max) (hC.2.2.2.2 _ q_in_RJ9) (hC.2.2.2.2 _ q_co_max) hR.1 hR.2 hf.1 hf.2 hdg kk
theorem r_min {index : Nat} {x y : Int32} (hC : CallFix p m c cc nL s args lw_tg own) (hsz : ls.size = nL) (hlink : Cond.methodLink own index Lib.Math.min.name ∈ lw_tg) (hR : 1 ≤ R.frames ∧ (rest.map fun v => v.category).sum + 13 ≤ R.locals) (hf : cells ≤ R.cells ∧ slots ≤ R.slots) (hdg : decode cc pc = .ok (.invokestatic index, 3))
    (kk : W p l e R s m args below meth c H locs cells slots Q (F0 m (pc + 3) ls (.int (if y < x then y else x) :: rest))) : W p l e R s m args below meth c H locs cells slots Q (F0 m pc ls (.int y :: .int x :: rest)) :=
  va_mmin hC.1 hC.2.1 (hC.2.2.1.trans hsz.symm) hC.2.2.2.1 (hC.2.2.2.2 _ hlink) (hC.2.2.2.2 _ q_st_min) (hC.2.2.2.2 _ q_in_RJ9) (hC.2.2.2.2 _ q_co_min) hR.1 hR.2 hf.1 hf.2 hdg kk
end RULES
end
section
abbrev CS3 : Type := ClassId × ClassId × ClassId
def tyX (cs : CS3) : List (ClassId × FieldType) := [(cs.1, .int), (cs.2.1, .object "GlassHill$Row"), (cs.2.2, .object "GlassHill$Climb")]
def wX (cs : CS3) (ad : Nat → Nat) (t : St) : va_W := [(ad 0, .inr (4, [.ref (ad 1), .ref (ad 7), .ref (ad 10), .ref (ad 11), .ref (ad 12), .ref (ad 13), .int (t.1 0), .int (t.1 1)])), (ad 1, .inr (3, [.int (t.1 2), .int (t.1 3), .ref (ad 2), .ref (ad 3), .ref (ad 4), .ref (ad 5), .ref (ad 6)])), (ad 2, .inl (cs.1, 8, .inl (t.2 2))), (ad 3, .inl (cs.1, 8, .inl (t.2 3))), (ad 4, .inl (cs.1, 5, .inl (t.2 4))), (ad 5, .inl (cs.1, 5, .inl (t.2 5))), (ad 6, .inl (cs.1, 5, .inl (t.2 6))), (ad 7, .inr (1, [.int (t.1 4), .ref (ad 8), .ref (ad 9)])), (ad 8, .inl (cs.1, 8, .inl (t.2 8))), (ad 9, .inl (cs.1, 8, .inl (t.2 9))), (ad 10, .inl (cs.2.1, 4, .inr (.inr (.inr (.inr (fun j => some (ad (14 + 2 * j)))))))), (ad 11, .inl (cs.2.2, 11, .inr (.inr (.inr (.inr (fun j => some (ad (22 + 4 * j)))))))), (ad 12, .inl (cs.1, 30, .inl (t.2 12))), (ad 13, .inl (cs.1, 6, .inl (t.2 13))), (ad 14, .inr (2, [.int (t.1 5), .int (t.1 6), .ref (ad 15)])), (ad 15, .inl (cs.1, 60, .inl (t.2 15))), (ad 16, .inr (2, [.int (t.1 7), .int (t.1 8), .ref (ad 17)])), (ad 17, .inl (cs.1, 60, .inl (t.2 17))), (ad 18, .inr (2, [.int (t.1 9), .int (t.1 10), .ref (ad 19)])), (ad 19, .inl (cs.1, 60, .inl (t.2 19))), (ad 20, .inr (2, [.int (t.1 11), .int (t.1 12), .ref (ad 21)])), (ad 21, .inl (cs.1, 60, .inl (t.2 21))), (ad 22, .inr (0, [.ref (ad 1), .ref (ad 23), .ref (ad 24), .ref (ad 25), .int (t.1 13)])), (ad 23, .inl (cs.1, 8, .inl (t.2 23))), (ad 24, .inl (cs.1, 5, .inl (t.2 24))), (ad 25, .inl (cs.1, 5, .inl (t.2 25))), (ad 26, .inr (0, [.ref (ad 1), .ref (ad 27), .ref (ad 28), .ref (ad 29), .int (t.1 14)])), (ad 27, .inl (cs.1, 8, .inl (t.2 27))), (ad 28, .inl (cs.1, 5, .inl (t.2 28))), (ad 29, .inl (cs.1, 5, .inl (t.2 29))), (ad 30, .inr (0, [.ref (ad 1), .ref (ad 31), .ref (ad 32), .ref (ad 33), .int (t.1 15)])), (ad 31, .inl (cs.1, 8, .inl (t.2 31))), (ad 32, .inl (cs.1, 5, .inl (t.2 32))), (ad 33, .inl (cs.1, 5, .inl (t.2 33))), (ad 34, .inr (0, [.ref (ad 1), .ref (ad 35), .ref (ad 36), .ref (ad 37), .int (t.1 16)])), (ad 35, .inl (cs.1, 8, .inl (t.2 35))), (ad 36, .inl (cs.1, 5, .inl (t.2 36))), (ad 37, .inl (cs.1, 5, .inl (t.2 37))), (ad 38, .inr (0, [.ref (ad 1), .ref (ad 39), .ref (ad 40), .ref (ad 41), .int (t.1 17)])), (ad 39, .inl (cs.1, 8, .inl (t.2 39))), (ad 40, .inl (cs.1, 5, .inl (t.2 40))), (ad 41, .inl (cs.1, 5, .inl (t.2 41))), (ad 42, .inr (0, [.ref (ad 1), .ref (ad 43), .ref (ad 44), .ref (ad 45), .int (t.1 18)])), (ad 43, .inl (cs.1, 8, .inl (t.2 43))), (ad 44, .inl (cs.1, 5, .inl (t.2 44))), (ad 45, .inl (cs.1, 5, .inl (t.2 45))), (ad 46, .inr (0, [.ref (ad 1), .ref (ad 47), .ref (ad 48), .ref (ad 49), .int (t.1 19)])), (ad 47, .inl (cs.1, 8, .inl (t.2 47))), (ad 48, .inl (cs.1, 5, .inl (t.2 48))), (ad 49, .inl (cs.1, 5, .inl (t.2 49))), (ad 50, .inr (0, [.ref (ad 1), .ref (ad 51), .ref (ad 52), .ref (ad 53), .int (t.1 20)])), (ad 51, .inl (cs.1, 8, .inl (t.2 51))), (ad 52, .inl (cs.1, 5, .inl (t.2 52))), (ad 53, .inl (cs.1, 5, .inl (t.2 53))), (ad 54, .inr (0, [.ref (ad 1), .ref (ad 55), .ref (ad 56), .ref (ad 57), .int (t.1 21)])), (ad 55, .inl (cs.1, 8, .inl (t.2 55))), (ad 56, .inl (cs.1, 5, .inl (t.2 56))), (ad 57, .inl (cs.1, 5, .inl (t.2 57))), (ad 58, .inr (0, [.ref (ad 1), .ref (ad 59), .ref (ad 60), .ref (ad 61), .int (t.1 22)])), (ad 59, .inl (cs.1, 8, .inl (t.2 59))), (ad 60, .inl (cs.1, 5, .inl (t.2 60))), (ad 61, .inl (cs.1, 5, .inl (t.2 61))), (ad 62, .inr (0, [.ref (ad 1), .ref (ad 63), .ref (ad 64), .ref (ad 65), .int (t.1 23)])), (ad 63, .inl (cs.1, 8, .inl (t.2 63))), (ad 64, .inl (cs.1, 5, .inl (t.2 64))), (ad 65, .inl (cs.1, 5, .inl (t.2 65)))]
def wM (cs : CS3) (ad : Nat → Nat) (t : St) : va_W := [(ad 0, .inr (5, [.int (t.1 0), .int (t.1 1), .ref (ad 1), .ref (ad 2), .ref (ad 3), .int (t.1 2), .int (t.1 3), .ref (ad 4), .ref (ad 5), .ref (ad 6), .ref (ad 7), .ref (ad 8), .int (t.1 4), .int (t.1 5), .int (t.1 6), .ref (ad 9), .ref (ad 10), .ref (ad 11), .ref (ad 12), .ref (ad 13), .int (t.1 7), .int (t.1 8), .ref (ad 14), .int (t.1 9), .int (t.1 10), .int (t.1 11), .ref (ad 15), .int (t.1 12), .ref (ad 16), .ref (ad 17)])), (ad 1, .inl (cs.1, 4, .inl (t.2 1))), (ad 2, .inl (cs.1, 4, .inl (t.2 2))), (ad 3, .inl (cs.1, 240, .inl (t.2 3))), (ad 4, .inl (cs.1, 8, .inl (t.2 4))), (ad 5, .inl (cs.1, 8, .inl (t.2 5))), (ad 6, .inl (cs.1, 5, .inl (t.2 6))), (ad 7, .inl (cs.1, 5, .inl (t.2 7))), (ad 8, .inl (cs.1, 5, .inl (t.2 8))), (ad 9, .inl (cs.1, 8, .inl (t.2 9))), (ad 10, .inl (cs.1, 15, .inl (t.2 10))), (ad 11, .inl (cs.1, 8, .inl (t.2 11))), (ad 12, .inl (cs.1, 5, .inl (t.2 12))), (ad 13, .inl (cs.1, 5, .inl (t.2 13))), (ad 14, .inl (cs.1, 30, .inl (t.2 14))), (ad 15, .inl (cs.1, 1024, .inl (t.2 15))), (ad 16, .inl (cs.1, 8, .inl (t.2 16))), (ad 17, .inl (cs.1, 8, .inl (t.2 17)))]
section ACC
variable {cs : CS3} {ad : Nat → Nat} {t : St} {D : va_G} {A : Nat → Prop}
variable {p : Program} {l : Launch} {e : Env} {R : Room} {s : State} {m : MethodId} {args : Array Value} {below : List Frame} {meth : Method} {c : Code} {H H0 : Heap} {locs : List Loc} {cells slots : Nat} {Q : State → Prop}
variable {cc : ByteArray} {nL pc : Nat} {ls : Array Slot} {rest st0 : List Value} {own : String} {index : Nat}
theorem eX_R (k : Nat) (hk : k < 4) : (wX cs ad t)[14 + 2 * k]? = some (ad (14 + 2 * k), .inr (2, [.int (t.1 (5 + 2 * k)), .int (t.1 (6 + 2 * k)), .ref (ad (15 + 2 * k))])) := by
  rcases (show k = 0 ∨ k = 1 ∨ k = 2 ∨ k = 3 by omega) with rfl | rfl | rfl | rfl <;> rfl
theorem eX_Rc (k : Nat) (hk : k < 4) : (wX cs ad t)[15 + 2 * k]? = some (ad (15 + 2 * k), .inl (cs.1, 60, .inl (t.2 (15 + 2 * k)))) := by
  rcases (show k = 0 ∨ k = 1 ∨ k = 2 ∨ k = 3 by omega) with rfl | rfl | rfl | rfl <;> rfl
theorem eX_C (d : Nat) (hd : d < 11) : (wX cs ad t)[22 + 4 * d]? = some (ad (22 + 4 * d), .inr (0, [.ref (ad 1), .ref (ad (23 + 4 * d)), .ref (ad (24 + 4 * d)), .ref (ad (25 + 4 * d)), .int (t.1 (13 + d))])) := by
  rcases (show d = 0 ∨ d = 1 ∨ d = 2 ∨ d = 3 ∨ d = 4 ∨ d = 5 ∨ d = 6 ∨ d = 7 ∨ d = 8 ∨ d = 9 ∨ d = 10 by omega) with rfl | rfl | rfl | rfl | rfl | rfl | rfl | rfl | rfl | rfl | rfl <;> rfl
theorem eX_Csc (d : Nat) (hd : d < 11) : (wX cs ad t)[23 + 4 * d]? = some (ad (23 + 4 * d), .inl (cs.1, 8, .inl (t.2 (23 + 4 * d)))) := by
  rcases (show d = 0 ∨ d = 1 ∨ d = 2 ∨ d = 3 ∨ d = 4 ∨ d = 5 ∨ d = 6 ∨ d = 7 ∨ d = 8 ∨ d = 9 ∨ d = 10 by omega) with rfl | rfl | rfl | rfl | rfl | rfl | rfl | rfl | rfl | rfl | rfl <;> rfl
theorem eX_Ctr (d : Nat) (hd : d < 11) : (wX cs ad t)[24 + 4 * d]? = some (ad (24 + 4 * d), .inl (cs.1, 5, .inl (t.2 (24 + 4 * d)))) := by
  rcases (show d = 0 ∨ d = 1 ∨ d = 2 ∨ d = 3 ∨ d = 4 ∨ d = 5 ∨ d = 6 ∨ d = 7 ∨ d = 8 ∨ d = 9 ∨ d = 10 by omega) with rfl | rfl | rfl | rfl | rfl | rfl | rfl | rfl | rfl | rfl | rfl <;> rfl
theorem eX_Che (d : Nat) (hd : d < 11) : (wX cs ad t)[25 + 4 * d]? = some (ad (25 + 4 * d), .inl (cs.1, 5, .inl (t.2 (25 + 4 * d)))) := by
  rcases (show d = 0 ∨ d = 1 ∨ d = 2 ∨ d = 3 ∨ d = 4 ∨ d = 5 ∨ d = 6 ∨ d = 7 ∨ d = 8 ∨ d = 9 ∨ d = 10 by omega) with rfl | rfl | rfl | rfl | rfl | rfl | rfl | rfl | rfl | rfl | rfl <;> rfl
theorem sX_lane (k : Nat) (hk : k < 4) (v : Int32) : (wX cs ad t).set (14 + 2 * k) (ad (14 + 2 * k), .inr (2, [.int v, .int (t.1 (6 + 2 * k)), .ref (ad (15 + 2 * k))])) = wX cs ad (va_up t.1 (5 + 2 * k) v, t.2) := by
  rcases (show k = 0 ∨ k = 1 ∨ k = 2 ∨ k = 3 by omega) with rfl | rfl | rfl | rfl <;> rfl
theorem sX_length (k : Nat) (hk : k < 4) (v : Int32) : (wX cs ad t).set (14 + 2 * k) (ad (14 + 2 * k), .inr (2, [.int (t.1 (5 + 2 * k)), .int v, .ref (ad (15 + 2 * k))])) = wX cs ad (va_up t.1 (6 + 2 * k) v, t.2) := by
  rcases (show k = 0 ∨ k = 1 ∨ k = 2 ∨ k = 3 by omega) with rfl | rfl | rfl | rfl <;> rfl
theorem sX_Rc (k : Nat) (hk : k < 4) (f : Nat → Int32) : (wX cs ad t).set (15 + 2 * k) (ad (15 + 2 * k), .inl (cs.1, 60, .inl f)) = wX cs ad (t.1, va_up t.2 (15 + 2 * k) f) := by
  rcases (show k = 0 ∨ k = 1 ∨ k = 2 ∨ k = 3 by omega) with rfl | rfl | rfl | rfl <;> rfl
theorem sX_up (d : Nat) (hd : d < 11) (v : Int32) : (wX cs ad t).set (22 + 4 * d) (ad (22 + 4 * d), .inr (0, [.ref (ad 1), .ref (ad (23 + 4 * d)), .ref (ad (24 + 4 * d)), .ref (ad (25 + 4 * d)), .int v])) = wX cs ad (va_up t.1 (13 + d) v, t.2) := by
  rcases (show d = 0 ∨ d = 1 ∨ d = 2 ∨ d = 3 ∨ d = 4 ∨ d = 5 ∨ d = 6 ∨ d = 7 ∨ d = 8 ∨ d = 9 ∨ d = 10 by omega) with rfl | rfl | rfl | rfl | rfl | rfl | rfl | rfl | rfl | rfl | rfl <;> rfl
theorem sX_Csc (d : Nat) (hd : d < 11) (f : Nat → Int32) : (wX cs ad t).set (23 + 4 * d) (ad (23 + 4 * d), .inl (cs.1, 8, .inl f)) = wX cs ad (t.1, va_up t.2 (23 + 4 * d) f) := by
  rcases (show d = 0 ∨ d = 1 ∨ d = 2 ∨ d = 3 ∨ d = 4 ∨ d = 5 ∨ d = 6 ∨ d = 7 ∨ d = 8 ∨ d = 9 ∨ d = 10 by omega) with rfl | rfl | rfl | rfl | rfl | rfl | rfl | rfl | rfl | rfl | rfl <;> rfl
theorem sX_Ctr (d : Nat) (hd : d < 11) (f : Nat → Int32) : (wX cs ad t).set (24 + 4 * d) (ad (24 + 4 * d), .inl (cs.1, 5, .inl f)) = wX cs ad (t.1, va_up t.2 (24 + 4 * d) f) := by
  rcases (show d = 0 ∨ d = 1 ∨ d = 2 ∨ d = 3 ∨ d = 4 ∨ d = 5 ∨ d = 6 ∨ d = 7 ∨ d = 8 ∨ d = 9 ∨ d = 10 by omega) with rfl | rfl | rfl | rfl | rfl | rfl | rfl | rfl | rfl | rfl | rfl <;> rfl
theorem sX_Che (d : Nat) (hd : d < 11) (f : Nat → Int32) : (wX cs ad t).set (25 + 4 * d) (ad (25 + 4 * d), .inl (cs.1, 5, .inl f)) = wX cs ad (t.1, va_up t.2 (25 + 4 * d) f) := by
  rcases (show d = 0 ∨ d = 1 ∨ d = 2 ∨ d = 3 ∨ d = 4 ∨ d = 5 ∨ d = 6 ∨ d = 7 ∨ d = 8 ∨ d = 9 ∨ d = 10 by omega) with rfl | rfl | rfl | rfl | rfl | rfl | rfl | rfl | rfl | rfl | rfl <;> rfl
theorem gX_G_slope (hC : CallFix p m c cc nL s args lw_tg own) (hW : HX (wX cs ad) (tyX cs) D A H0 s t H locs) (hlink : Cond.fieldLink own index "GlassHill" "slope" "LGlassHill$Slope;" ∈ lw_tg) (hdg : decode cc pc = .ok (.getfield index, 3)) (kk : W p l e R s m args below meth c H locs cells slots Q (F0 m (pc + 3) ls (.ref (ad 1) :: rest))) : W p l e R s m args below meth c H locs cells slots Q (F0 m pc ls (.ref (ad 0) :: rest)) :=
  r_get (q0 := 0) (k := 0) hC hW i_X5 rfl rfl (by decide) rfl hlink rfl hdg kk
theorem gX_G_readings (hC : CallFix p m c cc nL s args lw_tg own) (hW : HX (wX cs ad) (tyX cs) D A H0 s t H locs) (hlink : Cond.fieldLink own index "GlassHill" "readings" "LGlassHill$Readings;" ∈ lw_tg) (hdg : decode cc pc = .ok (.getfield index, 3)) (kk : W p l e R s m args below meth c H locs cells slots Q (F0 m (pc + 3) ls (.ref (ad 7) :: rest))) : W p l e R s m args below meth c H locs cells slots Q (F0 m pc ls (.ref (ad 0) :: rest)) :=
  r_get (q0 := 0) (k := 1) hC hW i_X5 rfl rfl (by decide) rfl hlink rfl hdg kk
theorem gX_G_sheets (hC : CallFix p m c cc nL s args lw_tg own) (hW : HX (wX cs ad) (tyX cs) D A H0 s t H locs) (hlink : Cond.fieldLink own index "GlassHill" "sheets" "[LGlassHill$Row;" ∈ lw_tg) (hdg : decode cc pc = .ok (.getfield index, 3)) (kk : W p l e R s m args below meth c H locs cells slots Q (F0 m (pc + 3) ls (.ref (ad 10) :: rest))) : W p l e R s m args below meth c H locs cells slots Q (F0 m pc ls (.ref (ad 0) :: rest)) :=
  r_get (q0 := 0) (k := 2) hC hW i_X5 rfl rfl (by decide) rfl hlink rfl hdg kk
theorem gX_G_climbs (hC : CallFix p m c cc nL s args lw_tg own) (hW : HX (wX cs ad) (tyX cs) D A H0 s t H locs) (hlink : Cond.fieldLink own index "GlassHill" "climbs" "[LGlassHill$Climb;" ∈ lw_tg) (hdg : decode cc pc = .ok (.getfield index, 3)) (kk : W p l e R s m args below meth c H locs cells slots Q (F0 m (pc + 3) ls (.ref (ad 11) :: rest))) : W p l e R s m args below meth c H locs cells slots Q (F0 m pc ls (.ref (ad 0) :: rest)) :=
  r_get (q0 := 0) (k := 3) hC hW i_X5 rfl rfl (by decide) rfl hlink rfl hdg kk
theorem gX_G_steps (hC : CallFix p m c cc nL s args lw_tg own) (hW : HX (wX cs ad) (tyX cs) D A H0 s t H locs) (hlink : Cond.fieldLink own index "GlassHill" "steps" "[I" ∈ lw_tg) (hdg : decode cc pc = .ok (.getfield index, 3)) (kk : W p l e R s m args below meth c H locs cells slots Q (F0 m (pc + 3) ls (.ref (ad 12) :: rest))) : W p l e R s m args below meth c H locs cells slots Q (F0 m pc ls (.ref (ad 0) :: rest)) :=
  r_get (q0 := 0) (k := 4) hC hW i_X5 rfl rfl (by decide) rfl hlink rfl hdg kk
theorem gX_G_row (hC : CallFix p m c cc nL s args lw_tg own) (hW : HX (wX cs ad) (tyX cs) D A H0 s t H locs) (hlink : Cond.fieldLink own index "GlassHill" "row" "[I" ∈ lw_tg) (hdg : decode cc pc = .ok (.getfield index, 3)) (kk : W p l e R s m args below meth c H locs cells slots Q (F0 m (pc + 3) ls (.ref (ad 13) :: rest))) : W p l e R s m args below meth c H locs cells slots Q (F0 m pc ls (.ref (ad 0) :: rest)) :=
  r_get (q0 := 0) (k := 5) hC hW i_X5 rfl rfl (by decide) rfl hlink rfl hdg kk
theorem gX_G_trace (hC : CallFix p m c cc nL s args lw_tg own) (hW : HX (wX cs ad) (tyX cs) D A H0 s t H locs) (hlink : Cond.fieldLink own index "GlassHill" "trace" "I" ∈ lw_tg) (hdg : decode cc pc = .ok (.getfield index, 3)) (kk : W p l e R s m args below meth c H locs cells slots Q (F0 m (pc + 3) ls (.int (t.1 0) :: rest))) : W p l e R s m args below meth c H locs cells slots Q (F0 m pc ls (.ref (ad 0) :: rest)) :=
  r_get (q0 := 0) (k := 6) hC hW i_X5 rfl rfl (by decide) rfl hlink rfl hdg kk
theorem pX_G_trace {v : Int32} (hC : CallFix p m c cc nL s args lw_tg own) (hW : HX (wX cs ad) (tyX cs) D A H0 s t H locs) (hlink : Cond.fieldLink own index "GlassHill" "trace" "I" ∈ lw_tg) (hdg : decode cc pc = .ok (.putfield index, 3)) (kk : ∀ (H1 : Heap) (locs1 : List Loc), HX (wX cs ad) (tyX cs) D A H0 s (va_up t.1 0 v, t.2) H1 locs1 → W p l e R s m args below meth c H1 locs1 cells slots Q (F0 m (pc + 3) ls rest)) : W p l e R s m args below meth c H locs cells slots Q (F0 m pc ls (.int v :: .ref (ad 0) :: rest)) :=
  r_put (q0 := 0) (k := 6) (ty := .int) (st' := (va_up t.1 0 v, t.2)) hC hW i_X5 tyX5_ok nmX5 rfl rfl (by decide) rfl hlink rfl (by decide +kernel) rfl rfl (Nat.le_of_ble_eq_true rfl) rfl hdg kk
theorem gX_G_fault (hC : CallFix p m c cc nL s args lw_tg own) (hW : HX (wX cs ad) (tyX cs) D A H0 s t H locs) (hlink : Cond.fieldLink own index "GlassHill" "fault" "I" ∈ lw_tg) (hdg : decode cc pc = .ok (.getfield index, 3)) (kk : W p l e R s m args below meth c H locs cells slots Q (F0 m (pc + 3) ls (.int (t.1 1) :: rest))) : W p l e R s m args below meth c H locs cells slots Q (F0 m pc ls (.ref (ad 0) :: rest)) :=
  r_get (q0 := 0) (k := 7) hC hW i_X5 rfl rfl (by decide) rfl hlink rfl hdg kk
theorem pX_G_fault {v : Int32} (hC : CallFix p m c cc nL s args lw_tg own) (hW : HX (wX cs ad) (tyX cs) D A H0 s t H locs) (hlink : Cond.fieldLink own index "GlassHill" "fault" "I" ∈ lw_tg) (hdg : decode cc pc = .ok (.putfield index, 3)) (kk : ∀ (H1 : Heap) (locs1 : List Loc), HX (wX cs ad) (tyX cs) D A H0 s (va_up t.1 1 v, t.2) H1 locs1 → W p l e R s m args below meth c H1 locs1 cells slots Q (F0 m (pc + 3) ls rest)) : W p l e R s m args below meth c H locs cells slots Q (F0 m pc ls (.int v :: .ref (ad 0) :: rest)) :=
  r_put (q0 := 0) (k := 7) (ty := .int) (st' := (va_up t.1 1 v, t.2)) hC hW i_X5 tyX5_ok nmX5 rfl rfl (by decide) rfl hlink rfl (by decide +kernel) rfl rfl (Nat.le_of_ble_eq_true rfl) rfl hdg kk
theorem gX_S_paces (hC : CallFix p m c cc nL s args lw_tg own) (hW : HX (wX cs ad) (tyX cs) D A H0 s t H locs) (hlink : Cond.fieldLink own index "GlassHill$Slope" "paces" "I" ∈ lw_tg) (hdg : decode cc pc = .ok (.getfield index, 3)) (kk : W p l e R s m args below meth c H locs cells slots Q (F0 m (pc + 3) ls (.int (t.1 2) :: rest))) : W p l e R s m args below meth c H locs cells slots Q (F0 m pc ls (.ref (ad 1) :: rest)) :=
  r_get (q0 := 1) (k := 0) hC hW i_X3 rfl rfl (by decide) rfl hlink rfl hdg kk
theorem pX_S_paces {v : Int32} (hC : CallFix p m c cc nL s args lw_tg own) (hW : HX (wX cs ad) (tyX cs) D A H0 s t H locs) (hlink : Cond.fieldLink own index "GlassHill$Slope" "paces" "I" ∈ lw_tg) (hdg : decode cc pc = .ok (.putfield index, 3)) (kk : ∀ (H1 : Heap) (locs1 : List Loc), HX (wX cs ad) (tyX cs) D A H0 s (va_up t.1 2 v, t.2) H1 locs1 → W p l e R s m args below meth c H1 locs1 cells slots Q (F0 m (pc + 3) ls rest)) : W p l e R s m args below meth c H locs cells slots Q (F0 m pc ls (.int v :: .ref (ad 1) :: rest)) :=
  r_put (q0 := 1) (k := 0) (ty := .int) (st' := (va_up t.1 2 v, t.2)) hC hW i_X3 tyX3_ok nmX3 rfl rfl (by decide) rfl hlink rfl (by decide +kernel) rfl rfl (Nat.le_of_ble_eq_true rfl) rfl hdg kk
theorem gX_S_riders (hC : CallFix p m c cc nL s args lw_tg own) (hW : HX (wX cs ad) (tyX cs) D A H0 s t H locs) (hlink : Cond.fieldLink own index "GlassHill$Slope" "riders" "I" ∈ lw_tg) (hdg : decode cc pc = .ok (.getfield index, 3)) (kk : W p l e R s m args below meth c H locs cells slots Q (F0 m (pc + 3) ls (.int (t.1 3) :: rest))) : W p l e R s m args below meth c H locs cells slots Q (F0 m pc ls (.ref (ad 1) :: rest)) :=
  r_get (q0 := 1) (k := 1) hC hW i_X3 rfl rfl (by decide) rfl hlink rfl hdg kk
theorem pX_S_riders {v : Int32} (hC : CallFix p m c cc nL s args lw_tg own) (hW : HX (wX cs ad) (tyX cs) D A H0 s t H locs) (hlink : Cond.fieldLink own index "GlassHill$Slope" "riders" "I" ∈ lw_tg) (hdg : decode cc pc = .ok (.putfield index, 3)) (kk : ∀ (H1 : Heap) (locs1 : List Loc), HX (wX cs ad) (tyX cs) D A H0 s (va_up t.1 3 v, t.2) H1 locs1 → W p l e R s m args below meth c H1 locs1 cells slots Q (F0 m (pc + 3) ls rest)) : W p l e R s m args below meth c H locs cells slots Q (F0 m pc ls (.int v :: .ref (ad 1) :: rest)) :=
  r_put (q0 := 1) (k := 1) (ty := .int) (st' := (va_up t.1 3 v, t.2)) hC hW i_X3 tyX3_ok nmX3 rfl rfl (by decide) rfl hlink rfl (by decide +kernel) rfl rfl (Nat.le_of_ble_eq_true rfl) rfl hdg kk
theorem gX_S_slick (hC : CallFix p m c cc nL s args lw_tg own) (hW : HX (wX cs ad) (tyX cs) D A H0 s t H locs) (hlink : Cond.fieldLink own index "GlassHill$Slope" "slick" "[I" ∈ lw_tg) (hdg : decode cc pc = .ok (.getfield index, 3)) (kk : W p l e R s m args below meth c H locs cells slots Q (F0 m (pc + 3) ls (.ref (ad 2) :: rest))) : W p l e R s m args below meth c H locs cells slots Q (F0 m pc ls (.ref (ad 1) :: rest)) :=
  r_get (q0 := 1) (k := 2) hC hW i_X3 rfl rfl (by decide) rfl hlink rfl hdg kk
theorem gX_S_laid (hC : CallFix p m c cc nL s args lw_tg own) (hW : HX (wX cs ad) (tyX cs) D A H0 s t H locs) (hlink : Cond.fieldLink own index "GlassHill$Slope" "laid" "[I" ∈ lw_tg) (hdg : decode cc pc = .ok (.getfield index, 3)) (kk : W p l e R s m args below meth c H locs cells slots Q (F0 m (pc + 3) ls (.ref (ad 3) :: rest))) : W p l e R s m args below meth c H locs cells slots Q (F0 m pc ls (.ref (ad 1) :: rest)) :=
  r_get (q0 := 1) (k := 3) hC hW i_X3 rfl rfl (by decide) rfl hlink rfl hdg kk
theorem gX_S_kind (hC : CallFix p m c cc nL s args lw_tg own) (hW : HX (wX cs ad) (tyX cs) D A H0 s t H locs) (hlink : Cond.fieldLink own index "GlassHill$Slope" "kind" "[I" ∈ lw_tg) (hdg : decode cc pc = .ok (.getfield index, 3)) (kk : W p l e R s m args below meth c H locs cells slots Q (F0 m (pc + 3) ls (.ref (ad 4) :: rest))) : W p l e R s m args below meth c H locs cells slots Q (F0 m pc ls (.ref (ad 1) :: rest)) :=
  r_get (q0 := 1) (k := 4) hC hW i_X3 rfl rfl (by decide) rfl hlink rfl hdg kk
theorem gX_S_speed (hC : CallFix p m c cc nL s args lw_tg own) (hW : HX (wX cs ad) (tyX cs) D A H0 s t H locs) (hlink : Cond.fieldLink own index "GlassHill$Slope" "speed" "[I" ∈ lw_tg) (hdg : decode cc pc = .ok (.getfield index, 3)) (kk : W p l e R s m args below meth c H locs cells slots Q (F0 m (pc + 3) ls (.ref (ad 5) :: rest))) : W p l e R s m args below meth c H locs cells slots Q (F0 m pc ls (.ref (ad 1) :: rest)) :=
  r_get (q0 := 1) (k := 5) hC hW i_X3 rfl rfl (by decide) rfl hlink rfl hdg kk
theorem gX_S_nails (hC : CallFix p m c cc nL s args lw_tg own) (hW : HX (wX cs ad) (tyX cs) D A H0 s t H locs) (hlink : Cond.fieldLink own index "GlassHill$Slope" "nails" "[I" ∈ lw_tg) (hdg : decode cc pc = .ok (.getfield index, 3)) (kk : W p l e R s m args below meth c H locs cells slots Q (F0 m (pc + 3) ls (.ref (ad 6) :: rest))) : W p l e R s m args below meth c H locs cells slots Q (F0 m pc ls (.ref (ad 1) :: rest)) :=
  r_get (q0 := 1) (k := 6) hC hW i_X3 rfl rfl (by decide) rfl hlink rfl hdg kk
theorem gX_D_count (hC : CallFix p m c cc nL s args lw_tg own) (hW : HX (wX cs ad) (tyX cs) D A H0 s t H locs) (hlink : Cond.fieldLink own index "GlassHill$Readings" "count" "I" ∈ lw_tg) (hdg : decode cc pc = .ok (.getfield index, 3)) (kk : W p l e R s m args below meth c H locs cells slots Q (F0 m (pc + 3) ls (.int (t.1 4) :: rest))) : W p l e R s m args below meth c H locs cells slots Q (F0 m pc ls (.ref (ad 7) :: rest)) :=
  r_get (q0 := 7) (k := 0) hC hW i_X1 rfl rfl (by decide) rfl hlink rfl hdg kk
theorem pX_D_count {v : Int32} (hC : CallFix p m c cc nL s args lw_tg own) (hW : HX (wX cs ad) (tyX cs) D A H0 s t H locs) (hlink : Cond.fieldLink own index "GlassHill$Readings" "count" "I" ∈ lw_tg) (hdg : decode cc pc = .ok (.putfield index, 3)) (kk : ∀ (H1 : Heap) (locs1 : List Loc), HX (wX cs ad) (tyX cs) D A H0 s (va_up t.1 4 v, t.2) H1 locs1 → W p l e R s m args below meth c H1 locs1 cells slots Q (F0 m (pc + 3) ls rest)) : W p l e R s m args below meth c H locs cells slots Q (F0 m pc ls (.int v :: .ref (ad 7) :: rest)) :=
  r_put (q0 := 7) (k := 0) (ty := .int) (st' := (va_up t.1 4 v, t.2)) hC hW i_X1 tyX1_ok nmX1 rfl rfl (by decide) rfl hlink rfl (by decide +kernel) rfl rfl (Nat.le_of_ble_eq_true rfl) rfl hdg kk
theorem gX_D_riders (hC : CallFix p m c cc nL s args lw_tg own) (hW : HX (wX cs ad) (tyX cs) D A H0 s t H locs) (hlink : Cond.fieldLink own index "GlassHill$Readings" "riders" "[I" ∈ lw_tg) (hdg : decode cc pc = .ok (.getfield index, 3)) (kk : W p l e R s m args below meth c H locs cells slots Q (F0 m (pc + 3) ls (.ref (ad 8) :: rest))) : W p l e R s m args below meth c H locs cells slots Q (F0 m pc ls (.ref (ad 7) :: rest)) :=
  r_get (q0 := 7) (k := 1) hC hW i_X1 rfl rfl (by decide) rfl hlink rfl hdg kk
theorem gX_D_heights (hC : CallFix p m c cc nL s args lw_tg own) (hW : HX (wX cs ad) (tyX cs) D A H0 s t H locs) (hlink : Cond.fieldLink own index "GlassHill$Readings" "heights" "[I" ∈ lw_tg) (hdg : decode cc pc = .ok (.getfield index, 3)) (kk : W p l e R s m args below meth c H locs cells slots Q (F0 m (pc + 3) ls (.ref (ad 9) :: rest))) : W p l e R s m args below meth c H locs cells slots Q (F0 m pc ls (.ref (ad 7) :: rest)) :=
  r_get (q0 := 7) (k := 2) hC hW i_X1 rfl rfl (by decide) rfl hlink rfl hdg kk
theorem gX_R_lane (k : Nat) (hk : k < 4) (hC : CallFix p m c cc nL s args lw_tg own) (hW : HX (wX cs ad) (tyX cs) D A H0 s t H locs) (hlink : Cond.fieldLink own index "GlassHill$Row" "lane" "I" ∈ lw_tg) (hdg : decode cc pc = .ok (.getfield index, 3)) (kk : W p l e R s m args below meth c H locs cells slots Q (F0 m (pc + 3) ls (.int (t.1 (5 + 2 * k)) :: rest))) : W p l e R s m args below meth c H locs cells slots Q (F0 m pc ls (.ref (ad (14 + 2 * k)) :: rest)) :=
  r_get (q0 := 14 + 2 * k) (k := 0) hC hW i_X2 (eX_R k hk) rfl (by decide) rfl hlink rfl hdg kk
theorem pX_R_lane (k : Nat) (hk : k < 4) {v : Int32} (hC : CallFix p m c cc nL s args lw_tg own) (hW : HX (wX cs ad) (tyX cs) D A H0 s t H locs) (hlink : Cond.fieldLink own index "GlassHill$Row" "lane" "I" ∈ lw_tg) (hdg : decode cc pc = .ok (.putfield index, 3)) (kk : ∀ (H1 : Heap) (locs1 : List Loc), HX (wX cs ad) (tyX cs) D A H0 s (va_up t.1 (5 + 2 * k) v, t.2) H1 locs1 → W p l e R s m args below meth c H1 locs1 cells slots Q (F0 m (pc + 3) ls rest)) : W p l e R s m args below meth c H locs cells slots Q (F0 m pc ls (.int v :: .ref (ad (14 + 2 * k)) :: rest)) :=
  r_put (q0 := 14 + 2 * k) (k := 0) (ty := .int) (st' := (va_up t.1 (5 + 2 * k) v, t.2)) hC hW i_X2 tyX2_ok nmX2 (eX_R k hk) rfl (by decide) rfl hlink rfl (by decide +kernel) rfl rfl (Nat.le_of_ble_eq_true rfl) (sX_lane k hk v) hdg kk
theorem gX_R_length (k : Nat) (hk : k < 4) (hC : CallFix p m c cc nL s args lw_tg own) (hW : HX (wX cs ad) (tyX cs) D A H0 s t H locs) (hlink : Cond.fieldLink own index "GlassHill$Row" "length" "I" ∈ lw_tg) (hdg : decode cc pc = .ok (.getfield index, 3)) (kk : W p l e R s m args below meth c H locs cells slots Q (F0 m (pc + 3) ls (.int (t.1 (6 + 2 * k)) :: rest))) : W p l e R s m args below meth c H locs cells slots Q (F0 m pc ls (.ref (ad (14 + 2 * k)) :: rest)) :=
  r_get (q0 := 14 + 2 * k) (k := 1) hC hW i_X2 (eX_R k hk) rfl (by decide) rfl hlink rfl hdg kk
theorem pX_R_length (k : Nat) (hk : k < 4) {v : Int32} (hC : CallFix p m c cc nL s args lw_tg own) (hW : HX (wX cs ad) (tyX cs) D A H0 s t H locs) (hlink : Cond.fieldLink own index "GlassHill$Row" "length" "I" ∈ lw_tg) (hdg : decode cc pc = .ok (.putfield index, 3)) (kk : ∀ (H1 : Heap) (locs1 : List Loc), HX (wX cs ad) (tyX cs) D A H0 s (va_up t.1 (6 + 2 * k) v, t.2) H1 locs1 → W p l e R s m args below meth c H1 locs1 cells slots Q (F0 m (pc + 3) ls rest)) : W p l e R s m args below meth c H locs cells slots Q (F0 m pc ls (.int v :: .ref (ad (14 + 2 * k)) :: rest)) :=
  r_put (q0 := 14 + 2 * k) (k := 1) (ty := .int) (st' := (va_up t.1 (6 + 2 * k) v, t.2)) hC hW i_X2 tyX2_ok nmX2 (eX_R k hk) rfl (by decide) rfl hlink rfl (by decide +kernel) rfl rfl (Nat.le_of_ble_eq_true rfl) (sX_length k hk v) hdg kk
theorem gX_R_cells (k : Nat) (hk : k < 4) (hC : CallFix p m c cc nL s args lw_tg own) (hW : HX (wX cs ad) (tyX cs) D A H0 s t H locs) (hlink : Cond.fieldLink own index "GlassHill$Row" "cells" "[I" ∈ lw_tg) (hdg : decode cc pc = .ok (.getfield index, 3)) (kk : W p l e R s m args below meth c H locs cells slots Q (F0 m (pc + 3) ls (.ref (ad (15 + 2 * k)) :: rest))) : W p l e R s m args below meth c H locs cells slots Q (F0 m pc ls (.ref (ad (14 + 2 * k)) :: rest)) :=
  r_get (q0 := 14 + 2 * k) (k := 2) hC hW i_X2 (eX_R k hk) rfl (by decide) rfl hlink rfl hdg kk
theorem gX_C_slope (d : Nat) (hd : d < 11) (hC : CallFix p m c cc nL s args lw_tg own) (hW : HX (wX cs ad) (tyX cs) D A H0 s t H locs) (hlink : Cond.fieldLink own index "GlassHill$Climb" "slope" "LGlassHill$Slope;" ∈ lw_tg) (hdg : decode cc pc = .ok (.getfield index, 3)) (kk : W p l e R s m args below meth c H locs cells slots Q (F0 m (pc + 3) ls (.ref (ad 1) :: rest))) : W p l e R s m args below meth c H locs cells slots Q (F0 m pc ls (.ref (ad (22 + 4 * d)) :: rest)) :=
  r_get (q0 := 22 + 4 * d) (k := 0) hC hW i_X0 (eX_C d hd) rfl (by decide) rfl hlink rfl hdg kk
theorem gX_C_scratches (d : Nat) (hd : d < 11) (hC : CallFix p m c cc nL s args lw_tg own) (hW : HX (wX cs ad) (tyX cs) D A H0 s t H locs) (hlink : Cond.fieldLink own index "GlassHill$Climb" "scratches" "[I" ∈ lw_tg) (hdg : decode cc pc = .ok (.getfield index, 3)) (kk : W p l e R s m args below meth c H locs cells slots Q (F0 m (pc + 3) ls (.ref (ad (23 + 4 * d)) :: rest))) : W p l e R s m args below meth c H locs cells slots Q (F0 m pc ls (.ref (ad (22 + 4 * d)) :: rest)) :=
  r_get (q0 := 22 + 4 * d) (k := 1) hC hW i_X0 (eX_C d hd) rfl (by decide) rfl hlink rfl hdg kk
theorem gX_C_tries (d : Nat) (hd : d < 11) (hC : CallFix p m c cc nL s args lw_tg own) (hW : HX (wX cs ad) (tyX cs) D A H0 s t H locs) (hlink : Cond.fieldLink own index "GlassHill$Climb" "tries" "[I" ∈ lw_tg) (hdg : decode cc pc = .ok (.getfield index, 3)) (kk : W p l e R s m args below meth c H locs cells slots Q (F0 m (pc + 3) ls (.ref (ad (24 + 4 * d)) :: rest))) : W p l e R s m args below meth c H locs cells slots Q (F0 m pc ls (.ref (ad (22 + 4 * d)) :: rest)) :=
  r_get (q0 := 22 + 4 * d) (k := 2) hC hW i_X0 (eX_C d hd) rfl (by decide) rfl hlink rfl hdg kk
theorem gX_C_heights (d : Nat) (hd : d < 11) (hC : CallFix p m c cc nL s args lw_tg own) (hW : HX (wX cs ad) (tyX cs) D A H0 s t H locs) (hlink : Cond.fieldLink own index "GlassHill$Climb" "heights" "[I" ∈ lw_tg) (hdg : decode cc pc = .ok (.getfield index, 3)) (kk : W p l e R s m args below meth c H locs cells slots Q (F0 m (pc + 3) ls (.ref (ad (25 + 4 * d)) :: rest))) : W p l e R s m args below meth c H locs cells slots Q (F0 m pc ls (.ref (ad (22 + 4 * d)) :: rest)) :=
  r_get (q0 := 22 + 4 * d) (k := 3) hC hW i_X0 (eX_C d hd) rfl (by decide) rfl hlink rfl hdg kk
theorem gX_C_up (d : Nat) (hd : d < 11) (hC : CallFix p m c cc nL s args lw_tg own) (hW : HX (wX cs ad) (tyX cs) D A H0 s t H locs) (hlink : Cond.fieldLink own index "GlassHill$Climb" "up" "I" ∈ lw_tg) (hdg : decode cc pc = .ok (.getfield index, 3)) (kk : W p l e R s m args below meth c H locs cells slots Q (F0 m (pc + 3) ls (.int (t.1 (13 + d)) :: rest))) : W p l e R s m args below meth c H locs cells slots Q (F0 m pc ls (.ref (ad (22 + 4 * d)) :: rest)) :=
  r_get (q0 := 22 + 4 * d) (k := 4) hC hW i_X0 (eX_C d hd) rfl (by decide) rfl hlink rfl hdg kk
theorem pX_C_up (d : Nat) (hd : d < 11) {v : Int32} (hC : CallFix p m c cc nL s args lw_tg own) (hW : HX (wX cs ad) (tyX cs) D A H0 s t H locs) (hlink : Cond.fieldLink own index "GlassHill$Climb" "up" "I" ∈ lw_tg) (hdg : decode cc pc = .ok (.putfield index, 3)) (kk : ∀ (H1 : Heap) (locs1 : List Loc), HX (wX cs ad) (tyX cs) D A H0 s (va_up t.1 (13 + d) v, t.2) H1 locs1 → W p l e R s m args below meth c H1 locs1 cells slots Q (F0 m (pc + 3) ls rest)) : W p l e R s m args below meth c H locs cells slots Q (F0 m pc ls (.int v :: .ref (ad (22 + 4 * d)) :: rest)) :=
  r_put (q0 := 22 + 4 * d) (k := 4) (ty := .int) (st' := (va_up t.1 (13 + d) v, t.2)) hC hW i_X0 tyX0_ok nmX0 (eX_C d hd) rfl (by decide) rfl hlink rfl (by decide +kernel) rfl rfl (Nat.le_of_ble_eq_true rfl) (sX_up d hd v) hdg kk
theorem gM_fault (hC : CallFix p m c cc nL s args lw_tg own) (hW : HX (wM cs ad) (tyX cs) D A H0 s t H locs) (hlink : Cond.fieldLink own index "GlassHillModel" "fault" "I" ∈ lw_tg) (hdg : decode cc pc = .ok (.getfield index, 3)) (kk : W p l e R s m args below meth c H locs cells slots Q (F0 m (pc + 3) ls (.int (t.1 0) :: rest))) : W p l e R s m args below meth c H locs cells slots Q (F0 m pc ls (.ref (ad 0) :: rest)) :=
  r_get (q0 := 0) (k := 0) hC hW i_X6 rfl rfl (by decide) rfl hlink rfl hdg kk
theorem pM_fault {v : Int32} (hC : CallFix p m c cc nL s args lw_tg own) (hW : HX (wM cs ad) (tyX cs) D A H0 s t H locs) (hlink : Cond.fieldLink own index "GlassHillModel" "fault" "I" ∈ lw_tg) (hdg : decode cc pc = .ok (.putfield index, 3)) (kk : ∀ (H1 : Heap) (locs1 : List Loc), HX (wM cs ad) (tyX cs) D A H0 s (va_up t.1 0 v, t.2) H1 locs1 → W p l e R s m args below meth c H1 locs1 cells slots Q (F0 m (pc + 3) ls rest)) : W p l e R s m args below meth c H locs cells slots Q (F0 m pc ls (.int v :: .ref (ad 0) :: rest)) :=
  r_put (q0 := 0) (k := 0) (ty := .int) (st' := (va_up t.1 0 v, t.2)) hC hW i_X6 tyX6_ok nmX6 rfl rfl (by decide) rfl hlink rfl (by decide +kernel) rfl rfl (Nat.le_of_ble_eq_true rfl) rfl hdg kk
theorem gM_trace (hC : CallFix p m c cc nL s args lw_tg own) (hW : HX (wM cs ad) (tyX cs) D A H0 s t H locs) (hlink : Cond.fieldLink own index "GlassHillModel" "trace" "I" ∈ lw_tg) (hdg : decode cc pc = .ok (.getfield index, 3)) (kk : W p l e R s m args below meth c H locs cells slots Q (F0 m (pc + 3) ls (.int (t.1 1) :: rest))) : W p l e R s m args below meth c H locs cells slots Q (F0 m pc ls (.ref (ad 0) :: rest)) :=
  r_get (q0 := 0) (k := 1) hC hW i_X6 rfl rfl (by decide) rfl hlink rfl hdg kk
theorem pM_trace {v : Int32} (hC : CallFix p m c cc nL s args lw_tg own) (hW : HX (wM cs ad) (tyX cs) D A H0 s t H locs) (hlink : Cond.fieldLink own index "GlassHillModel" "trace" "I" ∈ lw_tg) (hdg : decode cc pc = .ok (.putfield index, 3)) (kk : ∀ (H1 : Heap) (locs1 : List Loc), HX (wM cs ad) (tyX cs) D A H0 s (va_up t.1 1 v, t.2) H1 locs1 → W p l e R s m args below meth c H1 locs1 cells slots Q (F0 m (pc + 3) ls rest)) : W p l e R s m args below meth c H locs cells slots Q (F0 m pc ls (.int v :: .ref (ad 0) :: rest)) :=
  r_put (q0 := 0) (k := 1) (ty := .int) (st' := (va_up t.1 1 v, t.2)) hC hW i_X6 tyX6_ok nmX6 rfl rfl (by decide) rfl hlink rfl (by decide +kernel) rfl rfl (Nat.le_of_ble_eq_true rfl) rfl hdg kk
theorem gM_sorts (hC : CallFix p m c cc nL s args lw_tg own) (hW : HX (wM cs ad) (tyX cs) D A H0 s t H locs) (hlink : Cond.fieldLink own index "GlassHillModel" "sorts" "[I" ∈ lw_tg) (hdg : decode cc pc = .ok (.getfield index, 3)) (kk : W p l e R s m args below meth c H locs cells slots Q (F0 m (pc + 3) ls (.ref (ad 1) :: rest))) : W p l e R s m args below meth c H locs cells slots Q (F0 m pc ls (.ref (ad 0) :: rest)) :=
  r_get (q0 := 0) (k := 2) hC hW i_X6 rfl rfl (by decide) rfl hlink rfl hdg kk
theorem gM_sheetLong (hC : CallFix p m c cc nL s args lw_tg own) (hW : HX (wM cs ad) (tyX cs) D A H0 s t H locs) (hlink : Cond.fieldLink own index "GlassHillModel" "sheetLong" "[I" ∈ lw_tg) (hdg : decode cc pc = .ok (.getfield index, 3)) (kk : W p l e R s m args below meth c H locs cells slots Q (F0 m (pc + 3) ls (.ref (ad 2) :: rest))) : W p l e R s m args below meth c H locs cells slots Q (F0 m pc ls (.ref (ad 0) :: rest)) :=
  r_get (q0 := 0) (k := 3) hC hW i_X6 rfl rfl (by decide) rfl hlink rfl hdg kk
theorem gM_cells (hC : CallFix p m c cc nL s args lw_tg own) (hW : HX (wM cs ad) (tyX cs) D A H0 s t H locs) (hlink : Cond.fieldLink own index "GlassHillModel" "cells" "[I" ∈ lw_tg) (hdg : decode cc pc = .ok (.getfield index, 3)) (kk : W p l e R s m args below meth c H locs cells slots Q (F0 m (pc + 3) ls (.ref (ad 3) :: rest))) : W p l e R s m args below meth c H locs cells slots Q (F0 m pc ls (.ref (ad 0) :: rest)) :=
  r_get (q0 := 0) (k := 4) hC hW i_X6 rfl rfl (by decide) rfl hlink rfl hdg kk
theorem gM_paces (hC : CallFix p m c cc nL s args lw_tg own) (hW : HX (wM cs ad) (tyX cs) D A H0 s t H locs) (hlink : Cond.fieldLink own index "GlassHillModel" "paces" "I" ∈ lw_tg) (hdg : decode cc pc = .ok (.getfield index, 3)) (kk : W p l e R s m args below meth c H locs cells slots Q (F0 m (pc + 3) ls (.int (t.1 2) :: rest))) : W p l e R s m args below meth c H locs cells slots Q (F0 m pc ls (.ref (ad 0) :: rest)) :=
  r_get (q0 := 0) (k := 5) hC hW i_X6 rfl rfl (by decide) rfl hlink rfl hdg kk
theorem pM_paces {v : Int32} (hC : CallFix p m c cc nL s args lw_tg own) (hW : HX (wM cs ad) (tyX cs) D A H0 s t H locs) (hlink : Cond.fieldLink own index "GlassHillModel" "paces" "I" ∈ lw_tg) (hdg : decode cc pc = .ok (.putfield index, 3)) (kk : ∀ (H1 : Heap) (locs1 : List Loc), HX (wM cs ad) (tyX cs) D A H0 s (va_up t.1 2 v, t.2) H1 locs1 → W p l e R s m args below meth c H1 locs1 cells slots Q (F0 m (pc + 3) ls rest)) : W p l e R s m args below meth c H locs cells slots Q (F0 m pc ls (.int v :: .ref (ad 0) :: rest)) :=
  r_put (q0 := 0) (k := 5) (ty := .int) (st' := (va_up t.1 2 v, t.2)) hC hW i_X6 tyX6_ok nmX6 rfl rfl (by decide) rfl hlink rfl (by decide +kernel) rfl rfl (Nat.le_of_ble_eq_true rfl) rfl hdg kk
theorem gM_riders (hC : CallFix p m c cc nL s args lw_tg own) (hW : HX (wM cs ad) (tyX cs) D A H0 s t H locs) (hlink : Cond.fieldLink own index "GlassHillModel" "riders" "I" ∈ lw_tg) (hdg : decode cc pc = .ok (.getfield index, 3)) (kk : W p l e R s m args below meth c H locs cells slots Q (F0 m (pc + 3) ls (.int (t.1 3) :: rest))) : W p l e R s m args below meth c H locs cells slots Q (F0 m pc ls (.ref (ad 0) :: rest)) :=
  r_get (q0 := 0) (k := 6) hC hW i_X6 rfl rfl (by decide) rfl hlink rfl hdg kk
theorem pM_riders {v : Int32} (hC : CallFix p m c cc nL s args lw_tg own) (hW : HX (wM cs ad) (tyX cs) D A H0 s t H locs) (hlink : Cond.fieldLink own index "GlassHillModel" "riders" "I" ∈ lw_tg) (hdg : decode cc pc = .ok (.putfield index, 3)) (kk : ∀ (H1 : Heap) (locs1 : List Loc), HX (wM cs ad) (tyX cs) D A H0 s (va_up t.1 3 v, t.2) H1 locs1 → W p l e R s m args below meth c H1 locs1 cells slots Q (F0 m (pc + 3) ls rest)) : W p l e R s m args below meth c H locs cells slots Q (F0 m pc ls (.int v :: .ref (ad 0) :: rest)) :=
  r_put (q0 := 0) (k := 6) (ty := .int) (st' := (va_up t.1 3 v, t.2)) hC hW i_X6 tyX6_ok nmX6 rfl rfl (by decide) rfl hlink rfl (by decide +kernel) rfl rfl (Nat.le_of_ble_eq_true rfl) rfl hdg kk
theorem gM_slick (hC : CallFix p m c cc nL s args lw_tg own) (hW : HX (wM cs ad) (tyX cs) D A H0 s t H locs) (hlink : Cond.fieldLink own index "GlassHillModel" "slick" "[I" ∈ lw_tg) (hdg : decode cc pc = .ok (.getfield index, 3)) (kk : W p l e R s m args below meth c H locs cells slots Q (F0 m (pc + 3) ls (.ref (ad 4) :: rest))) : W p l e R s m args below meth c H locs cells slots Q (F0 m pc ls (.ref (ad 0) :: rest)) :=
  r_get (q0 := 0) (k := 7) hC hW i_X6 rfl rfl (by decide) rfl hlink rfl hdg kk
theorem gM_ahead (hC : CallFix p m c cc nL s args lw_tg own) (hW : HX (wM cs ad) (tyX cs) D A H0 s t H locs) (hlink : Cond.fieldLink own index "GlassHillModel" "ahead" "[I" ∈ lw_tg) (hdg : decode cc pc = .ok (.getfield index, 3)) (kk : W p l e R s m args below meth c H locs cells slots Q (F0 m (pc + 3) ls (.ref (ad 5) :: rest))) : W p l e R s m args below meth c H locs cells slots Q (F0 m pc ls (.ref (ad 0) :: rest)) :=
  r_get (q0 := 0) (k := 8) hC hW i_X6 rfl rfl (by decide) rfl hlink rfl hdg kk
theorem gM_kind (hC : CallFix p m c cc nL s args lw_tg own) (hW : HX (wM cs ad) (tyX cs) D A H0 s t H locs) (hlink : Cond.fieldLink own index "GlassHillModel" "kind" "[I" ∈ lw_tg) (hdg : decode cc pc = .ok (.getfield index, 3)) (kk : W p l e R s m args below meth c H locs cells slots Q (F0 m (pc + 3) ls (.ref (ad 6) :: rest))) : W p l e R s m args below meth c H locs cells slots Q (F0 m pc ls (.ref (ad 0) :: rest)) :=
  r_get (q0 := 0) (k := 9) hC hW i_X6 rfl rfl (by decide) rfl hlink rfl hdg kk
theorem gM_speedOf (hC : CallFix p m c cc nL s args lw_tg own) (hW : HX (wM cs ad) (tyX cs) D A H0 s t H locs) (hlink : Cond.fieldLink own index "GlassHillModel" "speedOf" "[I" ∈ lw_tg) (hdg : decode cc pc = .ok (.getfield index, 3)) (kk : W p l e R s m args below meth c H locs cells slots Q (F0 m (pc + 3) ls (.ref (ad 7) :: rest))) : W p l e R s m args below meth c H locs cells slots Q (F0 m pc ls (.ref (ad 0) :: rest)) :=
  r_get (q0 := 0) (k := 10) hC hW i_X6 rfl rfl (by decide) rfl hlink rfl hdg kk
theorem gM_nailsOf (hC : CallFix p m c cc nL s args lw_tg own) (hW : HX (wM cs ad) (tyX cs) D A H0 s t H locs) (hlink : Cond.fieldLink own index "GlassHillModel" "nailsOf" "[I" ∈ lw_tg) (hdg : decode cc pc = .ok (.getfield index, 3)) (kk : W p l e R s m args below meth c H locs cells slots Q (F0 m (pc + 3) ls (.ref (ad 8) :: rest))) : W p l e R s m args below meth c H locs cells slots Q (F0 m pc ls (.ref (ad 0) :: rest)) :=
  r_get (q0 := 0) (k := 11) hC hW i_X6 rfl rfl (by decide) rfl hlink rfl hdg kk
theorem gM_at (hC : CallFix p m c cc nL s args lw_tg own) (hW : HX (wM cs ad) (tyX cs) D A H0 s t H locs) (hlink : Cond.fieldLink own index "GlassHillModel" "at" "I" ∈ lw_tg) (hdg : decode cc pc = .ok (.getfield index, 3)) (kk : W p l e R s m args below meth c H locs cells slots Q (F0 m (pc + 3) ls (.int (t.1 4) :: rest))) : W p l e R s m args below meth c H locs cells slots Q (F0 m pc ls (.ref (ad 0) :: rest)) :=
  r_get (q0 := 0) (k := 12) hC hW i_X6 rfl rfl (by decide) rfl hlink rfl hdg kk
theorem pM_at {v : Int32} (hC : CallFix p m c cc nL s args lw_tg own) (hW : HX (wM cs ad) (tyX cs) D A H0 s t H locs) (hlink : Cond.fieldLink own index "GlassHillModel" "at" "I" ∈ lw_tg) (hdg : decode cc pc = .ok (.putfield index, 3)) (kk : ∀ (H1 : Heap) (locs1 : List Loc), HX (wM cs ad) (tyX cs) D A H0 s (va_up t.1 4 v, t.2) H1 locs1 → W p l e R s m args below meth c H1 locs1 cells slots Q (F0 m (pc + 3) ls rest)) : W p l e R s m args below meth c H locs cells slots Q (F0 m pc ls (.int v :: .ref (ad 0) :: rest)) :=
  r_put (q0 := 0) (k := 12) (ty := .int) (st' := (va_up t.1 4 v, t.2)) hC hW i_X6 tyX6_ok nmX6 rfl rfl (by decide) rfl hlink rfl (by decide +kernel) rfl rfl (Nat.le_of_ble_eq_true rfl) rfl hdg kk
theorem gM_readPaces (hC : CallFix p m c cc nL s args lw_tg own) (hW : HX (wM cs ad) (tyX cs) D A H0 s t H locs) (hlink : Cond.fieldLink own index "GlassHillModel" "readPaces" "I" ∈ lw_tg) (hdg : decode cc pc = .ok (.getfield index, 3)) (kk : W p l e R s m args below meth c H locs cells slots Q (F0 m (pc + 3) ls (.int (t.1 5) :: rest))) : W p l e R s m args below meth c H locs cells slots Q (F0 m pc ls (.ref (ad 0) :: rest)) :=
  r_get (q0 := 0) (k := 13) hC hW i_X6 rfl rfl (by decide) rfl hlink rfl hdg kk
theorem pM_readPaces {v : Int32} (hC : CallFix p m c cc nL s args lw_tg own) (hW : HX (wM cs ad) (tyX cs) D A H0 s t H locs) (hlink : Cond.fieldLink own index "GlassHillModel" "readPaces" "I" ∈ lw_tg) (hdg : decode cc pc = .ok (.putfield index, 3)) (kk : ∀ (H1 : Heap) (locs1 : List Loc), HX (wM cs ad) (tyX cs) D A H0 s (va_up t.1 5 v, t.2) H1 locs1 → W p l e R s m args below meth c H1 locs1 cells slots Q (F0 m (pc + 3) ls rest)) : W p l e R s m args below meth c H locs cells slots Q (F0 m pc ls (.int v :: .ref (ad 0) :: rest)) :=
  r_put (q0 := 0) (k := 13) (ty := .int) (st' := (va_up t.1 5 v, t.2)) hC hW i_X6 tyX6_ok nmX6 rfl rfl (by decide) rfl hlink rfl (by decide +kernel) rfl rfl (Nat.le_of_ble_eq_true rfl) rfl hdg kk
theorem gM_readMany (hC : CallFix p m c cc nL s args lw_tg own) (hW : HX (wM cs ad) (tyX cs) D A H0 s t H locs) (hlink : Cond.fieldLink own index "GlassHillModel" "readMany" "I" ∈ lw_tg) (hdg : decode cc pc = .ok (.getfield index, 3)) (kk : W p l e R s m args below meth c H locs cells slots Q (F0 m (pc + 3) ls (.int (t.1 6) :: rest))) : W p l e R s m args below meth c H locs cells slots Q (F0 m pc ls (.ref (ad 0) :: rest)) :=
  r_get (q0 := 0) (k := 14) hC hW i_X6 rfl rfl (by decide) rfl hlink rfl hdg kk
theorem pM_readMany {v : Int32} (hC : CallFix p m c cc nL s args lw_tg own) (hW : HX (wM cs ad) (tyX cs) D A H0 s t H locs) (hlink : Cond.fieldLink own index "GlassHillModel" "readMany" "I" ∈ lw_tg) (hdg : decode cc pc = .ok (.putfield index, 3)) (kk : ∀ (H1 : Heap) (locs1 : List Loc), HX (wM cs ad) (tyX cs) D A H0 s (va_up t.1 6 v, t.2) H1 locs1 → W p l e R s m args below meth c H1 locs1 cells slots Q (F0 m (pc + 3) ls rest)) : W p l e R s m args below meth c H locs cells slots Q (F0 m pc ls (.int v :: .ref (ad 0) :: rest)) :=
  r_put (q0 := 0) (k := 14) (ty := .int) (st' := (va_up t.1 6 v, t.2)) hC hW i_X6 tyX6_ok nmX6 rfl rfl (by decide) rfl hlink rfl (by decide +kernel) rfl rfl (Nat.le_of_ble_eq_true rfl) rfl hdg kk
theorem gM_readSlick (hC : CallFix p m c cc nL s args lw_tg own) (hW : HX (wM cs ad) (tyX cs) D A H0 s t H locs) (hlink : Cond.fieldLink own index "GlassHillModel" "readSlick" "[I" ∈ lw_tg) (hdg : decode cc pc = .ok (.getfield index, 3)) (kk : W p l e R s m args below meth c H locs cells slots Q (F0 m (pc + 3) ls (.ref (ad 9) :: rest))) : W p l e R s m args below meth c H locs cells slots Q (F0 m pc ls (.ref (ad 0) :: rest)) :=
  r_get (q0 := 0) (k := 15) hC hW i_X6 rfl rfl (by decide) rfl hlink rfl hdg kk
theorem gM_read (hC : CallFix p m c cc nL s args lw_tg own) (hW : HX (wM cs ad) (tyX cs) D A H0 s t H locs) (hlink : Cond.fieldLink own index "GlassHillModel" "read" "[I" ∈ lw_tg) (hdg : decode cc pc = .ok (.getfield index, 3)) (kk : W p l e R s m args below meth c H locs cells slots Q (F0 m (pc + 3) ls (.ref (ad 10) :: rest))) : W p l e R s m args below meth c H locs cells slots Q (F0 m pc ls (.ref (ad 0) :: rest)) :=
  r_get (q0 := 0) (k := 16) hC hW i_X6 rfl rfl (by decide) rfl hlink rfl hdg kk
theorem gM_scratches (hC : CallFix p m c cc nL s args lw_tg own) (hW : HX (wM cs ad) (tyX cs) D A H0 s t H locs) (hlink : Cond.fieldLink own index "GlassHillModel" "scratches" "[I" ∈ lw_tg) (hdg : decode cc pc = .ok (.getfield index, 3)) (kk : W p l e R s m args below meth c H locs cells slots Q (F0 m (pc + 3) ls (.ref (ad 11) :: rest))) : W p l e R s m args below meth c H locs cells slots Q (F0 m pc ls (.ref (ad 0) :: rest)) :=
  r_get (q0 := 0) (k := 17) hC hW i_X6 rfl rfl (by decide) rfl hlink rfl hdg kk
theorem gM_tries (hC : CallFix p m c cc nL s args lw_tg own) (hW : HX (wM cs ad) (tyX cs) D A H0 s t H locs) (hlink : Cond.fieldLink own index "GlassHillModel" "tries" "[I" ∈ lw_tg) (hdg : decode cc pc = .ok (.getfield index, 3)) (kk : W p l e R s m args below meth c H locs cells slots Q (F0 m (pc + 3) ls (.ref (ad 12) :: rest))) : W p l e R s m args below meth c H locs cells slots Q (F0 m pc ls (.ref (ad 0) :: rest)) :=
  r_get (q0 := 0) (k := 18) hC hW i_X6 rfl rfl (by decide) rfl hlink rfl hdg kk
theorem gM_height (hC : CallFix p m c cc nL s args lw_tg own) (hW : HX (wM cs ad) (tyX cs) D A H0 s t H locs) (hlink : Cond.fieldLink own index "GlassHillModel" "height" "[I" ∈ lw_tg) (hdg : decode cc pc = .ok (.getfield index, 3)) (kk : W p l e R s m args below meth c H locs cells slots Q (F0 m (pc + 3) ls (.ref (ad 13) :: rest))) : W p l e R s m args below meth c H locs cells slots Q (F0 m pc ls (.ref (ad 0) :: rest)) :=
  r_get (q0 := 0) (k := 19) hC hW i_X6 rfl rfl (by decide) rfl hlink rfl hdg kk
theorem gM_up (hC : CallFix p m c cc nL s args lw_tg own) (hW : HX (wM cs ad) (tyX cs) D A H0 s t H locs) (hlink : Cond.fieldLink own index "GlassHillModel" "up" "I" ∈ lw_tg) (hdg : decode cc pc = .ok (.getfield index, 3)) (kk : W p l e R s m args below meth c H locs cells slots Q (F0 m (pc + 3) ls (.int (t.1 7) :: rest))) : W p l e R s m args below meth c H locs cells slots Q (F0 m pc ls (.ref (ad 0) :: rest)) :=
  r_get (q0 := 0) (k := 20) hC hW i_X6 rfl rfl (by decide) rfl hlink rfl hdg kk
theorem pM_up {v : Int32} (hC : CallFix p m c cc nL s args lw_tg own) (hW : HX (wM cs ad) (tyX cs) D A H0 s t H locs) (hlink : Cond.fieldLink own index "GlassHillModel" "up" "I" ∈ lw_tg) (hdg : decode cc pc = .ok (.putfield index, 3)) (kk : ∀ (H1 : Heap) (locs1 : List Loc), HX (wM cs ad) (tyX cs) D A H0 s (va_up t.1 7 v, t.2) H1 locs1 → W p l e R s m args below meth c H1 locs1 cells slots Q (F0 m (pc + 3) ls rest)) : W p l e R s m args below meth c H locs cells slots Q (F0 m pc ls (.int v :: .ref (ad 0) :: rest)) :=
  r_put (q0 := 0) (k := 20) (ty := .int) (st' := (va_up t.1 7 v, t.2)) hC hW i_X6 tyX6_ok nmX6 rfl rfl (by decide) rfl hlink rfl (by decide +kernel) rfl rfl (Nat.le_of_ble_eq_true rfl) rfl hdg kk
theorem gM_steps (hC : CallFix p m c cc nL s args lw_tg own) (hW : HX (wM cs ad) (tyX cs) D A H0 s t H locs) (hlink : Cond.fieldLink own index "GlassHillModel" "steps" "I" ∈ lw_tg) (hdg : decode cc pc = .ok (.getfield index, 3)) (kk : W p l e R s m args below meth c H locs cells slots Q (F0 m (pc + 3) ls (.int (t.1 8) :: rest))) : W p l e R s m args below meth c H locs cells slots Q (F0 m pc ls (.ref (ad 0) :: rest)) :=
  r_get (q0 := 0) (k := 21) hC hW i_X6 rfl rfl (by decide) rfl hlink rfl hdg kk
theorem pM_steps {v : Int32} (hC : CallFix p m c cc nL s args lw_tg own) (hW : HX (wM cs ad) (tyX cs) D A H0 s t H locs) (hlink : Cond.fieldLink own index "GlassHillModel" "steps" "I" ∈ lw_tg) (hdg : decode cc pc = .ok (.putfield index, 3)) (kk : ∀ (H1 : Heap) (locs1 : List Loc), HX (wM cs ad) (tyX cs) D A H0 s (va_up t.1 8 v, t.2) H1 locs1 → W p l e R s m args below meth c H1 locs1 cells slots Q (F0 m (pc + 3) ls rest)) : W p l e R s m args below meth c H locs cells slots Q (F0 m pc ls (.int v :: .ref (ad 0) :: rest)) :=
  r_put (q0 := 0) (k := 21) (ty := .int) (st' := (va_up t.1 8 v, t.2)) hC hW i_X6 tyX6_ok nmX6 rfl rfl (by decide) rfl hlink rfl (by decide +kernel) rfl rfl (Nat.le_of_ble_eq_true rfl) rfl hdg kk
theorem gM_step (hC : CallFix p m c cc nL s args lw_tg own) (hW : HX (wM cs ad) (tyX cs) D A H0 s t H locs) (hlink : Cond.fieldLink own index "GlassHillModel" "step" "[I" ∈ lw_tg) (hdg : decode cc pc = .ok (.getfield index, 3)) (kk : W p l e R s m args below meth c H locs cells slots Q (F0 m (pc + 3) ls (.ref (ad 14) :: rest))) : W p l e R s m args below meth c H locs cells slots Q (F0 m pc ls (.ref (ad 0) :: rest)) :=
  r_get (q0 := 0) (k := 22) hC hW i_X6 rfl rfl (by decide) rfl hlink rfl hdg kk
theorem gM_firstUp (hC : CallFix p m c cc nL s args lw_tg own) (hW : HX (wM cs ad) (tyX cs) D A H0 s t H locs) (hlink : Cond.fieldLink own index "GlassHillModel" "firstUp" "I" ∈ lw_tg) (hdg : decode cc pc = .ok (.getfield index, 3)) (kk : W p l e R s m args below meth c H locs cells slots Q (F0 m (pc + 3) ls (.int (t.1 9) :: rest))) : W p l e R s m args below meth c H locs cells slots Q (F0 m pc ls (.ref (ad 0) :: rest)) :=
  r_get (q0 := 0) (k := 23) hC hW i_X6 rfl rfl (by decide) rfl hlink rfl hdg kk
theorem pM_firstUp {v : Int32} (hC : CallFix p m c cc nL s args lw_tg own) (hW : HX (wM cs ad) (tyX cs) D A H0 s t H locs) (hlink : Cond.fieldLink own index "GlassHillModel" "firstUp" "I" ∈ lw_tg) (hdg : decode cc pc = .ok (.putfield index, 3)) (kk : ∀ (H1 : Heap) (locs1 : List Loc), HX (wM cs ad) (tyX cs) D A H0 s (va_up t.1 9 v, t.2) H1 locs1 → W p l e R s m args below meth c H1 locs1 cells slots Q (F0 m (pc + 3) ls rest)) : W p l e R s m args below meth c H locs cells slots Q (F0 m pc ls (.int v :: .ref (ad 0) :: rest)) :=
  r_put (q0 := 0) (k := 23) (ty := .int) (st' := (va_up t.1 9 v, t.2)) hC hW i_X6 tyX6_ok nmX6 rfl rfl (by decide) rfl hlink rfl (by decide +kernel) rfl rfl (Nat.le_of_ble_eq_true rfl) rfl hdg kk
theorem gM_foundLong (hC : CallFix p m c cc nL s args lw_tg own) (hW : HX (wM cs ad) (tyX cs) D A H0 s t H locs) (hlink : Cond.fieldLink own index "GlassHillModel" "foundLong" "I" ∈ lw_tg) (hdg : decode cc pc = .ok (.getfield index, 3)) (kk : W p l e R s m args below meth c H locs cells slots Q (F0 m (pc + 3) ls (.int (t.1 10) :: rest))) : W p l e R s m args below meth c H locs cells slots Q (F0 m pc ls (.ref (ad 0) :: rest)) :=
  r_get (q0 := 0) (k := 24) hC hW i_X6 rfl rfl (by decide) rfl hlink rfl hdg kk
theorem pM_foundLong {v : Int32} (hC : CallFix p m c cc nL s args lw_tg own) (hW : HX (wM cs ad) (tyX cs) D A H0 s t H locs) (hlink : Cond.fieldLink own index "GlassHillModel" "foundLong" "I" ∈ lw_tg) (hdg : decode cc pc = .ok (.putfield index, 3)) (kk : ∀ (H1 : Heap) (locs1 : List Loc), HX (wM cs ad) (tyX cs) D A H0 s (va_up t.1 10 v, t.2) H1 locs1 → W p l e R s m args below meth c H1 locs1 cells slots Q (F0 m (pc + 3) ls rest)) : W p l e R s m args below meth c H locs cells slots Q (F0 m pc ls (.int v :: .ref (ad 0) :: rest)) :=
  r_put (q0 := 0) (k := 24) (ty := .int) (st' := (va_up t.1 10 v, t.2)) hC hW i_X6 tyX6_ok nmX6 rfl rfl (by decide) rfl hlink rfl (by decide +kernel) rfl rfl (Nat.le_of_ble_eq_true rfl) rfl hdg kk
theorem gM_foundNumber (hC : CallFix p m c cc nL s args lw_tg own) (hW : HX (wM cs ad) (tyX cs) D A H0 s t H locs) (hlink : Cond.fieldLink own index "GlassHillModel" "foundNumber" "I" ∈ lw_tg) (hdg : decode cc pc = .ok (.getfield index, 3)) (kk : W p l e R s m args below meth c H locs cells slots Q (F0 m (pc + 3) ls (.int (t.1 11) :: rest))) : W p l e R s m args below meth c H locs cells slots Q (F0 m pc ls (.ref (ad 0) :: rest)) :=
  r_get (q0 := 0) (k := 25) hC hW i_X6 rfl rfl (by decide) rfl hlink rfl hdg kk
theorem pM_foundNumber {v : Int32} (hC : CallFix p m c cc nL s args lw_tg own) (hW : HX (wM cs ad) (tyX cs) D A H0 s t H locs) (hlink : Cond.fieldLink own index "GlassHillModel" "foundNumber" "I" ∈ lw_tg) (hdg : decode cc pc = .ok (.putfield index, 3)) (kk : ∀ (H1 : Heap) (locs1 : List Loc), HX (wM cs ad) (tyX cs) D A H0 s (va_up t.1 11 v, t.2) H1 locs1 → W p l e R s m args below meth c H1 locs1 cells slots Q (F0 m (pc + 3) ls rest)) : W p l e R s m args below meth c H locs cells slots Q (F0 m pc ls (.int v :: .ref (ad 0) :: rest)) :=
  r_put (q0 := 0) (k := 25) (ty := .int) (st' := (va_up t.1 11 v, t.2)) hC hW i_X6 tyX6_ok nmX6 rfl rfl (by decide) rfl hlink rfl (by decide +kernel) rfl rfl (Nat.le_of_ble_eq_true rfl) rfl hdg kk
theorem gM_ends (hC : CallFix p m c cc nL s args lw_tg own) (hW : HX (wM cs ad) (tyX cs) D A H0 s t H locs) (hlink : Cond.fieldLink own index "GlassHillModel" "ends" "[I" ∈ lw_tg) (hdg : decode cc pc = .ok (.getfield index, 3)) (kk : W p l e R s m args below meth c H locs cells slots Q (F0 m (pc + 3) ls (.ref (ad 15) :: rest))) : W p l e R s m args below meth c H locs cells slots Q (F0 m pc ls (.ref (ad 0) :: rest)) :=
  r_get (q0 := 0) (k := 26) hC hW i_X6 rfl rfl (by decide) rfl hlink rfl hdg kk
theorem gM_readings (hC : CallFix p m c cc nL s args lw_tg own) (hW : HX (wM cs ad) (tyX cs) D A H0 s t H locs) (hlink : Cond.fieldLink own index "GlassHillModel" "readings" "I" ∈ lw_tg) (hdg : decode cc pc = .ok (.getfield index, 3)) (kk : W p l e R s m args below meth c H locs cells slots Q (F0 m (pc + 3) ls (.int (t.1 12) :: rest))) : W p l e R s m args below meth c H locs cells slots Q (F0 m pc ls (.ref (ad 0) :: rest)) :=
  r_get (q0 := 0) (k := 27) hC hW i_X6 rfl rfl (by decide) rfl hlink rfl hdg kk
theorem pM_readings {v : Int32} (hC : CallFix p m c cc nL s args lw_tg own) (hW : HX (wM cs ad) (tyX cs) D A H0 s t H locs) (hlink : Cond.fieldLink own index "GlassHillModel" "readings" "I" ∈ lw_tg) (hdg : decode cc pc = .ok (.putfield index, 3)) (kk : ∀ (H1 : Heap) (locs1 : List Loc), HX (wM cs ad) (tyX cs) D A H0 s (va_up t.1 12 v, t.2) H1 locs1 → W p l e R s m args below meth c H1 locs1 cells slots Q (F0 m (pc + 3) ls rest)) : W p l e R s m args below meth c H locs cells slots Q (F0 m pc ls (.int v :: .ref (ad 0) :: rest)) :=
  r_put (q0 := 0) (k := 27) (ty := .int) (st' := (va_up t.1 12 v, t.2)) hC hW i_X6 tyX6_ok nmX6 rfl rfl (by decide) rfl hlink rfl (by decide +kernel) rfl rfl (Nat.le_of_ble_eq_true rfl) rfl hdg kk
theorem gM_readRiderOf (hC : CallFix p m c cc nL s args lw_tg own) (hW : HX (wM cs ad) (tyX cs) D A H0 s t H locs) (hlink : Cond.fieldLink own index "GlassHillModel" "readRiderOf" "[I" ∈ lw_tg) (hdg : decode cc pc = .ok (.getfield index, 3)) (kk : W p l e R s m args below meth c H locs cells slots Q (F0 m (pc + 3) ls (.ref (ad 16) :: rest))) : W p l e R s m args below meth c H locs cells slots Q (F0 m pc ls (.ref (ad 0) :: rest)) :=
  r_get (q0 := 0) (k := 28) hC hW i_X6 rfl rfl (by decide) rfl hlink rfl hdg kk
theorem gM_readHeight (hC : CallFix p m c cc nL s args lw_tg own) (hW : HX (wM cs ad) (tyX cs) D A H0 s t H locs) (hlink : Cond.fieldLink own index "GlassHillModel" "readHeight" "[I" ∈ lw_tg) (hdg : decode cc pc = .ok (.getfield index, 3)) (kk : W p l e R s m args below meth c H locs cells slots Q (F0 m (pc + 3) ls (.ref (ad 17) :: rest))) : W p l e R s m args below meth c H locs cells slots Q (F0 m pc ls (.ref (ad 0) :: rest)) :=
  r_get (q0 := 0) (k := 29) hC hW i_X6 rfl rfl (by decide) rfl hlink rfl hdg kk
theorem eX_2 : (wX cs ad t)[2]? = some (ad 2, .inl (cs.1, 8, .inl (t.2 2))) := rfl
theorem sX_2 (f : Nat → Int32) : (wX cs ad t).set 2 (ad 2, .inl (cs.1, 8, .inl f)) = wX cs ad (t.1, va_up t.2 2 f) := rfl
theorem eX_3 : (wX cs ad t)[3]? = some (ad 3, .inl (cs.1, 8, .inl (t.2 3))) := rfl
theorem sX_3 (f : Nat → Int32) : (wX cs ad t).set 3 (ad 3, .inl (cs.1, 8, .inl f)) = wX cs ad (t.1, va_up t.2 3 f) := rfl
theorem eX_4 : (wX cs ad t)[4]? = some (ad 4, .inl (cs.1, 5, .inl (t.2 4))) := rfl
theorem sX_4 (f : Nat → Int32) : (wX cs ad t).set 4 (ad 4, .inl (cs.1, 5, .inl f)) = wX cs ad (t.1, va_up t.2 4 f) := rfl
theorem eX_5 : (wX cs ad t)[5]? = some (ad 5, .inl (cs.1, 5, .inl (t.2 5))) := rfl
theorem sX_5 (f : Nat → Int32) : (wX cs ad t).set 5 (ad 5, .inl (cs.1, 5, .inl f)) = wX cs ad (t.1, va_up t.2 5 f) := rfl
theorem eX_6 : (wX cs ad t)[6]? = some (ad 6, .inl (cs.1, 5, .inl (t.2 6))) := rfl
theorem sX_6 (f : Nat → Int32) : (wX cs ad t).set 6 (ad 6, .inl (cs.1, 5, .inl f)) = wX cs ad (t.1, va_up t.2 6 f) := rfl
theorem eX_8 : (wX cs ad t)[8]? = some (ad 8, .inl (cs.1, 8, .inl (t.2 8))) := rfl
theorem sX_8 (f : Nat → Int32) : (wX cs ad t).set 8 (ad 8, .inl (cs.1, 8, .inl f)) = wX cs ad (t.1, va_up t.2 8 f) := rfl
theorem eX_9 : (wX cs ad t)[9]? = some (ad 9, .inl (cs.1, 8, .inl (t.2 9))) := rfl
theorem sX_9 (f : Nat → Int32) : (wX cs ad t).set 9 (ad 9, .inl (cs.1, 8, .inl f)) = wX cs ad (t.1, va_up t.2 9 f) := rfl
theorem eX_12 : (wX cs ad t)[12]? = some (ad 12, .inl (cs.1, 30, .inl (t.2 12))) := rfl
theorem sX_12 (f : Nat → Int32) : (wX cs ad t).set 12 (ad 12, .inl (cs.1, 30, .inl f)) = wX cs ad (t.1, va_up t.2 12 f) := rfl
theorem eX_13 : (wX cs ad t)[13]? = some (ad 13, .inl (cs.1, 6, .inl (t.2 13))) := rfl
theorem sX_13 (f : Nat → Int32) : (wX cs ad t).set 13 (ad 13, .inl (cs.1, 6, .inl f)) = wX cs ad (t.1, va_up t.2 13 f) := rfl
theorem eM_1 : (wM cs ad t)[1]? = some (ad 1, .inl (cs.1, 4, .inl (t.2 1))) := rfl
theorem sM_1 (f : Nat → Int32) : (wM cs ad t).set 1 (ad 1, .inl (cs.1, 4, .inl f)) = wM cs ad (t.1, va_up t.2 1 f) := rfl
theorem eM_2 : (wM cs ad t)[2]? = some (ad 2, .inl (cs.1, 4, .inl (t.2 2))) := rfl
theorem sM_2 (f : Nat → Int32) : (wM cs ad t).set 2 (ad 2, .inl (cs.1, 4, .inl f)) = wM cs ad (t.1, va_up t.2 2 f) := rfl
theorem eM_3 : (wM cs ad t)[3]? = some (ad 3, .inl (cs.1, 240, .inl (t.2 3))) := rfl
theorem sM_3 (f : Nat → Int32) : (wM cs ad t).set 3 (ad 3, .inl (cs.1, 240, .inl f)) = wM cs ad (t.1, va_up t.2 3 f) := rfl
theorem eM_4 : (wM cs ad t)[4]? = some (ad 4, .inl (cs.1, 8, .inl (t.2 4))) := rfl
theorem sM_4 (f : Nat → Int32) : (wM cs ad t).set 4 (ad 4, .inl (cs.1, 8, .inl f)) = wM cs ad (t.1, va_up t.2 4 f) := rfl
theorem eM_5 : (wM cs ad t)[5]? = some (ad 5, .inl (cs.1, 8, .inl (t.2 5))) := rfl
theorem sM_5 (f : Nat → Int32) : (wM cs ad t).set 5 (ad 5, .inl (cs.1, 8, .inl f)) = wM cs ad (t.1, va_up t.2 5 f) := rfl
theorem eM_6 : (wM cs ad t)[6]? = some (ad 6, .inl (cs.1, 5, .inl (t.2 6))) := rfl
theorem sM_6 (f : Nat → Int32) : (wM cs ad t).set 6 (ad 6, .inl (cs.1, 5, .inl f)) = wM cs ad (t.1, va_up t.2 6 f) := rfl
theorem eM_7 : (wM cs ad t)[7]? = some (ad 7, .inl (cs.1, 5, .inl (t.2 7))) := rfl
theorem sM_7 (f : Nat → Int32) : (wM cs ad t).set 7 (ad 7, .inl (cs.1, 5, .inl f)) = wM cs ad (t.1, va_up t.2 7 f) := rfl
theorem eM_8 : (wM cs ad t)[8]? = some (ad 8, .inl (cs.1, 5, .inl (t.2 8))) := rfl
theorem sM_8 (f : Nat → Int32) : (wM cs ad t).set 8 (ad 8, .inl (cs.1, 5, .inl f)) = wM cs ad (t.1, va_up t.2 8 f) := rfl
theorem eM_9 : (wM cs ad t)[9]? = some (ad 9, .inl (cs.1, 8, .inl (t.2 9))) := rfl
theorem sM_9 (f : Nat → Int32) : (wM cs ad t).set 9 (ad 9, .inl (cs.1, 8, .inl f)) = wM cs ad (t.1, va_up t.2 9 f) := rfl
theorem eM_10 : (wM cs ad t)[10]? = some (ad 10, .inl (cs.1, 15, .inl (t.2 10))) := rfl
theorem sM_10 (f : Nat → Int32) : (wM cs ad t).set 10 (ad 10, .inl (cs.1, 15, .inl f)) = wM cs ad (t.1, va_up t.2 10 f) := rfl
theorem eM_11 : (wM cs ad t)[11]? = some (ad 11, .inl (cs.1, 8, .inl (t.2 11))) := rfl
theorem sM_11 (f : Nat → Int32) : (wM cs ad t).set 11 (ad 11, .inl (cs.1, 8, .inl f)) = wM cs ad (t.1, va_up t.2 11 f) := rfl
theorem eM_12 : (wM cs ad t)[12]? = some (ad 12, .inl (cs.1, 5, .inl (t.2 12))) := rfl
theorem sM_12 (f : Nat → Int32) : (wM cs ad t).set 12 (ad 12, .inl (cs.1, 5, .inl f)) = wM cs ad (t.1, va_up t.2 12 f) := rfl
theorem eM_13 : (wM cs ad t)[13]? = some (ad 13, .inl (cs.1, 5, .inl (t.2 13))) := rfl
theorem sM_13 (f : Nat → Int32) : (wM cs ad t).set 13 (ad 13, .inl (cs.1, 5, .inl f)) = wM cs ad (t.1, va_up t.2 13 f) := rfl
theorem eM_14 : (wM cs ad t)[14]? = some (ad 14, .inl (cs.1, 30, .inl (t.2 14))) := rfl
theorem sM_14 (f : Nat → Int32) : (wM cs ad t).set 14 (ad 14, .inl (cs.1, 30, .inl f)) = wM cs ad (t.1, va_up t.2 14 f) := rfl
theorem eM_15 : (wM cs ad t)[15]? = some (ad 15, .inl (cs.1, 1024, .inl (t.2 15))) := rfl
theorem sM_15 (f : Nat → Int32) : (wM cs ad t).set 15 (ad 15, .inl (cs.1, 1024, .inl f)) = wM cs ad (t.1, va_up t.2 15 f) := rfl
theorem eM_16 : (wM cs ad t)[16]? = some (ad 16, .inl (cs.1, 8, .inl (t.2 16))) := rfl
theorem sM_16 (f : Nat → Int32) : (wM cs ad t).set 16 (ad 16, .inl (cs.1, 8, .inl f)) = wM cs ad (t.1, va_up t.2 16 f) := rfl
theorem eM_17 : (wM cs ad t)[17]? = some (ad 17, .inl (cs.1, 8, .inl (t.2 17))) := rfl
theorem sM_17 (f : Nat → Int32) : (wM cs ad t).set 17 (ad 17, .inl (cs.1, 8, .inl f)) = wM cs ad (t.1, va_up t.2 17 f) := rfl
theorem eX_0 : (wX cs ad t)[0]? = some (ad 0, .inr (4, [.ref (ad 1), .ref (ad 7), .ref (ad 10), .ref (ad 11), .ref (ad 12), .ref (ad 13), .int (t.1 0), .int (t.1 1)])) := rfl
theorem eX_1 : (wX cs ad t)[1]? = some (ad 1, .inr (3, [.int (t.1 2), .int (t.1 3), .ref (ad 2), .ref (ad 3), .ref (ad 4), .ref (ad 5), .ref (ad 6)])) := rfl
theorem eX_7 : (wX cs ad t)[7]? = some (ad 7, .inr (1, [.int (t.1 4), .ref (ad 8), .ref (ad 9)])) := rfl
theorem eX_10 : (wX cs ad t)[10]? = some (ad 10, .inl (cs.2.1, 4, .inr (.inr (.inr (.inr (fun j => some (ad (14 + 2 * j)))))))) := rfl
theorem eX_11 : (wX cs ad t)[11]? = some (ad 11, .inl (cs.2.2, 11, .inr (.inr (.inr (.inr (fun j => some (ad (22 + 4 * j)))))))) := rfl
theorem eM_0 : (wM cs ad t)[0]? = some (ad 0, .inr (5, [.int (t.1 0), .int (t.1 1), .ref (ad 1), .ref (ad 2), .ref (ad 3), .int (t.1 2), .int (t.1 3), .ref (ad 4), .ref (ad 5), .ref (ad 6), .ref (ad 7), .ref (ad 8), .int (t.1 4), .int (t.1 5), .int (t.1 6), .ref (ad 9), .ref (ad 10), .ref (ad 11), .ref (ad 12), .ref (ad 13), .int (t.1 7), .int (t.1 8), .ref (ad 14), .int (t.1 9), .int (t.1 10), .int (t.1 11), .ref (ad 15), .int (t.1 12), .ref (ad 16), .ref (ad 17)])) := rfl
end ACC
theorem k_yX5_init : CI yX5_init cX5_init 2 0 := ⟨q_im_yX5_init, q_in_RX5, q_co_yX5_init, rfl, by decide +kernel⟩
theorem k_yX3_init : CI yX3_init cX3_init 1 0 := ⟨q_im_yX3_init, q_in_RX3, q_co_yX3_init, rfl, by decide +kernel⟩
theorem k_yX1_init : CI yX1_init cX1_init 1 0 := ⟨q_im_yX1_init, q_in_RX1, q_co_yX1_init, rfl, by decide +kernel⟩
theorem k_yX2_init : CI yX2_init cX2_init 1 0 := ⟨q_im_yX2_init, q_in_RX2, q_co_yX2_init, rfl, by decide +kernel⟩
theorem k_yX0_init : CI yX0_init cX0_init 2 1 := ⟨q_im_yX0_init, q_in_RX0, q_co_yX0_init, rfl, by decide +kernel⟩
theorem k_yX5_hill : CV yX5_hill RX5 cX5_hill 8 (some .int) 4 := ⟨q_im_yX5_hill, q_se_yX5_hill, q_in_RX5, q_co_yX5_hill, by decide +kernel⟩
theorem k_yX5_isSheet : CS yX5_isSheet cX5_isSheet 1 (some .boolean) 1 := ⟨q_st_yX5_isSheet, q_in_RX5, q_co_yX5_isSheet, by decide +kernel⟩
theorem k_yX5_isIn : CS yX5_isIn cX5_isIn 3 (some .boolean) 3 := ⟨q_st_yX5_isIn, q_in_RX5, q_co_yX5_isIn, by decide +kernel⟩
theorem k_yX5_isLane : CS yX5_isLane cX5_isLane 1 (some .boolean) 1 := ⟨q_st_yX5_isLane, q_in_RX5, q_co_yX5_isLane, by decide +kernel⟩
theorem k_yX5_faultOfCells : CS yX5_faultOfCells cX5_faultOfCells 4 (some .int) 4 := ⟨q_st_yX5_faultOfCells, q_in_RX5, q_co_yX5_faultOfCells, by decide +kernel⟩
theorem k_yX2_isNothing : CV yX2_isNothing RX2 cX2_isNothing 1 (some .boolean) 0 := ⟨q_im_yX2_isNothing, q_se_yX2_isNothing, q_in_RX2, q_co_yX2_isNothing, by decide +kernel⟩
theorem k_yX2_holds : CV yX2_holds RX2 cX2_holds 3 (some .boolean) 2 := ⟨q_im_yX2_holds, q_se_yX2_holds, q_in_RX2, q_co_yX2_holds, by decide +kernel⟩
theorem k_yX5_meet : CV yX5_meet RX5 cX5_meet 2 (some .int) 1 := ⟨q_im_yX5_meet, q_se_yX5_meet, q_in_RX5, q_co_yX5_meet, by decide +kernel⟩
theorem k_yX4_firstFault : CS yX4_firstFault cX4_firstFault 6 (some .int) 3 := ⟨q_st_yX4_firstFault, q_in_RX4, q_co_yX4_firstFault, by decide +kernel⟩
theorem k_yX4_goesOn : CS yX4_goesOn cX4_goesOn 4 (some .boolean) 3 := ⟨q_st_yX4_goesOn, q_in_RX4, q_co_yX4_goesOn, by decide +kernel⟩
theorem k_yX4_build : CS yX4_build cX4_build 6 none 4 := ⟨q_st_yX4_build, q_in_RX4, q_co_yX4_build, by decide +kernel⟩
theorem k_yX4_digit : CS yX4_digit cX4_digit 2 (some .int) 2 := ⟨q_st_yX4_digit, q_in_RX4, q_co_yX4_digit, by decide +kernel⟩
theorem k_yX4_kindOf : CS yX4_kindOf cX4_kindOf 1 (some .int) 1 := ⟨q_st_yX4_kindOf, q_in_RX4, q_co_yX4_kindOf, by decide +kernel⟩
theorem k_yX5_ofPace : CV yX5_ofPace RX5 cX5_ofPace 3 (some .int) 2 := ⟨q_im_yX5_ofPace, q_se_yX5_ofPace, q_in_RX5, q_co_yX5_ofPace, by decide +kernel⟩
theorem k_yX5_isPace : CV yX5_isPace RX5 cX5_isPace 2 (some .boolean) 1 := ⟨q_im_yX5_isPace, q_se_yX5_isPace, q_in_RX5, q_co_yX5_isPace, by decide +kernel⟩
theorem k_yX5_ofRider : CV yX5_ofRider RX5 cX5_ofRider 3 (some .int) 2 := ⟨q_im_yX5_ofRider, q_se_yX5_ofRider, q_in_RX5, q_co_yX5_ofRider, by decide +kernel⟩
theorem k_yX5_isRider : CV yX5_isRider RX5 cX5_isRider 2 (some .boolean) 1 := ⟨q_im_yX5_isRider, q_se_yX5_isRider, q_in_RX5, q_co_yX5_isRider, by decide +kernel⟩
theorem k_yX5_scratch : CV yX5_scratch RX5 cX5_scratch 4 (some .int) 2 := ⟨q_im_yX5_scratch, q_se_yX5_scratch, q_in_RX5, q_co_yX5_scratch, by decide +kernel⟩
theorem k_yX5_speed : CV yX5_speed RX5 cX5_speed 3 (some .int) 2 := ⟨q_im_yX5_speed, q_se_yX5_speed, q_in_RX5, q_co_yX5_speed, by decide +kernel⟩
theorem k_yX3_exchange : CV yX3_exchange RX3 cX3_exchange 6 (some .int) 3 := ⟨q_im_yX3_exchange, q_se_yX3_exchange, q_in_RX3, q_co_yX3_exchange, by decide +kernel⟩
theorem k_yX5_shoe : CV yX5_shoe RX5 cX5_shoe 3 (some .int) 2 := ⟨q_im_yX5_shoe, q_se_yX5_shoe, q_in_RX5, q_co_yX5_shoe, by decide +kernel⟩
theorem k_yX5_takes : CV yX5_takes RX5 cX5_takes 4 (some .int) 3 := ⟨q_im_yX5_takes, q_se_yX5_takes, q_in_RX5, q_co_yX5_takes, by decide +kernel⟩
theorem k_yX3_toll : CV yX3_toll RX3 cX3_toll 5 (some .int) 3 := ⟨q_im_yX3_toll, q_se_yX3_toll, q_in_RX3, q_co_yX3_toll, by decide +kernel⟩
theorem k_yX5_days : CV yX5_days RX5 cX5_days 9 (some .int) 5 := ⟨q_im_yX5_days, q_se_yX5_days, q_in_RX5, q_co_yX5_days, by decide +kernel⟩
theorem k_yX5_readSteps : CV yX5_readSteps RX5 cX5_readSteps 9 (some .int) 5 := ⟨q_im_yX5_readSteps, q_se_yX5_readSteps, q_in_RX5, q_co_yX5_readSteps, by decide +kernel⟩
theorem k_yX5_firstWrong : CV yX5_firstWrong RX5 cX5_firstWrong 4 (some .int) 1 := ⟨q_im_yX5_firstWrong, q_se_yX5_firstWrong, q_in_RX5, q_co_yX5_firstWrong, by decide +kernel⟩
theorem k_yX0_begin : CV yX0_begin RX0 cX0_begin 1 none 0 := ⟨q_im_yX0_begin, q_se_yX0_begin, q_in_RX0, q_co_yX0_begin, by decide +kernel⟩
theorem k_yJ7_fill_53178 : CS yJ7_fill_53178 cJ7_fill_53178 4 none 2 := ⟨q_st_yJ7_fill_53178, q_in_RJ7, q_co_yJ7_fill_53178, by decide +kernel⟩
theorem k_yX0_polish : CV yX0_polish RX0 cX0_polish 2 none 0 := ⟨q_im_yX0_polish, q_se_yX0_polish, q_in_RX0, q_co_yX0_polish, by decide +kernel⟩
theorem k_yX0_isUp : CV yX0_isUp RX0 cX0_isUp 2 (some .boolean) 1 := ⟨q_im_yX0_isUp, q_se_yX0_isUp, q_in_RX0, q_co_yX0_isUp, by decide +kernel⟩
theorem k_yX0_attempt : CV yX0_attempt RX0 cX0_attempt 6 none 1 := ⟨q_im_yX0_attempt, q_se_yX0_attempt, q_in_RX0, q_co_yX0_attempt, by decide +kernel⟩
theorem k_yX3_marks : CV yX3_marks RX3 cX3_marks 2 (some .int) 1 := ⟨q_im_yX3_marks, q_se_yX3_marks, q_in_RX3, q_co_yX3_marks, by decide +kernel⟩
theorem k_yX0_slideBack : CV yX0_slideBack RX0 cX0_slideBack 4 none 2 := ⟨q_im_yX0_slideBack, q_se_yX0_slideBack, q_in_RX0, q_co_yX0_slideBack, by decide +kernel⟩
theorem k_yX5_firstUp : CV yX5_firstUp RX5 cX5_firstUp 4 (some .int) 1 := ⟨q_im_yX5_firstUp, q_se_yX5_firstUp, q_in_RX5, q_co_yX5_firstUp, by decide +kernel⟩
theorem k_yX0_goOn : CV yX0_goOn RX0 cX0_goOn 2 none 1 := ⟨q_im_yX0_goOn, q_se_yX0_goOn, q_in_RX0, q_co_yX0_goOn, by decide +kernel⟩
theorem k_yX0_scratchesOf : CV yX0_scratchesOf RX0 cX0_scratchesOf 2 (some .int) 1 := ⟨q_im_yX0_scratchesOf, q_se_yX0_scratchesOf, q_in_RX0, q_co_yX0_scratchesOf, by decide +kernel⟩
theorem k_yX0_heightOf : CV yX0_heightOf RX0 cX0_heightOf 2 (some .int) 1 := ⟨q_im_yX0_heightOf, q_se_yX0_heightOf, q_in_RX0, q_co_yX0_heightOf, by decide +kernel⟩
theorem k_yX5_fewest : CV yX5_fewest RX5 cX5_fewest 4 (some .int) 2 := ⟨q_im_yX5_fewest, q_se_yX5_fewest, q_in_RX5, q_co_yX5_fewest, by decide +kernel⟩
theorem k_yX5_fewestTries : CV yX5_fewestTries RX5 cX5_fewestTries 3 (some .int) 1 := ⟨q_im_yX5_fewestTries, q_se_yX5_fewestTries, q_in_RX5, q_co_yX5_fewestTries, by decide +kernel⟩
theorem k_yX5_findRow : CS yX5_findRow cX5_findRow 11 (some .boolean) 5 := ⟨q_st_yX5_findRow, q_in_RX5, q_co_yX5_findRow, by decide +kernel⟩
theorem k_yX0_become : CV yX0_become RX0 cX0_become 2 none 1 := ⟨q_im_yX0_become, q_se_yX0_become, q_in_RX0, q_co_yX0_become, by decide +kernel⟩
theorem k_yX5_sand : CV yX5_sand RX5 cX5_sand 4 (some .int) 1 := ⟨q_im_yX5_sand, q_se_yX5_sand, q_in_RX5, q_co_yX5_sand, by decide +kernel⟩
theorem k_yJ6_bitCount_0f7a4 : CS yJ6_bitCount_0f7a4 cJ6_bitCount_0f7a4 1 (some .int) 1 := ⟨q_st_yJ6_bitCount_0f7a4, q_in_RJ6, q_co_yJ6_bitCount_0f7a4, by decide +kernel⟩
theorem k_yX3_isUpWithSand : CV yX3_isUpWithSand RX3 cX3_isUpWithSand 5 (some .boolean) 2 := ⟨q_im_yX3_isUpWithSand, q_se_yX3_isUpWithSand, q_in_RX3, q_co_yX3_isUpWithSand, by decide +kernel⟩
theorem k_yX5_game : CV yX5_game RX5 cX5_game 5 (some .int) 3 := ⟨q_im_yX5_game, q_se_yX5_game, q_in_RX5, q_co_yX5_game, by decide +kernel⟩
theorem k_yX5_bestPlay : CS yX5_bestPlay cX5_bestPlay 11 (some .int) 5 := ⟨q_st_yX5_bestPlay, q_in_RX5, q_co_yX5_bestPlay, by decide +kernel⟩
theorem k_yX5_worth : CV yX5_worth RX5 cX5_worth 2 (some .int) 1 := ⟨q_im_yX5_worth, q_se_yX5_worth, q_in_RX5, q_co_yX5_worth, by decide +kernel⟩
theorem k_yX5_heightsOfOthers : CV yX5_heightsOfOthers RX5 cX5_heightsOfOthers 6 (some .int) 2 := ⟨q_im_yX5_heightsOfOthers, q_se_yX5_heightsOfOthers, q_in_RX5, q_co_yX5_heightsOfOthers, by decide +kernel⟩
theorem k_yX5_reading : CV yX5_reading RX5 cX5_reading 3 (some .int) 2 := ⟨q_im_yX5_reading, q_se_yX5_reading, q_in_RX5, q_co_yX5_reading, by decide +kernel⟩
theorem k_yX1_isFull : CV yX1_isFull RX1 cX1_isFull 1 (some .boolean) 0 := ⟨q_im_yX1_isFull, q_se_yX1_isFull, q_in_RX1, q_co_yX1_isFull, by decide +kernel⟩
theorem k_yX1_add : CV yX1_add RX1 cX1_add 3 (some .int) 2 := ⟨q_im_yX1_add, q_se_yX1_add, q_in_RX1, q_co_yX1_add, by decide +kernel⟩
theorem k_yX5_back : CV yX5_back RX5 cX5_back 2 (some .int) 1 := ⟨q_im_yX5_back, q_se_yX5_back, q_in_RX5, q_co_yX5_back, by decide +kernel⟩
theorem k_yX5_speeds : CV yX5_speeds RX5 cX5_speeds 12 (some .int) 6 := ⟨q_im_yX5_speeds, q_se_yX5_speeds, q_in_RX5, q_co_yX5_speeds, by decide +kernel⟩
theorem k_yX5_readSeen : CV yX5_readSeen RX5 cX5_readSeen 7 (some .int) 6 := ⟨q_im_yX5_readSeen, q_se_yX5_readSeen, q_in_RX5, q_co_yX5_readSeen, by decide +kernel⟩
theorem k_yX5_isSeenWith : CV yX5_isSeenWith RX5 cX5_isSeenWith 5 (some .boolean) 4 := ⟨q_im_yX5_isSeenWith, q_se_yX5_isSeenWith, q_in_RX5, q_co_yX5_isSeenWith, by decide +kernel⟩
theorem k_yX1_areSo : CV yX1_areSo RX1 cX1_areSo 3 (some .boolean) 1 := ⟨q_im_yX1_areSo, q_se_yX1_areSo, q_in_RX1, q_co_yX1_areSo, by decide +kernel⟩
theorem k_yX5_nails : CV yX5_nails RX5 cX5_nails 7 (some .int) 5 := ⟨q_im_yX5_nails, q_se_yX5_nails, q_in_RX5, q_co_yX5_nails, by decide +kernel⟩
theorem k_yX5_setSeenWith : CV yX5_setSeenWith RX5 cX5_setSeenWith 8 (some .int) 4 := ⟨q_im_yX5_setSeenWith, q_se_yX5_setSeenWith, q_in_RX5, q_co_yX5_setSeenWith, by decide +kernel⟩
theorem k_yX5_slicks : CV yX5_slicks RX5 cX5_slicks 7 (some .int) 5 := ⟨q_im_yX5_slicks, q_se_yX5_slicks, q_in_RX5, q_co_yX5_slicks, by decide +kernel⟩
theorem k_yX5_kinds : CV yX5_kinds RX5 cX5_kinds 7 (some .int) 5 := ⟨q_im_yX5_kinds, q_se_yX5_kinds, q_in_RX5, q_co_yX5_kinds, by decide +kernel⟩
theorem k_yX5_odds : CV yX5_odds RX5 cX5_odds 10 (some .long) 6 := ⟨q_im_yX5_odds, q_se_yX5_odds, q_in_RX5, q_co_yX5_odds, by decide +kernel⟩
theorem k_yX5_weathersUp : CS yX5_weathersUp cX5_weathersUp 8 (some .int) 5 := ⟨q_st_yX5_weathersUp, q_in_RX5, q_co_yX5_weathersUp, by decide +kernel⟩
theorem k_yJ6_numberOfTrailingZeros_0f7a4 : CS yJ6_numberOfTrailingZeros_0f7a4 cJ6_numberOfTrailingZeros_0f7a4 2 (some .int) 1 := ⟨q_st_yJ6_numberOfTrailingZeros_0f7a4, q_in_RJ6, q_co_yJ6_numberOfTrailingZeros_0f7a4, by decide +kernel⟩
theorem k_yX5_sheet : CV yX5_sheet RX5 cX5_sheet 4 (some .int) 3 := ⟨q_im_yX5_sheet, q_se_yX5_sheet, q_in_RX5, q_co_yX5_sheet, by decide +kernel⟩
theorem k_yX2_renew : CV yX2_renew RX2 cX2_renew 3 none 2 := ⟨q_im_yX2_renew, q_se_yX2_renew, q_in_RX2, q_co_yX2_renew, by decide +kernel⟩
theorem k_yX5_lose : CV yX5_lose RX5 cX5_lose 3 (some .int) 1 := ⟨q_im_yX5_lose, q_se_yX5_lose, q_in_RX5, q_co_yX5_lose, by decide +kernel⟩
theorem k_yX5_put : CV yX5_put RX5 cX5_put 6 (some .int) 3 := ⟨q_im_yX5_put, q_se_yX5_put, q_in_RX5, q_co_yX5_put, by decide +kernel⟩
theorem k_yX2_lay : CV yX2_lay RX2 cX2_lay 3 none 2 := ⟨q_im_yX2_lay, q_se_yX2_lay, q_in_RX2, q_co_yX2_lay, by decide +kernel⟩
theorem k_yX5_cell : CV yX5_cell RX5 cX5_cell 5 (some .long) 3 := ⟨q_im_yX5_cell, q_se_yX5_cell, q_in_RX5, q_co_yX5_cell, by decide +kernel⟩
theorem k_yX5_copy : CV yX5_copy RX5 cX5_copy 8 (some .int) 5 := ⟨q_im_yX5_copy, q_se_yX5_copy, q_in_RX5, q_co_yX5_copy, by decide +kernel⟩
theorem k_yX5_tell : CV yX5_tell RX5 cX5_tell 2 (some .int) 1 := ⟨q_im_yX5_tell, q_se_yX5_tell, q_in_RX5, q_co_yX5_tell, by decide +kernel⟩
theorem k_yX5_tellAsLad : CV yX5_tellAsLad RX5 cX5_tellAsLad 3 (some .int) 1 := ⟨q_im_yX5_tellAsLad, q_se_yX5_tellAsLad, q_in_RX5, q_co_yX5_tellAsLad, by decide +kernel⟩
theorem k_yX5_leave : CV yX5_leave RX5 cX5_leave 2 none 1 := ⟨q_im_yX5_leave, q_se_yX5_leave, q_in_RX5, q_co_yX5_leave, by decide +kernel⟩
theorem k_yX5_tellAsNight : CV yX5_tellAsNight RX5 cX5_tellAsNight 2 (some .int) 1 := ⟨q_im_yX5_tellAsNight, q_se_yX5_tellAsNight, q_in_RX5, q_co_yX5_tellAsNight, by decide +kernel⟩
theorem k_yX5_tellAsRider : CV yX5_tellAsRider RX5 cX5_tellAsRider 2 (some .int) 1 := ⟨q_im_yX5_tellAsRider, q_se_yX5_tellAsRider, q_in_RX5, q_co_yX5_tellAsRider, by decide +kernel⟩
theorem k_yX5_cheer : CV yX5_cheer RX5 cX5_cheer 2 (some .int) 1 := ⟨q_im_yX5_cheer, q_se_yX5_cheer, q_in_RX5, q_co_yX5_cheer, by decide +kernel⟩
theorem k_yX5_as : CV yX5_as RX5 cX5_as 3 (some .int) 2 := ⟨q_im_yX5_as, q_se_yX5_as, q_in_RX5, q_co_yX5_as, by decide +kernel⟩
theorem k_yX5_trace : CV yX5_trace RX5 cX5_trace 1 (some .int) 0 := ⟨q_im_yX5_trace, q_se_yX5_trace, q_in_RX5, q_co_yX5_trace, by decide +kernel⟩
theorem k_yX5_fault : CV yX5_fault RX5 cX5_fault 1 (some .int) 0 := ⟨q_im_yX5_fault, q_se_yX5_fault, q_in_RX5, q_co_yX5_fault, by decide +kernel⟩
theorem k_yX5_many : CV yX5_many RX5 cX5_many 2 (some .int) 1 := ⟨q_im_yX5_many, q_se_yX5_many, q_in_RX5, q_co_yX5_many, by decide +kernel⟩
theorem k_yX6_init : CI yX6_init cX6_init 1 0 := ⟨q_im_yX6_init, q_in_RX6, q_co_yX6_init, rfl, by decide +kernel⟩
theorem k_yX6_hill : CV yX6_hill RX6 cX6_hill 8 (some .int) 4 := ⟨q_im_yX6_hill, q_se_yX6_hill, q_in_RX6, q_co_yX6_hill, by decide +kernel⟩
theorem k_yX6_isSheet : CS yX6_isSheet cX6_isSheet 1 (some .boolean) 1 := ⟨q_st_yX6_isSheet, q_in_RX6, q_co_yX6_isSheet, by decide +kernel⟩
theorem k_yX6_within : CS yX6_within cX6_within 3 (some .boolean) 3 := ⟨q_st_yX6_within, q_in_RX6, q_co_yX6_within, by decide +kernel⟩
theorem k_yX6_isSort : CS yX6_isSort cX6_isSort 1 (some .boolean) 1 := ⟨q_st_yX6_isSort, q_in_RX6, q_co_yX6_isSort, by decide +kernel⟩
theorem k_yX6_against : CV yX6_against RX6 cX6_against 5 (some .int) 4 := ⟨q_im_yX6_against, q_se_yX6_against, q_in_RX6, q_co_yX6_against, by decide +kernel⟩
theorem k_yX6_fails : CV yX6_fails RX6 cX6_fails 2 (some .int) 1 := ⟨q_im_yX6_fails, q_se_yX6_fails, q_in_RX6, q_co_yX6_fails, by decide +kernel⟩
theorem k_yX6_readHill : CV yX6_readHill RX6 cX6_readHill 3 (some .boolean) 1 := ⟨q_im_yX6_readHill, q_se_yX6_readHill, q_in_RX6, q_co_yX6_readHill, by decide +kernel⟩
theorem k_yX6_isSign : CV yX6_isSign RX6 cX6_isSign 3 (some .boolean) 2 := ⟨q_im_yX6_isSign, q_se_yX6_isSign, q_in_RX6, q_co_yX6_isSign, by decide +kernel⟩
theorem k_yX6_digit : CV yX6_digit RX6 cX6_digit 4 (some .int) 3 := ⟨q_im_yX6_digit, q_se_yX6_digit, q_in_RX6, q_co_yX6_digit, by decide +kernel⟩
theorem k_yX6_readRider : CV yX6_readRider RX6 cX6_readRider 6 (some .boolean) 1 := ⟨q_im_yX6_readRider, q_se_yX6_readRider, q_in_RX6, q_co_yX6_readRider, by decide +kernel⟩
theorem k_yX6_ofPace : CV yX6_ofPace RX6 cX6_ofPace 3 (some .int) 2 := ⟨q_im_yX6_ofPace, q_se_yX6_ofPace, q_in_RX6, q_co_yX6_ofPace, by decide +kernel⟩
theorem k_yX6_isPace : CV yX6_isPace RX6 cX6_isPace 2 (some .boolean) 1 := ⟨q_im_yX6_isPace, q_se_yX6_isPace, q_in_RX6, q_co_yX6_isPace, by decide +kernel⟩
theorem k_yX6_ofRider : CV yX6_ofRider RX6 cX6_ofRider 3 (some .int) 2 := ⟨q_im_yX6_ofRider, q_se_yX6_ofRider, q_in_RX6, q_co_yX6_ofRider, by decide +kernel⟩
theorem k_yX6_isRider : CV yX6_isRider RX6 cX6_isRider 2 (some .boolean) 1 := ⟨q_im_yX6_isRider, q_se_yX6_isRider, q_in_RX6, q_co_yX6_isRider, by decide +kernel⟩
theorem k_yX6_scratch : CV yX6_scratch RX6 cX6_scratch 4 (some .int) 2 := ⟨q_im_yX6_scratch, q_se_yX6_scratch, q_in_RX6, q_co_yX6_scratch, by decide +kernel⟩
theorem k_yX6_isNine : CS yX6_isNine cX6_isNine 1 (some .boolean) 1 := ⟨q_st_yX6_isNine, q_in_RX6, q_co_yX6_isNine, by decide +kernel⟩
theorem k_yX6_speed : CV yX6_speed RX6 cX6_speed 4 (some .int) 2 := ⟨q_im_yX6_speed, q_se_yX6_speed, q_in_RX6, q_co_yX6_speed, by decide +kernel⟩
theorem k_yX6_shoe : CV yX6_shoe RX6 cX6_shoe 4 (some .int) 2 := ⟨q_im_yX6_shoe, q_se_yX6_shoe, q_in_RX6, q_co_yX6_shoe, by decide +kernel⟩
theorem k_yX6_takes : CV yX6_takes RX6 cX6_takes 4 (some .int) 3 := ⟨q_im_yX6_takes, q_se_yX6_takes, q_in_RX6, q_co_yX6_takes, by decide +kernel⟩
theorem k_yX6_takesOf : CV yX6_takesOf RX6 cX6_takesOf 5 (some .int) 3 := ⟨q_im_yX6_takesOf, q_se_yX6_takesOf, q_in_RX6, q_co_yX6_takesOf, by decide +kernel⟩
theorem k_yX6_days : CV yX6_days RX6 cX6_days 8 (some .int) 5 := ⟨q_im_yX6_days, q_se_yX6_days, q_in_RX6, q_co_yX6_days, by decide +kernel⟩
theorem k_yX6_isRow : CS yX6_isRow cX6_isRow 2 (some .boolean) 2 := ⟨q_st_yX6_isRow, q_in_RX6, q_co_yX6_isRow, by decide +kernel⟩
theorem k_yX6_laySteps : CV yX6_laySteps RX6 cX6_laySteps 8 (some .int) 4 := ⟨q_im_yX6_laySteps, q_se_yX6_laySteps, q_in_RX6, q_co_yX6_laySteps, by decide +kernel⟩
theorem k_yX6_go : CV yX6_go RX6 cX6_go 2 (some .int) 0 := ⟨q_im_yX6_go, q_se_yX6_go, q_in_RX6, q_co_yX6_go, by decide +kernel⟩
theorem k_yX6_begin : CV yX6_begin RX6 cX6_begin 2 none 0 := ⟨q_im_yX6_begin, q_se_yX6_begin, q_in_RX6, q_co_yX6_begin, by decide +kernel⟩
theorem k_yX6_rain : CV yX6_rain RX6 cX6_rain 2 none 0 := ⟨q_im_yX6_rain, q_se_yX6_rain, q_in_RX6, q_co_yX6_rain, by decide +kernel⟩
theorem k_yX6_isUp : CV yX6_isUp RX6 cX6_isUp 2 (some .boolean) 1 := ⟨q_im_yX6_isUp, q_se_yX6_isUp, q_in_RX6, q_co_yX6_isUp, by decide +kernel⟩
theorem k_yX6_tryOnce : CV yX6_tryOnce RX6 cX6_tryOnce 6 none 1 := ⟨q_im_yX6_tryOnce, q_se_yX6_tryOnce, q_in_RX6, q_co_yX6_tryOnce, by decide +kernel⟩
theorem k_yX6_tellDays : CV yX6_tellDays RX6 cX6_tellDays 2 (some .int) 1 := ⟨q_im_yX6_tellDays, q_se_yX6_tellDays, q_in_RX6, q_co_yX6_tellDays, by decide +kernel⟩
theorem k_yX6_fewest : CV yX6_fewest RX6 cX6_fewest 3 (some .int) 2 := ⟨q_im_yX6_fewest, q_se_yX6_fewest, q_in_RX6, q_co_yX6_fewest, by decide +kernel⟩
theorem k_yX6_findFewest : CV yX6_findFewest RX6 cX6_findFewest 5 none 1 := ⟨q_im_yX6_findFewest, q_se_yX6_findFewest, q_in_RX6, q_co_yX6_findFewest, by decide +kernel⟩
theorem k_yX6_layRow : CV yX6_layRow RX6 cX6_layRow 5 none 2 := ⟨q_im_yX6_layRow, q_se_yX6_layRow, q_in_RX6, q_co_yX6_layRow, by decide +kernel⟩
theorem k_yX6_sand : CV yX6_sand RX6 cX6_sand 4 (some .int) 1 := ⟨q_im_yX6_sand, q_se_yX6_sand, q_in_RX6, q_co_yX6_sand, by decide +kernel⟩
theorem k_yX6_size : CS yX6_size cX6_size 3 (some .int) 1 := ⟨q_st_yX6_size, q_in_RX6, q_co_yX6_size, by decide +kernel⟩
theorem k_yX6_isUpBySand : CV yX6_isUpBySand RX6 cX6_isUpBySand 5 (some .boolean) 2 := ⟨q_im_yX6_isUpBySand, q_se_yX6_isUpBySand, q_in_RX6, q_co_yX6_isUpBySand, by decide +kernel⟩
theorem k_yX6_game : CV yX6_game RX6 cX6_game 6 (some .int) 3 := ⟨q_im_yX6_game, q_se_yX6_game, q_in_RX6, q_co_yX6_game, by decide +kernel⟩
theorem k_yX6_endOf : CV yX6_endOf RX6 cX6_endOf 7 (some .int) 4 := ⟨q_im_yX6_endOf, q_se_yX6_endOf, q_in_RX6, q_co_yX6_endOf, by decide +kernel⟩
theorem k_yX6_better : CS yX6_better cX6_better 3 (some .int) 3 := ⟨q_st_yX6_better, q_in_RX6, q_co_yX6_better, by decide +kernel⟩
theorem k_yX6_worth : CV yX6_worth RX6 cX6_worth 2 (some .int) 1 := ⟨q_im_yX6_worth, q_se_yX6_worth, q_in_RX6, q_co_yX6_worth, by decide +kernel⟩
theorem k_yX6_othersHeights : CV yX6_othersHeights RX6 cX6_othersHeights 5 (some .int) 2 := ⟨q_im_yX6_othersHeights, q_se_yX6_othersHeights, q_in_RX6, q_co_yX6_othersHeights, by decide +kernel⟩
theorem k_yX6_reading : CV yX6_reading RX6 cX6_reading 3 (some .int) 2 := ⟨q_im_yX6_reading, q_se_yX6_reading, q_in_RX6, q_co_yX6_reading, by decide +kernel⟩
theorem k_yX6_back : CV yX6_back RX6 cX6_back 2 (some .int) 1 := ⟨q_im_yX6_back, q_se_yX6_back, q_in_RX6, q_co_yX6_back, by decide +kernel⟩
theorem k_yX6_speeds : CV yX6_speeds RX6 cX6_speeds 12 (some .int) 6 := ⟨q_im_yX6_speeds, q_se_yX6_speeds, q_in_RX6, q_co_yX6_speeds, by decide +kernel⟩
theorem k_yX6_lay : CV yX6_lay RX6 cX6_lay 6 (some .int) 5 := ⟨q_im_yX6_lay, q_se_yX6_lay, q_in_RX6, q_co_yX6_lay, by decide +kernel⟩
theorem k_yX6_areSo : CV yX6_areSo RX6 cX6_areSo 2 (some .boolean) 0 := ⟨q_im_yX6_areSo, q_se_yX6_areSo, q_in_RX6, q_co_yX6_areSo, by decide +kernel⟩
theorem k_yX6_nails : CV yX6_nails RX6 cX6_nails 10 (some .int) 5 := ⟨q_im_yX6_nails, q_se_yX6_nails, q_in_RX6, q_co_yX6_nails, by decide +kernel⟩
theorem k_yX6_slicks : CV yX6_slicks RX6 cX6_slicks 10 (some .int) 5 := ⟨q_im_yX6_slicks, q_se_yX6_slicks, q_in_RX6, q_co_yX6_slicks, by decide +kernel⟩
theorem k_yX6_kinds : CV yX6_kinds RX6 cX6_kinds 10 (some .int) 5 := ⟨q_im_yX6_kinds, q_se_yX6_kinds, q_in_RX6, q_co_yX6_kinds, by decide +kernel⟩
theorem k_yX6_odds : CV yX6_odds RX6 cX6_odds 9 (some .long) 6 := ⟨q_im_yX6_odds, q_se_yX6_odds, q_in_RX6, q_co_yX6_odds, by decide +kernel⟩
theorem k_yX6_isUpByRain : CV yX6_isUpByRain RX6 cX6_isUpByRain 4 (some .boolean) 2 := ⟨q_im_yX6_isUpByRain, q_se_yX6_isUpByRain, q_in_RX6, q_co_yX6_isUpByRain, by decide +kernel⟩
theorem k_yX6_inLeastTerms : CS yX6_inLeastTerms cX6_inLeastTerms 11 (some .long) 3 := ⟨q_st_yX6_inLeastTerms, q_in_RX6, q_co_yX6_inLeastTerms, by decide +kernel⟩
theorem k_yX6_sheet : CV yX6_sheet RX6 cX6_sheet 5 (some .int) 3 := ⟨q_im_yX6_sheet, q_se_yX6_sheet, q_in_RX6, q_co_yX6_sheet, by decide +kernel⟩
theorem k_yX6_lose : CV yX6_lose RX6 cX6_lose 3 (some .int) 1 := ⟨q_im_yX6_lose, q_se_yX6_lose, q_in_RX6, q_co_yX6_lose, by decide +kernel⟩
theorem k_yX6_put : CV yX6_put RX6 cX6_put 4 (some .int) 3 := ⟨q_im_yX6_put, q_se_yX6_put, q_in_RX6, q_co_yX6_put, by decide +kernel⟩
theorem k_yX6_cell : CV yX6_cell RX6 cX6_cell 4 (some .long) 3 := ⟨q_im_yX6_cell, q_se_yX6_cell, q_in_RX6, q_co_yX6_cell, by decide +kernel⟩
theorem k_yX6_lost : CV yX6_lost RX6 cX6_lost 2 (some .long) 1 := ⟨q_im_yX6_lost, q_se_yX6_lost, q_in_RX6, q_co_yX6_lost, by decide +kernel⟩
theorem k_yX6_copy : CV yX6_copy RX6 cX6_copy 10 (some .int) 5 := ⟨q_im_yX6_copy, q_se_yX6_copy, q_in_RX6, q_co_yX6_copy, by decide +kernel⟩
theorem k_yX6_tell : CV yX6_tell RX6 cX6_tell 3 (some .int) 1 := ⟨q_im_yX6_tell, q_se_yX6_tell, q_in_RX6, q_co_yX6_tell, by decide +kernel⟩
theorem k_yX6_begins : CV yX6_begins RX6 cX6_begins 2 none 1 := ⟨q_im_yX6_begins, q_se_yX6_begins, q_in_RX6, q_co_yX6_begins, by decide +kernel⟩
theorem k_yX6_cheer : CV yX6_cheer RX6 cX6_cheer 2 (some .int) 1 := ⟨q_im_yX6_cheer, q_se_yX6_cheer, q_in_RX6, q_co_yX6_cheer, by decide +kernel⟩
theorem k_yX6_as : CV yX6_as RX6 cX6_as 3 (some .int) 2 := ⟨q_im_yX6_as, q_se_yX6_as, q_in_RX6, q_co_yX6_as, by decide +kernel⟩
theorem k_yX6_trace : CV yX6_trace RX6 cX6_trace 1 (some .int) 0 := ⟨q_im_yX6_trace, q_se_yX6_trace, q_in_RX6, q_co_yX6_trace, by decide +kernel⟩
theorem k_yX6_fault : CV yX6_fault RX6 cX6_fault 1 (some .int) 0 := ⟨q_im_yX6_fault, q_se_yX6_fault, q_in_RX6, q_co_yX6_fault, by decide +kernel⟩
theorem k_yX6_many : CV yX6_many RX6 cX6_many 2 (some .int) 1 := ⟨q_im_yX6_many, q_se_yX6_many, q_in_RX6, q_co_yX6_many, by decide +kernel⟩
end
section
/-! helpers: booleans, ranges, states -/
def bI (P : Prop) [Decidable P] : Int32 := if P then 1 else 0
theorem bI_t {P : Prop} [Decidable P] (h : P) : 1 = bI P := by simp [bI, h]
theorem bI_f {P : Prop} [Decidable P] (h : ¬ P) : 0 = bI P := by simp [bI, h]
theorem bI_z {P : Prop} [Decidable P] : bI P = 0 ↔ ¬ P := by
  by_cases h : P <;> simp [bI, h]
theorem bI_nz {P : Prop} [Decidable P] (h : ¬ bI P = 0) : P := by
  by_cases h2 : P
  · exact h2
  · exact absurd (bI_z.mpr h2) h
theorem bI_c {P P' : Prop} [Decidable P] [Decidable P'] (h : P ↔ P') : bI P = bI P' := by
  by_cases h2 : P
  · rw [← bI_t h2, ← bI_t (h.mp h2)]
  · rw [← bI_f h2, ← bI_f (fun q => h2 (h.mpr q))]
theorem bI_nar (P : Prop) [Decidable P] : narrow .boolean (.int (bI P)) = .int (bI P) := by
  by_cases h2 : P
  · rw [← bI_t h2]; rfl
  · rw [← bI_f h2]; rfl
abbrev inN (x : Int32) (n : Nat) : Prop := 0 ≤ x ∧ x < nI n
theorem inN_ex {x : Int32} {n : Nat} (h : inN x n) (hn : n < 2 ^ 31) : ∃ j, j < n ∧ x = nI j := by
  obtain ⟨j, hj, rfl⟩ := nI_of (x := x) (Int32.not_lt.mpr h.1)
  exact ⟨j, (nI_ltI hj hn).mp h.2, rfl⟩
theorem inN_of {j n : Nat} (h : j < n) (hn : n < 2 ^ 31) : inN (nI j) n := ⟨nI_pos' (by omega), nI_lt h hn⟩
theorem inN_nI {j n : Nat} (hj : j < 2 ^ 31) (hn : n < 2 ^ 31) : inN (nI j) n ↔ j < n := ⟨fun h => (nI_ltI hj hn).mp h.2, fun h => inN_of h hn⟩
theorem le_pred {x : Int32} {n : Nat} (hn : n < 2 ^ 30) : x ≤ nI n - 1 ↔ x < nI n := by
  have h1 : (nI n - 1 : Int32).toInt = (n : Int) - 1 := pk_sub_toInt (a := n) (b := 1) hn (by decide)
  rw [Int32.le_iff_toInt_le, Int32.lt_iff_toInt_lt, h1, nI_toInt (by omega)]
  omega
theorem va_upup {α : Type} (f : Nat → α) (k : Nat) (a b : α) : va_up (va_up f k a) k b = va_up f k b := by
  funext j; simp only [va_up]; split <;> rfl
theorem va_upid {α : Type} (f : Nat → α) (k : Nat) : va_up f k (f k) = f := by
  funext j; simp only [va_up]; split
  · rename_i h; rw [h]
  · rfl
theorem va_upcomm {α : Type} (f : Nat → α) {k j : Nat} (h : k ≠ j) (a b : α) : va_up (va_up f k a) j b = va_up (va_up f j b) k a := by
  funext i; simp only [va_up]
  by_cases h1 : i = k <;> by_cases h2 : i = j <;> simp_all
section H6
variable {σ : Type} {wf : σ → va_W} {tys : List (ClassId × FieldType)} {D : va_G} {A : Nat → Prop} {st u : σ} {H H0 : Heap} {s : State} {locs : List Loc}
theorem hx_congr (h : HX wf tys D A H0 s st H locs) (e : st = u) : HX wf tys D A H0 s u H locs := e ▸ h
end H6
end
section
set_option maxRecDepth 100000 in
set_option maxHeartbeats 4000000 in
theorem m_X5_isIn (l : Launch) (v a b : Int32) : PT l yX5_isIn cX5_isIn 3 (some .boolean) (rmk 0 0) [.int v, .int a, .int b] (vp_Si (fun r => r = bI (a ≤ v ∧ v ≤ b))) := by
  refine PT.of (own := RX5) (by decide) rfl (Nat.le_of_ble_eq_true rfl) ?_
  intro p e s m args below meth c Q hC hr hlk hN hQ ls hl
  obtain ⟨hx, hb, hml, hown, hts⟩ := id hC
  have hl : lv_has ls 3 [(0, .int v), (1, .int a), (2, .int b)] := hl
  refine lv_iload_n hx hb dX5_isIn_0 rfl (lv_at hl 0 rfl) ?_
  refine lv_iload_n hx hb dX5_isIn_1 rfl (lv_at hl 1 rfl) ?_
  refine lv_icmp_lt (tgt := 14) hx hb dX5_isIn_2 (by decide) (fun c_2_1 => ?_) (fun c_2_1 => ?_)
  · refine lv_iconst (v := 0) hx hb dX5_isIn_14 (by decide) ?_
    exact r_pz hC hr hlk hQ (bI_f (by intro h9; simp_all [← Int32.not_le])) (rfl) dX5_isIn_15
  · refine lv_iload_n hx hb dX5_isIn_5 rfl (lv_at hl 0 rfl) ?_
    refine lv_iload_n hx hb dX5_isIn_6 rfl (lv_at hl 2 rfl) ?_
    refine lv_icmp_gt (tgt := 14) hx hb dX5_isIn_7 (by decide) (fun c_7_2 => ?_) (fun c_7_2 => ?_)
    · refine lv_iconst (v := 0) hx hb dX5_isIn_14 (by decide) ?_
      exact r_pz hC hr hlk hQ (bI_f (by intro h9; simp_all [← Int32.not_le])) (rfl) dX5_isIn_15
    · refine lv_iconst (v := 1) hx hb dX5_isIn_10 (by decide) ?_
      refine lv_goto (tgt := 15) hx hb dX5_isIn_11 (by decide) ?_
      exact r_pz hC hr hlk hQ (bI_t (by simp_all [Int32.not_lt])) (rfl) dX5_isIn_15
set_option maxRecDepth 100000 in
set_option maxHeartbeats 4000000 in
theorem m_X5_isSheet (l : Launch) (v : Int32) : PT l yX5_isSheet cX5_isSheet 1 (some .boolean) (rmk 1 22) [.int v] (vp_Si (fun r => r = bI (0 ≤ v ∧ v ≤ 3))) := by
  refine PT.of (own := RX5) (by decide) rfl (Nat.le_of_ble_eq_true rfl) ?_
  intro p e s m args below meth c Q hC hr hlk hN hQ ls hl
  obtain ⟨hx, hb, hml, hown, hts⟩ := id hC
  have hl : lv_has ls 1 [(0, .int v)] := hl
  refine lv_iload_n hx hb dX5_isSheet_0 rfl (lv_at hl 0 rfl) ?_
  refine lv_iconst (v := 0) hx hb dX5_isSheet_1 (by decide) ?_
  refine lv_iconst (v := 3) hx hb dX5_isSheet_2 (by decide) ?_
  refine fin_pi (run_P (rest := []) hC hN (m_X5_isIn l v 0 3) k_yX5_isIn ⟨rfl, rfl⟩ q_ml_RX5_86 rfl hl.1 rfl (by decide) ⟨Nat.le_of_ble_eq_true rfl, Nat.le_of_ble_eq_true rfl⟩ dX5_isSheet_3 ⟨Nat.zero_le _, Nat.zero_le _⟩) (fun r hr9 => ?_)
  subst hr9
  exact r_pz hC hr hlk hQ (rfl) (bI_nar _) dX5_isSheet_6
set_option maxRecDepth 100000 in
set_option maxHeartbeats 4000000 in
theorem m_X5_isLane (l : Launch) (v : Int32) : PT l yX5_isLane cX5_isLane 1 (some .boolean) (rmk 1 22) [.int v] (vp_Si (fun r => r = bI (0 ≤ v ∧ v ≤ 2))) := by
  refine PT.of (own := RX5) (by decide) rfl (Nat.le_of_ble_eq_true rfl) ?_
  intro p e s m args below meth c Q hC hr hlk hN hQ ls hl
  obtain ⟨hx, hb, hml, hown, hts⟩ := id hC
  have hl : lv_has ls 1 [(0, .int v)] := hl
  refine lv_iload_n hx hb dX5_isLane_0 rfl (lv_at hl 0 rfl) ?_
  refine lv_iconst (v := 0) hx hb dX5_isLane_1 (by decide) ?_
  refine lv_iconst (v := 2) hx hb dX5_isLane_2 (by decide) ?_
  refine fin_pi (run_P (rest := []) hC hN (m_X5_isIn l v 0 2) k_yX5_isIn ⟨rfl, rfl⟩ q_ml_RX5_86 rfl hl.1 rfl (by decide) ⟨Nat.le_of_ble_eq_true rfl, Nat.le_of_ble_eq_true rfl⟩ dX5_isLane_3 ⟨Nat.zero_le _, Nat.zero_le _⟩) (fun r hr9 => ?_)
  subst hr9
  exact r_pz hC hr hlk hQ (rfl) (bI_nar _) dX5_isLane_6
set_option maxRecDepth 100000 in
set_option maxHeartbeats 4000000 in
theorem m_X5_isRider (l : Launch) (D : va_G) (cs : CS3) (ad : Nat → Nat) (t : St) (R : Nat) (v : Int32) (h : t.1 3 = nI R) (h5 : R ≤ 5): CT l yX5_isRider cX5_isRider 2 (some .boolean) (rmk 1 22) (wX cs ad) (tyX cs) D [.ref (ad 0), .int v] t (va_Qi (fun r u => r = bI (inN v R) ∧ u = t)) := by
  refine CT.of (own := RX5) (by decide) rfl (Nat.le_of_ble_eq_true rfl) ?_
  intro p e s m args below meth c A Q hC hr hlk hW hQ ls hl
  obtain ⟨hx, hb, hml, hown, hts⟩ := id hC
  have hl : lv_has ls 2 [(0, .ref (ad 0)), (1, .int v)] := hl
  refine lv_iload_n hx hb dX5_isRider_0 rfl (lv_at hl 1 rfl) ?_
  refine lv_iconst (v := 0) hx hb dX5_isRider_1 (by decide) ?_
  refine lv_aload_n hx hb dX5_isRider_2 rfl (lv_at hl 0 rfl) ?_
  refine gX_G_slope hC hW q_fl_RX5_12 dX5_isRider_3 ?_
  refine gX_S_riders hC hW q_fl_RX5_80 dX5_isRider_6 ?_
  refine r_top (y := nI R) h ?_
  refine lv_iconst (v := 1) hx hb dX5_isRider_9 (by decide) ?_
  refine lv_isub hx hb dX5_isRider_10 ?_
  refine fin_pi (run_P (rest := []) hC hW.2.2.2.2.2 (m_X5_isIn l v 0 ((nI R) - 1)) k_yX5_isIn ⟨rfl, rfl⟩ q_ml_RX5_86 rfl hl.1 rfl (by decide) ⟨Nat.le_of_ble_eq_true rfl, Nat.le_of_ble_eq_true rfl⟩ dX5_isRider_11 ⟨Nat.zero_le _, Nat.zero_le _⟩) (fun r hr9 => ?_)
  subst hr9
  exact r_iretz hC hr hlk hW hQ (⟨bI_c (and_congr Iff.rfl (le_pred (by omega))), rfl⟩) (bI_nar _) dX5_isRider_14
set_option maxRecDepth 100000 in
set_option maxHeartbeats 4000000 in
theorem m_X5_isPace (l : Launch) (D : va_G) (cs : CS3) (ad : Nat → Nat) (t : St) (P : Nat) (v : Int32) (h : t.1 2 = nI P) (h8 : P ≤ 8): CT l yX5_isPace cX5_isPace 2 (some .boolean) (rmk 1 22) (wX cs ad) (tyX cs) D [.ref (ad 0), .int v] t (va_Qi (fun r u => r = bI (inN v P) ∧ u = t)) := by
  refine CT.of (own := RX5) (by decide) rfl (Nat.le_of_ble_eq_true rfl) ?_
  intro p e s m args below meth c A Q hC hr hlk hW hQ ls hl
  obtain ⟨hx, hb, hml, hown, hts⟩ := id hC
  have hl : lv_has ls 2 [(0, .ref (ad 0)), (1, .int v)] := hl
  refine lv_iload_n hx hb dX5_isPace_0 rfl (lv_at hl 1 rfl) ?_
  refine lv_iconst (v := 0) hx hb dX5_isPace_1 (by decide) ?_
  refine lv_aload_n hx hb dX5_isPace_2 rfl (lv_at hl 0 rfl) ?_
  refine gX_G_slope hC hW q_fl_RX5_12 dX5_isPace_3 ?_
  refine gX_S_paces hC hW q_fl_RX5_137 dX5_isPace_6 ?_
  refine r_top (y := nI P) h ?_
  refine lv_iconst (v := 1) hx hb dX5_isPace_9 (by decide) ?_
  refine lv_isub hx hb dX5_isPace_10 ?_
  refine fin_pi (run_P (rest := []) hC hW.2.2.2.2.2 (m_X5_isIn l v 0 ((nI P) - 1)) k_yX5_isIn ⟨rfl, rfl⟩ q_ml_RX5_86 rfl hl.1 rfl (by decide) ⟨Nat.le_of_ble_eq_true rfl, Nat.le_of_ble_eq_true rfl⟩ dX5_isPace_11 ⟨Nat.zero_le _, Nat.zero_le _⟩) (fun r hr9 => ?_)
  subst hr9
  exact r_iretz hC hr hlk hW hQ (⟨bI_c (and_congr Iff.rfl (le_pred (by omega))), rfl⟩) (bI_nar _) dX5_isPace_14
set_option maxRecDepth 100000 in
set_option maxHeartbeats 4000000 in
theorem m_X5_meet (l : Launch) (D : va_G) (cs : CS3) (ad : Nat → Nat) (t : St) (n : Int32) : CT l yX5_meet cX5_meet 2 (some .int) (rmk 0 0) (wX cs ad) (tyX cs) D [.ref (ad 0), .int n] t (va_Qi (fun r u => r = (-10) - n ∧ u = (va_up t.1 1 n, t.2))) := by
  refine CT.of (own := RX5) (by decide) rfl (Nat.le_of_ble_eq_true rfl) ?_
  intro p e s m args below meth c A Q hC hr hlk hW hQ ls hl
  obtain ⟨hx, hb, hml, hown, hts⟩ := id hC
  have hl : lv_has ls 2 [(0, .ref (ad 0)), (1, .int n)] := hl
  refine lv_aload_n hx hb dX5_meet_0 rfl (lv_at hl 0 rfl) ?_
  refine lv_iload_n hx hb dX5_meet_1 rfl (lv_at hl 1 rfl) ?_
  refine pX_G_fault hC hW q_fl_RX5_48 dX5_meet_2 (fun H locs hW => ?_)
  have hW : HX (wX cs ad) (tyX cs) D A s.heap s (va_up t.1 1 n, t.2) H locs := hW
  refine lv_bipush (v := (-10)) hx hb dX5_meet_5 (by decide) ?_
  refine lv_iload_n hx hb dX5_meet_7 rfl (lv_at hl 1 rfl) ?_
  refine lv_isub hx hb dX5_meet_8 ?_
  exact r_ireti hC hr hlk hW hQ (⟨rfl, rfl⟩) dX5_meet_9
set_option maxRecDepth 100000 in
set_option maxHeartbeats 4000000 in
theorem m_X5_leave (l : Launch) (D : va_G) (cs : CS3) (ad : Nat → Nat) (t : St) (n : Int32) : CT l yX5_leave cX5_leave 2 none (rmk 0 0) (wX cs ad) (tyX cs) D [.ref (ad 0), .int n] t (va_Qv (fun u => u = (va_up t.1 0 (31 * t.1 0 + n), t.2))) := by
  refine CT.of (own := RX5) (by decide) rfl (Nat.le_of_ble_eq_true rfl) ?_
  intro p e s m args below meth c A Q hC hr hlk hW hQ ls hl
  obtain ⟨hx, hb, hml, hown, hts⟩ := id hC
  have hl : lv_has ls 2 [(0, .ref (ad 0)), (1, .int n)] := hl
  refine lv_aload_n hx hb dX5_leave_0 rfl (lv_at hl 0 rfl) ?_
  refine lv_bipush (v := 31) hx hb dX5_leave_1 (by decide) ?_
  refine lv_aload_n hx hb dX5_leave_3 rfl (lv_at hl 0 rfl) ?_
  refine gX_G_trace hC hW q_fl_RX5_232 dX5_leave_4 ?_
  refine lv_imul hx hb dX5_leave_7 ?_
  refine lv_iload_n hx hb dX5_leave_8 rfl (lv_at hl 1 rfl) ?_
  refine lv_iadd hx hb dX5_leave_9 ?_
  refine pX_G_trace hC hW q_fl_RX5_232 dX5_leave_10 (fun H locs hW => ?_)
  have hW : HX (wX cs ad) (tyX cs) D A s.heap s (va_up t.1 0 ((31 * (t.1 0)) + n), t.2) H locs := hW
  exact r_vret hC hr hlk hW hQ (rfl) dX5_leave_13
set_option maxRecDepth 100000 in
set_option maxHeartbeats 4000000 in
theorem m_X5_trace (l : Launch) (D : va_G) (cs : CS3) (ad : Nat → Nat) (t : St) : CT l yX5_trace cX5_trace 1 (some .int) (rmk 0 0) (wX cs ad) (tyX cs) D [.ref (ad 0)] t (va_Qi (fun r u => r = t.1 0 ∧ u = t)) := by
  refine CT.of (own := RX5) (by decide) rfl (Nat.le_of_ble_eq_true rfl) ?_
  intro p e s m args below meth c A Q hC hr hlk hW hQ ls hl
  obtain ⟨hx, hb, hml, hown, hts⟩ := id hC
  have hl : lv_has ls 1 [(0, .ref (ad 0))] := hl
  refine lv_aload_n hx hb dX5_trace_0 rfl (lv_at hl 0 rfl) ?_
  refine gX_G_trace hC hW q_fl_RX5_232 dX5_trace_1 ?_
  exact r_ireti hC hr hlk hW hQ (⟨rfl, rfl⟩) dX5_trace_4
set_option maxRecDepth 100000 in
set_option maxHeartbeats 4000000 in
theorem m_X5_fault (l : Launch) (D : va_G) (cs : CS3) (ad : Nat → Nat) (t : St) : CT l yX5_fault cX5_fault 1 (some .int) (rmk 0 0) (wX cs ad) (tyX cs) D [.ref (ad 0)] t (va_Qi (fun r u => r = t.1 1 ∧ u = t)) := by
  refine CT.of (own := RX5) (by decide) rfl (Nat.le_of_ble_eq_true rfl) ?_
  intro p e s m args below meth c A Q hC hr hlk hW hQ ls hl
  obtain ⟨hx, hb, hml, hown, hts⟩ := id hC
  have hl : lv_has ls 1 [(0, .ref (ad 0))] := hl
  refine lv_aload_n hx hb dX5_fault_0 rfl (lv_at hl 0 rfl) ?_
  refine gX_G_fault hC hW q_fl_RX5_48 dX5_fault_1 ?_
  exact r_ireti hC hr hlk hW hQ (⟨rfl, rfl⟩) dX5_fault_4
end
