-- ===== PART A: goes FIRST, ahead of the names: the tables' words, and 'selects' of the own methods out of them =====
/-- a method of a class its own that the tables say can be made, by its rows of tables_1 -/
def lw_okq (q : MethodName × Nat) : Prop := (q.1.cls ≠ "java/lang/invoke/MethodHandle" ∧ q.1.cls ≠ "java/lang/invoke/VarHandle") ∧ Cond.instantiable q.1.cls q.2 ∈ tables_1 ∧ Cond.privateMethod q.1 ∈ tables_1 ∧ Cond.instanceMethod q.1 ∈ tables_1
theorem lw_p0 : lw_okq (⟨"GlassHill", "meet", "(I)I"⟩, 8) := ⟨⟨by decide +kernel, by decide +kernel⟩, List.mem_of_getElem? (i := 13) (by decide +kernel), List.mem_of_getElem? (i := 178) (by decide +kernel), List.mem_of_getElem? (i := 179) (by decide +kernel)⟩
theorem lw_p1 : lw_okq (⟨"GlassHill", "isPace", "(I)Z"⟩, 8) := ⟨⟨by decide +kernel, by decide +kernel⟩, List.mem_of_getElem? (i := 13) (by decide +kernel), List.mem_of_getElem? (i := 202) (by decide +kernel), List.mem_of_getElem? (i := 203) (by decide +kernel)⟩
theorem lw_p2 : lw_okq (⟨"GlassHill", "isRider", "(I)Z"⟩, 8) := ⟨⟨by decide +kernel, by decide +kernel⟩, List.mem_of_getElem? (i := 13) (by decide +kernel), List.mem_of_getElem? (i := 210) (by decide +kernel), List.mem_of_getElem? (i := 211) (by decide +kernel)⟩
theorem lw_p3 : lw_okq (⟨"GlassHill", "readSteps", "(IIIIZ)I"⟩, 8) := ⟨⟨by decide +kernel, by decide +kernel⟩, List.mem_of_getElem? (i := 13) (by decide +kernel), List.mem_of_getElem? (i := 245) (by decide +kernel), List.mem_of_getElem? (i := 246) (by decide +kernel)⟩
theorem lw_p4 : lw_okq (⟨"GlassHill", "firstWrong", "(I)I"⟩, 8) := ⟨⟨by decide +kernel, by decide +kernel⟩, List.mem_of_getElem? (i := 13) (by decide +kernel), List.mem_of_getElem? (i := 249) (by decide +kernel), List.mem_of_getElem? (i := 250) (by decide +kernel)⟩
theorem lw_p5 : lw_okq (⟨"GlassHill$Climb", "slideBack", "(II)V"⟩, 5) := ⟨⟨by decide +kernel, by decide +kernel⟩, List.mem_of_getElem? (i := 105) (by decide +kernel), List.mem_of_getElem? (i := 281) (by decide +kernel), List.mem_of_getElem? (i := 282) (by decide +kernel)⟩
theorem lw_p6 : lw_okq (⟨"GlassHill", "firstUp", "(I)I"⟩, 8) := ⟨⟨by decide +kernel, by decide +kernel⟩, List.mem_of_getElem? (i := 13) (by decide +kernel), List.mem_of_getElem? (i := 288) (by decide +kernel), List.mem_of_getElem? (i := 289) (by decide +kernel)⟩
theorem lw_p7 : lw_okq (⟨"GlassHill", "fewestTries", "(I)I"⟩, 8) := ⟨⟨by decide +kernel, by decide +kernel⟩, List.mem_of_getElem? (i := 13) (by decide +kernel), List.mem_of_getElem? (i := 312) (by decide +kernel), List.mem_of_getElem? (i := 313) (by decide +kernel)⟩
theorem lw_p8 : lw_okq (⟨"GlassHill", "heightsOfOthers", "(IZ)I"⟩, 8) := ⟨⟨by decide +kernel, by decide +kernel⟩, List.mem_of_getElem? (i := 13) (by decide +kernel), List.mem_of_getElem? (i := 351) (by decide +kernel), List.mem_of_getElem? (i := 352) (by decide +kernel)⟩
theorem lw_p9 : lw_okq (⟨"GlassHill", "readSeen", "(ZIIIIZ)I"⟩, 8) := ⟨⟨by decide +kernel, by decide +kernel⟩, List.mem_of_getElem? (i := 13) (by decide +kernel), List.mem_of_getElem? (i := 375) (by decide +kernel), List.mem_of_getElem? (i := 376) (by decide +kernel)⟩
theorem lw_p10 : lw_okq (⟨"GlassHill", "isSeenWith", "(IIII)Z"⟩, 8) := ⟨⟨by decide +kernel, by decide +kernel⟩, List.mem_of_getElem? (i := 13) (by decide +kernel), List.mem_of_getElem? (i := 379) (by decide +kernel), List.mem_of_getElem? (i := 380) (by decide +kernel)⟩
theorem lw_p11 : lw_okq (⟨"GlassHill", "setSeenWith", "(IIII)I"⟩, 8) := ⟨⟨by decide +kernel, by decide +kernel⟩, List.mem_of_getElem? (i := 13) (by decide +kernel), List.mem_of_getElem? (i := 392) (by decide +kernel), List.mem_of_getElem? (i := 393) (by decide +kernel)⟩
theorem lw_p12 : lw_okq (⟨"GlassHill", "tellAsLad", "(I)I"⟩, 8) := ⟨⟨by decide +kernel, by decide +kernel⟩, List.mem_of_getElem? (i := 13) (by decide +kernel), List.mem_of_getElem? (i := 450) (by decide +kernel), List.mem_of_getElem? (i := 451) (by decide +kernel)⟩
theorem lw_p13 : lw_okq (⟨"GlassHill", "leave", "(I)V"⟩, 8) := ⟨⟨by decide +kernel, by decide +kernel⟩, List.mem_of_getElem? (i := 13) (by decide +kernel), List.mem_of_getElem? (i := 454) (by decide +kernel), List.mem_of_getElem? (i := 455) (by decide +kernel)⟩
theorem lw_p14 : lw_okq (⟨"GlassHill", "tellAsNight", "(I)I"⟩, 8) := ⟨⟨by decide +kernel, by decide +kernel⟩, List.mem_of_getElem? (i := 13) (by decide +kernel), List.mem_of_getElem? (i := 458) (by decide +kernel), List.mem_of_getElem? (i := 459) (by decide +kernel)⟩
theorem lw_p15 : lw_okq (⟨"GlassHill", "tellAsRider", "(I)I"⟩, 8) := ⟨⟨by decide +kernel, by decide +kernel⟩, List.mem_of_getElem? (i := 13) (by decide +kernel), List.mem_of_getElem? (i := 462) (by decide +kernel), List.mem_of_getElem? (i := 463) (by decide +kernel)⟩
def lw_privs_1 : List (MethodName × Nat) := [(⟨"GlassHill", "meet", "(I)I"⟩, 8), (⟨"GlassHill", "isPace", "(I)Z"⟩, 8), (⟨"GlassHill", "isRider", "(I)Z"⟩, 8), (⟨"GlassHill", "readSteps", "(IIIIZ)I"⟩, 8), (⟨"GlassHill", "firstWrong", "(I)I"⟩, 8), (⟨"GlassHill$Climb", "slideBack", "(II)V"⟩, 5), (⟨"GlassHill", "firstUp", "(I)I"⟩, 8), (⟨"GlassHill", "fewestTries", "(I)I"⟩, 8), (⟨"GlassHill", "heightsOfOthers", "(IZ)I"⟩, 8), (⟨"GlassHill", "readSeen", "(ZIIIIZ)I"⟩, 8), (⟨"GlassHill", "isSeenWith", "(IIII)Z"⟩, 8), (⟨"GlassHill", "setSeenWith", "(IIII)I"⟩, 8), (⟨"GlassHill", "tellAsLad", "(I)I"⟩, 8), (⟨"GlassHill", "leave", "(I)V"⟩, 8), (⟨"GlassHill", "tellAsNight", "(I)I"⟩, 8), (⟨"GlassHill", "tellAsRider", "(I)I"⟩, 8)]
theorem lw_r1 : ∀ q ∈ lw_privs_1, lw_okq q := List.forall_mem_cons.mpr ⟨lw_p0, List.forall_mem_cons.mpr ⟨lw_p1, List.forall_mem_cons.mpr ⟨lw_p2, List.forall_mem_cons.mpr ⟨lw_p3, List.forall_mem_cons.mpr ⟨lw_p4, List.forall_mem_cons.mpr ⟨lw_p5, List.forall_mem_cons.mpr ⟨lw_p6, List.forall_mem_cons.mpr ⟨lw_p7, List.forall_mem_cons.mpr ⟨lw_p8, List.forall_mem_cons.mpr ⟨lw_p9, List.forall_mem_cons.mpr ⟨lw_p10, List.forall_mem_cons.mpr ⟨lw_p11, List.forall_mem_cons.mpr ⟨lw_p12, List.forall_mem_cons.mpr ⟨lw_p13, List.forall_mem_cons.mpr ⟨lw_p14, List.forall_mem_cons.mpr ⟨lw_p15, fun _ h => absurd h List.not_mem_nil⟩⟩⟩⟩⟩⟩⟩⟩⟩⟩⟩⟩⟩⟩⟩⟩
theorem lw_p16 : lw_okq (⟨"GlassHillModel", "against", "(IIII)I"⟩, 30) := ⟨⟨by decide +kernel, by decide +kernel⟩, List.mem_of_getElem? (i := 486) (by decide +kernel), List.mem_of_getElem? (i := 596) (by decide +kernel), List.mem_of_getElem? (i := 597) (by decide +kernel)⟩
theorem lw_p17 : lw_okq (⟨"GlassHillModel", "fails", "(I)I"⟩, 30) := ⟨⟨by decide +kernel, by decide +kernel⟩, List.mem_of_getElem? (i := 486) (by decide +kernel), List.mem_of_getElem? (i := 600) (by decide +kernel), List.mem_of_getElem? (i := 601) (by decide +kernel)⟩
theorem lw_p18 : lw_okq (⟨"GlassHillModel", "readHill", "(I)Z"⟩, 30) := ⟨⟨by decide +kernel, by decide +kernel⟩, List.mem_of_getElem? (i := 486) (by decide +kernel), List.mem_of_getElem? (i := 604) (by decide +kernel), List.mem_of_getElem? (i := 605) (by decide +kernel)⟩
theorem lw_p19 : lw_okq (⟨"GlassHillModel", "isSign", "(II)Z"⟩, 30) := ⟨⟨by decide +kernel, by decide +kernel⟩, List.mem_of_getElem? (i := 486) (by decide +kernel), List.mem_of_getElem? (i := 608) (by decide +kernel), List.mem_of_getElem? (i := 609) (by decide +kernel)⟩
theorem lw_p20 : lw_okq (⟨"GlassHillModel", "digit", "(III)I"⟩, 30) := ⟨⟨by decide +kernel, by decide +kernel⟩, List.mem_of_getElem? (i := 486) (by decide +kernel), List.mem_of_getElem? (i := 612) (by decide +kernel), List.mem_of_getElem? (i := 613) (by decide +kernel)⟩
theorem lw_p21 : lw_okq (⟨"GlassHillModel", "readRider", "(I)Z"⟩, 30) := ⟨⟨by decide +kernel, by decide +kernel⟩, List.mem_of_getElem? (i := 486) (by decide +kernel), List.mem_of_getElem? (i := 616) (by decide +kernel), List.mem_of_getElem? (i := 617) (by decide +kernel)⟩
theorem lw_p22 : lw_okq (⟨"GlassHillModel", "isPace", "(I)Z"⟩, 30) := ⟨⟨by decide +kernel, by decide +kernel⟩, List.mem_of_getElem? (i := 486) (by decide +kernel), List.mem_of_getElem? (i := 624) (by decide +kernel), List.mem_of_getElem? (i := 625) (by decide +kernel)⟩
theorem lw_p23 : lw_okq (⟨"GlassHillModel", "isRider", "(I)Z"⟩, 30) := ⟨⟨by decide +kernel, by decide +kernel⟩, List.mem_of_getElem? (i := 486) (by decide +kernel), List.mem_of_getElem? (i := 632) (by decide +kernel), List.mem_of_getElem? (i := 633) (by decide +kernel)⟩
theorem lw_p24 : lw_okq (⟨"GlassHillModel", "takesOf", "(III)I"⟩, 30) := ⟨⟨by decide +kernel, by decide +kernel⟩, List.mem_of_getElem? (i := 486) (by decide +kernel), List.mem_of_getElem? (i := 655) (by decide +kernel), List.mem_of_getElem? (i := 656) (by decide +kernel)⟩
theorem lw_p25 : lw_okq (⟨"GlassHillModel", "laySteps", "(IIII)I"⟩, 30) := ⟨⟨by decide +kernel, by decide +kernel⟩, List.mem_of_getElem? (i := 486) (by decide +kernel), List.mem_of_getElem? (i := 666) (by decide +kernel), List.mem_of_getElem? (i := 667) (by decide +kernel)⟩
theorem lw_p26 : lw_okq (⟨"GlassHillModel", "go", "()I"⟩, 30) := ⟨⟨by decide +kernel, by decide +kernel⟩, List.mem_of_getElem? (i := 486) (by decide +kernel), List.mem_of_getElem? (i := 670) (by decide +kernel), List.mem_of_getElem? (i := 671) (by decide +kernel)⟩
theorem lw_p27 : lw_okq (⟨"GlassHillModel", "begin", "()V"⟩, 30) := ⟨⟨by decide +kernel, by decide +kernel⟩, List.mem_of_getElem? (i := 486) (by decide +kernel), List.mem_of_getElem? (i := 674) (by decide +kernel), List.mem_of_getElem? (i := 675) (by decide +kernel)⟩
theorem lw_p28 : lw_okq (⟨"GlassHillModel", "rain", "()V"⟩, 30) := ⟨⟨by decide +kernel, by decide +kernel⟩, List.mem_of_getElem? (i := 486) (by decide +kernel), List.mem_of_getElem? (i := 678) (by decide +kernel), List.mem_of_getElem? (i := 679) (by decide +kernel)⟩
theorem lw_p29 : lw_okq (⟨"GlassHillModel", "isUp", "(I)Z"⟩, 30) := ⟨⟨by decide +kernel, by decide +kernel⟩, List.mem_of_getElem? (i := 486) (by decide +kernel), List.mem_of_getElem? (i := 682) (by decide +kernel), List.mem_of_getElem? (i := 683) (by decide +kernel)⟩
theorem lw_p30 : lw_okq (⟨"GlassHillModel", "tryOnce", "(I)V"⟩, 30) := ⟨⟨by decide +kernel, by decide +kernel⟩, List.mem_of_getElem? (i := 486) (by decide +kernel), List.mem_of_getElem? (i := 686) (by decide +kernel), List.mem_of_getElem? (i := 687) (by decide +kernel)⟩
theorem lw_p31 : lw_okq (⟨"GlassHillModel", "tellDays", "(I)I"⟩, 30) := ⟨⟨by decide +kernel, by decide +kernel⟩, List.mem_of_getElem? (i := 486) (by decide +kernel), List.mem_of_getElem? (i := 690) (by decide +kernel), List.mem_of_getElem? (i := 691) (by decide +kernel)⟩
def lw_privs_2 : List (MethodName × Nat) := [(⟨"GlassHillModel", "against", "(IIII)I"⟩, 30), (⟨"GlassHillModel", "fails", "(I)I"⟩, 30), (⟨"GlassHillModel", "readHill", "(I)Z"⟩, 30), (⟨"GlassHillModel", "isSign", "(II)Z"⟩, 30), (⟨"GlassHillModel", "digit", "(III)I"⟩, 30), (⟨"GlassHillModel", "readRider", "(I)Z"⟩, 30), (⟨"GlassHillModel", "isPace", "(I)Z"⟩, 30), (⟨"GlassHillModel", "isRider", "(I)Z"⟩, 30), (⟨"GlassHillModel", "takesOf", "(III)I"⟩, 30), (⟨"GlassHillModel", "laySteps", "(IIII)I"⟩, 30), (⟨"GlassHillModel", "go", "()I"⟩, 30), (⟨"GlassHillModel", "begin", "()V"⟩, 30), (⟨"GlassHillModel", "rain", "()V"⟩, 30), (⟨"GlassHillModel", "isUp", "(I)Z"⟩, 30), (⟨"GlassHillModel", "tryOnce", "(I)V"⟩, 30), (⟨"GlassHillModel", "tellDays", "(I)I"⟩, 30)]
theorem lw_r2 : ∀ q ∈ lw_privs_2, lw_okq q := List.forall_mem_cons.mpr ⟨lw_p16, List.forall_mem_cons.mpr ⟨lw_p17, List.forall_mem_cons.mpr ⟨lw_p18, List.forall_mem_cons.mpr ⟨lw_p19, List.forall_mem_cons.mpr ⟨lw_p20, List.forall_mem_cons.mpr ⟨lw_p21, List.forall_mem_cons.mpr ⟨lw_p22, List.forall_mem_cons.mpr ⟨lw_p23, List.forall_mem_cons.mpr ⟨lw_p24, List.forall_mem_cons.mpr ⟨lw_p25, List.forall_mem_cons.mpr ⟨lw_p26, List.forall_mem_cons.mpr ⟨lw_p27, List.forall_mem_cons.mpr ⟨lw_p28, List.forall_mem_cons.mpr ⟨lw_p29, List.forall_mem_cons.mpr ⟨lw_p30, List.forall_mem_cons.mpr ⟨lw_p31, fun _ h => absurd h List.not_mem_nil⟩⟩⟩⟩⟩⟩⟩⟩⟩⟩⟩⟩⟩⟩⟩⟩
theorem lw_p32 : lw_okq (⟨"GlassHillModel", "findFewest", "(I)V"⟩, 30) := ⟨⟨by decide +kernel, by decide +kernel⟩, List.mem_of_getElem? (i := 486) (by decide +kernel), List.mem_of_getElem? (i := 698) (by decide +kernel), List.mem_of_getElem? (i := 699) (by decide +kernel)⟩
theorem lw_p33 : lw_okq (⟨"GlassHillModel", "layRow", "(II)V"⟩, 30) := ⟨⟨by decide +kernel, by decide +kernel⟩, List.mem_of_getElem? (i := 486) (by decide +kernel), List.mem_of_getElem? (i := 702) (by decide +kernel), List.mem_of_getElem? (i := 703) (by decide +kernel)⟩
theorem lw_p34 : lw_okq (⟨"GlassHillModel", "isUpBySand", "(II)Z"⟩, 30) := ⟨⟨by decide +kernel, by decide +kernel⟩, List.mem_of_getElem? (i := 486) (by decide +kernel), List.mem_of_getElem? (i := 713) (by decide +kernel), List.mem_of_getElem? (i := 714) (by decide +kernel)⟩
theorem lw_p35 : lw_okq (⟨"GlassHillModel", "endOf", "(IIII)I"⟩, 30) := ⟨⟨by decide +kernel, by decide +kernel⟩, List.mem_of_getElem? (i := 486) (by decide +kernel), List.mem_of_getElem? (i := 721) (by decide +kernel), List.mem_of_getElem? (i := 722) (by decide +kernel)⟩
theorem lw_p36 : lw_okq (⟨"GlassHillModel", "othersHeights", "(IZ)I"⟩, 30) := ⟨⟨by decide +kernel, by decide +kernel⟩, List.mem_of_getElem? (i := 486) (by decide +kernel), List.mem_of_getElem? (i := 732) (by decide +kernel), List.mem_of_getElem? (i := 733) (by decide +kernel)⟩
theorem lw_p37 : lw_okq (⟨"GlassHillModel", "lay", "(ZIIII)I"⟩, 30) := ⟨⟨by decide +kernel, by decide +kernel⟩, List.mem_of_getElem? (i := 486) (by decide +kernel), List.mem_of_getElem? (i := 748) (by decide +kernel), List.mem_of_getElem? (i := 749) (by decide +kernel)⟩
theorem lw_p38 : lw_okq (⟨"GlassHillModel", "areSo", "()Z"⟩, 30) := ⟨⟨by decide +kernel, by decide +kernel⟩, List.mem_of_getElem? (i := 486) (by decide +kernel), List.mem_of_getElem? (i := 752) (by decide +kernel), List.mem_of_getElem? (i := 753) (by decide +kernel)⟩
theorem lw_p39 : lw_okq (⟨"GlassHillModel", "isUpByRain", "(II)Z"⟩, 30) := ⟨⟨by decide +kernel, by decide +kernel⟩, List.mem_of_getElem? (i := 486) (by decide +kernel), List.mem_of_getElem? (i := 773) (by decide +kernel), List.mem_of_getElem? (i := 774) (by decide +kernel)⟩
theorem lw_p40 : lw_okq (⟨"GlassHillModel", "lost", "(I)J"⟩, 30) := ⟨⟨by decide +kernel, by decide +kernel⟩, List.mem_of_getElem? (i := 486) (by decide +kernel), List.mem_of_getElem? (i := 796) (by decide +kernel), List.mem_of_getElem? (i := 797) (by decide +kernel)⟩
theorem lw_p41 : lw_okq (⟨"GlassHillModel", "begins", "(I)V"⟩, 30) := ⟨⟨by decide +kernel, by decide +kernel⟩, List.mem_of_getElem? (i := 486) (by decide +kernel), List.mem_of_getElem? (i := 808) (by decide +kernel), List.mem_of_getElem? (i := 809) (by decide +kernel)⟩
def lw_privs_3 : List (MethodName × Nat) := [(⟨"GlassHillModel", "findFewest", "(I)V"⟩, 30), (⟨"GlassHillModel", "layRow", "(II)V"⟩, 30), (⟨"GlassHillModel", "isUpBySand", "(II)Z"⟩, 30), (⟨"GlassHillModel", "endOf", "(IIII)I"⟩, 30), (⟨"GlassHillModel", "othersHeights", "(IZ)I"⟩, 30), (⟨"GlassHillModel", "lay", "(ZIIII)I"⟩, 30), (⟨"GlassHillModel", "areSo", "()Z"⟩, 30), (⟨"GlassHillModel", "isUpByRain", "(II)Z"⟩, 30), (⟨"GlassHillModel", "lost", "(I)J"⟩, 30), (⟨"GlassHillModel", "begins", "(I)V"⟩, 30)]
theorem lw_r3 : ∀ q ∈ lw_privs_3, lw_okq q := List.forall_mem_cons.mpr ⟨lw_p32, List.forall_mem_cons.mpr ⟨lw_p33, List.forall_mem_cons.mpr ⟨lw_p34, List.forall_mem_cons.mpr ⟨lw_p35, List.forall_mem_cons.mpr ⟨lw_p36, List.forall_mem_cons.mpr ⟨lw_p37, List.forall_mem_cons.mpr ⟨lw_p38, List.forall_mem_cons.mpr ⟨lw_p39, List.forall_mem_cons.mpr ⟨lw_p40, List.forall_mem_cons.mpr ⟨lw_p41, fun _ h => absurd h List.not_mem_nil⟩⟩⟩⟩⟩⟩⟩⟩⟩⟩
def lw_privs : List (MethodName × Nat) := lw_privs_1 ++ (lw_privs_2 ++ (lw_privs_3))
def lw_tbl : List Cond := k2_sels lw_privs ++ tables_1
theorem lw_privs_ok : ∀ q ∈ lw_privs, lw_okq q := by
  show ∀ q ∈ lw_privs_1 ++ (lw_privs_2 ++ (lw_privs_3)), lw_okq q
  exact List.forall_mem_append.mpr ⟨lw_r1, List.forall_mem_append.mpr ⟨lw_r2, lw_r3⟩⟩
def RX0 : String := "GlassHill$Climb"
def TX0 : u_T := fun k => match k with
  | 0 => ("GlassHill$Climb", "slope", "LGlassHill$Slope;", true)
  | 1 => ("GlassHill$Climb", "scratches", "[I", true)
  | 2 => ("GlassHill$Climb", "tries", "[I", true)
  | 3 => ("GlassHill$Climb", "heights", "[I", true)
  | _ => ("GlassHill$Climb", "up", "I", false)
def tyX0 : Nat → FieldType := fun k => match k with
  | 0 => .object "GlassHill$Slope"
  | 1 => .array .int
  | 2 => .array .int
  | 3 => .array .int
  | _ => .int
abbrev wsX00 : List Cond := u_ws RX0 TX0 5
theorem nmX0 : ∀ a, a < 5 → ∀ b, b < 5 → a ≠ b → (TX0 a).2.1 ≠ (TX0 b).2.1 := by decide +kernel
theorem tyX0_ok : ∀ k, k < 5 → parseFieldDescriptor (TX0 k).2.2.1 = some (tyX0 k) := by decide +kernel
abbrev cX0_init : ByteArray := prog_2_method_1_code
def yX0_init : MethodName := ⟨RX0, "<init>", "(LGlassHill$Slope;)V"⟩
abbrev cX0_begin : ByteArray := prog_2_method_2_code
def yX0_begin : MethodName := ⟨RX0, "begin", "()V"⟩
abbrev cX0_become : ByteArray := prog_2_method_3_code
def yX0_become : MethodName := ⟨RX0, "become", "(LGlassHill$Climb;)V"⟩
abbrev cX0_isUp : ByteArray := prog_2_method_4_code
def yX0_isUp : MethodName := ⟨RX0, "isUp", "(I)Z"⟩
abbrev cX0_goOn : ByteArray := prog_2_method_5_code
def yX0_goOn : MethodName := ⟨RX0, "goOn", "(I)V"⟩
abbrev cX0_polish : ByteArray := prog_2_method_6_code
def yX0_polish : MethodName := ⟨RX0, "polish", "()V"⟩
abbrev cX0_attempt : ByteArray := prog_2_method_7_code
def yX0_attempt : MethodName := ⟨RX0, "attempt", "(I)V"⟩
abbrev cX0_slideBack : ByteArray := prog_2_method_8_code
def yX0_slideBack : MethodName := ⟨RX0, "slideBack", "(II)V"⟩
abbrev cX0_scratchesOf : ByteArray := prog_2_method_9_code
def yX0_scratchesOf : MethodName := ⟨RX0, "scratchesOf", "(I)I"⟩
abbrev cX0_heightOf : ByteArray := prog_2_method_10_code
def yX0_heightOf : MethodName := ⟨RX0, "heightOf", "(I)I"⟩
def RX1 : String := "GlassHill$Readings"
def TX1 : u_T := fun k => match k with
  | 0 => ("GlassHill$Readings", "count", "I", false)
  | 1 => ("GlassHill$Readings", "riders", "[I", true)
  | _ => ("GlassHill$Readings", "heights", "[I", true)
def tyX1 : Nat → FieldType := fun k => match k with
  | 0 => .int
  | 1 => .array .int
  | _ => .array .int
abbrev wsX10 : List Cond := u_ws RX1 TX1 3
theorem nmX1 : ∀ a, a < 3 → ∀ b, b < 3 → a ≠ b → (TX1 a).2.1 ≠ (TX1 b).2.1 := by decide +kernel
theorem tyX1_ok : ∀ k, k < 3 → parseFieldDescriptor (TX1 k).2.2.1 = some (tyX1 k) := by decide +kernel
abbrev cX1_init : ByteArray := prog_3_method_1_code
def yX1_init : MethodName := ⟨RX1, "<init>", "()V"⟩
abbrev cX1_isFull : ByteArray := prog_3_method_2_code
def yX1_isFull : MethodName := ⟨RX1, "isFull", "()Z"⟩
abbrev cX1_add : ByteArray := prog_3_method_3_code
def yX1_add : MethodName := ⟨RX1, "add", "(II)I"⟩
abbrev cX1_areSo : ByteArray := prog_3_method_4_code
def yX1_areSo : MethodName := ⟨RX1, "areSo", "(LGlassHill$Climb;)Z"⟩
def RX2 : String := "GlassHill$Row"
def TX2 : u_T := fun k => match k with
  | 0 => ("GlassHill$Row", "lane", "I", false)
  | 1 => ("GlassHill$Row", "length", "I", false)
  | _ => ("GlassHill$Row", "cells", "[I", true)
def tyX2 : Nat → FieldType := fun k => match k with
  | 0 => .int
  | 1 => .int
  | _ => .array .int
abbrev wsX20 : List Cond := u_ws RX2 TX2 3
theorem nmX2 : ∀ a, a < 3 → ∀ b, b < 3 → a ≠ b → (TX2 a).2.1 ≠ (TX2 b).2.1 := by decide +kernel
theorem tyX2_ok : ∀ k, k < 3 → parseFieldDescriptor (TX2 k).2.2.1 = some (tyX2 k) := by decide +kernel
abbrev cX2_init : ByteArray := prog_4_method_1_code
def yX2_init : MethodName := ⟨RX2, "<init>", "()V"⟩
abbrev cX2_isNothing : ByteArray := prog_4_method_2_code
def yX2_isNothing : MethodName := ⟨RX2, "isNothing", "()Z"⟩
abbrev cX2_renew : ByteArray := prog_4_method_3_code
def yX2_renew : MethodName := ⟨RX2, "renew", "(II)V"⟩
abbrev cX2_holds : ByteArray := prog_4_method_4_code
def yX2_holds : MethodName := ⟨RX2, "holds", "(II)Z"⟩
abbrev cX2_lay : ByteArray := prog_4_method_5_code
def yX2_lay : MethodName := ⟨RX2, "lay", "(II)V"⟩
def RX3 : String := "GlassHill$Slope"
def TX3 : u_T := fun k => match k with
  | 0 => ("GlassHill$Slope", "paces", "I", false)
  | 1 => ("GlassHill$Slope", "riders", "I", false)
  | 2 => ("GlassHill$Slope", "slick", "[I", true)
  | 3 => ("GlassHill$Slope", "laid", "[I", true)
  | 4 => ("GlassHill$Slope", "kind", "[I", true)
  | 5 => ("GlassHill$Slope", "speed", "[I", true)
  | _ => ("GlassHill$Slope", "nails", "[I", true)
def tyX3 : Nat → FieldType := fun k => match k with
  | 0 => .int
  | 1 => .int
  | 2 => .array .int
  | 3 => .array .int
  | 4 => .array .int
  | 5 => .array .int
  | _ => .array .int
abbrev wsX30 : List Cond := u_ws RX3 TX3 7
theorem nmX3 : ∀ a, a < 7 → ∀ b, b < 7 → a ≠ b → (TX3 a).2.1 ≠ (TX3 b).2.1 := by decide +kernel
theorem tyX3_ok : ∀ k, k < 7 → parseFieldDescriptor (TX3 k).2.2.1 = some (tyX3 k) := by decide +kernel
abbrev cX3_init : ByteArray := prog_5_method_1_code
def yX3_init : MethodName := ⟨RX3, "<init>", "()V"⟩
abbrev cX3_toll : ByteArray := prog_5_method_2_code
def yX3_toll : MethodName := ⟨RX3, "toll", "(III)I"⟩
abbrev cX3_marks : ByteArray := prog_5_method_3_code
def yX3_marks : MethodName := ⟨RX3, "marks", "(I)I"⟩
abbrev cX3_isUpWithSand : ByteArray := prog_5_method_4_code
def yX3_isUpWithSand : MethodName := ⟨RX3, "isUpWithSand", "(II)Z"⟩
abbrev cX3_exchange : ByteArray := prog_5_method_5_code
def yX3_exchange : MethodName := ⟨RX3, "exchange", "(III)I"⟩
def RX4 : String := "GlassHill$Text"
def TX4 : u_T := fun k => match k with
  | _ => ("", "", "", false)
def tyX4 : Nat → FieldType := fun k => match k with
  | _ => .int
abbrev wsX40 : List Cond := u_ws RX4 TX4 0
theorem nmX4 : ∀ a, a < 0 → ∀ b, b < 0 → a ≠ b → (TX4 a).2.1 ≠ (TX4 b).2.1 := by decide +kernel
theorem tyX4_ok : ∀ k, k < 0 → parseFieldDescriptor (TX4 k).2.2.1 = some (tyX4 k) := by decide +kernel
abbrev cX4_firstFault : ByteArray := prog_6_method_2_code
def yX4_firstFault : MethodName := ⟨RX4, "firstFault", "(LGlassHill$Row;II)I"⟩
abbrev cX4_goesOn : ByteArray := prog_6_method_3_code
def yX4_goesOn : MethodName := ⟨RX4, "goesOn", "(III)Z"⟩
abbrev cX4_build : ByteArray := prog_6_method_4_code
def yX4_build : MethodName := ⟨RX4, "build", "(LGlassHill$Slope;LGlassHill$Row;II)V"⟩
abbrev cX4_digit : ByteArray := prog_6_method_5_code
def yX4_digit : MethodName := ⟨RX4, "digit", "(LGlassHill$Row;I)I"⟩
abbrev cX4_kindOf : ByteArray := prog_6_method_6_code
def yX4_kindOf : MethodName := ⟨RX4, "kindOf", "(I)I"⟩
def RX5 : String := "GlassHill"
def TX5 : u_T := fun k => match k with
  | 0 => ("GlassHill", "slope", "LGlassHill$Slope;", true)
  | 1 => ("GlassHill", "readings", "LGlassHill$Readings;", true)
  | 2 => ("GlassHill", "sheets", "[LGlassHill$Row;", true)
  | 3 => ("GlassHill", "climbs", "[LGlassHill$Climb;", true)
  | 4 => ("GlassHill", "steps", "[I", true)
  | 5 => ("GlassHill", "row", "[I", true)
  | 6 => ("GlassHill", "trace", "I", false)
  | _ => ("GlassHill", "fault", "I", false)
def tyX5 : Nat → FieldType := fun k => match k with
  | 0 => .object "GlassHill$Slope"
  | 1 => .object "GlassHill$Readings"
  | 2 => .array (.object "GlassHill$Row")
  | 3 => .array (.object "GlassHill$Climb")
  | 4 => .array .int
  | 5 => .array .int
  | 6 => .int
  | _ => .int
abbrev wsX50 : List Cond := u_ws RX5 TX5 8
theorem nmX5 : ∀ a, a < 8 → ∀ b, b < 8 → a ≠ b → (TX5 a).2.1 ≠ (TX5 b).2.1 := by decide +kernel
theorem tyX5_ok : ∀ k, k < 8 → parseFieldDescriptor (TX5 k).2.2.1 = some (tyX5 k) := by decide +kernel
abbrev cX5_init : ByteArray := prog_1_method_1_code
def yX5_init : MethodName := ⟨RX5, "<init>", "()V"⟩
abbrev cX5_hill : ByteArray := prog_1_method_2_code
def yX5_hill : MethodName := ⟨RX5, "hill", "(IIII)I"⟩
abbrev cX5_ofPace : ByteArray := prog_1_method_3_code
def yX5_ofPace : MethodName := ⟨RX5, "ofPace", "(II)I"⟩
abbrev cX5_ofRider : ByteArray := prog_1_method_4_code
def yX5_ofRider : MethodName := ⟨RX5, "ofRider", "(II)I"⟩
abbrev cX5_scratch : ByteArray := prog_1_method_5_code
def yX5_scratch : MethodName := ⟨RX5, "scratch", "(II)I"⟩
abbrev cX5_speed : ByteArray := prog_1_method_6_code
def yX5_speed : MethodName := ⟨RX5, "speed", "(II)I"⟩
abbrev cX5_shoe : ByteArray := prog_1_method_7_code
def yX5_shoe : MethodName := ⟨RX5, "shoe", "(II)I"⟩
abbrev cX5_takes : ByteArray := prog_1_method_8_code
def yX5_takes : MethodName := ⟨RX5, "takes", "(III)I"⟩
abbrev cX5_days : ByteArray := prog_1_method_9_code
def yX5_days : MethodName := ⟨RX5, "days", "(IIIII)I"⟩
abbrev cX5_fewest : ByteArray := prog_1_method_10_code
def yX5_fewest : MethodName := ⟨RX5, "fewest", "(II)I"⟩
abbrev cX5_sand : ByteArray := prog_1_method_11_code
def yX5_sand : MethodName := ⟨RX5, "sand", "(I)I"⟩
abbrev cX5_game : ByteArray := prog_1_method_12_code
def yX5_game : MethodName := ⟨RX5, "game", "(III)I"⟩
abbrev cX5_worth : ByteArray := prog_1_method_13_code
def yX5_worth : MethodName := ⟨RX5, "worth", "(I)I"⟩
abbrev cX5_reading : ByteArray := prog_1_method_14_code
def yX5_reading : MethodName := ⟨RX5, "reading", "(II)I"⟩
abbrev cX5_back : ByteArray := prog_1_method_15_code
def yX5_back : MethodName := ⟨RX5, "back", "(I)I"⟩
abbrev cX5_speeds : ByteArray := prog_1_method_16_code
def yX5_speeds : MethodName := ⟨RX5, "speeds", "(IIIIII)I"⟩
abbrev cX5_nails : ByteArray := prog_1_method_17_code
def yX5_nails : MethodName := ⟨RX5, "nails", "(IIIII)I"⟩
abbrev cX5_slicks : ByteArray := prog_1_method_18_code
def yX5_slicks : MethodName := ⟨RX5, "slicks", "(IIIII)I"⟩
abbrev cX5_kinds : ByteArray := prog_1_method_19_code
def yX5_kinds : MethodName := ⟨RX5, "kinds", "(IIIII)I"⟩
abbrev cX5_odds : ByteArray := prog_1_method_20_code
def yX5_odds : MethodName := ⟨RX5, "odds", "(IIIIII)J"⟩
abbrev cX5_sheet : ByteArray := prog_1_method_21_code
def yX5_sheet : MethodName := ⟨RX5, "sheet", "(III)I"⟩
abbrev cX5_lose : ByteArray := prog_1_method_22_code
def yX5_lose : MethodName := ⟨RX5, "lose", "(I)I"⟩
abbrev cX5_put : ByteArray := prog_1_method_23_code
def yX5_put : MethodName := ⟨RX5, "put", "(III)I"⟩
abbrev cX5_cell : ByteArray := prog_1_method_24_code
def yX5_cell : MethodName := ⟨RX5, "cell", "(III)J"⟩
abbrev cX5_copy : ByteArray := prog_1_method_25_code
def yX5_copy : MethodName := ⟨RX5, "copy", "(IIIII)I"⟩
abbrev cX5_tell : ByteArray := prog_1_method_26_code
def yX5_tell : MethodName := ⟨RX5, "tell", "(I)I"⟩
abbrev cX5_cheer : ByteArray := prog_1_method_27_code
def yX5_cheer : MethodName := ⟨RX5, "cheer", "(I)I"⟩
abbrev cX5_as : ByteArray := prog_1_method_28_code
def yX5_as : MethodName := ⟨RX5, "as", "(II)I"⟩
abbrev cX5_trace : ByteArray := prog_1_method_29_code
def yX5_trace : MethodName := ⟨RX5, "trace", "()I"⟩
abbrev cX5_fault : ByteArray := prog_1_method_30_code
def yX5_fault : MethodName := ⟨RX5, "fault", "()I"⟩
abbrev cX5_many : ByteArray := prog_1_method_31_code
def yX5_many : MethodName := ⟨RX5, "many", "(I)I"⟩
abbrev cX5_isIn : ByteArray := prog_1_method_32_code
def yX5_isIn : MethodName := ⟨RX5, "isIn", "(III)Z"⟩
abbrev cX5_isSheet : ByteArray := prog_1_method_33_code
def yX5_isSheet : MethodName := ⟨RX5, "isSheet", "(I)Z"⟩
abbrev cX5_isLane : ByteArray := prog_1_method_34_code
def yX5_isLane : MethodName := ⟨RX5, "isLane", "(I)Z"⟩
abbrev cX5_isRider : ByteArray := prog_1_method_35_code
def yX5_isRider : MethodName := ⟨RX5, "isRider", "(I)Z"⟩
abbrev cX5_isPace : ByteArray := prog_1_method_36_code
def yX5_isPace : MethodName := ⟨RX5, "isPace", "(I)Z"⟩
abbrev cX5_meet : ByteArray := prog_1_method_37_code
def yX5_meet : MethodName := ⟨RX5, "meet", "(I)I"⟩
abbrev cX5_faultOfCells : ByteArray := prog_1_method_38_code
def yX5_faultOfCells : MethodName := ⟨RX5, "faultOfCells", "(LGlassHill$Row;III)I"⟩
abbrev cX5_readSteps : ByteArray := prog_1_method_39_code
def yX5_readSteps : MethodName := ⟨RX5, "readSteps", "(IIIIZ)I"⟩
abbrev cX5_firstWrong : ByteArray := prog_1_method_40_code
def yX5_firstWrong : MethodName := ⟨RX5, "firstWrong", "(I)I"⟩
abbrev cX5_firstUp : ByteArray := prog_1_method_41_code
def yX5_firstUp : MethodName := ⟨RX5, "firstUp", "(I)I"⟩
abbrev cX5_fewestTries : ByteArray := prog_1_method_42_code
def yX5_fewestTries : MethodName := ⟨RX5, "fewestTries", "(I)I"⟩
abbrev cX5_findRow : ByteArray := prog_1_method_43_code
def yX5_findRow : MethodName := ⟨RX5, "findRow", "([LGlassHill$Climb;[IIII)Z"⟩
abbrev cX5_bestPlay : ByteArray := prog_1_method_44_code
def yX5_bestPlay : MethodName := ⟨RX5, "bestPlay", "([LGlassHill$Climb;IIII)I"⟩
abbrev cX5_heightsOfOthers : ByteArray := prog_1_method_45_code
def yX5_heightsOfOthers : MethodName := ⟨RX5, "heightsOfOthers", "(IZ)I"⟩
abbrev cX5_readSeen : ByteArray := prog_1_method_46_code
def yX5_readSeen : MethodName := ⟨RX5, "readSeen", "(ZIIIIZ)I"⟩
abbrev cX5_isSeenWith : ByteArray := prog_1_method_47_code
def yX5_isSeenWith : MethodName := ⟨RX5, "isSeenWith", "(IIII)Z"⟩
abbrev cX5_setSeenWith : ByteArray := prog_1_method_48_code
def yX5_setSeenWith : MethodName := ⟨RX5, "setSeenWith", "(IIII)I"⟩
abbrev cX5_weathersUp : ByteArray := prog_1_method_49_code
def yX5_weathersUp : MethodName := ⟨RX5, "weathersUp", "([LGlassHill$Climb;[IIII)I"⟩
abbrev cX5_leave : ByteArray := prog_1_method_50_code
def yX5_leave : MethodName := ⟨RX5, "leave", "(I)V"⟩
abbrev cX5_tellAsRider : ByteArray := prog_1_method_51_code
def yX5_tellAsRider : MethodName := ⟨RX5, "tellAsRider", "(I)I"⟩
abbrev cX5_tellAsNight : ByteArray := prog_1_method_52_code
def yX5_tellAsNight : MethodName := ⟨RX5, "tellAsNight", "(I)I"⟩
abbrev cX5_tellAsLad : ByteArray := prog_1_method_53_code
def yX5_tellAsLad : MethodName := ⟨RX5, "tellAsLad", "(I)I"⟩
def RX6 : String := "GlassHillModel"
def TX6 : u_T := fun k => match k with
  | 0 => ("GlassHillModel", "fault", "I", false)
  | 1 => ("GlassHillModel", "trace", "I", false)
  | 2 => ("GlassHillModel", "sorts", "[I", true)
  | 3 => ("GlassHillModel", "sheetLong", "[I", true)
  | 4 => ("GlassHillModel", "cells", "[I", true)
  | 5 => ("GlassHillModel", "paces", "I", false)
  | 6 => ("GlassHillModel", "riders", "I", false)
  | 7 => ("GlassHillModel", "slick", "[I", true)
  | 8 => ("GlassHillModel", "ahead", "[I", true)
  | 9 => ("GlassHillModel", "kind", "[I", true)
  | 10 => ("GlassHillModel", "speedOf", "[I", true)
  | 11 => ("GlassHillModel", "nailsOf", "[I", true)
  | 12 => ("GlassHillModel", "at", "I", false)
  | 13 => ("GlassHillModel", "readPaces", "I", false)
  | 14 => ("GlassHillModel", "readMany", "I", false)
  | 15 => ("GlassHillModel", "readSlick", "[I", true)
  | 16 => ("GlassHillModel", "read", "[I", true)
  | 17 => ("GlassHillModel", "scratches", "[I", true)
  | 18 => ("GlassHillModel", "tries", "[I", true)
  | 19 => ("GlassHillModel", "height", "[I", true)
  | 20 => ("GlassHillModel", "up", "I", false)
  | 21 => ("GlassHillModel", "steps", "I", false)
  | 22 => ("GlassHillModel", "step", "[I", true)
  | 23 => ("GlassHillModel", "firstUp", "I", false)
  | 24 => ("GlassHillModel", "foundLong", "I", false)
  | 25 => ("GlassHillModel", "foundNumber", "I", false)
  | 26 => ("GlassHillModel", "ends", "[I", true)
  | 27 => ("GlassHillModel", "readings", "I", false)
  | 28 => ("GlassHillModel", "readRiderOf", "[I", true)
  | _ => ("GlassHillModel", "readHeight", "[I", true)
def tyX6 : Nat → FieldType := fun k => match k with
  | 0 => .int
  | 1 => .int
  | 2 => .array .int
  | 3 => .array .int
  | 4 => .array .int
  | 5 => .int
  | 6 => .int
  | 7 => .array .int
  | 8 => .array .int
  | 9 => .array .int
  | 10 => .array .int
  | 11 => .array .int
  | 12 => .int
  | 13 => .int
  | 14 => .int
  | 15 => .array .int
  | 16 => .array .int
  | 17 => .array .int
  | 18 => .array .int
  | 19 => .array .int
  | 20 => .int
  | 21 => .int
  | 22 => .array .int
  | 23 => .int
  | 24 => .int
  | 25 => .int
  | 26 => .array .int
  | 27 => .int
  | 28 => .array .int
  | _ => .array .int
abbrev wsX60 : List Cond := u_ws RX6 TX6 30
theorem nmX6 : ∀ a, a < 30 → ∀ b, b < 30 → a ≠ b → (TX6 a).2.1 ≠ (TX6 b).2.1 := by decide +kernel
theorem tyX6_ok : ∀ k, k < 30 → parseFieldDescriptor (TX6 k).2.2.1 = some (tyX6 k) := by decide +kernel
abbrev cX6_init : ByteArray := prog_8_method_1_code
def yX6_init : MethodName := ⟨RX6, "<init>", "()V"⟩
abbrev cX6_fails : ByteArray := prog_8_method_3_code
def yX6_fails : MethodName := ⟨RX6, "fails", "(I)I"⟩
abbrev cX6_lost : ByteArray := prog_8_method_4_code
def yX6_lost : MethodName := ⟨RX6, "lost", "(I)J"⟩
abbrev cX6_within : ByteArray := prog_8_method_5_code
def yX6_within : MethodName := ⟨RX6, "within", "(III)Z"⟩
abbrev cX6_isSheet : ByteArray := prog_8_method_6_code
def yX6_isSheet : MethodName := ⟨RX6, "isSheet", "(I)Z"⟩
abbrev cX6_isSort : ByteArray := prog_8_method_7_code
def yX6_isSort : MethodName := ⟨RX6, "isSort", "(I)Z"⟩
abbrev cX6_against : ByteArray := prog_8_method_8_code
def yX6_against : MethodName := ⟨RX6, "against", "(IIII)I"⟩
abbrev cX6_isPace : ByteArray := prog_8_method_9_code
def yX6_isPace : MethodName := ⟨RX6, "isPace", "(I)Z"⟩
abbrev cX6_isRider : ByteArray := prog_8_method_10_code
def yX6_isRider : MethodName := ⟨RX6, "isRider", "(I)Z"⟩
abbrev cX6_isNine : ByteArray := prog_8_method_11_code
def yX6_isNine : MethodName := ⟨RX6, "isNine", "(I)Z"⟩
abbrev cX6_digit : ByteArray := prog_8_method_12_code
def yX6_digit : MethodName := ⟨RX6, "digit", "(III)I"⟩
abbrev cX6_isSign : ByteArray := prog_8_method_13_code
def yX6_isSign : MethodName := ⟨RX6, "isSign", "(II)Z"⟩
abbrev cX6_hill : ByteArray := prog_8_method_14_code
def yX6_hill : MethodName := ⟨RX6, "hill", "(IIII)I"⟩
abbrev cX6_readHill : ByteArray := prog_8_method_15_code
def yX6_readHill : MethodName := ⟨RX6, "readHill", "(I)Z"⟩
abbrev cX6_readRider : ByteArray := prog_8_method_16_code
def yX6_readRider : MethodName := ⟨RX6, "readRider", "(I)Z"⟩
abbrev cX6_ofPace : ByteArray := prog_8_method_17_code
def yX6_ofPace : MethodName := ⟨RX6, "ofPace", "(II)I"⟩
abbrev cX6_ofRider : ByteArray := prog_8_method_18_code
def yX6_ofRider : MethodName := ⟨RX6, "ofRider", "(II)I"⟩
abbrev cX6_scratch : ByteArray := prog_8_method_19_code
def yX6_scratch : MethodName := ⟨RX6, "scratch", "(II)I"⟩
abbrev cX6_speed : ByteArray := prog_8_method_20_code
def yX6_speed : MethodName := ⟨RX6, "speed", "(II)I"⟩
abbrev cX6_shoe : ByteArray := prog_8_method_21_code
def yX6_shoe : MethodName := ⟨RX6, "shoe", "(II)I"⟩
abbrev cX6_takesOf : ByteArray := prog_8_method_22_code
def yX6_takesOf : MethodName := ⟨RX6, "takesOf", "(III)I"⟩
abbrev cX6_takes : ByteArray := prog_8_method_23_code
def yX6_takes : MethodName := ⟨RX6, "takes", "(III)I"⟩
abbrev cX6_begin : ByteArray := prog_8_method_24_code
def yX6_begin : MethodName := ⟨RX6, "begin", "()V"⟩
abbrev cX6_isUp : ByteArray := prog_8_method_25_code
def yX6_isUp : MethodName := ⟨RX6, "isUp", "(I)Z"⟩
abbrev cX6_tryOnce : ByteArray := prog_8_method_26_code
def yX6_tryOnce : MethodName := ⟨RX6, "tryOnce", "(I)V"⟩
abbrev cX6_rain : ByteArray := prog_8_method_27_code
def yX6_rain : MethodName := ⟨RX6, "rain", "()V"⟩
abbrev cX6_laySteps : ByteArray := prog_8_method_28_code
def yX6_laySteps : MethodName := ⟨RX6, "laySteps", "(IIII)I"⟩
abbrev cX6_go : ByteArray := prog_8_method_29_code
def yX6_go : MethodName := ⟨RX6, "go", "()I"⟩
abbrev cX6_isRow : ByteArray := prog_8_method_30_code
def yX6_isRow : MethodName := ⟨RX6, "isRow", "(II)Z"⟩
abbrev cX6_days : ByteArray := prog_8_method_31_code
def yX6_days : MethodName := ⟨RX6, "days", "(IIIII)I"⟩
abbrev cX6_tellDays : ByteArray := prog_8_method_32_code
def yX6_tellDays : MethodName := ⟨RX6, "tellDays", "(I)I"⟩
abbrev cX6_layRow : ByteArray := prog_8_method_33_code
def yX6_layRow : MethodName := ⟨RX6, "layRow", "(II)V"⟩
abbrev cX6_findFewest : ByteArray := prog_8_method_34_code
def yX6_findFewest : MethodName := ⟨RX6, "findFewest", "(I)V"⟩
abbrev cX6_fewest : ByteArray := prog_8_method_35_code
def yX6_fewest : MethodName := ⟨RX6, "fewest", "(II)I"⟩
abbrev cX6_size : ByteArray := prog_8_method_36_code
def yX6_size : MethodName := ⟨RX6, "size", "(I)I"⟩
abbrev cX6_isUpBySand : ByteArray := prog_8_method_37_code
def yX6_isUpBySand : MethodName := ⟨RX6, "isUpBySand", "(II)Z"⟩
abbrev cX6_sand : ByteArray := prog_8_method_38_code
def yX6_sand : MethodName := ⟨RX6, "sand", "(I)I"⟩
abbrev cX6_endOf : ByteArray := prog_8_method_39_code
def yX6_endOf : MethodName := ⟨RX6, "endOf", "(IIII)I"⟩
abbrev cX6_better : ByteArray := prog_8_method_40_code
def yX6_better : MethodName := ⟨RX6, "better", "(III)I"⟩
abbrev cX6_game : ByteArray := prog_8_method_41_code
def yX6_game : MethodName := ⟨RX6, "game", "(III)I"⟩
abbrev cX6_othersHeights : ByteArray := prog_8_method_42_code
def yX6_othersHeights : MethodName := ⟨RX6, "othersHeights", "(IZ)I"⟩
abbrev cX6_worth : ByteArray := prog_8_method_43_code
def yX6_worth : MethodName := ⟨RX6, "worth", "(I)I"⟩
abbrev cX6_reading : ByteArray := prog_8_method_44_code
def yX6_reading : MethodName := ⟨RX6, "reading", "(II)I"⟩
abbrev cX6_back : ByteArray := prog_8_method_45_code
def yX6_back : MethodName := ⟨RX6, "back", "(I)I"⟩
abbrev cX6_areSo : ByteArray := prog_8_method_46_code
def yX6_areSo : MethodName := ⟨RX6, "areSo", "()Z"⟩
abbrev cX6_lay : ByteArray := prog_8_method_47_code
def yX6_lay : MethodName := ⟨RX6, "lay", "(ZIIII)I"⟩
abbrev cX6_speeds : ByteArray := prog_8_method_48_code
def yX6_speeds : MethodName := ⟨RX6, "speeds", "(IIIIII)I"⟩
abbrev cX6_nails : ByteArray := prog_8_method_49_code
def yX6_nails : MethodName := ⟨RX6, "nails", "(IIIII)I"⟩
abbrev cX6_slicks : ByteArray := prog_8_method_50_code
def yX6_slicks : MethodName := ⟨RX6, "slicks", "(IIIII)I"⟩
abbrev cX6_kinds : ByteArray := prog_8_method_51_code
def yX6_kinds : MethodName := ⟨RX6, "kinds", "(IIIII)I"⟩
abbrev cX6_inLeastTerms : ByteArray := prog_8_method_52_code
def yX6_inLeastTerms : MethodName := ⟨RX6, "inLeastTerms", "(JJI)J"⟩
abbrev cX6_isUpByRain : ByteArray := prog_8_method_53_code
def yX6_isUpByRain : MethodName := ⟨RX6, "isUpByRain", "(II)Z"⟩
abbrev cX6_odds : ByteArray := prog_8_method_54_code
def yX6_odds : MethodName := ⟨RX6, "odds", "(IIIIII)J"⟩
abbrev cX6_sheet : ByteArray := prog_8_method_55_code
def yX6_sheet : MethodName := ⟨RX6, "sheet", "(III)I"⟩
abbrev cX6_lose : ByteArray := prog_8_method_56_code
def yX6_lose : MethodName := ⟨RX6, "lose", "(I)I"⟩
abbrev cX6_put : ByteArray := prog_8_method_57_code
def yX6_put : MethodName := ⟨RX6, "put", "(III)I"⟩
abbrev cX6_cell : ByteArray := prog_8_method_58_code
def yX6_cell : MethodName := ⟨RX6, "cell", "(III)J"⟩
abbrev cX6_copy : ByteArray := prog_8_method_59_code
def yX6_copy : MethodName := ⟨RX6, "copy", "(IIIII)I"⟩
abbrev cX6_begins : ByteArray := prog_8_method_60_code
def yX6_begins : MethodName := ⟨RX6, "begins", "(I)V"⟩
abbrev cX6_tell : ByteArray := prog_8_method_61_code
def yX6_tell : MethodName := ⟨RX6, "tell", "(I)I"⟩
abbrev cX6_cheer : ByteArray := prog_8_method_62_code
def yX6_cheer : MethodName := ⟨RX6, "cheer", "(I)I"⟩
abbrev cX6_as : ByteArray := prog_8_method_63_code
def yX6_as : MethodName := ⟨RX6, "as", "(II)I"⟩
abbrev cX6_trace : ByteArray := prog_8_method_64_code
def yX6_trace : MethodName := ⟨RX6, "trace", "()I"⟩
abbrev cX6_fault : ByteArray := prog_8_method_65_code
def yX6_fault : MethodName := ⟨RX6, "fault", "()I"⟩
abbrev cX6_many : ByteArray := prog_8_method_66_code
def yX6_many : MethodName := ⟨RX6, "many", "(I)I"⟩
def RJ6 : String := "java/lang/Integer"
def TJ6 : u_T := fun k => match k with
  | _ => ("", "", "", false)
def tyJ6 : Nat → FieldType := fun k => match k with
  | _ => .int
abbrev wsJ60 : List Cond := u_ws RJ6 TJ6 0
theorem nmJ6 : ∀ a, a < 0 → ∀ b, b < 0 → a ≠ b → (TJ6 a).2.1 ≠ (TJ6 b).2.1 := by decide +kernel
theorem tyJ6_ok : ∀ k, k < 0 → parseFieldDescriptor (TJ6 k).2.2.1 = some (tyJ6 k) := by decide +kernel
abbrev cJ6_numberOfTrailingZeros_0f7a4 : ByteArray := prog_9_method_48_code
def yJ6_numberOfTrailingZeros_0f7a4 : MethodName := ⟨RJ6, "numberOfTrailingZeros", "(I)I"⟩
abbrev cJ6_bitCount_0f7a4 : ByteArray := prog_9_method_49_code
def yJ6_bitCount_0f7a4 : MethodName := ⟨RJ6, "bitCount", "(I)I"⟩
def RJ9 : String := "java/lang/Math"
def TJ9 : u_T := fun k => match k with
  | _ => ("", "", "", false)
def tyJ9 : Nat → FieldType := fun k => match k with
  | _ => .int
abbrev wsJ90 : List Cond := u_ws RJ9 TJ9 0
theorem nmJ9 : ∀ a, a < 0 → ∀ b, b < 0 → a ≠ b → (TJ9 a).2.1 ≠ (TJ9 b).2.1 := by decide +kernel
theorem tyJ9_ok : ∀ k, k < 0 → parseFieldDescriptor (TJ9 k).2.2.1 = some (tyJ9 k) := by decide +kernel
abbrev cJ9_max_7cf53 : ByteArray := prog_10_method_65_code
def yJ9_max_7cf53 : MethodName := ⟨RJ9, "max", "(II)I"⟩
abbrev cJ9_min_7cf53 : ByteArray := prog_10_method_69_code
def yJ9_min_7cf53 : MethodName := ⟨RJ9, "min", "(II)I"⟩
def RJ10 : String := "java/lang/System"
def TJ10 : u_T := fun k => match k with
  | _ => ("", "", "", false)
def tyJ10 : Nat → FieldType := fun k => match k with
  | _ => .int
abbrev wsJ100 : List Cond := u_ws RJ10 TJ10 0
theorem nmJ10 : ∀ a, a < 0 → ∀ b, b < 0 → a ≠ b → (TJ10 a).2.1 ≠ (TJ10 b).2.1 := by decide +kernel
theorem tyJ10_ok : ∀ k, k < 0 → parseFieldDescriptor (TJ10 k).2.2.1 = some (tyJ10 k) := by decide +kernel
def RJ7 : String := "java/util/Arrays"
def TJ7 : u_T := fun k => match k with
  | _ => ("", "", "", false)
def tyJ7 : Nat → FieldType := fun k => match k with
  | _ => .int
abbrev wsJ70 : List Cond := u_ws RJ7 TJ7 0
theorem nmJ7 : ∀ a, a < 0 → ∀ b, b < 0 → a ≠ b → (TJ7 a).2.1 ≠ (TJ7 b).2.1 := by decide +kernel
theorem tyJ7_ok : ∀ k, k < 0 → parseFieldDescriptor (TJ7 k).2.2.1 = some (tyJ7 k) := by decide +kernel
abbrev cJ7_fill_53178 : ByteArray := prog_12_method_103_code
def yJ7_fill_53178 : MethodName := ⟨RJ7, "fill", "([II)V"⟩
def RL : String := "GlassHillLaw"
abbrev cL_law : ByteArray := code
def yL_law : MethodName := ⟨RL, "law", "([I)Z"⟩
abbrev vwCl : List vw_C := [(RX0, TX0, 5), (RX1, TX1, 3), (RX2, TX2, 3), (RX3, TX3, 7), (RX5, TX5, 8), (RX6, TX6, 30)]
