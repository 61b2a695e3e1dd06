section
-- ===== PART A: goes FIRST, ahead of the names: the tables' words, and 'selects' of the private methods out of them =====
/-- a private method of a class that the tables say can be made, by its rows of tables_1 -/
def lw_okq (q : MethodName × Nat) : Prop := (q.1.cls ≠ "java/lang/invoke/MethodHandle" ∧ q.1.cls ≠ "java/lang/invoke/VarHandle") ∧ Cond.instantiable q.1.cls q.2 ∈ tables_1 ∧ Cond.privateMethod q.1 ∈ tables_1 ∧ Cond.instanceMethod q.1 ∈ tables_1
theorem lw_p0 : lw_okq (⟨"BranchedPast", "requireBranch", "(I)V"⟩, 8) := ⟨⟨by decide +kernel, by decide +kernel⟩, List.mem_of_getElem? (i := 17) (by decide +kernel), List.mem_of_getElem? (i := 168) (by decide +kernel), List.mem_of_getElem? (i := 169) (by decide +kernel)⟩
theorem lw_p1 : lw_okq (⟨"java/lang/Throwable", "fillInStackTrace", "(I)Ljava/lang/Throwable;"⟩, 6) := ⟨⟨by decide +kernel, by decide +kernel⟩, List.mem_of_getElem? (i := 211) (by decide +kernel), List.mem_of_getElem? (i := 209) (by decide +kernel), List.mem_of_getElem? (i := 210) (by decide +kernel)⟩
theorem lw_p2 : lw_okq (⟨"BranchedPast", "requireReadable", "(II)V"⟩, 8) := ⟨⟨by decide +kernel, by decide +kernel⟩, List.mem_of_getElem? (i := 17) (by decide +kernel), List.mem_of_getElem? (i := 241) (by decide +kernel), List.mem_of_getElem? (i := 242) (by decide +kernel)⟩
theorem lw_p3 : lw_okq (⟨"BranchedPast", "firstReadable", "(I)I"⟩, 8) := ⟨⟨by decide +kernel, by decide +kernel⟩, List.mem_of_getElem? (i := 17) (by decide +kernel), List.mem_of_getElem? (i := 245) (by decide +kernel), List.mem_of_getElem? (i := 246) (by decide +kernel)⟩
theorem lw_p4 : lw_okq (⟨"BranchedPast", "requireOpen", "(I)V"⟩, 8) := ⟨⟨by decide +kernel, by decide +kernel⟩, List.mem_of_getElem? (i := 17) (by decide +kernel), List.mem_of_getElem? (i := 295) (by decide +kernel), List.mem_of_getElem? (i := 296) (by decide +kernel)⟩
theorem lw_p5 : lw_okq (⟨"BranchedPast", "requireRoomFor", "(I)V"⟩, 8) := ⟨⟨by decide +kernel, by decide +kernel⟩, List.mem_of_getElem? (i := 17) (by decide +kernel), List.mem_of_getElem? (i := 328) (by decide +kernel), List.mem_of_getElem? (i := 329) (by decide +kernel)⟩
theorem lw_p6 : lw_okq (⟨"BranchedPast", "append", "(IIII)V"⟩, 8) := ⟨⟨by decide +kernel, by decide +kernel⟩, List.mem_of_getElem? (i := 17) (by decide +kernel), List.mem_of_getElem? (i := 351) (by decide +kernel), List.mem_of_getElem? (i := 352) (by decide +kernel)⟩
theorem lw_p7 : lw_okq (⟨"BranchedPast", "look", "(LBranchedPast$View;II)V"⟩, 8) := ⟨⟨by decide +kernel, by decide +kernel⟩, List.mem_of_getElem? (i := 17) (by decide +kernel), List.mem_of_getElem? (i := 370) (by decide +kernel), List.mem_of_getElem? (i := 371) (by decide +kernel)⟩
theorem lw_p8 : lw_okq (⟨"BranchedPast", "markGiven", "(I)V"⟩, 8) := ⟨⟨by decide +kernel, by decide +kernel⟩, List.mem_of_getElem? (i := 17) (by decide +kernel), List.mem_of_getElem? (i := 404) (by decide +kernel), List.mem_of_getElem? (i := 405) (by decide +kernel)⟩
theorem lw_p9 : lw_okq (⟨"BranchedPast", "countConflicts", "()I"⟩, 8) := ⟨⟨by decide +kernel, by decide +kernel⟩, List.mem_of_getElem? (i := 17) (by decide +kernel), List.mem_of_getElem? (i := 452) (by decide +kernel), List.mem_of_getElem? (i := 453) (by decide +kernel)⟩
theorem lw_p10 : lw_okq (⟨"BranchedPast", "isCarried", "(I)Z"⟩, 8) := ⟨⟨by decide +kernel, by decide +kernel⟩, List.mem_of_getElem? (i := 17) (by decide +kernel), List.mem_of_getElem? (i := 456) (by decide +kernel), List.mem_of_getElem? (i := 457) (by decide +kernel)⟩
theorem lw_p11 : lw_okq (⟨"BranchedPast", "countCarried", "()I"⟩, 8) := ⟨⟨by decide +kernel, by decide +kernel⟩, List.mem_of_getElem? (i := 17) (by decide +kernel), List.mem_of_getElem? (i := 460) (by decide +kernel), List.mem_of_getElem? (i := 461) (by decide +kernel)⟩
theorem lw_p12 : lw_okq (⟨"BranchedPast", "carryTo", "(I)V"⟩, 8) := ⟨⟨by decide +kernel, by decide +kernel⟩, List.mem_of_getElem? (i := 17) (by decide +kernel), List.mem_of_getElem? (i := 464) (by decide +kernel), List.mem_of_getElem? (i := 465) (by decide +kernel)⟩
theorem lw_p13 : lw_okq (⟨"BranchedPast$Writes", "moveRow", "(II)V"⟩, 7) := ⟨⟨by decide +kernel, by decide +kernel⟩, List.mem_of_getElem? (i := 54) (by decide +kernel), List.mem_of_getElem? (i := 480) (by decide +kernel), List.mem_of_getElem? (i := 481) (by decide +kernel)⟩
theorem lw_p14 : lw_okq (⟨"BranchedPast$View", "target", "(I)I"⟩, 3) := ⟨⟨by decide +kernel, by decide +kernel⟩, List.mem_of_getElem? (i := 83) (by decide +kernel), List.mem_of_getElem? (i := 503) (by decide +kernel), List.mem_of_getElem? (i := 504) (by decide +kernel)⟩
theorem lw_p15 : lw_okq (⟨"BranchedPast$Path", "takeStart", "()Z"⟩, 4) := ⟨⟨by decide +kernel, by decide +kernel⟩, List.mem_of_getElem? (i := 105) (by decide +kernel), List.mem_of_getElem? (i := 542) (by decide +kernel), List.mem_of_getElem? (i := 543) (by decide +kernel)⟩
def lw_privs_1 : List (MethodName × Nat) := [(⟨"BranchedPast", "requireBranch", "(I)V"⟩, 8), (⟨"java/lang/Throwable", "fillInStackTrace", "(I)Ljava/lang/Throwable;"⟩, 6), (⟨"BranchedPast", "requireReadable", "(II)V"⟩, 8), (⟨"BranchedPast", "firstReadable", "(I)I"⟩, 8), (⟨"BranchedPast", "requireOpen", "(I)V"⟩, 8), (⟨"BranchedPast", "requireRoomFor", "(I)V"⟩, 8), (⟨"BranchedPast", "append", "(IIII)V"⟩, 8), (⟨"BranchedPast", "look", "(LBranchedPast$View;II)V"⟩, 8), (⟨"BranchedPast", "markGiven", "(I)V"⟩, 8), (⟨"BranchedPast", "countConflicts", "()I"⟩, 8), (⟨"BranchedPast", "isCarried", "(I)Z"⟩, 8), (⟨"BranchedPast", "countCarried", "()I"⟩, 8), (⟨"BranchedPast", "carryTo", "(I)V"⟩, 8), (⟨"BranchedPast$Writes", "moveRow", "(II)V"⟩, 7), (⟨"BranchedPast$View", "target", "(I)I"⟩, 3), (⟨"BranchedPast$Path", "takeStart", "()Z"⟩, 4)]
theorem lw_r1 : ∀ q ∈ lw_privs_1, lw_okq q := List.forall_mem_cons.mpr ⟨lw_p0, List.forall_mem_cons.mpr ⟨lw_p1, List.forall_mem_cons.mpr ⟨lw_p2, List.forall_mem_cons.mpr ⟨lw_p3, List.forall_mem_cons.mpr ⟨lw_p4, List.forall_mem_cons.mpr ⟨lw_p5, List.forall_mem_cons.mpr ⟨lw_p6, List.forall_mem_cons.mpr ⟨lw_p7, List.forall_mem_cons.mpr ⟨lw_p8, List.forall_mem_cons.mpr ⟨lw_p9, List.forall_mem_cons.mpr ⟨lw_p10, List.forall_mem_cons.mpr ⟨lw_p11, List.forall_mem_cons.mpr ⟨lw_p12, List.forall_mem_cons.mpr ⟨lw_p13, List.forall_mem_cons.mpr ⟨lw_p14, List.forall_mem_cons.mpr ⟨lw_p15, fun _ h => absurd h List.not_mem_nil⟩⟩⟩⟩⟩⟩⟩⟩⟩⟩⟩⟩⟩⟩⟩⟩
theorem lw_p16 : lw_okq (⟨"BranchedPast$Path", "next", "()C"⟩, 4) := ⟨⟨by decide +kernel, by decide +kernel⟩, List.mem_of_getElem? (i := 105) (by decide +kernel), List.mem_of_getElem? (i := 546) (by decide +kernel), List.mem_of_getElem? (i := 547) (by decide +kernel)⟩
theorem lw_p17 : lw_okq (⟨"BranchedPast$Path", "takeStep", "(LBranchedPast$View;)Z"⟩, 4) := ⟨⟨by decide +kernel, by decide +kernel⟩, List.mem_of_getElem? (i := 105) (by decide +kernel), List.mem_of_getElem? (i := 551) (by decide +kernel), List.mem_of_getElem? (i := 552) (by decide +kernel)⟩
theorem lw_p18 : lw_okq (⟨"BranchedPast$Path", "move", "(LBranchedPast$View;ZI)V"⟩, 4) := ⟨⟨by decide +kernel, by decide +kernel⟩, List.mem_of_getElem? (i := 105) (by decide +kernel), List.mem_of_getElem? (i := 555) (by decide +kernel), List.mem_of_getElem? (i := 556) (by decide +kernel)⟩
theorem lw_p19 : lw_okq (⟨"BranchedPast$Path", "takes", "(C)Z"⟩, 4) := ⟨⟨by decide +kernel, by decide +kernel⟩, List.mem_of_getElem? (i := 105) (by decide +kernel), List.mem_of_getElem? (i := 559) (by decide +kernel), List.mem_of_getElem? (i := 560) (by decide +kernel)⟩
theorem lw_p20 : lw_okq (⟨"BranchedPast$Path", "moved", "(LBranchedPast$View;ZI)I"⟩, 4) := ⟨⟨by decide +kernel, by decide +kernel⟩, List.mem_of_getElem? (i := 105) (by decide +kernel), List.mem_of_getElem? (i := 563) (by decide +kernel), List.mem_of_getElem? (i := 564) (by decide +kernel)⟩
theorem lw_p21 : lw_okq (⟨"BranchedPast$Path", "takeComparison", "(LBranchedPast$View;I)Z"⟩, 4) := ⟨⟨by decide +kernel, by decide +kernel⟩, List.mem_of_getElem? (i := 105) (by decide +kernel), List.mem_of_getElem? (i := 572) (by decide +kernel), List.mem_of_getElem? (i := 573) (by decide +kernel)⟩
theorem lw_p22 : lw_okq (⟨"BranchedPast$Path", "takeNumber", "()I"⟩, 4) := ⟨⟨by decide +kernel, by decide +kernel⟩, List.mem_of_getElem? (i := 105) (by decide +kernel), List.mem_of_getElem? (i := 576) (by decide +kernel), List.mem_of_getElem? (i := 577) (by decide +kernel)⟩
theorem lw_p23 : lw_okq (⟨"BranchedPastModel", "noBranch", "(I)Z"⟩, 18) := ⟨⟨by decide +kernel, by decide +kernel⟩, List.mem_of_getElem? (i := 612) (by decide +kernel), List.mem_of_getElem? (i := 681) (by decide +kernel), List.mem_of_getElem? (i := 682) (by decide +kernel)⟩
theorem lw_p24 : lw_okq (⟨"BranchedPastModel", "unreadable", "(II)Z"⟩, 18) := ⟨⟨by decide +kernel, by decide +kernel⟩, List.mem_of_getElem? (i := 612) (by decide +kernel), List.mem_of_getElem? (i := 685) (by decide +kernel), List.mem_of_getElem? (i := 686) (by decide +kernel)⟩
theorem lw_p25 : lw_okq (⟨"BranchedPastModel", "first", "(I)I"⟩, 18) := ⟨⟨by decide +kernel, by decide +kernel⟩, List.mem_of_getElem? (i := 612) (by decide +kernel), List.mem_of_getElem? (i := 689) (by decide +kernel), List.mem_of_getElem? (i := 690) (by decide +kernel)⟩
theorem lw_p26 : lw_okq (⟨"BranchedPastModel", "others", "(I)I"⟩, 18) := ⟨⟨by decide +kernel, by decide +kernel⟩, List.mem_of_getElem? (i := 612) (by decide +kernel), List.mem_of_getElem? (i := 697) (by decide +kernel), List.mem_of_getElem? (i := 698) (by decide +kernel)⟩
theorem lw_p27 : lw_okq (⟨"BranchedPastModel", "enter", "(IIII)V"⟩, 18) := ⟨⟨by decide +kernel, by decide +kernel⟩, List.mem_of_getElem? (i := 612) (by decide +kernel), List.mem_of_getElem? (i := 708) (by decide +kernel), List.mem_of_getElem? (i := 709) (by decide +kernel)⟩
theorem lw_p28 : lw_okq (⟨"BranchedPastModel", "latest", "(III)I"⟩, 18) := ⟨⟨by decide +kernel, by decide +kernel⟩, List.mem_of_getElem? (i := 612) (by decide +kernel), List.mem_of_getElem? (i := 716) (by decide +kernel), List.mem_of_getElem? (i := 717) (by decide +kernel)⟩
theorem lw_p29 : lw_okq (⟨"BranchedPastModel", "sees", "(III)Z"⟩, 18) := ⟨⟨by decide +kernel, by decide +kernel⟩, List.mem_of_getElem? (i := 612) (by decide +kernel), List.mem_of_getElem? (i := 720) (by decide +kernel), List.mem_of_getElem? (i := 721) (by decide +kernel)⟩
theorem lw_p30 : lw_okq (⟨"BranchedPastModel", "kindOf", "(I)I"⟩, 18) := ⟨⟨by decide +kernel, by decide +kernel⟩, List.mem_of_getElem? (i := 612) (by decide +kernel), List.mem_of_getElem? (i := 724) (by decide +kernel), List.mem_of_getElem? (i := 725) (by decide +kernel)⟩
theorem lw_p31 : lw_okq (⟨"BranchedPastModel", "valueOf", "(I)I"⟩, 18) := ⟨⟨by decide +kernel, by decide +kernel⟩, List.mem_of_getElem? (i := 612) (by decide +kernel), List.mem_of_getElem? (i := 728) (by decide +kernel), List.mem_of_getElem? (i := 729) (by decide +kernel)⟩
def lw_privs_2 : List (MethodName × Nat) := [(⟨"BranchedPast$Path", "next", "()C"⟩, 4), (⟨"BranchedPast$Path", "takeStep", "(LBranchedPast$View;)Z"⟩, 4), (⟨"BranchedPast$Path", "move", "(LBranchedPast$View;ZI)V"⟩, 4), (⟨"BranchedPast$Path", "takes", "(C)Z"⟩, 4), (⟨"BranchedPast$Path", "moved", "(LBranchedPast$View;ZI)I"⟩, 4), (⟨"BranchedPast$Path", "takeComparison", "(LBranchedPast$View;I)Z"⟩, 4), (⟨"BranchedPast$Path", "takeNumber", "()I"⟩, 4), (⟨"BranchedPastModel", "noBranch", "(I)Z"⟩, 18), (⟨"BranchedPastModel", "unreadable", "(II)Z"⟩, 18), (⟨"BranchedPastModel", "first", "(I)I"⟩, 18), (⟨"BranchedPastModel", "others", "(I)I"⟩, 18), (⟨"BranchedPastModel", "enter", "(IIII)V"⟩, 18), (⟨"BranchedPastModel", "latest", "(III)I"⟩, 18), (⟨"BranchedPastModel", "sees", "(III)Z"⟩, 18), (⟨"BranchedPastModel", "kindOf", "(I)I"⟩, 18), (⟨"BranchedPastModel", "valueOf", "(I)I"⟩, 18)]
theorem lw_r2 : ∀ q ∈ lw_privs_2, lw_okq q := List.forall_mem_cons.mpr ⟨lw_p16, List.forall_mem_cons.mpr ⟨lw_p17, List.forall_mem_cons.mpr ⟨lw_p18, List.forall_mem_cons.mpr ⟨lw_p19, List.forall_mem_cons.mpr ⟨lw_p20, List.forall_mem_cons.mpr ⟨lw_p21, List.forall_mem_cons.mpr ⟨lw_p22, List.forall_mem_cons.mpr ⟨lw_p23, List.forall_mem_cons.mpr ⟨lw_p24, List.forall_mem_cons.mpr ⟨lw_p25, List.forall_mem_cons.mpr ⟨lw_p26, List.forall_mem_cons.mpr ⟨lw_p27, List.forall_mem_cons.mpr ⟨lw_p28, List.forall_mem_cons.mpr ⟨lw_p29, List.forall_mem_cons.mpr ⟨lw_p30, List.forall_mem_cons.mpr ⟨lw_p31, fun _ h => absurd h List.not_mem_nil⟩⟩⟩⟩⟩⟩⟩⟩⟩⟩⟩⟩⟩⟩⟩⟩
theorem lw_p32 : lw_okq (⟨"BranchedPastModel", "gives", "(II)Z"⟩, 18) := ⟨⟨by decide +kernel, by decide +kernel⟩, List.mem_of_getElem? (i := 612) (by decide +kernel), List.mem_of_getElem? (i := 736) (by decide +kernel), List.mem_of_getElem? (i := 737) (by decide +kernel)⟩
theorem lw_p33 : lw_okq (⟨"BranchedPastModel", "alike", "(II)Z"⟩, 18) := ⟨⟨by decide +kernel, by decide +kernel⟩, List.mem_of_getElem? (i := 612) (by decide +kernel), List.mem_of_getElem? (i := 744) (by decide +kernel), List.mem_of_getElem? (i := 745) (by decide +kernel)⟩
theorem lw_p34 : lw_okq (⟨"BranchedPastModel", "meet", "(II)I"⟩, 18) := ⟨⟨by decide +kernel, by decide +kernel⟩, List.mem_of_getElem? (i := 612) (by decide +kernel), List.mem_of_getElem? (i := 752) (by decide +kernel), List.mem_of_getElem? (i := 753) (by decide +kernel)⟩
theorem lw_p35 : lw_okq (⟨"BranchedPastModel", "isOnLine", "(II)Z"⟩, 18) := ⟨⟨by decide +kernel, by decide +kernel⟩, List.mem_of_getElem? (i := 612) (by decide +kernel), List.mem_of_getElem? (i := 756) (by decide +kernel), List.mem_of_getElem? (i := 757) (by decide +kernel)⟩
theorem lw_p36 : lw_okq (⟨"BranchedPastModel", "left", "(II)I"⟩, 18) := ⟨⟨by decide +kernel, by decide +kernel⟩, List.mem_of_getElem? (i := 612) (by decide +kernel), List.mem_of_getElem? (i := 760) (by decide +kernel), List.mem_of_getElem? (i := 761) (by decide +kernel)⟩
theorem lw_p37 : lw_okq (⟨"BranchedPastModel", "changed", "(III)Z"⟩, 18) := ⟨⟨by decide +kernel, by decide +kernel⟩, List.mem_of_getElem? (i := 612) (by decide +kernel), List.mem_of_getElem? (i := 768) (by decide +kernel), List.mem_of_getElem? (i := 769) (by decide +kernel)⟩
theorem lw_p38 : lw_okq (⟨"BranchedPastModel", "along", "(IIII)I"⟩, 18) := ⟨⟨by decide +kernel, by decide +kernel⟩, List.mem_of_getElem? (i := 612) (by decide +kernel), List.mem_of_getElem? (i := 780) (by decide +kernel), List.mem_of_getElem? (i := 781) (by decide +kernel)⟩
theorem lw_p39 : lw_okq (⟨"BranchedPastModel", "stepOf", "(III)I"⟩, 18) := ⟨⟨by decide +kernel, by decide +kernel⟩, List.mem_of_getElem? (i := 612) (by decide +kernel), List.mem_of_getElem? (i := 796) (by decide +kernel), List.mem_of_getElem? (i := 797) (by decide +kernel)⟩
theorem lw_p40 : lw_okq (⟨"BranchedPastModel", "eats", "(I)Z"⟩, 18) := ⟨⟨by decide +kernel, by decide +kernel⟩, List.mem_of_getElem? (i := 612) (by decide +kernel), List.mem_of_getElem? (i := 800) (by decide +kernel), List.mem_of_getElem? (i := 801) (by decide +kernel)⟩
theorem lw_p41 : lw_okq (⟨"BranchedPastModel", "peek", "()I"⟩, 18) := ⟨⟨by decide +kernel, by decide +kernel⟩, List.mem_of_getElem? (i := 612) (by decide +kernel), List.mem_of_getElem? (i := 804) (by decide +kernel), List.mem_of_getElem? (i := 805) (by decide +kernel)⟩
theorem lw_p42 : lw_okq (⟨"BranchedPastModel", "follow", "(IZII)I"⟩, 18) := ⟨⟨by decide +kernel, by decide +kernel⟩, List.mem_of_getElem? (i := 612) (by decide +kernel), List.mem_of_getElem? (i := 808) (by decide +kernel), List.mem_of_getElem? (i := 809) (by decide +kernel)⟩
theorem lw_p43 : lw_okq (⟨"BranchedPastModel", "digit", "(I)I"⟩, 18) := ⟨⟨by decide +kernel, by decide +kernel⟩, List.mem_of_getElem? (i := 612) (by decide +kernel), List.mem_of_getElem? (i := 812) (by decide +kernel), List.mem_of_getElem? (i := 813) (by decide +kernel)⟩
theorem lw_p44 : lw_okq (⟨"BranchedPastModel", "against", "(IIII)I"⟩, 18) := ⟨⟨by decide +kernel, by decide +kernel⟩, List.mem_of_getElem? (i := 612) (by decide +kernel), List.mem_of_getElem? (i := 816) (by decide +kernel), List.mem_of_getElem? (i := 817) (by decide +kernel)⟩
theorem lw_p45 : lw_okq (⟨"BranchedPastModel", "filter", "(III)I"⟩, 18) := ⟨⟨by decide +kernel, by decide +kernel⟩, List.mem_of_getElem? (i := 612) (by decide +kernel), List.mem_of_getElem? (i := 820) (by decide +kernel), List.mem_of_getElem? (i := 821) (by decide +kernel)⟩
theorem lw_p46 : lw_okq (⟨"BranchedPastModel", "number", "()I"⟩, 18) := ⟨⟨by decide +kernel, by decide +kernel⟩, List.mem_of_getElem? (i := 612) (by decide +kernel), List.mem_of_getElem? (i := 824) (by decide +kernel), List.mem_of_getElem? (i := 825) (by decide +kernel)⟩
theorem lw_p47 : lw_okq (⟨"BranchedPastModel", "isDigit", "()Z"⟩, 18) := ⟨⟨by decide +kernel, by decide +kernel⟩, List.mem_of_getElem? (i := 612) (by decide +kernel), List.mem_of_getElem? (i := 828) (by decide +kernel), List.mem_of_getElem? (i := 829) (by decide +kernel)⟩
def lw_privs_3 : List (MethodName × Nat) := [(⟨"BranchedPastModel", "gives", "(II)Z"⟩, 18), (⟨"BranchedPastModel", "alike", "(II)Z"⟩, 18), (⟨"BranchedPastModel", "meet", "(II)I"⟩, 18), (⟨"BranchedPastModel", "isOnLine", "(II)Z"⟩, 18), (⟨"BranchedPastModel", "left", "(II)I"⟩, 18), (⟨"BranchedPastModel", "changed", "(III)Z"⟩, 18), (⟨"BranchedPastModel", "along", "(IIII)I"⟩, 18), (⟨"BranchedPastModel", "stepOf", "(III)I"⟩, 18), (⟨"BranchedPastModel", "eats", "(I)Z"⟩, 18), (⟨"BranchedPastModel", "peek", "()I"⟩, 18), (⟨"BranchedPastModel", "follow", "(IZII)I"⟩, 18), (⟨"BranchedPastModel", "digit", "(I)I"⟩, 18), (⟨"BranchedPastModel", "against", "(IIII)I"⟩, 18), (⟨"BranchedPastModel", "filter", "(III)I"⟩, 18), (⟨"BranchedPastModel", "number", "()I"⟩, 18), (⟨"BranchedPastModel", "isDigit", "()Z"⟩, 18)]
theorem lw_r3 : ∀ q ∈ lw_privs_3, lw_okq q := List.forall_mem_cons.mpr ⟨lw_p32, List.forall_mem_cons.mpr ⟨lw_p33, List.forall_mem_cons.mpr ⟨lw_p34, List.forall_mem_cons.mpr ⟨lw_p35, List.forall_mem_cons.mpr ⟨lw_p36, List.forall_mem_cons.mpr ⟨lw_p37, List.forall_mem_cons.mpr ⟨lw_p38, List.forall_mem_cons.mpr ⟨lw_p39, List.forall_mem_cons.mpr ⟨lw_p40, List.forall_mem_cons.mpr ⟨lw_p41, List.forall_mem_cons.mpr ⟨lw_p42, List.forall_mem_cons.mpr ⟨lw_p43, List.forall_mem_cons.mpr ⟨lw_p44, List.forall_mem_cons.mpr ⟨lw_p45, List.forall_mem_cons.mpr ⟨lw_p46, List.forall_mem_cons.mpr ⟨lw_p47, fun _ h => absurd h List.not_mem_nil⟩⟩⟩⟩⟩⟩⟩⟩⟩⟩⟩⟩⟩⟩⟩⟩
theorem lw_p48 : lw_okq (⟨"BranchedPastModel", "empty", "(III)I"⟩, 18) := ⟨⟨by decide +kernel, by decide +kernel⟩, List.mem_of_getElem? (i := 612) (by decide +kernel), List.mem_of_getElem? (i := 832) (by decide +kernel), List.mem_of_getElem? (i := 833) (by decide +kernel)⟩
def lw_privs_4 : List (MethodName × Nat) := [(⟨"BranchedPastModel", "empty", "(III)I"⟩, 18)]
theorem lw_r4 : ∀ q ∈ lw_privs_4, lw_okq q := List.forall_mem_cons.mpr ⟨lw_p48, fun _ h => absurd h List.not_mem_nil⟩
def lw_privs : List (MethodName × Nat) := lw_privs_1 ++ (lw_privs_2 ++ (lw_privs_3 ++ (lw_privs_4)))
def lw_tbl : List Cond := k2_sels lw_privs ++ tables_1
theorem lw_privs_ok : ∀ q ∈ lw_privs, lw_okq q := by
  show ∀ q ∈ lw_privs_1 ++ (lw_privs_2 ++ (lw_privs_3 ++ (lw_privs_4))), lw_okq q
  exact List.forall_mem_append.mpr ⟨lw_r1, List.forall_mem_append.mpr ⟨lw_r2, List.forall_mem_append.mpr ⟨lw_r3, lw_r4⟩⟩⟩
/-! from claim/NAMES.whole.lean.txt: the rows on exceptions that are used here -/
section VXA
/-- where a method has thrown q: the class by its name, the cell, what was written, the world -/
def vx_T (XC : String → State → State → Prop) (st : State) (q : Addr) (t : State) (mc ms : Nat) (free : Addr → Prop) : Prop :=
  ∃ (E : String) (ce : Cell) (L : List Loc), XC E st t ∧ t.heap[q]? = some ce ∧ ce.vm = .none ∧ st.vm.findClass E = some ce.cls ∧ st.WarmedH t.vm ∧ st.sameButNew ({ t with vm := st.vm } : State) L mc ms ∧ ∀ z ∈ L, free z.base
def vx_Q (Qc : Array Value → State → Outcome → State → Prop) (XC : String → State → State → Prop) (mc ms : Nat) (free : Addr → Prop) : Array Value → State → Outcome → State → Prop := fun a st o t =>
  (Qc a st o t ∧ ∃ L, FrameEnd st o t L mc ms ∧ ∀ q ∈ L, free q.base) ∨ ∃ q, o = .threw q ∧ vx_T XC st q t mc ms free
section Payer
variable {l : Launch} {R : Room} {p : Program} {e : Env} {below : List Frame} {s : State} {sargs : Array Value} {y : MethodName} {len W9 : Nat}
end Payer
section Calls
variable {p : Program} {l : Launch} {e : Env} {R : Room} {s : State} {m : MethodId} {args : Array Value} {below : List Frame} {meth : Method} {c : Code} {T : State} {locs : List Loc} {cells slots : Nat}
end Calls
/-- the method's frame g, with q thrown over it -/
def vx_W (p : Program) (l : Launch) (e : Env) (R : Room) (s : State) (m : MethodId) (args : Array Value) (below : List Frame) (meth : Method) (c : Code) (H : Heap) (locs : List Loc) (cells slots : Nat) (Q : State → Prop) (g : JFrame) (q : Addr) : Prop :=
  ∀ T : State, T.heap = H → Stand p l e R s m args below meth c T locs cells slots → ∃ t, Steps p.tables e below ((T.setTop g).pushFrame (.throwing q)) t ∧ Q t
section Runs
variable {p : Program} {l : Launch} {e : Env} {R : Room} {s : State} {m : MethodId} {args : Array Value} {below : List Frame} {meth : Method} {c : Code} {H : Heap} {locs : List Loc} {cells slots : Nat}
variable {y : MethodName} {bytes cc : ByteArray} {maxL nL mc ms n index : Nat} {ret : Option FieldType} {ws : List Cond} {rm : Room} {Pc : Array Value → State → Prop} {Qc : Array Value → State → Outcome → State → Prop} {XC : String → State → State → Prop} {free : Addr → Prop} {Ts : List Cond} {own C : String} {b : Addr} {As rest : List Value} {g : JFrame}
end Runs
section Rows
variable {p : Program} {l : Launch} {e : Env} {R : Room} {s : State} {m : MethodId} {args : Array Value} {below : List Frame} {meth : Method} {c : Code} {H : Heap} {locs : List Loc} {cells slots : Nat} {Q : State → Prop}
variable {mc ms : Nat} {free : Addr → Prop} {A0 A1 : Nat → Prop} {H0 : Heap} {a : Array Value} {pc : Nat} {ls : Array Slot} {st0 rest : List Value}
/-- caught by the row x of this method's table; the rows ahead don't take it -/
theorem vx_catch {own name : String} {E : String} {ce : Cell} {q : Addr} (hown : s.vm.findClass own = some m.cls) (pre : List ExceptionTableEntry) (x : ExceptionTableEntry) (suf : List ExceptionTableEntry) (hsplit : c.exceptionTable.toList = pre ++ x :: suf)
    (hpass : ∀ z ∈ pre, covers z pc = false ∨ (z.catchType ≠ 0 ∧ ∃ nm : String, (Cond.classLink own z.catchType nm).before args s = true ∧ va_Nc E nm s)) (hx : covers x pc = true) (h0 : x.catchType ≠ 0)
    (hlink : (Cond.classLink own x.catchType name).before args s = true) (hcast : (Cond.castable E name).before args s = true) (hcell : H[q]? = some ce) (hv : ce.vm = .none) (hcl : s.vm.findClass E = some ce.cls)
    (kk : W p l e R s m args below meth c H locs cells slots Q (F0 m x.handlerPc ls [.ref q])) : vx_W p l e R s m args below meth c H locs cells slots Q (F0 m pc ls rest) q := by
  intro T hT X
  have hpl : e.platform.magicAccessors = ({} : Platform).magicAccessors := by rw [X.admits.platform]
  obtain ⟨c3, c4, hc3, hc4, hasg⟩ := Cond.castable_spec hcast
  cases Option.some.inj (hc3.symm.trans hcl)
  obtain ⟨c5, hc5, hcl5⟩ := Cond.classLink_spec hown hlink e.platform hpl
  cases Option.some.inj (hc4.symm.trans hc5)
  obtain ⟨vm', X', st⟩ := X.thenCaughtThrough q (g := F0 m pc ls rest) rfl (Steps.refl _) (by rw [hT]; exact hcell) (by rw [hv]; rfl) (by obtain ⟨k9, h9, -⟩ := Vm.findClass_spec hcl; exact ⟨k9, h9⟩) pre x suf hsplit
    (fun z hz => by
      rcases hpass z hz with h | ⟨hz0, nm, hl1, hn1⟩
      · exact Or.inl h
      · obtain ⟨c6, hc6, hcl6⟩ := Cond.classLink_spec hown hl1 e.platform hpl
        obtain ⟨a8, b8, h1, h2, h3⟩ := hn1
        cases Option.some.inj (h1.symm.trans hcl)
        cases Option.some.inj (h2.symm.trans hc6)
        exact Or.inr ⟨hz0, _, hcl6, h3⟩) hx (Or.inr ⟨h0, c4, hcl5, hasg⟩)
  obtain ⟨t, a1, b1⟩ := kk (T.setVm vm') hT X'
  exact ⟨t, st.trans a1, b1⟩
end Rows
section Ends
variable {p : Program} {l : Launch} {e : Env} {R : Room} {s : State} {m : MethodId} {args : Array Value} {below : List Frame} {meth : Method} {c : Code} {H : Heap} {locs : List Loc} {cells slots : Nat} {Q : State → Prop}
variable {mc ms : Nat} {free : Addr → Prop} {A0 A1 : Nat → Prop} {H0 : Heap} {a : Array Value} {ls : Array Slot} {st0 rest : List Value}
variable {Qc : Array Value → State → Outcome → State → Prop} {XC : String → State → State → Prop}
/-- what a body that may throw owes at its end -/
def vx_MQ (below : List Frame) (Qc : Array Value → State → Outcome → State → Prop) (XC : String → State → State → Prop) (a : Array Value) (s : State) (mc ms : Nat) (free : Addr → Prop) : State → Prop := fun t =>
  ∃ o, t.status = .running ∧ Ended t below o ∧ vx_Q Qc XC mc ms free a s o t
theorem vx_frame {U : State} {k n : Nat} (h : s.sameButNew ({ U with vm := s.vm } : State) locs k n) : s.heap.size ≤ U.heap.size ∧ ∀ q : Nat, q < s.heap.size → (∀ z ∈ locs, z.base ≠ q) → U.heap[q]? = s.heap[q]? := by
  obtain ⟨-, h2, -, -, -, h6⟩ := h
  refine ⟨h2, fun q hq hz => ?_⟩
  obtain ⟨c9, e1, e2, e3, e4⟩ := h6 q _ (Array.getElem?_eq_getElem hq)
  have hs : c9.slots = (s.heap[q]).slots := Array.ext_getElem? fun i => e4 i fun hm => hz _ hm rfl
  have h9 : c9 = s.heap[q] := by
    rw [hs] at e2
    exact e2
  have e5 : U.heap[q]? = some c9 := e1
  rw [e5, h9, Array.getElem?_eq_getElem hq]
/-- the words of a throw but the four that speak of the heap -/
def vx_no (w : Cond) : Bool := decide (w ≠ .isRef (.static Bundle.tN "UNASSIGNED_STACK" Bundle.steD)) && decide (w ≠ .isRef (.static Bundle.tN "SUPPRESSED_SENTINEL" Bundle.listD)) && decide (w ≠ .laysStatic Bundle.tN "UNASSIGNED_STACK" Bundle.steD) && decide (w ≠ .laysStatic Bundle.tN "SUPPRESSED_SENTINEL" Bundle.listD)
def vx_atS (own : String) (ic : Nat) (X : String) (names : List String) : List Cond := (Bundle.ownAtoms own ic X names).filter vx_no
/-- a word that the tables alone decide, or a good one -/
def vx_ot (w : Cond) : Bool := w.onTables || goodWord w
theorem vx_ot_at {args a' : Array Value} {s U : State} {w : Cond} (hW : s.WarmedH U.vm) (hvm : s.vm = U.vm) (hg : vx_ot w = true) (h : w.before args s = true) : w.before a' U = true := by
  simp only [vx_ot, Bool.or_eq_true] at hg
  rcases hg with hg | hg
  · exact va_tabs hg hvm h
  · exact word_at hW (good_of_word hg) h
theorem vx_own {args : Array Value} {s : State} {L : List Cond} (h1 : ∀ w ∈ L.filter vx_no, w.before args s = true)
    (hU : (Cond.isRef (.static Bundle.tN "UNASSIGNED_STACK" Bundle.steD)).before args s = true) (hN : (Cond.isRef (.static Bundle.tN "SUPPRESSED_SENTINEL" Bundle.listD)).before args s = true)
    (lU : (Cond.laysStatic Bundle.tN "UNASSIGNED_STACK" Bundle.steD).before args s = true) (lN : (Cond.laysStatic Bundle.tN "SUPPRESSED_SENTINEL" Bundle.listD).before args s = true) : ∀ w ∈ L, w.before args s = true := by
  intro w hw
  by_cases e1 : w = .isRef (.static Bundle.tN "UNASSIGNED_STACK" Bundle.steD)
  · rw [e1]; exact hU
  · by_cases e2 : w = .isRef (.static Bundle.tN "SUPPRESSED_SENTINEL" Bundle.listD)
    · rw [e2]; exact hN
    · by_cases e3 : w = .laysStatic Bundle.tN "UNASSIGNED_STACK" Bundle.steD
      · rw [e3]; exact lU
      · by_cases e4 : w = .laysStatic Bundle.tN "SUPPRESSED_SENTINEL" Bundle.listD
        · rw [e4]; exact lN
        · exact h1 w (List.mem_filter.mpr ⟨hw, by unfold vx_no; rw [decide_eq_true e1, decide_eq_true e2, decide_eq_true e3, decide_eq_true e4]; rfl⟩)
/-- where a static field lies, its class's statics cell in H -/
def vx_L (C n d : String) (A : Nat → Prop) (U : State) (H : Heap) : Prop := ∃ (c : ClassId) (k : Class) (i : Nat) (f : Field) (a : Nat) (cell : Cell), U.vm.findClass C = some c ∧ U.fieldFound? C n d = some (c, k, i, f) ∧ f.isStatic = true ∧ k.statics = some a ∧ H[a]? = some cell ∧ cell.vm.isStatics = true ∧ cell.cls = c ∧ f.slot < cell.slots.size ∧ k.staticTypes[f.slot]? = some f.type ∧ ¬ A a
theorem vx_L.moved {C n d : String} {A : Nat → Prop} {u U : State} {H : Heap} (hvm : u.vm.Alike U.vm) (h : vx_L C n d A u H) : vx_L C n d A U H := by
  obtain ⟨c, k, i, f, a, cell, h1, h2, h3, h4, h5, h6, h7, h8, h9, h10⟩ := h
  obtain ⟨k', hi', he⟩ := State.fieldFound?_setVm hvm h2
  exact ⟨c, k', i, f, a, cell, by rw [hvm.findClass]; exact h1, hi', h3, by rw [he]; exact h4, h5, h6, h7, h8, by rw [he]; exact h9, h10⟩
theorem vx_L.kept {C n d : String} {A : Nat → Prop} {U : State} {H H1 : Heap} (h : vx_L C n d A U H) (hq : ∀ a : Nat, a < H.size → ¬ A a → H1[a]? = H[a]?) : vx_L C n d A U H1 := by
  obtain ⟨c, k, i, f, a, cell, h1, h2, h3, h4, h5, h6, h7, h8, h9, h10⟩ := h
  exact ⟨c, k, i, f, a, cell, h1, h2, h3, h4, by rw [hq a (Array.getElem?_eq_some_iff.mp h5).1 h10]; exact h5, h6, h7, h8, h9, h10⟩
theorem vx_L.narrow {C n d : String} {A B : Nat → Prop} {U : State} {H : Heap} (h : vx_L C n d A U H) (hAB : ∀ q, B q → A q) : vx_L C n d B U H := by
  obtain ⟨c, k, i, f, a, cell, h1, h2, h3, h4, h5, h6, h7, h8, h9, h10⟩ := h
  exact ⟨c, k, i, f, a, cell, h1, h2, h3, h4, h5, h6, h7, h8, h9, fun z => h10 (hAB _ z)⟩
theorem vx_L.word {C n d : String} {A : Nat → Prop} {s : State} {args : Array Value} (h : vx_L C n d A s s.heap) : (Cond.laysStatic C n d).before args s = true := by
  obtain ⟨c, k, i, f, a, cell, h1, h2, h3, h4, h5, h6, h7, h8, h9, -⟩ := h
  show (Cond.laysStatic C n d).holds args s none s [] = true
  exact Cond.laysStatic_of h1 h2 h3 h4 h5 h6 h7 h8 h9
/-- .. and what it holds: null or some reference -/
def vx_Zq (C n d : String) (A : Nat → Prop) (U : State) (H : Heap) : Prop := va_Zq C n d A U H ∧ vx_L C n d A U H
theorem vx_Zq.moved {C n d : String} {A : Nat → Prop} {u U : State} {H : Heap} (hvm : u.vm.Alike U.vm) (h : vx_Zq C n d A u H) : vx_Zq C n d A U H := ⟨va_Zq.moved hvm h.1, vx_L.moved hvm h.2⟩
theorem vx_Zq.kept {C n d : String} {A : Nat → Prop} {U : State} {H H1 : Heap} (h : vx_Zq C n d A U H) (hq : ∀ a : Nat, a < H.size → ¬ A a → H1[a]? = H[a]?) : vx_Zq C n d A U H1 := ⟨va_Zq.kept h.1 hq, vx_L.kept h.2 hq⟩
theorem vx_Zq.narrow {C n d : String} {A B : Nat → Prop} {U : State} {H : Heap} (h : vx_Zq C n d A U H) (hAB : ∀ q, B q → A q) : vx_Zq C n d B U H := ⟨va_Zq.narrow h.1 hAB, vx_L.narrow h.2 hAB⟩
theorem vx_Zqof {args : Array Value} {s : State} {C n d : String} {A : Nat → Prop} (hl : (Cond.laysStatic C n d).before args s = true) (hini : (Cond.initialized C).before args s = true) (h : (Cond.isRef (.static C n d)).before args s = true) (hA : ∀ a : Nat, a < s.heap.size → ¬ A a) : vx_Zq C n d A s s.heap := by
  refine ⟨va_Zqof hl hini h hA, ?_⟩
  obtain ⟨c, k, i, f, a, cell, h1, h2, h3, h4, h5, h6, h7, h8, h9⟩ := Cond.laysStatic_spec hl
  exact ⟨c, k, i, f, a, cell, h1, h2, h3, h4, h5, h6, h7, h8, h9, hA a (Array.getElem?_eq_some_iff.mp h5).1⟩
theorem vx_isRef {C n d : String} {v : Value} {A : Nat → Prop} {s : State} {args : Array Value} (h : va_Z C n d v A s s.heap) (hv : v.isRef = true) : (Cond.isRef (.static C n d)).before args s = true := by
  obtain ⟨cf, kf, fi, f, a, cell, h1, h2, h3, h4, h5, h6, h7, -⟩ := h
  have he : (Term.static C n d).eval args s none [] s = some v := by
    simp [Term.eval, State.fieldNamed?, h1, h2, h4, h5, h6, h7]
  simp only [Cond.before, Cond.holds, Cond.value, he]
  cases v <;> simp_all [Value.isRef]
theorem vx_isRefq {C n d : String} {A : Nat → Prop} {s : State} {args : Array Value} (h : va_Zq C n d A s s.heap) : (Cond.isRef (.static C n d)).before args s = true := by
  rcases h with h | ⟨t, h⟩
  · exact vx_isRef h rfl
  · exact vx_isRef h rfl
/-- the same frame, seen from here: as if the method were called anew in this heap -/
theorem vx_rebase {T : State} (X : Stand p l e R s m args below meth c T locs cells slots) {R' : Room} (hf : R'.frames ≤ R.frames) (hl : R'.locals ≤ R.locals) (hc : cells + R'.cells ≤ R.cells) (hs : slots + R'.slots ≤ R.slots) :
    Stand p l e R' ((T.setVm s.vm).setFrames (.invoking m args :: below)) m args below meth c T [] 0 0 := by
  have htop : (T.setVm s.vm).topJava?.isSome := X.here.top
  have hF : ((T.setVm s.vm).setFrames (.invoking m args :: below)).frames = .invoking m args :: below := State.frames_setFrames _ (State.cur_lt_of_top htop)
  obtain ⟨g₀, hg0⟩ := Option.isSome_iff_exists.mp htop
  obtain ⟨r, hr⟩ := State.topJava?_eq_some.mp hg0
  have hl9 : e.platform.stackLimits (T.setVm s.vm).me = e.platform.stackLimits s.me := X.limits
  have hb9 : (T.setVm s.vm).me.stackBytes = s.me.stackBytes := X.bytes
  refine ⟨X.admits, X.cas, X.clock, hF, ?_, X.hears, X.method, X.code, X.here, X.tail, X.warmed, ?_, ?_, ?_⟩
  · have h := X.room
    have hU : ((T.setVm s.vm).setFrames (.invoking m args :: below)).localsInUse = s.localsInUse := by
      rw [State.localsInUse_invoking hF (meth := meth) (c := c) X.method X.code, State.localsInUse_invoking X.frames X.method X.code]
    simp only [State.hasRoom, Bool.and_eq_true, decide_eq_true_eq] at h ⊢
    obtain ⟨⟨⟨⟨h1, h2, h3, h4, h5, h6⟩, h7⟩, h8⟩, h9⟩ := h
    rw [X.frames, List.length_cons] at h2 h3
    have q1 := X.heapSize
    have q2 := X.used
    simp only [hF, hU, List.length_cons, State.stackLimits_setFrames, State.stackBytes_setFrames, hl9, hb9]
    refine ⟨⟨⟨⟨by omega, by omega, by omega, by omega, by omega, h6⟩, ?_⟩, ?_⟩, X.book⟩
    · show T.heap.size + R'.cells ≤ e.platform.maxCells
      omega
    · show T.slotsUsed + R'.slots ≤ e.platform.maxSlots
      omega
  · rw [State.stackLimits_setFrames]; rfl
  · rw [State.stackBytes_setFrames]; rfl
  · refine ⟨?_, Nat.le_refl _, Nat.le_refl _, ?_, ?_, fun a c9 h9 => ⟨c9, h9, rfl, rfl, fun _ _ => rfl⟩⟩
    · obtain ⟨t, ht, -⟩ := State.frames_cons hr
      show T.setVm s.vm = { ((T.setVm s.vm).setFrames (.invoking m args :: below)).setFrames (T.setVm s.vm).frames with heap := T.heap, slotsUsed := T.slotsUsed }
      rw [State.setFrames_setFrames, State.setFrames_self ht]
      rfl
    · show T.slotsUsed = T.slotsUsed + ((T.heap.toList.drop T.heap.size).map (·.slots.size)).sum
      rw [List.drop_eq_nil_of_le (Nat.le_of_eq Array.length_toList)]
      rfl
    · show ((T.heap.toList.drop T.heap.size).map (·.slots.size)).sum ≤ 0
      rw [List.drop_eq_nil_of_le (Nat.le_of_eq Array.length_toList)]
      exact Nat.le_refl _
/-- 'throw new E("text")': new; dup; ldc; invokespecial; athrow -/
theorem vx_throwS {cc : ByteArray} {pc : Nat} (hexec : p.tables.exec = Jvm.exec) (hb : c.code = cc) (hl : l.stackTraces = false) {own cls text : String} {names : List String} {ik is ic mc ms sa : Nat} {A : Nat → Prop}
    (hown : s.vm.findClass own = some m.cls) (hcls : Bundle.fit cls = true) (hnames : ∀ n ∈ names, Bundle.fit n = true)
    (hk : (Cond.classLink own ik cls).before args s = true) (hini : (Cond.initialized cls).before args s = true) (hstr : vk_R own is text sa s) (hat : ∀ w ∈ vx_atS own ic cls names, w.before args s = true)
    (hgood : ∀ w ∈ Cond.classLink own ik cls :: Cond.initialized cls :: vx_atS own ic cls names, vx_ot w = true)
    (hU : vx_Zq Bundle.tN "UNASSIGNED_STACK" Bundle.steD A s s.heap) (hN : vx_Zq Bundle.tN "SUPPRESSED_SENTINEL" Bundle.listD A s s.heap) (hS : va_S A s.heap H locs) (hsize : ls.size = c.maxLocals)
    (d0 : decode cc pc = .ok (.new ik, 3)) (d3 : decode cc (pc + 3) = .ok (.dup, 1)) (d4 : decode cc (pc + 4) = .ok (.ldc is, 2)) (d6 : decode cc (pc + 6) = .ok (.invokespecial ic, 3)) (d9 : decode cc (pc + 9) = .ok (.athrow, 1))
    (hout : ∀ x ∈ c.exceptionTable.toList, covers x (pc + 9) = false)
    (hRframes : names.length + 3 < R.frames) (hRlocals : (rest.map fun v => v.category).sum + (13 * (names.length + 1) + 43) ≤ R.locals) (hRcells : cells + 1 ≤ R.cells) (hRslots : slots + 6 ≤ R.slots) (hlocks : meth.locks = false)
    (hx : ∀ t : State, s.vm.Alike t.vm → H.size ≤ t.heap.size → (∀ q : Nat, q < H.size → t.heap[q]? = H[q]?) → XC cls s t)
    (hf : ∀ z ∈ locs, free z.base) (hc : cells + 1 ≤ mc) (hs : slots + 6 ≤ ms) :
    W p l e R s m args below meth c H locs cells slots (vx_MQ below Qc XC args s mc ms free) (F0 m pc ls rest) := by
  intro T hT X
  have htr : e.platform.stackTraces = false := (show e.platform.stackTraces = l.stackTraces by rw [X.admits.platform]).trans hl
  have Y := vx_rebase X (R' := { frames := R.frames, locals := R.locals, cells := 1, slots := 6 }) (Nat.le_refl _) (Nat.le_refl _) hRcells hRslots
  obtain ⟨s', hA⟩ : ∃ z, z = (T.setVm s.vm).setFrames (.invoking m args :: below) := ⟨_, rfl⟩
  rw [← hA] at Y
  have hvm : s'.vm = s.vm := by rw [hA]; rfl
  have hhp : s'.heap = H := by rw [hA]; exact hT
  have hW0 : s.WarmedH s'.vm := by rw [hvm]; exact State.WarmedH.refl s
  have hat' : ∀ w ∈ vx_atS own ic cls names, w.before args s' = true := fun w hw => vx_ot_at hW0 hvm.symm (hgood w (List.mem_cons_of_mem _ (List.mem_cons_of_mem _ hw))) (hat w hw)
  have hk' : (Cond.classLink own ik cls).before args s' = true := vx_ot_at hW0 hvm.symm (hgood _ List.mem_cons_self) hk
  have hini' : (Cond.initialized cls).before args s' = true := vx_ot_at hW0 hvm.symm (hgood _ (List.mem_cons_of_mem _ List.mem_cons_self)) hini
  have hU' : vx_Zq Bundle.tN "UNASSIGNED_STACK" Bundle.steD A s' s'.heap := by rw [hhp]; exact vx_Zq.moved hW0.alike (hU.kept hS.2.1)
  have hN' : vx_Zq Bundle.tN "SUPPRESSED_SENTINEL" Bundle.listD A s' s'.heap := by rw [hhp]; exact vx_Zq.moved hW0.alike (hN.kept hS.2.1)
  have h : ∀ w ∈ Bundle.ownAtoms own ic cls names, w.before args s' = true := vx_own hat' (vx_isRefq hU'.1) (vx_isRefq hN'.1) hU'.2.word hN'.2.word
  have hown' : s'.vm.findClass own = some m.cls := by rw [hvm]; exact hown
  have hins : (Cond.instantiable cls 6).before args s' = true := h _ (by simp [Bundle.ownAtoms])
  obtain ⟨vm₁, cX, kX, hfX, hkX, -, -, X₁, st1⟩ := Y.newCold hexec (own := own) (C := cls) (index := ik) (n := 6) hown' hk' hins hini'
    (g := F0 m pc ls rest) rfl (by rw [hb]; exact d0) (Nat.le_refl _) (Nat.le_refl _)
  generalize hT1 : (T.setVm vm₁).pushCell { cls := cX, slots := kX.instanceTypes.map defaultValue, vm := .none } = T1 at X₁ st1
  have hcat : (Value.ref T.heap.size).category = 1 := rfl
  have hcellA : T1.heap[T.heap.size]? = some (freshCell cX kX) := by rw [← hT1]; exact State.heap_pushCell_size _ _
  have d3' : decode c.code (pc + 3) = .ok (.dup, 1) := by rw [hb]; exact d3
  have d4' : decode c.code (pc + 4) = .ok (.ldc is, 2) := by rw [hb]; exact d4
  have hstr' : vk_R own is text sa s' := vk_R.warm hW0 hstr
  obtain ⟨U, hsteps, hrun, hend, hW, hsame, ce, hce, hO⟩ := X₁.ctorThrowS hexec htr (own := own) (cls := cls) (names := names) (ic := ic) hown' hcls hnames h (fun x hx => nomatch hx) hfX hkX hcellA (by rw [hhp, hT]; exact Nat.le_refl _) (msg := .ref sa) rfl
    (g := { method := m, pc := pc + 6, locals := ls, stack := .ref sa :: .ref T.heap.size :: .ref T.heap.size :: rest, locked := none }) rfl hsize rfl rfl (rest := rest) rfl
    (by rw [hb]; exact d6) (by rw [hb]; exact d9) hout hRframes (by simp only [List.map_cons, List.sum_cons, hcat]; omega) hlocks
  obtain ⟨f1, f2⟩ := vx_frame hsame
  rw [hhp] at f1 f2
  have hWs : s.WarmedH U.vm := State.WarmedH.trans hW0 hW
  have hcl : s.vm.findClass cls = some ce.cls := by
    have h9 := hO.cls
    rw [hvm] at h9
    exact h9
  have hall : s.sameButNew ({ U with vm := s.vm } : State) locs mc ms := by
    subst hA
    obtain ⟨e1, e2⟩ := hsame
    rw [State.setFrames_setFrames] at e1
    have h2 : (T.setVm s.vm).sameButNew ({ U with vm := s.vm } : State) [] (0 + 1) (0 + 6) := ⟨e1, e2⟩
    have h3 := X.same.trans h2
    rw [List.append_nil] at h3
    exact h3.mono hc hs
  refine ⟨U, ?_, .threw T.heap.size, hrun, hend, Or.inr ⟨T.heap.size, rfl, cls, ce, locs, hx U hWs.alike f1 (fun q hq => f2 q hq (fun z hz => nomatch hz)), hce, hO.vm, hcl, hWs, hall, hf⟩⟩
  refine st1 _ ?_
  show Steps p.tables e below (T1.setTop { method := m, pc := pc + 3, locals := ls, stack := .ref T.heap.size :: rest, locked := none }) _
  jvm_step X₁.here [X₁.here.top, hexec, d3', Value.category]
  exact X₁.ldcString hexec (own := own) (text := text) (index := is) (a := sa) hown' hstr'.1 hstr'.2
    (g := { method := m, pc := pc + 4, locals := ls, stack := .ref T.heap.size :: .ref T.heap.size :: rest, locked := none }) rfl d4' _ hsteps
end Ends
section Bodies
variable {l : Launch}
end Bodies
end VXA
end
section
/-! printed by wip/whole/gen/emit_tables.py out of claim/JAVAP.txt, Statement.lean and the skeleton: the tables of the abstract machine -/
def am_F0 : u_T := fun k => match k with
  | 0 => ("BranchedPast$Branches", "parent", "[I", true)
  | 1 => ("BranchedPast$Branches", "fork", "[I", true)
  | 2 => ("BranchedPast$Branches", "open", "[Z", true)
  | 3 => ("BranchedPast$Branches", "limit", "[I", true)
  | _ => ("BranchedPast$Branches", "count", "I", false)
def am_ty0 : Nat → FieldType := fun k => match k with
  | 0 => .array .int
  | 1 => .array .int
  | 2 => .array .boolean
  | 3 => .array .int
  | _ => .int
theorem am_nm0 : ∀ a, a < 5 → ∀ b, b < 5 → a ≠ b → (am_F0 a).2.1 ≠ (am_F0 b).2.1 := by decide +kernel
theorem am_tyok0 : ∀ k, k < 5 → parseFieldDescriptor (am_F0 k).2.2.1 = some (am_ty0 k) := by decide +kernel
def am_F1 : u_T := fun k => match k with
  | 0 => ("BranchedPast$Path", "text", "[C", true)
  | 1 => ("BranchedPast$Path", "length", "I", false)
  | 2 => ("BranchedPast$Path", "at", "I", false)
  | _ => ("BranchedPast$Path", "set", "I", false)
def am_ty1 : Nat → FieldType := fun k => match k with
  | 0 => .array .char
  | 1 => .int
  | 2 => .int
  | _ => .int
theorem am_nm1 : ∀ a, a < 4 → ∀ b, b < 4 → a ≠ b → (am_F1 a).2.1 ≠ (am_F1 b).2.1 := by decide +kernel
theorem am_tyok1 : ∀ k, k < 4 → parseFieldDescriptor (am_F1 k).2.2.1 = some (am_ty1 k) := by decide +kernel
def am_F2 : u_T := fun k => match k with
  | 0 => ("BranchedPast$View", "kind", "[I", true)
  | 1 => ("BranchedPast$View", "value", "[I", true)
  | _ => ("BranchedPast$View", "moment", "[I", true)
def am_ty2 : Nat → FieldType := fun k => match k with
  | 0 => .array .int
  | 1 => .array .int
  | _ => .array .int
theorem am_nm2 : ∀ a, a < 3 → ∀ b, b < 3 → a ≠ b → (am_F2 a).2.1 ≠ (am_F2 b).2.1 := by decide +kernel
theorem am_tyok2 : ∀ k, k < 3 → parseFieldDescriptor (am_F2 k).2.2.1 = some (am_ty2 k) := by decide +kernel
def am_F3 : u_T := fun k => match k with
  | 0 => ("BranchedPast$Writes", "branch", "[I", true)
  | 1 => ("BranchedPast$Writes", "moment", "[I", true)
  | 2 => ("BranchedPast$Writes", "cell", "[I", true)
  | 3 => ("BranchedPast$Writes", "kind", "[I", true)
  | 4 => ("BranchedPast$Writes", "value", "[I", true)
  | 5 => ("BranchedPast$Writes", "marked", "[Z", true)
  | _ => ("BranchedPast$Writes", "count", "I", false)
def am_ty3 : Nat → FieldType := fun k => match k with
  | 0 => .array .int
  | 1 => .array .int
  | 2 => .array .int
  | 3 => .array .int
  | 4 => .array .int
  | 5 => .array .boolean
  | _ => .int
theorem am_nm3 : ∀ a, a < 7 → ∀ b, b < 7 → a ≠ b → (am_F3 a).2.1 ≠ (am_F3 b).2.1 := by decide +kernel
theorem am_tyok3 : ∀ k, k < 7 → parseFieldDescriptor (am_F3 k).2.2.1 = some (am_ty3 k) := by decide +kernel
def am_F4 : u_T := fun k => match k with
  | 0 => ("BranchedPast", "branches", "LBranchedPast$Branches;", true)
  | 1 => ("BranchedPast", "writes", "LBranchedPast$Writes;", true)
  | 2 => ("BranchedPast", "here", "LBranchedPast$View;", true)
  | 3 => ("BranchedPast", "there", "LBranchedPast$View;", true)
  | 4 => ("BranchedPast", "before", "LBranchedPast$View;", true)
  | 5 => ("BranchedPast", "path", "LBranchedPast$Path;", true)
  | 6 => ("BranchedPast", "clock", "I", false)
  | _ => ("BranchedPast", "horizon", "I", false)
def am_ty4 : Nat → FieldType := fun k => match k with
  | 0 => .object "BranchedPast$Branches"
  | 1 => .object "BranchedPast$Writes"
  | 2 => .object "BranchedPast$View"
  | 3 => .object "BranchedPast$View"
  | 4 => .object "BranchedPast$View"
  | 5 => .object "BranchedPast$Path"
  | 6 => .int
  | _ => .int
theorem am_nm4 : ∀ a, a < 8 → ∀ b, b < 8 → a ≠ b → (am_F4 a).2.1 ≠ (am_F4 b).2.1 := by decide +kernel
theorem am_tyok4 : ∀ k, k < 8 → parseFieldDescriptor (am_F4 k).2.2.1 = some (am_ty4 k) := by decide +kernel
def am_F5 : u_T := fun k => match k with
  | 0 => ("BranchedPastModel", "code", "I", false)
  | 1 => ("BranchedPastModel", "clock", "I", false)
  | 2 => ("BranchedPastModel", "horizon", "I", false)
  | 3 => ("BranchedPastModel", "branches", "I", false)
  | 4 => ("BranchedPastModel", "parent", "[I", true)
  | 5 => ("BranchedPastModel", "fork", "[I", true)
  | 6 => ("BranchedPastModel", "closed", "[Z", true)
  | 7 => ("BranchedPastModel", "writes", "I", false)
  | 8 => ("BranchedPastModel", "owner", "[I", true)
  | 9 => ("BranchedPastModel", "moment", "[I", true)
  | 10 => ("BranchedPastModel", "place", "[I", true)
  | 11 => ("BranchedPastModel", "kind", "[I", true)
  | 12 => ("BranchedPastModel", "value", "[I", true)
  | 13 => ("BranchedPastModel", "kept", "[Z", true)
  | 14 => ("BranchedPastModel", "length", "I", false)
  | 15 => ("BranchedPastModel", "text", "[I", true)
  | 16 => ("BranchedPastModel", "at", "I", false)
  | _ => ("BranchedPastModel", "right", "Z", false)
def am_ty5 : Nat → FieldType := fun k => match k with
  | 0 => .int
  | 1 => .int
  | 2 => .int
  | 3 => .int
  | 4 => .array .int
  | 5 => .array .int
  | 6 => .array .boolean
  | 7 => .int
  | 8 => .array .int
  | 9 => .array .int
  | 10 => .array .int
  | 11 => .array .int
  | 12 => .array .int
  | 13 => .array .boolean
  | 14 => .int
  | 15 => .array .int
  | 16 => .int
  | _ => .boolean
theorem am_nm5 : ∀ a, a < 18 → ∀ b, b < 18 → a ≠ b → (am_F5 a).2.1 ≠ (am_F5 b).2.1 := by decide +kernel
theorem am_tyok5 : ∀ k, k < 18 → parseFieldDescriptor (am_F5 k).2.2.1 = some (am_ty5 k) := by decide +kernel
def am_cl : List vw_C := [("BranchedPast$Branches", am_F0, 5), ("BranchedPast$Path", am_F1, 4), ("BranchedPast$View", am_F2, 3), ("BranchedPast$Writes", am_F3, 7), ("BranchedPast", am_F4, 8), ("BranchedPastModel", am_F5, 18)]
def am_on : List String := ["BranchedPast$Branches", "BranchedPast$Path", "BranchedPast$View", "BranchedPast$Writes", "BranchedPast", "BranchedPastModel", "BranchedPastLaw", "java/util/Arrays"]
def am_ocl : List (Nat) := [4, 4, 4, 4, 4, 4, 4, 4, 4, 4, 4, 4, 4, 4, 4, 4, 4, 4, 4, 4, 4, 4, 4, 4, 4, 4, 4, 4, 4, 4, 4, 4, 4, 5, 5, 5, 5, 5, 5, 5, 5, 5, 5, 5, 5, 5, 5, 5, 5, 5, 5, 5, 5, 5, 5, 5, 5, 5, 5, 5, 5, 5, 5, 5, 5, 5, 5, 5, 5, 5, 5, 5, 5, 5, 5, 5, 0, 0, 0, 0, 1, 1, 1, 1, 1, 1, 1, 1, 1, 1, 1, 1, 1, 1, 1, 2, 2, 2, 2, 2, 2, 2, 2, 2, 2, 3, 3, 3, 3, 3, 3, 3, 3, 3, 6, 6, 6, 6, 6, 6, 6, 6, 6, 6, 6, 6, 6, 6, 6, 7]
def am_oc (k : Nat) : Nat := am_ocl.getD k 0
def am_ydl : List (String × String) := [("branch", "(II)I"), ("close", "(I)V"), ("write", "(IIIII)I"), ("read", "(IIIII)I"), ("history", "(IIII)I"), ("differs", "(III)I"), ("meeting", "(II)I"), ("join", "(II)I"), ("trim", "(I)I"), ("reach", "(III)I"), ("type", "(I)I"), ("erase", "()V"), ("find", "(II)I"), ("state", "(I)I"), ("about", "(II)I"), ("requireBranch", "(I)V"), ("requireObject", "(I)V"), ("requireField", "(I)V"), ("requireWhat", "(II)V"), ("requireReadable", "(II)V"), ("requireOpen", "(I)V"), ("requireRoomFor", "(I)V"), ("firstReadable", "(I)I"), ("look", "(LBranchedPast$View;II)V"), ("append", "(IIII)V"), ("markGiven", "(I)V"), ("isCarried", "(I)Z"), ("countCarried", "()I"), ("countConflicts", "()I"), ("carryTo", "(I)V"), ("isObject", "(I)Z"), ("isValue", "(II)Z"), ("cellOf", "(II)I"), ("thrown", "()I"), ("noBranch", "(I)Z"), ("noPlace", "(II)Z"), ("first", "(I)I"), ("unreadable", "(II)Z"), ("sees", "(III)Z"), ("latest", "(III)I"), ("kindOf", "(I)I"), ("valueOf", "(I)I"), ("alike", "(II)Z"), ("gives", "(II)Z"), ("branch", "(II)I"), ("others", "(I)I"), ("close", "(I)V"), ("enter", "(IIII)V"), ("write", "(IIIII)I"), ("read", "(IIIII)I"), ("history", "(IIII)I"), ("differs", "(III)I"), ("isOnLine", "(II)Z"), ("left", "(II)I"), ("meet", "(II)I"), ("meeting", "(II)I"), ("changed", "(III)Z"), ("join", "(II)I"), ("trim", "(I)I"), ("along", "(IIII)I"), ("against", "(IIII)I"), ("reach", "(III)I"), ("type", "(I)I"), ("erase", "()V"), ("peek", "()I"), ("eats", "(I)Z"), ("digit", "(I)I"), ("isDigit", "()Z"), ("number", "()I"), ("follow", "(IZII)I"), ("filter", "(III)I"), ("empty", "(III)I"), ("stepOf", "(III)I"), ("find", "(II)I"), ("state", "(I)I"), ("about", "(II)I"), ("add", "(II)I"), ("openCount", "()I"), ("meet", "(III)I"), ("limitSight", "(II)V"), ("canHold", "(I)Z"), ("hasRoomFor", "(I)Z"), ("add", "(I)I"), ("clear", "()V"), ("follow", "(LBranchedPast$View;)I"), ("takeStart", "()Z"), ("takeStep", "(LBranchedPast$View;)Z"), ("move", "(LBranchedPast$View;ZI)V"), ("moved", "(LBranchedPast$View;ZI)I"), ("takeComparison", "(LBranchedPast$View;I)Z"), ("takeNumber", "()I"), ("next", "()C"), ("takes", "(C)Z"), ("isDigit", "(C)Z"), ("byteOf", "(II)I"), ("clear", "()V"), ("holdsSame", "(LBranchedPast$View;I)Z"), ("referredBy", "(II)I"), ("referringTo", "(II)I"), ("allLedTo", "(I)I"), ("withNumber", "(IICI)I"), ("withNothing", "(II)I"), ("target", "(I)I"), ("compares", "(ICI)Z"), ("isIn", "(II)Z"), ("add", "(IIIII)V"), ("countOf", "(I)I"), ("show", "([ILBranchedPast$View;)V"), ("unmarkAll", "()V"), ("markShown", "(LBranchedPast$View;)V"), ("markOwnAfter", "(II)V"), ("momentOfMarked", "(II)I"), ("dropUnmarked", "()I"), ("moveRow", "(II)V"), ("branch", "(LBranchedPast;II[J)I"), ("close", "(LBranchedPast;I)I"), ("write", "(LBranchedPast;IIIII[J)I"), ("read", "(LBranchedPast;IIIII[J)I"), ("history", "(LBranchedPast;IIII[J)I"), ("differs", "(LBranchedPast;III[J)I"), ("meeting", "(LBranchedPast;II[J)I"), ("join", "(LBranchedPast;II[J)I"), ("trim", "(LBranchedPast;I[J)I"), ("reach", "(LBranchedPast;III[J)I"), ("type", "(LBranchedPast;I[J)I"), ("find", "(LBranchedPast;II[J)I"), ("state", "(LBranchedPast;I[J)I"), ("about", "(LBranchedPast;II[J)I"), ("law", "([I)Z"), ("fill", "([II)V")]
def am_y (k : Nat) : MethodName := ⟨am_on.getD (am_oc k) "BranchedPast$Branches", (am_ydl.getD k ("", "")).1, (am_ydl.getD k ("", "")).2⟩
def am_bl : List (ByteArray) := [prog_1_method_2_code, prog_1_method_3_code, prog_1_method_4_code, prog_1_method_5_code, prog_1_method_6_code, prog_1_method_7_code, prog_1_method_8_code, prog_1_method_9_code, prog_1_method_10_code, prog_1_method_11_code, prog_1_method_12_code, prog_1_method_13_code, prog_1_method_14_code, prog_1_method_15_code, prog_1_method_16_code, prog_1_method_17_code, prog_1_method_18_code, prog_1_method_19_code, prog_1_method_20_code, prog_1_method_21_code, prog_1_method_22_code, prog_1_method_23_code, prog_1_method_24_code, prog_1_method_25_code, prog_1_method_26_code, prog_1_method_27_code, prog_1_method_28_code, prog_1_method_29_code, prog_1_method_30_code, prog_1_method_31_code, prog_1_method_32_code, prog_1_method_33_code, prog_1_method_34_code, prog_7_method_2_code, prog_7_method_3_code, prog_7_method_4_code, prog_7_method_5_code, prog_7_method_6_code, prog_7_method_7_code, prog_7_method_8_code, prog_7_method_9_code, prog_7_method_10_code, prog_7_method_11_code, prog_7_method_12_code, prog_7_method_13_code, prog_7_method_14_code, prog_7_method_15_code, prog_7_method_16_code, prog_7_method_17_code, prog_7_method_18_code, prog_7_method_19_code, prog_7_method_20_code, prog_7_method_21_code, prog_7_method_22_code, prog_7_method_23_code, prog_7_method_24_code, prog_7_method_25_code, prog_7_method_26_code, prog_7_method_27_code, prog_7_method_28_code, prog_7_method_29_code, prog_7_method_30_code, prog_7_method_31_code, prog_7_method_32_code, prog_7_method_33_code, prog_7_method_34_code, prog_7_method_35_code, prog_7_method_36_code, prog_7_method_37_code, prog_7_method_38_code, prog_7_method_39_code, prog_7_method_40_code, prog_7_method_41_code, prog_7_method_42_code, prog_7_method_43_code, prog_7_method_44_code, prog_2_method_2_code, prog_2_method_3_code, prog_2_method_4_code, prog_2_method_5_code, prog_3_method_2_code, prog_3_method_3_code, prog_3_method_4_code, prog_3_method_5_code, prog_3_method_6_code, prog_3_method_7_code, prog_3_method_8_code, prog_3_method_9_code, prog_3_method_10_code, prog_3_method_11_code, prog_3_method_12_code, prog_3_method_13_code, prog_3_method_14_code, prog_3_method_15_code, prog_3_method_16_code, prog_4_method_2_code, prog_4_method_3_code, prog_4_method_4_code, prog_4_method_5_code, prog_4_method_6_code, prog_4_method_7_code, prog_4_method_8_code, prog_4_method_9_code, prog_4_method_10_code, prog_4_method_11_code, prog_5_method_2_code, prog_5_method_3_code, prog_5_method_4_code, prog_5_method_5_code, prog_5_method_6_code, prog_5_method_7_code, prog_5_method_8_code, prog_5_method_9_code, prog_5_method_10_code, method_3_code, method_4_code, method_5_code, method_6_code, method_7_code, method_8_code, method_9_code, method_10_code, method_11_code, method_12_code, method_13_code, method_14_code, method_15_code, method_16_code, code, prog_17_method_103_code]
def am_bytes (k : Nat) : ByteArray := am_bl.getD k ⟨#[]⟩
def am_nLl : List (Nat) := [3, 2, 6, 7, 5, 6, 3, 5, 3, 4, 2, 1, 3, 2, 3, 2, 1, 1, 2, 3, 2, 2, 2, 4, 5, 3, 2, 3, 3, 3, 1, 2, 2, 1, 2, 2, 2, 3, 6, 6, 2, 2, 3, 4, 3, 4, 2, 5, 7, 7, 7, 6, 4, 5, 6, 3, 4, 9, 4, 8, 8, 7, 6, 1, 1, 3, 3, 1, 4, 9, 12, 7, 4, 5, 2, 5, 4, 3, 9, 4, 4, 4, 4, 1, 3, 2, 4, 6, 4, 5, 4, 2, 2, 1, 2, 1, 3, 5, 5, 6, 8, 5, 2, 3, 2, 6, 4, 4, 2, 3, 4, 5, 3, 3, 5, 3, 8, 8, 7, 6, 5, 5, 4, 6, 4, 5, 4, 5, 7, 4]
def am_nL (k : Nat) : Nat := am_nLl.getD k 0
def am_rtl : List (Option FieldType) := [some .int, none, some .int, some .int, some .int, some .int, some .int, some .int, some .int, some .int, some .int, none, some .int, some .int, some .int, none, none, none, none, none, none, none, some .int, none, none, none, some .boolean, some .int, some .int, none, some .boolean, some .boolean, some .int, some .int, some .boolean, some .boolean, some .int, some .boolean, some .boolean, some .int, some .int, some .int, some .boolean, some .boolean, some .int, some .int, none, none, some .int, some .int, some .int, some .int, some .boolean, some .int, some .int, some .int, some .boolean, some .int, some .int, some .int, some .int, some .int, some .int, none, some .int, some .boolean, some .int, some .boolean, some .int, some .int, some .int, some .int, some .int, some .int, some .int, some .int, some .int, some .int, some .int, none, some .boolean, some .boolean, some .int, none, some .int, some .boolean, some .boolean, none, some .int, some .boolean, some .int, some .char, some .boolean, some .boolean, some .int, none, some .boolean, some .int, some .int, some .int, some .int, some .int, some .int, some .boolean, some .boolean, none, some .int, none, none, none, none, some .int, some .int, none, some .int, some .int, some .int, some .int, some .int, some .int, some .int, some .int, some .int, some .int, some .int, some .int, some .int, some .int, some .boolean, none]
def am_rt (k : Nat) : Option FieldType := am_rtl.getD k none
def am_nal : List (Nat) := [3, 2, 6, 6, 5, 4, 3, 3, 2, 4, 2, 1, 3, 2, 3, 2, 1, 1, 2, 3, 2, 2, 2, 4, 5, 2, 2, 1, 1, 2, 1, 2, 2, 1, 2, 2, 2, 3, 4, 4, 2, 2, 3, 3, 3, 2, 2, 5, 6, 6, 5, 4, 3, 3, 3, 3, 4, 3, 2, 5, 5, 4, 2, 1, 1, 2, 2, 1, 1, 5, 4, 4, 4, 3, 2, 3, 3, 1, 4, 3, 2, 2, 2, 1, 2, 1, 2, 4, 4, 3, 1, 1, 2, 1, 2, 1, 3, 3, 3, 2, 5, 3, 2, 3, 2, 6, 2, 3, 1, 2, 3, 3, 1, 3, 4, 2, 7, 7, 6, 5, 4, 4, 3, 5, 3, 4, 3, 4, 1, 2]
def am_na (k : Nat) : Nat := am_nal.getD k 0
def am_rkl : List (Nat) := [7, 7, 7, 7, 7, 7, 7, 7, 6, 7, 6, 1, 7, 7, 7, 6, 6, 6, 6, 6, 6, 6, 1, 3, 1, 4, 1, 2, 2, 2, 0, 1, 0, 0, 0, 0, 0, 1, 0, 1, 0, 0, 1, 2, 2, 0, 1, 0, 1, 2, 3, 2, 0, 0, 1, 2, 2, 3, 3, 2, 2, 3, 0, 0, 0, 1, 1, 1, 2, 3, 3, 2, 4, 5, 0, 1, 0, 0, 1, 1, 1, 1, 1, 0, 5, 1, 4, 3, 2, 2, 1, 0, 0, 0, 0, 1, 0, 1, 1, 2, 1, 1, 0, 0, 0, 0, 0, 2, 0, 0, 0, 0, 1, 0, 8, 8, 8, 8, 8, 8, 8, 8, 7, 8, 7, 8, 8, 8, 9, 0]
def am_rk (k : Nat) : Nat := am_rkl.getD k 0
def am_rcl : List (Option Nat) := [some 4, some 4, some 4, some 4, some 4, some 4, some 4, some 4, some 4, some 4, some 4, some 4, some 4, some 4, some 4, some 4, none, none, none, some 4, some 4, some 4, some 4, some 4, some 4, some 4, some 4, some 4, some 4, some 4, none, none, none, some 5, some 5, none, some 5, some 5, some 5, some 5, some 5, some 5, some 5, some 5, some 5, some 5, some 5, some 5, some 5, some 5, some 5, some 5, some 5, some 5, some 5, some 5, some 5, some 5, some 5, some 5, some 5, some 5, some 5, some 5, some 5, some 5, some 5, some 5, some 5, some 5, some 5, some 5, some 5, some 5, some 5, some 5, some 0, some 0, some 0, some 0, some 1, some 1, some 1, some 1, some 1, some 1, some 1, some 1, some 1, some 1, some 1, some 1, some 1, none, none, some 2, some 2, some 2, some 2, some 2, some 2, some 2, some 2, none, none, some 3, some 3, some 3, some 3, some 3, some 3, some 3, some 3, some 3, none, none, none, none, none, none, none, none, none, none, none, none, none, none, none, none]
def am_rc (k : Nat) : Option Nat := am_rcl.getD k none
def am_etl : List (List (Nat × Nat × Nat × Nat)) := [[], [], [], [], [], [], [], [], [], [], [], [], [], [], [], [], [], [], [], [], [], [], [], [], [], [], [], [], [], [], [], [], [], [], [], [], [], [], [], [], [], [], [], [], [], [], [], [], [], [], [], [], [], [], [], [], [], [], [], [], [], [], [], [], [], [], [], [], [], [], [], [], [], [], [], [], [], [], [], [], [], [], [], [], [], [], [], [], [], [], [], [], [], [], [], [], [], [], [], [], [], [], [], [], [], [], [], [], [], [], [], [], [], [], [(0, 10, 13, 13), (0, 10, 17, 15), (0, 10, 21, 17)], [(0, 5, 8, 13), (0, 5, 11, 17)], [(0, 16, 19, 13), (0, 16, 23, 15), (0, 16, 27, 17), (0, 16, 31, 27)], [(0, 16, 19, 13), (0, 16, 23, 15)], [(0, 14, 17, 13)], [(0, 12, 15, 13), (0, 12, 19, 17)], [(0, 10, 13, 13)], [(0, 10, 13, 13), (0, 10, 17, 15), (0, 10, 21, 17), (0, 10, 25, 27)], [(0, 9, 12, 15)], [(0, 12, 15, 13), (0, 12, 19, 15)], [(0, 9, 12, 15), (0, 9, 15, 17)], [(0, 10, 13, 13), (0, 10, 17, 15)], [(0, 9, 12, 15)], [(0, 10, 13, 13), (0, 10, 17, 15)], [], []]
def am_et (k : Nat) : List (Nat × Nat × Nat × Nat) := am_etl.getD k []
def am_cd (k : Nat) : Cond := if am_et k = [] then .code (am_y k) (am_bytes k) (am_nL k) (am_rt k) else .codeWith (am_y k) (am_bytes k) (am_nL k) (am_rt k) (am_et k)
abbrev kX_branch : Nat := 0
abbrev kX_close : Nat := 1
abbrev kX_write : Nat := 2
abbrev kX_read : Nat := 3
abbrev kX_history : Nat := 4
abbrev kX_differs : Nat := 5
abbrev kX_meeting : Nat := 6
abbrev kX_join : Nat := 7
abbrev kX_trim : Nat := 8
abbrev kX_reach : Nat := 9
abbrev kX_type : Nat := 10
abbrev kX_erase : Nat := 11
abbrev kX_find : Nat := 12
abbrev kX_state : Nat := 13
abbrev kX_about : Nat := 14
abbrev kX_requireBranch : Nat := 15
abbrev kX_requireObject : Nat := 16
abbrev kX_requireField : Nat := 17
abbrev kX_requireWhat : Nat := 18
abbrev kX_requireReadable : Nat := 19
abbrev kX_requireOpen : Nat := 20
abbrev kX_requireRoomFor : Nat := 21
abbrev kX_firstReadable : Nat := 22
abbrev kX_look : Nat := 23
abbrev kX_append : Nat := 24
abbrev kX_markGiven : Nat := 25
abbrev kX_isCarried : Nat := 26
abbrev kX_countCarried : Nat := 27
abbrev kX_countConflicts : Nat := 28
abbrev kX_carryTo : Nat := 29
abbrev kX_isObject : Nat := 30
abbrev kX_isValue : Nat := 31
abbrev kX_cellOf : Nat := 32
abbrev kM_thrown : Nat := 33
abbrev kM_noBranch : Nat := 34
abbrev kM_noPlace : Nat := 35
abbrev kM_first : Nat := 36
abbrev kM_unreadable : Nat := 37
abbrev kM_sees : Nat := 38
abbrev kM_latest : Nat := 39
abbrev kM_kindOf : Nat := 40
abbrev kM_valueOf : Nat := 41
abbrev kM_alike : Nat := 42
abbrev kM_gives : Nat := 43
abbrev kM_branch : Nat := 44
abbrev kM_others : Nat := 45
abbrev kM_close : Nat := 46
abbrev kM_enter : Nat := 47
abbrev kM_write : Nat := 48
abbrev kM_read : Nat := 49
abbrev kM_history : Nat := 50
abbrev kM_differs : Nat := 51
abbrev kM_isOnLine : Nat := 52
abbrev kM_left : Nat := 53
abbrev kM_meet : Nat := 54
abbrev kM_meeting : Nat := 55
abbrev kM_changed : Nat := 56
abbrev kM_join : Nat := 57
abbrev kM_trim : Nat := 58
abbrev kM_along : Nat := 59
abbrev kM_against : Nat := 60
abbrev kM_reach : Nat := 61
abbrev kM_type : Nat := 62
abbrev kM_erase : Nat := 63
abbrev kM_peek : Nat := 64
abbrev kM_eats : Nat := 65
abbrev kM_digit : Nat := 66
abbrev kM_isDigit : Nat := 67
abbrev kM_number : Nat := 68
abbrev kM_follow : Nat := 69
abbrev kM_filter : Nat := 70
abbrev kM_empty : Nat := 71
abbrev kM_stepOf : Nat := 72
abbrev kM_find : Nat := 73
abbrev kM_state : Nat := 74
abbrev kM_about : Nat := 75
abbrev kB_add : Nat := 76
abbrev kB_openCount : Nat := 77
abbrev kB_meet : Nat := 78
abbrev kB_limitSight : Nat := 79
abbrev kP_canHold : Nat := 80
abbrev kP_hasRoomFor : Nat := 81
abbrev kP_add : Nat := 82
abbrev kP_clear : Nat := 83
abbrev kP_follow : Nat := 84
abbrev kP_takeStart : Nat := 85
abbrev kP_takeStep : Nat := 86
abbrev kP_move : Nat := 87
abbrev kP_moved : Nat := 88
abbrev kP_takeComparison : Nat := 89
abbrev kP_takeNumber : Nat := 90
abbrev kP_next : Nat := 91
abbrev kP_takes : Nat := 92
abbrev kP_isDigit : Nat := 93
abbrev kP_byteOf : Nat := 94
abbrev kV_clear : Nat := 95
abbrev kV_holdsSame : Nat := 96
abbrev kV_referredBy : Nat := 97
abbrev kV_referringTo : Nat := 98
abbrev kV_allLedTo : Nat := 99
abbrev kV_withNumber : Nat := 100
abbrev kV_withNothing : Nat := 101
abbrev kV_target : Nat := 102
abbrev kV_compares : Nat := 103
abbrev kV_isIn : Nat := 104
abbrev kW_add : Nat := 105
abbrev kW_countOf : Nat := 106
abbrev kW_show : Nat := 107
abbrev kW_unmarkAll : Nat := 108
abbrev kW_markShown : Nat := 109
abbrev kW_markOwnAfter : Nat := 110
abbrev kW_momentOfMarked : Nat := 111
abbrev kW_dropUnmarked : Nat := 112
abbrev kW_moveRow : Nat := 113
abbrev kL_branch : Nat := 114
abbrev kL_close : Nat := 115
abbrev kL_write : Nat := 116
abbrev kL_read : Nat := 117
abbrev kL_history : Nat := 118
abbrev kL_differs : Nat := 119
abbrev kL_meeting : Nat := 120
abbrev kL_join : Nat := 121
abbrev kL_trim : Nat := 122
abbrev kL_reach : Nat := 123
abbrev kL_type : Nat := 124
abbrev kL_find : Nat := 125
abbrev kL_state : Nat := 126
abbrev kL_about : Nat := 127
abbrev kL_law : Nat := 128
abbrev kA_fill : Nat := 129
abbrev am_Sh : Type := (FieldType × Nat) ⊕ (Nat × List (Option Nat))
def am_shl : List am_Sh := [.inr (4, [some 1, some 6, some 13, some 17, some 21, some 25, none, none]), .inr (0, [some 2, some 3, some 4, some 5, none]), .inl (.int, 6), .inl (.int, 6), .inl (.boolean, 6), .inl (.int, 6), .inr (3, [some 7, some 8, some 9, some 10, some 11, some 12, none]), .inl (.int, 120), .inl (.int, 120), .inl (.int, 120), .inl (.int, 120), .inl (.int, 120), .inl (.boolean, 120), .inr (2, [some 14, some 15, some 16]), .inl (.int, 48), .inl (.int, 48), .inl (.int, 48), .inr (2, [some 18, some 19, some 20]), .inl (.int, 48), .inl (.int, 48), .inl (.int, 48), .inr (2, [some 22, some 23, some 24]), .inl (.int, 48), .inl (.int, 48), .inl (.int, 48), .inr (1, [some 26, none, none, none]), .inl (.char, 32), .inr (5, [none, none, none, none, some 28, some 29, some 30, none, some 31, some 32, some 33, some 34, some 35, some 36, none, some 37, none, none]), .inl (.int, 6), .inl (.int, 6), .inl (.boolean, 6), .inl (.int, 120), .inl (.int, 120), .inl (.int, 120), .inl (.int, 120), .inl (.int, 120), .inl (.boolean, 120), .inl (.int, 32), .inl (.long, 1)]
def am_sh (p : Nat) : Option am_Sh := am_shl[p]?
def am_SC : Nat := 1000
def am_tyL : List FieldType := [.int, .boolean, .char, .long]
def am_ok : Value → Bool
  | .int _ => true
  | .ref _ => true
  | _ => false
def am_ftl : List (List (Option FieldType)) := [[none, none, none, none, some .int], [none, some .int, some .int, some .int], [none, none, none], [none, none, none, none, none, none, some .int], [none, none, none, none, none, none, some .int, some .int], [some .int, some .int, some .int, some .int, none, none, none, some .int, none, none, none, none, none, none, some .int, none, some .int, some .boolean]]
def am_fty (c f : Nat) : Option FieldType := (am_ftl[c]?).bind fun l => (l[f]?).bind id
/-- own class, index, class, field, nest mate, place of the word -/
def am_FT : List (Nat × Nat × Nat × Nat × Nat × Nat) := [(4, 12, 4, 0, 0, 173), (4, 19, 4, 1, 0, 174), (4, 26, 4, 2, 0, 175), (4, 30, 4, 3, 0, 176), (4, 33, 4, 4, 0, 177), (4, 39, 4, 5, 0, 178), (4, 43, 4, 6, 0, 179), (4, 47, 4, 7, 0, 180), (4, 58, 0, 4, 1, 88), (4, 81, 0, 2, 1, 84), (4, 117, 2, 0, 1, 139), (4, 121, 2, 1, 1, 142), (4, 124, 2, 2, 1, 145), (4, 186, 3, 6, 1, 115), (4, 187, 0, 0, 1, 80), (4, 190, 0, 1, 1, 82), (4, 230, 0, 3, 1, 86), (0, 9, 0, 0, 0, 79), (0, 15, 0, 1, 0, 81), (0, 18, 0, 2, 0, 83), (0, 22, 0, 3, 0, 85), (0, 25, 0, 4, 0, 87), (1, 9, 1, 0, 0, 159), (1, 15, 1, 1, 0, 160), (1, 19, 1, 2, 0, 161), (1, 22, 1, 3, 0, 162), (2, 9, 2, 0, 0, 137), (2, 15, 2, 1, 0, 140), (2, 18, 2, 2, 0, 143), (3, 9, 3, 0, 0, 108), (3, 15, 3, 1, 0, 109), (3, 18, 3, 2, 0, 110), (3, 21, 3, 3, 0, 111), (3, 24, 3, 4, 0, 112), (3, 27, 3, 5, 0, 113), (3, 31, 3, 6, 0, 114), (3, 40, 2, 0, 1, 138), (3, 41, 2, 1, 1, 141), (3, 42, 2, 2, 1, 144), (5, 7, 5, 3, 0, 669), (5, 13, 5, 4, 0, 670), (5, 17, 5, 5, 0, 671), (5, 20, 5, 6, 0, 672), (5, 24, 5, 8, 0, 674), (5, 27, 5, 9, 0, 675), (5, 30, 5, 10, 0, 676), (5, 33, 5, 11, 0, 677), (5, 36, 5, 12, 0, 678), (5, 39, 5, 13, 0, 679), (5, 42, 5, 15, 0, 681), (5, 45, 5, 0, 0, 666), (5, 48, 5, 2, 0, 668), (5, 55, 5, 1, 0, 667), (5, 58, 5, 7, 0, 673), (5, 116, 5, 14, 0, 680), (5, 119, 5, 16, 0, 682), (5, 126, 5, 17, 0, 683)]
def am_fld (k ix : Nat) : Option (Nat × Nat) := (am_FT.find? fun e => e.1 == am_oc k && e.2.1 == ix).map fun e => (e.2.2.1, e.2.2.2.1)
def am_lay : List (List Nat) := [[89, 91, 93, 95, 97], [163, 165, 167, 169], [146, 148, 150], [116, 118, 120, 122, 124, 126, 128], [181, 183, 185, 187, 189, 191, 193, 195], [684, 686, 688, 690, 692, 694, 696, 698, 700, 702, 704, 706, 708, 710, 712, 714, 716, 718]]
/-- own class, index, method, nest mate, place of the word -/
def am_MT : List (Nat × Nat × Nat × Nat × Nat) := [(4, 50, 15, 0, 216), (4, 54, 19, 0, 289), (4, 68, 76, 0, 332), (4, 72, 20, 0, 343), (4, 75, 77, 0, 348), (4, 85, 16, 0, 361), (4, 88, 17, 0, 368), (4, 91, 31, 0, 372), (4, 100, 21, 0, 376), (4, 103, 32, 0, 396), (4, 106, 24, 0, 399), (4, 110, 18, 0, 414), (4, 113, 23, 0, 418), (4, 127, 108, 0, 448), (4, 130, 25, 0, 452), (4, 133, 111, 0, 464), (4, 136, 96, 0, 475), (4, 140, 78, 0, 486), (4, 148, 28, 0, 500), (4, 151, 27, 0, 508), (4, 154, 29, 0, 512), (4, 159, 112, 0, 524), (4, 162, 99, 0, 539), (4, 166, 80, 0, 562), (4, 172, 81, 0, 570), (4, 177, 82, 0, 575), (4, 179, 83, 0, 202), (4, 182, 84, 0, 586), (4, 193, 106, 0, 656), (4, 201, 30, 0, 364), (4, 210, 22, 0, 293), (4, 227, 79, 0, 422), (4, 233, 107, 0, 432), (4, 237, 105, 0, 403), (4, 240, 109, 0, 456), (4, 244, 110, 0, 460), (4, 247, 26, 0, 504), (0, 38, 129, 0, 426), (1, 25, 94, 0, 566), (1, 29, 85, 0, 590), (1, 33, 86, 0, 599), (1, 37, 91, 0, 594), (1, 41, 30, 1, 598), (1, 45, 87, 0, 603), (1, 49, 89, 0, 620), (1, 53, 101, 0, 638), (1, 58, 92, 0, 607), (1, 62, 88, 0, 611), (1, 66, 97, 0, 615), (1, 69, 98, 0, 616), (1, 72, 90, 0, 624), (1, 76, 100, 0, 631), (1, 80, 93, 0, 628), (2, 21, 129, 0, 440), (2, 27, 104, 0, 547), (2, 31, 32, 1, 550), (2, 35, 102, 0, 551), (2, 39, 97, 0, 543), (2, 42, 103, 0, 635), (3, 35, 95, 0, 436), (3, 43, 113, 0, 528), (6, 7, 0, 0, 212), (6, 19, 1, 0, 339), (6, 23, 2, 0, 357), (6, 29, 3, 0, 410), (6, 32, 4, 0, 444), (6, 36, 5, 0, 471), (6, 40, 6, 0, 482), (6, 43, 7, 0, 494), (6, 46, 8, 0, 519), (6, 50, 9, 0, 535), (6, 53, 10, 0, 558), (6, 56, 12, 0, 582), (6, 59, 13, 0, 645), (6, 62, 14, 0, 652), (6, 69, 114, 0, 206), (6, 74, 44, 0, 725), (6, 75, 33, 0, 721), (6, 79, 115, 0, 336), (6, 82, 46, 0, 741), (6, 83, 116, 0, 353), (6, 86, 48, 0, 749), (6, 87, 117, 0, 407), (6, 89, 49, 0, 760), (6, 90, 118, 0, 441), (6, 93, 50, 0, 780), (6, 94, 119, 0, 468), (6, 97, 51, 0, 788), (6, 98, 120, 0, 479), (6, 100, 55, 0, 796), (6, 101, 121, 0, 491), (6, 103, 57, 0, 812), (6, 104, 122, 0, 516), (6, 107, 58, 0, 820), (6, 108, 123, 0, 532), (6, 110, 61, 0, 824), (6, 111, 124, 0, 555), (6, 113, 62, 0, 832), (6, 114, 11, 0, 198), (6, 117, 63, 0, 836), (6, 118, 125, 0, 579), (6, 120, 73, 0, 840), (6, 121, 126, 0, 642), (6, 123, 74, 0, 884), (6, 124, 127, 0, 649), (6, 126, 75, 0, 888), (5, 51, 36, 0, 737), (5, 61, 38, 0, 768), (5, 65, 40, 0, 772), (5, 68, 41, 0, 776), (5, 71, 37, 0, 733), (5, 75, 39, 0, 764), (5, 79, 34, 0, 729), (5, 83, 45, 0, 745), (5, 86, 35, 0, 753), (5, 89, 47, 0, 756), (5, 93, 43, 0, 784), (5, 96, 42, 0, 792), (5, 99, 52, 0, 804), (5, 102, 53, 0, 808), (5, 106, 54, 0, 800), (5, 109, 56, 0, 816), (5, 112, 59, 0, 828), (5, 122, 64, 0, 852), (5, 130, 65, 0, 848), (5, 133, 66, 0, 860), (5, 136, 67, 0, 876), (5, 140, 60, 0, 864), (5, 143, 68, 0, 872), (5, 146, 69, 0, 856), (5, 150, 70, 0, 868), (5, 153, 71, 0, 880), (5, 156, 72, 0, 844)]
def am_mth (k ix : Nat) : Option Nat := (am_MT.find? fun e => e.1 == am_oc k && e.2.1 == ix).map fun e => e.2.2.1
def am_MX : List (Nat × Nat × Nat × Nat) := [(4, 222, 1, 297), (0, 29, 1, 490), (0, 35, 0, 429)]
def am_mx (k ix : Nat) : Option Bool := (am_MX.find? fun e => e.1 == am_oc k && e.2.1 == ix).map fun e => e.2.2.1 == 1
def am_KT : List (Nat × Nat × Nat × Nat) := [(215, 213, 214, 50), (342, 340, 341, 50), (360, 358, 359, 50), (413, 411, 412, 50), (447, 445, 446, 50), (474, 472, 473, 50), (485, 483, 484, 50), (497, 495, 496, 50), (522, 520, 521, 50), (538, 536, 537, 50), (561, 559, 560, 50), (201, 199, 200, 50), (585, 583, 584, 50), (648, 646, 647, 50), (655, 653, 654, 50), (219, 218, 0, 50), (363, 362, 0, 50), (370, 369, 0, 50), (416, 415, 0, 50), (292, 291, 2, 50), (346, 345, 4, 50), (379, 378, 5, 50), (296, 295, 3, 50), (421, 420, 7, 50), (402, 401, 6, 50), (455, 454, 8, 50), (507, 506, 10, 50), (511, 510, 11, 50), (503, 502, 9, 50), (515, 514, 12, 50), (366, 365, 0, 50), (374, 373, 0, 50), (398, 397, 0, 50), (724, 722, 723, 55), (732, 731, 23, 55), (755, 754, 0, 55), (740, 739, 25, 55), (736, 735, 24, 55), (771, 770, 29, 55), (767, 766, 28, 55), (775, 774, 30, 55), (779, 778, 31, 55), (795, 794, 33, 55), (787, 786, 32, 55), (728, 726, 727, 55), (748, 747, 26, 55), (744, 742, 743, 55), (759, 758, 27, 55), (752, 750, 751, 55), (763, 761, 762, 55), (783, 781, 782, 55), (791, 789, 790, 55), (807, 806, 35, 55), (811, 810, 36, 55), (803, 802, 34, 55), (799, 797, 798, 55), (819, 818, 37, 55), (815, 813, 814, 55), (823, 821, 822, 55), (831, 830, 38, 55), (867, 866, 44, 55), (827, 825, 826, 55), (835, 833, 834, 55), (839, 837, 838, 55), (855, 854, 41, 55), (851, 850, 40, 55), (863, 862, 43, 55), (879, 878, 47, 55), (875, 874, 46, 55), (859, 858, 42, 55), (871, 870, 45, 55), (883, 882, 48, 55), (847, 846, 39, 55), (843, 841, 842, 55), (887, 885, 886, 55), (891, 889, 890, 55), (335, 333, 334, 51), (351, 349, 350, 51), (489, 487, 488, 51), (425, 423, 424, 51), (565, 563, 564, 54), (573, 571, 572, 54), (578, 576, 577, 54), (205, 203, 204, 54), (589, 587, 588, 54), (593, 592, 15, 54), (602, 601, 17, 54), (606, 605, 18, 54), (614, 613, 20, 54), (623, 622, 21, 54), (627, 626, 22, 54), (597, 596, 16, 54), (610, 609, 19, 54), (630, 629, 0, 54), (568, 567, 0, 54), (439, 437, 438, 53), (478, 476, 477, 53), (546, 544, 545, 53), (619, 617, 618, 53), (542, 540, 541, 53), (634, 632, 633, 53), (641, 639, 640, 53), (554, 553, 14, 53), (637, 636, 0, 53), (549, 548, 0, 53), (406, 404, 405, 52), (659, 657, 658, 52), (435, 433, 434, 52), (451, 449, 450, 52), (459, 457, 458, 52), (463, 461, 462, 52), (467, 465, 466, 52), (527, 525, 526, 52), (531, 530, 13, 52), (208, 207, 0, 49), (338, 337, 0, 49), (355, 354, 0, 49), (409, 408, 0, 49), (443, 442, 0, 49), (470, 469, 0, 49), (481, 480, 0, 49), (493, 492, 0, 49), (518, 517, 0, 49), (534, 533, 0, 49), (557, 556, 0, 49), (581, 580, 0, 49), (644, 643, 0, 49), (651, 650, 0, 49), (0, 0, 0, 0), (428, 427, 0, 64)]
def am_MP : List Nat := [298, 430, 299, 431, 60]
def am_xn (x : Nat) : String := (["java/lang/IndexOutOfBoundsException", "java/lang/IllegalArgumentException", "java/lang/IllegalStateException", "java/lang/UnsupportedOperationException"] : List String).getD x ""
/-- method, pc, index of the class, exception, index of the text, of the constructor, places of the words classLink, stringRef, the text -/
def am_XT : List (Nat × Nat × Nat × Nat × Nat × Nat × Nat × Nat × String) := [(0, 23, 61, 2, 63, 65, 316, 325, "there are 6 branches"), (1, 21, 61, 2, 79, 65, 316, 352, "no other branch is open"), (2, 23, 95, 1, 97, 99, 300, 375, "no such value"), (7, 15, 95, 1, 144, 99, 300, 498, "a branch is not joined to itself"), (7, 57, 61, 2, 146, 65, 316, 499, "the meeting is before the horizon"), (8, 16, 95, 1, 157, 99, 300, 523, "not between the horizon and the clock"), (10, 11, 95, 1, 170, 99, 300, 569, "a byte is not 33 .. 126"), (10, 32, 61, 2, 175, 65, 316, 574, "the text would be longer than 32"), (15, 15, 196, 0, 198, 200, 220, 262, "no such branch"), (16, 7, 196, 0, 204, 200, 220, 367, "no such object"), (17, 9, 196, 0, 206, 200, 220, 371, "no such field"), (18, 9, 95, 1, 208, 99, 300, 417, "what is none of these"), (19, 29, 95, 1, 213, 99, 300, 309, "the branch can not be read then"), (20, 12, 61, 2, 215, 65, 316, 347, "the branch is not open"), (21, 14, 217, 3, 219, 221, 380, 389, "there would be more than 120 writes")]
def am_exc (k pc ix : Nat) : Option Nat := (am_XT.find? fun e => e.1 == k && e.2.1 == pc && e.2.2.1 == ix).map fun e => e.2.2.2.1
def am_xi : List Nat := [59, 61, 62, 63]
def am_xc : List Nat := [222, 302, 318, 382]
/-- method, pc, exception, answer, row of the table, length of astore, place of classLink -/
def am_HT : List (Nat × Nat × Nat × Nat × Nat × Nat × Nat) := [(114, 5, 0, 1, 0, 2, 209), (114, 5, 1, 2, 1, 2, 210), (114, 5, 2, 3, 2, 2, 211), (115, 2, 0, 1, 0, 1, 209), (115, 2, 2, 2, 1, 1, 211), (116, 11, 0, 1, 0, 2, 209), (116, 11, 1, 2, 1, 2, 210), (116, 11, 2, 3, 2, 2, 211), (116, 11, 3, 4, 3, 2, 356), (117, 11, 0, 1, 0, 2, 209), (117, 11, 1, 2, 1, 2, 210), (118, 9, 0, 1, 0, 2, 209), (119, 7, 0, 1, 0, 2, 209), (119, 7, 2, 2, 1, 2, 211), (120, 5, 0, 1, 0, 2, 209), (121, 5, 0, 1, 0, 2, 209), (121, 5, 1, 2, 1, 2, 210), (121, 5, 2, 3, 2, 2, 211), (121, 5, 3, 4, 3, 2, 356), (122, 4, 1, 1, 0, 1, 210), (123, 7, 0, 1, 0, 2, 209), (123, 7, 1, 2, 1, 2, 210), (124, 4, 1, 1, 0, 1, 210), (124, 4, 2, 2, 1, 1, 211), (125, 5, 0, 1, 0, 2, 209), (125, 5, 1, 2, 1, 2, 210), (126, 4, 1, 1, 0, 1, 210), (127, 5, 0, 1, 0, 2, 209), (127, 5, 1, 2, 1, 2, 210)]
def am_hd (k pc x : Nat) : Option Int32 := (am_HT.find? fun e => e.1 == k && e.2.1 == pc && e.2.2.1 == x).map fun e => Int32.ofNat e.2.2.2.1
end
section
/-! what the tables say, checked against the Statement's words -/
def am_mv : Cond → Bool
  | .fieldLinkNest .. => true
  | .methodLinkNest .. => true
  | .stringRef .. => true
  | .castable .. => true
  | .declares _ => true
  | w => goodWord w
def am_tbl : List Cond := lw_tbl.filter am_mv
theorem am_in_t {i : Nat} {w : Cond} (h : lw_tbl[i]? = some w) (hm : am_mv w = true) : w ∈ am_tbl := List.mem_filter.mpr ⟨List.mem_of_getElem? h, hm⟩
theorem am_word {w : Cond} (hm : am_mv w = true) {args a' : Array Value} {s U : State} (hW : s.WarmedH U.vm) (h : w.before args s = true) : w.before a' U = true := by
  cases w
  case fieldLinkNest => exact va_Nw.use rfl (va_Nw.warmF hW (va_Nw.of rfl h))
  case methodLinkNest => exact va_Nw.use rfl (va_Nw.warmM hW (va_Nw.of rfl h))
  case declares => exact va_Nw.use rfl (va_Nw.warmD hW (va_Nw.of rfl h))
  case stringRef own k tx =>
    have h1 : (Cond.stringRef own k tx).before args (s.setVm U.vm) = true := Cond.stringRef_warmed hW h
    simp only [Cond.before, Cond.holds, Cond.value, State.names, State.poolOf?, State.resolvedAt?] at h1 ⊢
    exact h1
  case castable C T =>
    obtain ⟨c1, c2, h1, h2, h3⟩ := Cond.castable_spec h
    have e1 : U.vm.findClass C = some c1 := by rw [hW.alike.findClass]; exact h1
    have e2 : U.vm.findClass T = some c2 := by rw [hW.alike.findClass]; exact h2
    have e3 : U.vm.assignable c1 c2 = true := by rw [hW.alike.assignable]; exact h3
    simp [Cond.before, Cond.holds, Cond.value, e1, e2, e3]
  all_goals exact word_at hW (good_of_word hm) h
def am_q (c : Nat) : vw_C := am_cl.getD c ("", am_F0, 0)
def am_fcw (e : Nat × Nat × Nat × Nat × Nat × Nat) : Cond := if e.2.2.2.2.1 = 0 then .fieldLink (am_on.getD e.1 "BranchedPast$Branches") e.2.1 (am_q e.2.2.1).1 ((am_q e.2.2.1).2.1 e.2.2.2.1).2.1 ((am_q e.2.2.1).2.1 e.2.2.2.1).2.2.1
  else .fieldLinkNest (am_on.getD e.1 "BranchedPast$Branches") e.2.1 (am_q e.2.2.1).1 ((am_q e.2.2.1).2.1 e.2.2.2.1).2.1 ((am_q e.2.2.1).2.1 e.2.2.2.1).2.2.1 "BranchedPast"
set_option maxRecDepth 100000 in
theorem am_FT_ok : (am_FT.all fun e => decide (lw_tbl[e.2.2.2.2.2]? = some (am_fcw e)) && am_mv (am_fcw e) && decide (e.2.2.1 < 6) && decide (e.2.2.2.1 < (am_q e.2.2.1).2.2) && decide (((am_q e.2.2.1).2.1 e.2.2.2.1).1 = (am_q e.2.2.1).1)) = true := by decide +kernel
set_option maxRecDepth 100000 in
theorem am_lay_ok : ((List.range 6).all fun c => decide ((am_lay.getD c []).map (fun i => lw_tbl[i]?) = (u_ws (am_q c).1 (am_q c).2.1 (am_q c).2.2).map some) && (u_ws (am_q c).1 (am_q c).2.1 (am_q c).2.2).all am_mv) = true := by decide +kernel
theorem am_lay_in {c : Nat} (hc : c < 6) : ∀ w ∈ u_ws (am_q c).1 (am_q c).2.1 (am_q c).2.2, w ∈ am_tbl := by
  intro w hw
  have h := List.all_eq_true.mp am_lay_ok c (List.mem_range.mpr hc)
  rw [Bool.and_eq_true, decide_eq_true_eq] at h
  obtain ⟨j, hj⟩ := List.getElem?_of_mem hw
  have h2 : ((am_lay.getD c []).map (fun i => lw_tbl[i]?))[j]? = some (some w) := by rw [h.1, List.getElem?_map, hj]; rfl
  rw [List.getElem?_map] at h2
  cases hi : (am_lay.getD c [])[j]? with
  | none => rw [hi] at h2; cases h2
  | some i =>
    rw [hi] at h2
    exact am_in_t (Option.some.inj h2) (List.all_eq_true.mp h.2 w hw)
theorem am_q_of {c : Nat} (hc : c < 6) : am_cl[c]? = some (am_q c) := by
  unfold am_q
  rw [List.getD_eq_getElem?_getD]
  have : c < am_cl.length := hc
  rw [List.getElem?_eq_getElem this]
  rfl
theorem am_fld_ok {k ix c f : Nat} (h : am_fld k ix = some (c, f)) : ∃ (C : String) (T : u_T) (N : Nat), am_cl[c]? = some (C, T, N) ∧ f < N ∧ (T f).1 = C ∧ (∀ w ∈ u_ws C T N, w ∈ am_tbl) ∧
    (Cond.fieldLink (am_y k).cls ix C (T f).2.1 (T f).2.2.1 ∈ am_tbl ∨ ∃ host, Cond.fieldLinkNest (am_y k).cls ix C (T f).2.1 (T f).2.2.1 host ∈ am_tbl) := by
  unfold am_fld at h
  cases he : am_FT.find? (fun e => e.1 == am_oc k && e.2.1 == ix) with
  | none => rw [he] at h; cases h
  | some e =>
    rw [he] at h
    have h1 := List.find?_some he
    have h2 := List.all_eq_true.mp am_FT_ok e (List.mem_of_find?_eq_some he)
    simp only [Bool.and_eq_true, beq_iff_eq, decide_eq_true_eq] at h1 h2
    obtain ⟨⟨⟨⟨g1, g2⟩, g3⟩, g4⟩, g5⟩ := h2
    obtain ⟨e0, e1, e2, e3, e4, e5⟩ := e
    dsimp only at h1 g1 g2 g3 g4 g5
    cases h
    obtain ⟨rfl, rfl⟩ := h1
    refine ⟨_, _, _, am_q_of g3, g4, g5, am_lay_in g3, ?_⟩
    have hm := am_in_t g1 g2
    unfold am_fcw at hm
    dsimp only at hm
    by_cases hz : e4 = 0
    · rw [if_pos hz] at hm; exact Or.inl hm
    · rw [if_neg hz] at hm; exact Or.inr ⟨_, hm⟩
theorem am_cls_ok {c : Nat} {C : String} {T : u_T} {N : Nat} (h : am_cl[c]? = some (C, T, N)) : ∃ ty0 : Nat → FieldType, (∀ k, k < N → parseFieldDescriptor (T k).2.2.1 = some (ty0 k)) ∧ (∀ a, a < N → ∀ b, b < N → a ≠ b → (T a).2.1 ≠ (T b).2.1) := by
  rcases c with _ | _ | _ | _ | _ | _ | c
  · cases h; exact ⟨am_ty0, am_tyok0, am_nm0⟩
  · cases h; exact ⟨am_ty1, am_tyok1, am_nm1⟩
  · cases h; exact ⟨am_ty2, am_tyok2, am_nm2⟩
  · cases h; exact ⟨am_ty3, am_tyok3, am_nm3⟩
  · cases h; exact ⟨am_ty4, am_tyok4, am_nm4⟩
  · cases h; exact ⟨am_ty5, am_tyok5, am_nm5⟩
  · cases h
set_option maxRecDepth 100000 in
theorem am_ft_ok : ((List.range 6).all fun c => (List.range 18).all fun f => match am_fty c f with | some ty => decide (((am_q c).2.1 f).2.2.2 = false ∧ parseFieldDescriptor ((am_q c).2.1 f).2.2.1 = some ty) | none => true) = true := by decide +kernel
theorem am_fty_ok {c f : Nat} {C : String} {T : u_T} {N : Nat} {ty : FieldType} (h : am_cl[c]? = some (C, T, N)) (hf : f < N) (ht : am_fty c f = some ty) : ∃ ty0 : Nat → FieldType, (∀ k, k < N → parseFieldDescriptor (T k).2.2.1 = some (ty0 k)) ∧ (∀ a, a < N → ∀ b, b < N → a ≠ b → (T a).2.1 ≠ (T b).2.1) ∧ (T f).2.2.2 = false ∧ parseFieldDescriptor (T f).2.2.1 = some ty := by
  obtain ⟨ty0, t1, t2⟩ := am_cls_ok h
  have hc : c < 6 := (List.getElem?_eq_some_iff.mp h).1
  have hq := am_q_of hc
  have hq : am_q c = (C, T, N) := Option.some.inj (hq.symm.trans h)
  have hN : N ≤ 18 := by
    rcases c with _ | _ | _ | _ | _ | _ | c
    all_goals first | (cases h; decide) | (cases h)
  have h0 := List.all_eq_true.mp (List.all_eq_true.mp am_ft_ok c (List.mem_range.mpr hc)) f (List.mem_range.mpr (by omega))
  rw [ht, hq] at h0
  have h0 := decide_eq_true_eq.mp h0
  exact ⟨ty0, t1, t2, h0.1, h0.2⟩
def am_lcw (e : Nat × Nat × Nat × Nat × Nat) : Cond := if e.2.2.2.1 = 0 then .methodLink (am_on.getD e.1 "BranchedPast$Branches") e.2.1 (am_y e.2.2.1) else .methodLinkNest (am_on.getD e.1 "BranchedPast$Branches") e.2.1 (am_y e.2.2.1) "BranchedPast"
set_option maxRecDepth 100000 in
theorem am_MT_ok : (am_MT.all fun e => decide (lw_tbl[e.2.2.2.2]? = some (am_lcw e)) && am_mv (am_lcw e) && decide (e.2.2.1 < 130) && decide (e.2.2.1 ≠ kL_law)) = true := by decide +kernel
def am_kt (k : Nat) : Nat × Nat × Nat × Nat := am_KT.getD k (0, 0, 0, 0)
def am_isw (k : Nat) : Cond := match am_rc k with
  | none => .static (am_y k)
  | some _ => .instanceMethod (am_y k)
def am_plus (k : Nat) : Nat := match am_rc k with
  | none => 0
  | some _ => 1
def am_kchk (k : Nat) : Bool := decide (lw_tbl[(am_kt k).1]? = some (am_cd k)) && am_mv (am_cd k) && decide (lw_tbl[(am_kt k).2.1]? = some (am_isw k)) && am_mv (am_isw k) &&
  (match am_rc k with
    | none => true
    | some c => decide (lw_tbl[(am_kt k).2.2.1]? = some (.selects (am_y k).cls (am_y k) (am_y k))) && decide ((am_q c).1 = (am_y k).cls) && decide (c < 6)) &&
  decide (lw_tbl[(am_kt k).2.2.2]? = some (.initialized (am_y k).cls)) && decide ((am_y k).cls ≠ "java/lang/invoke/MethodHandle") && decide ((am_y k).cls ≠ "java/lang/invoke/VarHandle") &&
  decide ((parseMethodDescriptor (am_y k).desc).map (fun d => d.parameters.length + am_plus k) = some (am_na k)) && decide (am_na k ≤ am_nL k) && plainName (am_y k).cls
end
section
/-! the words of each method, five by five -/
set_option maxRecDepth 100000 in
theorem am_K_0 : ((List.range' 0 5).all fun k => k == kL_law || am_kchk k) = true := by decide +kernel
set_option maxRecDepth 100000 in
theorem am_K_1 : ((List.range' 5 5).all fun k => k == kL_law || am_kchk k) = true := by decide +kernel
set_option maxRecDepth 100000 in
theorem am_K_2 : ((List.range' 10 5).all fun k => k == kL_law || am_kchk k) = true := by decide +kernel
set_option maxRecDepth 100000 in
theorem am_K_3 : ((List.range' 15 5).all fun k => k == kL_law || am_kchk k) = true := by decide +kernel
set_option maxRecDepth 100000 in
theorem am_K_4 : ((List.range' 20 5).all fun k => k == kL_law || am_kchk k) = true := by decide +kernel
set_option maxRecDepth 100000 in
theorem am_K_5 : ((List.range' 25 5).all fun k => k == kL_law || am_kchk k) = true := by decide +kernel
set_option maxRecDepth 100000 in
theorem am_K_6 : ((List.range' 30 5).all fun k => k == kL_law || am_kchk k) = true := by decide +kernel
set_option maxRecDepth 100000 in
theorem am_K_7 : ((List.range' 35 5).all fun k => k == kL_law || am_kchk k) = true := by decide +kernel
set_option maxRecDepth 100000 in
theorem am_K_8 : ((List.range' 40 5).all fun k => k == kL_law || am_kchk k) = true := by decide +kernel
set_option maxRecDepth 100000 in
theorem am_K_9 : ((List.range' 45 5).all fun k => k == kL_law || am_kchk k) = true := by decide +kernel
set_option maxRecDepth 100000 in
theorem am_K_10 : ((List.range' 50 5).all fun k => k == kL_law || am_kchk k) = true := by decide +kernel
set_option maxRecDepth 100000 in
theorem am_K_11 : ((List.range' 55 5).all fun k => k == kL_law || am_kchk k) = true := by decide +kernel
set_option maxRecDepth 100000 in
theorem am_K_12 : ((List.range' 60 5).all fun k => k == kL_law || am_kchk k) = true := by decide +kernel
end
section
/-! the words of each method, five by five -/
set_option maxRecDepth 100000 in
theorem am_K_13 : ((List.range' 65 5).all fun k => k == kL_law || am_kchk k) = true := by decide +kernel
set_option maxRecDepth 100000 in
theorem am_K_14 : ((List.range' 70 5).all fun k => k == kL_law || am_kchk k) = true := by decide +kernel
set_option maxRecDepth 100000 in
theorem am_K_15 : ((List.range' 75 5).all fun k => k == kL_law || am_kchk k) = true := by decide +kernel
set_option maxRecDepth 100000 in
theorem am_K_16 : ((List.range' 80 5).all fun k => k == kL_law || am_kchk k) = true := by decide +kernel
set_option maxRecDepth 100000 in
theorem am_K_17 : ((List.range' 85 5).all fun k => k == kL_law || am_kchk k) = true := by decide +kernel
set_option maxRecDepth 100000 in
theorem am_K_18 : ((List.range' 90 5).all fun k => k == kL_law || am_kchk k) = true := by decide +kernel
set_option maxRecDepth 100000 in
theorem am_K_19 : ((List.range' 95 5).all fun k => k == kL_law || am_kchk k) = true := by decide +kernel
set_option maxRecDepth 100000 in
theorem am_K_20 : ((List.range' 100 5).all fun k => k == kL_law || am_kchk k) = true := by decide +kernel
set_option maxRecDepth 100000 in
theorem am_K_21 : ((List.range' 105 5).all fun k => k == kL_law || am_kchk k) = true := by decide +kernel
set_option maxRecDepth 100000 in
theorem am_K_22 : ((List.range' 110 5).all fun k => k == kL_law || am_kchk k) = true := by decide +kernel
set_option maxRecDepth 100000 in
theorem am_K_23 : ((List.range' 115 5).all fun k => k == kL_law || am_kchk k) = true := by decide +kernel
set_option maxRecDepth 100000 in
theorem am_K_24 : ((List.range' 120 5).all fun k => k == kL_law || am_kchk k) = true := by decide +kernel
set_option maxRecDepth 100000 in
theorem am_K_25 : ((List.range' 125 5).all fun k => k == kL_law || am_kchk k) = true := by decide +kernel
end
section
/-! what the tables say of the calls -/
theorem am_K_all {k : Nat} (hk : k < 130) : (k == kL_law || am_kchk k) = true := by
  by_cases h0 : k < 5
  · exact List.all_eq_true.mp am_K_0 k (List.mem_range'_1.mpr ⟨by omega, by omega⟩)
  by_cases h1 : k < 10
  · exact List.all_eq_true.mp am_K_1 k (List.mem_range'_1.mpr ⟨by omega, by omega⟩)
  by_cases h2 : k < 15
  · exact List.all_eq_true.mp am_K_2 k (List.mem_range'_1.mpr ⟨by omega, by omega⟩)
  by_cases h3 : k < 20
  · exact List.all_eq_true.mp am_K_3 k (List.mem_range'_1.mpr ⟨by omega, by omega⟩)
  by_cases h4 : k < 25
  · exact List.all_eq_true.mp am_K_4 k (List.mem_range'_1.mpr ⟨by omega, by omega⟩)
  by_cases h5 : k < 30
  · exact List.all_eq_true.mp am_K_5 k (List.mem_range'_1.mpr ⟨by omega, by omega⟩)
  by_cases h6 : k < 35
  · exact List.all_eq_true.mp am_K_6 k (List.mem_range'_1.mpr ⟨by omega, by omega⟩)
  by_cases h7 : k < 40
  · exact List.all_eq_true.mp am_K_7 k (List.mem_range'_1.mpr ⟨by omega, by omega⟩)
  by_cases h8 : k < 45
  · exact List.all_eq_true.mp am_K_8 k (List.mem_range'_1.mpr ⟨by omega, by omega⟩)
  by_cases h9 : k < 50
  · exact List.all_eq_true.mp am_K_9 k (List.mem_range'_1.mpr ⟨by omega, by omega⟩)
  by_cases h10 : k < 55
  · exact List.all_eq_true.mp am_K_10 k (List.mem_range'_1.mpr ⟨by omega, by omega⟩)
  by_cases h11 : k < 60
  · exact List.all_eq_true.mp am_K_11 k (List.mem_range'_1.mpr ⟨by omega, by omega⟩)
  by_cases h12 : k < 65
  · exact List.all_eq_true.mp am_K_12 k (List.mem_range'_1.mpr ⟨by omega, by omega⟩)
  by_cases h13 : k < 70
  · exact List.all_eq_true.mp am_K_13 k (List.mem_range'_1.mpr ⟨by omega, by omega⟩)
  by_cases h14 : k < 75
  · exact List.all_eq_true.mp am_K_14 k (List.mem_range'_1.mpr ⟨by omega, by omega⟩)
  by_cases h15 : k < 80
  · exact List.all_eq_true.mp am_K_15 k (List.mem_range'_1.mpr ⟨by omega, by omega⟩)
  by_cases h16 : k < 85
  · exact List.all_eq_true.mp am_K_16 k (List.mem_range'_1.mpr ⟨by omega, by omega⟩)
  by_cases h17 : k < 90
  · exact List.all_eq_true.mp am_K_17 k (List.mem_range'_1.mpr ⟨by omega, by omega⟩)
  by_cases h18 : k < 95
  · exact List.all_eq_true.mp am_K_18 k (List.mem_range'_1.mpr ⟨by omega, by omega⟩)
  by_cases h19 : k < 100
  · exact List.all_eq_true.mp am_K_19 k (List.mem_range'_1.mpr ⟨by omega, by omega⟩)
  by_cases h20 : k < 105
  · exact List.all_eq_true.mp am_K_20 k (List.mem_range'_1.mpr ⟨by omega, by omega⟩)
  by_cases h21 : k < 110
  · exact List.all_eq_true.mp am_K_21 k (List.mem_range'_1.mpr ⟨by omega, by omega⟩)
  by_cases h22 : k < 115
  · exact List.all_eq_true.mp am_K_22 k (List.mem_range'_1.mpr ⟨by omega, by omega⟩)
  by_cases h23 : k < 120
  · exact List.all_eq_true.mp am_K_23 k (List.mem_range'_1.mpr ⟨by omega, by omega⟩)
  by_cases h24 : k < 125
  · exact List.all_eq_true.mp am_K_24 k (List.mem_range'_1.mpr ⟨by omega, by omega⟩)
  by_cases h25 : k < 130
  · exact List.all_eq_true.mp am_K_25 k (List.mem_range'_1.mpr ⟨by omega, by omega⟩)
  omega
theorem am_mth_in {k ix kc : Nat} (h : am_mth k ix = some kc) : (Cond.methodLink (am_y k).cls ix (am_y kc) ∈ am_tbl ∨ ∃ host, Cond.methodLinkNest (am_y k).cls ix (am_y kc) host ∈ am_tbl) ∧ am_kchk kc = true := by
  unfold am_mth at h
  cases he : am_MT.find? (fun e => e.1 == am_oc k && e.2.1 == ix) with
  | none => rw [he] at h; cases h
  | some e =>
    rw [he] at h
    have h1 := List.find?_some he
    have h2 := List.all_eq_true.mp am_MT_ok e (List.mem_of_find?_eq_some he)
    simp only [Bool.and_eq_true, beq_iff_eq, decide_eq_true_eq] at h1 h2
    obtain ⟨⟨⟨g1, g2⟩, g3⟩, g4⟩ := h2
    obtain ⟨e0, e1, e2, e3, e4⟩ := e
    dsimp only at h1 g1 g2 g3 g4
    cases h
    obtain ⟨rfl, rfl⟩ := h1
    refine ⟨?_, ?_⟩
    · have hm := am_in_t g1 g2
      unfold am_lcw at hm
      dsimp only at hm
      by_cases hz : e3 = 0
      · rw [if_pos hz] at hm; exact Or.inl hm
      · rw [if_neg hz] at hm; exact Or.inr ⟨_, hm⟩
    · have h5 := am_K_all g3
      rw [Bool.or_eq_true, beq_iff_eq] at h5
      exact h5.resolve_left g4
theorem am_mth_v {k ix kc c : Nat} (h : am_mth k ix = some kc) (hc : am_rc kc = some c) : am_cd kc ∈ am_tbl ∧ (Cond.methodLink (am_y k).cls ix (am_y kc) ∈ am_tbl ∨ ∃ host, Cond.methodLinkNest (am_y k).cls ix (am_y kc) host ∈ am_tbl) ∧ Cond.instanceMethod (am_y kc) ∈ am_tbl ∧ Cond.selects (am_y kc).cls (am_y kc) (am_y kc) ∈ am_tbl ∧
    ((am_y kc).cls ≠ "java/lang/invoke/MethodHandle" ∧ (am_y kc).cls ≠ "java/lang/invoke/VarHandle") ∧ (parseMethodDescriptor (am_y kc).desc).map (fun d => d.parameters.length + 1) = some (am_na kc) ∧ am_na kc ≤ am_nL kc ∧ (∃ T N, am_cl[c]? = some ((am_y kc).cls, T, N)) ∧ plainName (am_y kc).cls = true := by
  obtain ⟨h1, h2⟩ := am_mth_in h
  unfold am_kchk am_isw am_plus at h2
  rw [hc] at h2
  simp only [Bool.and_eq_true, decide_eq_true_eq] at h2
  obtain ⟨⟨⟨⟨⟨⟨⟨⟨⟨⟨g1, g2⟩, g3⟩, g4⟩, ⟨g5, g6⟩, g7⟩, g8⟩, g9⟩, g10⟩, g11⟩, g12⟩, g13⟩ := h2
  exact ⟨am_in_t g1 g2, h1, am_in_t g3 g4, am_in_t g5 rfl, ⟨g9, g10⟩, g11, g12, ⟨(am_q c).2.1, (am_q c).2.2, by rw [am_q_of g7, ← g6]⟩, g13⟩
theorem am_mth_s {k ix kc : Nat} (h : am_mth k ix = some kc) (hc : am_rc kc = none) : am_cd kc ∈ am_tbl ∧ (Cond.methodLink (am_y k).cls ix (am_y kc) ∈ am_tbl ∨ ∃ host, Cond.methodLinkNest (am_y k).cls ix (am_y kc) host ∈ am_tbl) ∧ Cond.static (am_y kc) ∈ am_tbl ∧ Cond.initialized (am_y kc).cls ∈ am_tbl ∧
    ((am_y kc).cls ≠ "java/lang/invoke/MethodHandle" ∧ (am_y kc).cls ≠ "java/lang/invoke/VarHandle") ∧ (parseMethodDescriptor (am_y kc).desc).map (fun d => d.parameters.length) = some (am_na kc) ∧ am_na kc ≤ am_nL kc ∧ plainName (am_y kc).cls = true := by
  obtain ⟨h1, h2⟩ := am_mth_in h
  unfold am_kchk am_isw am_plus at h2
  rw [hc] at h2
  simp only [Bool.and_eq_true, decide_eq_true_eq] at h2
  obtain ⟨⟨⟨⟨⟨⟨⟨⟨⟨⟨g1, g2⟩, g3⟩, g4⟩, -⟩, g8⟩, g9⟩, g10⟩, g11⟩, g12⟩, g13⟩ := h2
  exact ⟨am_in_t g1 g2, h1, am_in_t g3 g4, am_in_t g8 rfl, ⟨g9, g10⟩, g11, g12, g13⟩
def am_mcw (e : Nat × Nat × Nat × Nat) : Cond := .methodLink (am_on.getD e.1 "BranchedPast$Branches") e.2.1 (if e.2.2.1 = 1 then Lib.Math.max.name else Lib.Math.min.name)
set_option maxRecDepth 100000 in
theorem am_MX_ok : (am_MX.all fun e => decide (lw_tbl[e.2.2.2]? = some (am_mcw e))) = true := by decide +kernel
set_option maxRecDepth 100000 in
theorem am_MP_ok : lw_tbl[am_MP.getD 0 0]? = some (.static Lib.Math.max.name) ∧ lw_tbl[am_MP.getD 1 0]? = some (.static Lib.Math.min.name) ∧ lw_tbl[am_MP.getD 2 0]? = some (.code Lib.Math.max.name Lib.Math.max.code 2 (some .int)) ∧ lw_tbl[am_MP.getD 3 0]? = some (.code Lib.Math.min.name Lib.Math.min.code 2 (some .int)) ∧ lw_tbl[am_MP.getD 4 0]? = some (.initialized "java/lang/Math") := by decide +kernel
theorem am_mx_in {k ix : Nat} {b : Bool} (h : am_mx k ix = some b) : Cond.methodLink (am_y k).cls ix (if b = true then Lib.Math.max.name else Lib.Math.min.name) ∈ am_tbl := by
  unfold am_mx at h
  cases he : am_MX.find? (fun e => e.1 == am_oc k && e.2.1 == ix) with
  | none => rw [he] at h; cases h
  | some e =>
    rw [he] at h
    have h1 := List.find?_some he
    have h2 := List.all_eq_true.mp am_MX_ok e (List.mem_of_find?_eq_some he)
    simp only [Bool.and_eq_true, beq_iff_eq, decide_eq_true_eq] at h1 h2
    obtain ⟨e0, e1, e2, e3⟩ := e
    dsimp only at h1 h2
    cases h
    obtain ⟨rfl, rfl⟩ := h1
    have hm := am_in_t h2 rfl
    unfold am_mcw at hm
    dsimp only at hm
    by_cases hz : e2 = 1
    · rw [if_pos hz] at hm; rw [if_pos (by simp [hz])]; exact hm
    · rw [if_neg hz] at hm; rw [if_neg (by simp [hz])]; exact hm
theorem am_mx_t {k ix : Nat} (h : am_mx k ix = some true) : Cond.methodLink (am_y k).cls ix Lib.Math.max.name ∈ am_tbl ∧ Cond.static Lib.Math.max.name ∈ am_tbl ∧ Cond.initialized "java/lang/Math" ∈ am_tbl ∧ Cond.code Lib.Math.max.name Lib.Math.max.code 2 (some .int) ∈ am_tbl :=
  ⟨am_mx_in h, am_in_t am_MP_ok.1 rfl, am_in_t am_MP_ok.2.2.2.2 rfl, am_in_t am_MP_ok.2.2.1 rfl⟩
theorem am_mx_f {k ix : Nat} (h : am_mx k ix = some false) : Cond.methodLink (am_y k).cls ix Lib.Math.min.name ∈ am_tbl ∧ Cond.static Lib.Math.min.name ∈ am_tbl ∧ Cond.initialized "java/lang/Math" ∈ am_tbl ∧ Cond.code Lib.Math.min.name Lib.Math.min.code 2 (some .int) ∈ am_tbl :=
  ⟨am_mx_in h, am_in_t am_MP_ok.2.1 rfl, am_in_t am_MP_ok.2.2.2.2 rfl, am_in_t am_MP_ok.2.2.2.1 rfl⟩
theorem am_nL_le (k : Nat) : am_nL k ≤ 15 := by
  unfold am_nL
  rw [List.getD_eq_getElem?_getD]
  cases h : am_nLl[k]? with
  | none => exact Nat.zero_le _
  | some n =>
    have h1 : am_nLl.all (fun n => decide (n ≤ 15)) = true := by decide +kernel
    exact decide_eq_true_eq.mp (List.all_eq_true.mp h1 n (List.mem_of_getElem? h))
end
section
/-! exceptions: what the tables say of the throws and of the handlers -/
def am_hq (k r : Nat) : Nat × Nat × Nat × Nat := (am_et k).getD r (0, 0, 0, 0)
def am_hcode (k h alen v : Nat) : Bool := (match decode (am_bytes k) h with
    | .ok (.astore j, 2) => alen == 2 && decide (j < am_nL k)
    | .ok (.astore_n j, 1) => alen == 1 && decide ((j : Nat) < am_nL k)
    | _ => false) && decide (decode (am_bytes k) (h + alen) = .ok (.iconst (v : Int), 1)) && decide (decode (am_bytes k) (h + alen + 1) = .ok (.ireturn, 1)) && decide (Int32.ofInt (v : Int) = Int32.ofNat v)
def am_hchk (e : Nat × Nat × Nat × Nat × Nat × Nat × Nat) : Bool := match e with
  | (k, pc, x, v, r, alen, ps) => decide (r < (am_et k).length) && decide ((am_hq k r).1 ≤ pc) && decide (pc < (am_hq k r).2.1) && decide ((am_hq k r).2.2.2 ≠ 0) && decide (lw_tbl[ps]? = some (.classLink (am_y k).cls (am_hq k r).2.2.2 (am_xn x))) && decide (x < 4) &&
    decide (lw_tbl[am_xc.getD x 0]? = some (.castable (am_xn x) (am_xn x))) && am_hcode k (am_hq k r).2.2.1 alen v && ((List.range r).all fun j => am_HT.any fun e' => e'.1 == k && e'.2.2.2.2.1 == j && e'.2.2.1 != x) && decide (am_rt k = some .int)
set_option maxRecDepth 100000 in
theorem am_HT_ok : am_HT.all am_hchk = true := by decide +kernel
theorem am_hd_ok {k pc x : Nat} {a : Int32} (h : am_hd k pc x = some a) : ∃ (v r alen ps : Nat), a = Int32.ofNat v ∧ am_hchk (k, pc, x, v, r, alen, ps) = true := by
  unfold am_hd at h
  cases he : am_HT.find? (fun e => e.1 == k && e.2.1 == pc && e.2.2.1 == x) with
  | none => rw [he] at h; cases h
  | some e =>
    rw [he] at h
    have h1 := List.find?_some he
    have h2 := List.all_eq_true.mp am_HT_ok e (List.mem_of_find?_eq_some he)
    simp only [Bool.and_eq_true, beq_iff_eq] at h1
    obtain ⟨e0, e1, e2, e3, e4, e5, e6⟩ := e
    dsimp only at h1
    obtain ⟨⟨rfl, rfl⟩, rfl⟩ := h1
    exact ⟨e3, e4, e5, e6, (Option.some.inj h).symm, h2⟩
theorem am_hrow {k r x : Nat} (h : ((List.range r).all fun j => am_HT.any fun e' => e'.1 == k && e'.2.2.2.2.1 == j && e'.2.2.1 != x) = true) {j : Nat} (hj : j < r) : ∃ x', x' ≠ x ∧ x' < 4 ∧ (am_hq k j).2.2.2 ≠ 0 ∧ Cond.classLink (am_y k).cls (am_hq k j).2.2.2 (am_xn x') ∈ am_tbl := by
  have h1 := List.all_eq_true.mp h j (List.mem_range.mpr hj)
  obtain ⟨e, he, h2⟩ := List.any_eq_true.mp h1
  have h3 := List.all_eq_true.mp am_HT_ok e he
  simp only [Bool.and_eq_true, beq_iff_eq, bne_iff_ne] at h2
  obtain ⟨e0, e1, e2, e3, e4, e5, e6⟩ := e
  dsimp only at h2
  obtain ⟨⟨rfl, rfl⟩, h2⟩ := h2
  unfold am_hchk at h3
  simp only [Bool.and_eq_true, decide_eq_true_eq] at h3
  obtain ⟨⟨⟨⟨⟨⟨⟨⟨⟨-, -⟩, -⟩, g4⟩, g5⟩, g6⟩, -⟩, -⟩, -⟩, -⟩ := h3
  exact ⟨e2, h2, g6, g4, am_in_t g5 rfl⟩
abbrev am_sup : List String := ["java/lang/RuntimeException", "java/lang/Exception"]
def am_xic : List Nat := [200, 99, 65, 221]
set_option maxRecDepth 100000 in
theorem am_at_0 : ((vx_atS "BranchedPast" 200 (am_xn 0) am_sup).all fun w => decide (w ∈ lw_tbl) && am_mv w && vx_ot w) = true := by decide +kernel
set_option maxRecDepth 100000 in
theorem am_at_1 : ((vx_atS "BranchedPast" 99 (am_xn 1) am_sup).all fun w => decide (w ∈ lw_tbl) && am_mv w && vx_ot w) = true := by decide +kernel
set_option maxRecDepth 100000 in
theorem am_at_2 : ((vx_atS "BranchedPast" 65 (am_xn 2) am_sup).all fun w => decide (w ∈ lw_tbl) && am_mv w && vx_ot w) = true := by decide +kernel
set_option maxRecDepth 100000 in
theorem am_at_3 : ((vx_atS "BranchedPast" 221 (am_xn 3) am_sup).all fun w => decide (w ∈ lw_tbl) && am_mv w && vx_ot w) = true := by decide +kernel
theorem am_at {x : Nat} (hx : x < 4) : ∀ w ∈ vx_atS "BranchedPast" (am_xic.getD x 0) (am_xn x) am_sup, w ∈ am_tbl ∧ vx_ot w = true := by
  have h : ((vx_atS "BranchedPast" (am_xic.getD x 0) (am_xn x) am_sup).all fun w => decide (w ∈ lw_tbl) && am_mv w && vx_ot w) = true := by
    rcases x with _ | _ | _ | _ | x
    · exact am_at_0
    · exact am_at_1
    · exact am_at_2
    · exact am_at_3
    · omega
  intro w hw
  have h1 := List.all_eq_true.mp h w hw
  simp only [Bool.and_eq_true, decide_eq_true_eq] at h1
  exact ⟨List.mem_filter.mpr ⟨h1.1.1, h1.1.2⟩, h1.2⟩
def am_xchk (e : Nat × Nat × Nat × Nat × Nat × Nat × Nat × Nat × String) : Bool := match e with
  | (k, pc, ix, x, is, ic, pl, ps, tx) => decide ((am_y k).cls = "BranchedPast") && decide (am_et k = []) && decide (6 ≤ am_rk k) && decide (x < 4) && decide (ic = am_xic.getD x 0) && decide (decode (am_bytes k) (pc + 3) = .ok (.dup, 1)) && decide (decode (am_bytes k) (pc + 4) = .ok (.ldc is, 2)) && decide (decode (am_bytes k) (pc + 6) = .ok (.invokespecial ic, 3)) && decide (decode (am_bytes k) (pc + 9) = .ok (.athrow, 1)) &&
    decide (lw_tbl[pl]? = some (.classLink "BranchedPast" ix (am_xn x))) && decide (lw_tbl[am_xi.getD x 0]? = some (.initialized (am_xn x))) && decide (lw_tbl[ps]? = some (.stringRef "BranchedPast" is tx)) && Bundle.fit (am_xn x) && am_sup.all Bundle.fit
set_option maxRecDepth 100000 in
theorem am_XT_ok : am_XT.all am_xchk = true := by decide +kernel
theorem am_exc_ok {k pc ix x : Nat} (h : am_exc k pc ix = some x) : ∃ (is ic pl ps : Nat) (tx : String), am_xchk (k, pc, ix, x, is, ic, pl, ps, tx) = true := by
  unfold am_exc at h
  cases he : am_XT.find? (fun e => e.1 == k && e.2.1 == pc && e.2.2.1 == ix) with
  | none => rw [he] at h; cases h
  | some e =>
    rw [he] at h
    have h1 := List.find?_some he
    have h2 := List.all_eq_true.mp am_XT_ok e (List.mem_of_find?_eq_some he)
    simp only [Bool.and_eq_true, beq_iff_eq] at h1
    obtain ⟨e0, e1, e2, e3, e4, e5, e6, e7, e8⟩ := e
    dsimp only at h1
    obtain ⟨⟨rfl, rfl⟩, rfl⟩ := h1
    cases h
    exact ⟨e4, e5, e6, e7, e8, h2⟩
theorem am_str {own tx : String} {k : Nat} {args : Array Value} {s : State} (h : (Cond.stringRef own k tx).before args s = true) : ∃ a, vk_R own k tx a s := by
  have h0 := h
  simp only [Cond.before, Cond.holds, Cond.value] at h
  cases hc : s.vm.findClass own with
  | none => simp [hc] at h
  | some cur =>
    cases hr : s.resolvedAt? own k with
    | none => simp [hc, hr] at h
    | some r =>
      cases r with
      | string a =>
        refine ⟨a, vk_R.of h0 ?_⟩
        cases hk : s.vm.classes[cur]? with
        | none => simp [State.resolvedAt?, hc, hk] at hr
        | some kk =>
          have hr' : kk.resolved[k]?.join = some (Resolved.string a) := by simpa [State.resolvedAt?, hc, hk] using hr
          simp [Term.eval, hc, hk, hr']
      | _ => simp [hc, hr] at h
end
section
/-! THE ABSTRACT MACHINE. Places stand for addresses ('.ref p' is the cell at place p); the memory M: ints by place and slot; longs; how many exceptions may still be caught; the script's length and ints. -/
abbrev am_M : Type := (Nat → Nat → Int32) × (Nat → Nat → Int64) × Nat × Nat × (Nat → Int32)
abbrev am_R : Type := Option Value ⊕ Nat
abbrev am_T : Type := am_R → am_M → Prop
abbrev am_K : Type := Nat → Nat → List Value → List Value → am_M → am_T → Prop
def am_set (M : am_M) (p i : Nat) (x : Int32) : am_M := (va_up M.1 p (upd (M.1 p) i x), M.2)
def am_setL (M : am_M) (p i : Nat) (x : Int64) : am_M := (M.1, va_up M.2.1 p (vp_updL (M.2.1 p) i x), M.2.2)
def am_pay (M : am_M) : am_M := (M.1, M.2.1, M.2.2.1 - 1, M.2.2.2)
def am_fv (M : am_M) (p f : Nat) : Option Nat → Value
  | none => .int (M.1 p f)
  | some q => .ref q
def am_cmp : Jvm.ClassFile.Cond → Int32 → Int32 → Prop
  | .eq, x, y => x = y
  | .ne, x, y => ¬ x = y
  | .lt, x, y => x < y
  | .ge, x, y => y ≤ x
  | .gt, x, y => y < x
  | .le, x, y => x ≤ y
/-- the locals with which a method begins -/
def am_in (k : Nat) (as : List Value) : List Value := as ++ List.replicate (am_nL k - as.length) .null
/-- behind a call: the answer, or an exception, which the method's own handler may catch -/
def am_af (w : am_K) (k pc : Nat) (L r : List Value) (Q : am_T) : am_T := fun res M => match res with
  | .inl v => w k (pc + 3) L (v.toList ++ r) M Q
  | .inr x => match am_hd k pc x with
    | none => am_et k = [] ∧ Q (.inr x) M
    | some v => 0 < M.2.2.1 ∧ Q (.inl (some (.int v))) (am_pay M)
/-- one instruction -/
def am_do (w : am_K) (k pc : Nat) (i : Instr) (len : Nat) (L st : List Value) (M : am_M) (Q : am_T) : Prop :=
  match i with
  | .iconst n => len = 1 ∧ ∃ v, Int32.ofInt n = v ∧ w k (pc + 1) L (.int v :: st) M Q
  | .bipush n => len = 2 ∧ ∃ v, (Int8.ofInt n).toInt32 = v ∧ w k (pc + 2) L (.int v :: st) M Q
  | .sipush n => len = 3 ∧ ∃ v, (Int16.ofInt n).toInt32 = v ∧ w k (pc + 3) L (.int v :: st) M Q
  | .iload_n j => len = 1 ∧ ∃ x, L[(j : Nat)]? = some (.int x) ∧ w k (pc + 1) L (.int x :: st) M Q
  | .iload j => len = 2 ∧ ∃ x, L[j]? = some (.int x) ∧ w k (pc + 2) L (.int x :: st) M Q
  | .aload_n j => len = 1 ∧ ∃ x, L[(j : Nat)]? = some (.ref x) ∧ w k (pc + 1) L (.ref x :: st) M Q
  | .aload j => len = 2 ∧ ∃ x, L[j]? = some (.ref x) ∧ w k (pc + 2) L (.ref x :: st) M Q
  | .istore_n j => len = 1 ∧ ∃ x r, st = .int x :: r ∧ (j : Nat) < L.length ∧ w k (pc + 1) (L.set j (.int x)) r M Q
  | .istore j => len = 2 ∧ ∃ x r, st = .int x :: r ∧ j < L.length ∧ w k (pc + 2) (L.set j (.int x)) r M Q
  | .iinc j n => len = 3 ∧ ∃ x v, L[j]? = some (.int x) ∧ x + Int32.ofInt n = v ∧ w k (pc + 3) (L.set j (.int v)) st M Q
  | .iadd => len = 1 ∧ ∃ y x r, st = .int y :: .int x :: r ∧ w k (pc + 1) L (.int (x + y) :: r) M Q
  | .isub => len = 1 ∧ ∃ y x r, st = .int y :: .int x :: r ∧ w k (pc + 1) L (.int (x - y) :: r) M Q
  | .imul => len = 1 ∧ ∃ y x r, st = .int y :: .int x :: r ∧ w k (pc + 1) L (.int (x * y) :: r) M Q
  | .iand => len = 1 ∧ ∃ y x r, st = .int y :: .int x :: r ∧ w k (pc + 1) L (.int (x &&& y) :: r) M Q
  | .ior => len = 1 ∧ ∃ y x r, st = .int y :: .int x :: r ∧ w k (pc + 1) L (.int (x ||| y) :: r) M Q
  | .ishl => len = 1 ∧ ∃ y x r, st = .int y :: .int x :: r ∧ w k (pc + 1) L (.int (x <<< (y &&& 31)) :: r) M Q
  | .ishr => len = 1 ∧ ∃ y x r, st = .int y :: .int x :: r ∧ w k (pc + 1) L (.int (x >>> (y &&& 31)) :: r) M Q
  | .iushr => len = 1 ∧ ∃ y x r, st = .int y :: .int x :: r ∧ w k (pc + 1) L (.int (x.toUInt32 >>> (y.toUInt32 &&& Int32.toUInt32 31)).toInt32 :: r) M Q
  | .ineg => len = 1 ∧ ∃ x r, st = .int x :: r ∧ w k (pc + 1) L (.int (-x) :: r) M Q
  | .i2l => len = 1 ∧ ∃ x r, st = .int x :: r ∧ w k (pc + 1) L (.long x.toInt64 :: r) M Q
  | .i2c => len = 1 ∧ ∃ x r, st = .int x :: r ∧ w k (pc + 1) L (.int (x.toUInt32 % 65536).toInt32 :: r) M Q
  | .lcmp => len = 1 ∧ ∃ y x r, st = .long y :: .long x :: r ∧ w k (pc + 1) L (.int (lg_cmp x y) :: r) M Q
  | .dup => len = 1 ∧ ∃ v r, st = v :: r ∧ am_ok v = true ∧ w k (pc + 1) L (v :: v :: r) M Q
  | .goto off => len = 3 ∧ ∃ t : Nat, (pc : Int) + off = t ∧ w k t L st M Q
  | .ifCond c off => len = 3 ∧ ∃ (t : Nat) (x : Int32) (r : List Value), st = .int x :: r ∧ (pc : Int) + off = t ∧ (am_cmp c x 0 → w k t L r M Q) ∧ (¬ am_cmp c x 0 → w k (pc + 3) L r M Q)
  | .if_icmp c off => len = 3 ∧ ∃ (t : Nat) (y x : Int32) (r : List Value), st = .int y :: .int x :: r ∧ (pc : Int) + off = t ∧ (am_cmp c x y → w k t L r M Q) ∧ (¬ am_cmp c x y → w k (pc + 3) L r M Q)
  | .tableswitch d lo hi offs => ∃ (x : Int32) (r : List Value), st = .int x :: r ∧
      (x.toInt < lo ∨ hi < x.toInt → ∃ t : Nat, (pc : Int) + d = t ∧ w k t L r M Q) ∧
      (¬ x.toInt < lo → ¬ hi < x.toInt → ∃ (off : Int) (t : Nat), offs[(x.toInt - lo).toNat]? = some off ∧ (pc : Int) + off = t ∧ w k t L r M Q)
  | .iaload => len = 1 ∧ ∃ (x : Int32) (p : Nat) (r : List Value), st = .int x :: .ref p :: r ∧
      ((p = am_SC ∧ vp_in x M.2.2.2.1 ∧ w k (pc + 1) L (.int (M.2.2.2.2 x.toNatClampNeg) :: r) M Q) ∨
       ∃ n, am_sh p = some (.inl (.int, n)) ∧ vp_in x n ∧ w k (pc + 1) L (.int (M.1 p x.toNatClampNeg) :: r) M Q)
  | .baload => len = 1 ∧ ∃ (x : Int32) (p n : Nat) (r : List Value), st = .int x :: .ref p :: r ∧ am_sh p = some (.inl (.boolean, n)) ∧ vp_in x n ∧ w k (pc + 1) L (.int (M.1 p x.toNatClampNeg) :: r) M Q
  | .caload => len = 1 ∧ ∃ (x : Int32) (p n : Nat) (r : List Value), st = .int x :: .ref p :: r ∧ am_sh p = some (.inl (.char, n)) ∧ vp_in x n ∧ w k (pc + 1) L (.int (M.1 p x.toNatClampNeg) :: r) M Q
  | .laload => len = 1 ∧ ∃ (x : Int32) (p n : Nat) (r : List Value), st = .int x :: .ref p :: r ∧ am_sh p = some (.inl (.long, n)) ∧ vp_in x n ∧ w k (pc + 1) L (.long (M.2.1 p x.toNatClampNeg) :: r) M Q
  | .iastore => len = 1 ∧ ∃ (v x : Int32) (p n : Nat) (r : List Value), st = .int v :: .int x :: .ref p :: r ∧ am_sh p = some (.inl (.int, n)) ∧ vp_in x n ∧ w k (pc + 1) L r (am_set M p x.toNatClampNeg v) Q
  | .bastore => len = 1 ∧ ∃ (v x : Int32) (p n : Nat) (r : List Value), st = .int v :: .int x :: .ref p :: r ∧ am_sh p = some (.inl (.boolean, n)) ∧ vp_in x n ∧ w k (pc + 1) L r (am_set M p x.toNatClampNeg (vp_nar .boolean v)) Q
  | .castore => len = 1 ∧ ∃ (v x : Int32) (p n : Nat) (r : List Value), st = .int v :: .int x :: .ref p :: r ∧ am_sh p = some (.inl (.char, n)) ∧ vp_in x n ∧ w k (pc + 1) L r (am_set M p x.toNatClampNeg (vp_nar .char v)) Q
  | .lastore => len = 1 ∧ ∃ (v : Int64) (x : Int32) (p n : Nat) (r : List Value), st = .long v :: .int x :: .ref p :: r ∧ am_sh p = some (.inl (.long, n)) ∧ vp_in x n ∧ w k (pc + 1) L r (am_setL M p x.toNatClampNeg v) Q
  | .arraylength => len = 1 ∧ ∃ (p : Nat) (r : List Value), st = .ref p :: r ∧
      ((p = am_SC ∧ w k (pc + 1) L (.int (Int32.ofNat M.2.2.2.1) :: r) M Q) ∨ ∃ (ty : FieldType) (n : Nat), am_sh p = some (.inl (ty, n)) ∧ ty ∈ am_tyL ∧ w k (pc + 1) L (.int (Int32.ofNat n) :: r) M Q)
  | .getfield ix => len = 3 ∧ ∃ (p c f : Nat) (r : List Value) (fs : List (Option Nat)) (o : Option Nat), st = .ref p :: r ∧ am_fld k ix = some (c, f) ∧ am_sh p = some (.inr (c, fs)) ∧ fs[f]? = some o ∧ w k (pc + 3) L (am_fv M p f o :: r) M Q
  | .putfield ix => len = 3 ∧ ∃ (v : Int32) (p c f : Nat) (r : List Value) (fs : List (Option Nat)) (ty : FieldType), st = .int v :: .ref p :: r ∧ am_fld k ix = some (c, f) ∧ am_sh p = some (.inr (c, fs)) ∧ fs[f]? = some none ∧ am_fty c f = some ty ∧ narrow ty (.int v) = .int v ∧ fits ty (.int v) = true ∧ w k (pc + 3) L r (am_set M p f v) Q
  | .ireturn => len = 1 ∧ ∃ (v : Int32) (ty : FieldType), st = [.int v] ∧ am_rt k = some ty ∧ narrow ty (.int v) = .int v ∧ Q (.inl (some (.int v))) M
  | .return_ => len = 1 ∧ st = [] ∧ am_rt k = none ∧ Q (.inl none) M
  | .invokevirtual ix => len = 3 ∧ ∃ (kc p c : Nat) (As r : List Value) (fs : List (Option Nat)), am_mth k ix = some kc ∧ st = As.reverse ++ .ref p :: r ∧ am_na kc = As.length + 1 ∧ am_rk kc < am_rk k ∧ am_sh p = some (.inr (c, fs)) ∧ am_rc kc = some c ∧ (As.all am_ok) = true ∧ (r.map fun v => v.category).sum ≤ 8 ∧
      w kc 0 (am_in kc (.ref p :: As)) [] M (am_af w k pc L r Q)
  | .invokestatic ix => len = 3 ∧
      ((∃ (y x : Int32) (r : List Value), am_mx k ix = some true ∧ 0 < am_rk k ∧ st = .int y :: .int x :: r ∧ (r.map fun v => v.category).sum ≤ 8 ∧ w k (pc + 3) L (.int (if x < y then y else x) :: r) M Q) ∨
       (∃ (y x : Int32) (r : List Value), am_mx k ix = some false ∧ 0 < am_rk k ∧ st = .int y :: .int x :: r ∧ (r.map fun v => v.category).sum ≤ 8 ∧ w k (pc + 3) L (.int (if y < x then y else x) :: r) M Q) ∨
       ∃ (kc : Nat) (As r : List Value), am_mth k ix = some kc ∧ st = As.reverse ++ r ∧ am_na kc = As.length ∧ am_rk kc < am_rk k ∧ am_rc kc = none ∧ (As.all am_ok) = true ∧ (r.map fun v => v.category).sum ≤ 8 ∧ w kc 0 (am_in kc As) [] M (am_af w k pc L r Q))
  | .new ix => len = 3 ∧ ∃ (x : Nat), am_exc k pc ix = some x ∧ (st.map fun v => v.category).sum ≤ 8 ∧ Q (.inr x) M
  | _ => False
/-- a predicate that every instruction carries backwards -/
def am_Cl (X : am_K) : Prop := ∀ (k pc : Nat) (L st : List Value) (M : am_M) (Q : am_T) (i : Instr) (len : Nat), decode (am_bytes k) pc = .ok (i, len) → am_do X k pc i len L st M Q → X k pc L st M Q
/-- method k, from pc with locals L, stack st and memory M, comes to an end with Q: the least such predicate -/
def am_W (k pc : Nat) (L st : List Value) (M : am_M) (Q : am_T) : Prop := ∀ X : am_K, am_Cl X → X k pc L st M Q
theorem am_af_mono {w w' : am_K} (hw : ∀ (k pc : Nat) (L st : List Value) (M : am_M) (Q Q' : am_T), w k pc L st M Q → (∀ r m, Q r m → Q' r m) → w' k pc L st M Q') {k pc : Nat} {L r : List Value} {Q Q' : am_T} (hQ : ∀ r m, Q r m → Q' r m) : ∀ (res : am_R) (M : am_M), am_af w k pc L r Q res M → am_af w' k pc L r Q' res M := by
  intro res M h
  cases res with
  | inl v => exact hw _ _ _ _ _ _ _ h hQ
  | inr x =>
    simp only [am_af] at h ⊢
    cases hh : am_hd k pc x with
    | none => rw [hh] at h; exact ⟨h.1, hQ _ _ h.2⟩
    | some v => rw [hh] at h; exact ⟨h.1, hQ _ _ h.2⟩
set_option maxHeartbeats 4000000 in
theorem am_do_mono {w w' : am_K} (hw : ∀ (k pc : Nat) (L st : List Value) (M : am_M) (Q Q' : am_T), w k pc L st M Q → (∀ r m, Q r m → Q' r m) → w' k pc L st M Q') {k pc : Nat} {i : Instr} {len : Nat} {L st : List Value} {M : am_M} {Q Q' : am_T} (hQ : ∀ r m, Q r m → Q' r m) (h : am_do w k pc i len L st M Q) : am_do w' k pc i len L st M Q' := by
  have hg : ∀ (k pc : Nat) (L st : List Value) (M : am_M), w k pc L st M Q → w' k pc L st M Q' := fun k pc L st M h => hw k pc L st M Q Q' h hQ
  have ha : ∀ (kc : Nat) (Lc : List Value) (L r : List Value) (M : am_M), w kc 0 Lc [] M (am_af w k pc L r Q) → w' kc 0 Lc [] M (am_af w' k pc L r Q') := fun kc Lc L r M h => hw _ _ _ _ _ _ _ h (am_af_mono hw hQ)
  cases i
  case iconst n => obtain ⟨h1, v, h2, h⟩ := h; exact ⟨h1, v, h2, hg _ _ _ _ _ h⟩
  case bipush n => obtain ⟨h1, v, h2, h⟩ := h; exact ⟨h1, v, h2, hg _ _ _ _ _ h⟩
  case sipush n => obtain ⟨h1, v, h2, h⟩ := h; exact ⟨h1, v, h2, hg _ _ _ _ _ h⟩
  case iload_n j => obtain ⟨h1, v, h2, h⟩ := h; exact ⟨h1, v, h2, hg _ _ _ _ _ h⟩
  case iload j => obtain ⟨h1, v, h2, h⟩ := h; exact ⟨h1, v, h2, hg _ _ _ _ _ h⟩
  case aload_n j => obtain ⟨h1, v, h2, h⟩ := h; exact ⟨h1, v, h2, hg _ _ _ _ _ h⟩
  case aload j => obtain ⟨h1, v, h2, h⟩ := h; exact ⟨h1, v, h2, hg _ _ _ _ _ h⟩
  case istore_n j => obtain ⟨h1, x, r, h2, h3, h⟩ := h; exact ⟨h1, x, r, h2, h3, hg _ _ _ _ _ h⟩
  case istore j => obtain ⟨h1, x, r, h2, h3, h⟩ := h; exact ⟨h1, x, r, h2, h3, hg _ _ _ _ _ h⟩
  case iinc j n => obtain ⟨h1, x, r, h2, h3, h⟩ := h; exact ⟨h1, x, r, h2, h3, hg _ _ _ _ _ h⟩
  case iadd => obtain ⟨h1, y, x, r, h2, h⟩ := h; exact ⟨h1, y, x, r, h2, hg _ _ _ _ _ h⟩
  case isub => obtain ⟨h1, y, x, r, h2, h⟩ := h; exact ⟨h1, y, x, r, h2, hg _ _ _ _ _ h⟩
  case imul => obtain ⟨h1, y, x, r, h2, h⟩ := h; exact ⟨h1, y, x, r, h2, hg _ _ _ _ _ h⟩
  case iand => obtain ⟨h1, y, x, r, h2, h⟩ := h; exact ⟨h1, y, x, r, h2, hg _ _ _ _ _ h⟩
  case ior => obtain ⟨h1, y, x, r, h2, h⟩ := h; exact ⟨h1, y, x, r, h2, hg _ _ _ _ _ h⟩
  case ishl => obtain ⟨h1, y, x, r, h2, h⟩ := h; exact ⟨h1, y, x, r, h2, hg _ _ _ _ _ h⟩
  case ishr => obtain ⟨h1, y, x, r, h2, h⟩ := h; exact ⟨h1, y, x, r, h2, hg _ _ _ _ _ h⟩
  case iushr => obtain ⟨h1, y, x, r, h2, h⟩ := h; exact ⟨h1, y, x, r, h2, hg _ _ _ _ _ h⟩
  case ineg => obtain ⟨h1, x, r, h2, h⟩ := h; exact ⟨h1, x, r, h2, hg _ _ _ _ _ h⟩
  case i2l => obtain ⟨h1, x, r, h2, h⟩ := h; exact ⟨h1, x, r, h2, hg _ _ _ _ _ h⟩
  case i2c => obtain ⟨h1, x, r, h2, h⟩ := h; exact ⟨h1, x, r, h2, hg _ _ _ _ _ h⟩
  case lcmp => obtain ⟨h1, y, x, r, h2, h⟩ := h; exact ⟨h1, y, x, r, h2, hg _ _ _ _ _ h⟩
  case dup => obtain ⟨h1, x, r, h2, h3, h⟩ := h; exact ⟨h1, x, r, h2, h3, hg _ _ _ _ _ h⟩
  case goto off => obtain ⟨h1, v, h2, h⟩ := h; exact ⟨h1, v, h2, hg _ _ _ _ _ h⟩
  case ifCond c off => obtain ⟨h1, t, x, r, h2, h3, ha', hb⟩ := h; exact ⟨h1, t, x, r, h2, h3, fun q => hg _ _ _ _ _ (ha' q), fun q => hg _ _ _ _ _ (hb q)⟩
  case if_icmp c off => obtain ⟨h1, t, y, x, r, h2, h3, ha', hb⟩ := h; exact ⟨h1, t, y, x, r, h2, h3, fun q => hg _ _ _ _ _ (ha' q), fun q => hg _ _ _ _ _ (hb q)⟩
  case tableswitch d lo hi offs =>
    obtain ⟨x, r, h2, h3, h4⟩ := h
    refine ⟨x, r, h2, fun q => ?_, fun q q' => ?_⟩
    · obtain ⟨t, e1, h5⟩ := h3 q; exact ⟨t, e1, hg _ _ _ _ _ h5⟩
    · obtain ⟨off, t, e1, e2, h5⟩ := h4 q q'; exact ⟨off, t, e1, e2, hg _ _ _ _ _ h5⟩
  case iaload =>
    obtain ⟨h1, x, p, r, h2, h | ⟨n, h3, h4, h⟩⟩ := h
    · exact ⟨h1, x, p, r, h2, Or.inl ⟨h.1, h.2.1, hg _ _ _ _ _ h.2.2⟩⟩
    · exact ⟨h1, x, p, r, h2, Or.inr ⟨n, h3, h4, hg _ _ _ _ _ h⟩⟩
  case baload => obtain ⟨h1, x, p, n, r, h2, h3, h4, h⟩ := h; exact ⟨h1, x, p, n, r, h2, h3, h4, hg _ _ _ _ _ h⟩
  case caload => obtain ⟨h1, x, p, n, r, h2, h3, h4, h⟩ := h; exact ⟨h1, x, p, n, r, h2, h3, h4, hg _ _ _ _ _ h⟩
  case laload => obtain ⟨h1, x, p, n, r, h2, h3, h4, h⟩ := h; exact ⟨h1, x, p, n, r, h2, h3, h4, hg _ _ _ _ _ h⟩
  case iastore => obtain ⟨h1, v, x, p, n, r, h2, h3, h4, h⟩ := h; exact ⟨h1, v, x, p, n, r, h2, h3, h4, hg _ _ _ _ _ h⟩
  case bastore => obtain ⟨h1, v, x, p, n, r, h2, h3, h4, h⟩ := h; exact ⟨h1, v, x, p, n, r, h2, h3, h4, hg _ _ _ _ _ h⟩
  case castore => obtain ⟨h1, v, x, p, n, r, h2, h3, h4, h⟩ := h; exact ⟨h1, v, x, p, n, r, h2, h3, h4, hg _ _ _ _ _ h⟩
  case lastore => obtain ⟨h1, v, x, p, n, r, h2, h3, h4, h⟩ := h; exact ⟨h1, v, x, p, n, r, h2, h3, h4, hg _ _ _ _ _ h⟩
  case arraylength =>
    obtain ⟨h1, p, r, h2, h | ⟨ty, n, h3, h4, h⟩⟩ := h
    · exact ⟨h1, p, r, h2, Or.inl ⟨h.1, hg _ _ _ _ _ h.2⟩⟩
    · exact ⟨h1, p, r, h2, Or.inr ⟨ty, n, h3, h4, hg _ _ _ _ _ h⟩⟩
  case getfield ix => obtain ⟨h1, p, c, f, r, fs, o, h2, h3, h4, h5, h⟩ := h; exact ⟨h1, p, c, f, r, fs, o, h2, h3, h4, h5, hg _ _ _ _ _ h⟩
  case putfield ix => obtain ⟨h1, v, p, c, f, r, fs, ty, h2, h3, h4, h5, h6, h7, h8, h⟩ := h; exact ⟨h1, v, p, c, f, r, fs, ty, h2, h3, h4, h5, h6, h7, h8, hg _ _ _ _ _ h⟩
  case ireturn => obtain ⟨h1, v, ty, h2, h3, h4, h⟩ := h; exact ⟨h1, v, ty, h2, h3, h4, hQ _ _ h⟩
  case return_ => obtain ⟨h1, h2, h3, h⟩ := h; exact ⟨h1, h2, h3, hQ _ _ h⟩
  case invokevirtual ix => obtain ⟨h1, kc, p, c, As, r, fs, h2, h3, h4, h5, h6, h7, h8, h9, h⟩ := h; exact ⟨h1, kc, p, c, As, r, fs, h2, h3, h4, h5, h6, h7, h8, h9, ha _ _ _ _ _ h⟩
  case invokestatic ix =>
    obtain ⟨h1, ⟨y, x, r, h2, h0, h3, h4, h⟩ | ⟨y, x, r, h2, h0, h3, h4, h⟩ | ⟨kc, As, r, h2, h3, h4, h5, h6, h7, h8, h⟩⟩ := h
    · exact ⟨h1, Or.inl ⟨y, x, r, h2, h0, h3, h4, hg _ _ _ _ _ h⟩⟩
    · exact ⟨h1, Or.inr (Or.inl ⟨y, x, r, h2, h0, h3, h4, hg _ _ _ _ _ h⟩)⟩
    · exact ⟨h1, Or.inr (Or.inr ⟨kc, As, r, h2, h3, h4, h5, h6, h7, h8, ha _ _ _ _ _ h⟩)⟩
  case new ix => obtain ⟨h1, x, h2, h3, h⟩ := h; exact ⟨h1, x, h2, h3, hQ _ _ h⟩
  all_goals exact False.elim h
theorem am_W_to {X : am_K} (hX : am_Cl X) {k pc : Nat} {L st : List Value} {M : am_M} {Q Q' : am_T} (h : am_W k pc L st M Q) (hQ : ∀ r m, Q r m → Q' r m) : X k pc L st M Q' := by
  have hc : am_Cl (fun k pc L st M Q => ∀ Q' : am_T, (∀ r m, Q r m → Q' r m) → X k pc L st M Q') := by
    intro k pc L st M Q i len hd h Q' hQ
    exact hX _ _ _ _ _ _ _ _ hd (am_do_mono (fun _ _ _ _ _ _ Q2 h1 h2 => h1 Q2 h2) hQ h)
  exact h _ hc Q' hQ
theorem am_mono {k pc : Nat} {L st : List Value} {M : am_M} {Q Q' : am_T} (h : am_W k pc L st M Q) (hQ : ∀ r m, Q r m → Q' r m) : am_W k pc L st M Q' := fun _ hX => am_W_to hX h hQ
theorem am_s {k pc : Nat} {L st : List Value} {M : am_M} {Q : am_T} {i : Instr} {len : Nat} (hd : decode (am_bytes k) pc = .ok (i, len)) (h : am_do am_W k pc i len L st M Q) : am_W k pc L st M Q :=
  fun X hX => hX _ _ _ _ _ _ _ _ hd (am_do_mono (w := am_W) (w' := X) (fun _ _ _ _ _ _ _ h1 h2 => am_W_to hX h1 h2) (fun _ _ h => h) h)
end
section
/-! a row an instruction, over the abstract machine -/
section AMR
variable {k pc : Nat} {L st r : List Value} {M : am_M} {Q : am_T}
theorem am_iconst {n : Int} (v : Int32) (d : decode (am_bytes k) pc = .ok (.iconst n, 1)) (hv : Int32.ofInt n = v) (h : am_W k (pc + 1) L (.int v :: st) M Q) : am_W k pc L st M Q := am_s d ⟨rfl, v, hv, h⟩
theorem am_bipush {n : Int} (v : Int32) (d : decode (am_bytes k) pc = .ok (.bipush n, 2)) (hv : (Int8.ofInt n).toInt32 = v) (h : am_W k (pc + 2) L (.int v :: st) M Q) : am_W k pc L st M Q := am_s d ⟨rfl, v, hv, h⟩
theorem am_sipush {n : Int} (v : Int32) (d : decode (am_bytes k) pc = .ok (.sipush n, 3)) (hv : (Int16.ofInt n).toInt32 = v) (h : am_W k (pc + 3) L (.int v :: st) M Q) : am_W k pc L st M Q := am_s d ⟨rfl, v, hv, h⟩
theorem am_iload_n {j : Fin 4} {x : Int32} (d : decode (am_bytes k) pc = .ok (.iload_n j, 1)) (hl : L[(j : Nat)]? = some (.int x)) (h : am_W k (pc + 1) L (.int x :: st) M Q) : am_W k pc L st M Q := am_s d ⟨rfl, x, hl, h⟩
theorem am_iload {j : Nat} {x : Int32} (d : decode (am_bytes k) pc = .ok (.iload j, 2)) (hl : L[j]? = some (.int x)) (h : am_W k (pc + 2) L (.int x :: st) M Q) : am_W k pc L st M Q := am_s d ⟨rfl, x, hl, h⟩
theorem am_aload_n {j : Fin 4} {x : Nat} (d : decode (am_bytes k) pc = .ok (.aload_n j, 1)) (hl : L[(j : Nat)]? = some (.ref x)) (h : am_W k (pc + 1) L (.ref x :: st) M Q) : am_W k pc L st M Q := am_s d ⟨rfl, x, hl, h⟩
theorem am_aload {j : Nat} {x : Nat} (d : decode (am_bytes k) pc = .ok (.aload j, 2)) (hl : L[j]? = some (.ref x)) (h : am_W k (pc + 2) L (.ref x :: st) M Q) : am_W k pc L st M Q := am_s d ⟨rfl, x, hl, h⟩
theorem am_istore_n {j : Fin 4} {x : Int32} {L' : List Value} (d : decode (am_bytes k) pc = .ok (.istore_n j, 1)) (hj : (j : Nat) < L.length) (hL : L.set j (.int x) = L') (h : am_W k (pc + 1) L' r M Q) : am_W k pc L (.int x :: r) M Q := am_s d ⟨rfl, x, r, rfl, hj, hL ▸ h⟩
theorem am_istore {j : Nat} {x : Int32} {L' : List Value} (d : decode (am_bytes k) pc = .ok (.istore j, 2)) (hj : j < L.length) (hL : L.set j (.int x) = L') (h : am_W k (pc + 2) L' r M Q) : am_W k pc L (.int x :: r) M Q := am_s d ⟨rfl, x, r, rfl, hj, hL ▸ h⟩
theorem am_iinc {j : Nat} {n : Int} {x : Int32} {L' : List Value} (v : Int32) (d : decode (am_bytes k) pc = .ok (.iinc j n, 3)) (hl : L[j]? = some (.int x)) (hv : x + Int32.ofInt n = v) (hL : L.set j (.int v) = L') (h : am_W k (pc + 3) L' st M Q) : am_W k pc L st M Q := am_s d ⟨rfl, x, v, hl, hv, hL ▸ h⟩
theorem am_iadd {x y : Int32} (d : decode (am_bytes k) pc = .ok (.iadd, 1))  (h : am_W k (pc + 1) L (.int (x + y) :: r) M Q) : am_W k pc L (.int y :: .int x :: r) M Q := am_s d ⟨rfl, y, x, r, rfl, h⟩
theorem am_isub {x y : Int32} (d : decode (am_bytes k) pc = .ok (.isub, 1))  (h : am_W k (pc + 1) L (.int (x - y) :: r) M Q) : am_W k pc L (.int y :: .int x :: r) M Q := am_s d ⟨rfl, y, x, r, rfl, h⟩
theorem am_imul {x y : Int32} (d : decode (am_bytes k) pc = .ok (.imul, 1))  (h : am_W k (pc + 1) L (.int (x * y) :: r) M Q) : am_W k pc L (.int y :: .int x :: r) M Q := am_s d ⟨rfl, y, x, r, rfl, h⟩
theorem am_iand {x y : Int32} (d : decode (am_bytes k) pc = .ok (.iand, 1))  (h : am_W k (pc + 1) L (.int (x &&& y) :: r) M Q) : am_W k pc L (.int y :: .int x :: r) M Q := am_s d ⟨rfl, y, x, r, rfl, h⟩
theorem am_ior {x y : Int32} (d : decode (am_bytes k) pc = .ok (.ior, 1))  (h : am_W k (pc + 1) L (.int (x ||| y) :: r) M Q) : am_W k pc L (.int y :: .int x :: r) M Q := am_s d ⟨rfl, y, x, r, rfl, h⟩
theorem am_ishl {x y : Int32} (d : decode (am_bytes k) pc = .ok (.ishl, 1))  (h : am_W k (pc + 1) L (.int (x <<< (y &&& 31)) :: r) M Q) : am_W k pc L (.int y :: .int x :: r) M Q := am_s d ⟨rfl, y, x, r, rfl, h⟩
theorem am_ishr {x y : Int32} (d : decode (am_bytes k) pc = .ok (.ishr, 1))  (h : am_W k (pc + 1) L (.int (x >>> (y &&& 31)) :: r) M Q) : am_W k pc L (.int y :: .int x :: r) M Q := am_s d ⟨rfl, y, x, r, rfl, h⟩
theorem am_iushr {x y : Int32} (d : decode (am_bytes k) pc = .ok (.iushr, 1))  (h : am_W k (pc + 1) L (.int ((x.toUInt32 >>> (y.toUInt32 &&& Int32.toUInt32 31)).toInt32) :: r) M Q) : am_W k pc L (.int y :: .int x :: r) M Q := am_s d ⟨rfl, y, x, r, rfl, h⟩
theorem am_ineg {x : Int32} (d : decode (am_bytes k) pc = .ok (.ineg, 1))  (h : am_W k (pc + 1) L (.int (-x) :: r) M Q) : am_W k pc L (.int x :: r) M Q := am_s d ⟨rfl, x, r, rfl, h⟩
theorem am_i2l {x : Int32} (d : decode (am_bytes k) pc = .ok (.i2l, 1))  (h : am_W k (pc + 1) L (.long x.toInt64 :: r) M Q) : am_W k pc L (.int x :: r) M Q := am_s d ⟨rfl, x, r, rfl, h⟩
theorem am_i2c {x : Int32} (d : decode (am_bytes k) pc = .ok (.i2c, 1))  (h : am_W k (pc + 1) L (.int (x.toUInt32 % 65536).toInt32 :: r) M Q) : am_W k pc L (.int x :: r) M Q := am_s d ⟨rfl, x, r, rfl, h⟩
theorem am_lcmp {x y : Int64} (d : decode (am_bytes k) pc = .ok (.lcmp, 1))  (h : am_W k (pc + 1) L (.int (lg_cmp x y) :: r) M Q) : am_W k pc L (.long y :: .long x :: r) M Q := am_s d ⟨rfl, y, x, r, rfl, h⟩
theorem am_dup {v : Value} (d : decode (am_bytes k) pc = .ok (.dup, 1)) (hv : am_ok v = true) (h : am_W k (pc + 1) L (v :: v :: r) M Q) : am_W k pc L (v :: r) M Q := am_s d ⟨rfl, v, r, rfl, hv, h⟩
theorem am_goto {off : Int} (t : Nat) (d : decode (am_bytes k) pc = .ok (.goto off, 3)) (ht : (pc : Int) + off = t) (h : am_W k t L st M Q) : am_W k pc L st M Q := am_s d ⟨rfl, t, ht, h⟩
theorem am_iald {x : Int32} {p n : Nat} (d : decode (am_bytes k) pc = .ok (.iaload, 1)) (hs : am_sh p = some (.inl (.int, n))) (hi : vp_in x n) (h : am_W k (pc + 1) L (.int (M.1 p x.toNatClampNeg) :: r) M Q) : am_W k pc L (.int x :: .ref p :: r) M Q := am_s d ⟨rfl, x, p, r, rfl, Or.inr ⟨n, hs, hi, h⟩⟩
theorem am_sald {x : Int32} (d : decode (am_bytes k) pc = .ok (.iaload, 1)) (hi : vp_in x M.2.2.2.1) (h : am_W k (pc + 1) L (.int (M.2.2.2.2 x.toNatClampNeg) :: r) M Q) : am_W k pc L (.int x :: .ref am_SC :: r) M Q := am_s d ⟨rfl, x, am_SC, r, rfl, Or.inl ⟨rfl, hi, h⟩⟩
theorem am_zald {x : Int32} {p n : Nat} (d : decode (am_bytes k) pc = .ok (.baload, 1)) (hs : am_sh p = some (.inl (.boolean, n))) (hi : vp_in x n) (h : am_W k (pc + 1) L (.int (M.1 p x.toNatClampNeg) :: r) M Q) : am_W k pc L (.int x :: .ref p :: r) M Q := am_s d ⟨rfl, x, p, n, r, rfl, hs, hi, h⟩
theorem am_cald {x : Int32} {p n : Nat} (d : decode (am_bytes k) pc = .ok (.caload, 1)) (hs : am_sh p = some (.inl (.char, n))) (hi : vp_in x n) (h : am_W k (pc + 1) L (.int (M.1 p x.toNatClampNeg) :: r) M Q) : am_W k pc L (.int x :: .ref p :: r) M Q := am_s d ⟨rfl, x, p, n, r, rfl, hs, hi, h⟩
theorem am_lald {x : Int32} {p n : Nat} (d : decode (am_bytes k) pc = .ok (.laload, 1)) (hs : am_sh p = some (.inl (.long, n))) (hi : vp_in x n) (h : am_W k (pc + 1) L (.long (M.2.1 p x.toNatClampNeg) :: r) M Q) : am_W k pc L (.int x :: .ref p :: r) M Q := am_s d ⟨rfl, x, p, n, r, rfl, hs, hi, h⟩
theorem am_iast {v x : Int32} {p n : Nat} (d : decode (am_bytes k) pc = .ok (.iastore, 1)) (hs : am_sh p = some (.inl (.int, n))) (hi : vp_in x n) (h : am_W k (pc + 1) L r (am_set M p x.toNatClampNeg v) Q) : am_W k pc L (.int v :: .int x :: .ref p :: r) M Q := am_s d ⟨rfl, v, x, p, n, r, rfl, hs, hi, h⟩
theorem am_zast {v x : Int32} {p n : Nat} (d : decode (am_bytes k) pc = .ok (.bastore, 1)) (hs : am_sh p = some (.inl (.boolean, n))) (hi : vp_in x n) (h : am_W k (pc + 1) L r (am_set M p x.toNatClampNeg (vp_nar .boolean v)) Q) : am_W k pc L (.int v :: .int x :: .ref p :: r) M Q := am_s d ⟨rfl, v, x, p, n, r, rfl, hs, hi, h⟩
theorem am_cast {v x : Int32} {p n : Nat} (d : decode (am_bytes k) pc = .ok (.castore, 1)) (hs : am_sh p = some (.inl (.char, n))) (hi : vp_in x n) (h : am_W k (pc + 1) L r (am_set M p x.toNatClampNeg (vp_nar .char v)) Q) : am_W k pc L (.int v :: .int x :: .ref p :: r) M Q := am_s d ⟨rfl, v, x, p, n, r, rfl, hs, hi, h⟩
theorem am_last {v : Int64} {x : Int32} {p n : Nat} (d : decode (am_bytes k) pc = .ok (.lastore, 1)) (hs : am_sh p = some (.inl (.long, n))) (hi : vp_in x n) (h : am_W k (pc + 1) L r (am_setL M p x.toNatClampNeg v) Q) : am_W k pc L (.long v :: .int x :: .ref p :: r) M Q := am_s d ⟨rfl, v, x, p, n, r, rfl, hs, hi, h⟩
theorem am_slen  (d : decode (am_bytes k) pc = .ok (.arraylength, 1))  (h : am_W k (pc + 1) L (.int (Int32.ofNat M.2.2.2.1) :: r) M Q) : am_W k pc L (.ref am_SC :: r) M Q := am_s d ⟨rfl, am_SC, r, rfl, Or.inl ⟨rfl, h⟩⟩
theorem am_alen {p n : Nat} {ty : FieldType} (d : decode (am_bytes k) pc = .ok (.arraylength, 1)) (hs : am_sh p = some (.inl (ty, n))) (hy : ty ∈ am_tyL) (h : am_W k (pc + 1) L (.int (Int32.ofNat n) :: r) M Q) : am_W k pc L (.ref p :: r) M Q := am_s d ⟨rfl, p, r, rfl, Or.inr ⟨ty, n, hs, hy, h⟩⟩
theorem am_geti {p c f ix : Nat} {fs : List (Option Nat)} (d : decode (am_bytes k) pc = .ok (.getfield ix, 3)) (hf : am_fld k ix = some (c, f)) (hs : am_sh p = some (.inr (c, fs))) (ho : fs[f]? = some none) (h : am_W k (pc + 3) L (.int (M.1 p f) :: r) M Q) : am_W k pc L (.ref p :: r) M Q := am_s d ⟨rfl, p, c, f, r, fs, none, rfl, hf, hs, ho, h⟩
theorem am_getr {p c f ix q : Nat} {fs : List (Option Nat)} (d : decode (am_bytes k) pc = .ok (.getfield ix, 3)) (hf : am_fld k ix = some (c, f)) (hs : am_sh p = some (.inr (c, fs))) (ho : fs[f]? = some (some q)) (h : am_W k (pc + 3) L (.ref q :: r) M Q) : am_W k pc L (.ref p :: r) M Q := am_s d ⟨rfl, p, c, f, r, fs, some q, rfl, hf, hs, ho, h⟩
theorem am_put {v : Int32} {p c f ix : Nat} {fs : List (Option Nat)} {ty : FieldType} (d : decode (am_bytes k) pc = .ok (.putfield ix, 3)) (hf : am_fld k ix = some (c, f)) (hs : am_sh p = some (.inr (c, fs))) (ho : fs[f]? = some none) (ht : am_fty c f = some ty) (hn : narrow ty (.int v) = .int v) (hv : fits ty (.int v) = true) (h : am_W k (pc + 3) L r (am_set M p f v) Q) : am_W k pc L (.int v :: .ref p :: r) M Q := am_s d ⟨rfl, v, p, c, f, r, fs, ty, rfl, hf, hs, ho, ht, hn, hv, h⟩
theorem am_max {x y : Int32} {ix : Nat} (d : decode (am_bytes k) pc = .ok (.invokestatic ix, 3)) (hm : am_mx k ix = some true) (hr : 0 < am_rk k) (hw : (r.map fun v => v.category).sum ≤ 8) (h : am_W k (pc + 3) L (.int (if x < y then y else x) :: r) M Q) : am_W k pc L (.int y :: .int x :: r) M Q := am_s d ⟨rfl, Or.inl ⟨y, x, r, hm, hr, rfl, hw, h⟩⟩
theorem am_min {x y : Int32} {ix : Nat} (d : decode (am_bytes k) pc = .ok (.invokestatic ix, 3)) (hm : am_mx k ix = some false) (hr : 0 < am_rk k) (hw : (r.map fun v => v.category).sum ≤ 8) (h : am_W k (pc + 3) L (.int (if y < x then y else x) :: r) M Q) : am_W k pc L (.int y :: .int x :: r) M Q := am_s d ⟨rfl, Or.inr (Or.inl ⟨y, x, r, hm, hr, rfl, hw, h⟩)⟩
theorem am_ifeq {x : Int32} {off : Int} (t : Nat) (d : decode (am_bytes k) pc = .ok (.ifCond .eq off, 3)) (ht : (pc : Int) + off = t) (kt : x = 0 → am_W k t L r M Q) (kf : ¬ x = 0 → am_W k (pc + 3) L r M Q) : am_W k pc L (.int x :: r) M Q := am_s d ⟨rfl, t, x, r, rfl, ht, kt, kf⟩
theorem am_iceq {x y : Int32} {off : Int} (t : Nat) (d : decode (am_bytes k) pc = .ok (.if_icmp .eq off, 3)) (ht : (pc : Int) + off = t) (kt : x = y → am_W k t L r M Q) (kf : ¬ x = y → am_W k (pc + 3) L r M Q) : am_W k pc L (.int y :: .int x :: r) M Q := am_s d ⟨rfl, t, y, x, r, rfl, ht, kt, kf⟩
theorem am_ifne {x : Int32} {off : Int} (t : Nat) (d : decode (am_bytes k) pc = .ok (.ifCond .ne off, 3)) (ht : (pc : Int) + off = t) (kt : ¬ x = 0 → am_W k t L r M Q) (kf : x = 0 → am_W k (pc + 3) L r M Q) : am_W k pc L (.int x :: r) M Q := am_s d ⟨rfl, t, x, r, rfl, ht, kt, fun q => kf (Decidable.not_not.mp q)⟩
theorem am_icne {x y : Int32} {off : Int} (t : Nat) (d : decode (am_bytes k) pc = .ok (.if_icmp .ne off, 3)) (ht : (pc : Int) + off = t) (kt : ¬ x = y → am_W k t L r M Q) (kf : x = y → am_W k (pc + 3) L r M Q) : am_W k pc L (.int y :: .int x :: r) M Q := am_s d ⟨rfl, t, y, x, r, rfl, ht, kt, fun q => kf (Decidable.not_not.mp q)⟩
theorem am_iflt {x : Int32} {off : Int} (t : Nat) (d : decode (am_bytes k) pc = .ok (.ifCond .lt off, 3)) (ht : (pc : Int) + off = t) (kt : x < 0 → am_W k t L r M Q) (kf : ¬ x < 0 → am_W k (pc + 3) L r M Q) : am_W k pc L (.int x :: r) M Q := am_s d ⟨rfl, t, x, r, rfl, ht, kt, kf⟩
theorem am_iclt {x y : Int32} {off : Int} (t : Nat) (d : decode (am_bytes k) pc = .ok (.if_icmp .lt off, 3)) (ht : (pc : Int) + off = t) (kt : x < y → am_W k t L r M Q) (kf : ¬ x < y → am_W k (pc + 3) L r M Q) : am_W k pc L (.int y :: .int x :: r) M Q := am_s d ⟨rfl, t, y, x, r, rfl, ht, kt, kf⟩
theorem am_ifge {x : Int32} {off : Int} (t : Nat) (d : decode (am_bytes k) pc = .ok (.ifCond .ge off, 3)) (ht : (pc : Int) + off = t) (kt : 0 ≤ x → am_W k t L r M Q) (kf : ¬ 0 ≤ x → am_W k (pc + 3) L r M Q) : am_W k pc L (.int x :: r) M Q := am_s d ⟨rfl, t, x, r, rfl, ht, kt, kf⟩
theorem am_icge {x y : Int32} {off : Int} (t : Nat) (d : decode (am_bytes k) pc = .ok (.if_icmp .ge off, 3)) (ht : (pc : Int) + off = t) (kt : y ≤ x → am_W k t L r M Q) (kf : ¬ y ≤ x → am_W k (pc + 3) L r M Q) : am_W k pc L (.int y :: .int x :: r) M Q := am_s d ⟨rfl, t, y, x, r, rfl, ht, kt, kf⟩
theorem am_ifgt {x : Int32} {off : Int} (t : Nat) (d : decode (am_bytes k) pc = .ok (.ifCond .gt off, 3)) (ht : (pc : Int) + off = t) (kt : 0 < x → am_W k t L r M Q) (kf : ¬ 0 < x → am_W k (pc + 3) L r M Q) : am_W k pc L (.int x :: r) M Q := am_s d ⟨rfl, t, x, r, rfl, ht, kt, kf⟩
theorem am_icgt {x y : Int32} {off : Int} (t : Nat) (d : decode (am_bytes k) pc = .ok (.if_icmp .gt off, 3)) (ht : (pc : Int) + off = t) (kt : y < x → am_W k t L r M Q) (kf : ¬ y < x → am_W k (pc + 3) L r M Q) : am_W k pc L (.int y :: .int x :: r) M Q := am_s d ⟨rfl, t, y, x, r, rfl, ht, kt, kf⟩
theorem am_ifle {x : Int32} {off : Int} (t : Nat) (d : decode (am_bytes k) pc = .ok (.ifCond .le off, 3)) (ht : (pc : Int) + off = t) (kt : x ≤ 0 → am_W k t L r M Q) (kf : ¬ x ≤ 0 → am_W k (pc + 3) L r M Q) : am_W k pc L (.int x :: r) M Q := am_s d ⟨rfl, t, x, r, rfl, ht, kt, kf⟩
theorem am_icle {x y : Int32} {off : Int} (t : Nat) (d : decode (am_bytes k) pc = .ok (.if_icmp .le off, 3)) (ht : (pc : Int) + off = t) (kt : x ≤ y → am_W k t L r M Q) (kf : ¬ x ≤ y → am_W k (pc + 3) L r M Q) : am_W k pc L (.int y :: .int x :: r) M Q := am_s d ⟨rfl, t, y, x, r, rfl, ht, kt, kf⟩
theorem am_iret {v : Int32} {ty : FieldType} (d : decode (am_bytes k) pc = .ok (.ireturn, 1)) (ht : am_rt k = some ty) (hn : narrow ty (.int v) = .int v) (h : Q (.inl (some (.int v))) M) : am_W k pc L [.int v] M Q := am_s d ⟨rfl, v, ty, rfl, ht, hn, h⟩
theorem am_vret (d : decode (am_bytes k) pc = .ok (.return_, 1)) (ht : am_rt k = none) (h : Q (.inl none) M) : am_W k pc L [] M Q := am_s d ⟨rfl, rfl, ht, h⟩
theorem am_thr {ix x : Nat} (d : decode (am_bytes k) pc = .ok (.new ix, 3)) (hx : am_exc k pc ix = some x) (hw : (st.map fun v => v.category).sum ≤ 8) (h : Q (.inr x) M) : am_W k pc L st M Q := am_s d ⟨rfl, x, hx, hw, h⟩
theorem am_cv0 (kc : Nat) {ix p c : Nat} {fs : List (Option Nat)} (d : decode (am_bytes k) pc = .ok (.invokevirtual ix, 3)) (hm : am_mth k ix = some kc) (ha : am_na kc = 1) (hr : am_rk kc < am_rk k) (hs : am_sh p = some (.inr (c, fs))) (hc : am_rc kc = some c)  (hw : (r.map fun v => v.category).sum ≤ 8) (h : am_W kc 0 (am_in kc (.ref p :: [])) [] M (am_af am_W k pc L r Q)) : am_W k pc L (.ref p :: r) M Q := am_s d ⟨rfl, kc, p, c, [], r, fs, hm, rfl, ha, hr, hs, hc, rfl, hw, h⟩
theorem am_cv1 (kc : Nat) {ix p c : Nat} {v1 : Value} {fs : List (Option Nat)} (d : decode (am_bytes k) pc = .ok (.invokevirtual ix, 3)) (hm : am_mth k ix = some kc) (ha : am_na kc = 2) (hr : am_rk kc < am_rk k) (hs : am_sh p = some (.inr (c, fs))) (hc : am_rc kc = some c) (hv1 : am_ok v1 = true) (hw : (r.map fun v => v.category).sum ≤ 8) (h : am_W kc 0 (am_in kc (.ref p :: [v1])) [] M (am_af am_W k pc L r Q)) : am_W k pc L (v1 :: .ref p :: r) M Q := am_s d ⟨rfl, kc, p, c, [v1], r, fs, hm, rfl, ha, hr, hs, hc, by simp [hv1], hw, h⟩
theorem am_cv2 (kc : Nat) {ix p c : Nat} {v1 : Value} {v2 : Value} {fs : List (Option Nat)} (d : decode (am_bytes k) pc = .ok (.invokevirtual ix, 3)) (hm : am_mth k ix = some kc) (ha : am_na kc = 3) (hr : am_rk kc < am_rk k) (hs : am_sh p = some (.inr (c, fs))) (hc : am_rc kc = some c) (hv1 : am_ok v1 = true) (hv2 : am_ok v2 = true) (hw : (r.map fun v => v.category).sum ≤ 8) (h : am_W kc 0 (am_in kc (.ref p :: [v1, v2])) [] M (am_af am_W k pc L r Q)) : am_W k pc L (v2 :: v1 :: .ref p :: r) M Q := am_s d ⟨rfl, kc, p, c, [v1, v2], r, fs, hm, rfl, ha, hr, hs, hc, by simp [hv1, hv2], hw, h⟩
theorem am_cv3 (kc : Nat) {ix p c : Nat} {v1 : Value} {v2 : Value} {v3 : Value} {fs : List (Option Nat)} (d : decode (am_bytes k) pc = .ok (.invokevirtual ix, 3)) (hm : am_mth k ix = some kc) (ha : am_na kc = 4) (hr : am_rk kc < am_rk k) (hs : am_sh p = some (.inr (c, fs))) (hc : am_rc kc = some c) (hv1 : am_ok v1 = true) (hv2 : am_ok v2 = true) (hv3 : am_ok v3 = true) (hw : (r.map fun v => v.category).sum ≤ 8) (h : am_W kc 0 (am_in kc (.ref p :: [v1, v2, v3])) [] M (am_af am_W k pc L r Q)) : am_W k pc L (v3 :: v2 :: v1 :: .ref p :: r) M Q := am_s d ⟨rfl, kc, p, c, [v1, v2, v3], r, fs, hm, rfl, ha, hr, hs, hc, by simp [hv1, hv2, hv3], hw, h⟩
theorem am_cv4 (kc : Nat) {ix p c : Nat} {v1 : Value} {v2 : Value} {v3 : Value} {v4 : Value} {fs : List (Option Nat)} (d : decode (am_bytes k) pc = .ok (.invokevirtual ix, 3)) (hm : am_mth k ix = some kc) (ha : am_na kc = 5) (hr : am_rk kc < am_rk k) (hs : am_sh p = some (.inr (c, fs))) (hc : am_rc kc = some c) (hv1 : am_ok v1 = true) (hv2 : am_ok v2 = true) (hv3 : am_ok v3 = true) (hv4 : am_ok v4 = true) (hw : (r.map fun v => v.category).sum ≤ 8) (h : am_W kc 0 (am_in kc (.ref p :: [v1, v2, v3, v4])) [] M (am_af am_W k pc L r Q)) : am_W k pc L (v4 :: v3 :: v2 :: v1 :: .ref p :: r) M Q := am_s d ⟨rfl, kc, p, c, [v1, v2, v3, v4], r, fs, hm, rfl, ha, hr, hs, hc, by simp [hv1, hv2, hv3, hv4], hw, h⟩
theorem am_cv5 (kc : Nat) {ix p c : Nat} {v1 : Value} {v2 : Value} {v3 : Value} {v4 : Value} {v5 : Value} {fs : List (Option Nat)} (d : decode (am_bytes k) pc = .ok (.invokevirtual ix, 3)) (hm : am_mth k ix = some kc) (ha : am_na kc = 6) (hr : am_rk kc < am_rk k) (hs : am_sh p = some (.inr (c, fs))) (hc : am_rc kc = some c) (hv1 : am_ok v1 = true) (hv2 : am_ok v2 = true) (hv3 : am_ok v3 = true) (hv4 : am_ok v4 = true) (hv5 : am_ok v5 = true) (hw : (r.map fun v => v.category).sum ≤ 8) (h : am_W kc 0 (am_in kc (.ref p :: [v1, v2, v3, v4, v5])) [] M (am_af am_W k pc L r Q)) : am_W k pc L (v5 :: v4 :: v3 :: v2 :: v1 :: .ref p :: r) M Q := am_s d ⟨rfl, kc, p, c, [v1, v2, v3, v4, v5], r, fs, hm, rfl, ha, hr, hs, hc, by simp [hv1, hv2, hv3, hv4, hv5], hw, h⟩
theorem am_cs0 (kc : Nat) {ix : Nat} (d : decode (am_bytes k) pc = .ok (.invokestatic ix, 3)) (hm : am_mth k ix = some kc) (ha : am_na kc = 0) (hr : am_rk kc < am_rk k) (hc : am_rc kc = none)  (hw : (r.map fun v => v.category).sum ≤ 8) (h : am_W kc 0 (am_in kc []) [] M (am_af am_W k pc L r Q)) : am_W k pc L (r) M Q := am_s d ⟨rfl, Or.inr (Or.inr ⟨kc, [], r, hm, rfl, ha, hr, hc, rfl, hw, h⟩)⟩
theorem am_cs1 (kc : Nat) {ix : Nat} {v1 : Value} (d : decode (am_bytes k) pc = .ok (.invokestatic ix, 3)) (hm : am_mth k ix = some kc) (ha : am_na kc = 1) (hr : am_rk kc < am_rk k) (hc : am_rc kc = none) (hv1 : am_ok v1 = true) (hw : (r.map fun v => v.category).sum ≤ 8) (h : am_W kc 0 (am_in kc [v1]) [] M (am_af am_W k pc L r Q)) : am_W k pc L (v1 :: r) M Q := am_s d ⟨rfl, Or.inr (Or.inr ⟨kc, [v1], r, hm, rfl, ha, hr, hc, by simp [hv1], hw, h⟩)⟩
theorem am_cs2 (kc : Nat) {ix : Nat} {v1 : Value} {v2 : Value} (d : decode (am_bytes k) pc = .ok (.invokestatic ix, 3)) (hm : am_mth k ix = some kc) (ha : am_na kc = 2) (hr : am_rk kc < am_rk k) (hc : am_rc kc = none) (hv1 : am_ok v1 = true) (hv2 : am_ok v2 = true) (hw : (r.map fun v => v.category).sum ≤ 8) (h : am_W kc 0 (am_in kc [v1, v2]) [] M (am_af am_W k pc L r Q)) : am_W k pc L (v2 :: v1 :: r) M Q := am_s d ⟨rfl, Or.inr (Or.inr ⟨kc, [v1, v2], r, hm, rfl, ha, hr, hc, by simp [hv1, hv2], hw, h⟩)⟩
theorem am_cs3 (kc : Nat) {ix : Nat} {v1 : Value} {v2 : Value} {v3 : Value} (d : decode (am_bytes k) pc = .ok (.invokestatic ix, 3)) (hm : am_mth k ix = some kc) (ha : am_na kc = 3) (hr : am_rk kc < am_rk k) (hc : am_rc kc = none) (hv1 : am_ok v1 = true) (hv2 : am_ok v2 = true) (hv3 : am_ok v3 = true) (hw : (r.map fun v => v.category).sum ≤ 8) (h : am_W kc 0 (am_in kc [v1, v2, v3]) [] M (am_af am_W k pc L r Q)) : am_W k pc L (v3 :: v2 :: v1 :: r) M Q := am_s d ⟨rfl, Or.inr (Or.inr ⟨kc, [v1, v2, v3], r, hm, rfl, ha, hr, hc, by simp [hv1, hv2, hv3], hw, h⟩)⟩
theorem am_cs4 (kc : Nat) {ix : Nat} {v1 : Value} {v2 : Value} {v3 : Value} {v4 : Value} (d : decode (am_bytes k) pc = .ok (.invokestatic ix, 3)) (hm : am_mth k ix = some kc) (ha : am_na kc = 4) (hr : am_rk kc < am_rk k) (hc : am_rc kc = none) (hv1 : am_ok v1 = true) (hv2 : am_ok v2 = true) (hv3 : am_ok v3 = true) (hv4 : am_ok v4 = true) (hw : (r.map fun v => v.category).sum ≤ 8) (h : am_W kc 0 (am_in kc [v1, v2, v3, v4]) [] M (am_af am_W k pc L r Q)) : am_W k pc L (v4 :: v3 :: v2 :: v1 :: r) M Q := am_s d ⟨rfl, Or.inr (Or.inr ⟨kc, [v1, v2, v3, v4], r, hm, rfl, ha, hr, hc, by simp [hv1, hv2, hv3, hv4], hw, h⟩)⟩
theorem am_cs5 (kc : Nat) {ix : Nat} {v1 : Value} {v2 : Value} {v3 : Value} {v4 : Value} {v5 : Value} (d : decode (am_bytes k) pc = .ok (.invokestatic ix, 3)) (hm : am_mth k ix = some kc) (ha : am_na kc = 5) (hr : am_rk kc < am_rk k) (hc : am_rc kc = none) (hv1 : am_ok v1 = true) (hv2 : am_ok v2 = true) (hv3 : am_ok v3 = true) (hv4 : am_ok v4 = true) (hv5 : am_ok v5 = true) (hw : (r.map fun v => v.category).sum ≤ 8) (h : am_W kc 0 (am_in kc [v1, v2, v3, v4, v5]) [] M (am_af am_W k pc L r Q)) : am_W k pc L (v5 :: v4 :: v3 :: v2 :: v1 :: r) M Q := am_s d ⟨rfl, Or.inr (Or.inr ⟨kc, [v1, v2, v3, v4, v5], r, hm, rfl, ha, hr, hc, by simp [hv1, hv2, hv3, hv4, hv5], hw, h⟩)⟩
theorem am_cs6 (kc : Nat) {ix : Nat} {v1 : Value} {v2 : Value} {v3 : Value} {v4 : Value} {v5 : Value} {v6 : Value} (d : decode (am_bytes k) pc = .ok (.invokestatic ix, 3)) (hm : am_mth k ix = some kc) (ha : am_na kc = 6) (hr : am_rk kc < am_rk k) (hc : am_rc kc = none) (hv1 : am_ok v1 = true) (hv2 : am_ok v2 = true) (hv3 : am_ok v3 = true) (hv4 : am_ok v4 = true) (hv5 : am_ok v5 = true) (hv6 : am_ok v6 = true) (hw : (r.map fun v => v.category).sum ≤ 8) (h : am_W kc 0 (am_in kc [v1, v2, v3, v4, v5, v6]) [] M (am_af am_W k pc L r Q)) : am_W k pc L (v6 :: v5 :: v4 :: v3 :: v2 :: v1 :: r) M Q := am_s d ⟨rfl, Or.inr (Or.inr ⟨kc, [v1, v2, v3, v4, v5, v6], r, hm, rfl, ha, hr, hc, by simp [hv1, hv2, hv3, hv4, hv5, hv6], hw, h⟩)⟩
theorem am_cs7 (kc : Nat) {ix : Nat} {v1 : Value} {v2 : Value} {v3 : Value} {v4 : Value} {v5 : Value} {v6 : Value} {v7 : Value} (d : decode (am_bytes k) pc = .ok (.invokestatic ix, 3)) (hm : am_mth k ix = some kc) (ha : am_na kc = 7) (hr : am_rk kc < am_rk k) (hc : am_rc kc = none) (hv1 : am_ok v1 = true) (hv2 : am_ok v2 = true) (hv3 : am_ok v3 = true) (hv4 : am_ok v4 = true) (hv5 : am_ok v5 = true) (hv6 : am_ok v6 = true) (hv7 : am_ok v7 = true) (hw : (r.map fun v => v.category).sum ≤ 8) (h : am_W kc 0 (am_in kc [v1, v2, v3, v4, v5, v6, v7]) [] M (am_af am_W k pc L r Q)) : am_W k pc L (v7 :: v6 :: v5 :: v4 :: v3 :: v2 :: v1 :: r) M Q := am_s d ⟨rfl, Or.inr (Or.inr ⟨kc, [v1, v2, v3, v4, v5, v6, v7], r, hm, rfl, ha, hr, hc, by simp [hv1, hv2, hv3, hv4, hv5, hv6, hv7], hw, h⟩)⟩
end AMR
end
section
/-! the abstract machine's values, locals and memory on the real one -/
def am_v (ad : Nat → Nat) : Value → Value
  | .ref p => .ref (ad p)
  | v => v
def am_al (ad : Nat → Nat) (L : List Value) : List (Nat × Value) := (List.range L.length).filterMap fun i => (L[i]?).bind fun v => if am_ok v = true then some (i, am_v ad v) else none
def am_L (ad : Nat → Nat) (ls : Array Slot) (nL : Nat) (L : List Value) : Prop := L.length = nL ∧ lv_has ls nL (am_al ad L)
theorem am_al_in {ad : Nat → Nat} {L : List Value} {i : Nat} {v : Value} (h : L[i]? = some v) (hv : am_ok v = true) : (i, am_v ad v) ∈ am_al ad L := by
  refine List.mem_filterMap.mpr ⟨i, List.mem_range.mpr (List.getElem?_eq_some_iff.mp h).1, ?_⟩
  rw [h]
  show (if am_ok v = true then some (i, am_v ad v) else none) = _
  rw [if_pos hv]
theorem am_al_of {ad : Nat → Nat} {L : List Value} {q : Nat × Value} (h : q ∈ am_al ad L) : ∃ v, L[q.1]? = some v ∧ am_ok v = true ∧ q.2 = am_v ad v := by
  obtain ⟨i, -, h⟩ := List.mem_filterMap.mp h
  cases hv : L[i]? with
  | none => rw [hv] at h; cases h
  | some v =>
    rw [hv] at h
    have h : (if am_ok v = true then some (i, am_v ad v) else none) = some q := h
    split at h
    next hok => cases h; exact ⟨v, hv, hok, rfl⟩
    next => cases h
theorem am_ok_cat {ad : Nat → Nat} {v : Value} (h : am_ok v = true) : (am_v ad v).category = 1 := by
  cases v <;> first | rfl | cases h
theorem am_L.at {ad : Nat → Nat} {ls : Array Slot} {nL : Nat} {L : List Value} (h : am_L ad ls nL L) {i : Nat} {v : Value} (hi : L[i]? = some v) (hv : am_ok v = true) : ls[i]? = some (.val (am_v ad v)) := h.2.2.2 _ (am_al_in hi hv)
theorem am_L.put {ad : Nat → Nat} {ls ls' : Array Slot} {nL : Nat} {L : List Value} (h : am_L ad ls nL L) {i : Nat} {v : Value} (hv : am_ok v = true)
    (h' : lv_has ls' nL ((i, am_v ad v) :: (am_al ad L).filter (fun q => !(q.1 == i) && !(q.1 + 1 == i && q.2.category == 2)))) : am_L ad ls' nL (L.set i v) := by
  refine ⟨by rw [List.length_set]; exact h.1, h'.1, h'.2.1, fun q hq => ?_⟩
  obtain ⟨w, h1, h2, h3⟩ := am_al_of hq
  by_cases hi : q.1 = i
  · have h4 : w = v := by
      rw [hi] at h1
      by_cases hl : i < L.length
      · rw [List.getElem?_set_self hl] at h1; exact (Option.some.inj h1).symm
      · rw [List.getElem?_eq_none (by rw [List.length_set]; omega)] at h1; cases h1
    have h5 : q = (i, am_v ad v) := by rw [← hi, ← h4, ← h3]
    rw [h5]
    exact h'.2.2 _ List.mem_cons_self
  · rw [List.getElem?_set_ne (fun z => hi z.symm)] at h1
    refine h'.2.2 q (List.mem_cons_of_mem _ (List.mem_filter.mpr ⟨?_, ?_⟩))
    · have := am_al_in (ad := ad) h1 h2
      rw [← h3] at this
      exact this
    · have hc : q.2.category = 1 := by rw [h3]; exact am_ok_cat h2
      simp [hi, hc]
theorem am_lvargs {ad : Nat → Nat} (as : List Value) (n : Nat) : (∀ v ∈ as, am_ok v = true) → ∀ (j : Nat) (q : Nat × Value), q ∈ (List.range n).filterMap (fun i => ((as ++ List.replicate (n - as.length) Value.null)[i]?).bind fun v => if am_ok v = true then some (i + j, am_v ad v) else none) → q ∈ lv_args j (as.map (am_v ad)) := by
  induction as generalizing n with
  | nil =>
    intro _ j q hq
    obtain ⟨i, -, h⟩ := List.mem_filterMap.mp hq
    cases hv : ([] ++ List.replicate (n - ([] : List Value).length) Value.null)[i]? with
    | none => rw [hv] at h; cases h
    | some v =>
      rw [hv] at h
      have : v = .null := List.eq_of_mem_replicate (by simpa using List.mem_of_getElem? hv)
      subst this
      cases h
  | cons a as ih =>
    intro hok j q hq
    obtain ⟨i, hi, h⟩ := List.mem_filterMap.mp hq
    have hi := List.mem_range.mp hi
    have ha := hok a List.mem_cons_self
    show q ∈ (j, am_v ad a) :: lv_args (if (am_v ad a).category = 2 then j + 2 else j + 1) (as.map (am_v ad))
    rw [if_neg (by rw [am_ok_cat ha]; decide)]
    cases i with
    | zero =>
      have h : (if am_ok a = true then some (0 + j, am_v ad a) else none) = some q := h
      rw [if_pos ha] at h
      cases h
      rw [Nat.zero_add]
      exact List.mem_cons_self
    | succ i =>
      refine List.mem_cons_of_mem _ (ih (n - 1) (fun v hv => hok v (List.mem_cons_of_mem _ hv)) (j + 1) q (List.mem_filterMap.mpr ⟨i, List.mem_range.mpr (by omega), ?_⟩))
      rw [← h]
      have e1 : (a :: as ++ List.replicate (n - (a :: as).length) Value.null)[i + 1]? = (as ++ List.replicate (n - 1 - as.length) Value.null)[i]? := by
        rw [List.cons_append, List.getElem?_cons_succ, List.length_cons, show n - (as.length + 1) = n - 1 - as.length by omega]
      rw [e1]
      congr 1
      funext v
      rw [show i + 1 + j = i + (j + 1) by omega]
theorem am_entry {ad : Nat → Nat} {k : Nat} {as : List Value} (hok : ∀ v ∈ as, am_ok v = true) (hn : as.length ≤ am_nL k) {ls : Array Slot} (h : lv_has ls (am_nL k) (lv_args 0 (as.map (am_v ad)))) : am_L ad ls (am_nL k) (am_in k as) := by
  have hl : (am_in k as).length = am_nL k := by unfold am_in; rw [List.length_append, List.length_replicate]; omega
  refine ⟨hl, h.1, h.2.1, fun q hq => h.2.2 q ?_⟩
  refine am_lvargs as (am_nL k) hok 0 q ?_
  unfold am_al at hq
  rw [hl] at hq
  exact hq
theorem am_lgsl {ad : Nat → Nat} {as : List Value} (hok : ∀ v ∈ as, am_ok v = true) : (lg_sl (as.map (am_v ad))).length = as.length := by
  induction as with
  | nil => rfl
  | cons a as ih =>
    have h1 := ih (fun v hv => hok v (List.mem_cons_of_mem _ hv))
    have h2 := hok a List.mem_cons_self
    unfold lg_sl at h1 ⊢
    rw [List.map_cons, List.flatMap_cons, List.length_append, h1, List.length_cons]
    have : am_v ad a = am_v ad a := rfl
    cases a <;> first | (cases h2; done) | (simp [am_v, Value.category]; omega) | (simp [am_v]; omega)
def am_cell (ad : Nat → Nat) (cA : FieldType → ClassId) (M : am_M) (p : Nat) : am_Sh → va_E
  | .inl (.long, n) => .inl (cA .long, n, .inr (.inl (M.2.1 p)))
  | .inl (ty, n) => .inl (cA ty, n, .inl (M.1 p))
  | .inr (c, fs) => .inr (c, (List.range fs.length).map fun f => am_v ad (am_fv M p f (fs.getD f none)))
def am_w (ad : Nat → Nat) (cA : FieldType → ClassId) (M : am_M) : va_W := am_shl.zipIdx.map fun q => (ad q.2, am_cell ad cA M q.2 q.1)
theorem am_w_get {ad : Nat → Nat} {cA : FieldType → ClassId} {M : am_M} (p : Nat) : (am_w ad cA M)[p]? = (am_sh p).map fun s => (ad p, am_cell ad cA M p s) := by
  unfold am_w am_sh
  rw [List.getElem?_map, List.getElem?_zipIdx]
  cases am_shl[p]? <;> simp
theorem am_w_at {ad : Nat → Nat} {cA : FieldType → ClassId} {M : am_M} {p : Nat} {s : am_Sh} (h : am_sh p = some s) : (am_w ad cA M)[p]? = some (ad p, am_cell ad cA M p s) := by rw [am_w_get, h]; rfl
theorem am_w_len {ad : Nat → Nat} {cA : FieldType → ClassId} {M : am_M} : (am_w ad cA M).length = am_shl.length := by simp [am_w]
/-- two memories that agree but for a place give worlds that agree but for a place -/
theorem am_w_up {ad : Nat → Nat} {cA : FieldType → ClassId} {M M' : am_M} {p : Nat} {s : am_Sh} (h : am_sh p = some s) (h1 : ∀ q, q ≠ p → M'.1 q = M.1 q) (h2 : ∀ q, q ≠ p → M'.2.1 q = M.2.1 q) : (am_w ad cA M).set p (ad p, am_cell ad cA M' p s) = am_w ad cA M' := by
  apply List.ext_getElem?
  intro q
  by_cases hq : q = p
  · subst hq
    have hl : q < (am_w ad cA M).length := by rw [am_w_len]; exact (List.getElem?_eq_some_iff.mp h).1
    rw [List.getElem?_set_self hl, am_w_at h]
  · rw [List.getElem?_set_ne (fun z => hq z.symm), am_w_get, am_w_get]
    cases am_sh q with
    | none => rfl
    | some t =>
      have : am_cell ad cA M q t = am_cell ad cA M' q t := by
        have e1 := h1 q hq
        have e2 := h2 q hq
        rcases t with ⟨ty, n⟩ | ⟨c, fs⟩
        · cases ty <;> simp [am_cell, e1, e2]
        · simp only [am_cell]
          congr 2
          apply List.map_congr_left
          intro f _
          cases fs.getD f none <;> simp [am_fv, e1]
      simp [this]
theorem am_w_addr {ad : Nat → Nat} {cA : FieldType → ClassId} {M M' : am_M} {p : Nat} {q : Nat × va_E} (h : (am_w ad cA M)[p]? = some q) : ∃ q', (am_w ad cA M')[p]? = some q' ∧ q'.1 = q.1 := by
  rw [am_w_get] at h ⊢
  cases hs : am_sh p with
  | none => rw [hs] at h; cases h
  | some s => rw [hs] at h; cases h; exact ⟨_, rfl, rfl⟩
theorem am_D {ad : Nat → Nat} {cA : FieldType → ClassId} {M M' : am_M} {A : Nat → Prop} (h : va_D A (am_w ad cA M)) : va_D A (am_w ad cA M') := by
  refine ⟨fun i j x y hi hj hxy => ?_, fun p q hp => ?_⟩
  · obtain ⟨x', h1, h2⟩ := am_w_addr (M' := M) hi
    obtain ⟨y', h3, h4⟩ := am_w_addr (M' := M) hj
    exact h.1 i j x' y' h1 h3 (h2.trans (hxy.trans h4.symm))
  · obtain ⟨q', h1, h2⟩ := am_w_addr (M' := M) hp
    rw [← h2]
    exact h.2 p q' h1
theorem am_A {ad : Nat → Nat} {cA : FieldType → ClassId} {M M' : am_M} {n q : Nat} (h : va_A (am_w ad cA M) n q) : va_A (am_w ad cA M') n q := by
  rcases h with ⟨k, e, h⟩ | h
  · obtain ⟨⟨a, e'⟩, h1, h2⟩ := am_w_addr (M' := M') h
    have h2 : a = q := h2
    subst h2
    exact Or.inl ⟨k, e', h1⟩
  · exact Or.inr h
def am_tys (cA : FieldType → ClassId) : List (ClassId × FieldType) := [(cA .int, .int), (cA .boolean, .boolean), (cA .char, .char), (cA .long, .long)]
end
section
/-! calls: into a method, and out of it by its answer or by an exception -/
section AMC
variable {p : Program} {l : Launch} {e : Env} {R : Room} {s : State} {m : MethodId} {args : Array Value} {below : List Frame} {meth : Method} {c : Code} {T : State} {locs : List Loc} {cells slots : Nat}
theorem am_code_of {k : Nat} (h : (am_cd k).before args s = true) : ∃ mk meth c, s.methodNamed? (am_y k) = some mk ∧ s.vm.method? mk = some meth ∧ meth.code = some c ∧ c.code = am_bytes k ∧ c.maxLocals = am_nL k ∧
    c.exceptionTable.toList.map (fun h => (h.startPc, h.endPc, h.handlerPc, h.catchType)) = am_et k ∧ meth.sig.returnType = am_rt k ∧ meth.locks = false ∧ parseMethodDescriptor (am_y k).desc = some meth.sig := by
  unfold am_cd at h
  split at h
  next he =>
    obtain ⟨mk, hn⟩ := Cond.code_named h
    obtain ⟨meth, c, h1, h2, h3, h4, h5, h6, h7, h8⟩ := Cond.code_spec hn h
    refine ⟨mk, meth, c, hn, h1, h2, h3, h4, ?_, h5, h6, h8⟩
    rw [he]
    have : c.exceptionTable.toList = [] := by
      have h7 : c.exceptionTable.isEmpty = true := h7
      simpa using h7
    rw [this]; rfl
  next =>
    obtain ⟨mk, meth, c, h1, h2, h3, h4, h5, h6, h7, h8, h9⟩ := Cond.codeWith_spec h
    exact ⟨mk, meth, c, h1, h2, h3, h4, h5, h6, h7, h8, h9⟩
theorem am_goV (X : Stand p l e R s m args below meth c T locs cells slots) (hexec : p.tables.exec = Jvm.exec) {own C : String} {index : Nat} {y : MethodName}
    (hown : s.vm.findClass own = some m.cls) (hlink : (Cond.methodLink own index y).before args s = true ∨ ∃ host, (Cond.methodLinkNest own index y host).before args s = true) (hinst : (Cond.instanceMethod y).before args s = true) (hsel : (Cond.selects C y y).before args s = true)
    (hy : y.cls ≠ "java/lang/invoke/MethodHandle" ∧ y.cls ≠ "java/lang/invoke/VarHandle") {mk : MethodId} {methM : Method} (hnamed : s.methodNamed? y = some mk) (hmethM : s.vm.method? mk = some methM)
    {b : Addr} {cellB : Cell} (hcell : T.heap[b]? = some cellB) (hobj : cellB.vm.isStatics = false) (hcls : s.vm.findClass C = some cellB.cls)
    {g : JFrame} (hg : g.method = m) {argsL rest : List Value} (hlen : argsL.length = methM.sig.parameters.length)
    (hstack : g.stack = argsL.reverse ++ .ref b :: rest) (hdg : decode c.code g.pc = .ok (.invokevirtual index, 3)) :
    ∃ vm₁ : Vm, Stand p l e R s m args below meth c (T.setVm vm₁) locs cells slots ∧
      ∀ target, Steps p.tables e below (doInvoke e ((T.setVm vm₁).setTop { g with stack := rest }) [] mk (Value.ref b :: argsL).toArray).1 target → Steps p.tables e below (T.setTop g) target := by
  obtain ⟨mk', methM', hnamed', hmethM', hstM, habM⟩ := Cond.instanceMethod_spec hinst
  cases hnamed.symm.trans hnamed'
  cases hmethM.symm.trans hmethM'
  obtain ⟨c2, r2, m2, q1, q2, q3, q4, kP, hkP, hkPi⟩ := Cond.selects_spec hsel
  cases hcls.symm.trans q1
  cases (State.methodFound?_of_named hnamed hy).symm.trans q2
  cases hnamed.symm.trans q3
  have hselP : selectMethod e.platform s.vm cellB.cls mk = .method mk := by rw [Launch.admits_selectMethod X.admits]; exact q4
  rcases hlink with hlink | ⟨host, hlink⟩
  · obtain ⟨vm₁, X₁, hstep₁⟩ := X.invokevirtual hexec hown hlink hnamed hmethM hstM hkP hkPi hy (a := b) (cell := cellB) hcell
      (fun z h => by rw [h] at hobj; cases hobj) hselP hmethM habM hkP hkPi (g := g) hg (argsL := argsL) (rest := rest) hlen hstack hdg
    exact ⟨vm₁, X₁, fun target h => hstep₁ _ fun acts => by rw [doInvoke_state]; exact h⟩
  · obtain ⟨vm₁, X₁, hstep₁⟩ := X.invokevirtualNest hexec hown hlink hnamed hmethM hstM hkP hkPi hy (a := b) (cell := cellB) hcell
      (fun z h => by rw [h] at hobj; cases hobj) hselP hmethM habM hkP hkPi (g := g) hg (argsL := argsL) (rest := rest) hlen hstack hdg
    exact ⟨vm₁, X₁, fun target h => hstep₁ _ fun acts => by rw [doInvoke_state]; exact h⟩
theorem am_goS (X : Stand p l e R s m args below meth c T locs cells slots) (hexec : p.tables.exec = Jvm.exec) {own : String} {index : Nat} {y : MethodName}
    (hown : s.vm.findClass own = some m.cls) (hlink : (Cond.methodLink own index y).before args s = true ∨ ∃ host, (Cond.methodLinkNest own index y host).before args s = true) (hstat : (Cond.static y).before args s = true) (hinit : (Cond.initialized y.cls).before args s = true)
    (hy : y.cls ≠ "java/lang/invoke/MethodHandle" ∧ y.cls ≠ "java/lang/invoke/VarHandle") {mk : MethodId} {methM : Method} (hnamed : s.methodNamed? y = some mk) (hmethM : s.vm.method? mk = some methM)
    {g : JFrame} (hg : g.method = m) {argsL rest : List Value} (hlen : argsL.length = methM.sig.parameters.length)
    (hstack : g.stack = argsL.reverse ++ rest) (hdg : decode c.code g.pc = .ok (.invokestatic index, 3)) :
    ∃ vm₁ : Vm, Stand p l e R s m args below meth c (T.setVm vm₁) locs cells slots ∧
      ∀ target, Steps p.tables e below (doInvoke e ((T.setVm vm₁).setTop { g with stack := rest }) [] mk argsL.toArray).1 target → Steps p.tables e below (T.setTop g) target := by
  have hstatic : methM.isStatic = true := Cond.static_spec hnamed hmethM hstat
  obtain ⟨kP, hkP, -⟩ := className_of_methodNamed hnamed
  have hinitP : kP.init = .initialized := Cond.initialized_spec (findClass_of_methodNamed hnamed) hkP hinit
  rcases hlink with hlink | ⟨host, hlink⟩
  · obtain ⟨vm₁, X₁, hstep₁⟩ := X.invokestatic hexec hown hlink hnamed hmethM hstatic hkP hinitP hy (g := g) hg (argsL := argsL) (rest := rest) hlen hstack hdg
    exact ⟨vm₁, X₁, fun target h => hstep₁ _ fun acts => by rw [doInvoke_state]; exact h⟩
  · obtain ⟨vm₁, X₁, hstep₁⟩ := X.invokestaticNest hexec hown hlink hnamed hmethM hstatic hkP hinitP hy (g := g) hg (argsL := argsL) (rest := rest) hlen hstack hdg
    exact ⟨vm₁, X₁, fun target h => hstep₁ _ fun acts => by rw [doInvoke_state]; exact h⟩
/-- into the method: what its body comes to, the call comes to -/
theorem am_into (X : Stand p l e R s m args below meth c T locs cells slots) {g : JFrame} (hg : g.method = m) (hsize : g.locals.size = c.maxLocals) {ig : Instr} {len : Nat} (hdg : decode c.code g.pc = .ok (ig, len))
    {y : MethodName} {mk : MethodId} {methk : Method} {ck : Code} {as : List Value} {R' : Room} (hpl : plainName y.cls = true) (hnamed : s.methodNamed? y = some mk) (hmk : s.vm.method? mk = some methk) (hck : methk.code = some ck) (hlk : methk.locks = false)
    (hframes : R'.frames + 1 ≤ R.frames) (hlocals : 2 * g.monitorRoom + (g.stack.map fun v => v.category).sum + (ck.maxLocals + 11) + R'.locals ≤ R.locals) (hcells : cells + R'.cells ≤ R.cells) (hslots : slots + R'.slots ≤ R.slots)
    {Zc : State → Prop} (body : W p l e R' (T.calling g mk as.toArray) mk as.toArray (.java g :: below) methk ck T.heap [] 0 0 Zc (entryFrame mk as.toArray ck.maxLocals)) :
    ∃ t, Steps p.tables e below (doInvoke e (T.setTop g) [] mk as.toArray).1 t ∧ Zc t := by
  have hmT : T.vm.method? mk = some methk := by rw [X.warmed.alike.method?]; exact hmk
  have hnT : T.methodNamed? y = some mk := X.named hnamed
  obtain ⟨Y, hin⟩ := X.into hg hsize hdg as.toArray (R' := R') hmT hck hlk (State.plainMethod.of_named (plainFor_of_name hpl) hnT hmT) hframes hlocals hcells hslots
  obtain ⟨t, st, hz⟩ := body ((T.setTop g).pushFrame (Frame.java (entryFrame mk as.toArray ck.maxLocals))) rfl Y
  refine ⟨t, ?_, hz⟩
  rw [hin []]
  exact Steps.weaken (mid := [.java g]) st
end AMC
end
section
/-! THE ABSTRACT MACHINE IS RIGHT: what comes to an end there does so on the real one -/
/-- the two statics that every throw reads, outside of what may change -/
def am_sta (A : Nat → Prop) (s : State) : Prop := vx_Zq Bundle.tN "UNASSIGNED_STACK" Bundle.steD A s s.heap ∧ vx_Zq Bundle.tN "SUPPRESSED_SENTINEL" Bundle.listD A s s.heap
/-- no exception is another one's kind -/
def am_ncs (s : State) : Prop := ∀ x y : Nat, x < 4 → y < 4 → x ≠ y → va_Nc (am_xn x) (am_xn y) s
/-- where the walk stands: the method k, its tables, the cells that it may change, its room -/
def am_C (l : Launch) (D : va_G) (ad : Nat → Nat) (cA : FieldType → ClassId) (A : Nat → Prop) (k : Nat) (p : Program) (R : Room) (s : State) (m : MethodId) (args : Array Value) (meth : Method) (c : Code) (scr : Nat × (Nat → Int32)) (Bc Bs : Nat) : Prop :=
  p.tables.exec = Jvm.exec ∧ c.code = am_bytes k ∧ meth.sig.returnType = am_rt k ∧ c.maxLocals = am_nL k ∧ s.vm.findClass (am_y k).cls = some m.cls ∧ (∀ w ∈ am_tbl, w.before args s = true) ∧ meth.locks = false ∧
  c.exceptionTable.toList.map (fun h => (h.startPc, h.endPc, h.handlerPc, h.catchType)) = am_et k ∧ va_K D am_cl (am_tys cA) s ∧ (∀ M, va_D A (am_w ad cA M)) ∧ (∀ q, s.heap.size ≤ q → A q) ∧
  l.flags = pinnedFlags ++ [noTraceFlag] ∧ am_rk k * 34 ≤ R.locals ∧ am_rk k ≤ R.frames ∧ Bc + 1 ≤ R.cells ∧ Bs + 6 ≤ R.slots ∧
  va_X (ad am_SC) scr.1 scr.2 s s.heap ∧ ad am_SC < s.heap.size ∧ ¬ A (ad am_SC) ∧ am_sta A s ∧ am_ncs s
def am_x : am_R → Nat
  | .inl _ => 0
  | .inr _ => 1
/-- what an exception of class x is -/
def am_ex (x : Nat) (s : State) (a : Nat) (H : Heap) : Prop := ∃ cell : Cell, H[a]? = some cell ∧ cell.vm = .none ∧ s.vm.findClass (am_xn x) = some cell.cls
/-- how a method ends that was walked: Z is what is wanted of its last state -/
def am_E (l : Launch) (D : va_G) (ad : Nat → Nat) (cA : FieldType → ClassId) (A : Nat → Prop) (k : Nat) (p : Program) (e : Env) (R : Room) (s : State) (m : MethodId) (args : Array Value) (below : List Frame) (meth : Method) (c : Code) (scr : Nat × (Nat → Int32)) (Q : am_T) (Bc Bs : Nat) (Z : State → Prop) : Prop :=
  (∀ (v : Int32) (ty : FieldType) (pc : Nat) (M : am_M) (H : Heap) (locs : List Loc) (cells slots : Nat) (ls : Array Slot), am_rt k = some ty → narrow ty (.int v) = .int v → decode (am_bytes k) pc = .ok (.ireturn, 1) → Q (.inl (some (.int v))) M → M.2.2.2 = scr → va_P D am_cl (am_w ad cA M) H → va_S A s.heap H locs → cells + M.2.2.1 = Bc → slots + 6 * M.2.2.1 = Bs →
    W p l e R s m args below meth c H locs cells slots Z (F0 m pc ls [.int v])) ∧
  (∀ (pc : Nat) (M : am_M) (H : Heap) (locs : List Loc) (cells slots : Nat) (ls : Array Slot), am_rt k = none → decode (am_bytes k) pc = .ok (.return_, 1) → Q (.inl none) M → M.2.2.2 = scr → va_P D am_cl (am_w ad cA M) H → va_S A s.heap H locs → cells + M.2.2.1 = Bc → slots + 6 * M.2.2.1 = Bs →
    W p l e R s m args below meth c H locs cells slots Z (F0 m pc ls [])) ∧
  (∀ (x a : Nat) (M : am_M) (U : State) (locs : List Loc), U.status = .running → Ended U below (.threw a) → am_ex x s a U.heap → Q (.inr x) M → M.2.2.2 = scr → va_P D am_cl (am_w ad cA M) U.heap → va_S A s.heap U.heap locs → s.WarmedH U.vm → M.2.2.1 ≤ Bc → s.sameButNew ({ U with vm := s.vm } : State) locs (Bc + 1 - M.2.2.1) (Bs + 6 - 6 * M.2.2.1) → Z U)
def am_X (l : Launch) : am_K := fun k pc L st M Q =>
  ∀ (D : va_G) (ad : Nat → Nat) (cA : FieldType → ClassId) (A : Nat → Prop) (p : Program) (e : Env) (R : Room) (s : State) (m : MethodId) (args : Array Value) (below : List Frame) (meth : Method) (c : Code) (Bc Bs : Nat) (Z : State → Prop) (H : Heap) (locs : List Loc) (cells slots : Nat) (ls : Array Slot),
    am_C l D ad cA A k p R s m args meth c M.2.2.2 Bc Bs → am_E l D ad cA A k p e R s m args below meth c M.2.2.2 Q Bc Bs Z → am_L ad ls (am_nL k) L → va_P D am_cl (am_w ad cA M) H → va_S A s.heap H locs → cells + M.2.2.1 = Bc → slots + 6 * M.2.2.1 = Bs →
    W p l e R s m args below meth c H locs cells slots Z (F0 m pc ls (st.map (am_v ad)))
section AMX
variable {l : Launch} {D : va_G} {ad : Nat → Nat} {cA : FieldType → ClassId} {A : Nat → Prop} {p : Program} {e : Env} {R : Room} {s : State} {m : MethodId} {args : Array Value} {below : List Frame} {meth : Method} {c : Code} {Bc Bs : Nat} {Z : State → Prop} {H : Heap} {locs : List Loc} {cells slots : Nat} {ls : Array Slot}
variable {k pc : Nat} {L st : List Value} {M : am_M} {Q : am_T}
theorem am_ic {cd : Jvm.ClassFile.Cond} {off : Int} {t : Nat} {x y : Int32} {rest : List Value} {cc : ByteArray} (hx : p.tables.exec = Jvm.exec) (hb : c.code = cc) (hd : decode cc pc = .ok (.if_icmp cd off, 3)) (ht : (pc : Int) + off = t)
    (kt : am_cmp cd x y → W p l e R s m args below meth c H locs cells slots Z (F0 m t ls rest)) (kf : ¬ am_cmp cd x y → W p l e R s m args below meth c H locs cells slots Z (F0 m (pc + 3) ls rest)) :
    W p l e R s m args below meth c H locs cells slots Z (F0 m pc ls (.int y :: .int x :: rest)) := by
  cases cd
  · exact lv_icmp_eq hx hb hd ht kt kf
  · exact lv_icmp_ne hx hb hd ht kt (fun q => kf (fun z => z q))
  · exact lv_icmp_lt hx hb hd ht kt kf
  · exact lv_icmp_ge hx hb hd ht kt kf
  · exact lv_icmp_gt hx hb hd ht kt kf
  · exact lv_icmp_le hx hb hd ht kt kf
theorem am_if {cd : Jvm.ClassFile.Cond} {off : Int} {t : Nat} {x : Int32} {rest : List Value} {cc : ByteArray} (hx : p.tables.exec = Jvm.exec) (hb : c.code = cc) (hd : decode cc pc = .ok (.ifCond cd off, 3)) (ht : (pc : Int) + off = t)
    (kt : am_cmp cd x 0 → W p l e R s m args below meth c H locs cells slots Z (F0 m t ls rest)) (kf : ¬ am_cmp cd x 0 → W p l e R s m args below meth c H locs cells slots Z (F0 m (pc + 3) ls rest)) :
    W p l e R s m args below meth c H locs cells slots Z (F0 m pc ls (.int x :: rest)) := by
  cases cd
  · exact lv_if_eq hx hb hd ht kt kf
  · exact lv_if_ne hx hb hd ht kt (fun q => kf (fun z => z q))
  · exact lv_if_lt hx hb hd ht kt kf
  · exact lv_if_ge hx hb hd ht kt kf
  · exact lv_if_gt hx hb hd ht kt kf
  · exact lv_if_le hx hb hd ht kt kf
theorem am_w_set {p i : Nat} {x : Int32} {sh : am_Sh} (h : am_sh p = some sh) : (am_w ad cA M).set p (ad p, am_cell ad cA (am_set M p i x) p sh) = am_w ad cA (am_set M p i x) :=
  am_w_up (M' := am_set M p i x) h (fun _ hz => va_up_ne _ _ hz) (fun _ _ => rfl)
theorem am_w_setL {p i : Nat} {x : Int64} {sh : am_Sh} (h : am_sh p = some sh) : (am_w ad cA M).set p (ad p, am_cell ad cA (am_setL M p i x) p sh) = am_w ad cA (am_setL M p i x) :=
  am_w_up (M' := am_setL M p i x) h (fun _ _ => rfl) (fun _ hz => va_up_ne _ _ hz)
set_option maxHeartbeats 4000000 in
theorem am_right_simple {i : Instr} {len : Nat} (hd : decode (am_bytes k) pc = .ok (i, len)) (h : am_do (am_X l) k pc i len L st M Q) (hn1 : ∀ ix, i ≠ .invokevirtual ix) (hn2 : ∀ ix, i ≠ .invokestatic ix) (hn3 : ∀ ix, i ≠ .new ix)
    (hC : am_C l D ad cA A k p R s m args meth c M.2.2.2 Bc Bs) (hE : am_E l D ad cA A k p e R s m args below meth c M.2.2.2 Q Bc Bs Z) (hL : am_L ad ls (am_nL k) L) (hP : va_P D am_cl (am_w ad cA M) H) (hS : va_S A s.heap H locs) (hb1 : cells + M.2.2.1 = Bc) (hb2 : slots + 6 * M.2.2.1 = Bs) :
    W p l e R s m args below meth c H locs cells slots Z (F0 m pc ls (st.map (am_v ad))) := by
  have go : ∀ {pc' : Nat} {L' st' : List Value} {ls' : Array Slot}, am_X l k pc' L' st' M Q → am_L ad ls' (am_nL k) L' → W p l e R s m args below meth c H locs cells slots Z (F0 m pc' ls' (st'.map (am_v ad))) :=
    fun h1 h2 => h1 D ad cA A p e R s m args below meth c Bc Bs Z H locs cells slots _ hC hE h2 hP hS hb1 hb2
  have go2 : ∀ {pc' : Nat} {L' st' : List Value} {M' : am_M} {H' : Heap} {locs' : List Loc}, am_X l k pc' L' st' M' Q → M'.2.2 = M.2.2 → am_L ad ls (am_nL k) L' → va_P D am_cl (am_w ad cA M') H' → va_S A s.heap H' locs' → W p l e R s m args below meth c H' locs' cells slots Z (F0 m pc' ls (st'.map (am_v ad))) :=
    fun {pc' L' st' M' H' locs'} h1 he h2 hP' hS' => h1 D ad cA A p e R s m args below meth c Bc Bs Z H' locs' cells slots _ (by rw [he]; exact hC) (by rw [he]; exact hE) h2 hP' hS' (by rw [he]; exact hb1) (by rw [he]; exact hb2)
  obtain ⟨hx, hb, hr, hml, hown, hts, hlk, het, hK, hDA, hA, hfl, hRl, hRf, hRc, hRs, hX1, hX2, hX3, hsta, hnc⟩ := id hC
  have hD := hDA M
  cases i
  case iconst n => obtain ⟨rfl, v, hv, h⟩ := h; exact lv_iconst hx hb hd hv (go h hL)
  case bipush n => obtain ⟨rfl, v, hv, h⟩ := h; exact lv_bipush hx hb hd hv (go h hL)
  case sipush n => obtain ⟨rfl, v, hv, h⟩ := h; exact lv_sipush hx hb hd hv (go h hL)
  case iload_n j => obtain ⟨rfl, v, hv, h⟩ := h; exact lv_iload_n hx hb hd rfl (hL.at hv rfl) (go h hL)
  case iload j => obtain ⟨rfl, v, hv, h⟩ := h; exact lv_iload hx hb hd (hL.at hv rfl) (go h hL)
  case aload_n j => obtain ⟨rfl, v, hv, h⟩ := h; exact lv_aload_n hx hb hd rfl (hL.at hv rfl) (go h hL)
  case aload j => obtain ⟨rfl, v, hv, h⟩ := h; exact lv_aload hx hb hd (hL.at hv rfl) (go h hL)
  case istore_n j => obtain ⟨rfl, x, r, rfl, hj, h⟩ := h; exact lv_istore_n hx hb hd rfl hL.2 (by rw [← hL.1]; exact hj) rfl (fun ls' h' => go h (hL.put (v := .int x) rfl h'))
  case istore j => obtain ⟨rfl, x, r, rfl, hj, h⟩ := h; exact lv_istore hx hb hd hL.2 (by rw [← hL.1]; exact hj) rfl (fun ls' h' => go h (hL.put (v := .int x) rfl h'))
  case iinc j n =>
    obtain ⟨rfl, x, v, hl, hv, h⟩ := h
    obtain ⟨q, hq⟩ := List.getElem?_of_mem (am_al_in (ad := ad) hl rfl)
    exact lv_iinc hx hb hd hL.2 hq hv (by rw [← hL.1]; exact (List.getElem?_eq_some_iff.mp hl).1) rfl (fun ls' h' => go h (hL.put (v := .int v) rfl h'))
  case iadd => obtain ⟨rfl, y, x, r, rfl, h⟩ := h; exact lv_iadd hx hb hd (go h hL)
  case isub => obtain ⟨rfl, y, x, r, rfl, h⟩ := h; exact lv_isub hx hb hd (go h hL)
  case imul => obtain ⟨rfl, y, x, r, rfl, h⟩ := h; exact lv_imul hx hb hd (go h hL)
  case iand => obtain ⟨rfl, y, x, r, rfl, h⟩ := h; exact lv_iand hx hb hd (go h hL)
  case ior => obtain ⟨rfl, y, x, r, rfl, h⟩ := h; exact lv_ior hx hb hd (go h hL)
  case ishl => obtain ⟨rfl, y, x, r, rfl, h⟩ := h; exact lv_ishl hx hb hd (go h hL)
  case ishr => obtain ⟨rfl, y, x, r, rfl, h⟩ := h; exact lv_ishr hx hb hd (go h hL)
  case iushr => obtain ⟨rfl, y, x, r, rfl, h⟩ := h; exact lv_iushr hx hb hd rfl (go h hL)
  case ineg => obtain ⟨rfl, x, r, rfl, h⟩ := h; exact lv_ineg hx hb hd (go h hL)
  case i2l => obtain ⟨rfl, x, r, rfl, h⟩ := h; exact lv_i2l hx hb hd rfl (go h hL)
  case i2c => obtain ⟨rfl, x, r, rfl, h⟩ := h; exact lv_i2c hx hb hd rfl (go h hL)
  case lcmp => obtain ⟨rfl, y, x, r, rfl, h⟩ := h; exact W.lcmp hx hb hd (go h hL)
  case dup => obtain ⟨rfl, v, r, rfl, hv, h⟩ := h; exact lv_dup hx hb hd (am_ok_cat hv) (go h hL)
  case goto off => obtain ⟨rfl, t, ht, h⟩ := h; exact lv_goto hx hb hd ht (go h hL)
  case ifCond cd off => obtain ⟨rfl, t, x, r, rfl, ht, h1, h2⟩ := h; exact am_if hx hb hd ht (fun q => go (h1 q) hL) (fun q => go (h2 q) hL)
  case if_icmp cd off => obtain ⟨rfl, t, y, x, r, rfl, ht, h1, h2⟩ := h; exact am_ic hx hb hd ht (fun q => go (h1 q) hL) (fun q => go (h2 q) hL)
  case tableswitch d lo hi offs =>
    obtain ⟨x, r, rfl, h1, h2⟩ := h
    by_cases hlo : x.toInt < lo
    · obtain ⟨t, ht, h⟩ := h1 (Or.inl hlo)
      exact lv_tableOut hx hb hd (Or.inl hlo) ht (go h hL)
    · by_cases hhi : hi < x.toInt
      · obtain ⟨t, ht, h⟩ := h1 (Or.inr hhi)
        exact lv_tableOut hx hb hd (Or.inr hhi) ht (go h hL)
      · obtain ⟨off, t, ho, ht, h⟩ := h2 hlo hhi
        exact lv_tableIn hx hb hd hlo hhi ho ht (go h hL)
  case iaload =>
    obtain ⟨rfl, x, q, r, rfl, ⟨rfl, hi, h⟩ | ⟨n, hs, hi, h⟩⟩ := h
    · exact va_sld hx hb hX1 hX2 hX3 hS hi hd (go h hL)
    · exact va_iald hx hb hK hP q 0 (am_w_at hs) rfl hi hd (go h hL)
  case baload => obtain ⟨rfl, x, q, n, r, rfl, hs, hi, h⟩ := h; exact va_zald hx hb hK hP q 1 (am_w_at hs) rfl hi hd (go h hL)
  case caload => obtain ⟨rfl, x, q, n, r, rfl, hs, hi, h⟩ := h; exact va_cald hx hb hK hP q 2 (am_w_at hs) rfl hi hd (go h hL)
  case laload => obtain ⟨rfl, x, q, n, r, rfl, hs, hi, h⟩ := h; exact va_lald hx hb hK hP q 3 (am_w_at hs) rfl hi hd (go h hL)
  case iastore =>
    obtain ⟨rfl, v, x, q, n, r, rfl, hs, hi, h⟩ := h
    refine va_iast hx hb hK hP hD hS q 0 (am_w_at hs) rfl hi hd (fun H1 locs1 hP1 _ hS1 => go2 h rfl hL ?_ hS1)
    rw [← am_w_set hs]
    rw [show am_cell ad cA (am_set M q x.toNatClampNeg v) q (.inl (.int, n)) = .inl (cA .int, n, .inl (upd (M.1 q) x.toNatClampNeg v)) by simp [am_cell, am_set, va_up_self]]
    exact hP1
  case bastore =>
    obtain ⟨rfl, v, x, q, n, r, rfl, hs, hi, h⟩ := h
    refine va_zast hx hb hK hP hD hS q 1 (am_w_at hs) rfl hi hd (fun H1 locs1 hP1 _ hS1 => go2 h rfl hL ?_ hS1)
    rw [← am_w_set hs]
    rw [show am_cell ad cA (am_set M q x.toNatClampNeg (vp_nar .boolean v)) q (.inl (.boolean, n)) = .inl (cA .boolean, n, .inl (upd (M.1 q) x.toNatClampNeg (vp_nar .boolean v))) by simp [am_cell, am_set, va_up_self]]
    exact hP1
  case castore =>
    obtain ⟨rfl, v, x, q, n, r, rfl, hs, hi, h⟩ := h
    refine va_cast hx hb hK hP hD hS q 2 (am_w_at hs) rfl hi hd (fun H1 locs1 hP1 _ hS1 => go2 h rfl hL ?_ hS1)
    rw [← am_w_set hs]
    rw [show am_cell ad cA (am_set M q x.toNatClampNeg (vp_nar .char v)) q (.inl (.char, n)) = .inl (cA .char, n, .inl (upd (M.1 q) x.toNatClampNeg (vp_nar .char v))) by simp [am_cell, am_set, va_up_self]]
    exact hP1
  case lastore =>
    obtain ⟨rfl, v, x, q, n, r, rfl, hs, hi, h⟩ := h
    refine va_last hx hb hK hP hD hS q 3 (am_w_at hs) rfl hi hd (fun H1 locs1 hP1 _ hS1 => go2 h rfl hL ?_ hS1)
    rw [← am_w_setL hs]
    rw [show am_cell ad cA (am_setL M q x.toNatClampNeg v) q (.inl (.long, n)) = .inl (cA .long, n, .inr (.inl (vp_updL (M.2.1 q) x.toNatClampNeg v))) by simp [am_cell, am_setL, va_up_self]]
    exact hP1
  case arraylength =>
    obtain ⟨rfl, q, r, rfl, ⟨rfl, h⟩ | ⟨ty, n, hs, hy, h⟩⟩ := h
    · exact va_slen hx hb hX1 hX2 hX3 hS hd (go h hL)
    · have hh : ∃ (t0 : Nat) (xx : vp_A), (am_tys cA)[t0]? = some (cA ty, ty) ∧ xx.1 = n ∧ am_cell ad cA M q (.inl (ty, n)) = .inl (cA ty, xx) := by
        simp only [am_tyL, List.mem_cons, List.not_mem_nil, or_false] at hy
        rcases hy with rfl | rfl | rfl | rfl
        · exact ⟨0, (n, .inl (M.1 q)), rfl, rfl, rfl⟩
        · exact ⟨1, (n, .inl (M.1 q)), rfl, rfl, rfl⟩
        · exact ⟨2, (n, .inl (M.1 q)), rfl, rfl, rfl⟩
        · exact ⟨3, (n, .inr (.inl (M.2.1 q))), rfl, rfl, rfl⟩
      obtain ⟨t0, xx, h1, h2, h3⟩ := hh
      exact va_alen hx hb hK hP q t0 (x := xx) (by rw [am_w_at hs, h3]) h1 (by rw [h2]) hd (go h hL)
  case getfield ix =>
    obtain ⟨rfl, q, ci, f, r, fs, o, rfl, hf, hs, ho, h⟩ := h
    obtain ⟨CC, TT, NN, g1, g2, g3, g4, g5⟩ := am_fld_ok hf
    have hlen : f < fs.length := (List.getElem?_eq_some_iff.mp ho).1
    have hgd : fs.getD f none = o := by rw [List.getD_eq_getElem?_getD, ho]; rfl
    have hv : ((List.range fs.length).map fun f => am_v ad (am_fv M q f (fs.getD f none)))[f]? = some (am_v ad (am_fv M q f o)) := by
      rw [List.getElem?_map, List.getElem?_range hlen]
      show some (am_v ad (am_fv M q f (fs.getD f none))) = _
      rw [hgd]
    rcases g5 with g5 | ⟨host, g5⟩
    · exact va_get (D := D) hx hb hts g4 hown hK hP q (am_w_at hs) g1 f g2 (hts _ g5) (fun z hz => by rw [← g3]; exact hz) hv hd (go h hL)
    · exact va_getN (D := D) hx hb hts g4 hown hK hP q (am_w_at hs) g1 f g2 (hts _ g5) (fun z hz => by rw [← g3]; exact hz) hv hd (go h hL)
  case putfield ix =>
    obtain ⟨rfl, v, q, ci, f, r, fs, ty, rfl, hf, hs, ho, hty, hnw, hft, h⟩ := h
    obtain ⟨CC, TT, NN, g1, g2, g3, g4, g5⟩ := am_fld_ok hf
    obtain ⟨ty0, t1, t2, t3, t4⟩ := am_fty_ok g1 g2 hty
    have hlen : f < fs.length := (List.getElem?_eq_some_iff.mp ho).1
    have hgd : fs.getD f none = none := by rw [List.getD_eq_getElem?_getD, ho]; rfl
    have hcell : (Sum.inr (ci, (((List.range fs.length).map fun f => am_v ad (am_fv M q f (fs.getD f none))).set f (.int v))) : va_E) = am_cell ad cA (am_set M q f v) q (.inr (ci, fs)) := by
      simp only [am_cell]
      congr 2
      apply List.ext_getElem?
      intro j
      by_cases hj : j = f
      · subst hj
        rw [List.getElem?_set_self (by simpa using hlen), List.getElem?_map, List.getElem?_range hlen]
        simp only [Option.map_some, hgd, am_fv, am_v, am_set, va_up_self, upd, if_true]
      · rw [List.getElem?_set_ne (fun z => hj z.symm), List.getElem?_map, List.getElem?_map]
        cases hr : (List.range fs.length)[j]? with
        | none => rfl
        | some j' =>
          have hj' : j' = j := by
            have hl := (List.getElem?_eq_some_iff.mp hr).1
            rw [List.getElem?_range (by simpa using hl)] at hr
            exact (Option.some.inj hr).symm
          subst hj'
          show some (am_v ad (am_fv M q j' (fs.getD j' none))) = some (am_v ad (am_fv (am_set M q f v) q j' (fs.getD j' none)))
          cases fs.getD j' none with
          | none => simp only [am_fv, am_set, va_up_self, upd, if_neg hj]
          | some z => rfl
    have kk : ∀ (H1 : Heap) (locs1 : List Loc), va_P D am_cl ((am_w ad cA M).set q (ad q, .inr (ci, (((List.range fs.length).map fun f => am_v ad (am_fv M q f (fs.getD f none))).set f (.int v))))) H1 → va_D A ((am_w ad cA M).set q (ad q, .inr (ci, (((List.range fs.length).map fun f => am_v ad (am_fv M q f (fs.getD f none))).set f (.int v))))) → va_S A s.heap H1 locs1 → W p l e R s m args below meth c H1 locs1 cells slots Z (F0 m (pc + 3) ls (r.map (am_v ad))) := by
      intro H1 locs1 hP1 _ hS1
      refine go2 h rfl hL ?_ hS1
      rw [← am_w_set hs, ← hcell]
      exact hP1
    rcases g5 with g5 | ⟨host, g5⟩
    · exact va_put (D := D) (v := .int v) hx hb hts g4 ty0 t1 t2 hown hK hP hD hS q (am_w_at hs) g1 f g2 (hts _ g5) (fun z hz => by rw [← g3]; exact hz) t3 t4 hnw hft (by simpa using hlen) hd kk
    · exact va_putN (D := D) (v := .int v) hx hb hts g4 ty0 t1 t2 hown hK hP hD hS q (am_w_at hs) g1 f g2 (hts _ g5) (fun z hz => by rw [← g3]; exact hz) t3 t4 hnw hft (by simpa using hlen) hd kk
  case ireturn => obtain ⟨rfl, v, ty, rfl, h1, h2, h⟩ := h; exact hE.1 v ty pc M H locs cells slots ls h1 h2 hd h rfl hP hS hb1 hb2
  case return_ => obtain ⟨rfl, rfl, h1, h⟩ := h; exact hE.2.1 pc M H locs cells slots ls h1 hd h rfl hP hS hb1 hb2
  case invokevirtual ix => exact absurd rfl (hn1 ix)
  case invokestatic ix => exact absurd rfl (hn2 ix)
  case new ix => exact absurd rfl (hn3 ix)
  all_goals exact False.elim h
end AMX
end
section
/-! calls and exceptions of the abstract machine on the real one -/
def am_out (ad : Nat → Nat) (s : State) (t : State) : am_R → Outcome → Prop
  | .inl v, o => o = .returned (v.map (am_v ad))
  | .inr x, o => ∃ a, o = .threw a ∧ am_ex x s a t.heap
def am_Z (D : va_G) (ad : Nat → Nat) (cA : FieldType → ClassId) (A : Nat → Prop) (s : State) (below : List Frame) (scr : Nat × (Nat → Int32)) (Q : am_T) (Bc Bs : Nat) : State → Prop := fun t =>
  ∃ (r : am_R) (o : Outcome) (M : am_M) (locs : List Loc), t.status = .running ∧ Ended t below o ∧ am_out ad s t r o ∧ Q r M ∧ M.2.2.2 = scr ∧ M.2.2.1 ≤ Bc ∧ va_P D am_cl (am_w ad cA M) t.heap ∧ va_S A s.heap t.heap locs ∧ s.WarmedH t.vm ∧
    s.sameButNew ({ t with vm := s.vm } : State) locs (Bc + am_x r - M.2.2.1) (Bs + 6 * am_x r - 6 * M.2.2.1)
section AMZ
variable {l : Launch} {D : va_G} {ad : Nat → Nat} {cA : FieldType → ClassId} {A : Nat → Prop} {p : Program} {e : Env} {R : Room} {s : State} {m : MethodId} {args : Array Value} {below : List Frame} {meth : Method} {c : Code} {Bc Bs : Nat} {Z : State → Prop} {H : Heap} {locs : List Loc} {cells slots : Nat} {ls : Array Slot}
variable {k pc : Nat} {L st : List Value} {M : am_M} {Q : am_T}
theorem am_E_Z (hx : p.tables.exec = Jvm.exec) (hb : c.code = am_bytes k) (hr : meth.sig.returnType = am_rt k) (hlk : meth.locks = false) {scr : Nat × (Nat → Int32)} : am_E l D ad cA A k p e R s m args below meth c scr Q Bc Bs (am_Z D ad cA A s below scr Q Bc Bs) := by
  refine ⟨?_, ?_, ?_⟩
  · intro v ty pc M H locs cells slots ls h1 h2 hd hQ hscr hP hS hb1 hb2
    intro T hT X
    obtain ⟨t, st, o, hrun, hend, ⟨ho, hh⟩, L, ⟨-, hW, hsame⟩, hfree⟩ := W.zret (Qc := fun _ _ o t => o = .returned (some (.int v)) ∧ t.heap = H) (free := A) (v := v) (ty := ty) hx hb (by rw [hr]; exact h1) h2 (fun t ht _ => ⟨rfl, ht⟩) hS.2.2 hd hlk T hT X
    refine ⟨t, st, .inl (some (.int v)), o, M, L, hrun, hend, ho, hQ, hscr, by omega, by rw [hh]; exact hP, ⟨by rw [hh]; exact hS.1, by rw [hh]; exact hS.2.1, hfree⟩, hW, hsame.mono ?_ ?_⟩
    · simp only [am_x]; omega
    · simp only [am_x]; omega
  · intro pc M H locs cells slots ls h1 hd hQ hscr hP hS hb1 hb2
    intro T hT X
    obtain ⟨t, st, o, hrun, hend, ⟨ho, hh⟩, L, ⟨-, hW, hsame⟩, hfree⟩ := W.vret (Qc := fun _ _ o t => o = .returned none ∧ t.heap = H) (free := A) hx hb (by rw [hr]; exact h1) (fun t ht _ => ⟨rfl, ht⟩) hS.2.2 hd hlk T hT X
    refine ⟨t, st, .inl none, o, M, L, hrun, hend, ho, hQ, hscr, by omega, by rw [hh]; exact hP, ⟨by rw [hh]; exact hS.1, by rw [hh]; exact hS.2.1, hfree⟩, hW, hsame.mono ?_ ?_⟩
    · simp only [am_x]; omega
    · simp only [am_x]; omega
  · intro x a M U locs hrun hend hex hQ hscr hP hS hW hle hsame
    exact ⟨.inr x, .threw a, M, locs, hrun, hend, ⟨a, rfl, hex⟩, hQ, hscr, hle, hP, hS, hW, hsame⟩
theorem am_A_sub {M : am_M} {T : State} (hDA : ∀ M, va_D A (am_w ad cA M)) (hA : ∀ q, s.heap.size ≤ q → A q) (hS : va_S A s.heap T.heap locs) : ∀ q, va_A (am_w ad cA M) T.heap.size q → A q := by
  intro q hq
  rcases hq with ⟨j, e0, h1⟩ | h1
  · exact (hDA M).2 j _ h1
  · exact hA q (Nat.le_trans hS.1 h1)
/-- the room of method k when b exceptions may still be caught -/
def am_rm (k b : Nat) : Room := { frames := am_rk k, cells := b + 1, slots := 6 * b + 6, locals := am_rk k * 34 }
/-- a method that the abstract machine ends, called from a state that holds the memory -/
theorem am_callee {T : State} {g : JFrame} {mk : MethodId} {methk : Method} {ck : Code} {as : List Value}
    (hC : am_C l D ad cA A k p R s m args meth c M.2.2.2 Bc Bs) (hS : va_S A s.heap T.heap locs) (hW : s.WarmedH T.vm) (hcur : True)
    {kc : Nat} (hok : ∀ v ∈ as, am_ok v = true) (hna : as.length ≤ am_nL kc) (hnamed : s.methodNamed? (am_y kc) = some mk) (hck : ck.code = am_bytes kc) (hml : ck.maxLocals = am_nL kc) (hr : methk.sig.returnType = am_rt kc) (hlk : methk.locks = false)
    (het : ck.exceptionTable.toList.map (fun h => (h.startPc, h.endPc, h.handlerPc, h.catchType)) = am_et kc) (hP : va_P D am_cl (am_w ad cA M) T.heap) (hX : am_X l kc 0 (am_in kc as) [] M Q) :
    W p l e (am_rm kc M.2.2.1) (T.calling g mk (as.map (am_v ad)).toArray) mk (as.map (am_v ad)).toArray (.java g :: below) methk ck T.heap [] 0 0
      (am_Z D ad cA (va_A (am_w ad cA M) T.heap.size) (T.calling g mk (as.map (am_v ad)).toArray) (.java g :: below) M.2.2.2 Q M.2.2.1 (6 * M.2.2.1)) (entryFrame mk (as.map (am_v ad)).toArray ck.maxLocals) := by
  obtain ⟨hx, -, -, -, -, hts, -, -, hK, hDA, hA, hfl, -, -, -, -, hX1, hX2, hX3, hsta, hnc⟩ := hC
  have hvm : (T.calling g mk (as.map (am_v ad)).toArray).vm = T.vm := rfl
  have hhe : (T.calling g mk (as.map (am_v ad)).toArray).heap = T.heap := rfl
  have hW' : s.WarmedH (T.calling g mk (as.map (am_v ad)).toArray).vm := hW
  have hT0 : T.heap[ad am_SC]? = s.heap[ad am_SC]? := hS.2.1 _ hX2 hX3
  rw [hml]
  rw [lg_entry_eq]
  have hl := lv_entry (as.map (am_v ad)) (n := am_nL kc) (by rw [am_lgsl hok]; exact hna)
  refine hX D ad cA _ p e _ _ mk _ _ methk ck M.2.2.1 (6 * M.2.2.1) _ T.heap [] 0 0 _ ⟨hx, hck, hr, hml, ?_, ?_, hlk, het, va_K.moved hW'.alike hK, fun M' => am_D ((hDA M).self), fun q h => Or.inr h, hfl, Nat.le_refl _, Nat.le_refl _, Nat.le_refl _, Nat.le_refl _, ?_, ?_, ?_, ?_, ?_⟩ (am_E_Z hx hck hr hlk) (am_entry hok hna hl) hP va_S.rf (by omega) (by omega)
  · rw [hvm, hW.alike.findClass]
    exact findClass_of_methodNamed hnamed
  · intro w hw
    exact am_word (List.mem_filter.mp hw).2 hW' (hts w hw)
  · exact va_X.moved hW'.alike (hX1.kept hT0)
  · exact Nat.lt_of_lt_of_le hX2 hS.1
  · intro hq
    rcases hq with ⟨j, e0, h1⟩ | h1
    · exact hX3 ((hDA M).2 j _ h1)
    · have h1 : T.heap.size ≤ ad am_SC := h1
      have := Nat.lt_of_lt_of_le hX2 hS.1
      omega
  · exact ⟨(vx_Zq.moved hW'.alike (hsta.1.kept hS.2.1)).narrow (am_A_sub hDA hA hS), (vx_Zq.moved hW'.alike (hsta.2.kept hS.2.1)).narrow (am_A_sub hDA hA hS)⟩
  · exact fun x y h1 h2 h3 => va_Nc.moved hW'.alike (hnc x y h1 h2 h3)
theorem am_S_app {H0 H1 H2 : Heap} {A A' : Nat → Prop} {l1 l2 : List Loc} (h1 : va_S A H0 H1 l1) (h2 : va_S A' H1 H2 l2) (hA : ∀ q, A' q → A q) : va_S A H0 H2 (l1 ++ l2) := by
  refine ⟨Nat.le_trans h1.1 h2.1, fun q hq hn => ?_, fun q hq => ?_⟩
  · rw [h2.2.1 q (Nat.lt_of_lt_of_le hq h1.1) (fun z => hn (hA q z))]
    exact h1.2.1 q hq hn
  · rcases List.mem_append.mp hq with h | h
    · exact h1.2.2 q h
    · exact hA _ (h2.2.2 q h)
theorem am_rest {v : Option Value} {r : List Value} : (v.toList ++ r).map (am_v ad) = (v.map (am_v ad)).toList ++ r.map (am_v ad) := by cases v <;> rfl
/-- the object at a place, as the receiver of a call -/
theorem am_obj {q ci : Nat} {fs : List Value} {H : Heap} {C : String} (h : va_at D am_cl (q, .inr (ci, fs)) H) (hK : va_K D am_cl (am_tys cA) s) (hc : ∃ T N, am_cl[ci]? = some (C, T, N)) : ∃ cellB : Cell, H[q]? = some cellB ∧ cellB.vm.isStatics = false ∧ s.vm.findClass C = some cellB.cls := by
  obtain ⟨T, N, hc⟩ := hc
  obtain ⟨r, h1, cell, h2, h3, h4, -⟩ := h
  have h6 := (hK.1 ci _ hc).2.1
  refine ⟨cell, h2, by rw [h4]; rfl, ?_⟩
  rw [h3]
  exact h6
/-- an exception of class x, caught by the method's own handler: it answers v -/
theorem am_catch {T : State} {r : List Value} {x : Nat} {v : Int32} {aa : Nat} {M' : am_M} (hC : am_C l D ad cA A k p R s m args meth c M.2.2.2 Bc Bs) (hE : am_E l D ad cA A k p e R s m args below meth c M.2.2.2 Q Bc Bs Z) (hL : am_L ad ls (am_nL k) L)
    (hh : am_hd k pc x = some v) (hex : am_ex x s aa T.heap) (X : Stand p l e R s m args below meth c T locs cells slots) (hpos : 0 < M'.2.2.1) (hQ : Q (.inl (some (.int v))) (am_pay M')) (hscr : M'.2.2.2 = M.2.2.2) (hP : va_P D am_cl (am_w ad cA M') T.heap) (hS : va_S A s.heap T.heap locs)
    (hb1 : cells + M'.2.2.1 = Bc + 1) (hb2 : slots + 6 * M'.2.2.1 = Bs + 6) :
    ∃ t, Steps p.tables e below ((T.setTop (F0 m pc ls (r.map (am_v ad)))).pushFrame (.throwing aa)) t ∧ Z t := by
  obtain ⟨hx, hb, hr, hml, hown, hts, hlk, het, hK, hDA, hA, hfl, hRl, hRf, hRc, hRs, hX1, hX2, hX3, hsta, hnc⟩ := id hC
  obtain ⟨n, row, alen, ps, rfl, hchk⟩ := am_hd_ok hh
  unfold am_hchk at hchk
  simp only [Bool.and_eq_true, decide_eq_true_eq] at hchk
  obtain ⟨⟨⟨⟨⟨⟨⟨⟨⟨g1, g2⟩, g3⟩, g4⟩, g5⟩, g6⟩, g7⟩, g8⟩, g9⟩, g10⟩ := hchk
  obtain ⟨ce, x1, x2, x3⟩ := hex
  have quad : ∀ (j : Nat) (z : ExceptionTableEntry), c.exceptionTable.toList[j]? = some z → am_hq k j = (z.startPc, z.endPc, z.handlerPc, z.catchType) := by
    intro j z hz
    unfold am_hq
    rw [← het, List.getD_eq_getElem?_getD, List.getElem?_map, hz]
    rfl
  have hlen : row < c.exceptionTable.toList.length := by
    have h0 := congrArg List.length het
    rw [List.length_map] at h0
    omega
  obtain ⟨z, hz⟩ : ∃ z, c.exceptionTable.toList[row]? = some z := ⟨_, List.getElem?_eq_getElem hlen⟩
  have hq := quad row z hz
  have hsplit : c.exceptionTable.toList = c.exceptionTable.toList.take row ++ z :: c.exceptionTable.toList.drop (row + 1) := by
    have h1 := List.getElem_cons_drop hlen
    rw [(List.getElem?_eq_some_iff.mp hz).2] at h1
    rw [h1, List.take_append_drop]
  unfold am_hcode at g8
  simp only [Bool.and_eq_true, decide_eq_true_eq] at g8
  obtain ⟨⟨⟨k1, k2⟩, k3⟩, k4⟩ := g8
  rw [hq] at g2 g3 g4 g5 k1 k2 k3
  have hend : ∀ ls' : Array Slot, W p l e R s m args below meth c T.heap locs cells slots Z (F0 m (z.handlerPc + alen) ls' []) := by
    intro ls'
    refine lv_iconst hx hb k2 k4 ?_
    refine hE.1 _ .int _ (am_pay M') T.heap locs cells slots ls' g10 rfl k3 hQ hscr hP hS ?_ ?_
    · show cells + (M'.2.2.1 - 1) = Bc
      omega
    · show slots + 6 * (M'.2.2.1 - 1) = Bs
      omega
  have hw : W p l e R s m args below meth c T.heap locs cells slots Z (F0 m z.handlerPc ls [.ref aa]) := by
    split at k1
    next j hj =>
      simp only [Bool.and_eq_true, beq_iff_eq, decide_eq_true_eq] at k1
      obtain ⟨rfl, k1⟩ := k1
      exact lv_astore hx hb hj hL.2 k1 rfl (fun ls' _ => hend ls')
    next j hj =>
      simp only [Bool.and_eq_true, beq_iff_eq, decide_eq_true_eq] at k1
      obtain ⟨rfl, k1⟩ := k1
      exact lv_astore_n hx hb hj rfl hL.2 k1 rfl (fun ls' _ => hend ls')
    next => cases k1
  refine vx_catch (E := am_xn x) hown (c.exceptionTable.toList.take row) z (c.exceptionTable.toList.drop (row + 1)) hsplit ?_ ?_ g4 (hts _ (am_in_t g5 rfl)) (hts _ (am_in_t g7 rfl)) x1 x2 x3 hw T rfl X
  · intro z' hz'
    obtain ⟨j, hj⟩ := List.getElem?_of_mem hz'
    have hjl : j < row := by
      have h1 := (List.getElem?_eq_some_iff.mp hj).1
      rw [List.length_take] at h1
      omega
    rw [List.getElem?_take_of_lt hjl] at hj
    obtain ⟨x', y1, y2, y3, y4⟩ := am_hrow g9 hjl
    rw [quad j z' hj] at y3 y4
    exact Or.inr ⟨y3, _, hts _ y4, hnc x x' g6 y2 (fun q => y1 q.symm)⟩
  · simp only [covers, Bool.and_eq_true, decide_eq_true_eq]
    exact ⟨g2, g3⟩
/-- behind the call: the walk goes on with what the callee came to -/
theorem am_back {T : State} {g : JFrame} {mk : MethodId} {a : Array Value} {r : List Value} {ig : Instr}
    (hC : am_C l D ad cA A k p R s m args meth c M.2.2.2 Bc Bs) (hE : am_E l D ad cA A k p e R s m args below meth c M.2.2.2 Q Bc Bs Z) (hL : am_L ad ls (am_nL k) L) (hS : va_S A s.heap T.heap locs) (hb1 : cells + M.2.2.1 = Bc) (hb2 : slots + 6 * M.2.2.1 = Bs)
    (X : Stand p l e R s m args below meth c T locs cells slots) (hg : g = F0 m pc ls (r.map (am_v ad))) (hdg : decode c.code g.pc = .ok (ig, 3)) {t : State}
    (ht : am_Z D ad cA (va_A (am_w ad cA M) T.heap.size) (T.calling g mk a) (.java g :: below) M.2.2.2 (am_af (am_X l) k pc L r Q) M.2.2.1 (6 * M.2.2.1) t) :
    ∃ t', Steps p.tables e below t t' ∧ Z t' := by
  obtain ⟨res, o, M', Lc, hrun, hend, hout, hQ, hscr, hle, hP', hS', hW', hsame⟩ := ht
  obtain ⟨hx, hb, hr, hml, hown, hts, hlk, het, hK, hDA, hA, hfl, hRl, hRf, hRc, hRs, hX1, hX2, hX3, hsta, hnc⟩ := id hC
  have hSS := am_S_app hS hS' (am_A_sub hDA hA hS)
  have hgm : g.method = m := by rw [hg]
  cases res with
  | inl v =>
    have ho : o = .returned (v.map (am_v ad)) := hout
    subst ho
    obtain ⟨T', X', hWT, -, ht⟩ := X.outOf hgm hdg hend hW' hsame
    have hth : t.heap = T'.heap := by rw [ht]; rfl
    rw [hth] at hP' hSS
    have hgo : am_X l k (pc + 3) L (v.toList ++ r) M' Q := hQ
    have hw := hgo D ad cA A p e R s m args below meth c Bc Bs Z T'.heap (locs ++ Lc) (cells + (M.2.2.1 + am_x (.inl v) - M'.2.2.1)) (slots + (6 * M.2.2.1 + 6 * am_x (.inl v) - 6 * M'.2.2.1)) ls (by rw [hscr]; exact hC) (by rw [hscr]; exact hE) hL hP' hSS (by simp only [am_x]; omega) (by simp only [am_x]; omega)
    obtain ⟨t', a1, b1⟩ := hw T' rfl X'
    refine ⟨t', ?_, b1⟩
    rw [ht, hg, am_rest] at *
    exact a1
  | inr x =>
    obtain ⟨aa, ho, hex⟩ := hout
    subst ho
    obtain ⟨T', X', hWT, -, ht⟩ := X.outOfThrown hgm hend hW' hsame
    have hth : t.heap = T'.heap := by rw [ht]; exact Stand.throwing_heap T' g aa
    rw [hth] at hP' hSS hex
    have hex' : am_ex x s aa T'.heap := by
      obtain ⟨cell, h1, h2, h3⟩ := hex
      refine ⟨cell, h1, h2, ?_⟩
      have : (T.calling g mk a).vm = T.vm := rfl
      rw [this, X.warmed.alike.findClass] at h3
      exact h3
    cases hh : am_hd k pc x with
    | none =>
      have hQ : am_et k = [] ∧ Q (.inr x) M' := by
        have h0 : (match am_hd k pc x with | none => am_et k = [] ∧ Q (.inr x) M' | some v => 0 < M'.2.2.1 ∧ Q (.inl (some (.int v))) (am_pay M')) := hQ
        rw [hh] at h0
        exact h0
      obtain ⟨he, hQ⟩ := hQ
      have htab : c.exceptionTable.toList = [] := by
        rw [he] at het
        exact List.map_eq_nil_iff.mp het
      obtain ⟨hwalk, hrun', hended, hWU, hsameU⟩ := X'.leaveThrown aa (g := g) hgm (by rw [hg]) (by rw [hg]) (fun z hz => by rw [htab] at hz; cases hz) hlk
      refine ⟨_, by rw [ht]; exact hwalk, hE.2.2 x aa M' _ (locs ++ Lc) hrun' hended hex' hQ hscr hP' hSS hWU (by omega) (hsameU.mono ?_ ?_)⟩
      · simp only [am_x]; omega
      · simp only [am_x]; omega
    | some v =>
      have hQ : 0 < M'.2.2.1 ∧ Q (.inl (some (.int v))) (am_pay M') := by
        have h0 : (match am_hd k pc x with | none => am_et k = [] ∧ Q (.inr x) M' | some v => 0 < M'.2.2.1 ∧ Q (.inl (some (.int v))) (am_pay M')) := hQ
        rw [hh] at h0
        exact h0
      obtain ⟨hpos, hQ⟩ := hQ
      have hw := am_catch (ls := ls) (r := r) hC hE hL hh hex' X' hpos hQ hscr hP' hSS (by simp only [am_x]; omega) (by simp only [am_x]; omega)
      obtain ⟨t', a1, b1⟩ := hw
      refine ⟨t', ?_, b1⟩
      rw [ht, hg]
      exact a1
theorem am_right_v {ix len : Nat} (hd : decode (am_bytes k) pc = .ok (.invokevirtual ix, len)) (h : am_do (am_X l) k pc (.invokevirtual ix) len L st M Q)
    (hC : am_C l D ad cA A k p R s m args meth c M.2.2.2 Bc Bs) (hE : am_E l D ad cA A k p e R s m args below meth c M.2.2.2 Q Bc Bs Z) (hL : am_L ad ls (am_nL k) L) (hP : va_P D am_cl (am_w ad cA M) H) (hS : va_S A s.heap H locs) (hb1 : cells + M.2.2.1 = Bc) (hb2 : slots + 6 * M.2.2.1 = Bs) :
    W p l e R s m args below meth c H locs cells slots Z (F0 m pc ls (st.map (am_v ad))) := by
  obtain ⟨rfl, kc, q, ci, As, r, fs, h2, rfl, h4, h5, h6, h7, h8, h9, h⟩ := h
  obtain ⟨hx, hb, hr, hml, hown, hts, hlk, het, hK, hDA, hA, hfl, hRl, hRf, hRc, hRs, hX1, hX2, hX3, hsta, hnc⟩ := id hC
  obtain ⟨y1, y2, y3, y4, y5, y6, y7, y8, y9⟩ := am_mth_v h2 h7
  obtain ⟨mk, methk, ck, n1, n2, n3, n4, n5, n6, n7, n8, n9⟩ := am_code_of (hts _ y1)
  intro T hT X
  subst hT
  have hok : ∀ v ∈ (Value.ref q :: As), am_ok v = true := by
    intro v hv
    rcases List.mem_cons.mp hv with rfl | hv
    · rfl
    · exact List.all_eq_true.mp h8 v hv
  obtain ⟨cellB, c1, c2, c3⟩ := am_obj (hP q _ (am_w_at h6)) hK y8
  have hlen : (As.map (am_v ad)).length = methk.sig.parameters.length := by
    have h0 := y6
    rw [n9] at h0
    have h0 : methk.sig.parameters.length + 1 = am_na kc := Option.some.inj h0
    rw [List.length_map]
    omega
  have hsz : ls.size = c.maxLocals := by rw [hml]; exact hL.2.1
  obtain ⟨vm₁, X₁, st1⟩ := am_goV X hx (g := F0 m pc ls ((As.reverse ++ .ref q :: r).map (am_v ad))) hown (y2.imp (fun z => hts _ z) (fun ⟨host, z⟩ => ⟨host, hts _ z⟩)) (hts _ y3) (hts _ y4) y5 n1 n2 c1 c2 c3 rfl (argsL := As.map (am_v ad)) (rest := r.map (am_v ad)) hlen (by simp [am_v, List.map_append, List.map_reverse]) (by rw [hb]; exact hd)
  have hcal := am_callee (T := T.setVm vm₁) (g := F0 m pc ls (r.map (am_v ad))) (mk := mk) (methk := methk) (ck := ck) (as := .ref q :: As) (e := e) (below := below) hC hS X₁.warmed trivial (kc := kc) hok (by rw [List.length_cons, ← h4]; exact y7) n1 n4 n5 n7 n8 n6 hP h
  obtain ⟨t, st2, hz⟩ := am_into X₁ (g := F0 m pc ls (r.map (am_v ad))) rfl hsz (by rw [hb]; exact hd) (as := (Value.ref q :: As).map (am_v ad)) (R' := am_rm kc M.2.2.1) y9 n1 n2 n3 n8 (by simp only [am_rm]; omega) (by
      have hw8 : ((r.map (am_v ad)).map fun v => v.category).sum ≤ 8 := by
        rw [List.map_map]
        have : ((fun v : Value => v.category) ∘ am_v ad) = fun v : Value => v.category := by funext v; cases v <;> rfl
        rw [this]; exact h9
      have hl21 := am_nL_le kc
      simp only [am_rm]
      rw [n5]
      have : 2 * (F0 m pc ls (r.map (am_v ad))).monitorRoom + ((F0 m pc ls (r.map (am_v ad))).stack.map fun v => v.category).sum ≤ 8 := lv_room (m := m) (pc := pc) (ls := ls) (rest := r.map (am_v ad)) hw8
      have h5' : (am_rk kc + 1) * 34 ≤ am_rk k * 34 := Nat.mul_le_mul_right 34 h5
      omega) (by simp only [am_rm]; omega) (by simp only [am_rm]; omega) hcal
  obtain ⟨t', a1, b1⟩ := am_back (T := T.setVm vm₁) (ls := ls) (r := r) (g := F0 m pc ls (r.map (am_v ad))) (mk := mk) hC hE hL hS hb1 hb2 X₁ rfl (by rw [hb]; exact hd) hz
  exact ⟨t', st1 _ (st2.trans a1), b1⟩
theorem am_right_s {ix len : Nat} (hd : decode (am_bytes k) pc = .ok (.invokestatic ix, len)) (h : am_do (am_X l) k pc (.invokestatic ix) len L st M Q)
    (hC : am_C l D ad cA A k p R s m args meth c M.2.2.2 Bc Bs) (hE : am_E l D ad cA A k p e R s m args below meth c M.2.2.2 Q Bc Bs Z) (hL : am_L ad ls (am_nL k) L) (hP : va_P D am_cl (am_w ad cA M) H) (hS : va_S A s.heap H locs) (hb1 : cells + M.2.2.1 = Bc) (hb2 : slots + 6 * M.2.2.1 = Bs) :
    W p l e R s m args below meth c H locs cells slots Z (F0 m pc ls (st.map (am_v ad))) := by
  obtain ⟨hx, hb, hr, hml, hown, hts, hlk, het, hK, hDA, hA, hfl, hRl, hRf, hRc, hRs, hX1, hX2, hX3, hsta, hnc⟩ := id hC
  have hw8 : ∀ r : List Value, (r.map fun v => v.category).sum ≤ 8 → ((r.map (am_v ad)).map fun v => v.category).sum ≤ 8 := by
    intro r h9
    rw [List.map_map]
    have : ((fun v : Value => v.category) ∘ am_v ad) = fun v : Value => v.category := by funext v; cases v <;> rfl
    rw [this]; exact h9
  have hsz : ls.size = c.maxLocals := by rw [hml]; exact hL.2.1
  obtain ⟨rfl, ⟨y, x, r, h2, h0, rfl, h9, h⟩ | ⟨y, x, r, h2, h0, rfl, h9, h⟩ | ⟨kc, As, r, h2, rfl, h4, h5, h7, h8, h9, h⟩⟩ := h
  · obtain ⟨y1, y2, y3, y4⟩ := am_mx_t h2
    have h9' := hw8 r h9
    exact va_mmax hx hb hsz.symm hown (hts _ y1) (hts _ y2) (hts _ y3) (hts _ y4) (by omega) (by omega) (by omega) (by omega) hd (h D ad cA A p e R s m args below meth c Bc Bs Z H locs cells slots _ hC hE hL hP hS hb1 hb2)
  · obtain ⟨y1, y2, y3, y4⟩ := am_mx_f h2
    have h9' := hw8 r h9
    exact va_mmin hx hb hsz.symm hown (hts _ y1) (hts _ y2) (hts _ y3) (hts _ y4) (by omega) (by omega) (by omega) (by omega) hd (h D ad cA A p e R s m args below meth c Bc Bs Z H locs cells slots _ hC hE hL hP hS hb1 hb2)
  · obtain ⟨y1, y2, y3, y4, y5, y6, y7, y9⟩ := am_mth_s h2 h7
    obtain ⟨mk, methk, ck, n1, n2, n3, n4, n5, n6, n7, n8, n9⟩ := am_code_of (hts _ y1)
    intro T hT X
    subst hT
    have hok : ∀ v ∈ As, am_ok v = true := fun v hv => List.all_eq_true.mp h8 v hv
    have hlen : (As.map (am_v ad)).length = methk.sig.parameters.length := by
      have h0 := y6
      rw [n9] at h0
      have h0 : methk.sig.parameters.length = am_na kc := Option.some.inj h0
      rw [List.length_map]
      omega
    obtain ⟨vm₁, X₁, st1⟩ := am_goS X hx (g := F0 m pc ls ((As.reverse ++ r).map (am_v ad))) hown (y2.imp (fun z => hts _ z) (fun ⟨host, z⟩ => ⟨host, hts _ z⟩)) (hts _ y3) (hts _ y4) y5 n1 n2 rfl (argsL := As.map (am_v ad)) (rest := r.map (am_v ad)) hlen (by simp [List.map_append, List.map_reverse]) (by rw [hb]; exact hd)
    have hcal := am_callee (T := T.setVm vm₁) (g := F0 m pc ls (r.map (am_v ad))) (mk := mk) (methk := methk) (ck := ck) (as := As) (e := e) (below := below) hC hS X₁.warmed trivial (kc := kc) hok (by rw [← h4]; exact y7) n1 n4 n5 n7 n8 n6 hP h
    have hw9 := hw8 r h9
    obtain ⟨t, st2, hz⟩ := am_into X₁ (g := F0 m pc ls (r.map (am_v ad))) rfl hsz (by rw [hb]; exact hd) (as := As.map (am_v ad)) (R' := am_rm kc M.2.2.1) y9 n1 n2 n3 n8 (by simp only [am_rm]; omega) (by
        have hl21 := am_nL_le kc
        simp only [am_rm]
        rw [n5]
        have : 2 * (F0 m pc ls (r.map (am_v ad))).monitorRoom + ((F0 m pc ls (r.map (am_v ad))).stack.map fun v => v.category).sum ≤ 8 := lv_room (m := m) (pc := pc) (ls := ls) (rest := r.map (am_v ad)) (hw8 r h9)
        have h5' : (am_rk kc + 1) * 34 ≤ am_rk k * 34 := Nat.mul_le_mul_right 34 h5
        omega) (by simp only [am_rm]; omega) (by simp only [am_rm]; omega) hcal
    obtain ⟨t', a1, b1⟩ := am_back (T := T.setVm vm₁) (ls := ls) (r := r) (g := F0 m pc ls (r.map (am_v ad))) (mk := mk) hC hE hL hS hb1 hb2 X₁ rfl (by rw [hb]; exact hd) hz
    exact ⟨t', st1 _ (st2.trans a1), b1⟩
theorem am_catW {r : List Value} (h : (r.map fun v => v.category).sum ≤ 8) : ((r.map (am_v ad)).map fun v => v.category).sum ≤ 8 := by
  rw [List.map_map]
  have : ((fun v : Value => v.category) ∘ am_v ad) = fun v : Value => v.category := by funext v; cases v <;> rfl
  rw [this]; exact h
theorem am_right_n {ix len : Nat} (hd : decode (am_bytes k) pc = .ok (.new ix, len)) (h : am_do (am_X l) k pc (.new ix) len L st M Q)
    (hC : am_C l D ad cA A k p R s m args meth c M.2.2.2 Bc Bs) (hE : am_E l D ad cA A k p e R s m args below meth c M.2.2.2 Q Bc Bs Z) (hL : am_L ad ls (am_nL k) L) (hP : va_P D am_cl (am_w ad cA M) H) (hS : va_S A s.heap H locs) (hb1 : cells + M.2.2.1 = Bc) (hb2 : slots + 6 * M.2.2.1 = Bs) :
    W p l e R s m args below meth c H locs cells slots Z (F0 m pc ls (st.map (am_v ad))) := by
  obtain ⟨rfl, x, hx0, hw8, hQ⟩ := h
  obtain ⟨hx, hb, hr, hml, hown, hts, hlk, het, hK, hDA, hA, hfl, hRl, hRf, hRc, hRs, hX1, hX2, hX3, hsta, hnc⟩ := id hC
  obtain ⟨is, ic, pl, ps, tx, hchk⟩ := am_exc_ok hx0
  unfold am_xchk at hchk
  simp only [Bool.and_eq_true, decide_eq_true_eq] at hchk
  obtain ⟨⟨⟨⟨⟨⟨⟨⟨⟨⟨⟨⟨⟨g1, g2⟩, g3⟩, g4⟩, g5⟩, g6⟩, g7⟩, g8⟩, g9⟩, g10⟩, g11⟩, g12⟩, g13⟩, g14⟩ := hchk
  subst g5
  rw [g1] at hown
  obtain ⟨sa, hstr⟩ := am_str (hts _ (am_in_t g12 rfl))
  have htab : c.exceptionTable.toList = [] := by rw [g2] at het; exact List.map_eq_nil_iff.mp het
  have hsz : ls.size = c.maxLocals := by rw [hml]; exact hL.2.1
  have h8 := am_catW (ad := ad) hw8
  have hl : l.stackTraces = false := by unfold Launch.stackTraces; rw [hfl]; decide
  intro T hT X
  obtain ⟨U, st, o, hrun, hend, hq⟩ := vx_throwS (rest := st.map (am_v ad)) (ls := ls) (names := am_sup) (own := "BranchedPast") (cls := am_xn x) (text := tx) (ik := ix) (is := is) (sa := sa) (A := A) (mc := cells + 1) (ms := slots + 6) (free := A) (Qc := fun _ _ _ _ => False) (XC := fun E _ t => E = am_xn x ∧ H.size ≤ t.heap.size ∧ ∀ q : Nat, q < H.size → t.heap[q]? = H[q]?)
    hx hb hl hown g13 (fun n hn => List.all_eq_true.mp g14 n hn) (hts _ (am_in_t g10 rfl)) (hts _ (am_in_t g11 rfl)) hstr (fun w hw => hts w (am_at g4 w hw).1)
    (fun w hw => by
      rcases List.mem_cons.mp hw with rfl | hw
      · rfl
      · rcases List.mem_cons.mp hw with rfl | hw
        · rfl
        · exact (am_at g4 w hw).2)
    hsta.1 hsta.2 hS hsz hd g6 g7 g8 g9 (fun z hz => by rw [htab] at hz; cases hz) (by show 2 + 3 < R.frames; omega) (by show _ + (13 * (2 + 1) + 43) ≤ R.locals; omega) (by omega) (by omega) hlk (fun t _ h1 h2 => ⟨rfl, h1, h2⟩) hS.2.2 (Nat.le_refl _) (Nat.le_refl _) T hT X
  rcases hq with ⟨hf, -⟩ | ⟨q, rfl, E, ce, L9, ⟨rfl, f1, f2⟩, hce, hv, hcl, hW, hsame, hfr⟩
  · exact hf.elim
  · refine ⟨U, st, hE.2.2 x q M U L9 hrun hend ⟨ce, hce, hv, hcl⟩ hQ rfl (hP.kept (fun j z hz => f2 _ (hP j z hz).lt)) ⟨Nat.le_trans hS.1 f1, fun z hz hn => ?_, hfr⟩ hW (by omega) (hsame.mono (by omega) (by omega))⟩
    rw [f2 z (Nat.lt_of_lt_of_le hz hS.1)]
    exact hS.2.1 z hz hn
theorem am_right (l : Launch) : am_Cl (am_X l) := by
  intro k pc L st M Q i len hd h D ad cA A p e R s m args below meth c Bc Bs Z H locs cells slots ls hC hE hL hP hS hb1 hb2
  by_cases h1 : ∃ ix, i = .invokevirtual ix
  · obtain ⟨ix, rfl⟩ := h1
    exact am_right_v hd h hC hE hL hP hS hb1 hb2
  · by_cases h2 : ∃ ix, i = .invokestatic ix
    · obtain ⟨ix, rfl⟩ := h2
      exact am_right_s hd h hC hE hL hP hS hb1 hb2
    · by_cases h3 : ∃ ix, i = .new ix
      · obtain ⟨ix, rfl⟩ := h3
        exact am_right_n hd h hC hE hL hP hS hb1 hb2
      · exact am_right_simple hd h (fun ix z => h1 ⟨ix, z⟩) (fun ix z => h2 ⟨ix, z⟩) (fun ix z => h3 ⟨ix, z⟩) hC hE hL hP hS hb1 hb2
/-- what the abstract machine ends, the real one ends -/
theorem am_go {l : Launch} (h : am_W k pc L st M Q) : am_X l k pc L st M Q := h _ (am_right l)
end AMZ
end
section
/-! printed: each instruction -/
theorem d0_0 : decode (am_bytes 0) 0 = .ok (.aload_n 0, 1) := by decide +kernel
theorem d0_1 : decode (am_bytes 0) 1 = .ok (.iload_n 1, 1) := by decide +kernel
theorem d0_2 : decode (am_bytes 0) 2 = .ok (.invokevirtual 50, 3) := by decide +kernel
theorem d0_5 : decode (am_bytes 0) 5 = .ok (.aload_n 0, 1) := by decide +kernel
theorem d0_6 : decode (am_bytes 0) 6 = .ok (.iload_n 1, 1) := by decide +kernel
theorem d0_7 : decode (am_bytes 0) 7 = .ok (.iload_n 2, 1) := by decide +kernel
theorem d0_8 : decode (am_bytes 0) 8 = .ok (.invokevirtual 54, 3) := by decide +kernel
theorem d0_11 : decode (am_bytes 0) 11 = .ok (.aload_n 0, 1) := by decide +kernel
theorem d0_12 : decode (am_bytes 0) 12 = .ok (.getfield 12, 3) := by decide +kernel
theorem d0_15 : decode (am_bytes 0) 15 = .ok (.getfield 58, 3) := by decide +kernel
theorem d0_18 : decode (am_bytes 0) 18 = .ok (.bipush 6, 2) := by decide +kernel
theorem d0_20 : decode (am_bytes 0) 20 = .ok (.if_icmp .ne 13, 3) := by decide +kernel
theorem d0_23 : decode (am_bytes 0) 23 = .ok (.new 61, 3) := by decide +kernel
theorem d0_26 : decode (am_bytes 0) 26 = .ok (.dup, 1) := by decide +kernel
theorem d0_33 : decode (am_bytes 0) 33 = .ok (.aload_n 0, 1) := by decide +kernel
theorem d0_34 : decode (am_bytes 0) 34 = .ok (.getfield 12, 3) := by decide +kernel
theorem d0_37 : decode (am_bytes 0) 37 = .ok (.iload_n 1, 1) := by decide +kernel
theorem d0_38 : decode (am_bytes 0) 38 = .ok (.iload_n 2, 1) := by decide +kernel
theorem d0_39 : decode (am_bytes 0) 39 = .ok (.invokevirtual 68, 3) := by decide +kernel
theorem d0_42 : decode (am_bytes 0) 42 = .ok (.ireturn, 1) := by decide +kernel
theorem d1_0 : decode (am_bytes 1) 0 = .ok (.aload_n 0, 1) := by decide +kernel
theorem d1_1 : decode (am_bytes 1) 1 = .ok (.iload_n 1, 1) := by decide +kernel
theorem d1_2 : decode (am_bytes 1) 2 = .ok (.invokevirtual 50, 3) := by decide +kernel
theorem d1_5 : decode (am_bytes 1) 5 = .ok (.aload_n 0, 1) := by decide +kernel
theorem d1_6 : decode (am_bytes 1) 6 = .ok (.iload_n 1, 1) := by decide +kernel
theorem d1_7 : decode (am_bytes 1) 7 = .ok (.invokevirtual 72, 3) := by decide +kernel
theorem d1_10 : decode (am_bytes 1) 10 = .ok (.aload_n 0, 1) := by decide +kernel
theorem d1_11 : decode (am_bytes 1) 11 = .ok (.getfield 12, 3) := by decide +kernel
theorem d1_14 : decode (am_bytes 1) 14 = .ok (.invokevirtual 75, 3) := by decide +kernel
theorem d1_17 : decode (am_bytes 1) 17 = .ok (.iconst 1, 1) := by decide +kernel
theorem d1_18 : decode (am_bytes 1) 18 = .ok (.if_icmp .ne 13, 3) := by decide +kernel
theorem d1_21 : decode (am_bytes 1) 21 = .ok (.new 61, 3) := by decide +kernel
theorem d1_24 : decode (am_bytes 1) 24 = .ok (.dup, 1) := by decide +kernel
theorem d1_31 : decode (am_bytes 1) 31 = .ok (.aload_n 0, 1) := by decide +kernel
theorem d1_32 : decode (am_bytes 1) 32 = .ok (.getfield 12, 3) := by decide +kernel
theorem d1_35 : decode (am_bytes 1) 35 = .ok (.getfield 81, 3) := by decide +kernel
theorem d1_38 : decode (am_bytes 1) 38 = .ok (.iload_n 1, 1) := by decide +kernel
theorem d1_39 : decode (am_bytes 1) 39 = .ok (.iconst 0, 1) := by decide +kernel
theorem d1_40 : decode (am_bytes 1) 40 = .ok (.bastore, 1) := by decide +kernel
theorem d1_41 : decode (am_bytes 1) 41 = .ok (.return_, 1) := by decide +kernel
theorem d2_0 : decode (am_bytes 2) 0 = .ok (.aload_n 0, 1) := by decide +kernel
theorem d2_1 : decode (am_bytes 2) 1 = .ok (.iload_n 1, 1) := by decide +kernel
theorem d2_2 : decode (am_bytes 2) 2 = .ok (.invokevirtual 50, 3) := by decide +kernel
theorem d2_5 : decode (am_bytes 2) 5 = .ok (.iload_n 2, 1) := by decide +kernel
theorem d2_6 : decode (am_bytes 2) 6 = .ok (.invokestatic 85, 3) := by decide +kernel
theorem d2_9 : decode (am_bytes 2) 9 = .ok (.iload_n 3, 1) := by decide +kernel
theorem d2_10 : decode (am_bytes 2) 10 = .ok (.invokestatic 88, 3) := by decide +kernel
theorem d2_13 : decode (am_bytes 2) 13 = .ok (.iload 4, 2) := by decide +kernel
theorem d2_15 : decode (am_bytes 2) 15 = .ok (.iload 5, 2) := by decide +kernel
theorem d2_17 : decode (am_bytes 2) 17 = .ok (.invokestatic 91, 3) := by decide +kernel
theorem d2_20 : decode (am_bytes 2) 20 = .ok (.ifCond .ne 13, 3) := by decide +kernel
theorem d2_23 : decode (am_bytes 2) 23 = .ok (.new 95, 3) := by decide +kernel
theorem d2_26 : decode (am_bytes 2) 26 = .ok (.dup, 1) := by decide +kernel
theorem d2_33 : decode (am_bytes 2) 33 = .ok (.aload_n 0, 1) := by decide +kernel
theorem d2_34 : decode (am_bytes 2) 34 = .ok (.iload_n 1, 1) := by decide +kernel
theorem d2_35 : decode (am_bytes 2) 35 = .ok (.invokevirtual 72, 3) := by decide +kernel
theorem d2_38 : decode (am_bytes 2) 38 = .ok (.aload_n 0, 1) := by decide +kernel
theorem d2_39 : decode (am_bytes 2) 39 = .ok (.iconst 1, 1) := by decide +kernel
theorem d2_40 : decode (am_bytes 2) 40 = .ok (.invokevirtual 100, 3) := by decide +kernel
theorem d2_43 : decode (am_bytes 2) 43 = .ok (.aload_n 0, 1) := by decide +kernel
theorem d2_44 : decode (am_bytes 2) 44 = .ok (.iload_n 1, 1) := by decide +kernel
theorem d2_45 : decode (am_bytes 2) 45 = .ok (.iload_n 2, 1) := by decide +kernel
theorem d2_46 : decode (am_bytes 2) 46 = .ok (.iload_n 3, 1) := by decide +kernel
theorem d2_47 : decode (am_bytes 2) 47 = .ok (.invokestatic 103, 3) := by decide +kernel
theorem d2_50 : decode (am_bytes 2) 50 = .ok (.iload 4, 2) := by decide +kernel
theorem d2_52 : decode (am_bytes 2) 52 = .ok (.iload 4, 2) := by decide +kernel
theorem d2_54 : decode (am_bytes 2) 54 = .ok (.ifCond .ne 7, 3) := by decide +kernel
theorem d2_57 : decode (am_bytes 2) 57 = .ok (.iconst 0, 1) := by decide +kernel
theorem d2_58 : decode (am_bytes 2) 58 = .ok (.goto 5, 3) := by decide +kernel
theorem d2_61 : decode (am_bytes 2) 61 = .ok (.iload 5, 2) := by decide +kernel
theorem d2_63 : decode (am_bytes 2) 63 = .ok (.invokevirtual 106, 3) := by decide +kernel
theorem d2_66 : decode (am_bytes 2) 66 = .ok (.aload_n 0, 1) := by decide +kernel
theorem d2_67 : decode (am_bytes 2) 67 = .ok (.getfield 43, 3) := by decide +kernel
theorem d2_70 : decode (am_bytes 2) 70 = .ok (.ireturn, 1) := by decide +kernel
theorem d3_0 : decode (am_bytes 3) 0 = .ok (.aload_n 0, 1) := by decide +kernel
theorem d3_1 : decode (am_bytes 3) 1 = .ok (.iload_n 1, 1) := by decide +kernel
theorem d3_2 : decode (am_bytes 3) 2 = .ok (.invokevirtual 50, 3) := by decide +kernel
theorem d3_5 : decode (am_bytes 3) 5 = .ok (.iload_n 3, 1) := by decide +kernel
theorem d3_6 : decode (am_bytes 3) 6 = .ok (.invokestatic 85, 3) := by decide +kernel
theorem d3_9 : decode (am_bytes 3) 9 = .ok (.iload 4, 2) := by decide +kernel
theorem d3_11 : decode (am_bytes 3) 11 = .ok (.invokestatic 88, 3) := by decide +kernel
theorem d3_14 : decode (am_bytes 3) 14 = .ok (.aload_n 0, 1) := by decide +kernel
theorem d3_15 : decode (am_bytes 3) 15 = .ok (.iload_n 1, 1) := by decide +kernel
theorem d3_16 : decode (am_bytes 3) 16 = .ok (.iload_n 2, 1) := by decide +kernel
theorem d3_17 : decode (am_bytes 3) 17 = .ok (.invokevirtual 54, 3) := by decide +kernel
theorem d3_20 : decode (am_bytes 3) 20 = .ok (.iload 5, 2) := by decide +kernel
theorem d3_22 : decode (am_bytes 3) 22 = .ok (.iconst 2, 1) := by decide +kernel
theorem d3_23 : decode (am_bytes 3) 23 = .ok (.invokestatic 110, 3) := by decide +kernel
theorem d3_26 : decode (am_bytes 3) 26 = .ok (.aload_n 0, 1) := by decide +kernel
theorem d3_27 : decode (am_bytes 3) 27 = .ok (.aload_n 0, 1) := by decide +kernel
theorem d3_28 : decode (am_bytes 3) 28 = .ok (.getfield 26, 3) := by decide +kernel
theorem d3_31 : decode (am_bytes 3) 31 = .ok (.iload_n 1, 1) := by decide +kernel
theorem d3_32 : decode (am_bytes 3) 32 = .ok (.iload_n 2, 1) := by decide +kernel
theorem d3_33 : decode (am_bytes 3) 33 = .ok (.invokevirtual 113, 3) := by decide +kernel
theorem d3_36 : decode (am_bytes 3) 36 = .ok (.iload_n 3, 1) := by decide +kernel
theorem d3_37 : decode (am_bytes 3) 37 = .ok (.iload 4, 2) := by decide +kernel
theorem d3_39 : decode (am_bytes 3) 39 = .ok (.invokestatic 103, 3) := by decide +kernel
theorem d3_42 : decode (am_bytes 3) 42 = .ok (.istore 6, 2) := by decide +kernel
theorem d3_44 : decode (am_bytes 3) 44 = .ok (.iload 5, 2) := by decide +kernel
theorem d3_46 : decode (am_bytes 3) 46 = .ok (.ifCond .ne 14, 3) := by decide +kernel
theorem d3_49 : decode (am_bytes 3) 49 = .ok (.aload_n 0, 1) := by decide +kernel
theorem d3_50 : decode (am_bytes 3) 50 = .ok (.getfield 26, 3) := by decide +kernel
theorem d3_53 : decode (am_bytes 3) 53 = .ok (.getfield 117, 3) := by decide +kernel
theorem d3_56 : decode (am_bytes 3) 56 = .ok (.iload 6, 2) := by decide +kernel
theorem d3_58 : decode (am_bytes 3) 58 = .ok (.iaload, 1) := by decide +kernel
theorem d3_59 : decode (am_bytes 3) 59 = .ok (.ireturn, 1) := by decide +kernel
theorem d3_60 : decode (am_bytes 3) 60 = .ok (.iload 5, 2) := by decide +kernel
theorem d3_62 : decode (am_bytes 3) 62 = .ok (.iconst 1, 1) := by decide +kernel
theorem d3_63 : decode (am_bytes 3) 63 = .ok (.if_icmp .ne 16, 3) := by decide +kernel
theorem d3_66 : decode (am_bytes 3) 66 = .ok (.aload_n 0, 1) := by decide +kernel
theorem d3_67 : decode (am_bytes 3) 67 = .ok (.getfield 26, 3) := by decide +kernel
theorem d3_70 : decode (am_bytes 3) 70 = .ok (.getfield 121, 3) := by decide +kernel
theorem d3_73 : decode (am_bytes 3) 73 = .ok (.iload 6, 2) := by decide +kernel
theorem d3_75 : decode (am_bytes 3) 75 = .ok (.iaload, 1) := by decide +kernel
theorem d3_76 : decode (am_bytes 3) 76 = .ok (.goto 13, 3) := by decide +kernel
theorem d3_79 : decode (am_bytes 3) 79 = .ok (.aload_n 0, 1) := by decide +kernel
theorem d3_80 : decode (am_bytes 3) 80 = .ok (.getfield 26, 3) := by decide +kernel
theorem d3_83 : decode (am_bytes 3) 83 = .ok (.getfield 124, 3) := by decide +kernel
theorem d3_86 : decode (am_bytes 3) 86 = .ok (.iload 6, 2) := by decide +kernel
theorem d3_88 : decode (am_bytes 3) 88 = .ok (.iaload, 1) := by decide +kernel
theorem d3_89 : decode (am_bytes 3) 89 = .ok (.ireturn, 1) := by decide +kernel
theorem d4_0 : decode (am_bytes 4) 0 = .ok (.aload_n 0, 1) := by decide +kernel
theorem d4_1 : decode (am_bytes 4) 1 = .ok (.iload_n 1, 1) := by decide +kernel
theorem d4_2 : decode (am_bytes 4) 2 = .ok (.invokevirtual 50, 3) := by decide +kernel
theorem d4_5 : decode (am_bytes 4) 5 = .ok (.iload_n 2, 1) := by decide +kernel
theorem d4_6 : decode (am_bytes 4) 6 = .ok (.invokestatic 85, 3) := by decide +kernel
theorem d4_9 : decode (am_bytes 4) 9 = .ok (.iload_n 3, 1) := by decide +kernel
theorem d4_10 : decode (am_bytes 4) 10 = .ok (.invokestatic 88, 3) := by decide +kernel
theorem d4_13 : decode (am_bytes 4) 13 = .ok (.aload_n 0, 1) := by decide +kernel
theorem d4_14 : decode (am_bytes 4) 14 = .ok (.getfield 19, 3) := by decide +kernel
theorem d4_17 : decode (am_bytes 4) 17 = .ok (.invokevirtual 127, 3) := by decide +kernel
theorem d4_20 : decode (am_bytes 4) 20 = .ok (.aload_n 0, 1) := by decide +kernel
theorem d4_21 : decode (am_bytes 4) 21 = .ok (.iload_n 1, 1) := by decide +kernel
theorem d4_22 : decode (am_bytes 4) 22 = .ok (.invokevirtual 130, 3) := by decide +kernel
theorem d4_25 : decode (am_bytes 4) 25 = .ok (.aload_n 0, 1) := by decide +kernel
theorem d4_26 : decode (am_bytes 4) 26 = .ok (.getfield 19, 3) := by decide +kernel
theorem d4_29 : decode (am_bytes 4) 29 = .ok (.iload_n 2, 1) := by decide +kernel
theorem d4_30 : decode (am_bytes 4) 30 = .ok (.iload_n 3, 1) := by decide +kernel
theorem d4_31 : decode (am_bytes 4) 31 = .ok (.invokestatic 103, 3) := by decide +kernel
theorem d4_34 : decode (am_bytes 4) 34 = .ok (.iload 4, 2) := by decide +kernel
theorem d4_36 : decode (am_bytes 4) 36 = .ok (.invokevirtual 133, 3) := by decide +kernel
theorem d4_39 : decode (am_bytes 4) 39 = .ok (.ireturn, 1) := by decide +kernel
theorem d5_0 : decode (am_bytes 5) 0 = .ok (.aload_n 0, 1) := by decide +kernel
theorem d5_1 : decode (am_bytes 5) 1 = .ok (.iload_n 1, 1) := by decide +kernel
theorem d5_2 : decode (am_bytes 5) 2 = .ok (.invokevirtual 50, 3) := by decide +kernel
theorem d5_5 : decode (am_bytes 5) 5 = .ok (.aload_n 0, 1) := by decide +kernel
theorem d5_6 : decode (am_bytes 5) 6 = .ok (.iload_n 2, 1) := by decide +kernel
theorem d5_7 : decode (am_bytes 5) 7 = .ok (.invokevirtual 50, 3) := by decide +kernel
theorem d5_10 : decode (am_bytes 5) 10 = .ok (.aload_n 0, 1) := by decide +kernel
theorem d5_11 : decode (am_bytes 5) 11 = .ok (.iload_n 1, 1) := by decide +kernel
theorem d5_12 : decode (am_bytes 5) 12 = .ok (.invokevirtual 72, 3) := by decide +kernel
theorem d5_15 : decode (am_bytes 5) 15 = .ok (.aload_n 0, 1) := by decide +kernel
theorem d5_16 : decode (am_bytes 5) 16 = .ok (.iload_n 2, 1) := by decide +kernel
theorem d5_17 : decode (am_bytes 5) 17 = .ok (.invokevirtual 72, 3) := by decide +kernel
theorem d5_20 : decode (am_bytes 5) 20 = .ok (.aload_n 0, 1) := by decide +kernel
theorem d5_21 : decode (am_bytes 5) 21 = .ok (.aload_n 0, 1) := by decide +kernel
theorem d5_22 : decode (am_bytes 5) 22 = .ok (.getfield 26, 3) := by decide +kernel
theorem d5_25 : decode (am_bytes 5) 25 = .ok (.iload_n 1, 1) := by decide +kernel
theorem d5_26 : decode (am_bytes 5) 26 = .ok (.aload_n 0, 1) := by decide +kernel
theorem d5_27 : decode (am_bytes 5) 27 = .ok (.getfield 43, 3) := by decide +kernel
theorem d5_30 : decode (am_bytes 5) 30 = .ok (.invokevirtual 113, 3) := by decide +kernel
theorem d5_33 : decode (am_bytes 5) 33 = .ok (.aload_n 0, 1) := by decide +kernel
theorem d5_34 : decode (am_bytes 5) 34 = .ok (.aload_n 0, 1) := by decide +kernel
theorem d5_35 : decode (am_bytes 5) 35 = .ok (.getfield 30, 3) := by decide +kernel
theorem d5_38 : decode (am_bytes 5) 38 = .ok (.iload_n 2, 1) := by decide +kernel
theorem d5_39 : decode (am_bytes 5) 39 = .ok (.aload_n 0, 1) := by decide +kernel
theorem d5_40 : decode (am_bytes 5) 40 = .ok (.getfield 43, 3) := by decide +kernel
theorem d5_43 : decode (am_bytes 5) 43 = .ok (.invokevirtual 113, 3) := by decide +kernel
theorem d5_46 : decode (am_bytes 5) 46 = .ok (.iconst 0, 1) := by decide +kernel
theorem d5_47 : decode (am_bytes 5) 47 = .ok (.istore 4, 2) := by decide +kernel
theorem d5_49 : decode (am_bytes 5) 49 = .ok (.iconst 0, 1) := by decide +kernel
theorem d5_50 : decode (am_bytes 5) 50 = .ok (.istore 5, 2) := by decide +kernel
theorem d5_52 : decode (am_bytes 5) 52 = .ok (.iload 5, 2) := by decide +kernel
theorem d5_54 : decode (am_bytes 5) 54 = .ok (.bipush 48, 2) := by decide +kernel
theorem d5_56 : decode (am_bytes 5) 56 = .ok (.if_icmp .ge 37, 3) := by decide +kernel
theorem d5_59 : decode (am_bytes 5) 59 = .ok (.aload_n 0, 1) := by decide +kernel
theorem d5_60 : decode (am_bytes 5) 60 = .ok (.getfield 26, 3) := by decide +kernel
theorem d5_63 : decode (am_bytes 5) 63 = .ok (.aload_n 0, 1) := by decide +kernel
theorem d5_64 : decode (am_bytes 5) 64 = .ok (.getfield 30, 3) := by decide +kernel
theorem d5_67 : decode (am_bytes 5) 67 = .ok (.iload 5, 2) := by decide +kernel
theorem d5_69 : decode (am_bytes 5) 69 = .ok (.invokevirtual 136, 3) := by decide +kernel
theorem d5_72 : decode (am_bytes 5) 72 = .ok (.ifCond .ne 15, 3) := by decide +kernel
theorem d5_75 : decode (am_bytes 5) 75 = .ok (.iload 4, 2) := by decide +kernel
theorem d5_77 : decode (am_bytes 5) 77 = .ok (.iload_n 3, 1) := by decide +kernel
theorem d5_78 : decode (am_bytes 5) 78 = .ok (.if_icmp .ne 6, 3) := by decide +kernel
theorem d5_81 : decode (am_bytes 5) 81 = .ok (.iload 5, 2) := by decide +kernel
theorem d5_83 : decode (am_bytes 5) 83 = .ok (.ireturn, 1) := by decide +kernel
theorem d5_84 : decode (am_bytes 5) 84 = .ok (.iinc 4 1, 3) := by decide +kernel
theorem d5_87 : decode (am_bytes 5) 87 = .ok (.iinc 5 1, 3) := by decide +kernel
theorem d5_90 : decode (am_bytes 5) 90 = .ok (.goto (-38), 3) := by decide +kernel
theorem d5_93 : decode (am_bytes 5) 93 = .ok (.iconst (-1), 1) := by decide +kernel
theorem d5_94 : decode (am_bytes 5) 94 = .ok (.ireturn, 1) := by decide +kernel
theorem d6_0 : decode (am_bytes 6) 0 = .ok (.aload_n 0, 1) := by decide +kernel
theorem d6_1 : decode (am_bytes 6) 1 = .ok (.iload_n 1, 1) := by decide +kernel
theorem d6_2 : decode (am_bytes 6) 2 = .ok (.invokevirtual 50, 3) := by decide +kernel
theorem d6_5 : decode (am_bytes 6) 5 = .ok (.aload_n 0, 1) := by decide +kernel
theorem d6_6 : decode (am_bytes 6) 6 = .ok (.iload_n 2, 1) := by decide +kernel
theorem d6_7 : decode (am_bytes 6) 7 = .ok (.invokevirtual 50, 3) := by decide +kernel
theorem d6_10 : decode (am_bytes 6) 10 = .ok (.aload_n 0, 1) := by decide +kernel
theorem d6_11 : decode (am_bytes 6) 11 = .ok (.getfield 12, 3) := by decide +kernel
theorem d6_14 : decode (am_bytes 6) 14 = .ok (.iload_n 1, 1) := by decide +kernel
theorem d6_15 : decode (am_bytes 6) 15 = .ok (.iload_n 2, 1) := by decide +kernel
theorem d6_16 : decode (am_bytes 6) 16 = .ok (.aload_n 0, 1) := by decide +kernel
theorem d6_17 : decode (am_bytes 6) 17 = .ok (.getfield 43, 3) := by decide +kernel
theorem d6_20 : decode (am_bytes 6) 20 = .ok (.invokevirtual 140, 3) := by decide +kernel
theorem d6_23 : decode (am_bytes 6) 23 = .ok (.ireturn, 1) := by decide +kernel
theorem d7_0 : decode (am_bytes 7) 0 = .ok (.aload_n 0, 1) := by decide +kernel
theorem d7_1 : decode (am_bytes 7) 1 = .ok (.iload_n 1, 1) := by decide +kernel
theorem d7_2 : decode (am_bytes 7) 2 = .ok (.invokevirtual 50, 3) := by decide +kernel
theorem d7_5 : decode (am_bytes 7) 5 = .ok (.aload_n 0, 1) := by decide +kernel
theorem d7_6 : decode (am_bytes 7) 6 = .ok (.iload_n 2, 1) := by decide +kernel
theorem d7_7 : decode (am_bytes 7) 7 = .ok (.invokevirtual 50, 3) := by decide +kernel
theorem d7_10 : decode (am_bytes 7) 10 = .ok (.iload_n 1, 1) := by decide +kernel
theorem d7_11 : decode (am_bytes 7) 11 = .ok (.iload_n 2, 1) := by decide +kernel
theorem d7_12 : decode (am_bytes 7) 12 = .ok (.if_icmp .ne 13, 3) := by decide +kernel
theorem d7_15 : decode (am_bytes 7) 15 = .ok (.new 95, 3) := by decide +kernel
theorem d7_18 : decode (am_bytes 7) 18 = .ok (.dup, 1) := by decide +kernel
theorem d7_25 : decode (am_bytes 7) 25 = .ok (.aload_n 0, 1) := by decide +kernel
theorem d7_26 : decode (am_bytes 7) 26 = .ok (.iload_n 1, 1) := by decide +kernel
theorem d7_27 : decode (am_bytes 7) 27 = .ok (.invokevirtual 72, 3) := by decide +kernel
theorem d7_30 : decode (am_bytes 7) 30 = .ok (.aload_n 0, 1) := by decide +kernel
theorem d7_31 : decode (am_bytes 7) 31 = .ok (.iload_n 2, 1) := by decide +kernel
theorem d7_32 : decode (am_bytes 7) 32 = .ok (.invokevirtual 72, 3) := by decide +kernel
theorem d7_35 : decode (am_bytes 7) 35 = .ok (.aload_n 0, 1) := by decide +kernel
theorem d7_36 : decode (am_bytes 7) 36 = .ok (.getfield 12, 3) := by decide +kernel
theorem d7_39 : decode (am_bytes 7) 39 = .ok (.iload_n 1, 1) := by decide +kernel
theorem d7_40 : decode (am_bytes 7) 40 = .ok (.iload_n 2, 1) := by decide +kernel
theorem d7_41 : decode (am_bytes 7) 41 = .ok (.aload_n 0, 1) := by decide +kernel
theorem d7_42 : decode (am_bytes 7) 42 = .ok (.getfield 43, 3) := by decide +kernel
theorem d7_45 : decode (am_bytes 7) 45 = .ok (.invokevirtual 140, 3) := by decide +kernel
theorem d7_48 : decode (am_bytes 7) 48 = .ok (.istore_n 3, 1) := by decide +kernel
theorem d7_49 : decode (am_bytes 7) 49 = .ok (.iload_n 3, 1) := by decide +kernel
theorem d7_50 : decode (am_bytes 7) 50 = .ok (.aload_n 0, 1) := by decide +kernel
theorem d7_51 : decode (am_bytes 7) 51 = .ok (.getfield 47, 3) := by decide +kernel
theorem d7_54 : decode (am_bytes 7) 54 = .ok (.if_icmp .ge 13, 3) := by decide +kernel
theorem d7_57 : decode (am_bytes 7) 57 = .ok (.new 61, 3) := by decide +kernel
theorem d7_60 : decode (am_bytes 7) 60 = .ok (.dup, 1) := by decide +kernel
theorem d7_67 : decode (am_bytes 7) 67 = .ok (.aload_n 0, 1) := by decide +kernel
theorem d7_68 : decode (am_bytes 7) 68 = .ok (.aload_n 0, 1) := by decide +kernel
theorem d7_69 : decode (am_bytes 7) 69 = .ok (.getfield 26, 3) := by decide +kernel
theorem d7_72 : decode (am_bytes 7) 72 = .ok (.iload_n 1, 1) := by decide +kernel
theorem d7_73 : decode (am_bytes 7) 73 = .ok (.aload_n 0, 1) := by decide +kernel
theorem d7_74 : decode (am_bytes 7) 74 = .ok (.getfield 43, 3) := by decide +kernel
theorem d7_77 : decode (am_bytes 7) 77 = .ok (.invokevirtual 113, 3) := by decide +kernel
theorem d7_80 : decode (am_bytes 7) 80 = .ok (.aload_n 0, 1) := by decide +kernel
theorem d7_81 : decode (am_bytes 7) 81 = .ok (.aload_n 0, 1) := by decide +kernel
theorem d7_82 : decode (am_bytes 7) 82 = .ok (.getfield 30, 3) := by decide +kernel
theorem d7_85 : decode (am_bytes 7) 85 = .ok (.iload_n 2, 1) := by decide +kernel
theorem d7_86 : decode (am_bytes 7) 86 = .ok (.aload_n 0, 1) := by decide +kernel
theorem d7_87 : decode (am_bytes 7) 87 = .ok (.getfield 43, 3) := by decide +kernel
theorem d7_90 : decode (am_bytes 7) 90 = .ok (.invokevirtual 113, 3) := by decide +kernel
theorem d7_93 : decode (am_bytes 7) 93 = .ok (.aload_n 0, 1) := by decide +kernel
theorem d7_94 : decode (am_bytes 7) 94 = .ok (.aload_n 0, 1) := by decide +kernel
theorem d7_95 : decode (am_bytes 7) 95 = .ok (.getfield 33, 3) := by decide +kernel
theorem d7_98 : decode (am_bytes 7) 98 = .ok (.iload_n 1, 1) := by decide +kernel
theorem d7_99 : decode (am_bytes 7) 99 = .ok (.iload_n 3, 1) := by decide +kernel
theorem d7_100 : decode (am_bytes 7) 100 = .ok (.invokevirtual 113, 3) := by decide +kernel
theorem d7_103 : decode (am_bytes 7) 103 = .ok (.aload_n 0, 1) := by decide +kernel
theorem d7_104 : decode (am_bytes 7) 104 = .ok (.invokevirtual 148, 3) := by decide +kernel
theorem d7_107 : decode (am_bytes 7) 107 = .ok (.istore 4, 2) := by decide +kernel
theorem d7_109 : decode (am_bytes 7) 109 = .ok (.iload 4, 2) := by decide +kernel
theorem d7_111 : decode (am_bytes 7) 111 = .ok (.ifCond .ne 16, 3) := by decide +kernel
theorem d7_114 : decode (am_bytes 7) 114 = .ok (.aload_n 0, 1) := by decide +kernel
theorem d7_115 : decode (am_bytes 7) 115 = .ok (.aload_n 0, 1) := by decide +kernel
theorem d7_116 : decode (am_bytes 7) 116 = .ok (.invokevirtual 151, 3) := by decide +kernel
theorem d7_119 : decode (am_bytes 7) 119 = .ok (.invokevirtual 100, 3) := by decide +kernel
theorem d7_122 : decode (am_bytes 7) 122 = .ok (.aload_n 0, 1) := by decide +kernel
theorem d7_123 : decode (am_bytes 7) 123 = .ok (.iload_n 2, 1) := by decide +kernel
theorem d7_124 : decode (am_bytes 7) 124 = .ok (.invokevirtual 154, 3) := by decide +kernel
theorem d7_127 : decode (am_bytes 7) 127 = .ok (.iload 4, 2) := by decide +kernel
theorem d7_129 : decode (am_bytes 7) 129 = .ok (.ireturn, 1) := by decide +kernel
theorem d8_0 : decode (am_bytes 8) 0 = .ok (.iload_n 1, 1) := by decide +kernel
theorem d8_1 : decode (am_bytes 8) 1 = .ok (.aload_n 0, 1) := by decide +kernel
theorem d8_2 : decode (am_bytes 8) 2 = .ok (.getfield 47, 3) := by decide +kernel
theorem d8_5 : decode (am_bytes 8) 5 = .ok (.if_icmp .lt 11, 3) := by decide +kernel
theorem d8_8 : decode (am_bytes 8) 8 = .ok (.iload_n 1, 1) := by decide +kernel
theorem d8_9 : decode (am_bytes 8) 9 = .ok (.aload_n 0, 1) := by decide +kernel
theorem d8_10 : decode (am_bytes 8) 10 = .ok (.getfield 43, 3) := by decide +kernel
theorem d8_13 : decode (am_bytes 8) 13 = .ok (.if_icmp .le 13, 3) := by decide +kernel
theorem d8_16 : decode (am_bytes 8) 16 = .ok (.new 95, 3) := by decide +kernel
theorem d8_19 : decode (am_bytes 8) 19 = .ok (.dup, 1) := by decide +kernel
theorem d8_26 : decode (am_bytes 8) 26 = .ok (.aload_n 0, 1) := by decide +kernel
theorem d8_27 : decode (am_bytes 8) 27 = .ok (.iload_n 1, 1) := by decide +kernel
theorem d8_28 : decode (am_bytes 8) 28 = .ok (.putfield 47, 3) := by decide +kernel
theorem d8_31 : decode (am_bytes 8) 31 = .ok (.aload_n 0, 1) := by decide +kernel
theorem d8_32 : decode (am_bytes 8) 32 = .ok (.getfield 19, 3) := by decide +kernel
theorem d8_35 : decode (am_bytes 8) 35 = .ok (.invokevirtual 127, 3) := by decide +kernel
theorem d8_38 : decode (am_bytes 8) 38 = .ok (.iconst 0, 1) := by decide +kernel
theorem d8_39 : decode (am_bytes 8) 39 = .ok (.istore_n 2, 1) := by decide +kernel
theorem d8_40 : decode (am_bytes 8) 40 = .ok (.iload_n 2, 1) := by decide +kernel
theorem d8_41 : decode (am_bytes 8) 41 = .ok (.aload_n 0, 1) := by decide +kernel
theorem d8_42 : decode (am_bytes 8) 42 = .ok (.getfield 12, 3) := by decide +kernel
theorem d8_45 : decode (am_bytes 8) 45 = .ok (.getfield 58, 3) := by decide +kernel
theorem d8_48 : decode (am_bytes 8) 48 = .ok (.if_icmp .ge 14, 3) := by decide +kernel
theorem d8_51 : decode (am_bytes 8) 51 = .ok (.aload_n 0, 1) := by decide +kernel
theorem d8_52 : decode (am_bytes 8) 52 = .ok (.iload_n 2, 1) := by decide +kernel
theorem d8_53 : decode (am_bytes 8) 53 = .ok (.invokevirtual 130, 3) := by decide +kernel
theorem d8_56 : decode (am_bytes 8) 56 = .ok (.iinc 2 1, 3) := by decide +kernel
theorem d8_59 : decode (am_bytes 8) 59 = .ok (.goto (-19), 3) := by decide +kernel
theorem d8_62 : decode (am_bytes 8) 62 = .ok (.aload_n 0, 1) := by decide +kernel
theorem d8_63 : decode (am_bytes 8) 63 = .ok (.getfield 19, 3) := by decide +kernel
theorem d8_66 : decode (am_bytes 8) 66 = .ok (.invokevirtual 159, 3) := by decide +kernel
theorem d8_69 : decode (am_bytes 8) 69 = .ok (.ireturn, 1) := by decide +kernel
theorem d9_0 : decode (am_bytes 9) 0 = .ok (.aload_n 0, 1) := by decide +kernel
theorem d9_1 : decode (am_bytes 9) 1 = .ok (.iload_n 1, 1) := by decide +kernel
theorem d9_2 : decode (am_bytes 9) 2 = .ok (.invokevirtual 50, 3) := by decide +kernel
theorem d9_5 : decode (am_bytes 9) 5 = .ok (.iload_n 3, 1) := by decide +kernel
theorem d9_6 : decode (am_bytes 9) 6 = .ok (.invokestatic 85, 3) := by decide +kernel
theorem d9_9 : decode (am_bytes 9) 9 = .ok (.aload_n 0, 1) := by decide +kernel
theorem d9_10 : decode (am_bytes 9) 10 = .ok (.iload_n 1, 1) := by decide +kernel
theorem d9_11 : decode (am_bytes 9) 11 = .ok (.iload_n 2, 1) := by decide +kernel
theorem d9_12 : decode (am_bytes 9) 12 = .ok (.invokevirtual 54, 3) := by decide +kernel
theorem d9_15 : decode (am_bytes 9) 15 = .ok (.aload_n 0, 1) := by decide +kernel
theorem d9_16 : decode (am_bytes 9) 16 = .ok (.aload_n 0, 1) := by decide +kernel
theorem d9_17 : decode (am_bytes 9) 17 = .ok (.getfield 26, 3) := by decide +kernel
theorem d9_20 : decode (am_bytes 9) 20 = .ok (.iload_n 1, 1) := by decide +kernel
theorem d9_21 : decode (am_bytes 9) 21 = .ok (.iload_n 2, 1) := by decide +kernel
theorem d9_22 : decode (am_bytes 9) 22 = .ok (.invokevirtual 113, 3) := by decide +kernel
theorem d9_25 : decode (am_bytes 9) 25 = .ok (.aload_n 0, 1) := by decide +kernel
theorem d9_26 : decode (am_bytes 9) 26 = .ok (.getfield 26, 3) := by decide +kernel
theorem d9_29 : decode (am_bytes 9) 29 = .ok (.iconst 1, 1) := by decide +kernel
theorem d9_30 : decode (am_bytes 9) 30 = .ok (.iload_n 3, 1) := by decide +kernel
theorem d9_31 : decode (am_bytes 9) 31 = .ok (.ishl, 1) := by decide +kernel
theorem d9_32 : decode (am_bytes 9) 32 = .ok (.invokevirtual 162, 3) := by decide +kernel
theorem d9_35 : decode (am_bytes 9) 35 = .ok (.ireturn, 1) := by decide +kernel
theorem d10_0 : decode (am_bytes 10) 0 = .ok (.aload_n 0, 1) := by decide +kernel
theorem d10_1 : decode (am_bytes 10) 1 = .ok (.getfield 39, 3) := by decide +kernel
theorem d10_4 : decode (am_bytes 10) 4 = .ok (.iload_n 1, 1) := by decide +kernel
theorem d10_5 : decode (am_bytes 10) 5 = .ok (.invokevirtual 166, 3) := by decide +kernel
theorem d10_8 : decode (am_bytes 10) 8 = .ok (.ifCond .ne 13, 3) := by decide +kernel
theorem d10_11 : decode (am_bytes 10) 11 = .ok (.new 95, 3) := by decide +kernel
theorem d10_14 : decode (am_bytes 10) 14 = .ok (.dup, 1) := by decide +kernel
theorem d10_21 : decode (am_bytes 10) 21 = .ok (.aload_n 0, 1) := by decide +kernel
theorem d10_22 : decode (am_bytes 10) 22 = .ok (.getfield 39, 3) := by decide +kernel
theorem d10_25 : decode (am_bytes 10) 25 = .ok (.iload_n 1, 1) := by decide +kernel
theorem d10_26 : decode (am_bytes 10) 26 = .ok (.invokevirtual 172, 3) := by decide +kernel
theorem d10_29 : decode (am_bytes 10) 29 = .ok (.ifCond .ne 13, 3) := by decide +kernel
theorem d10_32 : decode (am_bytes 10) 32 = .ok (.new 61, 3) := by decide +kernel
theorem d10_35 : decode (am_bytes 10) 35 = .ok (.dup, 1) := by decide +kernel
theorem d10_42 : decode (am_bytes 10) 42 = .ok (.aload_n 0, 1) := by decide +kernel
theorem d10_43 : decode (am_bytes 10) 43 = .ok (.getfield 39, 3) := by decide +kernel
theorem d10_46 : decode (am_bytes 10) 46 = .ok (.iload_n 1, 1) := by decide +kernel
theorem d10_47 : decode (am_bytes 10) 47 = .ok (.invokevirtual 177, 3) := by decide +kernel
theorem d10_50 : decode (am_bytes 10) 50 = .ok (.ireturn, 1) := by decide +kernel
theorem d11_0 : decode (am_bytes 11) 0 = .ok (.aload_n 0, 1) := by decide +kernel
theorem d11_1 : decode (am_bytes 11) 1 = .ok (.getfield 39, 3) := by decide +kernel
theorem d11_4 : decode (am_bytes 11) 4 = .ok (.invokevirtual 179, 3) := by decide +kernel
theorem d11_7 : decode (am_bytes 11) 7 = .ok (.return_, 1) := by decide +kernel
theorem d12_0 : decode (am_bytes 12) 0 = .ok (.aload_n 0, 1) := by decide +kernel
theorem d12_1 : decode (am_bytes 12) 1 = .ok (.iload_n 1, 1) := by decide +kernel
theorem d12_2 : decode (am_bytes 12) 2 = .ok (.invokevirtual 50, 3) := by decide +kernel
theorem d12_5 : decode (am_bytes 12) 5 = .ok (.aload_n 0, 1) := by decide +kernel
theorem d12_6 : decode (am_bytes 12) 6 = .ok (.iload_n 1, 1) := by decide +kernel
theorem d12_7 : decode (am_bytes 12) 7 = .ok (.iload_n 2, 1) := by decide +kernel
theorem d12_8 : decode (am_bytes 12) 8 = .ok (.invokevirtual 54, 3) := by decide +kernel
theorem d12_11 : decode (am_bytes 12) 11 = .ok (.aload_n 0, 1) := by decide +kernel
theorem d12_12 : decode (am_bytes 12) 12 = .ok (.aload_n 0, 1) := by decide +kernel
theorem d12_13 : decode (am_bytes 12) 13 = .ok (.getfield 26, 3) := by decide +kernel
theorem d12_16 : decode (am_bytes 12) 16 = .ok (.iload_n 1, 1) := by decide +kernel
theorem d12_17 : decode (am_bytes 12) 17 = .ok (.iload_n 2, 1) := by decide +kernel
theorem d12_18 : decode (am_bytes 12) 18 = .ok (.invokevirtual 113, 3) := by decide +kernel
theorem d12_21 : decode (am_bytes 12) 21 = .ok (.aload_n 0, 1) := by decide +kernel
theorem d12_22 : decode (am_bytes 12) 22 = .ok (.getfield 39, 3) := by decide +kernel
theorem d12_25 : decode (am_bytes 12) 25 = .ok (.aload_n 0, 1) := by decide +kernel
theorem d12_26 : decode (am_bytes 12) 26 = .ok (.getfield 26, 3) := by decide +kernel
theorem d12_29 : decode (am_bytes 12) 29 = .ok (.invokevirtual 182, 3) := by decide +kernel
theorem d12_32 : decode (am_bytes 12) 32 = .ok (.ireturn, 1) := by decide +kernel
theorem d13_0 : decode (am_bytes 13) 0 = .ok (.iload_n 1, 1) := by decide +kernel
theorem d13_1 : decode (am_bytes 13) 1 = .ok (.iconst 3, 1) := by decide +kernel
theorem d13_2 : decode (am_bytes 13) 2 = .ok (.invokestatic 110, 3) := by decide +kernel
theorem d13_5 : decode (am_bytes 13) 5 = .ok (.iload_n 1, 1) := by decide +kernel
theorem d13_6 : decode (am_bytes 13) 6 = .ok (.ifCond .ne 8, 3) := by decide +kernel
theorem d13_9 : decode (am_bytes 13) 9 = .ok (.aload_n 0, 1) := by decide +kernel
theorem d13_10 : decode (am_bytes 13) 10 = .ok (.getfield 43, 3) := by decide +kernel
theorem d13_13 : decode (am_bytes 13) 13 = .ok (.ireturn, 1) := by decide +kernel
theorem d13_14 : decode (am_bytes 13) 14 = .ok (.iload_n 1, 1) := by decide +kernel
theorem d13_15 : decode (am_bytes 13) 15 = .ok (.iconst 1, 1) := by decide +kernel
theorem d13_16 : decode (am_bytes 13) 16 = .ok (.if_icmp .ne 8, 3) := by decide +kernel
theorem d13_19 : decode (am_bytes 13) 19 = .ok (.aload_n 0, 1) := by decide +kernel
theorem d13_20 : decode (am_bytes 13) 20 = .ok (.getfield 47, 3) := by decide +kernel
theorem d13_23 : decode (am_bytes 13) 23 = .ok (.ireturn, 1) := by decide +kernel
theorem d13_24 : decode (am_bytes 13) 24 = .ok (.iload_n 1, 1) := by decide +kernel
theorem d13_25 : decode (am_bytes 13) 25 = .ok (.iconst 2, 1) := by decide +kernel
theorem d13_26 : decode (am_bytes 13) 26 = .ok (.if_icmp .ne 13, 3) := by decide +kernel
theorem d13_29 : decode (am_bytes 13) 29 = .ok (.aload_n 0, 1) := by decide +kernel
theorem d13_30 : decode (am_bytes 13) 30 = .ok (.getfield 19, 3) := by decide +kernel
theorem d13_33 : decode (am_bytes 13) 33 = .ok (.getfield 186, 3) := by decide +kernel
theorem d13_36 : decode (am_bytes 13) 36 = .ok (.goto 10, 3) := by decide +kernel
theorem d13_39 : decode (am_bytes 13) 39 = .ok (.aload_n 0, 1) := by decide +kernel
theorem d13_40 : decode (am_bytes 13) 40 = .ok (.getfield 12, 3) := by decide +kernel
theorem d13_43 : decode (am_bytes 13) 43 = .ok (.getfield 58, 3) := by decide +kernel
theorem d13_46 : decode (am_bytes 13) 46 = .ok (.ireturn, 1) := by decide +kernel
theorem d14_0 : decode (am_bytes 14) 0 = .ok (.aload_n 0, 1) := by decide +kernel
theorem d14_1 : decode (am_bytes 14) 1 = .ok (.iload_n 1, 1) := by decide +kernel
theorem d14_2 : decode (am_bytes 14) 2 = .ok (.invokevirtual 50, 3) := by decide +kernel
theorem d14_5 : decode (am_bytes 14) 5 = .ok (.iload_n 2, 1) := by decide +kernel
theorem d14_6 : decode (am_bytes 14) 6 = .ok (.iconst 3, 1) := by decide +kernel
theorem d14_7 : decode (am_bytes 14) 7 = .ok (.invokestatic 110, 3) := by decide +kernel
theorem d14_10 : decode (am_bytes 14) 10 = .ok (.iload_n 2, 1) := by decide +kernel
theorem d14_11 : decode (am_bytes 14) 11 = .ok (.ifCond .ne 21, 3) := by decide +kernel
theorem d14_14 : decode (am_bytes 14) 14 = .ok (.aload_n 0, 1) := by decide +kernel
theorem d14_15 : decode (am_bytes 14) 15 = .ok (.getfield 12, 3) := by decide +kernel
theorem d14_18 : decode (am_bytes 14) 18 = .ok (.getfield 81, 3) := by decide +kernel
theorem d14_21 : decode (am_bytes 14) 21 = .ok (.iload_n 1, 1) := by decide +kernel
theorem d14_22 : decode (am_bytes 14) 22 = .ok (.baload, 1) := by decide +kernel
theorem d14_23 : decode (am_bytes 14) 23 = .ok (.ifCond .eq 7, 3) := by decide +kernel
theorem d14_26 : decode (am_bytes 14) 26 = .ok (.iconst 1, 1) := by decide +kernel
theorem d14_27 : decode (am_bytes 14) 27 = .ok (.goto 4, 3) := by decide +kernel
theorem d14_30 : decode (am_bytes 14) 30 = .ok (.iconst 0, 1) := by decide +kernel
theorem d14_31 : decode (am_bytes 14) 31 = .ok (.ireturn, 1) := by decide +kernel
theorem d14_32 : decode (am_bytes 14) 32 = .ok (.iload_n 2, 1) := by decide +kernel
theorem d14_33 : decode (am_bytes 14) 33 = .ok (.iconst 1, 1) := by decide +kernel
theorem d14_34 : decode (am_bytes 14) 34 = .ok (.if_icmp .ne 13, 3) := by decide +kernel
theorem d14_37 : decode (am_bytes 14) 37 = .ok (.aload_n 0, 1) := by decide +kernel
theorem d14_38 : decode (am_bytes 14) 38 = .ok (.getfield 12, 3) := by decide +kernel
theorem d14_41 : decode (am_bytes 14) 41 = .ok (.getfield 187, 3) := by decide +kernel
theorem d14_44 : decode (am_bytes 14) 44 = .ok (.iload_n 1, 1) := by decide +kernel
theorem d14_45 : decode (am_bytes 14) 45 = .ok (.iaload, 1) := by decide +kernel
theorem d14_46 : decode (am_bytes 14) 46 = .ok (.ireturn, 1) := by decide +kernel
theorem d14_47 : decode (am_bytes 14) 47 = .ok (.iload_n 2, 1) := by decide +kernel
theorem d14_48 : decode (am_bytes 14) 48 = .ok (.iconst 2, 1) := by decide +kernel
theorem d14_49 : decode (am_bytes 14) 49 = .ok (.if_icmp .ne 15, 3) := by decide +kernel
theorem d14_52 : decode (am_bytes 14) 52 = .ok (.aload_n 0, 1) := by decide +kernel
theorem d14_53 : decode (am_bytes 14) 53 = .ok (.getfield 12, 3) := by decide +kernel
theorem d14_56 : decode (am_bytes 14) 56 = .ok (.getfield 190, 3) := by decide +kernel
theorem d14_59 : decode (am_bytes 14) 59 = .ok (.iload_n 1, 1) := by decide +kernel
theorem d14_60 : decode (am_bytes 14) 60 = .ok (.iaload, 1) := by decide +kernel
theorem d14_61 : decode (am_bytes 14) 61 = .ok (.goto 11, 3) := by decide +kernel
theorem d14_64 : decode (am_bytes 14) 64 = .ok (.aload_n 0, 1) := by decide +kernel
theorem d14_65 : decode (am_bytes 14) 65 = .ok (.getfield 19, 3) := by decide +kernel
theorem d14_68 : decode (am_bytes 14) 68 = .ok (.iload_n 1, 1) := by decide +kernel
theorem d14_69 : decode (am_bytes 14) 69 = .ok (.invokevirtual 193, 3) := by decide +kernel
theorem d14_72 : decode (am_bytes 14) 72 = .ok (.ireturn, 1) := by decide +kernel
theorem d15_0 : decode (am_bytes 15) 0 = .ok (.iload_n 1, 1) := by decide +kernel
theorem d15_1 : decode (am_bytes 15) 1 = .ok (.ifCond .lt 14, 3) := by decide +kernel
theorem d15_4 : decode (am_bytes 15) 4 = .ok (.iload_n 1, 1) := by decide +kernel
theorem d15_5 : decode (am_bytes 15) 5 = .ok (.aload_n 0, 1) := by decide +kernel
theorem d15_6 : decode (am_bytes 15) 6 = .ok (.getfield 12, 3) := by decide +kernel
theorem d15_9 : decode (am_bytes 15) 9 = .ok (.getfield 58, 3) := by decide +kernel
theorem d15_12 : decode (am_bytes 15) 12 = .ok (.if_icmp .lt 13, 3) := by decide +kernel
theorem d15_15 : decode (am_bytes 15) 15 = .ok (.new 196, 3) := by decide +kernel
theorem d15_18 : decode (am_bytes 15) 18 = .ok (.dup, 1) := by decide +kernel
theorem d15_25 : decode (am_bytes 15) 25 = .ok (.return_, 1) := by decide +kernel
theorem d16_0 : decode (am_bytes 16) 0 = .ok (.iload_n 0, 1) := by decide +kernel
theorem d16_1 : decode (am_bytes 16) 1 = .ok (.invokestatic 201, 3) := by decide +kernel
theorem d16_4 : decode (am_bytes 16) 4 = .ok (.ifCond .ne 13, 3) := by decide +kernel
theorem d16_7 : decode (am_bytes 16) 7 = .ok (.new 196, 3) := by decide +kernel
theorem d16_10 : decode (am_bytes 16) 10 = .ok (.dup, 1) := by decide +kernel
theorem d16_17 : decode (am_bytes 16) 17 = .ok (.return_, 1) := by decide +kernel
theorem d17_0 : decode (am_bytes 17) 0 = .ok (.iload_n 0, 1) := by decide +kernel
theorem d17_1 : decode (am_bytes 17) 1 = .ok (.ifCond .lt 8, 3) := by decide +kernel
theorem d17_4 : decode (am_bytes 17) 4 = .ok (.iload_n 0, 1) := by decide +kernel
theorem d17_5 : decode (am_bytes 17) 5 = .ok (.iconst 4, 1) := by decide +kernel
theorem d17_6 : decode (am_bytes 17) 6 = .ok (.if_icmp .lt 13, 3) := by decide +kernel
theorem d17_9 : decode (am_bytes 17) 9 = .ok (.new 196, 3) := by decide +kernel
theorem d17_12 : decode (am_bytes 17) 12 = .ok (.dup, 1) := by decide +kernel
theorem d17_19 : decode (am_bytes 17) 19 = .ok (.return_, 1) := by decide +kernel
theorem d18_0 : decode (am_bytes 18) 0 = .ok (.iload_n 0, 1) := by decide +kernel
theorem d18_1 : decode (am_bytes 18) 1 = .ok (.ifCond .lt 8, 3) := by decide +kernel
theorem d18_4 : decode (am_bytes 18) 4 = .ok (.iload_n 0, 1) := by decide +kernel
theorem d18_5 : decode (am_bytes 18) 5 = .ok (.iload_n 1, 1) := by decide +kernel
theorem d18_6 : decode (am_bytes 18) 6 = .ok (.if_icmp .le 13, 3) := by decide +kernel
theorem d18_9 : decode (am_bytes 18) 9 = .ok (.new 95, 3) := by decide +kernel
theorem d18_12 : decode (am_bytes 18) 12 = .ok (.dup, 1) := by decide +kernel
theorem d18_19 : decode (am_bytes 18) 19 = .ok (.return_, 1) := by decide +kernel
theorem d19_0 : decode (am_bytes 19) 0 = .ok (.aload_n 0, 1) := by decide +kernel
theorem d19_1 : decode (am_bytes 19) 1 = .ok (.getfield 12, 3) := by decide +kernel
theorem d19_4 : decode (am_bytes 19) 4 = .ok (.getfield 81, 3) := by decide +kernel
theorem d19_7 : decode (am_bytes 19) 7 = .ok (.iload_n 1, 1) := by decide +kernel
theorem d19_8 : decode (am_bytes 19) 8 = .ok (.baload, 1) := by decide +kernel
theorem d19_9 : decode (am_bytes 19) 9 = .ok (.ifCond .eq 20, 3) := by decide +kernel
theorem d19_12 : decode (am_bytes 19) 12 = .ok (.iload_n 2, 1) := by decide +kernel
theorem d19_13 : decode (am_bytes 19) 13 = .ok (.aload_n 0, 1) := by decide +kernel
theorem d19_14 : decode (am_bytes 19) 14 = .ok (.iload_n 1, 1) := by decide +kernel
theorem d19_15 : decode (am_bytes 19) 15 = .ok (.invokevirtual 210, 3) := by decide +kernel
theorem d19_18 : decode (am_bytes 19) 18 = .ok (.if_icmp .lt 11, 3) := by decide +kernel
theorem d19_21 : decode (am_bytes 19) 21 = .ok (.iload_n 2, 1) := by decide +kernel
theorem d19_22 : decode (am_bytes 19) 22 = .ok (.aload_n 0, 1) := by decide +kernel
theorem d19_23 : decode (am_bytes 19) 23 = .ok (.getfield 43, 3) := by decide +kernel
theorem d19_26 : decode (am_bytes 19) 26 = .ok (.if_icmp .le 13, 3) := by decide +kernel
theorem d19_29 : decode (am_bytes 19) 29 = .ok (.new 95, 3) := by decide +kernel
theorem d19_32 : decode (am_bytes 19) 32 = .ok (.dup, 1) := by decide +kernel
theorem d19_39 : decode (am_bytes 19) 39 = .ok (.return_, 1) := by decide +kernel
theorem d20_0 : decode (am_bytes 20) 0 = .ok (.aload_n 0, 1) := by decide +kernel
theorem d20_1 : decode (am_bytes 20) 1 = .ok (.getfield 12, 3) := by decide +kernel
theorem d20_4 : decode (am_bytes 20) 4 = .ok (.getfield 81, 3) := by decide +kernel
theorem d20_7 : decode (am_bytes 20) 7 = .ok (.iload_n 1, 1) := by decide +kernel
theorem d20_8 : decode (am_bytes 20) 8 = .ok (.baload, 1) := by decide +kernel
theorem d20_9 : decode (am_bytes 20) 9 = .ok (.ifCond .ne 13, 3) := by decide +kernel
theorem d20_12 : decode (am_bytes 20) 12 = .ok (.new 61, 3) := by decide +kernel
theorem d20_15 : decode (am_bytes 20) 15 = .ok (.dup, 1) := by decide +kernel
theorem d20_22 : decode (am_bytes 20) 22 = .ok (.return_, 1) := by decide +kernel
theorem d21_0 : decode (am_bytes 21) 0 = .ok (.aload_n 0, 1) := by decide +kernel
theorem d21_1 : decode (am_bytes 21) 1 = .ok (.getfield 19, 3) := by decide +kernel
theorem d21_4 : decode (am_bytes 21) 4 = .ok (.getfield 186, 3) := by decide +kernel
theorem d21_7 : decode (am_bytes 21) 7 = .ok (.iload_n 1, 1) := by decide +kernel
theorem d21_8 : decode (am_bytes 21) 8 = .ok (.iadd, 1) := by decide +kernel
theorem d21_9 : decode (am_bytes 21) 9 = .ok (.bipush 120, 2) := by decide +kernel
theorem d21_11 : decode (am_bytes 21) 11 = .ok (.if_icmp .le 13, 3) := by decide +kernel
theorem d21_14 : decode (am_bytes 21) 14 = .ok (.new 217, 3) := by decide +kernel
theorem d21_17 : decode (am_bytes 21) 17 = .ok (.dup, 1) := by decide +kernel
theorem d21_24 : decode (am_bytes 21) 24 = .ok (.return_, 1) := by decide +kernel
theorem d22_0 : decode (am_bytes 22) 0 = .ok (.aload_n 0, 1) := by decide +kernel
theorem d22_1 : decode (am_bytes 22) 1 = .ok (.getfield 12, 3) := by decide +kernel
theorem d22_4 : decode (am_bytes 22) 4 = .ok (.getfield 190, 3) := by decide +kernel
theorem d22_7 : decode (am_bytes 22) 7 = .ok (.iload_n 1, 1) := by decide +kernel
theorem d22_8 : decode (am_bytes 22) 8 = .ok (.iaload, 1) := by decide +kernel
theorem d22_9 : decode (am_bytes 22) 9 = .ok (.aload_n 0, 1) := by decide +kernel
theorem d22_10 : decode (am_bytes 22) 10 = .ok (.getfield 47, 3) := by decide +kernel
theorem d22_13 : decode (am_bytes 22) 13 = .ok (.invokestatic 222, 3) := by decide +kernel
theorem d22_16 : decode (am_bytes 22) 16 = .ok (.ireturn, 1) := by decide +kernel
theorem d23_0 : decode (am_bytes 23) 0 = .ok (.aload_n 0, 1) := by decide +kernel
theorem d23_1 : decode (am_bytes 23) 1 = .ok (.getfield 12, 3) := by decide +kernel
theorem d23_4 : decode (am_bytes 23) 4 = .ok (.iload_n 2, 1) := by decide +kernel
theorem d23_5 : decode (am_bytes 23) 5 = .ok (.iload_n 3, 1) := by decide +kernel
theorem d23_6 : decode (am_bytes 23) 6 = .ok (.invokevirtual 227, 3) := by decide +kernel
theorem d23_9 : decode (am_bytes 23) 9 = .ok (.aload_n 0, 1) := by decide +kernel
theorem d23_10 : decode (am_bytes 23) 10 = .ok (.getfield 19, 3) := by decide +kernel
theorem d23_13 : decode (am_bytes 23) 13 = .ok (.aload_n 0, 1) := by decide +kernel
theorem d23_14 : decode (am_bytes 23) 14 = .ok (.getfield 12, 3) := by decide +kernel
theorem d23_17 : decode (am_bytes 23) 17 = .ok (.getfield 230, 3) := by decide +kernel
theorem d23_20 : decode (am_bytes 23) 20 = .ok (.aload_n 1, 1) := by decide +kernel
theorem d23_21 : decode (am_bytes 23) 21 = .ok (.invokevirtual 233, 3) := by decide +kernel
theorem d23_24 : decode (am_bytes 23) 24 = .ok (.return_, 1) := by decide +kernel
theorem d24_0 : decode (am_bytes 24) 0 = .ok (.aload_n 0, 1) := by decide +kernel
theorem d24_1 : decode (am_bytes 24) 1 = .ok (.dup, 1) := by decide +kernel
theorem d24_2 : decode (am_bytes 24) 2 = .ok (.getfield 43, 3) := by decide +kernel
theorem d24_5 : decode (am_bytes 24) 5 = .ok (.iconst 1, 1) := by decide +kernel
theorem d24_6 : decode (am_bytes 24) 6 = .ok (.iadd, 1) := by decide +kernel
theorem d24_7 : decode (am_bytes 24) 7 = .ok (.putfield 43, 3) := by decide +kernel
theorem d24_10 : decode (am_bytes 24) 10 = .ok (.aload_n 0, 1) := by decide +kernel
theorem d24_11 : decode (am_bytes 24) 11 = .ok (.getfield 19, 3) := by decide +kernel
theorem d24_14 : decode (am_bytes 24) 14 = .ok (.iload_n 1, 1) := by decide +kernel
theorem d24_15 : decode (am_bytes 24) 15 = .ok (.aload_n 0, 1) := by decide +kernel
theorem d24_16 : decode (am_bytes 24) 16 = .ok (.getfield 43, 3) := by decide +kernel
theorem d24_19 : decode (am_bytes 24) 19 = .ok (.iload_n 2, 1) := by decide +kernel
theorem d24_20 : decode (am_bytes 24) 20 = .ok (.iload_n 3, 1) := by decide +kernel
theorem d24_21 : decode (am_bytes 24) 21 = .ok (.iload 4, 2) := by decide +kernel
theorem d24_23 : decode (am_bytes 24) 23 = .ok (.invokevirtual 237, 3) := by decide +kernel
theorem d24_26 : decode (am_bytes 24) 26 = .ok (.return_, 1) := by decide +kernel
theorem d25_0 : decode (am_bytes 25) 0 = .ok (.aload_n 0, 1) := by decide +kernel
theorem d25_1 : decode (am_bytes 25) 1 = .ok (.getfield 12, 3) := by decide +kernel
theorem d25_4 : decode (am_bytes 25) 4 = .ok (.getfield 81, 3) := by decide +kernel
theorem d25_7 : decode (am_bytes 25) 7 = .ok (.iload_n 1, 1) := by decide +kernel
theorem d25_8 : decode (am_bytes 25) 8 = .ok (.baload, 1) := by decide +kernel
theorem d25_9 : decode (am_bytes 25) 9 = .ok (.ifCond .ne 4, 3) := by decide +kernel
theorem d25_12 : decode (am_bytes 25) 12 = .ok (.return_, 1) := by decide +kernel
theorem d25_13 : decode (am_bytes 25) 13 = .ok (.aload_n 0, 1) := by decide +kernel
theorem d25_14 : decode (am_bytes 25) 14 = .ok (.iload_n 1, 1) := by decide +kernel
theorem d25_15 : decode (am_bytes 25) 15 = .ok (.invokevirtual 210, 3) := by decide +kernel
theorem d25_18 : decode (am_bytes 25) 18 = .ok (.istore_n 2, 1) := by decide +kernel
theorem d25_19 : decode (am_bytes 25) 19 = .ok (.aload_n 0, 1) := by decide +kernel
theorem d25_20 : decode (am_bytes 25) 20 = .ok (.aload_n 0, 1) := by decide +kernel
theorem d25_21 : decode (am_bytes 25) 21 = .ok (.getfield 26, 3) := by decide +kernel
theorem d25_24 : decode (am_bytes 25) 24 = .ok (.iload_n 1, 1) := by decide +kernel
theorem d25_25 : decode (am_bytes 25) 25 = .ok (.iload_n 2, 1) := by decide +kernel
theorem d25_26 : decode (am_bytes 25) 26 = .ok (.invokevirtual 113, 3) := by decide +kernel
theorem d25_29 : decode (am_bytes 25) 29 = .ok (.aload_n 0, 1) := by decide +kernel
theorem d25_30 : decode (am_bytes 25) 30 = .ok (.getfield 19, 3) := by decide +kernel
theorem d25_33 : decode (am_bytes 25) 33 = .ok (.aload_n 0, 1) := by decide +kernel
theorem d25_34 : decode (am_bytes 25) 34 = .ok (.getfield 26, 3) := by decide +kernel
theorem d25_37 : decode (am_bytes 25) 37 = .ok (.invokevirtual 240, 3) := by decide +kernel
theorem d25_40 : decode (am_bytes 25) 40 = .ok (.aload_n 0, 1) := by decide +kernel
theorem d25_41 : decode (am_bytes 25) 41 = .ok (.getfield 19, 3) := by decide +kernel
theorem d25_44 : decode (am_bytes 25) 44 = .ok (.iload_n 1, 1) := by decide +kernel
theorem d25_45 : decode (am_bytes 25) 45 = .ok (.iload_n 2, 1) := by decide +kernel
theorem d25_46 : decode (am_bytes 25) 46 = .ok (.invokevirtual 244, 3) := by decide +kernel
theorem d25_49 : decode (am_bytes 25) 49 = .ok (.return_, 1) := by decide +kernel
theorem d26_0 : decode (am_bytes 26) 0 = .ok (.aload_n 0, 1) := by decide +kernel
theorem d26_1 : decode (am_bytes 26) 1 = .ok (.getfield 26, 3) := by decide +kernel
theorem d26_4 : decode (am_bytes 26) 4 = .ok (.aload_n 0, 1) := by decide +kernel
theorem d26_5 : decode (am_bytes 26) 5 = .ok (.getfield 33, 3) := by decide +kernel
theorem d26_8 : decode (am_bytes 26) 8 = .ok (.iload_n 1, 1) := by decide +kernel
theorem d26_9 : decode (am_bytes 26) 9 = .ok (.invokevirtual 136, 3) := by decide +kernel
theorem d26_12 : decode (am_bytes 26) 12 = .ok (.ifCond .ne 22, 3) := by decide +kernel
theorem d26_15 : decode (am_bytes 26) 15 = .ok (.aload_n 0, 1) := by decide +kernel
theorem d26_16 : decode (am_bytes 26) 16 = .ok (.getfield 26, 3) := by decide +kernel
theorem d26_19 : decode (am_bytes 26) 19 = .ok (.aload_n 0, 1) := by decide +kernel
theorem d26_20 : decode (am_bytes 26) 20 = .ok (.getfield 30, 3) := by decide +kernel
theorem d26_23 : decode (am_bytes 26) 23 = .ok (.iload_n 1, 1) := by decide +kernel
theorem d26_24 : decode (am_bytes 26) 24 = .ok (.invokevirtual 136, 3) := by decide +kernel
theorem d26_27 : decode (am_bytes 26) 27 = .ok (.ifCond .ne 7, 3) := by decide +kernel
theorem d26_30 : decode (am_bytes 26) 30 = .ok (.iconst 1, 1) := by decide +kernel
theorem d26_31 : decode (am_bytes 26) 31 = .ok (.goto 4, 3) := by decide +kernel
theorem d26_34 : decode (am_bytes 26) 34 = .ok (.iconst 0, 1) := by decide +kernel
theorem d26_35 : decode (am_bytes 26) 35 = .ok (.ireturn, 1) := by decide +kernel
theorem d27_0 : decode (am_bytes 27) 0 = .ok (.iconst 0, 1) := by decide +kernel
theorem d27_1 : decode (am_bytes 27) 1 = .ok (.istore_n 1, 1) := by decide +kernel
theorem d27_2 : decode (am_bytes 27) 2 = .ok (.iconst 0, 1) := by decide +kernel
theorem d27_3 : decode (am_bytes 27) 3 = .ok (.istore_n 2, 1) := by decide +kernel
theorem d27_4 : decode (am_bytes 27) 4 = .ok (.iload_n 2, 1) := by decide +kernel
theorem d27_5 : decode (am_bytes 27) 5 = .ok (.bipush 48, 2) := by decide +kernel
theorem d27_7 : decode (am_bytes 27) 7 = .ok (.if_icmp .ge 20, 3) := by decide +kernel
theorem d27_10 : decode (am_bytes 27) 10 = .ok (.aload_n 0, 1) := by decide +kernel
theorem d27_11 : decode (am_bytes 27) 11 = .ok (.iload_n 2, 1) := by decide +kernel
theorem d27_12 : decode (am_bytes 27) 12 = .ok (.invokevirtual 247, 3) := by decide +kernel
theorem d27_15 : decode (am_bytes 27) 15 = .ok (.ifCond .eq 6, 3) := by decide +kernel
theorem d27_18 : decode (am_bytes 27) 18 = .ok (.iinc 1 1, 3) := by decide +kernel
theorem d27_21 : decode (am_bytes 27) 21 = .ok (.iinc 2 1, 3) := by decide +kernel
theorem d27_24 : decode (am_bytes 27) 24 = .ok (.goto (-20), 3) := by decide +kernel
theorem d27_27 : decode (am_bytes 27) 27 = .ok (.iload_n 1, 1) := by decide +kernel
theorem d27_28 : decode (am_bytes 27) 28 = .ok (.ireturn, 1) := by decide +kernel
theorem d28_0 : decode (am_bytes 28) 0 = .ok (.iconst 0, 1) := by decide +kernel
theorem d28_1 : decode (am_bytes 28) 1 = .ok (.istore_n 1, 1) := by decide +kernel
theorem d28_2 : decode (am_bytes 28) 2 = .ok (.iconst 0, 1) := by decide +kernel
theorem d28_3 : decode (am_bytes 28) 3 = .ok (.istore_n 2, 1) := by decide +kernel
theorem d28_4 : decode (am_bytes 28) 4 = .ok (.iload_n 2, 1) := by decide +kernel
theorem d28_5 : decode (am_bytes 28) 5 = .ok (.bipush 48, 2) := by decide +kernel
theorem d28_7 : decode (am_bytes 28) 7 = .ok (.if_icmp .ge 35, 3) := by decide +kernel
theorem d28_10 : decode (am_bytes 28) 10 = .ok (.aload_n 0, 1) := by decide +kernel
theorem d28_11 : decode (am_bytes 28) 11 = .ok (.iload_n 2, 1) := by decide +kernel
theorem d28_12 : decode (am_bytes 28) 12 = .ok (.invokevirtual 247, 3) := by decide +kernel
theorem d28_15 : decode (am_bytes 28) 15 = .ok (.ifCond .eq 21, 3) := by decide +kernel
theorem d28_18 : decode (am_bytes 28) 18 = .ok (.aload_n 0, 1) := by decide +kernel
theorem d28_19 : decode (am_bytes 28) 19 = .ok (.getfield 30, 3) := by decide +kernel
theorem d28_22 : decode (am_bytes 28) 22 = .ok (.aload_n 0, 1) := by decide +kernel
theorem d28_23 : decode (am_bytes 28) 23 = .ok (.getfield 33, 3) := by decide +kernel
theorem d28_26 : decode (am_bytes 28) 26 = .ok (.iload_n 2, 1) := by decide +kernel
theorem d28_27 : decode (am_bytes 28) 27 = .ok (.invokevirtual 136, 3) := by decide +kernel
theorem d28_30 : decode (am_bytes 28) 30 = .ok (.ifCond .ne 6, 3) := by decide +kernel
theorem d28_33 : decode (am_bytes 28) 33 = .ok (.iinc 1 1, 3) := by decide +kernel
theorem d28_36 : decode (am_bytes 28) 36 = .ok (.iinc 2 1, 3) := by decide +kernel
theorem d28_39 : decode (am_bytes 28) 39 = .ok (.goto (-35), 3) := by decide +kernel
theorem d28_42 : decode (am_bytes 28) 42 = .ok (.iload_n 1, 1) := by decide +kernel
theorem d28_43 : decode (am_bytes 28) 43 = .ok (.ireturn, 1) := by decide +kernel
theorem d29_0 : decode (am_bytes 29) 0 = .ok (.iconst 0, 1) := by decide +kernel
theorem d29_1 : decode (am_bytes 29) 1 = .ok (.istore_n 2, 1) := by decide +kernel
theorem d29_2 : decode (am_bytes 29) 2 = .ok (.iload_n 2, 1) := by decide +kernel
theorem d29_3 : decode (am_bytes 29) 3 = .ok (.bipush 48, 2) := by decide +kernel
theorem d29_5 : decode (am_bytes 29) 5 = .ok (.if_icmp .ge 41, 3) := by decide +kernel
theorem d29_8 : decode (am_bytes 29) 8 = .ok (.aload_n 0, 1) := by decide +kernel
theorem d29_9 : decode (am_bytes 29) 9 = .ok (.iload_n 2, 1) := by decide +kernel
theorem d29_10 : decode (am_bytes 29) 10 = .ok (.invokevirtual 247, 3) := by decide +kernel
theorem d29_13 : decode (am_bytes 29) 13 = .ok (.ifCond .eq 27, 3) := by decide +kernel
theorem d29_16 : decode (am_bytes 29) 16 = .ok (.aload_n 0, 1) := by decide +kernel
theorem d29_17 : decode (am_bytes 29) 17 = .ok (.iload_n 1, 1) := by decide +kernel
theorem d29_18 : decode (am_bytes 29) 18 = .ok (.iload_n 2, 1) := by decide +kernel
theorem d29_19 : decode (am_bytes 29) 19 = .ok (.aload_n 0, 1) := by decide +kernel
theorem d29_20 : decode (am_bytes 29) 20 = .ok (.getfield 26, 3) := by decide +kernel
theorem d29_23 : decode (am_bytes 29) 23 = .ok (.getfield 117, 3) := by decide +kernel
theorem d29_26 : decode (am_bytes 29) 26 = .ok (.iload_n 2, 1) := by decide +kernel
theorem d29_27 : decode (am_bytes 29) 27 = .ok (.iaload, 1) := by decide +kernel
theorem d29_28 : decode (am_bytes 29) 28 = .ok (.aload_n 0, 1) := by decide +kernel
theorem d29_29 : decode (am_bytes 29) 29 = .ok (.getfield 26, 3) := by decide +kernel
theorem d29_32 : decode (am_bytes 29) 32 = .ok (.getfield 121, 3) := by decide +kernel
theorem d29_35 : decode (am_bytes 29) 35 = .ok (.iload_n 2, 1) := by decide +kernel
theorem d29_36 : decode (am_bytes 29) 36 = .ok (.iaload, 1) := by decide +kernel
theorem d29_37 : decode (am_bytes 29) 37 = .ok (.invokevirtual 106, 3) := by decide +kernel
theorem d29_40 : decode (am_bytes 29) 40 = .ok (.iinc 2 1, 3) := by decide +kernel
theorem d29_43 : decode (am_bytes 29) 43 = .ok (.goto (-41), 3) := by decide +kernel
theorem d29_46 : decode (am_bytes 29) 46 = .ok (.return_, 1) := by decide +kernel
theorem d30_0 : decode (am_bytes 30) 0 = .ok (.iload_n 0, 1) := by decide +kernel
theorem d30_1 : decode (am_bytes 30) 1 = .ok (.ifCond .lt 13, 3) := by decide +kernel
theorem d30_4 : decode (am_bytes 30) 4 = .ok (.iload_n 0, 1) := by decide +kernel
theorem d30_5 : decode (am_bytes 30) 5 = .ok (.bipush 12, 2) := by decide +kernel
theorem d30_7 : decode (am_bytes 30) 7 = .ok (.if_icmp .ge 7, 3) := by decide +kernel
theorem d30_10 : decode (am_bytes 30) 10 = .ok (.iconst 1, 1) := by decide +kernel
theorem d30_11 : decode (am_bytes 30) 11 = .ok (.goto 4, 3) := by decide +kernel
theorem d30_14 : decode (am_bytes 30) 14 = .ok (.iconst 0, 1) := by decide +kernel
theorem d30_15 : decode (am_bytes 30) 15 = .ok (.ireturn, 1) := by decide +kernel
theorem d31_0 : decode (am_bytes 31) 0 = .ok (.iload_n 0, 1) := by decide +kernel
theorem d31_1 : decode (am_bytes 31) 1 = .ok (.ifCond .eq 20, 3) := by decide +kernel
theorem d31_4 : decode (am_bytes 31) 4 = .ok (.iload_n 0, 1) := by decide +kernel
theorem d31_5 : decode (am_bytes 31) 5 = .ok (.iconst 1, 1) := by decide +kernel
theorem d31_6 : decode (am_bytes 31) 6 = .ok (.if_icmp .eq 15, 3) := by decide +kernel
theorem d31_9 : decode (am_bytes 31) 9 = .ok (.iload_n 0, 1) := by decide +kernel
theorem d31_10 : decode (am_bytes 31) 10 = .ok (.iconst 2, 1) := by decide +kernel
theorem d31_11 : decode (am_bytes 31) 11 = .ok (.if_icmp .ne 14, 3) := by decide +kernel
theorem d31_14 : decode (am_bytes 31) 14 = .ok (.iload_n 1, 1) := by decide +kernel
theorem d31_15 : decode (am_bytes 31) 15 = .ok (.invokestatic 201, 3) := by decide +kernel
theorem d31_18 : decode (am_bytes 31) 18 = .ok (.ifCond .eq 7, 3) := by decide +kernel
theorem d31_21 : decode (am_bytes 31) 21 = .ok (.iconst 1, 1) := by decide +kernel
theorem d31_22 : decode (am_bytes 31) 22 = .ok (.goto 4, 3) := by decide +kernel
theorem d31_25 : decode (am_bytes 31) 25 = .ok (.iconst 0, 1) := by decide +kernel
theorem d31_26 : decode (am_bytes 31) 26 = .ok (.ireturn, 1) := by decide +kernel
theorem d32_0 : decode (am_bytes 32) 0 = .ok (.iconst 4, 1) := by decide +kernel
theorem d32_1 : decode (am_bytes 32) 1 = .ok (.iload_n 0, 1) := by decide +kernel
theorem d32_2 : decode (am_bytes 32) 2 = .ok (.imul, 1) := by decide +kernel
theorem d32_3 : decode (am_bytes 32) 3 = .ok (.iload_n 1, 1) := by decide +kernel
theorem d32_4 : decode (am_bytes 32) 4 = .ok (.iadd, 1) := by decide +kernel
theorem d32_5 : decode (am_bytes 32) 5 = .ok (.ireturn, 1) := by decide +kernel
theorem d33_0 : decode (am_bytes 33) 0 = .ok (.aload_n 0, 1) := by decide +kernel
theorem d33_1 : decode (am_bytes 33) 1 = .ok (.getfield 45, 3) := by decide +kernel
theorem d33_4 : decode (am_bytes 33) 4 = .ok (.ireturn, 1) := by decide +kernel
theorem d34_0 : decode (am_bytes 34) 0 = .ok (.iload_n 1, 1) := by decide +kernel
theorem d34_1 : decode (am_bytes 34) 1 = .ok (.ifCond .lt 11, 3) := by decide +kernel
theorem d34_4 : decode (am_bytes 34) 4 = .ok (.iload_n 1, 1) := by decide +kernel
theorem d34_5 : decode (am_bytes 34) 5 = .ok (.aload_n 0, 1) := by decide +kernel
theorem d34_6 : decode (am_bytes 34) 6 = .ok (.getfield 7, 3) := by decide +kernel
theorem d34_9 : decode (am_bytes 34) 9 = .ok (.if_icmp .lt 7, 3) := by decide +kernel
theorem d34_12 : decode (am_bytes 34) 12 = .ok (.iconst 1, 1) := by decide +kernel
theorem d34_13 : decode (am_bytes 34) 13 = .ok (.goto 4, 3) := by decide +kernel
theorem d34_16 : decode (am_bytes 34) 16 = .ok (.iconst 0, 1) := by decide +kernel
theorem d34_17 : decode (am_bytes 34) 17 = .ok (.ireturn, 1) := by decide +kernel
theorem d35_0 : decode (am_bytes 35) 0 = .ok (.iload_n 0, 1) := by decide +kernel
theorem d35_1 : decode (am_bytes 35) 1 = .ok (.ifCond .lt 18, 3) := by decide +kernel
theorem d35_4 : decode (am_bytes 35) 4 = .ok (.iload_n 0, 1) := by decide +kernel
theorem d35_5 : decode (am_bytes 35) 5 = .ok (.bipush 11, 2) := by decide +kernel
theorem d35_7 : decode (am_bytes 35) 7 = .ok (.if_icmp .gt 12, 3) := by decide +kernel
theorem d35_10 : decode (am_bytes 35) 10 = .ok (.iload_n 1, 1) := by decide +kernel
theorem d35_11 : decode (am_bytes 35) 11 = .ok (.ifCond .lt 8, 3) := by decide +kernel
theorem d35_14 : decode (am_bytes 35) 14 = .ok (.iload_n 1, 1) := by decide +kernel
theorem d35_15 : decode (am_bytes 35) 15 = .ok (.iconst 3, 1) := by decide +kernel
theorem d35_16 : decode (am_bytes 35) 16 = .ok (.if_icmp .le 7, 3) := by decide +kernel
theorem d35_19 : decode (am_bytes 35) 19 = .ok (.iconst 1, 1) := by decide +kernel
theorem d35_20 : decode (am_bytes 35) 20 = .ok (.goto 4, 3) := by decide +kernel
theorem d35_23 : decode (am_bytes 35) 23 = .ok (.iconst 0, 1) := by decide +kernel
theorem d35_24 : decode (am_bytes 35) 24 = .ok (.ireturn, 1) := by decide +kernel
theorem d36_0 : decode (am_bytes 36) 0 = .ok (.aload_n 0, 1) := by decide +kernel
theorem d36_1 : decode (am_bytes 36) 1 = .ok (.getfield 17, 3) := by decide +kernel
theorem d36_4 : decode (am_bytes 36) 4 = .ok (.iload_n 1, 1) := by decide +kernel
theorem d36_5 : decode (am_bytes 36) 5 = .ok (.iaload, 1) := by decide +kernel
theorem d36_6 : decode (am_bytes 36) 6 = .ok (.aload_n 0, 1) := by decide +kernel
theorem d36_7 : decode (am_bytes 36) 7 = .ok (.getfield 48, 3) := by decide +kernel
theorem d36_10 : decode (am_bytes 36) 10 = .ok (.if_icmp .le 12, 3) := by decide +kernel
theorem d36_13 : decode (am_bytes 36) 13 = .ok (.aload_n 0, 1) := by decide +kernel
theorem d36_14 : decode (am_bytes 36) 14 = .ok (.getfield 17, 3) := by decide +kernel
theorem d36_17 : decode (am_bytes 36) 17 = .ok (.iload_n 1, 1) := by decide +kernel
theorem d36_18 : decode (am_bytes 36) 18 = .ok (.iaload, 1) := by decide +kernel
theorem d36_19 : decode (am_bytes 36) 19 = .ok (.goto 7, 3) := by decide +kernel
theorem d36_22 : decode (am_bytes 36) 22 = .ok (.aload_n 0, 1) := by decide +kernel
theorem d36_23 : decode (am_bytes 36) 23 = .ok (.getfield 48, 3) := by decide +kernel
theorem d36_26 : decode (am_bytes 36) 26 = .ok (.ireturn, 1) := by decide +kernel
theorem d37_0 : decode (am_bytes 37) 0 = .ok (.aload_n 0, 1) := by decide +kernel
theorem d37_1 : decode (am_bytes 37) 1 = .ok (.getfield 20, 3) := by decide +kernel
theorem d37_4 : decode (am_bytes 37) 4 = .ok (.iload_n 1, 1) := by decide +kernel
theorem d37_5 : decode (am_bytes 37) 5 = .ok (.baload, 1) := by decide +kernel
theorem d37_6 : decode (am_bytes 37) 6 = .ok (.ifCond .ne 20, 3) := by decide +kernel
theorem d37_9 : decode (am_bytes 37) 9 = .ok (.iload_n 2, 1) := by decide +kernel
theorem d37_10 : decode (am_bytes 37) 10 = .ok (.aload_n 0, 1) := by decide +kernel
theorem d37_11 : decode (am_bytes 37) 11 = .ok (.iload_n 1, 1) := by decide +kernel
theorem d37_12 : decode (am_bytes 37) 12 = .ok (.invokevirtual 51, 3) := by decide +kernel
theorem d37_15 : decode (am_bytes 37) 15 = .ok (.if_icmp .lt 11, 3) := by decide +kernel
theorem d37_18 : decode (am_bytes 37) 18 = .ok (.iload_n 2, 1) := by decide +kernel
theorem d37_19 : decode (am_bytes 37) 19 = .ok (.aload_n 0, 1) := by decide +kernel
theorem d37_20 : decode (am_bytes 37) 20 = .ok (.getfield 55, 3) := by decide +kernel
theorem d37_23 : decode (am_bytes 37) 23 = .ok (.if_icmp .le 7, 3) := by decide +kernel
theorem d37_26 : decode (am_bytes 37) 26 = .ok (.iconst 1, 1) := by decide +kernel
theorem d37_27 : decode (am_bytes 37) 27 = .ok (.goto 4, 3) := by decide +kernel
theorem d37_30 : decode (am_bytes 37) 30 = .ok (.iconst 0, 1) := by decide +kernel
theorem d37_31 : decode (am_bytes 37) 31 = .ok (.ireturn, 1) := by decide +kernel
theorem d38_0 : decode (am_bytes 38) 0 = .ok (.iload_n 1, 1) := by decide +kernel
theorem d38_1 : decode (am_bytes 38) 1 = .ok (.istore 4, 2) := by decide +kernel
theorem d38_3 : decode (am_bytes 38) 3 = .ok (.iload_n 2, 1) := by decide +kernel
theorem d38_4 : decode (am_bytes 38) 4 = .ok (.istore 5, 2) := by decide +kernel
theorem d38_6 : decode (am_bytes 38) 6 = .ok (.iload 4, 2) := by decide +kernel
theorem d38_8 : decode (am_bytes 38) 8 = .ok (.ifCond .lt 65, 3) := by decide +kernel
theorem d38_11 : decode (am_bytes 38) 11 = .ok (.aload_n 0, 1) := by decide +kernel
theorem d38_12 : decode (am_bytes 38) 12 = .ok (.getfield 24, 3) := by decide +kernel
theorem d38_15 : decode (am_bytes 38) 15 = .ok (.iload_n 3, 1) := by decide +kernel
theorem d38_16 : decode (am_bytes 38) 16 = .ok (.iaload, 1) := by decide +kernel
theorem d38_17 : decode (am_bytes 38) 17 = .ok (.iload 4, 2) := by decide +kernel
theorem d38_19 : decode (am_bytes 38) 19 = .ok (.if_icmp .ne 16, 3) := by decide +kernel
theorem d38_22 : decode (am_bytes 38) 22 = .ok (.aload_n 0, 1) := by decide +kernel
theorem d38_23 : decode (am_bytes 38) 23 = .ok (.getfield 27, 3) := by decide +kernel
theorem d38_26 : decode (am_bytes 38) 26 = .ok (.iload_n 3, 1) := by decide +kernel
theorem d38_27 : decode (am_bytes 38) 27 = .ok (.iaload, 1) := by decide +kernel
theorem d38_28 : decode (am_bytes 38) 28 = .ok (.iload 5, 2) := by decide +kernel
theorem d38_30 : decode (am_bytes 38) 30 = .ok (.if_icmp .gt 5, 3) := by decide +kernel
theorem d38_33 : decode (am_bytes 38) 33 = .ok (.iconst 1, 1) := by decide +kernel
theorem d38_34 : decode (am_bytes 38) 34 = .ok (.ireturn, 1) := by decide +kernel
theorem d38_35 : decode (am_bytes 38) 35 = .ok (.aload_n 0, 1) := by decide +kernel
theorem d38_36 : decode (am_bytes 38) 36 = .ok (.getfield 17, 3) := by decide +kernel
theorem d38_39 : decode (am_bytes 38) 39 = .ok (.iload 4, 2) := by decide +kernel
theorem d38_41 : decode (am_bytes 38) 41 = .ok (.iaload, 1) := by decide +kernel
theorem d38_42 : decode (am_bytes 38) 42 = .ok (.iload 5, 2) := by decide +kernel
theorem d38_44 : decode (am_bytes 38) 44 = .ok (.if_icmp .ge 13, 3) := by decide +kernel
theorem d38_47 : decode (am_bytes 38) 47 = .ok (.aload_n 0, 1) := by decide +kernel
theorem d38_48 : decode (am_bytes 38) 48 = .ok (.getfield 17, 3) := by decide +kernel
theorem d38_51 : decode (am_bytes 38) 51 = .ok (.iload 4, 2) := by decide +kernel
theorem d38_53 : decode (am_bytes 38) 53 = .ok (.iaload, 1) := by decide +kernel
theorem d38_54 : decode (am_bytes 38) 54 = .ok (.goto 5, 3) := by decide +kernel
theorem d38_57 : decode (am_bytes 38) 57 = .ok (.iload 5, 2) := by decide +kernel
theorem d38_59 : decode (am_bytes 38) 59 = .ok (.istore 5, 2) := by decide +kernel
theorem d38_61 : decode (am_bytes 38) 61 = .ok (.aload_n 0, 1) := by decide +kernel
theorem d38_62 : decode (am_bytes 38) 62 = .ok (.getfield 13, 3) := by decide +kernel
theorem d38_65 : decode (am_bytes 38) 65 = .ok (.iload 4, 2) := by decide +kernel
theorem d38_67 : decode (am_bytes 38) 67 = .ok (.iaload, 1) := by decide +kernel
theorem d38_68 : decode (am_bytes 38) 68 = .ok (.istore 4, 2) := by decide +kernel
theorem d38_70 : decode (am_bytes 38) 70 = .ok (.goto (-64), 3) := by decide +kernel
theorem d38_73 : decode (am_bytes 38) 73 = .ok (.iconst 0, 1) := by decide +kernel
theorem d38_74 : decode (am_bytes 38) 74 = .ok (.ireturn, 1) := by decide +kernel
theorem d39_0 : decode (am_bytes 39) 0 = .ok (.iconst (-1), 1) := by decide +kernel
theorem d39_1 : decode (am_bytes 39) 1 = .ok (.istore 4, 2) := by decide +kernel
theorem d39_3 : decode (am_bytes 39) 3 = .ok (.iconst 0, 1) := by decide +kernel
theorem d39_4 : decode (am_bytes 39) 4 = .ok (.istore 5, 2) := by decide +kernel
theorem d39_6 : decode (am_bytes 39) 6 = .ok (.iload 5, 2) := by decide +kernel
theorem d39_8 : decode (am_bytes 39) 8 = .ok (.aload_n 0, 1) := by decide +kernel
theorem d39_9 : decode (am_bytes 39) 9 = .ok (.getfield 58, 3) := by decide +kernel
theorem d39_12 : decode (am_bytes 39) 12 = .ok (.if_icmp .ge 35, 3) := by decide +kernel
theorem d39_15 : decode (am_bytes 39) 15 = .ok (.aload_n 0, 1) := by decide +kernel
theorem d39_16 : decode (am_bytes 39) 16 = .ok (.getfield 30, 3) := by decide +kernel
theorem d39_19 : decode (am_bytes 39) 19 = .ok (.iload 5, 2) := by decide +kernel
theorem d39_21 : decode (am_bytes 39) 21 = .ok (.iaload, 1) := by decide +kernel
theorem d39_22 : decode (am_bytes 39) 22 = .ok (.iload_n 3, 1) := by decide +kernel
theorem d39_23 : decode (am_bytes 39) 23 = .ok (.if_icmp .ne 18, 3) := by decide +kernel
theorem d39_26 : decode (am_bytes 39) 26 = .ok (.aload_n 0, 1) := by decide +kernel
theorem d39_27 : decode (am_bytes 39) 27 = .ok (.iload_n 1, 1) := by decide +kernel
theorem d39_28 : decode (am_bytes 39) 28 = .ok (.iload_n 2, 1) := by decide +kernel
theorem d39_29 : decode (am_bytes 39) 29 = .ok (.iload 5, 2) := by decide +kernel
theorem d39_31 : decode (am_bytes 39) 31 = .ok (.invokevirtual 61, 3) := by decide +kernel
theorem d39_34 : decode (am_bytes 39) 34 = .ok (.ifCond .eq 7, 3) := by decide +kernel
theorem d39_37 : decode (am_bytes 39) 37 = .ok (.iload 5, 2) := by decide +kernel
theorem d39_39 : decode (am_bytes 39) 39 = .ok (.istore 4, 2) := by decide +kernel
theorem d39_41 : decode (am_bytes 39) 41 = .ok (.iinc 5 1, 3) := by decide +kernel
theorem d39_44 : decode (am_bytes 39) 44 = .ok (.goto (-38), 3) := by decide +kernel
theorem d39_47 : decode (am_bytes 39) 47 = .ok (.iload 4, 2) := by decide +kernel
theorem d39_49 : decode (am_bytes 39) 49 = .ok (.ireturn, 1) := by decide +kernel
theorem d40_0 : decode (am_bytes 40) 0 = .ok (.iload_n 1, 1) := by decide +kernel
theorem d40_1 : decode (am_bytes 40) 1 = .ok (.ifCond .ge 7, 3) := by decide +kernel
theorem d40_4 : decode (am_bytes 40) 4 = .ok (.iconst 0, 1) := by decide +kernel
theorem d40_5 : decode (am_bytes 40) 5 = .ok (.goto 9, 3) := by decide +kernel
theorem d40_8 : decode (am_bytes 40) 8 = .ok (.aload_n 0, 1) := by decide +kernel
theorem d40_9 : decode (am_bytes 40) 9 = .ok (.getfield 33, 3) := by decide +kernel
theorem d40_12 : decode (am_bytes 40) 12 = .ok (.iload_n 1, 1) := by decide +kernel
theorem d40_13 : decode (am_bytes 40) 13 = .ok (.iaload, 1) := by decide +kernel
theorem d40_14 : decode (am_bytes 40) 14 = .ok (.ireturn, 1) := by decide +kernel
theorem d41_0 : decode (am_bytes 41) 0 = .ok (.iload_n 1, 1) := by decide +kernel
theorem d41_1 : decode (am_bytes 41) 1 = .ok (.ifCond .ge 7, 3) := by decide +kernel
theorem d41_4 : decode (am_bytes 41) 4 = .ok (.iconst 0, 1) := by decide +kernel
theorem d41_5 : decode (am_bytes 41) 5 = .ok (.goto 9, 3) := by decide +kernel
theorem d41_8 : decode (am_bytes 41) 8 = .ok (.aload_n 0, 1) := by decide +kernel
theorem d41_9 : decode (am_bytes 41) 9 = .ok (.getfield 36, 3) := by decide +kernel
theorem d41_12 : decode (am_bytes 41) 12 = .ok (.iload_n 1, 1) := by decide +kernel
theorem d41_13 : decode (am_bytes 41) 13 = .ok (.iaload, 1) := by decide +kernel
theorem d41_14 : decode (am_bytes 41) 14 = .ok (.ireturn, 1) := by decide +kernel
theorem d42_0 : decode (am_bytes 42) 0 = .ok (.aload_n 0, 1) := by decide +kernel
theorem d42_1 : decode (am_bytes 42) 1 = .ok (.iload_n 1, 1) := by decide +kernel
theorem d42_2 : decode (am_bytes 42) 2 = .ok (.invokevirtual 65, 3) := by decide +kernel
theorem d42_5 : decode (am_bytes 42) 5 = .ok (.aload_n 0, 1) := by decide +kernel
theorem d42_6 : decode (am_bytes 42) 6 = .ok (.iload_n 2, 1) := by decide +kernel
theorem d42_7 : decode (am_bytes 42) 7 = .ok (.invokevirtual 65, 3) := by decide +kernel
theorem d42_10 : decode (am_bytes 42) 10 = .ok (.if_icmp .ne 20, 3) := by decide +kernel
theorem d42_13 : decode (am_bytes 42) 13 = .ok (.aload_n 0, 1) := by decide +kernel
theorem d42_14 : decode (am_bytes 42) 14 = .ok (.iload_n 1, 1) := by decide +kernel
theorem d42_15 : decode (am_bytes 42) 15 = .ok (.invokevirtual 68, 3) := by decide +kernel
theorem d42_18 : decode (am_bytes 42) 18 = .ok (.aload_n 0, 1) := by decide +kernel
theorem d42_19 : decode (am_bytes 42) 19 = .ok (.iload_n 2, 1) := by decide +kernel
theorem d42_20 : decode (am_bytes 42) 20 = .ok (.invokevirtual 68, 3) := by decide +kernel
theorem d42_23 : decode (am_bytes 42) 23 = .ok (.if_icmp .ne 7, 3) := by decide +kernel
theorem d42_26 : decode (am_bytes 42) 26 = .ok (.iconst 1, 1) := by decide +kernel
theorem d42_27 : decode (am_bytes 42) 27 = .ok (.goto 4, 3) := by decide +kernel
theorem d42_30 : decode (am_bytes 42) 30 = .ok (.iconst 0, 1) := by decide +kernel
theorem d42_31 : decode (am_bytes 42) 31 = .ok (.ireturn, 1) := by decide +kernel
theorem d43_0 : decode (am_bytes 43) 0 = .ok (.aload_n 0, 1) := by decide +kernel
theorem d43_1 : decode (am_bytes 43) 1 = .ok (.getfield 27, 3) := by decide +kernel
theorem d43_4 : decode (am_bytes 43) 4 = .ok (.iload_n 2, 1) := by decide +kernel
theorem d43_5 : decode (am_bytes 43) 5 = .ok (.iaload, 1) := by decide +kernel
theorem d43_6 : decode (am_bytes 43) 6 = .ok (.aload_n 0, 1) := by decide +kernel
theorem d43_7 : decode (am_bytes 43) 7 = .ok (.iload_n 1, 1) := by decide +kernel
theorem d43_8 : decode (am_bytes 43) 8 = .ok (.invokevirtual 51, 3) := by decide +kernel
theorem d43_11 : decode (am_bytes 43) 11 = .ok (.if_icmp .le 12, 3) := by decide +kernel
theorem d43_14 : decode (am_bytes 43) 14 = .ok (.aload_n 0, 1) := by decide +kernel
theorem d43_15 : decode (am_bytes 43) 15 = .ok (.getfield 27, 3) := by decide +kernel
theorem d43_18 : decode (am_bytes 43) 18 = .ok (.iload_n 2, 1) := by decide +kernel
theorem d43_19 : decode (am_bytes 43) 19 = .ok (.iaload, 1) := by decide +kernel
theorem d43_20 : decode (am_bytes 43) 20 = .ok (.goto 8, 3) := by decide +kernel
theorem d43_23 : decode (am_bytes 43) 23 = .ok (.aload_n 0, 1) := by decide +kernel
theorem d43_24 : decode (am_bytes 43) 24 = .ok (.iload_n 1, 1) := by decide +kernel
theorem d43_25 : decode (am_bytes 43) 25 = .ok (.invokevirtual 51, 3) := by decide +kernel
theorem d43_28 : decode (am_bytes 43) 28 = .ok (.istore_n 3, 1) := by decide +kernel
theorem d43_29 : decode (am_bytes 43) 29 = .ok (.aload_n 0, 1) := by decide +kernel
theorem d43_30 : decode (am_bytes 43) 30 = .ok (.iload_n 1, 1) := by decide +kernel
theorem d43_31 : decode (am_bytes 43) 31 = .ok (.iload_n 3, 1) := by decide +kernel
theorem d43_32 : decode (am_bytes 43) 32 = .ok (.invokevirtual 71, 3) := by decide +kernel
theorem d43_35 : decode (am_bytes 43) 35 = .ok (.ifCond .ne 23, 3) := by decide +kernel
theorem d43_38 : decode (am_bytes 43) 38 = .ok (.aload_n 0, 1) := by decide +kernel
theorem d43_39 : decode (am_bytes 43) 39 = .ok (.iload_n 1, 1) := by decide +kernel
theorem d43_40 : decode (am_bytes 43) 40 = .ok (.iload_n 3, 1) := by decide +kernel
theorem d43_41 : decode (am_bytes 43) 41 = .ok (.aload_n 0, 1) := by decide +kernel
theorem d43_42 : decode (am_bytes 43) 42 = .ok (.getfield 30, 3) := by decide +kernel
theorem d43_45 : decode (am_bytes 43) 45 = .ok (.iload_n 2, 1) := by decide +kernel
theorem d43_46 : decode (am_bytes 43) 46 = .ok (.iaload, 1) := by decide +kernel
theorem d43_47 : decode (am_bytes 43) 47 = .ok (.invokevirtual 75, 3) := by decide +kernel
theorem d43_50 : decode (am_bytes 43) 50 = .ok (.iload_n 2, 1) := by decide +kernel
theorem d43_51 : decode (am_bytes 43) 51 = .ok (.if_icmp .ne 7, 3) := by decide +kernel
theorem d43_54 : decode (am_bytes 43) 54 = .ok (.iconst 1, 1) := by decide +kernel
theorem d43_55 : decode (am_bytes 43) 55 = .ok (.goto 4, 3) := by decide +kernel
theorem d43_58 : decode (am_bytes 43) 58 = .ok (.iconst 0, 1) := by decide +kernel
theorem d43_59 : decode (am_bytes 43) 59 = .ok (.ireturn, 1) := by decide +kernel
theorem d44_0 : decode (am_bytes 44) 0 = .ok (.aload_n 0, 1) := by decide +kernel
theorem d44_1 : decode (am_bytes 44) 1 = .ok (.aload_n 0, 1) := by decide +kernel
theorem d44_2 : decode (am_bytes 44) 2 = .ok (.iload_n 1, 1) := by decide +kernel
theorem d44_3 : decode (am_bytes 44) 3 = .ok (.invokevirtual 79, 3) := by decide +kernel
theorem d44_6 : decode (am_bytes 44) 6 = .ok (.ifCond .eq 7, 3) := by decide +kernel
theorem d44_9 : decode (am_bytes 44) 9 = .ok (.iconst 1, 1) := by decide +kernel
theorem d44_10 : decode (am_bytes 44) 10 = .ok (.goto 30, 3) := by decide +kernel
theorem d44_13 : decode (am_bytes 44) 13 = .ok (.aload_n 0, 1) := by decide +kernel
theorem d44_14 : decode (am_bytes 44) 14 = .ok (.iload_n 1, 1) := by decide +kernel
theorem d44_15 : decode (am_bytes 44) 15 = .ok (.iload_n 2, 1) := by decide +kernel
theorem d44_16 : decode (am_bytes 44) 16 = .ok (.invokevirtual 71, 3) := by decide +kernel
theorem d44_19 : decode (am_bytes 44) 19 = .ok (.ifCond .eq 7, 3) := by decide +kernel
theorem d44_22 : decode (am_bytes 44) 22 = .ok (.iconst 2, 1) := by decide +kernel
theorem d44_23 : decode (am_bytes 44) 23 = .ok (.goto 17, 3) := by decide +kernel
theorem d44_26 : decode (am_bytes 44) 26 = .ok (.aload_n 0, 1) := by decide +kernel
theorem d44_27 : decode (am_bytes 44) 27 = .ok (.getfield 7, 3) := by decide +kernel
theorem d44_30 : decode (am_bytes 44) 30 = .ok (.bipush 6, 2) := by decide +kernel
theorem d44_32 : decode (am_bytes 44) 32 = .ok (.if_icmp .ne 7, 3) := by decide +kernel
theorem d44_35 : decode (am_bytes 44) 35 = .ok (.iconst 3, 1) := by decide +kernel
theorem d44_36 : decode (am_bytes 44) 36 = .ok (.goto 4, 3) := by decide +kernel
end
section
/-! printed: each instruction -/
theorem d44_39 : decode (am_bytes 44) 39 = .ok (.iconst 0, 1) := by decide +kernel
theorem d44_40 : decode (am_bytes 44) 40 = .ok (.putfield 45, 3) := by decide +kernel
theorem d44_43 : decode (am_bytes 44) 43 = .ok (.aload_n 0, 1) := by decide +kernel
theorem d44_44 : decode (am_bytes 44) 44 = .ok (.getfield 45, 3) := by decide +kernel
theorem d44_47 : decode (am_bytes 44) 47 = .ok (.ifCond .le 5, 3) := by decide +kernel
theorem d44_50 : decode (am_bytes 44) 50 = .ok (.iconst 0, 1) := by decide +kernel
theorem d44_51 : decode (am_bytes 44) 51 = .ok (.ireturn, 1) := by decide +kernel
theorem d44_52 : decode (am_bytes 44) 52 = .ok (.aload_n 0, 1) := by decide +kernel
theorem d44_53 : decode (am_bytes 44) 53 = .ok (.getfield 13, 3) := by decide +kernel
theorem d44_56 : decode (am_bytes 44) 56 = .ok (.aload_n 0, 1) := by decide +kernel
theorem d44_57 : decode (am_bytes 44) 57 = .ok (.getfield 7, 3) := by decide +kernel
theorem d44_60 : decode (am_bytes 44) 60 = .ok (.iload_n 1, 1) := by decide +kernel
theorem d44_61 : decode (am_bytes 44) 61 = .ok (.iastore, 1) := by decide +kernel
theorem d44_62 : decode (am_bytes 44) 62 = .ok (.aload_n 0, 1) := by decide +kernel
theorem d44_63 : decode (am_bytes 44) 63 = .ok (.getfield 17, 3) := by decide +kernel
theorem d44_66 : decode (am_bytes 44) 66 = .ok (.aload_n 0, 1) := by decide +kernel
theorem d44_67 : decode (am_bytes 44) 67 = .ok (.getfield 7, 3) := by decide +kernel
theorem d44_70 : decode (am_bytes 44) 70 = .ok (.iload_n 2, 1) := by decide +kernel
theorem d44_71 : decode (am_bytes 44) 71 = .ok (.iastore, 1) := by decide +kernel
theorem d44_72 : decode (am_bytes 44) 72 = .ok (.aload_n 0, 1) := by decide +kernel
theorem d44_73 : decode (am_bytes 44) 73 = .ok (.getfield 20, 3) := by decide +kernel
theorem d44_76 : decode (am_bytes 44) 76 = .ok (.aload_n 0, 1) := by decide +kernel
theorem d44_77 : decode (am_bytes 44) 77 = .ok (.getfield 7, 3) := by decide +kernel
theorem d44_80 : decode (am_bytes 44) 80 = .ok (.iconst 0, 1) := by decide +kernel
theorem d44_81 : decode (am_bytes 44) 81 = .ok (.bastore, 1) := by decide +kernel
theorem d44_82 : decode (am_bytes 44) 82 = .ok (.aload_n 0, 1) := by decide +kernel
theorem d44_83 : decode (am_bytes 44) 83 = .ok (.dup, 1) := by decide +kernel
theorem d44_84 : decode (am_bytes 44) 84 = .ok (.getfield 7, 3) := by decide +kernel
theorem d44_87 : decode (am_bytes 44) 87 = .ok (.iconst 1, 1) := by decide +kernel
theorem d44_88 : decode (am_bytes 44) 88 = .ok (.iadd, 1) := by decide +kernel
theorem d44_89 : decode (am_bytes 44) 89 = .ok (.putfield 7, 3) := by decide +kernel
theorem d44_92 : decode (am_bytes 44) 92 = .ok (.aload_n 0, 1) := by decide +kernel
theorem d44_93 : decode (am_bytes 44) 93 = .ok (.getfield 7, 3) := by decide +kernel
theorem d44_96 : decode (am_bytes 44) 96 = .ok (.iconst 1, 1) := by decide +kernel
theorem d44_97 : decode (am_bytes 44) 97 = .ok (.isub, 1) := by decide +kernel
theorem d44_98 : decode (am_bytes 44) 98 = .ok (.ireturn, 1) := by decide +kernel
theorem d45_0 : decode (am_bytes 45) 0 = .ok (.iconst 0, 1) := by decide +kernel
theorem d45_1 : decode (am_bytes 45) 1 = .ok (.istore_n 2, 1) := by decide +kernel
theorem d45_2 : decode (am_bytes 45) 2 = .ok (.iconst 0, 1) := by decide +kernel
theorem d45_3 : decode (am_bytes 45) 3 = .ok (.istore_n 3, 1) := by decide +kernel
theorem d45_4 : decode (am_bytes 45) 4 = .ok (.iload_n 3, 1) := by decide +kernel
theorem d45_5 : decode (am_bytes 45) 5 = .ok (.aload_n 0, 1) := by decide +kernel
theorem d45_6 : decode (am_bytes 45) 6 = .ok (.getfield 7, 3) := by decide +kernel
theorem d45_9 : decode (am_bytes 45) 9 = .ok (.if_icmp .ge 31, 3) := by decide +kernel
theorem d45_12 : decode (am_bytes 45) 12 = .ok (.iload_n 3, 1) := by decide +kernel
theorem d45_13 : decode (am_bytes 45) 13 = .ok (.iload_n 1, 1) := by decide +kernel
theorem d45_14 : decode (am_bytes 45) 14 = .ok (.if_icmp .eq 18, 3) := by decide +kernel
theorem d45_17 : decode (am_bytes 45) 17 = .ok (.aload_n 0, 1) := by decide +kernel
theorem d45_18 : decode (am_bytes 45) 18 = .ok (.getfield 20, 3) := by decide +kernel
theorem d45_21 : decode (am_bytes 45) 21 = .ok (.iload_n 3, 1) := by decide +kernel
theorem d45_22 : decode (am_bytes 45) 22 = .ok (.baload, 1) := by decide +kernel
theorem d45_23 : decode (am_bytes 45) 23 = .ok (.ifCond .ne 9, 3) := by decide +kernel
theorem d45_26 : decode (am_bytes 45) 26 = .ok (.iload_n 2, 1) := by decide +kernel
theorem d45_27 : decode (am_bytes 45) 27 = .ok (.iconst 1, 1) := by decide +kernel
theorem d45_28 : decode (am_bytes 45) 28 = .ok (.iadd, 1) := by decide +kernel
theorem d45_29 : decode (am_bytes 45) 29 = .ok (.goto 4, 3) := by decide +kernel
theorem d45_32 : decode (am_bytes 45) 32 = .ok (.iload_n 2, 1) := by decide +kernel
theorem d45_33 : decode (am_bytes 45) 33 = .ok (.istore_n 2, 1) := by decide +kernel
theorem d45_34 : decode (am_bytes 45) 34 = .ok (.iinc 3 1, 3) := by decide +kernel
theorem d45_37 : decode (am_bytes 45) 37 = .ok (.goto (-33), 3) := by decide +kernel
theorem d45_40 : decode (am_bytes 45) 40 = .ok (.iload_n 2, 1) := by decide +kernel
theorem d45_41 : decode (am_bytes 45) 41 = .ok (.ireturn, 1) := by decide +kernel
theorem d46_0 : decode (am_bytes 46) 0 = .ok (.aload_n 0, 1) := by decide +kernel
theorem d46_1 : decode (am_bytes 46) 1 = .ok (.aload_n 0, 1) := by decide +kernel
theorem d46_2 : decode (am_bytes 46) 2 = .ok (.iload_n 1, 1) := by decide +kernel
theorem d46_3 : decode (am_bytes 46) 3 = .ok (.invokevirtual 79, 3) := by decide +kernel
theorem d46_6 : decode (am_bytes 46) 6 = .ok (.ifCond .eq 7, 3) := by decide +kernel
theorem d46_9 : decode (am_bytes 46) 9 = .ok (.iconst 1, 1) := by decide +kernel
theorem d46_10 : decode (am_bytes 46) 10 = .ok (.goto 25, 3) := by decide +kernel
theorem d46_13 : decode (am_bytes 46) 13 = .ok (.aload_n 0, 1) := by decide +kernel
theorem d46_14 : decode (am_bytes 46) 14 = .ok (.getfield 20, 3) := by decide +kernel
theorem d46_17 : decode (am_bytes 46) 17 = .ok (.iload_n 1, 1) := by decide +kernel
theorem d46_18 : decode (am_bytes 46) 18 = .ok (.baload, 1) := by decide +kernel
theorem d46_19 : decode (am_bytes 46) 19 = .ok (.ifCond .ne 11, 3) := by decide +kernel
theorem d46_22 : decode (am_bytes 46) 22 = .ok (.aload_n 0, 1) := by decide +kernel
theorem d46_23 : decode (am_bytes 46) 23 = .ok (.iload_n 1, 1) := by decide +kernel
theorem d46_24 : decode (am_bytes 46) 24 = .ok (.invokevirtual 83, 3) := by decide +kernel
theorem d46_27 : decode (am_bytes 46) 27 = .ok (.ifCond .ne 7, 3) := by decide +kernel
theorem d46_30 : decode (am_bytes 46) 30 = .ok (.iconst 2, 1) := by decide +kernel
theorem d46_31 : decode (am_bytes 46) 31 = .ok (.goto 4, 3) := by decide +kernel
theorem d46_34 : decode (am_bytes 46) 34 = .ok (.iconst 0, 1) := by decide +kernel
theorem d46_35 : decode (am_bytes 46) 35 = .ok (.putfield 45, 3) := by decide +kernel
theorem d46_38 : decode (am_bytes 46) 38 = .ok (.aload_n 0, 1) := by decide +kernel
theorem d46_39 : decode (am_bytes 46) 39 = .ok (.getfield 45, 3) := by decide +kernel
theorem d46_42 : decode (am_bytes 46) 42 = .ok (.ifCond .ne 10, 3) := by decide +kernel
theorem d46_45 : decode (am_bytes 46) 45 = .ok (.aload_n 0, 1) := by decide +kernel
theorem d46_46 : decode (am_bytes 46) 46 = .ok (.getfield 20, 3) := by decide +kernel
theorem d46_49 : decode (am_bytes 46) 49 = .ok (.iload_n 1, 1) := by decide +kernel
theorem d46_50 : decode (am_bytes 46) 50 = .ok (.iconst 1, 1) := by decide +kernel
theorem d46_51 : decode (am_bytes 46) 51 = .ok (.bastore, 1) := by decide +kernel
theorem d46_52 : decode (am_bytes 46) 52 = .ok (.return_, 1) := by decide +kernel
theorem d47_0 : decode (am_bytes 47) 0 = .ok (.aload_n 0, 1) := by decide +kernel
theorem d47_1 : decode (am_bytes 47) 1 = .ok (.dup, 1) := by decide +kernel
theorem d47_2 : decode (am_bytes 47) 2 = .ok (.getfield 55, 3) := by decide +kernel
theorem d47_5 : decode (am_bytes 47) 5 = .ok (.iconst 1, 1) := by decide +kernel
theorem d47_6 : decode (am_bytes 47) 6 = .ok (.iadd, 1) := by decide +kernel
theorem d47_7 : decode (am_bytes 47) 7 = .ok (.putfield 55, 3) := by decide +kernel
theorem d47_10 : decode (am_bytes 47) 10 = .ok (.aload_n 0, 1) := by decide +kernel
theorem d47_11 : decode (am_bytes 47) 11 = .ok (.getfield 24, 3) := by decide +kernel
theorem d47_14 : decode (am_bytes 47) 14 = .ok (.aload_n 0, 1) := by decide +kernel
theorem d47_15 : decode (am_bytes 47) 15 = .ok (.getfield 58, 3) := by decide +kernel
theorem d47_18 : decode (am_bytes 47) 18 = .ok (.iload_n 1, 1) := by decide +kernel
theorem d47_19 : decode (am_bytes 47) 19 = .ok (.iastore, 1) := by decide +kernel
theorem d47_20 : decode (am_bytes 47) 20 = .ok (.aload_n 0, 1) := by decide +kernel
theorem d47_21 : decode (am_bytes 47) 21 = .ok (.getfield 27, 3) := by decide +kernel
theorem d47_24 : decode (am_bytes 47) 24 = .ok (.aload_n 0, 1) := by decide +kernel
theorem d47_25 : decode (am_bytes 47) 25 = .ok (.getfield 58, 3) := by decide +kernel
theorem d47_28 : decode (am_bytes 47) 28 = .ok (.aload_n 0, 1) := by decide +kernel
theorem d47_29 : decode (am_bytes 47) 29 = .ok (.getfield 55, 3) := by decide +kernel
theorem d47_32 : decode (am_bytes 47) 32 = .ok (.iastore, 1) := by decide +kernel
theorem d47_33 : decode (am_bytes 47) 33 = .ok (.aload_n 0, 1) := by decide +kernel
theorem d47_34 : decode (am_bytes 47) 34 = .ok (.getfield 30, 3) := by decide +kernel
theorem d47_37 : decode (am_bytes 47) 37 = .ok (.aload_n 0, 1) := by decide +kernel
theorem d47_38 : decode (am_bytes 47) 38 = .ok (.getfield 58, 3) := by decide +kernel
theorem d47_41 : decode (am_bytes 47) 41 = .ok (.iload_n 2, 1) := by decide +kernel
theorem d47_42 : decode (am_bytes 47) 42 = .ok (.iastore, 1) := by decide +kernel
theorem d47_43 : decode (am_bytes 47) 43 = .ok (.aload_n 0, 1) := by decide +kernel
theorem d47_44 : decode (am_bytes 47) 44 = .ok (.getfield 33, 3) := by decide +kernel
theorem d47_47 : decode (am_bytes 47) 47 = .ok (.aload_n 0, 1) := by decide +kernel
theorem d47_48 : decode (am_bytes 47) 48 = .ok (.getfield 58, 3) := by decide +kernel
theorem d47_51 : decode (am_bytes 47) 51 = .ok (.iload_n 3, 1) := by decide +kernel
theorem d47_52 : decode (am_bytes 47) 52 = .ok (.iastore, 1) := by decide +kernel
theorem d47_53 : decode (am_bytes 47) 53 = .ok (.aload_n 0, 1) := by decide +kernel
theorem d47_54 : decode (am_bytes 47) 54 = .ok (.getfield 36, 3) := by decide +kernel
theorem d47_57 : decode (am_bytes 47) 57 = .ok (.aload_n 0, 1) := by decide +kernel
theorem d47_58 : decode (am_bytes 47) 58 = .ok (.getfield 58, 3) := by decide +kernel
theorem d47_61 : decode (am_bytes 47) 61 = .ok (.iload_n 3, 1) := by decide +kernel
theorem d47_62 : decode (am_bytes 47) 62 = .ok (.ifCond .ne 7, 3) := by decide +kernel
theorem d47_65 : decode (am_bytes 47) 65 = .ok (.iconst 0, 1) := by decide +kernel
theorem d47_66 : decode (am_bytes 47) 66 = .ok (.goto 5, 3) := by decide +kernel
theorem d47_69 : decode (am_bytes 47) 69 = .ok (.iload 4, 2) := by decide +kernel
theorem d47_71 : decode (am_bytes 47) 71 = .ok (.iastore, 1) := by decide +kernel
theorem d47_72 : decode (am_bytes 47) 72 = .ok (.aload_n 0, 1) := by decide +kernel
theorem d47_73 : decode (am_bytes 47) 73 = .ok (.dup, 1) := by decide +kernel
theorem d47_74 : decode (am_bytes 47) 74 = .ok (.getfield 58, 3) := by decide +kernel
theorem d47_77 : decode (am_bytes 47) 77 = .ok (.iconst 1, 1) := by decide +kernel
theorem d47_78 : decode (am_bytes 47) 78 = .ok (.iadd, 1) := by decide +kernel
theorem d47_79 : decode (am_bytes 47) 79 = .ok (.putfield 58, 3) := by decide +kernel
theorem d47_82 : decode (am_bytes 47) 82 = .ok (.return_, 1) := by decide +kernel
theorem d48_0 : decode (am_bytes 48) 0 = .ok (.iload 4, 2) := by decide +kernel
theorem d48_2 : decode (am_bytes 48) 2 = .ok (.ifCond .lt 27, 3) := by decide +kernel
theorem d48_5 : decode (am_bytes 48) 5 = .ok (.iload 4, 2) := by decide +kernel
theorem d48_7 : decode (am_bytes 48) 7 = .ok (.iconst 2, 1) := by decide +kernel
theorem d48_8 : decode (am_bytes 48) 8 = .ok (.if_icmp .gt 21, 3) := by decide +kernel
theorem d48_11 : decode (am_bytes 48) 11 = .ok (.iload 4, 2) := by decide +kernel
theorem d48_13 : decode (am_bytes 48) 13 = .ok (.iconst 2, 1) := by decide +kernel
theorem d48_14 : decode (am_bytes 48) 14 = .ok (.if_icmp .ne 19, 3) := by decide +kernel
theorem d48_17 : decode (am_bytes 48) 17 = .ok (.iload 5, 2) := by decide +kernel
theorem d48_19 : decode (am_bytes 48) 19 = .ok (.ifCond .lt 10, 3) := by decide +kernel
theorem d48_22 : decode (am_bytes 48) 22 = .ok (.iload 5, 2) := by decide +kernel
theorem d48_24 : decode (am_bytes 48) 24 = .ok (.bipush 11, 2) := by decide +kernel
theorem d48_26 : decode (am_bytes 48) 26 = .ok (.if_icmp .le 7, 3) := by decide +kernel
theorem d48_29 : decode (am_bytes 48) 29 = .ok (.iconst 1, 1) := by decide +kernel
theorem d48_30 : decode (am_bytes 48) 30 = .ok (.goto 4, 3) := by decide +kernel
theorem d48_33 : decode (am_bytes 48) 33 = .ok (.iconst 0, 1) := by decide +kernel
theorem d48_34 : decode (am_bytes 48) 34 = .ok (.istore 6, 2) := by decide +kernel
theorem d48_36 : decode (am_bytes 48) 36 = .ok (.aload_n 0, 1) := by decide +kernel
theorem d48_37 : decode (am_bytes 48) 37 = .ok (.aload_n 0, 1) := by decide +kernel
theorem d48_38 : decode (am_bytes 48) 38 = .ok (.iload_n 1, 1) := by decide +kernel
theorem d48_39 : decode (am_bytes 48) 39 = .ok (.invokevirtual 79, 3) := by decide +kernel
theorem d48_42 : decode (am_bytes 48) 42 = .ok (.ifCond .ne 11, 3) := by decide +kernel
theorem d48_45 : decode (am_bytes 48) 45 = .ok (.iload_n 2, 1) := by decide +kernel
theorem d48_46 : decode (am_bytes 48) 46 = .ok (.iload_n 3, 1) := by decide +kernel
theorem d48_47 : decode (am_bytes 48) 47 = .ok (.invokestatic 86, 3) := by decide +kernel
theorem d48_50 : decode (am_bytes 48) 50 = .ok (.ifCond .eq 7, 3) := by decide +kernel
theorem d48_53 : decode (am_bytes 48) 53 = .ok (.iconst 1, 1) := by decide +kernel
theorem d48_54 : decode (am_bytes 48) 54 = .ok (.goto 39, 3) := by decide +kernel
theorem d48_57 : decode (am_bytes 48) 57 = .ok (.iload 6, 2) := by decide +kernel
theorem d48_59 : decode (am_bytes 48) 59 = .ok (.ifCond .eq 7, 3) := by decide +kernel
theorem d48_62 : decode (am_bytes 48) 62 = .ok (.iconst 2, 1) := by decide +kernel
theorem d48_63 : decode (am_bytes 48) 63 = .ok (.goto 30, 3) := by decide +kernel
theorem d48_66 : decode (am_bytes 48) 66 = .ok (.aload_n 0, 1) := by decide +kernel
theorem d48_67 : decode (am_bytes 48) 67 = .ok (.getfield 20, 3) := by decide +kernel
theorem d48_70 : decode (am_bytes 48) 70 = .ok (.iload_n 1, 1) := by decide +kernel
theorem d48_71 : decode (am_bytes 48) 71 = .ok (.baload, 1) := by decide +kernel
theorem d48_72 : decode (am_bytes 48) 72 = .ok (.ifCond .eq 7, 3) := by decide +kernel
theorem d48_75 : decode (am_bytes 48) 75 = .ok (.iconst 3, 1) := by decide +kernel
theorem d48_76 : decode (am_bytes 48) 76 = .ok (.goto 17, 3) := by decide +kernel
theorem d48_79 : decode (am_bytes 48) 79 = .ok (.aload_n 0, 1) := by decide +kernel
theorem d48_80 : decode (am_bytes 48) 80 = .ok (.getfield 58, 3) := by decide +kernel
theorem d48_83 : decode (am_bytes 48) 83 = .ok (.bipush 120, 2) := by decide +kernel
theorem d48_85 : decode (am_bytes 48) 85 = .ok (.if_icmp .ne 7, 3) := by decide +kernel
theorem d48_88 : decode (am_bytes 48) 88 = .ok (.iconst 4, 1) := by decide +kernel
theorem d48_89 : decode (am_bytes 48) 89 = .ok (.goto 4, 3) := by decide +kernel
theorem d48_92 : decode (am_bytes 48) 92 = .ok (.iconst 0, 1) := by decide +kernel
theorem d48_93 : decode (am_bytes 48) 93 = .ok (.putfield 45, 3) := by decide +kernel
theorem d48_96 : decode (am_bytes 48) 96 = .ok (.aload_n 0, 1) := by decide +kernel
theorem d48_97 : decode (am_bytes 48) 97 = .ok (.getfield 45, 3) := by decide +kernel
theorem d48_100 : decode (am_bytes 48) 100 = .ok (.ifCond .le 5, 3) := by decide +kernel
theorem d48_103 : decode (am_bytes 48) 103 = .ok (.iconst 0, 1) := by decide +kernel
theorem d48_104 : decode (am_bytes 48) 104 = .ok (.ireturn, 1) := by decide +kernel
theorem d48_105 : decode (am_bytes 48) 105 = .ok (.aload_n 0, 1) := by decide +kernel
theorem d48_106 : decode (am_bytes 48) 106 = .ok (.iload_n 1, 1) := by decide +kernel
theorem d48_107 : decode (am_bytes 48) 107 = .ok (.iconst 4, 1) := by decide +kernel
theorem d48_108 : decode (am_bytes 48) 108 = .ok (.iload_n 2, 1) := by decide +kernel
theorem d48_109 : decode (am_bytes 48) 109 = .ok (.imul, 1) := by decide +kernel
theorem d48_110 : decode (am_bytes 48) 110 = .ok (.iload_n 3, 1) := by decide +kernel
theorem d48_111 : decode (am_bytes 48) 111 = .ok (.iadd, 1) := by decide +kernel
theorem d48_112 : decode (am_bytes 48) 112 = .ok (.iload 4, 2) := by decide +kernel
theorem d48_114 : decode (am_bytes 48) 114 = .ok (.iload 5, 2) := by decide +kernel
theorem d48_116 : decode (am_bytes 48) 116 = .ok (.invokevirtual 89, 3) := by decide +kernel
theorem d48_119 : decode (am_bytes 48) 119 = .ok (.aload_n 0, 1) := by decide +kernel
theorem d48_120 : decode (am_bytes 48) 120 = .ok (.getfield 55, 3) := by decide +kernel
theorem d48_123 : decode (am_bytes 48) 123 = .ok (.ireturn, 1) := by decide +kernel
theorem d49_0 : decode (am_bytes 49) 0 = .ok (.aload_n 0, 1) := by decide +kernel
theorem d49_1 : decode (am_bytes 49) 1 = .ok (.aload_n 0, 1) := by decide +kernel
theorem d49_2 : decode (am_bytes 49) 2 = .ok (.iload_n 1, 1) := by decide +kernel
theorem d49_3 : decode (am_bytes 49) 3 = .ok (.invokevirtual 79, 3) := by decide +kernel
theorem d49_6 : decode (am_bytes 49) 6 = .ok (.ifCond .ne 12, 3) := by decide +kernel
theorem d49_9 : decode (am_bytes 49) 9 = .ok (.iload_n 3, 1) := by decide +kernel
theorem d49_10 : decode (am_bytes 49) 10 = .ok (.iload 4, 2) := by decide +kernel
theorem d49_12 : decode (am_bytes 49) 12 = .ok (.invokestatic 86, 3) := by decide +kernel
theorem d49_15 : decode (am_bytes 49) 15 = .ok (.ifCond .eq 7, 3) := by decide +kernel
theorem d49_18 : decode (am_bytes 49) 18 = .ok (.iconst 1, 1) := by decide +kernel
theorem d49_19 : decode (am_bytes 49) 19 = .ok (.goto 28, 3) := by decide +kernel
theorem d49_22 : decode (am_bytes 49) 22 = .ok (.aload_n 0, 1) := by decide +kernel
theorem d49_23 : decode (am_bytes 49) 23 = .ok (.iload_n 1, 1) := by decide +kernel
theorem d49_24 : decode (am_bytes 49) 24 = .ok (.iload_n 2, 1) := by decide +kernel
theorem d49_25 : decode (am_bytes 49) 25 = .ok (.invokevirtual 71, 3) := by decide +kernel
theorem d49_28 : decode (am_bytes 49) 28 = .ok (.ifCond .ne 14, 3) := by decide +kernel
theorem d49_31 : decode (am_bytes 49) 31 = .ok (.iload 5, 2) := by decide +kernel
theorem d49_33 : decode (am_bytes 49) 33 = .ok (.ifCond .lt 9, 3) := by decide +kernel
theorem d49_36 : decode (am_bytes 49) 36 = .ok (.iload 5, 2) := by decide +kernel
theorem d49_38 : decode (am_bytes 49) 38 = .ok (.iconst 2, 1) := by decide +kernel
theorem d49_39 : decode (am_bytes 49) 39 = .ok (.if_icmp .le 7, 3) := by decide +kernel
theorem d49_42 : decode (am_bytes 49) 42 = .ok (.iconst 2, 1) := by decide +kernel
theorem d49_43 : decode (am_bytes 49) 43 = .ok (.goto 4, 3) := by decide +kernel
theorem d49_46 : decode (am_bytes 49) 46 = .ok (.iconst 0, 1) := by decide +kernel
theorem d49_47 : decode (am_bytes 49) 47 = .ok (.putfield 45, 3) := by decide +kernel
theorem d49_50 : decode (am_bytes 49) 50 = .ok (.aload_n 0, 1) := by decide +kernel
theorem d49_51 : decode (am_bytes 49) 51 = .ok (.getfield 45, 3) := by decide +kernel
theorem d49_54 : decode (am_bytes 49) 54 = .ok (.ifCond .le 5, 3) := by decide +kernel
theorem d49_57 : decode (am_bytes 49) 57 = .ok (.iconst 0, 1) := by decide +kernel
theorem d49_58 : decode (am_bytes 49) 58 = .ok (.ireturn, 1) := by decide +kernel
theorem d49_59 : decode (am_bytes 49) 59 = .ok (.aload_n 0, 1) := by decide +kernel
theorem d49_60 : decode (am_bytes 49) 60 = .ok (.iload_n 1, 1) := by decide +kernel
theorem d49_61 : decode (am_bytes 49) 61 = .ok (.iload_n 2, 1) := by decide +kernel
theorem d49_62 : decode (am_bytes 49) 62 = .ok (.iconst 4, 1) := by decide +kernel
theorem d49_63 : decode (am_bytes 49) 63 = .ok (.iload_n 3, 1) := by decide +kernel
theorem d49_64 : decode (am_bytes 49) 64 = .ok (.imul, 1) := by decide +kernel
theorem d49_65 : decode (am_bytes 49) 65 = .ok (.iload 4, 2) := by decide +kernel
theorem d49_67 : decode (am_bytes 49) 67 = .ok (.iadd, 1) := by decide +kernel
theorem d49_68 : decode (am_bytes 49) 68 = .ok (.invokevirtual 75, 3) := by decide +kernel
theorem d49_71 : decode (am_bytes 49) 71 = .ok (.istore 6, 2) := by decide +kernel
theorem d49_73 : decode (am_bytes 49) 73 = .ok (.iload 5, 2) := by decide +kernel
theorem d49_75 : decode (am_bytes 49) 75 = .ok (.ifCond .ne 12, 3) := by decide +kernel
theorem d49_78 : decode (am_bytes 49) 78 = .ok (.aload_n 0, 1) := by decide +kernel
theorem d49_79 : decode (am_bytes 49) 79 = .ok (.iload 6, 2) := by decide +kernel
theorem d49_81 : decode (am_bytes 49) 81 = .ok (.invokevirtual 65, 3) := by decide +kernel
theorem d49_84 : decode (am_bytes 49) 84 = .ok (.goto 34, 3) := by decide +kernel
theorem d49_87 : decode (am_bytes 49) 87 = .ok (.iload 5, 2) := by decide +kernel
theorem d49_89 : decode (am_bytes 49) 89 = .ok (.iconst 1, 1) := by decide +kernel
theorem d49_90 : decode (am_bytes 49) 90 = .ok (.if_icmp .ne 12, 3) := by decide +kernel
theorem d49_93 : decode (am_bytes 49) 93 = .ok (.aload_n 0, 1) := by decide +kernel
theorem d49_94 : decode (am_bytes 49) 94 = .ok (.iload 6, 2) := by decide +kernel
theorem d49_96 : decode (am_bytes 49) 96 = .ok (.invokevirtual 68, 3) := by decide +kernel
theorem d49_99 : decode (am_bytes 49) 99 = .ok (.goto 19, 3) := by decide +kernel
theorem d49_102 : decode (am_bytes 49) 102 = .ok (.iload 6, 2) := by decide +kernel
theorem d49_104 : decode (am_bytes 49) 104 = .ok (.ifCond .ge 7, 3) := by decide +kernel
theorem d49_107 : decode (am_bytes 49) 107 = .ok (.iconst (-1), 1) := by decide +kernel
theorem d49_108 : decode (am_bytes 49) 108 = .ok (.goto 10, 3) := by decide +kernel
theorem d49_111 : decode (am_bytes 49) 111 = .ok (.aload_n 0, 1) := by decide +kernel
theorem d49_112 : decode (am_bytes 49) 112 = .ok (.getfield 27, 3) := by decide +kernel
theorem d49_115 : decode (am_bytes 49) 115 = .ok (.iload 6, 2) := by decide +kernel
theorem d49_117 : decode (am_bytes 49) 117 = .ok (.iaload, 1) := by decide +kernel
theorem d49_118 : decode (am_bytes 49) 118 = .ok (.ireturn, 1) := by decide +kernel
theorem d50_0 : decode (am_bytes 50) 0 = .ok (.aload_n 0, 1) := by decide +kernel
theorem d50_1 : decode (am_bytes 50) 1 = .ok (.aload_n 0, 1) := by decide +kernel
theorem d50_2 : decode (am_bytes 50) 2 = .ok (.iload_n 1, 1) := by decide +kernel
theorem d50_3 : decode (am_bytes 50) 3 = .ok (.invokevirtual 79, 3) := by decide +kernel
theorem d50_6 : decode (am_bytes 50) 6 = .ok (.ifCond .ne 11, 3) := by decide +kernel
theorem d50_9 : decode (am_bytes 50) 9 = .ok (.iload_n 2, 1) := by decide +kernel
theorem d50_10 : decode (am_bytes 50) 10 = .ok (.iload_n 3, 1) := by decide +kernel
theorem d50_11 : decode (am_bytes 50) 11 = .ok (.invokestatic 86, 3) := by decide +kernel
theorem d50_14 : decode (am_bytes 50) 14 = .ok (.ifCond .eq 7, 3) := by decide +kernel
theorem d50_17 : decode (am_bytes 50) 17 = .ok (.iconst 1, 1) := by decide +kernel
theorem d50_18 : decode (am_bytes 50) 18 = .ok (.goto 4, 3) := by decide +kernel
theorem d50_21 : decode (am_bytes 50) 21 = .ok (.iconst 0, 1) := by decide +kernel
theorem d50_22 : decode (am_bytes 50) 22 = .ok (.putfield 45, 3) := by decide +kernel
theorem d50_25 : decode (am_bytes 50) 25 = .ok (.aload_n 0, 1) := by decide +kernel
theorem d50_26 : decode (am_bytes 50) 26 = .ok (.getfield 45, 3) := by decide +kernel
theorem d50_29 : decode (am_bytes 50) 29 = .ok (.ifCond .le 5, 3) := by decide +kernel
theorem d50_32 : decode (am_bytes 50) 32 = .ok (.iconst 0, 1) := by decide +kernel
theorem d50_33 : decode (am_bytes 50) 33 = .ok (.ireturn, 1) := by decide +kernel
theorem d50_34 : decode (am_bytes 50) 34 = .ok (.iconst 0, 1) := by decide +kernel
theorem d50_35 : decode (am_bytes 50) 35 = .ok (.istore 5, 2) := by decide +kernel
theorem d50_37 : decode (am_bytes 50) 37 = .ok (.iconst 0, 1) := by decide +kernel
theorem d50_38 : decode (am_bytes 50) 38 = .ok (.istore 6, 2) := by decide +kernel
theorem d50_40 : decode (am_bytes 50) 40 = .ok (.iload 6, 2) := by decide +kernel
theorem d50_42 : decode (am_bytes 50) 42 = .ok (.aload_n 0, 1) := by decide +kernel
theorem d50_43 : decode (am_bytes 50) 43 = .ok (.getfield 58, 3) := by decide +kernel
theorem d50_46 : decode (am_bytes 50) 46 = .ok (.if_icmp .ge 52, 3) := by decide +kernel
theorem d50_49 : decode (am_bytes 50) 49 = .ok (.aload_n 0, 1) := by decide +kernel
theorem d50_50 : decode (am_bytes 50) 50 = .ok (.getfield 30, 3) := by decide +kernel
theorem d50_53 : decode (am_bytes 50) 53 = .ok (.iload 6, 2) := by decide +kernel
theorem d50_55 : decode (am_bytes 50) 55 = .ok (.iaload, 1) := by decide +kernel
theorem d50_56 : decode (am_bytes 50) 56 = .ok (.iconst 4, 1) := by decide +kernel
theorem d50_57 : decode (am_bytes 50) 57 = .ok (.iload_n 2, 1) := by decide +kernel
theorem d50_58 : decode (am_bytes 50) 58 = .ok (.imul, 1) := by decide +kernel
theorem d50_59 : decode (am_bytes 50) 59 = .ok (.iload_n 3, 1) := by decide +kernel
theorem d50_60 : decode (am_bytes 50) 60 = .ok (.iadd, 1) := by decide +kernel
theorem d50_61 : decode (am_bytes 50) 61 = .ok (.if_icmp .ne 31, 3) := by decide +kernel
theorem d50_64 : decode (am_bytes 50) 64 = .ok (.aload_n 0, 1) := by decide +kernel
theorem d50_65 : decode (am_bytes 50) 65 = .ok (.iload_n 1, 1) := by decide +kernel
theorem d50_66 : decode (am_bytes 50) 66 = .ok (.iload 6, 2) := by decide +kernel
theorem d50_68 : decode (am_bytes 50) 68 = .ok (.invokevirtual 93, 3) := by decide +kernel
theorem d50_71 : decode (am_bytes 50) 71 = .ok (.ifCond .eq 21, 3) := by decide +kernel
theorem d50_74 : decode (am_bytes 50) 74 = .ok (.iload 5, 2) := by decide +kernel
theorem d50_76 : decode (am_bytes 50) 76 = .ok (.iload 4, 2) := by decide +kernel
theorem d50_78 : decode (am_bytes 50) 78 = .ok (.if_icmp .ne 11, 3) := by decide +kernel
theorem d50_81 : decode (am_bytes 50) 81 = .ok (.aload_n 0, 1) := by decide +kernel
theorem d50_82 : decode (am_bytes 50) 82 = .ok (.getfield 27, 3) := by decide +kernel
theorem d50_85 : decode (am_bytes 50) 85 = .ok (.iload 6, 2) := by decide +kernel
theorem d50_87 : decode (am_bytes 50) 87 = .ok (.iaload, 1) := by decide +kernel
theorem d50_88 : decode (am_bytes 50) 88 = .ok (.ireturn, 1) := by decide +kernel
theorem d50_89 : decode (am_bytes 50) 89 = .ok (.iinc 5 1, 3) := by decide +kernel
theorem d50_92 : decode (am_bytes 50) 92 = .ok (.iinc 6 1, 3) := by decide +kernel
theorem d50_95 : decode (am_bytes 50) 95 = .ok (.goto (-55), 3) := by decide +kernel
theorem d50_98 : decode (am_bytes 50) 98 = .ok (.iconst (-1), 1) := by decide +kernel
theorem d50_99 : decode (am_bytes 50) 99 = .ok (.ireturn, 1) := by decide +kernel
theorem d51_0 : decode (am_bytes 51) 0 = .ok (.aload_n 0, 1) := by decide +kernel
theorem d51_1 : decode (am_bytes 51) 1 = .ok (.aload_n 0, 1) := by decide +kernel
theorem d51_2 : decode (am_bytes 51) 2 = .ok (.iload_n 1, 1) := by decide +kernel
theorem d51_3 : decode (am_bytes 51) 3 = .ok (.invokevirtual 79, 3) := by decide +kernel
theorem d51_6 : decode (am_bytes 51) 6 = .ok (.ifCond .ne 11, 3) := by decide +kernel
theorem d51_9 : decode (am_bytes 51) 9 = .ok (.aload_n 0, 1) := by decide +kernel
theorem d51_10 : decode (am_bytes 51) 10 = .ok (.iload_n 2, 1) := by decide +kernel
theorem d51_11 : decode (am_bytes 51) 11 = .ok (.invokevirtual 79, 3) := by decide +kernel
theorem d51_14 : decode (am_bytes 51) 14 = .ok (.ifCond .eq 7, 3) := by decide +kernel
theorem d51_17 : decode (am_bytes 51) 17 = .ok (.iconst 1, 1) := by decide +kernel
theorem d51_18 : decode (am_bytes 51) 18 = .ok (.goto 26, 3) := by decide +kernel
theorem d51_21 : decode (am_bytes 51) 21 = .ok (.aload_n 0, 1) := by decide +kernel
theorem d51_22 : decode (am_bytes 51) 22 = .ok (.getfield 20, 3) := by decide +kernel
theorem d51_25 : decode (am_bytes 51) 25 = .ok (.iload_n 1, 1) := by decide +kernel
theorem d51_26 : decode (am_bytes 51) 26 = .ok (.baload, 1) := by decide +kernel
theorem d51_27 : decode (am_bytes 51) 27 = .ok (.ifCond .ne 12, 3) := by decide +kernel
theorem d51_30 : decode (am_bytes 51) 30 = .ok (.aload_n 0, 1) := by decide +kernel
theorem d51_31 : decode (am_bytes 51) 31 = .ok (.getfield 20, 3) := by decide +kernel
theorem d51_34 : decode (am_bytes 51) 34 = .ok (.iload_n 2, 1) := by decide +kernel
theorem d51_35 : decode (am_bytes 51) 35 = .ok (.baload, 1) := by decide +kernel
theorem d51_36 : decode (am_bytes 51) 36 = .ok (.ifCond .eq 7, 3) := by decide +kernel
theorem d51_39 : decode (am_bytes 51) 39 = .ok (.iconst 2, 1) := by decide +kernel
theorem d51_40 : decode (am_bytes 51) 40 = .ok (.goto 4, 3) := by decide +kernel
theorem d51_43 : decode (am_bytes 51) 43 = .ok (.iconst 0, 1) := by decide +kernel
theorem d51_44 : decode (am_bytes 51) 44 = .ok (.putfield 45, 3) := by decide +kernel
theorem d51_47 : decode (am_bytes 51) 47 = .ok (.aload_n 0, 1) := by decide +kernel
theorem d51_48 : decode (am_bytes 51) 48 = .ok (.getfield 45, 3) := by decide +kernel
theorem d51_51 : decode (am_bytes 51) 51 = .ok (.ifCond .le 5, 3) := by decide +kernel
theorem d51_54 : decode (am_bytes 51) 54 = .ok (.iconst 0, 1) := by decide +kernel
theorem d51_55 : decode (am_bytes 51) 55 = .ok (.ireturn, 1) := by decide +kernel
theorem d51_56 : decode (am_bytes 51) 56 = .ok (.iconst 0, 1) := by decide +kernel
theorem d51_57 : decode (am_bytes 51) 57 = .ok (.istore 4, 2) := by decide +kernel
theorem d51_59 : decode (am_bytes 51) 59 = .ok (.iconst 0, 1) := by decide +kernel
theorem d51_60 : decode (am_bytes 51) 60 = .ok (.istore 5, 2) := by decide +kernel
theorem d51_62 : decode (am_bytes 51) 62 = .ok (.iload 5, 2) := by decide +kernel
theorem d51_64 : decode (am_bytes 51) 64 = .ok (.bipush 48, 2) := by decide +kernel
theorem d51_66 : decode (am_bytes 51) 66 = .ok (.if_icmp .ge 50, 3) := by decide +kernel
theorem d51_69 : decode (am_bytes 51) 69 = .ok (.aload_n 0, 1) := by decide +kernel
theorem d51_70 : decode (am_bytes 51) 70 = .ok (.aload_n 0, 1) := by decide +kernel
theorem d51_71 : decode (am_bytes 51) 71 = .ok (.iload_n 1, 1) := by decide +kernel
theorem d51_72 : decode (am_bytes 51) 72 = .ok (.aload_n 0, 1) := by decide +kernel
theorem d51_73 : decode (am_bytes 51) 73 = .ok (.getfield 55, 3) := by decide +kernel
theorem d51_76 : decode (am_bytes 51) 76 = .ok (.iload 5, 2) := by decide +kernel
theorem d51_78 : decode (am_bytes 51) 78 = .ok (.invokevirtual 75, 3) := by decide +kernel
theorem d51_81 : decode (am_bytes 51) 81 = .ok (.aload_n 0, 1) := by decide +kernel
theorem d51_82 : decode (am_bytes 51) 82 = .ok (.iload_n 2, 1) := by decide +kernel
theorem d51_83 : decode (am_bytes 51) 83 = .ok (.aload_n 0, 1) := by decide +kernel
theorem d51_84 : decode (am_bytes 51) 84 = .ok (.getfield 55, 3) := by decide +kernel
theorem d51_87 : decode (am_bytes 51) 87 = .ok (.iload 5, 2) := by decide +kernel
theorem d51_89 : decode (am_bytes 51) 89 = .ok (.invokevirtual 75, 3) := by decide +kernel
theorem d51_92 : decode (am_bytes 51) 92 = .ok (.invokevirtual 96, 3) := by decide +kernel
theorem d51_95 : decode (am_bytes 51) 95 = .ok (.ifCond .ne 15, 3) := by decide +kernel
theorem d51_98 : decode (am_bytes 51) 98 = .ok (.iload 4, 2) := by decide +kernel
theorem d51_100 : decode (am_bytes 51) 100 = .ok (.iload_n 3, 1) := by decide +kernel
theorem d51_101 : decode (am_bytes 51) 101 = .ok (.if_icmp .ne 6, 3) := by decide +kernel
theorem d51_104 : decode (am_bytes 51) 104 = .ok (.iload 5, 2) := by decide +kernel
theorem d51_106 : decode (am_bytes 51) 106 = .ok (.ireturn, 1) := by decide +kernel
theorem d51_107 : decode (am_bytes 51) 107 = .ok (.iinc 4 1, 3) := by decide +kernel
theorem d51_110 : decode (am_bytes 51) 110 = .ok (.iinc 5 1, 3) := by decide +kernel
theorem d51_113 : decode (am_bytes 51) 113 = .ok (.goto (-51), 3) := by decide +kernel
theorem d51_116 : decode (am_bytes 51) 116 = .ok (.iconst (-1), 1) := by decide +kernel
theorem d51_117 : decode (am_bytes 51) 117 = .ok (.ireturn, 1) := by decide +kernel
theorem d52_0 : decode (am_bytes 52) 0 = .ok (.iload_n 1, 1) := by decide +kernel
theorem d52_1 : decode (am_bytes 52) 1 = .ok (.istore_n 3, 1) := by decide +kernel
theorem d52_2 : decode (am_bytes 52) 2 = .ok (.iload_n 3, 1) := by decide +kernel
theorem d52_3 : decode (am_bytes 52) 3 = .ok (.ifCond .lt 18, 3) := by decide +kernel
theorem d52_6 : decode (am_bytes 52) 6 = .ok (.iload_n 3, 1) := by decide +kernel
theorem d52_7 : decode (am_bytes 52) 7 = .ok (.iload_n 2, 1) := by decide +kernel
theorem d52_8 : decode (am_bytes 52) 8 = .ok (.if_icmp .eq 13, 3) := by decide +kernel
theorem d52_11 : decode (am_bytes 52) 11 = .ok (.aload_n 0, 1) := by decide +kernel
theorem d52_12 : decode (am_bytes 52) 12 = .ok (.getfield 13, 3) := by decide +kernel
theorem d52_15 : decode (am_bytes 52) 15 = .ok (.iload_n 3, 1) := by decide +kernel
theorem d52_16 : decode (am_bytes 52) 16 = .ok (.iaload, 1) := by decide +kernel
theorem d52_17 : decode (am_bytes 52) 17 = .ok (.istore_n 3, 1) := by decide +kernel
theorem d52_18 : decode (am_bytes 52) 18 = .ok (.goto (-16), 3) := by decide +kernel
theorem d52_21 : decode (am_bytes 52) 21 = .ok (.iload_n 3, 1) := by decide +kernel
theorem d52_22 : decode (am_bytes 52) 22 = .ok (.iload_n 2, 1) := by decide +kernel
theorem d52_23 : decode (am_bytes 52) 23 = .ok (.if_icmp .ne 7, 3) := by decide +kernel
theorem d52_26 : decode (am_bytes 52) 26 = .ok (.iconst 1, 1) := by decide +kernel
theorem d52_27 : decode (am_bytes 52) 27 = .ok (.goto 4, 3) := by decide +kernel
theorem d52_30 : decode (am_bytes 52) 30 = .ok (.iconst 0, 1) := by decide +kernel
theorem d52_31 : decode (am_bytes 52) 31 = .ok (.ireturn, 1) := by decide +kernel
theorem d53_0 : decode (am_bytes 53) 0 = .ok (.aload_n 0, 1) := by decide +kernel
theorem d53_1 : decode (am_bytes 53) 1 = .ok (.getfield 55, 3) := by decide +kernel
theorem d53_4 : decode (am_bytes 53) 4 = .ok (.istore_n 3, 1) := by decide +kernel
theorem d53_5 : decode (am_bytes 53) 5 = .ok (.iload_n 1, 1) := by decide +kernel
theorem d53_6 : decode (am_bytes 53) 6 = .ok (.istore 4, 2) := by decide +kernel
theorem d53_8 : decode (am_bytes 53) 8 = .ok (.iload 4, 2) := by decide +kernel
theorem d53_10 : decode (am_bytes 53) 10 = .ok (.iload_n 2, 1) := by decide +kernel
theorem d53_11 : decode (am_bytes 53) 11 = .ok (.if_icmp .eq 23, 3) := by decide +kernel
theorem d53_14 : decode (am_bytes 53) 14 = .ok (.aload_n 0, 1) := by decide +kernel
theorem d53_15 : decode (am_bytes 53) 15 = .ok (.getfield 17, 3) := by decide +kernel
theorem d53_18 : decode (am_bytes 53) 18 = .ok (.iload 4, 2) := by decide +kernel
theorem d53_20 : decode (am_bytes 53) 20 = .ok (.iaload, 1) := by decide +kernel
theorem d53_21 : decode (am_bytes 53) 21 = .ok (.istore_n 3, 1) := by decide +kernel
theorem d53_22 : decode (am_bytes 53) 22 = .ok (.aload_n 0, 1) := by decide +kernel
theorem d53_23 : decode (am_bytes 53) 23 = .ok (.getfield 13, 3) := by decide +kernel
theorem d53_26 : decode (am_bytes 53) 26 = .ok (.iload 4, 2) := by decide +kernel
theorem d53_28 : decode (am_bytes 53) 28 = .ok (.iaload, 1) := by decide +kernel
theorem d53_29 : decode (am_bytes 53) 29 = .ok (.istore 4, 2) := by decide +kernel
theorem d53_31 : decode (am_bytes 53) 31 = .ok (.goto (-23), 3) := by decide +kernel
theorem d53_34 : decode (am_bytes 53) 34 = .ok (.iload_n 3, 1) := by decide +kernel
theorem d53_35 : decode (am_bytes 53) 35 = .ok (.ireturn, 1) := by decide +kernel
theorem d54_0 : decode (am_bytes 54) 0 = .ok (.iload_n 1, 1) := by decide +kernel
theorem d54_1 : decode (am_bytes 54) 1 = .ok (.istore_n 3, 1) := by decide +kernel
theorem d54_2 : decode (am_bytes 54) 2 = .ok (.aload_n 0, 1) := by decide +kernel
theorem d54_3 : decode (am_bytes 54) 3 = .ok (.iload_n 2, 1) := by decide +kernel
theorem d54_4 : decode (am_bytes 54) 4 = .ok (.iload_n 3, 1) := by decide +kernel
theorem d54_5 : decode (am_bytes 54) 5 = .ok (.invokevirtual 99, 3) := by decide +kernel
theorem d54_8 : decode (am_bytes 54) 8 = .ok (.ifCond .ne 13, 3) := by decide +kernel
theorem d54_11 : decode (am_bytes 54) 11 = .ok (.aload_n 0, 1) := by decide +kernel
theorem d54_12 : decode (am_bytes 54) 12 = .ok (.getfield 13, 3) := by decide +kernel
theorem d54_15 : decode (am_bytes 54) 15 = .ok (.iload_n 3, 1) := by decide +kernel
theorem d54_16 : decode (am_bytes 54) 16 = .ok (.iaload, 1) := by decide +kernel
theorem d54_17 : decode (am_bytes 54) 17 = .ok (.istore_n 3, 1) := by decide +kernel
theorem d54_18 : decode (am_bytes 54) 18 = .ok (.goto (-16), 3) := by decide +kernel
theorem d54_21 : decode (am_bytes 54) 21 = .ok (.aload_n 0, 1) := by decide +kernel
theorem d54_22 : decode (am_bytes 54) 22 = .ok (.iload_n 1, 1) := by decide +kernel
theorem d54_23 : decode (am_bytes 54) 23 = .ok (.iload_n 3, 1) := by decide +kernel
theorem d54_24 : decode (am_bytes 54) 24 = .ok (.invokevirtual 102, 3) := by decide +kernel
theorem d54_27 : decode (am_bytes 54) 27 = .ok (.istore 4, 2) := by decide +kernel
theorem d54_29 : decode (am_bytes 54) 29 = .ok (.aload_n 0, 1) := by decide +kernel
theorem d54_30 : decode (am_bytes 54) 30 = .ok (.iload_n 2, 1) := by decide +kernel
theorem d54_31 : decode (am_bytes 54) 31 = .ok (.iload_n 3, 1) := by decide +kernel
theorem d54_32 : decode (am_bytes 54) 32 = .ok (.invokevirtual 102, 3) := by decide +kernel
theorem d54_35 : decode (am_bytes 54) 35 = .ok (.istore 5, 2) := by decide +kernel
theorem d54_37 : decode (am_bytes 54) 37 = .ok (.iload 4, 2) := by decide +kernel
theorem d54_39 : decode (am_bytes 54) 39 = .ok (.iload 5, 2) := by decide +kernel
theorem d54_41 : decode (am_bytes 54) 41 = .ok (.if_icmp .ge 8, 3) := by decide +kernel
theorem d54_44 : decode (am_bytes 54) 44 = .ok (.iload 4, 2) := by decide +kernel
theorem d54_46 : decode (am_bytes 54) 46 = .ok (.goto 5, 3) := by decide +kernel
theorem d54_49 : decode (am_bytes 54) 49 = .ok (.iload 5, 2) := by decide +kernel
theorem d54_51 : decode (am_bytes 54) 51 = .ok (.ireturn, 1) := by decide +kernel
theorem d55_0 : decode (am_bytes 55) 0 = .ok (.aload_n 0, 1) := by decide +kernel
theorem d55_1 : decode (am_bytes 55) 1 = .ok (.aload_n 0, 1) := by decide +kernel
theorem d55_2 : decode (am_bytes 55) 2 = .ok (.iload_n 1, 1) := by decide +kernel
theorem d55_3 : decode (am_bytes 55) 3 = .ok (.invokevirtual 79, 3) := by decide +kernel
theorem d55_6 : decode (am_bytes 55) 6 = .ok (.ifCond .ne 11, 3) := by decide +kernel
theorem d55_9 : decode (am_bytes 55) 9 = .ok (.aload_n 0, 1) := by decide +kernel
theorem d55_10 : decode (am_bytes 55) 10 = .ok (.iload_n 2, 1) := by decide +kernel
theorem d55_11 : decode (am_bytes 55) 11 = .ok (.invokevirtual 79, 3) := by decide +kernel
theorem d55_14 : decode (am_bytes 55) 14 = .ok (.ifCond .eq 7, 3) := by decide +kernel
theorem d55_17 : decode (am_bytes 55) 17 = .ok (.iconst 1, 1) := by decide +kernel
theorem d55_18 : decode (am_bytes 55) 18 = .ok (.goto 4, 3) := by decide +kernel
theorem d55_21 : decode (am_bytes 55) 21 = .ok (.iconst 0, 1) := by decide +kernel
theorem d55_22 : decode (am_bytes 55) 22 = .ok (.putfield 45, 3) := by decide +kernel
theorem d55_25 : decode (am_bytes 55) 25 = .ok (.aload_n 0, 1) := by decide +kernel
theorem d55_26 : decode (am_bytes 55) 26 = .ok (.getfield 45, 3) := by decide +kernel
theorem d55_29 : decode (am_bytes 55) 29 = .ok (.ifCond .le 7, 3) := by decide +kernel
theorem d55_32 : decode (am_bytes 55) 32 = .ok (.iconst 0, 1) := by decide +kernel
theorem d55_33 : decode (am_bytes 55) 33 = .ok (.goto 9, 3) := by decide +kernel
theorem d55_36 : decode (am_bytes 55) 36 = .ok (.aload_n 0, 1) := by decide +kernel
theorem d55_37 : decode (am_bytes 55) 37 = .ok (.iload_n 1, 1) := by decide +kernel
theorem d55_38 : decode (am_bytes 55) 38 = .ok (.iload_n 2, 1) := by decide +kernel
theorem d55_39 : decode (am_bytes 55) 39 = .ok (.invokevirtual 106, 3) := by decide +kernel
theorem d55_42 : decode (am_bytes 55) 42 = .ok (.ireturn, 1) := by decide +kernel
theorem d56_0 : decode (am_bytes 56) 0 = .ok (.aload_n 0, 1) := by decide +kernel
theorem d56_1 : decode (am_bytes 56) 1 = .ok (.aload_n 0, 1) := by decide +kernel
theorem d56_2 : decode (am_bytes 56) 2 = .ok (.iload_n 1, 1) := by decide +kernel
theorem d56_3 : decode (am_bytes 56) 3 = .ok (.aload_n 0, 1) := by decide +kernel
theorem d56_4 : decode (am_bytes 56) 4 = .ok (.getfield 55, 3) := by decide +kernel
theorem d56_7 : decode (am_bytes 56) 7 = .ok (.iload_n 2, 1) := by decide +kernel
theorem d56_8 : decode (am_bytes 56) 8 = .ok (.invokevirtual 75, 3) := by decide +kernel
theorem d56_11 : decode (am_bytes 56) 11 = .ok (.aload_n 0, 1) := by decide +kernel
theorem d56_12 : decode (am_bytes 56) 12 = .ok (.iload_n 1, 1) := by decide +kernel
theorem d56_13 : decode (am_bytes 56) 13 = .ok (.iload_n 3, 1) := by decide +kernel
theorem d56_14 : decode (am_bytes 56) 14 = .ok (.iload_n 2, 1) := by decide +kernel
theorem d56_15 : decode (am_bytes 56) 15 = .ok (.invokevirtual 75, 3) := by decide +kernel
theorem d56_18 : decode (am_bytes 56) 18 = .ok (.invokevirtual 96, 3) := by decide +kernel
theorem d56_21 : decode (am_bytes 56) 21 = .ok (.ifCond .ne 7, 3) := by decide +kernel
theorem d56_24 : decode (am_bytes 56) 24 = .ok (.iconst 1, 1) := by decide +kernel
theorem d56_25 : decode (am_bytes 56) 25 = .ok (.goto 4, 3) := by decide +kernel
theorem d56_28 : decode (am_bytes 56) 28 = .ok (.iconst 0, 1) := by decide +kernel
theorem d56_29 : decode (am_bytes 56) 29 = .ok (.ireturn, 1) := by decide +kernel
theorem d57_0 : decode (am_bytes 57) 0 = .ok (.aload_n 0, 1) := by decide +kernel
theorem d57_1 : decode (am_bytes 57) 1 = .ok (.aload_n 0, 1) := by decide +kernel
theorem d57_2 : decode (am_bytes 57) 2 = .ok (.iload_n 1, 1) := by decide +kernel
theorem d57_3 : decode (am_bytes 57) 3 = .ok (.invokevirtual 79, 3) := by decide +kernel
theorem d57_6 : decode (am_bytes 57) 6 = .ok (.ifCond .ne 11, 3) := by decide +kernel
theorem d57_9 : decode (am_bytes 57) 9 = .ok (.aload_n 0, 1) := by decide +kernel
theorem d57_10 : decode (am_bytes 57) 10 = .ok (.iload_n 2, 1) := by decide +kernel
theorem d57_11 : decode (am_bytes 57) 11 = .ok (.invokevirtual 79, 3) := by decide +kernel
theorem d57_14 : decode (am_bytes 57) 14 = .ok (.ifCond .eq 7, 3) := by decide +kernel
theorem d57_17 : decode (am_bytes 57) 17 = .ok (.iconst 1, 1) := by decide +kernel
theorem d57_18 : decode (am_bytes 57) 18 = .ok (.goto 13, 3) := by decide +kernel
theorem d57_21 : decode (am_bytes 57) 21 = .ok (.iload_n 1, 1) := by decide +kernel
theorem d57_22 : decode (am_bytes 57) 22 = .ok (.iload_n 2, 1) := by decide +kernel
theorem d57_23 : decode (am_bytes 57) 23 = .ok (.if_icmp .ne 7, 3) := by decide +kernel
theorem d57_26 : decode (am_bytes 57) 26 = .ok (.iconst 2, 1) := by decide +kernel
theorem d57_27 : decode (am_bytes 57) 27 = .ok (.goto 4, 3) := by decide +kernel
theorem d57_30 : decode (am_bytes 57) 30 = .ok (.iconst 0, 1) := by decide +kernel
theorem d57_31 : decode (am_bytes 57) 31 = .ok (.putfield 45, 3) := by decide +kernel
theorem d57_34 : decode (am_bytes 57) 34 = .ok (.aload_n 0, 1) := by decide +kernel
theorem d57_35 : decode (am_bytes 57) 35 = .ok (.getfield 45, 3) := by decide +kernel
theorem d57_38 : decode (am_bytes 57) 38 = .ok (.ifCond .le 5, 3) := by decide +kernel
theorem d57_41 : decode (am_bytes 57) 41 = .ok (.iconst 0, 1) := by decide +kernel
theorem d57_42 : decode (am_bytes 57) 42 = .ok (.ireturn, 1) := by decide +kernel
theorem d57_43 : decode (am_bytes 57) 43 = .ok (.aload_n 0, 1) := by decide +kernel
theorem d57_44 : decode (am_bytes 57) 44 = .ok (.iload_n 1, 1) := by decide +kernel
theorem d57_45 : decode (am_bytes 57) 45 = .ok (.iload_n 2, 1) := by decide +kernel
theorem d57_46 : decode (am_bytes 57) 46 = .ok (.invokevirtual 106, 3) := by decide +kernel
theorem d57_49 : decode (am_bytes 57) 49 = .ok (.istore_n 3, 1) := by decide +kernel
theorem d57_50 : decode (am_bytes 57) 50 = .ok (.aload_n 0, 1) := by decide +kernel
theorem d57_51 : decode (am_bytes 57) 51 = .ok (.aload_n 0, 1) := by decide +kernel
theorem d57_52 : decode (am_bytes 57) 52 = .ok (.getfield 20, 3) := by decide +kernel
theorem d57_55 : decode (am_bytes 57) 55 = .ok (.iload_n 1, 1) := by decide +kernel
theorem d57_56 : decode (am_bytes 57) 56 = .ok (.baload, 1) := by decide +kernel
theorem d57_57 : decode (am_bytes 57) 57 = .ok (.ifCond .ne 20, 3) := by decide +kernel
theorem d57_60 : decode (am_bytes 57) 60 = .ok (.aload_n 0, 1) := by decide +kernel
theorem d57_61 : decode (am_bytes 57) 61 = .ok (.getfield 20, 3) := by decide +kernel
theorem d57_64 : decode (am_bytes 57) 64 = .ok (.iload_n 2, 1) := by decide +kernel
theorem d57_65 : decode (am_bytes 57) 65 = .ok (.baload, 1) := by decide +kernel
theorem d57_66 : decode (am_bytes 57) 66 = .ok (.ifCond .ne 11, 3) := by decide +kernel
theorem d57_69 : decode (am_bytes 57) 69 = .ok (.iload_n 3, 1) := by decide +kernel
theorem d57_70 : decode (am_bytes 57) 70 = .ok (.aload_n 0, 1) := by decide +kernel
theorem d57_71 : decode (am_bytes 57) 71 = .ok (.getfield 48, 3) := by decide +kernel
theorem d57_74 : decode (am_bytes 57) 74 = .ok (.if_icmp .ge 7, 3) := by decide +kernel
theorem d57_77 : decode (am_bytes 57) 77 = .ok (.iconst 3, 1) := by decide +kernel
theorem d57_78 : decode (am_bytes 57) 78 = .ok (.goto 4, 3) := by decide +kernel
theorem d57_81 : decode (am_bytes 57) 81 = .ok (.iconst 0, 1) := by decide +kernel
theorem d57_82 : decode (am_bytes 57) 82 = .ok (.putfield 45, 3) := by decide +kernel
theorem d57_85 : decode (am_bytes 57) 85 = .ok (.aload_n 0, 1) := by decide +kernel
theorem d57_86 : decode (am_bytes 57) 86 = .ok (.getfield 45, 3) := by decide +kernel
theorem d57_89 : decode (am_bytes 57) 89 = .ok (.ifCond .le 5, 3) := by decide +kernel
theorem d57_92 : decode (am_bytes 57) 92 = .ok (.iconst 0, 1) := by decide +kernel
theorem d57_93 : decode (am_bytes 57) 93 = .ok (.ireturn, 1) := by decide +kernel
theorem d57_94 : decode (am_bytes 57) 94 = .ok (.iconst 0, 1) := by decide +kernel
theorem d57_95 : decode (am_bytes 57) 95 = .ok (.istore 4, 2) := by decide +kernel
theorem d57_97 : decode (am_bytes 57) 97 = .ok (.iconst 0, 1) := by decide +kernel
theorem d57_98 : decode (am_bytes 57) 98 = .ok (.istore 5, 2) := by decide +kernel
theorem d57_100 : decode (am_bytes 57) 100 = .ok (.iconst 0, 1) := by decide +kernel
theorem d57_101 : decode (am_bytes 57) 101 = .ok (.istore 6, 2) := by decide +kernel
theorem d57_103 : decode (am_bytes 57) 103 = .ok (.iload 6, 2) := by decide +kernel
theorem d57_105 : decode (am_bytes 57) 105 = .ok (.bipush 48, 2) := by decide +kernel
theorem d57_107 : decode (am_bytes 57) 107 = .ok (.if_icmp .ge 99, 3) := by decide +kernel
theorem d57_110 : decode (am_bytes 57) 110 = .ok (.aload_n 0, 1) := by decide +kernel
theorem d57_111 : decode (am_bytes 57) 111 = .ok (.iload_n 1, 1) := by decide +kernel
theorem d57_112 : decode (am_bytes 57) 112 = .ok (.iload 6, 2) := by decide +kernel
theorem d57_114 : decode (am_bytes 57) 114 = .ok (.iload_n 3, 1) := by decide +kernel
theorem d57_115 : decode (am_bytes 57) 115 = .ok (.invokevirtual 109, 3) := by decide +kernel
theorem d57_118 : decode (am_bytes 57) 118 = .ok (.ifCond .eq 36, 3) := by decide +kernel
theorem d57_121 : decode (am_bytes 57) 121 = .ok (.aload_n 0, 1) := by decide +kernel
theorem d57_122 : decode (am_bytes 57) 122 = .ok (.aload_n 0, 1) := by decide +kernel
theorem d57_123 : decode (am_bytes 57) 123 = .ok (.iload_n 1, 1) := by decide +kernel
theorem d57_124 : decode (am_bytes 57) 124 = .ok (.aload_n 0, 1) := by decide +kernel
theorem d57_125 : decode (am_bytes 57) 125 = .ok (.getfield 55, 3) := by decide +kernel
theorem d57_128 : decode (am_bytes 57) 128 = .ok (.iload 6, 2) := by decide +kernel
theorem d57_130 : decode (am_bytes 57) 130 = .ok (.invokevirtual 75, 3) := by decide +kernel
theorem d57_133 : decode (am_bytes 57) 133 = .ok (.aload_n 0, 1) := by decide +kernel
theorem d57_134 : decode (am_bytes 57) 134 = .ok (.iload_n 2, 1) := by decide +kernel
theorem d57_135 : decode (am_bytes 57) 135 = .ok (.aload_n 0, 1) := by decide +kernel
theorem d57_136 : decode (am_bytes 57) 136 = .ok (.getfield 55, 3) := by decide +kernel
theorem d57_139 : decode (am_bytes 57) 139 = .ok (.iload 6, 2) := by decide +kernel
theorem d57_141 : decode (am_bytes 57) 141 = .ok (.invokevirtual 75, 3) := by decide +kernel
theorem d57_144 : decode (am_bytes 57) 144 = .ok (.invokevirtual 96, 3) := by decide +kernel
theorem d57_147 : decode (am_bytes 57) 147 = .ok (.ifCond .ne 7, 3) := by decide +kernel
theorem d57_150 : decode (am_bytes 57) 150 = .ok (.iconst 1, 1) := by decide +kernel
theorem d57_151 : decode (am_bytes 57) 151 = .ok (.goto 4, 3) := by decide +kernel
theorem d57_154 : decode (am_bytes 57) 154 = .ok (.iconst 0, 1) := by decide +kernel
theorem d57_155 : decode (am_bytes 57) 155 = .ok (.istore 7, 2) := by decide +kernel
theorem d57_157 : decode (am_bytes 57) 157 = .ok (.iload 7, 2) := by decide +kernel
theorem d57_159 : decode (am_bytes 57) 159 = .ok (.ifCond .eq 10, 3) := by decide +kernel
theorem d57_162 : decode (am_bytes 57) 162 = .ok (.iload 5, 2) := by decide +kernel
theorem d57_164 : decode (am_bytes 57) 164 = .ok (.iconst 1, 1) := by decide +kernel
theorem d57_165 : decode (am_bytes 57) 165 = .ok (.iadd, 1) := by decide +kernel
theorem d57_166 : decode (am_bytes 57) 166 = .ok (.goto 5, 3) := by decide +kernel
theorem d57_169 : decode (am_bytes 57) 169 = .ok (.iload 5, 2) := by decide +kernel
theorem d57_171 : decode (am_bytes 57) 171 = .ok (.istore 5, 2) := by decide +kernel
theorem d57_173 : decode (am_bytes 57) 173 = .ok (.iload 7, 2) := by decide +kernel
theorem d57_175 : decode (am_bytes 57) 175 = .ok (.ifCond .eq 21, 3) := by decide +kernel
theorem d57_178 : decode (am_bytes 57) 178 = .ok (.aload_n 0, 1) := by decide +kernel
theorem d57_179 : decode (am_bytes 57) 179 = .ok (.iload_n 2, 1) := by decide +kernel
theorem d57_180 : decode (am_bytes 57) 180 = .ok (.iload 6, 2) := by decide +kernel
theorem d57_182 : decode (am_bytes 57) 182 = .ok (.iload_n 3, 1) := by decide +kernel
theorem d57_183 : decode (am_bytes 57) 183 = .ok (.invokevirtual 109, 3) := by decide +kernel
theorem d57_186 : decode (am_bytes 57) 186 = .ok (.ifCond .eq 10, 3) := by decide +kernel
theorem d57_189 : decode (am_bytes 57) 189 = .ok (.iload 4, 2) := by decide +kernel
theorem d57_191 : decode (am_bytes 57) 191 = .ok (.iconst 1, 1) := by decide +kernel
theorem d57_192 : decode (am_bytes 57) 192 = .ok (.iadd, 1) := by decide +kernel
theorem d57_193 : decode (am_bytes 57) 193 = .ok (.goto 5, 3) := by decide +kernel
theorem d57_196 : decode (am_bytes 57) 196 = .ok (.iload 4, 2) := by decide +kernel
theorem d57_198 : decode (am_bytes 57) 198 = .ok (.istore 4, 2) := by decide +kernel
theorem d57_200 : decode (am_bytes 57) 200 = .ok (.iinc 6 1, 3) := by decide +kernel
theorem d57_203 : decode (am_bytes 57) 203 = .ok (.goto (-100), 3) := by decide +kernel
theorem d57_206 : decode (am_bytes 57) 206 = .ok (.aload_n 0, 1) := by decide +kernel
theorem d57_207 : decode (am_bytes 57) 207 = .ok (.iload 4, 2) := by decide +kernel
theorem d57_209 : decode (am_bytes 57) 209 = .ok (.ifCond .ne 19, 3) := by decide +kernel
theorem d57_212 : decode (am_bytes 57) 212 = .ok (.aload_n 0, 1) := by decide +kernel
theorem d57_213 : decode (am_bytes 57) 213 = .ok (.getfield 58, 3) := by decide +kernel
theorem d57_216 : decode (am_bytes 57) 216 = .ok (.iload 5, 2) := by decide +kernel
theorem d57_218 : decode (am_bytes 57) 218 = .ok (.iadd, 1) := by decide +kernel
theorem d57_219 : decode (am_bytes 57) 219 = .ok (.bipush 120, 2) := by decide +kernel
theorem d57_221 : decode (am_bytes 57) 221 = .ok (.if_icmp .le 7, 3) := by decide +kernel
theorem d57_224 : decode (am_bytes 57) 224 = .ok (.iconst 4, 1) := by decide +kernel
theorem d57_225 : decode (am_bytes 57) 225 = .ok (.goto 4, 3) := by decide +kernel
theorem d57_228 : decode (am_bytes 57) 228 = .ok (.iconst 0, 1) := by decide +kernel
theorem d57_229 : decode (am_bytes 57) 229 = .ok (.putfield 45, 3) := by decide +kernel
theorem d57_232 : decode (am_bytes 57) 232 = .ok (.aload_n 0, 1) := by decide +kernel
theorem d57_233 : decode (am_bytes 57) 233 = .ok (.getfield 45, 3) := by decide +kernel
theorem d57_236 : decode (am_bytes 57) 236 = .ok (.ifCond .le 5, 3) := by decide +kernel
theorem d57_239 : decode (am_bytes 57) 239 = .ok (.iconst 0, 1) := by decide +kernel
theorem d57_240 : decode (am_bytes 57) 240 = .ok (.ireturn, 1) := by decide +kernel
theorem d57_241 : decode (am_bytes 57) 241 = .ok (.aload_n 0, 1) := by decide +kernel
theorem d57_242 : decode (am_bytes 57) 242 = .ok (.getfield 55, 3) := by decide +kernel
theorem d57_245 : decode (am_bytes 57) 245 = .ok (.istore 6, 2) := by decide +kernel
theorem d57_247 : decode (am_bytes 57) 247 = .ok (.iconst 0, 1) := by decide +kernel
theorem d57_248 : decode (am_bytes 57) 248 = .ok (.istore 7, 2) := by decide +kernel
theorem d57_250 : decode (am_bytes 57) 250 = .ok (.iload 7, 2) := by decide +kernel
theorem d57_252 : decode (am_bytes 57) 252 = .ok (.bipush 48, 2) := by decide +kernel
theorem d57_254 : decode (am_bytes 57) 254 = .ok (.if_icmp .ge 79, 3) := by decide +kernel
theorem d57_257 : decode (am_bytes 57) 257 = .ok (.iload 4, 2) := by decide +kernel
theorem d57_259 : decode (am_bytes 57) 259 = .ok (.ifCond .ne 74, 3) := by decide +kernel
theorem d57_262 : decode (am_bytes 57) 262 = .ok (.aload_n 0, 1) := by decide +kernel
theorem d57_263 : decode (am_bytes 57) 263 = .ok (.iload_n 1, 1) := by decide +kernel
theorem d57_264 : decode (am_bytes 57) 264 = .ok (.iload 6, 2) := by decide +kernel
theorem d57_266 : decode (am_bytes 57) 266 = .ok (.iload 7, 2) := by decide +kernel
theorem d57_268 : decode (am_bytes 57) 268 = .ok (.invokevirtual 75, 3) := by decide +kernel
theorem d57_271 : decode (am_bytes 57) 271 = .ok (.istore 8, 2) := by decide +kernel
theorem d57_273 : decode (am_bytes 57) 273 = .ok (.aload_n 0, 1) := by decide +kernel
theorem d57_274 : decode (am_bytes 57) 274 = .ok (.iload 8, 2) := by decide +kernel
theorem d57_276 : decode (am_bytes 57) 276 = .ok (.aload_n 0, 1) := by decide +kernel
theorem d57_277 : decode (am_bytes 57) 277 = .ok (.iload_n 1, 1) := by decide +kernel
theorem d57_278 : decode (am_bytes 57) 278 = .ok (.iload_n 3, 1) := by decide +kernel
theorem d57_279 : decode (am_bytes 57) 279 = .ok (.iload 7, 2) := by decide +kernel
theorem d57_281 : decode (am_bytes 57) 281 = .ok (.invokevirtual 75, 3) := by decide +kernel
theorem d57_284 : decode (am_bytes 57) 284 = .ok (.invokevirtual 96, 3) := by decide +kernel
theorem d57_287 : decode (am_bytes 57) 287 = .ok (.ifCond .ne 40, 3) := by decide +kernel
theorem d57_290 : decode (am_bytes 57) 290 = .ok (.aload_n 0, 1) := by decide +kernel
theorem d57_291 : decode (am_bytes 57) 291 = .ok (.iload 8, 2) := by decide +kernel
theorem d57_293 : decode (am_bytes 57) 293 = .ok (.aload_n 0, 1) := by decide +kernel
theorem d57_294 : decode (am_bytes 57) 294 = .ok (.iload_n 2, 1) := by decide +kernel
theorem d57_295 : decode (am_bytes 57) 295 = .ok (.iload 6, 2) := by decide +kernel
theorem d57_297 : decode (am_bytes 57) 297 = .ok (.iload 7, 2) := by decide +kernel
theorem d57_299 : decode (am_bytes 57) 299 = .ok (.invokevirtual 75, 3) := by decide +kernel
theorem d57_302 : decode (am_bytes 57) 302 = .ok (.invokevirtual 96, 3) := by decide +kernel
theorem d57_305 : decode (am_bytes 57) 305 = .ok (.ifCond .ne 22, 3) := by decide +kernel
theorem d57_308 : decode (am_bytes 57) 308 = .ok (.aload_n 0, 1) := by decide +kernel
theorem d57_309 : decode (am_bytes 57) 309 = .ok (.iload_n 2, 1) := by decide +kernel
theorem d57_310 : decode (am_bytes 57) 310 = .ok (.iload 7, 2) := by decide +kernel
theorem d57_312 : decode (am_bytes 57) 312 = .ok (.aload_n 0, 1) := by decide +kernel
theorem d57_313 : decode (am_bytes 57) 313 = .ok (.iload 8, 2) := by decide +kernel
theorem d57_315 : decode (am_bytes 57) 315 = .ok (.invokevirtual 65, 3) := by decide +kernel
theorem d57_318 : decode (am_bytes 57) 318 = .ok (.aload_n 0, 1) := by decide +kernel
theorem d57_319 : decode (am_bytes 57) 319 = .ok (.iload 8, 2) := by decide +kernel
theorem d57_321 : decode (am_bytes 57) 321 = .ok (.invokevirtual 68, 3) := by decide +kernel
theorem d57_324 : decode (am_bytes 57) 324 = .ok (.invokevirtual 89, 3) := by decide +kernel
theorem d57_327 : decode (am_bytes 57) 327 = .ok (.iinc 7 1, 3) := by decide +kernel
theorem d57_330 : decode (am_bytes 57) 330 = .ok (.goto (-80), 3) := by decide +kernel
theorem d57_333 : decode (am_bytes 57) 333 = .ok (.iload 4, 2) := by decide +kernel
theorem d57_335 : decode (am_bytes 57) 335 = .ok (.ireturn, 1) := by decide +kernel
theorem d58_0 : decode (am_bytes 58) 0 = .ok (.aload_n 0, 1) := by decide +kernel
theorem d58_1 : decode (am_bytes 58) 1 = .ok (.iload_n 1, 1) := by decide +kernel
theorem d58_2 : decode (am_bytes 58) 2 = .ok (.aload_n 0, 1) := by decide +kernel
theorem d58_3 : decode (am_bytes 58) 3 = .ok (.getfield 48, 3) := by decide +kernel
theorem d58_6 : decode (am_bytes 58) 6 = .ok (.if_icmp .lt 11, 3) := by decide +kernel
theorem d58_9 : decode (am_bytes 58) 9 = .ok (.iload_n 1, 1) := by decide +kernel
theorem d58_10 : decode (am_bytes 58) 10 = .ok (.aload_n 0, 1) := by decide +kernel
theorem d58_11 : decode (am_bytes 58) 11 = .ok (.getfield 55, 3) := by decide +kernel
theorem d58_14 : decode (am_bytes 58) 14 = .ok (.if_icmp .le 7, 3) := by decide +kernel
theorem d58_17 : decode (am_bytes 58) 17 = .ok (.iconst 1, 1) := by decide +kernel
theorem d58_18 : decode (am_bytes 58) 18 = .ok (.goto 4, 3) := by decide +kernel
theorem d58_21 : decode (am_bytes 58) 21 = .ok (.iconst 0, 1) := by decide +kernel
theorem d58_22 : decode (am_bytes 58) 22 = .ok (.putfield 45, 3) := by decide +kernel
theorem d58_25 : decode (am_bytes 58) 25 = .ok (.aload_n 0, 1) := by decide +kernel
theorem d58_26 : decode (am_bytes 58) 26 = .ok (.getfield 45, 3) := by decide +kernel
theorem d58_29 : decode (am_bytes 58) 29 = .ok (.ifCond .le 5, 3) := by decide +kernel
theorem d58_32 : decode (am_bytes 58) 32 = .ok (.iconst 0, 1) := by decide +kernel
theorem d58_33 : decode (am_bytes 58) 33 = .ok (.ireturn, 1) := by decide +kernel
theorem d58_34 : decode (am_bytes 58) 34 = .ok (.aload_n 0, 1) := by decide +kernel
theorem d58_35 : decode (am_bytes 58) 35 = .ok (.iload_n 1, 1) := by decide +kernel
theorem d58_36 : decode (am_bytes 58) 36 = .ok (.putfield 48, 3) := by decide +kernel
theorem d58_39 : decode (am_bytes 58) 39 = .ok (.iconst 0, 1) := by decide +kernel
theorem d58_40 : decode (am_bytes 58) 40 = .ok (.istore_n 2, 1) := by decide +kernel
theorem d58_41 : decode (am_bytes 58) 41 = .ok (.iload_n 2, 1) := by decide +kernel
theorem d58_42 : decode (am_bytes 58) 42 = .ok (.aload_n 0, 1) := by decide +kernel
theorem d58_43 : decode (am_bytes 58) 43 = .ok (.getfield 58, 3) := by decide +kernel
theorem d58_46 : decode (am_bytes 58) 46 = .ok (.if_icmp .ge 61, 3) := by decide +kernel
theorem d58_49 : decode (am_bytes 58) 49 = .ok (.aload_n 0, 1) := by decide +kernel
theorem d58_50 : decode (am_bytes 58) 50 = .ok (.getfield 39, 3) := by decide +kernel
theorem d58_53 : decode (am_bytes 58) 53 = .ok (.iload_n 2, 1) := by decide +kernel
theorem d58_54 : decode (am_bytes 58) 54 = .ok (.iconst 0, 1) := by decide +kernel
theorem d58_55 : decode (am_bytes 58) 55 = .ok (.bastore, 1) := by decide +kernel
theorem d58_56 : decode (am_bytes 58) 56 = .ok (.iconst 0, 1) := by decide +kernel
theorem d58_57 : decode (am_bytes 58) 57 = .ok (.istore_n 3, 1) := by decide +kernel
theorem d58_58 : decode (am_bytes 58) 58 = .ok (.iload_n 3, 1) := by decide +kernel
theorem d58_59 : decode (am_bytes 58) 59 = .ok (.aload_n 0, 1) := by decide +kernel
theorem d58_60 : decode (am_bytes 58) 60 = .ok (.getfield 7, 3) := by decide +kernel
theorem d58_63 : decode (am_bytes 58) 63 = .ok (.if_icmp .ge 38, 3) := by decide +kernel
theorem d58_66 : decode (am_bytes 58) 66 = .ok (.aload_n 0, 1) := by decide +kernel
theorem d58_67 : decode (am_bytes 58) 67 = .ok (.getfield 39, 3) := by decide +kernel
theorem d58_70 : decode (am_bytes 58) 70 = .ok (.iload_n 2, 1) := by decide +kernel
theorem d58_71 : decode (am_bytes 58) 71 = .ok (.aload_n 0, 1) := by decide +kernel
theorem d58_72 : decode (am_bytes 58) 72 = .ok (.getfield 39, 3) := by decide +kernel
theorem d58_75 : decode (am_bytes 58) 75 = .ok (.iload_n 2, 1) := by decide +kernel
theorem d58_76 : decode (am_bytes 58) 76 = .ok (.baload, 1) := by decide +kernel
theorem d58_77 : decode (am_bytes 58) 77 = .ok (.ifCond .ne 12, 3) := by decide +kernel
theorem d58_80 : decode (am_bytes 58) 80 = .ok (.aload_n 0, 1) := by decide +kernel
theorem d58_81 : decode (am_bytes 58) 81 = .ok (.iload_n 3, 1) := by decide +kernel
theorem d58_82 : decode (am_bytes 58) 82 = .ok (.iload_n 2, 1) := by decide +kernel
theorem d58_83 : decode (am_bytes 58) 83 = .ok (.invokevirtual 93, 3) := by decide +kernel
theorem d58_86 : decode (am_bytes 58) 86 = .ok (.ifCond .eq 7, 3) := by decide +kernel
theorem d58_89 : decode (am_bytes 58) 89 = .ok (.iconst 1, 1) := by decide +kernel
theorem d58_90 : decode (am_bytes 58) 90 = .ok (.goto 4, 3) := by decide +kernel
theorem d58_93 : decode (am_bytes 58) 93 = .ok (.iconst 0, 1) := by decide +kernel
theorem d58_94 : decode (am_bytes 58) 94 = .ok (.bastore, 1) := by decide +kernel
theorem d58_95 : decode (am_bytes 58) 95 = .ok (.iinc 3 1, 3) := by decide +kernel
theorem d58_98 : decode (am_bytes 58) 98 = .ok (.goto (-40), 3) := by decide +kernel
theorem d58_101 : decode (am_bytes 58) 101 = .ok (.iinc 2 1, 3) := by decide +kernel
theorem d58_104 : decode (am_bytes 58) 104 = .ok (.goto (-63), 3) := by decide +kernel
theorem d58_107 : decode (am_bytes 58) 107 = .ok (.iconst 0, 1) := by decide +kernel
theorem d58_108 : decode (am_bytes 58) 108 = .ok (.istore_n 2, 1) := by decide +kernel
theorem d58_109 : decode (am_bytes 58) 109 = .ok (.iconst 0, 1) := by decide +kernel
theorem d58_110 : decode (am_bytes 58) 110 = .ok (.istore_n 3, 1) := by decide +kernel
theorem d58_111 : decode (am_bytes 58) 111 = .ok (.iload_n 3, 1) := by decide +kernel
theorem d58_112 : decode (am_bytes 58) 112 = .ok (.aload_n 0, 1) := by decide +kernel
theorem d58_113 : decode (am_bytes 58) 113 = .ok (.getfield 58, 3) := by decide +kernel
theorem d58_116 : decode (am_bytes 58) 116 = .ok (.if_icmp .ge 81, 3) := by decide +kernel
theorem d58_119 : decode (am_bytes 58) 119 = .ok (.aload_n 0, 1) := by decide +kernel
theorem d58_120 : decode (am_bytes 58) 120 = .ok (.getfield 39, 3) := by decide +kernel
theorem d58_123 : decode (am_bytes 58) 123 = .ok (.iload_n 3, 1) := by decide +kernel
theorem d58_124 : decode (am_bytes 58) 124 = .ok (.baload, 1) := by decide +kernel
theorem d58_125 : decode (am_bytes 58) 125 = .ok (.ifCond .eq 66, 3) := by decide +kernel
theorem d58_128 : decode (am_bytes 58) 128 = .ok (.aload_n 0, 1) := by decide +kernel
theorem d58_129 : decode (am_bytes 58) 129 = .ok (.getfield 24, 3) := by decide +kernel
theorem d58_132 : decode (am_bytes 58) 132 = .ok (.iload_n 2, 1) := by decide +kernel
theorem d58_133 : decode (am_bytes 58) 133 = .ok (.aload_n 0, 1) := by decide +kernel
theorem d58_134 : decode (am_bytes 58) 134 = .ok (.getfield 24, 3) := by decide +kernel
theorem d58_137 : decode (am_bytes 58) 137 = .ok (.iload_n 3, 1) := by decide +kernel
theorem d58_138 : decode (am_bytes 58) 138 = .ok (.iaload, 1) := by decide +kernel
theorem d58_139 : decode (am_bytes 58) 139 = .ok (.iastore, 1) := by decide +kernel
theorem d58_140 : decode (am_bytes 58) 140 = .ok (.aload_n 0, 1) := by decide +kernel
theorem d58_141 : decode (am_bytes 58) 141 = .ok (.getfield 27, 3) := by decide +kernel
theorem d58_144 : decode (am_bytes 58) 144 = .ok (.iload_n 2, 1) := by decide +kernel
theorem d58_145 : decode (am_bytes 58) 145 = .ok (.aload_n 0, 1) := by decide +kernel
theorem d58_146 : decode (am_bytes 58) 146 = .ok (.getfield 27, 3) := by decide +kernel
theorem d58_149 : decode (am_bytes 58) 149 = .ok (.iload_n 3, 1) := by decide +kernel
theorem d58_150 : decode (am_bytes 58) 150 = .ok (.iaload, 1) := by decide +kernel
theorem d58_151 : decode (am_bytes 58) 151 = .ok (.iastore, 1) := by decide +kernel
theorem d58_152 : decode (am_bytes 58) 152 = .ok (.aload_n 0, 1) := by decide +kernel
theorem d58_153 : decode (am_bytes 58) 153 = .ok (.getfield 30, 3) := by decide +kernel
theorem d58_156 : decode (am_bytes 58) 156 = .ok (.iload_n 2, 1) := by decide +kernel
theorem d58_157 : decode (am_bytes 58) 157 = .ok (.aload_n 0, 1) := by decide +kernel
theorem d58_158 : decode (am_bytes 58) 158 = .ok (.getfield 30, 3) := by decide +kernel
theorem d58_161 : decode (am_bytes 58) 161 = .ok (.iload_n 3, 1) := by decide +kernel
theorem d58_162 : decode (am_bytes 58) 162 = .ok (.iaload, 1) := by decide +kernel
theorem d58_163 : decode (am_bytes 58) 163 = .ok (.iastore, 1) := by decide +kernel
theorem d58_164 : decode (am_bytes 58) 164 = .ok (.aload_n 0, 1) := by decide +kernel
theorem d58_165 : decode (am_bytes 58) 165 = .ok (.getfield 33, 3) := by decide +kernel
theorem d58_168 : decode (am_bytes 58) 168 = .ok (.iload_n 2, 1) := by decide +kernel
theorem d58_169 : decode (am_bytes 58) 169 = .ok (.aload_n 0, 1) := by decide +kernel
theorem d58_170 : decode (am_bytes 58) 170 = .ok (.getfield 33, 3) := by decide +kernel
theorem d58_173 : decode (am_bytes 58) 173 = .ok (.iload_n 3, 1) := by decide +kernel
theorem d58_174 : decode (am_bytes 58) 174 = .ok (.iaload, 1) := by decide +kernel
theorem d58_175 : decode (am_bytes 58) 175 = .ok (.iastore, 1) := by decide +kernel
theorem d58_176 : decode (am_bytes 58) 176 = .ok (.aload_n 0, 1) := by decide +kernel
theorem d58_177 : decode (am_bytes 58) 177 = .ok (.getfield 36, 3) := by decide +kernel
theorem d58_180 : decode (am_bytes 58) 180 = .ok (.iload_n 2, 1) := by decide +kernel
theorem d58_181 : decode (am_bytes 58) 181 = .ok (.aload_n 0, 1) := by decide +kernel
theorem d58_182 : decode (am_bytes 58) 182 = .ok (.getfield 36, 3) := by decide +kernel
theorem d58_185 : decode (am_bytes 58) 185 = .ok (.iload_n 3, 1) := by decide +kernel
theorem d58_186 : decode (am_bytes 58) 186 = .ok (.iaload, 1) := by decide +kernel
theorem d58_187 : decode (am_bytes 58) 187 = .ok (.iastore, 1) := by decide +kernel
theorem d58_188 : decode (am_bytes 58) 188 = .ok (.iinc 2 1, 3) := by decide +kernel
theorem d58_191 : decode (am_bytes 58) 191 = .ok (.iinc 3 1, 3) := by decide +kernel
theorem d58_194 : decode (am_bytes 58) 194 = .ok (.goto (-83), 3) := by decide +kernel
theorem d58_197 : decode (am_bytes 58) 197 = .ok (.aload_n 0, 1) := by decide +kernel
theorem d58_198 : decode (am_bytes 58) 198 = .ok (.getfield 58, 3) := by decide +kernel
theorem d58_201 : decode (am_bytes 58) 201 = .ok (.iload_n 2, 1) := by decide +kernel
theorem d58_202 : decode (am_bytes 58) 202 = .ok (.isub, 1) := by decide +kernel
theorem d58_203 : decode (am_bytes 58) 203 = .ok (.istore_n 3, 1) := by decide +kernel
theorem d58_204 : decode (am_bytes 58) 204 = .ok (.aload_n 0, 1) := by decide +kernel
theorem d58_205 : decode (am_bytes 58) 205 = .ok (.iload_n 2, 1) := by decide +kernel
theorem d58_206 : decode (am_bytes 58) 206 = .ok (.putfield 58, 3) := by decide +kernel
theorem d58_209 : decode (am_bytes 58) 209 = .ok (.iload_n 3, 1) := by decide +kernel
theorem d58_210 : decode (am_bytes 58) 210 = .ok (.ireturn, 1) := by decide +kernel
theorem d59_0 : decode (am_bytes 59) 0 = .ok (.iconst 0, 1) := by decide +kernel
theorem d59_1 : decode (am_bytes 59) 1 = .ok (.istore 5, 2) := by decide +kernel
theorem d59_3 : decode (am_bytes 59) 3 = .ok (.iconst 0, 1) := by decide +kernel
theorem d59_4 : decode (am_bytes 59) 4 = .ok (.istore 6, 2) := by decide +kernel
theorem d59_6 : decode (am_bytes 59) 6 = .ok (.iload 6, 2) := by decide +kernel
theorem d59_8 : decode (am_bytes 59) 8 = .ok (.bipush 12, 2) := by decide +kernel
theorem d59_10 : decode (am_bytes 59) 10 = .ok (.if_icmp .ge 62, 3) := by decide +kernel
theorem d59_13 : decode (am_bytes 59) 13 = .ok (.aload_n 0, 1) := by decide +kernel
theorem d59_14 : decode (am_bytes 59) 14 = .ok (.iload_n 3, 1) := by decide +kernel
theorem d59_15 : decode (am_bytes 59) 15 = .ok (.iload 4, 2) := by decide +kernel
theorem d59_17 : decode (am_bytes 59) 17 = .ok (.iconst 4, 1) := by decide +kernel
theorem d59_18 : decode (am_bytes 59) 18 = .ok (.iload 6, 2) := by decide +kernel
theorem d59_20 : decode (am_bytes 59) 20 = .ok (.imul, 1) := by decide +kernel
theorem d59_21 : decode (am_bytes 59) 21 = .ok (.iload_n 2, 1) := by decide +kernel
theorem d59_22 : decode (am_bytes 59) 22 = .ok (.iadd, 1) := by decide +kernel
theorem d59_23 : decode (am_bytes 59) 23 = .ok (.invokevirtual 75, 3) := by decide +kernel
theorem d59_26 : decode (am_bytes 59) 26 = .ok (.istore 7, 2) := by decide +kernel
theorem d59_28 : decode (am_bytes 59) 28 = .ok (.iload_n 1, 1) := by decide +kernel
theorem d59_29 : decode (am_bytes 59) 29 = .ok (.iload 6, 2) := by decide +kernel
theorem d59_31 : decode (am_bytes 59) 31 = .ok (.ishr, 1) := by decide +kernel
theorem d59_32 : decode (am_bytes 59) 32 = .ok (.iconst 1, 1) := by decide +kernel
theorem d59_33 : decode (am_bytes 59) 33 = .ok (.iand, 1) := by decide +kernel
theorem d59_34 : decode (am_bytes 59) 34 = .ok (.iconst 1, 1) := by decide +kernel
theorem d59_35 : decode (am_bytes 59) 35 = .ok (.if_icmp .ne 27, 3) := by decide +kernel
theorem d59_38 : decode (am_bytes 59) 38 = .ok (.aload_n 0, 1) := by decide +kernel
theorem d59_39 : decode (am_bytes 59) 39 = .ok (.iload 7, 2) := by decide +kernel
theorem d59_41 : decode (am_bytes 59) 41 = .ok (.invokevirtual 65, 3) := by decide +kernel
theorem d59_44 : decode (am_bytes 59) 44 = .ok (.iconst 2, 1) := by decide +kernel
theorem d59_45 : decode (am_bytes 59) 45 = .ok (.if_icmp .ne 17, 3) := by decide +kernel
theorem d59_48 : decode (am_bytes 59) 48 = .ok (.iload 5, 2) := by decide +kernel
theorem d59_50 : decode (am_bytes 59) 50 = .ok (.iconst 1, 1) := by decide +kernel
theorem d59_51 : decode (am_bytes 59) 51 = .ok (.aload_n 0, 1) := by decide +kernel
theorem d59_52 : decode (am_bytes 59) 52 = .ok (.iload 7, 2) := by decide +kernel
theorem d59_54 : decode (am_bytes 59) 54 = .ok (.invokevirtual 68, 3) := by decide +kernel
theorem d59_57 : decode (am_bytes 59) 57 = .ok (.ishl, 1) := by decide +kernel
theorem d59_58 : decode (am_bytes 59) 58 = .ok (.ior, 1) := by decide +kernel
theorem d59_59 : decode (am_bytes 59) 59 = .ok (.goto 5, 3) := by decide +kernel
theorem d59_62 : decode (am_bytes 59) 62 = .ok (.iload 5, 2) := by decide +kernel
theorem d59_64 : decode (am_bytes 59) 64 = .ok (.istore 5, 2) := by decide +kernel
theorem d59_66 : decode (am_bytes 59) 66 = .ok (.iinc 6 1, 3) := by decide +kernel
theorem d59_69 : decode (am_bytes 59) 69 = .ok (.goto (-63), 3) := by decide +kernel
theorem d59_72 : decode (am_bytes 59) 72 = .ok (.iload 5, 2) := by decide +kernel
theorem d59_74 : decode (am_bytes 59) 74 = .ok (.ireturn, 1) := by decide +kernel
theorem d60_0 : decode (am_bytes 60) 0 = .ok (.iconst 0, 1) := by decide +kernel
theorem d60_1 : decode (am_bytes 60) 1 = .ok (.istore 5, 2) := by decide +kernel
theorem d60_3 : decode (am_bytes 60) 3 = .ok (.iconst 0, 1) := by decide +kernel
theorem d60_4 : decode (am_bytes 60) 4 = .ok (.istore 6, 2) := by decide +kernel
theorem d60_6 : decode (am_bytes 60) 6 = .ok (.iload 6, 2) := by decide +kernel
theorem d60_8 : decode (am_bytes 60) 8 = .ok (.bipush 12, 2) := by decide +kernel
theorem d60_10 : decode (am_bytes 60) 10 = .ok (.if_icmp .ge 62, 3) := by decide +kernel
theorem d60_13 : decode (am_bytes 60) 13 = .ok (.aload_n 0, 1) := by decide +kernel
theorem d60_14 : decode (am_bytes 60) 14 = .ok (.iload_n 3, 1) := by decide +kernel
theorem d60_15 : decode (am_bytes 60) 15 = .ok (.iload 4, 2) := by decide +kernel
theorem d60_17 : decode (am_bytes 60) 17 = .ok (.iconst 4, 1) := by decide +kernel
theorem d60_18 : decode (am_bytes 60) 18 = .ok (.iload 6, 2) := by decide +kernel
theorem d60_20 : decode (am_bytes 60) 20 = .ok (.imul, 1) := by decide +kernel
theorem d60_21 : decode (am_bytes 60) 21 = .ok (.iload_n 2, 1) := by decide +kernel
theorem d60_22 : decode (am_bytes 60) 22 = .ok (.iadd, 1) := by decide +kernel
theorem d60_23 : decode (am_bytes 60) 23 = .ok (.invokevirtual 75, 3) := by decide +kernel
theorem d60_26 : decode (am_bytes 60) 26 = .ok (.istore 7, 2) := by decide +kernel
theorem d60_28 : decode (am_bytes 60) 28 = .ok (.aload_n 0, 1) := by decide +kernel
theorem d60_29 : decode (am_bytes 60) 29 = .ok (.iload 7, 2) := by decide +kernel
theorem d60_31 : decode (am_bytes 60) 31 = .ok (.invokevirtual 65, 3) := by decide +kernel
theorem d60_34 : decode (am_bytes 60) 34 = .ok (.iconst 2, 1) := by decide +kernel
theorem d60_35 : decode (am_bytes 60) 35 = .ok (.if_icmp .ne 27, 3) := by decide +kernel
theorem d60_38 : decode (am_bytes 60) 38 = .ok (.iload_n 1, 1) := by decide +kernel
theorem d60_39 : decode (am_bytes 60) 39 = .ok (.aload_n 0, 1) := by decide +kernel
theorem d60_40 : decode (am_bytes 60) 40 = .ok (.iload 7, 2) := by decide +kernel
theorem d60_42 : decode (am_bytes 60) 42 = .ok (.invokevirtual 68, 3) := by decide +kernel
theorem d60_45 : decode (am_bytes 60) 45 = .ok (.ishr, 1) := by decide +kernel
theorem d60_46 : decode (am_bytes 60) 46 = .ok (.iconst 1, 1) := by decide +kernel
theorem d60_47 : decode (am_bytes 60) 47 = .ok (.iand, 1) := by decide +kernel
theorem d60_48 : decode (am_bytes 60) 48 = .ok (.iconst 1, 1) := by decide +kernel
theorem d60_49 : decode (am_bytes 60) 49 = .ok (.if_icmp .ne 13, 3) := by decide +kernel
theorem d60_52 : decode (am_bytes 60) 52 = .ok (.iload 5, 2) := by decide +kernel
theorem d60_54 : decode (am_bytes 60) 54 = .ok (.iconst 1, 1) := by decide +kernel
theorem d60_55 : decode (am_bytes 60) 55 = .ok (.iload 6, 2) := by decide +kernel
theorem d60_57 : decode (am_bytes 60) 57 = .ok (.ishl, 1) := by decide +kernel
theorem d60_58 : decode (am_bytes 60) 58 = .ok (.ior, 1) := by decide +kernel
theorem d60_59 : decode (am_bytes 60) 59 = .ok (.goto 5, 3) := by decide +kernel
theorem d60_62 : decode (am_bytes 60) 62 = .ok (.iload 5, 2) := by decide +kernel
theorem d60_64 : decode (am_bytes 60) 64 = .ok (.istore 5, 2) := by decide +kernel
theorem d60_66 : decode (am_bytes 60) 66 = .ok (.iinc 6 1, 3) := by decide +kernel
theorem d60_69 : decode (am_bytes 60) 69 = .ok (.goto (-63), 3) := by decide +kernel
theorem d60_72 : decode (am_bytes 60) 72 = .ok (.iload 5, 2) := by decide +kernel
theorem d60_74 : decode (am_bytes 60) 74 = .ok (.ireturn, 1) := by decide +kernel
theorem d61_0 : decode (am_bytes 61) 0 = .ok (.aload_n 0, 1) := by decide +kernel
theorem d61_1 : decode (am_bytes 61) 1 = .ok (.aload_n 0, 1) := by decide +kernel
theorem d61_2 : decode (am_bytes 61) 2 = .ok (.iload_n 1, 1) := by decide +kernel
theorem d61_3 : decode (am_bytes 61) 3 = .ok (.invokevirtual 79, 3) := by decide +kernel
theorem d61_6 : decode (am_bytes 61) 6 = .ok (.ifCond .ne 13, 3) := by decide +kernel
theorem d61_9 : decode (am_bytes 61) 9 = .ok (.iload_n 3, 1) := by decide +kernel
theorem d61_10 : decode (am_bytes 61) 10 = .ok (.ifCond .lt 9, 3) := by decide +kernel
theorem d61_13 : decode (am_bytes 61) 13 = .ok (.iload_n 3, 1) := by decide +kernel
theorem d61_14 : decode (am_bytes 61) 14 = .ok (.bipush 11, 2) := by decide +kernel
theorem d61_16 : decode (am_bytes 61) 16 = .ok (.if_icmp .le 7, 3) := by decide +kernel
theorem d61_19 : decode (am_bytes 61) 19 = .ok (.iconst 1, 1) := by decide +kernel
theorem d61_20 : decode (am_bytes 61) 20 = .ok (.goto 17, 3) := by decide +kernel
theorem d61_23 : decode (am_bytes 61) 23 = .ok (.aload_n 0, 1) := by decide +kernel
theorem d61_24 : decode (am_bytes 61) 24 = .ok (.iload_n 1, 1) := by decide +kernel
theorem d61_25 : decode (am_bytes 61) 25 = .ok (.iload_n 2, 1) := by decide +kernel
theorem d61_26 : decode (am_bytes 61) 26 = .ok (.invokevirtual 71, 3) := by decide +kernel
theorem d61_29 : decode (am_bytes 61) 29 = .ok (.ifCond .eq 7, 3) := by decide +kernel
theorem d61_32 : decode (am_bytes 61) 32 = .ok (.iconst 2, 1) := by decide +kernel
theorem d61_33 : decode (am_bytes 61) 33 = .ok (.goto 4, 3) := by decide +kernel
end
section
/-! printed: each instruction -/
theorem d61_36 : decode (am_bytes 61) 36 = .ok (.iconst 0, 1) := by decide +kernel
theorem d61_37 : decode (am_bytes 61) 37 = .ok (.putfield 45, 3) := by decide +kernel
theorem d61_40 : decode (am_bytes 61) 40 = .ok (.aload_n 0, 1) := by decide +kernel
theorem d61_41 : decode (am_bytes 61) 41 = .ok (.getfield 45, 3) := by decide +kernel
theorem d61_44 : decode (am_bytes 61) 44 = .ok (.ifCond .le 5, 3) := by decide +kernel
theorem d61_47 : decode (am_bytes 61) 47 = .ok (.iconst 0, 1) := by decide +kernel
theorem d61_48 : decode (am_bytes 61) 48 = .ok (.ireturn, 1) := by decide +kernel
theorem d61_49 : decode (am_bytes 61) 49 = .ok (.iconst 1, 1) := by decide +kernel
theorem d61_50 : decode (am_bytes 61) 50 = .ok (.iload_n 3, 1) := by decide +kernel
theorem d61_51 : decode (am_bytes 61) 51 = .ok (.ishl, 1) := by decide +kernel
theorem d61_52 : decode (am_bytes 61) 52 = .ok (.istore 4, 2) := by decide +kernel
theorem d61_54 : decode (am_bytes 61) 54 = .ok (.iconst 0, 1) := by decide +kernel
theorem d61_55 : decode (am_bytes 61) 55 = .ok (.istore 5, 2) := by decide +kernel
theorem d61_57 : decode (am_bytes 61) 57 = .ok (.iload 5, 2) := by decide +kernel
theorem d61_59 : decode (am_bytes 61) 59 = .ok (.bipush 12, 2) := by decide +kernel
theorem d61_61 : decode (am_bytes 61) 61 = .ok (.if_icmp .ge 39, 3) := by decide +kernel
theorem d61_64 : decode (am_bytes 61) 64 = .ok (.iconst 0, 1) := by decide +kernel
theorem d61_65 : decode (am_bytes 61) 65 = .ok (.istore 6, 2) := by decide +kernel
theorem d61_67 : decode (am_bytes 61) 67 = .ok (.iload 6, 2) := by decide +kernel
theorem d61_69 : decode (am_bytes 61) 69 = .ok (.iconst 4, 1) := by decide +kernel
theorem d61_70 : decode (am_bytes 61) 70 = .ok (.if_icmp .ge 24, 3) := by decide +kernel
theorem d61_73 : decode (am_bytes 61) 73 = .ok (.iload 4, 2) := by decide +kernel
theorem d61_75 : decode (am_bytes 61) 75 = .ok (.aload_n 0, 1) := by decide +kernel
theorem d61_76 : decode (am_bytes 61) 76 = .ok (.iload 4, 2) := by decide +kernel
theorem d61_78 : decode (am_bytes 61) 78 = .ok (.iload 6, 2) := by decide +kernel
theorem d61_80 : decode (am_bytes 61) 80 = .ok (.iload_n 1, 1) := by decide +kernel
theorem d61_81 : decode (am_bytes 61) 81 = .ok (.iload_n 2, 1) := by decide +kernel
theorem d61_82 : decode (am_bytes 61) 82 = .ok (.invokevirtual 112, 3) := by decide +kernel
theorem d61_85 : decode (am_bytes 61) 85 = .ok (.ior, 1) := by decide +kernel
theorem d61_86 : decode (am_bytes 61) 86 = .ok (.istore 4, 2) := by decide +kernel
theorem d61_88 : decode (am_bytes 61) 88 = .ok (.iinc 6 1, 3) := by decide +kernel
theorem d61_91 : decode (am_bytes 61) 91 = .ok (.goto (-24), 3) := by decide +kernel
theorem d61_94 : decode (am_bytes 61) 94 = .ok (.iinc 5 1, 3) := by decide +kernel
theorem d61_97 : decode (am_bytes 61) 97 = .ok (.goto (-40), 3) := by decide +kernel
theorem d61_100 : decode (am_bytes 61) 100 = .ok (.iload 4, 2) := by decide +kernel
theorem d61_102 : decode (am_bytes 61) 102 = .ok (.ireturn, 1) := by decide +kernel
theorem d62_0 : decode (am_bytes 62) 0 = .ok (.iconst 0, 1) := by decide +kernel
theorem d62_1 : decode (am_bytes 62) 1 = .ok (.istore_n 2, 1) := by decide +kernel
theorem d62_2 : decode (am_bytes 62) 2 = .ok (.iconst 0, 1) := by decide +kernel
theorem d62_3 : decode (am_bytes 62) 3 = .ok (.istore_n 3, 1) := by decide +kernel
theorem d62_4 : decode (am_bytes 62) 4 = .ok (.iconst 0, 1) := by decide +kernel
theorem d62_5 : decode (am_bytes 62) 5 = .ok (.istore 4, 2) := by decide +kernel
theorem d62_7 : decode (am_bytes 62) 7 = .ok (.iload 4, 2) := by decide +kernel
theorem d62_9 : decode (am_bytes 62) 9 = .ok (.iconst 4, 1) := by decide +kernel
theorem d62_10 : decode (am_bytes 62) 10 = .ok (.if_icmp .ge 67, 3) := by decide +kernel
theorem d62_13 : decode (am_bytes 62) 13 = .ok (.iload_n 1, 1) := by decide +kernel
theorem d62_14 : decode (am_bytes 62) 14 = .ok (.bipush 24, 2) := by decide +kernel
theorem d62_16 : decode (am_bytes 62) 16 = .ok (.bipush 8, 2) := by decide +kernel
theorem d62_18 : decode (am_bytes 62) 18 = .ok (.iload 4, 2) := by decide +kernel
theorem d62_20 : decode (am_bytes 62) 20 = .ok (.imul, 1) := by decide +kernel
theorem d62_21 : decode (am_bytes 62) 21 = .ok (.isub, 1) := by decide +kernel
theorem d62_22 : decode (am_bytes 62) 22 = .ok (.ishr, 1) := by decide +kernel
theorem d62_23 : decode (am_bytes 62) 23 = .ok (.sipush 255, 3) := by decide +kernel
theorem d62_26 : decode (am_bytes 62) 26 = .ok (.iand, 1) := by decide +kernel
theorem d62_27 : decode (am_bytes 62) 27 = .ok (.istore 5, 2) := by decide +kernel
theorem d62_29 : decode (am_bytes 62) 29 = .ok (.iload 5, 2) := by decide +kernel
theorem d62_31 : decode (am_bytes 62) 31 = .ok (.ifCond .eq 9, 3) := by decide +kernel
theorem d62_34 : decode (am_bytes 62) 34 = .ok (.iload_n 2, 1) := by decide +kernel
theorem d62_35 : decode (am_bytes 62) 35 = .ok (.iconst 1, 1) := by decide +kernel
theorem d62_36 : decode (am_bytes 62) 36 = .ok (.iadd, 1) := by decide +kernel
theorem d62_37 : decode (am_bytes 62) 37 = .ok (.goto 4, 3) := by decide +kernel
theorem d62_40 : decode (am_bytes 62) 40 = .ok (.iload_n 2, 1) := by decide +kernel
theorem d62_41 : decode (am_bytes 62) 41 = .ok (.istore_n 2, 1) := by decide +kernel
theorem d62_42 : decode (am_bytes 62) 42 = .ok (.iload_n 3, 1) := by decide +kernel
theorem d62_43 : decode (am_bytes 62) 43 = .ok (.ifCond .ne 22, 3) := by decide +kernel
theorem d62_46 : decode (am_bytes 62) 46 = .ok (.iload 5, 2) := by decide +kernel
theorem d62_48 : decode (am_bytes 62) 48 = .ok (.ifCond .eq 21, 3) := by decide +kernel
theorem d62_51 : decode (am_bytes 62) 51 = .ok (.iload 5, 2) := by decide +kernel
theorem d62_53 : decode (am_bytes 62) 53 = .ok (.bipush 33, 2) := by decide +kernel
theorem d62_55 : decode (am_bytes 62) 55 = .ok (.if_icmp .lt 10, 3) := by decide +kernel
theorem d62_58 : decode (am_bytes 62) 58 = .ok (.iload 5, 2) := by decide +kernel
theorem d62_60 : decode (am_bytes 62) 60 = .ok (.bipush 126, 2) := by decide +kernel
theorem d62_62 : decode (am_bytes 62) 62 = .ok (.if_icmp .le 7, 3) := by decide +kernel
theorem d62_65 : decode (am_bytes 62) 65 = .ok (.iconst 1, 1) := by decide +kernel
theorem d62_66 : decode (am_bytes 62) 66 = .ok (.goto 4, 3) := by decide +kernel
theorem d62_69 : decode (am_bytes 62) 69 = .ok (.iconst 0, 1) := by decide +kernel
theorem d62_70 : decode (am_bytes 62) 70 = .ok (.istore_n 3, 1) := by decide +kernel
theorem d62_71 : decode (am_bytes 62) 71 = .ok (.iinc 4 1, 3) := by decide +kernel
theorem d62_74 : decode (am_bytes 62) 74 = .ok (.goto (-67), 3) := by decide +kernel
theorem d62_77 : decode (am_bytes 62) 77 = .ok (.aload_n 0, 1) := by decide +kernel
theorem d62_78 : decode (am_bytes 62) 78 = .ok (.iload_n 3, 1) := by decide +kernel
theorem d62_79 : decode (am_bytes 62) 79 = .ok (.ifCond .eq 7, 3) := by decide +kernel
theorem d62_82 : decode (am_bytes 62) 82 = .ok (.iconst 1, 1) := by decide +kernel
theorem d62_83 : decode (am_bytes 62) 83 = .ok (.goto 19, 3) := by decide +kernel
theorem d62_86 : decode (am_bytes 62) 86 = .ok (.aload_n 0, 1) := by decide +kernel
theorem d62_87 : decode (am_bytes 62) 87 = .ok (.getfield 116, 3) := by decide +kernel
theorem d62_90 : decode (am_bytes 62) 90 = .ok (.iload_n 2, 1) := by decide +kernel
theorem d62_91 : decode (am_bytes 62) 91 = .ok (.iadd, 1) := by decide +kernel
theorem d62_92 : decode (am_bytes 62) 92 = .ok (.bipush 32, 2) := by decide +kernel
theorem d62_94 : decode (am_bytes 62) 94 = .ok (.if_icmp .le 7, 3) := by decide +kernel
theorem d62_97 : decode (am_bytes 62) 97 = .ok (.iconst 2, 1) := by decide +kernel
theorem d62_98 : decode (am_bytes 62) 98 = .ok (.goto 4, 3) := by decide +kernel
theorem d62_101 : decode (am_bytes 62) 101 = .ok (.iconst 0, 1) := by decide +kernel
theorem d62_102 : decode (am_bytes 62) 102 = .ok (.putfield 45, 3) := by decide +kernel
theorem d62_105 : decode (am_bytes 62) 105 = .ok (.aload_n 0, 1) := by decide +kernel
theorem d62_106 : decode (am_bytes 62) 106 = .ok (.getfield 45, 3) := by decide +kernel
theorem d62_109 : decode (am_bytes 62) 109 = .ok (.ifCond .le 5, 3) := by decide +kernel
theorem d62_112 : decode (am_bytes 62) 112 = .ok (.iconst 0, 1) := by decide +kernel
theorem d62_113 : decode (am_bytes 62) 113 = .ok (.ireturn, 1) := by decide +kernel
theorem d62_114 : decode (am_bytes 62) 114 = .ok (.iconst 0, 1) := by decide +kernel
theorem d62_115 : decode (am_bytes 62) 115 = .ok (.istore 4, 2) := by decide +kernel
theorem d62_117 : decode (am_bytes 62) 117 = .ok (.iload 4, 2) := by decide +kernel
theorem d62_119 : decode (am_bytes 62) 119 = .ok (.iconst 4, 1) := by decide +kernel
theorem d62_120 : decode (am_bytes 62) 120 = .ok (.if_icmp .ge 51, 3) := by decide +kernel
theorem d62_123 : decode (am_bytes 62) 123 = .ok (.iload_n 1, 1) := by decide +kernel
theorem d62_124 : decode (am_bytes 62) 124 = .ok (.bipush 24, 2) := by decide +kernel
theorem d62_126 : decode (am_bytes 62) 126 = .ok (.bipush 8, 2) := by decide +kernel
theorem d62_128 : decode (am_bytes 62) 128 = .ok (.iload 4, 2) := by decide +kernel
theorem d62_130 : decode (am_bytes 62) 130 = .ok (.imul, 1) := by decide +kernel
theorem d62_131 : decode (am_bytes 62) 131 = .ok (.isub, 1) := by decide +kernel
theorem d62_132 : decode (am_bytes 62) 132 = .ok (.ishr, 1) := by decide +kernel
theorem d62_133 : decode (am_bytes 62) 133 = .ok (.sipush 255, 3) := by decide +kernel
theorem d62_136 : decode (am_bytes 62) 136 = .ok (.iand, 1) := by decide +kernel
theorem d62_137 : decode (am_bytes 62) 137 = .ok (.istore 5, 2) := by decide +kernel
theorem d62_139 : decode (am_bytes 62) 139 = .ok (.iload 5, 2) := by decide +kernel
theorem d62_141 : decode (am_bytes 62) 141 = .ok (.ifCond .eq 24, 3) := by decide +kernel
theorem d62_144 : decode (am_bytes 62) 144 = .ok (.aload_n 0, 1) := by decide +kernel
theorem d62_145 : decode (am_bytes 62) 145 = .ok (.getfield 42, 3) := by decide +kernel
theorem d62_148 : decode (am_bytes 62) 148 = .ok (.aload_n 0, 1) := by decide +kernel
theorem d62_149 : decode (am_bytes 62) 149 = .ok (.getfield 116, 3) := by decide +kernel
theorem d62_152 : decode (am_bytes 62) 152 = .ok (.iload 5, 2) := by decide +kernel
theorem d62_154 : decode (am_bytes 62) 154 = .ok (.iastore, 1) := by decide +kernel
theorem d62_155 : decode (am_bytes 62) 155 = .ok (.aload_n 0, 1) := by decide +kernel
theorem d62_156 : decode (am_bytes 62) 156 = .ok (.dup, 1) := by decide +kernel
theorem d62_157 : decode (am_bytes 62) 157 = .ok (.getfield 116, 3) := by decide +kernel
theorem d62_160 : decode (am_bytes 62) 160 = .ok (.iconst 1, 1) := by decide +kernel
theorem d62_161 : decode (am_bytes 62) 161 = .ok (.iadd, 1) := by decide +kernel
theorem d62_162 : decode (am_bytes 62) 162 = .ok (.putfield 116, 3) := by decide +kernel
theorem d62_165 : decode (am_bytes 62) 165 = .ok (.iinc 4 1, 3) := by decide +kernel
theorem d62_168 : decode (am_bytes 62) 168 = .ok (.goto (-51), 3) := by decide +kernel
theorem d62_171 : decode (am_bytes 62) 171 = .ok (.aload_n 0, 1) := by decide +kernel
theorem d62_172 : decode (am_bytes 62) 172 = .ok (.getfield 116, 3) := by decide +kernel
theorem d62_175 : decode (am_bytes 62) 175 = .ok (.ireturn, 1) := by decide +kernel
theorem d63_0 : decode (am_bytes 63) 0 = .ok (.aload_n 0, 1) := by decide +kernel
theorem d63_1 : decode (am_bytes 63) 1 = .ok (.iconst 0, 1) := by decide +kernel
theorem d63_2 : decode (am_bytes 63) 2 = .ok (.putfield 45, 3) := by decide +kernel
theorem d63_5 : decode (am_bytes 63) 5 = .ok (.aload_n 0, 1) := by decide +kernel
theorem d63_6 : decode (am_bytes 63) 6 = .ok (.iconst 0, 1) := by decide +kernel
theorem d63_7 : decode (am_bytes 63) 7 = .ok (.putfield 116, 3) := by decide +kernel
theorem d63_10 : decode (am_bytes 63) 10 = .ok (.return_, 1) := by decide +kernel
theorem d64_0 : decode (am_bytes 64) 0 = .ok (.aload_n 0, 1) := by decide +kernel
theorem d64_1 : decode (am_bytes 64) 1 = .ok (.getfield 119, 3) := by decide +kernel
theorem d64_4 : decode (am_bytes 64) 4 = .ok (.aload_n 0, 1) := by decide +kernel
theorem d64_5 : decode (am_bytes 64) 5 = .ok (.getfield 116, 3) := by decide +kernel
theorem d64_8 : decode (am_bytes 64) 8 = .ok (.if_icmp .ge 15, 3) := by decide +kernel
theorem d64_11 : decode (am_bytes 64) 11 = .ok (.aload_n 0, 1) := by decide +kernel
theorem d64_12 : decode (am_bytes 64) 12 = .ok (.getfield 42, 3) := by decide +kernel
theorem d64_15 : decode (am_bytes 64) 15 = .ok (.aload_n 0, 1) := by decide +kernel
theorem d64_16 : decode (am_bytes 64) 16 = .ok (.getfield 119, 3) := by decide +kernel
theorem d64_19 : decode (am_bytes 64) 19 = .ok (.iaload, 1) := by decide +kernel
theorem d64_20 : decode (am_bytes 64) 20 = .ok (.goto 4, 3) := by decide +kernel
theorem d64_23 : decode (am_bytes 64) 23 = .ok (.iconst 0, 1) := by decide +kernel
theorem d64_24 : decode (am_bytes 64) 24 = .ok (.ireturn, 1) := by decide +kernel
theorem d65_0 : decode (am_bytes 65) 0 = .ok (.aload_n 0, 1) := by decide +kernel
theorem d65_1 : decode (am_bytes 65) 1 = .ok (.invokevirtual 122, 3) := by decide +kernel
theorem d65_4 : decode (am_bytes 65) 4 = .ok (.iload_n 1, 1) := by decide +kernel
theorem d65_5 : decode (am_bytes 65) 5 = .ok (.if_icmp .ne 7, 3) := by decide +kernel
theorem d65_8 : decode (am_bytes 65) 8 = .ok (.iconst 1, 1) := by decide +kernel
theorem d65_9 : decode (am_bytes 65) 9 = .ok (.goto 4, 3) := by decide +kernel
theorem d65_12 : decode (am_bytes 65) 12 = .ok (.iconst 0, 1) := by decide +kernel
theorem d65_13 : decode (am_bytes 65) 13 = .ok (.istore_n 2, 1) := by decide +kernel
theorem d65_14 : decode (am_bytes 65) 14 = .ok (.aload_n 0, 1) := by decide +kernel
theorem d65_15 : decode (am_bytes 65) 15 = .ok (.iload_n 2, 1) := by decide +kernel
theorem d65_16 : decode (am_bytes 65) 16 = .ok (.ifCond .eq 12, 3) := by decide +kernel
theorem d65_19 : decode (am_bytes 65) 19 = .ok (.aload_n 0, 1) := by decide +kernel
theorem d65_20 : decode (am_bytes 65) 20 = .ok (.getfield 119, 3) := by decide +kernel
theorem d65_23 : decode (am_bytes 65) 23 = .ok (.iconst 1, 1) := by decide +kernel
theorem d65_24 : decode (am_bytes 65) 24 = .ok (.iadd, 1) := by decide +kernel
theorem d65_25 : decode (am_bytes 65) 25 = .ok (.goto 7, 3) := by decide +kernel
theorem d65_28 : decode (am_bytes 65) 28 = .ok (.aload_n 0, 1) := by decide +kernel
theorem d65_29 : decode (am_bytes 65) 29 = .ok (.getfield 119, 3) := by decide +kernel
theorem d65_32 : decode (am_bytes 65) 32 = .ok (.putfield 119, 3) := by decide +kernel
theorem d65_35 : decode (am_bytes 65) 35 = .ok (.iload_n 2, 1) := by decide +kernel
theorem d65_36 : decode (am_bytes 65) 36 = .ok (.ireturn, 1) := by decide +kernel
theorem d66_0 : decode (am_bytes 66) 0 = .ok (.aload_n 0, 1) := by decide +kernel
theorem d66_1 : decode (am_bytes 66) 1 = .ok (.invokevirtual 122, 3) := by decide +kernel
theorem d66_4 : decode (am_bytes 66) 4 = .ok (.bipush 48, 2) := by decide +kernel
theorem d66_6 : decode (am_bytes 66) 6 = .ok (.isub, 1) := by decide +kernel
theorem d66_7 : decode (am_bytes 66) 7 = .ok (.istore_n 2, 1) := by decide +kernel
theorem d66_8 : decode (am_bytes 66) 8 = .ok (.aload_n 0, 1) := by decide +kernel
theorem d66_9 : decode (am_bytes 66) 9 = .ok (.aload_n 0, 1) := by decide +kernel
theorem d66_10 : decode (am_bytes 66) 10 = .ok (.getfield 126, 3) := by decide +kernel
theorem d66_13 : decode (am_bytes 66) 13 = .ok (.ifCond .eq 16, 3) := by decide +kernel
theorem d66_16 : decode (am_bytes 66) 16 = .ok (.iload_n 2, 1) := by decide +kernel
theorem d66_17 : decode (am_bytes 66) 17 = .ok (.ifCond .lt 12, 3) := by decide +kernel
theorem d66_20 : decode (am_bytes 66) 20 = .ok (.iload_n 2, 1) := by decide +kernel
theorem d66_21 : decode (am_bytes 66) 21 = .ok (.iload_n 1, 1) := by decide +kernel
theorem d66_22 : decode (am_bytes 66) 22 = .ok (.if_icmp .gt 7, 3) := by decide +kernel
theorem d66_25 : decode (am_bytes 66) 25 = .ok (.iconst 1, 1) := by decide +kernel
theorem d66_26 : decode (am_bytes 66) 26 = .ok (.goto 4, 3) := by decide +kernel
theorem d66_29 : decode (am_bytes 66) 29 = .ok (.iconst 0, 1) := by decide +kernel
theorem d66_30 : decode (am_bytes 66) 30 = .ok (.putfield 126, 3) := by decide +kernel
theorem d66_33 : decode (am_bytes 66) 33 = .ok (.aload_n 0, 1) := by decide +kernel
theorem d66_34 : decode (am_bytes 66) 34 = .ok (.dup, 1) := by decide +kernel
theorem d66_35 : decode (am_bytes 66) 35 = .ok (.getfield 119, 3) := by decide +kernel
theorem d66_38 : decode (am_bytes 66) 38 = .ok (.iconst 1, 1) := by decide +kernel
theorem d66_39 : decode (am_bytes 66) 39 = .ok (.iadd, 1) := by decide +kernel
theorem d66_40 : decode (am_bytes 66) 40 = .ok (.putfield 119, 3) := by decide +kernel
theorem d66_43 : decode (am_bytes 66) 43 = .ok (.aload_n 0, 1) := by decide +kernel
theorem d66_44 : decode (am_bytes 66) 44 = .ok (.getfield 126, 3) := by decide +kernel
theorem d66_47 : decode (am_bytes 66) 47 = .ok (.ifCond .eq 7, 3) := by decide +kernel
theorem d66_50 : decode (am_bytes 66) 50 = .ok (.iload_n 2, 1) := by decide +kernel
theorem d66_51 : decode (am_bytes 66) 51 = .ok (.goto 4, 3) := by decide +kernel
theorem d66_54 : decode (am_bytes 66) 54 = .ok (.iconst 0, 1) := by decide +kernel
theorem d66_55 : decode (am_bytes 66) 55 = .ok (.ireturn, 1) := by decide +kernel
theorem d67_0 : decode (am_bytes 67) 0 = .ok (.aload_n 0, 1) := by decide +kernel
theorem d67_1 : decode (am_bytes 67) 1 = .ok (.invokevirtual 122, 3) := by decide +kernel
theorem d67_4 : decode (am_bytes 67) 4 = .ok (.bipush 48, 2) := by decide +kernel
theorem d67_6 : decode (am_bytes 67) 6 = .ok (.if_icmp .lt 16, 3) := by decide +kernel
theorem d67_9 : decode (am_bytes 67) 9 = .ok (.aload_n 0, 1) := by decide +kernel
theorem d67_10 : decode (am_bytes 67) 10 = .ok (.invokevirtual 122, 3) := by decide +kernel
theorem d67_13 : decode (am_bytes 67) 13 = .ok (.bipush 57, 2) := by decide +kernel
theorem d67_15 : decode (am_bytes 67) 15 = .ok (.if_icmp .gt 7, 3) := by decide +kernel
theorem d67_18 : decode (am_bytes 67) 18 = .ok (.iconst 1, 1) := by decide +kernel
theorem d67_19 : decode (am_bytes 67) 19 = .ok (.goto 4, 3) := by decide +kernel
theorem d67_22 : decode (am_bytes 67) 22 = .ok (.iconst 0, 1) := by decide +kernel
theorem d67_23 : decode (am_bytes 67) 23 = .ok (.ireturn, 1) := by decide +kernel
theorem d68_0 : decode (am_bytes 68) 0 = .ok (.aload_n 0, 1) := by decide +kernel
theorem d68_1 : decode (am_bytes 68) 1 = .ok (.bipush 45, 2) := by decide +kernel
theorem d68_3 : decode (am_bytes 68) 3 = .ok (.invokevirtual 130, 3) := by decide +kernel
theorem d68_6 : decode (am_bytes 68) 6 = .ok (.istore_n 1, 1) := by decide +kernel
theorem d68_7 : decode (am_bytes 68) 7 = .ok (.aload_n 0, 1) := by decide +kernel
theorem d68_8 : decode (am_bytes 68) 8 = .ok (.bipush 9, 2) := by decide +kernel
theorem d68_10 : decode (am_bytes 68) 10 = .ok (.invokevirtual 133, 3) := by decide +kernel
theorem d68_13 : decode (am_bytes 68) 13 = .ok (.istore_n 2, 1) := by decide +kernel
theorem d68_14 : decode (am_bytes 68) 14 = .ok (.iconst 0, 1) := by decide +kernel
theorem d68_15 : decode (am_bytes 68) 15 = .ok (.istore_n 3, 1) := by decide +kernel
theorem d68_16 : decode (am_bytes 68) 16 = .ok (.iload_n 3, 1) := by decide +kernel
theorem d68_17 : decode (am_bytes 68) 17 = .ok (.iconst 3, 1) := by decide +kernel
theorem d68_18 : decode (am_bytes 68) 18 = .ok (.if_icmp .ge 28, 3) := by decide +kernel
theorem d68_21 : decode (am_bytes 68) 21 = .ok (.aload_n 0, 1) := by decide +kernel
theorem d68_22 : decode (am_bytes 68) 22 = .ok (.invokevirtual 136, 3) := by decide +kernel
theorem d68_25 : decode (am_bytes 68) 25 = .ok (.ifCond .eq 21, 3) := by decide +kernel
theorem d68_28 : decode (am_bytes 68) 28 = .ok (.bipush 10, 2) := by decide +kernel
theorem d68_30 : decode (am_bytes 68) 30 = .ok (.iload_n 2, 1) := by decide +kernel
theorem d68_31 : decode (am_bytes 68) 31 = .ok (.imul, 1) := by decide +kernel
theorem d68_32 : decode (am_bytes 68) 32 = .ok (.aload_n 0, 1) := by decide +kernel
theorem d68_33 : decode (am_bytes 68) 33 = .ok (.bipush 9, 2) := by decide +kernel
theorem d68_35 : decode (am_bytes 68) 35 = .ok (.invokevirtual 133, 3) := by decide +kernel
theorem d68_38 : decode (am_bytes 68) 38 = .ok (.iadd, 1) := by decide +kernel
theorem d68_39 : decode (am_bytes 68) 39 = .ok (.istore_n 2, 1) := by decide +kernel
theorem d68_40 : decode (am_bytes 68) 40 = .ok (.iinc 3 1, 3) := by decide +kernel
theorem d68_43 : decode (am_bytes 68) 43 = .ok (.goto (-27), 3) := by decide +kernel
theorem d68_46 : decode (am_bytes 68) 46 = .ok (.iload_n 1, 1) := by decide +kernel
theorem d68_47 : decode (am_bytes 68) 47 = .ok (.ifCond .eq 9, 3) := by decide +kernel
theorem d68_50 : decode (am_bytes 68) 50 = .ok (.iconst 0, 1) := by decide +kernel
theorem d68_51 : decode (am_bytes 68) 51 = .ok (.iload_n 2, 1) := by decide +kernel
theorem d68_52 : decode (am_bytes 68) 52 = .ok (.isub, 1) := by decide +kernel
theorem d68_53 : decode (am_bytes 68) 53 = .ok (.goto 4, 3) := by decide +kernel
theorem d68_56 : decode (am_bytes 68) 56 = .ok (.iload_n 2, 1) := by decide +kernel
theorem d68_57 : decode (am_bytes 68) 57 = .ok (.ireturn, 1) := by decide +kernel
theorem d69_0 : decode (am_bytes 69) 0 = .ok (.aload_n 0, 1) := by decide +kernel
theorem d69_1 : decode (am_bytes 69) 1 = .ok (.iconst 3, 1) := by decide +kernel
theorem d69_2 : decode (am_bytes 69) 2 = .ok (.invokevirtual 133, 3) := by decide +kernel
theorem d69_5 : decode (am_bytes 69) 5 = .ok (.istore 5, 2) := by decide +kernel
theorem d69_7 : decode (am_bytes 69) 7 = .ok (.iload_n 2, 1) := by decide +kernel
theorem d69_8 : decode (am_bytes 69) 8 = .ok (.ifCond .eq 16, 3) := by decide +kernel
theorem d69_11 : decode (am_bytes 69) 11 = .ok (.aload_n 0, 1) := by decide +kernel
theorem d69_12 : decode (am_bytes 69) 12 = .ok (.iload_n 1, 1) := by decide +kernel
theorem d69_13 : decode (am_bytes 69) 13 = .ok (.iload 5, 2) := by decide +kernel
theorem d69_15 : decode (am_bytes 69) 15 = .ok (.iload_n 3, 1) := by decide +kernel
theorem d69_16 : decode (am_bytes 69) 16 = .ok (.iload 4, 2) := by decide +kernel
theorem d69_18 : decode (am_bytes 69) 18 = .ok (.invokevirtual 140, 3) := by decide +kernel
theorem d69_21 : decode (am_bytes 69) 21 = .ok (.goto 13, 3) := by decide +kernel
theorem d69_24 : decode (am_bytes 69) 24 = .ok (.aload_n 0, 1) := by decide +kernel
theorem d69_25 : decode (am_bytes 69) 25 = .ok (.iload_n 1, 1) := by decide +kernel
theorem d69_26 : decode (am_bytes 69) 26 = .ok (.iload 5, 2) := by decide +kernel
theorem d69_28 : decode (am_bytes 69) 28 = .ok (.iload_n 3, 1) := by decide +kernel
theorem d69_29 : decode (am_bytes 69) 29 = .ok (.iload 4, 2) := by decide +kernel
theorem d69_31 : decode (am_bytes 69) 31 = .ok (.invokevirtual 112, 3) := by decide +kernel
theorem d69_34 : decode (am_bytes 69) 34 = .ok (.istore 6, 2) := by decide +kernel
theorem d69_36 : decode (am_bytes 69) 36 = .ok (.aload_n 0, 1) := by decide +kernel
theorem d69_37 : decode (am_bytes 69) 37 = .ok (.bipush 126, 2) := by decide +kernel
theorem d69_39 : decode (am_bytes 69) 39 = .ok (.invokevirtual 130, 3) := by decide +kernel
theorem d69_42 : decode (am_bytes 69) 42 = .ok (.ifCond .ne 6, 3) := by decide +kernel
theorem d69_45 : decode (am_bytes 69) 45 = .ok (.iload 6, 2) := by decide +kernel
theorem d69_47 : decode (am_bytes 69) 47 = .ok (.ireturn, 1) := by decide +kernel
theorem d69_48 : decode (am_bytes 69) 48 = .ok (.iload_n 1, 1) := by decide +kernel
theorem d69_49 : decode (am_bytes 69) 49 = .ok (.iload 6, 2) := by decide +kernel
theorem d69_51 : decode (am_bytes 69) 51 = .ok (.ior, 1) := by decide +kernel
theorem d69_52 : decode (am_bytes 69) 52 = .ok (.istore 7, 2) := by decide +kernel
theorem d69_54 : decode (am_bytes 69) 54 = .ok (.iconst 0, 1) := by decide +kernel
theorem d69_55 : decode (am_bytes 69) 55 = .ok (.istore 8, 2) := by decide +kernel
theorem d69_57 : decode (am_bytes 69) 57 = .ok (.iload 8, 2) := by decide +kernel
theorem d69_59 : decode (am_bytes 69) 59 = .ok (.bipush 12, 2) := by decide +kernel
theorem d69_61 : decode (am_bytes 69) 61 = .ok (.if_icmp .ge 43, 3) := by decide +kernel
theorem d69_64 : decode (am_bytes 69) 64 = .ok (.iload 7, 2) := by decide +kernel
theorem d69_66 : decode (am_bytes 69) 66 = .ok (.iload_n 2, 1) := by decide +kernel
theorem d69_67 : decode (am_bytes 69) 67 = .ok (.ifCond .eq 17, 3) := by decide +kernel
theorem d69_70 : decode (am_bytes 69) 70 = .ok (.aload_n 0, 1) := by decide +kernel
theorem d69_71 : decode (am_bytes 69) 71 = .ok (.iload 7, 2) := by decide +kernel
theorem d69_73 : decode (am_bytes 69) 73 = .ok (.iload 5, 2) := by decide +kernel
theorem d69_75 : decode (am_bytes 69) 75 = .ok (.iload_n 3, 1) := by decide +kernel
theorem d69_76 : decode (am_bytes 69) 76 = .ok (.iload 4, 2) := by decide +kernel
theorem d69_78 : decode (am_bytes 69) 78 = .ok (.invokevirtual 140, 3) := by decide +kernel
theorem d69_81 : decode (am_bytes 69) 81 = .ok (.goto 14, 3) := by decide +kernel
theorem d69_84 : decode (am_bytes 69) 84 = .ok (.aload_n 0, 1) := by decide +kernel
theorem d69_85 : decode (am_bytes 69) 85 = .ok (.iload 7, 2) := by decide +kernel
theorem d69_87 : decode (am_bytes 69) 87 = .ok (.iload 5, 2) := by decide +kernel
theorem d69_89 : decode (am_bytes 69) 89 = .ok (.iload_n 3, 1) := by decide +kernel
theorem d69_90 : decode (am_bytes 69) 90 = .ok (.iload 4, 2) := by decide +kernel
theorem d69_92 : decode (am_bytes 69) 92 = .ok (.invokevirtual 112, 3) := by decide +kernel
theorem d69_95 : decode (am_bytes 69) 95 = .ok (.ior, 1) := by decide +kernel
theorem d69_96 : decode (am_bytes 69) 96 = .ok (.istore 7, 2) := by decide +kernel
theorem d69_98 : decode (am_bytes 69) 98 = .ok (.iinc 8 1, 3) := by decide +kernel
theorem d69_101 : decode (am_bytes 69) 101 = .ok (.goto (-44), 3) := by decide +kernel
theorem d69_104 : decode (am_bytes 69) 104 = .ok (.iload 7, 2) := by decide +kernel
theorem d69_106 : decode (am_bytes 69) 106 = .ok (.ireturn, 1) := by decide +kernel
theorem d70_0 : decode (am_bytes 70) 0 = .ok (.aload_n 0, 1) := by decide +kernel
theorem d70_1 : decode (am_bytes 70) 1 = .ok (.iconst 3, 1) := by decide +kernel
theorem d70_2 : decode (am_bytes 70) 2 = .ok (.invokevirtual 133, 3) := by decide +kernel
theorem d70_5 : decode (am_bytes 70) 5 = .ok (.istore 4, 2) := by decide +kernel
theorem d70_7 : decode (am_bytes 70) 7 = .ok (.aload_n 0, 1) := by decide +kernel
theorem d70_8 : decode (am_bytes 70) 8 = .ok (.invokevirtual 122, 3) := by decide +kernel
theorem d70_11 : decode (am_bytes 70) 11 = .ok (.istore 5, 2) := by decide +kernel
theorem d70_13 : decode (am_bytes 70) 13 = .ok (.aload_n 0, 1) := by decide +kernel
theorem d70_14 : decode (am_bytes 70) 14 = .ok (.aload_n 0, 1) := by decide +kernel
theorem d70_15 : decode (am_bytes 70) 15 = .ok (.getfield 126, 3) := by decide +kernel
theorem d70_18 : decode (am_bytes 70) 18 = .ok (.ifCond .eq 28, 3) := by decide +kernel
theorem d70_21 : decode (am_bytes 70) 21 = .ok (.iload 5, 2) := by decide +kernel
theorem d70_23 : decode (am_bytes 70) 23 = .ok (.bipush 60, 2) := by decide +kernel
theorem d70_25 : decode (am_bytes 70) 25 = .ok (.if_icmp .eq 17, 3) := by decide +kernel
theorem d70_28 : decode (am_bytes 70) 28 = .ok (.iload 5, 2) := by decide +kernel
theorem d70_30 : decode (am_bytes 70) 30 = .ok (.bipush 61, 2) := by decide +kernel
theorem d70_32 : decode (am_bytes 70) 32 = .ok (.if_icmp .eq 10, 3) := by decide +kernel
theorem d70_35 : decode (am_bytes 70) 35 = .ok (.iload 5, 2) := by decide +kernel
theorem d70_37 : decode (am_bytes 70) 37 = .ok (.bipush 62, 2) := by decide +kernel
theorem d70_39 : decode (am_bytes 70) 39 = .ok (.if_icmp .ne 7, 3) := by decide +kernel
theorem d70_42 : decode (am_bytes 70) 42 = .ok (.iconst 1, 1) := by decide +kernel
theorem d70_43 : decode (am_bytes 70) 43 = .ok (.goto 4, 3) := by decide +kernel
theorem d70_46 : decode (am_bytes 70) 46 = .ok (.iconst 0, 1) := by decide +kernel
theorem d70_47 : decode (am_bytes 70) 47 = .ok (.putfield 126, 3) := by decide +kernel
theorem d70_50 : decode (am_bytes 70) 50 = .ok (.aload_n 0, 1) := by decide +kernel
theorem d70_51 : decode (am_bytes 70) 51 = .ok (.dup, 1) := by decide +kernel
theorem d70_52 : decode (am_bytes 70) 52 = .ok (.getfield 119, 3) := by decide +kernel
theorem d70_55 : decode (am_bytes 70) 55 = .ok (.iconst 1, 1) := by decide +kernel
theorem d70_56 : decode (am_bytes 70) 56 = .ok (.iadd, 1) := by decide +kernel
theorem d70_57 : decode (am_bytes 70) 57 = .ok (.putfield 119, 3) := by decide +kernel
theorem d70_60 : decode (am_bytes 70) 60 = .ok (.aload_n 0, 1) := by decide +kernel
theorem d70_61 : decode (am_bytes 70) 61 = .ok (.invokevirtual 143, 3) := by decide +kernel
theorem d70_64 : decode (am_bytes 70) 64 = .ok (.istore 6, 2) := by decide +kernel
theorem d70_66 : decode (am_bytes 70) 66 = .ok (.aload_n 0, 1) := by decide +kernel
theorem d70_67 : decode (am_bytes 70) 67 = .ok (.aload_n 0, 1) := by decide +kernel
theorem d70_68 : decode (am_bytes 70) 68 = .ok (.getfield 126, 3) := by decide +kernel
theorem d70_71 : decode (am_bytes 70) 71 = .ok (.ifCond .eq 16, 3) := by decide +kernel
theorem d70_74 : decode (am_bytes 70) 74 = .ok (.aload_n 0, 1) := by decide +kernel
theorem d70_75 : decode (am_bytes 70) 75 = .ok (.invokevirtual 122, 3) := by decide +kernel
theorem d70_78 : decode (am_bytes 70) 78 = .ok (.bipush 93, 2) := by decide +kernel
theorem d70_80 : decode (am_bytes 70) 80 = .ok (.if_icmp .ne 7, 3) := by decide +kernel
theorem d70_83 : decode (am_bytes 70) 83 = .ok (.iconst 1, 1) := by decide +kernel
theorem d70_84 : decode (am_bytes 70) 84 = .ok (.goto 4, 3) := by decide +kernel
theorem d70_87 : decode (am_bytes 70) 87 = .ok (.iconst 0, 1) := by decide +kernel
theorem d70_88 : decode (am_bytes 70) 88 = .ok (.putfield 126, 3) := by decide +kernel
theorem d70_91 : decode (am_bytes 70) 91 = .ok (.aload_n 0, 1) := by decide +kernel
theorem d70_92 : decode (am_bytes 70) 92 = .ok (.dup, 1) := by decide +kernel
theorem d70_93 : decode (am_bytes 70) 93 = .ok (.getfield 119, 3) := by decide +kernel
theorem d70_96 : decode (am_bytes 70) 96 = .ok (.iconst 1, 1) := by decide +kernel
theorem d70_97 : decode (am_bytes 70) 97 = .ok (.iadd, 1) := by decide +kernel
theorem d70_98 : decode (am_bytes 70) 98 = .ok (.putfield 119, 3) := by decide +kernel
theorem d70_101 : decode (am_bytes 70) 101 = .ok (.iconst 0, 1) := by decide +kernel
theorem d70_102 : decode (am_bytes 70) 102 = .ok (.istore 7, 2) := by decide +kernel
theorem d70_104 : decode (am_bytes 70) 104 = .ok (.iconst 0, 1) := by decide +kernel
theorem d70_105 : decode (am_bytes 70) 105 = .ok (.istore 8, 2) := by decide +kernel
theorem d70_107 : decode (am_bytes 70) 107 = .ok (.iload 8, 2) := by decide +kernel
theorem d70_109 : decode (am_bytes 70) 109 = .ok (.bipush 12, 2) := by decide +kernel
theorem d70_111 : decode (am_bytes 70) 111 = .ok (.if_icmp .ge 111, 3) := by decide +kernel
theorem d70_114 : decode (am_bytes 70) 114 = .ok (.aload_n 0, 1) := by decide +kernel
theorem d70_115 : decode (am_bytes 70) 115 = .ok (.iload_n 2, 1) := by decide +kernel
theorem d70_116 : decode (am_bytes 70) 116 = .ok (.iload_n 3, 1) := by decide +kernel
theorem d70_117 : decode (am_bytes 70) 117 = .ok (.iconst 4, 1) := by decide +kernel
theorem d70_118 : decode (am_bytes 70) 118 = .ok (.iload 8, 2) := by decide +kernel
theorem d70_120 : decode (am_bytes 70) 120 = .ok (.imul, 1) := by decide +kernel
theorem d70_121 : decode (am_bytes 70) 121 = .ok (.iload 4, 2) := by decide +kernel
theorem d70_123 : decode (am_bytes 70) 123 = .ok (.iadd, 1) := by decide +kernel
theorem d70_124 : decode (am_bytes 70) 124 = .ok (.invokevirtual 75, 3) := by decide +kernel
theorem d70_127 : decode (am_bytes 70) 127 = .ok (.istore 9, 2) := by decide +kernel
theorem d70_129 : decode (am_bytes 70) 129 = .ok (.aload_n 0, 1) := by decide +kernel
theorem d70_130 : decode (am_bytes 70) 130 = .ok (.iload 9, 2) := by decide +kernel
theorem d70_132 : decode (am_bytes 70) 132 = .ok (.invokevirtual 68, 3) := by decide +kernel
theorem d70_135 : decode (am_bytes 70) 135 = .ok (.istore 10, 2) := by decide +kernel
theorem d70_137 : decode (am_bytes 70) 137 = .ok (.aload_n 0, 1) := by decide +kernel
theorem d70_138 : decode (am_bytes 70) 138 = .ok (.iload 9, 2) := by decide +kernel
theorem d70_140 : decode (am_bytes 70) 140 = .ok (.invokevirtual 65, 3) := by decide +kernel
theorem d70_143 : decode (am_bytes 70) 143 = .ok (.iconst 1, 1) := by decide +kernel
theorem d70_144 : decode (am_bytes 70) 144 = .ok (.if_icmp .ne 48, 3) := by decide +kernel
theorem d70_147 : decode (am_bytes 70) 147 = .ok (.iload 5, 2) := by decide +kernel
theorem d70_149 : decode (am_bytes 70) 149 = .ok (.bipush 60, 2) := by decide +kernel
theorem d70_151 : decode (am_bytes 70) 151 = .ok (.if_icmp .ne 13, 3) := by decide +kernel
theorem d70_154 : decode (am_bytes 70) 154 = .ok (.iload 10, 2) := by decide +kernel
theorem d70_156 : decode (am_bytes 70) 156 = .ok (.iload 6, 2) := by decide +kernel
theorem d70_158 : decode (am_bytes 70) 158 = .ok (.if_icmp .ge 34, 3) := by decide +kernel
theorem d70_161 : decode (am_bytes 70) 161 = .ok (.goto 27, 3) := by decide +kernel
theorem d70_164 : decode (am_bytes 70) 164 = .ok (.iload 5, 2) := by decide +kernel
theorem d70_166 : decode (am_bytes 70) 166 = .ok (.bipush 61, 2) := by decide +kernel
theorem d70_168 : decode (am_bytes 70) 168 = .ok (.if_icmp .ne 13, 3) := by decide +kernel
theorem d70_171 : decode (am_bytes 70) 171 = .ok (.iload 10, 2) := by decide +kernel
theorem d70_173 : decode (am_bytes 70) 173 = .ok (.iload 6, 2) := by decide +kernel
theorem d70_175 : decode (am_bytes 70) 175 = .ok (.if_icmp .ne 17, 3) := by decide +kernel
theorem d70_178 : decode (am_bytes 70) 178 = .ok (.goto 10, 3) := by decide +kernel
theorem d70_181 : decode (am_bytes 70) 181 = .ok (.iload 10, 2) := by decide +kernel
theorem d70_183 : decode (am_bytes 70) 183 = .ok (.iload 6, 2) := by decide +kernel
theorem d70_185 : decode (am_bytes 70) 185 = .ok (.if_icmp .le 7, 3) := by decide +kernel
theorem d70_188 : decode (am_bytes 70) 188 = .ok (.iconst 1, 1) := by decide +kernel
theorem d70_189 : decode (am_bytes 70) 189 = .ok (.goto 4, 3) := by decide +kernel
theorem d70_192 : decode (am_bytes 70) 192 = .ok (.iconst 0, 1) := by decide +kernel
theorem d70_193 : decode (am_bytes 70) 193 = .ok (.istore 11, 2) := by decide +kernel
theorem d70_195 : decode (am_bytes 70) 195 = .ok (.iload 11, 2) := by decide +kernel
theorem d70_197 : decode (am_bytes 70) 197 = .ok (.ifCond .eq 15, 3) := by decide +kernel
theorem d70_200 : decode (am_bytes 70) 200 = .ok (.iload 7, 2) := by decide +kernel
theorem d70_202 : decode (am_bytes 70) 202 = .ok (.iload_n 1, 1) := by decide +kernel
theorem d70_203 : decode (am_bytes 70) 203 = .ok (.iconst 1, 1) := by decide +kernel
theorem d70_204 : decode (am_bytes 70) 204 = .ok (.iload 8, 2) := by decide +kernel
theorem d70_206 : decode (am_bytes 70) 206 = .ok (.ishl, 1) := by decide +kernel
theorem d70_207 : decode (am_bytes 70) 207 = .ok (.iand, 1) := by decide +kernel
theorem d70_208 : decode (am_bytes 70) 208 = .ok (.ior, 1) := by decide +kernel
theorem d70_209 : decode (am_bytes 70) 209 = .ok (.goto 5, 3) := by decide +kernel
theorem d70_212 : decode (am_bytes 70) 212 = .ok (.iload 7, 2) := by decide +kernel
theorem d70_214 : decode (am_bytes 70) 214 = .ok (.istore 7, 2) := by decide +kernel
theorem d70_216 : decode (am_bytes 70) 216 = .ok (.iinc 8 1, 3) := by decide +kernel
theorem d70_219 : decode (am_bytes 70) 219 = .ok (.goto (-112), 3) := by decide +kernel
theorem d70_222 : decode (am_bytes 70) 222 = .ok (.iload 7, 2) := by decide +kernel
theorem d70_224 : decode (am_bytes 70) 224 = .ok (.ireturn, 1) := by decide +kernel
theorem d71_0 : decode (am_bytes 71) 0 = .ok (.aload_n 0, 1) := by decide +kernel
theorem d71_1 : decode (am_bytes 71) 1 = .ok (.iconst 3, 1) := by decide +kernel
theorem d71_2 : decode (am_bytes 71) 2 = .ok (.invokevirtual 133, 3) := by decide +kernel
theorem d71_5 : decode (am_bytes 71) 5 = .ok (.istore 4, 2) := by decide +kernel
theorem d71_7 : decode (am_bytes 71) 7 = .ok (.iconst 0, 1) := by decide +kernel
theorem d71_8 : decode (am_bytes 71) 8 = .ok (.istore 5, 2) := by decide +kernel
theorem d71_10 : decode (am_bytes 71) 10 = .ok (.iconst 0, 1) := by decide +kernel
theorem d71_11 : decode (am_bytes 71) 11 = .ok (.istore 6, 2) := by decide +kernel
theorem d71_13 : decode (am_bytes 71) 13 = .ok (.iload 6, 2) := by decide +kernel
theorem d71_15 : decode (am_bytes 71) 15 = .ok (.bipush 12, 2) := by decide +kernel
theorem d71_17 : decode (am_bytes 71) 17 = .ok (.if_icmp .ge 45, 3) := by decide +kernel
theorem d71_20 : decode (am_bytes 71) 20 = .ok (.aload_n 0, 1) := by decide +kernel
theorem d71_21 : decode (am_bytes 71) 21 = .ok (.aload_n 0, 1) := by decide +kernel
theorem d71_22 : decode (am_bytes 71) 22 = .ok (.iload_n 2, 1) := by decide +kernel
theorem d71_23 : decode (am_bytes 71) 23 = .ok (.iload_n 3, 1) := by decide +kernel
theorem d71_24 : decode (am_bytes 71) 24 = .ok (.iconst 4, 1) := by decide +kernel
theorem d71_25 : decode (am_bytes 71) 25 = .ok (.iload 6, 2) := by decide +kernel
theorem d71_27 : decode (am_bytes 71) 27 = .ok (.imul, 1) := by decide +kernel
theorem d71_28 : decode (am_bytes 71) 28 = .ok (.iload 4, 2) := by decide +kernel
theorem d71_30 : decode (am_bytes 71) 30 = .ok (.iadd, 1) := by decide +kernel
theorem d71_31 : decode (am_bytes 71) 31 = .ok (.invokevirtual 75, 3) := by decide +kernel
theorem d71_34 : decode (am_bytes 71) 34 = .ok (.invokevirtual 65, 3) := by decide +kernel
theorem d71_37 : decode (am_bytes 71) 37 = .ok (.ifCond .ne 15, 3) := by decide +kernel
theorem d71_40 : decode (am_bytes 71) 40 = .ok (.iload 5, 2) := by decide +kernel
theorem d71_42 : decode (am_bytes 71) 42 = .ok (.iload_n 1, 1) := by decide +kernel
theorem d71_43 : decode (am_bytes 71) 43 = .ok (.iconst 1, 1) := by decide +kernel
theorem d71_44 : decode (am_bytes 71) 44 = .ok (.iload 6, 2) := by decide +kernel
theorem d71_46 : decode (am_bytes 71) 46 = .ok (.ishl, 1) := by decide +kernel
theorem d71_47 : decode (am_bytes 71) 47 = .ok (.iand, 1) := by decide +kernel
theorem d71_48 : decode (am_bytes 71) 48 = .ok (.ior, 1) := by decide +kernel
theorem d71_49 : decode (am_bytes 71) 49 = .ok (.goto 5, 3) := by decide +kernel
theorem d71_52 : decode (am_bytes 71) 52 = .ok (.iload 5, 2) := by decide +kernel
theorem d71_54 : decode (am_bytes 71) 54 = .ok (.istore 5, 2) := by decide +kernel
theorem d71_56 : decode (am_bytes 71) 56 = .ok (.iinc 6 1, 3) := by decide +kernel
theorem d71_59 : decode (am_bytes 71) 59 = .ok (.goto (-46), 3) := by decide +kernel
theorem d71_62 : decode (am_bytes 71) 62 = .ok (.iload 5, 2) := by decide +kernel
theorem d71_64 : decode (am_bytes 71) 64 = .ok (.ireturn, 1) := by decide +kernel
theorem d72_0 : decode (am_bytes 72) 0 = .ok (.aload_n 0, 1) := by decide +kernel
theorem d72_1 : decode (am_bytes 72) 1 = .ok (.bipush 46, 2) := by decide +kernel
theorem d72_3 : decode (am_bytes 72) 3 = .ok (.invokevirtual 130, 3) := by decide +kernel
theorem d72_6 : decode (am_bytes 72) 6 = .ok (.ifCond .eq 12, 3) := by decide +kernel
theorem d72_9 : decode (am_bytes 72) 9 = .ok (.aload_n 0, 1) := by decide +kernel
theorem d72_10 : decode (am_bytes 72) 10 = .ok (.iload_n 1, 1) := by decide +kernel
theorem d72_11 : decode (am_bytes 72) 11 = .ok (.iconst 0, 1) := by decide +kernel
theorem d72_12 : decode (am_bytes 72) 12 = .ok (.iload_n 2, 1) := by decide +kernel
theorem d72_13 : decode (am_bytes 72) 13 = .ok (.iload_n 3, 1) := by decide +kernel
theorem d72_14 : decode (am_bytes 72) 14 = .ok (.invokevirtual 146, 3) := by decide +kernel
theorem d72_17 : decode (am_bytes 72) 17 = .ok (.ireturn, 1) := by decide +kernel
theorem d72_18 : decode (am_bytes 72) 18 = .ok (.aload_n 0, 1) := by decide +kernel
theorem d72_19 : decode (am_bytes 72) 19 = .ok (.bipush 94, 2) := by decide +kernel
theorem d72_21 : decode (am_bytes 72) 21 = .ok (.invokevirtual 130, 3) := by decide +kernel
theorem d72_24 : decode (am_bytes 72) 24 = .ok (.ifCond .eq 12, 3) := by decide +kernel
theorem d72_27 : decode (am_bytes 72) 27 = .ok (.aload_n 0, 1) := by decide +kernel
theorem d72_28 : decode (am_bytes 72) 28 = .ok (.iload_n 1, 1) := by decide +kernel
theorem d72_29 : decode (am_bytes 72) 29 = .ok (.iconst 1, 1) := by decide +kernel
theorem d72_30 : decode (am_bytes 72) 30 = .ok (.iload_n 2, 1) := by decide +kernel
theorem d72_31 : decode (am_bytes 72) 31 = .ok (.iload_n 3, 1) := by decide +kernel
theorem d72_32 : decode (am_bytes 72) 32 = .ok (.invokevirtual 146, 3) := by decide +kernel
theorem d72_35 : decode (am_bytes 72) 35 = .ok (.ireturn, 1) := by decide +kernel
theorem d72_36 : decode (am_bytes 72) 36 = .ok (.aload_n 0, 1) := by decide +kernel
theorem d72_37 : decode (am_bytes 72) 37 = .ok (.bipush 91, 2) := by decide +kernel
theorem d72_39 : decode (am_bytes 72) 39 = .ok (.invokevirtual 130, 3) := by decide +kernel
theorem d72_42 : decode (am_bytes 72) 42 = .ok (.ifCond .eq 11, 3) := by decide +kernel
theorem d72_45 : decode (am_bytes 72) 45 = .ok (.aload_n 0, 1) := by decide +kernel
theorem d72_46 : decode (am_bytes 72) 46 = .ok (.iload_n 1, 1) := by decide +kernel
theorem d72_47 : decode (am_bytes 72) 47 = .ok (.iload_n 2, 1) := by decide +kernel
theorem d72_48 : decode (am_bytes 72) 48 = .ok (.iload_n 3, 1) := by decide +kernel
theorem d72_49 : decode (am_bytes 72) 49 = .ok (.invokevirtual 150, 3) := by decide +kernel
theorem d72_52 : decode (am_bytes 72) 52 = .ok (.ireturn, 1) := by decide +kernel
theorem d72_53 : decode (am_bytes 72) 53 = .ok (.aload_n 0, 1) := by decide +kernel
theorem d72_54 : decode (am_bytes 72) 54 = .ok (.aload_n 0, 1) := by decide +kernel
theorem d72_55 : decode (am_bytes 72) 55 = .ok (.getfield 126, 3) := by decide +kernel
theorem d72_58 : decode (am_bytes 72) 58 = .ok (.ifCond .eq 16, 3) := by decide +kernel
theorem d72_61 : decode (am_bytes 72) 61 = .ok (.aload_n 0, 1) := by decide +kernel
theorem d72_62 : decode (am_bytes 72) 62 = .ok (.bipush 63, 2) := by decide +kernel
theorem d72_64 : decode (am_bytes 72) 64 = .ok (.invokevirtual 130, 3) := by decide +kernel
theorem d72_67 : decode (am_bytes 72) 67 = .ok (.ifCond .eq 7, 3) := by decide +kernel
theorem d72_70 : decode (am_bytes 72) 70 = .ok (.iconst 1, 1) := by decide +kernel
theorem d72_71 : decode (am_bytes 72) 71 = .ok (.goto 4, 3) := by decide +kernel
theorem d72_74 : decode (am_bytes 72) 74 = .ok (.iconst 0, 1) := by decide +kernel
theorem d72_75 : decode (am_bytes 72) 75 = .ok (.putfield 126, 3) := by decide +kernel
theorem d72_78 : decode (am_bytes 72) 78 = .ok (.aload_n 0, 1) := by decide +kernel
theorem d72_79 : decode (am_bytes 72) 79 = .ok (.getfield 126, 3) := by decide +kernel
theorem d72_82 : decode (am_bytes 72) 82 = .ok (.ifCond .eq 13, 3) := by decide +kernel
theorem d72_85 : decode (am_bytes 72) 85 = .ok (.aload_n 0, 1) := by decide +kernel
theorem d72_86 : decode (am_bytes 72) 86 = .ok (.iload_n 1, 1) := by decide +kernel
theorem d72_87 : decode (am_bytes 72) 87 = .ok (.iload_n 2, 1) := by decide +kernel
theorem d72_88 : decode (am_bytes 72) 88 = .ok (.iload_n 3, 1) := by decide +kernel
theorem d72_89 : decode (am_bytes 72) 89 = .ok (.invokevirtual 153, 3) := by decide +kernel
theorem d72_92 : decode (am_bytes 72) 92 = .ok (.goto 4, 3) := by decide +kernel
theorem d72_95 : decode (am_bytes 72) 95 = .ok (.iconst 0, 1) := by decide +kernel
theorem d72_96 : decode (am_bytes 72) 96 = .ok (.ireturn, 1) := by decide +kernel
theorem d73_0 : decode (am_bytes 73) 0 = .ok (.aload_n 0, 1) := by decide +kernel
theorem d73_1 : decode (am_bytes 73) 1 = .ok (.aload_n 0, 1) := by decide +kernel
theorem d73_2 : decode (am_bytes 73) 2 = .ok (.iload_n 1, 1) := by decide +kernel
theorem d73_3 : decode (am_bytes 73) 3 = .ok (.invokevirtual 79, 3) := by decide +kernel
theorem d73_6 : decode (am_bytes 73) 6 = .ok (.ifCond .eq 7, 3) := by decide +kernel
theorem d73_9 : decode (am_bytes 73) 9 = .ok (.iconst 1, 1) := by decide +kernel
theorem d73_10 : decode (am_bytes 73) 10 = .ok (.goto 17, 3) := by decide +kernel
theorem d73_13 : decode (am_bytes 73) 13 = .ok (.aload_n 0, 1) := by decide +kernel
theorem d73_14 : decode (am_bytes 73) 14 = .ok (.iload_n 1, 1) := by decide +kernel
theorem d73_15 : decode (am_bytes 73) 15 = .ok (.iload_n 2, 1) := by decide +kernel
theorem d73_16 : decode (am_bytes 73) 16 = .ok (.invokevirtual 71, 3) := by decide +kernel
theorem d73_19 : decode (am_bytes 73) 19 = .ok (.ifCond .eq 7, 3) := by decide +kernel
theorem d73_22 : decode (am_bytes 73) 22 = .ok (.iconst 2, 1) := by decide +kernel
theorem d73_23 : decode (am_bytes 73) 23 = .ok (.goto 4, 3) := by decide +kernel
theorem d73_26 : decode (am_bytes 73) 26 = .ok (.iconst 0, 1) := by decide +kernel
theorem d73_27 : decode (am_bytes 73) 27 = .ok (.putfield 45, 3) := by decide +kernel
theorem d73_30 : decode (am_bytes 73) 30 = .ok (.aload_n 0, 1) := by decide +kernel
theorem d73_31 : decode (am_bytes 73) 31 = .ok (.getfield 45, 3) := by decide +kernel
theorem d73_34 : decode (am_bytes 73) 34 = .ok (.ifCond .le 5, 3) := by decide +kernel
theorem d73_37 : decode (am_bytes 73) 37 = .ok (.iconst 0, 1) := by decide +kernel
theorem d73_38 : decode (am_bytes 73) 38 = .ok (.ireturn, 1) := by decide +kernel
theorem d73_39 : decode (am_bytes 73) 39 = .ok (.aload_n 0, 1) := by decide +kernel
theorem d73_40 : decode (am_bytes 73) 40 = .ok (.iconst 1, 1) := by decide +kernel
theorem d73_41 : decode (am_bytes 73) 41 = .ok (.putfield 119, 3) := by decide +kernel
theorem d73_44 : decode (am_bytes 73) 44 = .ok (.aload_n 0, 1) := by decide +kernel
theorem d73_45 : decode (am_bytes 73) 45 = .ok (.getfield 116, 3) := by decide +kernel
theorem d73_48 : decode (am_bytes 73) 48 = .ok (.ifCond .le 12, 3) := by decide +kernel
theorem d73_51 : decode (am_bytes 73) 51 = .ok (.aload_n 0, 1) := by decide +kernel
theorem d73_52 : decode (am_bytes 73) 52 = .ok (.getfield 42, 3) := by decide +kernel
theorem d73_55 : decode (am_bytes 73) 55 = .ok (.iconst 0, 1) := by decide +kernel
theorem d73_56 : decode (am_bytes 73) 56 = .ok (.iaload, 1) := by decide +kernel
theorem d73_57 : decode (am_bytes 73) 57 = .ok (.goto 4, 3) := by decide +kernel
theorem d73_60 : decode (am_bytes 73) 60 = .ok (.iconst 0, 1) := by decide +kernel
theorem d73_61 : decode (am_bytes 73) 61 = .ok (.istore_n 3, 1) := by decide +kernel
theorem d73_62 : decode (am_bytes 73) 62 = .ok (.aload_n 0, 1) := by decide +kernel
theorem d73_63 : decode (am_bytes 73) 63 = .ok (.iload_n 3, 1) := by decide +kernel
theorem d73_64 : decode (am_bytes 73) 64 = .ok (.bipush 42, 2) := by decide +kernel
theorem d73_66 : decode (am_bytes 73) 66 = .ok (.if_icmp .eq 15, 3) := by decide +kernel
theorem d73_69 : decode (am_bytes 73) 69 = .ok (.iload_n 3, 1) := by decide +kernel
theorem d73_70 : decode (am_bytes 73) 70 = .ok (.bipush 97, 2) := by decide +kernel
theorem d73_72 : decode (am_bytes 73) 72 = .ok (.if_icmp .lt 13, 3) := by decide +kernel
theorem d73_75 : decode (am_bytes 73) 75 = .ok (.iload_n 3, 1) := by decide +kernel
theorem d73_76 : decode (am_bytes 73) 76 = .ok (.bipush 108, 2) := by decide +kernel
theorem d73_78 : decode (am_bytes 73) 78 = .ok (.if_icmp .gt 7, 3) := by decide +kernel
theorem d73_81 : decode (am_bytes 73) 81 = .ok (.iconst 1, 1) := by decide +kernel
theorem d73_82 : decode (am_bytes 73) 82 = .ok (.goto 4, 3) := by decide +kernel
theorem d73_85 : decode (am_bytes 73) 85 = .ok (.iconst 0, 1) := by decide +kernel
theorem d73_86 : decode (am_bytes 73) 86 = .ok (.putfield 126, 3) := by decide +kernel
theorem d73_89 : decode (am_bytes 73) 89 = .ok (.iload_n 3, 1) := by decide +kernel
theorem d73_90 : decode (am_bytes 73) 90 = .ok (.bipush 42, 2) := by decide +kernel
theorem d73_92 : decode (am_bytes 73) 92 = .ok (.if_icmp .ne 9, 3) := by decide +kernel
theorem d73_95 : decode (am_bytes 73) 95 = .ok (.sipush 4095, 3) := by decide +kernel
theorem d73_98 : decode (am_bytes 73) 98 = .ok (.goto 20, 3) := by decide +kernel
theorem d73_101 : decode (am_bytes 73) 101 = .ok (.aload_n 0, 1) := by decide +kernel
theorem d73_102 : decode (am_bytes 73) 102 = .ok (.getfield 126, 3) := by decide +kernel
theorem d73_105 : decode (am_bytes 73) 105 = .ok (.ifCond .eq 12, 3) := by decide +kernel
theorem d73_108 : decode (am_bytes 73) 108 = .ok (.iconst 1, 1) := by decide +kernel
theorem d73_109 : decode (am_bytes 73) 109 = .ok (.iload_n 3, 1) := by decide +kernel
theorem d73_110 : decode (am_bytes 73) 110 = .ok (.bipush 97, 2) := by decide +kernel
theorem d73_112 : decode (am_bytes 73) 112 = .ok (.isub, 1) := by decide +kernel
theorem d73_113 : decode (am_bytes 73) 113 = .ok (.ishl, 1) := by decide +kernel
theorem d73_114 : decode (am_bytes 73) 114 = .ok (.goto 4, 3) := by decide +kernel
theorem d73_117 : decode (am_bytes 73) 117 = .ok (.iconst 0, 1) := by decide +kernel
theorem d73_118 : decode (am_bytes 73) 118 = .ok (.istore 4, 2) := by decide +kernel
theorem d73_120 : decode (am_bytes 73) 120 = .ok (.aload_n 0, 1) := by decide +kernel
theorem d73_121 : decode (am_bytes 73) 121 = .ok (.getfield 126, 3) := by decide +kernel
theorem d73_124 : decode (am_bytes 73) 124 = .ok (.ifCond .eq 27, 3) := by decide +kernel
theorem d73_127 : decode (am_bytes 73) 127 = .ok (.aload_n 0, 1) := by decide +kernel
theorem d73_128 : decode (am_bytes 73) 128 = .ok (.getfield 119, 3) := by decide +kernel
theorem d73_131 : decode (am_bytes 73) 131 = .ok (.aload_n 0, 1) := by decide +kernel
theorem d73_132 : decode (am_bytes 73) 132 = .ok (.getfield 116, 3) := by decide +kernel
theorem d73_135 : decode (am_bytes 73) 135 = .ok (.if_icmp .ge 16, 3) := by decide +kernel
theorem d73_138 : decode (am_bytes 73) 138 = .ok (.aload_n 0, 1) := by decide +kernel
theorem d73_139 : decode (am_bytes 73) 139 = .ok (.iload 4, 2) := by decide +kernel
theorem d73_141 : decode (am_bytes 73) 141 = .ok (.iload_n 1, 1) := by decide +kernel
theorem d73_142 : decode (am_bytes 73) 142 = .ok (.iload_n 2, 1) := by decide +kernel
theorem d73_143 : decode (am_bytes 73) 143 = .ok (.invokevirtual 156, 3) := by decide +kernel
theorem d73_146 : decode (am_bytes 73) 146 = .ok (.istore 4, 2) := by decide +kernel
theorem d73_148 : decode (am_bytes 73) 148 = .ok (.goto (-28), 3) := by decide +kernel
theorem d73_151 : decode (am_bytes 73) 151 = .ok (.aload_n 0, 1) := by decide +kernel
theorem d73_152 : decode (am_bytes 73) 152 = .ok (.getfield 126, 3) := by decide +kernel
theorem d73_155 : decode (am_bytes 73) 155 = .ok (.ifCond .eq 8, 3) := by decide +kernel
theorem d73_158 : decode (am_bytes 73) 158 = .ok (.iload 4, 2) := by decide +kernel
theorem d73_160 : decode (am_bytes 73) 160 = .ok (.goto 4, 3) := by decide +kernel
theorem d73_163 : decode (am_bytes 73) 163 = .ok (.iconst (-1), 1) := by decide +kernel
theorem d73_164 : decode (am_bytes 73) 164 = .ok (.ireturn, 1) := by decide +kernel
theorem d74_0 : decode (am_bytes 74) 0 = .ok (.aload_n 0, 1) := by decide +kernel
theorem d74_1 : decode (am_bytes 74) 1 = .ok (.iload_n 1, 1) := by decide +kernel
theorem d74_2 : decode (am_bytes 74) 2 = .ok (.ifCond .lt 8, 3) := by decide +kernel
theorem d74_5 : decode (am_bytes 74) 5 = .ok (.iload_n 1, 1) := by decide +kernel
theorem d74_6 : decode (am_bytes 74) 6 = .ok (.iconst 3, 1) := by decide +kernel
theorem d74_7 : decode (am_bytes 74) 7 = .ok (.if_icmp .le 7, 3) := by decide +kernel
theorem d74_10 : decode (am_bytes 74) 10 = .ok (.iconst 1, 1) := by decide +kernel
theorem d74_11 : decode (am_bytes 74) 11 = .ok (.goto 4, 3) := by decide +kernel
theorem d74_14 : decode (am_bytes 74) 14 = .ok (.iconst 0, 1) := by decide +kernel
theorem d74_15 : decode (am_bytes 74) 15 = .ok (.putfield 45, 3) := by decide +kernel
theorem d74_18 : decode (am_bytes 74) 18 = .ok (.aload_n 0, 1) := by decide +kernel
theorem d74_19 : decode (am_bytes 74) 19 = .ok (.getfield 45, 3) := by decide +kernel
theorem d74_22 : decode (am_bytes 74) 22 = .ok (.ifCond .le 7, 3) := by decide +kernel
theorem d74_25 : decode (am_bytes 74) 25 = .ok (.iconst 0, 1) := by decide +kernel
theorem d74_26 : decode (am_bytes 74) 26 = .ok (.goto 42, 3) := by decide +kernel
theorem d74_29 : decode (am_bytes 74) 29 = .ok (.iload_n 1, 1) := by decide +kernel
theorem d74_30 : decode (am_bytes 74) 30 = .ok (.ifCond .ne 10, 3) := by decide +kernel
theorem d74_33 : decode (am_bytes 74) 33 = .ok (.aload_n 0, 1) := by decide +kernel
theorem d74_34 : decode (am_bytes 74) 34 = .ok (.getfield 55, 3) := by decide +kernel
theorem d74_37 : decode (am_bytes 74) 37 = .ok (.goto 31, 3) := by decide +kernel
theorem d74_40 : decode (am_bytes 74) 40 = .ok (.iload_n 1, 1) := by decide +kernel
theorem d74_41 : decode (am_bytes 74) 41 = .ok (.iconst 1, 1) := by decide +kernel
theorem d74_42 : decode (am_bytes 74) 42 = .ok (.if_icmp .ne 10, 3) := by decide +kernel
theorem d74_45 : decode (am_bytes 74) 45 = .ok (.aload_n 0, 1) := by decide +kernel
theorem d74_46 : decode (am_bytes 74) 46 = .ok (.getfield 48, 3) := by decide +kernel
theorem d74_49 : decode (am_bytes 74) 49 = .ok (.goto 19, 3) := by decide +kernel
theorem d74_52 : decode (am_bytes 74) 52 = .ok (.iload_n 1, 1) := by decide +kernel
theorem d74_53 : decode (am_bytes 74) 53 = .ok (.iconst 2, 1) := by decide +kernel
theorem d74_54 : decode (am_bytes 74) 54 = .ok (.if_icmp .ne 10, 3) := by decide +kernel
theorem d74_57 : decode (am_bytes 74) 57 = .ok (.aload_n 0, 1) := by decide +kernel
theorem d74_58 : decode (am_bytes 74) 58 = .ok (.getfield 58, 3) := by decide +kernel
theorem d74_61 : decode (am_bytes 74) 61 = .ok (.goto 7, 3) := by decide +kernel
theorem d74_64 : decode (am_bytes 74) 64 = .ok (.aload_n 0, 1) := by decide +kernel
theorem d74_65 : decode (am_bytes 74) 65 = .ok (.getfield 7, 3) := by decide +kernel
theorem d74_68 : decode (am_bytes 74) 68 = .ok (.ireturn, 1) := by decide +kernel
theorem d75_0 : decode (am_bytes 75) 0 = .ok (.aload_n 0, 1) := by decide +kernel
theorem d75_1 : decode (am_bytes 75) 1 = .ok (.aload_n 0, 1) := by decide +kernel
theorem d75_2 : decode (am_bytes 75) 2 = .ok (.iload_n 1, 1) := by decide +kernel
theorem d75_3 : decode (am_bytes 75) 3 = .ok (.invokevirtual 79, 3) := by decide +kernel
theorem d75_6 : decode (am_bytes 75) 6 = .ok (.ifCond .eq 7, 3) := by decide +kernel
theorem d75_9 : decode (am_bytes 75) 9 = .ok (.iconst 1, 1) := by decide +kernel
theorem d75_10 : decode (am_bytes 75) 10 = .ok (.goto 17, 3) := by decide +kernel
theorem d75_13 : decode (am_bytes 75) 13 = .ok (.iload_n 2, 1) := by decide +kernel
theorem d75_14 : decode (am_bytes 75) 14 = .ok (.ifCond .lt 8, 3) := by decide +kernel
theorem d75_17 : decode (am_bytes 75) 17 = .ok (.iload_n 2, 1) := by decide +kernel
theorem d75_18 : decode (am_bytes 75) 18 = .ok (.iconst 3, 1) := by decide +kernel
theorem d75_19 : decode (am_bytes 75) 19 = .ok (.if_icmp .le 7, 3) := by decide +kernel
theorem d75_22 : decode (am_bytes 75) 22 = .ok (.iconst 2, 1) := by decide +kernel
theorem d75_23 : decode (am_bytes 75) 23 = .ok (.goto 4, 3) := by decide +kernel
theorem d75_26 : decode (am_bytes 75) 26 = .ok (.iconst 0, 1) := by decide +kernel
theorem d75_27 : decode (am_bytes 75) 27 = .ok (.putfield 45, 3) := by decide +kernel
theorem d75_30 : decode (am_bytes 75) 30 = .ok (.aload_n 0, 1) := by decide +kernel
theorem d75_31 : decode (am_bytes 75) 31 = .ok (.getfield 45, 3) := by decide +kernel
theorem d75_34 : decode (am_bytes 75) 34 = .ok (.ifCond .le 5, 3) := by decide +kernel
theorem d75_37 : decode (am_bytes 75) 37 = .ok (.iconst 0, 1) := by decide +kernel
theorem d75_38 : decode (am_bytes 75) 38 = .ok (.ireturn, 1) := by decide +kernel
theorem d75_39 : decode (am_bytes 75) 39 = .ok (.iconst 0, 1) := by decide +kernel
theorem d75_40 : decode (am_bytes 75) 40 = .ok (.istore_n 3, 1) := by decide +kernel
theorem d75_41 : decode (am_bytes 75) 41 = .ok (.iconst 0, 1) := by decide +kernel
theorem d75_42 : decode (am_bytes 75) 42 = .ok (.istore 4, 2) := by decide +kernel
theorem d75_44 : decode (am_bytes 75) 44 = .ok (.iload 4, 2) := by decide +kernel
theorem d75_46 : decode (am_bytes 75) 46 = .ok (.aload_n 0, 1) := by decide +kernel
theorem d75_47 : decode (am_bytes 75) 47 = .ok (.getfield 58, 3) := by decide +kernel
theorem d75_50 : decode (am_bytes 75) 50 = .ok (.if_icmp .ge 28, 3) := by decide +kernel
theorem d75_53 : decode (am_bytes 75) 53 = .ok (.aload_n 0, 1) := by decide +kernel
theorem d75_54 : decode (am_bytes 75) 54 = .ok (.getfield 24, 3) := by decide +kernel
theorem d75_57 : decode (am_bytes 75) 57 = .ok (.iload 4, 2) := by decide +kernel
theorem d75_59 : decode (am_bytes 75) 59 = .ok (.iaload, 1) := by decide +kernel
theorem d75_60 : decode (am_bytes 75) 60 = .ok (.iload_n 1, 1) := by decide +kernel
theorem d75_61 : decode (am_bytes 75) 61 = .ok (.if_icmp .ne 9, 3) := by decide +kernel
theorem d75_64 : decode (am_bytes 75) 64 = .ok (.iload_n 3, 1) := by decide +kernel
theorem d75_65 : decode (am_bytes 75) 65 = .ok (.iconst 1, 1) := by decide +kernel
theorem d75_66 : decode (am_bytes 75) 66 = .ok (.iadd, 1) := by decide +kernel
theorem d75_67 : decode (am_bytes 75) 67 = .ok (.goto 4, 3) := by decide +kernel
theorem d75_70 : decode (am_bytes 75) 70 = .ok (.iload_n 3, 1) := by decide +kernel
theorem d75_71 : decode (am_bytes 75) 71 = .ok (.istore_n 3, 1) := by decide +kernel
theorem d75_72 : decode (am_bytes 75) 72 = .ok (.iinc 4 1, 3) := by decide +kernel
theorem d75_75 : decode (am_bytes 75) 75 = .ok (.goto (-31), 3) := by decide +kernel
theorem d75_78 : decode (am_bytes 75) 78 = .ok (.iload_n 2, 1) := by decide +kernel
theorem d75_79 : decode (am_bytes 75) 79 = .ok (.ifCond .ne 20, 3) := by decide +kernel
theorem d75_82 : decode (am_bytes 75) 82 = .ok (.aload_n 0, 1) := by decide +kernel
theorem d75_83 : decode (am_bytes 75) 83 = .ok (.getfield 20, 3) := by decide +kernel
theorem d75_86 : decode (am_bytes 75) 86 = .ok (.iload_n 1, 1) := by decide +kernel
theorem d75_87 : decode (am_bytes 75) 87 = .ok (.baload, 1) := by decide +kernel
theorem d75_88 : decode (am_bytes 75) 88 = .ok (.ifCond .eq 7, 3) := by decide +kernel
theorem d75_91 : decode (am_bytes 75) 91 = .ok (.iconst 0, 1) := by decide +kernel
theorem d75_92 : decode (am_bytes 75) 92 = .ok (.goto 36, 3) := by decide +kernel
theorem d75_95 : decode (am_bytes 75) 95 = .ok (.iconst 1, 1) := by decide +kernel
theorem d75_96 : decode (am_bytes 75) 96 = .ok (.goto 32, 3) := by decide +kernel
theorem d75_99 : decode (am_bytes 75) 99 = .ok (.iload_n 2, 1) := by decide +kernel
theorem d75_100 : decode (am_bytes 75) 100 = .ok (.iconst 1, 1) := by decide +kernel
theorem d75_101 : decode (am_bytes 75) 101 = .ok (.if_icmp .ne 12, 3) := by decide +kernel
theorem d75_104 : decode (am_bytes 75) 104 = .ok (.aload_n 0, 1) := by decide +kernel
theorem d75_105 : decode (am_bytes 75) 105 = .ok (.getfield 13, 3) := by decide +kernel
theorem d75_108 : decode (am_bytes 75) 108 = .ok (.iload_n 1, 1) := by decide +kernel
theorem d75_109 : decode (am_bytes 75) 109 = .ok (.iaload, 1) := by decide +kernel
theorem d75_110 : decode (am_bytes 75) 110 = .ok (.goto 18, 3) := by decide +kernel
theorem d75_113 : decode (am_bytes 75) 113 = .ok (.iload_n 2, 1) := by decide +kernel
theorem d75_114 : decode (am_bytes 75) 114 = .ok (.iconst 2, 1) := by decide +kernel
theorem d75_115 : decode (am_bytes 75) 115 = .ok (.if_icmp .ne 12, 3) := by decide +kernel
theorem d75_118 : decode (am_bytes 75) 118 = .ok (.aload_n 0, 1) := by decide +kernel
theorem d75_119 : decode (am_bytes 75) 119 = .ok (.getfield 17, 3) := by decide +kernel
theorem d75_122 : decode (am_bytes 75) 122 = .ok (.iload_n 1, 1) := by decide +kernel
theorem d75_123 : decode (am_bytes 75) 123 = .ok (.iaload, 1) := by decide +kernel
theorem d75_124 : decode (am_bytes 75) 124 = .ok (.goto 4, 3) := by decide +kernel
theorem d75_127 : decode (am_bytes 75) 127 = .ok (.iload_n 3, 1) := by decide +kernel
theorem d75_128 : decode (am_bytes 75) 128 = .ok (.ireturn, 1) := by decide +kernel
theorem d76_0 : decode (am_bytes 76) 0 = .ok (.aload_n 0, 1) := by decide +kernel
theorem d76_1 : decode (am_bytes 76) 1 = .ok (.getfield 25, 3) := by decide +kernel
theorem d76_4 : decode (am_bytes 76) 4 = .ok (.istore_n 3, 1) := by decide +kernel
theorem d76_5 : decode (am_bytes 76) 5 = .ok (.aload_n 0, 1) := by decide +kernel
theorem d76_6 : decode (am_bytes 76) 6 = .ok (.getfield 9, 3) := by decide +kernel
theorem d76_9 : decode (am_bytes 76) 9 = .ok (.iload_n 3, 1) := by decide +kernel
theorem d76_10 : decode (am_bytes 76) 10 = .ok (.iload_n 1, 1) := by decide +kernel
theorem d76_11 : decode (am_bytes 76) 11 = .ok (.iastore, 1) := by decide +kernel
theorem d76_12 : decode (am_bytes 76) 12 = .ok (.aload_n 0, 1) := by decide +kernel
theorem d76_13 : decode (am_bytes 76) 13 = .ok (.getfield 15, 3) := by decide +kernel
theorem d76_16 : decode (am_bytes 76) 16 = .ok (.iload_n 3, 1) := by decide +kernel
theorem d76_17 : decode (am_bytes 76) 17 = .ok (.iload_n 2, 1) := by decide +kernel
theorem d76_18 : decode (am_bytes 76) 18 = .ok (.iastore, 1) := by decide +kernel
theorem d76_19 : decode (am_bytes 76) 19 = .ok (.aload_n 0, 1) := by decide +kernel
theorem d76_20 : decode (am_bytes 76) 20 = .ok (.getfield 18, 3) := by decide +kernel
theorem d76_23 : decode (am_bytes 76) 23 = .ok (.iload_n 3, 1) := by decide +kernel
theorem d76_24 : decode (am_bytes 76) 24 = .ok (.iconst 1, 1) := by decide +kernel
theorem d76_25 : decode (am_bytes 76) 25 = .ok (.bastore, 1) := by decide +kernel
theorem d76_26 : decode (am_bytes 76) 26 = .ok (.aload_n 0, 1) := by decide +kernel
theorem d76_27 : decode (am_bytes 76) 27 = .ok (.dup, 1) := by decide +kernel
theorem d76_28 : decode (am_bytes 76) 28 = .ok (.getfield 25, 3) := by decide +kernel
theorem d76_31 : decode (am_bytes 76) 31 = .ok (.iconst 1, 1) := by decide +kernel
theorem d76_32 : decode (am_bytes 76) 32 = .ok (.iadd, 1) := by decide +kernel
theorem d76_33 : decode (am_bytes 76) 33 = .ok (.putfield 25, 3) := by decide +kernel
theorem d76_36 : decode (am_bytes 76) 36 = .ok (.iload_n 3, 1) := by decide +kernel
theorem d76_37 : decode (am_bytes 76) 37 = .ok (.ireturn, 1) := by decide +kernel
theorem d77_0 : decode (am_bytes 77) 0 = .ok (.iconst 0, 1) := by decide +kernel
theorem d77_1 : decode (am_bytes 77) 1 = .ok (.istore_n 1, 1) := by decide +kernel
theorem d77_2 : decode (am_bytes 77) 2 = .ok (.iconst 0, 1) := by decide +kernel
theorem d77_3 : decode (am_bytes 77) 3 = .ok (.istore_n 2, 1) := by decide +kernel
theorem d77_4 : decode (am_bytes 77) 4 = .ok (.iload_n 2, 1) := by decide +kernel
theorem d77_5 : decode (am_bytes 77) 5 = .ok (.aload_n 0, 1) := by decide +kernel
theorem d77_6 : decode (am_bytes 77) 6 = .ok (.getfield 25, 3) := by decide +kernel
theorem d77_9 : decode (am_bytes 77) 9 = .ok (.if_icmp .ge 21, 3) := by decide +kernel
theorem d77_12 : decode (am_bytes 77) 12 = .ok (.aload_n 0, 1) := by decide +kernel
theorem d77_13 : decode (am_bytes 77) 13 = .ok (.getfield 18, 3) := by decide +kernel
theorem d77_16 : decode (am_bytes 77) 16 = .ok (.iload_n 2, 1) := by decide +kernel
theorem d77_17 : decode (am_bytes 77) 17 = .ok (.baload, 1) := by decide +kernel
theorem d77_18 : decode (am_bytes 77) 18 = .ok (.ifCond .eq 6, 3) := by decide +kernel
theorem d77_21 : decode (am_bytes 77) 21 = .ok (.iinc 1 1, 3) := by decide +kernel
theorem d77_24 : decode (am_bytes 77) 24 = .ok (.iinc 2 1, 3) := by decide +kernel
theorem d77_27 : decode (am_bytes 77) 27 = .ok (.goto (-23), 3) := by decide +kernel
theorem d77_30 : decode (am_bytes 77) 30 = .ok (.iload_n 1, 1) := by decide +kernel
theorem d77_31 : decode (am_bytes 77) 31 = .ok (.ireturn, 1) := by decide +kernel
theorem d78_0 : decode (am_bytes 78) 0 = .ok (.iload_n 3, 1) := by decide +kernel
theorem d78_1 : decode (am_bytes 78) 1 = .ok (.istore 4, 2) := by decide +kernel
theorem d78_3 : decode (am_bytes 78) 3 = .ok (.iload_n 1, 1) := by decide +kernel
theorem d78_4 : decode (am_bytes 78) 4 = .ok (.istore 5, 2) := by decide +kernel
theorem d78_6 : decode (am_bytes 78) 6 = .ok (.iload_n 2, 1) := by decide +kernel
theorem d78_7 : decode (am_bytes 78) 7 = .ok (.istore 6, 2) := by decide +kernel
theorem d78_9 : decode (am_bytes 78) 9 = .ok (.iconst 0, 1) := by decide +kernel
theorem d78_10 : decode (am_bytes 78) 10 = .ok (.istore 7, 2) := by decide +kernel
theorem d78_12 : decode (am_bytes 78) 12 = .ok (.iload 7, 2) := by decide +kernel
theorem d78_14 : decode (am_bytes 78) 14 = .ok (.bipush 12, 2) := by decide +kernel
theorem d78_16 : decode (am_bytes 78) 16 = .ok (.if_icmp .ge 67, 3) := by decide +kernel
theorem d78_19 : decode (am_bytes 78) 19 = .ok (.iload 5, 2) := by decide +kernel
theorem d78_21 : decode (am_bytes 78) 21 = .ok (.iload 6, 2) := by decide +kernel
theorem d78_23 : decode (am_bytes 78) 23 = .ok (.if_icmp .eq 60, 3) := by decide +kernel
theorem d78_26 : decode (am_bytes 78) 26 = .ok (.iload 5, 2) := by decide +kernel
theorem d78_28 : decode (am_bytes 78) 28 = .ok (.iload 6, 2) := by decide +kernel
theorem d78_30 : decode (am_bytes 78) 30 = .ok (.invokestatic 29, 3) := by decide +kernel
theorem d78_33 : decode (am_bytes 78) 33 = .ok (.istore 8, 2) := by decide +kernel
theorem d78_35 : decode (am_bytes 78) 35 = .ok (.iload 4, 2) := by decide +kernel
theorem d78_37 : decode (am_bytes 78) 37 = .ok (.aload_n 0, 1) := by decide +kernel
theorem d78_38 : decode (am_bytes 78) 38 = .ok (.getfield 15, 3) := by decide +kernel
theorem d78_41 : decode (am_bytes 78) 41 = .ok (.iload 8, 2) := by decide +kernel
theorem d78_43 : decode (am_bytes 78) 43 = .ok (.iaload, 1) := by decide +kernel
theorem d78_44 : decode (am_bytes 78) 44 = .ok (.invokestatic 35, 3) := by decide +kernel
theorem d78_47 : decode (am_bytes 78) 47 = .ok (.istore 4, 2) := by decide +kernel
theorem d78_49 : decode (am_bytes 78) 49 = .ok (.iload 5, 2) := by decide +kernel
theorem d78_51 : decode (am_bytes 78) 51 = .ok (.iload 8, 2) := by decide +kernel
theorem d78_53 : decode (am_bytes 78) 53 = .ok (.if_icmp .ne 15, 3) := by decide +kernel
theorem d78_56 : decode (am_bytes 78) 56 = .ok (.aload_n 0, 1) := by decide +kernel
theorem d78_57 : decode (am_bytes 78) 57 = .ok (.getfield 9, 3) := by decide +kernel
theorem d78_60 : decode (am_bytes 78) 60 = .ok (.iload 8, 2) := by decide +kernel
theorem d78_62 : decode (am_bytes 78) 62 = .ok (.iaload, 1) := by decide +kernel
theorem d78_63 : decode (am_bytes 78) 63 = .ok (.istore 5, 2) := by decide +kernel
theorem d78_65 : decode (am_bytes 78) 65 = .ok (.goto 12, 3) := by decide +kernel
theorem d78_68 : decode (am_bytes 78) 68 = .ok (.aload_n 0, 1) := by decide +kernel
theorem d78_69 : decode (am_bytes 78) 69 = .ok (.getfield 9, 3) := by decide +kernel
theorem d78_72 : decode (am_bytes 78) 72 = .ok (.iload 8, 2) := by decide +kernel
theorem d78_74 : decode (am_bytes 78) 74 = .ok (.iaload, 1) := by decide +kernel
theorem d78_75 : decode (am_bytes 78) 75 = .ok (.istore 6, 2) := by decide +kernel
theorem d78_77 : decode (am_bytes 78) 77 = .ok (.iinc 7 1, 3) := by decide +kernel
theorem d78_80 : decode (am_bytes 78) 80 = .ok (.goto (-68), 3) := by decide +kernel
theorem d78_83 : decode (am_bytes 78) 83 = .ok (.iload 4, 2) := by decide +kernel
theorem d78_85 : decode (am_bytes 78) 85 = .ok (.ireturn, 1) := by decide +kernel
theorem d79_0 : decode (am_bytes 79) 0 = .ok (.aload_n 0, 1) := by decide +kernel
theorem d79_1 : decode (am_bytes 79) 1 = .ok (.getfield 22, 3) := by decide +kernel
theorem d79_4 : decode (am_bytes 79) 4 = .ok (.iconst (-1), 1) := by decide +kernel
theorem d79_5 : decode (am_bytes 79) 5 = .ok (.invokestatic 38, 3) := by decide +kernel
theorem d79_8 : decode (am_bytes 79) 8 = .ok (.aload_n 0, 1) := by decide +kernel
theorem d79_9 : decode (am_bytes 79) 9 = .ok (.getfield 22, 3) := by decide +kernel
theorem d79_12 : decode (am_bytes 79) 12 = .ok (.iload_n 1, 1) := by decide +kernel
theorem d79_13 : decode (am_bytes 79) 13 = .ok (.iload_n 2, 1) := by decide +kernel
theorem d79_14 : decode (am_bytes 79) 14 = .ok (.iastore, 1) := by decide +kernel
theorem d79_15 : decode (am_bytes 79) 15 = .ok (.iload_n 1, 1) := by decide +kernel
theorem d79_16 : decode (am_bytes 79) 16 = .ok (.istore_n 3, 1) := by decide +kernel
theorem d79_17 : decode (am_bytes 79) 17 = .ok (.iload_n 3, 1) := by decide +kernel
theorem d79_18 : decode (am_bytes 79) 18 = .ok (.ifCond .le 45, 3) := by decide +kernel
theorem d79_21 : decode (am_bytes 79) 21 = .ok (.aload_n 0, 1) := by decide +kernel
theorem d79_22 : decode (am_bytes 79) 22 = .ok (.getfield 22, 3) := by decide +kernel
theorem d79_25 : decode (am_bytes 79) 25 = .ok (.iload_n 3, 1) := by decide +kernel
theorem d79_26 : decode (am_bytes 79) 26 = .ok (.iaload, 1) := by decide +kernel
theorem d79_27 : decode (am_bytes 79) 27 = .ok (.iconst (-1), 1) := by decide +kernel
theorem d79_28 : decode (am_bytes 79) 28 = .ok (.if_icmp .eq 29, 3) := by decide +kernel
theorem d79_31 : decode (am_bytes 79) 31 = .ok (.aload_n 0, 1) := by decide +kernel
theorem d79_32 : decode (am_bytes 79) 32 = .ok (.getfield 22, 3) := by decide +kernel
theorem d79_35 : decode (am_bytes 79) 35 = .ok (.aload_n 0, 1) := by decide +kernel
theorem d79_36 : decode (am_bytes 79) 36 = .ok (.getfield 9, 3) := by decide +kernel
theorem d79_39 : decode (am_bytes 79) 39 = .ok (.iload_n 3, 1) := by decide +kernel
theorem d79_40 : decode (am_bytes 79) 40 = .ok (.iaload, 1) := by decide +kernel
theorem d79_41 : decode (am_bytes 79) 41 = .ok (.aload_n 0, 1) := by decide +kernel
theorem d79_42 : decode (am_bytes 79) 42 = .ok (.getfield 22, 3) := by decide +kernel
theorem d79_45 : decode (am_bytes 79) 45 = .ok (.iload_n 3, 1) := by decide +kernel
theorem d79_46 : decode (am_bytes 79) 46 = .ok (.iaload, 1) := by decide +kernel
theorem d79_47 : decode (am_bytes 79) 47 = .ok (.aload_n 0, 1) := by decide +kernel
theorem d79_48 : decode (am_bytes 79) 48 = .ok (.getfield 15, 3) := by decide +kernel
theorem d79_51 : decode (am_bytes 79) 51 = .ok (.iload_n 3, 1) := by decide +kernel
theorem d79_52 : decode (am_bytes 79) 52 = .ok (.iaload, 1) := by decide +kernel
theorem d79_53 : decode (am_bytes 79) 53 = .ok (.invokestatic 35, 3) := by decide +kernel
theorem d79_56 : decode (am_bytes 79) 56 = .ok (.iastore, 1) := by decide +kernel
theorem d79_57 : decode (am_bytes 79) 57 = .ok (.iinc 3 (-1), 3) := by decide +kernel
theorem d79_60 : decode (am_bytes 79) 60 = .ok (.goto (-43), 3) := by decide +kernel
theorem d79_63 : decode (am_bytes 79) 63 = .ok (.return_, 1) := by decide +kernel
theorem d80_0 : decode (am_bytes 80) 0 = .ok (.bipush 24, 2) := by decide +kernel
theorem d80_2 : decode (am_bytes 80) 2 = .ok (.istore_n 2, 1) := by decide +kernel
theorem d80_3 : decode (am_bytes 80) 3 = .ok (.iload_n 2, 1) := by decide +kernel
theorem d80_4 : decode (am_bytes 80) 4 = .ok (.ifCond .lt 33, 3) := by decide +kernel
theorem d80_7 : decode (am_bytes 80) 7 = .ok (.iload_n 1, 1) := by decide +kernel
theorem d80_8 : decode (am_bytes 80) 8 = .ok (.iload_n 2, 1) := by decide +kernel
theorem d80_9 : decode (am_bytes 80) 9 = .ok (.invokestatic 25, 3) := by decide +kernel
theorem d80_12 : decode (am_bytes 80) 12 = .ok (.istore_n 3, 1) := by decide +kernel
theorem d80_13 : decode (am_bytes 80) 13 = .ok (.iload_n 3, 1) := by decide +kernel
theorem d80_14 : decode (am_bytes 80) 14 = .ok (.ifCond .eq 17, 3) := by decide +kernel
theorem d80_17 : decode (am_bytes 80) 17 = .ok (.iload_n 3, 1) := by decide +kernel
theorem d80_18 : decode (am_bytes 80) 18 = .ok (.bipush 33, 2) := by decide +kernel
theorem d80_20 : decode (am_bytes 80) 20 = .ok (.if_icmp .lt 9, 3) := by decide +kernel
theorem d80_23 : decode (am_bytes 80) 23 = .ok (.iload_n 3, 1) := by decide +kernel
theorem d80_24 : decode (am_bytes 80) 24 = .ok (.bipush 126, 2) := by decide +kernel
theorem d80_26 : decode (am_bytes 80) 26 = .ok (.if_icmp .le 5, 3) := by decide +kernel
theorem d80_29 : decode (am_bytes 80) 29 = .ok (.iconst 0, 1) := by decide +kernel
theorem d80_30 : decode (am_bytes 80) 30 = .ok (.ireturn, 1) := by decide +kernel
theorem d80_31 : decode (am_bytes 80) 31 = .ok (.iinc 2 (-8), 3) := by decide +kernel
theorem d80_34 : decode (am_bytes 80) 34 = .ok (.goto (-31), 3) := by decide +kernel
theorem d80_37 : decode (am_bytes 80) 37 = .ok (.iconst 1, 1) := by decide +kernel
theorem d80_38 : decode (am_bytes 80) 38 = .ok (.ireturn, 1) := by decide +kernel
theorem d81_0 : decode (am_bytes 81) 0 = .ok (.aload_n 0, 1) := by decide +kernel
theorem d81_1 : decode (am_bytes 81) 1 = .ok (.getfield 15, 3) := by decide +kernel
theorem d81_4 : decode (am_bytes 81) 4 = .ok (.istore_n 2, 1) := by decide +kernel
theorem d81_5 : decode (am_bytes 81) 5 = .ok (.bipush 24, 2) := by decide +kernel
theorem d81_7 : decode (am_bytes 81) 7 = .ok (.istore_n 3, 1) := by decide +kernel
theorem d81_8 : decode (am_bytes 81) 8 = .ok (.iload_n 3, 1) := by decide +kernel
theorem d81_9 : decode (am_bytes 81) 9 = .ok (.ifCond .lt 20, 3) := by decide +kernel
theorem d81_12 : decode (am_bytes 81) 12 = .ok (.iload_n 1, 1) := by decide +kernel
theorem d81_13 : decode (am_bytes 81) 13 = .ok (.iload_n 3, 1) := by decide +kernel
theorem d81_14 : decode (am_bytes 81) 14 = .ok (.invokestatic 25, 3) := by decide +kernel
theorem d81_17 : decode (am_bytes 81) 17 = .ok (.ifCond .eq 6, 3) := by decide +kernel
theorem d81_20 : decode (am_bytes 81) 20 = .ok (.iinc 2 1, 3) := by decide +kernel
theorem d81_23 : decode (am_bytes 81) 23 = .ok (.iinc 3 (-8), 3) := by decide +kernel
theorem d81_26 : decode (am_bytes 81) 26 = .ok (.goto (-18), 3) := by decide +kernel
theorem d81_29 : decode (am_bytes 81) 29 = .ok (.iload_n 2, 1) := by decide +kernel
theorem d81_30 : decode (am_bytes 81) 30 = .ok (.bipush 32, 2) := by decide +kernel
theorem d81_32 : decode (am_bytes 81) 32 = .ok (.if_icmp .gt 7, 3) := by decide +kernel
theorem d81_35 : decode (am_bytes 81) 35 = .ok (.iconst 1, 1) := by decide +kernel
theorem d81_36 : decode (am_bytes 81) 36 = .ok (.goto 4, 3) := by decide +kernel
theorem d81_39 : decode (am_bytes 81) 39 = .ok (.iconst 0, 1) := by decide +kernel
theorem d81_40 : decode (am_bytes 81) 40 = .ok (.ireturn, 1) := by decide +kernel
theorem d82_0 : decode (am_bytes 82) 0 = .ok (.bipush 24, 2) := by decide +kernel
theorem d82_2 : decode (am_bytes 82) 2 = .ok (.istore_n 2, 1) := by decide +kernel
theorem d82_3 : decode (am_bytes 82) 3 = .ok (.iload_n 2, 1) := by decide +kernel
theorem d82_4 : decode (am_bytes 82) 4 = .ok (.ifCond .lt 40, 3) := by decide +kernel
theorem d82_7 : decode (am_bytes 82) 7 = .ok (.iload_n 1, 1) := by decide +kernel
theorem d82_8 : decode (am_bytes 82) 8 = .ok (.iload_n 2, 1) := by decide +kernel
theorem d82_9 : decode (am_bytes 82) 9 = .ok (.invokestatic 25, 3) := by decide +kernel
theorem d82_12 : decode (am_bytes 82) 12 = .ok (.istore_n 3, 1) := by decide +kernel
theorem d82_13 : decode (am_bytes 82) 13 = .ok (.iload_n 3, 1) := by decide +kernel
theorem d82_14 : decode (am_bytes 82) 14 = .ok (.ifCond .eq 24, 3) := by decide +kernel
theorem d82_17 : decode (am_bytes 82) 17 = .ok (.aload_n 0, 1) := by decide +kernel
theorem d82_18 : decode (am_bytes 82) 18 = .ok (.getfield 9, 3) := by decide +kernel
theorem d82_21 : decode (am_bytes 82) 21 = .ok (.aload_n 0, 1) := by decide +kernel
theorem d82_22 : decode (am_bytes 82) 22 = .ok (.getfield 15, 3) := by decide +kernel
theorem d82_25 : decode (am_bytes 82) 25 = .ok (.iload_n 3, 1) := by decide +kernel
theorem d82_26 : decode (am_bytes 82) 26 = .ok (.i2c, 1) := by decide +kernel
theorem d82_27 : decode (am_bytes 82) 27 = .ok (.castore, 1) := by decide +kernel
theorem d82_28 : decode (am_bytes 82) 28 = .ok (.aload_n 0, 1) := by decide +kernel
theorem d82_29 : decode (am_bytes 82) 29 = .ok (.dup, 1) := by decide +kernel
theorem d82_30 : decode (am_bytes 82) 30 = .ok (.getfield 15, 3) := by decide +kernel
theorem d82_33 : decode (am_bytes 82) 33 = .ok (.iconst 1, 1) := by decide +kernel
theorem d82_34 : decode (am_bytes 82) 34 = .ok (.iadd, 1) := by decide +kernel
theorem d82_35 : decode (am_bytes 82) 35 = .ok (.putfield 15, 3) := by decide +kernel
theorem d82_38 : decode (am_bytes 82) 38 = .ok (.iinc 2 (-8), 3) := by decide +kernel
theorem d82_41 : decode (am_bytes 82) 41 = .ok (.goto (-38), 3) := by decide +kernel
end
section
/-! printed: each instruction -/
theorem d82_44 : decode (am_bytes 82) 44 = .ok (.aload_n 0, 1) := by decide +kernel
theorem d82_45 : decode (am_bytes 82) 45 = .ok (.getfield 15, 3) := by decide +kernel
theorem d82_48 : decode (am_bytes 82) 48 = .ok (.ireturn, 1) := by decide +kernel
theorem d83_0 : decode (am_bytes 83) 0 = .ok (.aload_n 0, 1) := by decide +kernel
theorem d83_1 : decode (am_bytes 83) 1 = .ok (.iconst 0, 1) := by decide +kernel
theorem d83_2 : decode (am_bytes 83) 2 = .ok (.putfield 15, 3) := by decide +kernel
theorem d83_5 : decode (am_bytes 83) 5 = .ok (.return_, 1) := by decide +kernel
theorem d84_0 : decode (am_bytes 84) 0 = .ok (.aload_n 0, 1) := by decide +kernel
theorem d84_1 : decode (am_bytes 84) 1 = .ok (.iconst 0, 1) := by decide +kernel
theorem d84_2 : decode (am_bytes 84) 2 = .ok (.putfield 19, 3) := by decide +kernel
theorem d84_5 : decode (am_bytes 84) 5 = .ok (.aload_n 0, 1) := by decide +kernel
theorem d84_6 : decode (am_bytes 84) 6 = .ok (.invokevirtual 29, 3) := by decide +kernel
theorem d84_9 : decode (am_bytes 84) 9 = .ok (.ifCond .ne 5, 3) := by decide +kernel
theorem d84_12 : decode (am_bytes 84) 12 = .ok (.iconst (-1), 1) := by decide +kernel
theorem d84_13 : decode (am_bytes 84) 13 = .ok (.ireturn, 1) := by decide +kernel
theorem d84_14 : decode (am_bytes 84) 14 = .ok (.iconst 0, 1) := by decide +kernel
theorem d84_15 : decode (am_bytes 84) 15 = .ok (.istore_n 2, 1) := by decide +kernel
theorem d84_16 : decode (am_bytes 84) 16 = .ok (.iload_n 2, 1) := by decide +kernel
theorem d84_17 : decode (am_bytes 84) 17 = .ok (.bipush 32, 2) := by decide +kernel
theorem d84_19 : decode (am_bytes 84) 19 = .ok (.if_icmp .ge 30, 3) := by decide +kernel
theorem d84_22 : decode (am_bytes 84) 22 = .ok (.aload_n 0, 1) := by decide +kernel
theorem d84_23 : decode (am_bytes 84) 23 = .ok (.getfield 19, 3) := by decide +kernel
theorem d84_26 : decode (am_bytes 84) 26 = .ok (.aload_n 0, 1) := by decide +kernel
theorem d84_27 : decode (am_bytes 84) 27 = .ok (.getfield 15, 3) := by decide +kernel
theorem d84_30 : decode (am_bytes 84) 30 = .ok (.if_icmp .ge 19, 3) := by decide +kernel
theorem d84_33 : decode (am_bytes 84) 33 = .ok (.aload_n 0, 1) := by decide +kernel
theorem d84_34 : decode (am_bytes 84) 34 = .ok (.aload_n 1, 1) := by decide +kernel
theorem d84_35 : decode (am_bytes 84) 35 = .ok (.invokevirtual 33, 3) := by decide +kernel
theorem d84_38 : decode (am_bytes 84) 38 = .ok (.ifCond .ne 5, 3) := by decide +kernel
theorem d84_41 : decode (am_bytes 84) 41 = .ok (.iconst (-1), 1) := by decide +kernel
theorem d84_42 : decode (am_bytes 84) 42 = .ok (.ireturn, 1) := by decide +kernel
theorem d84_43 : decode (am_bytes 84) 43 = .ok (.iinc 2 1, 3) := by decide +kernel
theorem d84_46 : decode (am_bytes 84) 46 = .ok (.goto (-30), 3) := by decide +kernel
theorem d84_49 : decode (am_bytes 84) 49 = .ok (.aload_n 0, 1) := by decide +kernel
theorem d84_50 : decode (am_bytes 84) 50 = .ok (.getfield 22, 3) := by decide +kernel
theorem d84_53 : decode (am_bytes 84) 53 = .ok (.ireturn, 1) := by decide +kernel
theorem d85_0 : decode (am_bytes 85) 0 = .ok (.aload_n 0, 1) := by decide +kernel
theorem d85_1 : decode (am_bytes 85) 1 = .ok (.invokevirtual 37, 3) := by decide +kernel
theorem d85_4 : decode (am_bytes 85) 4 = .ok (.istore_n 1, 1) := by decide +kernel
theorem d85_5 : decode (am_bytes 85) 5 = .ok (.iload_n 1, 1) := by decide +kernel
theorem d85_6 : decode (am_bytes 85) 6 = .ok (.bipush 42, 2) := by decide +kernel
theorem d85_8 : decode (am_bytes 85) 8 = .ok (.if_icmp .ne 12, 3) := by decide +kernel
theorem d85_11 : decode (am_bytes 85) 11 = .ok (.aload_n 0, 1) := by decide +kernel
theorem d85_12 : decode (am_bytes 85) 12 = .ok (.sipush 4095, 3) := by decide +kernel
theorem d85_15 : decode (am_bytes 85) 15 = .ok (.putfield 22, 3) := by decide +kernel
theorem d85_18 : decode (am_bytes 85) 18 = .ok (.iconst 1, 1) := by decide +kernel
theorem d85_19 : decode (am_bytes 85) 19 = .ok (.ireturn, 1) := by decide +kernel
theorem d85_20 : decode (am_bytes 85) 20 = .ok (.iload_n 1, 1) := by decide +kernel
theorem d85_21 : decode (am_bytes 85) 21 = .ok (.bipush 97, 2) := by decide +kernel
theorem d85_23 : decode (am_bytes 85) 23 = .ok (.isub, 1) := by decide +kernel
theorem d85_24 : decode (am_bytes 85) 24 = .ok (.invokestatic 41, 3) := by decide +kernel
theorem d85_27 : decode (am_bytes 85) 27 = .ok (.ifCond .ne 5, 3) := by decide +kernel
theorem d85_30 : decode (am_bytes 85) 30 = .ok (.iconst 0, 1) := by decide +kernel
theorem d85_31 : decode (am_bytes 85) 31 = .ok (.ireturn, 1) := by decide +kernel
theorem d85_32 : decode (am_bytes 85) 32 = .ok (.aload_n 0, 1) := by decide +kernel
theorem d85_33 : decode (am_bytes 85) 33 = .ok (.iconst 1, 1) := by decide +kernel
theorem d85_34 : decode (am_bytes 85) 34 = .ok (.iload_n 1, 1) := by decide +kernel
theorem d85_35 : decode (am_bytes 85) 35 = .ok (.bipush 97, 2) := by decide +kernel
theorem d85_37 : decode (am_bytes 85) 37 = .ok (.isub, 1) := by decide +kernel
theorem d85_38 : decode (am_bytes 85) 38 = .ok (.ishl, 1) := by decide +kernel
theorem d85_39 : decode (am_bytes 85) 39 = .ok (.putfield 22, 3) := by decide +kernel
theorem d85_42 : decode (am_bytes 85) 42 = .ok (.iconst 1, 1) := by decide +kernel
theorem d85_43 : decode (am_bytes 85) 43 = .ok (.ireturn, 1) := by decide +kernel
theorem d86_0 : decode (am_bytes 86) 0 = .ok (.aload_n 0, 1) := by decide +kernel
theorem d86_1 : decode (am_bytes 86) 1 = .ok (.invokevirtual 37, 3) := by decide +kernel
theorem d86_4 : decode (am_bytes 86) 4 = .ok (.istore_n 2, 1) := by decide +kernel
theorem d86_5 : decode (am_bytes 86) 5 = .ok (.aload_n 0, 1) := by decide +kernel
theorem d86_6 : decode (am_bytes 86) 6 = .ok (.invokevirtual 37, 3) := by decide +kernel
theorem d86_9 : decode (am_bytes 86) 9 = .ok (.bipush 48, 2) := by decide +kernel
theorem d86_11 : decode (am_bytes 86) 11 = .ok (.isub, 1) := by decide +kernel
theorem d86_12 : decode (am_bytes 86) 12 = .ok (.istore_n 3, 1) := by decide +kernel
theorem d86_13 : decode (am_bytes 86) 13 = .ok (.iload_n 3, 1) := by decide +kernel
theorem d86_14 : decode (am_bytes 86) 14 = .ok (.ifCond .lt 8, 3) := by decide +kernel
theorem d86_17 : decode (am_bytes 86) 17 = .ok (.iload_n 3, 1) := by decide +kernel
theorem d86_18 : decode (am_bytes 86) 18 = .ok (.iconst 4, 1) := by decide +kernel
theorem d86_19 : decode (am_bytes 86) 19 = .ok (.if_icmp .lt 5, 3) := by decide +kernel
theorem d86_22 : decode (am_bytes 86) 22 = .ok (.iconst 0, 1) := by decide +kernel
theorem d86_23 : decode (am_bytes 86) 23 = .ok (.ireturn, 1) := by decide +kernel
theorem d86_24 : decode (am_bytes 86) 24 = .ok (.iload_n 2, 1) := by decide +kernel
theorem d86_25 : decode (am_bytes 86) 25 = .ok (.bipush 46, 2) := by decide +kernel
theorem d86_27 : decode (am_bytes 86) 27 = .ok (.if_icmp .eq 9, 3) := by decide +kernel
theorem d86_30 : decode (am_bytes 86) 30 = .ok (.iload_n 2, 1) := by decide +kernel
theorem d86_31 : decode (am_bytes 86) 31 = .ok (.bipush 94, 2) := by decide +kernel
theorem d86_33 : decode (am_bytes 86) 33 = .ok (.if_icmp .ne 22, 3) := by decide +kernel
theorem d86_36 : decode (am_bytes 86) 36 = .ok (.aload_n 0, 1) := by decide +kernel
theorem d86_37 : decode (am_bytes 86) 37 = .ok (.aload_n 1, 1) := by decide +kernel
theorem d86_38 : decode (am_bytes 86) 38 = .ok (.iload_n 2, 1) := by decide +kernel
theorem d86_39 : decode (am_bytes 86) 39 = .ok (.bipush 46, 2) := by decide +kernel
theorem d86_41 : decode (am_bytes 86) 41 = .ok (.if_icmp .ne 7, 3) := by decide +kernel
theorem d86_44 : decode (am_bytes 86) 44 = .ok (.iconst 1, 1) := by decide +kernel
theorem d86_45 : decode (am_bytes 86) 45 = .ok (.goto 4, 3) := by decide +kernel
theorem d86_48 : decode (am_bytes 86) 48 = .ok (.iconst 0, 1) := by decide +kernel
theorem d86_49 : decode (am_bytes 86) 49 = .ok (.iload_n 3, 1) := by decide +kernel
theorem d86_50 : decode (am_bytes 86) 50 = .ok (.invokevirtual 45, 3) := by decide +kernel
theorem d86_53 : decode (am_bytes 86) 53 = .ok (.iconst 1, 1) := by decide +kernel
theorem d86_54 : decode (am_bytes 86) 54 = .ok (.ireturn, 1) := by decide +kernel
theorem d86_55 : decode (am_bytes 86) 55 = .ok (.iload_n 2, 1) := by decide +kernel
theorem d86_56 : decode (am_bytes 86) 56 = .ok (.bipush 91, 2) := by decide +kernel
theorem d86_58 : decode (am_bytes 86) 58 = .ok (.if_icmp .ne 10, 3) := by decide +kernel
theorem d86_61 : decode (am_bytes 86) 61 = .ok (.aload_n 0, 1) := by decide +kernel
theorem d86_62 : decode (am_bytes 86) 62 = .ok (.aload_n 1, 1) := by decide +kernel
theorem d86_63 : decode (am_bytes 86) 63 = .ok (.iload_n 3, 1) := by decide +kernel
theorem d86_64 : decode (am_bytes 86) 64 = .ok (.invokevirtual 49, 3) := by decide +kernel
theorem d86_67 : decode (am_bytes 86) 67 = .ok (.ireturn, 1) := by decide +kernel
theorem d86_68 : decode (am_bytes 86) 68 = .ok (.iload_n 2, 1) := by decide +kernel
theorem d86_69 : decode (am_bytes 86) 69 = .ok (.bipush 63, 2) := by decide +kernel
theorem d86_71 : decode (am_bytes 86) 71 = .ok (.if_icmp .ne 18, 3) := by decide +kernel
theorem d86_74 : decode (am_bytes 86) 74 = .ok (.aload_n 0, 1) := by decide +kernel
theorem d86_75 : decode (am_bytes 86) 75 = .ok (.aload_n 1, 1) := by decide +kernel
theorem d86_76 : decode (am_bytes 86) 76 = .ok (.aload_n 0, 1) := by decide +kernel
theorem d86_77 : decode (am_bytes 86) 77 = .ok (.getfield 22, 3) := by decide +kernel
theorem d86_80 : decode (am_bytes 86) 80 = .ok (.iload_n 3, 1) := by decide +kernel
theorem d86_81 : decode (am_bytes 86) 81 = .ok (.invokevirtual 53, 3) := by decide +kernel
theorem d86_84 : decode (am_bytes 86) 84 = .ok (.putfield 22, 3) := by decide +kernel
theorem d86_87 : decode (am_bytes 86) 87 = .ok (.iconst 1, 1) := by decide +kernel
theorem d86_88 : decode (am_bytes 86) 88 = .ok (.ireturn, 1) := by decide +kernel
theorem d86_89 : decode (am_bytes 86) 89 = .ok (.iconst 0, 1) := by decide +kernel
theorem d86_90 : decode (am_bytes 86) 90 = .ok (.ireturn, 1) := by decide +kernel
theorem d87_0 : decode (am_bytes 87) 0 = .ok (.aload_n 0, 1) := by decide +kernel
theorem d87_1 : decode (am_bytes 87) 1 = .ok (.bipush 126, 2) := by decide +kernel
theorem d87_3 : decode (am_bytes 87) 3 = .ok (.invokevirtual 58, 3) := by decide +kernel
theorem d87_6 : decode (am_bytes 87) 6 = .ok (.ifCond .ne 15, 3) := by decide +kernel
theorem d87_9 : decode (am_bytes 87) 9 = .ok (.aload_n 0, 1) := by decide +kernel
theorem d87_10 : decode (am_bytes 87) 10 = .ok (.aload_n 0, 1) := by decide +kernel
theorem d87_11 : decode (am_bytes 87) 11 = .ok (.aload_n 1, 1) := by decide +kernel
theorem d87_12 : decode (am_bytes 87) 12 = .ok (.iload_n 2, 1) := by decide +kernel
theorem d87_13 : decode (am_bytes 87) 13 = .ok (.iload_n 3, 1) := by decide +kernel
theorem d87_14 : decode (am_bytes 87) 14 = .ok (.invokevirtual 62, 3) := by decide +kernel
theorem d87_17 : decode (am_bytes 87) 17 = .ok (.putfield 22, 3) := by decide +kernel
theorem d87_20 : decode (am_bytes 87) 20 = .ok (.return_, 1) := by decide +kernel
theorem d87_21 : decode (am_bytes 87) 21 = .ok (.iconst 0, 1) := by decide +kernel
theorem d87_22 : decode (am_bytes 87) 22 = .ok (.istore 4, 2) := by decide +kernel
theorem d87_24 : decode (am_bytes 87) 24 = .ok (.iconst 0, 1) := by decide +kernel
theorem d87_25 : decode (am_bytes 87) 25 = .ok (.istore 5, 2) := by decide +kernel
theorem d87_27 : decode (am_bytes 87) 27 = .ok (.iload 5, 2) := by decide +kernel
theorem d87_29 : decode (am_bytes 87) 29 = .ok (.bipush 12, 2) := by decide +kernel
theorem d87_31 : decode (am_bytes 87) 31 = .ok (.if_icmp .ge 40, 3) := by decide +kernel
theorem d87_34 : decode (am_bytes 87) 34 = .ok (.aload_n 0, 1) := by decide +kernel
theorem d87_35 : decode (am_bytes 87) 35 = .ok (.getfield 22, 3) := by decide +kernel
theorem d87_38 : decode (am_bytes 87) 38 = .ok (.iload 4, 2) := by decide +kernel
theorem d87_40 : decode (am_bytes 87) 40 = .ok (.if_icmp .eq 31, 3) := by decide +kernel
theorem d87_43 : decode (am_bytes 87) 43 = .ok (.aload_n 0, 1) := by decide +kernel
theorem d87_44 : decode (am_bytes 87) 44 = .ok (.getfield 22, 3) := by decide +kernel
theorem d87_47 : decode (am_bytes 87) 47 = .ok (.istore 4, 2) := by decide +kernel
theorem d87_49 : decode (am_bytes 87) 49 = .ok (.aload_n 0, 1) := by decide +kernel
theorem d87_50 : decode (am_bytes 87) 50 = .ok (.dup, 1) := by decide +kernel
theorem d87_51 : decode (am_bytes 87) 51 = .ok (.getfield 22, 3) := by decide +kernel
theorem d87_54 : decode (am_bytes 87) 54 = .ok (.aload_n 0, 1) := by decide +kernel
theorem d87_55 : decode (am_bytes 87) 55 = .ok (.aload_n 1, 1) := by decide +kernel
theorem d87_56 : decode (am_bytes 87) 56 = .ok (.iload_n 2, 1) := by decide +kernel
theorem d87_57 : decode (am_bytes 87) 57 = .ok (.iload_n 3, 1) := by decide +kernel
theorem d87_58 : decode (am_bytes 87) 58 = .ok (.invokevirtual 62, 3) := by decide +kernel
theorem d87_61 : decode (am_bytes 87) 61 = .ok (.ior, 1) := by decide +kernel
theorem d87_62 : decode (am_bytes 87) 62 = .ok (.putfield 22, 3) := by decide +kernel
theorem d87_65 : decode (am_bytes 87) 65 = .ok (.iinc 5 1, 3) := by decide +kernel
theorem d87_68 : decode (am_bytes 87) 68 = .ok (.goto (-41), 3) := by decide +kernel
theorem d87_71 : decode (am_bytes 87) 71 = .ok (.return_, 1) := by decide +kernel
theorem d88_0 : decode (am_bytes 88) 0 = .ok (.iload_n 2, 1) := by decide +kernel
theorem d88_1 : decode (am_bytes 88) 1 = .ok (.ifCond .eq 15, 3) := by decide +kernel
theorem d88_4 : decode (am_bytes 88) 4 = .ok (.aload_n 1, 1) := by decide +kernel
theorem d88_5 : decode (am_bytes 88) 5 = .ok (.aload_n 0, 1) := by decide +kernel
theorem d88_6 : decode (am_bytes 88) 6 = .ok (.getfield 22, 3) := by decide +kernel
theorem d88_9 : decode (am_bytes 88) 9 = .ok (.iload_n 3, 1) := by decide +kernel
theorem d88_10 : decode (am_bytes 88) 10 = .ok (.invokevirtual 66, 3) := by decide +kernel
theorem d88_13 : decode (am_bytes 88) 13 = .ok (.goto 12, 3) := by decide +kernel
theorem d88_16 : decode (am_bytes 88) 16 = .ok (.aload_n 1, 1) := by decide +kernel
theorem d88_17 : decode (am_bytes 88) 17 = .ok (.aload_n 0, 1) := by decide +kernel
theorem d88_18 : decode (am_bytes 88) 18 = .ok (.getfield 22, 3) := by decide +kernel
theorem d88_21 : decode (am_bytes 88) 21 = .ok (.iload_n 3, 1) := by decide +kernel
theorem d88_22 : decode (am_bytes 88) 22 = .ok (.invokevirtual 69, 3) := by decide +kernel
theorem d88_25 : decode (am_bytes 88) 25 = .ok (.ireturn, 1) := by decide +kernel
theorem d89_0 : decode (am_bytes 89) 0 = .ok (.aload_n 0, 1) := by decide +kernel
theorem d89_1 : decode (am_bytes 89) 1 = .ok (.invokevirtual 37, 3) := by decide +kernel
theorem d89_4 : decode (am_bytes 89) 4 = .ok (.istore_n 3, 1) := by decide +kernel
theorem d89_5 : decode (am_bytes 89) 5 = .ok (.iload_n 3, 1) := by decide +kernel
theorem d89_6 : decode (am_bytes 89) 6 = .ok (.bipush 60, 2) := by decide +kernel
theorem d89_8 : decode (am_bytes 89) 8 = .ok (.if_icmp .eq 17, 3) := by decide +kernel
theorem d89_11 : decode (am_bytes 89) 11 = .ok (.iload_n 3, 1) := by decide +kernel
theorem d89_12 : decode (am_bytes 89) 12 = .ok (.bipush 61, 2) := by decide +kernel
theorem d89_14 : decode (am_bytes 89) 14 = .ok (.if_icmp .eq 11, 3) := by decide +kernel
theorem d89_17 : decode (am_bytes 89) 17 = .ok (.iload_n 3, 1) := by decide +kernel
theorem d89_18 : decode (am_bytes 89) 18 = .ok (.bipush 62, 2) := by decide +kernel
theorem d89_20 : decode (am_bytes 89) 20 = .ok (.if_icmp .eq 5, 3) := by decide +kernel
theorem d89_23 : decode (am_bytes 89) 23 = .ok (.iconst 0, 1) := by decide +kernel
theorem d89_24 : decode (am_bytes 89) 24 = .ok (.ireturn, 1) := by decide +kernel
theorem d89_25 : decode (am_bytes 89) 25 = .ok (.aload_n 0, 1) := by decide +kernel
theorem d89_26 : decode (am_bytes 89) 26 = .ok (.invokevirtual 72, 3) := by decide +kernel
theorem d89_29 : decode (am_bytes 89) 29 = .ok (.istore 4, 2) := by decide +kernel
theorem d89_31 : decode (am_bytes 89) 31 = .ok (.iload 4, 2) := by decide +kernel
theorem d89_33 : decode (am_bytes 89) 33 = .ok (.sipush 10000, 3) := by decide +kernel
theorem d89_36 : decode (am_bytes 89) 36 = .ok (.if_icmp .eq 12, 3) := by decide +kernel
theorem d89_39 : decode (am_bytes 89) 39 = .ok (.aload_n 0, 1) := by decide +kernel
theorem d89_40 : decode (am_bytes 89) 40 = .ok (.bipush 93, 2) := by decide +kernel
theorem d89_42 : decode (am_bytes 89) 42 = .ok (.invokevirtual 58, 3) := by decide +kernel
theorem d89_45 : decode (am_bytes 89) 45 = .ok (.ifCond .ne 5, 3) := by decide +kernel
theorem d89_48 : decode (am_bytes 89) 48 = .ok (.iconst 0, 1) := by decide +kernel
theorem d89_49 : decode (am_bytes 89) 49 = .ok (.ireturn, 1) := by decide +kernel
theorem d89_50 : decode (am_bytes 89) 50 = .ok (.aload_n 0, 1) := by decide +kernel
theorem d89_51 : decode (am_bytes 89) 51 = .ok (.aload_n 1, 1) := by decide +kernel
theorem d89_52 : decode (am_bytes 89) 52 = .ok (.aload_n 0, 1) := by decide +kernel
theorem d89_53 : decode (am_bytes 89) 53 = .ok (.getfield 22, 3) := by decide +kernel
theorem d89_56 : decode (am_bytes 89) 56 = .ok (.iload_n 2, 1) := by decide +kernel
theorem d89_57 : decode (am_bytes 89) 57 = .ok (.iload_n 3, 1) := by decide +kernel
theorem d89_58 : decode (am_bytes 89) 58 = .ok (.iload 4, 2) := by decide +kernel
theorem d89_60 : decode (am_bytes 89) 60 = .ok (.invokevirtual 76, 3) := by decide +kernel
theorem d89_63 : decode (am_bytes 89) 63 = .ok (.putfield 22, 3) := by decide +kernel
theorem d89_66 : decode (am_bytes 89) 66 = .ok (.iconst 1, 1) := by decide +kernel
theorem d89_67 : decode (am_bytes 89) 67 = .ok (.ireturn, 1) := by decide +kernel
theorem d90_0 : decode (am_bytes 90) 0 = .ok (.aload_n 0, 1) := by decide +kernel
theorem d90_1 : decode (am_bytes 90) 1 = .ok (.bipush 45, 2) := by decide +kernel
theorem d90_3 : decode (am_bytes 90) 3 = .ok (.invokevirtual 58, 3) := by decide +kernel
theorem d90_6 : decode (am_bytes 90) 6 = .ok (.istore_n 1, 1) := by decide +kernel
theorem d90_7 : decode (am_bytes 90) 7 = .ok (.iconst 0, 1) := by decide +kernel
theorem d90_8 : decode (am_bytes 90) 8 = .ok (.istore_n 2, 1) := by decide +kernel
theorem d90_9 : decode (am_bytes 90) 9 = .ok (.iconst 0, 1) := by decide +kernel
theorem d90_10 : decode (am_bytes 90) 10 = .ok (.istore_n 3, 1) := by decide +kernel
theorem d90_11 : decode (am_bytes 90) 11 = .ok (.iload_n 3, 1) := by decide +kernel
theorem d90_12 : decode (am_bytes 90) 12 = .ok (.iconst 4, 1) := by decide +kernel
theorem d90_13 : decode (am_bytes 90) 13 = .ok (.if_icmp .ge 63, 3) := by decide +kernel
theorem d90_16 : decode (am_bytes 90) 16 = .ok (.aload_n 0, 1) := by decide +kernel
theorem d90_17 : decode (am_bytes 90) 17 = .ok (.getfield 19, 3) := by decide +kernel
theorem d90_20 : decode (am_bytes 90) 20 = .ok (.aload_n 0, 1) := by decide +kernel
theorem d90_21 : decode (am_bytes 90) 21 = .ok (.getfield 15, 3) := by decide +kernel
theorem d90_24 : decode (am_bytes 90) 24 = .ok (.if_icmp .ge 52, 3) := by decide +kernel
theorem d90_27 : decode (am_bytes 90) 27 = .ok (.aload_n 0, 1) := by decide +kernel
theorem d90_28 : decode (am_bytes 90) 28 = .ok (.getfield 9, 3) := by decide +kernel
theorem d90_31 : decode (am_bytes 90) 31 = .ok (.aload_n 0, 1) := by decide +kernel
theorem d90_32 : decode (am_bytes 90) 32 = .ok (.getfield 19, 3) := by decide +kernel
theorem d90_35 : decode (am_bytes 90) 35 = .ok (.caload, 1) := by decide +kernel
theorem d90_36 : decode (am_bytes 90) 36 = .ok (.invokestatic 80, 3) := by decide +kernel
theorem d90_39 : decode (am_bytes 90) 39 = .ok (.ifCond .eq 37, 3) := by decide +kernel
theorem d90_42 : decode (am_bytes 90) 42 = .ok (.bipush 10, 2) := by decide +kernel
theorem d90_44 : decode (am_bytes 90) 44 = .ok (.iload_n 2, 1) := by decide +kernel
theorem d90_45 : decode (am_bytes 90) 45 = .ok (.imul, 1) := by decide +kernel
theorem d90_46 : decode (am_bytes 90) 46 = .ok (.aload_n 0, 1) := by decide +kernel
theorem d90_47 : decode (am_bytes 90) 47 = .ok (.getfield 9, 3) := by decide +kernel
theorem d90_50 : decode (am_bytes 90) 50 = .ok (.aload_n 0, 1) := by decide +kernel
theorem d90_51 : decode (am_bytes 90) 51 = .ok (.getfield 19, 3) := by decide +kernel
theorem d90_54 : decode (am_bytes 90) 54 = .ok (.caload, 1) := by decide +kernel
theorem d90_55 : decode (am_bytes 90) 55 = .ok (.bipush 48, 2) := by decide +kernel
theorem d90_57 : decode (am_bytes 90) 57 = .ok (.isub, 1) := by decide +kernel
theorem d90_58 : decode (am_bytes 90) 58 = .ok (.iadd, 1) := by decide +kernel
theorem d90_59 : decode (am_bytes 90) 59 = .ok (.istore_n 2, 1) := by decide +kernel
theorem d90_60 : decode (am_bytes 90) 60 = .ok (.iinc 3 1, 3) := by decide +kernel
theorem d90_63 : decode (am_bytes 90) 63 = .ok (.aload_n 0, 1) := by decide +kernel
theorem d90_64 : decode (am_bytes 90) 64 = .ok (.dup, 1) := by decide +kernel
theorem d90_65 : decode (am_bytes 90) 65 = .ok (.getfield 19, 3) := by decide +kernel
theorem d90_68 : decode (am_bytes 90) 68 = .ok (.iconst 1, 1) := by decide +kernel
theorem d90_69 : decode (am_bytes 90) 69 = .ok (.iadd, 1) := by decide +kernel
theorem d90_70 : decode (am_bytes 90) 70 = .ok (.putfield 19, 3) := by decide +kernel
theorem d90_73 : decode (am_bytes 90) 73 = .ok (.goto (-62), 3) := by decide +kernel
theorem d90_76 : decode (am_bytes 90) 76 = .ok (.iload_n 3, 1) := by decide +kernel
theorem d90_77 : decode (am_bytes 90) 77 = .ok (.ifCond .ne 7, 3) := by decide +kernel
theorem d90_80 : decode (am_bytes 90) 80 = .ok (.sipush 10000, 3) := by decide +kernel
theorem d90_83 : decode (am_bytes 90) 83 = .ok (.ireturn, 1) := by decide +kernel
theorem d90_84 : decode (am_bytes 90) 84 = .ok (.iload_n 1, 1) := by decide +kernel
theorem d90_85 : decode (am_bytes 90) 85 = .ok (.ifCond .eq 8, 3) := by decide +kernel
theorem d90_88 : decode (am_bytes 90) 88 = .ok (.iload_n 2, 1) := by decide +kernel
theorem d90_89 : decode (am_bytes 90) 89 = .ok (.ineg, 1) := by decide +kernel
theorem d90_90 : decode (am_bytes 90) 90 = .ok (.goto 4, 3) := by decide +kernel
theorem d90_93 : decode (am_bytes 90) 93 = .ok (.iload_n 2, 1) := by decide +kernel
theorem d90_94 : decode (am_bytes 90) 94 = .ok (.ireturn, 1) := by decide +kernel
theorem d91_0 : decode (am_bytes 91) 0 = .ok (.aload_n 0, 1) := by decide +kernel
theorem d91_1 : decode (am_bytes 91) 1 = .ok (.getfield 19, 3) := by decide +kernel
theorem d91_4 : decode (am_bytes 91) 4 = .ok (.aload_n 0, 1) := by decide +kernel
theorem d91_5 : decode (am_bytes 91) 5 = .ok (.getfield 15, 3) := by decide +kernel
theorem d91_8 : decode (am_bytes 91) 8 = .ok (.if_icmp .lt 5, 3) := by decide +kernel
theorem d91_11 : decode (am_bytes 91) 11 = .ok (.iconst 0, 1) := by decide +kernel
theorem d91_12 : decode (am_bytes 91) 12 = .ok (.ireturn, 1) := by decide +kernel
theorem d91_13 : decode (am_bytes 91) 13 = .ok (.aload_n 0, 1) := by decide +kernel
theorem d91_14 : decode (am_bytes 91) 14 = .ok (.getfield 9, 3) := by decide +kernel
theorem d91_17 : decode (am_bytes 91) 17 = .ok (.aload_n 0, 1) := by decide +kernel
theorem d91_18 : decode (am_bytes 91) 18 = .ok (.getfield 19, 3) := by decide +kernel
theorem d91_21 : decode (am_bytes 91) 21 = .ok (.caload, 1) := by decide +kernel
theorem d91_22 : decode (am_bytes 91) 22 = .ok (.istore_n 1, 1) := by decide +kernel
theorem d91_23 : decode (am_bytes 91) 23 = .ok (.aload_n 0, 1) := by decide +kernel
theorem d91_24 : decode (am_bytes 91) 24 = .ok (.dup, 1) := by decide +kernel
theorem d91_25 : decode (am_bytes 91) 25 = .ok (.getfield 19, 3) := by decide +kernel
theorem d91_28 : decode (am_bytes 91) 28 = .ok (.iconst 1, 1) := by decide +kernel
theorem d91_29 : decode (am_bytes 91) 29 = .ok (.iadd, 1) := by decide +kernel
theorem d91_30 : decode (am_bytes 91) 30 = .ok (.putfield 19, 3) := by decide +kernel
theorem d91_33 : decode (am_bytes 91) 33 = .ok (.iload_n 1, 1) := by decide +kernel
theorem d91_34 : decode (am_bytes 91) 34 = .ok (.ireturn, 1) := by decide +kernel
theorem d92_0 : decode (am_bytes 92) 0 = .ok (.aload_n 0, 1) := by decide +kernel
theorem d92_1 : decode (am_bytes 92) 1 = .ok (.getfield 19, 3) := by decide +kernel
theorem d92_4 : decode (am_bytes 92) 4 = .ok (.aload_n 0, 1) := by decide +kernel
theorem d92_5 : decode (am_bytes 92) 5 = .ok (.getfield 15, 3) := by decide +kernel
theorem d92_8 : decode (am_bytes 92) 8 = .ok (.if_icmp .ge 16, 3) := by decide +kernel
theorem d92_11 : decode (am_bytes 92) 11 = .ok (.aload_n 0, 1) := by decide +kernel
theorem d92_12 : decode (am_bytes 92) 12 = .ok (.getfield 9, 3) := by decide +kernel
theorem d92_15 : decode (am_bytes 92) 15 = .ok (.aload_n 0, 1) := by decide +kernel
theorem d92_16 : decode (am_bytes 92) 16 = .ok (.getfield 19, 3) := by decide +kernel
theorem d92_19 : decode (am_bytes 92) 19 = .ok (.caload, 1) := by decide +kernel
theorem d92_20 : decode (am_bytes 92) 20 = .ok (.iload_n 1, 1) := by decide +kernel
theorem d92_21 : decode (am_bytes 92) 21 = .ok (.if_icmp .eq 5, 3) := by decide +kernel
theorem d92_24 : decode (am_bytes 92) 24 = .ok (.iconst 0, 1) := by decide +kernel
theorem d92_25 : decode (am_bytes 92) 25 = .ok (.ireturn, 1) := by decide +kernel
theorem d92_26 : decode (am_bytes 92) 26 = .ok (.aload_n 0, 1) := by decide +kernel
theorem d92_27 : decode (am_bytes 92) 27 = .ok (.dup, 1) := by decide +kernel
theorem d92_28 : decode (am_bytes 92) 28 = .ok (.getfield 19, 3) := by decide +kernel
theorem d92_31 : decode (am_bytes 92) 31 = .ok (.iconst 1, 1) := by decide +kernel
theorem d92_32 : decode (am_bytes 92) 32 = .ok (.iadd, 1) := by decide +kernel
theorem d92_33 : decode (am_bytes 92) 33 = .ok (.putfield 19, 3) := by decide +kernel
theorem d92_36 : decode (am_bytes 92) 36 = .ok (.iconst 1, 1) := by decide +kernel
theorem d92_37 : decode (am_bytes 92) 37 = .ok (.ireturn, 1) := by decide +kernel
theorem d93_0 : decode (am_bytes 93) 0 = .ok (.iload_n 0, 1) := by decide +kernel
theorem d93_1 : decode (am_bytes 93) 1 = .ok (.bipush 48, 2) := by decide +kernel
theorem d93_3 : decode (am_bytes 93) 3 = .ok (.if_icmp .lt 13, 3) := by decide +kernel
theorem d93_6 : decode (am_bytes 93) 6 = .ok (.iload_n 0, 1) := by decide +kernel
theorem d93_7 : decode (am_bytes 93) 7 = .ok (.bipush 57, 2) := by decide +kernel
theorem d93_9 : decode (am_bytes 93) 9 = .ok (.if_icmp .gt 7, 3) := by decide +kernel
theorem d93_12 : decode (am_bytes 93) 12 = .ok (.iconst 1, 1) := by decide +kernel
theorem d93_13 : decode (am_bytes 93) 13 = .ok (.goto 4, 3) := by decide +kernel
theorem d93_16 : decode (am_bytes 93) 16 = .ok (.iconst 0, 1) := by decide +kernel
theorem d93_17 : decode (am_bytes 93) 17 = .ok (.ireturn, 1) := by decide +kernel
theorem d94_0 : decode (am_bytes 94) 0 = .ok (.iload_n 0, 1) := by decide +kernel
theorem d94_1 : decode (am_bytes 94) 1 = .ok (.iload_n 1, 1) := by decide +kernel
theorem d94_2 : decode (am_bytes 94) 2 = .ok (.iushr, 1) := by decide +kernel
theorem d94_3 : decode (am_bytes 94) 3 = .ok (.sipush 255, 3) := by decide +kernel
theorem d94_6 : decode (am_bytes 94) 6 = .ok (.iand, 1) := by decide +kernel
theorem d94_7 : decode (am_bytes 94) 7 = .ok (.ireturn, 1) := by decide +kernel
theorem d95_0 : decode (am_bytes 95) 0 = .ok (.aload_n 0, 1) := by decide +kernel
theorem d95_1 : decode (am_bytes 95) 1 = .ok (.getfield 9, 3) := by decide +kernel
theorem d95_4 : decode (am_bytes 95) 4 = .ok (.iconst 0, 1) := by decide +kernel
theorem d95_5 : decode (am_bytes 95) 5 = .ok (.invokestatic 21, 3) := by decide +kernel
theorem d95_8 : decode (am_bytes 95) 8 = .ok (.aload_n 0, 1) := by decide +kernel
theorem d95_9 : decode (am_bytes 95) 9 = .ok (.getfield 15, 3) := by decide +kernel
theorem d95_12 : decode (am_bytes 95) 12 = .ok (.iconst 0, 1) := by decide +kernel
theorem d95_13 : decode (am_bytes 95) 13 = .ok (.invokestatic 21, 3) := by decide +kernel
theorem d95_16 : decode (am_bytes 95) 16 = .ok (.aload_n 0, 1) := by decide +kernel
theorem d95_17 : decode (am_bytes 95) 17 = .ok (.getfield 18, 3) := by decide +kernel
theorem d95_20 : decode (am_bytes 95) 20 = .ok (.iconst (-1), 1) := by decide +kernel
theorem d95_21 : decode (am_bytes 95) 21 = .ok (.invokestatic 21, 3) := by decide +kernel
theorem d95_24 : decode (am_bytes 95) 24 = .ok (.return_, 1) := by decide +kernel
theorem d96_0 : decode (am_bytes 96) 0 = .ok (.aload_n 0, 1) := by decide +kernel
theorem d96_1 : decode (am_bytes 96) 1 = .ok (.getfield 9, 3) := by decide +kernel
theorem d96_4 : decode (am_bytes 96) 4 = .ok (.iload_n 2, 1) := by decide +kernel
theorem d96_5 : decode (am_bytes 96) 5 = .ok (.iaload, 1) := by decide +kernel
theorem d96_6 : decode (am_bytes 96) 6 = .ok (.aload_n 1, 1) := by decide +kernel
theorem d96_7 : decode (am_bytes 96) 7 = .ok (.getfield 9, 3) := by decide +kernel
theorem d96_10 : decode (am_bytes 96) 10 = .ok (.iload_n 2, 1) := by decide +kernel
theorem d96_11 : decode (am_bytes 96) 11 = .ok (.iaload, 1) := by decide +kernel
theorem d96_12 : decode (am_bytes 96) 12 = .ok (.if_icmp .ne 22, 3) := by decide +kernel
theorem d96_15 : decode (am_bytes 96) 15 = .ok (.aload_n 0, 1) := by decide +kernel
theorem d96_16 : decode (am_bytes 96) 16 = .ok (.getfield 15, 3) := by decide +kernel
theorem d96_19 : decode (am_bytes 96) 19 = .ok (.iload_n 2, 1) := by decide +kernel
theorem d96_20 : decode (am_bytes 96) 20 = .ok (.iaload, 1) := by decide +kernel
theorem d96_21 : decode (am_bytes 96) 21 = .ok (.aload_n 1, 1) := by decide +kernel
theorem d96_22 : decode (am_bytes 96) 22 = .ok (.getfield 15, 3) := by decide +kernel
theorem d96_25 : decode (am_bytes 96) 25 = .ok (.iload_n 2, 1) := by decide +kernel
theorem d96_26 : decode (am_bytes 96) 26 = .ok (.iaload, 1) := by decide +kernel
theorem d96_27 : decode (am_bytes 96) 27 = .ok (.if_icmp .ne 7, 3) := by decide +kernel
theorem d96_30 : decode (am_bytes 96) 30 = .ok (.iconst 1, 1) := by decide +kernel
theorem d96_31 : decode (am_bytes 96) 31 = .ok (.goto 4, 3) := by decide +kernel
theorem d96_34 : decode (am_bytes 96) 34 = .ok (.iconst 0, 1) := by decide +kernel
theorem d96_35 : decode (am_bytes 96) 35 = .ok (.ireturn, 1) := by decide +kernel
theorem d97_0 : decode (am_bytes 97) 0 = .ok (.iconst 0, 1) := by decide +kernel
theorem d97_1 : decode (am_bytes 97) 1 = .ok (.istore_n 3, 1) := by decide +kernel
theorem d97_2 : decode (am_bytes 97) 2 = .ok (.iconst 0, 1) := by decide +kernel
theorem d97_3 : decode (am_bytes 97) 3 = .ok (.istore 4, 2) := by decide +kernel
theorem d97_5 : decode (am_bytes 97) 5 = .ok (.iload 4, 2) := by decide +kernel
theorem d97_7 : decode (am_bytes 97) 7 = .ok (.bipush 12, 2) := by decide +kernel
theorem d97_9 : decode (am_bytes 97) 9 = .ok (.if_icmp .ge 31, 3) := by decide +kernel
theorem d97_12 : decode (am_bytes 97) 12 = .ok (.iload 4, 2) := by decide +kernel
theorem d97_14 : decode (am_bytes 97) 14 = .ok (.iload_n 1, 1) := by decide +kernel
theorem d97_15 : decode (am_bytes 97) 15 = .ok (.invokestatic 27, 3) := by decide +kernel
theorem d97_18 : decode (am_bytes 97) 18 = .ok (.ifCond .eq 16, 3) := by decide +kernel
theorem d97_21 : decode (am_bytes 97) 21 = .ok (.iload_n 3, 1) := by decide +kernel
theorem d97_22 : decode (am_bytes 97) 22 = .ok (.aload_n 0, 1) := by decide +kernel
theorem d97_23 : decode (am_bytes 97) 23 = .ok (.iload 4, 2) := by decide +kernel
theorem d97_25 : decode (am_bytes 97) 25 = .ok (.iload_n 2, 1) := by decide +kernel
theorem d97_26 : decode (am_bytes 97) 26 = .ok (.invokestatic 31, 3) := by decide +kernel
theorem d97_29 : decode (am_bytes 97) 29 = .ok (.invokevirtual 35, 3) := by decide +kernel
theorem d97_32 : decode (am_bytes 97) 32 = .ok (.ior, 1) := by decide +kernel
theorem d97_33 : decode (am_bytes 97) 33 = .ok (.istore_n 3, 1) := by decide +kernel
theorem d97_34 : decode (am_bytes 97) 34 = .ok (.iinc 4 1, 3) := by decide +kernel
theorem d97_37 : decode (am_bytes 97) 37 = .ok (.goto (-32), 3) := by decide +kernel
theorem d97_40 : decode (am_bytes 97) 40 = .ok (.iload_n 3, 1) := by decide +kernel
theorem d97_41 : decode (am_bytes 97) 41 = .ok (.ireturn, 1) := by decide +kernel
theorem d98_0 : decode (am_bytes 98) 0 = .ok (.iconst 0, 1) := by decide +kernel
theorem d98_1 : decode (am_bytes 98) 1 = .ok (.istore_n 3, 1) := by decide +kernel
theorem d98_2 : decode (am_bytes 98) 2 = .ok (.iconst 0, 1) := by decide +kernel
theorem d98_3 : decode (am_bytes 98) 3 = .ok (.istore 4, 2) := by decide +kernel
theorem d98_5 : decode (am_bytes 98) 5 = .ok (.iload 4, 2) := by decide +kernel
theorem d98_7 : decode (am_bytes 98) 7 = .ok (.bipush 12, 2) := by decide +kernel
theorem d98_9 : decode (am_bytes 98) 9 = .ok (.if_icmp .ge 31, 3) := by decide +kernel
theorem d98_12 : decode (am_bytes 98) 12 = .ok (.aload_n 0, 1) := by decide +kernel
theorem d98_13 : decode (am_bytes 98) 13 = .ok (.iload 4, 2) := by decide +kernel
theorem d98_15 : decode (am_bytes 98) 15 = .ok (.iload_n 2, 1) := by decide +kernel
theorem d98_16 : decode (am_bytes 98) 16 = .ok (.invokestatic 31, 3) := by decide +kernel
theorem d98_19 : decode (am_bytes 98) 19 = .ok (.invokevirtual 35, 3) := by decide +kernel
theorem d98_22 : decode (am_bytes 98) 22 = .ok (.iload_n 1, 1) := by decide +kernel
theorem d98_23 : decode (am_bytes 98) 23 = .ok (.iand, 1) := by decide +kernel
theorem d98_24 : decode (am_bytes 98) 24 = .ok (.ifCond .eq 10, 3) := by decide +kernel
theorem d98_27 : decode (am_bytes 98) 27 = .ok (.iload_n 3, 1) := by decide +kernel
theorem d98_28 : decode (am_bytes 98) 28 = .ok (.iconst 1, 1) := by decide +kernel
theorem d98_29 : decode (am_bytes 98) 29 = .ok (.iload 4, 2) := by decide +kernel
theorem d98_31 : decode (am_bytes 98) 31 = .ok (.ishl, 1) := by decide +kernel
theorem d98_32 : decode (am_bytes 98) 32 = .ok (.ior, 1) := by decide +kernel
theorem d98_33 : decode (am_bytes 98) 33 = .ok (.istore_n 3, 1) := by decide +kernel
theorem d98_34 : decode (am_bytes 98) 34 = .ok (.iinc 4 1, 3) := by decide +kernel
theorem d98_37 : decode (am_bytes 98) 37 = .ok (.goto (-32), 3) := by decide +kernel
theorem d98_40 : decode (am_bytes 98) 40 = .ok (.iload_n 3, 1) := by decide +kernel
theorem d98_41 : decode (am_bytes 98) 41 = .ok (.ireturn, 1) := by decide +kernel
theorem d99_0 : decode (am_bytes 99) 0 = .ok (.iload_n 1, 1) := by decide +kernel
theorem d99_1 : decode (am_bytes 99) 1 = .ok (.istore_n 2, 1) := by decide +kernel
theorem d99_2 : decode (am_bytes 99) 2 = .ok (.iconst 0, 1) := by decide +kernel
theorem d99_3 : decode (am_bytes 99) 3 = .ok (.istore_n 3, 1) := by decide +kernel
theorem d99_4 : decode (am_bytes 99) 4 = .ok (.iconst 0, 1) := by decide +kernel
theorem d99_5 : decode (am_bytes 99) 5 = .ok (.istore 4, 2) := by decide +kernel
theorem d99_7 : decode (am_bytes 99) 7 = .ok (.iload 4, 2) := by decide +kernel
theorem d99_9 : decode (am_bytes 99) 9 = .ok (.bipush 12, 2) := by decide +kernel
theorem d99_11 : decode (am_bytes 99) 11 = .ok (.if_icmp .ge 41, 3) := by decide +kernel
theorem d99_14 : decode (am_bytes 99) 14 = .ok (.iload_n 2, 1) := by decide +kernel
theorem d99_15 : decode (am_bytes 99) 15 = .ok (.iload_n 3, 1) := by decide +kernel
theorem d99_16 : decode (am_bytes 99) 16 = .ok (.if_icmp .eq 36, 3) := by decide +kernel
theorem d99_19 : decode (am_bytes 99) 19 = .ok (.iload_n 2, 1) := by decide +kernel
theorem d99_20 : decode (am_bytes 99) 20 = .ok (.istore_n 3, 1) := by decide +kernel
theorem d99_21 : decode (am_bytes 99) 21 = .ok (.iconst 0, 1) := by decide +kernel
theorem d99_22 : decode (am_bytes 99) 22 = .ok (.istore 5, 2) := by decide +kernel
theorem d99_24 : decode (am_bytes 99) 24 = .ok (.iload 5, 2) := by decide +kernel
theorem d99_26 : decode (am_bytes 99) 26 = .ok (.iconst 4, 1) := by decide +kernel
theorem d99_27 : decode (am_bytes 99) 27 = .ok (.if_icmp .ge 19, 3) := by decide +kernel
theorem d99_30 : decode (am_bytes 99) 30 = .ok (.iload_n 2, 1) := by decide +kernel
theorem d99_31 : decode (am_bytes 99) 31 = .ok (.aload_n 0, 1) := by decide +kernel
theorem d99_32 : decode (am_bytes 99) 32 = .ok (.iload_n 2, 1) := by decide +kernel
theorem d99_33 : decode (am_bytes 99) 33 = .ok (.iload 5, 2) := by decide +kernel
theorem d99_35 : decode (am_bytes 99) 35 = .ok (.invokevirtual 39, 3) := by decide +kernel
theorem d99_38 : decode (am_bytes 99) 38 = .ok (.ior, 1) := by decide +kernel
theorem d99_39 : decode (am_bytes 99) 39 = .ok (.istore_n 2, 1) := by decide +kernel
theorem d99_40 : decode (am_bytes 99) 40 = .ok (.iinc 5 1, 3) := by decide +kernel
theorem d99_43 : decode (am_bytes 99) 43 = .ok (.goto (-19), 3) := by decide +kernel
theorem d99_46 : decode (am_bytes 99) 46 = .ok (.iinc 4 1, 3) := by decide +kernel
theorem d99_49 : decode (am_bytes 99) 49 = .ok (.goto (-42), 3) := by decide +kernel
theorem d99_52 : decode (am_bytes 99) 52 = .ok (.iload_n 2, 1) := by decide +kernel
theorem d99_53 : decode (am_bytes 99) 53 = .ok (.ireturn, 1) := by decide +kernel
theorem d100_0 : decode (am_bytes 100) 0 = .ok (.iconst 0, 1) := by decide +kernel
theorem d100_1 : decode (am_bytes 100) 1 = .ok (.istore 5, 2) := by decide +kernel
theorem d100_3 : decode (am_bytes 100) 3 = .ok (.iconst 0, 1) := by decide +kernel
theorem d100_4 : decode (am_bytes 100) 4 = .ok (.istore 6, 2) := by decide +kernel
theorem d100_6 : decode (am_bytes 100) 6 = .ok (.iload 6, 2) := by decide +kernel
theorem d100_8 : decode (am_bytes 100) 8 = .ok (.bipush 12, 2) := by decide +kernel
theorem d100_10 : decode (am_bytes 100) 10 = .ok (.if_icmp .ge 62, 3) := by decide +kernel
theorem d100_13 : decode (am_bytes 100) 13 = .ok (.iload 6, 2) := by decide +kernel
theorem d100_15 : decode (am_bytes 100) 15 = .ok (.iload_n 2, 1) := by decide +kernel
theorem d100_16 : decode (am_bytes 100) 16 = .ok (.invokestatic 31, 3) := by decide +kernel
theorem d100_19 : decode (am_bytes 100) 19 = .ok (.istore 7, 2) := by decide +kernel
theorem d100_21 : decode (am_bytes 100) 21 = .ok (.iload 6, 2) := by decide +kernel
theorem d100_23 : decode (am_bytes 100) 23 = .ok (.iload_n 1, 1) := by decide +kernel
theorem d100_24 : decode (am_bytes 100) 24 = .ok (.invokestatic 27, 3) := by decide +kernel
theorem d100_27 : decode (am_bytes 100) 27 = .ok (.ifCond .eq 39, 3) := by decide +kernel
theorem d100_30 : decode (am_bytes 100) 30 = .ok (.aload_n 0, 1) := by decide +kernel
theorem d100_31 : decode (am_bytes 100) 31 = .ok (.getfield 9, 3) := by decide +kernel
theorem d100_34 : decode (am_bytes 100) 34 = .ok (.iload 7, 2) := by decide +kernel
theorem d100_36 : decode (am_bytes 100) 36 = .ok (.iaload, 1) := by decide +kernel
theorem d100_37 : decode (am_bytes 100) 37 = .ok (.iconst 1, 1) := by decide +kernel
theorem d100_38 : decode (am_bytes 100) 38 = .ok (.if_icmp .ne 28, 3) := by decide +kernel
theorem d100_41 : decode (am_bytes 100) 41 = .ok (.aload_n 0, 1) := by decide +kernel
theorem d100_42 : decode (am_bytes 100) 42 = .ok (.getfield 15, 3) := by decide +kernel
theorem d100_45 : decode (am_bytes 100) 45 = .ok (.iload 7, 2) := by decide +kernel
theorem d100_47 : decode (am_bytes 100) 47 = .ok (.iaload, 1) := by decide +kernel
theorem d100_48 : decode (am_bytes 100) 48 = .ok (.iload_n 3, 1) := by decide +kernel
theorem d100_49 : decode (am_bytes 100) 49 = .ok (.iload 4, 2) := by decide +kernel
theorem d100_51 : decode (am_bytes 100) 51 = .ok (.invokestatic 42, 3) := by decide +kernel
theorem d100_54 : decode (am_bytes 100) 54 = .ok (.ifCond .eq 12, 3) := by decide +kernel
theorem d100_57 : decode (am_bytes 100) 57 = .ok (.iload 5, 2) := by decide +kernel
theorem d100_59 : decode (am_bytes 100) 59 = .ok (.iconst 1, 1) := by decide +kernel
theorem d100_60 : decode (am_bytes 100) 60 = .ok (.iload 6, 2) := by decide +kernel
theorem d100_62 : decode (am_bytes 100) 62 = .ok (.ishl, 1) := by decide +kernel
theorem d100_63 : decode (am_bytes 100) 63 = .ok (.ior, 1) := by decide +kernel
theorem d100_64 : decode (am_bytes 100) 64 = .ok (.istore 5, 2) := by decide +kernel
theorem d100_66 : decode (am_bytes 100) 66 = .ok (.iinc 6 1, 3) := by decide +kernel
theorem d100_69 : decode (am_bytes 100) 69 = .ok (.goto (-63), 3) := by decide +kernel
theorem d100_72 : decode (am_bytes 100) 72 = .ok (.iload 5, 2) := by decide +kernel
theorem d100_74 : decode (am_bytes 100) 74 = .ok (.ireturn, 1) := by decide +kernel
theorem d101_0 : decode (am_bytes 101) 0 = .ok (.iconst 0, 1) := by decide +kernel
theorem d101_1 : decode (am_bytes 101) 1 = .ok (.istore_n 3, 1) := by decide +kernel
theorem d101_2 : decode (am_bytes 101) 2 = .ok (.iconst 0, 1) := by decide +kernel
theorem d101_3 : decode (am_bytes 101) 3 = .ok (.istore 4, 2) := by decide +kernel
theorem d101_5 : decode (am_bytes 101) 5 = .ok (.iload 4, 2) := by decide +kernel
theorem d101_7 : decode (am_bytes 101) 7 = .ok (.bipush 12, 2) := by decide +kernel
theorem d101_9 : decode (am_bytes 101) 9 = .ok (.if_icmp .ge 39, 3) := by decide +kernel
theorem d101_12 : decode (am_bytes 101) 12 = .ok (.iload 4, 2) := by decide +kernel
theorem d101_14 : decode (am_bytes 101) 14 = .ok (.iload_n 1, 1) := by decide +kernel
theorem d101_15 : decode (am_bytes 101) 15 = .ok (.invokestatic 27, 3) := by decide +kernel
theorem d101_18 : decode (am_bytes 101) 18 = .ok (.ifCond .eq 24, 3) := by decide +kernel
theorem d101_21 : decode (am_bytes 101) 21 = .ok (.aload_n 0, 1) := by decide +kernel
theorem d101_22 : decode (am_bytes 101) 22 = .ok (.getfield 9, 3) := by decide +kernel
theorem d101_25 : decode (am_bytes 101) 25 = .ok (.iload 4, 2) := by decide +kernel
theorem d101_27 : decode (am_bytes 101) 27 = .ok (.iload_n 2, 1) := by decide +kernel
theorem d101_28 : decode (am_bytes 101) 28 = .ok (.invokestatic 31, 3) := by decide +kernel
theorem d101_31 : decode (am_bytes 101) 31 = .ok (.iaload, 1) := by decide +kernel
theorem d101_32 : decode (am_bytes 101) 32 = .ok (.ifCond .ne 10, 3) := by decide +kernel
theorem d101_35 : decode (am_bytes 101) 35 = .ok (.iload_n 3, 1) := by decide +kernel
theorem d101_36 : decode (am_bytes 101) 36 = .ok (.iconst 1, 1) := by decide +kernel
theorem d101_37 : decode (am_bytes 101) 37 = .ok (.iload 4, 2) := by decide +kernel
theorem d101_39 : decode (am_bytes 101) 39 = .ok (.ishl, 1) := by decide +kernel
theorem d101_40 : decode (am_bytes 101) 40 = .ok (.ior, 1) := by decide +kernel
theorem d101_41 : decode (am_bytes 101) 41 = .ok (.istore_n 3, 1) := by decide +kernel
theorem d101_42 : decode (am_bytes 101) 42 = .ok (.iinc 4 1, 3) := by decide +kernel
theorem d101_45 : decode (am_bytes 101) 45 = .ok (.goto (-40), 3) := by decide +kernel
theorem d101_48 : decode (am_bytes 101) 48 = .ok (.iload_n 3, 1) := by decide +kernel
theorem d101_49 : decode (am_bytes 101) 49 = .ok (.ireturn, 1) := by decide +kernel
theorem d102_0 : decode (am_bytes 102) 0 = .ok (.aload_n 0, 1) := by decide +kernel
theorem d102_1 : decode (am_bytes 102) 1 = .ok (.getfield 9, 3) := by decide +kernel
theorem d102_4 : decode (am_bytes 102) 4 = .ok (.iload_n 1, 1) := by decide +kernel
theorem d102_5 : decode (am_bytes 102) 5 = .ok (.iaload, 1) := by decide +kernel
theorem d102_6 : decode (am_bytes 102) 6 = .ok (.iconst 2, 1) := by decide +kernel
theorem d102_7 : decode (am_bytes 102) 7 = .ok (.if_icmp .ne 14, 3) := by decide +kernel
theorem d102_10 : decode (am_bytes 102) 10 = .ok (.iconst 1, 1) := by decide +kernel
theorem d102_11 : decode (am_bytes 102) 11 = .ok (.aload_n 0, 1) := by decide +kernel
theorem d102_12 : decode (am_bytes 102) 12 = .ok (.getfield 15, 3) := by decide +kernel
theorem d102_15 : decode (am_bytes 102) 15 = .ok (.iload_n 1, 1) := by decide +kernel
theorem d102_16 : decode (am_bytes 102) 16 = .ok (.iaload, 1) := by decide +kernel
theorem d102_17 : decode (am_bytes 102) 17 = .ok (.ishl, 1) := by decide +kernel
theorem d102_18 : decode (am_bytes 102) 18 = .ok (.goto 4, 3) := by decide +kernel
theorem d102_21 : decode (am_bytes 102) 21 = .ok (.iconst 0, 1) := by decide +kernel
theorem d102_22 : decode (am_bytes 102) 22 = .ok (.ireturn, 1) := by decide +kernel
theorem d103_0 : decode (am_bytes 103) 0 = .ok (.iload_n 1, 1) := by decide +kernel
theorem d103_1 : decode (am_bytes 103) 1 = .ok (.bipush 60, 2) := by decide +kernel
theorem d103_3 : decode (am_bytes 103) 3 = .ok (.if_icmp .ne 14, 3) := by decide +kernel
theorem d103_6 : decode (am_bytes 103) 6 = .ok (.iload_n 0, 1) := by decide +kernel
theorem d103_7 : decode (am_bytes 103) 7 = .ok (.iload_n 2, 1) := by decide +kernel
theorem d103_8 : decode (am_bytes 103) 8 = .ok (.if_icmp .ge 7, 3) := by decide +kernel
theorem d103_11 : decode (am_bytes 103) 11 = .ok (.iconst 1, 1) := by decide +kernel
theorem d103_12 : decode (am_bytes 103) 12 = .ok (.goto 4, 3) := by decide +kernel
theorem d103_15 : decode (am_bytes 103) 15 = .ok (.iconst 0, 1) := by decide +kernel
theorem d103_16 : decode (am_bytes 103) 16 = .ok (.ireturn, 1) := by decide +kernel
theorem d103_17 : decode (am_bytes 103) 17 = .ok (.iload_n 1, 1) := by decide +kernel
theorem d103_18 : decode (am_bytes 103) 18 = .ok (.bipush 62, 2) := by decide +kernel
theorem d103_20 : decode (am_bytes 103) 20 = .ok (.if_icmp .ne 16, 3) := by decide +kernel
theorem d103_23 : decode (am_bytes 103) 23 = .ok (.iload_n 0, 1) := by decide +kernel
theorem d103_24 : decode (am_bytes 103) 24 = .ok (.iload_n 2, 1) := by decide +kernel
theorem d103_25 : decode (am_bytes 103) 25 = .ok (.if_icmp .le 7, 3) := by decide +kernel
theorem d103_28 : decode (am_bytes 103) 28 = .ok (.iconst 1, 1) := by decide +kernel
theorem d103_29 : decode (am_bytes 103) 29 = .ok (.goto 17, 3) := by decide +kernel
theorem d103_32 : decode (am_bytes 103) 32 = .ok (.iconst 0, 1) := by decide +kernel
theorem d103_33 : decode (am_bytes 103) 33 = .ok (.goto 13, 3) := by decide +kernel
theorem d103_36 : decode (am_bytes 103) 36 = .ok (.iload_n 0, 1) := by decide +kernel
theorem d103_37 : decode (am_bytes 103) 37 = .ok (.iload_n 2, 1) := by decide +kernel
theorem d103_38 : decode (am_bytes 103) 38 = .ok (.if_icmp .ne 7, 3) := by decide +kernel
theorem d103_41 : decode (am_bytes 103) 41 = .ok (.iconst 1, 1) := by decide +kernel
theorem d103_42 : decode (am_bytes 103) 42 = .ok (.goto 4, 3) := by decide +kernel
theorem d103_45 : decode (am_bytes 103) 45 = .ok (.iconst 0, 1) := by decide +kernel
theorem d103_46 : decode (am_bytes 103) 46 = .ok (.ireturn, 1) := by decide +kernel
theorem d104_0 : decode (am_bytes 104) 0 = .ok (.iload_n 1, 1) := by decide +kernel
theorem d104_1 : decode (am_bytes 104) 1 = .ok (.iload_n 0, 1) := by decide +kernel
theorem d104_2 : decode (am_bytes 104) 2 = .ok (.ishr, 1) := by decide +kernel
theorem d104_3 : decode (am_bytes 104) 3 = .ok (.iconst 1, 1) := by decide +kernel
theorem d104_4 : decode (am_bytes 104) 4 = .ok (.iand, 1) := by decide +kernel
theorem d104_5 : decode (am_bytes 104) 5 = .ok (.iconst 1, 1) := by decide +kernel
theorem d104_6 : decode (am_bytes 104) 6 = .ok (.if_icmp .ne 7, 3) := by decide +kernel
theorem d104_9 : decode (am_bytes 104) 9 = .ok (.iconst 1, 1) := by decide +kernel
theorem d104_10 : decode (am_bytes 104) 10 = .ok (.goto 4, 3) := by decide +kernel
theorem d104_13 : decode (am_bytes 104) 13 = .ok (.iconst 0, 1) := by decide +kernel
theorem d104_14 : decode (am_bytes 104) 14 = .ok (.ireturn, 1) := by decide +kernel
theorem d105_0 : decode (am_bytes 105) 0 = .ok (.aload_n 0, 1) := by decide +kernel
theorem d105_1 : decode (am_bytes 105) 1 = .ok (.getfield 9, 3) := by decide +kernel
theorem d105_4 : decode (am_bytes 105) 4 = .ok (.aload_n 0, 1) := by decide +kernel
theorem d105_5 : decode (am_bytes 105) 5 = .ok (.getfield 31, 3) := by decide +kernel
theorem d105_8 : decode (am_bytes 105) 8 = .ok (.iload_n 1, 1) := by decide +kernel
theorem d105_9 : decode (am_bytes 105) 9 = .ok (.iastore, 1) := by decide +kernel
theorem d105_10 : decode (am_bytes 105) 10 = .ok (.aload_n 0, 1) := by decide +kernel
theorem d105_11 : decode (am_bytes 105) 11 = .ok (.getfield 15, 3) := by decide +kernel
theorem d105_14 : decode (am_bytes 105) 14 = .ok (.aload_n 0, 1) := by decide +kernel
theorem d105_15 : decode (am_bytes 105) 15 = .ok (.getfield 31, 3) := by decide +kernel
theorem d105_18 : decode (am_bytes 105) 18 = .ok (.iload_n 2, 1) := by decide +kernel
theorem d105_19 : decode (am_bytes 105) 19 = .ok (.iastore, 1) := by decide +kernel
theorem d105_20 : decode (am_bytes 105) 20 = .ok (.aload_n 0, 1) := by decide +kernel
theorem d105_21 : decode (am_bytes 105) 21 = .ok (.getfield 18, 3) := by decide +kernel
theorem d105_24 : decode (am_bytes 105) 24 = .ok (.aload_n 0, 1) := by decide +kernel
theorem d105_25 : decode (am_bytes 105) 25 = .ok (.getfield 31, 3) := by decide +kernel
theorem d105_28 : decode (am_bytes 105) 28 = .ok (.iload_n 3, 1) := by decide +kernel
theorem d105_29 : decode (am_bytes 105) 29 = .ok (.iastore, 1) := by decide +kernel
theorem d105_30 : decode (am_bytes 105) 30 = .ok (.aload_n 0, 1) := by decide +kernel
theorem d105_31 : decode (am_bytes 105) 31 = .ok (.getfield 21, 3) := by decide +kernel
theorem d105_34 : decode (am_bytes 105) 34 = .ok (.aload_n 0, 1) := by decide +kernel
theorem d105_35 : decode (am_bytes 105) 35 = .ok (.getfield 31, 3) := by decide +kernel
theorem d105_38 : decode (am_bytes 105) 38 = .ok (.iload 4, 2) := by decide +kernel
theorem d105_40 : decode (am_bytes 105) 40 = .ok (.iastore, 1) := by decide +kernel
theorem d105_41 : decode (am_bytes 105) 41 = .ok (.aload_n 0, 1) := by decide +kernel
theorem d105_42 : decode (am_bytes 105) 42 = .ok (.getfield 24, 3) := by decide +kernel
theorem d105_45 : decode (am_bytes 105) 45 = .ok (.aload_n 0, 1) := by decide +kernel
theorem d105_46 : decode (am_bytes 105) 46 = .ok (.getfield 31, 3) := by decide +kernel
theorem d105_49 : decode (am_bytes 105) 49 = .ok (.iload 5, 2) := by decide +kernel
theorem d105_51 : decode (am_bytes 105) 51 = .ok (.iastore, 1) := by decide +kernel
theorem d105_52 : decode (am_bytes 105) 52 = .ok (.aload_n 0, 1) := by decide +kernel
theorem d105_53 : decode (am_bytes 105) 53 = .ok (.dup, 1) := by decide +kernel
theorem d105_54 : decode (am_bytes 105) 54 = .ok (.getfield 31, 3) := by decide +kernel
theorem d105_57 : decode (am_bytes 105) 57 = .ok (.iconst 1, 1) := by decide +kernel
theorem d105_58 : decode (am_bytes 105) 58 = .ok (.iadd, 1) := by decide +kernel
theorem d105_59 : decode (am_bytes 105) 59 = .ok (.putfield 31, 3) := by decide +kernel
theorem d105_62 : decode (am_bytes 105) 62 = .ok (.return_, 1) := by decide +kernel
theorem d106_0 : decode (am_bytes 106) 0 = .ok (.iconst 0, 1) := by decide +kernel
theorem d106_1 : decode (am_bytes 106) 1 = .ok (.istore_n 2, 1) := by decide +kernel
theorem d106_2 : decode (am_bytes 106) 2 = .ok (.iconst 0, 1) := by decide +kernel
theorem d106_3 : decode (am_bytes 106) 3 = .ok (.istore_n 3, 1) := by decide +kernel
theorem d106_4 : decode (am_bytes 106) 4 = .ok (.iload_n 3, 1) := by decide +kernel
theorem d106_5 : decode (am_bytes 106) 5 = .ok (.aload_n 0, 1) := by decide +kernel
theorem d106_6 : decode (am_bytes 106) 6 = .ok (.getfield 31, 3) := by decide +kernel
theorem d106_9 : decode (am_bytes 106) 9 = .ok (.if_icmp .ge 22, 3) := by decide +kernel
theorem d106_12 : decode (am_bytes 106) 12 = .ok (.aload_n 0, 1) := by decide +kernel
theorem d106_13 : decode (am_bytes 106) 13 = .ok (.getfield 9, 3) := by decide +kernel
theorem d106_16 : decode (am_bytes 106) 16 = .ok (.iload_n 3, 1) := by decide +kernel
theorem d106_17 : decode (am_bytes 106) 17 = .ok (.iaload, 1) := by decide +kernel
theorem d106_18 : decode (am_bytes 106) 18 = .ok (.iload_n 1, 1) := by decide +kernel
theorem d106_19 : decode (am_bytes 106) 19 = .ok (.if_icmp .ne 6, 3) := by decide +kernel
theorem d106_22 : decode (am_bytes 106) 22 = .ok (.iinc 2 1, 3) := by decide +kernel
theorem d106_25 : decode (am_bytes 106) 25 = .ok (.iinc 3 1, 3) := by decide +kernel
theorem d106_28 : decode (am_bytes 106) 28 = .ok (.goto (-24), 3) := by decide +kernel
theorem d106_31 : decode (am_bytes 106) 31 = .ok (.iload_n 2, 1) := by decide +kernel
theorem d106_32 : decode (am_bytes 106) 32 = .ok (.ireturn, 1) := by decide +kernel
theorem d107_0 : decode (am_bytes 107) 0 = .ok (.aload_n 2, 1) := by decide +kernel
theorem d107_1 : decode (am_bytes 107) 1 = .ok (.invokevirtual 35, 3) := by decide +kernel
theorem d107_4 : decode (am_bytes 107) 4 = .ok (.iconst 0, 1) := by decide +kernel
theorem d107_5 : decode (am_bytes 107) 5 = .ok (.istore_n 3, 1) := by decide +kernel
theorem d107_6 : decode (am_bytes 107) 6 = .ok (.iload_n 3, 1) := by decide +kernel
theorem d107_7 : decode (am_bytes 107) 7 = .ok (.aload_n 0, 1) := by decide +kernel
theorem d107_8 : decode (am_bytes 107) 8 = .ok (.getfield 31, 3) := by decide +kernel
theorem d107_11 : decode (am_bytes 107) 11 = .ok (.if_icmp .ge 77, 3) := by decide +kernel
theorem d107_14 : decode (am_bytes 107) 14 = .ok (.aload_n 0, 1) := by decide +kernel
theorem d107_15 : decode (am_bytes 107) 15 = .ok (.getfield 15, 3) := by decide +kernel
theorem d107_18 : decode (am_bytes 107) 18 = .ok (.iload_n 3, 1) := by decide +kernel
theorem d107_19 : decode (am_bytes 107) 19 = .ok (.iaload, 1) := by decide +kernel
theorem d107_20 : decode (am_bytes 107) 20 = .ok (.aload_n 1, 1) := by decide +kernel
theorem d107_21 : decode (am_bytes 107) 21 = .ok (.aload_n 0, 1) := by decide +kernel
theorem d107_22 : decode (am_bytes 107) 22 = .ok (.getfield 9, 3) := by decide +kernel
theorem d107_25 : decode (am_bytes 107) 25 = .ok (.iload_n 3, 1) := by decide +kernel
theorem d107_26 : decode (am_bytes 107) 26 = .ok (.iaload, 1) := by decide +kernel
theorem d107_27 : decode (am_bytes 107) 27 = .ok (.iaload, 1) := by decide +kernel
theorem d107_28 : decode (am_bytes 107) 28 = .ok (.if_icmp .gt 54, 3) := by decide +kernel
theorem d107_31 : decode (am_bytes 107) 31 = .ok (.aload_n 2, 1) := by decide +kernel
theorem d107_32 : decode (am_bytes 107) 32 = .ok (.getfield 40, 3) := by decide +kernel
theorem d107_35 : decode (am_bytes 107) 35 = .ok (.aload_n 0, 1) := by decide +kernel
theorem d107_36 : decode (am_bytes 107) 36 = .ok (.getfield 18, 3) := by decide +kernel
theorem d107_39 : decode (am_bytes 107) 39 = .ok (.iload_n 3, 1) := by decide +kernel
theorem d107_40 : decode (am_bytes 107) 40 = .ok (.iaload, 1) := by decide +kernel
theorem d107_41 : decode (am_bytes 107) 41 = .ok (.aload_n 0, 1) := by decide +kernel
theorem d107_42 : decode (am_bytes 107) 42 = .ok (.getfield 21, 3) := by decide +kernel
theorem d107_45 : decode (am_bytes 107) 45 = .ok (.iload_n 3, 1) := by decide +kernel
theorem d107_46 : decode (am_bytes 107) 46 = .ok (.iaload, 1) := by decide +kernel
theorem d107_47 : decode (am_bytes 107) 47 = .ok (.iastore, 1) := by decide +kernel
theorem d107_48 : decode (am_bytes 107) 48 = .ok (.aload_n 2, 1) := by decide +kernel
theorem d107_49 : decode (am_bytes 107) 49 = .ok (.getfield 41, 3) := by decide +kernel
theorem d107_52 : decode (am_bytes 107) 52 = .ok (.aload_n 0, 1) := by decide +kernel
theorem d107_53 : decode (am_bytes 107) 53 = .ok (.getfield 18, 3) := by decide +kernel
theorem d107_56 : decode (am_bytes 107) 56 = .ok (.iload_n 3, 1) := by decide +kernel
theorem d107_57 : decode (am_bytes 107) 57 = .ok (.iaload, 1) := by decide +kernel
theorem d107_58 : decode (am_bytes 107) 58 = .ok (.aload_n 0, 1) := by decide +kernel
theorem d107_59 : decode (am_bytes 107) 59 = .ok (.getfield 24, 3) := by decide +kernel
theorem d107_62 : decode (am_bytes 107) 62 = .ok (.iload_n 3, 1) := by decide +kernel
theorem d107_63 : decode (am_bytes 107) 63 = .ok (.iaload, 1) := by decide +kernel
theorem d107_64 : decode (am_bytes 107) 64 = .ok (.iastore, 1) := by decide +kernel
theorem d107_65 : decode (am_bytes 107) 65 = .ok (.aload_n 2, 1) := by decide +kernel
theorem d107_66 : decode (am_bytes 107) 66 = .ok (.getfield 42, 3) := by decide +kernel
theorem d107_69 : decode (am_bytes 107) 69 = .ok (.aload_n 0, 1) := by decide +kernel
theorem d107_70 : decode (am_bytes 107) 70 = .ok (.getfield 18, 3) := by decide +kernel
theorem d107_73 : decode (am_bytes 107) 73 = .ok (.iload_n 3, 1) := by decide +kernel
theorem d107_74 : decode (am_bytes 107) 74 = .ok (.iaload, 1) := by decide +kernel
theorem d107_75 : decode (am_bytes 107) 75 = .ok (.aload_n 0, 1) := by decide +kernel
theorem d107_76 : decode (am_bytes 107) 76 = .ok (.getfield 15, 3) := by decide +kernel
theorem d107_79 : decode (am_bytes 107) 79 = .ok (.iload_n 3, 1) := by decide +kernel
theorem d107_80 : decode (am_bytes 107) 80 = .ok (.iaload, 1) := by decide +kernel
theorem d107_81 : decode (am_bytes 107) 81 = .ok (.iastore, 1) := by decide +kernel
theorem d107_82 : decode (am_bytes 107) 82 = .ok (.iinc 3 1, 3) := by decide +kernel
theorem d107_85 : decode (am_bytes 107) 85 = .ok (.goto (-79), 3) := by decide +kernel
theorem d107_88 : decode (am_bytes 107) 88 = .ok (.return_, 1) := by decide +kernel
theorem d108_0 : decode (am_bytes 108) 0 = .ok (.iconst 0, 1) := by decide +kernel
theorem d108_1 : decode (am_bytes 108) 1 = .ok (.istore_n 1, 1) := by decide +kernel
theorem d108_2 : decode (am_bytes 108) 2 = .ok (.iload_n 1, 1) := by decide +kernel
theorem d108_3 : decode (am_bytes 108) 3 = .ok (.aload_n 0, 1) := by decide +kernel
theorem d108_4 : decode (am_bytes 108) 4 = .ok (.getfield 31, 3) := by decide +kernel
theorem d108_7 : decode (am_bytes 108) 7 = .ok (.if_icmp .ge 16, 3) := by decide +kernel
theorem d108_10 : decode (am_bytes 108) 10 = .ok (.aload_n 0, 1) := by decide +kernel
theorem d108_11 : decode (am_bytes 108) 11 = .ok (.getfield 27, 3) := by decide +kernel
theorem d108_14 : decode (am_bytes 108) 14 = .ok (.iload_n 1, 1) := by decide +kernel
theorem d108_15 : decode (am_bytes 108) 15 = .ok (.iconst 0, 1) := by decide +kernel
theorem d108_16 : decode (am_bytes 108) 16 = .ok (.bastore, 1) := by decide +kernel
theorem d108_17 : decode (am_bytes 108) 17 = .ok (.iinc 1 1, 3) := by decide +kernel
theorem d108_20 : decode (am_bytes 108) 20 = .ok (.goto (-18), 3) := by decide +kernel
theorem d108_23 : decode (am_bytes 108) 23 = .ok (.return_, 1) := by decide +kernel
theorem d109_0 : decode (am_bytes 109) 0 = .ok (.iconst 0, 1) := by decide +kernel
theorem d109_1 : decode (am_bytes 109) 1 = .ok (.istore_n 2, 1) := by decide +kernel
theorem d109_2 : decode (am_bytes 109) 2 = .ok (.iload_n 2, 1) := by decide +kernel
theorem d109_3 : decode (am_bytes 109) 3 = .ok (.aload_n 0, 1) := by decide +kernel
theorem d109_4 : decode (am_bytes 109) 4 = .ok (.getfield 31, 3) := by decide +kernel
theorem d109_7 : decode (am_bytes 109) 7 = .ok (.if_icmp .ge 36, 3) := by decide +kernel
theorem d109_10 : decode (am_bytes 109) 10 = .ok (.aload_n 0, 1) := by decide +kernel
theorem d109_11 : decode (am_bytes 109) 11 = .ok (.getfield 15, 3) := by decide +kernel
theorem d109_14 : decode (am_bytes 109) 14 = .ok (.iload_n 2, 1) := by decide +kernel
theorem d109_15 : decode (am_bytes 109) 15 = .ok (.iaload, 1) := by decide +kernel
theorem d109_16 : decode (am_bytes 109) 16 = .ok (.aload_n 1, 1) := by decide +kernel
theorem d109_17 : decode (am_bytes 109) 17 = .ok (.getfield 42, 3) := by decide +kernel
theorem d109_20 : decode (am_bytes 109) 20 = .ok (.aload_n 0, 1) := by decide +kernel
theorem d109_21 : decode (am_bytes 109) 21 = .ok (.getfield 18, 3) := by decide +kernel
theorem d109_24 : decode (am_bytes 109) 24 = .ok (.iload_n 2, 1) := by decide +kernel
theorem d109_25 : decode (am_bytes 109) 25 = .ok (.iaload, 1) := by decide +kernel
theorem d109_26 : decode (am_bytes 109) 26 = .ok (.iaload, 1) := by decide +kernel
theorem d109_27 : decode (am_bytes 109) 27 = .ok (.if_icmp .ne 10, 3) := by decide +kernel
theorem d109_30 : decode (am_bytes 109) 30 = .ok (.aload_n 0, 1) := by decide +kernel
theorem d109_31 : decode (am_bytes 109) 31 = .ok (.getfield 27, 3) := by decide +kernel
theorem d109_34 : decode (am_bytes 109) 34 = .ok (.iload_n 2, 1) := by decide +kernel
theorem d109_35 : decode (am_bytes 109) 35 = .ok (.iconst 1, 1) := by decide +kernel
theorem d109_36 : decode (am_bytes 109) 36 = .ok (.bastore, 1) := by decide +kernel
theorem d109_37 : decode (am_bytes 109) 37 = .ok (.iinc 2 1, 3) := by decide +kernel
theorem d109_40 : decode (am_bytes 109) 40 = .ok (.goto (-38), 3) := by decide +kernel
theorem d109_43 : decode (am_bytes 109) 43 = .ok (.return_, 1) := by decide +kernel
theorem d110_0 : decode (am_bytes 110) 0 = .ok (.iconst 0, 1) := by decide +kernel
theorem d110_1 : decode (am_bytes 110) 1 = .ok (.istore_n 3, 1) := by decide +kernel
theorem d110_2 : decode (am_bytes 110) 2 = .ok (.iload_n 3, 1) := by decide +kernel
theorem d110_3 : decode (am_bytes 110) 3 = .ok (.aload_n 0, 1) := by decide +kernel
theorem d110_4 : decode (am_bytes 110) 4 = .ok (.getfield 31, 3) := by decide +kernel
theorem d110_7 : decode (am_bytes 110) 7 = .ok (.if_icmp .ge 36, 3) := by decide +kernel
theorem d110_10 : decode (am_bytes 110) 10 = .ok (.aload_n 0, 1) := by decide +kernel
theorem d110_11 : decode (am_bytes 110) 11 = .ok (.getfield 9, 3) := by decide +kernel
theorem d110_14 : decode (am_bytes 110) 14 = .ok (.iload_n 3, 1) := by decide +kernel
theorem d110_15 : decode (am_bytes 110) 15 = .ok (.iaload, 1) := by decide +kernel
theorem d110_16 : decode (am_bytes 110) 16 = .ok (.iload_n 1, 1) := by decide +kernel
theorem d110_17 : decode (am_bytes 110) 17 = .ok (.if_icmp .ne 20, 3) := by decide +kernel
theorem d110_20 : decode (am_bytes 110) 20 = .ok (.aload_n 0, 1) := by decide +kernel
theorem d110_21 : decode (am_bytes 110) 21 = .ok (.getfield 15, 3) := by decide +kernel
theorem d110_24 : decode (am_bytes 110) 24 = .ok (.iload_n 3, 1) := by decide +kernel
theorem d110_25 : decode (am_bytes 110) 25 = .ok (.iaload, 1) := by decide +kernel
theorem d110_26 : decode (am_bytes 110) 26 = .ok (.iload_n 2, 1) := by decide +kernel
theorem d110_27 : decode (am_bytes 110) 27 = .ok (.if_icmp .le 10, 3) := by decide +kernel
theorem d110_30 : decode (am_bytes 110) 30 = .ok (.aload_n 0, 1) := by decide +kernel
theorem d110_31 : decode (am_bytes 110) 31 = .ok (.getfield 27, 3) := by decide +kernel
theorem d110_34 : decode (am_bytes 110) 34 = .ok (.iload_n 3, 1) := by decide +kernel
theorem d110_35 : decode (am_bytes 110) 35 = .ok (.iconst 1, 1) := by decide +kernel
theorem d110_36 : decode (am_bytes 110) 36 = .ok (.bastore, 1) := by decide +kernel
theorem d110_37 : decode (am_bytes 110) 37 = .ok (.iinc 3 1, 3) := by decide +kernel
theorem d110_40 : decode (am_bytes 110) 40 = .ok (.goto (-38), 3) := by decide +kernel
theorem d110_43 : decode (am_bytes 110) 43 = .ok (.return_, 1) := by decide +kernel
theorem d111_0 : decode (am_bytes 111) 0 = .ok (.iconst 0, 1) := by decide +kernel
theorem d111_1 : decode (am_bytes 111) 1 = .ok (.istore_n 3, 1) := by decide +kernel
theorem d111_2 : decode (am_bytes 111) 2 = .ok (.iconst 0, 1) := by decide +kernel
theorem d111_3 : decode (am_bytes 111) 3 = .ok (.istore 4, 2) := by decide +kernel
theorem d111_5 : decode (am_bytes 111) 5 = .ok (.iload 4, 2) := by decide +kernel
theorem d111_7 : decode (am_bytes 111) 7 = .ok (.aload_n 0, 1) := by decide +kernel
theorem d111_8 : decode (am_bytes 111) 8 = .ok (.getfield 31, 3) := by decide +kernel
theorem d111_11 : decode (am_bytes 111) 11 = .ok (.if_icmp .ge 46, 3) := by decide +kernel
theorem d111_14 : decode (am_bytes 111) 14 = .ok (.aload_n 0, 1) := by decide +kernel
theorem d111_15 : decode (am_bytes 111) 15 = .ok (.getfield 27, 3) := by decide +kernel
theorem d111_18 : decode (am_bytes 111) 18 = .ok (.iload 4, 2) := by decide +kernel
theorem d111_20 : decode (am_bytes 111) 20 = .ok (.baload, 1) := by decide +kernel
theorem d111_21 : decode (am_bytes 111) 21 = .ok (.ifCond .eq 30, 3) := by decide +kernel
theorem d111_24 : decode (am_bytes 111) 24 = .ok (.aload_n 0, 1) := by decide +kernel
theorem d111_25 : decode (am_bytes 111) 25 = .ok (.getfield 18, 3) := by decide +kernel
theorem d111_28 : decode (am_bytes 111) 28 = .ok (.iload 4, 2) := by decide +kernel
theorem d111_30 : decode (am_bytes 111) 30 = .ok (.iaload, 1) := by decide +kernel
theorem d111_31 : decode (am_bytes 111) 31 = .ok (.iload_n 1, 1) := by decide +kernel
theorem d111_32 : decode (am_bytes 111) 32 = .ok (.if_icmp .ne 19, 3) := by decide +kernel
theorem d111_35 : decode (am_bytes 111) 35 = .ok (.iload_n 3, 1) := by decide +kernel
theorem d111_36 : decode (am_bytes 111) 36 = .ok (.iload_n 2, 1) := by decide +kernel
theorem d111_37 : decode (am_bytes 111) 37 = .ok (.if_icmp .ne 11, 3) := by decide +kernel
theorem d111_40 : decode (am_bytes 111) 40 = .ok (.aload_n 0, 1) := by decide +kernel
theorem d111_41 : decode (am_bytes 111) 41 = .ok (.getfield 15, 3) := by decide +kernel
theorem d111_44 : decode (am_bytes 111) 44 = .ok (.iload 4, 2) := by decide +kernel
theorem d111_46 : decode (am_bytes 111) 46 = .ok (.iaload, 1) := by decide +kernel
theorem d111_47 : decode (am_bytes 111) 47 = .ok (.ireturn, 1) := by decide +kernel
theorem d111_48 : decode (am_bytes 111) 48 = .ok (.iinc 3 1, 3) := by decide +kernel
theorem d111_51 : decode (am_bytes 111) 51 = .ok (.iinc 4 1, 3) := by decide +kernel
theorem d111_54 : decode (am_bytes 111) 54 = .ok (.goto (-49), 3) := by decide +kernel
theorem d111_57 : decode (am_bytes 111) 57 = .ok (.iconst (-1), 1) := by decide +kernel
theorem d111_58 : decode (am_bytes 111) 58 = .ok (.ireturn, 1) := by decide +kernel
theorem d112_0 : decode (am_bytes 112) 0 = .ok (.iconst 0, 1) := by decide +kernel
theorem d112_1 : decode (am_bytes 112) 1 = .ok (.istore_n 1, 1) := by decide +kernel
theorem d112_2 : decode (am_bytes 112) 2 = .ok (.iconst 0, 1) := by decide +kernel
theorem d112_3 : decode (am_bytes 112) 3 = .ok (.istore_n 2, 1) := by decide +kernel
theorem d112_4 : decode (am_bytes 112) 4 = .ok (.iload_n 2, 1) := by decide +kernel
theorem d112_5 : decode (am_bytes 112) 5 = .ok (.aload_n 0, 1) := by decide +kernel
theorem d112_6 : decode (am_bytes 112) 6 = .ok (.getfield 31, 3) := by decide +kernel
theorem d112_9 : decode (am_bytes 112) 9 = .ok (.if_icmp .ge 27, 3) := by decide +kernel
theorem d112_12 : decode (am_bytes 112) 12 = .ok (.aload_n 0, 1) := by decide +kernel
theorem d112_13 : decode (am_bytes 112) 13 = .ok (.getfield 27, 3) := by decide +kernel
theorem d112_16 : decode (am_bytes 112) 16 = .ok (.iload_n 2, 1) := by decide +kernel
theorem d112_17 : decode (am_bytes 112) 17 = .ok (.baload, 1) := by decide +kernel
theorem d112_18 : decode (am_bytes 112) 18 = .ok (.ifCond .eq 12, 3) := by decide +kernel
theorem d112_21 : decode (am_bytes 112) 21 = .ok (.aload_n 0, 1) := by decide +kernel
theorem d112_22 : decode (am_bytes 112) 22 = .ok (.iload_n 2, 1) := by decide +kernel
theorem d112_23 : decode (am_bytes 112) 23 = .ok (.iload_n 1, 1) := by decide +kernel
theorem d112_24 : decode (am_bytes 112) 24 = .ok (.invokevirtual 43, 3) := by decide +kernel
theorem d112_27 : decode (am_bytes 112) 27 = .ok (.iinc 1 1, 3) := by decide +kernel
theorem d112_30 : decode (am_bytes 112) 30 = .ok (.iinc 2 1, 3) := by decide +kernel
theorem d112_33 : decode (am_bytes 112) 33 = .ok (.goto (-29), 3) := by decide +kernel
theorem d112_36 : decode (am_bytes 112) 36 = .ok (.aload_n 0, 1) := by decide +kernel
theorem d112_37 : decode (am_bytes 112) 37 = .ok (.getfield 31, 3) := by decide +kernel
theorem d112_40 : decode (am_bytes 112) 40 = .ok (.iload_n 1, 1) := by decide +kernel
theorem d112_41 : decode (am_bytes 112) 41 = .ok (.isub, 1) := by decide +kernel
theorem d112_42 : decode (am_bytes 112) 42 = .ok (.istore_n 2, 1) := by decide +kernel
theorem d112_43 : decode (am_bytes 112) 43 = .ok (.aload_n 0, 1) := by decide +kernel
theorem d112_44 : decode (am_bytes 112) 44 = .ok (.iload_n 1, 1) := by decide +kernel
theorem d112_45 : decode (am_bytes 112) 45 = .ok (.putfield 31, 3) := by decide +kernel
theorem d112_48 : decode (am_bytes 112) 48 = .ok (.iload_n 2, 1) := by decide +kernel
theorem d112_49 : decode (am_bytes 112) 49 = .ok (.ireturn, 1) := by decide +kernel
theorem d113_0 : decode (am_bytes 113) 0 = .ok (.aload_n 0, 1) := by decide +kernel
theorem d113_1 : decode (am_bytes 113) 1 = .ok (.getfield 9, 3) := by decide +kernel
theorem d113_4 : decode (am_bytes 113) 4 = .ok (.iload_n 2, 1) := by decide +kernel
theorem d113_5 : decode (am_bytes 113) 5 = .ok (.aload_n 0, 1) := by decide +kernel
theorem d113_6 : decode (am_bytes 113) 6 = .ok (.getfield 9, 3) := by decide +kernel
theorem d113_9 : decode (am_bytes 113) 9 = .ok (.iload_n 1, 1) := by decide +kernel
theorem d113_10 : decode (am_bytes 113) 10 = .ok (.iaload, 1) := by decide +kernel
theorem d113_11 : decode (am_bytes 113) 11 = .ok (.iastore, 1) := by decide +kernel
theorem d113_12 : decode (am_bytes 113) 12 = .ok (.aload_n 0, 1) := by decide +kernel
theorem d113_13 : decode (am_bytes 113) 13 = .ok (.getfield 15, 3) := by decide +kernel
theorem d113_16 : decode (am_bytes 113) 16 = .ok (.iload_n 2, 1) := by decide +kernel
theorem d113_17 : decode (am_bytes 113) 17 = .ok (.aload_n 0, 1) := by decide +kernel
theorem d113_18 : decode (am_bytes 113) 18 = .ok (.getfield 15, 3) := by decide +kernel
theorem d113_21 : decode (am_bytes 113) 21 = .ok (.iload_n 1, 1) := by decide +kernel
theorem d113_22 : decode (am_bytes 113) 22 = .ok (.iaload, 1) := by decide +kernel
theorem d113_23 : decode (am_bytes 113) 23 = .ok (.iastore, 1) := by decide +kernel
theorem d113_24 : decode (am_bytes 113) 24 = .ok (.aload_n 0, 1) := by decide +kernel
theorem d113_25 : decode (am_bytes 113) 25 = .ok (.getfield 18, 3) := by decide +kernel
theorem d113_28 : decode (am_bytes 113) 28 = .ok (.iload_n 2, 1) := by decide +kernel
theorem d113_29 : decode (am_bytes 113) 29 = .ok (.aload_n 0, 1) := by decide +kernel
theorem d113_30 : decode (am_bytes 113) 30 = .ok (.getfield 18, 3) := by decide +kernel
theorem d113_33 : decode (am_bytes 113) 33 = .ok (.iload_n 1, 1) := by decide +kernel
theorem d113_34 : decode (am_bytes 113) 34 = .ok (.iaload, 1) := by decide +kernel
theorem d113_35 : decode (am_bytes 113) 35 = .ok (.iastore, 1) := by decide +kernel
theorem d113_36 : decode (am_bytes 113) 36 = .ok (.aload_n 0, 1) := by decide +kernel
theorem d113_37 : decode (am_bytes 113) 37 = .ok (.getfield 21, 3) := by decide +kernel
theorem d113_40 : decode (am_bytes 113) 40 = .ok (.iload_n 2, 1) := by decide +kernel
theorem d113_41 : decode (am_bytes 113) 41 = .ok (.aload_n 0, 1) := by decide +kernel
theorem d113_42 : decode (am_bytes 113) 42 = .ok (.getfield 21, 3) := by decide +kernel
theorem d113_45 : decode (am_bytes 113) 45 = .ok (.iload_n 1, 1) := by decide +kernel
theorem d113_46 : decode (am_bytes 113) 46 = .ok (.iaload, 1) := by decide +kernel
theorem d113_47 : decode (am_bytes 113) 47 = .ok (.iastore, 1) := by decide +kernel
theorem d113_48 : decode (am_bytes 113) 48 = .ok (.aload_n 0, 1) := by decide +kernel
theorem d113_49 : decode (am_bytes 113) 49 = .ok (.getfield 24, 3) := by decide +kernel
theorem d113_52 : decode (am_bytes 113) 52 = .ok (.iload_n 2, 1) := by decide +kernel
theorem d113_53 : decode (am_bytes 113) 53 = .ok (.aload_n 0, 1) := by decide +kernel
theorem d113_54 : decode (am_bytes 113) 54 = .ok (.getfield 24, 3) := by decide +kernel
theorem d113_57 : decode (am_bytes 113) 57 = .ok (.iload_n 1, 1) := by decide +kernel
theorem d113_58 : decode (am_bytes 113) 58 = .ok (.iaload, 1) := by decide +kernel
theorem d113_59 : decode (am_bytes 113) 59 = .ok (.iastore, 1) := by decide +kernel
theorem d113_60 : decode (am_bytes 113) 60 = .ok (.return_, 1) := by decide +kernel
theorem d114_0 : decode (am_bytes 114) 0 = .ok (.aload_n 3, 1) := by decide +kernel
theorem d114_1 : decode (am_bytes 114) 1 = .ok (.iconst 0, 1) := by decide +kernel
theorem d114_2 : decode (am_bytes 114) 2 = .ok (.aload_n 0, 1) := by decide +kernel
theorem d114_3 : decode (am_bytes 114) 3 = .ok (.iload_n 1, 1) := by decide +kernel
theorem d114_4 : decode (am_bytes 114) 4 = .ok (.iload_n 2, 1) := by decide +kernel
theorem d114_5 : decode (am_bytes 114) 5 = .ok (.invokevirtual 7, 3) := by decide +kernel
theorem d114_8 : decode (am_bytes 114) 8 = .ok (.i2l, 1) := by decide +kernel
theorem d114_9 : decode (am_bytes 114) 9 = .ok (.lastore, 1) := by decide +kernel
theorem d114_10 : decode (am_bytes 114) 10 = .ok (.goto 15, 3) := by decide +kernel
theorem d114_15 : decode (am_bytes 114) 15 = .ok (.iconst 1, 1) := by decide +kernel
theorem d114_16 : decode (am_bytes 114) 16 = .ok (.ireturn, 1) := by decide +kernel
theorem d114_19 : decode (am_bytes 114) 19 = .ok (.iconst 2, 1) := by decide +kernel
theorem d114_20 : decode (am_bytes 114) 20 = .ok (.ireturn, 1) := by decide +kernel
theorem d114_23 : decode (am_bytes 114) 23 = .ok (.iconst 3, 1) := by decide +kernel
theorem d114_24 : decode (am_bytes 114) 24 = .ok (.ireturn, 1) := by decide +kernel
theorem d114_25 : decode (am_bytes 114) 25 = .ok (.iconst 0, 1) := by decide +kernel
theorem d114_26 : decode (am_bytes 114) 26 = .ok (.ireturn, 1) := by decide +kernel
theorem d115_0 : decode (am_bytes 115) 0 = .ok (.aload_n 0, 1) := by decide +kernel
theorem d115_1 : decode (am_bytes 115) 1 = .ok (.iload_n 1, 1) := by decide +kernel
theorem d115_2 : decode (am_bytes 115) 2 = .ok (.invokevirtual 19, 3) := by decide +kernel
theorem d115_5 : decode (am_bytes 115) 5 = .ok (.goto 9, 3) := by decide +kernel
theorem d115_8 : decode (am_bytes 115) 8 = .ok (.astore_n 2, 1) := by decide +kernel
theorem d115_9 : decode (am_bytes 115) 9 = .ok (.iconst 1, 1) := by decide +kernel
theorem d115_10 : decode (am_bytes 115) 10 = .ok (.ireturn, 1) := by decide +kernel
theorem d115_11 : decode (am_bytes 115) 11 = .ok (.astore_n 2, 1) := by decide +kernel
theorem d115_12 : decode (am_bytes 115) 12 = .ok (.iconst 2, 1) := by decide +kernel
theorem d115_13 : decode (am_bytes 115) 13 = .ok (.ireturn, 1) := by decide +kernel
theorem d115_14 : decode (am_bytes 115) 14 = .ok (.iconst 0, 1) := by decide +kernel
theorem d115_15 : decode (am_bytes 115) 15 = .ok (.ireturn, 1) := by decide +kernel
theorem d116_0 : decode (am_bytes 116) 0 = .ok (.aload 6, 2) := by decide +kernel
theorem d116_2 : decode (am_bytes 116) 2 = .ok (.iconst 0, 1) := by decide +kernel
theorem d116_3 : decode (am_bytes 116) 3 = .ok (.aload_n 0, 1) := by decide +kernel
theorem d116_4 : decode (am_bytes 116) 4 = .ok (.iload_n 1, 1) := by decide +kernel
theorem d116_5 : decode (am_bytes 116) 5 = .ok (.iload_n 2, 1) := by decide +kernel
theorem d116_6 : decode (am_bytes 116) 6 = .ok (.iload_n 3, 1) := by decide +kernel
theorem d116_7 : decode (am_bytes 116) 7 = .ok (.iload 4, 2) := by decide +kernel
theorem d116_9 : decode (am_bytes 116) 9 = .ok (.iload 5, 2) := by decide +kernel
theorem d116_11 : decode (am_bytes 116) 11 = .ok (.invokevirtual 23, 3) := by decide +kernel
theorem d116_14 : decode (am_bytes 116) 14 = .ok (.i2l, 1) := by decide +kernel
theorem d116_15 : decode (am_bytes 116) 15 = .ok (.lastore, 1) := by decide +kernel
theorem d116_16 : decode (am_bytes 116) 16 = .ok (.goto 19, 3) := by decide +kernel
theorem d116_21 : decode (am_bytes 116) 21 = .ok (.iconst 1, 1) := by decide +kernel
theorem d116_22 : decode (am_bytes 116) 22 = .ok (.ireturn, 1) := by decide +kernel
theorem d116_25 : decode (am_bytes 116) 25 = .ok (.iconst 2, 1) := by decide +kernel
theorem d116_26 : decode (am_bytes 116) 26 = .ok (.ireturn, 1) := by decide +kernel
theorem d116_29 : decode (am_bytes 116) 29 = .ok (.iconst 3, 1) := by decide +kernel
theorem d116_30 : decode (am_bytes 116) 30 = .ok (.ireturn, 1) := by decide +kernel
theorem d116_33 : decode (am_bytes 116) 33 = .ok (.iconst 4, 1) := by decide +kernel
theorem d116_34 : decode (am_bytes 116) 34 = .ok (.ireturn, 1) := by decide +kernel
theorem d116_35 : decode (am_bytes 116) 35 = .ok (.iconst 0, 1) := by decide +kernel
theorem d116_36 : decode (am_bytes 116) 36 = .ok (.ireturn, 1) := by decide +kernel
theorem d117_0 : decode (am_bytes 117) 0 = .ok (.aload 6, 2) := by decide +kernel
theorem d117_2 : decode (am_bytes 117) 2 = .ok (.iconst 0, 1) := by decide +kernel
theorem d117_3 : decode (am_bytes 117) 3 = .ok (.aload_n 0, 1) := by decide +kernel
theorem d117_4 : decode (am_bytes 117) 4 = .ok (.iload_n 1, 1) := by decide +kernel
theorem d117_5 : decode (am_bytes 117) 5 = .ok (.iload_n 2, 1) := by decide +kernel
theorem d117_6 : decode (am_bytes 117) 6 = .ok (.iload_n 3, 1) := by decide +kernel
theorem d117_7 : decode (am_bytes 117) 7 = .ok (.iload 4, 2) := by decide +kernel
theorem d117_9 : decode (am_bytes 117) 9 = .ok (.iload 5, 2) := by decide +kernel
theorem d117_11 : decode (am_bytes 117) 11 = .ok (.invokevirtual 29, 3) := by decide +kernel
theorem d117_14 : decode (am_bytes 117) 14 = .ok (.i2l, 1) := by decide +kernel
theorem d117_15 : decode (am_bytes 117) 15 = .ok (.lastore, 1) := by decide +kernel
theorem d117_16 : decode (am_bytes 117) 16 = .ok (.goto 11, 3) := by decide +kernel
theorem d117_21 : decode (am_bytes 117) 21 = .ok (.iconst 1, 1) := by decide +kernel
end
section
/-! printed: each instruction -/
theorem d117_22 : decode (am_bytes 117) 22 = .ok (.ireturn, 1) := by decide +kernel
theorem d117_25 : decode (am_bytes 117) 25 = .ok (.iconst 2, 1) := by decide +kernel
theorem d117_26 : decode (am_bytes 117) 26 = .ok (.ireturn, 1) := by decide +kernel
theorem d117_27 : decode (am_bytes 117) 27 = .ok (.iconst 0, 1) := by decide +kernel
theorem d117_28 : decode (am_bytes 117) 28 = .ok (.ireturn, 1) := by decide +kernel
theorem d118_0 : decode (am_bytes 118) 0 = .ok (.aload 5, 2) := by decide +kernel
theorem d118_2 : decode (am_bytes 118) 2 = .ok (.iconst 0, 1) := by decide +kernel
theorem d118_3 : decode (am_bytes 118) 3 = .ok (.aload_n 0, 1) := by decide +kernel
theorem d118_4 : decode (am_bytes 118) 4 = .ok (.iload_n 1, 1) := by decide +kernel
theorem d118_5 : decode (am_bytes 118) 5 = .ok (.iload_n 2, 1) := by decide +kernel
theorem d118_6 : decode (am_bytes 118) 6 = .ok (.iload_n 3, 1) := by decide +kernel
theorem d118_7 : decode (am_bytes 118) 7 = .ok (.iload 4, 2) := by decide +kernel
theorem d118_9 : decode (am_bytes 118) 9 = .ok (.invokevirtual 32, 3) := by decide +kernel
theorem d118_12 : decode (am_bytes 118) 12 = .ok (.i2l, 1) := by decide +kernel
theorem d118_13 : decode (am_bytes 118) 13 = .ok (.lastore, 1) := by decide +kernel
theorem d118_14 : decode (am_bytes 118) 14 = .ok (.goto 7, 3) := by decide +kernel
theorem d118_19 : decode (am_bytes 118) 19 = .ok (.iconst 1, 1) := by decide +kernel
theorem d118_20 : decode (am_bytes 118) 20 = .ok (.ireturn, 1) := by decide +kernel
theorem d118_21 : decode (am_bytes 118) 21 = .ok (.iconst 0, 1) := by decide +kernel
theorem d118_22 : decode (am_bytes 118) 22 = .ok (.ireturn, 1) := by decide +kernel
theorem d119_0 : decode (am_bytes 119) 0 = .ok (.aload 4, 2) := by decide +kernel
theorem d119_2 : decode (am_bytes 119) 2 = .ok (.iconst 0, 1) := by decide +kernel
theorem d119_3 : decode (am_bytes 119) 3 = .ok (.aload_n 0, 1) := by decide +kernel
theorem d119_4 : decode (am_bytes 119) 4 = .ok (.iload_n 1, 1) := by decide +kernel
theorem d119_5 : decode (am_bytes 119) 5 = .ok (.iload_n 2, 1) := by decide +kernel
theorem d119_6 : decode (am_bytes 119) 6 = .ok (.iload_n 3, 1) := by decide +kernel
theorem d119_7 : decode (am_bytes 119) 7 = .ok (.invokevirtual 36, 3) := by decide +kernel
theorem d119_10 : decode (am_bytes 119) 10 = .ok (.i2l, 1) := by decide +kernel
theorem d119_11 : decode (am_bytes 119) 11 = .ok (.lastore, 1) := by decide +kernel
theorem d119_12 : decode (am_bytes 119) 12 = .ok (.goto 11, 3) := by decide +kernel
theorem d119_17 : decode (am_bytes 119) 17 = .ok (.iconst 1, 1) := by decide +kernel
theorem d119_18 : decode (am_bytes 119) 18 = .ok (.ireturn, 1) := by decide +kernel
theorem d119_21 : decode (am_bytes 119) 21 = .ok (.iconst 2, 1) := by decide +kernel
theorem d119_22 : decode (am_bytes 119) 22 = .ok (.ireturn, 1) := by decide +kernel
theorem d119_23 : decode (am_bytes 119) 23 = .ok (.iconst 0, 1) := by decide +kernel
theorem d119_24 : decode (am_bytes 119) 24 = .ok (.ireturn, 1) := by decide +kernel
theorem d120_0 : decode (am_bytes 120) 0 = .ok (.aload_n 3, 1) := by decide +kernel
theorem d120_1 : decode (am_bytes 120) 1 = .ok (.iconst 0, 1) := by decide +kernel
theorem d120_2 : decode (am_bytes 120) 2 = .ok (.aload_n 0, 1) := by decide +kernel
theorem d120_3 : decode (am_bytes 120) 3 = .ok (.iload_n 1, 1) := by decide +kernel
theorem d120_4 : decode (am_bytes 120) 4 = .ok (.iload_n 2, 1) := by decide +kernel
theorem d120_5 : decode (am_bytes 120) 5 = .ok (.invokevirtual 40, 3) := by decide +kernel
theorem d120_8 : decode (am_bytes 120) 8 = .ok (.i2l, 1) := by decide +kernel
theorem d120_9 : decode (am_bytes 120) 9 = .ok (.lastore, 1) := by decide +kernel
theorem d120_10 : decode (am_bytes 120) 10 = .ok (.goto 7, 3) := by decide +kernel
theorem d120_15 : decode (am_bytes 120) 15 = .ok (.iconst 1, 1) := by decide +kernel
theorem d120_16 : decode (am_bytes 120) 16 = .ok (.ireturn, 1) := by decide +kernel
theorem d120_17 : decode (am_bytes 120) 17 = .ok (.iconst 0, 1) := by decide +kernel
theorem d120_18 : decode (am_bytes 120) 18 = .ok (.ireturn, 1) := by decide +kernel
theorem d121_0 : decode (am_bytes 121) 0 = .ok (.aload_n 3, 1) := by decide +kernel
theorem d121_1 : decode (am_bytes 121) 1 = .ok (.iconst 0, 1) := by decide +kernel
theorem d121_2 : decode (am_bytes 121) 2 = .ok (.aload_n 0, 1) := by decide +kernel
theorem d121_3 : decode (am_bytes 121) 3 = .ok (.iload_n 1, 1) := by decide +kernel
theorem d121_4 : decode (am_bytes 121) 4 = .ok (.iload_n 2, 1) := by decide +kernel
theorem d121_5 : decode (am_bytes 121) 5 = .ok (.invokevirtual 43, 3) := by decide +kernel
theorem d121_8 : decode (am_bytes 121) 8 = .ok (.i2l, 1) := by decide +kernel
theorem d121_9 : decode (am_bytes 121) 9 = .ok (.lastore, 1) := by decide +kernel
theorem d121_10 : decode (am_bytes 121) 10 = .ok (.goto 19, 3) := by decide +kernel
theorem d121_15 : decode (am_bytes 121) 15 = .ok (.iconst 1, 1) := by decide +kernel
theorem d121_16 : decode (am_bytes 121) 16 = .ok (.ireturn, 1) := by decide +kernel
theorem d121_19 : decode (am_bytes 121) 19 = .ok (.iconst 2, 1) := by decide +kernel
theorem d121_20 : decode (am_bytes 121) 20 = .ok (.ireturn, 1) := by decide +kernel
theorem d121_23 : decode (am_bytes 121) 23 = .ok (.iconst 3, 1) := by decide +kernel
theorem d121_24 : decode (am_bytes 121) 24 = .ok (.ireturn, 1) := by decide +kernel
theorem d121_27 : decode (am_bytes 121) 27 = .ok (.iconst 4, 1) := by decide +kernel
theorem d121_28 : decode (am_bytes 121) 28 = .ok (.ireturn, 1) := by decide +kernel
theorem d121_29 : decode (am_bytes 121) 29 = .ok (.iconst 0, 1) := by decide +kernel
theorem d121_30 : decode (am_bytes 121) 30 = .ok (.ireturn, 1) := by decide +kernel
theorem d122_0 : decode (am_bytes 122) 0 = .ok (.aload_n 2, 1) := by decide +kernel
theorem d122_1 : decode (am_bytes 122) 1 = .ok (.iconst 0, 1) := by decide +kernel
theorem d122_2 : decode (am_bytes 122) 2 = .ok (.aload_n 0, 1) := by decide +kernel
theorem d122_3 : decode (am_bytes 122) 3 = .ok (.iload_n 1, 1) := by decide +kernel
theorem d122_4 : decode (am_bytes 122) 4 = .ok (.invokevirtual 46, 3) := by decide +kernel
theorem d122_7 : decode (am_bytes 122) 7 = .ok (.i2l, 1) := by decide +kernel
theorem d122_8 : decode (am_bytes 122) 8 = .ok (.lastore, 1) := by decide +kernel
theorem d122_9 : decode (am_bytes 122) 9 = .ok (.goto 6, 3) := by decide +kernel
theorem d122_12 : decode (am_bytes 122) 12 = .ok (.astore_n 3, 1) := by decide +kernel
theorem d122_13 : decode (am_bytes 122) 13 = .ok (.iconst 1, 1) := by decide +kernel
theorem d122_14 : decode (am_bytes 122) 14 = .ok (.ireturn, 1) := by decide +kernel
theorem d122_15 : decode (am_bytes 122) 15 = .ok (.iconst 0, 1) := by decide +kernel
theorem d122_16 : decode (am_bytes 122) 16 = .ok (.ireturn, 1) := by decide +kernel
theorem d123_0 : decode (am_bytes 123) 0 = .ok (.aload 4, 2) := by decide +kernel
theorem d123_2 : decode (am_bytes 123) 2 = .ok (.iconst 0, 1) := by decide +kernel
theorem d123_3 : decode (am_bytes 123) 3 = .ok (.aload_n 0, 1) := by decide +kernel
theorem d123_4 : decode (am_bytes 123) 4 = .ok (.iload_n 1, 1) := by decide +kernel
theorem d123_5 : decode (am_bytes 123) 5 = .ok (.iload_n 2, 1) := by decide +kernel
theorem d123_6 : decode (am_bytes 123) 6 = .ok (.iload_n 3, 1) := by decide +kernel
theorem d123_7 : decode (am_bytes 123) 7 = .ok (.invokevirtual 50, 3) := by decide +kernel
theorem d123_10 : decode (am_bytes 123) 10 = .ok (.i2l, 1) := by decide +kernel
theorem d123_11 : decode (am_bytes 123) 11 = .ok (.lastore, 1) := by decide +kernel
theorem d123_12 : decode (am_bytes 123) 12 = .ok (.goto 11, 3) := by decide +kernel
theorem d123_17 : decode (am_bytes 123) 17 = .ok (.iconst 1, 1) := by decide +kernel
theorem d123_18 : decode (am_bytes 123) 18 = .ok (.ireturn, 1) := by decide +kernel
theorem d123_21 : decode (am_bytes 123) 21 = .ok (.iconst 2, 1) := by decide +kernel
theorem d123_22 : decode (am_bytes 123) 22 = .ok (.ireturn, 1) := by decide +kernel
theorem d123_23 : decode (am_bytes 123) 23 = .ok (.iconst 0, 1) := by decide +kernel
theorem d123_24 : decode (am_bytes 123) 24 = .ok (.ireturn, 1) := by decide +kernel
theorem d124_0 : decode (am_bytes 124) 0 = .ok (.aload_n 2, 1) := by decide +kernel
theorem d124_1 : decode (am_bytes 124) 1 = .ok (.iconst 0, 1) := by decide +kernel
theorem d124_2 : decode (am_bytes 124) 2 = .ok (.aload_n 0, 1) := by decide +kernel
theorem d124_3 : decode (am_bytes 124) 3 = .ok (.iload_n 1, 1) := by decide +kernel
theorem d124_4 : decode (am_bytes 124) 4 = .ok (.invokevirtual 53, 3) := by decide +kernel
theorem d124_7 : decode (am_bytes 124) 7 = .ok (.i2l, 1) := by decide +kernel
theorem d124_8 : decode (am_bytes 124) 8 = .ok (.lastore, 1) := by decide +kernel
theorem d124_9 : decode (am_bytes 124) 9 = .ok (.goto 9, 3) := by decide +kernel
theorem d124_12 : decode (am_bytes 124) 12 = .ok (.astore_n 3, 1) := by decide +kernel
theorem d124_13 : decode (am_bytes 124) 13 = .ok (.iconst 1, 1) := by decide +kernel
theorem d124_14 : decode (am_bytes 124) 14 = .ok (.ireturn, 1) := by decide +kernel
theorem d124_15 : decode (am_bytes 124) 15 = .ok (.astore_n 3, 1) := by decide +kernel
theorem d124_16 : decode (am_bytes 124) 16 = .ok (.iconst 2, 1) := by decide +kernel
theorem d124_17 : decode (am_bytes 124) 17 = .ok (.ireturn, 1) := by decide +kernel
theorem d124_18 : decode (am_bytes 124) 18 = .ok (.iconst 0, 1) := by decide +kernel
theorem d124_19 : decode (am_bytes 124) 19 = .ok (.ireturn, 1) := by decide +kernel
theorem d125_0 : decode (am_bytes 125) 0 = .ok (.aload_n 3, 1) := by decide +kernel
theorem d125_1 : decode (am_bytes 125) 1 = .ok (.iconst 0, 1) := by decide +kernel
theorem d125_2 : decode (am_bytes 125) 2 = .ok (.aload_n 0, 1) := by decide +kernel
theorem d125_3 : decode (am_bytes 125) 3 = .ok (.iload_n 1, 1) := by decide +kernel
theorem d125_4 : decode (am_bytes 125) 4 = .ok (.iload_n 2, 1) := by decide +kernel
theorem d125_5 : decode (am_bytes 125) 5 = .ok (.invokevirtual 56, 3) := by decide +kernel
theorem d125_8 : decode (am_bytes 125) 8 = .ok (.i2l, 1) := by decide +kernel
theorem d125_9 : decode (am_bytes 125) 9 = .ok (.lastore, 1) := by decide +kernel
theorem d125_10 : decode (am_bytes 125) 10 = .ok (.goto 11, 3) := by decide +kernel
theorem d125_15 : decode (am_bytes 125) 15 = .ok (.iconst 1, 1) := by decide +kernel
theorem d125_16 : decode (am_bytes 125) 16 = .ok (.ireturn, 1) := by decide +kernel
theorem d125_19 : decode (am_bytes 125) 19 = .ok (.iconst 2, 1) := by decide +kernel
theorem d125_20 : decode (am_bytes 125) 20 = .ok (.ireturn, 1) := by decide +kernel
theorem d125_21 : decode (am_bytes 125) 21 = .ok (.iconst 0, 1) := by decide +kernel
theorem d125_22 : decode (am_bytes 125) 22 = .ok (.ireturn, 1) := by decide +kernel
theorem d126_0 : decode (am_bytes 126) 0 = .ok (.aload_n 2, 1) := by decide +kernel
theorem d126_1 : decode (am_bytes 126) 1 = .ok (.iconst 0, 1) := by decide +kernel
theorem d126_2 : decode (am_bytes 126) 2 = .ok (.aload_n 0, 1) := by decide +kernel
theorem d126_3 : decode (am_bytes 126) 3 = .ok (.iload_n 1, 1) := by decide +kernel
theorem d126_4 : decode (am_bytes 126) 4 = .ok (.invokevirtual 59, 3) := by decide +kernel
theorem d126_7 : decode (am_bytes 126) 7 = .ok (.i2l, 1) := by decide +kernel
theorem d126_8 : decode (am_bytes 126) 8 = .ok (.lastore, 1) := by decide +kernel
theorem d126_9 : decode (am_bytes 126) 9 = .ok (.goto 6, 3) := by decide +kernel
theorem d126_12 : decode (am_bytes 126) 12 = .ok (.astore_n 3, 1) := by decide +kernel
theorem d126_13 : decode (am_bytes 126) 13 = .ok (.iconst 1, 1) := by decide +kernel
theorem d126_14 : decode (am_bytes 126) 14 = .ok (.ireturn, 1) := by decide +kernel
theorem d126_15 : decode (am_bytes 126) 15 = .ok (.iconst 0, 1) := by decide +kernel
theorem d126_16 : decode (am_bytes 126) 16 = .ok (.ireturn, 1) := by decide +kernel
theorem d127_0 : decode (am_bytes 127) 0 = .ok (.aload_n 3, 1) := by decide +kernel
theorem d127_1 : decode (am_bytes 127) 1 = .ok (.iconst 0, 1) := by decide +kernel
theorem d127_2 : decode (am_bytes 127) 2 = .ok (.aload_n 0, 1) := by decide +kernel
theorem d127_3 : decode (am_bytes 127) 3 = .ok (.iload_n 1, 1) := by decide +kernel
theorem d127_4 : decode (am_bytes 127) 4 = .ok (.iload_n 2, 1) := by decide +kernel
theorem d127_5 : decode (am_bytes 127) 5 = .ok (.invokevirtual 62, 3) := by decide +kernel
theorem d127_8 : decode (am_bytes 127) 8 = .ok (.i2l, 1) := by decide +kernel
theorem d127_9 : decode (am_bytes 127) 9 = .ok (.lastore, 1) := by decide +kernel
theorem d127_10 : decode (am_bytes 127) 10 = .ok (.goto 11, 3) := by decide +kernel
theorem d127_15 : decode (am_bytes 127) 15 = .ok (.iconst 1, 1) := by decide +kernel
theorem d127_16 : decode (am_bytes 127) 16 = .ok (.ireturn, 1) := by decide +kernel
theorem d127_19 : decode (am_bytes 127) 19 = .ok (.iconst 2, 1) := by decide +kernel
theorem d127_20 : decode (am_bytes 127) 20 = .ok (.ireturn, 1) := by decide +kernel
theorem d127_21 : decode (am_bytes 127) 21 = .ok (.iconst 0, 1) := by decide +kernel
theorem d127_22 : decode (am_bytes 127) 22 = .ok (.ireturn, 1) := by decide +kernel
theorem d128_0 : decode (am_bytes 128) 0 = .ok (.new 8, 3) := by decide +kernel
theorem d128_3 : decode (am_bytes 128) 3 = .ok (.dup, 1) := by decide +kernel
theorem d128_7 : decode (am_bytes 128) 7 = .ok (.astore_n 1, 1) := by decide +kernel
theorem d128_8 : decode (am_bytes 128) 8 = .ok (.new 66, 3) := by decide +kernel
theorem d128_11 : decode (am_bytes 128) 11 = .ok (.dup, 1) := by decide +kernel
theorem d128_15 : decode (am_bytes 128) 15 = .ok (.astore_n 2, 1) := by decide +kernel
theorem d128_16 : decode (am_bytes 128) 16 = .ok (.iconst 1, 1) := by decide +kernel
theorem d128_17 : decode (am_bytes 128) 17 = .ok (.newarray .long, 2) := by decide +kernel
theorem d128_19 : decode (am_bytes 128) 19 = .ok (.astore_n 3, 1) := by decide +kernel
theorem d128_20 : decode (am_bytes 128) 20 = .ok (.iconst 0, 1) := by decide +kernel
theorem d128_21 : decode (am_bytes 128) 21 = .ok (.istore 4, 2) := by decide +kernel
theorem d128_23 : decode (am_bytes 128) 23 = .ok (.iload 4, 2) := by decide +kernel
theorem d128_25 : decode (am_bytes 128) 25 = .ok (.aload_n 0, 1) := by decide +kernel
theorem d128_26 : decode (am_bytes 128) 26 = .ok (.arraylength, 1) := by decide +kernel
theorem d128_27 : decode (am_bytes 128) 27 = .ok (.bipush 6, 2) := by decide +kernel
theorem d128_29 : decode (am_bytes 128) 29 = .ok (.isub, 1) := by decide +kernel
theorem d128_30 : decode (am_bytes 128) 30 = .ok (.if_icmp .gt 1107, 3) := by decide +kernel
theorem d128_33 : decode (am_bytes 128) 33 = .ok (.aload_n 0, 1) := by decide +kernel
theorem d128_34 : decode (am_bytes 128) 34 = .ok (.iload 4, 2) := by decide +kernel
theorem d128_36 : decode (am_bytes 128) 36 = .ok (.iaload, 1) := by decide +kernel
theorem d128_37 : decode (am_bytes 128) 37 = .ok (.bipush 15, 2) := by decide +kernel
theorem d128_39 : decode (am_bytes 128) 39 = .ok (.iand, 1) := by decide +kernel
theorem d128_40 : decode (am_bytes 128) 40 = .ok (.tableswitch 1091 0 14 #[76, 144, 180, 284, 388, 480, 560, 628, 696, 752, 832, 888, 899, 967, 1023], 76) := by decide +kernel
theorem d128_116 : decode (am_bytes 128) 116 = .ok (.aload_n 1, 1) := by decide +kernel
theorem d128_117 : decode (am_bytes 128) 117 = .ok (.aload_n 0, 1) := by decide +kernel
theorem d128_118 : decode (am_bytes 128) 118 = .ok (.iload 4, 2) := by decide +kernel
theorem d128_120 : decode (am_bytes 128) 120 = .ok (.iconst 1, 1) := by decide +kernel
theorem d128_121 : decode (am_bytes 128) 121 = .ok (.iadd, 1) := by decide +kernel
theorem d128_122 : decode (am_bytes 128) 122 = .ok (.iaload, 1) := by decide +kernel
theorem d128_123 : decode (am_bytes 128) 123 = .ok (.aload_n 0, 1) := by decide +kernel
theorem d128_124 : decode (am_bytes 128) 124 = .ok (.iload 4, 2) := by decide +kernel
theorem d128_126 : decode (am_bytes 128) 126 = .ok (.iconst 2, 1) := by decide +kernel
theorem d128_127 : decode (am_bytes 128) 127 = .ok (.iadd, 1) := by decide +kernel
theorem d128_128 : decode (am_bytes 128) 128 = .ok (.iaload, 1) := by decide +kernel
theorem d128_129 : decode (am_bytes 128) 129 = .ok (.aload_n 3, 1) := by decide +kernel
theorem d128_130 : decode (am_bytes 128) 130 = .ok (.invokestatic 69, 3) := by decide +kernel
theorem d128_133 : decode (am_bytes 128) 133 = .ok (.istore 5, 2) := by decide +kernel
theorem d128_135 : decode (am_bytes 128) 135 = .ok (.aload_n 2, 1) := by decide +kernel
theorem d128_136 : decode (am_bytes 128) 136 = .ok (.aload_n 0, 1) := by decide +kernel
theorem d128_137 : decode (am_bytes 128) 137 = .ok (.iload 4, 2) := by decide +kernel
theorem d128_139 : decode (am_bytes 128) 139 = .ok (.iconst 1, 1) := by decide +kernel
theorem d128_140 : decode (am_bytes 128) 140 = .ok (.iadd, 1) := by decide +kernel
theorem d128_141 : decode (am_bytes 128) 141 = .ok (.iaload, 1) := by decide +kernel
theorem d128_142 : decode (am_bytes 128) 142 = .ok (.aload_n 0, 1) := by decide +kernel
theorem d128_143 : decode (am_bytes 128) 143 = .ok (.iload 4, 2) := by decide +kernel
theorem d128_145 : decode (am_bytes 128) 145 = .ok (.iconst 2, 1) := by decide +kernel
theorem d128_146 : decode (am_bytes 128) 146 = .ok (.iadd, 1) := by decide +kernel
theorem d128_147 : decode (am_bytes 128) 147 = .ok (.iaload, 1) := by decide +kernel
theorem d128_148 : decode (am_bytes 128) 148 = .ok (.invokevirtual 74, 3) := by decide +kernel
theorem d128_151 : decode (am_bytes 128) 151 = .ok (.istore 6, 2) := by decide +kernel
theorem d128_153 : decode (am_bytes 128) 153 = .ok (.aload_n 2, 1) := by decide +kernel
theorem d128_154 : decode (am_bytes 128) 154 = .ok (.invokevirtual 75, 3) := by decide +kernel
theorem d128_157 : decode (am_bytes 128) 157 = .ok (.iload 5, 2) := by decide +kernel
theorem d128_159 : decode (am_bytes 128) 159 = .ok (.if_icmp .eq 5, 3) := by decide +kernel
theorem d128_162 : decode (am_bytes 128) 162 = .ok (.iconst 0, 1) := by decide +kernel
theorem d128_163 : decode (am_bytes 128) 163 = .ok (.ireturn, 1) := by decide +kernel
theorem d128_164 : decode (am_bytes 128) 164 = .ok (.iload 5, 2) := by decide +kernel
theorem d128_166 : decode (am_bytes 128) 166 = .ok (.ifCond .ne 15, 3) := by decide +kernel
theorem d128_169 : decode (am_bytes 128) 169 = .ok (.aload_n 3, 1) := by decide +kernel
theorem d128_170 : decode (am_bytes 128) 170 = .ok (.iconst 0, 1) := by decide +kernel
theorem d128_171 : decode (am_bytes 128) 171 = .ok (.laload, 1) := by decide +kernel
theorem d128_172 : decode (am_bytes 128) 172 = .ok (.iload 6, 2) := by decide +kernel
theorem d128_174 : decode (am_bytes 128) 174 = .ok (.i2l, 1) := by decide +kernel
theorem d128_175 : decode (am_bytes 128) 175 = .ok (.lcmp, 1) := by decide +kernel
theorem d128_176 : decode (am_bytes 128) 176 = .ok (.ifCond .eq 5, 3) := by decide +kernel
theorem d128_179 : decode (am_bytes 128) 179 = .ok (.iconst 0, 1) := by decide +kernel
theorem d128_180 : decode (am_bytes 128) 180 = .ok (.ireturn, 1) := by decide +kernel
theorem d128_181 : decode (am_bytes 128) 181 = .ok (.goto 950, 3) := by decide +kernel
theorem d128_184 : decode (am_bytes 128) 184 = .ok (.aload_n 1, 1) := by decide +kernel
theorem d128_185 : decode (am_bytes 128) 185 = .ok (.aload_n 0, 1) := by decide +kernel
theorem d128_186 : decode (am_bytes 128) 186 = .ok (.iload 4, 2) := by decide +kernel
theorem d128_188 : decode (am_bytes 128) 188 = .ok (.iconst 1, 1) := by decide +kernel
theorem d128_189 : decode (am_bytes 128) 189 = .ok (.iadd, 1) := by decide +kernel
theorem d128_190 : decode (am_bytes 128) 190 = .ok (.iaload, 1) := by decide +kernel
theorem d128_191 : decode (am_bytes 128) 191 = .ok (.invokestatic 79, 3) := by decide +kernel
theorem d128_194 : decode (am_bytes 128) 194 = .ok (.istore 5, 2) := by decide +kernel
theorem d128_196 : decode (am_bytes 128) 196 = .ok (.aload_n 2, 1) := by decide +kernel
theorem d128_197 : decode (am_bytes 128) 197 = .ok (.aload_n 0, 1) := by decide +kernel
theorem d128_198 : decode (am_bytes 128) 198 = .ok (.iload 4, 2) := by decide +kernel
theorem d128_200 : decode (am_bytes 128) 200 = .ok (.iconst 1, 1) := by decide +kernel
theorem d128_201 : decode (am_bytes 128) 201 = .ok (.iadd, 1) := by decide +kernel
theorem d128_202 : decode (am_bytes 128) 202 = .ok (.iaload, 1) := by decide +kernel
theorem d128_203 : decode (am_bytes 128) 203 = .ok (.invokevirtual 82, 3) := by decide +kernel
theorem d128_206 : decode (am_bytes 128) 206 = .ok (.aload_n 2, 1) := by decide +kernel
theorem d128_207 : decode (am_bytes 128) 207 = .ok (.invokevirtual 75, 3) := by decide +kernel
theorem d128_210 : decode (am_bytes 128) 210 = .ok (.iload 5, 2) := by decide +kernel
theorem d128_212 : decode (am_bytes 128) 212 = .ok (.if_icmp .eq 5, 3) := by decide +kernel
theorem d128_215 : decode (am_bytes 128) 215 = .ok (.iconst 0, 1) := by decide +kernel
theorem d128_216 : decode (am_bytes 128) 216 = .ok (.ireturn, 1) := by decide +kernel
theorem d128_217 : decode (am_bytes 128) 217 = .ok (.goto 914, 3) := by decide +kernel
theorem d128_220 : decode (am_bytes 128) 220 = .ok (.aload_n 1, 1) := by decide +kernel
theorem d128_221 : decode (am_bytes 128) 221 = .ok (.aload_n 0, 1) := by decide +kernel
theorem d128_222 : decode (am_bytes 128) 222 = .ok (.iload 4, 2) := by decide +kernel
theorem d128_224 : decode (am_bytes 128) 224 = .ok (.iconst 1, 1) := by decide +kernel
theorem d128_225 : decode (am_bytes 128) 225 = .ok (.iadd, 1) := by decide +kernel
theorem d128_226 : decode (am_bytes 128) 226 = .ok (.iaload, 1) := by decide +kernel
theorem d128_227 : decode (am_bytes 128) 227 = .ok (.aload_n 0, 1) := by decide +kernel
theorem d128_228 : decode (am_bytes 128) 228 = .ok (.iload 4, 2) := by decide +kernel
theorem d128_230 : decode (am_bytes 128) 230 = .ok (.iconst 2, 1) := by decide +kernel
theorem d128_231 : decode (am_bytes 128) 231 = .ok (.iadd, 1) := by decide +kernel
theorem d128_232 : decode (am_bytes 128) 232 = .ok (.iaload, 1) := by decide +kernel
theorem d128_233 : decode (am_bytes 128) 233 = .ok (.aload_n 0, 1) := by decide +kernel
theorem d128_234 : decode (am_bytes 128) 234 = .ok (.iload 4, 2) := by decide +kernel
theorem d128_236 : decode (am_bytes 128) 236 = .ok (.iconst 3, 1) := by decide +kernel
theorem d128_237 : decode (am_bytes 128) 237 = .ok (.iadd, 1) := by decide +kernel
theorem d128_238 : decode (am_bytes 128) 238 = .ok (.iaload, 1) := by decide +kernel
theorem d128_239 : decode (am_bytes 128) 239 = .ok (.aload_n 0, 1) := by decide +kernel
theorem d128_240 : decode (am_bytes 128) 240 = .ok (.iload 4, 2) := by decide +kernel
theorem d128_242 : decode (am_bytes 128) 242 = .ok (.iconst 4, 1) := by decide +kernel
theorem d128_243 : decode (am_bytes 128) 243 = .ok (.iadd, 1) := by decide +kernel
theorem d128_244 : decode (am_bytes 128) 244 = .ok (.iaload, 1) := by decide +kernel
theorem d128_245 : decode (am_bytes 128) 245 = .ok (.aload_n 0, 1) := by decide +kernel
theorem d128_246 : decode (am_bytes 128) 246 = .ok (.iload 4, 2) := by decide +kernel
theorem d128_248 : decode (am_bytes 128) 248 = .ok (.iconst 5, 1) := by decide +kernel
theorem d128_249 : decode (am_bytes 128) 249 = .ok (.iadd, 1) := by decide +kernel
theorem d128_250 : decode (am_bytes 128) 250 = .ok (.iaload, 1) := by decide +kernel
theorem d128_251 : decode (am_bytes 128) 251 = .ok (.aload_n 3, 1) := by decide +kernel
theorem d128_252 : decode (am_bytes 128) 252 = .ok (.invokestatic 83, 3) := by decide +kernel
theorem d128_255 : decode (am_bytes 128) 255 = .ok (.istore 5, 2) := by decide +kernel
theorem d128_257 : decode (am_bytes 128) 257 = .ok (.aload_n 2, 1) := by decide +kernel
theorem d128_258 : decode (am_bytes 128) 258 = .ok (.aload_n 0, 1) := by decide +kernel
theorem d128_259 : decode (am_bytes 128) 259 = .ok (.iload 4, 2) := by decide +kernel
theorem d128_261 : decode (am_bytes 128) 261 = .ok (.iconst 1, 1) := by decide +kernel
theorem d128_262 : decode (am_bytes 128) 262 = .ok (.iadd, 1) := by decide +kernel
theorem d128_263 : decode (am_bytes 128) 263 = .ok (.iaload, 1) := by decide +kernel
theorem d128_264 : decode (am_bytes 128) 264 = .ok (.aload_n 0, 1) := by decide +kernel
theorem d128_265 : decode (am_bytes 128) 265 = .ok (.iload 4, 2) := by decide +kernel
theorem d128_267 : decode (am_bytes 128) 267 = .ok (.iconst 2, 1) := by decide +kernel
theorem d128_268 : decode (am_bytes 128) 268 = .ok (.iadd, 1) := by decide +kernel
theorem d128_269 : decode (am_bytes 128) 269 = .ok (.iaload, 1) := by decide +kernel
theorem d128_270 : decode (am_bytes 128) 270 = .ok (.aload_n 0, 1) := by decide +kernel
theorem d128_271 : decode (am_bytes 128) 271 = .ok (.iload 4, 2) := by decide +kernel
theorem d128_273 : decode (am_bytes 128) 273 = .ok (.iconst 3, 1) := by decide +kernel
theorem d128_274 : decode (am_bytes 128) 274 = .ok (.iadd, 1) := by decide +kernel
theorem d128_275 : decode (am_bytes 128) 275 = .ok (.iaload, 1) := by decide +kernel
theorem d128_276 : decode (am_bytes 128) 276 = .ok (.aload_n 0, 1) := by decide +kernel
theorem d128_277 : decode (am_bytes 128) 277 = .ok (.iload 4, 2) := by decide +kernel
theorem d128_279 : decode (am_bytes 128) 279 = .ok (.iconst 4, 1) := by decide +kernel
theorem d128_280 : decode (am_bytes 128) 280 = .ok (.iadd, 1) := by decide +kernel
theorem d128_281 : decode (am_bytes 128) 281 = .ok (.iaload, 1) := by decide +kernel
theorem d128_282 : decode (am_bytes 128) 282 = .ok (.aload_n 0, 1) := by decide +kernel
theorem d128_283 : decode (am_bytes 128) 283 = .ok (.iload 4, 2) := by decide +kernel
theorem d128_285 : decode (am_bytes 128) 285 = .ok (.iconst 5, 1) := by decide +kernel
theorem d128_286 : decode (am_bytes 128) 286 = .ok (.iadd, 1) := by decide +kernel
theorem d128_287 : decode (am_bytes 128) 287 = .ok (.iaload, 1) := by decide +kernel
theorem d128_288 : decode (am_bytes 128) 288 = .ok (.invokevirtual 86, 3) := by decide +kernel
theorem d128_291 : decode (am_bytes 128) 291 = .ok (.istore 6, 2) := by decide +kernel
theorem d128_293 : decode (am_bytes 128) 293 = .ok (.aload_n 2, 1) := by decide +kernel
theorem d128_294 : decode (am_bytes 128) 294 = .ok (.invokevirtual 75, 3) := by decide +kernel
theorem d128_297 : decode (am_bytes 128) 297 = .ok (.iload 5, 2) := by decide +kernel
theorem d128_299 : decode (am_bytes 128) 299 = .ok (.if_icmp .eq 5, 3) := by decide +kernel
theorem d128_302 : decode (am_bytes 128) 302 = .ok (.iconst 0, 1) := by decide +kernel
theorem d128_303 : decode (am_bytes 128) 303 = .ok (.ireturn, 1) := by decide +kernel
theorem d128_304 : decode (am_bytes 128) 304 = .ok (.iload 5, 2) := by decide +kernel
theorem d128_306 : decode (am_bytes 128) 306 = .ok (.ifCond .ne 15, 3) := by decide +kernel
theorem d128_309 : decode (am_bytes 128) 309 = .ok (.aload_n 3, 1) := by decide +kernel
theorem d128_310 : decode (am_bytes 128) 310 = .ok (.iconst 0, 1) := by decide +kernel
theorem d128_311 : decode (am_bytes 128) 311 = .ok (.laload, 1) := by decide +kernel
theorem d128_312 : decode (am_bytes 128) 312 = .ok (.iload 6, 2) := by decide +kernel
theorem d128_314 : decode (am_bytes 128) 314 = .ok (.i2l, 1) := by decide +kernel
theorem d128_315 : decode (am_bytes 128) 315 = .ok (.lcmp, 1) := by decide +kernel
theorem d128_316 : decode (am_bytes 128) 316 = .ok (.ifCond .eq 5, 3) := by decide +kernel
theorem d128_319 : decode (am_bytes 128) 319 = .ok (.iconst 0, 1) := by decide +kernel
theorem d128_320 : decode (am_bytes 128) 320 = .ok (.ireturn, 1) := by decide +kernel
theorem d128_321 : decode (am_bytes 128) 321 = .ok (.goto 810, 3) := by decide +kernel
theorem d128_324 : decode (am_bytes 128) 324 = .ok (.aload_n 1, 1) := by decide +kernel
theorem d128_325 : decode (am_bytes 128) 325 = .ok (.aload_n 0, 1) := by decide +kernel
theorem d128_326 : decode (am_bytes 128) 326 = .ok (.iload 4, 2) := by decide +kernel
theorem d128_328 : decode (am_bytes 128) 328 = .ok (.iconst 1, 1) := by decide +kernel
theorem d128_329 : decode (am_bytes 128) 329 = .ok (.iadd, 1) := by decide +kernel
theorem d128_330 : decode (am_bytes 128) 330 = .ok (.iaload, 1) := by decide +kernel
theorem d128_331 : decode (am_bytes 128) 331 = .ok (.aload_n 0, 1) := by decide +kernel
theorem d128_332 : decode (am_bytes 128) 332 = .ok (.iload 4, 2) := by decide +kernel
theorem d128_334 : decode (am_bytes 128) 334 = .ok (.iconst 2, 1) := by decide +kernel
theorem d128_335 : decode (am_bytes 128) 335 = .ok (.iadd, 1) := by decide +kernel
theorem d128_336 : decode (am_bytes 128) 336 = .ok (.iaload, 1) := by decide +kernel
theorem d128_337 : decode (am_bytes 128) 337 = .ok (.aload_n 0, 1) := by decide +kernel
theorem d128_338 : decode (am_bytes 128) 338 = .ok (.iload 4, 2) := by decide +kernel
theorem d128_340 : decode (am_bytes 128) 340 = .ok (.iconst 3, 1) := by decide +kernel
theorem d128_341 : decode (am_bytes 128) 341 = .ok (.iadd, 1) := by decide +kernel
theorem d128_342 : decode (am_bytes 128) 342 = .ok (.iaload, 1) := by decide +kernel
theorem d128_343 : decode (am_bytes 128) 343 = .ok (.aload_n 0, 1) := by decide +kernel
theorem d128_344 : decode (am_bytes 128) 344 = .ok (.iload 4, 2) := by decide +kernel
theorem d128_346 : decode (am_bytes 128) 346 = .ok (.iconst 4, 1) := by decide +kernel
theorem d128_347 : decode (am_bytes 128) 347 = .ok (.iadd, 1) := by decide +kernel
theorem d128_348 : decode (am_bytes 128) 348 = .ok (.iaload, 1) := by decide +kernel
theorem d128_349 : decode (am_bytes 128) 349 = .ok (.aload_n 0, 1) := by decide +kernel
theorem d128_350 : decode (am_bytes 128) 350 = .ok (.iload 4, 2) := by decide +kernel
theorem d128_352 : decode (am_bytes 128) 352 = .ok (.iconst 5, 1) := by decide +kernel
theorem d128_353 : decode (am_bytes 128) 353 = .ok (.iadd, 1) := by decide +kernel
theorem d128_354 : decode (am_bytes 128) 354 = .ok (.iaload, 1) := by decide +kernel
theorem d128_355 : decode (am_bytes 128) 355 = .ok (.aload_n 3, 1) := by decide +kernel
theorem d128_356 : decode (am_bytes 128) 356 = .ok (.invokestatic 87, 3) := by decide +kernel
theorem d128_359 : decode (am_bytes 128) 359 = .ok (.istore 5, 2) := by decide +kernel
theorem d128_361 : decode (am_bytes 128) 361 = .ok (.aload_n 2, 1) := by decide +kernel
theorem d128_362 : decode (am_bytes 128) 362 = .ok (.aload_n 0, 1) := by decide +kernel
theorem d128_363 : decode (am_bytes 128) 363 = .ok (.iload 4, 2) := by decide +kernel
theorem d128_365 : decode (am_bytes 128) 365 = .ok (.iconst 1, 1) := by decide +kernel
theorem d128_366 : decode (am_bytes 128) 366 = .ok (.iadd, 1) := by decide +kernel
theorem d128_367 : decode (am_bytes 128) 367 = .ok (.iaload, 1) := by decide +kernel
theorem d128_368 : decode (am_bytes 128) 368 = .ok (.aload_n 0, 1) := by decide +kernel
theorem d128_369 : decode (am_bytes 128) 369 = .ok (.iload 4, 2) := by decide +kernel
theorem d128_371 : decode (am_bytes 128) 371 = .ok (.iconst 2, 1) := by decide +kernel
theorem d128_372 : decode (am_bytes 128) 372 = .ok (.iadd, 1) := by decide +kernel
theorem d128_373 : decode (am_bytes 128) 373 = .ok (.iaload, 1) := by decide +kernel
theorem d128_374 : decode (am_bytes 128) 374 = .ok (.aload_n 0, 1) := by decide +kernel
theorem d128_375 : decode (am_bytes 128) 375 = .ok (.iload 4, 2) := by decide +kernel
theorem d128_377 : decode (am_bytes 128) 377 = .ok (.iconst 3, 1) := by decide +kernel
theorem d128_378 : decode (am_bytes 128) 378 = .ok (.iadd, 1) := by decide +kernel
theorem d128_379 : decode (am_bytes 128) 379 = .ok (.iaload, 1) := by decide +kernel
theorem d128_380 : decode (am_bytes 128) 380 = .ok (.aload_n 0, 1) := by decide +kernel
theorem d128_381 : decode (am_bytes 128) 381 = .ok (.iload 4, 2) := by decide +kernel
theorem d128_383 : decode (am_bytes 128) 383 = .ok (.iconst 4, 1) := by decide +kernel
theorem d128_384 : decode (am_bytes 128) 384 = .ok (.iadd, 1) := by decide +kernel
theorem d128_385 : decode (am_bytes 128) 385 = .ok (.iaload, 1) := by decide +kernel
theorem d128_386 : decode (am_bytes 128) 386 = .ok (.aload_n 0, 1) := by decide +kernel
theorem d128_387 : decode (am_bytes 128) 387 = .ok (.iload 4, 2) := by decide +kernel
theorem d128_389 : decode (am_bytes 128) 389 = .ok (.iconst 5, 1) := by decide +kernel
theorem d128_390 : decode (am_bytes 128) 390 = .ok (.iadd, 1) := by decide +kernel
theorem d128_391 : decode (am_bytes 128) 391 = .ok (.iaload, 1) := by decide +kernel
theorem d128_392 : decode (am_bytes 128) 392 = .ok (.invokevirtual 89, 3) := by decide +kernel
theorem d128_395 : decode (am_bytes 128) 395 = .ok (.istore 6, 2) := by decide +kernel
theorem d128_397 : decode (am_bytes 128) 397 = .ok (.aload_n 2, 1) := by decide +kernel
theorem d128_398 : decode (am_bytes 128) 398 = .ok (.invokevirtual 75, 3) := by decide +kernel
theorem d128_401 : decode (am_bytes 128) 401 = .ok (.iload 5, 2) := by decide +kernel
theorem d128_403 : decode (am_bytes 128) 403 = .ok (.if_icmp .eq 5, 3) := by decide +kernel
theorem d128_406 : decode (am_bytes 128) 406 = .ok (.iconst 0, 1) := by decide +kernel
theorem d128_407 : decode (am_bytes 128) 407 = .ok (.ireturn, 1) := by decide +kernel
theorem d128_408 : decode (am_bytes 128) 408 = .ok (.iload 5, 2) := by decide +kernel
theorem d128_410 : decode (am_bytes 128) 410 = .ok (.ifCond .ne 15, 3) := by decide +kernel
theorem d128_413 : decode (am_bytes 128) 413 = .ok (.aload_n 3, 1) := by decide +kernel
theorem d128_414 : decode (am_bytes 128) 414 = .ok (.iconst 0, 1) := by decide +kernel
theorem d128_415 : decode (am_bytes 128) 415 = .ok (.laload, 1) := by decide +kernel
theorem d128_416 : decode (am_bytes 128) 416 = .ok (.iload 6, 2) := by decide +kernel
theorem d128_418 : decode (am_bytes 128) 418 = .ok (.i2l, 1) := by decide +kernel
theorem d128_419 : decode (am_bytes 128) 419 = .ok (.lcmp, 1) := by decide +kernel
theorem d128_420 : decode (am_bytes 128) 420 = .ok (.ifCond .eq 5, 3) := by decide +kernel
theorem d128_423 : decode (am_bytes 128) 423 = .ok (.iconst 0, 1) := by decide +kernel
theorem d128_424 : decode (am_bytes 128) 424 = .ok (.ireturn, 1) := by decide +kernel
theorem d128_425 : decode (am_bytes 128) 425 = .ok (.goto 706, 3) := by decide +kernel
theorem d128_428 : decode (am_bytes 128) 428 = .ok (.aload_n 1, 1) := by decide +kernel
theorem d128_429 : decode (am_bytes 128) 429 = .ok (.aload_n 0, 1) := by decide +kernel
theorem d128_430 : decode (am_bytes 128) 430 = .ok (.iload 4, 2) := by decide +kernel
theorem d128_432 : decode (am_bytes 128) 432 = .ok (.iconst 1, 1) := by decide +kernel
theorem d128_433 : decode (am_bytes 128) 433 = .ok (.iadd, 1) := by decide +kernel
theorem d128_434 : decode (am_bytes 128) 434 = .ok (.iaload, 1) := by decide +kernel
theorem d128_435 : decode (am_bytes 128) 435 = .ok (.aload_n 0, 1) := by decide +kernel
theorem d128_436 : decode (am_bytes 128) 436 = .ok (.iload 4, 2) := by decide +kernel
theorem d128_438 : decode (am_bytes 128) 438 = .ok (.iconst 2, 1) := by decide +kernel
theorem d128_439 : decode (am_bytes 128) 439 = .ok (.iadd, 1) := by decide +kernel
theorem d128_440 : decode (am_bytes 128) 440 = .ok (.iaload, 1) := by decide +kernel
theorem d128_441 : decode (am_bytes 128) 441 = .ok (.aload_n 0, 1) := by decide +kernel
theorem d128_442 : decode (am_bytes 128) 442 = .ok (.iload 4, 2) := by decide +kernel
theorem d128_444 : decode (am_bytes 128) 444 = .ok (.iconst 3, 1) := by decide +kernel
theorem d128_445 : decode (am_bytes 128) 445 = .ok (.iadd, 1) := by decide +kernel
theorem d128_446 : decode (am_bytes 128) 446 = .ok (.iaload, 1) := by decide +kernel
theorem d128_447 : decode (am_bytes 128) 447 = .ok (.aload_n 0, 1) := by decide +kernel
theorem d128_448 : decode (am_bytes 128) 448 = .ok (.iload 4, 2) := by decide +kernel
theorem d128_450 : decode (am_bytes 128) 450 = .ok (.iconst 4, 1) := by decide +kernel
theorem d128_451 : decode (am_bytes 128) 451 = .ok (.iadd, 1) := by decide +kernel
theorem d128_452 : decode (am_bytes 128) 452 = .ok (.iaload, 1) := by decide +kernel
theorem d128_453 : decode (am_bytes 128) 453 = .ok (.aload_n 3, 1) := by decide +kernel
theorem d128_454 : decode (am_bytes 128) 454 = .ok (.invokestatic 90, 3) := by decide +kernel
theorem d128_457 : decode (am_bytes 128) 457 = .ok (.istore 5, 2) := by decide +kernel
theorem d128_459 : decode (am_bytes 128) 459 = .ok (.aload_n 2, 1) := by decide +kernel
theorem d128_460 : decode (am_bytes 128) 460 = .ok (.aload_n 0, 1) := by decide +kernel
theorem d128_461 : decode (am_bytes 128) 461 = .ok (.iload 4, 2) := by decide +kernel
theorem d128_463 : decode (am_bytes 128) 463 = .ok (.iconst 1, 1) := by decide +kernel
theorem d128_464 : decode (am_bytes 128) 464 = .ok (.iadd, 1) := by decide +kernel
theorem d128_465 : decode (am_bytes 128) 465 = .ok (.iaload, 1) := by decide +kernel
theorem d128_466 : decode (am_bytes 128) 466 = .ok (.aload_n 0, 1) := by decide +kernel
theorem d128_467 : decode (am_bytes 128) 467 = .ok (.iload 4, 2) := by decide +kernel
theorem d128_469 : decode (am_bytes 128) 469 = .ok (.iconst 2, 1) := by decide +kernel
theorem d128_470 : decode (am_bytes 128) 470 = .ok (.iadd, 1) := by decide +kernel
theorem d128_471 : decode (am_bytes 128) 471 = .ok (.iaload, 1) := by decide +kernel
theorem d128_472 : decode (am_bytes 128) 472 = .ok (.aload_n 0, 1) := by decide +kernel
theorem d128_473 : decode (am_bytes 128) 473 = .ok (.iload 4, 2) := by decide +kernel
theorem d128_475 : decode (am_bytes 128) 475 = .ok (.iconst 3, 1) := by decide +kernel
theorem d128_476 : decode (am_bytes 128) 476 = .ok (.iadd, 1) := by decide +kernel
theorem d128_477 : decode (am_bytes 128) 477 = .ok (.iaload, 1) := by decide +kernel
theorem d128_478 : decode (am_bytes 128) 478 = .ok (.aload_n 0, 1) := by decide +kernel
theorem d128_479 : decode (am_bytes 128) 479 = .ok (.iload 4, 2) := by decide +kernel
theorem d128_481 : decode (am_bytes 128) 481 = .ok (.iconst 4, 1) := by decide +kernel
theorem d128_482 : decode (am_bytes 128) 482 = .ok (.iadd, 1) := by decide +kernel
theorem d128_483 : decode (am_bytes 128) 483 = .ok (.iaload, 1) := by decide +kernel
theorem d128_484 : decode (am_bytes 128) 484 = .ok (.invokevirtual 93, 3) := by decide +kernel
theorem d128_487 : decode (am_bytes 128) 487 = .ok (.istore 6, 2) := by decide +kernel
theorem d128_489 : decode (am_bytes 128) 489 = .ok (.aload_n 2, 1) := by decide +kernel
theorem d128_490 : decode (am_bytes 128) 490 = .ok (.invokevirtual 75, 3) := by decide +kernel
theorem d128_493 : decode (am_bytes 128) 493 = .ok (.iload 5, 2) := by decide +kernel
theorem d128_495 : decode (am_bytes 128) 495 = .ok (.if_icmp .eq 5, 3) := by decide +kernel
theorem d128_498 : decode (am_bytes 128) 498 = .ok (.iconst 0, 1) := by decide +kernel
theorem d128_499 : decode (am_bytes 128) 499 = .ok (.ireturn, 1) := by decide +kernel
theorem d128_500 : decode (am_bytes 128) 500 = .ok (.iload 5, 2) := by decide +kernel
theorem d128_502 : decode (am_bytes 128) 502 = .ok (.ifCond .ne 15, 3) := by decide +kernel
theorem d128_505 : decode (am_bytes 128) 505 = .ok (.aload_n 3, 1) := by decide +kernel
theorem d128_506 : decode (am_bytes 128) 506 = .ok (.iconst 0, 1) := by decide +kernel
theorem d128_507 : decode (am_bytes 128) 507 = .ok (.laload, 1) := by decide +kernel
theorem d128_508 : decode (am_bytes 128) 508 = .ok (.iload 6, 2) := by decide +kernel
theorem d128_510 : decode (am_bytes 128) 510 = .ok (.i2l, 1) := by decide +kernel
theorem d128_511 : decode (am_bytes 128) 511 = .ok (.lcmp, 1) := by decide +kernel
theorem d128_512 : decode (am_bytes 128) 512 = .ok (.ifCond .eq 5, 3) := by decide +kernel
theorem d128_515 : decode (am_bytes 128) 515 = .ok (.iconst 0, 1) := by decide +kernel
theorem d128_516 : decode (am_bytes 128) 516 = .ok (.ireturn, 1) := by decide +kernel
theorem d128_517 : decode (am_bytes 128) 517 = .ok (.goto 614, 3) := by decide +kernel
theorem d128_520 : decode (am_bytes 128) 520 = .ok (.aload_n 1, 1) := by decide +kernel
theorem d128_521 : decode (am_bytes 128) 521 = .ok (.aload_n 0, 1) := by decide +kernel
theorem d128_522 : decode (am_bytes 128) 522 = .ok (.iload 4, 2) := by decide +kernel
theorem d128_524 : decode (am_bytes 128) 524 = .ok (.iconst 1, 1) := by decide +kernel
theorem d128_525 : decode (am_bytes 128) 525 = .ok (.iadd, 1) := by decide +kernel
theorem d128_526 : decode (am_bytes 128) 526 = .ok (.iaload, 1) := by decide +kernel
theorem d128_527 : decode (am_bytes 128) 527 = .ok (.aload_n 0, 1) := by decide +kernel
theorem d128_528 : decode (am_bytes 128) 528 = .ok (.iload 4, 2) := by decide +kernel
theorem d128_530 : decode (am_bytes 128) 530 = .ok (.iconst 2, 1) := by decide +kernel
theorem d128_531 : decode (am_bytes 128) 531 = .ok (.iadd, 1) := by decide +kernel
theorem d128_532 : decode (am_bytes 128) 532 = .ok (.iaload, 1) := by decide +kernel
theorem d128_533 : decode (am_bytes 128) 533 = .ok (.aload_n 0, 1) := by decide +kernel
theorem d128_534 : decode (am_bytes 128) 534 = .ok (.iload 4, 2) := by decide +kernel
theorem d128_536 : decode (am_bytes 128) 536 = .ok (.iconst 3, 1) := by decide +kernel
theorem d128_537 : decode (am_bytes 128) 537 = .ok (.iadd, 1) := by decide +kernel
theorem d128_538 : decode (am_bytes 128) 538 = .ok (.iaload, 1) := by decide +kernel
theorem d128_539 : decode (am_bytes 128) 539 = .ok (.aload_n 3, 1) := by decide +kernel
theorem d128_540 : decode (am_bytes 128) 540 = .ok (.invokestatic 94, 3) := by decide +kernel
theorem d128_543 : decode (am_bytes 128) 543 = .ok (.istore 5, 2) := by decide +kernel
theorem d128_545 : decode (am_bytes 128) 545 = .ok (.aload_n 2, 1) := by decide +kernel
theorem d128_546 : decode (am_bytes 128) 546 = .ok (.aload_n 0, 1) := by decide +kernel
theorem d128_547 : decode (am_bytes 128) 547 = .ok (.iload 4, 2) := by decide +kernel
theorem d128_549 : decode (am_bytes 128) 549 = .ok (.iconst 1, 1) := by decide +kernel
theorem d128_550 : decode (am_bytes 128) 550 = .ok (.iadd, 1) := by decide +kernel
theorem d128_551 : decode (am_bytes 128) 551 = .ok (.iaload, 1) := by decide +kernel
theorem d128_552 : decode (am_bytes 128) 552 = .ok (.aload_n 0, 1) := by decide +kernel
theorem d128_553 : decode (am_bytes 128) 553 = .ok (.iload 4, 2) := by decide +kernel
theorem d128_555 : decode (am_bytes 128) 555 = .ok (.iconst 2, 1) := by decide +kernel
theorem d128_556 : decode (am_bytes 128) 556 = .ok (.iadd, 1) := by decide +kernel
theorem d128_557 : decode (am_bytes 128) 557 = .ok (.iaload, 1) := by decide +kernel
theorem d128_558 : decode (am_bytes 128) 558 = .ok (.aload_n 0, 1) := by decide +kernel
theorem d128_559 : decode (am_bytes 128) 559 = .ok (.iload 4, 2) := by decide +kernel
theorem d128_561 : decode (am_bytes 128) 561 = .ok (.iconst 3, 1) := by decide +kernel
theorem d128_562 : decode (am_bytes 128) 562 = .ok (.iadd, 1) := by decide +kernel
theorem d128_563 : decode (am_bytes 128) 563 = .ok (.iaload, 1) := by decide +kernel
theorem d128_564 : decode (am_bytes 128) 564 = .ok (.invokevirtual 97, 3) := by decide +kernel
theorem d128_567 : decode (am_bytes 128) 567 = .ok (.istore 6, 2) := by decide +kernel
theorem d128_569 : decode (am_bytes 128) 569 = .ok (.aload_n 2, 1) := by decide +kernel
theorem d128_570 : decode (am_bytes 128) 570 = .ok (.invokevirtual 75, 3) := by decide +kernel
theorem d128_573 : decode (am_bytes 128) 573 = .ok (.iload 5, 2) := by decide +kernel
theorem d128_575 : decode (am_bytes 128) 575 = .ok (.if_icmp .eq 5, 3) := by decide +kernel
theorem d128_578 : decode (am_bytes 128) 578 = .ok (.iconst 0, 1) := by decide +kernel
theorem d128_579 : decode (am_bytes 128) 579 = .ok (.ireturn, 1) := by decide +kernel
theorem d128_580 : decode (am_bytes 128) 580 = .ok (.iload 5, 2) := by decide +kernel
theorem d128_582 : decode (am_bytes 128) 582 = .ok (.ifCond .ne 15, 3) := by decide +kernel
theorem d128_585 : decode (am_bytes 128) 585 = .ok (.aload_n 3, 1) := by decide +kernel
theorem d128_586 : decode (am_bytes 128) 586 = .ok (.iconst 0, 1) := by decide +kernel
theorem d128_587 : decode (am_bytes 128) 587 = .ok (.laload, 1) := by decide +kernel
theorem d128_588 : decode (am_bytes 128) 588 = .ok (.iload 6, 2) := by decide +kernel
theorem d128_590 : decode (am_bytes 128) 590 = .ok (.i2l, 1) := by decide +kernel
theorem d128_591 : decode (am_bytes 128) 591 = .ok (.lcmp, 1) := by decide +kernel
theorem d128_592 : decode (am_bytes 128) 592 = .ok (.ifCond .eq 5, 3) := by decide +kernel
theorem d128_595 : decode (am_bytes 128) 595 = .ok (.iconst 0, 1) := by decide +kernel
theorem d128_596 : decode (am_bytes 128) 596 = .ok (.ireturn, 1) := by decide +kernel
theorem d128_597 : decode (am_bytes 128) 597 = .ok (.goto 534, 3) := by decide +kernel
theorem d128_600 : decode (am_bytes 128) 600 = .ok (.aload_n 1, 1) := by decide +kernel
theorem d128_601 : decode (am_bytes 128) 601 = .ok (.aload_n 0, 1) := by decide +kernel
theorem d128_602 : decode (am_bytes 128) 602 = .ok (.iload 4, 2) := by decide +kernel
theorem d128_604 : decode (am_bytes 128) 604 = .ok (.iconst 1, 1) := by decide +kernel
theorem d128_605 : decode (am_bytes 128) 605 = .ok (.iadd, 1) := by decide +kernel
theorem d128_606 : decode (am_bytes 128) 606 = .ok (.iaload, 1) := by decide +kernel
theorem d128_607 : decode (am_bytes 128) 607 = .ok (.aload_n 0, 1) := by decide +kernel
theorem d128_608 : decode (am_bytes 128) 608 = .ok (.iload 4, 2) := by decide +kernel
theorem d128_610 : decode (am_bytes 128) 610 = .ok (.iconst 2, 1) := by decide +kernel
theorem d128_611 : decode (am_bytes 128) 611 = .ok (.iadd, 1) := by decide +kernel
theorem d128_612 : decode (am_bytes 128) 612 = .ok (.iaload, 1) := by decide +kernel
theorem d128_613 : decode (am_bytes 128) 613 = .ok (.aload_n 3, 1) := by decide +kernel
theorem d128_614 : decode (am_bytes 128) 614 = .ok (.invokestatic 98, 3) := by decide +kernel
theorem d128_617 : decode (am_bytes 128) 617 = .ok (.istore 5, 2) := by decide +kernel
theorem d128_619 : decode (am_bytes 128) 619 = .ok (.aload_n 2, 1) := by decide +kernel
theorem d128_620 : decode (am_bytes 128) 620 = .ok (.aload_n 0, 1) := by decide +kernel
theorem d128_621 : decode (am_bytes 128) 621 = .ok (.iload 4, 2) := by decide +kernel
theorem d128_623 : decode (am_bytes 128) 623 = .ok (.iconst 1, 1) := by decide +kernel
theorem d128_624 : decode (am_bytes 128) 624 = .ok (.iadd, 1) := by decide +kernel
theorem d128_625 : decode (am_bytes 128) 625 = .ok (.iaload, 1) := by decide +kernel
theorem d128_626 : decode (am_bytes 128) 626 = .ok (.aload_n 0, 1) := by decide +kernel
theorem d128_627 : decode (am_bytes 128) 627 = .ok (.iload 4, 2) := by decide +kernel
theorem d128_629 : decode (am_bytes 128) 629 = .ok (.iconst 2, 1) := by decide +kernel
theorem d128_630 : decode (am_bytes 128) 630 = .ok (.iadd, 1) := by decide +kernel
theorem d128_631 : decode (am_bytes 128) 631 = .ok (.iaload, 1) := by decide +kernel
theorem d128_632 : decode (am_bytes 128) 632 = .ok (.invokevirtual 100, 3) := by decide +kernel
theorem d128_635 : decode (am_bytes 128) 635 = .ok (.istore 6, 2) := by decide +kernel
theorem d128_637 : decode (am_bytes 128) 637 = .ok (.aload_n 2, 1) := by decide +kernel
theorem d128_638 : decode (am_bytes 128) 638 = .ok (.invokevirtual 75, 3) := by decide +kernel
theorem d128_641 : decode (am_bytes 128) 641 = .ok (.iload 5, 2) := by decide +kernel
theorem d128_643 : decode (am_bytes 128) 643 = .ok (.if_icmp .eq 5, 3) := by decide +kernel
theorem d128_646 : decode (am_bytes 128) 646 = .ok (.iconst 0, 1) := by decide +kernel
theorem d128_647 : decode (am_bytes 128) 647 = .ok (.ireturn, 1) := by decide +kernel
theorem d128_648 : decode (am_bytes 128) 648 = .ok (.iload 5, 2) := by decide +kernel
theorem d128_650 : decode (am_bytes 128) 650 = .ok (.ifCond .ne 15, 3) := by decide +kernel
theorem d128_653 : decode (am_bytes 128) 653 = .ok (.aload_n 3, 1) := by decide +kernel
theorem d128_654 : decode (am_bytes 128) 654 = .ok (.iconst 0, 1) := by decide +kernel
theorem d128_655 : decode (am_bytes 128) 655 = .ok (.laload, 1) := by decide +kernel
theorem d128_656 : decode (am_bytes 128) 656 = .ok (.iload 6, 2) := by decide +kernel
theorem d128_658 : decode (am_bytes 128) 658 = .ok (.i2l, 1) := by decide +kernel
theorem d128_659 : decode (am_bytes 128) 659 = .ok (.lcmp, 1) := by decide +kernel
theorem d128_660 : decode (am_bytes 128) 660 = .ok (.ifCond .eq 5, 3) := by decide +kernel
theorem d128_663 : decode (am_bytes 128) 663 = .ok (.iconst 0, 1) := by decide +kernel
theorem d128_664 : decode (am_bytes 128) 664 = .ok (.ireturn, 1) := by decide +kernel
theorem d128_665 : decode (am_bytes 128) 665 = .ok (.goto 466, 3) := by decide +kernel
theorem d128_668 : decode (am_bytes 128) 668 = .ok (.aload_n 1, 1) := by decide +kernel
theorem d128_669 : decode (am_bytes 128) 669 = .ok (.aload_n 0, 1) := by decide +kernel
theorem d128_670 : decode (am_bytes 128) 670 = .ok (.iload 4, 2) := by decide +kernel
theorem d128_672 : decode (am_bytes 128) 672 = .ok (.iconst 1, 1) := by decide +kernel
theorem d128_673 : decode (am_bytes 128) 673 = .ok (.iadd, 1) := by decide +kernel
theorem d128_674 : decode (am_bytes 128) 674 = .ok (.iaload, 1) := by decide +kernel
theorem d128_675 : decode (am_bytes 128) 675 = .ok (.aload_n 0, 1) := by decide +kernel
theorem d128_676 : decode (am_bytes 128) 676 = .ok (.iload 4, 2) := by decide +kernel
theorem d128_678 : decode (am_bytes 128) 678 = .ok (.iconst 2, 1) := by decide +kernel
theorem d128_679 : decode (am_bytes 128) 679 = .ok (.iadd, 1) := by decide +kernel
theorem d128_680 : decode (am_bytes 128) 680 = .ok (.iaload, 1) := by decide +kernel
theorem d128_681 : decode (am_bytes 128) 681 = .ok (.aload_n 3, 1) := by decide +kernel
theorem d128_682 : decode (am_bytes 128) 682 = .ok (.invokestatic 101, 3) := by decide +kernel
theorem d128_685 : decode (am_bytes 128) 685 = .ok (.istore 5, 2) := by decide +kernel
theorem d128_687 : decode (am_bytes 128) 687 = .ok (.aload_n 2, 1) := by decide +kernel
theorem d128_688 : decode (am_bytes 128) 688 = .ok (.aload_n 0, 1) := by decide +kernel
theorem d128_689 : decode (am_bytes 128) 689 = .ok (.iload 4, 2) := by decide +kernel
theorem d128_691 : decode (am_bytes 128) 691 = .ok (.iconst 1, 1) := by decide +kernel
theorem d128_692 : decode (am_bytes 128) 692 = .ok (.iadd, 1) := by decide +kernel
theorem d128_693 : decode (am_bytes 128) 693 = .ok (.iaload, 1) := by decide +kernel
theorem d128_694 : decode (am_bytes 128) 694 = .ok (.aload_n 0, 1) := by decide +kernel
theorem d128_695 : decode (am_bytes 128) 695 = .ok (.iload 4, 2) := by decide +kernel
theorem d128_697 : decode (am_bytes 128) 697 = .ok (.iconst 2, 1) := by decide +kernel
theorem d128_698 : decode (am_bytes 128) 698 = .ok (.iadd, 1) := by decide +kernel
theorem d128_699 : decode (am_bytes 128) 699 = .ok (.iaload, 1) := by decide +kernel
theorem d128_700 : decode (am_bytes 128) 700 = .ok (.invokevirtual 103, 3) := by decide +kernel
theorem d128_703 : decode (am_bytes 128) 703 = .ok (.istore 6, 2) := by decide +kernel
theorem d128_705 : decode (am_bytes 128) 705 = .ok (.aload_n 2, 1) := by decide +kernel
theorem d128_706 : decode (am_bytes 128) 706 = .ok (.invokevirtual 75, 3) := by decide +kernel
theorem d128_709 : decode (am_bytes 128) 709 = .ok (.iload 5, 2) := by decide +kernel
theorem d128_711 : decode (am_bytes 128) 711 = .ok (.if_icmp .eq 5, 3) := by decide +kernel
theorem d128_714 : decode (am_bytes 128) 714 = .ok (.iconst 0, 1) := by decide +kernel
theorem d128_715 : decode (am_bytes 128) 715 = .ok (.ireturn, 1) := by decide +kernel
theorem d128_716 : decode (am_bytes 128) 716 = .ok (.iload 5, 2) := by decide +kernel
theorem d128_718 : decode (am_bytes 128) 718 = .ok (.ifCond .ne 15, 3) := by decide +kernel
theorem d128_721 : decode (am_bytes 128) 721 = .ok (.aload_n 3, 1) := by decide +kernel
theorem d128_722 : decode (am_bytes 128) 722 = .ok (.iconst 0, 1) := by decide +kernel
theorem d128_723 : decode (am_bytes 128) 723 = .ok (.laload, 1) := by decide +kernel
theorem d128_724 : decode (am_bytes 128) 724 = .ok (.iload 6, 2) := by decide +kernel
theorem d128_726 : decode (am_bytes 128) 726 = .ok (.i2l, 1) := by decide +kernel
theorem d128_727 : decode (am_bytes 128) 727 = .ok (.lcmp, 1) := by decide +kernel
theorem d128_728 : decode (am_bytes 128) 728 = .ok (.ifCond .eq 5, 3) := by decide +kernel
theorem d128_731 : decode (am_bytes 128) 731 = .ok (.iconst 0, 1) := by decide +kernel
theorem d128_732 : decode (am_bytes 128) 732 = .ok (.ireturn, 1) := by decide +kernel
theorem d128_733 : decode (am_bytes 128) 733 = .ok (.goto 398, 3) := by decide +kernel
theorem d128_736 : decode (am_bytes 128) 736 = .ok (.aload_n 1, 1) := by decide +kernel
theorem d128_737 : decode (am_bytes 128) 737 = .ok (.aload_n 0, 1) := by decide +kernel
theorem d128_738 : decode (am_bytes 128) 738 = .ok (.iload 4, 2) := by decide +kernel
theorem d128_740 : decode (am_bytes 128) 740 = .ok (.iconst 1, 1) := by decide +kernel
theorem d128_741 : decode (am_bytes 128) 741 = .ok (.iadd, 1) := by decide +kernel
theorem d128_742 : decode (am_bytes 128) 742 = .ok (.iaload, 1) := by decide +kernel
theorem d128_743 : decode (am_bytes 128) 743 = .ok (.aload_n 3, 1) := by decide +kernel
theorem d128_744 : decode (am_bytes 128) 744 = .ok (.invokestatic 104, 3) := by decide +kernel
theorem d128_747 : decode (am_bytes 128) 747 = .ok (.istore 5, 2) := by decide +kernel
theorem d128_749 : decode (am_bytes 128) 749 = .ok (.aload_n 2, 1) := by decide +kernel
theorem d128_750 : decode (am_bytes 128) 750 = .ok (.aload_n 0, 1) := by decide +kernel
theorem d128_751 : decode (am_bytes 128) 751 = .ok (.iload 4, 2) := by decide +kernel
theorem d128_753 : decode (am_bytes 128) 753 = .ok (.iconst 1, 1) := by decide +kernel
theorem d128_754 : decode (am_bytes 128) 754 = .ok (.iadd, 1) := by decide +kernel
theorem d128_755 : decode (am_bytes 128) 755 = .ok (.iaload, 1) := by decide +kernel
theorem d128_756 : decode (am_bytes 128) 756 = .ok (.invokevirtual 107, 3) := by decide +kernel
theorem d128_759 : decode (am_bytes 128) 759 = .ok (.istore 6, 2) := by decide +kernel
theorem d128_761 : decode (am_bytes 128) 761 = .ok (.aload_n 2, 1) := by decide +kernel
theorem d128_762 : decode (am_bytes 128) 762 = .ok (.invokevirtual 75, 3) := by decide +kernel
theorem d128_765 : decode (am_bytes 128) 765 = .ok (.iload 5, 2) := by decide +kernel
theorem d128_767 : decode (am_bytes 128) 767 = .ok (.if_icmp .eq 5, 3) := by decide +kernel
theorem d128_770 : decode (am_bytes 128) 770 = .ok (.iconst 0, 1) := by decide +kernel
theorem d128_771 : decode (am_bytes 128) 771 = .ok (.ireturn, 1) := by decide +kernel
theorem d128_772 : decode (am_bytes 128) 772 = .ok (.iload 5, 2) := by decide +kernel
theorem d128_774 : decode (am_bytes 128) 774 = .ok (.ifCond .ne 15, 3) := by decide +kernel
theorem d128_777 : decode (am_bytes 128) 777 = .ok (.aload_n 3, 1) := by decide +kernel
theorem d128_778 : decode (am_bytes 128) 778 = .ok (.iconst 0, 1) := by decide +kernel
theorem d128_779 : decode (am_bytes 128) 779 = .ok (.laload, 1) := by decide +kernel
theorem d128_780 : decode (am_bytes 128) 780 = .ok (.iload 6, 2) := by decide +kernel
theorem d128_782 : decode (am_bytes 128) 782 = .ok (.i2l, 1) := by decide +kernel
theorem d128_783 : decode (am_bytes 128) 783 = .ok (.lcmp, 1) := by decide +kernel
theorem d128_784 : decode (am_bytes 128) 784 = .ok (.ifCond .eq 5, 3) := by decide +kernel
theorem d128_787 : decode (am_bytes 128) 787 = .ok (.iconst 0, 1) := by decide +kernel
theorem d128_788 : decode (am_bytes 128) 788 = .ok (.ireturn, 1) := by decide +kernel
theorem d128_789 : decode (am_bytes 128) 789 = .ok (.goto 342, 3) := by decide +kernel
theorem d128_792 : decode (am_bytes 128) 792 = .ok (.aload_n 1, 1) := by decide +kernel
theorem d128_793 : decode (am_bytes 128) 793 = .ok (.aload_n 0, 1) := by decide +kernel
theorem d128_794 : decode (am_bytes 128) 794 = .ok (.iload 4, 2) := by decide +kernel
theorem d128_796 : decode (am_bytes 128) 796 = .ok (.iconst 1, 1) := by decide +kernel
theorem d128_797 : decode (am_bytes 128) 797 = .ok (.iadd, 1) := by decide +kernel
theorem d128_798 : decode (am_bytes 128) 798 = .ok (.iaload, 1) := by decide +kernel
theorem d128_799 : decode (am_bytes 128) 799 = .ok (.aload_n 0, 1) := by decide +kernel
theorem d128_800 : decode (am_bytes 128) 800 = .ok (.iload 4, 2) := by decide +kernel
theorem d128_802 : decode (am_bytes 128) 802 = .ok (.iconst 2, 1) := by decide +kernel
theorem d128_803 : decode (am_bytes 128) 803 = .ok (.iadd, 1) := by decide +kernel
theorem d128_804 : decode (am_bytes 128) 804 = .ok (.iaload, 1) := by decide +kernel
theorem d128_805 : decode (am_bytes 128) 805 = .ok (.aload_n 0, 1) := by decide +kernel
theorem d128_806 : decode (am_bytes 128) 806 = .ok (.iload 4, 2) := by decide +kernel
theorem d128_808 : decode (am_bytes 128) 808 = .ok (.iconst 3, 1) := by decide +kernel
theorem d128_809 : decode (am_bytes 128) 809 = .ok (.iadd, 1) := by decide +kernel
theorem d128_810 : decode (am_bytes 128) 810 = .ok (.iaload, 1) := by decide +kernel
theorem d128_811 : decode (am_bytes 128) 811 = .ok (.aload_n 3, 1) := by decide +kernel
theorem d128_812 : decode (am_bytes 128) 812 = .ok (.invokestatic 108, 3) := by decide +kernel
theorem d128_815 : decode (am_bytes 128) 815 = .ok (.istore 5, 2) := by decide +kernel
theorem d128_817 : decode (am_bytes 128) 817 = .ok (.aload_n 2, 1) := by decide +kernel
theorem d128_818 : decode (am_bytes 128) 818 = .ok (.aload_n 0, 1) := by decide +kernel
theorem d128_819 : decode (am_bytes 128) 819 = .ok (.iload 4, 2) := by decide +kernel
theorem d128_821 : decode (am_bytes 128) 821 = .ok (.iconst 1, 1) := by decide +kernel
theorem d128_822 : decode (am_bytes 128) 822 = .ok (.iadd, 1) := by decide +kernel
theorem d128_823 : decode (am_bytes 128) 823 = .ok (.iaload, 1) := by decide +kernel
theorem d128_824 : decode (am_bytes 128) 824 = .ok (.aload_n 0, 1) := by decide +kernel
theorem d128_825 : decode (am_bytes 128) 825 = .ok (.iload 4, 2) := by decide +kernel
theorem d128_827 : decode (am_bytes 128) 827 = .ok (.iconst 2, 1) := by decide +kernel
theorem d128_828 : decode (am_bytes 128) 828 = .ok (.iadd, 1) := by decide +kernel
theorem d128_829 : decode (am_bytes 128) 829 = .ok (.iaload, 1) := by decide +kernel
theorem d128_830 : decode (am_bytes 128) 830 = .ok (.aload_n 0, 1) := by decide +kernel
theorem d128_831 : decode (am_bytes 128) 831 = .ok (.iload 4, 2) := by decide +kernel
theorem d128_833 : decode (am_bytes 128) 833 = .ok (.iconst 3, 1) := by decide +kernel
theorem d128_834 : decode (am_bytes 128) 834 = .ok (.iadd, 1) := by decide +kernel
theorem d128_835 : decode (am_bytes 128) 835 = .ok (.iaload, 1) := by decide +kernel
theorem d128_836 : decode (am_bytes 128) 836 = .ok (.invokevirtual 110, 3) := by decide +kernel
theorem d128_839 : decode (am_bytes 128) 839 = .ok (.istore 6, 2) := by decide +kernel
theorem d128_841 : decode (am_bytes 128) 841 = .ok (.aload_n 2, 1) := by decide +kernel
theorem d128_842 : decode (am_bytes 128) 842 = .ok (.invokevirtual 75, 3) := by decide +kernel
theorem d128_845 : decode (am_bytes 128) 845 = .ok (.iload 5, 2) := by decide +kernel
theorem d128_847 : decode (am_bytes 128) 847 = .ok (.if_icmp .eq 5, 3) := by decide +kernel
theorem d128_850 : decode (am_bytes 128) 850 = .ok (.iconst 0, 1) := by decide +kernel
theorem d128_851 : decode (am_bytes 128) 851 = .ok (.ireturn, 1) := by decide +kernel
theorem d128_852 : decode (am_bytes 128) 852 = .ok (.iload 5, 2) := by decide +kernel
theorem d128_854 : decode (am_bytes 128) 854 = .ok (.ifCond .ne 15, 3) := by decide +kernel
theorem d128_857 : decode (am_bytes 128) 857 = .ok (.aload_n 3, 1) := by decide +kernel
theorem d128_858 : decode (am_bytes 128) 858 = .ok (.iconst 0, 1) := by decide +kernel
theorem d128_859 : decode (am_bytes 128) 859 = .ok (.laload, 1) := by decide +kernel
theorem d128_860 : decode (am_bytes 128) 860 = .ok (.iload 6, 2) := by decide +kernel
theorem d128_862 : decode (am_bytes 128) 862 = .ok (.i2l, 1) := by decide +kernel
theorem d128_863 : decode (am_bytes 128) 863 = .ok (.lcmp, 1) := by decide +kernel
theorem d128_864 : decode (am_bytes 128) 864 = .ok (.ifCond .eq 5, 3) := by decide +kernel
theorem d128_867 : decode (am_bytes 128) 867 = .ok (.iconst 0, 1) := by decide +kernel
theorem d128_868 : decode (am_bytes 128) 868 = .ok (.ireturn, 1) := by decide +kernel
theorem d128_869 : decode (am_bytes 128) 869 = .ok (.goto 262, 3) := by decide +kernel
theorem d128_872 : decode (am_bytes 128) 872 = .ok (.aload_n 1, 1) := by decide +kernel
theorem d128_873 : decode (am_bytes 128) 873 = .ok (.aload_n 0, 1) := by decide +kernel
theorem d128_874 : decode (am_bytes 128) 874 = .ok (.iload 4, 2) := by decide +kernel
theorem d128_876 : decode (am_bytes 128) 876 = .ok (.iconst 1, 1) := by decide +kernel
theorem d128_877 : decode (am_bytes 128) 877 = .ok (.iadd, 1) := by decide +kernel
theorem d128_878 : decode (am_bytes 128) 878 = .ok (.iaload, 1) := by decide +kernel
theorem d128_879 : decode (am_bytes 128) 879 = .ok (.aload_n 3, 1) := by decide +kernel
theorem d128_880 : decode (am_bytes 128) 880 = .ok (.invokestatic 111, 3) := by decide +kernel
theorem d128_883 : decode (am_bytes 128) 883 = .ok (.istore 5, 2) := by decide +kernel
theorem d128_885 : decode (am_bytes 128) 885 = .ok (.aload_n 2, 1) := by decide +kernel
theorem d128_886 : decode (am_bytes 128) 886 = .ok (.aload_n 0, 1) := by decide +kernel
theorem d128_887 : decode (am_bytes 128) 887 = .ok (.iload 4, 2) := by decide +kernel
theorem d128_889 : decode (am_bytes 128) 889 = .ok (.iconst 1, 1) := by decide +kernel
theorem d128_890 : decode (am_bytes 128) 890 = .ok (.iadd, 1) := by decide +kernel
theorem d128_891 : decode (am_bytes 128) 891 = .ok (.iaload, 1) := by decide +kernel
theorem d128_892 : decode (am_bytes 128) 892 = .ok (.invokevirtual 113, 3) := by decide +kernel
theorem d128_895 : decode (am_bytes 128) 895 = .ok (.istore 6, 2) := by decide +kernel
theorem d128_897 : decode (am_bytes 128) 897 = .ok (.aload_n 2, 1) := by decide +kernel
theorem d128_898 : decode (am_bytes 128) 898 = .ok (.invokevirtual 75, 3) := by decide +kernel
theorem d128_901 : decode (am_bytes 128) 901 = .ok (.iload 5, 2) := by decide +kernel
theorem d128_903 : decode (am_bytes 128) 903 = .ok (.if_icmp .eq 5, 3) := by decide +kernel
theorem d128_906 : decode (am_bytes 128) 906 = .ok (.iconst 0, 1) := by decide +kernel
theorem d128_907 : decode (am_bytes 128) 907 = .ok (.ireturn, 1) := by decide +kernel
theorem d128_908 : decode (am_bytes 128) 908 = .ok (.iload 5, 2) := by decide +kernel
theorem d128_910 : decode (am_bytes 128) 910 = .ok (.ifCond .ne 15, 3) := by decide +kernel
theorem d128_913 : decode (am_bytes 128) 913 = .ok (.aload_n 3, 1) := by decide +kernel
theorem d128_914 : decode (am_bytes 128) 914 = .ok (.iconst 0, 1) := by decide +kernel
theorem d128_915 : decode (am_bytes 128) 915 = .ok (.laload, 1) := by decide +kernel
theorem d128_916 : decode (am_bytes 128) 916 = .ok (.iload 6, 2) := by decide +kernel
theorem d128_918 : decode (am_bytes 128) 918 = .ok (.i2l, 1) := by decide +kernel
theorem d128_919 : decode (am_bytes 128) 919 = .ok (.lcmp, 1) := by decide +kernel
theorem d128_920 : decode (am_bytes 128) 920 = .ok (.ifCond .eq 5, 3) := by decide +kernel
theorem d128_923 : decode (am_bytes 128) 923 = .ok (.iconst 0, 1) := by decide +kernel
theorem d128_924 : decode (am_bytes 128) 924 = .ok (.ireturn, 1) := by decide +kernel
theorem d128_925 : decode (am_bytes 128) 925 = .ok (.goto 206, 3) := by decide +kernel
theorem d128_928 : decode (am_bytes 128) 928 = .ok (.aload_n 1, 1) := by decide +kernel
theorem d128_929 : decode (am_bytes 128) 929 = .ok (.invokevirtual 114, 3) := by decide +kernel
theorem d128_932 : decode (am_bytes 128) 932 = .ok (.aload_n 2, 1) := by decide +kernel
theorem d128_933 : decode (am_bytes 128) 933 = .ok (.invokevirtual 117, 3) := by decide +kernel
theorem d128_936 : decode (am_bytes 128) 936 = .ok (.goto 195, 3) := by decide +kernel
theorem d128_939 : decode (am_bytes 128) 939 = .ok (.aload_n 1, 1) := by decide +kernel
theorem d128_940 : decode (am_bytes 128) 940 = .ok (.aload_n 0, 1) := by decide +kernel
theorem d128_941 : decode (am_bytes 128) 941 = .ok (.iload 4, 2) := by decide +kernel
theorem d128_943 : decode (am_bytes 128) 943 = .ok (.iconst 1, 1) := by decide +kernel
theorem d128_944 : decode (am_bytes 128) 944 = .ok (.iadd, 1) := by decide +kernel
theorem d128_945 : decode (am_bytes 128) 945 = .ok (.iaload, 1) := by decide +kernel
theorem d128_946 : decode (am_bytes 128) 946 = .ok (.aload_n 0, 1) := by decide +kernel
theorem d128_947 : decode (am_bytes 128) 947 = .ok (.iload 4, 2) := by decide +kernel
theorem d128_949 : decode (am_bytes 128) 949 = .ok (.iconst 2, 1) := by decide +kernel
theorem d128_950 : decode (am_bytes 128) 950 = .ok (.iadd, 1) := by decide +kernel
theorem d128_951 : decode (am_bytes 128) 951 = .ok (.iaload, 1) := by decide +kernel
theorem d128_952 : decode (am_bytes 128) 952 = .ok (.aload_n 3, 1) := by decide +kernel
theorem d128_953 : decode (am_bytes 128) 953 = .ok (.invokestatic 118, 3) := by decide +kernel
theorem d128_956 : decode (am_bytes 128) 956 = .ok (.istore 5, 2) := by decide +kernel
theorem d128_958 : decode (am_bytes 128) 958 = .ok (.aload_n 2, 1) := by decide +kernel
theorem d128_959 : decode (am_bytes 128) 959 = .ok (.aload_n 0, 1) := by decide +kernel
theorem d128_960 : decode (am_bytes 128) 960 = .ok (.iload 4, 2) := by decide +kernel
theorem d128_962 : decode (am_bytes 128) 962 = .ok (.iconst 1, 1) := by decide +kernel
theorem d128_963 : decode (am_bytes 128) 963 = .ok (.iadd, 1) := by decide +kernel
theorem d128_964 : decode (am_bytes 128) 964 = .ok (.iaload, 1) := by decide +kernel
theorem d128_965 : decode (am_bytes 128) 965 = .ok (.aload_n 0, 1) := by decide +kernel
theorem d128_966 : decode (am_bytes 128) 966 = .ok (.iload 4, 2) := by decide +kernel
theorem d128_968 : decode (am_bytes 128) 968 = .ok (.iconst 2, 1) := by decide +kernel
theorem d128_969 : decode (am_bytes 128) 969 = .ok (.iadd, 1) := by decide +kernel
theorem d128_970 : decode (am_bytes 128) 970 = .ok (.iaload, 1) := by decide +kernel
theorem d128_971 : decode (am_bytes 128) 971 = .ok (.invokevirtual 120, 3) := by decide +kernel
theorem d128_974 : decode (am_bytes 128) 974 = .ok (.istore 6, 2) := by decide +kernel
theorem d128_976 : decode (am_bytes 128) 976 = .ok (.aload_n 2, 1) := by decide +kernel
theorem d128_977 : decode (am_bytes 128) 977 = .ok (.invokevirtual 75, 3) := by decide +kernel
theorem d128_980 : decode (am_bytes 128) 980 = .ok (.iload 5, 2) := by decide +kernel
theorem d128_982 : decode (am_bytes 128) 982 = .ok (.if_icmp .eq 5, 3) := by decide +kernel
theorem d128_985 : decode (am_bytes 128) 985 = .ok (.iconst 0, 1) := by decide +kernel
theorem d128_986 : decode (am_bytes 128) 986 = .ok (.ireturn, 1) := by decide +kernel
theorem d128_987 : decode (am_bytes 128) 987 = .ok (.iload 5, 2) := by decide +kernel
theorem d128_989 : decode (am_bytes 128) 989 = .ok (.ifCond .ne 15, 3) := by decide +kernel
theorem d128_992 : decode (am_bytes 128) 992 = .ok (.aload_n 3, 1) := by decide +kernel
theorem d128_993 : decode (am_bytes 128) 993 = .ok (.iconst 0, 1) := by decide +kernel
theorem d128_994 : decode (am_bytes 128) 994 = .ok (.laload, 1) := by decide +kernel
theorem d128_995 : decode (am_bytes 128) 995 = .ok (.iload 6, 2) := by decide +kernel
theorem d128_997 : decode (am_bytes 128) 997 = .ok (.i2l, 1) := by decide +kernel
theorem d128_998 : decode (am_bytes 128) 998 = .ok (.lcmp, 1) := by decide +kernel
theorem d128_999 : decode (am_bytes 128) 999 = .ok (.ifCond .eq 5, 3) := by decide +kernel
theorem d128_1002 : decode (am_bytes 128) 1002 = .ok (.iconst 0, 1) := by decide +kernel
theorem d128_1003 : decode (am_bytes 128) 1003 = .ok (.ireturn, 1) := by decide +kernel
theorem d128_1004 : decode (am_bytes 128) 1004 = .ok (.goto 127, 3) := by decide +kernel
theorem d128_1007 : decode (am_bytes 128) 1007 = .ok (.aload_n 1, 1) := by decide +kernel
theorem d128_1008 : decode (am_bytes 128) 1008 = .ok (.aload_n 0, 1) := by decide +kernel
theorem d128_1009 : decode (am_bytes 128) 1009 = .ok (.iload 4, 2) := by decide +kernel
theorem d128_1011 : decode (am_bytes 128) 1011 = .ok (.iconst 1, 1) := by decide +kernel
theorem d128_1012 : decode (am_bytes 128) 1012 = .ok (.iadd, 1) := by decide +kernel
theorem d128_1013 : decode (am_bytes 128) 1013 = .ok (.iaload, 1) := by decide +kernel
theorem d128_1014 : decode (am_bytes 128) 1014 = .ok (.aload_n 3, 1) := by decide +kernel
theorem d128_1015 : decode (am_bytes 128) 1015 = .ok (.invokestatic 121, 3) := by decide +kernel
theorem d128_1018 : decode (am_bytes 128) 1018 = .ok (.istore 5, 2) := by decide +kernel
theorem d128_1020 : decode (am_bytes 128) 1020 = .ok (.aload_n 2, 1) := by decide +kernel
theorem d128_1021 : decode (am_bytes 128) 1021 = .ok (.aload_n 0, 1) := by decide +kernel
theorem d128_1022 : decode (am_bytes 128) 1022 = .ok (.iload 4, 2) := by decide +kernel
theorem d128_1024 : decode (am_bytes 128) 1024 = .ok (.iconst 1, 1) := by decide +kernel
theorem d128_1025 : decode (am_bytes 128) 1025 = .ok (.iadd, 1) := by decide +kernel
theorem d128_1026 : decode (am_bytes 128) 1026 = .ok (.iaload, 1) := by decide +kernel
theorem d128_1027 : decode (am_bytes 128) 1027 = .ok (.invokevirtual 123, 3) := by decide +kernel
theorem d128_1030 : decode (am_bytes 128) 1030 = .ok (.istore 6, 2) := by decide +kernel
theorem d128_1032 : decode (am_bytes 128) 1032 = .ok (.aload_n 2, 1) := by decide +kernel
theorem d128_1033 : decode (am_bytes 128) 1033 = .ok (.invokevirtual 75, 3) := by decide +kernel
theorem d128_1036 : decode (am_bytes 128) 1036 = .ok (.iload 5, 2) := by decide +kernel
theorem d128_1038 : decode (am_bytes 128) 1038 = .ok (.if_icmp .eq 5, 3) := by decide +kernel
theorem d128_1041 : decode (am_bytes 128) 1041 = .ok (.iconst 0, 1) := by decide +kernel
theorem d128_1042 : decode (am_bytes 128) 1042 = .ok (.ireturn, 1) := by decide +kernel
theorem d128_1043 : decode (am_bytes 128) 1043 = .ok (.iload 5, 2) := by decide +kernel
theorem d128_1045 : decode (am_bytes 128) 1045 = .ok (.ifCond .ne 15, 3) := by decide +kernel
theorem d128_1048 : decode (am_bytes 128) 1048 = .ok (.aload_n 3, 1) := by decide +kernel
theorem d128_1049 : decode (am_bytes 128) 1049 = .ok (.iconst 0, 1) := by decide +kernel
theorem d128_1050 : decode (am_bytes 128) 1050 = .ok (.laload, 1) := by decide +kernel
theorem d128_1051 : decode (am_bytes 128) 1051 = .ok (.iload 6, 2) := by decide +kernel
theorem d128_1053 : decode (am_bytes 128) 1053 = .ok (.i2l, 1) := by decide +kernel
theorem d128_1054 : decode (am_bytes 128) 1054 = .ok (.lcmp, 1) := by decide +kernel
theorem d128_1055 : decode (am_bytes 128) 1055 = .ok (.ifCond .eq 5, 3) := by decide +kernel
theorem d128_1058 : decode (am_bytes 128) 1058 = .ok (.iconst 0, 1) := by decide +kernel
theorem d128_1059 : decode (am_bytes 128) 1059 = .ok (.ireturn, 1) := by decide +kernel
theorem d128_1060 : decode (am_bytes 128) 1060 = .ok (.goto 71, 3) := by decide +kernel
theorem d128_1063 : decode (am_bytes 128) 1063 = .ok (.aload_n 1, 1) := by decide +kernel
theorem d128_1064 : decode (am_bytes 128) 1064 = .ok (.aload_n 0, 1) := by decide +kernel
theorem d128_1065 : decode (am_bytes 128) 1065 = .ok (.iload 4, 2) := by decide +kernel
theorem d128_1067 : decode (am_bytes 128) 1067 = .ok (.iconst 1, 1) := by decide +kernel
theorem d128_1068 : decode (am_bytes 128) 1068 = .ok (.iadd, 1) := by decide +kernel
theorem d128_1069 : decode (am_bytes 128) 1069 = .ok (.iaload, 1) := by decide +kernel
theorem d128_1070 : decode (am_bytes 128) 1070 = .ok (.aload_n 0, 1) := by decide +kernel
theorem d128_1071 : decode (am_bytes 128) 1071 = .ok (.iload 4, 2) := by decide +kernel
theorem d128_1073 : decode (am_bytes 128) 1073 = .ok (.iconst 2, 1) := by decide +kernel
theorem d128_1074 : decode (am_bytes 128) 1074 = .ok (.iadd, 1) := by decide +kernel
theorem d128_1075 : decode (am_bytes 128) 1075 = .ok (.iaload, 1) := by decide +kernel
theorem d128_1076 : decode (am_bytes 128) 1076 = .ok (.aload_n 3, 1) := by decide +kernel
theorem d128_1077 : decode (am_bytes 128) 1077 = .ok (.invokestatic 124, 3) := by decide +kernel
theorem d128_1080 : decode (am_bytes 128) 1080 = .ok (.istore 5, 2) := by decide +kernel
theorem d128_1082 : decode (am_bytes 128) 1082 = .ok (.aload_n 2, 1) := by decide +kernel
theorem d128_1083 : decode (am_bytes 128) 1083 = .ok (.aload_n 0, 1) := by decide +kernel
theorem d128_1084 : decode (am_bytes 128) 1084 = .ok (.iload 4, 2) := by decide +kernel
theorem d128_1086 : decode (am_bytes 128) 1086 = .ok (.iconst 1, 1) := by decide +kernel
theorem d128_1087 : decode (am_bytes 128) 1087 = .ok (.iadd, 1) := by decide +kernel
theorem d128_1088 : decode (am_bytes 128) 1088 = .ok (.iaload, 1) := by decide +kernel
theorem d128_1089 : decode (am_bytes 128) 1089 = .ok (.aload_n 0, 1) := by decide +kernel
theorem d128_1090 : decode (am_bytes 128) 1090 = .ok (.iload 4, 2) := by decide +kernel
theorem d128_1092 : decode (am_bytes 128) 1092 = .ok (.iconst 2, 1) := by decide +kernel
theorem d128_1093 : decode (am_bytes 128) 1093 = .ok (.iadd, 1) := by decide +kernel
theorem d128_1094 : decode (am_bytes 128) 1094 = .ok (.iaload, 1) := by decide +kernel
theorem d128_1095 : decode (am_bytes 128) 1095 = .ok (.invokevirtual 126, 3) := by decide +kernel
theorem d128_1098 : decode (am_bytes 128) 1098 = .ok (.istore 6, 2) := by decide +kernel
theorem d128_1100 : decode (am_bytes 128) 1100 = .ok (.aload_n 2, 1) := by decide +kernel
theorem d128_1101 : decode (am_bytes 128) 1101 = .ok (.invokevirtual 75, 3) := by decide +kernel
theorem d128_1104 : decode (am_bytes 128) 1104 = .ok (.iload 5, 2) := by decide +kernel
theorem d128_1106 : decode (am_bytes 128) 1106 = .ok (.if_icmp .eq 5, 3) := by decide +kernel
theorem d128_1109 : decode (am_bytes 128) 1109 = .ok (.iconst 0, 1) := by decide +kernel
theorem d128_1110 : decode (am_bytes 128) 1110 = .ok (.ireturn, 1) := by decide +kernel
theorem d128_1111 : decode (am_bytes 128) 1111 = .ok (.iload 5, 2) := by decide +kernel
theorem d128_1113 : decode (am_bytes 128) 1113 = .ok (.ifCond .ne 15, 3) := by decide +kernel
theorem d128_1116 : decode (am_bytes 128) 1116 = .ok (.aload_n 3, 1) := by decide +kernel
theorem d128_1117 : decode (am_bytes 128) 1117 = .ok (.iconst 0, 1) := by decide +kernel
theorem d128_1118 : decode (am_bytes 128) 1118 = .ok (.laload, 1) := by decide +kernel
theorem d128_1119 : decode (am_bytes 128) 1119 = .ok (.iload 6, 2) := by decide +kernel
theorem d128_1121 : decode (am_bytes 128) 1121 = .ok (.i2l, 1) := by decide +kernel
theorem d128_1122 : decode (am_bytes 128) 1122 = .ok (.lcmp, 1) := by decide +kernel
theorem d128_1123 : decode (am_bytes 128) 1123 = .ok (.ifCond .eq 5, 3) := by decide +kernel
theorem d128_1126 : decode (am_bytes 128) 1126 = .ok (.iconst 0, 1) := by decide +kernel
theorem d128_1127 : decode (am_bytes 128) 1127 = .ok (.ireturn, 1) := by decide +kernel
theorem d128_1128 : decode (am_bytes 128) 1128 = .ok (.goto 3, 3) := by decide +kernel
theorem d128_1131 : decode (am_bytes 128) 1131 = .ok (.iinc 4 6, 3) := by decide +kernel
theorem d128_1134 : decode (am_bytes 128) 1134 = .ok (.goto (-1111), 3) := by decide +kernel
theorem d128_1137 : decode (am_bytes 128) 1137 = .ok (.iconst 1, 1) := by decide +kernel
theorem d128_1138 : decode (am_bytes 128) 1138 = .ok (.ireturn, 1) := by decide +kernel
theorem d129_0 : decode (am_bytes 129) 0 = .ok (.iconst 0, 1) := by decide +kernel
theorem d129_1 : decode (am_bytes 129) 1 = .ok (.istore_n 2, 1) := by decide +kernel
theorem d129_2 : decode (am_bytes 129) 2 = .ok (.aload_n 0, 1) := by decide +kernel
theorem d129_3 : decode (am_bytes 129) 3 = .ok (.arraylength, 1) := by decide +kernel
theorem d129_4 : decode (am_bytes 129) 4 = .ok (.istore_n 3, 1) := by decide +kernel
theorem d129_5 : decode (am_bytes 129) 5 = .ok (.iload_n 2, 1) := by decide +kernel
theorem d129_6 : decode (am_bytes 129) 6 = .ok (.iload_n 3, 1) := by decide +kernel
theorem d129_7 : decode (am_bytes 129) 7 = .ok (.if_icmp .ge 13, 3) := by decide +kernel
theorem d129_10 : decode (am_bytes 129) 10 = .ok (.aload_n 0, 1) := by decide +kernel
theorem d129_11 : decode (am_bytes 129) 11 = .ok (.iload_n 2, 1) := by decide +kernel
theorem d129_12 : decode (am_bytes 129) 12 = .ok (.iload_n 1, 1) := by decide +kernel
theorem d129_13 : decode (am_bytes 129) 13 = .ok (.iastore, 1) := by decide +kernel
theorem d129_14 : decode (am_bytes 129) 14 = .ok (.iinc 2 1, 3) := by decide +kernel
theorem d129_17 : decode (am_bytes 129) 17 = .ok (.goto (-12), 3) := by decide +kernel
theorem d129_20 : decode (am_bytes 129) 20 = .ok (.return_, 1) := by decide +kernel
end
section
/-! rows on places and counters that are natural numbers -/
section AMN
variable {k pc : Nat} {L st r : List Value} {M : am_M} {Q : am_T}
theorem am_ialdN (i : Nat) {p n : Nat} (d : decode (am_bytes k) pc = .ok (.iaload, 1)) (hs : am_sh p = some (.inl (.int, n))) (hi : i < n) (hn : n < 2 ^ 31) (h : am_W k (pc + 1) L (.int (M.1 p i) :: r) M Q) : am_W k pc L (.int (nI i) :: .ref p :: r) M Q :=
  am_iald d hs (vp_in_nI hi hn) (by rw [nI_clamp (by omega)]; exact h)
theorem am_zaldN (i : Nat) {p n : Nat} (d : decode (am_bytes k) pc = .ok (.baload, 1)) (hs : am_sh p = some (.inl (.boolean, n))) (hi : i < n) (hn : n < 2 ^ 31) (h : am_W k (pc + 1) L (.int (M.1 p i) :: r) M Q) : am_W k pc L (.int (nI i) :: .ref p :: r) M Q :=
  am_zald d hs (vp_in_nI hi hn) (by rw [nI_clamp (by omega)]; exact h)
theorem am_caldN (i : Nat) {p n : Nat} (d : decode (am_bytes k) pc = .ok (.caload, 1)) (hs : am_sh p = some (.inl (.char, n))) (hi : i < n) (hn : n < 2 ^ 31) (h : am_W k (pc + 1) L (.int (M.1 p i) :: r) M Q) : am_W k pc L (.int (nI i) :: .ref p :: r) M Q :=
  am_cald d hs (vp_in_nI hi hn) (by rw [nI_clamp (by omega)]; exact h)
theorem am_saldN (i : Nat) (d : decode (am_bytes k) pc = .ok (.iaload, 1)) (hi : i < M.2.2.2.1) (hn : M.2.2.2.1 < 2 ^ 31) (h : am_W k (pc + 1) L (.int (M.2.2.2.2 i) :: r) M Q) : am_W k pc L (.int (nI i) :: .ref am_SC :: r) M Q :=
  am_sald d (vp_in_nI hi hn) (by rw [nI_clamp (by omega)]; exact h)
theorem am_iastN (i : Nat) {v : Int32} {p n : Nat} (d : decode (am_bytes k) pc = .ok (.iastore, 1)) (hs : am_sh p = some (.inl (.int, n))) (hi : i < n) (hn : n < 2 ^ 31) (h : am_W k (pc + 1) L r (am_set M p i v) Q) : am_W k pc L (.int v :: .int (nI i) :: .ref p :: r) M Q :=
  am_iast d hs (vp_in_nI hi hn) (by rw [nI_clamp (by omega)]; exact h)
theorem am_zastN (i : Nat) {v : Int32} (w : Int32) {p n : Nat} (d : decode (am_bytes k) pc = .ok (.bastore, 1)) (hs : am_sh p = some (.inl (.boolean, n))) (hi : i < n) (hn : n < 2 ^ 31) (hv : vp_nar .boolean v = w) (h : am_W k (pc + 1) L r (am_set M p i w) Q) : am_W k pc L (.int v :: .int (nI i) :: .ref p :: r) M Q :=
  am_zast d hs (vp_in_nI hi hn) (by rw [nI_clamp (by omega), hv]; exact h)
theorem am_castN (i : Nat) {v : Int32} (w : Int32) {p n : Nat} (d : decode (am_bytes k) pc = .ok (.castore, 1)) (hs : am_sh p = some (.inl (.char, n))) (hi : i < n) (hn : n < 2 ^ 31) (hv : vp_nar .char v = w) (h : am_W k (pc + 1) L r (am_set M p i w) Q) : am_W k pc L (.int v :: .int (nI i) :: .ref p :: r) M Q :=
  am_cast d hs (vp_in_nI hi hn) (by rw [nI_clamp (by omega), hv]; exact h)
theorem am_incN {j : Nat} (i : Nat) {L' : List Value} (d : decode (am_bytes k) pc = .ok (.iinc j 1, 3)) (hl : L[j]? = some (.int (nI i))) (hL : L.set j (.int (nI (i + 1))) = L') (h : am_W k (pc + 3) L' st M Q) : am_W k pc L st M Q :=
  am_iinc (nI (i + 1)) d hl (nI_1 i) hL h
theorem am_addN {a b : Nat} (d : decode (am_bytes k) pc = .ok (.iadd, 1)) (h : am_W k (pc + 1) L (.int (nI (a + b)) :: r) M Q) : am_W k pc L (.int (nI b) :: .int (nI a) :: r) M Q := am_iadd d (by rw [nI_add]; exact h)
theorem am_mulN {a b : Nat} (d : decode (am_bytes k) pc = .ok (.imul, 1)) (h : am_W k (pc + 1) L (.int (nI (a * b)) :: r) M Q) : am_W k pc L (.int (nI b) :: .int (nI a) :: r) M Q := am_imul d (by rw [pk_mul]; exact h)
theorem am_icgeN {x y : Int32} {off : Int} (t a b : Nat) (d : decode (am_bytes k) pc = .ok (.if_icmp .ge off, 3)) (ht : (pc : Int) + off = t) (hx : x = nI a) (hy : y = nI b) (ha : a < 2 ^ 31) (hb : b < 2 ^ 31) (kt : b ≤ a → am_W k t L r M Q) (kf : a < b → am_W k (pc + 3) L r M Q) : am_W k pc L (.int y :: .int x :: r) M Q := by
  subst hx hy
  exact am_icge t d ht (fun q => kt ((nI_leI hb ha).mp q)) (fun q => kf (Nat.lt_of_not_le (fun z => q ((nI_leI hb ha).mpr z))))
theorem am_icltN {x y : Int32} {off : Int} (t a b : Nat) (d : decode (am_bytes k) pc = .ok (.if_icmp .lt off, 3)) (ht : (pc : Int) + off = t) (hx : x = nI a) (hy : y = nI b) (ha : a < 2 ^ 31) (hb : b < 2 ^ 31) (kt : a < b → am_W k t L r M Q) (kf : b ≤ a → am_W k (pc + 3) L r M Q) : am_W k pc L (.int y :: .int x :: r) M Q := by
  subst hx hy
  exact am_iclt t d ht (fun q => kt ((nI_ltI ha hb).mp q)) (fun q => kf (Nat.le_of_not_lt (fun z => q ((nI_ltI ha hb).mpr z))))
/-- a call's answer goes back to the caller -/
theorem am_af_v {v : Option Value} (h : am_W k (pc + 3) L (v.toList ++ r) M Q) : am_af am_W k pc L r Q (.inl v) M := h
/-- an exception that isn't caught goes on -/
theorem am_af_x {x : Nat} (h1 : am_hd k pc x = none) (h2 : am_et k = []) (h : Q (.inr x) M) : am_af am_W k pc L r Q (.inr x) M := by
  show (match am_hd k pc x with | none => am_et k = [] ∧ Q (.inr x) M | some v => 0 < M.2.2.1 ∧ Q (.inl (some (.int v))) (am_pay M))
  rw [h1]
  exact ⟨h2, h⟩
/-- .. and one that is caught -/
theorem am_af_c {x : Nat} {v : Int32} (h1 : am_hd k pc x = some v) (hb : 0 < M.2.2.1) (h : Q (.inl (some (.int v))) (am_pay M)) : am_af am_W k pc L r Q (.inr x) M := by
  show (match am_hd k pc x with | none => am_et k = [] ∧ Q (.inr x) M | some v => 0 < M.2.2.1 ∧ Q (.inl (some (.int v))) (am_pay M))
  rw [h1]
  exact ⟨hb, h⟩
end AMN
/-- the memory after a write -/
theorem am_set_self {M : am_M} {p i : Nat} {x : Int32} : (am_set M p i x).1 p = upd (M.1 p) i x := va_up_self _ _ _
theorem am_set_ne {M : am_M} {p q i : Nat} {x : Int32} (h : q ≠ p) : (am_set M p i x).1 q = M.1 q := va_up_ne _ _ h
theorem am_set_2 {M : am_M} {p i : Nat} {x : Int32} : (am_set M p i x).2 = M.2 := rfl
end
section
/-! printed: fields, methods, shapes by number -/
theorem ml0_50 : am_mth 0 50 = some 15 := by decide +kernel
theorem ml0_54 : am_mth 0 54 = some 19 := by decide +kernel
theorem fl0_12 : am_fld 0 12 = some (4, 0) := by decide +kernel
theorem fl0_58 : am_fld 0 58 = some (0, 4) := by decide +kernel
theorem ml0_68 : am_mth 0 68 = some 76 := by decide +kernel
theorem ml1_50 : am_mth 1 50 = some 15 := by decide +kernel
theorem ml1_72 : am_mth 1 72 = some 20 := by decide +kernel
theorem fl1_12 : am_fld 1 12 = some (4, 0) := by decide +kernel
theorem ml1_75 : am_mth 1 75 = some 77 := by decide +kernel
theorem fl1_81 : am_fld 1 81 = some (0, 2) := by decide +kernel
theorem ml2_50 : am_mth 2 50 = some 15 := by decide +kernel
theorem ml2_85 : am_mth 2 85 = some 16 := by decide +kernel
theorem ml2_88 : am_mth 2 88 = some 17 := by decide +kernel
theorem ml2_91 : am_mth 2 91 = some 31 := by decide +kernel
theorem ml2_72 : am_mth 2 72 = some 20 := by decide +kernel
theorem ml2_100 : am_mth 2 100 = some 21 := by decide +kernel
theorem ml2_103 : am_mth 2 103 = some 32 := by decide +kernel
theorem ml2_106 : am_mth 2 106 = some 24 := by decide +kernel
theorem fl2_43 : am_fld 2 43 = some (4, 6) := by decide +kernel
theorem ml3_50 : am_mth 3 50 = some 15 := by decide +kernel
theorem ml3_85 : am_mth 3 85 = some 16 := by decide +kernel
theorem ml3_88 : am_mth 3 88 = some 17 := by decide +kernel
theorem ml3_54 : am_mth 3 54 = some 19 := by decide +kernel
theorem ml3_110 : am_mth 3 110 = some 18 := by decide +kernel
theorem fl3_26 : am_fld 3 26 = some (4, 2) := by decide +kernel
theorem ml3_113 : am_mth 3 113 = some 23 := by decide +kernel
theorem ml3_103 : am_mth 3 103 = some 32 := by decide +kernel
theorem fl3_117 : am_fld 3 117 = some (2, 0) := by decide +kernel
theorem fl3_121 : am_fld 3 121 = some (2, 1) := by decide +kernel
theorem fl3_124 : am_fld 3 124 = some (2, 2) := by decide +kernel
theorem ml4_50 : am_mth 4 50 = some 15 := by decide +kernel
theorem ml4_85 : am_mth 4 85 = some 16 := by decide +kernel
theorem ml4_88 : am_mth 4 88 = some 17 := by decide +kernel
theorem fl4_19 : am_fld 4 19 = some (4, 1) := by decide +kernel
theorem ml4_127 : am_mth 4 127 = some 108 := by decide +kernel
theorem ml4_130 : am_mth 4 130 = some 25 := by decide +kernel
theorem ml4_103 : am_mth 4 103 = some 32 := by decide +kernel
theorem ml4_133 : am_mth 4 133 = some 111 := by decide +kernel
theorem ml5_50 : am_mth 5 50 = some 15 := by decide +kernel
theorem ml5_72 : am_mth 5 72 = some 20 := by decide +kernel
theorem fl5_26 : am_fld 5 26 = some (4, 2) := by decide +kernel
theorem fl5_43 : am_fld 5 43 = some (4, 6) := by decide +kernel
theorem ml5_113 : am_mth 5 113 = some 23 := by decide +kernel
theorem fl5_30 : am_fld 5 30 = some (4, 3) := by decide +kernel
theorem ml5_136 : am_mth 5 136 = some 96 := by decide +kernel
theorem ml6_50 : am_mth 6 50 = some 15 := by decide +kernel
theorem fl6_12 : am_fld 6 12 = some (4, 0) := by decide +kernel
theorem fl6_43 : am_fld 6 43 = some (4, 6) := by decide +kernel
theorem ml6_140 : am_mth 6 140 = some 78 := by decide +kernel
theorem ml7_50 : am_mth 7 50 = some 15 := by decide +kernel
theorem ml7_72 : am_mth 7 72 = some 20 := by decide +kernel
theorem fl7_12 : am_fld 7 12 = some (4, 0) := by decide +kernel
theorem fl7_43 : am_fld 7 43 = some (4, 6) := by decide +kernel
theorem ml7_140 : am_mth 7 140 = some 78 := by decide +kernel
theorem fl7_47 : am_fld 7 47 = some (4, 7) := by decide +kernel
theorem fl7_26 : am_fld 7 26 = some (4, 2) := by decide +kernel
theorem ml7_113 : am_mth 7 113 = some 23 := by decide +kernel
theorem fl7_30 : am_fld 7 30 = some (4, 3) := by decide +kernel
theorem fl7_33 : am_fld 7 33 = some (4, 4) := by decide +kernel
theorem ml7_148 : am_mth 7 148 = some 28 := by decide +kernel
theorem ml7_151 : am_mth 7 151 = some 27 := by decide +kernel
theorem ml7_100 : am_mth 7 100 = some 21 := by decide +kernel
theorem ml7_154 : am_mth 7 154 = some 29 := by decide +kernel
theorem fl8_47 : am_fld 8 47 = some (4, 7) := by decide +kernel
theorem fl8_43 : am_fld 8 43 = some (4, 6) := by decide +kernel
theorem fl8_19 : am_fld 8 19 = some (4, 1) := by decide +kernel
theorem ml8_127 : am_mth 8 127 = some 108 := by decide +kernel
theorem fl8_12 : am_fld 8 12 = some (4, 0) := by decide +kernel
theorem fl8_58 : am_fld 8 58 = some (0, 4) := by decide +kernel
theorem ml8_130 : am_mth 8 130 = some 25 := by decide +kernel
theorem ml8_159 : am_mth 8 159 = some 112 := by decide +kernel
theorem ml9_50 : am_mth 9 50 = some 15 := by decide +kernel
theorem ml9_85 : am_mth 9 85 = some 16 := by decide +kernel
theorem ml9_54 : am_mth 9 54 = some 19 := by decide +kernel
theorem fl9_26 : am_fld 9 26 = some (4, 2) := by decide +kernel
theorem ml9_113 : am_mth 9 113 = some 23 := by decide +kernel
theorem ml9_162 : am_mth 9 162 = some 99 := by decide +kernel
theorem fl10_39 : am_fld 10 39 = some (4, 5) := by decide +kernel
theorem ml10_166 : am_mth 10 166 = some 80 := by decide +kernel
theorem ml10_172 : am_mth 10 172 = some 81 := by decide +kernel
theorem ml10_177 : am_mth 10 177 = some 82 := by decide +kernel
theorem fl11_39 : am_fld 11 39 = some (4, 5) := by decide +kernel
theorem ml11_179 : am_mth 11 179 = some 83 := by decide +kernel
theorem ml12_50 : am_mth 12 50 = some 15 := by decide +kernel
theorem ml12_54 : am_mth 12 54 = some 19 := by decide +kernel
theorem fl12_26 : am_fld 12 26 = some (4, 2) := by decide +kernel
theorem ml12_113 : am_mth 12 113 = some 23 := by decide +kernel
theorem fl12_39 : am_fld 12 39 = some (4, 5) := by decide +kernel
theorem ml12_182 : am_mth 12 182 = some 84 := by decide +kernel
theorem ml13_110 : am_mth 13 110 = some 18 := by decide +kernel
theorem fl13_43 : am_fld 13 43 = some (4, 6) := by decide +kernel
theorem fl13_47 : am_fld 13 47 = some (4, 7) := by decide +kernel
theorem fl13_19 : am_fld 13 19 = some (4, 1) := by decide +kernel
theorem fl13_186 : am_fld 13 186 = some (3, 6) := by decide +kernel
theorem fl13_12 : am_fld 13 12 = some (4, 0) := by decide +kernel
theorem fl13_58 : am_fld 13 58 = some (0, 4) := by decide +kernel
theorem ml14_50 : am_mth 14 50 = some 15 := by decide +kernel
theorem ml14_110 : am_mth 14 110 = some 18 := by decide +kernel
theorem fl14_12 : am_fld 14 12 = some (4, 0) := by decide +kernel
theorem fl14_81 : am_fld 14 81 = some (0, 2) := by decide +kernel
theorem fl14_187 : am_fld 14 187 = some (0, 0) := by decide +kernel
theorem fl14_190 : am_fld 14 190 = some (0, 1) := by decide +kernel
theorem fl14_19 : am_fld 14 19 = some (4, 1) := by decide +kernel
theorem ml14_193 : am_mth 14 193 = some 106 := by decide +kernel
theorem fl15_12 : am_fld 15 12 = some (4, 0) := by decide +kernel
theorem fl15_58 : am_fld 15 58 = some (0, 4) := by decide +kernel
theorem ml16_201 : am_mth 16 201 = some 30 := by decide +kernel
theorem fl19_12 : am_fld 19 12 = some (4, 0) := by decide +kernel
theorem fl19_81 : am_fld 19 81 = some (0, 2) := by decide +kernel
theorem ml19_210 : am_mth 19 210 = some 22 := by decide +kernel
theorem fl19_43 : am_fld 19 43 = some (4, 6) := by decide +kernel
theorem fl20_12 : am_fld 20 12 = some (4, 0) := by decide +kernel
theorem fl20_81 : am_fld 20 81 = some (0, 2) := by decide +kernel
theorem fl21_19 : am_fld 21 19 = some (4, 1) := by decide +kernel
theorem fl21_186 : am_fld 21 186 = some (3, 6) := by decide +kernel
theorem fl22_12 : am_fld 22 12 = some (4, 0) := by decide +kernel
theorem fl22_190 : am_fld 22 190 = some (0, 1) := by decide +kernel
theorem fl22_47 : am_fld 22 47 = some (4, 7) := by decide +kernel
theorem fl23_12 : am_fld 23 12 = some (4, 0) := by decide +kernel
theorem ml23_227 : am_mth 23 227 = some 79 := by decide +kernel
theorem fl23_19 : am_fld 23 19 = some (4, 1) := by decide +kernel
theorem fl23_230 : am_fld 23 230 = some (0, 3) := by decide +kernel
theorem ml23_233 : am_mth 23 233 = some 107 := by decide +kernel
theorem fl24_43 : am_fld 24 43 = some (4, 6) := by decide +kernel
theorem fl24_19 : am_fld 24 19 = some (4, 1) := by decide +kernel
theorem ml24_237 : am_mth 24 237 = some 105 := by decide +kernel
theorem fl25_12 : am_fld 25 12 = some (4, 0) := by decide +kernel
theorem fl25_81 : am_fld 25 81 = some (0, 2) := by decide +kernel
theorem ml25_210 : am_mth 25 210 = some 22 := by decide +kernel
theorem fl25_26 : am_fld 25 26 = some (4, 2) := by decide +kernel
theorem ml25_113 : am_mth 25 113 = some 23 := by decide +kernel
theorem fl25_19 : am_fld 25 19 = some (4, 1) := by decide +kernel
theorem ml25_240 : am_mth 25 240 = some 109 := by decide +kernel
theorem ml25_244 : am_mth 25 244 = some 110 := by decide +kernel
theorem fl26_26 : am_fld 26 26 = some (4, 2) := by decide +kernel
theorem fl26_33 : am_fld 26 33 = some (4, 4) := by decide +kernel
theorem ml26_136 : am_mth 26 136 = some 96 := by decide +kernel
theorem fl26_30 : am_fld 26 30 = some (4, 3) := by decide +kernel
theorem ml27_247 : am_mth 27 247 = some 26 := by decide +kernel
theorem ml28_247 : am_mth 28 247 = some 26 := by decide +kernel
theorem fl28_30 : am_fld 28 30 = some (4, 3) := by decide +kernel
theorem fl28_33 : am_fld 28 33 = some (4, 4) := by decide +kernel
theorem ml28_136 : am_mth 28 136 = some 96 := by decide +kernel
theorem ml29_247 : am_mth 29 247 = some 26 := by decide +kernel
theorem fl29_26 : am_fld 29 26 = some (4, 2) := by decide +kernel
theorem fl29_117 : am_fld 29 117 = some (2, 0) := by decide +kernel
theorem fl29_121 : am_fld 29 121 = some (2, 1) := by decide +kernel
theorem ml29_106 : am_mth 29 106 = some 24 := by decide +kernel
theorem ml31_201 : am_mth 31 201 = some 30 := by decide +kernel
theorem fl33_45 : am_fld 33 45 = some (5, 0) := by decide +kernel
theorem fl34_7 : am_fld 34 7 = some (5, 3) := by decide +kernel
theorem fl36_17 : am_fld 36 17 = some (5, 5) := by decide +kernel
theorem fl36_48 : am_fld 36 48 = some (5, 2) := by decide +kernel
theorem fl37_20 : am_fld 37 20 = some (5, 6) := by decide +kernel
theorem ml37_51 : am_mth 37 51 = some 36 := by decide +kernel
theorem fl37_55 : am_fld 37 55 = some (5, 1) := by decide +kernel
theorem fl38_24 : am_fld 38 24 = some (5, 8) := by decide +kernel
theorem fl38_27 : am_fld 38 27 = some (5, 9) := by decide +kernel
theorem fl38_17 : am_fld 38 17 = some (5, 5) := by decide +kernel
theorem fl38_13 : am_fld 38 13 = some (5, 4) := by decide +kernel
theorem fl39_58 : am_fld 39 58 = some (5, 7) := by decide +kernel
theorem fl39_30 : am_fld 39 30 = some (5, 10) := by decide +kernel
theorem ml39_61 : am_mth 39 61 = some 38 := by decide +kernel
theorem fl40_33 : am_fld 40 33 = some (5, 11) := by decide +kernel
theorem fl41_36 : am_fld 41 36 = some (5, 12) := by decide +kernel
theorem ml42_65 : am_mth 42 65 = some 40 := by decide +kernel
theorem ml42_68 : am_mth 42 68 = some 41 := by decide +kernel
theorem fl43_27 : am_fld 43 27 = some (5, 9) := by decide +kernel
theorem ml43_51 : am_mth 43 51 = some 36 := by decide +kernel
theorem ml43_71 : am_mth 43 71 = some 37 := by decide +kernel
theorem fl43_30 : am_fld 43 30 = some (5, 10) := by decide +kernel
theorem ml43_75 : am_mth 43 75 = some 39 := by decide +kernel
theorem ml44_79 : am_mth 44 79 = some 34 := by decide +kernel
theorem ml44_71 : am_mth 44 71 = some 37 := by decide +kernel
theorem fl44_7 : am_fld 44 7 = some (5, 3) := by decide +kernel
theorem fl44_45 : am_fld 44 45 = some (5, 0) := by decide +kernel
theorem fl44_13 : am_fld 44 13 = some (5, 4) := by decide +kernel
theorem fl44_17 : am_fld 44 17 = some (5, 5) := by decide +kernel
theorem fl44_20 : am_fld 44 20 = some (5, 6) := by decide +kernel
theorem fl45_7 : am_fld 45 7 = some (5, 3) := by decide +kernel
theorem fl45_20 : am_fld 45 20 = some (5, 6) := by decide +kernel
theorem ml46_79 : am_mth 46 79 = some 34 := by decide +kernel
theorem fl46_20 : am_fld 46 20 = some (5, 6) := by decide +kernel
theorem ml46_83 : am_mth 46 83 = some 45 := by decide +kernel
theorem fl46_45 : am_fld 46 45 = some (5, 0) := by decide +kernel
theorem fl47_55 : am_fld 47 55 = some (5, 1) := by decide +kernel
theorem fl47_24 : am_fld 47 24 = some (5, 8) := by decide +kernel
theorem fl47_58 : am_fld 47 58 = some (5, 7) := by decide +kernel
theorem fl47_27 : am_fld 47 27 = some (5, 9) := by decide +kernel
theorem fl47_30 : am_fld 47 30 = some (5, 10) := by decide +kernel
theorem fl47_33 : am_fld 47 33 = some (5, 11) := by decide +kernel
theorem fl47_36 : am_fld 47 36 = some (5, 12) := by decide +kernel
theorem ml48_79 : am_mth 48 79 = some 34 := by decide +kernel
theorem ml48_86 : am_mth 48 86 = some 35 := by decide +kernel
theorem fl48_20 : am_fld 48 20 = some (5, 6) := by decide +kernel
theorem fl48_58 : am_fld 48 58 = some (5, 7) := by decide +kernel
theorem fl48_45 : am_fld 48 45 = some (5, 0) := by decide +kernel
theorem ml48_89 : am_mth 48 89 = some 47 := by decide +kernel
theorem fl48_55 : am_fld 48 55 = some (5, 1) := by decide +kernel
theorem ml49_79 : am_mth 49 79 = some 34 := by decide +kernel
theorem ml49_86 : am_mth 49 86 = some 35 := by decide +kernel
theorem ml49_71 : am_mth 49 71 = some 37 := by decide +kernel
theorem fl49_45 : am_fld 49 45 = some (5, 0) := by decide +kernel
theorem ml49_75 : am_mth 49 75 = some 39 := by decide +kernel
theorem ml49_65 : am_mth 49 65 = some 40 := by decide +kernel
theorem ml49_68 : am_mth 49 68 = some 41 := by decide +kernel
theorem fl49_27 : am_fld 49 27 = some (5, 9) := by decide +kernel
theorem ml50_79 : am_mth 50 79 = some 34 := by decide +kernel
theorem ml50_86 : am_mth 50 86 = some 35 := by decide +kernel
theorem fl50_45 : am_fld 50 45 = some (5, 0) := by decide +kernel
theorem fl50_58 : am_fld 50 58 = some (5, 7) := by decide +kernel
theorem fl50_30 : am_fld 50 30 = some (5, 10) := by decide +kernel
theorem ml50_93 : am_mth 50 93 = some 43 := by decide +kernel
theorem fl50_27 : am_fld 50 27 = some (5, 9) := by decide +kernel
theorem ml51_79 : am_mth 51 79 = some 34 := by decide +kernel
theorem fl51_20 : am_fld 51 20 = some (5, 6) := by decide +kernel
theorem fl51_45 : am_fld 51 45 = some (5, 0) := by decide +kernel
theorem fl51_55 : am_fld 51 55 = some (5, 1) := by decide +kernel
theorem ml51_75 : am_mth 51 75 = some 39 := by decide +kernel
theorem ml51_96 : am_mth 51 96 = some 42 := by decide +kernel
theorem fl52_13 : am_fld 52 13 = some (5, 4) := by decide +kernel
theorem fl53_55 : am_fld 53 55 = some (5, 1) := by decide +kernel
theorem fl53_17 : am_fld 53 17 = some (5, 5) := by decide +kernel
theorem fl53_13 : am_fld 53 13 = some (5, 4) := by decide +kernel
theorem ml54_99 : am_mth 54 99 = some 52 := by decide +kernel
theorem fl54_13 : am_fld 54 13 = some (5, 4) := by decide +kernel
theorem ml54_102 : am_mth 54 102 = some 53 := by decide +kernel
theorem ml55_79 : am_mth 55 79 = some 34 := by decide +kernel
theorem fl55_45 : am_fld 55 45 = some (5, 0) := by decide +kernel
theorem ml55_106 : am_mth 55 106 = some 54 := by decide +kernel
theorem fl56_55 : am_fld 56 55 = some (5, 1) := by decide +kernel
theorem ml56_75 : am_mth 56 75 = some 39 := by decide +kernel
theorem ml56_96 : am_mth 56 96 = some 42 := by decide +kernel
theorem ml57_79 : am_mth 57 79 = some 34 := by decide +kernel
theorem fl57_45 : am_fld 57 45 = some (5, 0) := by decide +kernel
theorem ml57_106 : am_mth 57 106 = some 54 := by decide +kernel
theorem fl57_20 : am_fld 57 20 = some (5, 6) := by decide +kernel
theorem fl57_48 : am_fld 57 48 = some (5, 2) := by decide +kernel
theorem ml57_109 : am_mth 57 109 = some 56 := by decide +kernel
theorem fl57_55 : am_fld 57 55 = some (5, 1) := by decide +kernel
theorem ml57_75 : am_mth 57 75 = some 39 := by decide +kernel
theorem ml57_96 : am_mth 57 96 = some 42 := by decide +kernel
theorem fl57_58 : am_fld 57 58 = some (5, 7) := by decide +kernel
theorem ml57_65 : am_mth 57 65 = some 40 := by decide +kernel
theorem ml57_68 : am_mth 57 68 = some 41 := by decide +kernel
theorem ml57_89 : am_mth 57 89 = some 47 := by decide +kernel
theorem fl58_48 : am_fld 58 48 = some (5, 2) := by decide +kernel
theorem fl58_55 : am_fld 58 55 = some (5, 1) := by decide +kernel
theorem fl58_45 : am_fld 58 45 = some (5, 0) := by decide +kernel
theorem fl58_58 : am_fld 58 58 = some (5, 7) := by decide +kernel
theorem fl58_39 : am_fld 58 39 = some (5, 13) := by decide +kernel
theorem fl58_7 : am_fld 58 7 = some (5, 3) := by decide +kernel
theorem ml58_93 : am_mth 58 93 = some 43 := by decide +kernel
theorem fl58_24 : am_fld 58 24 = some (5, 8) := by decide +kernel
theorem fl58_27 : am_fld 58 27 = some (5, 9) := by decide +kernel
theorem fl58_30 : am_fld 58 30 = some (5, 10) := by decide +kernel
theorem fl58_33 : am_fld 58 33 = some (5, 11) := by decide +kernel
theorem fl58_36 : am_fld 58 36 = some (5, 12) := by decide +kernel
theorem ml59_75 : am_mth 59 75 = some 39 := by decide +kernel
theorem ml59_65 : am_mth 59 65 = some 40 := by decide +kernel
theorem ml59_68 : am_mth 59 68 = some 41 := by decide +kernel
theorem ml60_75 : am_mth 60 75 = some 39 := by decide +kernel
theorem ml60_65 : am_mth 60 65 = some 40 := by decide +kernel
theorem ml60_68 : am_mth 60 68 = some 41 := by decide +kernel
theorem ml61_79 : am_mth 61 79 = some 34 := by decide +kernel
theorem ml61_71 : am_mth 61 71 = some 37 := by decide +kernel
theorem fl61_45 : am_fld 61 45 = some (5, 0) := by decide +kernel
theorem ml61_112 : am_mth 61 112 = some 59 := by decide +kernel
theorem fl62_116 : am_fld 62 116 = some (5, 14) := by decide +kernel
theorem fl62_45 : am_fld 62 45 = some (5, 0) := by decide +kernel
theorem fl62_42 : am_fld 62 42 = some (5, 15) := by decide +kernel
theorem fl63_45 : am_fld 63 45 = some (5, 0) := by decide +kernel
theorem fl63_116 : am_fld 63 116 = some (5, 14) := by decide +kernel
theorem fl64_119 : am_fld 64 119 = some (5, 16) := by decide +kernel
theorem fl64_116 : am_fld 64 116 = some (5, 14) := by decide +kernel
theorem fl64_42 : am_fld 64 42 = some (5, 15) := by decide +kernel
theorem ml65_122 : am_mth 65 122 = some 64 := by decide +kernel
theorem fl65_119 : am_fld 65 119 = some (5, 16) := by decide +kernel
theorem ml66_122 : am_mth 66 122 = some 64 := by decide +kernel
theorem fl66_126 : am_fld 66 126 = some (5, 17) := by decide +kernel
theorem fl66_119 : am_fld 66 119 = some (5, 16) := by decide +kernel
theorem ml67_122 : am_mth 67 122 = some 64 := by decide +kernel
theorem ml68_130 : am_mth 68 130 = some 65 := by decide +kernel
theorem ml68_133 : am_mth 68 133 = some 66 := by decide +kernel
theorem ml68_136 : am_mth 68 136 = some 67 := by decide +kernel
theorem ml69_133 : am_mth 69 133 = some 66 := by decide +kernel
theorem ml69_140 : am_mth 69 140 = some 60 := by decide +kernel
theorem ml69_112 : am_mth 69 112 = some 59 := by decide +kernel
theorem ml69_130 : am_mth 69 130 = some 65 := by decide +kernel
theorem ml70_133 : am_mth 70 133 = some 66 := by decide +kernel
theorem ml70_122 : am_mth 70 122 = some 64 := by decide +kernel
theorem fl70_126 : am_fld 70 126 = some (5, 17) := by decide +kernel
theorem fl70_119 : am_fld 70 119 = some (5, 16) := by decide +kernel
theorem ml70_143 : am_mth 70 143 = some 68 := by decide +kernel
theorem ml70_75 : am_mth 70 75 = some 39 := by decide +kernel
theorem ml70_68 : am_mth 70 68 = some 41 := by decide +kernel
theorem ml70_65 : am_mth 70 65 = some 40 := by decide +kernel
theorem ml71_133 : am_mth 71 133 = some 66 := by decide +kernel
theorem ml71_75 : am_mth 71 75 = some 39 := by decide +kernel
theorem ml71_65 : am_mth 71 65 = some 40 := by decide +kernel
theorem ml72_130 : am_mth 72 130 = some 65 := by decide +kernel
theorem ml72_146 : am_mth 72 146 = some 69 := by decide +kernel
theorem ml72_150 : am_mth 72 150 = some 70 := by decide +kernel
theorem fl72_126 : am_fld 72 126 = some (5, 17) := by decide +kernel
theorem ml72_153 : am_mth 72 153 = some 71 := by decide +kernel
theorem ml73_79 : am_mth 73 79 = some 34 := by decide +kernel
theorem ml73_71 : am_mth 73 71 = some 37 := by decide +kernel
theorem fl73_45 : am_fld 73 45 = some (5, 0) := by decide +kernel
theorem fl73_119 : am_fld 73 119 = some (5, 16) := by decide +kernel
theorem fl73_116 : am_fld 73 116 = some (5, 14) := by decide +kernel
theorem fl73_42 : am_fld 73 42 = some (5, 15) := by decide +kernel
theorem fl73_126 : am_fld 73 126 = some (5, 17) := by decide +kernel
theorem ml73_156 : am_mth 73 156 = some 72 := by decide +kernel
theorem fl74_45 : am_fld 74 45 = some (5, 0) := by decide +kernel
theorem fl74_55 : am_fld 74 55 = some (5, 1) := by decide +kernel
theorem fl74_48 : am_fld 74 48 = some (5, 2) := by decide +kernel
theorem fl74_58 : am_fld 74 58 = some (5, 7) := by decide +kernel
theorem fl74_7 : am_fld 74 7 = some (5, 3) := by decide +kernel
theorem ml75_79 : am_mth 75 79 = some 34 := by decide +kernel
theorem fl75_45 : am_fld 75 45 = some (5, 0) := by decide +kernel
theorem fl75_58 : am_fld 75 58 = some (5, 7) := by decide +kernel
theorem fl75_24 : am_fld 75 24 = some (5, 8) := by decide +kernel
theorem fl75_20 : am_fld 75 20 = some (5, 6) := by decide +kernel
theorem fl75_13 : am_fld 75 13 = some (5, 4) := by decide +kernel
theorem fl75_17 : am_fld 75 17 = some (5, 5) := by decide +kernel
theorem fl76_25 : am_fld 76 25 = some (0, 4) := by decide +kernel
theorem fl76_9 : am_fld 76 9 = some (0, 0) := by decide +kernel
theorem fl76_15 : am_fld 76 15 = some (0, 1) := by decide +kernel
theorem fl76_18 : am_fld 76 18 = some (0, 2) := by decide +kernel
theorem fl77_25 : am_fld 77 25 = some (0, 4) := by decide +kernel
theorem fl77_18 : am_fld 77 18 = some (0, 2) := by decide +kernel
theorem fl78_15 : am_fld 78 15 = some (0, 1) := by decide +kernel
theorem fl78_9 : am_fld 78 9 = some (0, 0) := by decide +kernel
theorem fl79_22 : am_fld 79 22 = some (0, 3) := by decide +kernel
theorem ml79_38 : am_mth 79 38 = some 129 := by decide +kernel
theorem fl79_9 : am_fld 79 9 = some (0, 0) := by decide +kernel
theorem fl79_15 : am_fld 79 15 = some (0, 1) := by decide +kernel
theorem ml80_25 : am_mth 80 25 = some 94 := by decide +kernel
theorem fl81_15 : am_fld 81 15 = some (1, 1) := by decide +kernel
theorem ml81_25 : am_mth 81 25 = some 94 := by decide +kernel
theorem ml82_25 : am_mth 82 25 = some 94 := by decide +kernel
theorem fl82_9 : am_fld 82 9 = some (1, 0) := by decide +kernel
theorem fl82_15 : am_fld 82 15 = some (1, 1) := by decide +kernel
theorem fl83_15 : am_fld 83 15 = some (1, 1) := by decide +kernel
theorem fl84_19 : am_fld 84 19 = some (1, 2) := by decide +kernel
theorem ml84_29 : am_mth 84 29 = some 85 := by decide +kernel
theorem fl84_15 : am_fld 84 15 = some (1, 1) := by decide +kernel
theorem ml84_33 : am_mth 84 33 = some 86 := by decide +kernel
theorem fl84_22 : am_fld 84 22 = some (1, 3) := by decide +kernel
theorem ml85_37 : am_mth 85 37 = some 91 := by decide +kernel
theorem fl85_22 : am_fld 85 22 = some (1, 3) := by decide +kernel
theorem ml85_41 : am_mth 85 41 = some 30 := by decide +kernel
theorem ml86_37 : am_mth 86 37 = some 91 := by decide +kernel
theorem ml86_45 : am_mth 86 45 = some 87 := by decide +kernel
theorem ml86_49 : am_mth 86 49 = some 89 := by decide +kernel
theorem fl86_22 : am_fld 86 22 = some (1, 3) := by decide +kernel
theorem ml86_53 : am_mth 86 53 = some 101 := by decide +kernel
theorem ml87_58 : am_mth 87 58 = some 92 := by decide +kernel
theorem ml87_62 : am_mth 87 62 = some 88 := by decide +kernel
theorem fl87_22 : am_fld 87 22 = some (1, 3) := by decide +kernel
theorem fl88_22 : am_fld 88 22 = some (1, 3) := by decide +kernel
theorem ml88_66 : am_mth 88 66 = some 97 := by decide +kernel
theorem ml88_69 : am_mth 88 69 = some 98 := by decide +kernel
theorem ml89_37 : am_mth 89 37 = some 91 := by decide +kernel
theorem ml89_72 : am_mth 89 72 = some 90 := by decide +kernel
theorem ml89_58 : am_mth 89 58 = some 92 := by decide +kernel
theorem fl89_22 : am_fld 89 22 = some (1, 3) := by decide +kernel
theorem ml89_76 : am_mth 89 76 = some 100 := by decide +kernel
theorem ml90_58 : am_mth 90 58 = some 92 := by decide +kernel
theorem fl90_19 : am_fld 90 19 = some (1, 2) := by decide +kernel
theorem fl90_15 : am_fld 90 15 = some (1, 1) := by decide +kernel
theorem fl90_9 : am_fld 90 9 = some (1, 0) := by decide +kernel
theorem ml90_80 : am_mth 90 80 = some 93 := by decide +kernel
theorem fl91_19 : am_fld 91 19 = some (1, 2) := by decide +kernel
theorem fl91_15 : am_fld 91 15 = some (1, 1) := by decide +kernel
theorem fl91_9 : am_fld 91 9 = some (1, 0) := by decide +kernel
theorem fl92_19 : am_fld 92 19 = some (1, 2) := by decide +kernel
theorem fl92_15 : am_fld 92 15 = some (1, 1) := by decide +kernel
theorem fl92_9 : am_fld 92 9 = some (1, 0) := by decide +kernel
theorem fl95_9 : am_fld 95 9 = some (2, 0) := by decide +kernel
theorem ml95_21 : am_mth 95 21 = some 129 := by decide +kernel
theorem fl95_15 : am_fld 95 15 = some (2, 1) := by decide +kernel
theorem fl95_18 : am_fld 95 18 = some (2, 2) := by decide +kernel
theorem fl96_9 : am_fld 96 9 = some (2, 0) := by decide +kernel
theorem fl96_15 : am_fld 96 15 = some (2, 1) := by decide +kernel
theorem ml97_27 : am_mth 97 27 = some 104 := by decide +kernel
theorem ml97_31 : am_mth 97 31 = some 32 := by decide +kernel
theorem ml97_35 : am_mth 97 35 = some 102 := by decide +kernel
theorem ml98_31 : am_mth 98 31 = some 32 := by decide +kernel
theorem ml98_35 : am_mth 98 35 = some 102 := by decide +kernel
theorem ml99_39 : am_mth 99 39 = some 97 := by decide +kernel
theorem ml100_31 : am_mth 100 31 = some 32 := by decide +kernel
theorem ml100_27 : am_mth 100 27 = some 104 := by decide +kernel
theorem fl100_9 : am_fld 100 9 = some (2, 0) := by decide +kernel
theorem fl100_15 : am_fld 100 15 = some (2, 1) := by decide +kernel
theorem ml100_42 : am_mth 100 42 = some 103 := by decide +kernel
theorem ml101_27 : am_mth 101 27 = some 104 := by decide +kernel
theorem fl101_9 : am_fld 101 9 = some (2, 0) := by decide +kernel
theorem ml101_31 : am_mth 101 31 = some 32 := by decide +kernel
theorem fl102_9 : am_fld 102 9 = some (2, 0) := by decide +kernel
theorem fl102_15 : am_fld 102 15 = some (2, 1) := by decide +kernel
theorem fl105_9 : am_fld 105 9 = some (3, 0) := by decide +kernel
theorem fl105_31 : am_fld 105 31 = some (3, 6) := by decide +kernel
theorem fl105_15 : am_fld 105 15 = some (3, 1) := by decide +kernel
theorem fl105_18 : am_fld 105 18 = some (3, 2) := by decide +kernel
theorem fl105_21 : am_fld 105 21 = some (3, 3) := by decide +kernel
theorem fl105_24 : am_fld 105 24 = some (3, 4) := by decide +kernel
theorem fl106_31 : am_fld 106 31 = some (3, 6) := by decide +kernel
theorem fl106_9 : am_fld 106 9 = some (3, 0) := by decide +kernel
theorem ml107_35 : am_mth 107 35 = some 95 := by decide +kernel
theorem fl107_31 : am_fld 107 31 = some (3, 6) := by decide +kernel
theorem fl107_15 : am_fld 107 15 = some (3, 1) := by decide +kernel
theorem fl107_9 : am_fld 107 9 = some (3, 0) := by decide +kernel
theorem fl107_40 : am_fld 107 40 = some (2, 0) := by decide +kernel
theorem fl107_18 : am_fld 107 18 = some (3, 2) := by decide +kernel
theorem fl107_21 : am_fld 107 21 = some (3, 3) := by decide +kernel
theorem fl107_41 : am_fld 107 41 = some (2, 1) := by decide +kernel
theorem fl107_24 : am_fld 107 24 = some (3, 4) := by decide +kernel
theorem fl107_42 : am_fld 107 42 = some (2, 2) := by decide +kernel
theorem fl108_31 : am_fld 108 31 = some (3, 6) := by decide +kernel
theorem fl108_27 : am_fld 108 27 = some (3, 5) := by decide +kernel
theorem fl109_31 : am_fld 109 31 = some (3, 6) := by decide +kernel
theorem fl109_15 : am_fld 109 15 = some (3, 1) := by decide +kernel
theorem fl109_42 : am_fld 109 42 = some (2, 2) := by decide +kernel
theorem fl109_18 : am_fld 109 18 = some (3, 2) := by decide +kernel
theorem fl109_27 : am_fld 109 27 = some (3, 5) := by decide +kernel
theorem fl110_31 : am_fld 110 31 = some (3, 6) := by decide +kernel
theorem fl110_9 : am_fld 110 9 = some (3, 0) := by decide +kernel
theorem fl110_15 : am_fld 110 15 = some (3, 1) := by decide +kernel
theorem fl110_27 : am_fld 110 27 = some (3, 5) := by decide +kernel
theorem fl111_31 : am_fld 111 31 = some (3, 6) := by decide +kernel
theorem fl111_27 : am_fld 111 27 = some (3, 5) := by decide +kernel
theorem fl111_18 : am_fld 111 18 = some (3, 2) := by decide +kernel
theorem fl111_15 : am_fld 111 15 = some (3, 1) := by decide +kernel
theorem fl112_31 : am_fld 112 31 = some (3, 6) := by decide +kernel
theorem fl112_27 : am_fld 112 27 = some (3, 5) := by decide +kernel
theorem ml112_43 : am_mth 112 43 = some 113 := by decide +kernel
theorem fl113_9 : am_fld 113 9 = some (3, 0) := by decide +kernel
theorem fl113_15 : am_fld 113 15 = some (3, 1) := by decide +kernel
theorem fl113_18 : am_fld 113 18 = some (3, 2) := by decide +kernel
theorem fl113_21 : am_fld 113 21 = some (3, 3) := by decide +kernel
theorem fl113_24 : am_fld 113 24 = some (3, 4) := by decide +kernel
theorem ml114_7 : am_mth 114 7 = some 0 := by decide +kernel
theorem ml115_19 : am_mth 115 19 = some 1 := by decide +kernel
theorem ml116_23 : am_mth 116 23 = some 2 := by decide +kernel
theorem ml117_29 : am_mth 117 29 = some 3 := by decide +kernel
theorem ml118_32 : am_mth 118 32 = some 4 := by decide +kernel
theorem ml119_36 : am_mth 119 36 = some 5 := by decide +kernel
theorem ml120_40 : am_mth 120 40 = some 6 := by decide +kernel
theorem ml121_43 : am_mth 121 43 = some 7 := by decide +kernel
theorem ml122_46 : am_mth 122 46 = some 8 := by decide +kernel
theorem ml123_50 : am_mth 123 50 = some 9 := by decide +kernel
theorem ml124_53 : am_mth 124 53 = some 10 := by decide +kernel
theorem ml125_56 : am_mth 125 56 = some 12 := by decide +kernel
theorem ml126_59 : am_mth 126 59 = some 13 := by decide +kernel
theorem ml127_62 : am_mth 127 62 = some 14 := by decide +kernel
theorem ml128_69 : am_mth 128 69 = some 114 := by decide +kernel
theorem ml128_74 : am_mth 128 74 = some 44 := by decide +kernel
theorem ml128_75 : am_mth 128 75 = some 33 := by decide +kernel
theorem ml128_79 : am_mth 128 79 = some 115 := by decide +kernel
theorem ml128_82 : am_mth 128 82 = some 46 := by decide +kernel
theorem ml128_83 : am_mth 128 83 = some 116 := by decide +kernel
theorem ml128_86 : am_mth 128 86 = some 48 := by decide +kernel
theorem ml128_87 : am_mth 128 87 = some 117 := by decide +kernel
theorem ml128_89 : am_mth 128 89 = some 49 := by decide +kernel
theorem ml128_90 : am_mth 128 90 = some 118 := by decide +kernel
theorem ml128_93 : am_mth 128 93 = some 50 := by decide +kernel
theorem ml128_94 : am_mth 128 94 = some 119 := by decide +kernel
theorem ml128_97 : am_mth 128 97 = some 51 := by decide +kernel
theorem ml128_98 : am_mth 128 98 = some 120 := by decide +kernel
theorem ml128_100 : am_mth 128 100 = some 55 := by decide +kernel
theorem ml128_101 : am_mth 128 101 = some 121 := by decide +kernel
theorem ml128_103 : am_mth 128 103 = some 57 := by decide +kernel
theorem ml128_104 : am_mth 128 104 = some 122 := by decide +kernel
theorem ml128_107 : am_mth 128 107 = some 58 := by decide +kernel
theorem ml128_108 : am_mth 128 108 = some 123 := by decide +kernel
theorem ml128_110 : am_mth 128 110 = some 61 := by decide +kernel
theorem ml128_111 : am_mth 128 111 = some 124 := by decide +kernel
theorem ml128_113 : am_mth 128 113 = some 62 := by decide +kernel
theorem ml128_114 : am_mth 128 114 = some 11 := by decide +kernel
theorem ml128_117 : am_mth 128 117 = some 63 := by decide +kernel
theorem ml128_118 : am_mth 128 118 = some 125 := by decide +kernel
theorem ml128_120 : am_mth 128 120 = some 73 := by decide +kernel
theorem ml128_121 : am_mth 128 121 = some 126 := by decide +kernel
theorem ml128_123 : am_mth 128 123 = some 74 := by decide +kernel
theorem ml128_124 : am_mth 128 124 = some 127 := by decide +kernel
theorem ml128_126 : am_mth 128 126 = some 75 := by decide +kernel
theorem sh_0 : am_sh 0 = some (.inr (4, [some 1, some 6, some 13, some 17, some 21, some 25, none, none])) := rfl
theorem sh_1 : am_sh 1 = some (.inr (0, [some 2, some 3, some 4, some 5, none])) := rfl
theorem sh_2 : am_sh 2 = some (.inl (.int, 6)) := rfl
theorem sh_3 : am_sh 3 = some (.inl (.int, 6)) := rfl
theorem sh_4 : am_sh 4 = some (.inl (.boolean, 6)) := rfl
theorem sh_5 : am_sh 5 = some (.inl (.int, 6)) := rfl
theorem sh_6 : am_sh 6 = some (.inr (3, [some 7, some 8, some 9, some 10, some 11, some 12, none])) := rfl
theorem sh_7 : am_sh 7 = some (.inl (.int, 120)) := rfl
theorem sh_8 : am_sh 8 = some (.inl (.int, 120)) := rfl
theorem sh_9 : am_sh 9 = some (.inl (.int, 120)) := rfl
theorem sh_10 : am_sh 10 = some (.inl (.int, 120)) := rfl
theorem sh_11 : am_sh 11 = some (.inl (.int, 120)) := rfl
theorem sh_12 : am_sh 12 = some (.inl (.boolean, 120)) := rfl
theorem sh_13 : am_sh 13 = some (.inr (2, [some 14, some 15, some 16])) := rfl
theorem sh_14 : am_sh 14 = some (.inl (.int, 48)) := rfl
theorem sh_15 : am_sh 15 = some (.inl (.int, 48)) := rfl
theorem sh_16 : am_sh 16 = some (.inl (.int, 48)) := rfl
theorem sh_17 : am_sh 17 = some (.inr (2, [some 18, some 19, some 20])) := rfl
theorem sh_18 : am_sh 18 = some (.inl (.int, 48)) := rfl
theorem sh_19 : am_sh 19 = some (.inl (.int, 48)) := rfl
theorem sh_20 : am_sh 20 = some (.inl (.int, 48)) := rfl
theorem sh_21 : am_sh 21 = some (.inr (2, [some 22, some 23, some 24])) := rfl
theorem sh_22 : am_sh 22 = some (.inl (.int, 48)) := rfl
theorem sh_23 : am_sh 23 = some (.inl (.int, 48)) := rfl
theorem sh_24 : am_sh 24 = some (.inl (.int, 48)) := rfl
theorem sh_25 : am_sh 25 = some (.inr (1, [some 26, none, none, none])) := rfl
theorem sh_26 : am_sh 26 = some (.inl (.char, 32)) := rfl
theorem sh_27 : am_sh 27 = some (.inr (5, [none, none, none, none, some 28, some 29, some 30, none, some 31, some 32, some 33, some 34, some 35, some 36, none, some 37, none, none])) := rfl
theorem sh_28 : am_sh 28 = some (.inl (.int, 6)) := rfl
theorem sh_29 : am_sh 29 = some (.inl (.int, 6)) := rfl
theorem sh_30 : am_sh 30 = some (.inl (.boolean, 6)) := rfl
theorem sh_31 : am_sh 31 = some (.inl (.int, 120)) := rfl
theorem sh_32 : am_sh 32 = some (.inl (.int, 120)) := rfl
theorem sh_33 : am_sh 33 = some (.inl (.int, 120)) := rfl
theorem sh_34 : am_sh 34 = some (.inl (.int, 120)) := rfl
theorem sh_35 : am_sh 35 = some (.inl (.int, 120)) := rfl
theorem sh_36 : am_sh 36 = some (.inl (.boolean, 120)) := rfl
theorem sh_37 : am_sh 37 = some (.inl (.int, 32)) := rfl
theorem sh_38 : am_sh 38 = some (.inl (.long, 1)) := rfl
end
section
/-! rows with a place that is known to be a number; loops; memories that agree but for some places -/
section AME
variable {k pc : Nat} {L st r : List Value} {M : am_M} {Q : am_T}
theorem am_ialdE (i : Nat) {x : Int32} {p n : Nat} (hx : x = nI i) (d : decode (am_bytes k) pc = .ok (.iaload, 1)) (hs : am_sh p = some (.inl (.int, n))) (hi : i < n) (hn : n < 2 ^ 31) (h : am_W k (pc + 1) L (.int (M.1 p i) :: r) M Q) : am_W k pc L (.int x :: .ref p :: r) M Q := by
  subst hx; exact am_ialdN i d hs hi hn h
theorem am_zaldE (i : Nat) {x : Int32} {p n : Nat} (hx : x = nI i) (d : decode (am_bytes k) pc = .ok (.baload, 1)) (hs : am_sh p = some (.inl (.boolean, n))) (hi : i < n) (hn : n < 2 ^ 31) (h : am_W k (pc + 1) L (.int (M.1 p i) :: r) M Q) : am_W k pc L (.int x :: .ref p :: r) M Q := by
  subst hx; exact am_zaldN i d hs hi hn h
theorem am_caldE (i : Nat) {x : Int32} {p n : Nat} (hx : x = nI i) (d : decode (am_bytes k) pc = .ok (.caload, 1)) (hs : am_sh p = some (.inl (.char, n))) (hi : i < n) (hn : n < 2 ^ 31) (h : am_W k (pc + 1) L (.int (M.1 p i) :: r) M Q) : am_W k pc L (.int x :: .ref p :: r) M Q := by
  subst hx; exact am_caldN i d hs hi hn h
theorem am_iastE (i : Nat) {x v : Int32} {p n : Nat} (hx : x = nI i) (d : decode (am_bytes k) pc = .ok (.iastore, 1)) (hs : am_sh p = some (.inl (.int, n))) (hi : i < n) (hn : n < 2 ^ 31) (h : am_W k (pc + 1) L r (am_set M p i v) Q) : am_W k pc L (.int v :: .int x :: .ref p :: r) M Q := by
  subst hx; exact am_iastN i d hs hi hn h
theorem am_zastE (i : Nat) {x v : Int32} (w : Int32) {p n : Nat} (hx : x = nI i) (d : decode (am_bytes k) pc = .ok (.bastore, 1)) (hs : am_sh p = some (.inl (.boolean, n))) (hi : i < n) (hn : n < 2 ^ 31) (hv : vp_nar .boolean v = w) (h : am_W k (pc + 1) L r (am_set M p i w) Q) : am_W k pc L (.int v :: .int x :: .ref p :: r) M Q := by
  subst hx; exact am_zastN i w d hs hi hn hv h
theorem am_castE (i : Nat) {x v : Int32} (w : Int32) {p n : Nat} (hx : x = nI i) (d : decode (am_bytes k) pc = .ok (.castore, 1)) (hs : am_sh p = some (.inl (.char, n))) (hi : i < n) (hn : n < 2 ^ 31) (hv : vp_nar .char v = w) (h : am_W k (pc + 1) L r (am_set M p i w) Q) : am_W k pc L (.int v :: .int x :: .ref p :: r) M Q := by
  subst hx; exact am_castN i w d hs hi hn hv h
theorem am_saldE (i : Nat) {x : Int32} (hx : x = nI i) (d : decode (am_bytes k) pc = .ok (.iaload, 1)) (hi : i < M.2.2.2.1) (hn : M.2.2.2.1 < 2 ^ 31) (h : am_W k (pc + 1) L (.int (M.2.2.2.2 i) :: r) M Q) : am_W k pc L (.int x :: .ref am_SC :: r) M Q := by
  subst hx; exact am_saldN i d hi hn h
end AME
theorem am_loop {P : Nat → Prop} (n : Nat) (hs : ∀ i, i ≤ n → (i < n → P (i + 1)) → P i) : ∀ i, i ≤ n → P i := by
  have key : ∀ d i, i ≤ n → n - i = d → P i := by
    intro d
    induction d with
    | zero => intro i h1 h2; exact hs i h1 (fun h => absurd h (by omega))
    | succ d ih => intro i h1 h2; exact hs i h1 (fun h => ih (i + 1) (by omega) (by omega))
  exact fun i h => key _ i h rfl
/-- the two memories agree but for the places S -/
def fr (S : List Nat) (M M' : am_M) : Prop := (∀ p, p ∉ S → M'.1 p = M.1 p) ∧ M'.2 = M.2
theorem fr.rf {S : List Nat} {M : am_M} : fr S M M := ⟨fun _ _ => rfl, rfl⟩
theorem fr.tr {S : List Nat} {M M' M2 : am_M} (h1 : fr S M M') (h2 : fr S M' M2) : fr S M M2 := ⟨fun p hp => (h2.1 p hp).trans (h1.1 p hp), h2.2.trans h1.2⟩
theorem fr.wk {S S' : List Nat} {M M' : am_M} (h : fr S M M') (hs : ∀ p ∈ S, p ∈ S') : fr S' M M' := ⟨fun p hp => h.1 p (fun z => hp (hs p z)), h.2⟩
theorem fr.set {S : List Nat} {M M' : am_M} {p i : Nat} {x : Int32} (h : fr S M M') (hp : p ∈ S) : fr S M (am_set M' p i x) := ⟨fun q hq => by rw [am_set_ne (fun z => hq (by rw [z]; exact hp))]; exact h.1 q hq, h.2⟩
theorem fr.eq {S : List Nat} {M M' : am_M} (h : fr S M M') (p : Nat) (hp : p ∉ S) : M'.1 p = M.1 p := h.1 p hp
def am_fill (M : am_M) (p n : Nat) (x : Int32) : am_M := (va_up M.1 p (fun i => if i < n then x else M.1 p i), M.2)
theorem am_fill_self {M : am_M} {p n : Nat} {x : Int32} {i : Nat} (h : i < n) : (am_fill M p n x).1 p i = x := by
  show va_up M.1 p _ p i = x
  rw [va_up_self, if_pos h]
theorem am_fill_ne {M : am_M} {p q n : Nat} {x : Int32} (h : q ≠ p) : (am_fill M p n x).1 q = M.1 q := va_up_ne _ _ h
theorem am_fill_fr {S : List Nat} {M M' : am_M} {p n : Nat} {x : Int32} (h : fr S M M') (hp : p ∈ S) : fr S M (am_fill M' p n x) := ⟨fun q hq => by rw [am_fill_ne (fun z => hq (by rw [z]; exact hp))]; exact h.1 q hq, h.2⟩
theorem am_fill_0 {M : am_M} {p : Nat} {x : Int32} : am_fill M p 0 x = M := by
  have : va_up M.1 p (fun i => if i < 0 then x else M.1 p i) = M.1 := by
    funext q
    by_cases h : q = p
    · subst h; rw [va_up_self]; funext i; simp
    · rw [va_up_ne _ _ h]
  show (va_up M.1 p (fun i => if i < 0 then x else M.1 p i), M.2) = M
  rw [this]
theorem am_fill_s {M : am_M} {p i : Nat} {x : Int32} : am_set (am_fill M p i x) p i x = am_fill M p (i + 1) x := by
  have : va_up (am_fill M p i x).1 p (upd ((am_fill M p i x).1 p) i x) = va_up M.1 p (fun j => if j < i + 1 then x else M.1 p j) := by
    funext q
    by_cases h : q = p
    · subst h
      rw [va_up_self, va_up_self]
      funext j
      unfold upd
      by_cases hj : j = i
      · rw [if_pos hj, if_pos (by omega)]
      · rw [if_neg hj]
        show va_up M.1 q (fun j => if j < i then x else M.1 q j) q j = _
        rw [va_up_self]
        by_cases h2 : j < i
        · rw [if_pos h2, if_pos (by omega)]
        · rw [if_neg h2, if_neg (by omega)]
    · rw [va_up_ne _ _ h, va_up_ne _ _ h, am_fill_ne h]
  show (_, _) = (_, _)
  rw [this]
  rfl
end
section
/-! SIGHT: what is in sight on a branch at a moment, as a limit for each branch -/
def mt_min (u f : Int32) : Int32 := if f < u then f else u
theorem mt_min_pos {u f : Int32} (hu : 0 ≤ u) (hf : 0 ≤ f) : 0 ≤ mt_min u f := by unfold mt_min; split <;> assumption
theorem mt_min_le {u f : Int32} : mt_min u f ≤ u := by
  unfold mt_min
  split
  next h => exact Int32.le_of_lt h
  next => exact Int32.le_refl _
theorem mt_min_le2 {u f : Int32} : mt_min u f ≤ f := by
  unfold mt_min
  split
  next => exact Int32.le_refl _
  next h => exact Int32.not_lt.mp h
theorem mt_pos_ne {u : Int32} (hu : 0 ≤ u) : ¬ u = -1 := by
  intro h
  rw [h] at hu
  exact absurd hu (by decide)
/-- the limit for branch j, seen from branch b at moment m; d: at least b -/
def mt_f (pn : Nat → Nat) (fk : Nat → Int32) : Nat → Nat → Int32 → Nat → Int32
  | 0, b, m, j => if j = b then m else -1
  | d + 1, b, m, j => if j = b then m else if b = 0 then -1 else mt_f pn fk d (pn b) (mt_min m (fk b)) j
section MS
variable {pn : Nat → Nat} {fk : Nat → Int32} {nb : Nat}
theorem mt_f_self (d b : Nat) (m : Int32) : mt_f pn fk d b m b = m := by cases d <;> simp [mt_f]
theorem mt_f_step {d b : Nat} {m : Int32} {j : Nat} (hj : j ≠ b) (hb : b ≠ 0) : mt_f pn fk (d + 1) b m j = mt_f pn fk d (pn b) (mt_min m (fk b)) j := by simp [mt_f, hj, hb]
theorem mt_f_0 {d : Nat} {m : Int32} {j : Nat} (hj : j ≠ 0) : mt_f pn fk d 0 m j = -1 := by cases d <;> simp [mt_f, hj]
theorem mt_f_fuel (hp : ∀ b, 0 < b → b < nb → pn b < b) : ∀ (d d' b : Nat) (m : Int32) (j : Nat), b < nb → b ≤ d → b ≤ d' → mt_f pn fk d b m j = mt_f pn fk d' b m j := by
  intro d
  induction d with
  | zero =>
    intro d' b m j hb h1 h2
    have : b = 0 := by omega
    subst this
    by_cases hj : j = 0
    · subst hj; rw [mt_f_self, mt_f_self]
    · rw [mt_f_0 hj, mt_f_0 hj]
  | succ d ih =>
    intro d' b m j hb h1 h2
    by_cases hj : j = b
    · subst hj; rw [mt_f_self, mt_f_self]
    · by_cases h0 : b = 0
      · subst h0; rw [mt_f_0 hj, mt_f_0 hj]
      · obtain ⟨d'', rfl⟩ : ∃ d'', d' = d'' + 1 := ⟨d' - 1, by omega⟩
        rw [mt_f_step hj h0, mt_f_step hj h0]
        have := hp b (by omega) hb
        exact ih d'' (pn b) _ j (by omega) (by omega) (by omega)
theorem mt_f_above (hp : ∀ b, 0 < b → b < nb → pn b < b) : ∀ (d b : Nat) (m : Int32) (j : Nat), b < nb → b ≤ d → b < j → mt_f pn fk d b m j = -1 := by
  intro d
  induction d with
  | zero => intro b m j hb h1 h2; simp [mt_f]; omega
  | succ d ih =>
    intro b m j hb h1 h2
    by_cases h0 : b = 0
    · subst h0; exact mt_f_0 (by omega)
    · rw [mt_f_step (by omega) h0]
      have := hp b (by omega) hb
      exact ih (pn b) _ j (by omega) (by omega) (by omega)
theorem mt_f_le (hp : ∀ b, 0 < b → b < nb → pn b < b) (hf : ∀ b, b < nb → 0 ≤ fk b) : ∀ (d b : Nat) (m : Int32) (j : Nat), b < nb → b ≤ d → 0 ≤ m → mt_f pn fk d b m j ≤ m := by
  intro d
  have h1 : ∀ m : Int32, 0 ≤ m → -1 ≤ m := fun m hm => Int32.le_trans (by decide) hm
  induction d with
  | zero =>
    intro b m j hb h1' h2
    by_cases hj : j = b
    · subst hj; rw [mt_f_self]; exact Int32.le_refl _
    · simp [mt_f, hj]; exact h1 m h2
  | succ d ih =>
    intro b m j hb h1' h2
    by_cases hj : j = b
    · subst hj; rw [mt_f_self]; exact Int32.le_refl _
    · by_cases h0 : b = 0
      · subst h0; rw [mt_f_0 hj]; exact h1 m h2
      · rw [mt_f_step hj h0]
        have h3 := hp b (by omega) hb
        exact Int32.le_trans (ih (pn b) _ j (by omega) (by omega) (mt_min_pos h2 (hf b hb))) mt_min_le
/-- one step of the limits, from child c down -/
theorem mt_f_down (hp : ∀ b, 0 < b → b < nb → pn b < b) {c : Nat} (hc : c < nb) (h0 : 0 < c) {u : Int32} {j : Nat} (hj : j < c) : mt_f pn fk c c u j = mt_f pn fk (pn c) (pn c) (mt_min u (fk c)) j := by
  obtain ⟨c', rfl⟩ : ∃ c', c = c' + 1 := ⟨c - 1, by omega⟩
  rw [mt_f_step (by omega) (by omega)]
  have := hp (c' + 1) h0 hc
  exact mt_f_fuel hp _ _ _ _ _ (by omega) (by omega) (by omega)
end MS
end
section
/-! what a view shows: the last row in sight -/
def sp_last (f : Nat → Bool) : Nat → Option Nat
  | 0 => none
  | n + 1 => if f n = true then some n else sp_last f n
def sp_get (f : Nat → Int32) (d : Int32) : Option Nat → Int32
  | none => d
  | some i => f i
/-- row i is in cell c and within the limits -/
def sp_in (wb wm wc lim : Nat → Int32) (c i : Nat) : Bool := decide (wc i = nI c) && decide (wm i ≤ lim (wb i).toNatClampNeg)
theorem sp_last_s {f : Nat → Bool} {n : Nat} (h : f n = true) : sp_last f (n + 1) = some n := by simp [sp_last, h]
theorem sp_last_n {f : Nat → Bool} {n : Nat} (h : ¬ f n = true) : sp_last f (n + 1) = sp_last f n := by simp [sp_last, h]
theorem sp_last_lt {f : Nat → Bool} {n i : Nat} (h : sp_last f n = some i) : i < n ∧ f i = true := by
  induction n with
  | zero => cases h
  | succ n ih =>
    by_cases hf : f n = true
    · rw [sp_last_s hf] at h; cases h; exact ⟨by omega, hf⟩
    · rw [sp_last_n hf] at h; obtain ⟨h1, h2⟩ := ih h; exact ⟨by omega, h2⟩
theorem sp_last_ge {f : Nat → Bool} {n i j : Nat} (h : sp_last f n = some i) (hj : j < n) (hij : i < j) : ¬ f j = true := by
  induction n with
  | zero => cases h
  | succ n ih =>
    by_cases hf : f n = true
    · rw [sp_last_s hf] at h; cases h; omega
    · rw [sp_last_n hf] at h
      by_cases hjn : j = n
      · subst hjn; exact hf
      · exact ih h (by omega)
theorem sp_last_none {f : Nat → Bool} {n j : Nat} (h : sp_last f n = none) (hj : j < n) : ¬ f j = true := by
  induction n with
  | zero => omega
  | succ n ih =>
    by_cases hf : f n = true
    · rw [sp_last_s hf] at h; cases h
    · rw [sp_last_n hf] at h
      by_cases hjn : j = n
      · subst hjn; exact hf
      · exact ih h (by omega)
theorem sp_last_of {f : Nat → Bool} {n i : Nat} (hi : i < n) (hf : f i = true) (h : ∀ j, i < j → j < n → ¬ f j = true) : sp_last f n = some i := by
  induction n with
  | zero => omega
  | succ n ih =>
    by_cases hin : i = n
    · subst hin; exact sp_last_s hf
    · rw [sp_last_n (h n (by omega) (by omega))]
      exact ih (by omega) (fun j h1 h2 => h j h1 (by omega))
theorem sp_last_congr {f g : Nat → Bool} {n : Nat} (h : ∀ i, i < n → f i = g i) : sp_last f n = sp_last g n := by
  induction n with
  | zero => rfl
  | succ n ih =>
    simp only [sp_last]
    rw [h n (by omega), ih (fun i hi => h i (by omega))]
/-- the rows of the writes are of branches and cells -/
def bp_R (wb wc : Nat → Int32) (nb nw : Nat) : Prop := nw ≤ 120 ∧ ∀ i, i < nw → (∃ b, b < nb ∧ wb i = nI b) ∧ ∃ c, c < 48 ∧ wc i = nI c
end
section
/-! numbers that are places -/
def ix (x : Int32) (n : Nat) : Prop := ∃ j, j < n ∧ x = nI j
theorem ix_neg {x : Int32} {n : Nat} (hn : n < 2 ^ 31) (h : x < 0) : ¬ ix x n := by
  rintro ⟨j, hj, rfl⟩
  exact nI_pos (by omega) h
theorem ix_ge {x : Int32} {n : Nat} (hn : n < 2 ^ 31) (h : nI n ≤ x) : ¬ ix x n := by
  rintro ⟨j, hj, rfl⟩
  exact nI_ge hj hn h
theorem ix_in {x : Int32} {n : Nat} (hn : n < 2 ^ 31) (h0 : ¬ x < 0) (h : ¬ nI n ≤ x) : ix x n := by
  rcases pk_ix x hn with h1 | h1 | h1
  · exact absurd h1 h0
  · exact absurd h1 h
  · exact h1
theorem ix_lt {x : Int32} {n : Nat} (hn : n < 2 ^ 31) (h0 : ¬ x < 0) (h : x < nI n) : ix x n := ix_in hn h0 (Int32.not_le.mpr h)
theorem ix_nlt {x : Int32} {n : Nat} (hn : n < 2 ^ 31) (h : ¬ x < nI n) : ¬ ix x n := ix_ge hn (Int32.not_lt.mp h)
theorem ix_le {x : Int32} {n : Nat} (hn : n + 1 < 2 ^ 31) (h0 : ¬ x < 0) (h : x ≤ nI n) : ix x (n + 1) := by
  refine ix_in hn h0 (fun z => ?_)
  have := Int32.le_trans z h
  exact nI_ge (by omega) hn this
theorem ix_nle {x : Int32} {n : Nat} (hn : n + 1 < 2 ^ 31) (h : ¬ x ≤ nI n) : ¬ ix x (n + 1) := by
  rintro ⟨j, hj, rfl⟩
  exact h (nI_le (by omega) (by omega))
end
section
/-! counting, the k-th one, or-ing, moving rows together -/
def sp_cnt (f : Nat → Bool) : Nat → Nat
  | 0 => 0
  | n + 1 => if f n = true then sp_cnt f n + 1 else sp_cnt f n
theorem sp_cnt_t {f : Nat → Bool} {n : Nat} (h : f n = true) : sp_cnt f n + 1 = sp_cnt f (n + 1) := by simp [sp_cnt, h]
theorem sp_cnt_f {f : Nat → Bool} {n : Nat} (h : ¬ f n = true) : sp_cnt f n = sp_cnt f (n + 1) := by simp [sp_cnt, h]
theorem sp_cnt_le (f : Nat → Bool) (n : Nat) : sp_cnt f n ≤ n := by
  induction n with
  | zero => exact Nat.le_refl _
  | succ n ih => simp only [sp_cnt]; split <;> omega
theorem sp_cnt_congr {f g : Nat → Bool} {n : Nat} (h : ∀ i, i < n → f i = g i) : sp_cnt f n = sp_cnt g n := by
  induction n with
  | zero => rfl
  | succ n ih => simp only [sp_cnt]; rw [h n (by omega), ih (fun i hi => h i (by omega))]
/-- r rows are left of n, s were seen: g of the k-th one with f, else -1 -/
def sp_kth (f : Nat → Bool) (g : Nat → Int32) (k : Int32) (n : Nat) : Nat → Nat → Int32
  | 0, _ => -1
  | r + 1, s => if f (n - (r + 1)) = true then (if nI s = k then g (n - (r + 1)) else sp_kth f g k n r (s + 1)) else sp_kth f g k n r s
theorem sp_kth_congr {f f' : Nat → Bool} {g g' : Nat → Int32} {k : Int32} {n : Nat} (hf : ∀ i, i < n → f i = f' i) (hg : ∀ i, i < n → g i = g' i) : ∀ r s, r ≤ n → sp_kth f g k n r s = sp_kth f' g' k n r s := by
  intro r
  induction r with
  | zero => intro s _; rfl
  | succ r ih =>
    intro s hr
    simp only [sp_kth]
    rw [hf _ (by omega), hg _ (by omega), ih _ (by omega), ih _ (by omega)]
theorem sp_kth_t {f : Nat → Bool} {g : Nat → Int32} {k : Int32} {n i s : Nat} (hi : i < n) (h : f i = true) (hs : nI s = k) : sp_kth f g k n (n - i) s = g i := by
  obtain ⟨r, hr⟩ : ∃ r, n - i = r + 1 := ⟨n - i - 1, by omega⟩
  rw [hr]
  simp only [sp_kth]
  rw [show n - (r + 1) = i by omega, if_pos h, if_pos hs]
theorem sp_kth_n {f : Nat → Bool} {g : Nat → Int32} {k : Int32} {n i s : Nat} (hi : i < n) (h : f i = true) (hs : ¬ nI s = k) : sp_kth f g k n (n - i) s = sp_kth f g k n (n - (i + 1)) (s + 1) := by
  obtain ⟨r, hr⟩ : ∃ r, n - i = r + 1 := ⟨n - i - 1, by omega⟩
  rw [hr, show n - (i + 1) = r by omega]
  simp only [sp_kth]
  rw [show n - (r + 1) = i by omega, if_pos h, if_neg hs]
theorem sp_kth_f {f : Nat → Bool} {g : Nat → Int32} {k : Int32} {n i s : Nat} (hi : i < n) (h : ¬ f i = true) : sp_kth f g k n (n - i) s = sp_kth f g k n (n - (i + 1)) s := by
  obtain ⟨r, hr⟩ : ∃ r, n - i = r + 1 := ⟨n - i - 1, by omega⟩
  rw [hr, show n - (i + 1) = r by omega]
  simp only [sp_kth]
  rw [show n - (r + 1) = i by omega, if_neg h]
def sp_or (c : Nat → Bool) (g : Nat → Int32) : Nat → Int32
  | 0 => 0
  | n + 1 => if c n = true then sp_or c g n ||| g n else sp_or c g n
theorem sp_or_t {c : Nat → Bool} {g : Nat → Int32} {n : Nat} (h : c n = true) : sp_or c g (n + 1) = sp_or c g n ||| g n := by simp [sp_or, h]
theorem sp_or_f {c : Nat → Bool} {g : Nat → Int32} {n : Nat} (h : ¬ c n = true) : sp_or c g (n + 1) = sp_or c g n := by simp [sp_or, h]
theorem sp_or_congr {c c' : Nat → Bool} {g g' : Nat → Int32} {n : Nat} (hc : ∀ i, i < n → c i = c' i) (hg : ∀ i, i < n → g i = g' i) : sp_or c g n = sp_or c' g' n := by
  induction n with
  | zero => rfl
  | succ n ih => simp only [sp_or]; rw [hc n (by omega), hg n (by omega), ih (fun i hi => hc i (by omega)) (fun i hi => hg i (by omega))]
/-- the rows with 'keep' moved together -/
def sp_cp (keep : Nat → Bool) (a : Nat → Int32) : Nat → (Nat → Int32)
  | 0 => a
  | i + 1 => if keep i = true then upd (sp_cp keep a i) (sp_cnt keep i) (sp_cp keep a i i) else sp_cp keep a i
theorem sp_cp_t {keep : Nat → Bool} {a : Nat → Int32} {i : Nat} (h : keep i = true) : sp_cp keep a (i + 1) = upd (sp_cp keep a i) (sp_cnt keep i) (sp_cp keep a i i) := by simp [sp_cp, h]
theorem sp_cp_f {keep : Nat → Bool} {a : Nat → Int32} {i : Nat} (h : ¬ keep i = true) : sp_cp keep a (i + 1) = sp_cp keep a i := by simp [sp_cp, h]
theorem sp_cp_congr {f g : Nat → Bool} {a : Nat → Int32} {n : Nat} (h : ∀ i, i < n → f i = g i) : sp_cp f a n = sp_cp g a n := by
  induction n with
  | zero => rfl
  | succ n ih =>
    have ih := ih (fun i hi => h i (by omega))
    have hc := sp_cnt_congr (f := f) (g := g) (n := n) (fun i hi => h i (by omega))
    by_cases hf : f n = true
    · rw [sp_cp_t hf, sp_cp_t (by rw [← h n (by omega)]; exact hf), ih, hc]
    · rw [sp_cp_f hf, sp_cp_f (by rw [← h n (by omega)]; exact hf), ih]
section AMI
variable {k pc : Nat} {L st r : List Value} {M : am_M} {Q : am_T}
theorem am_incE {j : Nat} (a b : Nat) {L' : List Value} (hab : a + 1 = b) (d : decode (am_bytes k) pc = .ok (.iinc j 1, 3)) (hl : L[j]? = some (.int (nI a))) (hL : L.set j (.int (nI b)) = L') (h : am_W k (pc + 3) L' st M Q) : am_W k pc L st M Q := by
  subst hab; exact am_incN a d hl hL h
end AMI
end
section
/-! meeting; sets of objects -/
def sp_meet (pn : Nat → Nat) (fk : Nat → Int32) : Nat → Int32 → Nat → Nat → Int32
  | 0, m, _, _ => m
  | d + 1, m, a, b => if a = b then m else if a < b then sp_meet pn fk d (mt_min m (fk b)) a (pn b) else sp_meet pn fk d (mt_min m (fk a)) (pn a) b
/-- the object that a field leads to, as a set -/
def sp_tg (kd vl : Nat → Int32) (c : Nat) : Int32 := if kd c = 2 then (1 : Int32) <<< (vl c &&& 31) else 0
def sp_isin (s : Int32) (o : Nat) : Bool := decide ((s >>> (nI o &&& 31)) &&& 1 = 1)
def sp_refd (kd vl : Nat → Int32) (s : Int32) (f : Nat) : Int32 := sp_or (sp_isin s) (fun o => sp_tg kd vl (4 * o + f)) 12
def sp_refg (kd vl : Nat → Int32) (s : Int32) (f : Nat) : Int32 := sp_or (fun o => !decide (sp_tg kd vl (4 * o + f) &&& s = 0)) (fun o => (1 : Int32) <<< (nI o &&& 31)) 12
def sp_cmp (x s y : Int32) : Bool := if s = 60 then decide (x < y) else if s = 62 then decide (y < x) else decide (x = y)
def sp_num (kd vl : Nat → Int32) (s : Int32) (f : Nat) (sg b : Int32) : Int32 := sp_or (fun o => sp_isin s o && decide (kd (4 * o + f) = 1) && sp_cmp (vl (4 * o + f)) sg b) (fun o => (1 : Int32) <<< (nI o &&& 31)) 12
def sp_non (kd : Nat → Int32) (s : Int32) (f : Nat) : Int32 := sp_or (fun o => sp_isin s o && decide (kd (4 * o + f) = 0)) (fun o => (1 : Int32) <<< (nI o &&& 31)) 12
/-- round by round until nothing is new, d rounds at most -/
def sp_clo (step : Int32 → Int32) : Nat → Int32 → Int32 → Int32
  | 0, s, _ => s
  | d + 1, s, old => if s = old then s else sp_clo step d (step s) s
def sp_fld (g : Int32 → Nat → Int32) : Nat → Int32 → Int32
  | 0, s => s
  | f + 1, s => sp_fld g f s ||| g (sp_fld g f s) f
end
section
/-! paths: what the text says; q: its characters, by number -/
def ps_ch (q : Nat → Nat) (len i : Nat) : Nat := if i < len then q i else 0
def ps_clo (g : Int32 → Int32) (s : Int32) : Int32 := sp_clo (fun t => t ||| g t) 12 s 0
/-- up to d digits from j on: the number, and where they end -/
def ps_num (q : Nat → Nat) (len : Nat) : Nat → Nat → Nat → Nat × Nat
  | 0, j, a => (a, j)
  | d + 1, j, a => if 48 ≤ ps_ch q len j ∧ ps_ch q len j < 58 then ps_num q len d (j + 1) (10 * a + (ps_ch q len j - 48)) else (a, j)
/-- where a number's digits begin -/
def ps_j (q : Nat → Nat) (len i : Nat) : Nat := if ps_ch q len i = 45 then i + 1 else i
def ps_sgn (q : Nat → Nat) (len i a : Nat) : Int32 := if ps_ch q len i = 45 then -nI a else nI a
/-- a comparison, its sign at i -/
def ps_cmp (kd vl : Nat → Int32) (q : Nat → Nat) (len : Nat) (s : Int32) (f i : Nat) : Option (Int32 × Nat) :=
  if ps_ch q len i = 60 ∨ ps_ch q len i = 61 ∨ ps_ch q len i = 62 then
    if (ps_num q len 4 (ps_j q len (i + 1)) 0).2 = ps_j q len (i + 1) then none
    else if ps_ch q len (ps_num q len 4 (ps_j q len (i + 1)) 0).2 = 93 then
      some (sp_num kd vl s f (nI (ps_ch q len i)) (ps_sgn q len (i + 1) (ps_num q len 4 (ps_j q len (i + 1)) 0).1), (ps_num q len 4 (ps_j q len (i + 1)) 0).2 + 1)
    else none
  else none
/-- a move by g, the place behind the digit at i -/
def ps_mv (g : Int32 → Int32) (q : Nat → Nat) (len : Nat) (s : Int32) (i : Nat) : Int32 × Nat := if ps_ch q len i = 126 then (ps_clo g s, i + 1) else (g s, i)
def ps_step (kd vl : Nat → Int32) (q : Nat → Nat) (len : Nat) (s : Int32) (i : Nat) : Option (Int32 × Nat) :=
  if 48 ≤ ps_ch q len (i + 1) ∧ ps_ch q len (i + 1) < 52 then
    if ps_ch q len i = 46 then some (ps_mv (fun t => sp_refd kd vl t (ps_ch q len (i + 1) - 48)) q len s (i + 2))
    else if ps_ch q len i = 94 then some (ps_mv (fun t => sp_refg kd vl t (ps_ch q len (i + 1) - 48)) q len s (i + 2))
    else if ps_ch q len i = 91 then ps_cmp kd vl q len s (ps_ch q len (i + 1) - 48) (i + 2)
    else if ps_ch q len i = 63 then some (sp_non kd s (ps_ch q len (i + 1) - 48), i + 2)
    else none
  else none
def ps_run (step : Int32 → Nat → Option (Int32 × Nat)) (len : Nat) : Nat → Int32 → Nat → Int32
  | 0, s, _ => s
  | d + 1, s, i => if i < len then (match step s i with
      | none => -1
      | some r => ps_run step len d r.1 r.2) else s
def ps_start (q : Nat → Nat) (len : Nat) : Option Int32 :=
  if ps_ch q len 0 = 42 then some 4095 else if 97 ≤ ps_ch q len 0 ∧ ps_ch q len 0 < 109 then some ((1 : Int32) <<< (nI (ps_ch q len 0 - 97) &&& 31)) else none
def ps_find (kd vl : Nat → Int32) (q : Nat → Nat) (len : Nat) : Int32 := match ps_start q len with
  | none => -1
  | some s => ps_run (ps_step kd vl q len) len 32 s 1
theorem ps_in {q : Nat → Nat} {len i : Nat} (h : i < len) : ps_ch q len i = q i := if_pos h
theorem ps_out {q : Nat → Nat} {len i : Nat} (h : ¬ i < len) : ps_ch q len i = 0 := if_neg h
/-- the text: its length, its characters -/
def tx (M : am_M) (q : Nat → Nat) (len : Nat) : Prop := M.1 25 1 = nI len ∧ len ≤ 32 ∧ ∀ i, i < len → M.1 26 i = nI (q i) ∧ q i < 127
/-- since M the path stands at j with the set s -/
def pm (M M' : am_M) (j : Nat) (s : Int32) : Prop := fr [25] M M' ∧ M'.1 25 1 = M.1 25 1 ∧ M'.1 25 2 = nI j ∧ M'.1 25 3 = s
theorem pm.at {M M' : am_M} {j : Nat} {s : Int32} (h : pm M M' j s) (i : Nat) : pm M (am_set M' 25 2 (nI i)) i s := ⟨h.1.set (by decide), h.2.1, rfl, h.2.2.2⟩
theorem pm.st {M M' : am_M} {j : Nat} {s : Int32} (h : pm M M' j s) (t : Int32) : pm M (am_set M' 25 3 t) j t := ⟨h.1.set (by decide), h.2.1, h.2.2.1, rfl⟩
end
section
/-! numbers in paths are small -/
theorem ps_num_lt {q : Nat → Nat} {len : Nat} : ∀ d j a, (ps_num q len d j a).1 < (a + 1) * 10 ^ d := by
  intro d
  induction d with
  | zero => intro j a; simp [ps_num]
  | succ d ih =>
    intro j a
    simp only [ps_num]
    split
    next h =>
      have h1 := ih (j + 1) (10 * a + (ps_ch q len j - 48))
      have h2 : 10 * a + (ps_ch q len j - 48) + 1 ≤ (a + 1) * 10 := by omega
      have h3 : (10 * a + (ps_ch q len j - 48) + 1) * 10 ^ d ≤ (a + 1) * 10 * 10 ^ d := Nat.mul_le_mul_right _ h2
      rw [Nat.pow_succ, Nat.mul_comm (10 ^ d) 10, ← Nat.mul_assoc]
      omega
    next =>
      have : 1 ≤ 10 ^ (d + 1) := Nat.one_le_pow _ _ (by decide)
      calc a < a + 1 := by omega
        _ = (a + 1) * 1 := by omega
        _ ≤ (a + 1) * 10 ^ (d + 1) := Nat.mul_le_mul_left _ this
theorem ps_num4 {q : Nat → Nat} {len j : Nat} : (ps_num q len 4 j 0).1 < 10000 := by
  have := ps_num_lt (q := q) (len := len) 4 j 0
  simpa using this
theorem ps_num_ge {q : Nat → Nat} {len : Nat} : ∀ d j a, j ≤ (ps_num q len d j a).2 ∧ (ps_num q len d j a).2 ≤ j + d := by
  intro d
  induction d with
  | zero => intro j a; simp [ps_num]
  | succ d ih =>
    intro j a
    simp only [ps_num]
    split
    next => have := ih (j + 1) (10 * a + (ps_ch q len j - 48)); omega
    next => simp
theorem ps_sgn_ne {q : Nat → Nat} {len i a : Nat} (ha : a < 10000) : ¬ ps_sgn q len i a = 10000 := by
  unfold ps_sgn
  split
  · intro h
    have h1 : (-nI a).toInt = (10000 : Int32).toInt := by rw [h]
    rw [sb_negT (by omega)] at h1
    have h2 : (10000 : Int32).toInt = 10000 := by decide
    omega
  · intro h
    have h1 : nI a = nI 10000 := by rw [h]; rfl
    have := (nI_eq (by omega) (by decide)).mp h1
    omega
theorem ps_step_ge {kd vl : Nat → Int32} {q : Nat → Nat} {len i : Nat} {s : Int32} {r : Int32 × Nat} (h : ps_step kd vl q len s i = some r) : i + 2 ≤ r.2 := by
  unfold ps_step at h
  split at h
  · split at h
    · cases h; unfold ps_mv; split <;> simp
    · split at h
      · cases h; unfold ps_mv; split <;> simp
      · split at h
        · unfold ps_cmp at h
          split at h
          · split at h
            · cases h
            · split at h
              · cases h
                have := ps_num_ge (q := q) (len := len) 4 (ps_j q len (i + 2 + 1)) 0
                have h2 : i + 2 + 1 ≤ ps_j q len (i + 2 + 1) := by unfold ps_j; split <;> omega
                show i + 2 ≤ (ps_num q len 4 (ps_j q len (i + 2 + 1)) 0).2 + 1
                omega
              · cases h
          · cases h
        · split at h
          · cases h; simp
          · cases h
  · cases h
theorem ps_ch_pos {q : Nat → Nat} {len i : Nat} (h : ps_ch q len i ≠ 0) : i < len := Classical.byContradiction (fun z => h (ps_out z))
theorem ps_step_le {kd vl : Nat → Int32} {q : Nat → Nat} {len i : Nat} {s : Int32} {r : Int32 × Nat} (hi : i < len) (hl : len ≤ 32) (h : ps_step kd vl q len s i = some r) : r.2 < 2 ^ 20 := by
  unfold ps_step at h
  split at h
  · split at h
    · cases h; unfold ps_mv; split <;> (simp; omega)
    · split at h
      · cases h; unfold ps_mv; split <;> (simp; omega)
      · split at h
        · unfold ps_cmp at h
          split at h
          · split at h
            · cases h
            · split at h
              · cases h
                have := ps_num_ge (q := q) (len := len) 4 (ps_j q len (i + 2 + 1)) 0
                have h2 : ps_j q len (i + 2 + 1) ≤ i + 2 + 2 := by unfold ps_j; split <;> omega
                show (ps_num q len 4 (ps_j q len (i + 2 + 1)) 0).2 + 1 < 2 ^ 20
                omega
              · cases h
          · cases h
        · split at h
          · cases h; simp; omega
          · cases h
  · cases h
end
section
/-! Arrays.fill, View.clear -/
theorem c_fill {p n : Nat} {x : Int32} {M : am_M} {Q : am_T} (hs : am_sh p = some (.inl (.int, n))) (hn : n < 2 ^ 31) (hQ : Q (.inl none) (am_fill M p n x)) : am_W kA_fill 0 (am_in kA_fill [.ref p, .int x]) [] M Q := by
  have loop : ∀ i, i ≤ n → am_W kA_fill 5 [.ref p, .int x, .int (nI i), .int (nI n)] [] (am_fill M p i x) Q := by
    refine am_loop n (fun i hi ih => ?_)
    refine am_iload_n d129_5 rfl ?_
    refine am_iload_n d129_6 rfl ?_
    refine am_icgeN 20 i n d129_7 (by decide) rfl rfl (by omega) (by omega) (fun h7 => ?_) (fun h7 => ?_)
    · refine am_vret d129_20 rfl ?_
      obtain rfl : i = n := by omega
      exact hQ
    · refine am_aload_n d129_10 rfl ?_
      refine am_iload_n d129_11 rfl ?_
      refine am_iload_n d129_12 rfl ?_
      refine am_iastN i d129_13 hs h7 hn ?_
      rw [am_fill_s]
      refine am_incN i d129_14 rfl rfl ?_
      refine am_goto 5 d129_17 (by decide) ?_
      exact ih h7
  show am_W kA_fill 0 [.ref p, .int x, .null, .null] [] M Q
  refine am_iconst (nI 0) d129_0 (by decide) ?_
  refine am_istore_n d129_1 (Nat.le_of_ble_eq_true rfl) rfl ?_
  refine am_aload_n d129_2 rfl ?_
  refine am_alen d129_3 hs (by decide) ?_
  refine am_istore_n d129_4 (Nat.le_of_ble_eq_true rfl) rfl ?_
  rw [← am_fill_0 (M := M) (p := p) (x := x)]
  exact loop 0 (Nat.zero_le _)
/-- a place of a View -/
def bv (v : Nat) : Prop := v = 13 ∨ v = 17 ∨ v = 21
theorem bv_0 {v : Nat} (h : bv v) : am_sh v = some (.inr (2, [some (v + 1), some (v + 2), some (v + 3)])) := by rcases h with rfl | rfl | rfl <;> rfl
theorem bv_1 {v : Nat} (h : bv v) : am_sh (v + 1) = some (.inl (.int, 48)) := by rcases h with rfl | rfl | rfl <;> rfl
theorem bv_2 {v : Nat} (h : bv v) : am_sh (v + 2) = some (.inl (.int, 48)) := by rcases h with rfl | rfl | rfl <;> rfl
theorem bv_3 {v : Nat} (h : bv v) : am_sh (v + 3) = some (.inl (.int, 48)) := by rcases h with rfl | rfl | rfl <;> rfl
theorem c_clear {v : Nat} {M : am_M} {Q : am_T} (hv : bv v) (hQ : Q (.inl none) (am_fill (am_fill (am_fill M (v + 1) 48 0) (v + 2) 48 0) (v + 3) 48 (-1))) : am_W kV_clear 0 (am_in kV_clear [.ref v]) [] M Q := by
  show am_W kV_clear 0 [.ref v] [] M Q
  refine am_aload_n d95_0 rfl ?_
  refine am_getr d95_1 fl95_9 (bv_0 hv) rfl ?_
  refine am_iconst 0 d95_4 (by decide) ?_
  refine am_cs2 129 d95_5 ml95_21 rfl (by decide) rfl rfl rfl (Nat.le_of_ble_eq_true rfl) ?_
  refine c_fill (bv_1 hv) (by decide) ?_
  show am_W 95 8 _ _ _ _
  refine am_aload_n d95_8 rfl ?_
  refine am_getr d95_9 fl95_15 (bv_0 hv) rfl ?_
  refine am_iconst 0 d95_12 (by decide) ?_
  refine am_cs2 129 d95_13 ml95_21 rfl (by decide) rfl rfl rfl (Nat.le_of_ble_eq_true rfl) ?_
  refine c_fill (bv_2 hv) (by decide) ?_
  show am_W 95 16 _ _ _ _
  refine am_aload_n d95_16 rfl ?_
  refine am_getr d95_17 fl95_18 (bv_0 hv) rfl ?_
  refine am_iconst (-1) d95_20 (by decide) ?_
  refine am_cs2 129 d95_21 ml95_21 rfl (by decide) rfl rfl rfl (Nat.le_of_ble_eq_true rfl) ?_
  refine c_fill (bv_3 hv) (by decide) ?_
  show am_W 95 24 _ _ _ _
  refine am_vret d95_24 rfl ?_
  exact hQ
end
section
/-! Branches.limitSight -/
/-- what is known of the branches' parents and forks -/
def bp_P (par fk : Nat → Int32) (pn : Nat → Nat) (nb : Nat) : Prop := nb ≤ 6 ∧ (∀ b, 0 < b → b < nb → pn b < b) ∧ (∀ b, 0 < b → b < nb → par b = nI (pn b)) ∧ ∀ b, b < nb → 0 ≤ fk b
/-- how far the limits are set: from branch h, at moment u, on -/
def ls_I (b : Nat) (m : Int32) (M0 : am_M) (pn : Nat → Nat) (c : Nat) (M : am_M) (h : Nat) (u : Int32) : Prop :=
  fr [5] M0 M ∧ (∀ j, c < j → M.1 5 j = mt_f pn (M0.1 3) b b m j ∨ 6 ≤ j) ∧ h ≤ c ∧ M.1 5 h = u ∧ 0 ≤ u ∧ (∀ j, j ≤ c → j ≠ h → M.1 5 j = -1) ∧ ∀ j, j ≤ c → mt_f pn (M0.1 3) b b m j = mt_f pn (M0.1 3) h h u j
set_option maxHeartbeats 1000000 in
theorem c_limitSight {b nb : Nat} {m : Int32} {pn : Nat → Nat} {M : am_M} {Q : am_T} (hB : bp_P (M.1 2) (M.1 3) pn nb) (hb : b < nb) (hm : 0 ≤ m) (hQ : ∀ M', fr [5] M M' → (∀ j, j < 6 → M'.1 5 j = mt_f pn (M.1 3) b b m j) → Q (.inl none) M') : am_W kB_limitSight 0 (am_in kB_limitSight [.ref 1, .int (nI b), .int m]) [] M Q := by
  obtain ⟨h6, hpn, hpar, hfk⟩ := hB
  have hb6 : b < 6 := by omega
  have hdec : ∀ {c : Nat}, 0 < c → nI c + Int32.ofInt (-1) = nI (c - 1) := fun {c} h => by
    obtain ⟨c', rfl⟩ : ∃ c', c = c' + 1 := ⟨c - 1, by omega⟩
    exact pk_m1 c'
  have loop : ∀ c, c ≤ b → ∀ (M1 : am_M) (h : Nat) (u : Int32), ls_I b m M pn c M1 h u → am_W kB_limitSight 17 [.ref 1, .int (nI b), .int m, .int (nI c)] [] M1 Q := by
    intro c
    induction c using Nat.strongRecOn with
    | _ c ih =>
    intro hcb M1 h u I
    have hend : c = 0 → Q (.inl none) M1 := by
      intro hc
      subst hc
      obtain ⟨i1, i2, i3, i4, i5, i6, i7⟩ := I
      refine hQ M1 i1 (fun j hj => ?_)
      by_cases h0 : j = 0
      · subst h0
        obtain rfl : h = 0 := by omega
        rw [i4, i7 0 (Nat.le_refl _), mt_f_self]
      · exact (i2 j (by omega)).resolve_right (by omega)
    have skip : 0 < c → h ≠ c → ls_I b m M pn (c - 1) M1 h u := by
      intro h0 hne
      obtain ⟨i1, i2, i3, i4, i5, i6, i7⟩ := I
      refine ⟨i1, fun j hj => ?_, by omega, i4, i5, fun j hj => i6 j (by omega), fun j hj => i7 j (by omega)⟩
      by_cases hjc : j = c
      · subst hjc
        refine Or.inl ?_
        rw [i6 j (Nat.le_refl _) (fun z => hne z.symm), i7 j (Nat.le_refl _)]
        exact (mt_f_above hpn _ _ _ _ (by omega) (Nat.le_refl _) (by omega)).symm
      · exact i2 j (by omega)
    have take : 0 < c → h = c → ls_I b m M pn (c - 1) (am_set M1 5 (pn c) (mt_min u (M.1 3 c))) (pn c) (mt_min u (M.1 3 c)) := by
      intro h0 he
      subst he
      obtain ⟨i1, i2, i3, i4, i5, i6, i7⟩ := I
      have hp := hpn h h0 (by omega)
      refine ⟨i1.set (by decide), fun j hj => ?_, by omega, by rw [am_set_self]; simp [upd], mt_min_pos i5 (hfk h (by omega)), fun j hj hne => ?_, fun j hj => ?_⟩
      · rw [am_set_self]
        unfold upd
        rw [if_neg (by omega)]
        by_cases hjc : j = h
        · subst hjc
          refine Or.inl ?_
          rw [i4, i7 j (Nat.le_refl _), mt_f_self]
        · exact i2 j (by omega)
      · rw [am_set_self]
        unfold upd
        rw [if_neg hne]
        exact i6 j (by omega) (by omega)
      · rw [i7 j (by omega)]
        exact mt_f_down hpn (by omega) h0 (by omega)
    have e2 : M1.1 2 = M.1 2 := I.1.eq 2 (by decide)
    have e3 : M1.1 3 = M.1 3 := I.1.eq 3 (by decide)
    have hu : M1.1 5 h = u := I.2.2.2.1
    have hu0 : 0 ≤ u := I.2.2.2.2.1
    have hz : ∀ j, j ≤ c → j ≠ h → M1.1 5 j = -1 := I.2.2.2.2.2.1
    refine am_iload_n d79_17 rfl ?_
    refine am_ifle 63 d79_18 (by decide) (fun h18 => ?_) (fun h18 => ?_)
    · have hc0 : c = 0 := Classical.byContradiction (fun z => absurd h18 (nI_nle (Nat.pos_of_ne_zero z) (by omega)))
      refine am_vret d79_63 rfl ?_
      exact hend hc0
    · have hc0 : 0 < c := Nat.pos_of_ne_zero (fun z => h18 (by rw [z]; decide))
      refine am_aload_n d79_21 rfl ?_
      refine am_getr d79_22 fl79_22 sh_1 rfl ?_
      refine am_iload_n d79_25 rfl ?_
      refine am_ialdN c d79_26 sh_5 (by omega) (by decide) ?_
      refine am_iconst (-1) d79_27 (by decide) ?_
      refine am_iceq 57 d79_28 (by decide) (fun h28 => ?_) (fun h28 => ?_)
      · have hne : h ≠ c := fun z => mt_pos_ne hu0 (by rw [← hu, z]; exact h28)
        refine am_iinc (nI (c - 1)) d79_57 rfl (hdec hc0) rfl ?_
        refine am_goto 17 d79_60 (by decide) ?_
        exact ih (c - 1) (by omega) (by omega) M1 h u (skip hc0 hne)
      · have hch : h = c := Classical.byContradiction (fun z => h28 (hz c (Nat.le_refl _) (fun q => z q.symm)))
        refine am_aload_n d79_31 rfl ?_
        refine am_getr d79_32 fl79_22 sh_1 rfl ?_
        refine am_aload_n d79_35 rfl ?_
        refine am_getr d79_36 fl79_9 sh_1 rfl ?_
        refine am_iload_n d79_39 rfl ?_
        refine am_ialdN c d79_40 sh_2 (by omega) (by decide) ?_
        refine am_aload_n d79_41 rfl ?_
        refine am_getr d79_42 fl79_22 sh_1 rfl ?_
        refine am_iload_n d79_45 rfl ?_
        refine am_ialdN c d79_46 sh_5 (by omega) (by decide) ?_
        refine am_aload_n d79_47 rfl ?_
        refine am_getr d79_48 fl79_15 sh_1 rfl ?_
        refine am_iload_n d79_51 rfl ?_
        refine am_ialdN c d79_52 sh_3 (by omega) (by decide) ?_
        refine am_min d79_53 (by decide) (by decide) (Nat.le_of_ble_eq_true rfl) ?_
        refine am_iastE (pn c) (by rw [e2]; exact hpar c hc0 (by omega)) d79_56 sh_5 (by have := hpn c hc0 (by omega); omega) (by decide) ?_
        refine am_iinc (nI (c - 1)) d79_57 rfl (hdec hc0) rfl ?_
        refine am_goto 17 d79_60 (by decide) ?_
        have ht := take hc0 hch
        have hval : (if M1.1 3 c < M1.1 5 c then M1.1 3 c else M1.1 5 c) = mt_min u (M.1 3 c) := by rw [e3, ← hch, hu]; rfl
        rw [hval]
        exact ih (c - 1) (by omega) (by omega) _ _ _ ht
  have start : ls_I b m M pn b (am_set (am_fill M 5 6 (-1)) 5 b m) b m := by
    refine ⟨(am_fill_fr fr.rf (by decide)).set (by decide), fun j hj => ?_, Nat.le_refl _, by rw [am_set_self]; simp [upd], hm, fun j hj hne => ?_, fun j hj => rfl⟩
    · by_cases h : j < 6
      · refine Or.inl ?_
        rw [am_set_self]
        unfold upd
        rw [if_neg (by omega), am_fill_self h]
        exact (mt_f_above hpn _ _ _ _ hb (Nat.le_refl _) hj).symm
      · exact Or.inr (by omega)
    · rw [am_set_self]
      unfold upd
      rw [if_neg hne]
      exact am_fill_self (by omega)
  show am_W kB_limitSight 0 [.ref 1, .int (nI b), .int m, .null] [] M Q
  refine am_aload_n d79_0 rfl ?_
  refine am_getr d79_1 fl79_22 sh_1 rfl ?_
  refine am_iconst (-1) d79_4 (by decide) ?_
  refine am_cs2 129 d79_5 ml79_38 rfl (by decide) rfl rfl rfl (Nat.le_of_ble_eq_true rfl) ?_
  refine c_fill sh_5 (by decide) ?_
  show am_W 79 8 _ _ _ _
  refine am_aload_n d79_8 rfl ?_
  refine am_getr d79_9 fl79_22 sh_1 rfl ?_
  refine am_iload_n d79_12 rfl ?_
  refine am_iload_n d79_13 rfl ?_
  refine am_iastN b d79_14 sh_5 hb6 (by decide) ?_
  refine am_iload_n d79_15 rfl ?_
  refine am_istore_n d79_16 (Nat.le_of_ble_eq_true rfl) rfl ?_
  exact loop b (Nat.le_refl _) _ b m start
end
section
/-! Writes.show -/
set_option maxHeartbeats 1000000 in
theorem c_show {v nb nw : Nat} {M : am_M} {Q : am_T} (hv : bv v) (hR : bp_R (M.1 7) (M.1 9) nb nw) (hb : nb ≤ 6) (hn : M.1 6 6 = nI nw)
    (hQ : ∀ M', fr [v + 1, v + 2, v + 3] M M' → (∀ c, c < 48 → M'.1 (v + 1) c = sp_get (M.1 10) 0 (sp_last (sp_in (M.1 7) (M.1 8) (M.1 9) (M.1 5) c) nw) ∧ M'.1 (v + 2) c = sp_get (M.1 11) 0 (sp_last (sp_in (M.1 7) (M.1 8) (M.1 9) (M.1 5) c) nw) ∧ M'.1 (v + 3) c = sp_get (M.1 8) (-1) (sp_last (sp_in (M.1 7) (M.1 8) (M.1 9) (M.1 5) c) nw)) → Q (.inl none) M') :
    am_W kW_show 0 (am_in kW_show [.ref 6, .ref 5, .ref v]) [] M Q := by
  obtain ⟨h120, rows0⟩ := hR
  have v13 : 13 ≤ v := by rcases hv with rfl | rfl | rfl <;> decide
  have loop : ∀ i, i ≤ nw → ∀ M1 : am_M, (fr [v + 1, v + 2, v + 3] M M1 ∧ ∀ c, c < 48 → M1.1 (v + 1) c = sp_get (M.1 10) 0 (sp_last (sp_in (M.1 7) (M.1 8) (M.1 9) (M.1 5) c) i) ∧ M1.1 (v + 2) c = sp_get (M.1 11) 0 (sp_last (sp_in (M.1 7) (M.1 8) (M.1 9) (M.1 5) c) i) ∧ M1.1 (v + 3) c = sp_get (M.1 8) (-1) (sp_last (sp_in (M.1 7) (M.1 8) (M.1 9) (M.1 5) c) i)) →
      am_W kW_show 6 [.ref 6, .ref 5, .ref v, .int (nI i)] [] M1 Q := by
    refine am_loop nw (fun i hi ih => ?_)
    intro M1 I
    have fe : ∀ p, p < 14 → M1.1 p = M.1 p := fun p hp => I.1.eq p (by simp; omega)
    have e5 := fe 5 (by decide)
    have e6 := fe 6 (by decide)
    have e7 := fe 7 (by decide)
    have e8 := fe 8 (by decide)
    have e9 := fe 9 (by decide)
    have e10 := fe 10 (by decide)
    have e11 := fe 11 (by decide)
    have hcnt : M1.1 6 6 = nI nw := by rw [e6]; exact hn
    have rows : ∀ i, i < nw → (∃ b, b < nb ∧ M1.1 7 i = nI b) ∧ ∃ c, c < 48 ∧ M1.1 9 i = nI c := by rw [e7, e9]; exact rows0
    refine am_iload_n d107_6 rfl ?_
    refine am_aload_n d107_7 rfl ?_
    refine am_geti d107_8 fl107_31 sh_6 rfl ?_
    refine am_icgeN 88 i nw d107_11 (by decide) rfl hcnt (by omega) (by omega) (fun h11 => ?_) (fun h11 => ?_)
    · refine am_vret d107_88 rfl ?_
      obtain rfl : i = nw := by omega
      exact hQ M1 I.1 I.2
    · obtain ⟨⟨bi, hbi0, hbi⟩, ci, hc48, hci⟩ := rows i h11
      refine am_aload_n d107_14 rfl ?_
      refine am_getr d107_15 fl107_15 sh_6 rfl ?_
      refine am_iload_n d107_18 rfl ?_
      refine am_ialdN i d107_19 sh_8 (by omega) (by decide) ?_
      refine am_aload_n d107_20 rfl ?_
      refine am_aload_n d107_21 rfl ?_
      refine am_getr d107_22 fl107_9 sh_6 rfl ?_
      refine am_iload_n d107_25 rfl ?_
      refine am_ialdN i d107_26 sh_7 (by omega) (by decide) ?_
      refine am_ialdE bi hbi d107_27 sh_5 (by omega) (by decide) ?_
      refine am_icgt 82 d107_28 (by decide) (fun h28 => ?_) (fun h28 => ?_)
      · refine am_incN i d107_82 rfl rfl ?_
        refine am_goto 6 d107_85 (by decide) ?_
        exact ih h11 M1 ⟨I.1, fun c hc => by
          have hf : ¬ sp_in (M.1 7) (M.1 8) (M.1 9) (M.1 5) c i = true := by
            unfold sp_in
            rw [Bool.and_eq_true, decide_eq_true_eq, decide_eq_true_eq, ← e7, ← e8, ← e5, hbi, nI_clamp (by omega)]
            exact fun z => absurd h28 (Int32.not_lt.mpr z.2)
          rw [sp_last_n hf]
          exact I.2 c hc⟩
      · refine am_aload_n d107_31 rfl ?_
        refine am_getr d107_32 fl107_40 (bv_0 hv) rfl ?_
        refine am_aload_n d107_35 rfl ?_
        refine am_getr d107_36 fl107_18 sh_6 rfl ?_
        refine am_iload_n d107_39 rfl ?_
        refine am_ialdN i d107_40 sh_9 (by omega) (by decide) ?_
        refine am_aload_n d107_41 rfl ?_
        refine am_getr d107_42 fl107_21 sh_6 rfl ?_
        refine am_iload_n d107_45 rfl ?_
        refine am_ialdN i d107_46 sh_10 (by omega) (by decide) ?_
        refine am_iastE ci hci d107_47 (bv_1 hv) hc48 (by decide) ?_
        refine am_aload_n d107_48 rfl ?_
        refine am_getr d107_49 fl107_41 (bv_0 hv) rfl ?_
        refine am_aload_n d107_52 rfl ?_
        refine am_getr d107_53 fl107_18 sh_6 rfl ?_
        refine am_iload_n d107_56 rfl ?_
        refine am_ialdN i d107_57 sh_9 (by omega) (by decide) ?_
        refine am_aload_n d107_58 rfl ?_
        refine am_getr d107_59 fl107_24 sh_6 rfl ?_
        refine am_iload_n d107_62 rfl ?_
        refine am_ialdN i d107_63 sh_11 (by omega) (by decide) ?_
        refine am_iastE ci (by simp only [am_set_ne (show (9 : Nat) ≠ v + 1 by omega), am_set_ne (show (9 : Nat) ≠ v + 2 by omega)]; exact hci) d107_64 (bv_2 hv) hc48 (by decide) ?_
        refine am_aload_n d107_65 rfl ?_
        refine am_getr d107_66 fl107_42 (bv_0 hv) rfl ?_
        refine am_aload_n d107_69 rfl ?_
        refine am_getr d107_70 fl107_18 sh_6 rfl ?_
        refine am_iload_n d107_73 rfl ?_
        refine am_ialdN i d107_74 sh_9 (by omega) (by decide) ?_
        refine am_aload_n d107_75 rfl ?_
        refine am_getr d107_76 fl107_15 sh_6 rfl ?_
        refine am_iload_n d107_79 rfl ?_
        refine am_ialdN i d107_80 sh_8 (by omega) (by decide) ?_
        refine am_iastE ci (by simp only [am_set_ne (show (9 : Nat) ≠ v + 1 by omega), am_set_ne (show (9 : Nat) ≠ v + 2 by omega)]; exact hci) d107_81 (bv_3 hv) hc48 (by decide) ?_
        refine am_incN i d107_82 rfl rfl ?_
        refine am_goto 6 d107_85 (by decide) ?_
        exact ih h11 _ ⟨((I.1.set (by simp)).set (by simp)).set (by simp), fun c hc => by
          have h28' := Int32.not_lt.mp h28
          simp only [am_set_ne (show (8 : Nat) ≠ v + 1 by omega), am_set_ne (show (8 : Nat) ≠ v + 2 by omega), am_set_ne (show (11 : Nat) ≠ v + 1 by omega)]
          simp only [am_set_self, am_set_ne (show v + 1 ≠ v + 2 by omega), am_set_ne (show v + 1 ≠ v + 3 by omega), am_set_ne (show v + 2 ≠ v + 3 by omega), am_set_ne (show v + 2 ≠ v + 1 by omega), am_set_ne (show v + 3 ≠ v + 1 by omega), am_set_ne (show v + 3 ≠ v + 2 by omega), upd]
          by_cases hcc : c = ci
          · subst hcc
            have hf : sp_in (M.1 7) (M.1 8) (M.1 9) (M.1 5) c i = true := by
              unfold sp_in
              rw [Bool.and_eq_true, decide_eq_true_eq, decide_eq_true_eq, ← e7, ← e8, ← e5, ← e9, hbi, nI_clamp (by omega)]
              exact ⟨hci, h28'⟩
            rw [sp_last_s hf]
            simp only [if_true, sp_get, e10, e11, e8]
            exact ⟨trivial, trivial, trivial⟩
          · have hf : ¬ sp_in (M.1 7) (M.1 8) (M.1 9) (M.1 5) c i = true := by
              unfold sp_in
              rw [Bool.and_eq_true, decide_eq_true_eq, ← e9, hci]
              exact fun z => hcc ((nI_eq (by omega) (by omega)).mp z.1).symm
            rw [sp_last_n hf]
            simp only [if_neg hcc]
            exact I.2 c hc⟩
  have start : fr [v + 1, v + 2, v + 3] M (am_fill (am_fill (am_fill M (v + 1) 48 0) (v + 2) 48 0) (v + 3) 48 (-1)) ∧ ∀ c, c < 48 → (am_fill (am_fill (am_fill M (v + 1) 48 0) (v + 2) 48 0) (v + 3) 48 (-1)).1 (v + 1) c = sp_get (M.1 10) 0 (sp_last (sp_in (M.1 7) (M.1 8) (M.1 9) (M.1 5) c) 0) ∧ (am_fill (am_fill (am_fill M (v + 1) 48 0) (v + 2) 48 0) (v + 3) 48 (-1)).1 (v + 2) c = sp_get (M.1 11) 0 (sp_last (sp_in (M.1 7) (M.1 8) (M.1 9) (M.1 5) c) 0) ∧ (am_fill (am_fill (am_fill M (v + 1) 48 0) (v + 2) 48 0) (v + 3) 48 (-1)).1 (v + 3) c = sp_get (M.1 8) (-1) (sp_last (sp_in (M.1 7) (M.1 8) (M.1 9) (M.1 5) c) 0) := by
    refine ⟨am_fill_fr (am_fill_fr (am_fill_fr fr.rf (by simp)) (by simp)) (by simp), fun c hc => ⟨?_, ?_, am_fill_self hc⟩⟩
    · rw [am_fill_ne (by omega), am_fill_ne (by omega), am_fill_self hc]; rfl
    · rw [am_fill_ne (by omega), am_fill_self hc]; rfl
  show am_W kW_show 0 [.ref 6, .ref 5, .ref v, .null] [] M Q
  refine am_aload_n d107_0 rfl ?_
  refine am_cv0 95 d107_1 ml107_35 rfl (by decide) (bv_0 hv) rfl  (Nat.le_of_ble_eq_true rfl) ?_
  refine c_clear hv ?_
  show am_W 107 4 _ _ _ _
  refine am_iconst (nI 0) d107_4 (by decide) ?_
  refine am_istore_n d107_5 (Nat.le_of_ble_eq_true rfl) rfl ?_
  exact loop 0 (Nat.zero_le _) _ start
end
section
/-! the small methods of BranchedPast -/
theorem c_isObject {x : Int32} {M : am_M} {Q : am_T} (h1 : ix x 12 → Q (.inl (some (.int 1))) M) (h0 : ¬ ix x 12 → Q (.inl (some (.int 0))) M) : am_W kX_isObject 0 (am_in kX_isObject [.int x]) [] M Q := by
  show am_W kX_isObject 0 _ [] M Q
  refine am_iload_n d30_0 rfl ?_
  refine am_iflt 14 d30_1 (by decide) (fun g1 => ?_) (fun g1 => ?_)
  · refine am_iconst 0 d30_14 (by decide) ?_
    refine am_iret d30_15 rfl (by decide) ?_
    first | exact h1 (ix_in (by decide) g1 h7) | exact h0 (ix_neg (by decide) g1) | exact h0 (ix_ge (by decide) h7)
  · refine am_iload_n d30_4 rfl ?_
    refine am_bipush (nI 12) d30_5 (by decide) ?_
    refine am_icge 14 d30_7 (by decide) (fun h7 => ?_) (fun h7 => ?_)
    · refine am_iconst 0 d30_14 (by decide) ?_
      refine am_iret d30_15 rfl (by decide) ?_
      first | exact h1 (ix_in (by decide) g1 h7) | exact h0 (ix_neg (by decide) g1) | exact h0 (ix_ge (by decide) h7)
    · refine am_iconst 1 d30_10 (by decide) ?_
      refine am_goto 15 d30_11 (by decide) ?_
      refine am_iret d30_15 rfl (by decide) ?_
      first | exact h1 (ix_in (by decide) g1 h7) | exact h0 (ix_neg (by decide) g1) | exact h0 (ix_ge (by decide) h7)
theorem c_cellOf {a b : Nat} {M : am_M} {Q : am_T} (hQ : Q (.inl (some (.int (nI (4 * a + b))))) M) : am_W kX_cellOf 0 (am_in kX_cellOf [.int (nI a), .int (nI b)]) [] M Q := by
  show am_W kX_cellOf 0 _ [] M Q
  refine am_iconst (nI 4) d32_0 (by decide) ?_
  refine am_iload_n d32_1 rfl ?_
  refine am_mulN d32_2 ?_
  refine am_iload_n d32_3 rfl ?_
  refine am_addN d32_4 ?_
  refine am_iret d32_5 rfl rfl ?_
  exact hQ
theorem c_requireObject {x : Int32} {M : am_M} {Q : am_T} (hok : ix x 12 → Q (.inl none) M) (hbad : ¬ ix x 12 → Q (.inr 0) M) : am_W kX_requireObject 0 (am_in kX_requireObject [.int x]) [] M Q := by
  show am_W kX_requireObject 0 _ [] M Q
  refine am_iload_n d16_0 rfl ?_
  refine am_cs1 30 d16_1 ml16_201 rfl (by decide) rfl rfl (Nat.le_of_ble_eq_true rfl) ?_
  refine c_isObject (fun o1 => ?_) (fun o1 => ?_)
  · show am_W 16 4 _ (.int 1 :: _) _ _
    refine am_ifne 17 d16_4 (by decide) (fun h4 => ?_) (fun h4 => ?_)
    · refine am_vret d16_17 rfl ?_
      first | exact hok o1 | exact absurd rfl h4
    · refine am_thr (x := 0) d16_7 (by decide) (Nat.le_of_ble_eq_true rfl) ?_
      first | exact hbad o1 | exact absurd h4 (by decide)
  · show am_W 16 4 _ (.int 0 :: _) _ _
    refine am_ifne 17 d16_4 (by decide) (fun h4 => ?_) (fun h4 => ?_)
    · refine am_vret d16_17 rfl ?_
      first | exact hok o1 | exact absurd rfl h4
    · refine am_thr (x := 0) d16_7 (by decide) (Nat.le_of_ble_eq_true rfl) ?_
      first | exact hbad o1 | exact absurd h4 (by decide)
theorem c_isValue {x y : Int32} {M : am_M} {Q : am_T} (h1 : (x = 0 ∨ x = 1 ∨ (x = 2 ∧ ix y 12)) → Q (.inl (some (.int 1))) M) (h0 : ¬ (x = 0 ∨ x = 1 ∨ (x = 2 ∧ ix y 12)) → Q (.inl (some (.int 0))) M) : am_W kX_isValue 0 (am_in kX_isValue [.int x, .int y]) [] M Q := by
  have k1 := h1
  have k0 := h0
  clear h1 h0
  show am_W kX_isValue 0 _ [] M Q
  refine am_iload_n d31_0 rfl ?_
  refine am_ifeq 21 d31_1 (by decide) (fun h1 => ?_) (fun h1 => ?_)
  · refine am_iconst 1 d31_21 (by decide) ?_
    refine am_goto 26 d31_22 (by decide) ?_
    refine am_iret d31_26 rfl (by decide) ?_
    first | exact k1 (Or.inl h1) | exact k1 (Or.inr (Or.inl h6)) | exact k1 (Or.inr (Or.inr ⟨h11, o15⟩)) | exact absurd h18 (by decide) | exact absurd rfl h18 | exact k0 (fun z => z.elim h1 (fun z => z.elim h6 (fun z => h11 z.1))) | exact k0 (fun z => z.elim h1 (fun z => z.elim h6 (fun z => o15 z.2)))
  · refine am_iload_n d31_4 rfl ?_
    refine am_iconst 1 d31_5 (by decide) ?_
    refine am_iceq 21 d31_6 (by decide) (fun h6 => ?_) (fun h6 => ?_)
    · refine am_iconst 1 d31_21 (by decide) ?_
      refine am_goto 26 d31_22 (by decide) ?_
      refine am_iret d31_26 rfl (by decide) ?_
      first | exact k1 (Or.inl h1) | exact k1 (Or.inr (Or.inl h6)) | exact k1 (Or.inr (Or.inr ⟨h11, o15⟩)) | exact absurd h18 (by decide) | exact absurd rfl h18 | exact k0 (fun z => z.elim h1 (fun z => z.elim h6 (fun z => h11 z.1))) | exact k0 (fun z => z.elim h1 (fun z => z.elim h6 (fun z => o15 z.2)))
    · refine am_iload_n d31_9 rfl ?_
      refine am_iconst 2 d31_10 (by decide) ?_
      refine am_icne 25 d31_11 (by decide) (fun h11 => ?_) (fun h11 => ?_)
      · refine am_iconst 0 d31_25 (by decide) ?_
        refine am_iret d31_26 rfl (by decide) ?_
        first | exact k1 (Or.inl h1) | exact k1 (Or.inr (Or.inl h6)) | exact k1 (Or.inr (Or.inr ⟨h11, o15⟩)) | exact absurd h18 (by decide) | exact absurd rfl h18 | exact k0 (fun z => z.elim h1 (fun z => z.elim h6 (fun z => h11 z.1))) | exact k0 (fun z => z.elim h1 (fun z => z.elim h6 (fun z => o15 z.2)))
      · refine am_iload_n d31_14 rfl ?_
        refine am_cs1 30 d31_15 ml31_201 rfl (by decide) rfl rfl (Nat.le_of_ble_eq_true rfl) ?_
        refine c_isObject (fun o15 => ?_) (fun o15 => ?_)
        · show am_W 31 18 _ (.int 1 :: _) _ _
          refine am_ifeq 25 d31_18 (by decide) (fun h18 => ?_) (fun h18 => ?_)
          · refine am_iconst 0 d31_25 (by decide) ?_
            refine am_iret d31_26 rfl (by decide) ?_
            first | exact k1 (Or.inl h1) | exact k1 (Or.inr (Or.inl h6)) | exact k1 (Or.inr (Or.inr ⟨h11, o15⟩)) | exact absurd h18 (by decide) | exact absurd rfl h18 | exact k0 (fun z => z.elim h1 (fun z => z.elim h6 (fun z => h11 z.1))) | exact k0 (fun z => z.elim h1 (fun z => z.elim h6 (fun z => o15 z.2)))
          · refine am_iconst 1 d31_21 (by decide) ?_
            refine am_goto 26 d31_22 (by decide) ?_
            refine am_iret d31_26 rfl (by decide) ?_
            first | exact k1 (Or.inl h1) | exact k1 (Or.inr (Or.inl h6)) | exact k1 (Or.inr (Or.inr ⟨h11, o15⟩)) | exact absurd h18 (by decide) | exact absurd rfl h18 | exact k0 (fun z => z.elim h1 (fun z => z.elim h6 (fun z => h11 z.1))) | exact k0 (fun z => z.elim h1 (fun z => z.elim h6 (fun z => o15 z.2)))
        · show am_W 31 18 _ (.int 0 :: _) _ _
          refine am_ifeq 25 d31_18 (by decide) (fun h18 => ?_) (fun h18 => ?_)
          · refine am_iconst 0 d31_25 (by decide) ?_
            refine am_iret d31_26 rfl (by decide) ?_
            first | exact k1 (Or.inl h1) | exact k1 (Or.inr (Or.inl h6)) | exact k1 (Or.inr (Or.inr ⟨h11, o15⟩)) | exact absurd h18 (by decide) | exact absurd rfl h18 | exact k0 (fun z => z.elim h1 (fun z => z.elim h6 (fun z => h11 z.1))) | exact k0 (fun z => z.elim h1 (fun z => z.elim h6 (fun z => o15 z.2)))
          · refine am_iconst 1 d31_21 (by decide) ?_
            refine am_goto 26 d31_22 (by decide) ?_
            refine am_iret d31_26 rfl (by decide) ?_
            first | exact k1 (Or.inl h1) | exact k1 (Or.inr (Or.inl h6)) | exact k1 (Or.inr (Or.inr ⟨h11, o15⟩)) | exact absurd h18 (by decide) | exact absurd rfl h18 | exact k0 (fun z => z.elim h1 (fun z => z.elim h6 (fun z => h11 z.1))) | exact k0 (fun z => z.elim h1 (fun z => z.elim h6 (fun z => o15 z.2)))
theorem c_requireBranch {x : Int32} {nb : Nat} {M : am_M} {Q : am_T} (hn : M.1 1 4 = nI nb) (hb : nb ≤ 6) (hok : ix x nb → Q (.inl none) M) (hbad : ¬ ix x nb → Q (.inr 0) M) : am_W kX_requireBranch 0 (am_in kX_requireBranch [.ref 0, .int x]) [] M Q := by
  show am_W kX_requireBranch 0 _ [] M Q
  refine am_iload_n d15_0 rfl ?_
  refine am_iflt 15 d15_1 (by decide) (fun h1 => ?_) (fun h1 => ?_)
  · refine am_thr (x := 0) d15_15 (by decide) (Nat.le_of_ble_eq_true rfl) ?_
    first | exact hbad (ix_neg (by omega) h1) | exact hbad (ix_nlt (by omega) (by rw [← hn]; exact h12))
  · refine am_iload_n d15_4 rfl ?_
    refine am_aload_n d15_5 rfl ?_
    refine am_getr d15_6 fl15_12 sh_0 rfl ?_
    refine am_geti d15_9 fl15_58 sh_1 rfl ?_
    refine am_iclt 25 d15_12 (by decide) (fun h12 => ?_) (fun h12 => ?_)
    · refine am_vret d15_25 rfl ?_
      exact hok (ix_lt (by omega) h1 (by rw [← hn]; exact h12))
    · refine am_thr (x := 0) d15_15 (by decide) (Nat.le_of_ble_eq_true rfl) ?_
      first | exact hbad (ix_neg (by omega) h1) | exact hbad (ix_nlt (by omega) (by rw [← hn]; exact h12))
theorem c_requireField {x : Int32} {M : am_M} {Q : am_T} (hok : ix x 4 → Q (.inl none) M) (hbad : ¬ ix x 4 → Q (.inr 0) M) : am_W kX_requireField 0 (am_in kX_requireField [.int x]) [] M Q := by
  show am_W kX_requireField 0 _ [] M Q
  refine am_iload_n d17_0 rfl ?_
  refine am_iflt 9 d17_1 (by decide) (fun h1 => ?_) (fun h1 => ?_)
  · refine am_thr (x := 0) d17_9 (by decide) (Nat.le_of_ble_eq_true rfl) ?_
    first | exact hbad (ix_neg (by decide) h1) | exact hbad (ix_nlt (by decide) h6)
  · refine am_iload_n d17_4 rfl ?_
    refine am_iconst (nI 4) d17_5 (by decide) ?_
    refine am_iclt 19 d17_6 (by decide) (fun h6 => ?_) (fun h6 => ?_)
    · refine am_vret d17_19 rfl ?_
      exact hok (ix_lt (by decide) h1 h6)
    · refine am_thr (x := 0) d17_9 (by decide) (Nat.le_of_ble_eq_true rfl) ?_
      first | exact hbad (ix_neg (by decide) h1) | exact hbad (ix_nlt (by decide) h6)
theorem c_requireWhat {x : Int32} {n : Nat} {M : am_M} {Q : am_T} (hn : n < 100) (hok : ix x (n + 1) → Q (.inl none) M) (hbad : ¬ ix x (n + 1) → Q (.inr 1) M) : am_W kX_requireWhat 0 (am_in kX_requireWhat [.int x, .int (nI n)]) [] M Q := by
  show am_W kX_requireWhat 0 _ [] M Q
  refine am_iload_n d18_0 rfl ?_
  refine am_iflt 9 d18_1 (by decide) (fun h1 => ?_) (fun h1 => ?_)
  · refine am_thr (x := 1) d18_9 (by decide) (Nat.le_of_ble_eq_true rfl) ?_
    first | exact hbad (ix_neg (by omega) h1) | exact hbad (ix_nle (by omega) h6)
  · refine am_iload_n d18_4 rfl ?_
    refine am_iload_n d18_5 rfl ?_
    refine am_icle 19 d18_6 (by decide) (fun h6 => ?_) (fun h6 => ?_)
    · refine am_vret d18_19 rfl ?_
      exact hok (ix_le (by omega) h1 h6)
    · refine am_thr (x := 1) d18_9 (by decide) (Nat.le_of_ble_eq_true rfl) ?_
      first | exact hbad (ix_neg (by omega) h1) | exact hbad (ix_nle (by omega) h6)
theorem c_firstReadable {b : Nat} {M : am_M} {Q : am_T} (hb : b < 6) (hQ : Q (.inl (some (.int (if M.1 3 b < M.1 0 7 then M.1 0 7 else M.1 3 b)))) M) : am_W kX_firstReadable 0 (am_in kX_firstReadable [.ref 0, .int (nI b)]) [] M Q := by
  show am_W kX_firstReadable 0 _ [] M Q
  refine am_aload_n d22_0 rfl ?_
  refine am_getr d22_1 fl22_12 sh_0 rfl ?_
  refine am_getr d22_4 fl22_190 sh_1 rfl ?_
  refine am_iload_n d22_7 rfl ?_
  refine am_ialdN b d22_8 sh_3 hb (by decide) ?_
  refine am_aload_n d22_9 rfl ?_
  refine am_geti d22_10 fl22_47 sh_0 rfl ?_
  refine am_max d22_13 (by decide) (by decide) (Nat.le_of_ble_eq_true rfl) ?_
  refine am_iret d22_16 rfl rfl ?_
  exact hQ
/-- when branch b can be read at moment m -/
def bp_rd (M : am_M) (b : Nat) (m : Int32) : Prop := ¬ M.1 4 b = 0 ∧ ¬ m < (if M.1 3 b < M.1 0 7 then M.1 0 7 else M.1 3 b) ∧ m ≤ M.1 0 6
theorem c_requireReadable {b : Nat} {m : Int32} {M : am_M} {Q : am_T} (hb : b < 6) (hok : bp_rd M b m → Q (.inl none) M) (hbad : ¬ bp_rd M b m → Q (.inr 1) M) : am_W kX_requireReadable 0 (am_in kX_requireReadable [.ref 0, .int (nI b), .int m]) [] M Q := by
  show am_W kX_requireReadable 0 _ [] M Q
  refine am_aload_n d19_0 rfl ?_
  refine am_getr d19_1 fl19_12 sh_0 rfl ?_
  refine am_getr d19_4 fl19_81 sh_1 rfl ?_
  refine am_iload_n d19_7 rfl ?_
  refine am_zaldN b d19_8 sh_4 hb (by decide) ?_
  refine am_ifeq 29 d19_9 (by decide) (fun h9 => ?_) (fun h9 => ?_)
  · refine am_thr (x := 1) d19_29 (by decide) (Nat.le_of_ble_eq_true rfl) ?_
    first | exact hbad (fun z => z.1 h9) | exact hbad (fun z => z.2.1 h18) | exact hbad (fun z => h26 z.2.2)
  · refine am_iload_n d19_12 rfl ?_
    refine am_aload_n d19_13 rfl ?_
    refine am_iload_n d19_14 rfl ?_
    refine am_cv1 22 d19_15 ml19_210 rfl (by decide) sh_0 rfl rfl (Nat.le_of_ble_eq_true rfl) ?_
    refine c_firstReadable hb ?_
    show am_W 19 18 _ (.int _ :: _) _ _
    refine am_iclt 29 d19_18 (by decide) (fun h18 => ?_) (fun h18 => ?_)
    · refine am_thr (x := 1) d19_29 (by decide) (Nat.le_of_ble_eq_true rfl) ?_
      first | exact hbad (fun z => z.1 h9) | exact hbad (fun z => z.2.1 h18) | exact hbad (fun z => h26 z.2.2)
    · refine am_iload_n d19_21 rfl ?_
      refine am_aload_n d19_22 rfl ?_
      refine am_geti d19_23 fl19_43 sh_0 rfl ?_
      refine am_icle 39 d19_26 (by decide) (fun h26 => ?_) (fun h26 => ?_)
      · refine am_vret d19_39 rfl ?_
        exact hok ⟨h9, h18, h26⟩
      · refine am_thr (x := 1) d19_29 (by decide) (Nat.le_of_ble_eq_true rfl) ?_
        first | exact hbad (fun z => z.1 h9) | exact hbad (fun z => z.2.1 h18) | exact hbad (fun z => h26 z.2.2)
theorem c_requireOpen {b : Nat} {M : am_M} {Q : am_T} (hb : b < 6) (hok : ¬ M.1 4 b = 0 → Q (.inl none) M) (hbad : M.1 4 b = 0 → Q (.inr 2) M) : am_W kX_requireOpen 0 (am_in kX_requireOpen [.ref 0, .int (nI b)]) [] M Q := by
  show am_W kX_requireOpen 0 _ [] M Q
  refine am_aload_n d20_0 rfl ?_
  refine am_getr d20_1 fl20_12 sh_0 rfl ?_
  refine am_getr d20_4 fl20_81 sh_1 rfl ?_
  refine am_iload_n d20_7 rfl ?_
  refine am_zaldN b d20_8 sh_4 hb (by decide) ?_
  refine am_ifne 22 d20_9 (by decide) (fun h9 => ?_) (fun h9 => ?_)
  · refine am_vret d20_22 rfl ?_
    exact hok h9
  · refine am_thr (x := 2) d20_12 (by decide) (Nat.le_of_ble_eq_true rfl) ?_
    exact hbad h9
theorem c_requireRoomFor {n nw : Nat} {M : am_M} {Q : am_T} (hn : M.1 6 6 = nI nw) (hw : nw ≤ 120) (h1 : n ≤ 48) (hok : nw + n ≤ 120 → Q (.inl none) M) (hbad : 120 < nw + n → Q (.inr 3) M) : am_W kX_requireRoomFor 0 (am_in kX_requireRoomFor [.ref 0, .int (nI n)]) [] M Q := by
  show am_W kX_requireRoomFor 0 _ [] M Q
  refine am_aload_n d21_0 rfl ?_
  refine am_getr d21_1 fl21_19 sh_0 rfl ?_
  refine am_geti d21_4 fl21_186 sh_6 rfl ?_
  refine am_iload_n d21_7 rfl ?_
  refine am_iadd d21_8 ?_
  rw [hn, nI_add]
  refine am_bipush (nI 120) d21_9 (by decide) ?_
  refine am_icle 24 d21_11 (by decide) (fun h11 => ?_) (fun h11 => ?_)
  · refine am_vret d21_24 rfl ?_
    exact hok ((nI_leI (by omega) (by decide)).mp h11)
  · refine am_thr (x := 3) d21_14 (by decide) (Nat.le_of_ble_eq_true rfl) ?_
    exact hbad (Nat.lt_of_not_le (fun z => h11 (nI_le z (by decide))))
/-- the row that is seen in cell c on branch b at moment m -/
def sp_row (wb wm wc : Nat → Int32) (pn : Nat → Nat) (fk : Nat → Int32) (nw b : Nat) (m : Int32) (c : Nat) : Option Nat := sp_last (sp_in wb wm wc (mt_f pn fk b b m) c) nw
/-- the view at v shows the rows r -/
def vw (M : am_M) (v : Nat) (wk wv wm : Nat → Int32) (r : Nat → Option Nat) : Prop := ∀ c, c < 48 → M.1 (v + 1) c = sp_get wk 0 (r c) ∧ M.1 (v + 2) c = sp_get wv 0 (r c) ∧ M.1 (v + 3) c = sp_get wm (-1) (r c)
theorem c_look {v b nb nw : Nat} {m : Int32} {pn : Nat → Nat} {M : am_M} {Q : am_T} (hv : bv v) (hB : bp_P (M.1 2) (M.1 3) pn nb) (hR : bp_R (M.1 7) (M.1 9) nb nw) (hn : M.1 6 6 = nI nw) (hb : b < nb) (hm : 0 ≤ m) (hQ : ∀ M', fr [5, v + 1, v + 2, v + 3] M M' → vw M' v (M.1 10) (M.1 11) (M.1 8) (sp_row (M.1 7) (M.1 8) (M.1 9) pn (M.1 3) nw b m) → Q (.inl none) M') : am_W kX_look 0 (am_in kX_look [.ref 0, .ref v, .int (nI b), .int m]) [] M Q := by
  show am_W kX_look 0 _ [] M Q
  refine am_aload_n d23_0 rfl ?_
  refine am_getr d23_1 fl23_12 sh_0 rfl ?_
  refine am_iload_n d23_4 rfl ?_
  refine am_iload_n d23_5 rfl ?_
  refine am_cv2 79 d23_6 ml23_227 rfl (by decide) sh_1 rfl rfl rfl (Nat.le_of_ble_eq_true rfl) ?_
  refine c_limitSight hB hb hm (fun M1 f1 l1 => ?_)
  show am_W 23 9 _ _ _ _
  refine am_aload_n d23_9 rfl ?_
  refine am_getr d23_10 fl23_19 sh_0 rfl ?_
  refine am_aload_n d23_13 rfl ?_
  refine am_getr d23_14 fl23_12 sh_0 rfl ?_
  refine am_getr d23_17 fl23_230 sh_1 rfl ?_
  refine am_aload_n d23_20 rfl ?_
  refine am_cv2 107 d23_21 ml23_233 rfl (by decide) sh_6 rfl rfl rfl (Nat.le_of_ble_eq_true rfl) ?_
  have g : ∀ p, p ≠ 5 → M1.1 p = M.1 p := fun p hp => f1.eq p (by simpa using hp)
  refine c_show hv (nb := nb) (nw := nw) (by rw [g 7 (by decide), g 9 (by decide)]; exact hR) hB.1 (by rw [g 6 (by decide)]; exact hn) (fun M2 f2 l2 => ?_)
  show am_W 23 24 _ _ _ _
  refine am_vret d23_24 rfl ?_
  refine hQ M2 ((f1.wk (by simp)).tr (f2.wk (fun p hp => List.mem_cons_of_mem _ hp))) (fun c hc => ?_)
  have h3 := l2 c hc
  rw [g 10 (by decide), g 11 (by decide), g 8 (by decide), g 7 (by decide), g 9 (by decide)] at h3
  have h4 : sp_last (sp_in (M.1 7) (M.1 8) (M.1 9) (M1.1 5) c) nw = sp_row (M.1 7) (M.1 8) (M.1 9) pn (M.1 3) nw b m c := by
    refine sp_last_congr (fun i hi => ?_)
    obtain ⟨⟨bi, hbi, hbe⟩, -⟩ := hR.2 i hi
    have h6 := hB.1
    unfold sp_in
    rw [hbe, nI_clamp (by omega), l1 bi (by omega)]
  rw [h4] at h3
  exact h3
end
section
/-! Branches and Writes -/
theorem c_Badd {nb p : Nat} {m : Int32} {M : am_M} {Q : am_T} (hn : M.1 1 4 = nI nb) (h6 : nb < 6) (hQ : Q (.inl (some (.int (nI nb)))) (am_set (am_set (am_set (am_set M 2 nb (nI p)) 3 nb m) 4 nb 1) 1 4 (nI (nb + 1)))) : am_W kB_add 0 (am_in kB_add [.ref 1, .int (nI p), .int m]) [] M Q := by
  show am_W kB_add 0 _ [] M Q
  refine am_aload_n d76_0 rfl ?_
  refine am_geti d76_1 fl76_25 sh_1 rfl ?_
  rw [hn]
  refine am_istore_n d76_4 (Nat.le_of_ble_eq_true rfl) rfl ?_
  refine am_aload_n d76_5 rfl ?_
  refine am_getr d76_6 fl76_9 sh_1 rfl ?_
  refine am_iload_n d76_9 rfl ?_
  refine am_iload_n d76_10 rfl ?_
  refine am_iastN nb d76_11 sh_2 h6 (by decide) ?_
  refine am_aload_n d76_12 rfl ?_
  refine am_getr d76_13 fl76_15 sh_1 rfl ?_
  refine am_iload_n d76_16 rfl ?_
  refine am_iload_n d76_17 rfl ?_
  refine am_iastN nb d76_18 sh_3 h6 (by decide) ?_
  refine am_aload_n d76_19 rfl ?_
  refine am_getr d76_20 fl76_18 sh_1 rfl ?_
  refine am_iload_n d76_23 rfl ?_
  refine am_iconst 1 d76_24 (by decide) ?_
  refine am_zastN nb 1 d76_25 sh_4 h6 (by decide) (by decide) ?_
  refine am_aload_n d76_26 rfl ?_
  refine am_dup d76_27 rfl ?_
  refine am_geti d76_28 fl76_25 sh_1 rfl ?_
  refine am_iconst 1 d76_31 (by decide) ?_
  refine am_iadd d76_32 ?_
  rw [show (am_set (am_set (am_set M 2 nb (nI p)) 3 nb m) 4 nb 1).1 1 4 = nI nb from hn, nI_1]
  refine am_put d76_33 fl76_25 sh_1 rfl rfl rfl rfl ?_
  refine am_iload_n d76_36 rfl ?_
  refine am_iret d76_37 rfl rfl ?_
  exact hQ
theorem c_openCount {nb : Nat} {M : am_M} {Q : am_T} (hn : M.1 1 4 = nI nb) (h6 : nb ≤ 6) (hQ : Q (.inl (some (.int (nI (sp_cnt (fun b => !decide (M.1 4 b = 0)) nb))))) M) : am_W kB_openCount 0 (am_in kB_openCount [.ref 1]) [] M Q := by
  have loop : ∀ i, i ≤ nb → am_W kB_openCount 4 [.ref 1, .int (nI (sp_cnt (fun b => !decide (M.1 4 b = 0)) i)), .int (nI i)] [] M Q := by
    refine am_loop nb (fun i hi ih => ?_)
    refine am_iload_n d77_4 rfl ?_
    refine am_aload_n d77_5 rfl ?_
    refine am_geti d77_6 fl77_25 sh_1 rfl ?_
    refine am_icgeN 30 i nb d77_9 (by decide) rfl hn (by omega) (by omega) (fun h9 => ?_) (fun h9 => ?_)
    · refine am_iload_n d77_30 rfl ?_
      refine am_iret d77_31 rfl rfl ?_
      obtain rfl : i = nb := by omega
      exact hQ
    · refine am_aload_n d77_12 rfl ?_
      refine am_getr d77_13 fl77_18 sh_1 rfl ?_
      refine am_iload_n d77_16 rfl ?_
      refine am_zaldN i d77_17 sh_4 (by omega) (by decide) ?_
      refine am_ifeq 24 d77_18 (by decide) (fun h18 => ?_) (fun h18 => ?_)
      · rw [sp_cnt_f (f := (fun b => !decide (M.1 4 b = 0))) (n := i) (by simp [h18])]
        refine am_incN i d77_24 rfl rfl ?_
        refine am_goto 4 d77_27 (by decide) ?_
        exact ih h9
      · refine am_incE (sp_cnt (fun b => !decide (M.1 4 b = 0)) i) (sp_cnt (fun b => !decide (M.1 4 b = 0)) (i + 1)) (sp_cnt_t (by simp [h18])) d77_21 rfl rfl ?_
        refine am_incN i d77_24 rfl rfl ?_
        refine am_goto 4 d77_27 (by decide) ?_
        exact ih h9
  show am_W kB_openCount 0 _ [] M Q
  refine am_iconst (nI 0) d77_0 (by decide) ?_
  refine am_istore_n d77_1 (Nat.le_of_ble_eq_true rfl) rfl ?_
  refine am_iconst (nI 0) d77_2 (by decide) ?_
  refine am_istore_n d77_3 (Nat.le_of_ble_eq_true rfl) rfl ?_
  exact loop 0 (Nat.zero_le _)
/-- a row more -/
def sp_add (M : am_M) (nw : Nat) (b m c kd vl : Int32) : am_M := am_set (am_set (am_set (am_set (am_set (am_set M 7 nw b) 8 nw m) 9 nw c) 10 nw kd) 11 nw vl) 6 6 (nI (nw + 1))
theorem c_Wadd {nw : Nat} {b m c kd vl : Int32} {M : am_M} {Q : am_T} (hn : M.1 6 6 = nI nw) (h120 : nw < 120) (hQ : Q (.inl none) (sp_add M nw b m c kd vl)) : am_W kW_add 0 (am_in kW_add [.ref 6, .int b, .int m, .int c, .int kd, .int vl]) [] M Q := by
  show am_W kW_add 0 _ [] M Q
  refine am_aload_n d105_0 rfl ?_
  refine am_getr d105_1 fl105_9 sh_6 rfl ?_
  refine am_aload_n d105_4 rfl ?_
  refine am_geti d105_5 fl105_31 sh_6 rfl ?_
  rw [hn]
  refine am_iload_n d105_8 rfl ?_
  refine am_iastN nw d105_9 sh_7 h120 (by decide) ?_
  refine am_aload_n d105_10 rfl ?_
  refine am_getr d105_11 fl105_15 sh_6 rfl ?_
  refine am_aload_n d105_14 rfl ?_
  refine am_geti d105_15 fl105_31 sh_6 rfl ?_
  rw [show (am_set M 7 nw b).1 6 6 = nI nw from hn]
  refine am_iload_n d105_18 rfl ?_
  refine am_iastN nw d105_19 sh_8 h120 (by decide) ?_
  refine am_aload_n d105_20 rfl ?_
  refine am_getr d105_21 fl105_18 sh_6 rfl ?_
  refine am_aload_n d105_24 rfl ?_
  refine am_geti d105_25 fl105_31 sh_6 rfl ?_
  rw [show (am_set (am_set M 7 nw b) 8 nw m).1 6 6 = nI nw from hn]
  refine am_iload_n d105_28 rfl ?_
  refine am_iastN nw d105_29 sh_9 h120 (by decide) ?_
  refine am_aload_n d105_30 rfl ?_
  refine am_getr d105_31 fl105_21 sh_6 rfl ?_
  refine am_aload_n d105_34 rfl ?_
  refine am_geti d105_35 fl105_31 sh_6 rfl ?_
  rw [show (am_set (am_set (am_set M 7 nw b) 8 nw m) 9 nw c).1 6 6 = nI nw from hn]
  refine am_iload d105_38 rfl ?_
  refine am_iastN nw d105_40 sh_10 h120 (by decide) ?_
  refine am_aload_n d105_41 rfl ?_
  refine am_getr d105_42 fl105_24 sh_6 rfl ?_
  refine am_aload_n d105_45 rfl ?_
  refine am_geti d105_46 fl105_31 sh_6 rfl ?_
  rw [show (am_set (am_set (am_set (am_set M 7 nw b) 8 nw m) 9 nw c) 10 nw kd).1 6 6 = nI nw from hn]
  refine am_iload d105_49 rfl ?_
  refine am_iastN nw d105_51 sh_11 h120 (by decide) ?_
  refine am_aload_n d105_52 rfl ?_
  refine am_dup d105_53 rfl ?_
  refine am_geti d105_54 fl105_31 sh_6 rfl ?_
  refine am_iconst 1 d105_57 (by decide) ?_
  refine am_iadd d105_58 ?_
  rw [show (am_set (am_set (am_set (am_set (am_set M 7 nw b) 8 nw m) 9 nw c) 10 nw kd) 11 nw vl).1 6 6 = nI nw from hn, nI_1]
  refine am_put d105_59 fl105_31 sh_6 rfl rfl rfl rfl ?_
  refine am_vret d105_62 rfl ?_
  exact hQ
theorem c_countOf {nw : Nat} {x : Int32} {M : am_M} {Q : am_T} (hn : M.1 6 6 = nI nw) (h120 : nw ≤ 120) (hQ : Q (.inl (some (.int (nI (sp_cnt (fun i => decide (M.1 7 i = x)) nw))))) M) : am_W kW_countOf 0 (am_in kW_countOf [.ref 6, .int x]) [] M Q := by
  have loop : ∀ i, i ≤ nw → am_W kW_countOf 4 [.ref 6, .int x, .int (nI (sp_cnt (fun i => decide (M.1 7 i = x)) i)), .int (nI i)] [] M Q := by
    refine am_loop nw (fun i hi ih => ?_)
    refine am_iload_n d106_4 rfl ?_
    refine am_aload_n d106_5 rfl ?_
    refine am_geti d106_6 fl106_31 sh_6 rfl ?_
    refine am_icgeN 31 i nw d106_9 (by decide) rfl hn (by omega) (by omega) (fun h9 => ?_) (fun h9 => ?_)
    · refine am_iload_n d106_31 rfl ?_
      refine am_iret d106_32 rfl rfl ?_
      obtain rfl : i = nw := by omega
      exact hQ
    · refine am_aload_n d106_12 rfl ?_
      refine am_getr d106_13 fl106_9 sh_6 rfl ?_
      refine am_iload_n d106_16 rfl ?_
      refine am_ialdN i d106_17 sh_7 (by omega) (by decide) ?_
      refine am_iload_n d106_18 rfl ?_
      refine am_icne 25 d106_19 (by decide) (fun h19 => ?_) (fun h19 => ?_)
      · rw [sp_cnt_f (f := (fun i => decide (M.1 7 i = x))) (n := i) (by simp [h19])]
        refine am_incN i d106_25 rfl rfl ?_
        refine am_goto 4 d106_28 (by decide) ?_
        exact ih h9
      · refine am_incE (sp_cnt (fun i => decide (M.1 7 i = x)) i) (sp_cnt (fun i => decide (M.1 7 i = x)) (i + 1)) (sp_cnt_t (by simp [h19])) d106_22 rfl rfl ?_
        refine am_incN i d106_25 rfl rfl ?_
        refine am_goto 4 d106_28 (by decide) ?_
        exact ih h9
  show am_W kW_countOf 0 _ [] M Q
  refine am_iconst (nI 0) d106_0 (by decide) ?_
  refine am_istore_n d106_1 (Nat.le_of_ble_eq_true rfl) rfl ?_
  refine am_iconst (nI 0) d106_2 (by decide) ?_
  refine am_istore_n d106_3 (Nat.le_of_ble_eq_true rfl) rfl ?_
  exact loop 0 (Nat.zero_le _)
theorem c_unmarkAll {nw : Nat} {M : am_M} {Q : am_T} (hn : M.1 6 6 = nI nw) (h120 : nw ≤ 120) (hQ : ∀ M', fr [12] M M' → (∀ j, j < nw → M'.1 12 j = 0) → Q (.inl none) M') : am_W kW_unmarkAll 0 (am_in kW_unmarkAll [.ref 6]) [] M Q := by
  have loop : ∀ i, i ≤ nw → ∀ M1 : am_M, (fr [12] M M1 ∧ ∀ j, j < i → M1.1 12 j = 0) → am_W kW_unmarkAll 2 [.ref 6, .int (nI i)] [] M1 Q := by
    refine am_loop nw (fun i hi ih => ?_)
    intro M1 I
    have hc : M1.1 6 6 = nI nw := by rw [I.1.eq 6 (by decide)]; exact hn
    refine am_iload_n d108_2 rfl ?_
    refine am_aload_n d108_3 rfl ?_
    refine am_geti d108_4 fl108_31 sh_6 rfl ?_
    refine am_icgeN 23 i nw d108_7 (by decide) rfl hc (by omega) (by omega) (fun h7 => ?_) (fun h7 => ?_)
    · refine am_vret d108_23 rfl ?_
      obtain rfl : i = nw := by omega
      exact hQ M1 I.1 I.2
    · refine am_aload_n d108_10 rfl ?_
      refine am_getr d108_11 fl108_27 sh_6 rfl ?_
      refine am_iload_n d108_14 rfl ?_
      refine am_iconst 0 d108_15 (by decide) ?_
      refine am_zastN i 0 d108_16 sh_12 (by omega) (by decide) (by decide) ?_
      refine am_incN i d108_17 rfl rfl ?_
      refine am_goto 2 d108_20 (by decide) ?_
      exact ih h7 _ ⟨I.1.set (by decide), fun j hj => by
          rw [am_set_self]; unfold upd; split
          · rfl
          · exact I.2 j (by omega)⟩
  show am_W kW_unmarkAll 0 _ [] M Q
  refine am_iconst (nI 0) d108_0 (by decide) ?_
  refine am_istore_n d108_1 (Nat.le_of_ble_eq_true rfl) rfl ?_
  exact loop 0 (Nat.zero_le _) M ⟨fr.rf, fun j hj => absurd hj (by omega)⟩
theorem c_markShown {v nb nw : Nat} {M : am_M} {Q : am_T} (hv : bv v) (hR : bp_R (M.1 7) (M.1 9) nb nw) (hn : M.1 6 6 = nI nw) (hQ : ∀ M', fr [12] M M' → (∀ j, j < nw → M'.1 12 j = if (fun j => decide (M.1 8 j = M.1 (v + 3) (M.1 9 j).toNatClampNeg)) j = true then 1 else M.1 12 j) → Q (.inl none) M') : am_W kW_markShown 0 (am_in kW_markShown [.ref 6, .ref v]) [] M Q := by
  obtain ⟨h120, rows0⟩ := hR
  have v13 : 13 ≤ v := by rcases hv with rfl | rfl | rfl <;> decide
  have loop : ∀ i, i ≤ nw → ∀ M1 : am_M, (fr [12] M M1 ∧ ∀ j, j < nw → M1.1 12 j = if j < i then (if (fun j => decide (M.1 8 j = M.1 (v + 3) (M.1 9 j).toNatClampNeg)) j = true then 1 else M.1 12 j) else M.1 12 j) → am_W kW_markShown 2 [.ref 6, .ref v, .int (nI i)] [] M1 Q := by
    refine am_loop nw (fun i hi ih => ?_)
    intro M1 I
    have hc : M1.1 6 6 = nI nw := by rw [I.1.eq 6 (by decide)]; exact hn
    have e8 : M1.1 8 = M.1 8 := I.1.eq 8 (by decide)
    have e9 : M1.1 9 = M.1 9 := I.1.eq 9 (by decide)
    have ev : M1.1 (v + 3) = M.1 (v + 3) := I.1.eq _ (by simp; omega)
    have rows : ∀ i, i < nw → (∃ b, b < nb ∧ M.1 7 i = nI b) ∧ ∃ c, c < 48 ∧ M1.1 9 i = nI c := by rw [e9]; exact rows0
    refine am_iload_n d109_2 rfl ?_
    refine am_aload_n d109_3 rfl ?_
    refine am_geti d109_4 fl109_31 sh_6 rfl ?_
    refine am_icgeN 43 i nw d109_7 (by decide) rfl hc (by omega) (by omega) (fun h7 => ?_) (fun h7 => ?_)
    · refine am_vret d109_43 rfl ?_
      obtain rfl : i = nw := by omega
      exact hQ M1 I.1 (fun j hj => by rw [I.2 j (by omega), if_pos hj])
    · obtain ⟨-, ci, hc48, hci⟩ := rows i h7
      refine am_aload_n d109_10 rfl ?_
      refine am_getr d109_11 fl109_15 sh_6 rfl ?_
      refine am_iload_n d109_14 rfl ?_
      refine am_ialdN i d109_15 sh_8 (by omega) (by decide) ?_
      refine am_aload_n d109_16 rfl ?_
      refine am_getr d109_17 fl109_42 (bv_0 hv) rfl ?_
      refine am_aload_n d109_20 rfl ?_
      refine am_getr d109_21 fl109_18 sh_6 rfl ?_
      refine am_iload_n d109_24 rfl ?_
      refine am_ialdN i d109_25 sh_9 (by omega) (by decide) ?_
      refine am_ialdE ci hci d109_26 (bv_3 hv) hc48 (by decide) ?_
      refine am_icne 37 d109_27 (by decide) (fun h27 => ?_) (fun h27 => ?_)
      · refine am_incN i d109_37 rfl rfl ?_
        refine am_goto 2 d109_40 (by decide) ?_
        exact ih h7 M1 ⟨I.1, fun j hj => by
          by_cases hji : j = i
          · subst hji; rw [I.2 j hj, if_neg (Nat.lt_irrefl _), if_pos (by omega), if_neg (by rw [decide_eq_true_eq, ← e8, ← ev, ← e9, hci, nI_clamp (by omega)]; exact h27)]
          · rw [I.2 j hj]
            by_cases hlt : j < i
            · rw [if_pos hlt, if_pos (show j < i + 1 by omega)]
            · rw [if_neg hlt, if_neg (show ¬ j < i + 1 by omega)]⟩
      · refine am_aload_n d109_30 rfl ?_
        refine am_getr d109_31 fl109_27 sh_6 rfl ?_
        refine am_iload_n d109_34 rfl ?_
        refine am_iconst 1 d109_35 (by decide) ?_
        refine am_zastN i 1 d109_36 sh_12 (by omega) (by decide) (by decide) ?_
        refine am_incN i d109_37 rfl rfl ?_
        refine am_goto 2 d109_40 (by decide) ?_
        exact ih h7 _ ⟨I.1.set (by decide), fun j hj => by
          rw [am_set_self]; unfold upd
          by_cases hji : j = i
          · subst hji; rw [if_pos rfl, if_pos (by omega), if_pos (by rw [decide_eq_true_eq, ← e8, ← ev, ← e9, hci, nI_clamp (by omega)]; exact h27)]
          · rw [if_neg hji, I.2 j hj]
            by_cases hlt : j < i
            · rw [if_pos hlt, if_pos (show j < i + 1 by omega)]
            · rw [if_neg hlt, if_neg (show ¬ j < i + 1 by omega)]⟩
  show am_W kW_markShown 0 _ [] M Q
  refine am_iconst (nI 0) d109_0 (by decide) ?_
  refine am_istore_n d109_1 (Nat.le_of_ble_eq_true rfl) rfl ?_
  exact loop 0 (Nat.zero_le _) M ⟨fr.rf, fun j hj => by rw [if_neg (by omega)]⟩
theorem c_markOwnAfter {nw : Nat} {x m : Int32} {M : am_M} {Q : am_T} (h120 : nw ≤ 120) (hn : M.1 6 6 = nI nw) (hQ : ∀ M', fr [12] M M' → (∀ j, j < nw → M'.1 12 j = if (fun j => decide (M.1 7 j = x) && decide (m < M.1 8 j)) j = true then 1 else M.1 12 j) → Q (.inl none) M') : am_W kW_markOwnAfter 0 (am_in kW_markOwnAfter [.ref 6, .int x, .int m]) [] M Q := by
  have loop : ∀ i, i ≤ nw → ∀ M1 : am_M, (fr [12] M M1 ∧ ∀ j, j < nw → M1.1 12 j = if j < i then (if (fun j => decide (M.1 7 j = x) && decide (m < M.1 8 j)) j = true then 1 else M.1 12 j) else M.1 12 j) → am_W kW_markOwnAfter 2 [.ref 6, .int x, .int m, .int (nI i)] [] M1 Q := by
    refine am_loop nw (fun i hi ih => ?_)
    intro M1 I
    have hc : M1.1 6 6 = nI nw := by rw [I.1.eq 6 (by decide)]; exact hn
    have e7 : M1.1 7 = M.1 7 := I.1.eq 7 (by decide)
    have e8 : M1.1 8 = M.1 8 := I.1.eq 8 (by decide)
    refine am_iload_n d110_2 rfl ?_
    refine am_aload_n d110_3 rfl ?_
    refine am_geti d110_4 fl110_31 sh_6 rfl ?_
    refine am_icgeN 43 i nw d110_7 (by decide) rfl hc (by omega) (by omega) (fun h7 => ?_) (fun h7 => ?_)
    · refine am_vret d110_43 rfl ?_
      obtain rfl : i = nw := by omega
      exact hQ M1 I.1 (fun j hj => by rw [I.2 j (by omega), if_pos hj])
    · refine am_aload_n d110_10 rfl ?_
      refine am_getr d110_11 fl110_9 sh_6 rfl ?_
      refine am_iload_n d110_14 rfl ?_
      refine am_ialdN i d110_15 sh_7 (by omega) (by decide) ?_
      refine am_iload_n d110_16 rfl ?_
      refine am_icne 37 d110_17 (by decide) (fun h17 => ?_) (fun h17 => ?_)
      · refine am_incN i d110_37 rfl rfl ?_
        refine am_goto 2 d110_40 (by decide) ?_
        exact ih h7 M1 ⟨I.1, fun j hj => by
          by_cases hji : j = i
          · subst hji; rw [I.2 j hj, if_neg (Nat.lt_irrefl _), if_pos (by omega), if_neg (by rw [Bool.and_eq_true, decide_eq_true_eq, ← e7]; exact fun z => h17 z.1)]
          · rw [I.2 j hj]
            by_cases hlt : j < i
            · rw [if_pos hlt, if_pos (show j < i + 1 by omega)]
            · rw [if_neg hlt, if_neg (show ¬ j < i + 1 by omega)]⟩
      · refine am_aload_n d110_20 rfl ?_
        refine am_getr d110_21 fl110_15 sh_6 rfl ?_
        refine am_iload_n d110_24 rfl ?_
        refine am_ialdN i d110_25 sh_8 (by omega) (by decide) ?_
        refine am_iload_n d110_26 rfl ?_
        refine am_icle 37 d110_27 (by decide) (fun h27 => ?_) (fun h27 => ?_)
        · refine am_incN i d110_37 rfl rfl ?_
          refine am_goto 2 d110_40 (by decide) ?_
          exact ih h7 M1 ⟨I.1, fun j hj => by
          by_cases hji : j = i
          · subst hji; rw [I.2 j hj, if_neg (Nat.lt_irrefl _), if_pos (by omega), if_neg (by rw [Bool.and_eq_true, decide_eq_true_eq, decide_eq_true_eq, ← e8]; exact fun z => Int32.not_lt.mpr h27 z.2)]
          · rw [I.2 j hj]
            by_cases hlt : j < i
            · rw [if_pos hlt, if_pos (show j < i + 1 by omega)]
            · rw [if_neg hlt, if_neg (show ¬ j < i + 1 by omega)]⟩
        · refine am_aload_n d110_30 rfl ?_
          refine am_getr d110_31 fl110_27 sh_6 rfl ?_
          refine am_iload_n d110_34 rfl ?_
          refine am_iconst 1 d110_35 (by decide) ?_
          refine am_zastN i 1 d110_36 sh_12 (by omega) (by decide) (by decide) ?_
          refine am_incN i d110_37 rfl rfl ?_
          refine am_goto 2 d110_40 (by decide) ?_
          exact ih h7 _ ⟨I.1.set (by decide), fun j hj => by
          rw [am_set_self]; unfold upd
          by_cases hji : j = i
          · subst hji; rw [if_pos rfl, if_pos (by omega), if_pos (by rw [Bool.and_eq_true, decide_eq_true_eq, decide_eq_true_eq, ← e7, ← e8]; exact ⟨h17, Int32.not_le.mp h27⟩)]
          · rw [if_neg hji, I.2 j hj]
            by_cases hlt : j < i
            · rw [if_pos hlt, if_pos (show j < i + 1 by omega)]
            · rw [if_neg hlt, if_neg (show ¬ j < i + 1 by omega)]⟩
  show am_W kW_markOwnAfter 0 _ [] M Q
  refine am_iconst (nI 0) d110_0 (by decide) ?_
  refine am_istore_n d110_1 (Nat.le_of_ble_eq_true rfl) rfl ?_
  exact loop 0 (Nat.zero_le _) M ⟨fr.rf, fun j hj => by rw [if_neg (by omega)]⟩
theorem c_momentOfMarked {nw : Nat} {x k : Int32} {M : am_M} {Q : am_T} (h120 : nw ≤ 120) (hn : M.1 6 6 = nI nw) (hQ : Q (.inl (some (.int (sp_kth (fun i => !decide (M.1 12 i = 0) && decide (M.1 9 i = x)) (M.1 8) k nw nw 0)))) M) : am_W kW_momentOfMarked 0 (am_in kW_momentOfMarked [.ref 6, .int x, .int k]) [] M Q := by
  have loop : ∀ i, i ≤ nw → ∀ s, Q (.inl (some (.int (sp_kth (fun i => !decide (M.1 12 i = 0) && decide (M.1 9 i = x)) (M.1 8) k nw (nw - i) s)))) M → am_W kW_momentOfMarked 5 [.ref 6, .int x, .int k, .int (nI s), .int (nI i)] [] M Q := by
    refine am_loop nw (fun i hi ih => ?_)
    intro s hq
    refine am_iload d111_5 rfl ?_
    refine am_aload_n d111_7 rfl ?_
    refine am_geti d111_8 fl111_31 sh_6 rfl ?_
    refine am_icgeN 57 i nw d111_11 (by decide) rfl hn (by omega) (by omega) (fun h11 => ?_) (fun h11 => ?_)
    · refine am_iconst (-1) d111_57 (by decide) ?_
      refine am_iret d111_58 rfl rfl ?_
      obtain rfl : i = nw := by omega
      rw [Nat.sub_self] at hq
      exact hq
    · refine am_aload_n d111_14 rfl ?_
      refine am_getr d111_15 fl111_27 sh_6 rfl ?_
      refine am_iload d111_18 rfl ?_
      refine am_zaldN i d111_20 sh_12 (by omega) (by decide) ?_
      refine am_ifeq 51 d111_21 (by decide) (fun h21 => ?_) (fun h21 => ?_)
      · refine am_incN i d111_51 rfl rfl ?_
        refine am_goto 5 d111_54 (by decide) ?_
        exact ih h11 s (by rw [sp_kth_f h11 (by simp [h21])] at hq; exact hq)
      · refine am_aload_n d111_24 rfl ?_
        refine am_getr d111_25 fl111_18 sh_6 rfl ?_
        refine am_iload d111_28 rfl ?_
        refine am_ialdN i d111_30 sh_9 (by omega) (by decide) ?_
        refine am_iload_n d111_31 rfl ?_
        refine am_icne 51 d111_32 (by decide) (fun h32 => ?_) (fun h32 => ?_)
        · refine am_incN i d111_51 rfl rfl ?_
          refine am_goto 5 d111_54 (by decide) ?_
          exact ih h11 s (by rw [sp_kth_f h11 (by simp [h32])] at hq; exact hq)
        · refine am_iload_n d111_35 rfl ?_
          refine am_iload_n d111_36 rfl ?_
          refine am_icne 48 d111_37 (by decide) (fun h37 => ?_) (fun h37 => ?_)
          · refine am_incN s d111_48 rfl rfl ?_
            refine am_incN i d111_51 rfl rfl ?_
            refine am_goto 5 d111_54 (by decide) ?_
            exact ih h11 (s + 1) (by rw [sp_kth_n h11 (by simp [h21, h32]) h37] at hq; exact hq)
          · refine am_aload_n d111_40 rfl ?_
            refine am_getr d111_41 fl111_15 sh_6 rfl ?_
            refine am_iload d111_44 rfl ?_
            refine am_ialdN i d111_46 sh_8 (by omega) (by decide) ?_
            refine am_iret d111_47 rfl rfl ?_
            rw [sp_kth_t h11 (by simp [h21, h32]) h37] at hq
            exact hq
  show am_W kW_momentOfMarked 0 _ [] M Q
  refine am_iconst (nI 0) d111_0 (by decide) ?_
  refine am_istore_n d111_1 (Nat.le_of_ble_eq_true rfl) rfl ?_
  refine am_iconst (nI 0) d111_2 (by decide) ?_
  refine am_istore d111_3 (Nat.le_of_ble_eq_true rfl) rfl ?_
  exact loop 0 (Nat.zero_le _) 0 hQ
end
section
/-! moveRow, dropUnmarked, meet; View -/
theorem c_moveRow {f t : Nat} {M : am_M} {Q : am_T} (hf : f < 120) (ht : t < 120) (hQ : Q (.inl none) (am_set (am_set (am_set (am_set (am_set M 7 t (M.1 7 f)) 8 t (M.1 8 f)) 9 t (M.1 9 f)) 10 t (M.1 10 f)) 11 t (M.1 11 f))) : am_W kW_moveRow 0 (am_in kW_moveRow [.ref 6, .int (nI f), .int (nI t)]) [] M Q := by
  show am_W kW_moveRow 0 _ [] M Q
  refine am_aload_n d113_0 rfl ?_
  refine am_getr d113_1 fl113_9 sh_6 rfl ?_
  refine am_iload_n d113_4 rfl ?_
  refine am_aload_n d113_5 rfl ?_
  refine am_getr d113_6 fl113_9 sh_6 rfl ?_
  refine am_iload_n d113_9 rfl ?_
  refine am_ialdN f d113_10 sh_7 hf (by decide) ?_
  refine am_iastN t d113_11 sh_7 ht (by decide) ?_
  refine am_aload_n d113_12 rfl ?_
  refine am_getr d113_13 fl113_15 sh_6 rfl ?_
  refine am_iload_n d113_16 rfl ?_
  refine am_aload_n d113_17 rfl ?_
  refine am_getr d113_18 fl113_15 sh_6 rfl ?_
  refine am_iload_n d113_21 rfl ?_
  refine am_ialdN f d113_22 sh_8 hf (by decide) ?_
  refine am_iastN t d113_23 sh_8 ht (by decide) ?_
  refine am_aload_n d113_24 rfl ?_
  refine am_getr d113_25 fl113_18 sh_6 rfl ?_
  refine am_iload_n d113_28 rfl ?_
  refine am_aload_n d113_29 rfl ?_
  refine am_getr d113_30 fl113_18 sh_6 rfl ?_
  refine am_iload_n d113_33 rfl ?_
  refine am_ialdN f d113_34 sh_9 hf (by decide) ?_
  refine am_iastN t d113_35 sh_9 ht (by decide) ?_
  refine am_aload_n d113_36 rfl ?_
  refine am_getr d113_37 fl113_21 sh_6 rfl ?_
  refine am_iload_n d113_40 rfl ?_
  refine am_aload_n d113_41 rfl ?_
  refine am_getr d113_42 fl113_21 sh_6 rfl ?_
  refine am_iload_n d113_45 rfl ?_
  refine am_ialdN f d113_46 sh_10 hf (by decide) ?_
  refine am_iastN t d113_47 sh_10 ht (by decide) ?_
  refine am_aload_n d113_48 rfl ?_
  refine am_getr d113_49 fl113_24 sh_6 rfl ?_
  refine am_iload_n d113_52 rfl ?_
  refine am_aload_n d113_53 rfl ?_
  refine am_getr d113_54 fl113_24 sh_6 rfl ?_
  refine am_iload_n d113_57 rfl ?_
  refine am_ialdN f d113_58 sh_11 hf (by decide) ?_
  refine am_iastN t d113_59 sh_11 ht (by decide) ?_
  refine am_vret d113_60 rfl ?_
  exact hQ
theorem c_dropUnmarked {nw : Nat} {M : am_M} {Q : am_T} (h120 : nw ≤ 120) (hn : M.1 6 6 = nI nw) (hQ : ∀ M', fr [6, 7, 8, 9, 10, 11] M M' → M'.1 6 6 = nI (sp_cnt (fun i => !decide (M.1 12 i = 0)) nw) → (∀ p, 7 ≤ p → p ≤ 11 → M'.1 p = sp_cp (fun i => !decide (M.1 12 i = 0)) (M.1 p) nw) → Q (.inl (some (.int (nI (nw - sp_cnt (fun i => !decide (M.1 12 i = 0)) nw))))) M') : am_W kW_dropUnmarked 0 (am_in kW_dropUnmarked [.ref 6]) [] M Q := by
  have loop : ∀ i, i ≤ nw → ∀ M1 : am_M, (fr [7, 8, 9, 10, 11] M M1 ∧ ∀ p, 7 ≤ p → p ≤ 11 → M1.1 p = sp_cp (fun i => !decide (M.1 12 i = 0)) (M.1 p) i) → am_W kW_dropUnmarked 4 [.ref 6, .int (nI (sp_cnt (fun i => !decide (M.1 12 i = 0)) i)), .int (nI i)] [] M1 Q := by
    refine am_loop nw (fun i hi ih => ?_)
    intro M1 I
    have hc : M1.1 6 6 = nI nw := by rw [I.1.eq 6 (by decide)]; exact hn
    have e12 : M1.1 12 = M.1 12 := I.1.eq 12 (by decide)
    refine am_iload_n d112_4 rfl ?_
    refine am_aload_n d112_5 rfl ?_
    refine am_geti d112_6 fl112_31 sh_6 rfl ?_
    refine am_icgeN 36 i nw d112_9 (by decide) rfl hc (by omega) (by omega) (fun h9 => ?_) (fun h9 => ?_)
    · obtain rfl : i = nw := by omega
      refine am_aload_n d112_36 rfl ?_
      refine am_geti d112_37 fl112_31 sh_6 rfl ?_
      refine am_iload_n d112_40 rfl ?_
      refine am_isub d112_41 ?_
      rw [hc, pk_sub (sp_cnt_le (fun i => !decide (M.1 12 i = 0)) i)]
      refine am_istore_n d112_42 (Nat.le_of_ble_eq_true rfl) rfl ?_
      refine am_aload_n d112_43 rfl ?_
      refine am_iload_n d112_44 rfl ?_
      refine am_put d112_45 fl112_31 sh_6 rfl rfl rfl rfl ?_
      refine am_iload_n d112_48 rfl ?_
      refine am_iret d112_49 rfl rfl ?_
      exact hQ _ ((I.1.wk (by simp)).set (by simp)) (by rw [am_set_self]; simp [upd]) (fun p h1 h2 => by rw [am_set_ne (by omega)]; exact I.2 p h1 h2)
    · refine am_aload_n d112_12 rfl ?_
      refine am_getr d112_13 fl112_27 sh_6 rfl ?_
      refine am_iload_n d112_16 rfl ?_
      refine am_zaldN i d112_17 sh_12 (by omega) (by decide) ?_
      refine am_ifeq 30 d112_18 (by decide) (fun h18 => ?_) (fun h18 => ?_)
      · rw [sp_cnt_f (f := (fun i => !decide (M.1 12 i = 0))) (n := i) (by simp [e12 ▸ h18])]
        refine am_incN i d112_30 rfl rfl ?_
        refine am_goto 4 d112_33 (by decide) ?_
        exact ih h9 M1 ⟨I.1, fun p h1 h2 => by rw [I.2 p h1 h2, sp_cp_f (by simp [e12 ▸ h18])]⟩
      · have h18' : (fun i => !decide (M.1 12 i = 0)) i = true := by simp [e12 ▸ h18]
        refine am_aload_n d112_21 rfl ?_
        refine am_iload_n d112_22 rfl ?_
        refine am_iload_n d112_23 rfl ?_
        refine am_cv2 113 d112_24 ml112_43 rfl (by decide) sh_6 rfl rfl rfl (Nat.le_of_ble_eq_true rfl) ?_
        refine c_moveRow (f := i) (t := sp_cnt (fun i => !decide (M.1 12 i = 0)) i) (by omega) (by have := sp_cnt_le (fun i => !decide (M.1 12 i = 0)) i; omega) ?_
        show am_W 112 27 _ _ _ _
        refine am_incE (sp_cnt (fun i => !decide (M.1 12 i = 0)) i) (sp_cnt (fun i => !decide (M.1 12 i = 0)) (i + 1)) (sp_cnt_t (by simp [h18'])) d112_27 rfl rfl ?_
        refine am_incN i d112_30 rfl rfl ?_
        refine am_goto 4 d112_33 (by decide) ?_
        exact ih h9 _ ⟨((((I.1.set (by simp)).set (by simp)).set (by simp)).set (by simp)).set (by simp), fun p h1 h2 => by
          rw [sp_cp_t h18', ← I.2 p h1 h2]
          have hp : p = 7 ∨ p = 8 ∨ p = 9 ∨ p = 10 ∨ p = 11 := by omega
          rcases hp with rfl | rfl | rfl | rfl | rfl <;> rfl⟩
  show am_W kW_dropUnmarked 0 _ [] M Q
  refine am_iconst (nI 0) d112_0 (by decide) ?_
  refine am_istore_n d112_1 (Nat.le_of_ble_eq_true rfl) rfl ?_
  refine am_iconst (nI 0) d112_2 (by decide) ?_
  refine am_istore_n d112_3 (Nat.le_of_ble_eq_true rfl) rfl ?_
  exact loop 0 (Nat.zero_le _) M ⟨fr.rf, fun p _ _ => rfl⟩
set_option maxHeartbeats 1000000 in
theorem c_meet {a b nb : Nat} {m : Int32} {pn : Nat → Nat} {M : am_M} {Q : am_T} (hB : bp_P (M.1 2) (M.1 3) pn nb) (ha : a < nb) (hb : b < nb) (hQ : Q (.inl (some (.int (sp_meet pn (M.1 3) 12 m a b)))) M) : am_W kB_meet 0 (am_in kB_meet [.ref 1, .int (nI a), .int (nI b), .int m]) [] M Q := by
  obtain ⟨h6, hpn, hpar, hfk⟩ := hB
  have loop : ∀ i, i ≤ 12 → ∀ (w : Value) (x1 x2 x3 : Int32) (m : Int32) (a b : Nat), a < nb → b < nb → Q (.inl (some (.int (sp_meet pn (M.1 3) (12 - i) m a b)))) M → am_W kB_meet 12 [.ref 1, .int x1, .int x2, .int x3, .int m, .int (nI a), .int (nI b), .int (nI i), w] [] M Q := by
    refine am_loop 12 (fun i hi ih => ?_)
    intro w x1 x2 x3 m a b ha hb hq
    refine am_iload d78_12 rfl ?_
    refine am_bipush (nI 12) d78_14 (by decide) ?_
    refine am_icgeN 83 i 12 d78_16 (by decide) rfl rfl (by omega) (by omega) (fun h16 => ?_) (fun h16 => ?_)
    · obtain rfl : i = 12 := by omega
      refine am_iload d78_83 rfl ?_
      exact am_iret d78_85 rfl rfl hq
    · obtain ⟨d, hd⟩ : ∃ d, 12 - i = d + 1 := ⟨12 - i - 1, by omega⟩
      rw [hd] at hq
      have hd2 : 12 - (i + 1) = d := by omega
      rw [hd2] at ih
      refine am_iload d78_19 rfl ?_
      refine am_iload d78_21 rfl ?_
      refine am_iceq 83 d78_23 (by decide) (fun h23 => ?_) (fun h23 => ?_)
      · have hab := (nI_eq (by omega) (by omega)).mp h23
        refine am_iload d78_83 rfl ?_
        refine am_iret d78_85 rfl rfl ?_
        simp only [sp_meet, if_pos hab] at hq
        exact hq
      · have hab : a ≠ b := fun z => h23 (by rw [z])
        refine am_iload d78_26 rfl ?_
        refine am_iload d78_28 rfl ?_
        refine am_max d78_30 (by decide) (by decide) (Nat.le_of_ble_eq_true rfl) ?_
        by_cases hlt : a < b
        · rw [if_pos (nI_lt hlt (by omega))]
          refine am_istore d78_33 (Nat.le_of_ble_eq_true rfl) rfl ?_
          refine am_iload d78_35 rfl ?_
          refine am_aload_n d78_37 rfl ?_
          refine am_getr d78_38 fl78_15 sh_1 rfl ?_
          refine am_iload d78_41 rfl ?_
          refine am_ialdN b d78_43 sh_3 (by omega) (by decide) ?_
          refine am_min d78_44 (by decide) (by decide) (Nat.le_of_ble_eq_true rfl) ?_
          refine am_istore d78_47 (Nat.le_of_ble_eq_true rfl) rfl ?_
          refine am_iload d78_49 rfl ?_
          refine am_iload d78_51 rfl ?_
          refine am_icne 68 d78_53 (by decide) (fun _ => ?_) (fun h53 => absurd ((nI_eq (by omega) (by omega)).mp h53) hab)
          refine am_aload_n d78_68 rfl ?_
          refine am_getr d78_69 fl78_9 sh_1 rfl ?_
          refine am_iload d78_72 rfl ?_
          refine am_ialdN b d78_74 sh_2 (by omega) (by decide) ?_
          rw [hpar b (by omega) (by omega)]
          refine am_istore d78_75 (Nat.le_of_ble_eq_true rfl) rfl ?_
          refine am_incN i d78_77 rfl rfl ?_
          refine am_goto 12 d78_80 (by decide) ?_
          simp only [sp_meet, if_neg hab, if_pos hlt] at hq
          have hpb := hpn b (by omega) hb
          exact ih h16 _ _ _ _ _ a (pn b) ha (by omega) hq
        · rw [if_neg (fun z => hlt ((nI_ltI (by omega) (by omega)).mp z))]
          refine am_istore d78_33 (Nat.le_of_ble_eq_true rfl) rfl ?_
          refine am_iload d78_35 rfl ?_
          refine am_aload_n d78_37 rfl ?_
          refine am_getr d78_38 fl78_15 sh_1 rfl ?_
          refine am_iload d78_41 rfl ?_
          refine am_ialdN a d78_43 sh_3 (by omega) (by decide) ?_
          refine am_min d78_44 (by decide) (by decide) (Nat.le_of_ble_eq_true rfl) ?_
          refine am_istore d78_47 (Nat.le_of_ble_eq_true rfl) rfl ?_
          refine am_iload d78_49 rfl ?_
          refine am_iload d78_51 rfl ?_
          refine am_icne 68 d78_53 (by decide) (fun h53 => absurd rfl h53) (fun _ => ?_)
          refine am_aload_n d78_56 rfl ?_
          refine am_getr d78_57 fl78_9 sh_1 rfl ?_
          refine am_iload d78_60 rfl ?_
          refine am_ialdN a d78_62 sh_2 (by omega) (by decide) ?_
          rw [hpar a (by omega) (by omega)]
          refine am_istore d78_63 (Nat.le_of_ble_eq_true rfl) rfl ?_
          refine am_goto 77 d78_65 (by decide) ?_
          refine am_incN i d78_77 rfl rfl ?_
          refine am_goto 12 d78_80 (by decide) ?_
          simp only [sp_meet, if_neg hab, if_neg hlt] at hq
          have hpa := hpn a (by omega) ha
          exact ih h16 _ _ _ _ _ (pn a) b (by omega) hb hq
  show am_W kB_meet 0 _ [] M Q
  refine am_iload_n d78_0 rfl ?_
  refine am_istore d78_1 (Nat.le_of_ble_eq_true rfl) rfl ?_
  refine am_iload_n d78_3 rfl ?_
  refine am_istore d78_4 (Nat.le_of_ble_eq_true rfl) rfl ?_
  refine am_iload_n d78_6 rfl ?_
  refine am_istore d78_7 (Nat.le_of_ble_eq_true rfl) rfl ?_
  refine am_iconst (nI 0) d78_9 (by decide) ?_
  refine am_istore d78_10 (Nat.le_of_ble_eq_true rfl) rfl ?_
  exact loop 0 (by decide) _ _ _ _ m a b ha hb hQ
theorem c_holdsSame {v w c : Nat} {M : am_M} {Q : am_T} (hv : bv v) (hw : bv w) (hc : c < 48) (h1 : (M.1 (v + 1) c = M.1 (w + 1) c ∧ M.1 (v + 2) c = M.1 (w + 2) c) → Q (.inl (some (.int 1))) M) (h0 : ¬ (M.1 (v + 1) c = M.1 (w + 1) c ∧ M.1 (v + 2) c = M.1 (w + 2) c) → Q (.inl (some (.int 0))) M) : am_W kV_holdsSame 0 (am_in kV_holdsSame [.ref v, .ref w, .int (nI c)]) [] M Q := by
  show am_W kV_holdsSame 0 _ [] M Q
  refine am_aload_n d96_0 rfl ?_
  refine am_getr d96_1 fl96_9 (bv_0 hv) rfl ?_
  refine am_iload_n d96_4 rfl ?_
  refine am_ialdN c d96_5 (bv_1 hv) hc (by decide) ?_
  refine am_aload_n d96_6 rfl ?_
  refine am_getr d96_7 fl96_9 (bv_0 hw) rfl ?_
  refine am_iload_n d96_10 rfl ?_
  refine am_ialdN c d96_11 (bv_1 hw) hc (by decide) ?_
  refine am_icne 34 d96_12 (by decide) (fun h12 => ?_) (fun h12 => ?_)
  · refine am_iconst 0 d96_34 (by decide) ?_
    refine am_iret d96_35 rfl (by decide) ?_
    first | exact h1 ⟨h12, h27⟩ | exact h0 (fun z => h12 z.1) | exact h0 (fun z => h27 z.2)
  · refine am_aload_n d96_15 rfl ?_
    refine am_getr d96_16 fl96_15 (bv_0 hv) rfl ?_
    refine am_iload_n d96_19 rfl ?_
    refine am_ialdN c d96_20 (bv_2 hv) hc (by decide) ?_
    refine am_aload_n d96_21 rfl ?_
    refine am_getr d96_22 fl96_15 (bv_0 hw) rfl ?_
    refine am_iload_n d96_25 rfl ?_
    refine am_ialdN c d96_26 (bv_2 hw) hc (by decide) ?_
    refine am_icne 34 d96_27 (by decide) (fun h27 => ?_) (fun h27 => ?_)
    · refine am_iconst 0 d96_34 (by decide) ?_
      refine am_iret d96_35 rfl (by decide) ?_
      first | exact h1 ⟨h12, h27⟩ | exact h0 (fun z => h12 z.1) | exact h0 (fun z => h27 z.2)
    · refine am_iconst 1 d96_30 (by decide) ?_
      refine am_goto 35 d96_31 (by decide) ?_
      refine am_iret d96_35 rfl (by decide) ?_
      first | exact h1 ⟨h12, h27⟩ | exact h0 (fun z => h12 z.1) | exact h0 (fun z => h27 z.2)
theorem c_target {v c : Nat} {M : am_M} {Q : am_T} (hv : bv v) (hc : c < 48) (hQ : Q (.inl (some (.int (sp_tg (M.1 (v + 1)) (M.1 (v + 2)) c)))) M) : am_W kV_target 0 (am_in kV_target [.ref v, .int (nI c)]) [] M Q := by
  show am_W kV_target 0 _ [] M Q
  refine am_aload_n d102_0 rfl ?_
  refine am_getr d102_1 fl102_9 (bv_0 hv) rfl ?_
  refine am_iload_n d102_4 rfl ?_
  refine am_ialdN c d102_5 (bv_1 hv) hc (by decide) ?_
  refine am_iconst 2 d102_6 (by decide) ?_
  refine am_icne 21 d102_7 (by decide) (fun h7 => ?_) (fun h7 => ?_)
  · refine am_iconst 0 d102_21 (by decide) ?_
    refine am_iret d102_22 rfl rfl ?_
    unfold sp_tg at hQ
    first | (rw [if_pos h7] at hQ; exact hQ) | (rw [if_neg h7] at hQ; exact hQ)
  · refine am_iconst 1 d102_10 (by decide) ?_
    refine am_aload_n d102_11 rfl ?_
    refine am_getr d102_12 fl102_15 (bv_0 hv) rfl ?_
    refine am_iload_n d102_15 rfl ?_
    refine am_ialdN c d102_16 (bv_2 hv) hc (by decide) ?_
    refine am_ishl d102_17 ?_
    refine am_goto 22 d102_18 (by decide) ?_
    refine am_iret d102_22 rfl rfl ?_
    unfold sp_tg at hQ
    first | (rw [if_pos h7] at hQ; exact hQ) | (rw [if_neg h7] at hQ; exact hQ)
theorem c_isIn {s : Int32} {o : Nat} {M : am_M} {Q : am_T} (h1 : sp_isin s o = true → Q (.inl (some (.int 1))) M) (h0 : ¬ sp_isin s o = true → Q (.inl (some (.int 0))) M) : am_W kV_isIn 0 (am_in kV_isIn [.int (nI o), .int s]) [] M Q := by
  show am_W kV_isIn 0 _ [] M Q
  refine am_iload_n d104_0 rfl ?_
  refine am_iload_n d104_1 rfl ?_
  refine am_ishr d104_2 ?_
  refine am_iconst 1 d104_3 (by decide) ?_
  refine am_iand d104_4 ?_
  refine am_iconst 1 d104_5 (by decide) ?_
  refine am_icne 13 d104_6 (by decide) (fun h6 => ?_) (fun h6 => ?_)
  · refine am_iconst 0 d104_13 (by decide) ?_
    refine am_iret d104_14 rfl (by decide) ?_
    first | exact h1 (decide_eq_true h6) | exact h0 (fun z => h6 (of_decide_eq_true z))
  · refine am_iconst 1 d104_9 (by decide) ?_
    refine am_goto 14 d104_10 (by decide) ?_
    refine am_iret d104_14 rfl (by decide) ?_
    first | exact h1 (decide_eq_true h6) | exact h0 (fun z => h6 (of_decide_eq_true z))
theorem c_compares {x s y : Int32} {M : am_M} {Q : am_T} (h1 : sp_cmp x s y = true → Q (.inl (some (.int 1))) M) (h0 : ¬ sp_cmp x s y = true → Q (.inl (some (.int 0))) M) : am_W kV_compares 0 (am_in kV_compares [.int x, .int s, .int y]) [] M Q := by
  show am_W kV_compares 0 _ [] M Q
  refine am_iload_n d103_0 rfl ?_
  refine am_bipush 60 d103_1 (by decide) ?_
  refine am_icne 17 d103_3 (by decide) (fun h3 => ?_) (fun h3 => ?_)
  · refine am_iload_n d103_17 rfl ?_
    refine am_bipush 62 d103_18 (by decide) ?_
    refine am_icne 36 d103_20 (by decide) (fun h20 => ?_) (fun h20 => ?_)
    · refine am_iload_n d103_36 rfl ?_
      refine am_iload_n d103_37 rfl ?_
      refine am_icne 45 d103_38 (by decide) (fun h38 => ?_) (fun h38 => ?_)
      · refine am_iconst 0 d103_45 (by decide) ?_
        refine am_iret d103_46 rfl (by decide) ?_
        first | exact h1 (by unfold sp_cmp; simp_all) | exact h0 (by unfold sp_cmp; simp_all)
      · refine am_iconst 1 d103_41 (by decide) ?_
        refine am_goto 46 d103_42 (by decide) ?_
        refine am_iret d103_46 rfl (by decide) ?_
        first | exact h1 (by unfold sp_cmp; simp_all) | exact h0 (by unfold sp_cmp; simp_all)
    · refine am_iload_n d103_23 rfl ?_
      refine am_iload_n d103_24 rfl ?_
      refine am_icle 32 d103_25 (by decide) (fun h25 => ?_) (fun h25 => ?_)
      · refine am_iconst 0 d103_32 (by decide) ?_
        refine am_goto 46 d103_33 (by decide) ?_
        refine am_iret d103_46 rfl (by decide) ?_
        first | exact h1 (by unfold sp_cmp; simp_all) | exact h0 (by unfold sp_cmp; simp_all)
      · refine am_iconst 1 d103_28 (by decide) ?_
        refine am_goto 46 d103_29 (by decide) ?_
        refine am_iret d103_46 rfl (by decide) ?_
        first | exact h1 (by unfold sp_cmp; simp_all) | exact h0 (by unfold sp_cmp; simp_all)
  · refine am_iload_n d103_6 rfl ?_
    refine am_iload_n d103_7 rfl ?_
    refine am_icge 15 d103_8 (by decide) (fun h8 => ?_) (fun h8 => ?_)
    · refine am_iconst 0 d103_15 (by decide) ?_
      refine am_iret d103_16 rfl (by decide) ?_
      first | exact h1 (by unfold sp_cmp; simp_all) | exact h0 (by unfold sp_cmp; simp_all)
    · refine am_iconst 1 d103_11 (by decide) ?_
      refine am_goto 16 d103_12 (by decide) ?_
      refine am_iret d103_16 rfl (by decide) ?_
      first | exact h1 (by unfold sp_cmp; simp_all) | exact h0 (by unfold sp_cmp; simp_all)
theorem c_referredBy {v f : Nat} {s : Int32} {M : am_M} {Q : am_T} (hv : bv v) (hf : f < 4) (hQ : Q (.inl (some (.int (sp_refd (M.1 (v + 1)) (M.1 (v + 2)) s f)))) M) : am_W kV_referredBy 0 (am_in kV_referredBy [.ref v, .int s, .int (nI f)]) [] M Q := by
  have loop : ∀ i, i ≤ 12 → am_W kV_referredBy 5 [.ref v, .int s, .int (nI f), .int (sp_or (sp_isin s) (fun o => sp_tg (M.1 (v + 1)) (M.1 (v + 2)) (4 * o + f)) i), .int (nI i)] [] M Q := by
    refine am_loop 12 (fun i hi ih => ?_)
    refine am_iload d97_5 rfl ?_
    refine am_bipush (nI 12) d97_7 (by decide) ?_
    refine am_icgeN 40 i 12 d97_9 (by decide) rfl rfl (by omega) (by decide) (fun h9 => ?_) (fun h9 => ?_)
    · refine am_iload_n d97_40 rfl ?_
      refine am_iret d97_41 rfl rfl ?_
      obtain rfl : i = 12 := by omega
      exact hQ
    · refine am_iload d97_12 rfl ?_
      refine am_iload_n d97_14 rfl ?_
      refine am_cs2 104 d97_15 ml97_27 rfl (by decide) rfl rfl rfl (Nat.le_of_ble_eq_true rfl) ?_
      refine c_isIn (fun hin => ?_) (fun hin => ?_)
      · show am_W 97 18 _ (.int 1 :: _) _ _
        refine am_ifeq 34 d97_18 (by decide) (fun h18 => ?_) (fun h18 => ?_)
        · refine am_incN i d97_34 rfl rfl ?_
          refine am_goto 5 d97_37 (by decide) ?_
          first | exact absurd h18 (by decide) | exact absurd rfl h18 | (rw [← sp_or_t (c := (sp_isin s)) (g := (fun o => sp_tg (M.1 (v + 1)) (M.1 (v + 2)) (4 * o + f))) hin]; exact ih h9) | (rw [← sp_or_f (c := (sp_isin s)) (g := (fun o => sp_tg (M.1 (v + 1)) (M.1 (v + 2)) (4 * o + f))) hin]; exact ih h9)
        · refine am_iload_n d97_21 rfl ?_
          refine am_aload_n d97_22 rfl ?_
          refine am_iload d97_23 rfl ?_
          refine am_iload_n d97_25 rfl ?_
          refine am_cs2 32 d97_26 ml97_31 rfl (by decide) rfl rfl rfl (Nat.le_of_ble_eq_true rfl) ?_
          refine c_cellOf (a := i) (b := f) ?_
          show am_W 97 29 _ (.int _ :: _) _ _
          refine am_cv1 102 d97_29 ml97_35 rfl (by decide) (bv_0 hv) rfl rfl (Nat.le_of_ble_eq_true rfl) ?_
          refine c_target hv (c := 4 * i + f) (by omega) ?_
          show am_W 97 32 _ (.int _ :: _) _ _
          refine am_ior d97_32 ?_
          refine am_istore_n d97_33 (Nat.le_of_ble_eq_true rfl) rfl ?_
          refine am_incN i d97_34 rfl rfl ?_
          refine am_goto 5 d97_37 (by decide) ?_
          first | exact absurd h18 (by decide) | exact absurd rfl h18 | (rw [← sp_or_t (c := (sp_isin s)) (g := (fun o => sp_tg (M.1 (v + 1)) (M.1 (v + 2)) (4 * o + f))) hin]; exact ih h9) | (rw [← sp_or_f (c := (sp_isin s)) (g := (fun o => sp_tg (M.1 (v + 1)) (M.1 (v + 2)) (4 * o + f))) hin]; exact ih h9)
      · show am_W 97 18 _ (.int 0 :: _) _ _
        refine am_ifeq 34 d97_18 (by decide) (fun h18 => ?_) (fun h18 => ?_)
        · refine am_incN i d97_34 rfl rfl ?_
          refine am_goto 5 d97_37 (by decide) ?_
          first | exact absurd h18 (by decide) | exact absurd rfl h18 | (rw [← sp_or_t (c := (sp_isin s)) (g := (fun o => sp_tg (M.1 (v + 1)) (M.1 (v + 2)) (4 * o + f))) hin]; exact ih h9) | (rw [← sp_or_f (c := (sp_isin s)) (g := (fun o => sp_tg (M.1 (v + 1)) (M.1 (v + 2)) (4 * o + f))) hin]; exact ih h9)
        · refine am_iload_n d97_21 rfl ?_
          refine am_aload_n d97_22 rfl ?_
          refine am_iload d97_23 rfl ?_
          refine am_iload_n d97_25 rfl ?_
          refine am_cs2 32 d97_26 ml97_31 rfl (by decide) rfl rfl rfl (Nat.le_of_ble_eq_true rfl) ?_
          refine c_cellOf (a := i) (b := f) ?_
          show am_W 97 29 _ (.int _ :: _) _ _
          refine am_cv1 102 d97_29 ml97_35 rfl (by decide) (bv_0 hv) rfl rfl (Nat.le_of_ble_eq_true rfl) ?_
          refine c_target hv (c := 4 * i + f) (by omega) ?_
          show am_W 97 32 _ (.int _ :: _) _ _
          refine am_ior d97_32 ?_
          refine am_istore_n d97_33 (Nat.le_of_ble_eq_true rfl) rfl ?_
          refine am_incN i d97_34 rfl rfl ?_
          refine am_goto 5 d97_37 (by decide) ?_
          first | exact absurd h18 (by decide) | exact absurd rfl h18 | (rw [← sp_or_t (c := (sp_isin s)) (g := (fun o => sp_tg (M.1 (v + 1)) (M.1 (v + 2)) (4 * o + f))) hin]; exact ih h9) | (rw [← sp_or_f (c := (sp_isin s)) (g := (fun o => sp_tg (M.1 (v + 1)) (M.1 (v + 2)) (4 * o + f))) hin]; exact ih h9)
  show am_W kV_referredBy 0 _ [] M Q
  refine am_iconst 0 d97_0 (by decide) ?_
  refine am_istore_n d97_1 (Nat.le_of_ble_eq_true rfl) rfl ?_
  refine am_iconst (nI 0) d97_2 (by decide) ?_
  refine am_istore d97_3 (Nat.le_of_ble_eq_true rfl) rfl ?_
  exact loop 0 (by decide)
theorem c_referringTo {v f : Nat} {s : Int32} {M : am_M} {Q : am_T} (hv : bv v) (hf : f < 4) (hQ : Q (.inl (some (.int (sp_refg (M.1 (v + 1)) (M.1 (v + 2)) s f)))) M) : am_W kV_referringTo 0 (am_in kV_referringTo [.ref v, .int s, .int (nI f)]) [] M Q := by
  have loop : ∀ i, i ≤ 12 → am_W kV_referringTo 5 [.ref v, .int s, .int (nI f), .int (sp_or (fun o => !decide (sp_tg (M.1 (v + 1)) (M.1 (v + 2)) (4 * o + f) &&& s = 0)) (fun o => (1 : Int32) <<< (nI o &&& 31)) i), .int (nI i)] [] M Q := by
    refine am_loop 12 (fun i hi ih => ?_)
    refine am_iload d98_5 rfl ?_
    refine am_bipush (nI 12) d98_7 (by decide) ?_
    refine am_icgeN 40 i 12 d98_9 (by decide) rfl rfl (by omega) (by decide) (fun h9 => ?_) (fun h9 => ?_)
    · refine am_iload_n d98_40 rfl ?_
      refine am_iret d98_41 rfl rfl ?_
      obtain rfl : i = 12 := by omega
      exact hQ
    · refine am_aload_n d98_12 rfl ?_
      refine am_iload d98_13 rfl ?_
      refine am_iload_n d98_15 rfl ?_
      refine am_cs2 32 d98_16 ml98_31 rfl (by decide) rfl rfl rfl (Nat.le_of_ble_eq_true rfl) ?_
      refine c_cellOf (a := i) (b := f) ?_
      show am_W 98 19 _ (.int _ :: _) _ _
      refine am_cv1 102 d98_19 ml98_35 rfl (by decide) (bv_0 hv) rfl rfl (Nat.le_of_ble_eq_true rfl) ?_
      refine c_target hv (c := 4 * i + f) (by omega) ?_
      show am_W 98 22 _ (.int _ :: _) _ _
      refine am_iload_n d98_22 rfl ?_
      refine am_iand d98_23 ?_
      refine am_ifeq 34 d98_24 (by decide) (fun h24 => ?_) (fun h24 => ?_)
      · refine am_incN i d98_34 rfl rfl ?_
        refine am_goto 5 d98_37 (by decide) ?_
        first | (rw [← sp_or_t (c := (fun o => !decide (sp_tg (M.1 (v + 1)) (M.1 (v + 2)) (4 * o + f) &&& s = 0))) (g := (fun o => (1 : Int32) <<< (nI o &&& 31))) (n := i) (by simp [*])]; exact ih h9) | (rw [← sp_or_f (c := (fun o => !decide (sp_tg (M.1 (v + 1)) (M.1 (v + 2)) (4 * o + f) &&& s = 0))) (g := (fun o => (1 : Int32) <<< (nI o &&& 31))) (n := i) (by simp [*])]; exact ih h9)
      · refine am_iload_n d98_27 rfl ?_
        refine am_iconst 1 d98_28 (by decide) ?_
        refine am_iload d98_29 rfl ?_
        refine am_ishl d98_31 ?_
        refine am_ior d98_32 ?_
        refine am_istore_n d98_33 (Nat.le_of_ble_eq_true rfl) rfl ?_
        refine am_incN i d98_34 rfl rfl ?_
        refine am_goto 5 d98_37 (by decide) ?_
        first | (rw [← sp_or_t (c := (fun o => !decide (sp_tg (M.1 (v + 1)) (M.1 (v + 2)) (4 * o + f) &&& s = 0))) (g := (fun o => (1 : Int32) <<< (nI o &&& 31))) (n := i) (by simp [*])]; exact ih h9) | (rw [← sp_or_f (c := (fun o => !decide (sp_tg (M.1 (v + 1)) (M.1 (v + 2)) (4 * o + f) &&& s = 0))) (g := (fun o => (1 : Int32) <<< (nI o &&& 31))) (n := i) (by simp [*])]; exact ih h9)
  show am_W kV_referringTo 0 _ [] M Q
  refine am_iconst 0 d98_0 (by decide) ?_
  refine am_istore_n d98_1 (Nat.le_of_ble_eq_true rfl) rfl ?_
  refine am_iconst (nI 0) d98_2 (by decide) ?_
  refine am_istore d98_3 (Nat.le_of_ble_eq_true rfl) rfl ?_
  exact loop 0 (by decide)
theorem c_withNothing {v f : Nat} {s : Int32} {M : am_M} {Q : am_T} (hv : bv v) (hf : f < 4) (hQ : Q (.inl (some (.int (sp_non (M.1 (v + 1)) s f)))) M) : am_W kV_withNothing 0 (am_in kV_withNothing [.ref v, .int s, .int (nI f)]) [] M Q := by
  have loop : ∀ i, i ≤ 12 → am_W kV_withNothing 5 [.ref v, .int s, .int (nI f), .int (sp_or (fun o => sp_isin s o && decide ((M.1 (v + 1)) (4 * o + f) = 0)) (fun o => (1 : Int32) <<< (nI o &&& 31)) i), .int (nI i)] [] M Q := by
    refine am_loop 12 (fun i hi ih => ?_)
    refine am_iload d101_5 rfl ?_
    refine am_bipush (nI 12) d101_7 (by decide) ?_
    refine am_icgeN 48 i 12 d101_9 (by decide) rfl rfl (by omega) (by decide) (fun h9 => ?_) (fun h9 => ?_)
    · refine am_iload_n d101_48 rfl ?_
      refine am_iret d101_49 rfl rfl ?_
      obtain rfl : i = 12 := by omega
      exact hQ
    · refine am_iload d101_12 rfl ?_
      refine am_iload_n d101_14 rfl ?_
      refine am_cs2 104 d101_15 ml101_27 rfl (by decide) rfl rfl rfl (Nat.le_of_ble_eq_true rfl) ?_
      refine c_isIn (fun hin => ?_) (fun hin => ?_)
      · show am_W 101 18 _ (.int 1 :: _) _ _
        refine am_ifeq 42 d101_18 (by decide) (fun h18 => ?_) (fun h18 => ?_)
        · refine am_incN i d101_42 rfl rfl ?_
          refine am_goto 5 d101_45 (by decide) ?_
          first | exact absurd h18 (by decide) | exact absurd rfl h18 | (rw [← sp_or_t (c := (fun o => sp_isin s o && decide ((M.1 (v + 1)) (4 * o + f) = 0))) (g := (fun o => (1 : Int32) <<< (nI o &&& 31))) (n := i) (by simp [*])]; exact ih h9) | (rw [← sp_or_f (c := (fun o => sp_isin s o && decide ((M.1 (v + 1)) (4 * o + f) = 0))) (g := (fun o => (1 : Int32) <<< (nI o &&& 31))) (n := i) (by simp [*])]; exact ih h9) | (rw [← sp_or_f (c := (fun o => sp_isin s o && decide ((M.1 (v + 1)) (4 * o + f) = 0))) (g := (fun o => (1 : Int32) <<< (nI o &&& 31))) (n := i) (by simp [*])]; exact ih h9)
        · refine am_aload_n d101_21 rfl ?_
          refine am_getr d101_22 fl101_9 (bv_0 hv) rfl ?_
          refine am_iload d101_25 rfl ?_
          refine am_iload_n d101_27 rfl ?_
          refine am_cs2 32 d101_28 ml101_31 rfl (by decide) rfl rfl rfl (Nat.le_of_ble_eq_true rfl) ?_
          refine c_cellOf (a := i) (b := f) ?_
          show am_W 101 31 _ (.int _ :: _) _ _
          refine am_ialdN (4 * i + f) d101_31 (bv_1 hv) (by omega) (by decide) ?_
          refine am_ifne 42 d101_32 (by decide) (fun h32 => ?_) (fun h32 => ?_)
          · refine am_incN i d101_42 rfl rfl ?_
            refine am_goto 5 d101_45 (by decide) ?_
            first | exact absurd h18 (by decide) | exact absurd rfl h18 | (rw [← sp_or_t (c := (fun o => sp_isin s o && decide ((M.1 (v + 1)) (4 * o + f) = 0))) (g := (fun o => (1 : Int32) <<< (nI o &&& 31))) (n := i) (by simp [*])]; exact ih h9) | (rw [← sp_or_f (c := (fun o => sp_isin s o && decide ((M.1 (v + 1)) (4 * o + f) = 0))) (g := (fun o => (1 : Int32) <<< (nI o &&& 31))) (n := i) (by simp [*])]; exact ih h9) | (rw [← sp_or_f (c := (fun o => sp_isin s o && decide ((M.1 (v + 1)) (4 * o + f) = 0))) (g := (fun o => (1 : Int32) <<< (nI o &&& 31))) (n := i) (by simp [*])]; exact ih h9)
          · refine am_iload_n d101_35 rfl ?_
            refine am_iconst 1 d101_36 (by decide) ?_
            refine am_iload d101_37 rfl ?_
            refine am_ishl d101_39 ?_
            refine am_ior d101_40 ?_
            refine am_istore_n d101_41 (Nat.le_of_ble_eq_true rfl) rfl ?_
            refine am_incN i d101_42 rfl rfl ?_
            refine am_goto 5 d101_45 (by decide) ?_
            first | exact absurd h18 (by decide) | exact absurd rfl h18 | (rw [← sp_or_t (c := (fun o => sp_isin s o && decide ((M.1 (v + 1)) (4 * o + f) = 0))) (g := (fun o => (1 : Int32) <<< (nI o &&& 31))) (n := i) (by simp [*])]; exact ih h9) | (rw [← sp_or_f (c := (fun o => sp_isin s o && decide ((M.1 (v + 1)) (4 * o + f) = 0))) (g := (fun o => (1 : Int32) <<< (nI o &&& 31))) (n := i) (by simp [*])]; exact ih h9) | (rw [← sp_or_f (c := (fun o => sp_isin s o && decide ((M.1 (v + 1)) (4 * o + f) = 0))) (g := (fun o => (1 : Int32) <<< (nI o &&& 31))) (n := i) (by simp [*])]; exact ih h9)
      · show am_W 101 18 _ (.int 0 :: _) _ _
        refine am_ifeq 42 d101_18 (by decide) (fun h18 => ?_) (fun h18 => ?_)
        · refine am_incN i d101_42 rfl rfl ?_
          refine am_goto 5 d101_45 (by decide) ?_
          first | exact absurd h18 (by decide) | exact absurd rfl h18 | (rw [← sp_or_t (c := (fun o => sp_isin s o && decide ((M.1 (v + 1)) (4 * o + f) = 0))) (g := (fun o => (1 : Int32) <<< (nI o &&& 31))) (n := i) (by simp [*])]; exact ih h9) | (rw [← sp_or_f (c := (fun o => sp_isin s o && decide ((M.1 (v + 1)) (4 * o + f) = 0))) (g := (fun o => (1 : Int32) <<< (nI o &&& 31))) (n := i) (by simp [*])]; exact ih h9) | (rw [← sp_or_f (c := (fun o => sp_isin s o && decide ((M.1 (v + 1)) (4 * o + f) = 0))) (g := (fun o => (1 : Int32) <<< (nI o &&& 31))) (n := i) (by simp [*])]; exact ih h9)
        · refine am_aload_n d101_21 rfl ?_
          refine am_getr d101_22 fl101_9 (bv_0 hv) rfl ?_
          refine am_iload d101_25 rfl ?_
          refine am_iload_n d101_27 rfl ?_
          refine am_cs2 32 d101_28 ml101_31 rfl (by decide) rfl rfl rfl (Nat.le_of_ble_eq_true rfl) ?_
          refine c_cellOf (a := i) (b := f) ?_
          show am_W 101 31 _ (.int _ :: _) _ _
          refine am_ialdN (4 * i + f) d101_31 (bv_1 hv) (by omega) (by decide) ?_
          refine am_ifne 42 d101_32 (by decide) (fun h32 => ?_) (fun h32 => ?_)
          · refine am_incN i d101_42 rfl rfl ?_
            refine am_goto 5 d101_45 (by decide) ?_
            first | exact absurd h18 (by decide) | exact absurd rfl h18 | (rw [← sp_or_t (c := (fun o => sp_isin s o && decide ((M.1 (v + 1)) (4 * o + f) = 0))) (g := (fun o => (1 : Int32) <<< (nI o &&& 31))) (n := i) (by simp [*])]; exact ih h9) | (rw [← sp_or_f (c := (fun o => sp_isin s o && decide ((M.1 (v + 1)) (4 * o + f) = 0))) (g := (fun o => (1 : Int32) <<< (nI o &&& 31))) (n := i) (by simp [*])]; exact ih h9) | (rw [← sp_or_f (c := (fun o => sp_isin s o && decide ((M.1 (v + 1)) (4 * o + f) = 0))) (g := (fun o => (1 : Int32) <<< (nI o &&& 31))) (n := i) (by simp [*])]; exact ih h9)
          · refine am_iload_n d101_35 rfl ?_
            refine am_iconst 1 d101_36 (by decide) ?_
            refine am_iload d101_37 rfl ?_
            refine am_ishl d101_39 ?_
            refine am_ior d101_40 ?_
            refine am_istore_n d101_41 (Nat.le_of_ble_eq_true rfl) rfl ?_
            refine am_incN i d101_42 rfl rfl ?_
            refine am_goto 5 d101_45 (by decide) ?_
            first | exact absurd h18 (by decide) | exact absurd rfl h18 | (rw [← sp_or_t (c := (fun o => sp_isin s o && decide ((M.1 (v + 1)) (4 * o + f) = 0))) (g := (fun o => (1 : Int32) <<< (nI o &&& 31))) (n := i) (by simp [*])]; exact ih h9) | (rw [← sp_or_f (c := (fun o => sp_isin s o && decide ((M.1 (v + 1)) (4 * o + f) = 0))) (g := (fun o => (1 : Int32) <<< (nI o &&& 31))) (n := i) (by simp [*])]; exact ih h9) | (rw [← sp_or_f (c := (fun o => sp_isin s o && decide ((M.1 (v + 1)) (4 * o + f) = 0))) (g := (fun o => (1 : Int32) <<< (nI o &&& 31))) (n := i) (by simp [*])]; exact ih h9)
  show am_W kV_withNothing 0 _ [] M Q
  refine am_iconst 0 d101_0 (by decide) ?_
  refine am_istore_n d101_1 (Nat.le_of_ble_eq_true rfl) rfl ?_
  refine am_iconst (nI 0) d101_2 (by decide) ?_
  refine am_istore d101_3 (Nat.le_of_ble_eq_true rfl) rfl ?_
  exact loop 0 (by decide)
theorem c_withNumber {v f : Nat} {s sg b : Int32} {M : am_M} {Q : am_T} (hv : bv v) (hf : f < 4) (hQ : Q (.inl (some (.int (sp_num (M.1 (v + 1)) (M.1 (v + 2)) s f sg b)))) M) : am_W kV_withNumber 0 (am_in kV_withNumber [.ref v, .int s, .int (nI f), .int sg, .int b]) [] M Q := by
  have loop : ∀ i, i ≤ 12 → ∀ w0 : Value, am_W kV_withNumber 6 [.ref v, .int s, .int (nI f), .int sg, .int b, .int (sp_or (fun o => sp_isin s o && decide ((M.1 (v + 1)) (4 * o + f) = 1) && sp_cmp ((M.1 (v + 2)) (4 * o + f)) sg b) (fun o => (1 : Int32) <<< (nI o &&& 31)) i), .int (nI i), w0] [] M Q := by
    refine am_loop 12 (fun i hi ih => ?_)
    intro w0
    refine am_iload d100_6 rfl ?_
    refine am_bipush (nI 12) d100_8 (by decide) ?_
    refine am_icgeN 72 i 12 d100_10 (by decide) rfl rfl (by omega) (by decide) (fun h10 => ?_) (fun h10 => ?_)
    · refine am_iload d100_72 rfl ?_
      refine am_iret d100_74 rfl rfl ?_
      obtain rfl : i = 12 := by omega
      exact hQ
    · refine am_iload d100_13 rfl ?_
      refine am_iload_n d100_15 rfl ?_
      refine am_cs2 32 d100_16 ml100_31 rfl (by decide) rfl rfl rfl (Nat.le_of_ble_eq_true rfl) ?_
      refine c_cellOf (a := i) (b := f) ?_
      show am_W 100 19 _ (.int _ :: _) _ _
      refine am_istore d100_19 (Nat.le_of_ble_eq_true rfl) rfl ?_
      refine am_iload d100_21 rfl ?_
      refine am_iload_n d100_23 rfl ?_
      refine am_cs2 104 d100_24 ml100_27 rfl (by decide) rfl rfl rfl (Nat.le_of_ble_eq_true rfl) ?_
      refine c_isIn (fun hin => ?_) (fun hin => ?_)
      · show am_W 100 27 _ (.int 1 :: _) _ _
        refine am_ifeq 66 d100_27 (by decide) (fun h27 => ?_) (fun h27 => ?_)
        · refine am_incN i d100_66 rfl rfl ?_
          refine am_goto 6 d100_69 (by decide) ?_
          first | exact absurd h27 (by decide) | exact absurd rfl h27 | exact absurd h54 (by decide) | exact absurd rfl h54 | (rw [← sp_or_t (c := (fun o => sp_isin s o && decide ((M.1 (v + 1)) (4 * o + f) = 1) && sp_cmp ((M.1 (v + 2)) (4 * o + f)) sg b)) (g := (fun o => (1 : Int32) <<< (nI o &&& 31))) (n := i) (by simp [*])]; exact ih h10 _) | (rw [← sp_or_f (c := (fun o => sp_isin s o && decide ((M.1 (v + 1)) (4 * o + f) = 1) && sp_cmp ((M.1 (v + 2)) (4 * o + f)) sg b)) (g := (fun o => (1 : Int32) <<< (nI o &&& 31))) (n := i) (by simp [*])]; exact ih h10 _) | (rw [← sp_or_f (c := (fun o => sp_isin s o && decide ((M.1 (v + 1)) (4 * o + f) = 1) && sp_cmp ((M.1 (v + 2)) (4 * o + f)) sg b)) (g := (fun o => (1 : Int32) <<< (nI o &&& 31))) (n := i) (by simp [*])]; exact ih h10 _) | (rw [← sp_or_f (c := (fun o => sp_isin s o && decide ((M.1 (v + 1)) (4 * o + f) = 1) && sp_cmp ((M.1 (v + 2)) (4 * o + f)) sg b)) (g := (fun o => (1 : Int32) <<< (nI o &&& 31))) (n := i) (by simp [*])]; exact ih h10 _)
        · refine am_aload_n d100_30 rfl ?_
          refine am_getr d100_31 fl100_9 (bv_0 hv) rfl ?_
          refine am_iload d100_34 rfl ?_
          refine am_ialdN (4 * i + f) d100_36 (bv_1 hv) (by omega) (by decide) ?_
          refine am_iconst 1 d100_37 (by decide) ?_
          refine am_icne 66 d100_38 (by decide) (fun h38 => ?_) (fun h38 => ?_)
          · refine am_incN i d100_66 rfl rfl ?_
            refine am_goto 6 d100_69 (by decide) ?_
            first | exact absurd h27 (by decide) | exact absurd rfl h27 | exact absurd h54 (by decide) | exact absurd rfl h54 | (rw [← sp_or_t (c := (fun o => sp_isin s o && decide ((M.1 (v + 1)) (4 * o + f) = 1) && sp_cmp ((M.1 (v + 2)) (4 * o + f)) sg b)) (g := (fun o => (1 : Int32) <<< (nI o &&& 31))) (n := i) (by simp [*])]; exact ih h10 _) | (rw [← sp_or_f (c := (fun o => sp_isin s o && decide ((M.1 (v + 1)) (4 * o + f) = 1) && sp_cmp ((M.1 (v + 2)) (4 * o + f)) sg b)) (g := (fun o => (1 : Int32) <<< (nI o &&& 31))) (n := i) (by simp [*])]; exact ih h10 _) | (rw [← sp_or_f (c := (fun o => sp_isin s o && decide ((M.1 (v + 1)) (4 * o + f) = 1) && sp_cmp ((M.1 (v + 2)) (4 * o + f)) sg b)) (g := (fun o => (1 : Int32) <<< (nI o &&& 31))) (n := i) (by simp [*])]; exact ih h10 _) | (rw [← sp_or_f (c := (fun o => sp_isin s o && decide ((M.1 (v + 1)) (4 * o + f) = 1) && sp_cmp ((M.1 (v + 2)) (4 * o + f)) sg b)) (g := (fun o => (1 : Int32) <<< (nI o &&& 31))) (n := i) (by simp [*])]; exact ih h10 _)
          · refine am_aload_n d100_41 rfl ?_
            refine am_getr d100_42 fl100_15 (bv_0 hv) rfl ?_
            refine am_iload d100_45 rfl ?_
            refine am_ialdN (4 * i + f) d100_47 (bv_2 hv) (by omega) (by decide) ?_
            refine am_iload_n d100_48 rfl ?_
            refine am_iload d100_49 rfl ?_
            refine am_cs3 103 d100_51 ml100_42 rfl (by decide) rfl rfl rfl rfl (Nat.le_of_ble_eq_true rfl) ?_
            refine c_compares (fun hcm => ?_) (fun hcm => ?_)
            · show am_W 100 54 _ (.int 1 :: _) _ _
              refine am_ifeq 66 d100_54 (by decide) (fun h54 => ?_) (fun h54 => ?_)
              · refine am_incN i d100_66 rfl rfl ?_
                refine am_goto 6 d100_69 (by decide) ?_
                first | exact absurd h27 (by decide) | exact absurd rfl h27 | exact absurd h54 (by decide) | exact absurd rfl h54 | (rw [← sp_or_t (c := (fun o => sp_isin s o && decide ((M.1 (v + 1)) (4 * o + f) = 1) && sp_cmp ((M.1 (v + 2)) (4 * o + f)) sg b)) (g := (fun o => (1 : Int32) <<< (nI o &&& 31))) (n := i) (by simp [*])]; exact ih h10 _) | (rw [← sp_or_f (c := (fun o => sp_isin s o && decide ((M.1 (v + 1)) (4 * o + f) = 1) && sp_cmp ((M.1 (v + 2)) (4 * o + f)) sg b)) (g := (fun o => (1 : Int32) <<< (nI o &&& 31))) (n := i) (by simp [*])]; exact ih h10 _) | (rw [← sp_or_f (c := (fun o => sp_isin s o && decide ((M.1 (v + 1)) (4 * o + f) = 1) && sp_cmp ((M.1 (v + 2)) (4 * o + f)) sg b)) (g := (fun o => (1 : Int32) <<< (nI o &&& 31))) (n := i) (by simp [*])]; exact ih h10 _) | (rw [← sp_or_f (c := (fun o => sp_isin s o && decide ((M.1 (v + 1)) (4 * o + f) = 1) && sp_cmp ((M.1 (v + 2)) (4 * o + f)) sg b)) (g := (fun o => (1 : Int32) <<< (nI o &&& 31))) (n := i) (by simp [*])]; exact ih h10 _)
              · refine am_iload d100_57 rfl ?_
                refine am_iconst 1 d100_59 (by decide) ?_
                refine am_iload d100_60 rfl ?_
                refine am_ishl d100_62 ?_
                refine am_ior d100_63 ?_
                refine am_istore d100_64 (Nat.le_of_ble_eq_true rfl) rfl ?_
                refine am_incN i d100_66 rfl rfl ?_
                refine am_goto 6 d100_69 (by decide) ?_
                first | exact absurd h27 (by decide) | exact absurd rfl h27 | exact absurd h54 (by decide) | exact absurd rfl h54 | (rw [← sp_or_t (c := (fun o => sp_isin s o && decide ((M.1 (v + 1)) (4 * o + f) = 1) && sp_cmp ((M.1 (v + 2)) (4 * o + f)) sg b)) (g := (fun o => (1 : Int32) <<< (nI o &&& 31))) (n := i) (by simp [*])]; exact ih h10 _) | (rw [← sp_or_f (c := (fun o => sp_isin s o && decide ((M.1 (v + 1)) (4 * o + f) = 1) && sp_cmp ((M.1 (v + 2)) (4 * o + f)) sg b)) (g := (fun o => (1 : Int32) <<< (nI o &&& 31))) (n := i) (by simp [*])]; exact ih h10 _) | (rw [← sp_or_f (c := (fun o => sp_isin s o && decide ((M.1 (v + 1)) (4 * o + f) = 1) && sp_cmp ((M.1 (v + 2)) (4 * o + f)) sg b)) (g := (fun o => (1 : Int32) <<< (nI o &&& 31))) (n := i) (by simp [*])]; exact ih h10 _) | (rw [← sp_or_f (c := (fun o => sp_isin s o && decide ((M.1 (v + 1)) (4 * o + f) = 1) && sp_cmp ((M.1 (v + 2)) (4 * o + f)) sg b)) (g := (fun o => (1 : Int32) <<< (nI o &&& 31))) (n := i) (by simp [*])]; exact ih h10 _)
            · show am_W 100 54 _ (.int 0 :: _) _ _
              refine am_ifeq 66 d100_54 (by decide) (fun h54 => ?_) (fun h54 => ?_)
              · refine am_incN i d100_66 rfl rfl ?_
                refine am_goto 6 d100_69 (by decide) ?_
                first | exact absurd h27 (by decide) | exact absurd rfl h27 | exact absurd h54 (by decide) | exact absurd rfl h54 | (rw [← sp_or_t (c := (fun o => sp_isin s o && decide ((M.1 (v + 1)) (4 * o + f) = 1) && sp_cmp ((M.1 (v + 2)) (4 * o + f)) sg b)) (g := (fun o => (1 : Int32) <<< (nI o &&& 31))) (n := i) (by simp [*])]; exact ih h10 _) | (rw [← sp_or_f (c := (fun o => sp_isin s o && decide ((M.1 (v + 1)) (4 * o + f) = 1) && sp_cmp ((M.1 (v + 2)) (4 * o + f)) sg b)) (g := (fun o => (1 : Int32) <<< (nI o &&& 31))) (n := i) (by simp [*])]; exact ih h10 _) | (rw [← sp_or_f (c := (fun o => sp_isin s o && decide ((M.1 (v + 1)) (4 * o + f) = 1) && sp_cmp ((M.1 (v + 2)) (4 * o + f)) sg b)) (g := (fun o => (1 : Int32) <<< (nI o &&& 31))) (n := i) (by simp [*])]; exact ih h10 _) | (rw [← sp_or_f (c := (fun o => sp_isin s o && decide ((M.1 (v + 1)) (4 * o + f) = 1) && sp_cmp ((M.1 (v + 2)) (4 * o + f)) sg b)) (g := (fun o => (1 : Int32) <<< (nI o &&& 31))) (n := i) (by simp [*])]; exact ih h10 _)
              · refine am_iload d100_57 rfl ?_
                refine am_iconst 1 d100_59 (by decide) ?_
                refine am_iload d100_60 rfl ?_
                refine am_ishl d100_62 ?_
                refine am_ior d100_63 ?_
                refine am_istore d100_64 (Nat.le_of_ble_eq_true rfl) rfl ?_
                refine am_incN i d100_66 rfl rfl ?_
                refine am_goto 6 d100_69 (by decide) ?_
                first | exact absurd h27 (by decide) | exact absurd rfl h27 | exact absurd h54 (by decide) | exact absurd rfl h54 | (rw [← sp_or_t (c := (fun o => sp_isin s o && decide ((M.1 (v + 1)) (4 * o + f) = 1) && sp_cmp ((M.1 (v + 2)) (4 * o + f)) sg b)) (g := (fun o => (1 : Int32) <<< (nI o &&& 31))) (n := i) (by simp [*])]; exact ih h10 _) | (rw [← sp_or_f (c := (fun o => sp_isin s o && decide ((M.1 (v + 1)) (4 * o + f) = 1) && sp_cmp ((M.1 (v + 2)) (4 * o + f)) sg b)) (g := (fun o => (1 : Int32) <<< (nI o &&& 31))) (n := i) (by simp [*])]; exact ih h10 _) | (rw [← sp_or_f (c := (fun o => sp_isin s o && decide ((M.1 (v + 1)) (4 * o + f) = 1) && sp_cmp ((M.1 (v + 2)) (4 * o + f)) sg b)) (g := (fun o => (1 : Int32) <<< (nI o &&& 31))) (n := i) (by simp [*])]; exact ih h10 _) | (rw [← sp_or_f (c := (fun o => sp_isin s o && decide ((M.1 (v + 1)) (4 * o + f) = 1) && sp_cmp ((M.1 (v + 2)) (4 * o + f)) sg b)) (g := (fun o => (1 : Int32) <<< (nI o &&& 31))) (n := i) (by simp [*])]; exact ih h10 _)
      · show am_W 100 27 _ (.int 0 :: _) _ _
        refine am_ifeq 66 d100_27 (by decide) (fun h27 => ?_) (fun h27 => ?_)
        · refine am_incN i d100_66 rfl rfl ?_
          refine am_goto 6 d100_69 (by decide) ?_
          first | exact absurd h27 (by decide) | exact absurd rfl h27 | exact absurd h54 (by decide) | exact absurd rfl h54 | (rw [← sp_or_t (c := (fun o => sp_isin s o && decide ((M.1 (v + 1)) (4 * o + f) = 1) && sp_cmp ((M.1 (v + 2)) (4 * o + f)) sg b)) (g := (fun o => (1 : Int32) <<< (nI o &&& 31))) (n := i) (by simp [*])]; exact ih h10 _) | (rw [← sp_or_f (c := (fun o => sp_isin s o && decide ((M.1 (v + 1)) (4 * o + f) = 1) && sp_cmp ((M.1 (v + 2)) (4 * o + f)) sg b)) (g := (fun o => (1 : Int32) <<< (nI o &&& 31))) (n := i) (by simp [*])]; exact ih h10 _) | (rw [← sp_or_f (c := (fun o => sp_isin s o && decide ((M.1 (v + 1)) (4 * o + f) = 1) && sp_cmp ((M.1 (v + 2)) (4 * o + f)) sg b)) (g := (fun o => (1 : Int32) <<< (nI o &&& 31))) (n := i) (by simp [*])]; exact ih h10 _) | (rw [← sp_or_f (c := (fun o => sp_isin s o && decide ((M.1 (v + 1)) (4 * o + f) = 1) && sp_cmp ((M.1 (v + 2)) (4 * o + f)) sg b)) (g := (fun o => (1 : Int32) <<< (nI o &&& 31))) (n := i) (by simp [*])]; exact ih h10 _)
        · refine am_aload_n d100_30 rfl ?_
          refine am_getr d100_31 fl100_9 (bv_0 hv) rfl ?_
          refine am_iload d100_34 rfl ?_
          refine am_ialdN (4 * i + f) d100_36 (bv_1 hv) (by omega) (by decide) ?_
          refine am_iconst 1 d100_37 (by decide) ?_
          refine am_icne 66 d100_38 (by decide) (fun h38 => ?_) (fun h38 => ?_)
          · refine am_incN i d100_66 rfl rfl ?_
            refine am_goto 6 d100_69 (by decide) ?_
            first | exact absurd h27 (by decide) | exact absurd rfl h27 | exact absurd h54 (by decide) | exact absurd rfl h54 | (rw [← sp_or_t (c := (fun o => sp_isin s o && decide ((M.1 (v + 1)) (4 * o + f) = 1) && sp_cmp ((M.1 (v + 2)) (4 * o + f)) sg b)) (g := (fun o => (1 : Int32) <<< (nI o &&& 31))) (n := i) (by simp [*])]; exact ih h10 _) | (rw [← sp_or_f (c := (fun o => sp_isin s o && decide ((M.1 (v + 1)) (4 * o + f) = 1) && sp_cmp ((M.1 (v + 2)) (4 * o + f)) sg b)) (g := (fun o => (1 : Int32) <<< (nI o &&& 31))) (n := i) (by simp [*])]; exact ih h10 _) | (rw [← sp_or_f (c := (fun o => sp_isin s o && decide ((M.1 (v + 1)) (4 * o + f) = 1) && sp_cmp ((M.1 (v + 2)) (4 * o + f)) sg b)) (g := (fun o => (1 : Int32) <<< (nI o &&& 31))) (n := i) (by simp [*])]; exact ih h10 _) | (rw [← sp_or_f (c := (fun o => sp_isin s o && decide ((M.1 (v + 1)) (4 * o + f) = 1) && sp_cmp ((M.1 (v + 2)) (4 * o + f)) sg b)) (g := (fun o => (1 : Int32) <<< (nI o &&& 31))) (n := i) (by simp [*])]; exact ih h10 _)
          · refine am_aload_n d100_41 rfl ?_
            refine am_getr d100_42 fl100_15 (bv_0 hv) rfl ?_
            refine am_iload d100_45 rfl ?_
            refine am_ialdN (4 * i + f) d100_47 (bv_2 hv) (by omega) (by decide) ?_
            refine am_iload_n d100_48 rfl ?_
            refine am_iload d100_49 rfl ?_
            refine am_cs3 103 d100_51 ml100_42 rfl (by decide) rfl rfl rfl rfl (Nat.le_of_ble_eq_true rfl) ?_
            refine c_compares (fun hcm => ?_) (fun hcm => ?_)
            · show am_W 100 54 _ (.int 1 :: _) _ _
              refine am_ifeq 66 d100_54 (by decide) (fun h54 => ?_) (fun h54 => ?_)
              · refine am_incN i d100_66 rfl rfl ?_
                refine am_goto 6 d100_69 (by decide) ?_
                first | exact absurd h27 (by decide) | exact absurd rfl h27 | exact absurd h54 (by decide) | exact absurd rfl h54 | (rw [← sp_or_t (c := (fun o => sp_isin s o && decide ((M.1 (v + 1)) (4 * o + f) = 1) && sp_cmp ((M.1 (v + 2)) (4 * o + f)) sg b)) (g := (fun o => (1 : Int32) <<< (nI o &&& 31))) (n := i) (by simp [*])]; exact ih h10 _) | (rw [← sp_or_f (c := (fun o => sp_isin s o && decide ((M.1 (v + 1)) (4 * o + f) = 1) && sp_cmp ((M.1 (v + 2)) (4 * o + f)) sg b)) (g := (fun o => (1 : Int32) <<< (nI o &&& 31))) (n := i) (by simp [*])]; exact ih h10 _) | (rw [← sp_or_f (c := (fun o => sp_isin s o && decide ((M.1 (v + 1)) (4 * o + f) = 1) && sp_cmp ((M.1 (v + 2)) (4 * o + f)) sg b)) (g := (fun o => (1 : Int32) <<< (nI o &&& 31))) (n := i) (by simp [*])]; exact ih h10 _) | (rw [← sp_or_f (c := (fun o => sp_isin s o && decide ((M.1 (v + 1)) (4 * o + f) = 1) && sp_cmp ((M.1 (v + 2)) (4 * o + f)) sg b)) (g := (fun o => (1 : Int32) <<< (nI o &&& 31))) (n := i) (by simp [*])]; exact ih h10 _)
              · refine am_iload d100_57 rfl ?_
                refine am_iconst 1 d100_59 (by decide) ?_
                refine am_iload d100_60 rfl ?_
                refine am_ishl d100_62 ?_
                refine am_ior d100_63 ?_
                refine am_istore d100_64 (Nat.le_of_ble_eq_true rfl) rfl ?_
                refine am_incN i d100_66 rfl rfl ?_
                refine am_goto 6 d100_69 (by decide) ?_
                first | exact absurd h27 (by decide) | exact absurd rfl h27 | exact absurd h54 (by decide) | exact absurd rfl h54 | (rw [← sp_or_t (c := (fun o => sp_isin s o && decide ((M.1 (v + 1)) (4 * o + f) = 1) && sp_cmp ((M.1 (v + 2)) (4 * o + f)) sg b)) (g := (fun o => (1 : Int32) <<< (nI o &&& 31))) (n := i) (by simp [*])]; exact ih h10 _) | (rw [← sp_or_f (c := (fun o => sp_isin s o && decide ((M.1 (v + 1)) (4 * o + f) = 1) && sp_cmp ((M.1 (v + 2)) (4 * o + f)) sg b)) (g := (fun o => (1 : Int32) <<< (nI o &&& 31))) (n := i) (by simp [*])]; exact ih h10 _) | (rw [← sp_or_f (c := (fun o => sp_isin s o && decide ((M.1 (v + 1)) (4 * o + f) = 1) && sp_cmp ((M.1 (v + 2)) (4 * o + f)) sg b)) (g := (fun o => (1 : Int32) <<< (nI o &&& 31))) (n := i) (by simp [*])]; exact ih h10 _) | (rw [← sp_or_f (c := (fun o => sp_isin s o && decide ((M.1 (v + 1)) (4 * o + f) = 1) && sp_cmp ((M.1 (v + 2)) (4 * o + f)) sg b)) (g := (fun o => (1 : Int32) <<< (nI o &&& 31))) (n := i) (by simp [*])]; exact ih h10 _)
            · show am_W 100 54 _ (.int 0 :: _) _ _
              refine am_ifeq 66 d100_54 (by decide) (fun h54 => ?_) (fun h54 => ?_)
              · refine am_incN i d100_66 rfl rfl ?_
                refine am_goto 6 d100_69 (by decide) ?_
                first | exact absurd h27 (by decide) | exact absurd rfl h27 | exact absurd h54 (by decide) | exact absurd rfl h54 | (rw [← sp_or_t (c := (fun o => sp_isin s o && decide ((M.1 (v + 1)) (4 * o + f) = 1) && sp_cmp ((M.1 (v + 2)) (4 * o + f)) sg b)) (g := (fun o => (1 : Int32) <<< (nI o &&& 31))) (n := i) (by simp [*])]; exact ih h10 _) | (rw [← sp_or_f (c := (fun o => sp_isin s o && decide ((M.1 (v + 1)) (4 * o + f) = 1) && sp_cmp ((M.1 (v + 2)) (4 * o + f)) sg b)) (g := (fun o => (1 : Int32) <<< (nI o &&& 31))) (n := i) (by simp [*])]; exact ih h10 _) | (rw [← sp_or_f (c := (fun o => sp_isin s o && decide ((M.1 (v + 1)) (4 * o + f) = 1) && sp_cmp ((M.1 (v + 2)) (4 * o + f)) sg b)) (g := (fun o => (1 : Int32) <<< (nI o &&& 31))) (n := i) (by simp [*])]; exact ih h10 _) | (rw [← sp_or_f (c := (fun o => sp_isin s o && decide ((M.1 (v + 1)) (4 * o + f) = 1) && sp_cmp ((M.1 (v + 2)) (4 * o + f)) sg b)) (g := (fun o => (1 : Int32) <<< (nI o &&& 31))) (n := i) (by simp [*])]; exact ih h10 _)
              · refine am_iload d100_57 rfl ?_
                refine am_iconst 1 d100_59 (by decide) ?_
                refine am_iload d100_60 rfl ?_
                refine am_ishl d100_62 ?_
                refine am_ior d100_63 ?_
                refine am_istore d100_64 (Nat.le_of_ble_eq_true rfl) rfl ?_
                refine am_incN i d100_66 rfl rfl ?_
                refine am_goto 6 d100_69 (by decide) ?_
                first | exact absurd h27 (by decide) | exact absurd rfl h27 | exact absurd h54 (by decide) | exact absurd rfl h54 | (rw [← sp_or_t (c := (fun o => sp_isin s o && decide ((M.1 (v + 1)) (4 * o + f) = 1) && sp_cmp ((M.1 (v + 2)) (4 * o + f)) sg b)) (g := (fun o => (1 : Int32) <<< (nI o &&& 31))) (n := i) (by simp [*])]; exact ih h10 _) | (rw [← sp_or_f (c := (fun o => sp_isin s o && decide ((M.1 (v + 1)) (4 * o + f) = 1) && sp_cmp ((M.1 (v + 2)) (4 * o + f)) sg b)) (g := (fun o => (1 : Int32) <<< (nI o &&& 31))) (n := i) (by simp [*])]; exact ih h10 _) | (rw [← sp_or_f (c := (fun o => sp_isin s o && decide ((M.1 (v + 1)) (4 * o + f) = 1) && sp_cmp ((M.1 (v + 2)) (4 * o + f)) sg b)) (g := (fun o => (1 : Int32) <<< (nI o &&& 31))) (n := i) (by simp [*])]; exact ih h10 _) | (rw [← sp_or_f (c := (fun o => sp_isin s o && decide ((M.1 (v + 1)) (4 * o + f) = 1) && sp_cmp ((M.1 (v + 2)) (4 * o + f)) sg b)) (g := (fun o => (1 : Int32) <<< (nI o &&& 31))) (n := i) (by simp [*])]; exact ih h10 _)
  show am_W kV_withNumber 0 _ [] M Q
  refine am_iconst 0 d100_0 (by decide) ?_
  refine am_istore d100_1 (Nat.le_of_ble_eq_true rfl) rfl ?_
  refine am_iconst (nI 0) d100_3 (by decide) ?_
  refine am_istore d100_4 (Nat.le_of_ble_eq_true rfl) rfl ?_
  exact loop 0 (by decide) _
end
section
/-! allLedTo; Path: the smaller methods -/
theorem c_allLedTo {v : Nat} {x : Int32} {M : am_M} {Q : am_T} (hv : bv v) (hQ : Q (.inl (some (.int (sp_clo (sp_fld (fun t f => sp_refd (M.1 (v + 1)) (M.1 (v + 2)) t f) 4) 12 x 0)))) M) : am_W kV_allLedTo 0 (am_in kV_allLedTo [.ref v, .int x]) [] M Q := by
  have inner : ∀ (x s0 old : Int32) (i f : Nat), f ≤ 4 → am_W kV_allLedTo 46 [.ref v, .int x, .int (sp_fld (fun t f => sp_refd (M.1 (v + 1)) (M.1 (v + 2)) t f) 4 s0), .int old, .int (nI i), .int (nI 4)] [] M Q → am_W kV_allLedTo 24 [.ref v, .int x, .int (sp_fld (fun t f => sp_refd (M.1 (v + 1)) (M.1 (v + 2)) t f) f s0), .int old, .int (nI i), .int (nI f)] [] M Q := by
    intro x s0 old i f hf hk
    revert f
    refine am_loop 4 (fun f hf ihf => ?_)
    refine am_iload d99_24 rfl ?_
    refine am_iconst (nI 4) d99_26 (by decide) ?_
    refine am_icgeN 46 f 4 d99_27 (by decide) rfl rfl (by omega) (by decide) (fun h27 => ?_) (fun h27 => ?_)
    · obtain rfl : f = 4 := by omega
      exact hk
    · refine am_iload_n d99_30 rfl ?_
      refine am_aload_n d99_31 rfl ?_
      refine am_iload_n d99_32 rfl ?_
      refine am_iload d99_33 rfl ?_
      refine am_cv2 97 d99_35 ml99_39 rfl (by decide) (bv_0 hv) rfl rfl rfl (Nat.le_of_ble_eq_true rfl) ?_
      refine c_referredBy hv (f := f) (by omega) ?_
      show am_W 99 38 _ (.int _ :: _) _ _
      refine am_ior d99_38 ?_
      refine am_istore_n d99_39 (Nat.le_of_ble_eq_true rfl) rfl ?_
      refine am_incN f d99_40 rfl rfl ?_
      refine am_goto 24 d99_43 (by decide) ?_
      exact ihf h27
  have loop : ∀ i, i ≤ 12 → ∀ (w : Value) (s old : Int32), Q (.inl (some (.int (sp_clo (sp_fld (fun t f => sp_refd (M.1 (v + 1)) (M.1 (v + 2)) t f) 4) (12 - i) s old)))) M → am_W kV_allLedTo 7 [.ref v, .int x, .int s, .int old, .int (nI i), w] [] M Q := by
    refine am_loop 12 (fun i hi ih => ?_)
    intro w s old hq
    refine am_iload d99_7 rfl ?_
    refine am_bipush (nI 12) d99_9 (by decide) ?_
    refine am_icgeN 52 i 12 d99_11 (by decide) rfl rfl (by omega) (by decide) (fun h11 => ?_) (fun h11 => ?_)
    · refine am_iload_n d99_52 rfl ?_
      refine am_iret d99_53 rfl rfl ?_
      obtain rfl : i = 12 := by omega
      exact hq
    · refine am_iload_n d99_14 rfl ?_
      refine am_iload_n d99_15 rfl ?_
      refine am_iceq 52 d99_16 (by decide) (fun h16 => ?_) (fun h16 => ?_)
      · refine am_iload_n d99_52 rfl ?_
        refine am_iret d99_53 rfl rfl ?_
        have hd : 12 - i = (12 - (i + 1)) + 1 := by omega
        rw [hd] at hq
        simp only [sp_clo, if_pos h16] at hq
        exact hq
      · refine am_iload_n d99_19 rfl ?_
        refine am_istore_n d99_20 (Nat.le_of_ble_eq_true rfl) rfl ?_
        refine am_iconst (nI 0) d99_21 (by decide) ?_
        refine am_istore d99_22 (Nat.le_of_ble_eq_true rfl) rfl ?_
        refine inner x s s i 0 (by decide) ?_
        refine am_incN i d99_46 rfl rfl ?_
        refine am_goto 7 d99_49 (by decide) ?_
        refine ih h11 _ _ _ ?_
        have hd : 12 - i = (12 - (i + 1)) + 1 := by omega
        rw [hd] at hq
        simp only [sp_clo, if_neg h16] at hq
        exact hq
  show am_W kV_allLedTo 0 _ [] M Q
  refine am_iload_n d99_0 rfl ?_
  refine am_istore_n d99_1 (Nat.le_of_ble_eq_true rfl) rfl ?_
  refine am_iconst 0 d99_2 (by decide) ?_
  refine am_istore_n d99_3 (Nat.le_of_ble_eq_true rfl) rfl ?_
  refine am_iconst (nI 0) d99_4 (by decide) ?_
  refine am_istore d99_5 (Nat.le_of_ble_eq_true rfl) rfl ?_
  exact loop 0 (by decide) _ _ _ hQ
theorem c_next {M0 M : am_M} {q : Nat → Nat} {len i : Nat} {s : Int32} {Q : am_T} (ht : tx M0 q len) (hp : pm M0 M i s) (hi : i < 2 ^ 30) (h1 : i < len → ∀ M', pm M0 M' (i + 1) s → Q (.inl (some (.int (nI (q i))))) M') (h0 : len ≤ i → Q (.inl (some (.int 0))) M) : am_W kP_next 0 (am_in kP_next [.ref 25]) [] M Q := by
  obtain ⟨t1, t2, t3⟩ := ht
  have e26 : M.1 26 = M0.1 26 := hp.1.eq 26 (by decide)
  have el : M.1 25 1 = nI len := hp.2.1.trans t1
  have ea : M.1 25 2 = nI i := hp.2.2.1
  show am_W kP_next 0 _ [] M Q
  refine am_aload_n d91_0 rfl ?_
  refine am_geti d91_1 fl91_19 sh_25 rfl ?_
  rw [ea]
  refine am_aload_n d91_4 rfl ?_
  refine am_geti d91_5 fl91_15 sh_25 rfl ?_
  rw [el]
  refine am_icltN 13 i len d91_8 (by decide) rfl rfl (by omega) (by omega) (fun h8 => ?_) (fun h8 => ?_)
  · refine am_aload_n d91_13 rfl ?_
    refine am_getr d91_14 fl91_9 sh_25 rfl ?_
    refine am_aload_n d91_17 rfl ?_
    refine am_geti d91_18 fl91_19 sh_25 rfl ?_
    rw [ea]
    refine am_caldN i d91_21 sh_26 (by omega) (by decide) ?_
    refine am_istore_n d91_22 (Nat.le_of_ble_eq_true rfl) rfl ?_
    refine am_aload_n d91_23 rfl ?_
    refine am_dup d91_24 rfl ?_
    refine am_geti d91_25 fl91_19 sh_25 rfl ?_
    rw [ea]
    refine am_iconst 1 d91_28 (by decide) ?_
    refine am_iadd d91_29 ?_
    rw [nI_1]
    refine am_put d91_30 fl91_19 sh_25 rfl rfl rfl rfl ?_
    refine am_iload_n d91_33 rfl ?_
    rw [e26, (t3 i h8).1]
    refine am_iret d91_34 rfl (pk_charN (by have := (t3 i h8).2; omega)).1 ?_
    exact h1 h8 _ (hp.at (i + 1))
  · refine am_iconst 0 d91_11 (by decide) ?_
    refine am_iret d91_12 rfl (by decide) ?_
    exact h0 h8
theorem c_takes {c : Nat} {M0 M : am_M} {q : Nat → Nat} {len i : Nat} {s : Int32} {Q : am_T} (ht : tx M0 q len) (hp : pm M0 M i s) (hi : i < 2 ^ 30) (hc : c < 127) (h1 : i < len → q i = c → ∀ M', pm M0 M' (i + 1) s → Q (.inl (some (.int 1))) M') (h0 : ¬ (i < len ∧ q i = c) → Q (.inl (some (.int 0))) M) : am_W kP_takes 0 (am_in kP_takes [.ref 25, .int (nI c)]) [] M Q := by
  obtain ⟨t1, t2, t3⟩ := ht
  have e26 : M.1 26 = M0.1 26 := hp.1.eq 26 (by decide)
  have el : M.1 25 1 = nI len := hp.2.1.trans t1
  have ea : M.1 25 2 = nI i := hp.2.2.1
  show am_W kP_takes 0 _ [] M Q
  refine am_aload_n d92_0 rfl ?_
  refine am_geti d92_1 fl92_19 sh_25 rfl ?_
  rw [ea]
  refine am_aload_n d92_4 rfl ?_
  refine am_geti d92_5 fl92_15 sh_25 rfl ?_
  rw [el]
  refine am_icgeN 24 i len d92_8 (by decide) rfl rfl (by omega) (by omega) (fun h8 => ?_) (fun h8 => ?_)
  · refine am_iconst 0 d92_24 (by decide) ?_
    refine am_iret d92_25 rfl (by decide) ?_
    first | exact h1 h8 ((nI_eq (by have := (t3 i h8).2; omega) (by omega)).mp h21) _ (hp.at (i + 1)) | exact h0 (fun z => absurd z.1 (by omega)) | exact h0 (fun z => h21 (by rw [z.2]))
  · refine am_aload_n d92_11 rfl ?_
    refine am_getr d92_12 fl92_9 sh_25 rfl ?_
    refine am_aload_n d92_15 rfl ?_
    refine am_geti d92_16 fl92_19 sh_25 rfl ?_
    rw [ea]
    refine am_caldN i d92_19 sh_26 (by omega) (by decide) ?_
    rw [e26, (t3 i h8).1]
    refine am_iload_n d92_20 rfl ?_
    refine am_iceq 26 d92_21 (by decide) (fun h21 => ?_) (fun h21 => ?_)
    · refine am_aload_n d92_26 rfl ?_
      refine am_dup d92_27 rfl ?_
      refine am_geti d92_28 fl92_19 sh_25 rfl ?_
      rw [ea]
      refine am_iconst 1 d92_31 (by decide) ?_
      refine am_iadd d92_32 ?_
      rw [nI_1]
      refine am_put d92_33 fl92_19 sh_25 rfl rfl rfl rfl ?_
      refine am_iconst 1 d92_36 (by decide) ?_
      refine am_iret d92_37 rfl (by decide) ?_
      first | exact h1 h8 ((nI_eq (by have := (t3 i h8).2; omega) (by omega)).mp h21) _ (hp.at (i + 1)) | exact h0 (fun z => absurd z.1 (by omega)) | exact h0 (fun z => h21 (by rw [z.2]))
    · refine am_iconst 0 d92_24 (by decide) ?_
      refine am_iret d92_25 rfl (by decide) ?_
      first | exact h1 h8 ((nI_eq (by have := (t3 i h8).2; omega) (by omega)).mp h21) _ (hp.at (i + 1)) | exact h0 (fun z => absurd z.1 (by omega)) | exact h0 (fun z => h21 (by rw [z.2]))
theorem c_isDigit {a : Nat} {M : am_M} {Q : am_T} (ha : a < 2 ^ 30) (h1 : 48 ≤ a → a < 58 → Q (.inl (some (.int 1))) M) (h0 : ¬ (48 ≤ a ∧ a < 58) → Q (.inl (some (.int 0))) M) : am_W kP_isDigit 0 (am_in kP_isDigit [.int (nI a)]) [] M Q := by
  show am_W kP_isDigit 0 _ [] M Q
  refine am_iload_n d93_0 rfl ?_
  refine am_bipush (nI 48) d93_1 (by decide) ?_
  refine am_icltN 16 a 48 d93_3 (by decide) rfl rfl (by omega) (by decide) (fun h3 => ?_) (fun h3 => ?_)
  · refine am_iconst 0 d93_16 (by decide) ?_
    refine am_iret d93_17 rfl (by decide) ?_
    first | exact h1 h3 (Nat.lt_succ_of_le (Nat.le_of_not_lt (fun z => h9 (nI_lt z (by omega))))) | exact h0 (fun z => absurd ((nI_ltI (a := 57) (b := a) (by decide) (by omega)).mp h9) (by omega)) | exact h0 (fun z => absurd z.1 (by omega))
  · refine am_iload_n d93_6 rfl ?_
    refine am_bipush (nI 57) d93_7 (by decide) ?_
    refine am_icgt 16 d93_9 (by decide) (fun h9 => ?_) (fun h9 => ?_)
    · refine am_iconst 0 d93_16 (by decide) ?_
      refine am_iret d93_17 rfl (by decide) ?_
      first | exact h1 h3 (Nat.lt_succ_of_le (Nat.le_of_not_lt (fun z => h9 (nI_lt z (by omega))))) | exact h0 (fun z => absurd ((nI_ltI (a := 57) (b := a) (by decide) (by omega)).mp h9) (by omega)) | exact h0 (fun z => absurd z.1 (by omega))
    · refine am_iconst 1 d93_12 (by decide) ?_
      refine am_goto 17 d93_13 (by decide) ?_
      refine am_iret d93_17 rfl (by decide) ?_
      first | exact h1 h3 (Nat.lt_succ_of_le (Nat.le_of_not_lt (fun z => h9 (nI_lt z (by omega))))) | exact h0 (fun z => absurd ((nI_ltI (a := 57) (b := a) (by decide) (by omega)).mp h9) (by omega)) | exact h0 (fun z => absurd z.1 (by omega))
theorem c_moved {v f : Nat} {fw : Int32} {M0 M : am_M} {i : Nat} {s : Int32} {Q : am_T} (hv : bv v) (hf : f < 4) (hp : pm M0 M i s) (h1 : ¬ fw = 0 → Q (.inl (some (.int (sp_refd (M0.1 (v + 1)) (M0.1 (v + 2)) s f)))) M) (h0 : fw = 0 → Q (.inl (some (.int (sp_refg (M0.1 (v + 1)) (M0.1 (v + 2)) s f)))) M) : am_W kP_moved 0 (am_in kP_moved [.ref 25, .ref v, .int fw, .int (nI f)]) [] M Q := by
  have v13 : v ≤ 21 := by rcases hv with rfl | rfl | rfl <;> decide
  show am_W kP_moved 0 _ [] M Q
  refine am_iload_n d88_0 rfl ?_
  refine am_ifeq 16 d88_1 (by decide) (fun h1g => ?_) (fun h1g => ?_)
  · refine am_aload_n d88_16 rfl ?_
    refine am_aload_n d88_17 rfl ?_
    refine am_geti d88_18 fl88_22 sh_25 rfl ?_
    refine am_iload_n d88_21 rfl ?_
    refine am_cv2 98 d88_22 ml88_69 rfl (by decide) (bv_0 hv) rfl rfl rfl (Nat.le_of_ble_eq_true rfl) ?_
    rw [show M.1 25 3 = s from hp.2.2.2]
    refine c_referringTo hv hf ?_
    show am_W 88 25 _ (.int _ :: _) _ _
    refine am_iret d88_25 rfl rfl ?_
    rw [hp.1.eq (v + 1) (by simp; omega), hp.1.eq (v + 2) (by simp; omega)]
    first | exact h1 h1g | exact h0 h1g
  · refine am_aload_n d88_4 rfl ?_
    refine am_aload_n d88_5 rfl ?_
    refine am_geti d88_6 fl88_22 sh_25 rfl ?_
    refine am_iload_n d88_9 rfl ?_
    refine am_cv2 97 d88_10 ml88_66 rfl (by decide) (bv_0 hv) rfl rfl rfl (Nat.le_of_ble_eq_true rfl) ?_
    rw [show M.1 25 3 = s from hp.2.2.2]
    refine c_referredBy hv hf ?_
    show am_W 88 13 _ (.int _ :: _) _ _
    refine am_goto 25 d88_13 (by decide) ?_
    refine am_iret d88_25 rfl rfl ?_
    rw [hp.1.eq (v + 1) (by simp; omega), hp.1.eq (v + 2) (by simp; omega)]
    first | exact h1 h1g | exact h0 h1g
end
section
/-! Path: following -/
theorem c_move {v f : Nat} {fw : Int32} {M0 M : am_M} {q : Nat → Nat} {len i : Nat} {s : Int32} {Q : am_T} (hv : bv v) (hf : f < 4) (ht : tx M0 q len) (hp : pm M0 M i s) (hi : i < 2 ^ 29)
    (hQ : ∀ M', pm M0 M' (ps_mv (fun t => if fw = 0 then sp_refg (M0.1 (v + 1)) (M0.1 (v + 2)) t f else sp_refd (M0.1 (v + 1)) (M0.1 (v + 2)) t f) q len s i).2 (ps_mv (fun t => if fw = 0 then sp_refg (M0.1 (v + 1)) (M0.1 (v + 2)) t f else sp_refd (M0.1 (v + 1)) (M0.1 (v + 2)) t f) q len s i).1 → Q (.inl none) M') : am_W kP_move 0 (am_in kP_move [.ref 25, .ref v, .int fw, .int (nI f)]) [] M Q := by
  have loop : ∀ r, r ≤ 12 → ∀ (Mk : am_M) (sk old : Int32), pm M0 Mk (i + 1) sk → (∀ M', pm M0 M' (i + 1) (sp_clo (fun t => t ||| (fun t => if fw = 0 then sp_refg (M0.1 (v + 1)) (M0.1 (v + 2)) t f else sp_refd (M0.1 (v + 1)) (M0.1 (v + 2)) t f) t) (12 - r) sk old) → Q (.inl none) M') → am_W kP_move 27 [.ref 25, .ref v, .int fw, .int (nI f), .int old, .int (nI r)] [] Mk Q := by
    refine am_loop 12 (fun r hr ih => ?_)
    intro Mk sk old hk hq
    have es : Mk.1 25 3 = sk := hk.2.2.2
    refine am_iload d87_27 rfl ?_
    refine am_bipush (nI 12) d87_29 (by decide) ?_
    refine am_icgeN 71 r 12 d87_31 (by decide) rfl rfl (by omega) (by decide) (fun h31 => ?_) (fun h31 => ?_)
    · obtain rfl : r = 12 := by omega
      exact am_vret d87_71 rfl (hq Mk hk)
    · have hd : 12 - r = (12 - (r + 1)) + 1 := by omega
      rw [hd] at hq
      refine am_aload_n d87_34 rfl ?_
      refine am_geti d87_35 fl87_22 sh_25 rfl ?_
      refine am_iload d87_38 rfl ?_
      refine am_iceq 71 d87_40 (by decide) (fun h40 => ?_) (fun h40 => ?_)
      · simp only [sp_clo, if_pos (es.symm.trans h40)] at hq
        exact am_vret d87_71 rfl (hq Mk hk)
      · simp only [sp_clo, if_neg (fun z : sk = old => h40 (es.trans z))] at hq
        refine am_aload_n d87_43 rfl ?_
        refine am_geti d87_44 fl87_22 sh_25 rfl ?_
        refine am_istore d87_47 (Nat.le_of_ble_eq_true rfl) rfl ?_
        refine am_aload_n d87_49 rfl ?_
        refine am_dup d87_50 rfl ?_
        refine am_geti d87_51 fl87_22 sh_25 rfl ?_
        refine am_aload_n d87_54 rfl ?_
        refine am_aload_n d87_55 rfl ?_
        refine am_iload_n d87_56 rfl ?_
        refine am_iload_n d87_57 rfl ?_
        refine am_cv3 88 d87_58 ml87_62 rfl (by decide) sh_25 rfl rfl rfl rfl (Nat.le_of_ble_eq_true rfl) ?_
        have fin : ∀ x : Int32, x = (fun t => if fw = 0 then sp_refg (M0.1 (v + 1)) (M0.1 (v + 2)) t f else sp_refd (M0.1 (v + 1)) (M0.1 (v + 2)) t f) sk → am_W 87 61 [.ref 25, .ref v, .int fw, .int (nI f), .int (Mk.1 25 3), .int (nI r)] (.int x :: .int (Mk.1 25 3) :: [.ref 25]) Mk Q := by
          intro x hx
          refine am_ior d87_61 ?_
          refine am_put d87_62 fl87_22 sh_25 rfl rfl rfl rfl ?_
          refine am_incN r d87_65 rfl rfl ?_
          refine am_goto 27 d87_68 (by decide) ?_
          rw [es, hx]
          exact ih h31 _ _ _ (hk.st _) hq
        refine c_moved hv hf hk (fun h => fin _ (if_neg h).symm) (fun h => fin _ (if_pos h).symm)
  show am_W kP_move 0 _ [] M Q
  refine am_aload_n d87_0 rfl ?_
  refine am_bipush (nI 126) d87_1 (by decide) ?_
  refine am_cv1 92 d87_3 ml87_58 rfl (by decide) sh_25 rfl rfl (Nat.le_of_ble_eq_true rfl) ?_
  refine c_takes ht hp (by omega) (by decide) (fun h1 h2 M1 p1 => ?_) (fun h0 => ?_)
  · show am_W 87 6 _ (.int 1 :: _) _ _
    refine am_ifne 21 d87_6 (by decide) (fun _ => ?_) (fun h => absurd h (by decide))
    refine am_iconst 0 d87_21 (by decide) ?_
    refine am_istore d87_22 (Nat.le_of_ble_eq_true rfl) rfl ?_
    refine am_iconst (nI 0) d87_24 (by decide) ?_
    refine am_istore d87_25 (Nat.le_of_ble_eq_true rfl) rfl ?_
    refine loop 0 (by decide) M1 s 0 p1 (fun M' p' => hQ M' ?_)
    have hc : ps_ch q len i = 126 := by rw [ps_in h1]; exact h2
    unfold ps_mv
    rw [if_pos hc]
    exact p'
  · show am_W 87 6 _ (.int 0 :: _) _ _
    refine am_ifne 21 d87_6 (by decide) (fun h => absurd rfl h) (fun _ => ?_)
    refine am_aload_n d87_9 rfl ?_
    refine am_aload_n d87_10 rfl ?_
    refine am_aload_n d87_11 rfl ?_
    refine am_iload_n d87_12 rfl ?_
    refine am_iload_n d87_13 rfl ?_
    have hc : ¬ ps_ch q len i = 126 := by
      intro z
      by_cases h : i < len
      · exact h0 ⟨h, by rw [← ps_in (q := q) h]; exact z⟩
      · rw [ps_out h] at z; cases z
    have fin : ∀ x : Int32, x = (fun t => if fw = 0 then sp_refg (M0.1 (v + 1)) (M0.1 (v + 2)) t f else sp_refd (M0.1 (v + 1)) (M0.1 (v + 2)) t f) s → am_W 87 17 [.ref 25, .ref v, .int fw, .int (nI f), .null, .null] (.int x :: [.ref 25]) M Q := by
      intro x hx
      refine am_put d87_17 fl87_22 sh_25 rfl rfl rfl rfl ?_
      refine am_vret d87_20 rfl (hQ _ ?_)
      unfold ps_mv
      rw [if_neg hc, hx]
      exact hp.st _
    refine am_cv3 88 d87_14 ml87_62 rfl (by decide) sh_25 rfl rfl rfl rfl (Nat.le_of_ble_eq_true rfl) ?_
    exact c_moved hv hf hp (fun h => fin _ (if_neg h).symm) (fun h => fin _ (if_pos h).symm)
theorem c_takeNumber {M0 M : am_M} {q : Nat → Nat} {len i : Nat} {s : Int32} {Q : am_T} (ht : tx M0 q len) (hp : pm M0 M i s) (hi : i < 2 ^ 29)
    (hQ : ∀ M', pm M0 M' (ps_num q len 4 (ps_j q len i) 0).2 s → Q (.inl (some (.int (if (ps_num q len 4 (ps_j q len i) 0).2 = ps_j q len i then 10000 else ps_sgn q len i (ps_num q len 4 (ps_j q len i) 0).1)))) M') : am_W kP_takeNumber 0 (am_in kP_takeNumber [.ref 25]) [] M Q := by
  have htx := ht
  obtain ⟨t1, t2, t3⟩ := ht
  have loop : ∀ d, d ≤ 4 → ∀ (M1 : am_M) (a : Nat) (neg : Int32), pm M0 M1 (ps_j q len i + d) s → (neg = 0 ↔ ¬ ps_ch q len i = 45) → (∀ M', pm M0 M' (ps_num q len (4 - d) (ps_j q len i + d) a).2 s → Q (.inl (some (.int (if (ps_num q len (4 - d) (ps_j q len i + d) a).2 = ps_j q len i then 10000 else ps_sgn q len i (ps_num q len (4 - d) (ps_j q len i + d) a).1)))) M') →
      am_W kP_takeNumber 11 [.ref 25, .int neg, .int (nI a), .int (nI d)] [] M1 Q := by
    refine am_loop 4 (fun d hd ih => ?_)
    intro M1 a neg h1 hneg hq
    have hj30 : ps_j q len i + d < 2 ^ 30 := by unfold ps_j; split <;> omega
    have e26 : M1.1 26 = M0.1 26 := h1.1.eq 26 (by decide)
    have el : M1.1 25 1 = nI len := h1.2.1.trans t1
    have ea : M1.1 25 2 = nI (ps_j q len i + d) := h1.2.2.1
    have fin : ps_num q len (4 - d) (ps_j q len i + d) a = (a, ps_j q len i + d) → am_W kP_takeNumber 76 [.ref 25, .int neg, .int (nI a), .int (nI d)] [] M1 Q := by
      intro he
      rw [he] at hq
      have hq := hq M1 h1
      refine am_iload_n d90_76 rfl ?_
      refine am_ifne 84 d90_77 (by decide) (fun h77 => ?_) (fun h77 => ?_)
      · have hd0 : ¬ ps_j q len i + d = ps_j q len i := fun z => h77 (by rw [show d = 0 by omega]; rfl)
        rw [if_neg hd0] at hq
        unfold ps_sgn at hq
        refine am_iload_n d90_84 rfl ?_
        refine am_ifeq 93 d90_85 (by decide) (fun h85 => ?_) (fun h85 => ?_)
        · rw [if_neg (hneg.mp h85)] at hq
          refine am_iload_n d90_93 rfl ?_
          exact am_iret d90_94 rfl rfl hq
        · rw [if_pos (Classical.byContradiction (fun z => h85 (hneg.mpr z)))] at hq
          refine am_iload_n d90_88 rfl ?_
          refine am_ineg d90_89 ?_
          refine am_goto 94 d90_90 (by decide) ?_
          exact am_iret d90_94 rfl rfl hq
      · have hd0 : d = 0 := by
          have : nI d = nI 0 := h77
          exact (nI_eq (by omega) (by decide)).mp this
        rw [if_pos (by omega)] at hq
        refine am_sipush 10000 d90_80 (by decide) ?_
        exact am_iret d90_83 rfl rfl hq
    refine am_iload_n d90_11 rfl ?_
    refine am_iconst (nI 4) d90_12 (by decide) ?_
    refine am_icgeN 76 d 4 d90_13 (by decide) rfl rfl (by omega) (by decide) (fun h13 => ?_) (fun h13 => ?_)
    · exact fin (by rw [show 4 - d = 0 by omega]; rfl)
    · have hs : 4 - d = (4 - (d + 1)) + 1 := by omega
      refine am_aload_n d90_16 rfl ?_
      refine am_geti d90_17 fl90_19 sh_25 rfl ?_
      rw [ea]
      refine am_aload_n d90_20 rfl ?_
      refine am_geti d90_21 fl90_15 sh_25 rfl ?_
      rw [el]
      refine am_icgeN 76 (ps_j q len i + d) len d90_24 (by decide) rfl rfl (by omega) (by omega) (fun h24 => ?_) (fun h24 => ?_)
      · exact fin (by rw [hs]; simp only [ps_num]; rw [if_neg (by rw [ps_out (by omega)]; omega)])
      · obtain ⟨c1, c2⟩ := t3 _ h24
        refine am_aload_n d90_27 rfl ?_
        refine am_getr d90_28 fl90_9 sh_25 rfl ?_
        refine am_aload_n d90_31 rfl ?_
        refine am_geti d90_32 fl90_19 sh_25 rfl ?_
        rw [ea]
        refine am_caldN (ps_j q len i + d) d90_35 sh_26 (by omega) (by decide) ?_
        rw [e26, c1]
        refine am_cs1 93 d90_36 ml90_80 rfl (by decide) rfl rfl (Nat.le_of_ble_eq_true rfl) ?_
        refine c_isDigit (by omega) (fun g1 g2 => ?_) (fun g0 => ?_)
        · show am_W 90 39 _ (.int 1 :: _) _ _
          refine am_ifeq 76 d90_39 (by decide) (fun h => absurd h (by decide)) (fun _ => ?_)
          refine am_bipush (nI 10) d90_42 (by decide) ?_
          refine am_iload_n d90_44 rfl ?_
          refine am_mulN d90_45 ?_
          refine am_aload_n d90_46 rfl ?_
          refine am_getr d90_47 fl90_9 sh_25 rfl ?_
          refine am_aload_n d90_50 rfl ?_
          refine am_geti d90_51 fl90_19 sh_25 rfl ?_
          rw [ea]
          refine am_caldN (ps_j q len i + d) d90_54 sh_26 (by omega) (by decide) ?_
          rw [e26, c1]
          refine am_bipush (nI 48) d90_55 (by decide) ?_
          refine am_isub d90_57 ?_
          rw [pk_sub g1]
          refine am_addN d90_58 ?_
          refine am_istore_n d90_59 (Nat.le_of_ble_eq_true rfl) rfl ?_
          refine am_incN d d90_60 rfl rfl ?_
          refine am_aload_n d90_63 rfl ?_
          refine am_dup d90_64 rfl ?_
          refine am_geti d90_65 fl90_19 sh_25 rfl ?_
          rw [ea]
          refine am_iconst 1 d90_68 (by decide) ?_
          refine am_iadd d90_69 ?_
          rw [nI_1]
          refine am_put d90_70 fl90_19 sh_25 rfl rfl rfl rfl ?_
          refine am_goto 11 d90_73 (by decide) ?_
          refine ih h13 _ _ _ (h1.at _) hneg ?_
          have hst : ps_num q len (4 - d) (ps_j q len i + d) a = ps_num q len (4 - (d + 1)) (ps_j q len i + (d + 1)) (10 * a + (q (ps_j q len i + d) - 48)) := by
            rw [hs]
            simp only [ps_num]
            rw [ps_in h24, if_pos ⟨g1, g2⟩, show ps_j q len i + d + 1 = ps_j q len i + (d + 1) by omega]
          rw [hst] at hq
          exact hq
        · show am_W 90 39 _ (.int 0 :: _) _ _
          refine am_ifeq 76 d90_39 (by decide) (fun _ => ?_) (fun h => absurd rfl h)
          exact fin (by rw [hs]; simp only [ps_num]; rw [ps_in h24, if_neg g0])
  show am_W kP_takeNumber 0 _ [] M Q
  refine am_aload_n d90_0 rfl ?_
  refine am_bipush (nI 45) d90_1 (by decide) ?_
  refine am_cv1 92 d90_3 ml90_58 rfl (by decide) sh_25 rfl rfl (Nat.le_of_ble_eq_true rfl) ?_
  refine c_takes htx hp (by omega) (by decide) (fun h1 h2 M1 p1 => ?_) (fun h0 => ?_)
  · show am_W 90 6 _ (.int 1 :: _) _ _
    have hc : ps_ch q len i = 45 := by rw [ps_in h1]; exact h2
    have hj : ps_j q len i = i + 1 := if_pos hc
    refine am_istore_n d90_6 (Nat.le_of_ble_eq_true rfl) rfl ?_
    refine am_iconst (nI 0) d90_7 (by decide) ?_
    refine am_istore_n d90_8 (Nat.le_of_ble_eq_true rfl) rfl ?_
    refine am_iconst (nI 0) d90_9 (by decide) ?_
    refine am_istore_n d90_10 (Nat.le_of_ble_eq_true rfl) rfl ?_
    exact loop 0 (by decide) M1 0 1 (by rw [hj]; exact p1) ⟨fun z => absurd z (by decide), fun z => absurd hc z⟩ hQ
  · show am_W 90 6 _ (.int 0 :: _) _ _
    have hc : ¬ ps_ch q len i = 45 := by
      intro z
      by_cases h : i < len
      · exact h0 ⟨h, by rw [← ps_in (q := q) h]; exact z⟩
      · rw [ps_out h] at z; cases z
    have hj : ps_j q len i = i := if_neg hc
    refine am_istore_n d90_6 (Nat.le_of_ble_eq_true rfl) rfl ?_
    refine am_iconst (nI 0) d90_7 (by decide) ?_
    refine am_istore_n d90_8 (Nat.le_of_ble_eq_true rfl) rfl ?_
    refine am_iconst (nI 0) d90_9 (by decide) ?_
    refine am_istore_n d90_10 (Nat.le_of_ble_eq_true rfl) rfl ?_
    exact loop 0 (by decide) M 0 0 (by rw [hj]; exact hp) ⟨fun _ => hc, fun _ => rfl⟩ hQ
end
section
/-! Path: comparisons, steps, the whole text -/
theorem c_takeComparison {v f : Nat} {M0 M : am_M} {q : Nat → Nat} {len i : Nat} {s : Int32} {Q : am_T} (hv : bv v) (hf : f < 4) (ht : tx M0 q len) (hp : pm M0 M i s) (hi : i < 2 ^ 28)
    (hQ1 : ∀ M' r, ps_cmp (M0.1 (v + 1)) (M0.1 (v + 2)) q len s f i = some r → pm M0 M' r.2 r.1 → Q (.inl (some (.int 1))) M') (hQ0 : ∀ M' j t, ps_cmp (M0.1 (v + 1)) (M0.1 (v + 2)) q len s f i = none → pm M0 M' j t → Q (.inl (some (.int 0))) M') : am_W kP_takeComparison 0 (am_in kP_takeComparison [.ref 25, .ref v, .int (nI f)]) [] M Q := by
  have htx := ht
  obtain ⟨t1, t2, t3⟩ := ht
  have v13 : v ≤ 21 := by rcases hv with rfl | rfl | rfl <;> decide
  have cont : ∀ (M1 : am_M) (c : Nat), c < 127 → pm M0 M1 (i + 1) s → ps_ch q len i = c → (c = 60 ∨ c = 61 ∨ c = 62) → am_W kP_takeComparison 25 [.ref 25, .ref v, .int (nI f), .int (nI c), .null] [] M1 Q := by
    intro M1 c hc p1 hch hcc
    refine am_aload_n d89_25 rfl ?_
    refine am_cv0 90 d89_26 ml89_72 rfl (by decide) sh_25 rfl (Nat.le_of_ble_eq_true rfl) ?_
    refine c_takeNumber htx p1 (by omega) (fun M2 p2 => ?_)
    show am_W 89 29 _ (.int _ :: _) _ _
    refine am_istore d89_29 (Nat.le_of_ble_eq_true rfl) rfl ?_
    refine am_iload d89_31 rfl ?_
    refine am_sipush 10000 d89_33 (by decide) ?_
    have hu : ps_cmp (M0.1 (v + 1)) (M0.1 (v + 2)) q len s f i = (if (ps_num q len 4 (ps_j q len (i + 1)) 0).2 = ps_j q len (i + 1) then none else if ps_ch q len (ps_num q len 4 (ps_j q len (i + 1)) 0).2 = 93 then some (sp_num (M0.1 (v + 1)) (M0.1 (v + 2)) s f (nI (ps_ch q len i)) (ps_sgn q len (i + 1) (ps_num q len 4 (ps_j q len (i + 1)) 0).1), (ps_num q len 4 (ps_j q len (i + 1)) 0).2 + 1) else none) := by
      unfold ps_cmp
      rw [if_pos (by rw [hch]; exact hcc)]
    have hb := ps_num_ge (q := q) (len := len) 4 (ps_j q len (i + 1)) 0
    have hjb : ps_j q len (i + 1) ≤ i + 2 := by unfold ps_j; split <;> omega
    by_cases hd : (ps_num q len 4 (ps_j q len (i + 1)) 0).2 = ps_j q len (i + 1)
    · rw [if_pos hd] at hu
      refine am_iceq 48 d89_36 (by decide) (fun _ => ?_) (fun h => absurd (if_pos hd) h)
      refine am_iconst 0 d89_48 (by decide) ?_
      exact am_iret d89_49 rfl (by decide) (hQ0 _ _ _ hu p2)
    · rw [if_neg hd] at hu
      rw [if_neg hd]
      refine am_iceq 48 d89_36 (by decide) (fun h => absurd h (ps_sgn_ne ps_num4)) (fun _ => ?_)
      refine am_aload_n d89_39 rfl ?_
      refine am_bipush (nI 93) d89_40 (by decide) ?_
      refine am_cv1 92 d89_42 ml89_58 rfl (by decide) sh_25 rfl rfl (Nat.le_of_ble_eq_true rfl) ?_
      refine c_takes htx p2 (by omega) (by decide) (fun g1 g2 M3 p3 => ?_) (fun g0 => ?_)
      · show am_W 89 45 _ (.int 1 :: _) _ _
        have hc93 : ps_ch q len (ps_num q len 4 (ps_j q len (i + 1)) 0).2 = 93 := by rw [ps_in g1]; exact g2
        rw [if_pos hc93] at hu
        refine am_ifne 50 d89_45 (by decide) (fun _ => ?_) (fun h => absurd h (by decide))
        refine am_aload_n d89_50 rfl ?_
        refine am_aload_n d89_51 rfl ?_
        refine am_aload_n d89_52 rfl ?_
        refine am_geti d89_53 fl89_22 sh_25 rfl ?_
        refine am_iload_n d89_56 rfl ?_
        refine am_iload_n d89_57 rfl ?_
        refine am_iload d89_58 rfl ?_
        refine am_cv4 100 d89_60 ml89_76 rfl (by decide) (bv_0 hv) rfl rfl rfl rfl rfl (Nat.le_of_ble_eq_true rfl) ?_
        refine c_withNumber hv hf ?_
        show am_W 89 63 _ (.int _ :: _) _ _
        refine am_put d89_63 fl89_22 sh_25 rfl rfl rfl rfl ?_
        refine am_iconst 1 d89_66 (by decide) ?_
        refine am_iret d89_67 rfl (by decide) (hQ1 _ _ hu ?_)
        rw [p3.2.2.2, p3.1.eq (v + 1) (by simp; omega), p3.1.eq (v + 2) (by simp; omega), hch]
        exact p3.st _
      · show am_W 89 45 _ (.int 0 :: _) _ _
        have hc93 : ¬ ps_ch q len (ps_num q len 4 (ps_j q len (i + 1)) 0).2 = 93 := by
          intro z
          by_cases h : (ps_num q len 4 (ps_j q len (i + 1)) 0).2 < len
          · exact g0 ⟨h, by rw [← ps_in (q := q) h]; exact z⟩
          · rw [ps_out h] at z; cases z
        rw [if_neg hc93] at hu
        refine am_ifne 50 d89_45 (by decide) (fun h => absurd rfl h) (fun _ => ?_)
        refine am_iconst 0 d89_48 (by decide) ?_
        exact am_iret d89_49 rfl (by decide) (hQ0 _ _ _ hu p2)
  have sgn : ∀ (M1 : am_M) (c j : Nat), c < 127 → pm M0 M1 j s → ps_ch q len i = c → ((c = 60 ∨ c = 61 ∨ c = 62) → j = i + 1) → am_W kP_takeComparison 5 [.ref 25, .ref v, .int (nI f), .int (nI c), .null] [] M1 Q := by
    intro M1 c j hc p1 hch hj
    refine am_iload_n d89_5 rfl ?_
    refine am_bipush (nI 60) d89_6 (by decide) ?_
    refine am_iceq 25 d89_8 (by decide) (fun h => ?_) (fun h8 => ?_)
    · have hc0 : c = 60 := (nI_eq (by omega) (by decide)).mp h
      have hj := hj (Or.inl hc0)
      subst hj
      exact cont M1 c hc p1 hch (Or.inl hc0)
    refine am_iload_n d89_11 rfl ?_
    refine am_bipush (nI 61) d89_12 (by decide) ?_
    refine am_iceq 25 d89_14 (by decide) (fun h => ?_) (fun h14 => ?_)
    · have hc0 : c = 61 := (nI_eq (by omega) (by decide)).mp h
      have hj := hj (Or.inr (Or.inl hc0))
      subst hj
      exact cont M1 c hc p1 hch (Or.inr (Or.inl hc0))
    refine am_iload_n d89_17 rfl ?_
    refine am_bipush (nI 62) d89_18 (by decide) ?_
    refine am_iceq 25 d89_20 (by decide) (fun h => ?_) (fun h20 => ?_)
    · have hc0 : c = 62 := (nI_eq (by omega) (by decide)).mp h
      have hj := hj (Or.inr (Or.inr hc0))
      subst hj
      exact cont M1 c hc p1 hch (Or.inr (Or.inr hc0))
    refine am_iconst 0 d89_23 (by decide) ?_
    refine am_iret d89_24 rfl (by decide) (hQ0 _ _ _ ?_ p1)
    unfold ps_cmp
    rw [if_neg]
    rw [hch]
    rintro (z | z | z)
    · exact h8 (by rw [z])
    · exact h14 (by rw [z])
    · exact h20 (by rw [z])
  show am_W kP_takeComparison 0 _ [] M Q
  refine am_aload_n d89_0 rfl ?_
  refine am_cv0 91 d89_1 ml89_37 rfl (by decide) sh_25 rfl (Nat.le_of_ble_eq_true rfl) ?_
  refine c_next htx hp (by omega) (fun g1 M1 p1 => ?_) (fun g0 => ?_)
  · show am_W 89 4 _ (.int _ :: _) _ _
    refine am_istore_n d89_4 (Nat.le_of_ble_eq_true rfl) rfl ?_
    exact sgn M1 (q i) (i + 1) (t3 i g1).2 p1 (ps_in g1) (fun _ => rfl)
  · show am_W 89 4 _ (.int _ :: _) _ _
    refine am_istore_n d89_4 (Nat.le_of_ble_eq_true rfl) rfl ?_
    exact sgn M 0 i (by decide) hp (ps_out (by omega)) (fun z => by omega)
theorem c_takeStep {v : Nat} {M0 M : am_M} {q : Nat → Nat} {len i : Nat} {s : Int32} {Q : am_T} (hv : bv v) (ht : tx M0 q len) (hp : pm M0 M i s) (hi : i < len)
    (hQ1 : ∀ M' r, ps_step (M0.1 (v + 1)) (M0.1 (v + 2)) q len s i = some r → pm M0 M' r.2 r.1 → Q (.inl (some (.int 1))) M') (hQ0 : ∀ M' j t, ps_step (M0.1 (v + 1)) (M0.1 (v + 2)) q len s i = none → pm M0 M' j t → Q (.inl (some (.int 0))) M') : am_W kP_takeStep 0 (am_in kP_takeStep [.ref 25, .ref v]) [] M Q := by
  have htx := ht
  obtain ⟨t1, t2, t3⟩ := ht
  have v13 : v ≤ 21 := by rcases hv with rfl | rfl | rfl <;> decide
  have hci : ps_ch q len i = q i := ps_in hi
  have hqi := (t3 i hi).2
  have bad : ∀ (M1 : am_M) (j : Nat) (x y : Value), ps_step (M0.1 (v + 1)) (M0.1 (v + 2)) q len s i = none → pm M0 M1 j s → am_W kP_takeStep 22 [.ref 25, .ref v, x, y] [] M1 Q := by
    intro M1 j x y hu p1
    refine am_iconst 0 d86_22 (by decide) ?_
    exact am_iret d86_23 rfl (by decide) (hQ0 _ _ _ hu p1)
  have good : ∀ (M1 : am_M) (f : Nat), f < 4 → ps_ch q len (i + 1) = f + 48 → pm M0 M1 (i + 2) s → am_W kP_takeStep 24 [.ref 25, .ref v, .int (nI (q i)), .int (nI f)] [] M1 Q := by
    intro M1 f hf hcf p1
    have hu : ps_step (M0.1 (v + 1)) (M0.1 (v + 2)) q len s i = (if q i = 46 then some (ps_mv (fun t => sp_refd (M0.1 (v + 1)) (M0.1 (v + 2)) t f) q len s (i + 2)) else if q i = 94 then some (ps_mv (fun t => sp_refg (M0.1 (v + 1)) (M0.1 (v + 2)) t f) q len s (i + 2)) else if q i = 91 then ps_cmp (M0.1 (v + 1)) (M0.1 (v + 2)) q len s f (i + 2) else if q i = 63 then some (sp_non (M0.1 (v + 1)) s f, i + 2) else none) := by
      unfold ps_step
      rw [if_pos (by omega), hci, hcf, Nat.add_sub_cancel]
    have mv : ∀ fw : Int32, (fw = 0 → q i = 94) → (¬ fw = 0 → q i = 46) → am_W kP_takeStep 49 [.ref 25, .ref v, .int (nI (q i)), .int (nI f)] [.int fw, .ref v, .ref 25] M1 Q := by
      intro fw h1 h2
      refine am_iload_n d86_49 rfl ?_
      refine am_cv3 87 d86_50 ml86_45 rfl (by decide) sh_25 rfl rfl rfl rfl (Nat.le_of_ble_eq_true rfl) ?_
      refine c_move hv hf htx p1 (by omega) (fun M2 p2 => ?_)
      show am_W 86 53 _ _ _ _
      refine am_iconst 1 d86_53 (by decide) ?_
      refine am_iret d86_54 rfl (by decide) ?_
      by_cases hfw : fw = 0
      · have h94 := h1 hfw
        rw [if_neg (by omega), if_pos h94] at hu
        refine hQ1 _ _ hu ?_
        simp only [if_pos hfw] at p2
        exact p2
      · have h46 := h2 hfw
        rw [if_pos h46] at hu
        refine hQ1 _ _ hu ?_
        simp only [if_neg hfw] at p2
        exact p2
    refine am_iload_n d86_24 rfl ?_
    refine am_bipush (nI 46) d86_25 (by decide) ?_
    refine am_iceq 36 d86_27 (by decide) (fun h => ?_) (fun h27 => ?_)
    · have h46 : q i = 46 := (nI_eq (by omega) (by decide)).mp h
      refine am_aload_n d86_36 rfl ?_
      refine am_aload_n d86_37 rfl ?_
      refine am_iload_n d86_38 rfl ?_
      refine am_bipush (nI 46) d86_39 (by decide) ?_
      refine am_icne 48 d86_41 (by decide) (fun z => absurd h z) (fun _ => ?_)
      refine am_iconst 1 d86_44 (by decide) ?_
      refine am_goto 49 d86_45 (by decide) ?_
      exact mv 1 (fun z => absurd z (by decide)) (fun _ => h46)
    have n46 : ¬ q i = 46 := fun z => h27 (by rw [z])
    rw [if_neg n46] at hu
    refine am_iload_n d86_30 rfl ?_
    refine am_bipush (nI 94) d86_31 (by decide) ?_
    refine am_icne 55 d86_33 (by decide) (fun h33 => ?_) (fun h => ?_)
    · have n94 : ¬ q i = 94 := fun z => h33 (by rw [z])
      rw [if_neg n94] at hu
      refine am_iload_n d86_55 rfl ?_
      refine am_bipush (nI 91) d86_56 (by decide) ?_
      refine am_icne 68 d86_58 (by decide) (fun h58 => ?_) (fun h => ?_)
      · have n91 : ¬ q i = 91 := fun z => h58 (by rw [z])
        rw [if_neg n91] at hu
        refine am_iload_n d86_68 rfl ?_
        refine am_bipush (nI 63) d86_69 (by decide) ?_
        refine am_icne 89 d86_71 (by decide) (fun h71 => ?_) (fun h => ?_)
        · have n63 : ¬ q i = 63 := fun z => h71 (by rw [z])
          rw [if_neg n63] at hu
          refine am_iconst 0 d86_89 (by decide) ?_
          exact am_iret d86_90 rfl (by decide) (hQ0 _ _ _ hu p1)
        · have h63 : q i = 63 := (nI_eq (by omega) (by decide)).mp h
          rw [if_pos h63] at hu
          refine am_aload_n d86_74 rfl ?_
          refine am_aload_n d86_75 rfl ?_
          refine am_aload_n d86_76 rfl ?_
          refine am_geti d86_77 fl86_22 sh_25 rfl ?_
          refine am_iload_n d86_80 rfl ?_
          refine am_cv2 101 d86_81 ml86_53 rfl (by decide) (bv_0 hv) rfl rfl rfl (Nat.le_of_ble_eq_true rfl) ?_
          refine c_withNothing hv hf ?_
          show am_W 86 84 _ (.int _ :: _) _ _
          refine am_put d86_84 fl86_22 sh_25 rfl rfl rfl rfl ?_
          refine am_iconst 1 d86_87 (by decide) ?_
          refine am_iret d86_88 rfl (by decide) (hQ1 _ _ hu ?_)
          rw [p1.2.2.2, p1.1.eq (v + 1) (by simp; omega)]
          exact p1.st _
      · have h91 : q i = 91 := (nI_eq (by omega) (by decide)).mp h
        rw [if_pos h91] at hu
        refine am_aload_n d86_61 rfl ?_
        refine am_aload_n d86_62 rfl ?_
        refine am_iload_n d86_63 rfl ?_
        refine am_cv2 89 d86_64 ml86_49 rfl (by decide) sh_25 rfl rfl rfl (Nat.le_of_ble_eq_true rfl) ?_
        refine c_takeComparison hv hf htx p1 (by omega) (fun M2 r hr p2 => ?_) (fun M2 j t hr p2 => ?_)
        · show am_W 86 67 _ (.int 1 :: _) _ _
          exact am_iret d86_67 rfl (by decide) (hQ1 _ _ (hu.trans hr) p2)
        · show am_W 86 67 _ (.int 0 :: _) _ _
          exact am_iret d86_67 rfl (by decide) (hQ0 _ _ _ (hu.trans hr) p2)
    · have h94 : q i = 94 := (nI_eq (by omega) (by decide)).mp h
      refine am_aload_n d86_36 rfl ?_
      refine am_aload_n d86_37 rfl ?_
      refine am_iload_n d86_38 rfl ?_
      refine am_bipush (nI 46) d86_39 (by decide) ?_
      refine am_icne 48 d86_41 (by decide) (fun _ => ?_) (fun z => absurd z h27)
      refine am_iconst 0 d86_48 (by decide) ?_
      have hu2 := hu
      exact mv 0 (fun _ => h94) (fun z => absurd rfl z)
  have noU : ¬ (48 ≤ ps_ch q len (i + 1) ∧ ps_ch q len (i + 1) < 52) → ps_step (M0.1 (v + 1)) (M0.1 (v + 2)) q len s i = none := fun z => by unfold ps_step; rw [if_neg z]
  show am_W kP_takeStep 0 _ [] M Q
  refine am_aload_n d86_0 rfl ?_
  refine am_cv0 91 d86_1 ml86_37 rfl (by decide) sh_25 rfl (Nat.le_of_ble_eq_true rfl) ?_
  refine c_next htx hp (by omega) (fun _ M1 p1 => ?_) (fun g0 => absurd hi (by omega))
  show am_W 86 4 _ (.int _ :: _) _ _
  refine am_istore_n d86_4 (Nat.le_of_ble_eq_true rfl) rfl ?_
  refine am_aload_n d86_5 rfl ?_
  refine am_cv0 91 d86_6 ml86_37 rfl (by decide) sh_25 rfl (Nat.le_of_ble_eq_true rfl) ?_
  refine c_next htx p1 (by omega) (fun g1 M2 p2 => ?_) (fun g0 => ?_)
  · show am_W 86 9 _ (.int _ :: _) _ _
    have hq1 := (t3 _ g1).2
    have hc1 : ps_ch q len (i + 1) = q (i + 1) := ps_in g1
    refine am_bipush (nI 48) d86_9 (by decide) ?_
    refine am_isub d86_11 ?_
    by_cases h48 : 48 ≤ q (i + 1)
    · rw [pk_sub h48]
      refine am_istore_n d86_12 (Nat.le_of_ble_eq_true rfl) rfl ?_
      refine am_iload_n d86_13 rfl ?_
      refine am_iflt 22 d86_14 (by decide) (fun h => absurd h (nI_pos (by omega))) (fun _ => ?_)
      refine am_iload_n d86_17 rfl ?_
      refine am_iconst (nI 4) d86_18 (by decide) ?_
      refine am_icltN 24 (q (i + 1) - 48) 4 d86_19 (by decide) rfl rfl (by omega) (by decide) (fun h19 => ?_) (fun h19 => ?_)
      · exact good M2 _ h19 (by rw [hc1]; omega) p2
      · exact bad M2 _ _ _ (noU (by rw [hc1]; omega)) p2
    · refine am_istore_n d86_12 (Nat.le_of_ble_eq_true rfl) rfl ?_
      refine am_iload_n d86_13 rfl ?_
      refine am_iflt 22 d86_14 (by decide) (fun _ => ?_) (fun h => absurd (pk_sneg (by decide) (by omega)) h)
      exact bad M2 _ _ _ (noU (by rw [hc1]; omega)) p2
  · show am_W 86 9 _ (.int _ :: _) _ _
    refine am_bipush (nI 48) d86_9 (by decide) ?_
    refine am_isub d86_11 ?_
    refine am_istore_n d86_12 (Nat.le_of_ble_eq_true rfl) rfl ?_
    refine am_iload_n d86_13 rfl ?_
    refine am_iflt 22 d86_14 (by decide) (fun _ => ?_) (fun h => absurd (by decide) h)
    exact bad M1 _ _ _ (noU (by rw [ps_out (by omega)]; omega)) p1
theorem c_takeStart {M0 M : am_M} {q : Nat → Nat} {len : Nat} {s : Int32} {Q : am_T} (ht : tx M0 q len) (hp : pm M0 M 0 s)
    (hQ1 : ∀ M' t, ps_start q len = some t → pm M0 M' 1 t → Q (.inl (some (.int 1))) M') (hQ0 : ∀ M' j, ps_start q len = none → pm M0 M' j s → Q (.inl (some (.int 0))) M') : am_W kP_takeStart 0 (am_in kP_takeStart [.ref 25]) [] M Q := by
  have htx := ht
  obtain ⟨t1, t2, t3⟩ := ht
  have main : ∀ (M1 : am_M) (c j : Nat), c < 127 → ps_ch q len 0 = c → pm M0 M1 j s → (c ≠ 0 → j = 1) → am_W kP_takeStart 5 [.ref 25, .int (nI c)] [] M1 Q := by
    intro M1 c j hc hch p1 hj
    refine am_iload_n d85_5 rfl ?_
    refine am_bipush (nI 42) d85_6 (by decide) ?_
    refine am_icne 20 d85_8 (by decide) (fun h8 => ?_) (fun h => ?_)
    · have n42 : ¬ c = 42 := fun z => h8 (by rw [z])
      refine am_iload_n d85_20 rfl ?_
      refine am_bipush (nI 97) d85_21 (by decide) ?_
      refine am_isub d85_23 ?_
      refine am_cs1 30 d85_24 ml85_41 rfl (by decide) rfl rfl (Nat.le_of_ble_eq_true rfl) ?_
      refine c_isObject (fun hx => ?_) (fun hx => ?_)
      · show am_W 85 27 _ (.int 1 :: _) _ _
        have hr : 97 ≤ c ∧ c < 109 := by
          obtain ⟨j, h1, h2⟩ := hx
          by_cases h97 : 97 ≤ c
          · rw [pk_sub h97] at h2
            have := (nI_eq (by omega) (by omega)).mp h2
            omega
          · exact absurd (pk_sneg (a := c) (b := 97) (by decide) (by omega)) (by rw [h2]; exact nI_pos (by omega))
        have hj1 : j = 1 := hj (by omega)
        subst hj1
        refine am_ifne 32 d85_27 (by decide) (fun _ => ?_) (fun h => absurd h (by decide))
        refine am_aload_n d85_32 rfl ?_
        refine am_iconst 1 d85_33 (by decide) ?_
        refine am_iload_n d85_34 rfl ?_
        refine am_bipush (nI 97) d85_35 (by decide) ?_
        refine am_isub d85_37 ?_
        refine am_ishl d85_38 ?_
        refine am_put d85_39 fl85_22 sh_25 rfl rfl rfl rfl ?_
        refine am_iconst 1 d85_42 (by decide) ?_
        refine am_iret d85_43 rfl (by decide) (hQ1 _ _ ?_ (p1.st _))
        unfold ps_start
        rw [hch, if_neg n42, if_pos hr, pk_sub hr.1]
      · show am_W 85 27 _ (.int 0 :: _) _ _
        have hr : ¬ (97 ≤ c ∧ c < 109) := by
          intro z
          exact hx ⟨c - 97, by omega, by rw [pk_sub z.1]⟩
        refine am_ifne 32 d85_27 (by decide) (fun h => absurd rfl h) (fun _ => ?_)
        refine am_iconst 0 d85_30 (by decide) ?_
        refine am_iret d85_31 rfl (by decide) (hQ0 _ _ ?_ p1)
        unfold ps_start
        rw [hch, if_neg n42, if_neg hr]
    · have h42 : c = 42 := (nI_eq (by omega) (by decide)).mp h
      have hj1 : j = 1 := hj (by omega)
      subst hj1
      refine am_aload_n d85_11 rfl ?_
      refine am_sipush 4095 d85_12 (by decide) ?_
      refine am_put d85_15 fl85_22 sh_25 rfl rfl rfl rfl ?_
      refine am_iconst 1 d85_18 (by decide) ?_
      refine am_iret d85_19 rfl (by decide) (hQ1 _ _ ?_ (p1.st _))
      unfold ps_start
      rw [hch, if_pos h42]
  show am_W kP_takeStart 0 _ [] M Q
  refine am_aload_n d85_0 rfl ?_
  refine am_cv0 91 d85_1 ml85_37 rfl (by decide) sh_25 rfl (Nat.le_of_ble_eq_true rfl) ?_
  refine c_next htx hp (by decide) (fun g1 M1 p1 => ?_) (fun g0 => ?_)
  · show am_W 85 4 _ (.int _ :: _) _ _
    refine am_istore_n d85_4 (Nat.le_of_ble_eq_true rfl) rfl ?_
    exact main M1 (q 0) 1 (t3 0 g1).2 (ps_in g1) p1 (fun _ => rfl)
  · show am_W 85 4 _ (.int _ :: _) _ _
    refine am_istore_n d85_4 (Nat.le_of_ble_eq_true rfl) rfl ?_
    exact main M 0 0 (by decide) (ps_out (by omega)) hp (fun z => absurd rfl z)
theorem c_follow {v : Nat} {M : am_M} {q : Nat → Nat} {len : Nat} {Q : am_T} (hv : bv v) (ht : tx M q len) (hQ : ∀ M', fr [25] M M' → M'.1 25 1 = M.1 25 1 → Q (.inl (some (.int (ps_find (M.1 (v + 1)) (M.1 (v + 2)) q len)))) M') : am_W kP_follow 0 (am_in kP_follow [.ref 25, .ref v]) [] M Q := by
  have htx := ht
  obtain ⟨t1, t2, t3⟩ := ht
  have loop : ∀ d, d ≤ 32 → ∀ (M1 : am_M) (s : Int32) (i : Nat), pm M M1 i s → i < 2 ^ 20 → (∀ M', fr [25] M M' → M'.1 25 1 = M.1 25 1 → Q (.inl (some (.int (ps_run (ps_step (M.1 (v + 1)) (M.1 (v + 2)) q len) len (32 - d) s i)))) M') → am_W kP_follow 16 [.ref 25, .ref v, .int (nI d)] [] M1 Q := by
    refine am_loop 32 (fun d hd ih => ?_)
    intro M1 s i p1 hi hq
    have el : M1.1 25 1 = nI len := p1.2.1.trans t1
    have ea : M1.1 25 2 = nI i := p1.2.2.1
    have fin : ps_run (ps_step (M.1 (v + 1)) (M.1 (v + 2)) q len) len (32 - d) s i = s → am_W kP_follow 49 [.ref 25, .ref v, .int (nI d)] [] M1 Q := by
      intro he
      rw [he] at hq
      refine am_aload_n d84_49 rfl ?_
      refine am_geti d84_50 fl84_22 sh_25 rfl ?_
      refine am_iret d84_53 rfl rfl ?_
      rw [p1.2.2.2]
      exact hq M1 p1.1 p1.2.1
    refine am_iload_n d84_16 rfl ?_
    refine am_bipush (nI 32) d84_17 (by decide) ?_
    refine am_icgeN 49 d 32 d84_19 (by decide) rfl rfl (by omega) (by decide) (fun h19 => ?_) (fun h19 => ?_)
    · exact fin (by rw [show 32 - d = 0 by omega]; rfl)
    · have hs : 32 - d = (32 - (d + 1)) + 1 := by omega
      refine am_aload_n d84_22 rfl ?_
      refine am_geti d84_23 fl84_19 sh_25 rfl ?_
      rw [ea]
      refine am_aload_n d84_26 rfl ?_
      refine am_geti d84_27 fl84_15 sh_25 rfl ?_
      rw [el]
      refine am_icgeN 49 i len d84_30 (by decide) rfl rfl (by omega) (by omega) (fun h30 => ?_) (fun h30 => ?_)
      · exact fin (by rw [hs]; simp only [ps_run]; rw [if_neg (by omega)])
      · refine am_aload_n d84_33 rfl ?_
        refine am_aload_n d84_34 rfl ?_
        refine am_cv1 86 d84_35 ml84_33 rfl (by decide) sh_25 rfl rfl (Nat.le_of_ble_eq_true rfl) ?_
        refine c_takeStep hv htx p1 h30 (fun M2 r hr p2 => ?_) (fun M2 j t hr p2 => ?_)
        · show am_W 84 38 _ (.int 1 :: _) _ _
          refine am_ifne 43 d84_38 (by decide) (fun _ => ?_) (fun h => absurd h (by decide))
          refine am_incN d d84_43 rfl rfl ?_
          refine am_goto 16 d84_46 (by decide) ?_
          refine ih h19 M2 r.1 r.2 p2 (ps_step_le h30 t2 hr) ?_
          rw [hs] at hq
          simp only [ps_run] at hq
          rw [if_pos h30, hr] at hq
          exact hq
        · show am_W 84 38 _ (.int 0 :: _) _ _
          refine am_ifne 43 d84_38 (by decide) (fun h => absurd rfl h) (fun _ => ?_)
          refine am_iconst (-1) d84_41 (by decide) ?_
          refine am_iret d84_42 rfl rfl ?_
          rw [hs] at hq
          simp only [ps_run] at hq
          rw [if_pos h30, hr] at hq
          exact hq M2 p2.1 p2.2.1
  show am_W kP_follow 0 _ [] M Q
  refine am_aload_n d84_0 rfl ?_
  refine am_iconst 0 d84_1 (by decide) ?_
  refine am_put d84_2 fl84_19 sh_25 rfl rfl rfl rfl ?_
  have p0 : pm M (am_set M 25 2 0) 0 (M.1 25 3) := ⟨fr.rf.set (by decide), rfl, rfl, rfl⟩
  refine am_aload_n d84_5 rfl ?_
  refine am_cv0 85 d84_6 ml84_29 rfl (by decide) sh_25 rfl (Nat.le_of_ble_eq_true rfl) ?_
  refine c_takeStart htx p0 (fun M1 t hr p1 => ?_) (fun M1 j hr p1 => ?_)
  · show am_W 84 9 _ (.int 1 :: _) _ _
    refine am_ifne 14 d84_9 (by decide) (fun _ => ?_) (fun h => absurd h (by decide))
    refine am_iconst (nI 0) d84_14 (by decide) ?_
    refine am_istore_n d84_15 (Nat.le_of_ble_eq_true rfl) rfl ?_
    refine loop 0 (by decide) M1 t 1 p1 (by decide) ?_
    unfold ps_find at hQ
    rw [hr] at hQ
    exact hQ
  · show am_W 84 9 _ (.int 0 :: _) _ _
    refine am_ifne 14 d84_9 (by decide) (fun h => absurd rfl h) (fun _ => ?_)
    refine am_iconst (-1) d84_12 (by decide) ?_
    refine am_iret d84_13 rfl rfl ?_
    unfold ps_find at hQ
    rw [hr] at hQ
    exact hQ M1 p1.1 p1.2.1
end
section
/-! Path.byteOf, canHold, hasRoomFor, add, clear; append, markGiven, isCarried, countCarried, countConflicts, carryTo -/
/-- byte k of a word, from the left -/
def by_s (k : Nat) : Int32 := if k < 4 then nI (24 - 8 * k) else -8
def by_u (w : Int32) (k : Nat) : Int32 := (w.toUInt32 >>> ((by_s k).toUInt32 &&& Int32.toUInt32 31)).toInt32 &&& 255
theorem by_n (w : Int32) (k : Nat) : ∃ n, n < 256 ∧ by_u w k = nI n := pk_andE _ 8 (by decide)
def ty_bad (w : Int32) (k : Nat) : Bool := !decide (by_u w k = 0) && (decide (by_u w k < 33) || decide (126 < by_u w k))
def ty_on (w : Int32) (k : Nat) : Bool := !decide (by_u w k = 0)
/-- the text behind k bytes of the word -/
def ty_t (w : Int32) (t : Nat → Int32) (len : Nat) : Nat → (Nat → Int32)
  | 0 => t
  | k + 1 => if ty_on w k = true then upd (ty_t w t len k) (len + sp_cnt (ty_on w) k) (by_u w k) else ty_t w t len k
theorem ty_t_t {w : Int32} {t : Nat → Int32} {len k : Nat} (h : ty_on w k = true) : ty_t w t len (k + 1) = upd (ty_t w t len k) (len + sp_cnt (ty_on w) k) (by_u w k) := by simp [ty_t, h]
theorem ty_t_f {w : Int32} {t : Nat → Int32} {len k : Nat} (h : ¬ ty_on w k = true) : ty_t w t len (k + 1) = ty_t w t len k := by simp [ty_t, h]
theorem by_dec {i : Nat} (h : i < 4) : by_s i + Int32.ofInt (-8) = by_s (i + 1) := by
  have : i = 0 ∨ i = 1 ∨ i = 2 ∨ i = 3 := by omega
  rcases this with rfl | rfl | rfl | rfl <;> decide
theorem by_lt {i : Nat} (h : i ≤ 4) (hs : by_s i < 0) : i = 4 := by
  have : i = 0 ∨ i = 1 ∨ i = 2 ∨ i = 3 ∨ i = 4 := by omega
  rcases this with rfl | rfl | rfl | rfl | rfl <;> first | rfl | exact absurd hs (by decide)
theorem by_ge {i : Nat} (h : i ≤ 4) (hs : ¬ by_s i < 0) : i < 4 := by
  have : i = 0 ∨ i = 1 ∨ i = 2 ∨ i = 3 ∨ i = 4 := by omega
  rcases this with rfl | rfl | rfl | rfl | rfl <;> first | decide | exact absurd (by decide) hs
theorem by_2c (w : Int32) (k : Nat) : ((by_u w k).toUInt32 % 65536).toInt32 = by_u w k := by
  obtain ⟨n, hn, e⟩ := by_n w k
  rw [e, pk_char, pk_tn (by omega), Nat.mod_eq_of_lt (by omega)]
theorem by_c (w : Int32) (k : Nat) : vp_nar .char (by_u w k) = by_u w k := by
  rw [← by_2c w k]; exact pk_vc _
theorem c_byteOf {w : Int32} {k : Nat} {M : am_M} {Q : am_T} (hQ : Q (.inl (some (.int (by_u w k)))) M) : am_W kP_byteOf 0 (am_in kP_byteOf [.int w, .int (by_s k)]) [] M Q := by
  show am_W kP_byteOf 0 _ [] M Q
  refine am_iload_n d94_0 rfl ?_
  refine am_iload_n d94_1 rfl ?_
  refine am_iushr d94_2 ?_
  refine am_sipush 255 d94_3 (by decide) ?_
  refine am_iand d94_6 ?_
  refine am_iret d94_7 rfl rfl ?_
  exact hQ
theorem c_canHold {w : Int32} {M : am_M} {Q : am_T} (h1 : (∀ j, j < 4 → ¬ ty_bad w j = true) → Q (.inl (some (.int 1))) M) (h0 : (∃ j, j < 4 ∧ ty_bad w j = true) → Q (.inl (some (.int 0))) M) : am_W kP_canHold 0 (am_in kP_canHold [.ref 25, .int w]) [] M Q := by
  have loop : ∀ i, i ≤ 4 → ∀ x : Value, (∀ j, j < i → ¬ ty_bad w j = true) → am_W kP_canHold 3 [.ref 25, .int w, .int (by_s i), x] [] M Q := by
    refine am_loop 4 (fun i hi ih => ?_)
    intro x hp
    refine am_iload_n d80_3 rfl ?_
    refine am_iflt 37 d80_4 (by decide) (fun h => ?_) (fun h => ?_)
    · obtain rfl := by_lt hi h
      refine am_iconst 1 d80_37 (by decide) ?_
      refine am_iret d80_38 rfl (by decide) ?_
      first | exact h1 (fun j hj => by simpa using hp j hj) | (have h27 := Int32.not_le.mp h26; exact h0 ⟨i, h4, by simp [ty_bad, *]⟩) | exact h0 ⟨i, h4, by simp [ty_bad, *]⟩
    · have h4 := by_ge hi h
      refine am_iload_n d80_7 rfl ?_
      refine am_iload_n d80_8 rfl ?_
      refine am_cs2 94 d80_9 ml80_25 rfl (by decide) rfl rfl rfl (Nat.le_of_ble_eq_true rfl) ?_
      refine c_byteOf (k := i) ?_
      show am_W 80 12 _ (.int _ :: _) _ _
      refine am_istore_n d80_12 (Nat.le_of_ble_eq_true rfl) rfl ?_
      refine am_iload_n d80_13 rfl ?_
      refine am_ifeq 31 d80_14 (by decide) (fun h14 => ?_) (fun h14 => ?_)
      · refine am_iinc (by_s (i + 1)) d80_31 rfl (by_dec h4) rfl ?_
        refine am_goto 3 d80_34 (by decide) ?_
        exact ih h4 _ (fun j hj => by rcases Nat.lt_succ_iff_lt_or_eq.mp hj with h | rfl; exact hp j h; simp [ty_bad, *])
      · refine am_iload_n d80_17 rfl ?_
        refine am_bipush 33 d80_18 (by decide) ?_
        refine am_iclt 29 d80_20 (by decide) (fun h20 => ?_) (fun h20 => ?_)
        · refine am_iconst 0 d80_29 (by decide) ?_
          refine am_iret d80_30 rfl (by decide) ?_
          first | exact h1 (fun j hj => by simpa using hp j hj) | (have h27 := Int32.not_le.mp h26; exact h0 ⟨i, h4, by simp [ty_bad, *]⟩) | exact h0 ⟨i, h4, by simp [ty_bad, *]⟩
        · refine am_iload_n d80_23 rfl ?_
          refine am_bipush 126 d80_24 (by decide) ?_
          refine am_icle 31 d80_26 (by decide) (fun h26 => ?_) (fun h26 => ?_)
          · refine am_iinc (by_s (i + 1)) d80_31 rfl (by_dec h4) rfl ?_
            refine am_goto 3 d80_34 (by decide) ?_
            exact ih h4 _ (fun j hj => by rcases Nat.lt_succ_iff_lt_or_eq.mp hj with h | rfl; exact hp j h; simp [ty_bad, *])
          · refine am_iconst 0 d80_29 (by decide) ?_
            refine am_iret d80_30 rfl (by decide) ?_
            first | exact h1 (fun j hj => by simpa using hp j hj) | (have h27 := Int32.not_le.mp h26; exact h0 ⟨i, h4, by simp [ty_bad, *]⟩) | exact h0 ⟨i, h4, by simp [ty_bad, *]⟩
  show am_W kP_canHold 0 _ [] M Q
  refine am_bipush (by_s 0) d80_0 (by decide) ?_
  refine am_istore_n d80_2 (Nat.le_of_ble_eq_true rfl) rfl ?_
  exact loop 0 (by decide) _ (fun j hj => absurd hj (Nat.not_lt_zero _))
theorem c_hasRoomFor {w : Int32} {len : Nat} {M : am_M} {Q : am_T} (hl : M.1 25 1 = nI len) (hl2 : len ≤ 32) (h1 : len + sp_cnt (ty_on w) 4 ≤ 32 → Q (.inl (some (.int 1))) M) (h0 : ¬ len + sp_cnt (ty_on w) 4 ≤ 32 → Q (.inl (some (.int 0))) M) : am_W kP_hasRoomFor 0 (am_in kP_hasRoomFor [.ref 25, .int w]) [] M Q := by
  have loop : ∀ i, i ≤ 4 → am_W kP_hasRoomFor 8 [.ref 25, .int w, .int (nI (len + sp_cnt (ty_on w) i)), .int (by_s i)] [] M Q := by
    refine am_loop 4 (fun i hi ih => ?_)
    refine am_iload_n d81_8 rfl ?_
    refine am_iflt 29 d81_9 (by decide) (fun h => ?_) (fun h => ?_)
    · obtain rfl := by_lt hi h
      refine am_iload_n d81_29 rfl ?_
      refine am_bipush (nI 32) d81_30 (by decide) ?_
      have hb := sp_cnt_le (ty_on w) 4
      refine am_icgt 39 d81_32 (by decide) (fun h => ?_) (fun h => ?_)
      · have h32 : 32 < len + sp_cnt (ty_on w) 4 := (nI_ltI (by decide) (by omega)).mp h
        refine am_iconst 0 d81_39 (by decide) ?_
        refine am_iret d81_40 rfl (by decide) ?_
        first | exact h1 (by have := h32; omega) | exact h0 (by have := h32; omega)
      · have h32 : ¬ 32 < len + sp_cnt (ty_on w) 4 := fun z => h (nI_lt z (by omega))
        refine am_iconst 1 d81_35 (by decide) ?_
        refine am_goto 40 d81_36 (by decide) ?_
        refine am_iret d81_40 rfl (by decide) ?_
        first | exact h1 (by have := h32; omega) | exact h0 (by have := h32; omega)
    · have h4 := by_ge hi h
      refine am_iload_n d81_12 rfl ?_
      refine am_iload_n d81_13 rfl ?_
      refine am_cs2 94 d81_14 ml81_25 rfl (by decide) rfl rfl rfl (Nat.le_of_ble_eq_true rfl) ?_
      refine c_byteOf (k := i) ?_
      show am_W 81 17 _ (.int _ :: _) _ _
      refine am_ifeq 23 d81_17 (by decide) (fun h => ?_) (fun h => ?_)
      · rw [sp_cnt_f (f := ty_on w) (n := i) (by simp [ty_on, h])]
        refine am_iinc (by_s (i + 1)) d81_23 rfl (by_dec h4) rfl ?_
        refine am_goto 8 d81_26 (by decide) ?_
        exact ih h4
      · have h5 : ty_on w i = true := by simp [ty_on, h]
        refine am_incE (len + sp_cnt (ty_on w) i) (len + sp_cnt (ty_on w) (i + 1)) (by rw [← sp_cnt_t h5]; omega) d81_20 rfl rfl ?_
        refine am_iinc (by_s (i + 1)) d81_23 rfl (by_dec h4) rfl ?_
        refine am_goto 8 d81_26 (by decide) ?_
        exact ih h4
  show am_W kP_hasRoomFor 0 _ [] M Q
  refine am_aload_n d81_0 rfl ?_
  refine am_geti d81_1 fl81_15 sh_25 rfl ?_
  rw [hl]
  refine am_istore_n d81_4 (Nat.le_of_ble_eq_true rfl) rfl ?_
  refine am_bipush (by_s 0) d81_5 (by decide) ?_
  refine am_istore_n d81_7 (Nat.le_of_ble_eq_true rfl) rfl ?_
  exact loop 0 (by decide)
theorem ty_mono (w : Int32) : ∀ a b, a ≤ b → sp_cnt (ty_on w) a ≤ sp_cnt (ty_on w) b := by
  intro a b h
  induction b with
  | zero => obtain rfl : a = 0 := by omega
            exact Nat.le_refl _
  | succ b ih =>
    by_cases hb : a = b + 1
    · subst hb; exact Nat.le_refl _
    · refine Nat.le_trans (ih (by omega)) ?_
      simp only [sp_cnt]
      split <;> omega
theorem c_Padd {w : Int32} {len : Nat} {M : am_M} {Q : am_T} (hl : M.1 25 1 = nI len) (hl2 : len + sp_cnt (ty_on w) 4 ≤ 32) (hQ : ∀ M', fr [25, 26] M M' → M'.1 25 1 = nI (len + sp_cnt (ty_on w) 4) → M'.1 26 = ty_t w (M.1 26) len 4 → Q (.inl (some (.int (nI (len + sp_cnt (ty_on w) 4))))) M') : am_W kP_add 0 (am_in kP_add [.ref 25, .int w]) [] M Q := by
  have loop : ∀ i, i ≤ 4 → ∀ (x : Value) (M1 : am_M), (fr [25, 26] M M1 ∧ M1.1 25 1 = nI (len + sp_cnt (ty_on w) i) ∧ M1.1 26 = ty_t w (M.1 26) len i) → am_W kP_add 3 [.ref 25, .int w, .int (by_s i), x] [] M1 Q := by
    refine am_loop 4 (fun i hi ih => ?_)
    intro x M1 I
    have hl1 := I.2.1
    refine am_iload_n d82_3 rfl ?_
    refine am_iflt 44 d82_4 (by decide) (fun h => ?_) (fun h => ?_)
    · obtain rfl := by_lt hi h
      refine am_aload_n d82_44 rfl ?_
      refine am_geti d82_45 fl82_15 sh_25 rfl ?_
      rw [hl1]
      refine am_iret d82_48 rfl rfl ?_
      exact hQ M1 I.1 I.2.1 I.2.2
    · have h4 := by_ge hi h
      refine am_iload_n d82_7 rfl ?_
      refine am_iload_n d82_8 rfl ?_
      refine am_cs2 94 d82_9 ml82_25 rfl (by decide) rfl rfl rfl (Nat.le_of_ble_eq_true rfl) ?_
      refine c_byteOf (k := i) ?_
      show am_W 82 12 _ (.int _ :: _) _ _
      refine am_istore_n d82_12 (Nat.le_of_ble_eq_true rfl) rfl ?_
      refine am_iload_n d82_13 rfl ?_
      refine am_ifeq 38 d82_14 (by decide) (fun h => ?_) (fun h => ?_)
      · have hno : ¬ ty_on w i = true := by simp [ty_on, h]
        refine am_iinc (by_s (i + 1)) d82_38 rfl (by_dec h4) rfl ?_
        refine am_goto 3 d82_41 (by decide) ?_
        exact ih h4 _ M1 ⟨I.1, by rw [← sp_cnt_f hno]; exact I.2.1, by rw [ty_t_f hno]; exact I.2.2⟩
      · have hon : ty_on w i = true := by simp [ty_on, h]
        have hcl := sp_cnt_t hon
        have hcm := ty_mono w (i + 1) 4 h4
        refine am_aload_n d82_17 rfl ?_
        refine am_getr d82_18 fl82_9 sh_25 rfl ?_
        refine am_aload_n d82_21 rfl ?_
        refine am_geti d82_22 fl82_15 sh_25 rfl ?_
        rw [hl1]
        refine am_iload_n d82_25 rfl ?_
        refine am_i2c d82_26 ?_
        rw [by_2c w i]
        refine am_castN (len + sp_cnt (ty_on w) i) (by_u w i) d82_27 sh_26 (by omega) (by decide) (by_c w i) ?_
        refine am_aload_n d82_28 rfl ?_
        refine am_dup d82_29 rfl ?_
        refine am_geti d82_30 fl82_15 sh_25 rfl ?_
        rw [am_set_ne (by decide), hl1]
        refine am_iconst 1 d82_33 (by decide) ?_
        refine am_iadd d82_34 ?_
        rw [nI_1, show len + sp_cnt (ty_on w) i + 1 = len + sp_cnt (ty_on w) (i + 1) by omega]
        refine am_put d82_35 fl82_15 sh_25 rfl rfl rfl rfl ?_
        refine am_iinc (by_s (i + 1)) d82_38 rfl (by_dec h4) rfl ?_
        refine am_goto 3 d82_41 (by decide) ?_
        exact ih h4 _ _ ⟨(I.1.set (by simp)).set (by simp), by rw [am_set_self]; simp [upd], by rw [am_set_ne (by decide), ty_t_t hon, ← I.2.2, am_set_self]⟩
  show am_W kP_add 0 _ [] M Q
  refine am_bipush (by_s 0) d82_0 (by decide) ?_
  refine am_istore_n d82_2 (Nat.le_of_ble_eq_true rfl) rfl ?_
  exact loop 0 (by decide) _ M ⟨fr.rf, hl, rfl⟩
theorem c_Pclear {M : am_M} {Q : am_T} (hQ : Q (.inl none) (am_set M 25 1 0)) : am_W kP_clear 0 (am_in kP_clear [.ref 25]) [] M Q := by
  show am_W kP_clear 0 _ [] M Q
  refine am_aload_n d83_0 rfl ?_
  refine am_iconst 0 d83_1 (by decide) ?_
  refine am_put d83_2 fl83_15 sh_25 rfl rfl rfl rfl ?_
  refine am_vret d83_5 rfl ?_
  exact hQ
end
section
/-! append, markGiven, isCarried, countCarried, countConflicts, carryTo -/
theorem c_append {ck nw : Nat} {b c kd vl : Int32} {M : am_M} {Q : am_T} (hc : M.1 0 6 = nI ck) (hn : M.1 6 6 = nI nw) (h120 : nw < 120) (hQ : Q (.inl none) (sp_add (am_set M 0 6 (nI (ck + 1))) nw b (nI (ck + 1)) c kd vl)) : am_W kX_append 0 (am_in kX_append [.ref 0, .int b, .int c, .int kd, .int vl]) [] M Q := by
  show am_W kX_append 0 _ [] M Q
  refine am_aload_n d24_0 rfl ?_
  refine am_dup d24_1 rfl ?_
  refine am_geti d24_2 fl24_43 sh_0 rfl ?_
  rw [hc]
  refine am_iconst 1 d24_5 (by decide) ?_
  refine am_iadd d24_6 ?_
  rw [nI_1]
  refine am_put d24_7 fl24_43 sh_0 rfl rfl rfl rfl ?_
  refine am_aload_n d24_10 rfl ?_
  refine am_getr d24_11 fl24_19 sh_0 rfl ?_
  refine am_iload_n d24_14 rfl ?_
  refine am_aload_n d24_15 rfl ?_
  refine am_geti d24_16 fl24_43 sh_0 rfl ?_
  rw [am_set_self, pk_us]
  refine am_iload_n d24_19 rfl ?_
  refine am_iload_n d24_20 rfl ?_
  refine am_iload d24_21 rfl ?_
  refine am_cv5 105 d24_23 ml24_237 rfl (by decide) sh_6 rfl rfl rfl rfl rfl rfl (Nat.le_of_ble_eq_true rfl) ?_
  refine c_Wadd (nw := nw) (by rw [am_set_ne (by decide)]; exact hn) h120 ?_
  show am_W 24 26 _ _ _ _
  refine am_vret d24_26 rfl ?_
  exact hQ
def bp_first (M : am_M) (b : Nat) : Int32 := if M.1 3 b < M.1 0 7 then M.1 0 7 else M.1 3 b
/-- row j is marked for branch b -/
def mk_b (M : am_M) (pn : Nat → Nat) (nw b j : Nat) : Bool := !decide (M.1 4 b = 0) && (decide (M.1 8 j = sp_get (M.1 8) (-1) (sp_row (M.1 7) (M.1 8) (M.1 9) pn (M.1 3) nw b (bp_first M b) (M.1 9 j).toNatClampNeg)) || (decide (M.1 7 j = nI b) && decide (bp_first M b < M.1 8 j)))
theorem c_markGiven {b nb nw : Nat} {pn : Nat → Nat} {M : am_M} {Q : am_T} (hB : bp_P (M.1 2) (M.1 3) pn nb) (hR : bp_R (M.1 7) (M.1 9) nb nw) (hn : M.1 6 6 = nI nw) (hb : b < nb) (hf : 0 ≤ bp_first M b) (hQ : ∀ M', fr [5, 12, 14, 15, 16] M M' → (∀ j, j < nw → M'.1 12 j = if mk_b M pn nw b j = true then 1 else M.1 12 j) → Q (.inl none) M') : am_W kX_markGiven 0 (am_in kX_markGiven [.ref 0, .int (nI b)]) [] M Q := by
  have hB6 := hB.1
  have fin : ∀ M1 : am_M, fr [5, 13 + 1, 13 + 2, 13 + 3] M M1 → vw M1 13 (M.1 10) (M.1 11) (M.1 8) (sp_row (M.1 7) (M.1 8) (M.1 9) pn (M.1 3) nw b (bp_first M b)) → ∀ M2 : am_M, fr [12] M1 M2 → (∀ j, j < nw → M2.1 12 j = if (fun j => decide (M1.1 8 j = M1.1 (13 + 3) (M1.1 9 j).toNatClampNeg)) j = true then 1 else M1.1 12 j) → ∀ M3 : am_M, fr [12] M2 M3 → (∀ j, j < nw → M3.1 12 j = if (fun j => decide (M2.1 7 j = nI b) && decide (bp_first M b < M2.1 8 j)) j = true then 1 else M2.1 12 j) → ¬ M.1 4 b = 0 → Q (.inl none) M3 := by
    intro M1 f1 v1 M2 f2 m2 M3 f3 m3 ho
    refine hQ M3 (((f1.wk (by simp)).tr (f2.wk (by simp))).tr (f3.wk (by simp))) (fun j hj => ?_)
    obtain ⟨c, hc, ec⟩ := (hR.2 j hj).2
    have e1 := (v1 c hc).2.2
    have q3 := m3 j hj
    have hcl : (M.1 9 j).toNatClampNeg = c := by rw [ec, nI_clamp (by omega)]
    simp only [m2 j hj, f2.eq 7 (by decide), f2.eq 8 (by decide), f1.eq 7 (by decide), f1.eq 8 (by decide), f1.eq 9 (by decide), f1.eq 12 (by decide), hcl] at q3
    rw [e1] at q3
    rw [q3]
    simp only [mk_b, hcl, ho, decide_false, Bool.not_false, Bool.true_and, Bool.or_eq_true]
    by_cases p1 : (decide (M.1 7 j = nI b) && decide (bp_first M b < M.1 8 j)) = true
    · rw [if_pos p1, if_pos (Or.inr p1)]
    · rw [if_neg p1]
      by_cases p2 : decide (M.1 8 j = sp_get (M.1 8) (-1) (sp_row (M.1 7) (M.1 8) (M.1 9) pn (M.1 3) nw b (bp_first M b) c)) = true
      · rw [if_pos p2, if_pos (Or.inl p2)]
      · rw [if_neg p2, if_neg (by rintro (h | h); exact p2 h; exact p1 h)]
  show am_W kX_markGiven 0 _ [] M Q
  refine am_aload_n d25_0 rfl ?_
  refine am_getr d25_1 fl25_12 sh_0 rfl ?_
  refine am_getr d25_4 fl25_81 sh_1 rfl ?_
  refine am_iload_n d25_7 rfl ?_
  refine am_zaldN b d25_8 sh_4 (by omega) (by decide) ?_
  refine am_ifne 13 d25_9 (by decide) (fun h9 => ?_) (fun h9 => ?_)
  · refine am_aload_n d25_13 rfl ?_
    refine am_iload_n d25_14 rfl ?_
    refine am_cv1 22 d25_15 ml25_210 rfl (by decide) sh_0 rfl rfl (Nat.le_of_ble_eq_true rfl) ?_
    refine c_firstReadable (by omega) ?_
    show am_W 25 18 _ (.int _ :: _) _ _
    refine am_istore_n d25_18 (Nat.le_of_ble_eq_true rfl) rfl ?_
    refine am_aload_n d25_19 rfl ?_
    refine am_aload_n d25_20 rfl ?_
    refine am_getr d25_21 fl25_26 sh_0 rfl ?_
    refine am_iload_n d25_24 rfl ?_
    refine am_iload_n d25_25 rfl ?_
    refine am_cv3 23 d25_26 ml25_113 rfl (by decide) sh_0 rfl rfl rfl rfl (Nat.le_of_ble_eq_true rfl) ?_
    refine c_look (v := 13) (Or.inl rfl) hB hR hn hb hf (fun M1 f1 v1 => ?_)
    show am_W 25 29 _ _ _ _
    refine am_aload_n d25_29 rfl ?_
    refine am_getr d25_30 fl25_19 sh_0 rfl ?_
    refine am_aload_n d25_33 rfl ?_
    refine am_getr d25_34 fl25_26 sh_0 rfl ?_
    refine am_cv1 109 d25_37 ml25_240 rfl (by decide) sh_6 rfl rfl (Nat.le_of_ble_eq_true rfl) ?_
    refine c_markShown (v := 13) (nb := nb) (nw := nw) (Or.inl rfl) (by rw [f1.eq 7 (by decide), f1.eq 9 (by decide)]; exact hR) (by rw [f1.eq 6 (by decide)]; exact hn) (fun M2 f2 m2 => ?_)
    show am_W 25 40 _ _ _ _
    refine am_aload_n d25_40 rfl ?_
    refine am_getr d25_41 fl25_19 sh_0 rfl ?_
    refine am_iload_n d25_44 rfl ?_
    refine am_iload_n d25_45 rfl ?_
    refine am_cv2 110 d25_46 ml25_244 rfl (by decide) sh_6 rfl rfl rfl (Nat.le_of_ble_eq_true rfl) ?_
    refine c_markOwnAfter (nw := nw) hR.1 (by rw [f2.eq 6 (by decide), f1.eq 6 (by decide)]; exact hn) (fun M3 f3 m3 => ?_)
    show am_W 25 49 _ _ _ _
    refine am_vret d25_49 rfl ?_
    first | exact hQ M fr.rf (fun j hj => by simp [mk_b, *]) | exact fin M1 f1 v1 M2 f2 m2 M3 f3 m3 h9
  · refine am_vret d25_12 rfl ?_
    first | exact hQ M fr.rf (fun j hj => by simp [mk_b, *]) | exact fin M1 f1 v1 M2 f2 m2 M3 f3 m3 h9
/-- views v and w hold the same in cell c -/
def sm (M : am_M) (v w c : Nat) : Bool := decide (M.1 (v + 1) c = M.1 (w + 1) c) && decide (M.1 (v + 2) c = M.1 (w + 2) c)
def ca (M : am_M) (c : Nat) : Bool := !sm M 13 21 c && !sm M 13 17 c
theorem c_same {v w c : Nat} {M : am_M} {Q : am_T} (hv : bv v) (hw : bv w) (hc : c < 48) (h1 : sm M v w c = true → Q (.inl (some (.int 1))) M) (h0 : ¬ sm M v w c = true → Q (.inl (some (.int 0))) M) : am_W kV_holdsSame 0 (am_in kV_holdsSame [.ref v, .ref w, .int (nI c)]) [] M Q :=
  c_holdsSame hv hw hc (fun h => h1 (by simp [sm, h])) (fun h => h0 (fun z => h (by simpa [sm] using z)))
theorem c_isCarried {c : Nat} {M : am_M} {Q : am_T} (hc : c < 48) (h1 : ca M c = true → Q (.inl (some (.int 1))) M) (h0 : ¬ ca M c = true → Q (.inl (some (.int 0))) M) : am_W kX_isCarried 0 (am_in kX_isCarried [.ref 0, .int (nI c)]) [] M Q := by
  show am_W kX_isCarried 0 _ [] M Q
  refine am_aload_n d26_0 rfl ?_
  refine am_getr d26_1 fl26_26 sh_0 rfl ?_
  refine am_aload_n d26_4 rfl ?_
  refine am_getr d26_5 fl26_33 sh_0 rfl ?_
  refine am_iload_n d26_8 rfl ?_
  refine am_cv2 96 d26_9 ml26_136 rfl (by decide) sh_13 rfl rfl rfl (Nat.le_of_ble_eq_true rfl) ?_
  refine c_same (v := 13) (w := 21) (Or.inl rfl) (Or.inr (Or.inr rfl)) hc (fun g1 => ?_) (fun g1 => ?_)
  · show am_W 26 12 _ (.int 1 :: _) _ _
    refine am_ifne 34 d26_12 (by decide) (fun _ => ?_) (fun h => absurd h (by decide))
    refine am_iconst 0 d26_34 (by decide) ?_
    refine am_iret d26_35 rfl (by decide) ?_
    first | exact h1 (by simp [ca, *]) | exact h0 (by simp [ca, *])
  · show am_W 26 12 _ (.int 0 :: _) _ _
    refine am_ifne 34 d26_12 (by decide) (fun h => absurd h (by decide)) (fun _ => ?_)
    refine am_aload_n d26_15 rfl ?_
    refine am_getr d26_16 fl26_26 sh_0 rfl ?_
    refine am_aload_n d26_19 rfl ?_
    refine am_getr d26_20 fl26_30 sh_0 rfl ?_
    refine am_iload_n d26_23 rfl ?_
    refine am_cv2 96 d26_24 ml26_136 rfl (by decide) sh_13 rfl rfl rfl (Nat.le_of_ble_eq_true rfl) ?_
    refine c_same (v := 13) (w := 17) (Or.inl rfl) (Or.inr (Or.inl rfl)) hc (fun g2 => ?_) (fun g2 => ?_)
    · show am_W 26 27 _ (.int 1 :: _) _ _
      refine am_ifne 34 d26_27 (by decide) (fun _ => ?_) (fun h => absurd h (by decide))
      refine am_iconst 0 d26_34 (by decide) ?_
      refine am_iret d26_35 rfl (by decide) ?_
      first | exact h1 (by simp [ca, *]) | exact h0 (by simp [ca, *])
    · show am_W 26 27 _ (.int 0 :: _) _ _
      refine am_ifne 34 d26_27 (by decide) (fun h => absurd h (by decide)) (fun _ => ?_)
      refine am_iconst 1 d26_30 (by decide) ?_
      refine am_goto 35 d26_31 (by decide) ?_
      refine am_iret d26_35 rfl (by decide) ?_
      first | exact h1 (by simp [ca, *]) | exact h0 (by simp [ca, *])
theorem c_countCarried {M : am_M} {Q : am_T} (hQ : Q (.inl (some (.int (nI (sp_cnt (ca M) 48))))) M) : am_W kX_countCarried 0 (am_in kX_countCarried [.ref 0]) [] M Q := by
  have loop : ∀ i, i ≤ 48 → am_W kX_countCarried 4 [.ref 0, .int (nI (sp_cnt (ca M) i)), .int (nI i)] [] M Q := by
    refine am_loop 48 (fun i hi ih => ?_)
    refine am_iload_n d27_4 rfl ?_
    refine am_bipush (nI 48) d27_5 (by decide) ?_
    refine am_icgeN 27 i 48 d27_7 (by decide) rfl rfl (by omega) (by decide) (fun h7 => ?_) (fun h7 => ?_)
    · refine am_iload_n d27_27 rfl ?_
      refine am_iret d27_28 rfl rfl ?_
      obtain rfl : i = 48 := by omega
      exact hQ
    · refine am_aload_n d27_10 rfl ?_
      refine am_iload_n d27_11 rfl ?_
      refine am_cv1 26 d27_12 ml27_247 rfl (by decide) sh_0 rfl rfl (Nat.le_of_ble_eq_true rfl) ?_
      refine c_isCarried (c := i) (by omega) (fun hin => ?_) (fun hin => ?_)
      · show am_W 27 15 _ (.int 1 :: _) _ _
        refine am_ifeq 21 d27_15 (by decide) (fun h => absurd h (by decide)) (fun _ => ?_)
        refine am_incE (sp_cnt (ca M) i) (sp_cnt (ca M) (i + 1)) (sp_cnt_t (by simp [*])) d27_18 rfl rfl ?_
        refine am_incN i d27_21 rfl rfl ?_
        refine am_goto 4 d27_24 (by decide) ?_
        first | exact ih h7 | (have hz := ih h7; rw [← sp_cnt_f (by simp [*])] at hz; exact hz)
      · show am_W 27 15 _ (.int 0 :: _) _ _
        refine am_ifeq 21 d27_15 (by decide) (fun _ => ?_) (fun h => absurd h (by decide))
        refine am_incN i d27_21 rfl rfl ?_
        refine am_goto 4 d27_24 (by decide) ?_
        first | exact ih h7 | (have hz := ih h7; rw [← sp_cnt_f (by simp [*])] at hz; exact hz)
  show am_W kX_countCarried 0 _ [] M Q
  refine am_iconst (nI 0) d27_0 (by decide) ?_
  refine am_istore_n d27_1 (Nat.le_of_ble_eq_true rfl) rfl ?_
  refine am_iconst (nI 0) d27_2 (by decide) ?_
  refine am_istore_n d27_3 (Nat.le_of_ble_eq_true rfl) rfl ?_
  exact loop 0 (by decide)
theorem c_countConflicts {M : am_M} {Q : am_T} (hQ : Q (.inl (some (.int (nI (sp_cnt (fun c => ca M c && !sm M 17 21 c) 48))))) M) : am_W kX_countConflicts 0 (am_in kX_countConflicts [.ref 0]) [] M Q := by
  have loop : ∀ i, i ≤ 48 → am_W kX_countConflicts 4 [.ref 0, .int (nI (sp_cnt (fun c => ca M c && !sm M 17 21 c) i)), .int (nI i)] [] M Q := by
    refine am_loop 48 (fun i hi ih => ?_)
    refine am_iload_n d28_4 rfl ?_
    refine am_bipush (nI 48) d28_5 (by decide) ?_
    refine am_icgeN 42 i 48 d28_7 (by decide) rfl rfl (by omega) (by decide) (fun h7 => ?_) (fun h7 => ?_)
    · refine am_iload_n d28_42 rfl ?_
      refine am_iret d28_43 rfl rfl ?_
      obtain rfl : i = 48 := by omega
      exact hQ
    · refine am_aload_n d28_10 rfl ?_
      refine am_iload_n d28_11 rfl ?_
      refine am_cv1 26 d28_12 ml28_247 rfl (by decide) sh_0 rfl rfl (Nat.le_of_ble_eq_true rfl) ?_
      refine c_isCarried (c := i) (by omega) (fun hin => ?_) (fun hin => ?_)
      · show am_W 28 15 _ (.int 1 :: _) _ _
        refine am_ifeq 36 d28_15 (by decide) (fun h => absurd h (by decide)) (fun _ => ?_)
        refine am_aload_n d28_18 rfl ?_
        refine am_getr d28_19 fl28_30 sh_0 rfl ?_
        refine am_aload_n d28_22 rfl ?_
        refine am_getr d28_23 fl28_33 sh_0 rfl ?_
        refine am_iload_n d28_26 rfl ?_
        refine am_cv2 96 d28_27 ml28_136 rfl (by decide) sh_17 rfl rfl rfl (Nat.le_of_ble_eq_true rfl) ?_
        refine c_same (v := 17) (w := 21) (Or.inr (Or.inl rfl)) (Or.inr (Or.inr rfl)) (by omega) (fun g3 => ?_) (fun g3 => ?_)
        · show am_W 28 30 _ (.int 1 :: _) _ _
          refine am_ifne 36 d28_30 (by decide) (fun _ => ?_) (fun h => absurd h (by decide))
          refine am_incN i d28_36 rfl rfl ?_
          refine am_goto 4 d28_39 (by decide) ?_
          first | exact ih h7 | (have hz := ih h7; rw [← sp_cnt_f (by simp [*])] at hz; exact hz)
        · show am_W 28 30 _ (.int 0 :: _) _ _
          refine am_ifne 36 d28_30 (by decide) (fun h => absurd h (by decide)) (fun _ => ?_)
          refine am_incE (sp_cnt (fun c => ca M c && !sm M 17 21 c) i) (sp_cnt (fun c => ca M c && !sm M 17 21 c) (i + 1)) (sp_cnt_t (by simp [*])) d28_33 rfl rfl ?_
          refine am_incN i d28_36 rfl rfl ?_
          refine am_goto 4 d28_39 (by decide) ?_
          first | exact ih h7 | (have hz := ih h7; rw [← sp_cnt_f (by simp [*])] at hz; exact hz)
      · show am_W 28 15 _ (.int 0 :: _) _ _
        refine am_ifeq 36 d28_15 (by decide) (fun _ => ?_) (fun h => absurd h (by decide))
        refine am_incN i d28_36 rfl rfl ?_
        refine am_goto 4 d28_39 (by decide) ?_
        first | exact ih h7 | (have hz := ih h7; rw [← sp_cnt_f (by simp [*])] at hz; exact hz)
  show am_W kX_countConflicts 0 _ [] M Q
  refine am_iconst (nI 0) d28_0 (by decide) ?_
  refine am_istore_n d28_1 (Nat.le_of_ble_eq_true rfl) rfl ?_
  refine am_iconst (nI 0) d28_2 (by decide) ?_
  refine am_istore_n d28_3 (Nat.le_of_ble_eq_true rfl) rfl ?_
  exact loop 0 (by decide)
/-- what a join has put into a column behind c cells -/
def jn (car : Nat → Bool) (f : Nat → Int32) (a : Nat → Int32) (nw : Nat) : Nat → (Nat → Int32)
  | 0 => a
  | c + 1 => if car c = true then upd (jn car f a nw c) (nw + sp_cnt car c) (f c) else jn car f a nw c
theorem jn_t {car : Nat → Bool} {f a : Nat → Int32} {nw c : Nat} (h : car c = true) : jn car f a nw (c + 1) = upd (jn car f a nw c) (nw + sp_cnt car c) (f c) := by simp [jn, h]
theorem jn_f {car : Nat → Bool} {f a : Nat → Int32} {nw c : Nat} (h : ¬ car c = true) : jn car f a nw (c + 1) = jn car f a nw c := by simp [jn, h]
theorem jn_congr {car car' : Nat → Bool} {f f' a : Nat → Int32} {nw n : Nat} (hc : ∀ c, c < n → car c = car' c) (hf : ∀ c, c < n → car c = true → f c = f' c) : jn car f a nw n = jn car' f' a nw n := by
  induction n with
  | zero => rfl
  | succ n ih =>
    have ih := ih (fun c h => hc c (by omega)) (fun c h => hf c (by omega))
    have hk := sp_cnt_congr (f := car) (g := car') (n := n) (fun c h => hc c (by omega))
    by_cases h : car n = true
    · rw [jn_t h, jn_t (by rw [← hc n (by omega)]; exact h), ih, hk, hf n (by omega) h]
    · rw [jn_f h, jn_f (by rw [← hc n (by omega)]; exact h), ih]
theorem sp_cnt_mono (f : Nat → Bool) : ∀ a b, a ≤ b → sp_cnt f a ≤ sp_cnt f b := by
  intro a b h
  induction b with
  | zero => obtain rfl : a = 0 := by omega
            exact Nat.le_refl _
  | succ b ih =>
    by_cases hb : a = b + 1
    · subst hb; exact Nat.le_refl _
    · refine Nat.le_trans (ih (by omega)) ?_
      simp only [sp_cnt]
      split <;> omega
/-- the memory M' is M with what a join has carried to branch b behind c cells -/
def jm (M M' : am_M) (car : Nat → Bool) (b nw ck c : Nat) : Prop := fr [0, 6, 7, 8, 9, 10, 11] M M' ∧ M'.1 0 7 = M.1 0 7 ∧ M'.1 6 6 = nI (nw + sp_cnt car c) ∧ M'.1 0 6 = nI (ck + sp_cnt car c) ∧ M'.1 7 = jn car (fun _ => nI b) (M.1 7) nw c ∧ M'.1 8 = jn car (fun i => nI (ck + sp_cnt car i + 1)) (M.1 8) nw c ∧ M'.1 9 = jn car nI (M.1 9) nw c ∧ M'.1 10 = jn car (M.1 14) (M.1 10) nw c ∧ M'.1 11 = jn car (M.1 15) (M.1 11) nw c
theorem jm_t {M M' : am_M} {car : Nat → Bool} {b nw ck c : Nat} (h : jm M M' car b nw ck c) (hc : car c = true) : jm M (sp_add (am_set M' 0 6 (nI (ck + sp_cnt car c + 1))) (nw + sp_cnt car c) (nI b) (nI (ck + sp_cnt car c + 1)) (nI c) (M.1 14 c) (M.1 15 c)) car b nw ck (c + 1) := by
  obtain ⟨a1, a2, a3, a4, a5, a6, a7, a8, a9⟩ := h
  unfold sp_add
  refine ⟨((((((a1.set (by simp)).set (by simp)).set (by simp)).set (by simp)).set (by simp)).set (by simp)).set (by simp), a2, ?_, ?_, ?_, ?_, ?_, ?_, ?_⟩
  · rw [am_set_self, pk_us, ← sp_cnt_t hc]; rfl
  · rw [← sp_cnt_t hc]; rfl
  · rw [jn_t hc, ← a5]; rfl
  · rw [jn_t hc, ← a6]; rfl
  · rw [jn_t hc, ← a7]; rfl
  · rw [jn_t hc, ← a8]; rfl
  · rw [jn_t hc, ← a9]; rfl
theorem jm_f {M M' : am_M} {car : Nat → Bool} {b nw ck c : Nat} (h : jm M M' car b nw ck c) (hc : ¬ car c = true) : jm M M' car b nw ck (c + 1) := by
  obtain ⟨a1, a2, a3, a4, a5, a6, a7, a8, a9⟩ := h
  unfold jm
  rw [jn_f hc, jn_f hc, jn_f hc, jn_f hc, jn_f hc, ← sp_cnt_f hc]
  exact ⟨a1, a2, a3, a4, a5, a6, a7, a8, a9⟩
theorem c_carryTo {b nw ck : Nat} {M : am_M} {Q : am_T} (hc : M.1 0 6 = nI ck) (hn : M.1 6 6 = nI nw) (h120 : nw + sp_cnt (ca M) 48 ≤ 120) (hQ : ∀ M', jm M M' (ca M) b nw ck 48 → Q (.inl none) M') : am_W kX_carryTo 0 (am_in kX_carryTo [.ref 0, .int (nI b)]) [] M Q := by
  have loop : ∀ i, i ≤ 48 → ∀ M1 : am_M, jm M M1 (ca M) b nw ck i → am_W kX_carryTo 2 [.ref 0, .int (nI b), .int (nI i)] [] M1 Q := by
    refine am_loop 48 (fun i hi ih => ?_)
    intro M1 J
    have e14 : M1.1 14 = M.1 14 := J.1.eq 14 (by decide)
    have e15 : M1.1 15 = M.1 15 := J.1.eq 15 (by decide)
    have eca : ca M1 i = ca M i := by
      unfold ca
      rw [show sm M1 13 21 i = sm M 13 21 i by unfold sm; rw [J.1.eq 14 (by decide), J.1.eq 15 (by decide), J.1.eq 22 (by decide), J.1.eq 23 (by decide)], show sm M1 13 17 i = sm M 13 17 i by unfold sm; rw [J.1.eq 14 (by decide), J.1.eq 15 (by decide), J.1.eq 18 (by decide), J.1.eq 19 (by decide)]]
    refine am_iload_n d29_2 rfl ?_
    refine am_bipush (nI 48) d29_3 (by decide) ?_
    refine am_icgeN 46 i 48 d29_5 (by decide) rfl rfl (by omega) (by decide) (fun h5 => ?_) (fun h5 => ?_)
    · refine am_vret d29_46 rfl ?_
      obtain rfl : i = 48 := by omega
      exact hQ M1 J
    · refine am_aload_n d29_8 rfl ?_
      refine am_iload_n d29_9 rfl ?_
      refine am_cv1 26 d29_10 ml29_247 rfl (by decide) sh_0 rfl rfl (Nat.le_of_ble_eq_true rfl) ?_
      refine c_isCarried (c := i) (by omega) (fun hin => ?_) (fun hin => ?_)
      · show am_W 29 13 _ (.int 1 :: _) _ _
        rw [eca] at hin
        refine am_ifeq 40 d29_13 (by decide) (fun h => absurd h (by decide)) (fun _ => ?_)
        refine am_aload_n d29_16 rfl ?_
        refine am_iload_n d29_17 rfl ?_
        refine am_iload_n d29_18 rfl ?_
        refine am_aload_n d29_19 rfl ?_
        refine am_getr d29_20 fl29_26 sh_0 rfl ?_
        refine am_getr d29_23 fl29_117 sh_13 rfl ?_
        refine am_iload_n d29_26 rfl ?_
        refine am_ialdN i d29_27 sh_14 (by omega) (by decide) ?_
        refine am_aload_n d29_28 rfl ?_
        refine am_getr d29_29 fl29_26 sh_0 rfl ?_
        refine am_getr d29_32 fl29_121 sh_13 rfl ?_
        refine am_iload_n d29_35 rfl ?_
        refine am_ialdN i d29_36 sh_15 (by omega) (by decide) ?_
        refine am_cv4 24 d29_37 ml29_106 rfl (by decide) sh_0 rfl rfl rfl rfl rfl (Nat.le_of_ble_eq_true rfl) ?_
        rw [e14, e15]
        refine c_append (ck := ck + sp_cnt (ca M) i) (nw := nw + sp_cnt (ca M) i) J.2.2.2.1 J.2.2.1 (by have h1 := sp_cnt_t hin; have h2 := sp_cnt_mono (ca M) (i + 1) 48 (by omega); omega) ?_
        show am_W 29 40 _ _ _ _
        refine am_incN i d29_40 rfl rfl ?_
        refine am_goto 2 d29_43 (by decide) ?_
        exact ih h5 _ (jm_t J hin)
      · show am_W 29 13 _ (.int 0 :: _) _ _
        rw [eca] at hin
        refine am_ifeq 40 d29_13 (by decide) (fun _ => ?_) (fun h => absurd h (by decide))
        refine am_incN i d29_40 rfl rfl ?_
        refine am_goto 2 d29_43 (by decide) ?_
        exact ih h5 _ (jm_f J hin)
  show am_W kX_carryTo 0 _ [] M Q
  refine am_iconst (nI 0) d29_0 (by decide) ?_
  refine am_istore_n d29_1 (Nat.le_of_ble_eq_true rfl) rfl ?_
  exact loop 0 (by decide) M ⟨fr.rf, rfl, hn, hc, rfl, rfl, rfl, rfl, rfl⟩
end
section
/-! the same sets from the same fields -/
section CONG
variable {kd kd' vl vl' : Nat → Int32}
theorem sp_refd_c (h1 : ∀ c, c < 48 → kd c = kd' c) (h2 : ∀ c, c < 48 → vl c = vl' c) {s : Int32} {f : Nat} (hf : f < 4) : sp_refd kd vl s f = sp_refd kd' vl' s f := sp_or_congr (fun _ _ => rfl) (fun o ho => by show sp_tg kd vl (4 * o + f) = sp_tg kd' vl' (4 * o + f); unfold sp_tg; rw [h1 _ (by omega), h2 _ (by omega)])
theorem sp_refg_c (h1 : ∀ c, c < 48 → kd c = kd' c) (h2 : ∀ c, c < 48 → vl c = vl' c) {s : Int32} {f : Nat} (hf : f < 4) : sp_refg kd vl s f = sp_refg kd' vl' s f := sp_or_congr (fun o ho => by show (!decide (sp_tg kd vl (4 * o + f) &&& s = 0)) = (!decide (sp_tg kd' vl' (4 * o + f) &&& s = 0)); unfold sp_tg; rw [h1 _ (by omega), h2 _ (by omega)]) (fun _ _ => rfl)
theorem sp_num_c (h1 : ∀ c, c < 48 → kd c = kd' c) (h2 : ∀ c, c < 48 → vl c = vl' c) {s sg b : Int32} {f : Nat} (hf : f < 4) : sp_num kd vl s f sg b = sp_num kd' vl' s f sg b := sp_or_congr (fun o ho => by show (sp_isin s o && decide (kd (4 * o + f) = 1) && sp_cmp (vl (4 * o + f)) sg b) = (sp_isin s o && decide (kd' (4 * o + f) = 1) && sp_cmp (vl' (4 * o + f)) sg b); rw [h1 _ (by omega), h2 _ (by omega)]) (fun _ _ => rfl)
theorem sp_non_c (h1 : ∀ c, c < 48 → kd c = kd' c) {s : Int32} {f : Nat} (hf : f < 4) : sp_non kd s f = sp_non kd' s f := sp_or_congr (fun o ho => by show (sp_isin s o && decide (kd (4 * o + f) = 0)) = (sp_isin s o && decide (kd' (4 * o + f) = 0)); rw [h1 _ (by omega)]) (fun _ _ => rfl)
theorem sp_fld_c (h1 : ∀ c, c < 48 → kd c = kd' c) (h2 : ∀ c, c < 48 → vl c = vl' c) {s : Int32} : ∀ n, n ≤ 4 → sp_fld (fun t f => sp_refd kd vl t f) n s = sp_fld (fun t f => sp_refd kd' vl' t f) n s := by
  intro n
  induction n with
  | zero => intro _; rfl
  | succ n ih => intro hn; simp only [sp_fld]; rw [ih (by omega), sp_refd_c h1 h2 (by omega)]
theorem ps_step_c (h1 : ∀ c, c < 48 → kd c = kd' c) (h2 : ∀ c, c < 48 → vl c = vl' c) {q : Nat → Nat} {len : Nat} {s : Int32} {i : Nat} : ps_step kd vl q len s i = ps_step kd' vl' q len s i := by
  unfold ps_step
  split
  next h =>
    rw [show (fun t => sp_refd kd vl t (ps_ch q len (i + 1) - 48)) = (fun t => sp_refd kd' vl' t (ps_ch q len (i + 1) - 48)) from funext fun t => sp_refd_c h1 h2 (by omega),
      show (fun t => sp_refg kd vl t (ps_ch q len (i + 1) - 48)) = (fun t => sp_refg kd' vl' t (ps_ch q len (i + 1) - 48)) from funext fun t => sp_refg_c h1 h2 (by omega),
      sp_non_c h1 (by omega)]
    unfold ps_cmp
    simp only [sp_num_c h1 h2 (show ps_ch q len (i + 1) - 48 < 4 by omega)]
  next => rfl
theorem ps_find_c (h1 : ∀ c, c < 48 → kd c = kd' c) (h2 : ∀ c, c < 48 → vl c = vl' c) {q : Nat → Nat} {len : Nat} : ps_find kd vl q len = ps_find kd' vl' q len := by
  unfold ps_find
  rw [show ps_step kd vl q len = ps_step kd' vl' q len from funext fun s => funext fun i => ps_step_c h1 h2]
theorem sp_all_c (h1 : ∀ c, c < 48 → kd c = kd' c) (h2 : ∀ c, c < 48 → vl c = vl' c) {x : Int32} : sp_clo (sp_fld (fun t f => sp_refd kd vl t f) 4) 12 x 0 = sp_clo (sp_fld (fun t f => sp_refd kd' vl' t f) 4) 12 x 0 := by
  rw [show sp_fld (fun t f => sp_refd kd vl t f) 4 = sp_fld (fun t f => sp_refd kd' vl' t f) 4 from funext fun s => sp_fld_c h1 h2 4 (by decide)]
end CONG
def sp_any (f : Nat → Bool) : Nat → Bool
  | 0 => false
  | n + 1 => sp_any f n || f n
/-- two rows (or none) hold the same -/
def sr (wk wv : Nat → Int32) (r s : Option Nat) : Bool := decide (sp_get wk 0 r = sp_get wk 0 s) && decide (sp_get wv 0 r = sp_get wv 0 s)
theorem vw_sm {M : am_M} {v w : Nat} {wk wv wm : Nat → Int32} {r s : Nat → Option Nat} (h1 : vw M v wk wv wm r) (h2 : vw M w wk wv wm s) {c : Nat} (hc : c < 48) : sm M v w c = sr wk wv (r c) (s c) := by
  unfold sm sr
  rw [(h1 c hc).1, (h1 c hc).2.1, (h2 c hc).1, (h2 c hc).2.1]
theorem rd_pos {M : am_M} {pn : Nat → Nat} {nb b : Nat} {m : Int32} (hB : bp_P (M.1 2) (M.1 3) pn nb) (hb : b < nb) (h : bp_rd M b m) : 0 ≤ m := by
  have h1 := hB.2.2.2 b hb
  have h2 := Int32.not_lt.mp h.2.1
  refine Int32.le_trans ?_ h2
  split
  next h3 => exact Int32.le_trans h1 (Int32.le_of_lt h3)
  next => exact h1
theorem first_pos {M : am_M} {pn : Nat → Nat} {nb b : Nat} (hB : bp_P (M.1 2) (M.1 3) pn nb) (hb : b < nb) : 0 ≤ bp_first M b := by
  have h1 := hB.2.2.2 b hb
  unfold bp_first
  split
  next h3 => exact Int32.le_trans h1 (Int32.le_of_lt h3)
  next => exact h1
/-- the class's memory: branches and rows -/
def bpS (M : am_M) (pn : Nat → Nat) (nb nw ck : Nat) : Prop := M.1 1 4 = nI nb ∧ bp_P (M.1 2) (M.1 3) pn nb ∧ M.1 6 6 = nI nw ∧ bp_R (M.1 7) (M.1 9) nb nw ∧ M.1 0 6 = nI ck ∧ ck < 2 ^ 30
theorem p_branch {pn : Nat → Nat} {nb nw ck : Nat} {M : am_M} {Q : am_T} (hS : bpS M pn nb nw ck) {a m : Int32} (h1 : ¬ ix a nb → Q (.inr 0) M) (h2 : ∀ b, b < nb → a = nI b → ¬ bp_rd M b m → Q (.inr 1) M) (h3 : ∀ b, b < nb → a = nI b → bp_rd M b m → nb = 6 → Q (.inr 2) M) (h0 : ∀ b, b < nb → a = nI b → bp_rd M b m → nb < 6 → Q (.inl (some (.int (nI nb)))) (am_set (am_set (am_set (am_set M 2 nb (nI b)) 3 nb m) 4 nb 1) 1 4 (nI (nb + 1)))) : am_W kX_branch 0 (am_in kX_branch [.ref 0, .int a, .int m]) [] M Q := by
  obtain ⟨s1, s2, s3, s4, s5, s6⟩ := hS
  have s26 := s2.1
  have s41 := s4.1
  show am_W kX_branch 0 _ [] M Q
  refine am_aload_n d0_0 rfl ?_
  refine am_iload_n d0_1 rfl ?_
  refine am_cv1 15 d0_2 ml0_50 rfl (by decide) sh_0 rfl rfl (Nat.le_of_ble_eq_true rfl) ?_
  refine c_requireBranch (nb := nb) s1 s26 (fun g1 => ?_) (fun g1 => ?_)
  · show am_W 0 5 _ _ _ _
    obtain ⟨b, hb, rfl⟩ := g1
    refine am_aload_n d0_5 rfl ?_
    refine am_iload_n d0_6 rfl ?_
    refine am_iload_n d0_7 rfl ?_
    refine am_cv2 19 d0_8 ml0_54 rfl (by decide) sh_0 rfl rfl rfl (Nat.le_of_ble_eq_true rfl) ?_
    refine c_requireReadable (b := b) (by omega) (fun g4 => ?_) (fun g4 => ?_)
    · show am_W 0 11 _ _ _ _
      refine am_aload_n d0_11 rfl ?_
      refine am_getr d0_12 fl0_12 sh_0 rfl ?_
      refine am_geti d0_15 fl0_58 sh_1 rfl ?_
      refine am_bipush (nI 6) d0_18 (by decide) ?_
      refine am_icne 33 d0_20 (by decide) (fun h20 => ?_) (fun h20 => ?_)
      · have hlt : nb < 6 := by
          rcases Nat.lt_or_ge nb 6 with h | h
          · exact h
          · exact absurd (by rw [s1, show nb = 6 by omega]) h20
        refine am_aload_n d0_33 rfl ?_
        refine am_getr d0_34 fl0_12 sh_0 rfl ?_
        refine am_iload_n d0_37 rfl ?_
        refine am_iload_n d0_38 rfl ?_
        refine am_cv2 76 d0_39 ml0_68 rfl (by decide) sh_1 rfl rfl rfl (Nat.le_of_ble_eq_true rfl) ?_
        refine c_Badd s1 hlt ?_
        show am_W 0 42 _ (.int _ :: _) _ _
        refine am_iret d0_42 rfl rfl ?_
        exact h0 b hb rfl g4 hlt
      · have h6 : nb = 6 := (nI_eq (by omega) (by decide)).mp (s1.symm.trans h20)
        refine am_thr (x := 2) d0_23 (by decide) (Nat.le_of_ble_eq_true rfl) ?_
        exact h3 b hb rfl g4 h6
    · exact am_af_x (by decide) (by decide) (h2 b hb rfl g4)
  · exact am_af_x (by decide) (by decide) (h1 g1)
theorem p_close {pn : Nat → Nat} {nb nw ck : Nat} {M : am_M} {Q : am_T} (hS : bpS M pn nb nw ck) {a : Int32} (h1 : ¬ ix a nb → Q (.inr 0) M) (h2 : ∀ b, b < nb → a = nI b → M.1 4 b = 0 → Q (.inr 2) M) (h3 : ∀ b, b < nb → a = nI b → ¬ M.1 4 b = 0 → (sp_cnt (fun b => !decide (M.1 4 b = 0)) nb) = 1 → Q (.inr 2) M) (h0 : ∀ b, b < nb → a = nI b → ¬ M.1 4 b = 0 → ¬ (sp_cnt (fun b => !decide (M.1 4 b = 0)) nb) = 1 → Q (.inl none) (am_set M 4 b 0)) : am_W kX_close 0 (am_in kX_close [.ref 0, .int a]) [] M Q := by
  obtain ⟨s1, s2, s3, s4, s5, s6⟩ := hS
  have s26 := s2.1
  have s41 := s4.1
  show am_W kX_close 0 _ [] M Q
  refine am_aload_n d1_0 rfl ?_
  refine am_iload_n d1_1 rfl ?_
  refine am_cv1 15 d1_2 ml1_50 rfl (by decide) sh_0 rfl rfl (Nat.le_of_ble_eq_true rfl) ?_
  refine c_requireBranch (nb := nb) s1 s26 (fun g1 => ?_) (fun g1 => ?_)
  · show am_W 1 5 _ _ _ _
    obtain ⟨b, hb, rfl⟩ := g1
    refine am_aload_n d1_5 rfl ?_
    refine am_iload_n d1_6 rfl ?_
    refine am_cv1 20 d1_7 ml1_72 rfl (by decide) sh_0 rfl rfl (Nat.le_of_ble_eq_true rfl) ?_
    refine c_requireOpen (b := b) (by omega) (fun g5 => ?_) (fun g5 => ?_)
    · show am_W 1 10 _ _ _ _
      refine am_aload_n d1_10 rfl ?_
      refine am_getr d1_11 fl1_12 sh_0 rfl ?_
      refine am_cv0 77 d1_14 ml1_75 rfl (by decide) sh_1 rfl  (Nat.le_of_ble_eq_true rfl) ?_
      refine c_openCount s1 s26 ?_
      show am_W 1 17 _ (.int _ :: _) _ _
      refine am_iconst (nI 1) d1_17 (by decide) ?_
      refine am_icne 31 d1_18 (by decide) (fun h18 => ?_) (fun h18 => ?_)
      · have h1c : ¬ (sp_cnt (fun b => !decide (M.1 4 b = 0)) nb) = 1 := fun z => h18 (by rw [z])
        refine am_aload_n d1_31 rfl ?_
        refine am_getr d1_32 fl1_12 sh_0 rfl ?_
        refine am_getr d1_35 fl1_81 sh_1 rfl ?_
        refine am_iload_n d1_38 rfl ?_
        refine am_iconst 0 d1_39 (by decide) ?_
        refine am_zastN b 0 d1_40 sh_4 (by omega) (by decide) (by decide) ?_
        refine am_vret d1_41 rfl ?_
        exact h0 b hb rfl g5 h1c
      · have hb1 := sp_cnt_le (fun b => !decide (M.1 4 b = 0)) nb
        have h1c : (sp_cnt (fun b => !decide (M.1 4 b = 0)) nb) = 1 := (nI_eq (by omega) (by decide)).mp h18
        refine am_thr (x := 2) d1_21 (by decide) (Nat.le_of_ble_eq_true rfl) ?_
        exact h3 b hb rfl g5 h1c
    · exact am_af_x (by decide) (by decide) (h2 b hb rfl g5)
  · exact am_af_x (by decide) (by decide) (h1 g1)
theorem p_write {pn : Nat → Nat} {nb nw ck : Nat} {M : am_M} {Q : am_T} (hS : bpS M pn nb nw ck) {a u w x y : Int32} (h1 : ¬ (ix a nb ∧ ix u 12 ∧ ix w 4) → Q (.inr 0) M) (h2 : ∀ b o f, b < nb → a = nI b → o < 12 → u = nI o → f < 4 → w = nI f → ¬ (x = 0 ∨ x = 1 ∨ (x = 2 ∧ ix y 12)) → Q (.inr 1) M) (h3 : ∀ b o f, b < nb → a = nI b → o < 12 → u = nI o → f < 4 → w = nI f → (x = 0 ∨ x = 1 ∨ (x = 2 ∧ ix y 12)) → M.1 4 b = 0 → Q (.inr 2) M) (h4 : ∀ b o f, b < nb → a = nI b → o < 12 → u = nI o → f < 4 → w = nI f → (x = 0 ∨ x = 1 ∨ (x = 2 ∧ ix y 12)) → ¬ M.1 4 b = 0 → nw = 120 → Q (.inr 3) M) (h0 : ∀ b o f, b < nb → a = nI b → o < 12 → u = nI o → f < 4 → w = nI f → (x = 0 ∨ x = 1 ∨ (x = 2 ∧ ix y 12)) → ¬ M.1 4 b = 0 → nw < 120 → Q (.inl (some (.int (nI (ck + 1))))) (sp_add (am_set M 0 6 (nI (ck + 1))) nw (nI b) (nI (ck + 1)) (nI (4 * o + f)) x (if x = 0 then 0 else y))) : am_W kX_write 0 (am_in kX_write [.ref 0, .int a, .int u, .int w, .int x, .int y]) [] M Q := by
  obtain ⟨s1, s2, s3, s4, s5, s6⟩ := hS
  have s26 := s2.1
  have s41 := s4.1
  show am_W kX_write 0 _ [] M Q
  refine am_aload_n d2_0 rfl ?_
  refine am_iload_n d2_1 rfl ?_
  refine am_cv1 15 d2_2 ml2_50 rfl (by decide) sh_0 rfl rfl (Nat.le_of_ble_eq_true rfl) ?_
  refine c_requireBranch (nb := nb) s1 s26 (fun g1 => ?_) (fun g1 => ?_)
  · show am_W 2 5 _ _ _ _
    obtain ⟨b, hb, rfl⟩ := g1
    refine am_iload_n d2_5 rfl ?_
    refine am_cs1 16 d2_6 ml2_85 rfl (by decide) rfl rfl (Nat.le_of_ble_eq_true rfl) ?_
    refine c_requireObject (fun g2 => ?_) (fun g2 => ?_)
    · show am_W 2 9 _ _ _ _
      obtain ⟨o, ho, rfl⟩ := g2
      refine am_iload_n d2_9 rfl ?_
      refine am_cs1 17 d2_10 ml2_88 rfl (by decide) rfl rfl (Nat.le_of_ble_eq_true rfl) ?_
      refine c_requireField (fun g3 => ?_) (fun g3 => ?_)
      · show am_W 2 13 _ _ _ _
        obtain ⟨f, hf, rfl⟩ := g3
        refine am_iload d2_13 rfl ?_
        refine am_iload d2_15 rfl ?_
        refine am_cs2 31 d2_17 ml2_91 rfl (by decide) rfl rfl rfl (Nat.le_of_ble_eq_true rfl) ?_
        refine c_isValue (fun gv => ?_) (fun gv => ?_)
        · show am_W 2 20 _ (.int 1 :: _) _ _
          refine am_ifne 33 d2_20 (by decide) (fun _ => ?_) (fun h => absurd h (by decide))
          refine am_aload_n d2_33 rfl ?_
          refine am_iload_n d2_34 rfl ?_
          refine am_cv1 20 d2_35 ml2_72 rfl (by decide) sh_0 rfl rfl (Nat.le_of_ble_eq_true rfl) ?_
          refine c_requireOpen (b := b) (by omega) (fun g5 => ?_) (fun g5 => ?_)
          · show am_W 2 38 _ _ _ _
            refine am_aload_n d2_38 rfl ?_
            refine am_iconst (nI 1) d2_39 (by decide) ?_
            refine am_cv1 21 d2_40 ml2_100 rfl (by decide) sh_0 rfl rfl (Nat.le_of_ble_eq_true rfl) ?_
            refine c_requireRoomFor (n := 1) (nw := nw) s3 s41 (by decide) (fun g7 => ?_) (fun g7 => ?_)
            · show am_W 2 43 _ _ _ _
              refine am_aload_n d2_43 rfl ?_
              refine am_iload_n d2_44 rfl ?_
              refine am_iload_n d2_45 rfl ?_
              refine am_iload_n d2_46 rfl ?_
              refine am_cs2 32 d2_47 ml2_103 rfl (by decide) rfl rfl rfl (Nat.le_of_ble_eq_true rfl) ?_
              refine c_cellOf (a := o) (b := f) ?_
              show am_W 2 50 _ (.int _ :: _) _ _
              refine am_iload d2_50 rfl ?_
              refine am_iload d2_52 rfl ?_
              refine am_ifne 61 d2_54 (by decide) (fun h54 => ?_) (fun h54 => ?_)
              · refine am_iload d2_61 rfl ?_
                refine am_cv4 24 d2_63 ml2_106 rfl (by decide) sh_0 rfl rfl rfl rfl rfl (Nat.le_of_ble_eq_true rfl) ?_
                refine c_append (ck := ck) (nw := nw) s5 s3 (by omega) ?_
                show am_W 2 66 _ _ _ _
                refine am_aload_n d2_66 rfl ?_
                refine am_geti d2_67 fl2_43 sh_0 rfl ?_
                refine am_iret d2_70 rfl rfl ?_
                have hz := h0 b o f hb rfl ho rfl hf rfl gv g5 (by omega)
                first | (rw [if_pos h54] at hz; exact hz) | (rw [if_neg h54] at hz; exact hz)
              · refine am_iconst 0 d2_57 (by decide) ?_
                refine am_goto 63 d2_58 (by decide) ?_
                refine am_cv4 24 d2_63 ml2_106 rfl (by decide) sh_0 rfl rfl rfl rfl rfl (Nat.le_of_ble_eq_true rfl) ?_
                refine c_append (ck := ck) (nw := nw) s5 s3 (by omega) ?_
                show am_W 2 66 _ _ _ _
                refine am_aload_n d2_66 rfl ?_
                refine am_geti d2_67 fl2_43 sh_0 rfl ?_
                refine am_iret d2_70 rfl rfl ?_
                have hz := h0 b o f hb rfl ho rfl hf rfl gv g5 (by omega)
                first | (rw [if_pos h54] at hz; exact hz) | (rw [if_neg h54] at hz; exact hz)
            · exact am_af_x (by decide) (by decide) (h4 b o f hb rfl ho rfl hf rfl gv g5 (by omega))
          · exact am_af_x (by decide) (by decide) (h3 b o f hb rfl ho rfl hf rfl gv g5)
        · show am_W 2 20 _ (.int 0 :: _) _ _
          refine am_ifne 33 d2_20 (by decide) (fun h => absurd h (by decide)) (fun _ => ?_)
          refine am_thr (x := 1) d2_23 (by decide) (Nat.le_of_ble_eq_true rfl) ?_
          exact h2 b o f hb rfl ho rfl hf rfl gv
      · exact am_af_x (by decide) (by decide) (h1 (fun z => g3 z.2.2))
    · exact am_af_x (by decide) (by decide) (h1 (fun z => g2 z.2.1))
  · exact am_af_x (by decide) (by decide) (h1 (fun z => g1 z.1))
theorem p_read {pn : Nat → Nat} {nb nw ck : Nat} {M : am_M} {Q : am_T} (hS : bpS M pn nb nw ck) {a m u w x : Int32} (h1 : ¬ (ix a nb ∧ ix u 12 ∧ ix w 4) → Q (.inr 0) M) (h2 : ∀ b o f, b < nb → a = nI b → o < 12 → u = nI o → f < 4 → w = nI f → ¬ (bp_rd M b m ∧ ix x 3) → Q (.inr 1) M) (h0 : ∀ b o f, b < nb → a = nI b → o < 12 → u = nI o → f < 4 → w = nI f → bp_rd M b m → ix x 3 → ∀ M', fr [5, 14, 15, 16] M M' → Q (.inl (some (.int (if x = 0 then sp_get (M.1 10) 0 (sp_row (M.1 7) (M.1 8) (M.1 9) pn (M.1 3) nw b m (4 * o + f)) else if x = 1 then sp_get (M.1 11) 0 (sp_row (M.1 7) (M.1 8) (M.1 9) pn (M.1 3) nw b m (4 * o + f)) else sp_get (M.1 8) (-1) (sp_row (M.1 7) (M.1 8) (M.1 9) pn (M.1 3) nw b m (4 * o + f)))))) M') : am_W kX_read 0 (am_in kX_read [.ref 0, .int a, .int m, .int u, .int w, .int x]) [] M Q := by
  obtain ⟨s1, s2, s3, s4, s5, s6⟩ := hS
  have s26 := s2.1
  have s41 := s4.1
  show am_W kX_read 0 _ [] M Q
  refine am_aload_n d3_0 rfl ?_
  refine am_iload_n d3_1 rfl ?_
  refine am_cv1 15 d3_2 ml3_50 rfl (by decide) sh_0 rfl rfl (Nat.le_of_ble_eq_true rfl) ?_
  refine c_requireBranch (nb := nb) s1 s26 (fun g1 => ?_) (fun g1 => ?_)
  · show am_W 3 5 _ _ _ _
    obtain ⟨b, hb, rfl⟩ := g1
    refine am_iload_n d3_5 rfl ?_
    refine am_cs1 16 d3_6 ml3_85 rfl (by decide) rfl rfl (Nat.le_of_ble_eq_true rfl) ?_
    refine c_requireObject (fun g2 => ?_) (fun g2 => ?_)
    · show am_W 3 9 _ _ _ _
      obtain ⟨o, ho, rfl⟩ := g2
      refine am_iload d3_9 rfl ?_
      refine am_cs1 17 d3_11 ml3_88 rfl (by decide) rfl rfl (Nat.le_of_ble_eq_true rfl) ?_
      refine c_requireField (fun g3 => ?_) (fun g3 => ?_)
      · show am_W 3 14 _ _ _ _
        obtain ⟨f, hf, rfl⟩ := g3
        refine am_aload_n d3_14 rfl ?_
        refine am_iload_n d3_15 rfl ?_
        refine am_iload_n d3_16 rfl ?_
        refine am_cv2 19 d3_17 ml3_54 rfl (by decide) sh_0 rfl rfl rfl (Nat.le_of_ble_eq_true rfl) ?_
        refine c_requireReadable (b := b) (by omega) (fun g4 => ?_) (fun g4 => ?_)
        · show am_W 3 20 _ _ _ _
          refine am_iload d3_20 rfl ?_
          refine am_iconst (nI 2) d3_22 (by decide) ?_
          refine am_cs2 18 d3_23 ml3_110 rfl (by decide) rfl rfl rfl (Nat.le_of_ble_eq_true rfl) ?_
          refine c_requireWhat (n := 2) (by decide) (fun g6 => ?_) (fun g6 => ?_)
          · show am_W 3 26 _ _ _ _
            refine am_aload_n d3_26 rfl ?_
            refine am_aload_n d3_27 rfl ?_
            refine am_getr d3_28 fl3_26 sh_0 rfl ?_
            refine am_iload_n d3_31 rfl ?_
            refine am_iload_n d3_32 rfl ?_
            refine am_cv3 23 d3_33 ml3_113 rfl (by decide) sh_0 rfl rfl rfl rfl (Nat.le_of_ble_eq_true rfl) ?_
            refine c_look (v := 13) (Or.inl rfl) s2 s4 s3 hb (rd_pos s2 hb g4) (fun M1 f1 v1 => ?_)
            show am_W 3 36 _ _ _ _
            refine am_iload_n d3_36 rfl ?_
            refine am_iload d3_37 rfl ?_
            refine am_cs2 32 d3_39 ml3_103 rfl (by decide) rfl rfl rfl (Nat.le_of_ble_eq_true rfl) ?_
            refine c_cellOf (a := o) (b := f) ?_
            show am_W 3 42 _ (.int _ :: _) _ _
            refine am_istore d3_42 (Nat.le_of_ble_eq_true rfl) rfl ?_
            refine am_iload d3_44 rfl ?_
            refine am_ifne 60 d3_46 (by decide) (fun h46 => ?_) (fun h46 => ?_)
            · refine am_iload d3_60 rfl ?_
              refine am_iconst 1 d3_62 (by decide) ?_
              refine am_icne 79 d3_63 (by decide) (fun h63 => ?_) (fun h63 => ?_)
              · refine am_aload_n d3_79 rfl ?_
                refine am_getr d3_80 fl3_26 sh_0 rfl ?_
                refine am_getr d3_83 fl3_124 sh_13 rfl ?_
                refine am_iload d3_86 rfl ?_
                refine am_ialdN (4 * o + f) d3_88 sh_16 (by omega) (by decide) ?_
                refine am_iret d3_89 rfl rfl ?_
                have hz := h0 b o f hb rfl ho rfl hf rfl g4 g6 M1 f1
                have hv := v1 (4 * o + f) (by omega)
                first | (rw [if_pos h46, ← hv.1] at hz; exact hz) | (rw [if_neg h46, if_pos h63, ← hv.2.1] at hz; exact hz) | (rw [if_neg h46, if_neg h63, ← hv.2.2] at hz; exact hz)
              · refine am_aload_n d3_66 rfl ?_
                refine am_getr d3_67 fl3_26 sh_0 rfl ?_
                refine am_getr d3_70 fl3_121 sh_13 rfl ?_
                refine am_iload d3_73 rfl ?_
                refine am_ialdN (4 * o + f) d3_75 sh_15 (by omega) (by decide) ?_
                refine am_goto 89 d3_76 (by decide) ?_
                refine am_iret d3_89 rfl rfl ?_
                have hz := h0 b o f hb rfl ho rfl hf rfl g4 g6 M1 f1
                have hv := v1 (4 * o + f) (by omega)
                first | (rw [if_pos h46, ← hv.1] at hz; exact hz) | (rw [if_neg h46, if_pos h63, ← hv.2.1] at hz; exact hz) | (rw [if_neg h46, if_neg h63, ← hv.2.2] at hz; exact hz)
            · refine am_aload_n d3_49 rfl ?_
              refine am_getr d3_50 fl3_26 sh_0 rfl ?_
              refine am_getr d3_53 fl3_117 sh_13 rfl ?_
              refine am_iload d3_56 rfl ?_
              refine am_ialdN (4 * o + f) d3_58 sh_14 (by omega) (by decide) ?_
              refine am_iret d3_59 rfl rfl ?_
              have hz := h0 b o f hb rfl ho rfl hf rfl g4 g6 M1 f1
              have hv := v1 (4 * o + f) (by omega)
              first | (rw [if_pos h46, ← hv.1] at hz; exact hz) | (rw [if_neg h46, if_pos h63, ← hv.2.1] at hz; exact hz) | (rw [if_neg h46, if_neg h63, ← hv.2.2] at hz; exact hz)
          · exact am_af_x (by decide) (by decide) (h2 b o f hb rfl ho rfl hf rfl (fun z => g6 z.2))
        · exact am_af_x (by decide) (by decide) (h2 b o f hb rfl ho rfl hf rfl (fun z => g4 z.1))
      · exact am_af_x (by decide) (by decide) (h1 (fun z => g3 z.2.2))
    · exact am_af_x (by decide) (by decide) (h1 (fun z => g2 z.2.1))
  · exact am_af_x (by decide) (by decide) (h1 (fun z => g1 z.1))
theorem mk_b_fr {M M1 : am_M} {pn : Nat → Nat} {nw b j : Nat} (h : fr [12] M M1) : mk_b M1 pn nw b j = mk_b M pn nw b j := by
  unfold mk_b bp_first
  rw [h.eq 0 (by decide), h.eq 3 (by decide), h.eq 4 (by decide), h.eq 7 (by decide), h.eq 8 (by decide), h.eq 9 (by decide)]
theorem p_history {pn : Nat → Nat} {nb nw ck : Nat} {M : am_M} {Q : am_T} (hS : bpS M pn nb nw ck) {a u w k : Int32} (h1 : ¬ (ix a nb ∧ ix u 12 ∧ ix w 4) → Q (.inr 0) M) (h0 : ∀ b o f, b < nb → a = nI b → o < 12 → u = nI o → f < 4 → w = nI f → ∀ M', fr [5, 12, 14, 15, 16] M M' → Q (.inl (some (.int (sp_kth (fun i => mk_b M pn nw b i && decide (M.1 9 i = nI (4 * o + f))) (M.1 8) k nw nw 0)))) M') : am_W kX_history 0 (am_in kX_history [.ref 0, .int a, .int u, .int w, .int k]) [] M Q := by
  obtain ⟨s1, s2, s3, s4, s5, s6⟩ := hS
  have s26 := s2.1
  have s41 := s4.1
  show am_W kX_history 0 _ [] M Q
  refine am_aload_n d4_0 rfl ?_
  refine am_iload_n d4_1 rfl ?_
  refine am_cv1 15 d4_2 ml4_50 rfl (by decide) sh_0 rfl rfl (Nat.le_of_ble_eq_true rfl) ?_
  refine c_requireBranch (nb := nb) s1 s26 (fun g1 => ?_) (fun g1 => ?_)
  · show am_W 4 5 _ _ _ _
    obtain ⟨b, hb, rfl⟩ := g1
    refine am_iload_n d4_5 rfl ?_
    refine am_cs1 16 d4_6 ml4_85 rfl (by decide) rfl rfl (Nat.le_of_ble_eq_true rfl) ?_
    refine c_requireObject (fun g2 => ?_) (fun g2 => ?_)
    · show am_W 4 9 _ _ _ _
      obtain ⟨o, ho, rfl⟩ := g2
      refine am_iload_n d4_9 rfl ?_
      refine am_cs1 17 d4_10 ml4_88 rfl (by decide) rfl rfl (Nat.le_of_ble_eq_true rfl) ?_
      refine c_requireField (fun g3 => ?_) (fun g3 => ?_)
      · show am_W 4 13 _ _ _ _
        obtain ⟨f, hf, rfl⟩ := g3
        refine am_aload_n d4_13 rfl ?_
        refine am_getr d4_14 fl4_19 sh_0 rfl ?_
        refine am_cv0 108 d4_17 ml4_127 rfl (by decide) sh_6 rfl  (Nat.le_of_ble_eq_true rfl) ?_
        refine c_unmarkAll s3 s41 (fun M1 f1 m1 => ?_)
        show am_W 4 20 _ _ _ _
        refine am_aload_n d4_20 rfl ?_
        refine am_iload_n d4_21 rfl ?_
        refine am_cv1 25 d4_22 ml4_130 rfl (by decide) sh_0 rfl rfl (Nat.le_of_ble_eq_true rfl) ?_
        refine c_markGiven (nb := nb) (nw := nw) (pn := pn) (b := b) (by rw [f1.eq 2 (by decide), f1.eq 3 (by decide)]; exact s2) (by rw [f1.eq 7 (by decide), f1.eq 9 (by decide)]; exact s4) (by rw [f1.eq 6 (by decide)]; exact s3) hb (first_pos (nb := nb) (pn := pn) (by rw [f1.eq 2 (by decide), f1.eq 3 (by decide)]; exact s2) hb) (fun M2 f2 m2 => ?_)
        show am_W 4 25 _ _ _ _
        refine am_aload_n d4_25 rfl ?_
        refine am_getr d4_26 fl4_19 sh_0 rfl ?_
        refine am_iload_n d4_29 rfl ?_
        refine am_iload_n d4_30 rfl ?_
        refine am_cs2 32 d4_31 ml4_103 rfl (by decide) rfl rfl rfl (Nat.le_of_ble_eq_true rfl) ?_
        refine c_cellOf (a := o) (b := f) ?_
        show am_W 4 34 _ (.int _ :: _) _ _
        refine am_iload d4_34 rfl ?_
        refine am_cv2 111 d4_36 ml4_133 rfl (by decide) sh_6 rfl rfl rfl (Nat.le_of_ble_eq_true rfl) ?_
        refine c_momentOfMarked (nw := nw) s41 (by rw [f2.eq 6 (by decide), f1.eq 6 (by decide)]; exact s3) ?_
        show am_W 4 39 _ (.int _ :: _) _ _
        refine am_iret d4_39 rfl rfl ?_
        have hz := h0 b o f hb rfl ho rfl hf rfl M2 ((f1.wk (by simp)).tr f2)
        rw [f2.eq 8 (by decide), f1.eq 8 (by decide), f2.eq 9 (by decide), f1.eq 9 (by decide)]
        rw [sp_kth_congr (f := fun i => !decide (M2.1 12 i = 0) && decide (M.1 9 i = nI (4 * o + f))) (f' := fun i => mk_b M pn nw b i && decide (M.1 9 i = nI (4 * o + f))) (fun i hi => ?_) (fun i hi => rfl) nw 0 (Nat.le_refl _)]
        · exact hz
        · have e := m2 i hi
          rw [m1 i hi, mk_b_fr f1] at e
          show (!decide (M2.1 12 i = 0) && _) = (mk_b M pn nw b i && _)
          rw [e]
          by_cases hm : mk_b M pn nw b i = true
          · simp [hm]
          · simp [hm]
      · exact am_af_x (by decide) (by decide) (h1 (fun z => g3 z.2.2))
    · exact am_af_x (by decide) (by decide) (h1 (fun z => g2 z.2.1))
  · exact am_af_x (by decide) (by decide) (h1 (fun z => g1 z.1))
end
section
/-! public methods: differs, meeting, join, trim, reach, type, erase, find, state, about -/
theorem p_differs {pn : Nat → Nat} {nb nw ck : Nat} {M : am_M} {Q : am_T} (hS : bpS M pn nb nw ck) {a e k : Int32} (h1 : ¬ (ix a nb ∧ ix e nb) → Q (.inr 0) M) (h2 : ∀ b d, b < nb → a = nI b → d < nb → e = nI d → (M.1 4 b = 0 ∨ M.1 4 d = 0) → Q (.inr 2) M) (h0 : ∀ b d, b < nb → a = nI b → d < nb → e = nI d → ¬ M.1 4 b = 0 → ¬ M.1 4 d = 0 → ∀ M', fr [5, 14, 15, 16, 18, 19, 20] M M' → Q (.inl (some (.int (sp_kth (fun i => !sr (M.1 10) (M.1 11) (sp_row (M.1 7) (M.1 8) (M.1 9) pn (M.1 3) nw b (nI ck) i) (sp_row (M.1 7) (M.1 8) (M.1 9) pn (M.1 3) nw d (nI ck) i)) nI k 48 48 0)))) M') : am_W kX_differs 0 (am_in kX_differs [.ref 0, .int a, .int e, .int k]) [] M Q := by
  obtain ⟨s1, s2, s3, s4, s5, s6⟩ := hS
  have s26 := s2.1
  have s41 := s4.1
  have loop : ∀ {x y : Int32} {b d : Nat} (M1 M2 : am_M), fr [5, 13 + 1, 13 + 2, 13 + 3] M M1 → vw M1 13 (M.1 10) (M.1 11) (M.1 8) (sp_row (M.1 7) (M.1 8) (M.1 9) pn (M.1 3) nw b (nI ck)) → fr [5, 17 + 1, 17 + 2, 17 + 3] M1 M2 → vw M2 17 (M.1 10) (M.1 11) (M.1 8) (sp_row (M.1 7) (M.1 8) (M.1 9) pn (M.1 3) nw d (nI ck)) → ∀ i, i ≤ 48 → ∀ s, Q (.inl (some (.int (sp_kth (fun i => !sr (M.1 10) (M.1 11) (sp_row (M.1 7) (M.1 8) (M.1 9) pn (M.1 3) nw b (nI ck) i) (sp_row (M.1 7) (M.1 8) (M.1 9) pn (M.1 3) nw d (nI ck) i)) nI k 48 (48 - i) s)))) M2 → am_W kX_differs 52 [.ref 0, .int x, .int y, .int k, .int (nI s), .int (nI i)] [] M2 Q := by
    intro x y b d M1 M2 f1 v1 f2 v2
    have v3 : vw M2 13 (M.1 10) (M.1 11) (M.1 8) (sp_row (M.1 7) (M.1 8) (M.1 9) pn (M.1 3) nw b (nI ck)) := fun c hc => by
      rw [f2.eq 14 (by decide), f2.eq 15 (by decide), f2.eq 16 (by decide)]; exact v1 c hc
    refine am_loop 48 (fun i hi ih => ?_)
    intro s hq
    have esm : i < 48 → sm M2 13 17 i = sr (M.1 10) (M.1 11) (sp_row (M.1 7) (M.1 8) (M.1 9) pn (M.1 3) nw b (nI ck) i) (sp_row (M.1 7) (M.1 8) (M.1 9) pn (M.1 3) nw d (nI ck) i) := fun hc => vw_sm v3 v2 hc
    refine am_iload d5_52 rfl ?_
    refine am_bipush (nI 48) d5_54 (by decide) ?_
    refine am_icgeN 93 i 48 d5_56 (by decide) rfl rfl (by omega) (by decide) (fun h56 => ?_) (fun h56 => ?_)
    · refine am_iconst (-1) d5_93 (by decide) ?_
      refine am_iret d5_94 rfl rfl ?_
      first | (rw [sp_kth_t h56 (by simp [gs]) h78] at hq; exact hq) | (rw [show 48 - i = 0 by omega] at hq; exact hq)
    · refine am_aload_n d5_59 rfl ?_
      refine am_getr d5_60 fl5_26 sh_0 rfl ?_
      refine am_aload_n d5_63 rfl ?_
      refine am_getr d5_64 fl5_30 sh_0 rfl ?_
      refine am_iload d5_67 rfl ?_
      refine am_cv2 96 d5_69 ml5_136 rfl (by decide) sh_13 rfl rfl rfl (Nat.le_of_ble_eq_true rfl) ?_
      refine c_same (v := 13) (w := 17) (c := i) (Or.inl rfl) (Or.inr (Or.inl rfl)) (by omega) (fun gs => ?_) (fun gs => ?_)
      · show am_W 5 72 _ (.int 1 :: _) _ _
        rw [esm h56] at gs
        rw [sp_kth_f h56 (by simp [gs])] at hq
        refine am_ifne 87 d5_72 (by decide) (fun _ => ?_) (fun h => absurd h (by decide))
        refine am_incN i d5_87 rfl rfl ?_
        refine am_goto 52 d5_90 (by decide) ?_
        first | exact ih h56 _ hq | (rw [sp_kth_n h56 (by simp [gs]) h78] at hq; exact ih h56 _ hq)
      · show am_W 5 72 _ (.int 0 :: _) _ _
        rw [esm h56] at gs
        refine am_ifne 87 d5_72 (by decide) (fun h => absurd h (by decide)) (fun _ => ?_)
        refine am_iload d5_75 rfl ?_
        refine am_iload_n d5_77 rfl ?_
        refine am_icne 84 d5_78 (by decide) (fun h78 => ?_) (fun h78 => ?_)
        · refine am_incN s d5_84 rfl rfl ?_
          refine am_incN i d5_87 rfl rfl ?_
          refine am_goto 52 d5_90 (by decide) ?_
          first | exact ih h56 _ hq | (rw [sp_kth_n h56 (by simp [gs]) h78] at hq; exact ih h56 _ hq)
        · refine am_iload d5_81 rfl ?_
          refine am_iret d5_83 rfl rfl ?_
          first | (rw [sp_kth_t h56 (by simp [gs]) h78] at hq; exact hq) | (rw [show 48 - i = 0 by omega] at hq; exact hq)
  show am_W kX_differs 0 _ [] M Q
  refine am_aload_n d5_0 rfl ?_
  refine am_iload_n d5_1 rfl ?_
  refine am_cv1 15 d5_2 ml5_50 rfl (by decide) sh_0 rfl rfl (Nat.le_of_ble_eq_true rfl) ?_
  refine c_requireBranch (nb := nb) s1 s26 (fun g1 => ?_) (fun g1 => ?_)
  · show am_W 5 5 _ _ _ _
    obtain ⟨b, hb, rfl⟩ := g1
    refine am_aload_n d5_5 rfl ?_
    refine am_iload_n d5_6 rfl ?_
    refine am_cv1 15 d5_7 ml5_50 rfl (by decide) sh_0 rfl rfl (Nat.le_of_ble_eq_true rfl) ?_
    refine c_requireBranch (nb := nb) s1 s26 (fun g1 => ?_) (fun g1 => ?_)
    · show am_W 5 10 _ _ _ _
      obtain ⟨d, hd, rfl⟩ := g1
      refine am_aload_n d5_10 rfl ?_
      refine am_iload_n d5_11 rfl ?_
      refine am_cv1 20 d5_12 ml5_72 rfl (by decide) sh_0 rfl rfl (Nat.le_of_ble_eq_true rfl) ?_
      refine c_requireOpen (b := b) (by omega) (fun g5 => ?_) (fun g5 => ?_)
      · show am_W 5 15 _ _ _ _
        refine am_aload_n d5_15 rfl ?_
        refine am_iload_n d5_16 rfl ?_
        refine am_cv1 20 d5_17 ml5_72 rfl (by decide) sh_0 rfl rfl (Nat.le_of_ble_eq_true rfl) ?_
        refine c_requireOpen (b := d) (by omega) (fun g8 => ?_) (fun g8 => ?_)
        · show am_W 5 20 _ _ _ _
          refine am_aload_n d5_20 rfl ?_
          refine am_aload_n d5_21 rfl ?_
          refine am_getr d5_22 fl5_26 sh_0 rfl ?_
          refine am_iload_n d5_25 rfl ?_
          refine am_aload_n d5_26 rfl ?_
          refine am_geti d5_27 fl5_43 sh_0 rfl ?_
          rw [s5]
          refine am_cv3 23 d5_30 ml5_113 rfl (by decide) sh_0 rfl rfl rfl rfl (Nat.le_of_ble_eq_true rfl) ?_
          refine c_look (v := 13) (nw := nw) (b := b) (pn := pn) (nb := nb) (Or.inl rfl) s2 s4 s3 hb (nI_pos' (by omega)) (fun M1 f1 v1 => ?_)
          show am_W 5 33 _ _ _ _
          refine am_aload_n d5_33 rfl ?_
          refine am_aload_n d5_34 rfl ?_
          refine am_getr d5_35 fl5_30 sh_0 rfl ?_
          refine am_iload_n d5_38 rfl ?_
          refine am_aload_n d5_39 rfl ?_
          refine am_geti d5_40 fl5_43 sh_0 rfl ?_
          rw [f1.eq 0 (by decide), s5]
          refine am_cv3 23 d5_43 ml5_113 rfl (by decide) sh_0 rfl rfl rfl rfl (Nat.le_of_ble_eq_true rfl) ?_
          refine c_look (v := 17) (nw := nw) (b := d) (pn := pn) (nb := nb) (Or.inr (Or.inl rfl)) (by rw [f1.eq 2 (by decide), f1.eq 3 (by decide)]; exact s2) (by rw [f1.eq 7 (by decide), f1.eq 9 (by decide)]; exact s4) (by rw [f1.eq 6 (by decide)]; exact s3) hd (nI_pos' (by omega)) (fun M2 f2 v2 => ?_)
          rw [f1.eq 10 (by decide), f1.eq 11 (by decide), f1.eq 7 (by decide), f1.eq 8 (by decide), f1.eq 9 (by decide), f1.eq 3 (by decide)] at v2
          show am_W 5 46 _ _ _ _
          refine am_iconst (nI 0) d5_46 (by decide) ?_
          refine am_istore d5_47 (Nat.le_of_ble_eq_true rfl) rfl ?_
          refine am_iconst (nI 0) d5_49 (by decide) ?_
          refine am_istore d5_50 (Nat.le_of_ble_eq_true rfl) rfl ?_
          exact loop M1 M2 f1 v1 f2 v2 0 (by decide) 0 (h0 b d hb rfl hd rfl g5 g8 M2 ((f1.wk (by simp)).tr (f2.wk (by simp))))
        · exact am_af_x (by decide) (by decide) (h2 b d hb rfl hd rfl (Or.inr g8))
      · exact am_af_x (by decide) (by decide) (h2 b d hb rfl hd rfl (Or.inl g5))
    · exact am_af_x (by decide) (by decide) (h1 (fun z => g1 z.2))
  · exact am_af_x (by decide) (by decide) (h1 (fun z => g1 z.1))
theorem p_meeting {pn : Nat → Nat} {nb nw ck : Nat} {M : am_M} {Q : am_T} (hS : bpS M pn nb nw ck) {a e : Int32} (h1 : ¬ (ix a nb ∧ ix e nb) → Q (.inr 0) M) (h0 : ∀ b d, b < nb → a = nI b → d < nb → e = nI d → Q (.inl (some (.int (sp_meet pn (M.1 3) 12 (nI ck) b d)))) M) : am_W kX_meeting 0 (am_in kX_meeting [.ref 0, .int a, .int e]) [] M Q := by
  obtain ⟨s1, s2, s3, s4, s5, s6⟩ := hS
  have s26 := s2.1
  have s41 := s4.1
  show am_W kX_meeting 0 _ [] M Q
  refine am_aload_n d6_0 rfl ?_
  refine am_iload_n d6_1 rfl ?_
  refine am_cv1 15 d6_2 ml6_50 rfl (by decide) sh_0 rfl rfl (Nat.le_of_ble_eq_true rfl) ?_
  refine c_requireBranch (nb := nb) s1 s26 (fun g1 => ?_) (fun g1 => ?_)
  · show am_W 6 5 _ _ _ _
    obtain ⟨b, hb, rfl⟩ := g1
    refine am_aload_n d6_5 rfl ?_
    refine am_iload_n d6_6 rfl ?_
    refine am_cv1 15 d6_7 ml6_50 rfl (by decide) sh_0 rfl rfl (Nat.le_of_ble_eq_true rfl) ?_
    refine c_requireBranch (nb := nb) s1 s26 (fun g1 => ?_) (fun g1 => ?_)
    · show am_W 6 10 _ _ _ _
      obtain ⟨d, hd, rfl⟩ := g1
      refine am_aload_n d6_10 rfl ?_
      refine am_getr d6_11 fl6_12 sh_0 rfl ?_
      refine am_iload_n d6_14 rfl ?_
      refine am_iload_n d6_15 rfl ?_
      refine am_aload_n d6_16 rfl ?_
      refine am_geti d6_17 fl6_43 sh_0 rfl ?_
      rw [s5]
      refine am_cv3 78 d6_20 ml6_140 rfl (by decide) sh_1 rfl rfl rfl rfl (Nat.le_of_ble_eq_true rfl) ?_
      refine c_meet s2 hb hd ?_
      show am_W 6 23 _ (.int _ :: _) _ _
      refine am_iret d6_23 rfl rfl ?_
      exact h0 b d hb rfl hd rfl
    · exact am_af_x (by decide) (by decide) (h1 (fun z => g1 z.2))
  · exact am_af_x (by decide) (by decide) (h1 (fun z => g1 z.1))
/-- the cells that a join is about, and those in conflict -/
def jca (wk wv : Nat → Int32) (r1 r2 r3 : Nat → Option Nat) (c : Nat) : Bool := !sr wk wv (r1 c) (r3 c) && !sr wk wv (r1 c) (r2 c)
def jcf (wk wv : Nat → Int32) (r1 r2 r3 : Nat → Option Nat) (c : Nat) : Bool := jca wk wv r1 r2 r3 c && !sr wk wv (r2 c) (r3 c)
/-- the class's memory behind a join -/
def jf (M M' : am_M) (car : Nat → Bool) (kd vl : Nat → Int32) (b nw ck : Nat) : Prop := fr [0, 5, 6, 7, 8, 9, 10, 11, 14, 15, 16, 18, 19, 20, 22, 23, 24] M M' ∧ M'.1 0 7 = M.1 0 7 ∧ M'.1 6 6 = nI (nw + sp_cnt car 48) ∧ M'.1 0 6 = nI (ck + sp_cnt car 48) ∧ M'.1 7 = jn car (fun _ => nI b) (M.1 7) nw 48 ∧ M'.1 8 = jn car (fun i => nI (ck + sp_cnt car i + 1)) (M.1 8) nw 48 ∧ M'.1 9 = jn car nI (M.1 9) nw 48 ∧ M'.1 10 = jn car kd (M.1 10) nw 48 ∧ M'.1 11 = jn car vl (M.1 11) nw 48
theorem jf_of {M M1 M' : am_M} {car car' : Nat → Bool} {kd vl : Nat → Int32} {b nw ck : Nat} (f : fr [5, 14, 15, 16, 18, 19, 20, 22, 23, 24] M M1) (h : jm M1 M' car' b nw ck 48) (hc : ∀ c, c < 48 → car' c = car c) (hk : ∀ c, c < 48 → M1.1 14 c = kd c) (hv : ∀ c, c < 48 → M1.1 15 c = vl c) : jf M M' car kd vl b nw ck := by
  obtain ⟨a1, a2, a3, a4, a5, a6, a7, a8, a9⟩ := h
  have e := sp_cnt_congr hc
  refine ⟨(f.wk (by simp)).tr (a1.wk (by simp)), ?_, ?_, ?_, ?_, ?_, ?_, ?_, ?_⟩
  · rw [a2, f.eq 0 (by decide)]
  · rw [a3, e]
  · rw [a4, e]
  · rw [a5, f.eq 7 (by decide)]; exact jn_congr hc (fun _ _ _ => rfl)
  · rw [a6, f.eq 8 (by decide)]; exact jn_congr hc (fun c h _ => by rw [sp_cnt_congr (fun i hi => hc i (by omega))])
  · rw [a7, f.eq 9 (by decide)]; exact jn_congr hc (fun _ _ _ => rfl)
  · rw [a8, f.eq 10 (by decide)]; exact jn_congr hc (fun c h _ => hk c h)
  · rw [a9, f.eq 11 (by decide)]; exact jn_congr hc (fun c h _ => hv c h)
set_option maxHeartbeats 1000000 in
theorem p_join {pn : Nat → Nat} {nb nw ck : Nat} {M : am_M} {Q : am_T} (hS : bpS M pn nb nw ck) {a e : Int32} (hz : 0 ≤ M.1 0 7) (h1 : ¬ (ix a nb ∧ ix e nb) → Q (.inr 0) M) (h2 : ∀ b d, b < nb → a = nI b → d < nb → e = nI d → b = d → Q (.inr 1) M) (h3 : ∀ b d, b < nb → a = nI b → d < nb → e = nI d → ¬ b = d → (M.1 4 b = 0 ∨ M.1 4 d = 0 ∨ (sp_meet pn (M.1 3) 12 (nI ck) b d) < M.1 0 7) → Q (.inr 2) M) (h4 : ∀ b d, b < nb → a = nI b → d < nb → e = nI d → ¬ b = d → ¬ M.1 4 b = 0 → ¬ M.1 4 d = 0 → M.1 0 7 ≤ (sp_meet pn (M.1 3) 12 (nI ck) b d) → sp_cnt (jcf (M.1 10) (M.1 11) (sp_row (M.1 7) (M.1 8) (M.1 9) pn (M.1 3) nw b (nI ck)) (sp_row (M.1 7) (M.1 8) (M.1 9) pn (M.1 3) nw d (nI ck)) (sp_row (M.1 7) (M.1 8) (M.1 9) pn (M.1 3) nw b (sp_meet pn (M.1 3) 12 (nI ck) b d))) 48 = 0 → 120 < nw + sp_cnt (jca (M.1 10) (M.1 11) (sp_row (M.1 7) (M.1 8) (M.1 9) pn (M.1 3) nw b (nI ck)) (sp_row (M.1 7) (M.1 8) (M.1 9) pn (M.1 3) nw d (nI ck)) (sp_row (M.1 7) (M.1 8) (M.1 9) pn (M.1 3) nw b (sp_meet pn (M.1 3) 12 (nI ck) b d))) 48 → ∀ M', fr [5, 14, 15, 16, 18, 19, 20, 22, 23, 24] M M' → Q (.inr 3) M') (h5 : ∀ b d, b < nb → a = nI b → d < nb → e = nI d → ¬ b = d → ¬ M.1 4 b = 0 → ¬ M.1 4 d = 0 → M.1 0 7 ≤ (sp_meet pn (M.1 3) 12 (nI ck) b d) → ¬ sp_cnt (jcf (M.1 10) (M.1 11) (sp_row (M.1 7) (M.1 8) (M.1 9) pn (M.1 3) nw b (nI ck)) (sp_row (M.1 7) (M.1 8) (M.1 9) pn (M.1 3) nw d (nI ck)) (sp_row (M.1 7) (M.1 8) (M.1 9) pn (M.1 3) nw b (sp_meet pn (M.1 3) 12 (nI ck) b d))) 48 = 0 → ∀ M', fr [5, 14, 15, 16, 18, 19, 20, 22, 23, 24] M M' → Q (.inl (some (.int (nI (sp_cnt (jcf (M.1 10) (M.1 11) (sp_row (M.1 7) (M.1 8) (M.1 9) pn (M.1 3) nw b (nI ck)) (sp_row (M.1 7) (M.1 8) (M.1 9) pn (M.1 3) nw d (nI ck)) (sp_row (M.1 7) (M.1 8) (M.1 9) pn (M.1 3) nw b (sp_meet pn (M.1 3) 12 (nI ck) b d))) 48))))) M') (h0 : ∀ b d, b < nb → a = nI b → d < nb → e = nI d → ¬ b = d → ¬ M.1 4 b = 0 → ¬ M.1 4 d = 0 → M.1 0 7 ≤ (sp_meet pn (M.1 3) 12 (nI ck) b d) → sp_cnt (jcf (M.1 10) (M.1 11) (sp_row (M.1 7) (M.1 8) (M.1 9) pn (M.1 3) nw b (nI ck)) (sp_row (M.1 7) (M.1 8) (M.1 9) pn (M.1 3) nw d (nI ck)) (sp_row (M.1 7) (M.1 8) (M.1 9) pn (M.1 3) nw b (sp_meet pn (M.1 3) 12 (nI ck) b d))) 48 = 0 → nw + sp_cnt (jca (M.1 10) (M.1 11) (sp_row (M.1 7) (M.1 8) (M.1 9) pn (M.1 3) nw b (nI ck)) (sp_row (M.1 7) (M.1 8) (M.1 9) pn (M.1 3) nw d (nI ck)) (sp_row (M.1 7) (M.1 8) (M.1 9) pn (M.1 3) nw b (sp_meet pn (M.1 3) 12 (nI ck) b d))) 48 ≤ 120 → ∀ M', jf M M' (jca (M.1 10) (M.1 11) (sp_row (M.1 7) (M.1 8) (M.1 9) pn (M.1 3) nw b (nI ck)) (sp_row (M.1 7) (M.1 8) (M.1 9) pn (M.1 3) nw d (nI ck)) (sp_row (M.1 7) (M.1 8) (M.1 9) pn (M.1 3) nw b (sp_meet pn (M.1 3) 12 (nI ck) b d))) (fun c => sp_get (M.1 10) 0 ((sp_row (M.1 7) (M.1 8) (M.1 9) pn (M.1 3) nw b (nI ck)) c)) (fun c => sp_get (M.1 11) 0 ((sp_row (M.1 7) (M.1 8) (M.1 9) pn (M.1 3) nw b (nI ck)) c)) d nw ck → Q (.inl (some (.int (nI (sp_cnt (jcf (M.1 10) (M.1 11) (sp_row (M.1 7) (M.1 8) (M.1 9) pn (M.1 3) nw b (nI ck)) (sp_row (M.1 7) (M.1 8) (M.1 9) pn (M.1 3) nw d (nI ck)) (sp_row (M.1 7) (M.1 8) (M.1 9) pn (M.1 3) nw b (sp_meet pn (M.1 3) 12 (nI ck) b d))) 48))))) M') : am_W kX_join 0 (am_in kX_join [.ref 0, .int a, .int e]) [] M Q := by
  obtain ⟨s1, s2, s3, s4, s5, s6⟩ := hS
  have s26 := s2.1
  have s41 := s4.1
  show am_W kX_join 0 _ [] M Q
  refine am_aload_n d7_0 rfl ?_
  refine am_iload_n d7_1 rfl ?_
  refine am_cv1 15 d7_2 ml7_50 rfl (by decide) sh_0 rfl rfl (Nat.le_of_ble_eq_true rfl) ?_
  refine c_requireBranch (nb := nb) s1 s26 (fun g1 => ?_) (fun g1 => ?_)
  · show am_W 7 5 _ _ _ _
    obtain ⟨b, hb, rfl⟩ := g1
    refine am_aload_n d7_5 rfl ?_
    refine am_iload_n d7_6 rfl ?_
    refine am_cv1 15 d7_7 ml7_50 rfl (by decide) sh_0 rfl rfl (Nat.le_of_ble_eq_true rfl) ?_
    refine c_requireBranch (nb := nb) s1 s26 (fun g1 => ?_) (fun g1 => ?_)
    · show am_W 7 10 _ _ _ _
      obtain ⟨d, hd, rfl⟩ := g1
      refine am_iload_n d7_10 rfl ?_
      refine am_iload_n d7_11 rfl ?_
      refine am_icne 25 d7_12 (by decide) (fun h12 => ?_) (fun h12 => ?_)
      · have nbd : ¬ b = d := fun z => h12 (by rw [z])
        refine am_aload_n d7_25 rfl ?_
        refine am_iload_n d7_26 rfl ?_
        refine am_cv1 20 d7_27 ml7_72 rfl (by decide) sh_0 rfl rfl (Nat.le_of_ble_eq_true rfl) ?_
        refine c_requireOpen (b := b) (by omega) (fun g5 => ?_) (fun g5 => ?_)
        · show am_W 7 30 _ _ _ _
          refine am_aload_n d7_30 rfl ?_
          refine am_iload_n d7_31 rfl ?_
          refine am_cv1 20 d7_32 ml7_72 rfl (by decide) sh_0 rfl rfl (Nat.le_of_ble_eq_true rfl) ?_
          refine c_requireOpen (b := d) (by omega) (fun g8 => ?_) (fun g8 => ?_)
          · show am_W 7 35 _ _ _ _
            refine am_aload_n d7_35 rfl ?_
            refine am_getr d7_36 fl7_12 sh_0 rfl ?_
            refine am_iload_n d7_39 rfl ?_
            refine am_iload_n d7_40 rfl ?_
            refine am_aload_n d7_41 rfl ?_
            refine am_geti d7_42 fl7_43 sh_0 rfl ?_
            rw [s5]
            refine am_cv3 78 d7_45 ml7_140 rfl (by decide) sh_1 rfl rfl rfl rfl (Nat.le_of_ble_eq_true rfl) ?_
            refine c_meet s2 hb hd ?_
            show am_W 7 48 _ (.int _ :: _) _ _
            refine am_istore_n d7_48 (Nat.le_of_ble_eq_true rfl) rfl ?_
            refine am_iload_n d7_49 rfl ?_
            refine am_aload_n d7_50 rfl ?_
            refine am_geti d7_51 fl7_47 sh_0 rfl ?_
            refine am_icge 67 d7_54 (by decide) (fun h54 => ?_) (fun h54 => ?_)
            · refine am_aload_n d7_67 rfl ?_
              refine am_aload_n d7_68 rfl ?_
              refine am_getr d7_69 fl7_26 sh_0 rfl ?_
              refine am_iload_n d7_72 rfl ?_
              refine am_aload_n d7_73 rfl ?_
              refine am_geti d7_74 fl7_43 sh_0 rfl ?_
              rw [s5]
              refine am_cv3 23 d7_77 ml7_113 rfl (by decide) sh_0 rfl rfl rfl rfl (Nat.le_of_ble_eq_true rfl) ?_
              refine c_look (v := 13) (nw := nw) (b := b) (pn := pn) (nb := nb) (Or.inl rfl) s2 s4 s3 hb (nI_pos' (by omega)) (fun M1 f1 v1 => ?_)
              show am_W 7 80 _ _ _ _
              refine am_aload_n d7_80 rfl ?_
              refine am_aload_n d7_81 rfl ?_
              refine am_getr d7_82 fl7_30 sh_0 rfl ?_
              refine am_iload_n d7_85 rfl ?_
              refine am_aload_n d7_86 rfl ?_
              refine am_geti d7_87 fl7_43 sh_0 rfl ?_
              rw [f1.eq 0 (by decide), s5]
              refine am_cv3 23 d7_90 ml7_113 rfl (by decide) sh_0 rfl rfl rfl rfl (Nat.le_of_ble_eq_true rfl) ?_
              refine c_look (v := 17) (nw := nw) (b := d) (pn := pn) (nb := nb) (Or.inr (Or.inl rfl)) (by rw [f1.eq 2 (by decide), f1.eq 3 (by decide)]; exact s2) (by rw [f1.eq 7 (by decide), f1.eq 9 (by decide)]; exact s4) (by rw [f1.eq 6 (by decide)]; exact s3) hd (nI_pos' (by omega)) (fun M2 f2 v2 => ?_)
              rw [f1.eq 10 (by decide), f1.eq 11 (by decide), f1.eq 7 (by decide), f1.eq 8 (by decide), f1.eq 9 (by decide), f1.eq 3 (by decide)] at v2
              have f12 : fr [5, 14, 15, 16, 18, 19, 20] M M2 := (f1.wk (by simp)).tr (f2.wk (by simp))
              show am_W 7 93 _ _ _ _
              refine am_aload_n d7_93 rfl ?_
              refine am_aload_n d7_94 rfl ?_
              refine am_getr d7_95 fl7_33 sh_0 rfl ?_
              refine am_iload_n d7_98 rfl ?_
              refine am_iload_n d7_99 rfl ?_
              refine am_cv3 23 d7_100 ml7_113 rfl (by decide) sh_0 rfl rfl rfl rfl (Nat.le_of_ble_eq_true rfl) ?_
              refine c_look (v := 21) (nw := nw) (b := b) (pn := pn) (nb := nb) (Or.inr (Or.inr rfl)) (by rw [f12.eq 2 (by decide), f12.eq 3 (by decide)]; exact s2) (by rw [f12.eq 7 (by decide), f12.eq 9 (by decide)]; exact s4) (by rw [f12.eq 6 (by decide)]; exact s3) hb (Int32.le_trans hz h54) (fun M3 f3 v3 => ?_)
              rw [f12.eq 10 (by decide), f12.eq 11 (by decide), f12.eq 7 (by decide), f12.eq 8 (by decide), f12.eq 9 (by decide), f12.eq 3 (by decide)] at v3
              have f13 : fr [5, 14, 15, 16, 18, 19, 20, 22, 23, 24] M M3 := (f12.wk (by simp)).tr (f3.wk (by simp))
              have w1 : vw M3 13 (M.1 10) (M.1 11) (M.1 8) (sp_row (M.1 7) (M.1 8) (M.1 9) pn (M.1 3) nw b (nI ck)) := fun c hc => by rw [f3.eq 14 (by decide), f3.eq 15 (by decide), f3.eq 16 (by decide), f2.eq 14 (by decide), f2.eq 15 (by decide), f2.eq 16 (by decide)]; exact v1 c hc
              have w2 : vw M3 17 (M.1 10) (M.1 11) (M.1 8) (sp_row (M.1 7) (M.1 8) (M.1 9) pn (M.1 3) nw d (nI ck)) := fun c hc => by rw [f3.eq 18 (by decide), f3.eq 19 (by decide), f3.eq 20 (by decide)]; exact v2 c hc
              have eca : ∀ c, c < 48 → ca M3 c = (jca (M.1 10) (M.1 11) (sp_row (M.1 7) (M.1 8) (M.1 9) pn (M.1 3) nw b (nI ck)) (sp_row (M.1 7) (M.1 8) (M.1 9) pn (M.1 3) nw d (nI ck)) (sp_row (M.1 7) (M.1 8) (M.1 9) pn (M.1 3) nw b (sp_meet pn (M.1 3) 12 (nI ck) b d))) c := fun c hc => by unfold ca jca; rw [vw_sm w1 v3 hc, vw_sm w1 w2 hc]
              have ecf : sp_cnt (fun c => ca M3 c && !sm M3 17 21 c) 48 = sp_cnt (jcf (M.1 10) (M.1 11) (sp_row (M.1 7) (M.1 8) (M.1 9) pn (M.1 3) nw b (nI ck)) (sp_row (M.1 7) (M.1 8) (M.1 9) pn (M.1 3) nw d (nI ck)) (sp_row (M.1 7) (M.1 8) (M.1 9) pn (M.1 3) nw b (sp_meet pn (M.1 3) 12 (nI ck) b d))) 48 := sp_cnt_congr (fun c hc => by show (ca M3 c && !sm M3 17 21 c) = _; unfold jcf; rw [eca c hc, vw_sm w2 v3 hc])
              have ecn : sp_cnt (ca M3) 48 = sp_cnt (jca (M.1 10) (M.1 11) (sp_row (M.1 7) (M.1 8) (M.1 9) pn (M.1 3) nw b (nI ck)) (sp_row (M.1 7) (M.1 8) (M.1 9) pn (M.1 3) nw d (nI ck)) (sp_row (M.1 7) (M.1 8) (M.1 9) pn (M.1 3) nw b (sp_meet pn (M.1 3) 12 (nI ck) b d))) 48 := sp_cnt_congr eca
              have lcf := sp_cnt_le (jcf (M.1 10) (M.1 11) (sp_row (M.1 7) (M.1 8) (M.1 9) pn (M.1 3) nw b (nI ck)) (sp_row (M.1 7) (M.1 8) (M.1 9) pn (M.1 3) nw d (nI ck)) (sp_row (M.1 7) (M.1 8) (M.1 9) pn (M.1 3) nw b (sp_meet pn (M.1 3) 12 (nI ck) b d))) 48
              have lca := sp_cnt_le (jca (M.1 10) (M.1 11) (sp_row (M.1 7) (M.1 8) (M.1 9) pn (M.1 3) nw b (nI ck)) (sp_row (M.1 7) (M.1 8) (M.1 9) pn (M.1 3) nw d (nI ck)) (sp_row (M.1 7) (M.1 8) (M.1 9) pn (M.1 3) nw b (sp_meet pn (M.1 3) 12 (nI ck) b d))) 48
              show am_W 7 103 _ _ _ _
              refine am_aload_n d7_103 rfl ?_
              refine am_cv0 28 d7_104 ml7_148 rfl (by decide) sh_0 rfl  (Nat.le_of_ble_eq_true rfl) ?_
              refine c_countConflicts ?_
              rw [ecf]
              show am_W 7 107 _ (.int _ :: _) _ _
              refine am_istore d7_107 (Nat.le_of_ble_eq_true rfl) rfl ?_
              refine am_iload d7_109 rfl ?_
              refine am_ifne 127 d7_111 (by decide) (fun h111 => ?_) (fun h111 => ?_)
              · have hk : ¬ sp_cnt (jcf (M.1 10) (M.1 11) (sp_row (M.1 7) (M.1 8) (M.1 9) pn (M.1 3) nw b (nI ck)) (sp_row (M.1 7) (M.1 8) (M.1 9) pn (M.1 3) nw d (nI ck)) (sp_row (M.1 7) (M.1 8) (M.1 9) pn (M.1 3) nw b (sp_meet pn (M.1 3) 12 (nI ck) b d))) 48 = 0 := fun z => h111 (by rw [z]; rfl)
                refine am_iload d7_127 rfl ?_
                refine am_iret d7_129 rfl rfl ?_
                first | exact h5 b d hb rfl hd rfl nbd g5 g8 h54 hk M3 f13 | exact h0 b d hb rfl hd rfl nbd g5 g8 h54 hk g7 M4 (jf_of f13 j4 eca (fun c hc => (w1 c hc).1) (fun c hc => (w1 c hc).2.1))
              · have hk : sp_cnt (jcf (M.1 10) (M.1 11) (sp_row (M.1 7) (M.1 8) (M.1 9) pn (M.1 3) nw b (nI ck)) (sp_row (M.1 7) (M.1 8) (M.1 9) pn (M.1 3) nw d (nI ck)) (sp_row (M.1 7) (M.1 8) (M.1 9) pn (M.1 3) nw b (sp_meet pn (M.1 3) 12 (nI ck) b d))) 48 = 0 := (nI_eq (by omega) (by decide)).mp h111
                refine am_aload_n d7_114 rfl ?_
                refine am_aload_n d7_115 rfl ?_
                refine am_cv0 27 d7_116 ml7_151 rfl (by decide) sh_0 rfl  (Nat.le_of_ble_eq_true rfl) ?_
                refine c_countCarried ?_
                rw [ecn]
                show am_W 7 119 _ (.int _ :: _) _ _
                refine am_cv1 21 d7_119 ml7_100 rfl (by decide) sh_0 rfl rfl (Nat.le_of_ble_eq_true rfl) ?_
                refine c_requireRoomFor (nw := nw) (by rw [f13.eq 6 (by decide)]; exact s3) s41 lca (fun g7 => ?_) (fun g7 => ?_)
                · show am_W 7 122 _ _ _ _
                  refine am_aload_n d7_122 rfl ?_
                  refine am_iload_n d7_123 rfl ?_
                  refine am_cv1 29 d7_124 ml7_154 rfl (by decide) sh_0 rfl rfl (Nat.le_of_ble_eq_true rfl) ?_
                  refine c_carryTo (b := d) (nw := nw) (ck := ck) (by rw [f13.eq 0 (by decide)]; exact s5) (by rw [f13.eq 6 (by decide)]; exact s3) (by rw [ecn]; exact g7) (fun M4 j4 => ?_)
                  show am_W 7 127 _ _ _ _
                  refine am_iload d7_127 rfl ?_
                  refine am_iret d7_129 rfl rfl ?_
                  first | exact h5 b d hb rfl hd rfl nbd g5 g8 h54 hk M3 f13 | exact h0 b d hb rfl hd rfl nbd g5 g8 h54 hk g7 M4 (jf_of f13 j4 eca (fun c hc => (w1 c hc).1) (fun c hc => (w1 c hc).2.1))
                · exact am_af_x (by decide) (by decide) (h4 b d hb rfl hd rfl nbd g5 g8 h54 hk g7 M3 f13)
            · refine am_thr (x := 2) d7_57 (by decide) (Nat.le_of_ble_eq_true rfl) ?_
              exact h3 b d hb rfl hd rfl nbd (Or.inr (Or.inr (Int32.not_le.mp h54)))
          · exact am_af_x (by decide) (by decide) (h3 b d hb rfl hd rfl nbd (Or.inr (Or.inl g8)))
        · exact am_af_x (by decide) (by decide) (h3 b d hb rfl hd rfl nbd (Or.inl g5))
      · have ebd : b = d := (nI_eq (by omega) (by omega)).mp h12
        refine am_thr (x := 1) d7_15 (by decide) (Nat.le_of_ble_eq_true rfl) ?_
        exact h2 b d hb rfl hd rfl ebd
    · exact am_af_x (by decide) (by decide) (h1 (fun z => g1 z.2))
  · exact am_af_x (by decide) (by decide) (h1 (fun z => g1 z.1))
theorem p_reach {pn : Nat → Nat} {nb nw ck : Nat} {M : am_M} {Q : am_T} (hS : bpS M pn nb nw ck) {a m u : Int32} (h1 : ¬ (ix a nb ∧ ix u 12) → Q (.inr 0) M) (h2 : ∀ b o, b < nb → a = nI b → o < 12 → u = nI o → ¬ bp_rd M b m → Q (.inr 1) M) (h0 : ∀ b o, b < nb → a = nI b → o < 12 → u = nI o → bp_rd M b m → ∀ M', fr [5, 14, 15, 16] M M' → Q (.inl (some (.int (sp_clo (sp_fld (fun t f => sp_refd (fun c => sp_get (M.1 10) 0 (sp_row (M.1 7) (M.1 8) (M.1 9) pn (M.1 3) nw b m c)) (fun c => sp_get (M.1 11) 0 (sp_row (M.1 7) (M.1 8) (M.1 9) pn (M.1 3) nw b m c)) t f) 4) 12 ((1 : Int32) <<< (nI o &&& 31)) 0)))) M') : am_W kX_reach 0 (am_in kX_reach [.ref 0, .int a, .int m, .int u]) [] M Q := by
  obtain ⟨s1, s2, s3, s4, s5, s6⟩ := hS
  have s26 := s2.1
  have s41 := s4.1
  show am_W kX_reach 0 _ [] M Q
  refine am_aload_n d9_0 rfl ?_
  refine am_iload_n d9_1 rfl ?_
  refine am_cv1 15 d9_2 ml9_50 rfl (by decide) sh_0 rfl rfl (Nat.le_of_ble_eq_true rfl) ?_
  refine c_requireBranch (nb := nb) s1 s26 (fun g1 => ?_) (fun g1 => ?_)
  · show am_W 9 5 _ _ _ _
    obtain ⟨b, hb, rfl⟩ := g1
    refine am_iload_n d9_5 rfl ?_
    refine am_cs1 16 d9_6 ml9_85 rfl (by decide) rfl rfl (Nat.le_of_ble_eq_true rfl) ?_
    refine c_requireObject (fun g2 => ?_) (fun g2 => ?_)
    · show am_W 9 9 _ _ _ _
      obtain ⟨o, ho, rfl⟩ := g2
      refine am_aload_n d9_9 rfl ?_
      refine am_iload_n d9_10 rfl ?_
      refine am_iload_n d9_11 rfl ?_
      refine am_cv2 19 d9_12 ml9_54 rfl (by decide) sh_0 rfl rfl rfl (Nat.le_of_ble_eq_true rfl) ?_
      refine c_requireReadable (b := b) (by omega) (fun g4 => ?_) (fun g4 => ?_)
      · show am_W 9 15 _ _ _ _
        refine am_aload_n d9_15 rfl ?_
        refine am_aload_n d9_16 rfl ?_
        refine am_getr d9_17 fl9_26 sh_0 rfl ?_
        refine am_iload_n d9_20 rfl ?_
        refine am_iload_n d9_21 rfl ?_
        refine am_cv3 23 d9_22 ml9_113 rfl (by decide) sh_0 rfl rfl rfl rfl (Nat.le_of_ble_eq_true rfl) ?_
        refine c_look (v := 13) (Or.inl rfl) s2 s4 s3 hb (rd_pos s2 hb g4) (fun M1 f1 v1 => ?_)
        show am_W 9 25 _ _ _ _
        refine am_aload_n d9_25 rfl ?_
        refine am_getr d9_26 fl9_26 sh_0 rfl ?_
        refine am_iconst 1 d9_29 (by decide) ?_
        refine am_iload_n d9_30 rfl ?_
        refine am_ishl d9_31 ?_
        refine am_cv1 99 d9_32 ml9_162 rfl (by decide) sh_13 rfl rfl (Nat.le_of_ble_eq_true rfl) ?_
        refine c_allLedTo (v := 13) (Or.inl rfl) ?_
        rw [sp_all_c (fun c hc => (v1 c hc).1) (fun c hc => (v1 c hc).2.1)]
        show am_W 9 35 _ (.int _ :: _) _ _
        refine am_iret d9_35 rfl rfl ?_
        exact h0 b o hb rfl ho rfl g4 M1 f1
      · exact am_af_x (by decide) (by decide) (h2 b o hb rfl ho rfl g4)
    · exact am_af_x (by decide) (by decide) (h1 (fun z => g2 z.2))
  · exact am_af_x (by decide) (by decide) (h1 (fun z => g1 z.1))
theorem p_find {pn : Nat → Nat} {nb nw ck : Nat} {M : am_M} {Q : am_T} (hS : bpS M pn nb nw ck) {a m : Int32} {q : Nat → Nat} {len : Nat} (ht : tx M q len) (h1 : ¬ ix a nb → Q (.inr 0) M) (h2 : ∀ b, b < nb → a = nI b → ¬ bp_rd M b m → Q (.inr 1) M) (h0 : ∀ b, b < nb → a = nI b → bp_rd M b m → ∀ M', fr [5, 14, 15, 16, 25] M M' → M'.1 25 1 = M.1 25 1 → Q (.inl (some (.int (ps_find (fun c => sp_get (M.1 10) 0 (sp_row (M.1 7) (M.1 8) (M.1 9) pn (M.1 3) nw b m c)) (fun c => sp_get (M.1 11) 0 (sp_row (M.1 7) (M.1 8) (M.1 9) pn (M.1 3) nw b m c)) q len)))) M') : am_W kX_find 0 (am_in kX_find [.ref 0, .int a, .int m]) [] M Q := by
  obtain ⟨s1, s2, s3, s4, s5, s6⟩ := hS
  have s26 := s2.1
  have s41 := s4.1
  show am_W kX_find 0 _ [] M Q
  refine am_aload_n d12_0 rfl ?_
  refine am_iload_n d12_1 rfl ?_
  refine am_cv1 15 d12_2 ml12_50 rfl (by decide) sh_0 rfl rfl (Nat.le_of_ble_eq_true rfl) ?_
  refine c_requireBranch (nb := nb) s1 s26 (fun g1 => ?_) (fun g1 => ?_)
  · show am_W 12 5 _ _ _ _
    obtain ⟨b, hb, rfl⟩ := g1
    refine am_aload_n d12_5 rfl ?_
    refine am_iload_n d12_6 rfl ?_
    refine am_iload_n d12_7 rfl ?_
    refine am_cv2 19 d12_8 ml12_54 rfl (by decide) sh_0 rfl rfl rfl (Nat.le_of_ble_eq_true rfl) ?_
    refine c_requireReadable (b := b) (by omega) (fun g4 => ?_) (fun g4 => ?_)
    · show am_W 12 11 _ _ _ _
      refine am_aload_n d12_11 rfl ?_
      refine am_aload_n d12_12 rfl ?_
      refine am_getr d12_13 fl12_26 sh_0 rfl ?_
      refine am_iload_n d12_16 rfl ?_
      refine am_iload_n d12_17 rfl ?_
      refine am_cv3 23 d12_18 ml12_113 rfl (by decide) sh_0 rfl rfl rfl rfl (Nat.le_of_ble_eq_true rfl) ?_
      refine c_look (v := 13) (Or.inl rfl) s2 s4 s3 hb (rd_pos s2 hb g4) (fun M1 f1 v1 => ?_)
      show am_W 12 21 _ _ _ _
      refine am_aload_n d12_21 rfl ?_
      refine am_getr d12_22 fl12_39 sh_0 rfl ?_
      refine am_aload_n d12_25 rfl ?_
      refine am_getr d12_26 fl12_26 sh_0 rfl ?_
      refine am_cv1 84 d12_29 ml12_182 rfl (by decide) sh_25 rfl rfl (Nat.le_of_ble_eq_true rfl) ?_
      refine c_follow (v := 13) (q := q) (len := len) (Or.inl rfl) (by unfold tx at ht ⊢; rw [f1.eq 25 (by decide), f1.eq 26 (by decide)]; exact ht) (fun M2 f2 e2 => ?_)
      rw [ps_find_c (fun c hc => (v1 c hc).1) (fun c hc => (v1 c hc).2.1)]
      show am_W 12 32 _ (.int _ :: _) _ _
      refine am_iret d12_32 rfl rfl ?_
      exact h0 b hb rfl g4 M2 ((f1.wk (by simp)).tr (f2.wk (by simp))) (e2.trans (by rw [f1.eq 25 (by decide)]))
    · exact am_af_x (by decide) (by decide) (h2 b hb rfl g4)
  · exact am_af_x (by decide) (by decide) (h1 g1)
theorem p_type {pn : Nat → Nat} {nb nw ck : Nat} {M : am_M} {Q : am_T} (hS : bpS M pn nb nw ck) {w : Int32} {len : Nat} (hl : M.1 25 1 = nI len) (hl2 : len ≤ 32) (h1 : (∃ j, j < 4 ∧ ty_bad w j = true) → Q (.inr 1) M) (h2 : (∀ j, j < 4 → ¬ ty_bad w j = true) → ¬ len + sp_cnt (ty_on w) 4 ≤ 32 → Q (.inr 2) M) (h0 : (∀ j, j < 4 → ¬ ty_bad w j = true) → len + sp_cnt (ty_on w) 4 ≤ 32 → ∀ M', fr [25, 26] M M' → M'.1 25 1 = nI (len + sp_cnt (ty_on w) 4) → M'.1 26 = ty_t w (M.1 26) len 4 → Q (.inl (some (.int (nI (len + sp_cnt (ty_on w) 4))))) M') : am_W kX_type 0 (am_in kX_type [.ref 0, .int w]) [] M Q := by
  obtain ⟨s1, s2, s3, s4, s5, s6⟩ := hS
  have s26 := s2.1
  have s41 := s4.1
  show am_W kX_type 0 _ [] M Q
  refine am_aload_n d10_0 rfl ?_
  refine am_getr d10_1 fl10_39 sh_0 rfl ?_
  refine am_iload_n d10_4 rfl ?_
  refine am_cv1 80 d10_5 ml10_166 rfl (by decide) sh_25 rfl rfl (Nat.le_of_ble_eq_true rfl) ?_
  refine c_canHold (fun g1 => ?_) (fun g1 => ?_)
  · show am_W 10 8 _ (.int 1 :: _) _ _
    refine am_ifne 21 d10_8 (by decide) (fun _ => ?_) (fun h => absurd h (by decide))
    refine am_aload_n d10_21 rfl ?_
    refine am_getr d10_22 fl10_39 sh_0 rfl ?_
    refine am_iload_n d10_25 rfl ?_
    refine am_cv1 81 d10_26 ml10_172 rfl (by decide) sh_25 rfl rfl (Nat.le_of_ble_eq_true rfl) ?_
    refine c_hasRoomFor hl hl2 (fun g2 => ?_) (fun g2 => ?_)
    · show am_W 10 29 _ (.int 1 :: _) _ _
      refine am_ifne 42 d10_29 (by decide) (fun _ => ?_) (fun h => absurd h (by decide))
      refine am_aload_n d10_42 rfl ?_
      refine am_getr d10_43 fl10_39 sh_0 rfl ?_
      refine am_iload_n d10_46 rfl ?_
      refine am_cv1 82 d10_47 ml10_177 rfl (by decide) sh_25 rfl rfl (Nat.le_of_ble_eq_true rfl) ?_
      refine c_Padd hl g2 (fun M1 f1 e1 e2 => ?_)
      show am_W 10 50 _ (.int _ :: _) _ _
      refine am_iret d10_50 rfl rfl ?_
      exact h0 g1 g2 M1 f1 e1 e2
    · show am_W 10 29 _ (.int 0 :: _) _ _
      refine am_ifne 42 d10_29 (by decide) (fun h => absurd h (by decide)) (fun _ => ?_)
      refine am_thr (x := 2) d10_32 (by decide) (Nat.le_of_ble_eq_true rfl) ?_
      first | exact h2 g1 g2 | exact h1 g1
  · show am_W 10 8 _ (.int 0 :: _) _ _
    refine am_ifne 21 d10_8 (by decide) (fun h => absurd h (by decide)) (fun _ => ?_)
    refine am_thr (x := 1) d10_11 (by decide) (Nat.le_of_ble_eq_true rfl) ?_
    first | exact h2 g1 g2 | exact h1 g1
theorem p_erase {pn : Nat → Nat} {nb nw ck : Nat} {M : am_M} {Q : am_T} (hS : bpS M pn nb nw ck) (hQ : Q (.inl none) (am_set M 25 1 0)) : am_W kX_erase 0 (am_in kX_erase [.ref 0]) [] M Q := by
  obtain ⟨s1, s2, s3, s4, s5, s6⟩ := hS
  have s26 := s2.1
  have s41 := s4.1
  show am_W kX_erase 0 _ [] M Q
  refine am_aload_n d11_0 rfl ?_
  refine am_getr d11_1 fl11_39 sh_0 rfl ?_
  refine am_cv0 83 d11_4 ml11_179 rfl (by decide) sh_25 rfl  (Nat.le_of_ble_eq_true rfl) ?_
  refine c_Pclear ?_
  show am_W 11 7 _ _ _ _
  refine am_vret d11_7 rfl ?_
  exact hQ
theorem p_state {pn : Nat → Nat} {nb nw ck : Nat} {M : am_M} {Q : am_T} (hS : bpS M pn nb nw ck) {w : Int32} (h1 : ¬ ix w 4 → Q (.inr 1) M) (h0 : ix w 4 → Q (.inl (some (.int (if w = 0 then M.1 0 6 else if w = 1 then M.1 0 7 else if w = 2 then nI nw else nI nb)))) M) : am_W kX_state 0 (am_in kX_state [.ref 0, .int w]) [] M Q := by
  obtain ⟨s1, s2, s3, s4, s5, s6⟩ := hS
  have s26 := s2.1
  have s41 := s4.1
  show am_W kX_state 0 _ [] M Q
  refine am_iload_n d13_0 rfl ?_
  refine am_iconst (nI 3) d13_1 (by decide) ?_
  refine am_cs2 18 d13_2 ml13_110 rfl (by decide) rfl rfl rfl (Nat.le_of_ble_eq_true rfl) ?_
  refine c_requireWhat (n := 3) (by decide) (fun g6 => ?_) (fun g6 => ?_)
  · show am_W 13 5 _ _ _ _
    refine am_iload_n d13_5 rfl ?_
    refine am_ifne 14 d13_6 (by decide) (fun h6 => ?_) (fun h6 => ?_)
    · refine am_iload_n d13_14 rfl ?_
      refine am_iconst 1 d13_15 (by decide) ?_
      refine am_icne 24 d13_16 (by decide) (fun h16 => ?_) (fun h16 => ?_)
      · refine am_iload_n d13_24 rfl ?_
        refine am_iconst 2 d13_25 (by decide) ?_
        refine am_icne 39 d13_26 (by decide) (fun h26 => ?_) (fun h26 => ?_)
        · refine am_aload_n d13_39 rfl ?_
          refine am_getr d13_40 fl13_12 sh_0 rfl ?_
          refine am_geti d13_43 fl13_58 sh_1 rfl ?_
          refine am_iret d13_46 rfl rfl ?_
          have hz := h0 g6
          first | (rw [if_pos h6] at hz; exact hz) | (rw [if_neg h6, if_pos h16] at hz; exact hz) | (rw [if_neg h6, if_neg h16, if_pos h26] at hz; rw [s3]; exact hz) | (rw [if_neg h6, if_neg h16, if_neg h26] at hz; rw [s1]; exact hz)
        · refine am_aload_n d13_29 rfl ?_
          refine am_getr d13_30 fl13_19 sh_0 rfl ?_
          refine am_geti d13_33 fl13_186 sh_6 rfl ?_
          refine am_goto 46 d13_36 (by decide) ?_
          refine am_iret d13_46 rfl rfl ?_
          have hz := h0 g6
          first | (rw [if_pos h6] at hz; exact hz) | (rw [if_neg h6, if_pos h16] at hz; exact hz) | (rw [if_neg h6, if_neg h16, if_pos h26] at hz; rw [s3]; exact hz) | (rw [if_neg h6, if_neg h16, if_neg h26] at hz; rw [s1]; exact hz)
      · refine am_aload_n d13_19 rfl ?_
        refine am_geti d13_20 fl13_47 sh_0 rfl ?_
        refine am_iret d13_23 rfl rfl ?_
        have hz := h0 g6
        first | (rw [if_pos h6] at hz; exact hz) | (rw [if_neg h6, if_pos h16] at hz; exact hz) | (rw [if_neg h6, if_neg h16, if_pos h26] at hz; rw [s3]; exact hz) | (rw [if_neg h6, if_neg h16, if_neg h26] at hz; rw [s1]; exact hz)
    · refine am_aload_n d13_9 rfl ?_
      refine am_geti d13_10 fl13_43 sh_0 rfl ?_
      refine am_iret d13_13 rfl rfl ?_
      have hz := h0 g6
      first | (rw [if_pos h6] at hz; exact hz) | (rw [if_neg h6, if_pos h16] at hz; exact hz) | (rw [if_neg h6, if_neg h16, if_pos h26] at hz; rw [s3]; exact hz) | (rw [if_neg h6, if_neg h16, if_neg h26] at hz; rw [s1]; exact hz)
  · exact am_af_x (by decide) (by decide) (h1 g6)
theorem p_about {pn : Nat → Nat} {nb nw ck : Nat} {M : am_M} {Q : am_T} (hS : bpS M pn nb nw ck) {a w : Int32} (h1 : ¬ ix a nb → Q (.inr 0) M) (h2 : ∀ b, b < nb → a = nI b → ¬ ix w 4 → Q (.inr 1) M) (h0 : ∀ b, b < nb → a = nI b → ix w 4 → Q (.inl (some (.int (if w = 0 then (if M.1 4 b = 0 then 0 else 1) else if w = 1 then M.1 2 b else if w = 2 then M.1 3 b else nI (sp_cnt (fun i => decide (M.1 7 i = nI b)) nw))))) M) : am_W kX_about 0 (am_in kX_about [.ref 0, .int a, .int w]) [] M Q := by
  obtain ⟨s1, s2, s3, s4, s5, s6⟩ := hS
  have s26 := s2.1
  have s41 := s4.1
  show am_W kX_about 0 _ [] M Q
  refine am_aload_n d14_0 rfl ?_
  refine am_iload_n d14_1 rfl ?_
  refine am_cv1 15 d14_2 ml14_50 rfl (by decide) sh_0 rfl rfl (Nat.le_of_ble_eq_true rfl) ?_
  refine c_requireBranch (nb := nb) s1 s26 (fun g1 => ?_) (fun g1 => ?_)
  · show am_W 14 5 _ _ _ _
    obtain ⟨b, hb, rfl⟩ := g1
    refine am_iload_n d14_5 rfl ?_
    refine am_iconst (nI 3) d14_6 (by decide) ?_
    refine am_cs2 18 d14_7 ml14_110 rfl (by decide) rfl rfl rfl (Nat.le_of_ble_eq_true rfl) ?_
    refine c_requireWhat (n := 3) (by decide) (fun g6 => ?_) (fun g6 => ?_)
    · show am_W 14 10 _ _ _ _
      refine am_iload_n d14_10 rfl ?_
      refine am_ifne 32 d14_11 (by decide) (fun h11 => ?_) (fun h11 => ?_)
      · refine am_iload_n d14_32 rfl ?_
        refine am_iconst 1 d14_33 (by decide) ?_
        refine am_icne 47 d14_34 (by decide) (fun h34 => ?_) (fun h34 => ?_)
        · refine am_iload_n d14_47 rfl ?_
          refine am_iconst 2 d14_48 (by decide) ?_
          refine am_icne 64 d14_49 (by decide) (fun h49 => ?_) (fun h49 => ?_)
          · refine am_aload_n d14_64 rfl ?_
            refine am_getr d14_65 fl14_19 sh_0 rfl ?_
            refine am_iload_n d14_68 rfl ?_
            refine am_cv1 106 d14_69 ml14_193 rfl (by decide) sh_6 rfl rfl (Nat.le_of_ble_eq_true rfl) ?_
            refine c_countOf s3 s41 ?_
            show am_W 14 72 _ (.int _ :: _) _ _
            refine am_iret d14_72 rfl rfl ?_
            have hz := h0 b hb rfl g6
            first | (rw [if_pos h11, if_pos h23] at hz; exact hz) | (rw [if_pos h11, if_neg h23] at hz; exact hz) | (rw [if_neg h11, if_pos h34] at hz; exact hz) | (rw [if_neg h11, if_neg h34, if_pos h49] at hz; exact hz) | (rw [if_neg h11, if_neg h34, if_neg h49] at hz; exact hz)
          · refine am_aload_n d14_52 rfl ?_
            refine am_getr d14_53 fl14_12 sh_0 rfl ?_
            refine am_getr d14_56 fl14_190 sh_1 rfl ?_
            refine am_iload_n d14_59 rfl ?_
            refine am_ialdN b d14_60 sh_3 (by omega) (by decide) ?_
            refine am_goto 72 d14_61 (by decide) ?_
            refine am_iret d14_72 rfl rfl ?_
            have hz := h0 b hb rfl g6
            first | (rw [if_pos h11, if_pos h23] at hz; exact hz) | (rw [if_pos h11, if_neg h23] at hz; exact hz) | (rw [if_neg h11, if_pos h34] at hz; exact hz) | (rw [if_neg h11, if_neg h34, if_pos h49] at hz; exact hz) | (rw [if_neg h11, if_neg h34, if_neg h49] at hz; exact hz)
        · refine am_aload_n d14_37 rfl ?_
          refine am_getr d14_38 fl14_12 sh_0 rfl ?_
          refine am_getr d14_41 fl14_187 sh_1 rfl ?_
          refine am_iload_n d14_44 rfl ?_
          refine am_ialdN b d14_45 sh_2 (by omega) (by decide) ?_
          refine am_iret d14_46 rfl rfl ?_
          have hz := h0 b hb rfl g6
          first | (rw [if_pos h11, if_pos h23] at hz; exact hz) | (rw [if_pos h11, if_neg h23] at hz; exact hz) | (rw [if_neg h11, if_pos h34] at hz; exact hz) | (rw [if_neg h11, if_neg h34, if_pos h49] at hz; exact hz) | (rw [if_neg h11, if_neg h34, if_neg h49] at hz; exact hz)
      · refine am_aload_n d14_14 rfl ?_
        refine am_getr d14_15 fl14_12 sh_0 rfl ?_
        refine am_getr d14_18 fl14_81 sh_1 rfl ?_
        refine am_iload_n d14_21 rfl ?_
        refine am_zaldN b d14_22 sh_4 (by omega) (by decide) ?_
        refine am_ifeq 30 d14_23 (by decide) (fun h23 => ?_) (fun h23 => ?_)
        · refine am_iconst 0 d14_30 (by decide) ?_
          refine am_iret d14_31 rfl rfl ?_
          have hz := h0 b hb rfl g6
          first | (rw [if_pos h11, if_pos h23] at hz; exact hz) | (rw [if_pos h11, if_neg h23] at hz; exact hz) | (rw [if_neg h11, if_pos h34] at hz; exact hz) | (rw [if_neg h11, if_neg h34, if_pos h49] at hz; exact hz) | (rw [if_neg h11, if_neg h34, if_neg h49] at hz; exact hz)
        · refine am_iconst 1 d14_26 (by decide) ?_
          refine am_goto 31 d14_27 (by decide) ?_
          refine am_iret d14_31 rfl rfl ?_
          have hz := h0 b hb rfl g6
          first | (rw [if_pos h11, if_pos h23] at hz; exact hz) | (rw [if_pos h11, if_neg h23] at hz; exact hz) | (rw [if_neg h11, if_pos h34] at hz; exact hz) | (rw [if_neg h11, if_neg h34, if_pos h49] at hz; exact hz) | (rw [if_neg h11, if_neg h34, if_neg h49] at hz; exact hz)
    · exact am_af_x (by decide) (by decide) (h2 b hb rfl g6)
  · exact am_af_x (by decide) (by decide) (h1 g1)
theorem mk_b_k {M M1 : am_M} {pn : Nat → Nat} {nw b j : Nat} (h : fr [5, 12, 14, 15, 16] M M1) : mk_b M1 pn nw b j = mk_b M pn nw b j := by
  unfold mk_b bp_first
  rw [h.eq 0 (by decide), h.eq 3 (by decide), h.eq 4 (by decide), h.eq 7 (by decide), h.eq 8 (by decide), h.eq 9 (by decide)]
theorem p_trim {pn : Nat → Nat} {nb nw ck : Nat} {M : am_M} {Q : am_T} (hS : bpS M pn nb nw ck) {m : Int32} (h1 : (m < M.1 0 7 ∨ M.1 0 6 < m) → Q (.inr 1) M) (h0 : ¬ m < M.1 0 7 → m ≤ M.1 0 6 → ∀ M', fr [0, 5, 6, 7, 8, 9, 10, 11, 12, 14, 15, 16] M M' → M'.1 0 6 = M.1 0 6 → M'.1 0 7 = m → M'.1 6 6 = nI (sp_cnt (fun j => sp_any (fun b => mk_b (am_set M 0 7 m) pn nw b j) nb) nw) → (∀ p, 7 ≤ p → p ≤ 11 → M'.1 p = sp_cp (fun j => sp_any (fun b => mk_b (am_set M 0 7 m) pn nw b j) nb) (M.1 p) nw) → Q (.inl (some (.int (nI (nw - sp_cnt (fun j => sp_any (fun b => mk_b (am_set M 0 7 m) pn nw b j) nb) nw))))) M') : am_W kX_trim 0 (am_in kX_trim [.ref 0, .int m]) [] M Q := by
  obtain ⟨s1, s2, s3, s4, s5, s6⟩ := hS
  have s26 := s2.1
  have s41 := s4.1
  have loop : ∀ M1 : am_M, fr [12] (am_set M 0 7 m) M1 → ¬ m < M.1 0 7 → m ≤ M.1 0 6 → ∀ i, i ≤ nb → ∀ M2 : am_M, fr [5, 12, 14, 15, 16] M1 M2 → (∀ j, j < nw → M2.1 12 j = if sp_any (fun b => mk_b (am_set M 0 7 m) pn nw b j) i = true then 1 else 0) → am_W kX_trim 40 [.ref 0, .int m, .int (nI i)] [] M2 Q := by
    intro M1 f1 g5 g13
    refine am_loop nb (fun i hi ih => ?_)
    intro M2 f2 I
    have k2 : fr [5, 12, 14, 15, 16] (am_set M 0 7 m) M2 := (f1.wk (by simp)).tr f2
    refine am_iload_n d8_40 rfl ?_
    refine am_aload_n d8_41 rfl ?_
    refine am_getr d8_42 fl8_12 sh_0 rfl ?_
    refine am_geti d8_45 fl8_58 sh_1 rfl ?_
    rw [k2.eq 1 (by decide)]
    rw [show (am_set M 0 7 m).1 1 4 = nI nb from s1]
    refine am_icgeN 62 i nb d8_48 (by decide) rfl rfl (by omega) (by omega) (fun h48 => ?_) (fun h48 => ?_)
    · refine am_aload_n d8_62 rfl ?_
      refine am_getr d8_63 fl8_19 sh_0 rfl ?_
      refine am_cv0 112 d8_66 ml8_159 rfl (by decide) sh_6 rfl  (Nat.le_of_ble_eq_true rfl) ?_
      refine c_dropUnmarked (nw := nw) s41 (by rw [k2.eq 6 (by decide)]; exact s3) (fun M3 f3 e3 c3 => ?_)
      show am_W 8 69 _ (.int _ :: _) _ _
      refine am_iret d8_69 rfl rfl ?_
      obtain rfl : i = nb := by omega
      have ek : ∀ j, j < nw → (fun i => !decide (M2.1 12 i = 0)) j = (fun j => sp_any (fun b => mk_b (am_set M 0 7 m) pn nw b j) i) j := fun j hj => by
        show (!decide (M2.1 12 j = 0)) = _
        rw [I j hj]
        by_cases p1 : sp_any (fun b => mk_b (am_set M 0 7 m) pn nw b j) i = true
        · simp [p1]
        · simp [p1]
      rw [sp_cnt_congr ek]
      refine h0 g5 g13 M3 ((fr.rf.set (by simp)).tr ((k2.wk (by simp)).tr (f3.wk (by simp)))) ?_ ?_ ?_ ?_
      · rw [f3.eq 0 (by decide), k2.eq 0 (by decide)]; rfl
      · rw [f3.eq 0 (by decide), k2.eq 0 (by decide)]; rfl
      · rw [e3, sp_cnt_congr ek]
      · intro p q1 q2
        rw [c3 p q1 q2, sp_cp_congr ek, k2.eq p (by simp; omega), am_set_ne (by omega)]
    · refine am_aload_n d8_51 rfl ?_
      refine am_iload_n d8_52 rfl ?_
      refine am_cv1 25 d8_53 ml8_130 rfl (by decide) sh_0 rfl rfl (Nat.le_of_ble_eq_true rfl) ?_
      refine c_markGiven (nb := nb) (nw := nw) (pn := pn) (b := i) (by rw [k2.eq 2 (by decide), k2.eq 3 (by decide)]; exact s2) (by rw [k2.eq 7 (by decide), k2.eq 9 (by decide)]; exact s4) (by rw [k2.eq 6 (by decide)]; exact s3) (by omega) (first_pos (nb := nb) (pn := pn) (by rw [k2.eq 2 (by decide), k2.eq 3 (by decide)]; exact s2) (by omega)) (fun M3 f3 m3 => ?_)
      show am_W 8 56 _ _ _ _
      refine am_incN i d8_56 rfl rfl ?_
      refine am_goto 40 d8_59 (by decide) ?_
      refine ih h48 M3 (f2.tr f3) (fun j hj => ?_)
      rw [m3 j hj, mk_b_k k2, I j hj]
      simp only [sp_any]
      by_cases p1 : mk_b (am_set M 0 7 m) pn nw i j = true
      · simp [p1]
      · simp [p1]
  show am_W kX_trim 0 _ [] M Q
  refine am_iload_n d8_0 rfl ?_
  refine am_aload_n d8_1 rfl ?_
  refine am_geti d8_2 fl8_47 sh_0 rfl ?_
  refine am_iclt 16 d8_5 (by decide) (fun h5 => ?_) (fun h5 => ?_)
  · refine am_thr (x := 1) d8_16 (by decide) (Nat.le_of_ble_eq_true rfl) ?_
    first | exact h1 (Or.inl h5) | exact h1 (Or.inr (Int32.not_le.mp h13))
  · refine am_iload_n d8_8 rfl ?_
    refine am_aload_n d8_9 rfl ?_
    refine am_geti d8_10 fl8_43 sh_0 rfl ?_
    refine am_icle 26 d8_13 (by decide) (fun h13 => ?_) (fun h13 => ?_)
    · refine am_aload_n d8_26 rfl ?_
      refine am_iload_n d8_27 rfl ?_
      refine am_put d8_28 fl8_47 sh_0 rfl rfl rfl rfl ?_
      refine am_aload_n d8_31 rfl ?_
      refine am_getr d8_32 fl8_19 sh_0 rfl ?_
      refine am_cv0 108 d8_35 ml8_127 rfl (by decide) sh_6 rfl  (Nat.le_of_ble_eq_true rfl) ?_
      refine c_unmarkAll (nw := nw) s3 s41 (fun M1 f1 m1 => ?_)
      show am_W 8 38 _ _ _ _
      refine am_iconst (nI 0) d8_38 (by decide) ?_
      refine am_istore_n d8_39 (Nat.le_of_ble_eq_true rfl) rfl ?_
      refine loop M1 f1 h5 h13 0 (Nat.zero_le _) M1 fr.rf (fun j hj => ?_)
      rw [m1 j hj]
      simp [sp_any]
    · refine am_thr (x := 1) d8_16 (by decide) (Nat.le_of_ble_eq_true rfl) ?_
      first | exact h1 (Or.inl h5) | exact h1 (Or.inr (Int32.not_le.mp h13))
end
section
/-! the model: small methods -/
/-- the model's memory: branches and rows -/
def moS (M : am_M) (pn : Nat → Nat) (nb nw ck : Nat) : Prop := M.1 27 3 = nI nb ∧ bp_P (M.1 28) (M.1 29) pn nb ∧ M.1 27 7 = nI nw ∧ bp_R (M.1 31) (M.1 33) nb nw ∧ M.1 27 1 = nI ck ∧ ck < 2 ^ 30 ∧ (∀ i, i < nw → 0 ≤ M.1 32 i) ∧ M.1 28 0 = -1 ∧ 0 < nb
def lt_v : Option Nat → Int32
  | none => -1
  | some i => nI i
def mo_first (M : am_M) (b : Nat) : Int32 := if M.1 29 b ≤ M.1 27 2 then M.1 27 2 else M.1 29 b
def mo_rd (M : am_M) (b : Nat) (m : Int32) : Prop := M.1 30 b = 0 ∧ ¬ m < mo_first M b ∧ m ≤ M.1 27 1
def mo_row (M : am_M) (pn : Nat → Nat) (nw b : Nat) (m : Int32) (c : Nat) : Option Nat := sp_row (M.1 31) (M.1 32) (M.1 33) pn (M.1 29) nw b m c
theorem mo_row_lt {M : am_M} {pn : Nat → Nat} {nw b i : Nat} {m : Int32} {c : Nat} (h : mo_row M pn nw b m c = some i) : i < nw := (sp_last_lt h).1
theorem m_thrown {M : am_M} {Q : am_T} (hQ : Q (.inl (some (.int (M.1 27 0)))) M) : am_W kM_thrown 0 (am_in kM_thrown [.ref 27]) [] M Q := by
  show am_W kM_thrown 0 _ [] M Q
  refine am_aload_n d33_0 rfl ?_
  refine am_geti d33_1 fl33_45 sh_27 rfl ?_
  refine am_iret d33_4 rfl rfl ?_
  exact hQ
theorem m_noBranch {pn : Nat → Nat} {nb nw ck : Nat} {M : am_M} {Q : am_T} (hS : moS M pn nb nw ck) {x : Int32} (h1 : ¬ ix x nb → Q (.inl (some (.int 1))) M) (h0 : ix x nb → Q (.inl (some (.int 0))) M) : am_W kM_noBranch 0 (am_in kM_noBranch [.ref 27, .int x]) [] M Q := by
  have hS0 := hS
  obtain ⟨s1, s2, s3, s4, s5, s6, s7, s8, s9⟩ := hS
  have s26 := s2.1
  have s41 := s4.1
  show am_W kM_noBranch 0 _ [] M Q
  refine am_iload_n d34_0 rfl ?_
  refine am_iflt 12 d34_1 (by decide) (fun h1' => ?_) (fun h1' => ?_)
  · refine am_iconst 1 d34_12 (by decide) ?_
    refine am_goto 17 d34_13 (by decide) ?_
    refine am_iret d34_17 rfl (by decide) ?_
    rw [s1] at *
    first | exact h1 (ix_neg (by omega) h1') | exact h1 (ix_nlt (by omega) h9) | exact h0 (ix_lt (by omega) h1' h9)
  · refine am_iload_n d34_4 rfl ?_
    refine am_aload_n d34_5 rfl ?_
    refine am_geti d34_6 fl34_7 sh_27 rfl ?_
    refine am_iclt 16 d34_9 (by decide) (fun h9 => ?_) (fun h9 => ?_)
    · refine am_iconst 0 d34_16 (by decide) ?_
      refine am_iret d34_17 rfl (by decide) ?_
      rw [s1] at *
      first | exact h1 (ix_neg (by omega) h1') | exact h1 (ix_nlt (by omega) h9) | exact h0 (ix_lt (by omega) h1' h9)
    · refine am_iconst 1 d34_12 (by decide) ?_
      refine am_goto 17 d34_13 (by decide) ?_
      refine am_iret d34_17 rfl (by decide) ?_
      rw [s1] at *
      first | exact h1 (ix_neg (by omega) h1') | exact h1 (ix_nlt (by omega) h9) | exact h0 (ix_lt (by omega) h1' h9)
theorem m_noPlace {M : am_M} {Q : am_T} {x y : Int32} (h1 : ¬ (ix x 12 ∧ ix y 4) → Q (.inl (some (.int 1))) M) (h0 : ix x 12 ∧ ix y 4 → Q (.inl (some (.int 0))) M) : am_W kM_noPlace 0 (am_in kM_noPlace [.int x, .int y]) [] M Q := by
  show am_W kM_noPlace 0 _ [] M Q
  refine am_iload_n d35_0 rfl ?_
  refine am_iflt 19 d35_1 (by decide) (fun k1 => ?_) (fun k1 => ?_)
  · refine am_iconst 1 d35_19 (by decide) ?_
    refine am_goto 24 d35_20 (by decide) ?_
    refine am_iret d35_24 rfl (by decide) ?_
    first | exact h1 (fun z => ix_neg (by decide) k1 z.1) | exact h1 (fun z => ix_nle (n := 11) (by decide) (Int32.not_le.mpr h7) z.1) | exact h1 (fun z => ix_neg (by decide) h11 z.2) | exact h1 (fun z => ix_nle (n := 3) (by decide) h16 z.2) | exact h0 ⟨ix_le (n := 11) (by decide) k1 (Int32.not_lt.mp h7), ix_le (n := 3) (by decide) h11 h16⟩
  · refine am_iload_n d35_4 rfl ?_
    refine am_bipush (nI 11) d35_5 (by decide) ?_
    refine am_icgt 19 d35_7 (by decide) (fun h7 => ?_) (fun h7 => ?_)
    · refine am_iconst 1 d35_19 (by decide) ?_
      refine am_goto 24 d35_20 (by decide) ?_
      refine am_iret d35_24 rfl (by decide) ?_
      first | exact h1 (fun z => ix_neg (by decide) k1 z.1) | exact h1 (fun z => ix_nle (n := 11) (by decide) (Int32.not_le.mpr h7) z.1) | exact h1 (fun z => ix_neg (by decide) h11 z.2) | exact h1 (fun z => ix_nle (n := 3) (by decide) h16 z.2) | exact h0 ⟨ix_le (n := 11) (by decide) k1 (Int32.not_lt.mp h7), ix_le (n := 3) (by decide) h11 h16⟩
    · refine am_iload_n d35_10 rfl ?_
      refine am_iflt 19 d35_11 (by decide) (fun h11 => ?_) (fun h11 => ?_)
      · refine am_iconst 1 d35_19 (by decide) ?_
        refine am_goto 24 d35_20 (by decide) ?_
        refine am_iret d35_24 rfl (by decide) ?_
        first | exact h1 (fun z => ix_neg (by decide) k1 z.1) | exact h1 (fun z => ix_nle (n := 11) (by decide) (Int32.not_le.mpr h7) z.1) | exact h1 (fun z => ix_neg (by decide) h11 z.2) | exact h1 (fun z => ix_nle (n := 3) (by decide) h16 z.2) | exact h0 ⟨ix_le (n := 11) (by decide) k1 (Int32.not_lt.mp h7), ix_le (n := 3) (by decide) h11 h16⟩
      · refine am_iload_n d35_14 rfl ?_
        refine am_iconst (nI 3) d35_15 (by decide) ?_
        refine am_icle 23 d35_16 (by decide) (fun h16 => ?_) (fun h16 => ?_)
        · refine am_iconst 0 d35_23 (by decide) ?_
          refine am_iret d35_24 rfl (by decide) ?_
          first | exact h1 (fun z => ix_neg (by decide) k1 z.1) | exact h1 (fun z => ix_nle (n := 11) (by decide) (Int32.not_le.mpr h7) z.1) | exact h1 (fun z => ix_neg (by decide) h11 z.2) | exact h1 (fun z => ix_nle (n := 3) (by decide) h16 z.2) | exact h0 ⟨ix_le (n := 11) (by decide) k1 (Int32.not_lt.mp h7), ix_le (n := 3) (by decide) h11 h16⟩
        · refine am_iconst 1 d35_19 (by decide) ?_
          refine am_goto 24 d35_20 (by decide) ?_
          refine am_iret d35_24 rfl (by decide) ?_
          first | exact h1 (fun z => ix_neg (by decide) k1 z.1) | exact h1 (fun z => ix_nle (n := 11) (by decide) (Int32.not_le.mpr h7) z.1) | exact h1 (fun z => ix_neg (by decide) h11 z.2) | exact h1 (fun z => ix_nle (n := 3) (by decide) h16 z.2) | exact h0 ⟨ix_le (n := 11) (by decide) k1 (Int32.not_lt.mp h7), ix_le (n := 3) (by decide) h11 h16⟩
theorem m_first {M : am_M} {Q : am_T} {b : Nat} (hb : b < 6) (hQ : Q (.inl (some (.int (mo_first M b)))) M) : am_W kM_first 0 (am_in kM_first [.ref 27, .int (nI b)]) [] M Q := by
  show am_W kM_first 0 _ [] M Q
  refine am_aload_n d36_0 rfl ?_
  refine am_getr d36_1 fl36_17 sh_27 rfl ?_
  refine am_iload_n d36_4 rfl ?_
  refine am_ialdN b d36_5 sh_29 hb (by decide) ?_
  refine am_aload_n d36_6 rfl ?_
  refine am_geti d36_7 fl36_48 sh_27 rfl ?_
  refine am_icle 22 d36_10 (by decide) (fun h10 => ?_) (fun h10 => ?_)
  · refine am_aload_n d36_22 rfl ?_
    refine am_geti d36_23 fl36_48 sh_27 rfl ?_
    refine am_iret d36_26 rfl rfl ?_
    unfold mo_first at hQ
    first | (rw [if_pos h10] at hQ; exact hQ) | (rw [if_neg h10] at hQ; exact hQ)
  · refine am_aload_n d36_13 rfl ?_
    refine am_getr d36_14 fl36_17 sh_27 rfl ?_
    refine am_iload_n d36_17 rfl ?_
    refine am_ialdN b d36_18 sh_29 hb (by decide) ?_
    refine am_goto 26 d36_19 (by decide) ?_
    refine am_iret d36_26 rfl rfl ?_
    unfold mo_first at hQ
    first | (rw [if_pos h10] at hQ; exact hQ) | (rw [if_neg h10] at hQ; exact hQ)
theorem m_unreadable {M : am_M} {Q : am_T} {b : Nat} {x : Int32} (hb : b < 6) (h1 : ¬ mo_rd M b x → Q (.inl (some (.int 1))) M) (h0 : mo_rd M b x → Q (.inl (some (.int 0))) M) : am_W kM_unreadable 0 (am_in kM_unreadable [.ref 27, .int (nI b), .int x]) [] M Q := by
  show am_W kM_unreadable 0 _ [] M Q
  refine am_aload_n d37_0 rfl ?_
  refine am_getr d37_1 fl37_20 sh_27 rfl ?_
  refine am_iload_n d37_4 rfl ?_
  refine am_zaldN b d37_5 sh_30 hb (by decide) ?_
  refine am_ifne 26 d37_6 (by decide) (fun h6 => ?_) (fun h6 => ?_)
  · refine am_iconst 1 d37_26 (by decide) ?_
    refine am_goto 31 d37_27 (by decide) ?_
    refine am_iret d37_31 rfl (by decide) ?_
    first | exact h1 (fun z => h6 z.1) | exact h1 (fun z => z.2.1 h15) | exact h1 (fun z => h23 z.2.2) | exact h0 ⟨h6, h15, h23⟩
  · refine am_iload_n d37_9 rfl ?_
    refine am_aload_n d37_10 rfl ?_
    refine am_iload_n d37_11 rfl ?_
    refine am_cv1 36 d37_12 ml37_51 rfl (by decide) sh_27 rfl rfl (Nat.le_of_ble_eq_true rfl) ?_
    refine m_first hb ?_
    show am_W 37 15 _ (.int _ :: _) _ _
    refine am_iclt 26 d37_15 (by decide) (fun h15 => ?_) (fun h15 => ?_)
    · refine am_iconst 1 d37_26 (by decide) ?_
      refine am_goto 31 d37_27 (by decide) ?_
      refine am_iret d37_31 rfl (by decide) ?_
      first | exact h1 (fun z => h6 z.1) | exact h1 (fun z => z.2.1 h15) | exact h1 (fun z => h23 z.2.2) | exact h0 ⟨h6, h15, h23⟩
    · refine am_iload_n d37_18 rfl ?_
      refine am_aload_n d37_19 rfl ?_
      refine am_geti d37_20 fl37_55 sh_27 rfl ?_
      refine am_icle 30 d37_23 (by decide) (fun h23 => ?_) (fun h23 => ?_)
      · refine am_iconst 0 d37_30 (by decide) ?_
        refine am_iret d37_31 rfl (by decide) ?_
        first | exact h1 (fun z => h6 z.1) | exact h1 (fun z => z.2.1 h15) | exact h1 (fun z => h23 z.2.2) | exact h0 ⟨h6, h15, h23⟩
      · refine am_iconst 1 d37_26 (by decide) ?_
        refine am_goto 31 d37_27 (by decide) ?_
        refine am_iret d37_31 rfl (by decide) ?_
        first | exact h1 (fun z => h6 z.1) | exact h1 (fun z => z.2.1 h15) | exact h1 (fun z => h23 z.2.2) | exact h0 ⟨h6, h15, h23⟩
theorem m_sees {pn : Nat → Nat} {nb nw ck : Nat} {M : am_M} {Q : am_T} (hS : moS M pn nb nw ck) {b w j : Nat} {x : Int32} (hb : b < nb) (hw : w < 120) (ho : M.1 31 w = nI j) (hj : j < nb) (hp : 0 ≤ M.1 32 w) (h1 : M.1 32 w ≤ mt_f pn (M.1 29) b b x j → Q (.inl (some (.int 1))) M) (h0 : ¬ M.1 32 w ≤ mt_f pn (M.1 29) b b x j → Q (.inl (some (.int 0))) M) : am_W kM_sees 0 (am_in kM_sees [.ref 27, .int (nI b), .int x, .int (nI w)]) [] M Q := by
  have hS0 := hS
  obtain ⟨s1, s2, s3, s4, s5, s6, s7, s8, s9⟩ := hS
  have s26 := s2.1
  have s41 := s4.1
  obtain ⟨_, hpn, hpar, hfk⟩ := s2
  have m1 : ¬ M.1 32 w ≤ -1 := fun z => absurd (Int32.le_trans hp z) (by decide)
  have key : ∀ n, (∀ on, on < n → on < nb → ∀ (x1 x2 u : Int32), (M.1 32 w ≤ mt_f pn (M.1 29) on on u j ↔ M.1 32 w ≤ mt_f pn (M.1 29) b b x j) → am_W kM_sees 6 [.ref 27, .int x1, .int x2, .int (nI w), .int (nI on), .int u] [] M Q) → ∀ on, on ≤ n → on < nb → ∀ (x1 x2 u : Int32), (M.1 32 w ≤ mt_f pn (M.1 29) on on u j ↔ M.1 32 w ≤ mt_f pn (M.1 29) b b x j) → am_W kM_sees 6 [.ref 27, .int x1, .int x2, .int (nI w), .int (nI on), .int u] [] M Q := by
    intro n ih on hon hnb x1 x2 u hP
    have cont : (0 < on → (M.1 32 w ≤ mt_f pn (M.1 29) (pn on) (pn on) (mt_min u (M.1 29 on)) j ↔ M.1 32 w ≤ mt_f pn (M.1 29) b b x j)) → (on = 0 → ¬ M.1 32 w ≤ mt_f pn (M.1 29) b b x j) → am_W kM_sees 35 [.ref 27, .int x1, .int x2, .int (nI w), .int (nI on), .int u] [] M Q := by
      intro c1 c2
      have par : ∀ u', u' = mt_min u (M.1 29 on) → am_W kM_sees 59 [.ref 27, .int x1, .int x2, .int (nI w), .int (nI on), .int u] [.int u'] M Q := by
        intro u' hu
        refine am_istore d38_59 (Nat.le_of_ble_eq_true rfl) rfl ?_
        refine am_aload_n d38_61 rfl ?_
        refine am_getr d38_62 fl38_13 sh_27 rfl ?_
        refine am_iload d38_65 rfl ?_
        refine am_ialdN on d38_67 sh_28 (by omega) (by decide) ?_
        refine am_istore d38_68 (Nat.le_of_ble_eq_true rfl) rfl ?_
        refine am_goto 6 d38_70 (by decide) ?_
        by_cases h0' : on = 0
        · subst h0'
          rw [s8]
          refine am_iload d38_6 rfl ?_
          refine am_iflt 73 d38_8 (by decide) (fun _ => ?_) (fun h => absurd (by decide) h)
          refine am_iconst 0 d38_73 (by decide) ?_
          exact am_iret d38_74 rfl (by decide) (h0 (c2 rfl))
        · rw [hpar on (by omega) hnb]
          have hlt := hpn on (by omega) hnb
          refine ih (pn on) (by omega) (by omega) _ _ _ ?_
          rw [hu]
          exact c1 (by omega)
      refine am_aload_n d38_35 rfl ?_
      refine am_getr d38_36 fl38_17 sh_27 rfl ?_
      refine am_iload d38_39 rfl ?_
      refine am_ialdN on d38_41 sh_29 (by omega) (by decide) ?_
      refine am_iload d38_42 rfl ?_
      refine am_icge 57 d38_44 (by decide) (fun h => ?_) (fun h => ?_)
      · refine am_iload d38_57 rfl ?_
        exact par _ (by unfold mt_min; rw [if_neg (Int32.not_lt.mpr h)])
      · refine am_aload_n d38_47 rfl ?_
        refine am_getr d38_48 fl38_17 sh_27 rfl ?_
        refine am_iload d38_51 rfl ?_
        refine am_ialdN on d38_53 sh_29 (by omega) (by decide) ?_
        refine am_goto 59 d38_54 (by decide) ?_
        exact par _ (by unfold mt_min; rw [if_pos (Int32.not_le.mp h)])
    refine am_iload d38_6 rfl ?_
    refine am_iflt 73 d38_8 (by decide) (fun h => absurd h (nI_pos (by omega))) (fun _ => ?_)
    refine am_aload_n d38_11 rfl ?_
    refine am_getr d38_12 fl38_24 sh_27 rfl ?_
    refine am_iload_n d38_15 rfl ?_
    refine am_ialdN w d38_16 sh_31 hw (by decide) ?_
    rw [ho]
    refine am_iload d38_17 rfl ?_
    refine am_icne 35 d38_19 (by decide) (fun h => ?_) (fun h => ?_)
    · have hne : j ≠ on := fun z => h (by rw [z])
      refine cont (fun h0' => ?_) (fun h0' => ?_)
      · by_cases hlt : j < on
        · rw [← mt_f_down hpn hnb h0' hlt]; exact hP
        · have h2 := hpn on h0' hnb
          rw [mt_f_above hpn _ _ _ _ hnb (Nat.le_refl _) (by omega)] at hP
          rw [mt_f_above hpn _ _ _ _ (by omega) (Nat.le_refl _) (by omega)]
          exact hP
      · subst h0'
        rw [mt_f_0 hne] at hP
        exact fun z => m1 (hP.mpr z)
    · have heq : j = on := (nI_eq (by omega) (by omega)).mp h
      subst heq
      rw [mt_f_self] at hP
      refine am_aload_n d38_22 rfl ?_
      refine am_getr d38_23 fl38_27 sh_27 rfl ?_
      refine am_iload_n d38_26 rfl ?_
      refine am_ialdN w d38_27 sh_32 hw (by decide) ?_
      refine am_iload d38_28 rfl ?_
      refine am_icgt 35 d38_30 (by decide) (fun h => ?_) (fun h => ?_)
      · have hn : ¬ M.1 32 w ≤ mt_f pn (M.1 29) b b x j := fun z => absurd (hP.mpr z) (Int32.not_le.mpr h)
        refine cont (fun h0' => ?_) (fun _ => hn)
        have h2 := hpn j h0' hnb
        rw [mt_f_above hpn _ _ _ _ (by omega) (Nat.le_refl _) (by omega)]
        exact ⟨fun z => absurd z m1, fun z => absurd z hn⟩
      · refine am_iconst 1 d38_33 (by decide) ?_
        exact am_iret d38_34 rfl (by decide) (h1 (hP.mp (Int32.not_lt.mp h)))
  have loop : ∀ n on, on ≤ n → on < nb → ∀ (x1 x2 u : Int32), (M.1 32 w ≤ mt_f pn (M.1 29) on on u j ↔ M.1 32 w ≤ mt_f pn (M.1 29) b b x j) → am_W kM_sees 6 [.ref 27, .int x1, .int x2, .int (nI w), .int (nI on), .int u] [] M Q := by
    intro n
    induction n with
    | zero => exact key 0 (fun on h => absurd h (Nat.not_lt_zero _))
    | succ n ih => exact key (n + 1) (fun on h => ih on (by omega))
  show am_W kM_sees 0 _ [] M Q
  refine am_iload_n d38_0 rfl ?_
  refine am_istore d38_1 (Nat.le_of_ble_eq_true rfl) rfl ?_
  refine am_iload_n d38_3 rfl ?_
  refine am_istore d38_4 (Nat.le_of_ble_eq_true rfl) rfl ?_
  exact loop b b (Nat.le_refl _) hb _ _ _ Iff.rfl
theorem m_latest {pn : Nat → Nat} {nb nw ck : Nat} {M : am_M} {Q : am_T} (hS : moS M pn nb nw ck) {b c : Nat} {x : Int32} (hb : b < nb) (hQ : Q (.inl (some (.int (lt_v (mo_row M pn nw b x c))))) M) : am_W kM_latest 0 (am_in kM_latest [.ref 27, .int (nI b), .int x, .int (nI c)]) [] M Q := by
  have hS0 := hS
  obtain ⟨s1, s2, s3, s4, s5, s6, s7, s8, s9⟩ := hS
  have s26 := s2.1
  have s41 := s4.1
  have loop : ∀ i, i ≤ nw → am_W kM_latest 6 [.ref 27, .int (nI b), .int x, .int (nI c), .int (lt_v (sp_last (sp_in (M.1 31) (M.1 32) (M.1 33) (mt_f pn (M.1 29) b b x) c) i)), .int (nI i)] [] M Q := by
    refine am_loop nw (fun i hi ih => ?_)
    refine am_iload d39_6 rfl ?_
    refine am_aload_n d39_8 rfl ?_
    refine am_geti d39_9 fl39_58 sh_27 rfl ?_
    rw [s3]
    refine am_icgeN 47 i nw d39_12 (by decide) rfl rfl (by omega) (by omega) (fun h12 => ?_) (fun h12 => ?_)
    · refine am_iload d39_47 rfl ?_
      refine am_iret d39_49 rfl rfl ?_
      obtain rfl : i = nw := by omega
      exact hQ
    · refine am_aload_n d39_15 rfl ?_
      refine am_getr d39_16 fl39_30 sh_27 rfl ?_
      refine am_iload d39_19 rfl ?_
      refine am_ialdN i d39_21 sh_33 (by omega) (by decide) ?_
      refine am_iload_n d39_22 rfl ?_
      refine am_icne 41 d39_23 (by decide) (fun h23 => ?_) (fun h23 => ?_)
      · refine am_incN i d39_41 rfl rfl ?_
        refine am_goto 6 d39_44 (by decide) ?_
        have hz := ih h12
        rw [sp_last_n (f := (sp_in (M.1 31) (M.1 32) (M.1 33) (mt_f pn (M.1 29) b b x) c)) (n := i) (by unfold sp_in; simp [h23])] at hz
        exact hz
      · refine am_aload_n d39_26 rfl ?_
        refine am_iload_n d39_27 rfl ?_
        refine am_iload_n d39_28 rfl ?_
        refine am_iload d39_29 rfl ?_
        refine am_cv3 38 d39_31 ml39_61 rfl (by decide) sh_27 rfl rfl rfl rfl (Nat.le_of_ble_eq_true rfl) ?_
        obtain ⟨⟨j, hj, ej⟩, _⟩ := s4.2 i h12
        refine m_sees hS0 hb (by omega) ej hj (s7 i h12) (fun g1 => ?_) (fun g1 => ?_)
        · show am_W 39 34 _ (.int 1 :: _) _ _
          have hin : (sp_in (M.1 31) (M.1 32) (M.1 33) (mt_f pn (M.1 29) b b x) c) i = true := by unfold sp_in; rw [ej, nI_clamp (by omega)]; simp [g1, h23]
          refine am_ifeq 41 d39_34 (by decide) (fun h => absurd h (by decide)) (fun _ => ?_)
          refine am_iload d39_37 rfl ?_
          refine am_istore d39_39 (Nat.le_of_ble_eq_true rfl) rfl ?_
          refine am_incN i d39_41 rfl rfl ?_
          refine am_goto 6 d39_44 (by decide) ?_
          have hz := ih h12
          rw [sp_last_s hin] at hz
          exact hz
        · show am_W 39 34 _ (.int 0 :: _) _ _
          have hin : ¬ (sp_in (M.1 31) (M.1 32) (M.1 33) (mt_f pn (M.1 29) b b x) c) i = true := by unfold sp_in; rw [ej, nI_clamp (by omega)]; simp [g1]
          refine am_ifeq 41 d39_34 (by decide) (fun _ => ?_) (fun h => absurd h (by decide))
          refine am_incN i d39_41 rfl rfl ?_
          refine am_goto 6 d39_44 (by decide) ?_
          have hz := ih h12
          rw [sp_last_n hin] at hz
          exact hz
  show am_W kM_latest 0 _ [] M Q
  refine am_iconst (-1) d39_0 (by decide) ?_
  refine am_istore d39_1 (Nat.le_of_ble_eq_true rfl) rfl ?_
  refine am_iconst (nI 0) d39_3 (by decide) ?_
  refine am_istore d39_4 (Nat.le_of_ble_eq_true rfl) rfl ?_
  exact loop 0 (Nat.zero_le _)
theorem m_kindOf {M : am_M} {Q : am_T} {r : Option Nat} (hr : ∀ i, r = some i → i < 120) (hQ : Q (.inl (some (.int (sp_get (M.1 34) 0 r)))) M) : am_W kM_kindOf 0 (am_in kM_kindOf [.ref 27, .int (lt_v r)]) [] M Q := by
  show am_W kM_kindOf 0 _ [] M Q
  refine am_iload_n d40_0 rfl ?_
  cases r with
  | none =>
    refine am_ifge 8 d40_1 (by decide) (fun h => absurd h (by decide)) (fun _ => ?_)
    refine am_iconst 0 d40_4 (by decide) ?_
    refine am_goto 14 d40_5 (by decide) ?_
    exact am_iret d40_14 rfl rfl hQ
  | some i =>
    have hi := hr i rfl
    refine am_ifge 8 d40_1 (by decide) (fun _ => ?_) (fun h => absurd (nI_pos' (by omega)) h)
    refine am_aload_n d40_8 rfl ?_
    refine am_getr d40_9 fl40_33 sh_27 rfl ?_
    refine am_iload_n d40_12 rfl ?_
    refine am_ialdN i d40_13 sh_34 hi (by decide) ?_
    exact am_iret d40_14 rfl rfl hQ
theorem m_valueOf {M : am_M} {Q : am_T} {r : Option Nat} (hr : ∀ i, r = some i → i < 120) (hQ : Q (.inl (some (.int (sp_get (M.1 35) 0 r)))) M) : am_W kM_valueOf 0 (am_in kM_valueOf [.ref 27, .int (lt_v r)]) [] M Q := by
  show am_W kM_valueOf 0 _ [] M Q
  refine am_iload_n d41_0 rfl ?_
  cases r with
  | none =>
    refine am_ifge 8 d41_1 (by decide) (fun h => absurd h (by decide)) (fun _ => ?_)
    refine am_iconst 0 d41_4 (by decide) ?_
    refine am_goto 14 d41_5 (by decide) ?_
    exact am_iret d41_14 rfl rfl hQ
  | some i =>
    have hi := hr i rfl
    refine am_ifge 8 d41_1 (by decide) (fun _ => ?_) (fun h => absurd (nI_pos' (by omega)) h)
    refine am_aload_n d41_8 rfl ?_
    refine am_getr d41_9 fl41_36 sh_27 rfl ?_
    refine am_iload_n d41_12 rfl ?_
    refine am_ialdN i d41_13 sh_35 hi (by decide) ?_
    exact am_iret d41_14 rfl rfl hQ
theorem m_alike {M : am_M} {Q : am_T} {r s : Option Nat} (hr : ∀ i, r = some i → i < 120) (hs : ∀ i, s = some i → i < 120) (h1 : sr (M.1 34) (M.1 35) r s = true → Q (.inl (some (.int 1))) M) (h0 : ¬ sr (M.1 34) (M.1 35) r s = true → Q (.inl (some (.int 0))) M) : am_W kM_alike 0 (am_in kM_alike [.ref 27, .int (lt_v r), .int (lt_v s)]) [] M Q := by
  show am_W kM_alike 0 _ [] M Q
  refine am_aload_n d42_0 rfl ?_
  refine am_iload_n d42_1 rfl ?_
  refine am_cv1 40 d42_2 ml42_65 rfl (by decide) sh_27 rfl rfl (Nat.le_of_ble_eq_true rfl) ?_
  refine m_kindOf (r := r) hr ?_
  show am_W 42 5 _ (.int _ :: _) _ _
  refine am_aload_n d42_5 rfl ?_
  refine am_iload_n d42_6 rfl ?_
  refine am_cv1 40 d42_7 ml42_65 rfl (by decide) sh_27 rfl rfl (Nat.le_of_ble_eq_true rfl) ?_
  refine m_kindOf (r := s) hs ?_
  show am_W 42 10 _ (.int _ :: _) _ _
  refine am_icne 30 d42_10 (by decide) (fun h10 => ?_) (fun h10 => ?_)
  · refine am_iconst 0 d42_30 (by decide) ?_
    refine am_iret d42_31 rfl (by decide) ?_
    first | exact h1 (by simp [sr, *]) | exact h0 (by simp [sr, *])
  · refine am_aload_n d42_13 rfl ?_
    refine am_iload_n d42_14 rfl ?_
    refine am_cv1 41 d42_15 ml42_68 rfl (by decide) sh_27 rfl rfl (Nat.le_of_ble_eq_true rfl) ?_
    refine m_valueOf (r := r) hr ?_
    show am_W 42 18 _ (.int _ :: _) _ _
    refine am_aload_n d42_18 rfl ?_
    refine am_iload_n d42_19 rfl ?_
    refine am_cv1 41 d42_20 ml42_68 rfl (by decide) sh_27 rfl rfl (Nat.le_of_ble_eq_true rfl) ?_
    refine m_valueOf (r := s) hs ?_
    show am_W 42 23 _ (.int _ :: _) _ _
    refine am_icne 30 d42_23 (by decide) (fun h23 => ?_) (fun h23 => ?_)
    · refine am_iconst 0 d42_30 (by decide) ?_
      refine am_iret d42_31 rfl (by decide) ?_
      first | exact h1 (by simp [sr, *]) | exact h0 (by simp [sr, *])
    · refine am_iconst 1 d42_26 (by decide) ?_
      refine am_goto 31 d42_27 (by decide) ?_
      refine am_iret d42_31 rfl (by decide) ?_
      first | exact h1 (by simp [sr, *]) | exact h0 (by simp [sr, *])
end
section
/-! the model: gives, others, enter, branch, close, write, read, history, differs, state, about, type, erase -/
/-- M' is M but for the model's code, which is v -/
def cd (M M' : am_M) (v : Int32) : Prop := fr [27] M M' ∧ (∀ s, s ≠ 0 → M'.1 27 s = M.1 27 s) ∧ M'.1 27 0 = v
theorem cd_0 (M : am_M) (v : Int32) : cd M (am_set M 27 0 v) v := ⟨fr.rf.set (by simp), fun s h => by rw [am_set_self]; exact pk_un h, by rw [am_set_self]; exact pk_us⟩
theorem cd.tr {M M' : am_M} {u : Int32} (h : cd M M' u) (v : Int32) : cd M (am_set M' 27 0 v) v := ⟨h.1.set (by simp), fun s hs => by rw [am_set_self]; exact (pk_un hs).trans (h.2.1 s hs), by rw [am_set_self]; exact pk_us⟩
theorem moS_cd {M M' : am_M} {v : Int32} {pn : Nat → Nat} {nb nw ck : Nat} (h : moS M pn nb nw ck) (c : cd M M' v) : moS M' pn nb nw ck := by
  unfold moS at h ⊢
  rw [c.2.1 3 (by decide), c.2.1 7 (by decide), c.2.1 1 (by decide), c.1.eq 28 (by decide), c.1.eq 29 (by decide), c.1.eq 31 (by decide), c.1.eq 32 (by decide), c.1.eq 33 (by decide)]
  exact h
theorem mo_row_cd {M M' : am_M} {v : Int32} {pn : Nat → Nat} {nw b : Nat} {x : Int32} {c : Nat} (h : cd M M' v) : mo_row M' pn nw b x c = mo_row M pn nw b x c := by
  unfold mo_row
  rw [h.1.eq 29 (by decide), h.1.eq 31 (by decide), h.1.eq 32 (by decide), h.1.eq 33 (by decide)]
theorem mo_first_cd {M M' : am_M} {v : Int32} {b : Nat} (h : cd M M' v) : mo_first M' b = mo_first M b := by
  unfold mo_first
  rw [h.1.eq 29 (by decide), h.2.1 2 (by decide)]
/-- the moment at which row w is asked for on branch b -/
def mo_at (M : am_M) (b w : Nat) : Int32 := if M.1 32 w ≤ mo_first M b then mo_first M b else M.1 32 w
def mo_gv (M : am_M) (pn : Nat → Nat) (nw b w : Nat) : Bool := decide (M.1 30 b = 0) && !decide (mo_at M b w < mo_first M b) && decide (mo_at M b w ≤ M.1 27 1) && decide (mo_row M pn nw b (mo_at M b w) (M.1 33 w).toNatClampNeg = some w)
theorem mo_gv_cd {M M' : am_M} {v : Int32} {pn : Nat → Nat} {nw b w : Nat} (h : cd M M' v) : mo_gv M' pn nw b w = mo_gv M pn nw b w := by
  have e : mo_at M' b w = mo_at M b w := by unfold mo_at; rw [mo_first_cd h, h.1.eq 32 (by decide)]
  unfold mo_gv
  rw [e, mo_row_cd h, mo_first_cd h, h.1.eq 30 (by decide), h.2.1 1 (by decide), h.1.eq 33 (by decide)]
theorem lt_v_eq {r : Option Nat} {w : Nat} (hr : ∀ i, r = some i → i < 120) (hw : w < 120) : lt_v r = nI w ↔ r = some w := by
  cases r with
  | none =>
    refine ⟨fun h => ?_, fun h => by cases h⟩
    have h1 : nI w < 0 := by rw [← h]; decide
    exact absurd h1 (nI_pos (by omega))
  | some i =>
    have hi := hr i rfl
    refine ⟨fun h => ?_, fun h => by cases h; rfl⟩
    rw [(nI_eq (by omega) (by omega)).mp h]
theorem m_gives {pn : Nat → Nat} {nb nw ck : Nat} {M : am_M} {Q : am_T} (hS : moS M pn nb nw ck) {b w : Nat} (hb : b < nb) (hw : w < nw) (h1 : mo_gv M pn nw b w = true → Q (.inl (some (.int 1))) M) (h0 : ¬ mo_gv M pn nw b w = true → Q (.inl (some (.int 0))) M) : am_W kM_gives 0 (am_in kM_gives [.ref 27, .int (nI b), .int (nI w)]) [] M Q := by
  have hS0 := hS
  obtain ⟨s1, s2, s3, s4, s5, s6, s7, s8, s9⟩ := hS
  have s26 := s2.1
  have s41 := s4.1
  obtain ⟨c, hc48, hc⟩ := (s4.2 w hw).2
  have hcl : (M.1 33 w).toNatClampNeg = c := by rw [hc, nI_clamp (by omega)]
  have gve : mo_gv M pn nw b w = true ↔ (mo_rd M b (mo_at M b w) ∧ mo_row M pn nw b (mo_at M b w) c = some w) := by
    unfold mo_gv mo_rd
    rw [hcl]
    simp [and_assoc]
  have main : ∀ u y, u = mo_at M b w → am_W kM_gives 28 [.ref 27, .int (nI b), .int (nI w), y] [.int u] M Q := by
    intro u y hu
    subst hu
    refine am_istore_n d43_28 (Nat.le_of_ble_eq_true rfl) rfl ?_
    refine am_aload_n d43_29 rfl ?_
    refine am_iload_n d43_30 rfl ?_
    refine am_iload_n d43_31 rfl ?_
    refine am_cv2 37 d43_32 ml43_71 rfl (by decide) sh_27 rfl rfl rfl (Nat.le_of_ble_eq_true rfl) ?_
    refine m_unreadable (by omega) (fun gu => ?_) (fun gu => ?_)
    · show am_W 43 35 _ (.int 1 :: _) _ _
      refine am_ifne 58 d43_35 (by decide) (fun _ => ?_) (fun h => absurd h (by decide))
      refine am_iconst 0 d43_58 (by decide) ?_
      refine am_iret d43_59 rfl (by decide) ?_
      first | exact h0 (fun z => gu (gve.mp z).1) | exact h1 (gve.mpr ⟨gu, (lt_v_eq (w := w) (fun i hi => by have := mo_row_lt hi; omega) (by omega)).mp h51⟩) | exact h0 (fun z => h51 ((lt_v_eq (w := w) (fun i hi => by have := mo_row_lt hi; omega) (by omega)).mpr (gve.mp z).2))
    · show am_W 43 35 _ (.int 0 :: _) _ _
      refine am_ifne 58 d43_35 (by decide) (fun h => absurd h (by decide)) (fun _ => ?_)
      refine am_aload_n d43_38 rfl ?_
      refine am_iload_n d43_39 rfl ?_
      refine am_iload_n d43_40 rfl ?_
      refine am_aload_n d43_41 rfl ?_
      refine am_getr d43_42 fl43_30 sh_27 rfl ?_
      refine am_iload_n d43_45 rfl ?_
      refine am_ialdN w d43_46 sh_33 (by omega) (by decide) ?_
      rw [hc]
      refine am_cv3 39 d43_47 ml43_75 rfl (by decide) sh_27 rfl rfl rfl rfl (Nat.le_of_ble_eq_true rfl) ?_
      refine m_latest hS0 hb ?_
      show am_W 43 50 _ (.int _ :: _) _ _
      refine am_iload_n d43_50 rfl ?_
      refine am_icne 58 d43_51 (by decide) (fun h51 => ?_) (fun h51 => ?_)
      · refine am_iconst 0 d43_58 (by decide) ?_
        refine am_iret d43_59 rfl (by decide) ?_
        first | exact h0 (fun z => gu (gve.mp z).1) | exact h1 (gve.mpr ⟨gu, (lt_v_eq (w := w) (fun i hi => by have := mo_row_lt hi; omega) (by omega)).mp h51⟩) | exact h0 (fun z => h51 ((lt_v_eq (w := w) (fun i hi => by have := mo_row_lt hi; omega) (by omega)).mpr (gve.mp z).2))
      · refine am_iconst 1 d43_54 (by decide) ?_
        refine am_goto 59 d43_55 (by decide) ?_
        refine am_iret d43_59 rfl (by decide) ?_
        first | exact h0 (fun z => gu (gve.mp z).1) | exact h1 (gve.mpr ⟨gu, (lt_v_eq (w := w) (fun i hi => by have := mo_row_lt hi; omega) (by omega)).mp h51⟩) | exact h0 (fun z => h51 ((lt_v_eq (w := w) (fun i hi => by have := mo_row_lt hi; omega) (by omega)).mpr (gve.mp z).2))
  show am_W kM_gives 0 _ [] M Q
  refine am_aload_n d43_0 rfl ?_
  refine am_getr d43_1 fl43_27 sh_27 rfl ?_
  refine am_iload_n d43_4 rfl ?_
  refine am_ialdN w d43_5 sh_32 (by omega) (by decide) ?_
  refine am_aload_n d43_6 rfl ?_
  refine am_iload_n d43_7 rfl ?_
  refine am_cv1 36 d43_8 ml43_51 rfl (by decide) sh_27 rfl rfl (Nat.le_of_ble_eq_true rfl) ?_
  refine m_first (by omega) ?_
  show am_W 43 11 _ (.int _ :: _) _ _
  refine am_icle 23 d43_11 (by decide) (fun h11 => ?_) (fun h11 => ?_)
  · refine am_aload_n d43_23 rfl ?_
    refine am_iload_n d43_24 rfl ?_
    refine am_cv1 36 d43_25 ml43_51 rfl (by decide) sh_27 rfl rfl (Nat.le_of_ble_eq_true rfl) ?_
    refine m_first (by omega) ?_
    show am_W 43 28 _ (.int _ :: _) _ _
    first | exact main _ _ (by unfold mo_at; rw [if_pos h11]) | exact main _ _ (by unfold mo_at; rw [if_neg h11])
  · refine am_aload_n d43_14 rfl ?_
    refine am_getr d43_15 fl43_27 sh_27 rfl ?_
    refine am_iload_n d43_18 rfl ?_
    refine am_ialdN w d43_19 sh_32 (by omega) (by decide) ?_
    refine am_goto 28 d43_20 (by decide) ?_
    first | exact main _ _ (by unfold mo_at; rw [if_pos h11]) | exact main _ _ (by unfold mo_at; rw [if_neg h11])
theorem m_others {pn : Nat → Nat} {nb nw ck : Nat} {M : am_M} {Q : am_T} (hS : moS M pn nb nw ck) {b : Nat} (hb : b < nb) (hQ : Q (.inl (some (.int (nI (sp_cnt (fun k => !decide (k = b) && decide (M.1 30 k = 0)) nb))))) M) : am_W kM_others 0 (am_in kM_others [.ref 27, .int (nI b)]) [] M Q := by
  have hS0 := hS
  obtain ⟨s1, s2, s3, s4, s5, s6, s7, s8, s9⟩ := hS
  have s26 := s2.1
  have s41 := s4.1
  have loop : ∀ i, i ≤ nb → am_W kM_others 4 [.ref 27, .int (nI b), .int (nI (sp_cnt (fun k => !decide (k = b) && decide (M.1 30 k = 0)) i)), .int (nI i)] [] M Q := by
    refine am_loop nb (fun i hi ih => ?_)
    refine am_iload_n d45_4 rfl ?_
    refine am_aload_n d45_5 rfl ?_
    refine am_geti d45_6 fl45_7 sh_27 rfl ?_
    rw [s1]
    refine am_icgeN 40 i nb d45_9 (by decide) rfl rfl (by omega) (by omega) (fun h9 => ?_) (fun h9 => ?_)
    · refine am_iload_n d45_40 rfl ?_
      refine am_iret d45_41 rfl rfl ?_
      obtain rfl : i = nb := by omega
      exact hQ
    · refine am_iload_n d45_12 rfl ?_
      refine am_iload_n d45_13 rfl ?_
      refine am_iceq 32 d45_14 (by decide) (fun h => ?_) (fun h => ?_)
      · have hib : i = b := (nI_eq (by omega) (by omega)).mp h
        refine am_iload_n d45_32 rfl ?_
        refine am_istore_n d45_33 (Nat.le_of_ble_eq_true rfl) rfl ?_
        refine am_incN i d45_34 rfl rfl ?_
        refine am_goto 4 d45_37 (by decide) ?_
        first | (have hz := ih h9; rw [← sp_cnt_f (f := (fun k => !decide (k = b) && decide (M.1 30 k = 0))) (n := i) (by simp [*])] at hz; exact hz) | (have hz := ih h9; rw [← sp_cnt_t (f := (fun k => !decide (k = b) && decide (M.1 30 k = 0))) (n := i) (by simp [*])] at hz; exact hz)
      · have hib : ¬ i = b := fun z => h (by rw [z])
        refine am_aload_n d45_17 rfl ?_
        refine am_getr d45_18 fl45_20 sh_27 rfl ?_
        refine am_iload_n d45_21 rfl ?_
        refine am_zaldN i d45_22 sh_30 (by omega) (by decide) ?_
        refine am_ifne 32 d45_23 (by decide) (fun h23 => ?_) (fun h23 => ?_)
        · refine am_iload_n d45_32 rfl ?_
          refine am_istore_n d45_33 (Nat.le_of_ble_eq_true rfl) rfl ?_
          refine am_incN i d45_34 rfl rfl ?_
          refine am_goto 4 d45_37 (by decide) ?_
          first | (have hz := ih h9; rw [← sp_cnt_f (f := (fun k => !decide (k = b) && decide (M.1 30 k = 0))) (n := i) (by simp [*])] at hz; exact hz) | (have hz := ih h9; rw [← sp_cnt_t (f := (fun k => !decide (k = b) && decide (M.1 30 k = 0))) (n := i) (by simp [*])] at hz; exact hz)
        · refine am_iload_n d45_26 rfl ?_
          refine am_iconst (nI 1) d45_27 (by decide) ?_
          refine am_addN d45_28 ?_
          refine am_goto 33 d45_29 (by decide) ?_
          refine am_istore_n d45_33 (Nat.le_of_ble_eq_true rfl) rfl ?_
          refine am_incN i d45_34 rfl rfl ?_
          refine am_goto 4 d45_37 (by decide) ?_
          first | (have hz := ih h9; rw [← sp_cnt_f (f := (fun k => !decide (k = b) && decide (M.1 30 k = 0))) (n := i) (by simp [*])] at hz; exact hz) | (have hz := ih h9; rw [← sp_cnt_t (f := (fun k => !decide (k = b) && decide (M.1 30 k = 0))) (n := i) (by simp [*])] at hz; exact hz)
  show am_W kM_others 0 _ [] M Q
  refine am_iconst (nI 0) d45_0 (by decide) ?_
  refine am_istore_n d45_1 (Nat.le_of_ble_eq_true rfl) rfl ?_
  refine am_iconst (nI 0) d45_2 (by decide) ?_
  refine am_istore_n d45_3 (Nat.le_of_ble_eq_true rfl) rfl ?_
  exact loop 0 (Nat.zero_le _)
def mo_add (M : am_M) (nw ck : Nat) (b c kd vl : Int32) : am_M := (am_set (am_set (am_set (am_set (am_set (am_set (am_set M 27 1 (nI (ck + 1))) 31 nw b) 32 nw (nI (ck + 1))) 33 nw c) 34 nw kd) 35 nw (if kd = 0 then 0 else vl)) 27 7 (nI (nw + 1)))
theorem m_enter {M : am_M} {Q : am_T} {b c kd vl : Int32} {nw ck : Nat} (s3 : M.1 27 7 = nI nw) (s5 : M.1 27 1 = nI ck) (h120 : nw < 120) (hQ : Q (.inl none) (mo_add M nw ck b c kd vl)) : am_W kM_enter 0 (am_in kM_enter [.ref 27, .int b, .int c, .int kd, .int vl]) [] M Q := by
  show am_W kM_enter 0 _ [] M Q
  refine am_aload_n d47_0 rfl ?_
  refine am_dup d47_1 rfl ?_
  refine am_geti d47_2 fl47_55 sh_27 rfl ?_
  rw [s5]
  refine am_iconst 1 d47_5 (by decide) ?_
  refine am_iadd d47_6 ?_
  rw [nI_1]
  refine am_put d47_7 fl47_55 sh_27 rfl rfl rfl rfl ?_
  refine am_aload_n d47_10 rfl ?_
  refine am_getr d47_11 fl47_24 sh_27 rfl ?_
  refine am_aload_n d47_14 rfl ?_
  refine am_geti d47_15 fl47_58 sh_27 rfl ?_
  show am_W 47 18 _ (.int (M.1 27 7) :: _) _ _
  rw [s3]
  refine am_iload_n d47_18 rfl ?_
  refine am_iastN nw d47_19 sh_31 h120 (by decide) ?_
  refine am_aload_n d47_20 rfl ?_
  refine am_getr d47_21 fl47_27 sh_27 rfl ?_
  refine am_aload_n d47_24 rfl ?_
  refine am_geti d47_25 fl47_58 sh_27 rfl ?_
  show am_W 47 28 _ (.int (M.1 27 7) :: _) _ _
  rw [s3]
  refine am_aload_n d47_28 rfl ?_
  refine am_geti d47_29 fl47_55 sh_27 rfl ?_
  show am_W 47 32 _ (.int (nI (ck + 1)) :: _) _ _
  refine am_iastN nw d47_32 sh_32 h120 (by decide) ?_
  refine am_aload_n d47_33 rfl ?_
  refine am_getr d47_34 fl47_30 sh_27 rfl ?_
  refine am_aload_n d47_37 rfl ?_
  refine am_geti d47_38 fl47_58 sh_27 rfl ?_
  show am_W 47 41 _ (.int (M.1 27 7) :: _) _ _
  rw [s3]
  refine am_iload_n d47_41 rfl ?_
  refine am_iastN nw d47_42 sh_33 h120 (by decide) ?_
  refine am_aload_n d47_43 rfl ?_
  refine am_getr d47_44 fl47_33 sh_27 rfl ?_
  refine am_aload_n d47_47 rfl ?_
  refine am_geti d47_48 fl47_58 sh_27 rfl ?_
  show am_W 47 51 _ (.int (M.1 27 7) :: _) _ _
  rw [s3]
  refine am_iload_n d47_51 rfl ?_
  refine am_iastN nw d47_52 sh_34 h120 (by decide) ?_
  refine am_aload_n d47_53 rfl ?_
  refine am_getr d47_54 fl47_36 sh_27 rfl ?_
  refine am_aload_n d47_57 rfl ?_
  refine am_geti d47_58 fl47_58 sh_27 rfl ?_
  show am_W 47 61 _ (.int (M.1 27 7) :: _) _ _
  rw [s3]
  refine am_iload_n d47_61 rfl ?_
  refine am_ifne 69 d47_62 (by decide) (fun h62 => ?_) (fun h62 => ?_)
  · refine am_iload d47_69 rfl ?_
    refine am_iastN nw d47_71 sh_35 h120 (by decide) ?_
    refine am_aload_n d47_72 rfl ?_
    refine am_dup d47_73 rfl ?_
    refine am_geti d47_74 fl47_58 sh_27 rfl ?_
    show am_W 47 77 _ (.int (M.1 27 7) :: _) _ _
    rw [s3]
    refine am_iconst 1 d47_77 (by decide) ?_
    refine am_iadd d47_78 ?_
    rw [nI_1]
    refine am_put d47_79 fl47_58 sh_27 rfl rfl rfl rfl ?_
    refine am_vret d47_82 rfl ?_
    unfold mo_add at hQ
    first | (rw [if_pos h62] at hQ; exact hQ) | (rw [if_neg h62] at hQ; exact hQ)
  · refine am_iconst 0 d47_65 (by decide) ?_
    refine am_goto 71 d47_66 (by decide) ?_
    refine am_iastN nw d47_71 sh_35 h120 (by decide) ?_
    refine am_aload_n d47_72 rfl ?_
    refine am_dup d47_73 rfl ?_
    refine am_geti d47_74 fl47_58 sh_27 rfl ?_
    show am_W 47 77 _ (.int (M.1 27 7) :: _) _ _
    rw [s3]
    refine am_iconst 1 d47_77 (by decide) ?_
    refine am_iadd d47_78 ?_
    rw [nI_1]
    refine am_put d47_79 fl47_58 sh_27 rfl rfl rfl rfl ?_
    refine am_vret d47_82 rfl ?_
    unfold mo_add at hQ
    first | (rw [if_pos h62] at hQ; exact hQ) | (rw [if_neg h62] at hQ; exact hQ)
theorem q_branch {pn : Nat → Nat} {nb nw ck : Nat} {M : am_M} {Q : am_T} (hS : moS M pn nb nw ck) {a m : Int32} (h1 : ¬ ix a nb → ∀ M', cd M M' 1 → Q (.inl (some (.int 0))) M') (h2 : ∀ b, b < nb → a = nI b → ¬ mo_rd M b m → ∀ M', cd M M' 2 → Q (.inl (some (.int 0))) M') (h3 : ∀ b, b < nb → a = nI b → mo_rd M b m → nb = 6 → ∀ M', cd M M' 3 → Q (.inl (some (.int 0))) M') (h0 : ∀ b, b < nb → a = nI b → mo_rd M b m → nb < 6 → Q (.inl (some (.int (nI nb)))) (am_set (am_set (am_set (am_set (am_set M 27 0 0) 28 nb (nI b)) 29 nb m) 30 nb 0) 27 3 (nI (nb + 1)))) : am_W kM_branch 0 (am_in kM_branch [.ref 27, .int a, .int m]) [] M Q := by
  have hS0 := hS
  obtain ⟨s1, s2, s3, s4, s5, s6, s7, s8, s9⟩ := hS
  have s26 := s2.1
  have s41 := s4.1
  show am_W kM_branch 0 _ [] M Q
  refine am_aload_n d44_0 rfl ?_
  refine am_aload_n d44_1 rfl ?_
  refine am_iload_n d44_2 rfl ?_
  refine am_cv1 34 d44_3 ml44_79 rfl (by decide) sh_27 rfl rfl (Nat.le_of_ble_eq_true rfl) ?_
  refine m_noBranch hS0 (fun g1 => ?_) (fun g1 => ?_)
  · show am_W 44 6 _ (.int 1 :: _) _ _
    refine am_ifeq 13 d44_6 (by decide) (fun h => absurd h (by decide)) (fun _ => ?_)
    refine am_iconst 1 d44_9 (by decide) ?_
    refine am_goto 40 d44_10 (by decide) ?_
    refine am_put d44_40 fl44_45 sh_27 rfl rfl rfl rfl ?_
    refine am_aload_n d44_43 rfl ?_
    refine am_geti d44_44 fl44_45 sh_27 rfl ?_
    show am_W 44 47 _ (.int 1 :: _) _ _
    refine am_ifle 52 d44_47 (by decide) (fun h => absurd h (by decide)) (fun _ => ?_)
    refine am_iconst 0 d44_50 (by decide) ?_
    refine am_iret d44_51 rfl rfl ?_
    first | exact h0 b hb rfl gu hlt | exact h3 b hb rfl gu h6 _ (cd_0 M _) | exact h2 b hb rfl gu _ (cd_0 M _) | exact h1 g1 _ (cd_0 M _)
  · show am_W 44 6 _ (.int 0 :: _) _ _
    obtain ⟨b, hb, rfl⟩ := g1
    refine am_ifeq 13 d44_6 (by decide) (fun _ => ?_) (fun h => absurd h (by decide))
    refine am_aload_n d44_13 rfl ?_
    refine am_iload_n d44_14 rfl ?_
    refine am_iload_n d44_15 rfl ?_
    refine am_cv2 37 d44_16 ml44_71 rfl (by decide) sh_27 rfl rfl rfl (Nat.le_of_ble_eq_true rfl) ?_
    refine m_unreadable (b := b) (by omega) (fun gu => ?_) (fun gu => ?_)
    · show am_W 44 19 _ (.int 1 :: _) _ _
      refine am_ifeq 26 d44_19 (by decide) (fun h => absurd h (by decide)) (fun _ => ?_)
      refine am_iconst 2 d44_22 (by decide) ?_
      refine am_goto 40 d44_23 (by decide) ?_
      refine am_put d44_40 fl44_45 sh_27 rfl rfl rfl rfl ?_
      refine am_aload_n d44_43 rfl ?_
      refine am_geti d44_44 fl44_45 sh_27 rfl ?_
      show am_W 44 47 _ (.int 2 :: _) _ _
      refine am_ifle 52 d44_47 (by decide) (fun h => absurd h (by decide)) (fun _ => ?_)
      refine am_iconst 0 d44_50 (by decide) ?_
      refine am_iret d44_51 rfl rfl ?_
      first | exact h0 b hb rfl gu hlt | exact h3 b hb rfl gu h6 _ (cd_0 M _) | exact h2 b hb rfl gu _ (cd_0 M _) | exact h1 g1 _ (cd_0 M _)
    · show am_W 44 19 _ (.int 0 :: _) _ _
      refine am_ifeq 26 d44_19 (by decide) (fun _ => ?_) (fun h => absurd h (by decide))
      refine am_aload_n d44_26 rfl ?_
      refine am_geti d44_27 fl44_7 sh_27 rfl ?_
      refine am_bipush (nI 6) d44_30 (by decide) ?_
      refine am_icne 39 d44_32 (by decide) (fun h20 => ?_) (fun h20 => ?_)
      · have hlt : nb < 6 := by
          rcases Nat.lt_or_ge nb 6 with h | h
          · exact h
          · exact absurd (by rw [s1, show nb = 6 by omega]) h20
        refine am_iconst 0 d44_39 (by decide) ?_
        refine am_put d44_40 fl44_45 sh_27 rfl rfl rfl rfl ?_
        refine am_aload_n d44_43 rfl ?_
        refine am_geti d44_44 fl44_45 sh_27 rfl ?_
        show am_W 44 47 _ (.int 0 :: _) _ _
        refine am_ifle 52 d44_47 (by decide) (fun _ => ?_) (fun h => absurd h (by decide))
        refine am_aload_n d44_52 rfl ?_
        refine am_getr d44_53 fl44_13 sh_27 rfl ?_
        refine am_aload_n d44_56 rfl ?_
        refine am_geti d44_57 fl44_7 sh_27 rfl ?_
        show am_W 44 60 _ (.int (M.1 27 3) :: _) _ _
        rw [s1]
        refine am_iload_n d44_60 rfl ?_
        refine am_iastN nb d44_61 sh_28 hlt (by decide) ?_
        refine am_aload_n d44_62 rfl ?_
        refine am_getr d44_63 fl44_17 sh_27 rfl ?_
        refine am_aload_n d44_66 rfl ?_
        refine am_geti d44_67 fl44_7 sh_27 rfl ?_
        show am_W 44 70 _ (.int (M.1 27 3) :: _) _ _
        rw [s1]
        refine am_iload_n d44_70 rfl ?_
        refine am_iastN nb d44_71 sh_29 hlt (by decide) ?_
        refine am_aload_n d44_72 rfl ?_
        refine am_getr d44_73 fl44_20 sh_27 rfl ?_
        refine am_aload_n d44_76 rfl ?_
        refine am_geti d44_77 fl44_7 sh_27 rfl ?_
        show am_W 44 80 _ (.int (M.1 27 3) :: _) _ _
        rw [s1]
        refine am_iconst 0 d44_80 (by decide) ?_
        refine am_zastN nb 0 d44_81 sh_30 hlt (by decide) (by decide) ?_
        refine am_aload_n d44_82 rfl ?_
        refine am_dup d44_83 rfl ?_
        refine am_geti d44_84 fl44_7 sh_27 rfl ?_
        show am_W 44 87 _ (.int (M.1 27 3) :: _) _ _
        rw [s1]
        refine am_iconst 1 d44_87 (by decide) ?_
        refine am_iadd d44_88 ?_
        rw [nI_1]
        refine am_put d44_89 fl44_7 sh_27 rfl rfl rfl rfl ?_
        refine am_aload_n d44_92 rfl ?_
        refine am_geti d44_93 fl44_7 sh_27 rfl ?_
        show am_W 44 96 _ (.int (nI (nb + 1)) :: _) _ _
        refine am_iconst 1 d44_96 (by decide) ?_
        refine am_isub d44_97 ?_
        rw [nI_pred]
        refine am_iret d44_98 rfl rfl ?_
        first | exact h0 b hb rfl gu hlt | exact h3 b hb rfl gu h6 _ (cd_0 M _) | exact h2 b hb rfl gu _ (cd_0 M _) | exact h1 g1 _ (cd_0 M _)
      · have h6 : nb = 6 := (nI_eq (by omega) (by decide)).mp (s1.symm.trans h20)
        refine am_iconst 3 d44_35 (by decide) ?_
        refine am_goto 40 d44_36 (by decide) ?_
        refine am_put d44_40 fl44_45 sh_27 rfl rfl rfl rfl ?_
        refine am_aload_n d44_43 rfl ?_
        refine am_geti d44_44 fl44_45 sh_27 rfl ?_
        show am_W 44 47 _ (.int 3 :: _) _ _
        refine am_ifle 52 d44_47 (by decide) (fun h => absurd h (by decide)) (fun _ => ?_)
        refine am_iconst 0 d44_50 (by decide) ?_
        refine am_iret d44_51 rfl rfl ?_
        first | exact h0 b hb rfl gu hlt | exact h3 b hb rfl gu h6 _ (cd_0 M _) | exact h2 b hb rfl gu _ (cd_0 M _) | exact h1 g1 _ (cd_0 M _)
theorem q_close {pn : Nat → Nat} {nb nw ck : Nat} {M : am_M} {Q : am_T} (hS : moS M pn nb nw ck) {a : Int32} (h1 : ¬ ix a nb → ∀ M', cd M M' 1 → Q (.inl none) M') (h2 : ∀ b, b < nb → a = nI b → (¬ M.1 30 b = 0 ∨ (sp_cnt (fun k => !decide (k = b) && decide (M.1 30 k = 0)) nb) = 0) → ∀ M', cd M M' 2 → Q (.inl none) M') (h0 : ∀ b, b < nb → a = nI b → M.1 30 b = 0 → ¬ (sp_cnt (fun k => !decide (k = b) && decide (M.1 30 k = 0)) nb) = 0 → Q (.inl none) (am_set (am_set M 27 0 0) 30 b 1)) : am_W kM_close 0 (am_in kM_close [.ref 27, .int a]) [] M Q := by
  have hS0 := hS
  obtain ⟨s1, s2, s3, s4, s5, s6, s7, s8, s9⟩ := hS
  have s26 := s2.1
  have s41 := s4.1
  show am_W kM_close 0 _ [] M Q
  refine am_aload_n d46_0 rfl ?_
  refine am_aload_n d46_1 rfl ?_
  refine am_iload_n d46_2 rfl ?_
  refine am_cv1 34 d46_3 ml46_79 rfl (by decide) sh_27 rfl rfl (Nat.le_of_ble_eq_true rfl) ?_
  refine m_noBranch hS0 (fun g1 => ?_) (fun g1 => ?_)
  · show am_W 46 6 _ (.int 1 :: _) _ _
    refine am_ifeq 13 d46_6 (by decide) (fun h => absurd h (by decide)) (fun _ => ?_)
    refine am_iconst 1 d46_9 (by decide) ?_
    refine am_goto 35 d46_10 (by decide) ?_
    refine am_put d46_35 fl46_45 sh_27 rfl rfl rfl rfl ?_
    refine am_aload_n d46_38 rfl ?_
    refine am_geti d46_39 fl46_45 sh_27 rfl ?_
    show am_W 46 42 _ (.int 1 :: _) _ _
    refine am_ifne 52 d46_42 (by decide) (fun _ => ?_) (fun h => absurd h (by decide))
    refine am_vret d46_52 rfl ?_
    first | exact h0 b hb rfl h19 ho | exact h2 b hb rfl (Or.inr ho) _ (cd_0 M _) | exact h2 b hb rfl (Or.inl h19) _ (cd_0 M _) | exact h1 g1 _ (cd_0 M _)
  · show am_W 46 6 _ (.int 0 :: _) _ _
    obtain ⟨b, hb, rfl⟩ := g1
    refine am_ifeq 13 d46_6 (by decide) (fun _ => ?_) (fun h => absurd h (by decide))
    refine am_aload_n d46_13 rfl ?_
    refine am_getr d46_14 fl46_20 sh_27 rfl ?_
    refine am_iload_n d46_17 rfl ?_
    refine am_zaldN b d46_18 sh_30 (by omega) (by decide) ?_
    refine am_ifne 30 d46_19 (by decide) (fun h19 => ?_) (fun h19 => ?_)
    · refine am_iconst 2 d46_30 (by decide) ?_
      refine am_goto 35 d46_31 (by decide) ?_
      refine am_put d46_35 fl46_45 sh_27 rfl rfl rfl rfl ?_
      refine am_aload_n d46_38 rfl ?_
      refine am_geti d46_39 fl46_45 sh_27 rfl ?_
      show am_W 46 42 _ (.int 2 :: _) _ _
      refine am_ifne 52 d46_42 (by decide) (fun _ => ?_) (fun h => absurd h (by decide))
      refine am_vret d46_52 rfl ?_
      first | exact h0 b hb rfl h19 ho | exact h2 b hb rfl (Or.inr ho) _ (cd_0 M _) | exact h2 b hb rfl (Or.inl h19) _ (cd_0 M _) | exact h1 g1 _ (cd_0 M _)
    · refine am_aload_n d46_22 rfl ?_
      refine am_iload_n d46_23 rfl ?_
      refine am_cv1 45 d46_24 ml46_83 rfl (by decide) sh_27 rfl rfl (Nat.le_of_ble_eq_true rfl) ?_
      refine m_others hS0 hb ?_
      show am_W 46 27 _ (.int _ :: _) _ _
      have lo := sp_cnt_le (fun k => !decide (k = b) && decide (M.1 30 k = 0)) nb
      refine am_ifne 34 d46_27 (by decide) (fun h => ?_) (fun h => ?_)
      · have ho : ¬ sp_cnt (fun k => !decide (k = b) && decide (M.1 30 k = 0)) nb = 0 := fun z => h (by rw [z]; rfl)
        refine am_iconst 0 d46_34 (by decide) ?_
        refine am_put d46_35 fl46_45 sh_27 rfl rfl rfl rfl ?_
        refine am_aload_n d46_38 rfl ?_
        refine am_geti d46_39 fl46_45 sh_27 rfl ?_
        show am_W 46 42 _ (.int 0 :: _) _ _
        refine am_ifne 52 d46_42 (by decide) (fun h => absurd h (by decide)) (fun _ => ?_)
        refine am_aload_n d46_45 rfl ?_
        refine am_getr d46_46 fl46_20 sh_27 rfl ?_
        refine am_iload_n d46_49 rfl ?_
        refine am_iconst 1 d46_50 (by decide) ?_
        refine am_zastN b 1 d46_51 sh_30 (by omega) (by decide) (by decide) ?_
        refine am_vret d46_52 rfl ?_
        first | exact h0 b hb rfl h19 ho | exact h2 b hb rfl (Or.inr ho) _ (cd_0 M _) | exact h2 b hb rfl (Or.inl h19) _ (cd_0 M _) | exact h1 g1 _ (cd_0 M _)
      · have ho : sp_cnt (fun k => !decide (k = b) && decide (M.1 30 k = 0)) nb = 0 := (nI_eq (by omega) (by decide)).mp h
        refine am_iconst 2 d46_30 (by decide) ?_
        refine am_goto 35 d46_31 (by decide) ?_
        refine am_put d46_35 fl46_45 sh_27 rfl rfl rfl rfl ?_
        refine am_aload_n d46_38 rfl ?_
        refine am_geti d46_39 fl46_45 sh_27 rfl ?_
        show am_W 46 42 _ (.int 2 :: _) _ _
        refine am_ifne 52 d46_42 (by decide) (fun _ => ?_) (fun h => absurd h (by decide))
        refine am_vret d46_52 rfl ?_
        first | exact h0 b hb rfl h19 ho | exact h2 b hb rfl (Or.inr ho) _ (cd_0 M _) | exact h2 b hb rfl (Or.inl h19) _ (cd_0 M _) | exact h1 g1 _ (cd_0 M _)
theorem va_bad {x y : Int32} (h : x < 0 ∨ nI 2 < x ∨ (x = 2 ∧ (y < 0 ∨ nI 11 < y))) : ¬ (x = 0 ∨ x = 1 ∨ (x = 2 ∧ ix y 12)) := by
  rintro (rfl | rfl | ⟨rfl, h2⟩)
  · rcases h with h | h | ⟨h, _⟩
    · exact absurd h (by decide)
    · exact absurd h (by decide)
    · exact absurd h (by decide)
  · rcases h with h | h | ⟨h, _⟩
    · exact absurd h (by decide)
    · exact absurd h (by decide)
    · exact absurd h (by decide)
  · rcases h with h | h | ⟨_, h | h⟩
    · exact absurd h (by decide)
    · exact absurd h (by decide)
    · exact ix_neg (by decide) h h2
    · exact ix_nle (n := 11) (by decide) (Int32.not_le.mpr h) h2
theorem va_good {x y : Int32} (h1 : ¬ x < 0) (h2 : ¬ nI 2 < x) (h3 : x = 2 → ix y 12) : (x = 0 ∨ x = 1 ∨ (x = 2 ∧ ix y 12)) := by
  obtain ⟨j, hj, e⟩ := ix_le (n := 2) (by decide) h1 (Int32.not_lt.mp h2)
  have : j = 0 ∨ j = 1 ∨ j = 2 := by omega
  rcases this with rfl | rfl | rfl
  · exact Or.inl e
  · exact Or.inr (Or.inl e)
  · exact Or.inr (Or.inr ⟨e, h3 e⟩)
theorem q_write {pn : Nat → Nat} {nb nw ck : Nat} {M : am_M} {Q : am_T} (hS : moS M pn nb nw ck) {a u w x y : Int32} (h1 : ¬ (ix a nb ∧ ix u 12 ∧ ix w 4) → ∀ M', cd M M' 1 → Q (.inl (some (.int 0))) M') (h2 : ∀ b o f, b < nb → a = nI b → o < 12 → u = nI o → f < 4 → w = nI f → ¬ (x = 0 ∨ x = 1 ∨ (x = 2 ∧ ix y 12)) → ∀ M', cd M M' 2 → Q (.inl (some (.int 0))) M') (h3 : ∀ b o f, b < nb → a = nI b → o < 12 → u = nI o → f < 4 → w = nI f → (x = 0 ∨ x = 1 ∨ (x = 2 ∧ ix y 12)) → ¬ M.1 30 b = 0 → ∀ M', cd M M' 3 → Q (.inl (some (.int 0))) M') (h4 : ∀ b o f, b < nb → a = nI b → o < 12 → u = nI o → f < 4 → w = nI f → (x = 0 ∨ x = 1 ∨ (x = 2 ∧ ix y 12)) → M.1 30 b = 0 → nw = 120 → ∀ M', cd M M' 4 → Q (.inl (some (.int 0))) M') (h0 : ∀ b o f, b < nb → a = nI b → o < 12 → u = nI o → f < 4 → w = nI f → (x = 0 ∨ x = 1 ∨ (x = 2 ∧ ix y 12)) → M.1 30 b = 0 → nw < 120 → Q (.inl (some (.int (nI (ck + 1))))) (mo_add (am_set M 27 0 0) nw ck (nI b) (nI (4 * o + f)) x y)) : am_W kM_write 0 (am_in kM_write [.ref 27, .int a, .int u, .int w, .int x, .int y]) [] M Q := by
  have hS0 := hS
  obtain ⟨s1, s2, s3, s4, s5, s6, s7, s8, s9⟩ := hS
  have s26 := s2.1
  have s41 := s4.1
  have bad1 : ¬ (x = 0 ∨ x = 1 ∨ (x = 2 ∧ ix y 12)) → am_W kM_write 34 [.ref 27, .int a, .int u, .int w, .int x, .int y, .null] [.int 1] M Q := by
    intro hv
    refine am_istore d48_34 (Nat.le_of_ble_eq_true rfl) rfl ?_
    refine am_aload_n d48_36 rfl ?_
    refine am_aload_n d48_37 rfl ?_
    refine am_iload_n d48_38 rfl ?_
    refine am_cv1 34 d48_39 ml48_79 rfl (by decide) sh_27 rfl rfl (Nat.le_of_ble_eq_true rfl) ?_
    refine m_noBranch hS0 (fun g1 => ?_) (fun g1 => ?_)
    · show am_W 48 42 _ (.int 1 :: _) _ _
      refine am_ifne 53 d48_42 (by decide) (fun _ => ?_) (fun h => absurd h (by decide))
      refine am_iconst 1 d48_53 (by decide) ?_
      refine am_goto 93 d48_54 (by decide) ?_
      refine am_put d48_93 fl48_45 sh_27 rfl rfl rfl rfl ?_
      refine am_aload_n d48_96 rfl ?_
      refine am_geti d48_97 fl48_45 sh_27 rfl ?_
      show am_W 48 100 _ (.int 1 :: _) _ _
      refine am_ifle 105 d48_100 (by decide) (fun h => absurd h (by decide)) (fun _ => ?_)
      refine am_iconst 0 d48_103 (by decide) ?_
      refine am_iret d48_104 rfl rfl ?_
      first | exact h0 b o f hb rfl ho rfl hf rfl hv h72 hlt | exact h4 b o f hb rfl ho rfl hf rfl hv h72 h120 _ (cd_0 M _) | exact h3 b o f hb rfl ho rfl hf rfl hv h72 _ (cd_0 M _) | exact h2 b o f hb rfl ho rfl hf rfl hv _ (cd_0 M _) | exact h1 (fun z => gp z.2) _ (cd_0 M _) | exact h1 (fun z => g1 z.1) _ (cd_0 M _)
    · show am_W 48 42 _ (.int 0 :: _) _ _
      obtain ⟨b, hb, rfl⟩ := g1
      refine am_ifne 53 d48_42 (by decide) (fun h => absurd h (by decide)) (fun _ => ?_)
      refine am_iload_n d48_45 rfl ?_
      refine am_iload_n d48_46 rfl ?_
      refine am_cs2 35 d48_47 ml48_86 rfl (by decide) rfl rfl rfl (Nat.le_of_ble_eq_true rfl) ?_
      refine m_noPlace (fun gp => ?_) (fun gp => ?_)
      · show am_W 48 50 _ (.int 1 :: _) _ _
        refine am_ifeq 57 d48_50 (by decide) (fun h => absurd h (by decide)) (fun _ => ?_)
        refine am_iconst 1 d48_53 (by decide) ?_
        refine am_goto 93 d48_54 (by decide) ?_
        refine am_put d48_93 fl48_45 sh_27 rfl rfl rfl rfl ?_
        refine am_aload_n d48_96 rfl ?_
        refine am_geti d48_97 fl48_45 sh_27 rfl ?_
        show am_W 48 100 _ (.int 1 :: _) _ _
        refine am_ifle 105 d48_100 (by decide) (fun h => absurd h (by decide)) (fun _ => ?_)
        refine am_iconst 0 d48_103 (by decide) ?_
        refine am_iret d48_104 rfl rfl ?_
        first | exact h0 b o f hb rfl ho rfl hf rfl hv h72 hlt | exact h4 b o f hb rfl ho rfl hf rfl hv h72 h120 _ (cd_0 M _) | exact h3 b o f hb rfl ho rfl hf rfl hv h72 _ (cd_0 M _) | exact h2 b o f hb rfl ho rfl hf rfl hv _ (cd_0 M _) | exact h1 (fun z => gp z.2) _ (cd_0 M _) | exact h1 (fun z => g1 z.1) _ (cd_0 M _)
      · show am_W 48 50 _ (.int 0 :: _) _ _
        obtain ⟨⟨o, ho, rfl⟩, ⟨f, hf, rfl⟩⟩ := gp
        refine am_ifeq 57 d48_50 (by decide) (fun _ => ?_) (fun h => absurd h (by decide))
        refine am_iload d48_57 rfl ?_
        refine am_ifeq 66 d48_59 (by decide) (fun h => absurd h (by decide)) (fun _ => ?_)
        refine am_iconst 2 d48_62 (by decide) ?_
        refine am_goto 93 d48_63 (by decide) ?_
        refine am_put d48_93 fl48_45 sh_27 rfl rfl rfl rfl ?_
        refine am_aload_n d48_96 rfl ?_
        refine am_geti d48_97 fl48_45 sh_27 rfl ?_
        show am_W 48 100 _ (.int 2 :: _) _ _
        refine am_ifle 105 d48_100 (by decide) (fun h => absurd h (by decide)) (fun _ => ?_)
        refine am_iconst 0 d48_103 (by decide) ?_
        refine am_iret d48_104 rfl rfl ?_
        first | exact h0 b o f hb rfl ho rfl hf rfl hv h72 hlt | exact h4 b o f hb rfl ho rfl hf rfl hv h72 h120 _ (cd_0 M _) | exact h3 b o f hb rfl ho rfl hf rfl hv h72 _ (cd_0 M _) | exact h2 b o f hb rfl ho rfl hf rfl hv _ (cd_0 M _) | exact h1 (fun z => gp z.2) _ (cd_0 M _) | exact h1 (fun z => g1 z.1) _ (cd_0 M _)
  have good0 : (x = 0 ∨ x = 1 ∨ (x = 2 ∧ ix y 12)) → am_W kM_write 34 [.ref 27, .int a, .int u, .int w, .int x, .int y, .null] [.int 0] M Q := by
    intro hv
    refine am_istore d48_34 (Nat.le_of_ble_eq_true rfl) rfl ?_
    refine am_aload_n d48_36 rfl ?_
    refine am_aload_n d48_37 rfl ?_
    refine am_iload_n d48_38 rfl ?_
    refine am_cv1 34 d48_39 ml48_79 rfl (by decide) sh_27 rfl rfl (Nat.le_of_ble_eq_true rfl) ?_
    refine m_noBranch hS0 (fun g1 => ?_) (fun g1 => ?_)
    · show am_W 48 42 _ (.int 1 :: _) _ _
      refine am_ifne 53 d48_42 (by decide) (fun _ => ?_) (fun h => absurd h (by decide))
      refine am_iconst 1 d48_53 (by decide) ?_
      refine am_goto 93 d48_54 (by decide) ?_
      refine am_put d48_93 fl48_45 sh_27 rfl rfl rfl rfl ?_
      refine am_aload_n d48_96 rfl ?_
      refine am_geti d48_97 fl48_45 sh_27 rfl ?_
      show am_W 48 100 _ (.int 1 :: _) _ _
      refine am_ifle 105 d48_100 (by decide) (fun h => absurd h (by decide)) (fun _ => ?_)
      refine am_iconst 0 d48_103 (by decide) ?_
      refine am_iret d48_104 rfl rfl ?_
      first | exact h0 b o f hb rfl ho rfl hf rfl hv h72 hlt | exact h4 b o f hb rfl ho rfl hf rfl hv h72 h120 _ (cd_0 M _) | exact h3 b o f hb rfl ho rfl hf rfl hv h72 _ (cd_0 M _) | exact h2 b o f hb rfl ho rfl hf rfl hv _ (cd_0 M _) | exact h1 (fun z => gp z.2) _ (cd_0 M _) | exact h1 (fun z => g1 z.1) _ (cd_0 M _)
    · show am_W 48 42 _ (.int 0 :: _) _ _
      obtain ⟨b, hb, rfl⟩ := g1
      refine am_ifne 53 d48_42 (by decide) (fun h => absurd h (by decide)) (fun _ => ?_)
      refine am_iload_n d48_45 rfl ?_
      refine am_iload_n d48_46 rfl ?_
      refine am_cs2 35 d48_47 ml48_86 rfl (by decide) rfl rfl rfl (Nat.le_of_ble_eq_true rfl) ?_
      refine m_noPlace (fun gp => ?_) (fun gp => ?_)
      · show am_W 48 50 _ (.int 1 :: _) _ _
        refine am_ifeq 57 d48_50 (by decide) (fun h => absurd h (by decide)) (fun _ => ?_)
        refine am_iconst 1 d48_53 (by decide) ?_
        refine am_goto 93 d48_54 (by decide) ?_
        refine am_put d48_93 fl48_45 sh_27 rfl rfl rfl rfl ?_
        refine am_aload_n d48_96 rfl ?_
        refine am_geti d48_97 fl48_45 sh_27 rfl ?_
        show am_W 48 100 _ (.int 1 :: _) _ _
        refine am_ifle 105 d48_100 (by decide) (fun h => absurd h (by decide)) (fun _ => ?_)
        refine am_iconst 0 d48_103 (by decide) ?_
        refine am_iret d48_104 rfl rfl ?_
        first | exact h0 b o f hb rfl ho rfl hf rfl hv h72 hlt | exact h4 b o f hb rfl ho rfl hf rfl hv h72 h120 _ (cd_0 M _) | exact h3 b o f hb rfl ho rfl hf rfl hv h72 _ (cd_0 M _) | exact h2 b o f hb rfl ho rfl hf rfl hv _ (cd_0 M _) | exact h1 (fun z => gp z.2) _ (cd_0 M _) | exact h1 (fun z => g1 z.1) _ (cd_0 M _)
      · show am_W 48 50 _ (.int 0 :: _) _ _
        obtain ⟨⟨o, ho, rfl⟩, ⟨f, hf, rfl⟩⟩ := gp
        refine am_ifeq 57 d48_50 (by decide) (fun _ => ?_) (fun h => absurd h (by decide))
        refine am_iload d48_57 rfl ?_
        refine am_ifeq 66 d48_59 (by decide) (fun _ => ?_) (fun h => absurd h (by decide))
        refine am_aload_n d48_66 rfl ?_
        refine am_getr d48_67 fl48_20 sh_27 rfl ?_
        refine am_iload_n d48_70 rfl ?_
        refine am_zaldN b d48_71 sh_30 (by omega) (by decide) ?_
        refine am_ifeq 79 d48_72 (by decide) (fun h72 => ?_) (fun h72 => ?_)
        · refine am_aload_n d48_79 rfl ?_
          refine am_geti d48_80 fl48_58 sh_27 rfl ?_
          refine am_bipush (nI 120) d48_83 (by decide) ?_
          rw [s3]
          refine am_icne 92 d48_85 (by decide) (fun h => ?_) (fun h => ?_)
          · have hlt : nw < 120 := by
              rcases Nat.lt_or_ge nw 120 with z | z
              · exact z
              · exact absurd (by rw [show nw = 120 by omega]) h
            refine am_iconst 0 d48_92 (by decide) ?_
            refine am_put d48_93 fl48_45 sh_27 rfl rfl rfl rfl ?_
            refine am_aload_n d48_96 rfl ?_
            refine am_geti d48_97 fl48_45 sh_27 rfl ?_
            show am_W 48 100 _ (.int 0 :: _) _ _
            refine am_ifle 105 d48_100 (by decide) (fun _ => ?_) (fun h => absurd h (by decide))
            refine am_aload_n d48_105 rfl ?_
            refine am_iload_n d48_106 rfl ?_
            refine am_iconst (nI 4) d48_107 (by decide) ?_
            refine am_iload_n d48_108 rfl ?_
            refine am_mulN d48_109 ?_
            refine am_iload_n d48_110 rfl ?_
            refine am_addN d48_111 ?_
            refine am_iload d48_112 rfl ?_
            refine am_iload d48_114 rfl ?_
            refine am_cv4 47 d48_116 ml48_89 rfl (by decide) sh_27 rfl rfl rfl rfl rfl (Nat.le_of_ble_eq_true rfl) ?_
            refine m_enter (nw := nw) (ck := ck) s3 s5 hlt ?_
            show am_W 48 119 _ _ _ _
            refine am_aload_n d48_119 rfl ?_
            refine am_geti d48_120 fl48_55 sh_27 rfl ?_
            show am_W 48 123 _ (.int (nI (ck + 1)) :: _) _ _
            refine am_iret d48_123 rfl rfl ?_
            first | exact h0 b o f hb rfl ho rfl hf rfl hv h72 hlt | exact h4 b o f hb rfl ho rfl hf rfl hv h72 h120 _ (cd_0 M _) | exact h3 b o f hb rfl ho rfl hf rfl hv h72 _ (cd_0 M _) | exact h2 b o f hb rfl ho rfl hf rfl hv _ (cd_0 M _) | exact h1 (fun z => gp z.2) _ (cd_0 M _) | exact h1 (fun z => g1 z.1) _ (cd_0 M _)
          · have h120 : nw = 120 := (nI_eq (by omega) (by decide)).mp h
            refine am_iconst 4 d48_88 (by decide) ?_
            refine am_goto 93 d48_89 (by decide) ?_
            refine am_put d48_93 fl48_45 sh_27 rfl rfl rfl rfl ?_
            refine am_aload_n d48_96 rfl ?_
            refine am_geti d48_97 fl48_45 sh_27 rfl ?_
            show am_W 48 100 _ (.int 4 :: _) _ _
            refine am_ifle 105 d48_100 (by decide) (fun h => absurd h (by decide)) (fun _ => ?_)
            refine am_iconst 0 d48_103 (by decide) ?_
            refine am_iret d48_104 rfl rfl ?_
            first | exact h0 b o f hb rfl ho rfl hf rfl hv h72 hlt | exact h4 b o f hb rfl ho rfl hf rfl hv h72 h120 _ (cd_0 M _) | exact h3 b o f hb rfl ho rfl hf rfl hv h72 _ (cd_0 M _) | exact h2 b o f hb rfl ho rfl hf rfl hv _ (cd_0 M _) | exact h1 (fun z => gp z.2) _ (cd_0 M _) | exact h1 (fun z => g1 z.1) _ (cd_0 M _)
        · refine am_iconst 3 d48_75 (by decide) ?_
          refine am_goto 93 d48_76 (by decide) ?_
          refine am_put d48_93 fl48_45 sh_27 rfl rfl rfl rfl ?_
          refine am_aload_n d48_96 rfl ?_
          refine am_geti d48_97 fl48_45 sh_27 rfl ?_
          show am_W 48 100 _ (.int 3 :: _) _ _
          refine am_ifle 105 d48_100 (by decide) (fun h => absurd h (by decide)) (fun _ => ?_)
          refine am_iconst 0 d48_103 (by decide) ?_
          refine am_iret d48_104 rfl rfl ?_
          first | exact h0 b o f hb rfl ho rfl hf rfl hv h72 hlt | exact h4 b o f hb rfl ho rfl hf rfl hv h72 h120 _ (cd_0 M _) | exact h3 b o f hb rfl ho rfl hf rfl hv h72 _ (cd_0 M _) | exact h2 b o f hb rfl ho rfl hf rfl hv _ (cd_0 M _) | exact h1 (fun z => gp z.2) _ (cd_0 M _) | exact h1 (fun z => g1 z.1) _ (cd_0 M _)
  show am_W kM_write 0 _ [] M Q
  refine am_iload d48_0 rfl ?_
  refine am_iflt 29 d48_2 (by decide) (fun h2' => ?_) (fun h2' => ?_)
  · refine am_iconst 1 d48_29 (by decide) ?_
    refine am_goto 34 d48_30 (by decide) ?_
    first | exact bad1 (va_bad (Or.inl h2')) | exact bad1 (va_bad (Or.inr (Or.inl h8))) | exact bad1 (va_bad (Or.inr (Or.inr ⟨h14, Or.inl h19⟩))) | exact bad1 (va_bad (Or.inr (Or.inr ⟨h14, Or.inr (Int32.not_le.mp h26)⟩))) | exact good0 (va_good h2' h8 (fun z => absurd z h14)) | exact good0 (va_good h2' h8 (fun _ => ix_le (n := 11) (by decide) h19 h26))
  · refine am_iload d48_5 rfl ?_
    refine am_iconst (nI 2) d48_7 (by decide) ?_
    refine am_icgt 29 d48_8 (by decide) (fun h8 => ?_) (fun h8 => ?_)
    · refine am_iconst 1 d48_29 (by decide) ?_
      refine am_goto 34 d48_30 (by decide) ?_
      first | exact bad1 (va_bad (Or.inl h2')) | exact bad1 (va_bad (Or.inr (Or.inl h8))) | exact bad1 (va_bad (Or.inr (Or.inr ⟨h14, Or.inl h19⟩))) | exact bad1 (va_bad (Or.inr (Or.inr ⟨h14, Or.inr (Int32.not_le.mp h26)⟩))) | exact good0 (va_good h2' h8 (fun z => absurd z h14)) | exact good0 (va_good h2' h8 (fun _ => ix_le (n := 11) (by decide) h19 h26))
    · refine am_iload d48_11 rfl ?_
      refine am_iconst 2 d48_13 (by decide) ?_
      refine am_icne 33 d48_14 (by decide) (fun h14 => ?_) (fun h14 => ?_)
      · refine am_iconst 0 d48_33 (by decide) ?_
        first | exact bad1 (va_bad (Or.inl h2')) | exact bad1 (va_bad (Or.inr (Or.inl h8))) | exact bad1 (va_bad (Or.inr (Or.inr ⟨h14, Or.inl h19⟩))) | exact bad1 (va_bad (Or.inr (Or.inr ⟨h14, Or.inr (Int32.not_le.mp h26)⟩))) | exact good0 (va_good h2' h8 (fun z => absurd z h14)) | exact good0 (va_good h2' h8 (fun _ => ix_le (n := 11) (by decide) h19 h26))
      · refine am_iload d48_17 rfl ?_
        refine am_iflt 29 d48_19 (by decide) (fun h19 => ?_) (fun h19 => ?_)
        · refine am_iconst 1 d48_29 (by decide) ?_
          refine am_goto 34 d48_30 (by decide) ?_
          first | exact bad1 (va_bad (Or.inl h2')) | exact bad1 (va_bad (Or.inr (Or.inl h8))) | exact bad1 (va_bad (Or.inr (Or.inr ⟨h14, Or.inl h19⟩))) | exact bad1 (va_bad (Or.inr (Or.inr ⟨h14, Or.inr (Int32.not_le.mp h26)⟩))) | exact good0 (va_good h2' h8 (fun z => absurd z h14)) | exact good0 (va_good h2' h8 (fun _ => ix_le (n := 11) (by decide) h19 h26))
        · refine am_iload d48_22 rfl ?_
          refine am_bipush (nI 11) d48_24 (by decide) ?_
          refine am_icle 33 d48_26 (by decide) (fun h26 => ?_) (fun h26 => ?_)
          · refine am_iconst 0 d48_33 (by decide) ?_
            first | exact bad1 (va_bad (Or.inl h2')) | exact bad1 (va_bad (Or.inr (Or.inl h8))) | exact bad1 (va_bad (Or.inr (Or.inr ⟨h14, Or.inl h19⟩))) | exact bad1 (va_bad (Or.inr (Or.inr ⟨h14, Or.inr (Int32.not_le.mp h26)⟩))) | exact good0 (va_good h2' h8 (fun z => absurd z h14)) | exact good0 (va_good h2' h8 (fun _ => ix_le (n := 11) (by decide) h19 h26))
          · refine am_iconst 1 d48_29 (by decide) ?_
            refine am_goto 34 d48_30 (by decide) ?_
            first | exact bad1 (va_bad (Or.inl h2')) | exact bad1 (va_bad (Or.inr (Or.inl h8))) | exact bad1 (va_bad (Or.inr (Or.inr ⟨h14, Or.inl h19⟩))) | exact bad1 (va_bad (Or.inr (Or.inr ⟨h14, Or.inr (Int32.not_le.mp h26)⟩))) | exact good0 (va_good h2' h8 (fun z => absurd z h14)) | exact good0 (va_good h2' h8 (fun _ => ix_le (n := 11) (by decide) h19 h26))
end
