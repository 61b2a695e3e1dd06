section
-- ===== PART A: goes FIRST, ahead of the names: the tables' words, and 'selects' of the private methods out of them =====
/-- a private method of a class that the tables say can be made, by its rows of tables_1 -/
def lw_okq (q : MethodName × Nat) : Prop := (q.1.cls ≠ "java/lang/invoke/MethodHandle" ∧ q.1.cls ≠ "java/lang/invoke/VarHandle") ∧ Cond.instantiable q.1.cls q.2 ∈ tables_1 ∧ Cond.privateMethod q.1 ∈ tables_1 ∧ Cond.instanceMethod q.1 ∈ tables_1
theorem lw_p0 : lw_okq (⟨"BranchedPast", "requireBranch", "(I)V"⟩, 8) := ⟨⟨by decide +kernel, by decide +kernel⟩, List.mem_of_getElem? (i := 17) (by decide +kernel), List.mem_of_getElem? (i := 168) (by decide +kernel), List.mem_of_getElem? (i := 169) (by decide +kernel)⟩
theorem lw_p1 : lw_okq (⟨"java/lang/Throwable", "fillInStackTrace", "(I)Ljava/lang/Throwable;"⟩, 6) := ⟨⟨by decide +kernel, by decide +kernel⟩, List.mem_of_getElem? (i := 211) (by decide +kernel), List.mem_of_getElem? (i := 209) (by decide +kernel), List.mem_of_getElem? (i := 210) (by decide +kernel)⟩
theorem lw_p2 : lw_okq (⟨"BranchedPast", "requireReadable", "(II)V"⟩, 8) := ⟨⟨by decide +kernel, by decide +kernel⟩, List.mem_of_getElem? (i := 17) (by decide +kernel), List.mem_of_getElem? (i := 241) (by decide +kernel), List.mem_of_getElem? (i := 242) (by decide +kernel)⟩
theorem lw_p3 : lw_okq (⟨"BranchedPast", "firstReadable", "(I)I"⟩, 8) := ⟨⟨by decide +kernel, by decide +kernel⟩, List.mem_of_getElem? (i := 17) (by decide +kernel), List.mem_of_getElem? (i := 245) (by decide +kernel), List.mem_of_getElem? (i := 246) (by decide +kernel)⟩
theorem lw_p4 : lw_okq (⟨"BranchedPast", "requireOpen", "(I)V"⟩, 8) := ⟨⟨by decide +kernel, by decide +kernel⟩, List.mem_of_getElem? (i := 17) (by decide +kernel), List.mem_of_getElem? (i := 295) (by decide +kernel), List.mem_of_getElem? (i := 296) (by decide +kernel)⟩
theorem lw_p5 : lw_okq (⟨"BranchedPast", "requireRoomFor", "(I)V"⟩, 8) := ⟨⟨by decide +kernel, by decide +kernel⟩, List.mem_of_getElem? (i := 17) (by decide +kernel), List.mem_of_getElem? (i := 328) (by decide +kernel), List.mem_of_getElem? (i := 329) (by decide +kernel)⟩
theorem lw_p6 : lw_okq (⟨"BranchedPast", "append", "(IIII)V"⟩, 8) := ⟨⟨by decide +kernel, by decide +kernel⟩, List.mem_of_getElem? (i := 17) (by decide +kernel), List.mem_of_getElem? (i := 351) (by decide +kernel), List.mem_of_getElem? (i := 352) (by decide +kernel)⟩
theorem lw_p7 : lw_okq (⟨"BranchedPast", "look", "(LBranchedPast$View;II)V"⟩, 8) := ⟨⟨by decide +kernel, by decide +kernel⟩, List.mem_of_getElem? (i := 17) (by decide +kernel), List.mem_of_getElem? (i := 370) (by decide +kernel), List.mem_of_getElem? (i := 371) (by decide +kernel)⟩
theorem lw_p8 : lw_okq (⟨"BranchedPast", "markGiven", "(I)V"⟩, 8) := ⟨⟨by decide +kernel, by decide +kernel⟩, List.mem_of_getElem? (i := 17) (by decide +kernel), List.mem_of_getElem? (i := 404) (by decide +kernel), List.mem_of_getElem? (i := 405) (by decide +kernel)⟩
theorem lw_p9 : lw_okq (⟨"BranchedPast", "countConflicts", "()I"⟩, 8) := ⟨⟨by decide +kernel, by decide +kernel⟩, List.mem_of_getElem? (i := 17) (by decide +kernel), List.mem_of_getElem? (i := 452) (by decide +kernel), List.mem_of_getElem? (i := 453) (by decide +kernel)⟩
theorem lw_p10 : lw_okq (⟨"BranchedPast", "isCarried", "(I)Z"⟩, 8) := ⟨⟨by decide +kernel, by decide +kernel⟩, List.mem_of_getElem? (i := 17) (by decide +kernel), List.mem_of_getElem? (i := 456) (by decide +kernel), List.mem_of_getElem? (i := 457) (by decide +kernel)⟩
theorem lw_p11 : lw_okq (⟨"BranchedPast", "countCarried", "()I"⟩, 8) := ⟨⟨by decide +kernel, by decide +kernel⟩, List.mem_of_getElem? (i := 17) (by decide +kernel), List.mem_of_getElem? (i := 460) (by decide +kernel), List.mem_of_getElem? (i := 461) (by decide +kernel)⟩
theorem lw_p12 : lw_okq (⟨"BranchedPast", "carryTo", "(I)V"⟩, 8) := ⟨⟨by decide +kernel, by decide +kernel⟩, List.mem_of_getElem? (i := 17) (by decide +kernel), List.mem_of_getElem? (i := 464) (by decide +kernel), List.mem_of_getElem? (i := 465) (by decide +kernel)⟩
theorem lw_p13 : lw_okq (⟨"BranchedPast$Writes", "moveRow", "(II)V"⟩, 7) := ⟨⟨by decide +kernel, by decide +kernel⟩, List.mem_of_getElem? (i := 54) (by decide +kernel), List.mem_of_getElem? (i := 480) (by decide +kernel), List.mem_of_getElem? (i := 481) (by decide +kernel)⟩
theorem lw_p14 : lw_okq (⟨"BranchedPast$View", "target", "(I)I"⟩, 3) := ⟨⟨by decide +kernel, by decide +kernel⟩, List.mem_of_getElem? (i := 83) (by decide +kernel), List.mem_of_getElem? (i := 503) (by decide +kernel), List.mem_of_getElem? (i := 504) (by decide +kernel)⟩
theorem lw_p15 : lw_okq (⟨"BranchedPast$Path", "takeStart", "()Z"⟩, 4) := ⟨⟨by decide +kernel, by decide +kernel⟩, List.mem_of_getElem? (i := 105) (by decide +kernel), List.mem_of_getElem? (i := 542) (by decide +kernel), List.mem_of_getElem? (i := 543) (by decide +kernel)⟩
def lw_privs_1 : List (MethodName × Nat) := [(⟨"BranchedPast", "requireBranch", "(I)V"⟩, 8), (⟨"java/lang/Throwable", "fillInStackTrace", "(I)Ljava/lang/Throwable;"⟩, 6), (⟨"BranchedPast", "requireReadable", "(II)V"⟩, 8), (⟨"BranchedPast", "firstReadable", "(I)I"⟩, 8), (⟨"BranchedPast", "requireOpen", "(I)V"⟩, 8), (⟨"BranchedPast", "requireRoomFor", "(I)V"⟩, 8), (⟨"BranchedPast", "append", "(IIII)V"⟩, 8), (⟨"BranchedPast", "look", "(LBranchedPast$View;II)V"⟩, 8), (⟨"BranchedPast", "markGiven", "(I)V"⟩, 8), (⟨"BranchedPast", "countConflicts", "()I"⟩, 8), (⟨"BranchedPast", "isCarried", "(I)Z"⟩, 8), (⟨"BranchedPast", "countCarried", "()I"⟩, 8), (⟨"BranchedPast", "carryTo", "(I)V"⟩, 8), (⟨"BranchedPast$Writes", "moveRow", "(II)V"⟩, 7), (⟨"BranchedPast$View", "target", "(I)I"⟩, 3), (⟨"BranchedPast$Path", "takeStart", "()Z"⟩, 4)]
theorem lw_r1 : ∀ q ∈ lw_privs_1, lw_okq q := List.forall_mem_cons.mpr ⟨lw_p0, List.forall_mem_cons.mpr ⟨lw_p1, List.forall_mem_cons.mpr ⟨lw_p2, List.forall_mem_cons.mpr ⟨lw_p3, List.forall_mem_cons.mpr ⟨lw_p4, List.forall_mem_cons.mpr ⟨lw_p5, List.forall_mem_cons.mpr ⟨lw_p6, List.forall_mem_cons.mpr ⟨lw_p7, List.forall_mem_cons.mpr ⟨lw_p8, List.forall_mem_cons.mpr ⟨lw_p9, List.forall_mem_cons.mpr ⟨lw_p10, List.forall_mem_cons.mpr ⟨lw_p11, List.forall_mem_cons.mpr ⟨lw_p12, List.forall_mem_cons.mpr ⟨lw_p13, List.forall_mem_cons.mpr ⟨lw_p14, List.forall_mem_cons.mpr ⟨lw_p15, fun _ h => absurd h List.not_mem_nil⟩⟩⟩⟩⟩⟩⟩⟩⟩⟩⟩⟩⟩⟩⟩⟩
theorem lw_p16 : lw_okq (⟨"BranchedPast$Path", "next", "()C"⟩, 4) := ⟨⟨by decide +kernel, by decide +kernel⟩, List.mem_of_getElem? (i := 105) (by decide +kernel), List.mem_of_getElem? (i := 546) (by decide +kernel), List.mem_of_getElem? (i := 547) (by decide +kernel)⟩
theorem lw_p17 : lw_okq (⟨"BranchedPast$Path", "takeStep", "(LBranchedPast$View;)Z"⟩, 4) := ⟨⟨by decide +kernel, by decide +kernel⟩, List.mem_of_getElem? (i := 105) (by decide +kernel), List.mem_of_getElem? (i := 551) (by decide +kernel), List.mem_of_getElem? (i := 552) (by decide +kernel)⟩
theorem lw_p18 : lw_okq (⟨"BranchedPast$Path", "move", "(LBranchedPast$View;ZI)V"⟩, 4) := ⟨⟨by decide +kernel, by decide +kernel⟩, List.mem_of_getElem? (i := 105) (by decide +kernel), List.mem_of_getElem? (i := 555) (by decide +kernel), List.mem_of_getElem? (i := 556) (by decide +kernel)⟩
theorem lw_p19 : lw_okq (⟨"BranchedPast$Path", "takes", "(C)Z"⟩, 4) := ⟨⟨by decide +kernel, by decide +kernel⟩, List.mem_of_getElem? (i := 105) (by decide +kernel), List.mem_of_getElem? (i := 559) (by decide +kernel), List.mem_of_getElem? (i := 560) (by decide +kernel)⟩
theorem lw_p20 : lw_okq (⟨"BranchedPast$Path", "moved", "(LBranchedPast$View;ZI)I"⟩, 4) := ⟨⟨by decide +kernel, by decide +kernel⟩, List.mem_of_getElem? (i := 105) (by decide +kernel), List.mem_of_getElem? (i := 563) (by decide +kernel), List.mem_of_getElem? (i := 564) (by decide +kernel)⟩
theorem lw_p21 : lw_okq (⟨"BranchedPast$Path", "takeComparison", "(LBranchedPast$View;I)Z"⟩, 4) := ⟨⟨by decide +kernel, by decide +kernel⟩, List.mem_of_getElem? (i := 105) (by decide +kernel), List.mem_of_getElem? (i := 572) (by decide +kernel), List.mem_of_getElem? (i := 573) (by decide +kernel)⟩
theorem lw_p22 : lw_okq (⟨"BranchedPast$Path", "takeNumber", "()I"⟩, 4) := ⟨⟨by decide +kernel, by decide +kernel⟩, List.mem_of_getElem? (i := 105) (by decide +kernel), List.mem_of_getElem? (i := 576) (by decide +kernel), List.mem_of_getElem? (i := 577) (by decide +kernel)⟩
theorem lw_p23 : lw_okq (⟨"BranchedPastModel", "noBranch", "(I)Z"⟩, 18) := ⟨⟨by decide +kernel, by decide +kernel⟩, List.mem_of_getElem? (i := 612) (by decide +kernel), List.mem_of_getElem? (i := 681) (by decide +kernel), List.mem_of_getElem? (i := 682) (by decide +kernel)⟩
theorem lw_p24 : lw_okq (⟨"BranchedPastModel", "unreadable", "(II)Z"⟩, 18) := ⟨⟨by decide +kernel, by decide +kernel⟩, List.mem_of_getElem? (i := 612) (by decide +kernel), List.mem_of_getElem? (i := 685) (by decide +kernel), List.mem_of_getElem? (i := 686) (by decide +kernel)⟩
theorem lw_p25 : lw_okq (⟨"BranchedPastModel", "first", "(I)I"⟩, 18) := ⟨⟨by decide +kernel, by decide +kernel⟩, List.mem_of_getElem? (i := 612) (by decide +kernel), List.mem_of_getElem? (i := 689) (by decide +kernel), List.mem_of_getElem? (i := 690) (by decide +kernel)⟩
theorem lw_p26 : lw_okq (⟨"BranchedPastModel", "others", "(I)I"⟩, 18) := ⟨⟨by decide +kernel, by decide +kernel⟩, List.mem_of_getElem? (i := 612) (by decide +kernel), List.mem_of_getElem? (i := 697) (by decide +kernel), List.mem_of_getElem? (i := 698) (by decide +kernel)⟩
theorem lw_p27 : lw_okq (⟨"BranchedPastModel", "enter", "(IIII)V"⟩, 18) := ⟨⟨by decide +kernel, by decide +kernel⟩, List.mem_of_getElem? (i := 612) (by decide +kernel), List.mem_of_getElem? (i := 708) (by decide +kernel), List.mem_of_getElem? (i := 709) (by decide +kernel)⟩
theorem lw_p28 : lw_okq (⟨"BranchedPastModel", "latest", "(III)I"⟩, 18) := ⟨⟨by decide +kernel, by decide +kernel⟩, List.mem_of_getElem? (i := 612) (by decide +kernel), List.mem_of_getElem? (i := 716) (by decide +kernel), List.mem_of_getElem? (i := 717) (by decide +kernel)⟩
theorem lw_p29 : lw_okq (⟨"BranchedPastModel", "sees", "(III)Z"⟩, 18) := ⟨⟨by decide +kernel, by decide +kernel⟩, List.mem_of_getElem? (i := 612) (by decide +kernel), List.mem_of_getElem? (i := 720) (by decide +kernel), List.mem_of_getElem? (i := 721) (by decide +kernel)⟩
theorem lw_p30 : lw_okq (⟨"BranchedPastModel", "kindOf", "(I)I"⟩, 18) := ⟨⟨by decide +kernel, by decide +kernel⟩, List.mem_of_getElem? (i := 612) (by decide +kernel), List.mem_of_getElem? (i := 724) (by decide +kernel), List.mem_of_getElem? (i := 725) (by decide +kernel)⟩
theorem lw_p31 : lw_okq (⟨"BranchedPastModel", "valueOf", "(I)I"⟩, 18) := ⟨⟨by decide +kernel, by decide +kernel⟩, List.mem_of_getElem? (i := 612) (by decide +kernel), List.mem_of_getElem? (i := 728) (by decide +kernel), List.mem_of_getElem? (i := 729) (by decide +kernel)⟩
def lw_privs_2 : List (MethodName × Nat) := [(⟨"BranchedPast$Path", "next", "()C"⟩, 4), (⟨"BranchedPast$Path", "takeStep", "(LBranchedPast$View;)Z"⟩, 4), (⟨"BranchedPast$Path", "move", "(LBranchedPast$View;ZI)V"⟩, 4), (⟨"BranchedPast$Path", "takes", "(C)Z"⟩, 4), (⟨"BranchedPast$Path", "moved", "(LBranchedPast$View;ZI)I"⟩, 4), (⟨"BranchedPast$Path", "takeComparison", "(LBranchedPast$View;I)Z"⟩, 4), (⟨"BranchedPast$Path", "takeNumber", "()I"⟩, 4), (⟨"BranchedPastModel", "noBranch", "(I)Z"⟩, 18), (⟨"BranchedPastModel", "unreadable", "(II)Z"⟩, 18), (⟨"BranchedPastModel", "first", "(I)I"⟩, 18), (⟨"BranchedPastModel", "others", "(I)I"⟩, 18), (⟨"BranchedPastModel", "enter", "(IIII)V"⟩, 18), (⟨"BranchedPastModel", "latest", "(III)I"⟩, 18), (⟨"BranchedPastModel", "sees", "(III)Z"⟩, 18), (⟨"BranchedPastModel", "kindOf", "(I)I"⟩, 18), (⟨"BranchedPastModel", "valueOf", "(I)I"⟩, 18)]
theorem lw_r2 : ∀ q ∈ lw_privs_2, lw_okq q := List.forall_mem_cons.mpr ⟨lw_p16, List.forall_mem_cons.mpr ⟨lw_p17, List.forall_mem_cons.mpr ⟨lw_p18, List.forall_mem_cons.mpr ⟨lw_p19, List.forall_mem_cons.mpr ⟨lw_p20, List.forall_mem_cons.mpr ⟨lw_p21, List.forall_mem_cons.mpr ⟨lw_p22, List.forall_mem_cons.mpr ⟨lw_p23, List.forall_mem_cons.mpr ⟨lw_p24, List.forall_mem_cons.mpr ⟨lw_p25, List.forall_mem_cons.mpr ⟨lw_p26, List.forall_mem_cons.mpr ⟨lw_p27, List.forall_mem_cons.mpr ⟨lw_p28, List.forall_mem_cons.mpr ⟨lw_p29, List.forall_mem_cons.mpr ⟨lw_p30, List.forall_mem_cons.mpr ⟨lw_p31, fun _ h => absurd h List.not_mem_nil⟩⟩⟩⟩⟩⟩⟩⟩⟩⟩⟩⟩⟩⟩⟩⟩
theorem lw_p32 : lw_okq (⟨"BranchedPastModel", "gives", "(II)Z"⟩, 18) := ⟨⟨by decide +kernel, by decide +kernel⟩, List.mem_of_getElem? (i := 612) (by decide +kernel), List.mem_of_getElem? (i := 736) (by decide +kernel), List.mem_of_getElem? (i := 737) (by decide +kernel)⟩
theorem lw_p33 : lw_okq (⟨"BranchedPastModel", "alike", "(II)Z"⟩, 18) := ⟨⟨by decide +kernel, by decide +kernel⟩, List.mem_of_getElem? (i := 612) (by decide +kernel), List.mem_of_getElem? (i := 744) (by decide +kernel), List.mem_of_getElem? (i := 745) (by decide +kernel)⟩
theorem lw_p34 : lw_okq (⟨"BranchedPastModel", "meet", "(II)I"⟩, 18) := ⟨⟨by decide +kernel, by decide +kernel⟩, List.mem_of_getElem? (i := 612) (by decide +kernel), List.mem_of_getElem? (i := 752) (by decide +kernel), List.mem_of_getElem? (i := 753) (by decide +kernel)⟩
theorem lw_p35 : lw_okq (⟨"BranchedPastModel", "isOnLine", "(II)Z"⟩, 18) := ⟨⟨by decide +kernel, by decide +kernel⟩, List.mem_of_getElem? (i := 612) (by decide +kernel), List.mem_of_getElem? (i := 756) (by decide +kernel), List.mem_of_getElem? (i := 757) (by decide +kernel)⟩
theorem lw_p36 : lw_okq (⟨"BranchedPastModel", "left", "(II)I"⟩, 18) := ⟨⟨by decide +kernel, by decide +kernel⟩, List.mem_of_getElem? (i := 612) (by decide +kernel), List.mem_of_getElem? (i := 760) (by decide +kernel), List.mem_of_getElem? (i := 761) (by decide +kernel)⟩
theorem lw_p37 : lw_okq (⟨"BranchedPastModel", "changed", "(III)Z"⟩, 18) := ⟨⟨by decide +kernel, by decide +kernel⟩, List.mem_of_getElem? (i := 612) (by decide +kernel), List.mem_of_getElem? (i := 768) (by decide +kernel), List.mem_of_getElem? (i := 769) (by decide +kernel)⟩
theorem lw_p38 : lw_okq (⟨"BranchedPastModel", "along", "(IIII)I"⟩, 18) := ⟨⟨by decide +kernel, by decide +kernel⟩, List.mem_of_getElem? (i := 612) (by decide +kernel), List.mem_of_getElem? (i := 780) (by decide +kernel), List.mem_of_getElem? (i := 781) (by decide +kernel)⟩
theorem lw_p39 : lw_okq (⟨"BranchedPastModel", "stepOf", "(III)I"⟩, 18) := ⟨⟨by decide +kernel, by decide +kernel⟩, List.mem_of_getElem? (i := 612) (by decide +kernel), List.mem_of_getElem? (i := 796) (by decide +kernel), List.mem_of_getElem? (i := 797) (by decide +kernel)⟩
theorem lw_p40 : lw_okq (⟨"BranchedPastModel", "eats", "(I)Z"⟩, 18) := ⟨⟨by decide +kernel, by decide +kernel⟩, List.mem_of_getElem? (i := 612) (by decide +kernel), List.mem_of_getElem? (i := 800) (by decide +kernel), List.mem_of_getElem? (i := 801) (by decide +kernel)⟩
theorem lw_p41 : lw_okq (⟨"BranchedPastModel", "peek", "()I"⟩, 18) := ⟨⟨by decide +kernel, by decide +kernel⟩, List.mem_of_getElem? (i := 612) (by decide +kernel), List.mem_of_getElem? (i := 804) (by decide +kernel), List.mem_of_getElem? (i := 805) (by decide +kernel)⟩
theorem lw_p42 : lw_okq (⟨"BranchedPastModel", "follow", "(IZII)I"⟩, 18) := ⟨⟨by decide +kernel, by decide +kernel⟩, List.mem_of_getElem? (i := 612) (by decide +kernel), List.mem_of_getElem? (i := 808) (by decide +kernel), List.mem_of_getElem? (i := 809) (by decide +kernel)⟩
theorem lw_p43 : lw_okq (⟨"BranchedPastModel", "digit", "(I)I"⟩, 18) := ⟨⟨by decide +kernel, by decide +kernel⟩, List.mem_of_getElem? (i := 612) (by decide +kernel), List.mem_of_getElem? (i := 812) (by decide +kernel), List.mem_of_getElem? (i := 813) (by decide +kernel)⟩
theorem lw_p44 : lw_okq (⟨"BranchedPastModel", "against", "(IIII)I"⟩, 18) := ⟨⟨by decide +kernel, by decide +kernel⟩, List.mem_of_getElem? (i := 612) (by decide +kernel), List.mem_of_getElem? (i := 816) (by decide +kernel), List.mem_of_getElem? (i := 817) (by decide +kernel)⟩
theorem lw_p45 : lw_okq (⟨"BranchedPastModel", "filter", "(III)I"⟩, 18) := ⟨⟨by decide +kernel, by decide +kernel⟩, List.mem_of_getElem? (i := 612) (by decide +kernel), List.mem_of_getElem? (i := 820) (by decide +kernel), List.mem_of_getElem? (i := 821) (by decide +kernel)⟩
theorem lw_p46 : lw_okq (⟨"BranchedPastModel", "number", "()I"⟩, 18) := ⟨⟨by decide +kernel, by decide +kernel⟩, List.mem_of_getElem? (i := 612) (by decide +kernel), List.mem_of_getElem? (i := 824) (by decide +kernel), List.mem_of_getElem? (i := 825) (by decide +kernel)⟩
theorem lw_p47 : lw_okq (⟨"BranchedPastModel", "isDigit", "()Z"⟩, 18) := ⟨⟨by decide +kernel, by decide +kernel⟩, List.mem_of_getElem? (i := 612) (by decide +kernel), List.mem_of_getElem? (i := 828) (by decide +kernel), List.mem_of_getElem? (i := 829) (by decide +kernel)⟩
def lw_privs_3 : List (MethodName × Nat) := [(⟨"BranchedPastModel", "gives", "(II)Z"⟩, 18), (⟨"BranchedPastModel", "alike", "(II)Z"⟩, 18), (⟨"BranchedPastModel", "meet", "(II)I"⟩, 18), (⟨"BranchedPastModel", "isOnLine", "(II)Z"⟩, 18), (⟨"BranchedPastModel", "left", "(II)I"⟩, 18), (⟨"BranchedPastModel", "changed", "(III)Z"⟩, 18), (⟨"BranchedPastModel", "along", "(IIII)I"⟩, 18), (⟨"BranchedPastModel", "stepOf", "(III)I"⟩, 18), (⟨"BranchedPastModel", "eats", "(I)Z"⟩, 18), (⟨"BranchedPastModel", "peek", "()I"⟩, 18), (⟨"BranchedPastModel", "follow", "(IZII)I"⟩, 18), (⟨"BranchedPastModel", "digit", "(I)I"⟩, 18), (⟨"BranchedPastModel", "against", "(IIII)I"⟩, 18), (⟨"BranchedPastModel", "filter", "(III)I"⟩, 18), (⟨"BranchedPastModel", "number", "()I"⟩, 18), (⟨"BranchedPastModel", "isDigit", "()Z"⟩, 18)]
theorem lw_r3 : ∀ q ∈ lw_privs_3, lw_okq q := List.forall_mem_cons.mpr ⟨lw_p32, List.forall_mem_cons.mpr ⟨lw_p33, List.forall_mem_cons.mpr ⟨lw_p34, List.forall_mem_cons.mpr ⟨lw_p35, List.forall_mem_cons.mpr ⟨lw_p36, List.forall_mem_cons.mpr ⟨lw_p37, List.forall_mem_cons.mpr ⟨lw_p38, List.forall_mem_cons.mpr ⟨lw_p39, List.forall_mem_cons.mpr ⟨lw_p40, List.forall_mem_cons.mpr ⟨lw_p41, List.forall_mem_cons.mpr ⟨lw_p42, List.forall_mem_cons.mpr ⟨lw_p43, List.forall_mem_cons.mpr ⟨lw_p44, List.forall_mem_cons.mpr ⟨lw_p45, List.forall_mem_cons.mpr ⟨lw_p46, List.forall_mem_cons.mpr ⟨lw_p47, fun _ h => absurd h List.not_mem_nil⟩⟩⟩⟩⟩⟩⟩⟩⟩⟩⟩⟩⟩⟩⟩⟩
theorem lw_p48 : lw_okq (⟨"BranchedPastModel", "empty", "(III)I"⟩, 18) := ⟨⟨by decide +kernel, by decide +kernel⟩, List.mem_of_getElem? (i := 612) (by decide +kernel), List.mem_of_getElem? (i := 832) (by decide +kernel), List.mem_of_getElem? (i := 833) (by decide +kernel)⟩
def lw_privs_4 : List (MethodName × Nat) := [(⟨"BranchedPastModel", "empty", "(III)I"⟩, 18)]
theorem lw_r4 : ∀ q ∈ lw_privs_4, lw_okq q := List.forall_mem_cons.mpr ⟨lw_p48, fun _ h => absurd h List.not_mem_nil⟩
def lw_privs : List (MethodName × Nat) := lw_privs_1 ++ (lw_privs_2 ++ (lw_privs_3 ++ (lw_privs_4)))
def lw_tbl : List Cond := k2_sels lw_privs ++ tables_1
theorem lw_privs_ok : ∀ q ∈ lw_privs, lw_okq q := by
  show ∀ q ∈ lw_privs_1 ++ (lw_privs_2 ++ (lw_privs_3 ++ (lw_privs_4))), lw_okq q
  exact List.forall_mem_append.mpr ⟨lw_r1, List.forall_mem_append.mpr ⟨lw_r2, List.forall_mem_append.mpr ⟨lw_r3, lw_r4⟩⟩⟩
/-! from claim/NAMES.whole.lean.txt: the rows on exceptions that are used here -/
section VXA
/-- where a method has thrown q: the class by its name, the cell, what was written, the world -/
def vx_T (XC : String → State → State → Prop) (st : State) (q : Addr) (t : State) (mc ms : Nat) (free : Addr → Prop) : Prop :=
  ∃ (E : String) (ce : Cell) (L : List Loc), XC E st t ∧ t.heap[q]? = some ce ∧ ce.vm = .none ∧ st.vm.findClass E = some ce.cls ∧ st.WarmedH t.vm ∧ st.sameButNew ({ t with vm := st.vm } : State) L mc ms ∧ ∀ z ∈ L, free z.base
def vx_Q (Qc : Array Value → State → Outcome → State → Prop) (XC : String → State → State → Prop) (mc ms : Nat) (free : Addr → Prop) : Array Value → State → Outcome → State → Prop := fun a st o t =>
  (Qc a st o t ∧ ∃ L, FrameEnd st o t L mc ms ∧ ∀ q ∈ L, free q.base) ∨ ∃ q, o = .threw q ∧ vx_T XC st q t mc ms free
section Payer
variable {l : Launch} {R : Room} {p : Program} {e : Env} {below : List Frame} {s : State} {sargs : Array Value} {y : MethodName} {len W9 : Nat}
end Payer
section Calls
variable {p : Program} {l : Launch} {e : Env} {R : Room} {s : State} {m : MethodId} {args : Array Value} {below : List Frame} {meth : Method} {c : Code} {T : State} {locs : List Loc} {cells slots : Nat}
end Calls
/-- the method's frame g, with q thrown over it -/
def vx_W (p : Program) (l : Launch) (e : Env) (R : Room) (s : State) (m : MethodId) (args : Array Value) (below : List Frame) (meth : Method) (c : Code) (H : Heap) (locs : List Loc) (cells slots : Nat) (Q : State → Prop) (g : JFrame) (q : Addr) : Prop :=
  ∀ T : State, T.heap = H → Stand p l e R s m args below meth c T locs cells slots → ∃ t, Steps p.tables e below ((T.setTop g).pushFrame (.throwing q)) t ∧ Q t
section Runs
variable {p : Program} {l : Launch} {e : Env} {R : Room} {s : State} {m : MethodId} {args : Array Value} {below : List Frame} {meth : Method} {c : Code} {H : Heap} {locs : List Loc} {cells slots : Nat}
variable {y : MethodName} {bytes cc : ByteArray} {maxL nL mc ms n index : Nat} {ret : Option FieldType} {ws : List Cond} {rm : Room} {Pc : Array Value → State → Prop} {Qc : Array Value → State → Outcome → State → Prop} {XC : String → State → State → Prop} {free : Addr → Prop} {Ts : List Cond} {own C : String} {b : Addr} {As rest : List Value} {g : JFrame}
end Runs
section Rows
variable {p : Program} {l : Launch} {e : Env} {R : Room} {s : State} {m : MethodId} {args : Array Value} {below : List Frame} {meth : Method} {c : Code} {H : Heap} {locs : List Loc} {cells slots : Nat} {Q : State → Prop}
variable {mc ms : Nat} {free : Addr → Prop} {A0 A1 : Nat → Prop} {H0 : Heap} {a : Array Value} {pc : Nat} {ls : Array Slot} {st0 rest : List Value}
/-- caught by the row x of this method's table; the rows ahead don't take it -/
theorem vx_catch {own name : String} {E : String} {ce : Cell} {q : Addr} (hown : s.vm.findClass own = some m.cls) (pre : List ExceptionTableEntry) (x : ExceptionTableEntry) (suf : List ExceptionTableEntry) (hsplit : c.exceptionTable.toList = pre ++ x :: suf)
    (hpass : ∀ z ∈ pre, covers z pc = false ∨ (z.catchType ≠ 0 ∧ ∃ nm : String, (Cond.classLink own z.catchType nm).before args s = true ∧ va_Nc E nm s)) (hx : covers x pc = true) (h0 : x.catchType ≠ 0)
    (hlink : (Cond.classLink own x.catchType name).before args s = true) (hcast : (Cond.castable E name).before args s = true) (hcell : H[q]? = some ce) (hv : ce.vm = .none) (hcl : s.vm.findClass E = some ce.cls)
    (kk : W p l e R s m args below meth c H locs cells slots Q (F0 m x.handlerPc ls [.ref q])) : vx_W p l e R s m args below meth c H locs cells slots Q (F0 m pc ls rest) q := by
  intro T hT X
  have hpl : e.platform.magicAccessors = ({} : Platform).magicAccessors := by rw [X.admits.platform]
  obtain ⟨c3, c4, hc3, hc4, hasg⟩ := Cond.castable_spec hcast
  cases Option.some.inj (hc3.symm.trans hcl)
  obtain ⟨c5, hc5, hcl5⟩ := Cond.classLink_spec hown hlink e.platform hpl
  cases Option.some.inj (hc4.symm.trans hc5)
  obtain ⟨vm', X', st⟩ := X.thenCaughtThrough q (g := F0 m pc ls rest) rfl (Steps.refl _) (by rw [hT]; exact hcell) (by rw [hv]; rfl) (by obtain ⟨k9, h9, -⟩ := Vm.findClass_spec hcl; exact ⟨k9, h9⟩) pre x suf hsplit
    (fun z hz => by
      rcases hpass z hz with h | ⟨hz0, nm, hl1, hn1⟩
      · exact Or.inl h
      · obtain ⟨c6, hc6, hcl6⟩ := Cond.classLink_spec hown hl1 e.platform hpl
        obtain ⟨a8, b8, h1, h2, h3⟩ := hn1
        cases Option.some.inj (h1.symm.trans hcl)
        cases Option.some.inj (h2.symm.trans hc6)
        exact Or.inr ⟨hz0, _, hcl6, h3⟩) hx (Or.inr ⟨h0, c4, hcl5, hasg⟩)
  obtain ⟨t, a1, b1⟩ := kk (T.setVm vm') hT X'
  exact ⟨t, st.trans a1, b1⟩
end Rows
section Ends
variable {p : Program} {l : Launch} {e : Env} {R : Room} {s : State} {m : MethodId} {args : Array Value} {below : List Frame} {meth : Method} {c : Code} {H : Heap} {locs : List Loc} {cells slots : Nat} {Q : State → Prop}
variable {mc ms : Nat} {free : Addr → Prop} {A0 A1 : Nat → Prop} {H0 : Heap} {a : Array Value} {ls : Array Slot} {st0 rest : List Value}
variable {Qc : Array Value → State → Outcome → State → Prop} {XC : String → State → State → Prop}
/-- what a body that may throw owes at its end -/
def vx_MQ (below : List Frame) (Qc : Array Value → State → Outcome → State → Prop) (XC : String → State → State → Prop) (a : Array Value) (s : State) (mc ms : Nat) (free : Addr → Prop) : State → Prop := fun t =>
  ∃ o, t.status = .running ∧ Ended t below o ∧ vx_Q Qc XC mc ms free a s o t
theorem vx_frame {U : State} {k n : Nat} (h : s.sameButNew ({ U with vm := s.vm } : State) locs k n) : s.heap.size ≤ U.heap.size ∧ ∀ q : Nat, q < s.heap.size → (∀ z ∈ locs, z.base ≠ q) → U.heap[q]? = s.heap[q]? := by
  obtain ⟨-, h2, -, -, -, h6⟩ := h
  refine ⟨h2, fun q hq hz => ?_⟩
  obtain ⟨c9, e1, e2, e3, e4⟩ := h6 q _ (Array.getElem?_eq_getElem hq)
  have hs : c9.slots = (s.heap[q]).slots := Array.ext_getElem? fun i => e4 i fun hm => hz _ hm rfl
  have h9 : c9 = s.heap[q] := by
    rw [hs] at e2
    exact e2
  have e5 : U.heap[q]? = some c9 := e1
  rw [e5, h9, Array.getElem?_eq_getElem hq]
/-- the words of a throw but the four that speak of the heap -/
def vx_no (w : Cond) : Bool := decide (w ≠ .isRef (.static Bundle.tN "UNASSIGNED_STACK" Bundle.steD)) && decide (w ≠ .isRef (.static Bundle.tN "SUPPRESSED_SENTINEL" Bundle.listD)) && decide (w ≠ .laysStatic Bundle.tN "UNASSIGNED_STACK" Bundle.steD) && decide (w ≠ .laysStatic Bundle.tN "SUPPRESSED_SENTINEL" Bundle.listD)
def vx_atS (own : String) (ic : Nat) (X : String) (names : List String) : List Cond := (Bundle.ownAtoms own ic X names).filter vx_no
/-- a word that the tables alone decide, or a good one -/
def vx_ot (w : Cond) : Bool := w.onTables || goodWord w
theorem vx_ot_at {args a' : Array Value} {s U : State} {w : Cond} (hW : s.WarmedH U.vm) (hvm : s.vm = U.vm) (hg : vx_ot w = true) (h : w.before args s = true) : w.before a' U = true := by
  simp only [vx_ot, Bool.or_eq_true] at hg
  rcases hg with hg | hg
  · exact va_tabs hg hvm h
  · exact word_at hW (good_of_word hg) h
theorem vx_own {args : Array Value} {s : State} {L : List Cond} (h1 : ∀ w ∈ L.filter vx_no, w.before args s = true)
    (hU : (Cond.isRef (.static Bundle.tN "UNASSIGNED_STACK" Bundle.steD)).before args s = true) (hN : (Cond.isRef (.static Bundle.tN "SUPPRESSED_SENTINEL" Bundle.listD)).before args s = true)
    (lU : (Cond.laysStatic Bundle.tN "UNASSIGNED_STACK" Bundle.steD).before args s = true) (lN : (Cond.laysStatic Bundle.tN "SUPPRESSED_SENTINEL" Bundle.listD).before args s = true) : ∀ w ∈ L, w.before args s = true := by
  intro w hw
  by_cases e1 : w = .isRef (.static Bundle.tN "UNASSIGNED_STACK" Bundle.steD)
  · rw [e1]; exact hU
  · by_cases e2 : w = .isRef (.static Bundle.tN "SUPPRESSED_SENTINEL" Bundle.listD)
    · rw [e2]; exact hN
    · by_cases e3 : w = .laysStatic Bundle.tN "UNASSIGNED_STACK" Bundle.steD
      · rw [e3]; exact lU
      · by_cases e4 : w = .laysStatic Bundle.tN "SUPPRESSED_SENTINEL" Bundle.listD
        · rw [e4]; exact lN
        · exact h1 w (List.mem_filter.mpr ⟨hw, by unfold vx_no; rw [decide_eq_true e1, decide_eq_true e2, decide_eq_true e3, decide_eq_true e4]; rfl⟩)
/-- where a static field lies, its class's statics cell in H -/
def vx_L (C n d : String) (A : Nat → Prop) (U : State) (H : Heap) : Prop := ∃ (c : ClassId) (k : Class) (i : Nat) (f : Field) (a : Nat) (cell : Cell), U.vm.findClass C = some c ∧ U.fieldFound? C n d = some (c, k, i, f) ∧ f.isStatic = true ∧ k.statics = some a ∧ H[a]? = some cell ∧ cell.vm.isStatics = true ∧ cell.cls = c ∧ f.slot < cell.slots.size ∧ k.staticTypes[f.slot]? = some f.type ∧ ¬ A a
theorem vx_L.moved {C n d : String} {A : Nat → Prop} {u U : State} {H : Heap} (hvm : u.vm.Alike U.vm) (h : vx_L C n d A u H) : vx_L C n d A U H := by
  obtain ⟨c, k, i, f, a, cell, h1, h2, h3, h4, h5, h6, h7, h8, h9, h10⟩ := h
  obtain ⟨k', hi', he⟩ := State.fieldFound?_setVm hvm h2
  exact ⟨c, k', i, f, a, cell, by rw [hvm.findClass]; exact h1, hi', h3, by rw [he]; exact h4, h5, h6, h7, h8, by rw [he]; exact h9, h10⟩
theorem vx_L.kept {C n d : String} {A : Nat → Prop} {U : State} {H H1 : Heap} (h : vx_L C n d A U H) (hq : ∀ a : Nat, a < H.size → ¬ A a → H1[a]? = H[a]?) : vx_L C n d A U H1 := by
  obtain ⟨c, k, i, f, a, cell, h1, h2, h3, h4, h5, h6, h7, h8, h9, h10⟩ := h
  exact ⟨c, k, i, f, a, cell, h1, h2, h3, h4, by rw [hq a (Array.getElem?_eq_some_iff.mp h5).1 h10]; exact h5, h6, h7, h8, h9, h10⟩
theorem vx_L.narrow {C n d : String} {A B : Nat → Prop} {U : State} {H : Heap} (h : vx_L C n d A U H) (hAB : ∀ q, B q → A q) : vx_L C n d B U H := by
  obtain ⟨c, k, i, f, a, cell, h1, h2, h3, h4, h5, h6, h7, h8, h9, h10⟩ := h
  exact ⟨c, k, i, f, a, cell, h1, h2, h3, h4, h5, h6, h7, h8, h9, fun z => h10 (hAB _ z)⟩
theorem vx_L.word {C n d : String} {A : Nat → Prop} {s : State} {args : Array Value} (h : vx_L C n d A s s.heap) : (Cond.laysStatic C n d).before args s = true := by
  obtain ⟨c, k, i, f, a, cell, h1, h2, h3, h4, h5, h6, h7, h8, h9, -⟩ := h
  show (Cond.laysStatic C n d).holds args s none s [] = true
  exact Cond.laysStatic_of h1 h2 h3 h4 h5 h6 h7 h8 h9
/-- .. and what it holds: null or some reference -/
def vx_Zq (C n d : String) (A : Nat → Prop) (U : State) (H : Heap) : Prop := va_Zq C n d A U H ∧ vx_L C n d A U H
theorem vx_Zq.moved {C n d : String} {A : Nat → Prop} {u U : State} {H : Heap} (hvm : u.vm.Alike U.vm) (h : vx_Zq C n d A u H) : vx_Zq C n d A U H := ⟨va_Zq.moved hvm h.1, vx_L.moved hvm h.2⟩
theorem vx_Zq.kept {C n d : String} {A : Nat → Prop} {U : State} {H H1 : Heap} (h : vx_Zq C n d A U H) (hq : ∀ a : Nat, a < H.size → ¬ A a → H1[a]? = H[a]?) : vx_Zq C n d A U H1 := ⟨va_Zq.kept h.1 hq, vx_L.kept h.2 hq⟩
theorem vx_Zq.narrow {C n d : String} {A B : Nat → Prop} {U : State} {H : Heap} (h : vx_Zq C n d A U H) (hAB : ∀ q, B q → A q) : vx_Zq C n d B U H := ⟨va_Zq.narrow h.1 hAB, vx_L.narrow h.2 hAB⟩
theorem vx_Zqof {args : Array Value} {s : State} {C n d : String} {A : Nat → Prop} (hl : (Cond.laysStatic C n d).before args s = true) (hini : (Cond.initialized C).before args s = true) (h : (Cond.isRef (.static C n d)).before args s = true) (hA : ∀ a : Nat, a < s.heap.size → ¬ A a) : vx_Zq C n d A s s.heap := by
  refine ⟨va_Zqof hl hini h hA, ?_⟩
  obtain ⟨c, k, i, f, a, cell, h1, h2, h3, h4, h5, h6, h7, h8, h9⟩ := Cond.laysStatic_spec hl
  exact ⟨c, k, i, f, a, cell, h1, h2, h3, h4, h5, h6, h7, h8, h9, hA a (Array.getElem?_eq_some_iff.mp h5).1⟩
theorem vx_isRef {C n d : String} {v : Value} {A : Nat → Prop} {s : State} {args : Array Value} (h : va_Z C n d v A s s.heap) (hv : v.isRef = true) : (Cond.isRef (.static C n d)).before args s = true := by
  obtain ⟨cf, kf, fi, f, a, cell, h1, h2, h3, h4, h5, h6, h7, -⟩ := h
  have he : (Term.static C n d).eval args s none [] s = some v := by
    simp [Term.eval, State.fieldNamed?, h1, h2, h4, h5, h6, h7]
  simp only [Cond.before, Cond.holds, Cond.value, he]
  cases v <;> simp_all [Value.isRef]
theorem vx_isRefq {C n d : String} {A : Nat → Prop} {s : State} {args : Array Value} (h : va_Zq C n d A s s.heap) : (Cond.isRef (.static C n d)).before args s = true := by
  rcases h with h | ⟨t, h⟩
  · exact vx_isRef h rfl
  · exact vx_isRef h rfl
/-- the same frame, seen from here: as if the method were called anew in this heap -/
theorem vx_rebase {T : State} (X : Stand p l e R s m args below meth c T locs cells slots) {R' : Room} (hf : R'.frames ≤ R.frames) (hl : R'.locals ≤ R.locals) (hc : cells + R'.cells ≤ R.cells) (hs : slots + R'.slots ≤ R.slots) :
    Stand p l e R' ((T.setVm s.vm).setFrames (.invoking m args :: below)) m args below meth c T [] 0 0 := by
  have htop : (T.setVm s.vm).topJava?.isSome := X.here.top
  have hF : ((T.setVm s.vm).setFrames (.invoking m args :: below)).frames = .invoking m args :: below := State.frames_setFrames _ (State.cur_lt_of_top htop)
  obtain ⟨g₀, hg0⟩ := Option.isSome_iff_exists.mp htop
  obtain ⟨r, hr⟩ := State.topJava?_eq_some.mp hg0
  have hl9 : e.platform.stackLimits (T.setVm s.vm).me = e.platform.stackLimits s.me := X.limits
  have hb9 : (T.setVm s.vm).me.stackBytes = s.me.stackBytes := X.bytes
  refine ⟨X.admits, X.cas, X.clock, hF, ?_, X.hears, X.method, X.code, X.here, X.tail, X.warmed, ?_, ?_, ?_⟩
  · have h := X.room
    have hU : ((T.setVm s.vm).setFrames (.invoking m args :: below)).localsInUse = s.localsInUse := by
      rw [State.localsInUse_invoking hF (meth := meth) (c := c) X.method X.code, State.localsInUse_invoking X.frames X.method X.code]
    simp only [State.hasRoom, Bool.and_eq_true, decide_eq_true_eq] at h ⊢
    obtain ⟨⟨⟨⟨h1, h2, h3, h4, h5, h6⟩, h7⟩, h8⟩, h9⟩ := h
    rw [X.frames, List.length_cons] at h2 h3
    have q1 := X.heapSize
    have q2 := X.used
    simp only [hF, hU, List.length_cons, State.stackLimits_setFrames, State.stackBytes_setFrames, hl9, hb9]
    refine ⟨⟨⟨⟨by omega, by omega, by omega, by omega, by omega, h6⟩, ?_⟩, ?_⟩, X.book⟩
    · show T.heap.size + R'.cells ≤ e.platform.maxCells
      omega
    · show T.slotsUsed + R'.slots ≤ e.platform.maxSlots
      omega
  · rw [State.stackLimits_setFrames]; rfl
  · rw [State.stackBytes_setFrames]; rfl
  · refine ⟨?_, Nat.le_refl _, Nat.le_refl _, ?_, ?_, fun a c9 h9 => ⟨c9, h9, rfl, rfl, fun _ _ => rfl⟩⟩
    · obtain ⟨t, ht, -⟩ := State.frames_cons hr
      show T.setVm s.vm = { ((T.setVm s.vm).setFrames (.invoking m args :: below)).setFrames (T.setVm s.vm).frames with heap := T.heap, slotsUsed := T.slotsUsed }
      rw [State.setFrames_setFrames, State.setFrames_self ht]
      rfl
    · show T.slotsUsed = T.slotsUsed + ((T.heap.toList.drop T.heap.size).map (·.slots.size)).sum
      rw [List.drop_eq_nil_of_le (Nat.le_of_eq Array.length_toList)]
      rfl
    · show ((T.heap.toList.drop T.heap.size).map (·.slots.size)).sum ≤ 0
      rw [List.drop_eq_nil_of_le (Nat.le_of_eq Array.length_toList)]
      exact Nat.le_refl _
/-- 'throw new E("text")': new; dup; ldc; invokespecial; athrow -/
theorem vx_throwS {cc : ByteArray} {pc : Nat} (hexec : p.tables.exec = Jvm.exec) (hb : c.code = cc) (hl : l.stackTraces = false) {own cls text : String} {names : List String} {ik is ic mc ms sa : Nat} {A : Nat → Prop}
    (hown : s.vm.findClass own = some m.cls) (hcls : Bundle.fit cls = true) (hnames : ∀ n ∈ names, Bundle.fit n = true)
    (hk : (Cond.classLink own ik cls).before args s = true) (hini : (Cond.initialized cls).before args s = true) (hstr : vk_R own is text sa s) (hat : ∀ w ∈ vx_atS own ic cls names, w.before args s = true)
    (hgood : ∀ w ∈ Cond.classLink own ik cls :: Cond.initialized cls :: vx_atS own ic cls names, vx_ot w = true)
    (hU : vx_Zq Bundle.tN "UNASSIGNED_STACK" Bundle.steD A s s.heap) (hN : vx_Zq Bundle.tN "SUPPRESSED_SENTINEL" Bundle.listD A s s.heap) (hS : va_S A s.heap H locs) (hsize : ls.size = c.maxLocals)
    (d0 : decode cc pc = .ok (.new ik, 3)) (d3 : decode cc (pc + 3) = .ok (.dup, 1)) (d4 : decode cc (pc + 4) = .ok (.ldc is, 2)) (d6 : decode cc (pc + 6) = .ok (.invokespecial ic, 3)) (d9 : decode cc (pc + 9) = .ok (.athrow, 1))
    (hout : ∀ x ∈ c.exceptionTable.toList, covers x (pc + 9) = false)
    (hRframes : names.length + 3 < R.frames) (hRlocals : (rest.map fun v => v.category).sum + (13 * (names.length + 1) + 43) ≤ R.locals) (hRcells : cells + 1 ≤ R.cells) (hRslots : slots + 6 ≤ R.slots) (hlocks : meth.locks = false)
    (hx : ∀ t : State, s.vm.Alike t.vm → H.size ≤ t.heap.size → (∀ q : Nat, q < H.size → t.heap[q]? = H[q]?) → XC cls s t)
    (hf : ∀ z ∈ locs, free z.base) (hc : cells + 1 ≤ mc) (hs : slots + 6 ≤ ms) :
    W p l e R s m args below meth c H locs cells slots (vx_MQ below Qc XC args s mc ms free) (F0 m pc ls rest) := by
  intro T hT X
  have htr : e.platform.stackTraces = false := (show e.platform.stackTraces = l.stackTraces by rw [X.admits.platform]).trans hl
  have Y := vx_rebase X (R' := { frames := R.frames, locals := R.locals, cells := 1, slots := 6 }) (Nat.le_refl _) (Nat.le_refl _) hRcells hRslots
  obtain ⟨s', hA⟩ : ∃ z, z = (T.setVm s.vm).setFrames (.invoking m args :: below) := ⟨_, rfl⟩
  rw [← hA] at Y
  have hvm : s'.vm = s.vm := by rw [hA]; rfl
  have hhp : s'.heap = H := by rw [hA]; exact hT
  have hW0 : s.WarmedH s'.vm := by rw [hvm]; exact State.WarmedH.refl s
  have hat' : ∀ w ∈ vx_atS own ic cls names, w.before args s' = true := fun w hw => vx_ot_at hW0 hvm.symm (hgood w (List.mem_cons_of_mem _ (List.mem_cons_of_mem _ hw))) (hat w hw)
  have hk' : (Cond.classLink own ik cls).before args s' = true := vx_ot_at hW0 hvm.symm (hgood _ List.mem_cons_self) hk
  have hini' : (Cond.initialized cls).before args s' = true := vx_ot_at hW0 hvm.symm (hgood _ (List.mem_cons_of_mem _ List.mem_cons_self)) hini
  have hU' : vx_Zq Bundle.tN "UNASSIGNED_STACK" Bundle.steD A s' s'.heap := by rw [hhp]; exact vx_Zq.moved hW0.alike (hU.kept hS.2.1)
  have hN' : vx_Zq Bundle.tN "SUPPRESSED_SENTINEL" Bundle.listD A s' s'.heap := by rw [hhp]; exact vx_Zq.moved hW0.alike (hN.kept hS.2.1)
  have h : ∀ w ∈ Bundle.ownAtoms own ic cls names, w.before args s' = true := vx_own hat' (vx_isRefq hU'.1) (vx_isRefq hN'.1) hU'.2.word hN'.2.word
  have hown' : s'.vm.findClass own = some m.cls := by rw [hvm]; exact hown
  have hins : (Cond.instantiable cls 6).before args s' = true := h _ (by simp [Bundle.ownAtoms])
  obtain ⟨vm₁, cX, kX, hfX, hkX, -, -, X₁, st1⟩ := Y.newCold hexec (own := own) (C := cls) (index := ik) (n := 6) hown' hk' hins hini'
    (g := F0 m pc ls rest) rfl (by rw [hb]; exact d0) (Nat.le_refl _) (Nat.le_refl _)
  generalize hT1 : (T.setVm vm₁).pushCell { cls := cX, slots := kX.instanceTypes.map defaultValue, vm := .none } = T1 at X₁ st1
  have hcat : (Value.ref T.heap.size).category = 1 := rfl
  have hcellA : T1.heap[T.heap.size]? = some (freshCell cX kX) := by rw [← hT1]; exact State.heap_pushCell_size _ _
  have d3' : decode c.code (pc + 3) = .ok (.dup, 1) := by rw [hb]; exact d3
  have d4' : decode c.code (pc + 4) = .ok (.ldc is, 2) := by rw [hb]; exact d4
  have hstr' : vk_R own is text sa s' := vk_R.warm hW0 hstr
  obtain ⟨U, hsteps, hrun, hend, hW, hsame, ce, hce, hO⟩ := X₁.ctorThrowS hexec htr (own := own) (cls := cls) (names := names) (ic := ic) hown' hcls hnames h (fun x hx => nomatch hx) hfX hkX hcellA (by rw [hhp, hT]; exact Nat.le_refl _) (msg := .ref sa) rfl
    (g := { method := m, pc := pc + 6, locals := ls, stack := .ref sa :: .ref T.heap.size :: .ref T.heap.size :: rest, locked := none }) rfl hsize rfl rfl (rest := rest) rfl
    (by rw [hb]; exact d6) (by rw [hb]; exact d9) hout hRframes (by simp only [List.map_cons, List.sum_cons, hcat]; omega) hlocks
  obtain ⟨f1, f2⟩ := vx_frame hsame
  rw [hhp] at f1 f2
  have hWs : s.WarmedH U.vm := State.WarmedH.trans hW0 hW
  have hcl : s.vm.findClass cls = some ce.cls := by
    have h9 := hO.cls
    rw [hvm] at h9
    exact h9
  have hall : s.sameButNew ({ U with vm := s.vm } : State) locs mc ms := by
    subst hA
    obtain ⟨e1, e2⟩ := hsame
    rw [State.setFrames_setFrames] at e1
    have h2 : (T.setVm s.vm).sameButNew ({ U with vm := s.vm } : State) [] (0 + 1) (0 + 6) := ⟨e1, e2⟩
    have h3 := X.same.trans h2
    rw [List.append_nil] at h3
    exact h3.mono hc hs
  refine ⟨U, ?_, .threw T.heap.size, hrun, hend, Or.inr ⟨T.heap.size, rfl, cls, ce, locs, hx U hWs.alike f1 (fun q hq => f2 q hq (fun z hz => nomatch hz)), hce, hO.vm, hcl, hWs, hall, hf⟩⟩
  refine st1 _ ?_
  show Steps p.tables e below (T1.setTop { method := m, pc := pc + 3, locals := ls, stack := .ref T.heap.size :: rest, locked := none }) _
  jvm_step X₁.here [X₁.here.top, hexec, d3', Value.category]
  exact X₁.ldcString hexec (own := own) (text := text) (index := is) (a := sa) hown' hstr'.1 hstr'.2
    (g := { method := m, pc := pc + 4, locals := ls, stack := .ref T.heap.size :: .ref T.heap.size :: rest, locked := none }) rfl d4' _ hsteps
end Ends
section Bodies
variable {l : Launch}
end Bodies
end VXA
end
section
/-! printed by wip/whole/gen/emit_tables.py out of claim/JAVAP.txt, Statement.lean and the skeleton: the tables of the abstract machine -/
def am_F0 : u_T := fun k => match k with
  | 0 => ("BranchedPast$Branches", "parent", "[I", true)
  | 1 => ("BranchedPast$Branches", "fork", "[I", true)
  | 2 => ("BranchedPast$Branches", "open", "[Z", true)
  | 3 => ("BranchedPast$Branches", "limit", "[I", true)
  | _ => ("BranchedPast$Branches", "count", "I", false)
def am_ty0 : Nat → FieldType := fun k => match k with
  | 0 => .array .int
  | 1 => .array .int
  | 2 => .array .boolean
  | 3 => .array .int
  | _ => .int
theorem am_nm0 : ∀ a, a < 5 → ∀ b, b < 5 → a ≠ b → (am_F0 a).2.1 ≠ (am_F0 b).2.1 := by decide +kernel
theorem am_tyok0 : ∀ k, k < 5 → parseFieldDescriptor (am_F0 k).2.2.1 = some (am_ty0 k) := by decide +kernel
def am_F1 : u_T := fun k => match k with
  | 0 => ("BranchedPast$Path", "text", "[C", true)
  | 1 => ("BranchedPast$Path", "length", "I", false)
  | 2 => ("BranchedPast$Path", "at", "I", false)
  | _ => ("BranchedPast$Path", "set", "I", false)
def am_ty1 : Nat → FieldType := fun k => match k with
  | 0 => .array .char
  | 1 => .int
  | 2 => .int
  | _ => .int
theorem am_nm1 : ∀ a, a < 4 → ∀ b, b < 4 → a ≠ b → (am_F1 a).2.1 ≠ (am_F1 b).2.1 := by decide +kernel
theorem am_tyok1 : ∀ k, k < 4 → parseFieldDescriptor (am_F1 k).2.2.1 = some (am_ty1 k) := by decide +kernel
def am_F2 : u_T := fun k => match k with
  | 0 => ("BranchedPast$View", "kind", "[I", true)
  | 1 => ("BranchedPast$View", "value", "[I", true)
  | _ => ("BranchedPast$View", "moment", "[I", true)
def am_ty2 : Nat → FieldType := fun k => match k with
  | 0 => .array .int
  | 1 => .array .int
  | _ => .array .int
theorem am_nm2 : ∀ a, a < 3 → ∀ b, b < 3 → a ≠ b → (am_F2 a).2.1 ≠ (am_F2 b).2.1 := by decide +kernel
theorem am_tyok2 : ∀ k, k < 3 → parseFieldDescriptor (am_F2 k).2.2.1 = some (am_ty2 k) := by decide +kernel
def am_F3 : u_T := fun k => match k with
  | 0 => ("BranchedPast$Writes", "branch", "[I", true)
  | 1 => ("BranchedPast$Writes", "moment", "[I", true)
  | 2 => ("BranchedPast$Writes", "cell", "[I", true)
  | 3 => ("BranchedPast$Writes", "kind", "[I", true)
  | 4 => ("BranchedPast$Writes", "value", "[I", true)
  | 5 => ("BranchedPast$Writes", "marked", "[Z", true)
  | _ => ("BranchedPast$Writes", "count", "I", false)
def am_ty3 : Nat → FieldType := fun k => match k with
  | 0 => .array .int
  | 1 => .array .int
  | 2 => .array .int
  | 3 => .array .int
  | 4 => .array .int
  | 5 => .array .boolean
  | _ => .int
theorem am_nm3 : ∀ a, a < 7 → ∀ b, b < 7 → a ≠ b → (am_F3 a).2.1 ≠ (am_F3 b).2.1 := by decide +kernel
theorem am_tyok3 : ∀ k, k < 7 → parseFieldDescriptor (am_F3 k).2.2.1 = some (am_ty3 k) := by decide +kernel
def am_F4 : u_T := fun k => match k with
  | 0 => ("BranchedPast", "branches", "LBranchedPast$Branches;", true)
  | 1 => ("BranchedPast", "writes", "LBranchedPast$Writes;", true)
  | 2 => ("BranchedPast", "here", "LBranchedPast$View;", true)
  | 3 => ("BranchedPast", "there", "LBranchedPast$View;", true)
  | 4 => ("BranchedPast", "before", "LBranchedPast$View;", true)
  | 5 => ("BranchedPast", "path", "LBranchedPast$Path;", true)
  | 6 => ("BranchedPast", "clock", "I", false)
  | _ => ("BranchedPast", "horizon", "I", false)
def am_ty4 : Nat → FieldType := fun k => match k with
  | 0 => .object "BranchedPast$Branches"
  | 1 => .object "BranchedPast$Writes"
  | 2 => .object "BranchedPast$View"
  | 3 => .object "BranchedPast$View"
  | 4 => .object "BranchedPast$View"
  | 5 => .object "BranchedPast$Path"
  | 6 => .int
  | _ => .int
theorem am_nm4 : ∀ a, a < 8 → ∀ b, b < 8 → a ≠ b → (am_F4 a).2.1 ≠ (am_F4 b).2.1 := by decide +kernel
theorem am_tyok4 : ∀ k, k < 8 → parseFieldDescriptor (am_F4 k).2.2.1 = some (am_ty4 k) := by decide +kernel
def am_F5 : u_T := fun k => match k with
  | 0 => ("BranchedPastModel", "code", "I", false)
  | 1 => ("BranchedPastModel", "clock", "I", false)
  | 2 => ("BranchedPastModel", "horizon", "I", false)
  | 3 => ("BranchedPastModel", "branches", "I", false)
  | 4 => ("BranchedPastModel", "parent", "[I", true)
  | 5 => ("BranchedPastModel", "fork", "[I", true)
  | 6 => ("BranchedPastModel", "closed", "[Z", true)
  | 7 => ("BranchedPastModel", "writes", "I", false)
  | 8 => ("BranchedPastModel", "owner", "[I", true)
  | 9 => ("BranchedPastModel", "moment", "[I", true)
  | 10 => ("BranchedPastModel", "place", "[I", true)
  | 11 => ("BranchedPastModel", "kind", "[I", true)
  | 12 => ("BranchedPastModel", "value", "[I", true)
  | 13 => ("BranchedPastModel", "kept", "[Z", true)
  | 14 => ("BranchedPastModel", "length", "I", false)
  | 15 => ("BranchedPastModel", "text", "[I", true)
  | 16 => ("BranchedPastModel", "at", "I", false)
  | _ => ("BranchedPastModel", "right", "Z", false)
def am_ty5 : Nat → FieldType := fun k => match k with
  | 0 => .int
  | 1 => .int
  | 2 => .int
  | 3 => .int
  | 4 => .array .int
  | 5 => .array .int
  | 6 => .array .boolean
  | 7 => .int
  | 8 => .array .int
  | 9 => .array .int
  | 10 => .array .int
  | 11 => .array .int
  | 12 => .array .int
  | 13 => .array .boolean
  | 14 => .int
  | 15 => .array .int
  | 16 => .int
  | _ => .boolean
theorem am_nm5 : ∀ a, a < 18 → ∀ b, b < 18 → a ≠ b → (am_F5 a).2.1 ≠ (am_F5 b).2.1 := by decide +kernel
theorem am_tyok5 : ∀ k, k < 18 → parseFieldDescriptor (am_F5 k).2.2.1 = some (am_ty5 k) := by decide +kernel
def am_cl : List vw_C := [("BranchedPast$Branches", am_F0, 5), ("BranchedPast$Path", am_F1, 4), ("BranchedPast$View", am_F2, 3), ("BranchedPast$Writes", am_F3, 7), ("BranchedPast", am_F4, 8), ("BranchedPastModel", am_F5, 18)]
def am_on : List String := ["BranchedPast$Branches", "BranchedPast$Path", "BranchedPast$View", "BranchedPast$Writes", "BranchedPast", "BranchedPastModel", "BranchedPastLaw", "java/util/Arrays"]
def am_ocl : List (Nat) := [4, 4, 4, 4, 4, 4, 4, 4, 4, 4, 4, 4, 4, 4, 4, 4, 4, 4, 4, 4, 4, 4, 4, 4, 4, 4, 4, 4, 4, 4, 4, 4, 4, 5, 5, 5, 5, 5, 5, 5, 5, 5, 5, 5, 5, 5, 5, 5, 5, 5, 5, 5, 5, 5, 5, 5, 5, 5, 5, 5, 5, 5, 5, 5, 5, 5, 5, 5, 5, 5, 5, 5, 5, 5, 5, 5, 0, 0, 0, 0, 1, 1, 1, 1, 1, 1, 1, 1, 1, 1, 1, 1, 1, 1, 1, 2, 2, 2, 2, 2, 2, 2, 2, 2, 2, 3, 3, 3, 3, 3, 3, 3, 3, 3, 6, 6, 6, 6, 6, 6, 6, 6, 6, 6, 6, 6, 6, 6, 6, 7]
def am_oc (k : Nat) : Nat := am_ocl.getD k 0
def am_ydl : List (String × String) := [("branch", "(II)I"), ("close", "(I)V"), ("write", "(IIIII)I"), ("read", "(IIIII)I"), ("history", "(IIII)I"), ("differs", "(III)I"), ("meeting", "(II)I"), ("join", "(II)I"), ("trim", "(I)I"), ("reach", "(III)I"), ("type", "(I)I"), ("erase", "()V"), ("find", "(II)I"), ("state", "(I)I"), ("about", "(II)I"), ("requireBranch", "(I)V"), ("requireObject", "(I)V"), ("requireField", "(I)V"), ("requireWhat", "(II)V"), ("requireReadable", "(II)V"), ("requireOpen", "(I)V"), ("requireRoomFor", "(I)V"), ("firstReadable", "(I)I"), ("look", "(LBranchedPast$View;II)V"), ("append", "(IIII)V"), ("markGiven", "(I)V"), ("isCarried", "(I)Z"), ("countCarried", "()I"), ("countConflicts", "()I"), ("carryTo", "(I)V"), ("isObject", "(I)Z"), ("isValue", "(II)Z"), ("cellOf", "(II)I"), ("thrown", "()I"), ("noBranch", "(I)Z"), ("noPlace", "(II)Z"), ("first", "(I)I"), ("unreadable", "(II)Z"), ("sees", "(III)Z"), ("latest", "(III)I"), ("kindOf", "(I)I"), ("valueOf", "(I)I"), ("alike", "(II)Z"), ("gives", "(II)Z"), ("branch", "(II)I"), ("others", "(I)I"), ("close", "(I)V"), ("enter", "(IIII)V"), ("write", "(IIIII)I"), ("read", "(IIIII)I"), ("history", "(IIII)I"), ("differs", "(III)I"), ("isOnLine", "(II)Z"), ("left", "(II)I"), ("meet", "(II)I"), ("meeting", "(II)I"), ("changed", "(III)Z"), ("join", "(II)I"), ("trim", "(I)I"), ("along", "(IIII)I"), ("against", "(IIII)I"), ("reach", "(III)I"), ("type", "(I)I"), ("erase", "()V"), ("peek", "()I"), ("eats", "(I)Z"), ("digit", "(I)I"), ("isDigit", "()Z"), ("number", "()I"), ("follow", "(IZII)I"), ("filter", "(III)I"), ("empty", "(III)I"), ("stepOf", "(III)I"), ("find", "(II)I"), ("state", "(I)I"), ("about", "(II)I"), ("add", "(II)I"), ("openCount", "()I"), ("meet", "(III)I"), ("limitSight", "(II)V"), ("canHold", "(I)Z"), ("hasRoomFor", "(I)Z"), ("add", "(I)I"), ("clear", "()V"), ("follow", "(LBranchedPast$View;)I"), ("takeStart", "()Z"), ("takeStep", "(LBranchedPast$View;)Z"), ("move", "(LBranchedPast$View;ZI)V"), ("moved", "(LBranchedPast$View;ZI)I"), ("takeComparison", "(LBranchedPast$View;I)Z"), ("takeNumber", "()I"), ("next", "()C"), ("takes", "(C)Z"), ("isDigit", "(C)Z"), ("byteOf", "(II)I"), ("clear", "()V"), ("holdsSame", "(LBranchedPast$View;I)Z"), ("referredBy", "(II)I"), ("referringTo", "(II)I"), ("allLedTo", "(I)I"), ("withNumber", "(IICI)I"), ("withNothing", "(II)I"), ("target", "(I)I"), ("compares", "(ICI)Z"), ("isIn", "(II)Z"), ("add", "(IIIII)V"), ("countOf", "(I)I"), ("show", "([ILBranchedPast$View;)V"), ("unmarkAll", "()V"), ("markShown", "(LBranchedPast$View;)V"), ("markOwnAfter", "(II)V"), ("momentOfMarked", "(II)I"), ("dropUnmarked", "()I"), ("moveRow", "(II)V"), ("branch", "(LBranchedPast;II[J)I"), ("close", "(LBranchedPast;I)I"), ("write", "(LBranchedPast;IIIII[J)I"), ("read", "(LBranchedPast;IIIII[J)I"), ("history", "(LBranchedPast;IIII[J)I"), ("differs", "(LBranchedPast;III[J)I"), ("meeting", "(LBranchedPast;II[J)I"), ("join", "(LBranchedPast;II[J)I"), ("trim", "(LBranchedPast;I[J)I"), ("reach", "(LBranchedPast;III[J)I"), ("type", "(LBranchedPast;I[J)I"), ("find", "(LBranchedPast;II[J)I"), ("state", "(LBranchedPast;I[J)I"), ("about", "(LBranchedPast;II[J)I"), ("law", "([I)Z"), ("fill", "([II)V")]
def am_y (k : Nat) : MethodName := ⟨am_on.getD (am_oc k) "BranchedPast$Branches", (am_ydl.getD k ("", "")).1, (am_ydl.getD k ("", "")).2⟩
def am_bl : List (ByteArray) := [prog_1_method_2_code, prog_1_method_3_code, prog_1_method_4_code, prog_1_method_5_code, prog_1_method_6_code, prog_1_method_7_code, prog_1_method_8_code, prog_1_method_9_code, prog_1_method_10_code, prog_1_method_11_code, prog_1_method_12_code, prog_1_method_13_code, prog_1_method_14_code, prog_1_method_15_code, prog_1_method_16_code, prog_1_method_17_code, prog_1_method_18_code, prog_1_method_19_code, prog_1_method_20_code, prog_1_method_21_code, prog_1_method_22_code, prog_1_method_23_code, prog_1_method_24_code, prog_1_method_25_code, prog_1_method_26_code, prog_1_method_27_code, prog_1_method_28_code, prog_1_method_29_code, prog_1_method_30_code, prog_1_method_31_code, prog_1_method_32_code, prog_1_method_33_code, prog_1_method_34_code, prog_7_method_2_code, prog_7_method_3_code, prog_7_method_4_code, prog_7_method_5_code, prog_7_method_6_code, prog_7_method_7_code, prog_7_method_8_code, prog_7_method_9_code, prog_7_method_10_code, prog_7_method_11_code, prog_7_method_12_code, prog_7_method_13_code, prog_7_method_14_code, prog_7_method_15_code, prog_7_method_16_code, prog_7_method_17_code, prog_7_method_18_code, prog_7_method_19_code, prog_7_method_20_code, prog_7_method_21_code, prog_7_method_22_code, prog_7_method_23_code, prog_7_method_24_code, prog_7_method_25_code, prog_7_method_26_code, prog_7_method_27_code, prog_7_method_28_code, prog_7_method_29_code, prog_7_method_30_code, prog_7_method_31_code, prog_7_method_32_code, prog_7_method_33_code, prog_7_method_34_code, prog_7_method_35_code, prog_7_method_36_code, prog_7_method_37_code, prog_7_method_38_code, prog_7_method_39_code, prog_7_method_40_code, prog_7_method_41_code, prog_7_method_42_code, prog_7_method_43_code, prog_7_method_44_code, prog_2_method_2_code, prog_2_method_3_code, prog_2_method_4_code, prog_2_method_5_code, prog_3_method_2_code, prog_3_method_3_code, prog_3_method_4_code, prog_3_method_5_code, prog_3_method_6_code, prog_3_method_7_code, prog_3_method_8_code, prog_3_method_9_code, prog_3_method_10_code, prog_3_method_11_code, prog_3_method_12_code, prog_3_method_13_code, prog_3_method_14_code, prog_3_method_15_code, prog_3_method_16_code, prog_4_method_2_code, prog_4_method_3_code, prog_4_method_4_code, prog_4_method_5_code, prog_4_method_6_code, prog_4_method_7_code, prog_4_method_8_code, prog_4_method_9_code, prog_4_method_10_code, prog_4_method_11_code, prog_5_method_2_code, prog_5_method_3_code, prog_5_method_4_code, prog_5_method_5_code, prog_5_method_6_code, prog_5_method_7_code, prog_5_method_8_code, prog_5_method_9_code, prog_5_method_10_code, method_3_code, method_4_code, method_5_code, method_6_code, method_7_code, method_8_code, method_9_code, method_10_code, method_11_code, method_12_code, method_13_code, method_14_code, method_15_code, method_16_code, code, prog_17_method_103_code]
def am_bytes (k : Nat) : ByteArray := am_bl.getD k ⟨#[]⟩
def am_nLl : List (Nat) := [3, 2, 6, 7, 5, 6, 3, 5, 3, 4, 2, 1, 3, 2, 3, 2, 1, 1, 2, 3, 2, 2, 2, 4, 5, 3, 2, 3, 3, 3, 1, 2, 2, 1, 2, 2, 2, 3, 6, 6, 2, 2, 3, 4, 3, 4, 2, 5, 7, 7, 7, 6, 4, 5, 6, 3, 4, 9, 4, 8, 8, 7, 6, 1, 1, 3, 3, 1, 4, 9, 12, 7, 4, 5, 2, 5, 4, 3, 9, 4, 4, 4, 4, 1, 3, 2, 4, 6, 4, 5, 4, 2, 2, 1, 2, 1, 3, 5, 5, 6, 8, 5, 2, 3, 2, 6, 4, 4, 2, 3, 4, 5, 3, 3, 5, 3, 8, 8, 7, 6, 5, 5, 4, 6, 4, 5, 4, 5, 7, 4]
def am_nL (k : Nat) : Nat := am_nLl.getD k 0
def am_rtl : List (Option FieldType) := [some .int, none, some .int, some .int, some .int, some .int, some .int, some .int, some .int, some .int, some .int, none, some .int, some .int, some .int, none, none, none, none, none, none, none, some .int, none, none, none, some .boolean, some .int, some .int, none, some .boolean, some .boolean, some .int, some .int, some .boolean, some .boolean, some .int, some .boolean, some .boolean, some .int, some .int, some .int, some .boolean, some .boolean, some .int, some .int, none, none, some .int, some .int, some .int, some .int, some .boolean, some .int, some .int, some .int, some .boolean, some .int, some .int, some .int, some .int, some .int, some .int, none, some .int, some .boolean, some .int, some .boolean, some .int, some .int, some .int, some .int, some .int, some .int, some .int, some .int, some .int, some .int, some .int, none, some .boolean, some .boolean, some .int, none, some .int, some .boolean, some .boolean, none, some .int, some .boolean, some .int, some .char, some .boolean, some .boolean, some .int, none, some .boolean, some .int, some .int, some .int, some .int, some .int, some .int, some .boolean, some .boolean, none, some .int, none, none, none, none, some .int, some .int, none, some .int, some .int, some .int, some .int, some .int, some .int, some .int, some .int, some .int, some .int, some .int, some .int, some .int, some .int, some .boolean, none]
def am_rt (k : Nat) : Option FieldType := am_rtl.getD k none
def am_nal : List (Nat) := [3, 2, 6, 6, 5, 4, 3, 3, 2, 4, 2, 1, 3, 2, 3, 2, 1, 1, 2, 3, 2, 2, 2, 4, 5, 2, 2, 1, 1, 2, 1, 2, 2, 1, 2, 2, 2, 3, 4, 4, 2, 2, 3, 3, 3, 2, 2, 5, 6, 6, 5, 4, 3, 3, 3, 3, 4, 3, 2, 5, 5, 4, 2, 1, 1, 2, 2, 1, 1, 5, 4, 4, 4, 3, 2, 3, 3, 1, 4, 3, 2, 2, 2, 1, 2, 1, 2, 4, 4, 3, 1, 1, 2, 1, 2, 1, 3, 3, 3, 2, 5, 3, 2, 3, 2, 6, 2, 3, 1, 2, 3, 3, 1, 3, 4, 2, 7, 7, 6, 5, 4, 4, 3, 5, 3, 4, 3, 4, 1, 2]
def am_na (k : Nat) : Nat := am_nal.getD k 0
def am_rkl : List (Nat) := [7, 7, 7, 7, 7, 7, 7, 7, 6, 7, 6, 1, 7, 7, 7, 6, 6, 6, 6, 6, 6, 6, 1, 3, 1, 4, 1, 2, 2, 2, 0, 1, 0, 0, 0, 0, 0, 1, 0, 1, 0, 0, 1, 2, 2, 0, 1, 0, 1, 2, 3, 2, 0, 0, 1, 2, 2, 3, 3, 2, 2, 3, 0, 0, 0, 1, 1, 1, 2, 3, 3, 2, 4, 5, 0, 1, 0, 0, 1, 1, 1, 1, 1, 0, 5, 1, 4, 3, 2, 2, 1, 0, 0, 0, 0, 1, 0, 1, 1, 2, 1, 1, 0, 0, 0, 0, 0, 2, 0, 0, 0, 0, 1, 0, 8, 8, 8, 8, 8, 8, 8, 8, 7, 8, 7, 8, 8, 8, 9, 0]
def am_rk (k : Nat) : Nat := am_rkl.getD k 0
def am_rcl : List (Option Nat) := [some 4, some 4, some 4, some 4, some 4, some 4, some 4, some 4, some 4, some 4, some 4, some 4, some 4, some 4, some 4, some 4, none, none, none, some 4, some 4, some 4, some 4, some 4, some 4, some 4, some 4, some 4, some 4, some 4, none, none, none, some 5, some 5, none, some 5, some 5, some 5, some 5, some 5, some 5, some 5, some 5, some 5, some 5, some 5, some 5, some 5, some 5, some 5, some 5, some 5, some 5, some 5, some 5, some 5, some 5, some 5, some 5, some 5, some 5, some 5, some 5, some 5, some 5, some 5, some 5, some 5, some 5, some 5, some 5, some 5, some 5, some 5, some 5, some 0, some 0, some 0, some 0, some 1, some 1, some 1, some 1, some 1, some 1, some 1, some 1, some 1, some 1, some 1, some 1, some 1, none, none, some 2, some 2, some 2, some 2, some 2, some 2, some 2, some 2, none, none, some 3, some 3, some 3, some 3, some 3, some 3, some 3, some 3, some 3, none, none, none, none, none, none, none, none, none, none, none, none, none, none, none, none]
def am_rc (k : Nat) : Option Nat := am_rcl.getD k none
def am_etl : List (List (Nat × Nat × Nat × Nat)) := [[], [], [], [], [], [], [], [], [], [], [], [], [], [], [], [], [], [], [], [], [], [], [], [], [], [], [], [], [], [], [], [], [], [], [], [], [], [], [], [], [], [], [], [], [], [], [], [], [], [], [], [], [], [], [], [], [], [], [], [], [], [], [], [], [], [], [], [], [], [], [], [], [], [], [], [], [], [], [], [], [], [], [], [], [], [], [], [], [], [], [], [], [], [], [], [], [], [], [], [], [], [], [], [], [], [], [], [], [], [], [], [], [], [], [(0, 10, 13, 13), (0, 10, 17, 15), (0, 10, 21, 17)], [(0, 5, 8, 13), (0, 5, 11, 17)], [(0, 16, 19, 13), (0, 16, 23, 15), (0, 16, 27, 17), (0, 16, 31, 27)], [(0, 16, 19, 13), (0, 16, 23, 15)], [(0, 14, 17, 13)], [(0, 12, 15, 13), (0, 12, 19, 17)], [(0, 10, 13, 13)], [(0, 10, 13, 13), (0, 10, 17, 15), (0, 10, 21, 17), (0, 10, 25, 27)], [(0, 9, 12, 15)], [(0, 12, 15, 13), (0, 12, 19, 15)], [(0, 9, 12, 15), (0, 9, 15, 17)], [(0, 10, 13, 13), (0, 10, 17, 15)], [(0, 9, 12, 15)], [(0, 10, 13, 13), (0, 10, 17, 15)], [], []]
def am_et (k : Nat) : List (Nat × Nat × Nat × Nat) := am_etl.getD k []
def am_cd (k : Nat) : Cond := if am_et k = [] then .code (am_y k) (am_bytes k) (am_nL k) (am_rt k) else .codeWith (am_y k) (am_bytes k) (am_nL k) (am_rt k) (am_et k)
abbrev kX_branch : Nat := 0
abbrev kX_close : Nat := 1
abbrev kX_write : Nat := 2
abbrev kX_read : Nat := 3
abbrev kX_history : Nat := 4
abbrev kX_differs : Nat := 5
abbrev kX_meeting : Nat := 6
abbrev kX_join : Nat := 7
abbrev kX_trim : Nat := 8
abbrev kX_reach : Nat := 9
abbrev kX_type : Nat := 10
abbrev kX_erase : Nat := 11
abbrev kX_find : Nat := 12
abbrev kX_state : Nat := 13
abbrev kX_about : Nat := 14
abbrev kX_requireBranch : Nat := 15
abbrev kX_requireObject : Nat := 16
abbrev kX_requireField : Nat := 17
abbrev kX_requireWhat : Nat := 18
abbrev kX_requireReadable : Nat := 19
abbrev kX_requireOpen : Nat := 20
abbrev kX_requireRoomFor : Nat := 21
abbrev kX_firstReadable : Nat := 22
abbrev kX_look : Nat := 23
abbrev kX_append : Nat := 24
abbrev kX_markGiven : Nat := 25
abbrev kX_isCarried : Nat := 26
abbrev kX_countCarried : Nat := 27
abbrev kX_countConflicts : Nat := 28
abbrev kX_carryTo : Nat := 29
abbrev kX_isObject : Nat := 30
abbrev kX_isValue : Nat := 31
abbrev kX_cellOf : Nat := 32
abbrev kM_thrown : Nat := 33
abbrev kM_noBranch : Nat := 34
abbrev kM_noPlace : Nat := 35
abbrev kM_first : Nat := 36
abbrev kM_unreadable : Nat := 37
abbrev kM_sees : Nat := 38
abbrev kM_latest : Nat := 39
abbrev kM_kindOf : Nat := 40
abbrev kM_valueOf : Nat := 41
abbrev kM_alike : Nat := 42
abbrev kM_gives : Nat := 43
abbrev kM_branch : Nat := 44
abbrev kM_others : Nat := 45
abbrev kM_close : Nat := 46
abbrev kM_enter : Nat := 47
abbrev kM_write : Nat := 48
abbrev kM_read : Nat := 49
abbrev kM_history : Nat := 50
abbrev kM_differs : Nat := 51
abbrev kM_isOnLine : Nat := 52
abbrev kM_left : Nat := 53
abbrev kM_meet : Nat := 54
abbrev kM_meeting : Nat := 55
abbrev kM_changed : Nat := 56
abbrev kM_join : Nat := 57
abbrev kM_trim : Nat := 58
abbrev kM_along : Nat := 59
abbrev kM_against : Nat := 60
abbrev kM_reach : Nat := 61
abbrev kM_type : Nat := 62
abbrev kM_erase : Nat := 63
abbrev kM_peek : Nat := 64
abbrev kM_eats : Nat := 65
abbrev kM_digit : Nat := 66
abbrev kM_isDigit : Nat := 67
abbrev kM_number : Nat := 68
abbrev kM_follow : Nat := 69
abbrev kM_filter : Nat := 70
abbrev kM_empty : Nat := 71
abbrev kM_stepOf : Nat := 72
abbrev kM_find : Nat := 73
abbrev kM_state : Nat := 74
abbrev kM_about : Nat := 75
abbrev kB_add : Nat := 76
abbrev kB_openCount : Nat := 77
abbrev kB_meet : Nat := 78
abbrev kB_limitSight : Nat := 79
abbrev kP_canHold : Nat := 80
abbrev kP_hasRoomFor : Nat := 81
abbrev kP_add : Nat := 82
abbrev kP_clear : Nat := 83
abbrev kP_follow : Nat := 84
abbrev kP_takeStart : Nat := 85
abbrev kP_takeStep : Nat := 86
abbrev kP_move : Nat := 87
abbrev kP_moved : Nat := 88
abbrev kP_takeComparison : Nat := 89
abbrev kP_takeNumber : Nat := 90
abbrev kP_next : Nat := 91
abbrev kP_takes : Nat := 92
abbrev kP_isDigit : Nat := 93
abbrev kP_byteOf : Nat := 94
abbrev kV_clear : Nat := 95
abbrev kV_holdsSame : Nat := 96
abbrev kV_referredBy : Nat := 97
abbrev kV_referringTo : Nat := 98
abbrev kV_allLedTo : Nat := 99
abbrev kV_withNumber : Nat := 100
abbrev kV_withNothing : Nat := 101
abbrev kV_target : Nat := 102
abbrev kV_compares : Nat := 103
abbrev kV_isIn : Nat := 104
abbrev kW_add : Nat := 105
abbrev kW_countOf : Nat := 106
abbrev kW_show : Nat := 107
abbrev kW_unmarkAll : Nat := 108
abbrev kW_markShown : Nat := 109
abbrev kW_markOwnAfter : Nat := 110
abbrev kW_momentOfMarked : Nat := 111
abbrev kW_dropUnmarked : Nat := 112
abbrev kW_moveRow : Nat := 113
abbrev kL_branch : Nat := 114
abbrev kL_close : Nat := 115
abbrev kL_write : Nat := 116
abbrev kL_read : Nat := 117
abbrev kL_history : Nat := 118
abbrev kL_differs : Nat := 119
abbrev kL_meeting : Nat := 120
abbrev kL_join : Nat := 121
abbrev kL_trim : Nat := 122
abbrev kL_reach : Nat := 123
abbrev kL_type : Nat := 124
abbrev kL_find : Nat := 125
abbrev kL_state : Nat := 126
abbrev kL_about : Nat := 127
abbrev kL_law : Nat := 128
abbrev kA_fill : Nat := 129
abbrev am_Sh : Type := (FieldType × Nat) ⊕ (Nat × List (Option Nat))
def am_shl : List am_Sh := [.inr (4, [some 1, some 6, some 13, some 17, some 21, some 25, none, none]), .inr (0, [some 2, some 3, some 4, some 5, none]), .inl (.int, 6), .inl (.int, 6), .inl (.boolean, 6), .inl (.int, 6), .inr (3, [some 7, some 8, some 9, some 10, some 11, some 12, none]), .inl (.int, 120), .inl (.int, 120), .inl (.int, 120), .inl (.int, 120), .inl (.int, 120), .inl (.boolean, 120), .inr (2, [some 14, some 15, some 16]), .inl (.int, 48), .inl (.int, 48), .inl (.int, 48), .inr (2, [some 18, some 19, some 20]), .inl (.int, 48), .inl (.int, 48), .inl (.int, 48), .inr (2, [some 22, some 23, some 24]), .inl (.int, 48), .inl (.int, 48), .inl (.int, 48), .inr (1, [some 26, none, none, none]), .inl (.char, 32), .inr (5, [none, none, none, none, some 28, some 29, some 30, none, some 31, some 32, some 33, some 34, some 35, some 36, none, some 37, none, none]), .inl (.int, 6), .inl (.int, 6), .inl (.boolean, 6), .inl (.int, 120), .inl (.int, 120), .inl (.int, 120), .inl (.int, 120), .inl (.int, 120), .inl (.boolean, 120), .inl (.int, 32), .inl (.long, 1)]
def am_sh (p : Nat) : Option am_Sh := am_shl[p]?
def am_SC : Nat := 1000
def am_tyL : List FieldType := [.int, .boolean, .char, .long]
def am_ok : Value → Bool
  | .int _ => true
  | .ref _ => true
  | _ => false
def am_ftl : List (List (Option FieldType)) := [[none, none, none, none, some .int], [none, some .int, some .int, some .int], [none, none, none], [none, none, none, none, none, none, some .int], [none, none, none, none, none, none, some .int, some .int], [some .int, some .int, some .int, some .int, none, none, none, some .int, none, none, none, none, none, none, some .int, none, some .int, some .boolean]]
def am_fty (c f : Nat) : Option FieldType := (am_ftl[c]?).bind fun l => (l[f]?).bind id
/-- own class, index, class, field, nest mate, place of the word -/
def am_FT : List (Nat × Nat × Nat × Nat × Nat × Nat) := [(4, 12, 4, 0, 0, 173), (4, 19, 4, 1, 0, 174), (4, 26, 4, 2, 0, 175), (4, 30, 4, 3, 0, 176), (4, 33, 4, 4, 0, 177), (4, 39, 4, 5, 0, 178), (4, 43, 4, 6, 0, 179), (4, 47, 4, 7, 0, 180), (4, 58, 0, 4, 1, 88), (4, 81, 0, 2, 1, 84), (4, 117, 2, 0, 1, 139), (4, 121, 2, 1, 1, 142), (4, 124, 2, 2, 1, 145), (4, 186, 3, 6, 1, 115), (4, 187, 0, 0, 1, 80), (4, 190, 0, 1, 1, 82), (4, 230, 0, 3, 1, 86), (0, 9, 0, 0, 0, 79), (0, 15, 0, 1, 0, 81), (0, 18, 0, 2, 0, 83), (0, 22, 0, 3, 0, 85), (0, 25, 0, 4, 0, 87), (1, 9, 1, 0, 0, 159), (1, 15, 1, 1, 0, 160), (1, 19, 1, 2, 0, 161), (1, 22, 1, 3, 0, 162), (2, 9, 2, 0, 0, 137), (2, 15, 2, 1, 0, 140), (2, 18, 2, 2, 0, 143), (3, 9, 3, 0, 0, 108), (3, 15, 3, 1, 0, 109), (3, 18, 3, 2, 0, 110), (3, 21, 3, 3, 0, 111), (3, 24, 3, 4, 0, 112), (3, 27, 3, 5, 0, 113), (3, 31, 3, 6, 0, 114), (3, 40, 2, 0, 1, 138), (3, 41, 2, 1, 1, 141), (3, 42, 2, 2, 1, 144), (5, 7, 5, 3, 0, 669), (5, 13, 5, 4, 0, 670), (5, 17, 5, 5, 0, 671), (5, 20, 5, 6, 0, 672), (5, 24, 5, 8, 0, 674), (5, 27, 5, 9, 0, 675), (5, 30, 5, 10, 0, 676), (5, 33, 5, 11, 0, 677), (5, 36, 5, 12, 0, 678), (5, 39, 5, 13, 0, 679), (5, 42, 5, 15, 0, 681), (5, 45, 5, 0, 0, 666), (5, 48, 5, 2, 0, 668), (5, 55, 5, 1, 0, 667), (5, 58, 5, 7, 0, 673), (5, 116, 5, 14, 0, 680), (5, 119, 5, 16, 0, 682), (5, 126, 5, 17, 0, 683)]
def am_fld (k ix : Nat) : Option (Nat × Nat) := (am_FT.find? fun e => e.1 == am_oc k && e.2.1 == ix).map fun e => (e.2.2.1, e.2.2.2.1)
def am_lay : List (List Nat) := [[89, 91, 93, 95, 97], [163, 165, 167, 169], [146, 148, 150], [116, 118, 120, 122, 124, 126, 128], [181, 183, 185, 187, 189, 191, 193, 195], [684, 686, 688, 690, 692, 694, 696, 698, 700, 702, 704, 706, 708, 710, 712, 714, 716, 718]]
/-- own class, index, method, nest mate, place of the word -/
def am_MT : List (Nat × Nat × Nat × Nat × Nat) := [(4, 50, 15, 0, 216), (4, 54, 19, 0, 289), (4, 68, 76, 0, 332), (4, 72, 20, 0, 343), (4, 75, 77, 0, 348), (4, 85, 16, 0, 361), (4, 88, 17, 0, 368), (4, 91, 31, 0, 372), (4, 100, 21, 0, 376), (4, 103, 32, 0, 396), (4, 106, 24, 0, 399), (4, 110, 18, 0, 414), (4, 113, 23, 0, 418), (4, 127, 108, 0, 448), (4, 130, 25, 0, 452), (4, 133, 111, 0, 464), (4, 136, 96, 0, 475), (4, 140, 78, 0, 486), (4, 148, 28, 0, 500), (4, 151, 27, 0, 508), (4, 154, 29, 0, 512), (4, 159, 112, 0, 524), (4, 162, 99, 0, 539), (4, 166, 80, 0, 562), (4, 172, 81, 0, 570), (4, 177, 82, 0, 575), (4, 179, 83, 0, 202), (4, 182, 84, 0, 586), (4, 193, 106, 0, 656), (4, 201, 30, 0, 364), (4, 210, 22, 0, 293), (4, 227, 79, 0, 422), (4, 233, 107, 0, 432), (4, 237, 105, 0, 403), (4, 240, 109, 0, 456), (4, 244, 110, 0, 460), (4, 247, 26, 0, 504), (0, 38, 129, 0, 426), (1, 25, 94, 0, 566), (1, 29, 85, 0, 590), (1, 33, 86, 0, 599), (1, 37, 91, 0, 594), (1, 41, 30, 1, 598), (1, 45, 87, 0, 603), (1, 49, 89, 0, 620), (1, 53, 101, 0, 638), (1, 58, 92, 0, 607), (1, 62, 88, 0, 611), (1, 66, 97, 0, 615), (1, 69, 98, 0, 616), (1, 72, 90, 0, 624), (1, 76, 100, 0, 631), (1, 80, 93, 0, 628), (2, 21, 129, 0, 440), (2, 27, 104, 0, 547), (2, 31, 32, 1, 550), (2, 35, 102, 0, 551), (2, 39, 97, 0, 543), (2, 42, 103, 0, 635), (3, 35, 95, 0, 436), (3, 43, 113, 0, 528), (6, 7, 0, 0, 212), (6, 19, 1, 0, 339), (6, 23, 2, 0, 357), (6, 29, 3, 0, 410), (6, 32, 4, 0, 444), (6, 36, 5, 0, 471), (6, 40, 6, 0, 482), (6, 43, 7, 0, 494), (6, 46, 8, 0, 519), (6, 50, 9, 0, 535), (6, 53, 10, 0, 558), (6, 56, 12, 0, 582), (6, 59, 13, 0, 645), (6, 62, 14, 0, 652), (6, 69, 114, 0, 206), (6, 74, 44, 0, 725), (6, 75, 33, 0, 721), (6, 79, 115, 0, 336), (6, 82, 46, 0, 741), (6, 83, 116, 0, 353), (6, 86, 48, 0, 749), (6, 87, 117, 0, 407), (6, 89, 49, 0, 760), (6, 90, 118, 0, 441), (6, 93, 50, 0, 780), (6, 94, 119, 0, 468), (6, 97, 51, 0, 788), (6, 98, 120, 0, 479), (6, 100, 55, 0, 796), (6, 101, 121, 0, 491), (6, 103, 57, 0, 812), (6, 104, 122, 0, 516), (6, 107, 58, 0, 820), (6, 108, 123, 0, 532), (6, 110, 61, 0, 824), (6, 111, 124, 0, 555), (6, 113, 62, 0, 832), (6, 114, 11, 0, 198), (6, 117, 63, 0, 836), (6, 118, 125, 0, 579), (6, 120, 73, 0, 840), (6, 121, 126, 0, 642), (6, 123, 74, 0, 884), (6, 124, 127, 0, 649), (6, 126, 75, 0, 888), (5, 51, 36, 0, 737), (5, 61, 38, 0, 768), (5, 65, 40, 0, 772), (5, 68, 41, 0, 776), (5, 71, 37, 0, 733), (5, 75, 39, 0, 764), (5, 79, 34, 0, 729), (5, 83, 45, 0, 745), (5, 86, 35, 0, 753), (5, 89, 47, 0, 756), (5, 93, 43, 0, 784), (5, 96, 42, 0, 792), (5, 99, 52, 0, 804), (5, 102, 53, 0, 808), (5, 106, 54, 0, 800), (5, 109, 56, 0, 816), (5, 112, 59, 0, 828), (5, 122, 64, 0, 852), (5, 130, 65, 0, 848), (5, 133, 66, 0, 860), (5, 136, 67, 0, 876), (5, 140, 60, 0, 864), (5, 143, 68, 0, 872), (5, 146, 69, 0, 856), (5, 150, 70, 0, 868), (5, 153, 71, 0, 880), (5, 156, 72, 0, 844)]
def am_mth (k ix : Nat) : Option Nat := (am_MT.find? fun e => e.1 == am_oc k && e.2.1 == ix).map fun e => e.2.2.1
def am_MX : List (Nat × Nat × Nat × Nat) := [(4, 222, 1, 297), (0, 29, 1, 490), (0, 35, 0, 429)]
def am_mx (k ix : Nat) : Option Bool := (am_MX.find? fun e => e.1 == am_oc k && e.2.1 == ix).map fun e => e.2.2.1 == 1
def am_KT : List (Nat × Nat × Nat × Nat) := [(215, 213, 214, 50), (342, 340, 341, 50), (360, 358, 359, 50), (413, 411, 412, 50), (447, 445, 446, 50), (474, 472, 473, 50), (485, 483, 484, 50), (497, 495, 496, 50), (522, 520, 521, 50), (538, 536, 537, 50), (561, 559, 560, 50), (201, 199, 200, 50), (585, 583, 584, 50), (648, 646, 647, 50), (655, 653, 654, 50), (219, 218, 0, 50), (363, 362, 0, 50), (370, 369, 0, 50), (416, 415, 0, 50), (292, 291, 2, 50), (346, 345, 4, 50), (379, 378, 5, 50), (296, 295, 3, 50), (421, 420, 7, 50), (402, 401, 6, 50), (455, 454, 8, 50), (507, 506, 10, 50), (511, 510, 11, 50), (503, 502, 9, 50), (515, 514, 12, 50), (366, 365, 0, 50), (374, 373, 0, 50), (398, 397, 0, 50), (724, 722, 723, 55), (732, 731, 23, 55), (755, 754, 0, 55), (740, 739, 25, 55), (736, 735, 24, 55), (771, 770, 29, 55), (767, 766, 28, 55), (775, 774, 30, 55), (779, 778, 31, 55), (795, 794, 33, 55), (787, 786, 32, 55), (728, 726, 727, 55), (748, 747, 26, 55), (744, 742, 743, 55), (759, 758, 27, 55), (752, 750, 751, 55), (763, 761, 762, 55), (783, 781, 782, 55), (791, 789, 790, 55), (807, 806, 35, 55), (811, 810, 36, 55), (803, 802, 34, 55), (799, 797, 798, 55), (819, 818, 37, 55), (815, 813, 814, 55), (823, 821, 822, 55), (831, 830, 38, 55), (867, 866, 44, 55), (827, 825, 826, 55), (835, 833, 834, 55), (839, 837, 838, 55), (855, 854, 41, 55), (851, 850, 40, 55), (863, 862, 43, 55), (879, 878, 47, 55), (875, 874, 46, 55), (859, 858, 42, 55), (871, 870, 45, 55), (883, 882, 48, 55), (847, 846, 39, 55), (843, 841, 842, 55), (887, 885, 886, 55), (891, 889, 890, 55), (335, 333, 334, 51), (351, 349, 350, 51), (489, 487, 488, 51), (425, 423, 424, 51), (565, 563, 564, 54), (573, 571, 572, 54), (578, 576, 577, 54), (205, 203, 204, 54), (589, 587, 588, 54), (593, 592, 15, 54), (602, 601, 17, 54), (606, 605, 18, 54), (614, 613, 20, 54), (623, 622, 21, 54), (627, 626, 22, 54), (597, 596, 16, 54), (610, 609, 19, 54), (630, 629, 0, 54), (568, 567, 0, 54), (439, 437, 438, 53), (478, 476, 477, 53), (546, 544, 545, 53), (619, 617, 618, 53), (542, 540, 541, 53), (634, 632, 633, 53), (641, 639, 640, 53), (554, 553, 14, 53), (637, 636, 0, 53), (549, 548, 0, 53), (406, 404, 405, 52), (659, 657, 658, 52), (435, 433, 434, 52), (451, 449, 450, 52), (459, 457, 458, 52), (463, 461, 462, 52), (467, 465, 466, 52), (527, 525, 526, 52), (531, 530, 13, 52), (208, 207, 0, 49), (338, 337, 0, 49), (355, 354, 0, 49), (409, 408, 0, 49), (443, 442, 0, 49), (470, 469, 0, 49), (481, 480, 0, 49), (493, 492, 0, 49), (518, 517, 0, 49), (534, 533, 0, 49), (557, 556, 0, 49), (581, 580, 0, 49), (644, 643, 0, 49), (651, 650, 0, 49), (0, 0, 0, 0), (428, 427, 0, 64)]
def am_MP : List Nat := [298, 430, 299, 431, 60]
def am_xn (x : Nat) : String := (["java/lang/IndexOutOfBoundsException", "java/lang/IllegalArgumentException", "java/lang/IllegalStateException", "java/lang/UnsupportedOperationException"] : List String).getD x ""
/-- method, pc, index of the class, exception, index of the text, of the constructor, places of the words classLink, stringRef, the text -/
def am_XT : List (Nat × Nat × Nat × Nat × Nat × Nat × Nat × Nat × String) := [(0, 23, 61, 2, 63, 65, 316, 325, "there are 6 branches"), (1, 21, 61, 2, 79, 65, 316, 352, "no other branch is open"), (2, 23, 95, 1, 97, 99, 300, 375, "no such value"), (7, 15, 95, 1, 144, 99, 300, 498, "a branch is not joined to itself"), (7, 57, 61, 2, 146, 65, 316, 499, "the meeting is before the horizon"), (8, 16, 95, 1, 157, 99, 300, 523, "not between the horizon and the clock"), (10, 11, 95, 1, 170, 99, 300, 569, "a byte is not 33 .. 126"), (10, 32, 61, 2, 175, 65, 316, 574, "the text would be longer than 32"), (15, 15, 196, 0, 198, 200, 220, 262, "no such branch"), (16, 7, 196, 0, 204, 200, 220, 367, "no such object"), (17, 9, 196, 0, 206, 200, 220, 371, "no such field"), (18, 9, 95, 1, 208, 99, 300, 417, "what is none of these"), (19, 29, 95, 1, 213, 99, 300, 309, "the branch can not be read then"), (20, 12, 61, 2, 215, 65, 316, 347, "the branch is not open"), (21, 14, 217, 3, 219, 221, 380, 389, "there would be more than 120 writes")]
def am_exc (k pc ix : Nat) : Option Nat := (am_XT.find? fun e => e.1 == k && e.2.1 == pc && e.2.2.1 == ix).map fun e => e.2.2.2.1
def am_xi : List Nat := [59, 61, 62, 63]
def am_xc : List Nat := [222, 302, 318, 382]
/-- method, pc, exception, answer, row of the table, length of astore, place of classLink -/
def am_HT : List (Nat × Nat × Nat × Nat × Nat × Nat × Nat) := [(114, 5, 0, 1, 0, 2, 209), (114, 5, 1, 2, 1, 2, 210), (114, 5, 2, 3, 2, 2, 211), (115, 2, 0, 1, 0, 1, 209), (115, 2, 2, 2, 1, 1, 211), (116, 11, 0, 1, 0, 2, 209), (116, 11, 1, 2, 1, 2, 210), (116, 11, 2, 3, 2, 2, 211), (116, 11, 3, 4, 3, 2, 356), (117, 11, 0, 1, 0, 2, 209), (117, 11, 1, 2, 1, 2, 210), (118, 9, 0, 1, 0, 2, 209), (119, 7, 0, 1, 0, 2, 209), (119, 7, 2, 2, 1, 2, 211), (120, 5, 0, 1, 0, 2, 209), (121, 5, 0, 1, 0, 2, 209), (121, 5, 1, 2, 1, 2, 210), (121, 5, 2, 3, 2, 2, 211), (121, 5, 3, 4, 3, 2, 356), (122, 4, 1, 1, 0, 1, 210), (123, 7, 0, 1, 0, 2, 209), (123, 7, 1, 2, 1, 2, 210), (124, 4, 1, 1, 0, 1, 210), (124, 4, 2, 2, 1, 1, 211), (125, 5, 0, 1, 0, 2, 209), (125, 5, 1, 2, 1, 2, 210), (126, 4, 1, 1, 0, 1, 210), (127, 5, 0, 1, 0, 2, 209), (127, 5, 1, 2, 1, 2, 210)]
def am_hd (k pc x : Nat) : Option Int32 := (am_HT.find? fun e => e.1 == k && e.2.1 == pc && e.2.2.1 == x).map fun e => Int32.ofNat e.2.2.2.1
end
section
/-! what the tables say, checked against the Statement's words -/
def am_mv : Cond → Bool
  | .fieldLinkNest .. => true
  | .methodLinkNest .. => true
  | .stringRef .. => true
  | .castable .. => true
  | .declares _ => true
  | w => goodWord w
def am_tbl : List Cond := lw_tbl.filter am_mv
theorem am_in_t {i : Nat} {w : Cond} (h : lw_tbl[i]? = some w) (hm : am_mv w = true) : w ∈ am_tbl := List.mem_filter.mpr ⟨List.mem_of_getElem? h, hm⟩
theorem am_word {w : Cond} (hm : am_mv w = true) {args a' : Array Value} {s U : State} (hW : s.WarmedH U.vm) (h : w.before args s = true) : w.before a' U = true := by
  cases w
  case fieldLinkNest => exact va_Nw.use rfl (va_Nw.warmF hW (va_Nw.of rfl h))
  case methodLinkNest => exact va_Nw.use rfl (va_Nw.warmM hW (va_Nw.of rfl h))
  case declares => exact va_Nw.use rfl (va_Nw.warmD hW (va_Nw.of rfl h))
  case stringRef own k tx =>
    have h1 : (Cond.stringRef own k tx).before args (s.setVm U.vm) = true := Cond.stringRef_warmed hW h
    simp only [Cond.before, Cond.holds, Cond.value, State.names, State.poolOf?, State.resolvedAt?] at h1 ⊢
    exact h1
  case castable C T =>
    obtain ⟨c1, c2, h1, h2, h3⟩ := Cond.castable_spec h
    have e1 : U.vm.findClass C = some c1 := by rw [hW.alike.findClass]; exact h1
    have e2 : U.vm.findClass T = some c2 := by rw [hW.alike.findClass]; exact h2
    have e3 : U.vm.assignable c1 c2 = true := by rw [hW.alike.assignable]; exact h3
    simp [Cond.before, Cond.holds, Cond.value, e1, e2, e3]
  all_goals exact word_at hW (good_of_word hm) h
def am_q (c : Nat) : vw_C := am_cl.getD c ("", am_F0, 0)
def am_fcw (e : Nat × Nat × Nat × Nat × Nat × Nat) : Cond := if e.2.2.2.2.1 = 0 then .fieldLink (am_on.getD e.1 "BranchedPast$Branches") e.2.1 (am_q e.2.2.1).1 ((am_q e.2.2.1).2.1 e.2.2.2.1).2.1 ((am_q e.2.2.1).2.1 e.2.2.2.1).2.2.1
  else .fieldLinkNest (am_on.getD e.1 "BranchedPast$Branches") e.2.1 (am_q e.2.2.1).1 ((am_q e.2.2.1).2.1 e.2.2.2.1).2.1 ((am_q e.2.2.1).2.1 e.2.2.2.1).2.2.1 "BranchedPast"
set_option maxRecDepth 100000 in
theorem am_FT_ok : (am_FT.all fun e => decide (lw_tbl[e.2.2.2.2.2]? = some (am_fcw e)) && am_mv (am_fcw e) && decide (e.2.2.1 < 6) && decide (e.2.2.2.1 < (am_q e.2.2.1).2.2) && decide (((am_q e.2.2.1).2.1 e.2.2.2.1).1 = (am_q e.2.2.1).1)) = true := by decide +kernel
set_option maxRecDepth 100000 in
theorem am_lay_ok : ((List.range 6).all fun c => decide ((am_lay.getD c []).map (fun i => lw_tbl[i]?) = (u_ws (am_q c).1 (am_q c).2.1 (am_q c).2.2).map some) && (u_ws (am_q c).1 (am_q c).2.1 (am_q c).2.2).all am_mv) = true := by decide +kernel
theorem am_lay_in {c : Nat} (hc : c < 6) : ∀ w ∈ u_ws (am_q c).1 (am_q c).2.1 (am_q c).2.2, w ∈ am_tbl := by
  intro w hw
  have h := List.all_eq_true.mp am_lay_ok c (List.mem_range.mpr hc)
  rw [Bool.and_eq_true, decide_eq_true_eq] at h
  obtain ⟨j, hj⟩ := List.getElem?_of_mem hw
  have h2 : ((am_lay.getD c []).map (fun i => lw_tbl[i]?))[j]? = some (some w) := by rw [h.1, List.getElem?_map, hj]; rfl
  rw [List.getElem?_map] at h2
  cases hi : (am_lay.getD c [])[j]? with
  | none => rw [hi] at h2; cases h2
  | some i =>
    rw [hi] at h2
    exact am_in_t (Option.some.inj h2) (List.all_eq_true.mp h.2 w hw)
theorem am_q_of {c : Nat} (hc : c < 6) : am_cl[c]? = some (am_q c) := by
  unfold am_q
  rw [List.getD_eq_getElem?_getD]
  have : c < am_cl.length := hc
  rw [List.getElem?_eq_getElem this]
  rfl
theorem am_fld_ok {k ix c f : Nat} (h : am_fld k ix = some (c, f)) : ∃ (C : String) (T : u_T) (N : Nat), am_cl[c]? = some (C, T, N) ∧ f < N ∧ (T f).1 = C ∧ (∀ w ∈ u_ws C T N, w ∈ am_tbl) ∧
    (Cond.fieldLink (am_y k).cls ix C (T f).2.1 (T f).2.2.1 ∈ am_tbl ∨ ∃ host, Cond.fieldLinkNest (am_y k).cls ix C (T f).2.1 (T f).2.2.1 host ∈ am_tbl) := by
  unfold am_fld at h
  cases he : am_FT.find? (fun e => e.1 == am_oc k && e.2.1 == ix) with
  | none => rw [he] at h; cases h
  | some e =>
    rw [he] at h
    have h1 := List.find?_some he
    have h2 := List.all_eq_true.mp am_FT_ok e (List.mem_of_find?_eq_some he)
    simp only [Bool.and_eq_true, beq_iff_eq, decide_eq_true_eq] at h1 h2
    obtain ⟨⟨⟨⟨g1, g2⟩, g3⟩, g4⟩, g5⟩ := h2
    obtain ⟨e0, e1, e2, e3, e4, e5⟩ := e
    dsimp only at h1 g1 g2 g3 g4 g5
    cases h
    obtain ⟨rfl, rfl⟩ := h1
    refine ⟨_, _, _, am_q_of g3, g4, g5, am_lay_in g3, ?_⟩
    have hm := am_in_t g1 g2
    unfold am_fcw at hm
    dsimp only at hm
    by_cases hz : e4 = 0
    · rw [if_pos hz] at hm; exact Or.inl hm
    · rw [if_neg hz] at hm; exact Or.inr ⟨_, hm⟩
theorem am_cls_ok {c : Nat} {C : String} {T : u_T} {N : Nat} (h : am_cl[c]? = some (C, T, N)) : ∃ ty0 : Nat → FieldType, (∀ k, k < N → parseFieldDescriptor (T k).2.2.1 = some (ty0 k)) ∧ (∀ a, a < N → ∀ b, b < N → a ≠ b → (T a).2.1 ≠ (T b).2.1) := by
  rcases c with _ | _ | _ | _ | _ | _ | c
  · cases h; exact ⟨am_ty0, am_tyok0, am_nm0⟩
  · cases h; exact ⟨am_ty1, am_tyok1, am_nm1⟩
  · cases h; exact ⟨am_ty2, am_tyok2, am_nm2⟩
  · cases h; exact ⟨am_ty3, am_tyok3, am_nm3⟩
  · cases h; exact ⟨am_ty4, am_tyok4, am_nm4⟩
  · cases h; exact ⟨am_ty5, am_tyok5, am_nm5⟩
  · cases h
set_option maxRecDepth 100000 in
theorem am_ft_ok : ((List.range 6).all fun c => (List.range 18).all fun f => match am_fty c f with | some ty => decide (((am_q c).2.1 f).2.2.2 = false ∧ parseFieldDescriptor ((am_q c).2.1 f).2.2.1 = some ty) | none => true) = true := by decide +kernel
theorem am_fty_ok {c f : Nat} {C : String} {T : u_T} {N : Nat} {ty : FieldType} (h : am_cl[c]? = some (C, T, N)) (hf : f < N) (ht : am_fty c f = some ty) : ∃ ty0 : Nat → FieldType, (∀ k, k < N → parseFieldDescriptor (T k).2.2.1 = some (ty0 k)) ∧ (∀ a, a < N → ∀ b, b < N → a ≠ b → (T a).2.1 ≠ (T b).2.1) ∧ (T f).2.2.2 = false ∧ parseFieldDescriptor (T f).2.2.1 = some ty := by
  obtain ⟨ty0, t1, t2⟩ := am_cls_ok h
  have hc : c < 6 := (List.getElem?_eq_some_iff.mp h).1
  have hq := am_q_of hc
  have hq : am_q c = (C, T, N) := Option.some.inj (hq.symm.trans h)
  have hN : N ≤ 18 := by
    rcases c with _ | _ | _ | _ | _ | _ | c
    all_goals first | (cases h; decide) | (cases h)
  have h0 := List.all_eq_true.mp (List.all_eq_true.mp am_ft_ok c (List.mem_range.mpr hc)) f (List.mem_range.mpr (by omega))
  rw [ht, hq] at h0
  have h0 := decide_eq_true_eq.mp h0
  exact ⟨ty0, t1, t2, h0.1, h0.2⟩
def am_lcw (e : Nat × Nat × Nat × Nat × Nat) : Cond := if e.2.2.2.1 = 0 then .methodLink (am_on.getD e.1 "BranchedPast$Branches") e.2.1 (am_y e.2.2.1) else .methodLinkNest (am_on.getD e.1 "BranchedPast$Branches") e.2.1 (am_y e.2.2.1) "BranchedPast"
set_option maxRecDepth 100000 in
theorem am_MT_ok : (am_MT.all fun e => decide (lw_tbl[e.2.2.2.2]? = some (am_lcw e)) && am_mv (am_lcw e) && decide (e.2.2.1 < 130) && decide (e.2.2.1 ≠ kL_law)) = true := by decide +kernel
def am_kt (k : Nat) : Nat × Nat × Nat × Nat := am_KT.getD k (0, 0, 0, 0)
def am_isw (k : Nat) : Cond := match am_rc k with
  | none => .static (am_y k)
  | some _ => .instanceMethod (am_y k)
def am_plus (k : Nat) : Nat := match am_rc k with
  | none => 0
  | some _ => 1
def am_kchk (k : Nat) : Bool := decide (lw_tbl[(am_kt k).1]? = some (am_cd k)) && am_mv (am_cd k) && decide (lw_tbl[(am_kt k).2.1]? = some (am_isw k)) && am_mv (am_isw k) &&
  (match am_rc k with
    | none => true
    | some c => decide (lw_tbl[(am_kt k).2.2.1]? = some (.selects (am_y k).cls (am_y k) (am_y k))) && decide ((am_q c).1 = (am_y k).cls) && decide (c < 6)) &&
  decide (lw_tbl[(am_kt k).2.2.2]? = some (.initialized (am_y k).cls)) && decide ((am_y k).cls ≠ "java/lang/invoke/MethodHandle") && decide ((am_y k).cls ≠ "java/lang/invoke/VarHandle") &&
  decide ((parseMethodDescriptor (am_y k).desc).map (fun d => d.parameters.length + am_plus k) = some (am_na k)) && decide (am_na k ≤ am_nL k) && plainName (am_y k).cls
end
section
/-! the words of each method, five by five -/
set_option maxRecDepth 100000 in
theorem am_K_0 : ((List.range' 0 5).all fun k => k == kL_law || am_kchk k) = true := by decide +kernel
set_option maxRecDepth 100000 in
theorem am_K_1 : ((List.range' 5 5).all fun k => k == kL_law || am_kchk k) = true := by decide +kernel
set_option maxRecDepth 100000 in
theorem am_K_2 : ((List.range' 10 5).all fun k => k == kL_law || am_kchk k) = true := by decide +kernel
set_option maxRecDepth 100000 in
theorem am_K_3 : ((List.range' 15 5).all fun k => k == kL_law || am_kchk k) = true := by decide +kernel
set_option maxRecDepth 100000 in
theorem am_K_4 : ((List.range' 20 5).all fun k => k == kL_law || am_kchk k) = true := by decide +kernel
set_option maxRecDepth 100000 in
theorem am_K_5 : ((List.range' 25 5).all fun k => k == kL_law || am_kchk k) = true := by decide +kernel
set_option maxRecDepth 100000 in
theorem am_K_6 : ((List.range' 30 5).all fun k => k == kL_law || am_kchk k) = true := by decide +kernel
set_option maxRecDepth 100000 in
theorem am_K_7 : ((List.range' 35 5).all fun k => k == kL_law || am_kchk k) = true := by decide +kernel
set_option maxRecDepth 100000 in
theorem am_K_8 : ((List.range' 40 5).all fun k => k == kL_law || am_kchk k) = true := by decide +kernel
set_option maxRecDepth 100000 in
theorem am_K_9 : ((List.range' 45 5).all fun k => k == kL_law || am_kchk k) = true := by decide +kernel
set_option maxRecDepth 100000 in
theorem am_K_10 : ((List.range' 50 5).all fun k => k == kL_law || am_kchk k) = true := by decide +kernel
set_option maxRecDepth 100000 in
theorem am_K_11 : ((List.range' 55 5).all fun k => k == kL_law || am_kchk k) = true := by decide +kernel
set_option maxRecDepth 100000 in
theorem am_K_12 : ((List.range' 60 5).all fun k => k == kL_law || am_kchk k) = true := by decide +kernel
end
section
/-! the words of each method, five by five -/
set_option maxRecDepth 100000 in
theorem am_K_13 : ((List.range' 65 5).all fun k => k == kL_law || am_kchk k) = true := by decide +kernel
set_option maxRecDepth 100000 in
theorem am_K_14 : ((List.range' 70 5).all fun k => k == kL_law || am_kchk k) = true := by decide +kernel
set_option maxRecDepth 100000 in
theorem am_K_15 : ((List.range' 75 5).all fun k => k == kL_law || am_kchk k) = true := by decide +kernel
set_option maxRecDepth 100000 in
theorem am_K_16 : ((List.range' 80 5).all fun k => k == kL_law || am_kchk k) = true := by decide +kernel
set_option maxRecDepth 100000 in
theorem am_K_17 : ((List.range' 85 5).all fun k => k == kL_law || am_kchk k) = true := by decide +kernel
set_option maxRecDepth 100000 in
theorem am_K_18 : ((List.range' 90 5).all fun k => k == kL_law || am_kchk k) = true := by decide +kernel
set_option maxRecDepth 100000 in
theorem am_K_19 : ((List.range' 95 5).all fun k => k == kL_law || am_kchk k) = true := by decide +kernel
set_option maxRecDepth 100000 in
theorem am_K_20 : ((List.range' 100 5).all fun k => k == kL_law || am_kchk k) = true := by decide +kernel
set_option maxRecDepth 100000 in
theorem am_K_21 : ((List.range' 105 5).all fun k => k == kL_law || am_kchk k) = true := by decide +kernel
set_option maxRecDepth 100000 in
theorem am_K_22 : ((List.range' 110 5).all fun k => k == kL_law || am_kchk k) = true := by decide +kernel
set_option maxRecDepth 100000 in
theorem am_K_23 : ((List.range' 115 5).all fun k => k == kL_law || am_kchk k) = true := by decide +kernel
set_option maxRecDepth 100000 in
theorem am_K_24 : ((List.range' 120 5).all fun k => k == kL_law || am_kchk k) = true := by decide +kernel
set_option maxRecDepth 100000 in
theorem am_K_25 : ((List.range' 125 5).all fun k => k == kL_law || am_kchk k) = true := by decide +kernel
end
section
/-! what the tables say of the calls -/
theorem am_K_all {k : Nat} (hk : k < 130) : (k == kL_law || am_kchk k) = true := by
  by_cases h0 : k < 5
  · exact List.all_eq_true.mp am_K_0 k (List.mem_range'_1.mpr ⟨by omega, by omega⟩)
  by_cases h1 : k < 10
  · exact List.all_eq_true.mp am_K_1 k (List.mem_range'_1.mpr ⟨by omega, by omega⟩)
  by_cases h2 : k < 15
  · exact List.all_eq_true.mp am_K_2 k (List.mem_range'_1.mpr ⟨by omega, by omega⟩)
  by_cases h3 : k < 20
  · exact List.all_eq_true.mp am_K_3 k (List.mem_range'_1.mpr ⟨by omega, by omega⟩)
  by_cases h4 : k < 25
  · exact List.all_eq_true.mp am_K_4 k (List.mem_range'_1.mpr ⟨by omega, by omega⟩)
  by_cases h5 : k < 30
  · exact List.all_eq_true.mp am_K_5 k (List.mem_range'_1.mpr ⟨by omega, by omega⟩)
  by_cases h6 : k < 35
  · exact List.all_eq_true.mp am_K_6 k (List.mem_range'_1.mpr ⟨by omega, by omega⟩)
  by_cases h7 : k < 40
  · exact List.all_eq_true.mp am_K_7 k (List.mem_range'_1.mpr ⟨by omega, by omega⟩)
  by_cases h8 : k < 45
  · exact List.all_eq_true.mp am_K_8 k (List.mem_range'_1.mpr ⟨by omega, by omega⟩)
  by_cases h9 : k < 50
  · exact List.all_eq_true.mp am_K_9 k (List.mem_range'_1.mpr ⟨by omega, by omega⟩)
  by_cases h10 : k < 55
  · exact List.all_eq_true.mp am_K_10 k (List.mem_range'_1.mpr ⟨by omega, by omega⟩)
  by_cases h11 : k < 60
  · exact List.all_eq_true.mp am_K_11 k (List.mem_range'_1.mpr ⟨by omega, by omega⟩)
  by_cases h12 : k < 65
  · exact List.all_eq_true.mp am_K_12 k (List.mem_range'_1.mpr ⟨by omega, by omega⟩)
  by_cases h13 : k < 70
  · exact List.all_eq_true.mp am_K_13 k (List.mem_range'_1.mpr ⟨by omega, by omega⟩)
  by_cases h14 : k < 75
  · exact List.all_eq_true.mp am_K_14 k (List.mem_range'_1.mpr ⟨by omega, by omega⟩)
  by_cases h15 : k < 80
  · exact List.all_eq_true.mp am_K_15 k (List.mem_range'_1.mpr ⟨by omega, by omega⟩)
  by_cases h16 : k < 85
  · exact List.all_eq_true.mp am_K_16 k (List.mem_range'_1.mpr ⟨by omega, by omega⟩)
  by_cases h17 : k < 90
  · exact List.all_eq_true.mp am_K_17 k (List.mem_range'_1.mpr ⟨by omega, by omega⟩)
  by_cases h18 : k < 95
  · exact List.all_eq_true.mp am_K_18 k (List.mem_range'_1.mpr ⟨by omega, by omega⟩)
  by_cases h19 : k < 100
  · exact List.all_eq_true.mp am_K_19 k (List.mem_range'_1.mpr ⟨by omega, by omega⟩)
  by_cases h20 : k < 105
  · exact List.all_eq_true.mp am_K_20 k (List.mem_range'_1.mpr ⟨by omega, by omega⟩)
  by_cases h21 : k < 110
  · exact List.all_eq_true.mp am_K_21 k (List.mem_range'_1.mpr ⟨by omega, by omega⟩)
  by_cases h22 : k < 115
  · exact List.all_eq_true.mp am_K_22 k (List.mem_range'_1.mpr ⟨by omega, by omega⟩)
  by_cases h23 : k < 120
  · exact List.all_eq_true.mp am_K_23 k (List.mem_range'_1.mpr ⟨by omega, by omega⟩)
  by_cases h24 : k < 125
  · exact List.all_eq_true.mp am_K_24 k (List.mem_range'_1.mpr ⟨by omega, by omega⟩)
  by_cases h25 : k < 130
  · exact List.all_eq_true.mp am_K_25 k (List.mem_range'_1.mpr ⟨by omega, by omega⟩)
  omega
theorem am_mth_in {k ix kc : Nat} (h : am_mth k ix = some kc) : (Cond.methodLink (am_y k).cls ix (am_y kc) ∈ am_tbl ∨ ∃ host, Cond.methodLinkNest (am_y k).cls ix (am_y kc) host ∈ am_tbl) ∧ am_kchk kc = true := by
  unfold am_mth at h
  cases he : am_MT.find? (fun e => e.1 == am_oc k && e.2.1 == ix) with
  | none => rw [he] at h; cases h
  | some e =>
    rw [he] at h
    have h1 := List.find?_some he
    have h2 := List.all_eq_true.mp am_MT_ok e (List.mem_of_find?_eq_some he)
    simp only [Bool.and_eq_true, beq_iff_eq, decide_eq_true_eq] at h1 h2
    obtain ⟨⟨⟨g1, g2⟩, g3⟩, g4⟩ := h2
    obtain ⟨e0, e1, e2, e3, e4⟩ := e
    dsimp only at h1 g1 g2 g3 g4
    cases h
    obtain ⟨rfl, rfl⟩ := h1
    refine ⟨?_, ?_⟩
    · have hm := am_in_t g1 g2
      unfold am_lcw at hm
      dsimp only at hm
      by_cases hz : e3 = 0
      · rw [if_pos hz] at hm; exact Or.inl hm
      · rw [if_neg hz] at hm; exact Or.inr ⟨_, hm⟩
    · have h5 := am_K_all g3
      rw [Bool.or_eq_true, beq_iff_eq] at h5
      exact h5.resolve_left g4
theorem am_mth_v {k ix kc c : Nat} (h : am_mth k ix = some kc) (hc : am_rc kc = some c) : am_cd kc ∈ am_tbl ∧ (Cond.methodLink (am_y k).cls ix (am_y kc) ∈ am_tbl ∨ ∃ host, Cond.methodLinkNest (am_y k).cls ix (am_y kc) host ∈ am_tbl) ∧ Cond.instanceMethod (am_y kc) ∈ am_tbl ∧ Cond.selects (am_y kc).cls (am_y kc) (am_y kc) ∈ am_tbl ∧
    ((am_y kc).cls ≠ "java/lang/invoke/MethodHandle" ∧ (am_y kc).cls ≠ "java/lang/invoke/VarHandle") ∧ (parseMethodDescriptor (am_y kc).desc).map (fun d => d.parameters.length + 1) = some (am_na kc) ∧ am_na kc ≤ am_nL kc ∧ (∃ T N, am_cl[c]? = some ((am_y kc).cls, T, N)) ∧ plainName (am_y kc).cls = true := by
  obtain ⟨h1, h2⟩ := am_mth_in h
  unfold am_kchk am_isw am_plus at h2
  rw [hc] at h2
  simp only [Bool.and_eq_true, decide_eq_true_eq] at h2
  obtain ⟨⟨⟨⟨⟨⟨⟨⟨⟨⟨g1, g2⟩, g3⟩, g4⟩, ⟨g5, g6⟩, g7⟩, g8⟩, g9⟩, g10⟩, g11⟩, g12⟩, g13⟩ := h2
  exact ⟨am_in_t g1 g2, h1, am_in_t g3 g4, am_in_t g5 rfl, ⟨g9, g10⟩, g11, g12, ⟨(am_q c).2.1, (am_q c).2.2, by rw [am_q_of g7, ← g6]⟩, g13⟩
theorem am_mth_s {k ix kc : Nat} (h : am_mth k ix = some kc) (hc : am_rc kc = none) : am_cd kc ∈ am_tbl ∧ (Cond.methodLink (am_y k).cls ix (am_y kc) ∈ am_tbl ∨ ∃ host, Cond.methodLinkNest (am_y k).cls ix (am_y kc) host ∈ am_tbl) ∧ Cond.static (am_y kc) ∈ am_tbl ∧ Cond.initialized (am_y kc).cls ∈ am_tbl ∧
    ((am_y kc).cls ≠ "java/lang/invoke/MethodHandle" ∧ (am_y kc).cls ≠ "java/lang/invoke/VarHandle") ∧ (parseMethodDescriptor (am_y kc).desc).map (fun d => d.parameters.length) = some (am_na kc) ∧ am_na kc ≤ am_nL kc ∧ plainName (am_y kc).cls = true := by
  obtain ⟨h1, h2⟩ := am_mth_in h
  unfold am_kchk am_isw am_plus at h2
  rw [hc] at h2
  simp only [Bool.and_eq_true, decide_eq_true_eq] at h2
  obtain ⟨⟨⟨⟨⟨⟨⟨⟨⟨⟨g1, g2⟩, g3⟩, g4⟩, -⟩, g8⟩, g9⟩, g10⟩, g11⟩, g12⟩, g13⟩ := h2
  exact ⟨am_in_t g1 g2, h1, am_in_t g3 g4, am_in_t g8 rfl, ⟨g9, g10⟩, g11, g12, g13⟩
def am_mcw (e : Nat × Nat × Nat × Nat) : Cond := .methodLink (am_on.getD e.1 "BranchedPast$Branches") e.2.1 (if e.2.2.1 = 1 then Lib.Math.max.name else Lib.Math.min.name)
set_option maxRecDepth 100000 in
theorem am_MX_ok : (am_MX.all fun e => decide (lw_tbl[e.2.2.2]? = some (am_mcw e))) = true := by decide +kernel
set_option maxRecDepth 100000 in
theorem am_MP_ok : lw_tbl[am_MP.getD 0 0]? = some (.static Lib.Math.max.name) ∧ lw_tbl[am_MP.getD 1 0]? = some (.static Lib.Math.min.name) ∧ lw_tbl[am_MP.getD 2 0]? = some (.code Lib.Math.max.name Lib.Math.max.code 2 (some .int)) ∧ lw_tbl[am_MP.getD 3 0]? = some (.code Lib.Math.min.name Lib.Math.min.code 2 (some .int)) ∧ lw_tbl[am_MP.getD 4 0]? = some (.initialized "java/lang/Math") := by decide +kernel
theorem am_mx_in {k ix : Nat} {b : Bool} (h : am_mx k ix = some b) : Cond.methodLink (am_y k).cls ix (if b = true then Lib.Math.max.name else Lib.Math.min.name) ∈ am_tbl := by
  unfold am_mx at h
  cases he : am_MX.find? (fun e => e.1 == am_oc k && e.2.1 == ix) with
  | none => rw [he] at h; cases h
  | some e =>
    rw [he] at h
    have h1 := List.find?_some he
    have h2 := List.all_eq_true.mp am_MX_ok e (List.mem_of_find?_eq_some he)
    simp only [Bool.and_eq_true, beq_iff_eq, decide_eq_true_eq] at h1 h2
    obtain ⟨e0, e1, e2, e3⟩ := e
    dsimp only at h1 h2
    cases h
    obtain ⟨rfl, rfl⟩ := h1
    have hm := am_in_t h2 rfl
    unfold am_mcw at hm
    dsimp only at hm
    by_cases hz : e2 = 1
    · rw [if_pos hz] at hm; rw [if_pos (by simp [hz])]; exact hm
    · rw [if_neg hz] at hm; rw [if_neg (by simp [hz])]; exact hm
theorem am_mx_t {k ix : Nat} (h : am_mx k ix = some true) : Cond.methodLink (am_y k).cls ix Lib.Math.max.name ∈ am_tbl ∧ Cond.static Lib.Math.max.name ∈ am_tbl ∧ Cond.initialized "java/lang/Math" ∈ am_tbl ∧ Cond.code Lib.Math.max.name Lib.Math.max.code 2 (some .int) ∈ am_tbl :=
  ⟨am_mx_in h, am_in_t am_MP_ok.1 rfl, am_in_t am_MP_ok.2.2.2.2 rfl, am_in_t am_MP_ok.2.2.1 rfl⟩
theorem am_mx_f {k ix : Nat} (h : am_mx k ix = some false) : Cond.methodLink (am_y k).cls ix Lib.Math.min.name ∈ am_tbl ∧ Cond.static Lib.Math.min.name ∈ am_tbl ∧ Cond.initialized "java/lang/Math" ∈ am_tbl ∧ Cond.code Lib.Math.min.name Lib.Math.min.code 2 (some .int) ∈ am_tbl :=
  ⟨am_mx_in h, am_in_t am_MP_ok.2.1 rfl, am_in_t am_MP_ok.2.2.2.2 rfl, am_in_t am_MP_ok.2.2.2.1 rfl⟩
theorem am_nL_le (k : Nat) : am_nL k ≤ 15 := by
  unfold am_nL
  rw [List.getD_eq_getElem?_getD]
  cases h : am_nLl[k]? with
  | none => exact Nat.zero_le _
  | some n =>
    have h1 : am_nLl.all (fun n => decide (n ≤ 15)) = true := by decide +kernel
    exact decide_eq_true_eq.mp (List.all_eq_true.mp h1 n (List.mem_of_getElem? h))
end
section
/-! exceptions: what the tables say of the throws and of the handlers -/
def am_hq (k r : Nat) : Nat × Nat × Nat × Nat := (am_et k).getD r (0, 0, 0, 0)
def am_hcode (k h alen v : Nat) : Bool := (match decode (am_bytes k) h with
    | .ok (.astore j, 2) => alen == 2 && decide (j < am_nL k)
    | .ok (.astore_n j, 1) => alen == 1 && decide ((j : Nat) < am_nL k)
    | _ => false) && decide (decode (am_bytes k) (h + alen) = .ok (.iconst (v : Int), 1)) && decide (decode (am_bytes k) (h + alen + 1) = .ok (.ireturn, 1)) && decide (Int32.ofInt (v : Int) = Int32.ofNat v)
def am_hchk (e : Nat × Nat × Nat × Nat × Nat × Nat × Nat) : Bool := match e with
  | (k, pc, x, v, r, alen, ps) => decide (r < (am_et k).length) && decide ((am_hq k r).1 ≤ pc) && decide (pc < (am_hq k r).2.1) && decide ((am_hq k r).2.2.2 ≠ 0) && decide (lw_tbl[ps]? = some (.classLink (am_y k).cls (am_hq k r).2.2.2 (am_xn x))) && decide (x < 4) &&
    decide (lw_tbl[am_xc.getD x 0]? = some (.castable (am_xn x) (am_xn x))) && am_hcode k (am_hq k r).2.2.1 alen v && ((List.range r).all fun j => am_HT.any fun e' => e'.1 == k && e'.2.2.2.2.1 == j && e'.2.2.1 != x) && decide (am_rt k = some .int)
set_option maxRecDepth 100000 in
theorem am_HT_ok : am_HT.all am_hchk = true := by decide +kernel
theorem am_hd_ok {k pc x : Nat} {a : Int32} (h : am_hd k pc x = some a) : ∃ (v r alen ps : Nat), a = Int32.ofNat v ∧ am_hchk (k, pc, x, v, r, alen, ps) = true := by
  unfold am_hd at h
  cases he : am_HT.find? (fun e => e.1 == k && e.2.1 == pc && e.2.2.1 == x) with
  | none => rw [he] at h; cases h
  | some e =>
    rw [he] at h
    have h1 := List.find?_some he
    have h2 := List.all_eq_true.mp am_HT_ok e (List.mem_of_find?_eq_some he)
    simp only [Bool.and_eq_true, beq_iff_eq] at h1
    obtain ⟨e0, e1, e2, e3, e4, e5, e6⟩ := e
    dsimp only at h1
    obtain ⟨⟨rfl, rfl⟩, rfl⟩ := h1
    exact ⟨e3, e4, e5, e6, (Option.some.inj h).symm, h2⟩
theorem am_hrow {k r x : Nat} (h : ((List.range r).all fun j => am_HT.any fun e' => e'.1 == k && e'.2.2.2.2.1 == j && e'.2.2.1 != x) = true) {j : Nat} (hj : j < r) : ∃ x', x' ≠ x ∧ x' < 4 ∧ (am_hq k j).2.2.2 ≠ 0 ∧ Cond.classLink (am_y k).cls (am_hq k j).2.2.2 (am_xn x') ∈ am_tbl := by
  have h1 := List.all_eq_true.mp h j (List.mem_range.mpr hj)
  obtain ⟨e, he, h2⟩ := List.any_eq_true.mp h1
  have h3 := List.all_eq_true.mp am_HT_ok e he
  simp only [Bool.and_eq_true, beq_iff_eq, bne_iff_ne] at h2
  obtain ⟨e0, e1, e2, e3, e4, e5, e6⟩ := e
  dsimp only at h2
  obtain ⟨⟨rfl, rfl⟩, h2⟩ := h2
  unfold am_hchk at h3
  simp only [Bool.and_eq_true, decide_eq_true_eq] at h3
  obtain ⟨⟨⟨⟨⟨⟨⟨⟨⟨-, -⟩, -⟩, g4⟩, g5⟩, g6⟩, -⟩, -⟩, -⟩, -⟩ := h3
  exact ⟨e2, h2, g6, g4, am_in_t g5 rfl⟩
abbrev am_sup : List String := ["java/lang/RuntimeException", "java/lang/Exception"]
def am_xic : List Nat := [200, 99, 65, 221]
set_option maxRecDepth 100000 in
theorem am_at_0 : ((vx_atS "BranchedPast" 200 (am_xn 0) am_sup).all fun w => decide (w ∈ lw_tbl) && am_mv w && vx_ot w) = true := by decide +kernel
set_option maxRecDepth 100000 in
theorem am_at_1 : ((vx_atS "BranchedPast" 99 (am_xn 1) am_sup).all fun w => decide (w ∈ lw_tbl) && am_mv w && vx_ot w) = true := by decide +kernel
set_option maxRecDepth 100000 in
theorem am_at_2 : ((vx_atS "BranchedPast" 65 (am_xn 2) am_sup).all fun w => decide (w ∈ lw_tbl) && am_mv w && vx_ot w) = true := by decide +kernel
set_option maxRecDepth 100000 in
theorem am_at_3 : ((vx_atS "BranchedPast" 221 (am_xn 3) am_sup).all fun w => decide (w ∈ lw_tbl) && am_mv w && vx_ot w) = true := by decide +kernel
theorem am_at {x : Nat} (hx : x < 4) : ∀ w ∈ vx_atS "BranchedPast" (am_xic.getD x 0) (am_xn x) am_sup, w ∈ am_tbl ∧ vx_ot w = true := by
  have h : ((vx_atS "BranchedPast" (am_xic.getD x 0) (am_xn x) am_sup).all fun w => decide (w ∈ lw_tbl) && am_mv w && vx_ot w) = true := by
    rcases x with _ | _ | _ | _ | x
    · exact am_at_0
    · exact am_at_1
    · exact am_at_2
    · exact am_at_3
    · omega
  intro w hw
  have h1 := List.all_eq_true.mp h w hw
  simp only [Bool.and_eq_true, decide_eq_true_eq] at h1
  exact ⟨List.mem_filter.mpr ⟨h1.1.1, h1.1.2⟩, h1.2⟩
def am_xchk (e : Nat × Nat × Nat × Nat × Nat × Nat × Nat × Nat × String) : Bool := match e with
  | (k, pc, ix, x, is, ic, pl, ps, tx) => decide ((am_y k).cls = "BranchedPast") && decide (am_et k = []) && decide (6 ≤ am_rk k) && decide (x < 4) && decide (ic = am_xic.getD x 0) && decide (decode (am_bytes k) (pc + 3) = .ok (.dup, 1)) && decide (decode (am_bytes k) (pc + 4) = .ok (.ldc is, 2)) && decide (decode (am_bytes k) (pc + 6) = .ok (.invokespecial ic, 3)) && decide (decode (am_bytes k) (pc + 9) = .ok (.athrow, 1)) &&
    decide (lw_tbl[pl]? = some (.classLink "BranchedPast" ix (am_xn x))) && decide (lw_tbl[am_xi.getD x 0]? = some (.initialized (am_xn x))) && decide (lw_tbl[ps]? = some (.stringRef "BranchedPast" is tx)) && Bundle.fit (am_xn x) && am_sup.all Bundle.fit
set_option maxRecDepth 100000 in
theorem am_XT_ok : am_XT.all am_xchk = true := by decide +kernel
theorem am_exc_ok {k pc ix x : Nat} (h : am_exc k pc ix = some x) : ∃ (is ic pl ps : Nat) (tx : String), am_xchk (k, pc, ix, x, is, ic, pl, ps, tx) = true := by
  unfold am_exc at h
  cases he : am_XT.find? (fun e => e.1 == k && e.2.1 == pc && e.2.2.1 == ix) with
  | none => rw [he] at h; cases h
  | some e =>
    rw [he] at h
    have h1 := List.find?_some he
    have h2 := List.all_eq_true.mp am_XT_ok e (List.mem_of_find?_eq_some he)
    simp only [Bool.and_eq_true, beq_iff_eq] at h1
    obtain ⟨e0, e1, e2, e3, e4, e5, e6, e7, e8⟩ := e
    dsimp only at h1
    obtain ⟨⟨rfl, rfl⟩, rfl⟩ := h1
    cases h
    exact ⟨e4, e5, e6, e7, e8, h2⟩
theorem am_str {own tx : String} {k : Nat} {args : Array Value} {s : State} (h : (Cond.stringRef own k tx).before args s = true) : ∃ a, vk_R own k tx a s := by
  have h0 := h
  simp only [Cond.before, Cond.holds, Cond.value] at h
  cases hc : s.vm.findClass own with
  | none => simp [hc] at h
  | some cur =>
    cases hr : s.resolvedAt? own k with
    | none => simp [hc, hr] at h
    | some r =>
      cases r with
      | string a =>
        refine ⟨a, vk_R.of h0 ?_⟩
        cases hk : s.vm.classes[cur]? with
        | none => simp [State.resolvedAt?, hc, hk] at hr
        | some kk =>
          have hr' : kk.resolved[k]?.join = some (Resolved.string a) := by simpa [State.resolvedAt?, hc, hk] using hr
          simp [Term.eval, hc, hk, hr']
      | _ => simp [hc, hr] at h
end
section
/-! THE ABSTRACT MACHINE. Places stand for addresses ('.ref p' is the cell at place p); the memory M: ints by place and slot; longs; how many exceptions may still be caught; the script's length and ints. -/
abbrev am_M : Type := (Nat → Nat → Int32) × (Nat → Nat → Int64) × Nat × Nat × (Nat → Int32)
abbrev am_R : Type := Option Value ⊕ Nat
abbrev am_T : Type := am_R → am_M → Prop
abbrev am_K : Type := Nat → Nat → List Value → List Value → am_M → am_T → Prop
def am_set (M : am_M) (p i : Nat) (x : Int32) : am_M := (va_up M.1 p (upd (M.1 p) i x), M.2)
def am_setL (M : am_M) (p i : Nat) (x : Int64) : am_M := (M.1, va_up M.2.1 p (vp_updL (M.2.1 p) i x), M.2.2)
def am_pay (M : am_M) : am_M := (M.1, M.2.1, M.2.2.1 - 1, M.2.2.2)
def am_fv (M : am_M) (p f : Nat) : Option Nat → Value
  | none => .int (M.1 p f)
  | some q => .ref q
def am_cmp : Jvm.ClassFile.Cond → Int32 → Int32 → Prop
  | .eq, x, y => x = y
  | .ne, x, y => ¬ x = y
  | .lt, x, y => x < y
  | .ge, x, y => y ≤ x
  | .gt, x, y => y < x
  | .le, x, y => x ≤ y
/-- the locals with which a method begins -/
def am_in (k : Nat) (as : List Value) : List Value := as ++ List.replicate (am_nL k - as.length) .null
/-- behind a call: the answer, or an exception, which the method's own handler may catch -/
def am_af (w : am_K) (k pc : Nat) (L r : List Value) (Q : am_T) : am_T := fun res M => match res with
  | .inl v => w k (pc + 3) L (v.toList ++ r) M Q
  | .inr x => match am_hd k pc x with
    | none => am_et k = [] ∧ Q (.inr x) M
    | some v => 0 < M.2.2.1 ∧ Q (.inl (some (.int v))) (am_pay M)
/-- one instruction -/
def am_do (w : am_K) (k pc : Nat) (i : Instr) (len : Nat) (L st : List Value) (M : am_M) (Q : am_T) : Prop :=
  match i with
  | .iconst n => len = 1 ∧ ∃ v, Int32.ofInt n = v ∧ w k (pc + 1) L (.int v :: st) M Q
  | .bipush n => len = 2 ∧ ∃ v, (Int8.ofInt n).toInt32 = v ∧ w k (pc + 2) L (.int v :: st) M Q
  | .sipush n => len = 3 ∧ ∃ v, (Int16.ofInt n).toInt32 = v ∧ w k (pc + 3) L (.int v :: st) M Q
  | .iload_n j => len = 1 ∧ ∃ x, L[(j : Nat)]? = some (.int x) ∧ w k (pc + 1) L (.int x :: st) M Q
  | .iload j => len = 2 ∧ ∃ x, L[j]? = some (.int x) ∧ w k (pc + 2) L (.int x :: st) M Q
  | .aload_n j => len = 1 ∧ ∃ x, L[(j : Nat)]? = some (.ref x) ∧ w k (pc + 1) L (.ref x :: st) M Q
  | .aload j => len = 2 ∧ ∃ x, L[j]? = some (.ref x) ∧ w k (pc + 2) L (.ref x :: st) M Q
  | .istore_n j => len = 1 ∧ ∃ x r, st = .int x :: r ∧ (j : Nat) < L.length ∧ w k (pc + 1) (L.set j (.int x)) r M Q
  | .istore j => len = 2 ∧ ∃ x r, st = .int x :: r ∧ j < L.length ∧ w k (pc + 2) (L.set j (.int x)) r M Q
  | .iinc j n => len = 3 ∧ ∃ x v, L[j]? = some (.int x) ∧ x + Int32.ofInt n = v ∧ w k (pc + 3) (L.set j (.int v)) st M Q
  | .iadd => len = 1 ∧ ∃ y x r, st = .int y :: .int x :: r ∧ w k (pc + 1) L (.int (x + y) :: r) M Q
  | .isub => len = 1 ∧ ∃ y x r, st = .int y :: .int x :: r ∧ w k (pc + 1) L (.int (x - y) :: r) M Q
  | .imul => len = 1 ∧ ∃ y x r, st = .int y :: .int x :: r ∧ w k (pc + 1) L (.int (x * y) :: r) M Q
  | .iand => len = 1 ∧ ∃ y x r, st = .int y :: .int x :: r ∧ w k (pc + 1) L (.int (x &&& y) :: r) M Q
  | .ior => len = 1 ∧ ∃ y x r, st = .int y :: .int x :: r ∧ w k (pc + 1) L (.int (x ||| y) :: r) M Q
  | .ishl => len = 1 ∧ ∃ y x r, st = .int y :: .int x :: r ∧ w k (pc + 1) L (.int (x <<< (y &&& 31)) :: r) M Q
  | .ishr => len = 1 ∧ ∃ y x r, st = .int y :: .int x :: r ∧ w k (pc + 1) L (.int (x >>> (y &&& 31)) :: r) M Q
  | .iushr => len = 1 ∧ ∃ y x r, st = .int y :: .int x :: r ∧ w k (pc + 1) L (.int (x.toUInt32 >>> (y.toUInt32 &&& Int32.toUInt32 31)).toInt32 :: r) M Q
  | .ineg => len = 1 ∧ ∃ x r, st = .int x :: r ∧ w k (pc + 1) L (.int (-x) :: r) M Q
  | .i2l => len = 1 ∧ ∃ x r, st = .int x :: r ∧ w k (pc + 1) L (.long x.toInt64 :: r) M Q
  | .i2c => len = 1 ∧ ∃ x r, st = .int x :: r ∧ w k (pc + 1) L (.int (x.toUInt32 % 65536).toInt32 :: r) M Q
  | .lcmp => len = 1 ∧ ∃ y x r, st = .long y :: .long x :: r ∧ w k (pc + 1) L (.int (lg_cmp x y) :: r) M Q
  | .dup => len = 1 ∧ ∃ v r, st = v :: r ∧ am_ok v = true ∧ w k (pc + 1) L (v :: v :: r) M Q
  | .goto off => len = 3 ∧ ∃ t : Nat, (pc : Int) + off = t ∧ w k t L st M Q
  | .ifCond c off => len = 3 ∧ ∃ (t : Nat) (x : Int32) (r : List Value), st = .int x :: r ∧ (pc : Int) + off = t ∧ (am_cmp c x 0 → w k t L r M Q) ∧ (¬ am_cmp c x 0 → w k (pc + 3) L r M Q)
  | .if_icmp c off => len = 3 ∧ ∃ (t : Nat) (y x : Int32) (r : List Value), st = .int y :: .int x :: r ∧ (pc : Int) + off = t ∧ (am_cmp c x y → w k t L r M Q) ∧ (¬ am_cmp c x y → w k (pc + 3) L r M Q)
  | .tableswitch d lo hi offs => ∃ (x : Int32) (r : List Value), st = .int x :: r ∧
      (x.toInt < lo ∨ hi < x.toInt → ∃ t : Nat, (pc : Int) + d = t ∧ w k t L r M Q) ∧
      (¬ x.toInt < lo → ¬ hi < x.toInt → ∃ (off : Int) (t : Nat), offs[(x.toInt - lo).toNat]? = some off ∧ (pc : Int) + off = t ∧ w k t L r M Q)
  | .iaload => len = 1 ∧ ∃ (x : Int32) (p : Nat) (r : List Value), st = .int x :: .ref p :: r ∧
      ((p = am_SC ∧ vp_in x M.2.2.2.1 ∧ w k (pc + 1) L (.int (M.2.2.2.2 x.toNatClampNeg) :: r) M Q) ∨
       ∃ n, am_sh p = some (.inl (.int, n)) ∧ vp_in x n ∧ w k (pc + 1) L (.int (M.1 p x.toNatClampNeg) :: r) M Q)
  | .baload => len = 1 ∧ ∃ (x : Int32) (p n : Nat) (r : List Value), st = .int x :: .ref p :: r ∧ am_sh p = some (.inl (.boolean, n)) ∧ vp_in x n ∧ w k (pc + 1) L (.int (M.1 p x.toNatClampNeg) :: r) M Q
  | .caload => len = 1 ∧ ∃ (x : Int32) (p n : Nat) (r : List Value), st = .int x :: .ref p :: r ∧ am_sh p = some (.inl (.char, n)) ∧ vp_in x n ∧ w k (pc + 1) L (.int (M.1 p x.toNatClampNeg) :: r) M Q
  | .laload => len = 1 ∧ ∃ (x : Int32) (p n : Nat) (r : List Value), st = .int x :: .ref p :: r ∧ am_sh p = some (.inl (.long, n)) ∧ vp_in x n ∧ w k (pc + 1) L (.long (M.2.1 p x.toNatClampNeg) :: r) M Q
  | .iastore => len = 1 ∧ ∃ (v x : Int32) (p n : Nat) (r : List Value), st = .int v :: .int x :: .ref p :: r ∧ am_sh p = some (.inl (.int, n)) ∧ vp_in x n ∧ w k (pc + 1) L r (am_set M p x.toNatClampNeg v) Q
  | .bastore => len = 1 ∧ ∃ (v x : Int32) (p n : Nat) (r : List Value), st = .int v :: .int x :: .ref p :: r ∧ am_sh p = some (.inl (.boolean, n)) ∧ vp_in x n ∧ w k (pc + 1) L r (am_set M p x.toNatClampNeg (vp_nar .boolean v)) Q
  | .castore => len = 1 ∧ ∃ (v x : Int32) (p n : Nat) (r : List Value), st = .int v :: .int x :: .ref p :: r ∧ am_sh p = some (.inl (.char, n)) ∧ vp_in x n ∧ w k (pc + 1) L r (am_set M p x.toNatClampNeg (vp_nar .char v)) Q
  | .lastore => len = 1 ∧ ∃ (v : Int64) (x : Int32) (p n : Nat) (r : List Value), st = .long v :: .int x :: .ref p :: r ∧ am_sh p = some (.inl (.long, n)) ∧ vp_in x n ∧ w k (pc + 1) L r (am_setL M p x.toNatClampNeg v) Q
  | .arraylength => len = 1 ∧ ∃ (p : Nat) (r : List Value), st = .ref p :: r ∧
      ((p = am_SC ∧ w k (pc + 1) L (.int (Int32.ofNat M.2.2.2.1) :: r) M Q) ∨ ∃ (ty : FieldType) (n : Nat), am_sh p = some (.inl (ty, n)) ∧ ty ∈ am_tyL ∧ w k (pc + 1) L (.int (Int32.ofNat n) :: r) M Q)
  | .getfield ix => len = 3 ∧ ∃ (p c f : Nat) (r : List Value) (fs : List (Option Nat)) (o : Option Nat), st = .ref p :: r ∧ am_fld k ix = some (c, f) ∧ am_sh p = some (.inr (c, fs)) ∧ fs[f]? = some o ∧ w k (pc + 3) L (am_fv M p f o :: r) M Q
  | .putfield ix => len = 3 ∧ ∃ (v : Int32) (p c f : Nat) (r : List Value) (fs : List (Option Nat)) (ty : FieldType), st = .int v :: .ref p :: r ∧ am_fld k ix = some (c, f) ∧ am_sh p = some (.inr (c, fs)) ∧ fs[f]? = some none ∧ am_fty c f = some ty ∧ narrow ty (.int v) = .int v ∧ fits ty (.int v) = true ∧ w k (pc + 3) L r (am_set M p f v) Q
  | .ireturn => len = 1 ∧ ∃ (v : Int32) (ty : FieldType), st = [.int v] ∧ am_rt k = some ty ∧ narrow ty (.int v) = .int v ∧ Q (.inl (some (.int v))) M
  | .return_ => len = 1 ∧ st = [] ∧ am_rt k = none ∧ Q (.inl none) M
  | .invokevirtual ix => len = 3 ∧ ∃ (kc p c : Nat) (As r : List Value) (fs : List (Option Nat)), am_mth k ix = some kc ∧ st = As.reverse ++ .ref p :: r ∧ am_na kc = As.length + 1 ∧ am_rk kc < am_rk k ∧ am_sh p = some (.inr (c, fs)) ∧ am_rc kc = some c ∧ (As.all am_ok) = true ∧ (r.map fun v => v.category).sum ≤ 8 ∧
      w kc 0 (am_in kc (.ref p :: As)) [] M (am_af w k pc L r Q)
  | .invokestatic ix => len = 3 ∧
      ((∃ (y x : Int32) (r : List Value), am_mx k ix = some true ∧ 0 < am_rk k ∧ st = .int y :: .int x :: r ∧ (r.map fun v => v.category).sum ≤ 8 ∧ w k (pc + 3) L (.int (if x < y then y else x) :: r) M Q) ∨
       (∃ (y x : Int32) (r : List Value), am_mx k ix = some false ∧ 0 < am_rk k ∧ st = .int y :: .int x :: r ∧ (r.map fun v => v.category).sum ≤ 8 ∧ w k (pc + 3) L (.int (if y < x then y else x) :: r) M Q) ∨
       ∃ (kc : Nat) (As r : List Value), am_mth k ix = some kc ∧ st = As.reverse ++ r ∧ am_na kc = As.length ∧ am_rk kc < am_rk k ∧ am_rc kc = none ∧ (As.all am_ok) = true ∧ (r.map fun v => v.category).sum ≤ 8 ∧ w kc 0 (am_in kc As) [] M (am_af w k pc L r Q))
  | .new ix => len = 3 ∧ ∃ (x : Nat), am_exc k pc ix = some x ∧ (st.map fun v => v.category).sum ≤ 8 ∧ Q (.inr x) M
  | _ => False
/-- a predicate that every instruction carries backwards -/
def am_Cl (X : am_K) : Prop := ∀ (k pc : Nat) (L st : List Value) (M : am_M) (Q : am_T) (i : Instr) (len : Nat), decode (am_bytes k) pc = .ok (i, len) → am_do X k pc i len L st M Q → X k pc L st M Q
/-- method k, from pc with locals L, stack st and memory M, comes to an end with Q: the least such predicate -/
def am_W (k pc : Nat) (L st : List Value) (M : am_M) (Q : am_T) : Prop := ∀ X : am_K, am_Cl X → X k pc L st M Q
theorem am_af_mono {w w' : am_K} (hw : ∀ (k pc : Nat) (L st : List Value) (M : am_M) (Q Q' : am_T), w k pc L st M Q → (∀ r m, Q r m → Q' r m) → w' k pc L st M Q') {k pc : Nat} {L r : List Value} {Q Q' : am_T} (hQ : ∀ r m, Q r m → Q' r m) : ∀ (res : am_R) (M : am_M), am_af w k pc L r Q res M → am_af w' k pc L r Q' res M := by
  intro res M h
  cases res with
  | inl v => exact hw _ _ _ _ _ _ _ h hQ
  | inr x =>
    simp only [am_af] at h ⊢
    cases hh : am_hd k pc x with
    | none => rw [hh] at h; exact ⟨h.1, hQ _ _ h.2⟩
    | some v => rw [hh] at h; exact ⟨h.1, hQ _ _ h.2⟩
set_option maxHeartbeats 4000000 in
theorem am_do_mono {w w' : am_K} (hw : ∀ (k pc : Nat) (L st : List Value) (M : am_M) (Q Q' : am_T), w k pc L st M Q → (∀ r m, Q r m → Q' r m) → w' k pc L st M Q') {k pc : Nat} {i : Instr} {len : Nat} {L st : List Value} {M : am_M} {Q Q' : am_T} (hQ : ∀ r m, Q r m → Q' r m) (h : am_do w k pc i len L st M Q) : am_do w' k pc i len L st M Q' := by
  have hg : ∀ (k pc : Nat) (L st : List Value) (M : am_M), w k pc L st M Q → w' k pc L st M Q' := fun k pc L st M h => hw k pc L st M Q Q' h hQ
  have ha : ∀ (kc : Nat) (Lc : List Value) (L r : List Value) (M : am_M), w kc 0 Lc [] M (am_af w k pc L r Q) → w' kc 0 Lc [] M (am_af w' k pc L r Q') := fun kc Lc L r M h => hw _ _ _ _ _ _ _ h (am_af_mono hw hQ)
  cases i
  case iconst n => obtain ⟨h1, v, h2, h⟩ := h; exact ⟨h1, v, h2, hg _ _ _ _ _ h⟩
  case bipush n => obtain ⟨h1, v, h2, h⟩ := h; exact ⟨h1, v, h2, hg _ _ _ _ _ h⟩
  case sipush n => obtain ⟨h1, v, h2, h⟩ := h; exact ⟨h1, v, h2, hg _ _ _ _ _ h⟩
  case iload_n j => obtain ⟨h1, v, h2, h⟩ := h; exact ⟨h1, v, h2, hg _ _ _ _ _ h⟩
  case iload j => obtain ⟨h1, v, h2, h⟩ := h; exact ⟨h1, v, h2, hg _ _ _ _ _ h⟩
  case aload_n j => obtain ⟨h1, v, h2, h⟩ := h; exact ⟨h1, v, h2, hg _ _ _ _ _ h⟩
  case aload j => obtain ⟨h1, v, h2, h⟩ := h; exact ⟨h1, v, h2, hg _ _ _ _ _ h⟩
  case istore_n j => obtain ⟨h1, x, r, h2, h3, h⟩ := h; exact ⟨h1, x, r, h2, h3, hg _ _ _ _ _ h⟩
  case istore j => obtain ⟨h1, x, r, h2, h3, h⟩ := h; exact ⟨h1, x, r, h2, h3, hg _ _ _ _ _ h⟩
  case iinc j n => obtain ⟨h1, x, r, h2, h3, h⟩ := h; exact ⟨h1, x, r, h2, h3, hg _ _ _ _ _ h⟩
  case iadd => obtain ⟨h1, y, x, r, h2, h⟩ := h; exact ⟨h1, y, x, r, h2, hg _ _ _ _ _ h⟩
  case isub => obtain ⟨h1, y, x, r, h2, h⟩ := h; exact ⟨h1, y, x, r, h2, hg _ _ _ _ _ h⟩
  case imul => obtain ⟨h1, y, x, r, h2, h⟩ := h; exact ⟨h1, y, x, r, h2, hg _ _ _ _ _ h⟩
  case iand => obtain ⟨h1, y, x, r, h2, h⟩ := h; exact ⟨h1, y, x, r, h2, hg _ _ _ _ _ h⟩
  case ior => obtain ⟨h1, y, x, r, h2, h⟩ := h; exact ⟨h1, y, x, r, h2, hg _ _ _ _ _ h⟩
  case ishl => obtain ⟨h1, y, x, r, h2, h⟩ := h; exact ⟨h1, y, x, r, h2, hg _ _ _ _ _ h⟩
  case ishr => obtain ⟨h1, y, x, r, h2, h⟩ := h; exact ⟨h1, y, x, r, h2, hg _ _ _ _ _ h⟩
  case iushr => obtain ⟨h1, y, x, r, h2, h⟩ := h; exact ⟨h1, y, x, r, h2, hg _ _ _ _ _ h⟩
  case ineg => obtain ⟨h1, x, r, h2, h⟩ := h; exact ⟨h1, x, r, h2, hg _ _ _ _ _ h⟩
  case i2l => obtain ⟨h1, x, r, h2, h⟩ := h; exact ⟨h1, x, r, h2, hg _ _ _ _ _ h⟩
  case i2c => obtain ⟨h1, x, r, h2, h⟩ := h; exact ⟨h1, x, r, h2, hg _ _ _ _ _ h⟩
  case lcmp => obtain ⟨h1, y, x, r, h2, h⟩ := h; exact ⟨h1, y, x, r, h2, hg _ _ _ _ _ h⟩
  case dup => obtain ⟨h1, x, r, h2, h3, h⟩ := h; exact ⟨h1, x, r, h2, h3, hg _ _ _ _ _ h⟩
  case goto off => obtain ⟨h1, v, h2, h⟩ := h; exact ⟨h1, v, h2, hg _ _ _ _ _ h⟩
  case ifCond c off => obtain ⟨h1, t, x, r, h2, h3, ha', hb⟩ := h; exact ⟨h1, t, x, r, h2, h3, fun q => hg _ _ _ _ _ (ha' q), fun q => hg _ _ _ _ _ (hb q)⟩
  case if_icmp c off => obtain ⟨h1, t, y, x, r, h2, h3, ha', hb⟩ := h; exact ⟨h1, t, y, x, r, h2, h3, fun q => hg _ _ _ _ _ (ha' q), fun q => hg _ _ _ _ _ (hb q)⟩
  case tableswitch d lo hi offs =>
    obtain ⟨x, r, h2, h3, h4⟩ := h
    refine ⟨x, r, h2, fun q => ?_, fun q q' => ?_⟩
    · obtain ⟨t, e1, h5⟩ := h3 q; exact ⟨t, e1, hg _ _ _ _ _ h5⟩
    · obtain ⟨off, t, e1, e2, h5⟩ := h4 q q'; exact ⟨off, t, e1, e2, hg _ _ _ _ _ h5⟩
  case iaload =>
    obtain ⟨h1, x, p, r, h2, h | ⟨n, h3, h4, h⟩⟩ := h
    · exact ⟨h1, x, p, r, h2, Or.inl ⟨h.1, h.2.1, hg _ _ _ _ _ h.2.2⟩⟩
    · exact ⟨h1, x, p, r, h2, Or.inr ⟨n, h3, h4, hg _ _ _ _ _ h⟩⟩
  case baload => obtain ⟨h1, x, p, n, r, h2, h3, h4, h⟩ := h; exact ⟨h1, x, p, n, r, h2, h3, h4, hg _ _ _ _ _ h⟩
  case caload => obtain ⟨h1, x, p, n, r, h2, h3, h4, h⟩ := h; exact ⟨h1, x, p, n, r, h2, h3, h4, hg _ _ _ _ _ h⟩
  case laload => obtain ⟨h1, x, p, n, r, h2, h3, h4, h⟩ := h; exact ⟨h1, x, p, n, r, h2, h3, h4, hg _ _ _ _ _ h⟩
  case iastore => obtain ⟨h1, v, x, p, n, r, h2, h3, h4, h⟩ := h; exact ⟨h1, v, x, p, n, r, h2, h3, h4, hg _ _ _ _ _ h⟩
  case bastore => obtain ⟨h1, v, x, p, n, r, h2, h3, h4, h⟩ := h; exact ⟨h1, v, x, p, n, r, h2, h3, h4, hg _ _ _ _ _ h⟩
  case castore => obtain ⟨h1, v, x, p, n, r, h2, h3, h4, h⟩ := h; exact ⟨h1, v, x, p, n, r, h2, h3, h4, hg _ _ _ _ _ h⟩
  case lastore => obtain ⟨h1, v, x, p, n, r, h2, h3, h4, h⟩ := h; exact ⟨h1, v, x, p, n, r, h2, h3, h4, hg _ _ _ _ _ h⟩
  case arraylength =>
    obtain ⟨h1, p, r, h2, h | ⟨ty, n, h3, h4, h⟩⟩ := h
    · exact ⟨h1, p, r, h2, Or.inl ⟨h.1, hg _ _ _ _ _ h.2⟩⟩
    · exact ⟨h1, p, r, h2, Or.inr ⟨ty, n, h3, h4, hg _ _ _ _ _ h⟩⟩
  case getfield ix => obtain ⟨h1, p, c, f, r, fs, o, h2, h3, h4, h5, h⟩ := h; exact ⟨h1, p, c, f, r, fs, o, h2, h3, h4, h5, hg _ _ _ _ _ h⟩
  case putfield ix => obtain ⟨h1, v, p, c, f, r, fs, ty, h2, h3, h4, h5, h6, h7, h8, h⟩ := h; exact ⟨h1, v, p, c, f, r, fs, ty, h2, h3, h4, h5, h6, h7, h8, hg _ _ _ _ _ h⟩
  case ireturn => obtain ⟨h1, v, ty, h2, h3, h4, h⟩ := h; exact ⟨h1, v, ty, h2, h3, h4, hQ _ _ h⟩
  case return_ => obtain ⟨h1, h2, h3, h⟩ := h; exact ⟨h1, h2, h3, hQ _ _ h⟩
  case invokevirtual ix => obtain ⟨h1, kc, p, c, As, r, fs, h2, h3, h4, h5, h6, h7, h8, h9, h⟩ := h; exact ⟨h1, kc, p, c, As, r, fs, h2, h3, h4, h5, h6, h7, h8, h9, ha _ _ _ _ _ h⟩
  case invokestatic ix =>
    obtain ⟨h1, ⟨y, x, r, h2, h0, h3, h4, h⟩ | ⟨y, x, r, h2, h0, h3, h4, h⟩ | ⟨kc, As, r, h2, h3, h4, h5, h6, h7, h8, h⟩⟩ := h
    · exact ⟨h1, Or.inl ⟨y, x, r, h2, h0, h3, h4, hg _ _ _ _ _ h⟩⟩
    · exact ⟨h1, Or.inr (Or.inl ⟨y, x, r, h2, h0, h3, h4, hg _ _ _ _ _ h⟩)⟩
    · exact ⟨h1, Or.inr (Or.inr ⟨kc, As, r, h2, h3, h4, h5, h6, h7, h8, ha _ _ _ _ _ h⟩)⟩
  case new ix => obtain ⟨h1, x, h2, h3, h⟩ := h; exact ⟨h1, x, h2, h3, hQ _ _ h⟩
  all_goals exact False.elim h
theorem am_W_to {X : am_K} (hX : am_Cl X) {k pc : Nat} {L st : List Value} {M : am_M} {Q Q' : am_T} (h : am_W k pc L st M Q) (hQ : ∀ r m, Q r m → Q' r m) : X k pc L st M Q' := by
  have hc : am_Cl (fun k pc L st M Q => ∀ Q' : am_T, (∀ r m, Q r m → Q' r m) → X k pc L st M Q') := by
    intro k pc L st M Q i len hd h Q' hQ
    exact hX _ _ _ _ _ _ _ _ hd (am_do_mono (fun _ _ _ _ _ _ Q2 h1 h2 => h1 Q2 h2) hQ h)
  exact h _ hc Q' hQ
theorem am_mono {k pc : Nat} {L st : List Value} {M : am_M} {Q Q' : am_T} (h : am_W k pc L st M Q) (hQ : ∀ r m, Q r m → Q' r m) : am_W k pc L st M Q' := fun _ hX => am_W_to hX h hQ
theorem am_s {k pc : Nat} {L st : List Value} {M : am_M} {Q : am_T} {i : Instr} {len : Nat} (hd : decode (am_bytes k) pc = .ok (i, len)) (h : am_do am_W k pc i len L st M Q) : am_W k pc L st M Q :=
  fun X hX => hX _ _ _ _ _ _ _ _ hd (am_do_mono (w := am_W) (w' := X) (fun _ _ _ _ _ _ _ h1 h2 => am_W_to hX h1 h2) (fun _ _ h => h) h)
end
section
/-! a row an instruction, over the abstract machine -/
section AMR
variable {k pc : Nat} {L st r : List Value} {M : am_M} {Q : am_T}
theorem am_iconst {n : Int} (v : Int32) (d : decode (am_bytes k) pc = .ok (.iconst n, 1)) (hv : Int32.ofInt n = v) (h : am_W k (pc + 1) L (.int v :: st) M Q) : am_W k pc L st M Q := am_s d ⟨rfl, v, hv, h⟩
theorem am_bipush {n : Int} (v : Int32) (d : decode (am_bytes k) pc = .ok (.bipush n, 2)) (hv : (Int8.ofInt n).toInt32 = v) (h : am_W k (pc + 2) L (.int v :: st) M Q) : am_W k pc L st M Q := am_s d ⟨rfl, v, hv, h⟩
theorem am_sipush {n : Int} (v : Int32) (d : decode (am_bytes k) pc = .ok (.sipush n, 3)) (hv : (Int16.ofInt n).toInt32 = v) (h : am_W k (pc + 3) L (.int v :: st) M Q) : am_W k pc L st M Q := am_s d ⟨rfl, v, hv, h⟩
theorem am_iload_n {j : Fin 4} {x : Int32} (d : decode (am_bytes k) pc = .ok (.iload_n j, 1)) (hl : L[(j : Nat)]? = some (.int x)) (h : am_W k (pc + 1) L (.int x :: st) M Q) : am_W k pc L st M Q := am_s d ⟨rfl, x, hl, h⟩
theorem am_iload {j : Nat} {x : Int32} (d : decode (am_bytes k) pc = .ok (.iload j, 2)) (hl : L[j]? = some (.int x)) (h : am_W k (pc + 2) L (.int x :: st) M Q) : am_W k pc L st M Q := am_s d ⟨rfl, x, hl, h⟩
theorem am_aload_n {j : Fin 4} {x : Nat} (d : decode (am_bytes k) pc = .ok (.aload_n j, 1)) (hl : L[(j : Nat)]? = some (.ref x)) (h : am_W k (pc + 1) L (.ref x :: st) M Q) : am_W k pc L st M Q := am_s d ⟨rfl, x, hl, h⟩
theorem am_aload {j : Nat} {x : Nat} (d : decode (am_bytes k) pc = .ok (.aload j, 2)) (hl : L[j]? = some (.ref x)) (h : am_W k (pc + 2) L (.ref x :: st) M Q) : am_W k pc L st M Q := am_s d ⟨rfl, x, hl, h⟩
theorem am_istore_n {j : Fin 4} {x : Int32} {L' : List Value} (d : decode (am_bytes k) pc = .ok (.istore_n j, 1)) (hj : (j : Nat) < L.length) (hL : L.set j (.int x) = L') (h : am_W k (pc + 1) L' r M Q) : am_W k pc L (.int x :: r) M Q := am_s d ⟨rfl, x, r, rfl, hj, hL ▸ h⟩
theorem am_istore {j : Nat} {x : Int32} {L' : List Value} (d : decode (am_bytes k) pc = .ok (.istore j, 2)) (hj : j < L.length) (hL : L.set j (.int x) = L') (h : am_W k (pc + 2) L' r M Q) : am_W k pc L (.int x :: r) M Q := am_s d ⟨rfl, x, r, rfl, hj, hL ▸ h⟩
theorem am_iinc {j : Nat} {n : Int} {x : Int32} {L' : List Value} (v : Int32) (d : decode (am_bytes k) pc = .ok (.iinc j n, 3)) (hl : L[j]? = some (.int x)) (hv : x + Int32.ofInt n = v) (hL : L.set j (.int v) = L') (h : am_W k (pc + 3) L' st M Q) : am_W k pc L st M Q := am_s d ⟨rfl, x, v, hl, hv, hL ▸ h⟩
theorem am_iadd {x y : Int32} (d : decode (am_bytes k) pc = .ok (.iadd, 1))  (h : am_W k (pc + 1) L (.int (x + y) :: r) M Q) : am_W k pc L (.int y :: .int x :: r) M Q := am_s d ⟨rfl, y, x, r, rfl, h⟩
theorem am_isub {x y : Int32} (d : decode (am_bytes k) pc = .ok (.isub, 1))  (h : am_W k (pc + 1) L (.int (x - y) :: r) M Q) : am_W k pc L (.int y :: .int x :: r) M Q := am_s d ⟨rfl, y, x, r, rfl, h⟩
theorem am_imul {x y : Int32} (d : decode (am_bytes k) pc = .ok (.imul, 1))  (h : am_W k (pc + 1) L (.int (x * y) :: r) M Q) : am_W k pc L (.int y :: .int x :: r) M Q := am_s d ⟨rfl, y, x, r, rfl, h⟩
theorem am_iand {x y : Int32} (d : decode (am_bytes k) pc = .ok (.iand, 1))  (h : am_W k (pc + 1) L (.int (x &&& y) :: r) M Q) : am_W k pc L (.int y :: .int x :: r) M Q := am_s d ⟨rfl, y, x, r, rfl, h⟩
theorem am_ior {x y : Int32} (d : decode (am_bytes k) pc = .ok (.ior, 1))  (h : am_W k (pc + 1) L (.int (x ||| y) :: r) M Q) : am_W k pc L (.int y :: .int x :: r) M Q := am_s d ⟨rfl, y, x, r, rfl, h⟩
theorem am_ishl {x y : Int32} (d : decode (am_bytes k) pc = .ok (.ishl, 1))  (h : am_W k (pc + 1) L (.int (x <<< (y &&& 31)) :: r) M Q) : am_W k pc L (.int y :: .int x :: r) M Q := am_s d ⟨rfl, y, x, r, rfl, h⟩
theorem am_ishr {x y : Int32} (d : decode (am_bytes k) pc = .ok (.ishr, 1))  (h : am_W k (pc + 1) L (.int (x >>> (y &&& 31)) :: r) M Q) : am_W k pc L (.int y :: .int x :: r) M Q := am_s d ⟨rfl, y, x, r, rfl, h⟩
theorem am_iushr {x y : Int32} (d : decode (am_bytes k) pc = .ok (.iushr, 1))  (h : am_W k (pc + 1) L (.int ((x.toUInt32 >>> (y.toUInt32 &&& Int32.toUInt32 31)).toInt32) :: r) M Q) : am_W k pc L (.int y :: .int x :: r) M Q := am_s d ⟨rfl, y, x, r, rfl, h⟩
theorem am_ineg {x : Int32} (d : decode (am_bytes k) pc = .ok (.ineg, 1))  (h : am_W k (pc + 1) L (.int (-x) :: r) M Q) : am_W k pc L (.int x :: r) M Q := am_s d ⟨rfl, x, r, rfl, h⟩
theorem am_i2l {x : Int32} (d : decode (am_bytes k) pc = .ok (.i2l, 1))  (h : am_W k (pc + 1) L (.long x.toInt64 :: r) M Q) : am_W k pc L (.int x :: r) M Q := am_s d ⟨rfl, x, r, rfl, h⟩
theorem am_i2c {x : Int32} (d : decode (am_bytes k) pc = .ok (.i2c, 1))  (h : am_W k (pc + 1) L (.int (x.toUInt32 % 65536).toInt32 :: r) M Q) : am_W k pc L (.int x :: r) M Q := am_s d ⟨rfl, x, r, rfl, h⟩
theorem am_lcmp {x y : Int64} (d : decode (am_bytes k) pc = .ok (.lcmp, 1))  (h : am_W k (pc + 1) L (.int (lg_cmp x y) :: r) M Q) : am_W k pc L (.long y :: .long x :: r) M Q := am_s d ⟨rfl, y, x, r, rfl, h⟩
theorem am_dup {v : Value} (d : decode (am_bytes k) pc = .ok (.dup, 1)) (hv : am_ok v = true) (h : am_W k (pc + 1) L (v :: v :: r) M Q) : am_W k pc L (v :: r) M Q := am_s d ⟨rfl, v, r, rfl, hv, h⟩
theorem am_goto {off : Int} (t : Nat) (d : decode (am_bytes k) pc = .ok (.goto off, 3)) (ht : (pc : Int) + off = t) (h : am_W k t L st M Q) : am_W k pc L st M Q := am_s d ⟨rfl, t, ht, h⟩
theorem am_iald {x : Int32} {p n : Nat} (d : decode (am_bytes k) pc = .ok (.iaload, 1)) (hs : am_sh p = some (.inl (.int, n))) (hi : vp_in x n) (h : am_W k (pc + 1) L (.int (M.1 p x.toNatClampNeg) :: r) M Q) : am_W k pc L (.int x :: .ref p :: r) M Q := am_s d ⟨rfl, x, p, r, rfl, Or.inr ⟨n, hs, hi, h⟩⟩
theorem am_sald {x : Int32} (d : decode (am_bytes k) pc = .ok (.iaload, 1)) (hi : vp_in x M.2.2.2.1) (h : am_W k (pc + 1) L (.int (M.2.2.2.2 x.toNatClampNeg) :: r) M Q) : am_W k pc L (.int x :: .ref am_SC :: r) M Q := am_s d ⟨rfl, x, am_SC, r, rfl, Or.inl ⟨rfl, hi, h⟩⟩
theorem am_zald {x : Int32} {p n : Nat} (d : decode (am_bytes k) pc = .ok (.baload, 1)) (hs : am_sh p = some (.inl (.boolean, n))) (hi : vp_in x n) (h : am_W k (pc + 1) L (.int (M.1 p x.toNatClampNeg) :: r) M Q) : am_W k pc L (.int x :: .ref p :: r) M Q := am_s d ⟨rfl, x, p, n, r, rfl, hs, hi, h⟩
theorem am_cald {x : Int32} {p n : Nat} (d : decode (am_bytes k) pc = .ok (.caload, 1)) (hs : am_sh p = some (.inl (.char, n))) (hi : vp_in x n) (h : am_W k (pc + 1) L (.int (M.1 p x.toNatClampNeg) :: r) M Q) : am_W k pc L (.int x :: .ref p :: r) M Q := am_s d ⟨rfl, x, p, n, r, rfl, hs, hi, h⟩
theorem am_lald {x : Int32} {p n : Nat} (d : decode (am_bytes k) pc = .ok (.laload, 1)) (hs : am_sh p = some (.inl (.long, n))) (hi : vp_in x n) (h : am_W k (pc + 1) L (.long (M.2.1 p x.toNatClampNeg) :: r) M Q) : am_W k pc L (.int x :: .ref p :: r) M Q := am_s d ⟨rfl, x, p, n, r, rfl, hs, hi, h⟩
theorem am_iast {v x : Int32} {p n : Nat} (d : decode (am_bytes k) pc = .ok (.iastore, 1)) (hs : am_sh p = some (.inl (.int, n))) (hi : vp_in x n) (h : am_W k (pc + 1) L r (am_set M p x.toNatClampNeg v) Q) : am_W k pc L (.int v :: .int x :: .ref p :: r) M Q := am_s d ⟨rfl, v, x, p, n, r, rfl, hs, hi, h⟩
theorem am_zast {v x : Int32} {p n : Nat} (d : decode (am_bytes k) pc = .ok (.bastore, 1)) (hs : am_sh p = some (.inl (.boolean, n))) (hi : vp_in x n) (h : am_W k (pc + 1) L r (am_set M p x.toNatClampNeg (vp_nar .boolean v)) Q) : am_W k pc L (.int v :: .int x :: .ref p :: r) M Q := am_s d ⟨rfl, v, x, p, n, r, rfl, hs, hi, h⟩
theorem am_cast {v x : Int32} {p n : Nat} (d : decode (am_bytes k) pc = .ok (.castore, 1)) (hs : am_sh p = some (.inl (.char, n))) (hi : vp_in x n) (h : am_W k (pc + 1) L r (am_set M p x.toNatClampNeg (vp_nar .char v)) Q) : am_W k pc L (.int v :: .int x :: .ref p :: r) M Q := am_s d ⟨rfl, v, x, p, n, r, rfl, hs, hi, h⟩
theorem am_last {v : Int64} {x : Int32} {p n : Nat} (d : decode (am_bytes k) pc = .ok (.lastore, 1)) (hs : am_sh p = some (.inl (.long, n))) (hi : vp_in x n) (h : am_W k (pc + 1) L r (am_setL M p x.toNatClampNeg v) Q) : am_W k pc L (.long v :: .int x :: .ref p :: r) M Q := am_s d ⟨rfl, v, x, p, n, r, rfl, hs, hi, h⟩
theorem am_slen  (d : decode (am_bytes k) pc = .ok (.arraylength, 1))  (h : am_W k (pc + 1) L (.int (Int32.ofNat M.2.2.2.1) :: r) M Q) : am_W k pc L (.ref am_SC :: r) M Q := am_s d ⟨rfl, am_SC, r, rfl, Or.inl ⟨rfl, h⟩⟩
theorem am_alen {p n : Nat} {ty : FieldType} (d : decode (am_bytes k) pc = .ok (.arraylength, 1)) (hs : am_sh p = some (.inl (ty, n))) (hy : ty ∈ am_tyL) (h : am_W k (pc + 1) L (.int (Int32.ofNat n) :: r) M Q) : am_W k pc L (.ref p :: r) M Q := am_s d ⟨rfl, p, r, rfl, Or.inr ⟨ty, n, hs, hy, h⟩⟩
theorem am_geti {p c f ix : Nat} {fs : List (Option Nat)} (d : decode (am_bytes k) pc = .ok (.getfield ix, 3)) (hf : am_fld k ix = some (c, f)) (hs : am_sh p = some (.inr (c, fs))) (ho : fs[f]? = some none) (h : am_W k (pc + 3) L (.int (M.1 p f) :: r) M Q) : am_W k pc L (.ref p :: r) M Q := am_s d ⟨rfl, p, c, f, r, fs, none, rfl, hf, hs, ho, h⟩
theorem am_getr {p c f ix q : Nat} {fs : List (Option Nat)} (d : decode (am_bytes k) pc = .ok (.getfield ix, 3)) (hf : am_fld k ix = some (c, f)) (hs : am_sh p = some (.inr (c, fs))) (ho : fs[f]? = some (some q)) (h : am_W k (pc + 3) L (.ref q :: r) M Q) : am_W k pc L (.ref p :: r) M Q := am_s d ⟨rfl, p, c, f, r, fs, some q, rfl, hf, hs, ho, h⟩
theorem am_put {v : Int32} {p c f ix : Nat} {fs : List (Option Nat)} {ty : FieldType} (d : decode (am_bytes k) pc = .ok (.putfield ix, 3)) (hf : am_fld k ix = some (c, f)) (hs : am_sh p = some (.inr (c, fs))) (ho : fs[f]? = some none) (ht : am_fty c f = some ty) (hn : narrow ty (.int v) = .int v) (hv : fits ty (.int v) = true) (h : am_W k (pc + 3) L r (am_set M p f v) Q) : am_W k pc L (.int v :: .ref p :: r) M Q := am_s d ⟨rfl, v, p, c, f, r, fs, ty, rfl, hf, hs, ho, ht, hn, hv, h⟩
theorem am_max {x y : Int32} {ix : Nat} (d : decode (am_bytes k) pc = .ok (.invokestatic ix, 3)) (hm : am_mx k ix = some true) (hr : 0 < am_rk k) (hw : (r.map fun v => v.category).sum ≤ 8) (h : am_W k (pc + 3) L (.int (if x < y then y else x) :: r) M Q) : am_W k pc L (.int y :: .int x :: r) M Q := am_s d ⟨rfl, Or.inl ⟨y, x, r, hm, hr, rfl, hw, h⟩⟩
theorem am_min {x y : Int32} {ix : Nat} (d : decode (am_bytes k) pc = .ok (.invokestatic ix, 3)) (hm : am_mx k ix = some false) (hr : 0 < am_rk k) (hw : (r.map fun v => v.category).sum ≤ 8) (h : am_W k (pc + 3) L (.int (if y < x then y else x) :: r) M Q) : am_W k pc L (.int y :: .int x :: r) M Q := am_s d ⟨rfl, Or.inr (Or.inl ⟨y, x, r, hm, hr, rfl, hw, h⟩)⟩
theorem am_ifeq {x : Int32} {off : Int} (t : Nat) (d : decode (am_bytes k) pc = .ok (.ifCond .eq off, 3)) (ht : (pc : Int) + off = t) (kt : x = 0 → am_W k t L r M Q) (kf : ¬ x = 0 → am_W k (pc + 3) L r M Q) : am_W k pc L (.int x :: r) M Q := am_s d ⟨rfl, t, x, r, rfl, ht, kt, kf⟩
theorem am_iceq {x y : Int32} {off : Int} (t : Nat) (d : decode (am_bytes k) pc = .ok (.if_icmp .eq off, 3)) (ht : (pc : Int) + off = t) (kt : x = y → am_W k t L r M Q) (kf : ¬ x = y → am_W k (pc + 3) L r M Q) : am_W k pc L (.int y :: .int x :: r) M Q := am_s d ⟨rfl, t, y, x, r, rfl, ht, kt, kf⟩
theorem am_ifne {x : Int32} {off : Int} (t : Nat) (d : decode (am_bytes k) pc = .ok (.ifCond .ne off, 3)) (ht : (pc : Int) + off = t) (kt : ¬ x = 0 → am_W k t L r M Q) (kf : x = 0 → am_W k (pc + 3) L r M Q) : am_W k pc L (.int x :: r) M Q := am_s d ⟨rfl, t, x, r, rfl, ht, kt, fun q => kf (Decidable.not_not.mp q)⟩
theorem am_icne {x y : Int32} {off : Int} (t : Nat) (d : decode (am_bytes k) pc = .ok (.if_icmp .ne off, 3)) (ht : (pc : Int) + off = t) (kt : ¬ x = y → am_W k t L r M Q) (kf : x = y → am_W k (pc + 3) L r M Q) : am_W k pc L (.int y :: .int x :: r) M Q := am_s d ⟨rfl, t, y, x, r, rfl, ht, kt, fun q => kf (Decidable.not_not.mp q)⟩
theorem am_iflt {x : Int32} {off : Int} (t : Nat) (d : decode (am_bytes k) pc = .ok (.ifCond .lt off, 3)) (ht : (pc : Int) + off = t) (kt : x < 0 → am_W k t L r M Q) (kf : ¬ x < 0 → am_W k (pc + 3) L r M Q) : am_W k pc L (.int x :: r) M Q := am_s d ⟨rfl, t, x, r, rfl, ht, kt, kf⟩
theorem am_iclt {x y : Int32} {off : Int} (t : Nat) (d : decode (am_bytes k) pc = .ok (.if_icmp .lt off, 3)) (ht : (pc : Int) + off = t) (kt : x < y → am_W k t L r M Q) (kf : ¬ x < y → am_W k (pc + 3) L r M Q) : am_W k pc L (.int y :: .int x :: r) M Q := am_s d ⟨rfl, t, y, x, r, rfl, ht, kt, kf⟩
theorem am_ifge {x : Int32} {off : Int} (t : Nat) (d : decode (am_bytes k) pc = .ok (.ifCond .ge off, 3)) (ht : (pc : Int) + off = t) (kt : 0 ≤ x → am_W k t L r M Q) (kf : ¬ 0 ≤ x → am_W k (pc + 3) L r M Q) : am_W k pc L (.int x :: r) M Q := am_s d ⟨rfl, t, x, r, rfl, ht, kt, kf⟩
theorem am_icge {x y : Int32} {off : Int} (t : Nat) (d : decode (am_bytes k) pc = .ok (.if_icmp .ge off, 3)) (ht : (pc : Int) + off = t) (kt : y ≤ x → am_W k t L r M Q) (kf : ¬ y ≤ x → am_W k (pc + 3) L r M Q) : am_W k pc L (.int y :: .int x :: r) M Q := am_s d ⟨rfl, t, y, x, r, rfl, ht, kt, kf⟩
theorem am_ifgt {x : Int32} {off : Int} (t : Nat) (d : decode (am_bytes k) pc = .ok (.ifCond .gt off, 3)) (ht : (pc : Int) + off = t) (kt : 0 < x → am_W k t L r M Q) (kf : ¬ 0 < x → am_W k (pc + 3) L r M Q) : am_W k pc L (.int x :: r) M Q := am_s d ⟨rfl, t, x, r, rfl, ht, kt, kf⟩
theorem am_icgt {x y : Int32} {off : Int} (t : Nat) (d : decode (am_bytes k) pc = .ok (.if_icmp .gt off, 3)) (ht : (pc : Int) + off = t) (kt : y < x → am_W k t L r M Q) (kf : ¬ y < x → am_W k (pc + 3) L r M Q) : am_W k pc L (.int y :: .int x :: r) M Q := am_s d ⟨rfl, t, y, x, r, rfl, ht, kt, kf⟩
theorem am_ifle {x : Int32} {off : Int} (t : Nat) (d : decode (am_bytes k) pc = .ok (.ifCond .le off, 3)) (ht : (pc : Int) + off = t) (kt : x ≤ 0 → am_W k t L r M Q) (kf : ¬ x ≤ 0 → am_W k (pc + 3) L r M Q) : am_W k pc L (.int x :: r) M Q := am_s d ⟨rfl, t, x, r, rfl, ht, kt, kf⟩
theorem am_icle {x y : Int32} {off : Int} (t : Nat) (d : decode (am_bytes k) pc = .ok (.if_icmp .le off, 3)) (ht : (pc : Int) + off = t) (kt : x ≤ y → am_W k t L r M Q) (kf : ¬ x ≤ y → am_W k (pc + 3) L r M Q) : am_W k pc L (.int y :: .int x :: r) M Q := am_s d ⟨rfl, t, y, x, r, rfl, ht, kt, kf⟩
theorem am_iret {v : Int32} {ty : FieldType} (d : decode (am_bytes k) pc = .ok (.ireturn, 1)) (ht : am_rt k = some ty) (hn : narrow ty (.int v) = .int v) (h : Q (.inl (some (.int v))) M) : am_W k pc L [.int v] M Q := am_s d ⟨rfl, v, ty, rfl, ht, hn, h⟩
theorem am_vret (d : decode (am_bytes k) pc = .ok (.return_, 1)) (ht : am_rt k = none) (h : Q (.inl none) M) : am_W k pc L [] M Q := am_s d ⟨rfl, rfl, ht, h⟩
theorem am_thr {ix x : Nat} (d : decode (am_bytes k) pc = .ok (.new ix, 3)) (hx : am_exc k pc ix = some x) (hw : (st.map fun v => v.category).sum ≤ 8) (h : Q (.inr x) M) : am_W k pc L st M Q := am_s d ⟨rfl, x, hx, hw, h⟩
theorem am_cv0 (kc : Nat) {ix p c : Nat} {fs : List (Option Nat)} (d : decode (am_bytes k) pc = .ok (.invokevirtual ix, 3)) (hm : am_mth k ix = some kc) (ha : am_na kc = 1) (hr : am_rk kc < am_rk k) (hs : am_sh p = some (.inr (c, fs))) (hc : am_rc kc = some c)  (hw : (r.map fun v => v.category).sum ≤ 8) (h : am_W kc 0 (am_in kc (.ref p :: [])) [] M (am_af am_W k pc L r Q)) : am_W k pc L (.ref p :: r) M Q := am_s d ⟨rfl, kc, p, c, [], r, fs, hm, rfl, ha, hr, hs, hc, rfl, hw, h⟩
theorem am_cv1 (kc : Nat) {ix p c : Nat} {v1 : Value} {fs : List (Option Nat)} (d : decode (am_bytes k) pc = .ok (.invokevirtual ix, 3)) (hm : am_mth k ix = some kc) (ha : am_na kc = 2) (hr : am_rk kc < am_rk k) (hs : am_sh p = some (.inr (c, fs))) (hc : am_rc kc = some c) (hv1 : am_ok v1 = true) (hw : (r.map fun v => v.category).sum ≤ 8) (h : am_W kc 0 (am_in kc (.ref p :: [v1])) [] M (am_af am_W k pc L r Q)) : am_W k pc L (v1 :: .ref p :: r) M Q := am_s d ⟨rfl, kc, p, c, [v1], r, fs, hm, rfl, ha, hr, hs, hc, by simp [hv1], hw, h⟩
theorem am_cv2 (kc : Nat) {ix p c : Nat} {v1 : Value} {v2 : Value} {fs : List (Option Nat)} (d : decode (am_bytes k) pc = .ok (.invokevirtual ix, 3)) (hm : am_mth k ix = some kc) (ha : am_na kc = 3) (hr : am_rk kc < am_rk k) (hs : am_sh p = some (.inr (c, fs))) (hc : am_rc kc = some c) (hv1 : am_ok v1 = true) (hv2 : am_ok v2 = true) (hw : (r.map fun v => v.category).sum ≤ 8) (h : am_W kc 0 (am_in kc (.ref p :: [v1, v2])) [] M (am_af am_W k pc L r Q)) : am_W k pc L (v2 :: v1 :: .ref p :: r) M Q := am_s d ⟨rfl, kc, p, c, [v1, v2], r, fs, hm, rfl, ha, hr, hs, hc, by simp [hv1, hv2], hw, h⟩
theorem am_cv3 (kc : Nat) {ix p c : Nat} {v1 : Value} {v2 : Value} {v3 : Value} {fs : List (Option Nat)} (d : decode (am_bytes k) pc = .ok (.invokevirtual ix, 3)) (hm : am_mth k ix = some kc) (ha : am_na kc = 4) (hr : am_rk kc < am_rk k) (hs : am_sh p = some (.inr (c, fs))) (hc : am_rc kc = some c) (hv1 : am_ok v1 = true) (hv2 : am_ok v2 = true) (hv3 : am_ok v3 = true) (hw : (r.map fun v => v.category).sum ≤ 8) (h : am_W kc 0 (am_in kc (.ref p :: [v1, v2, v3])) [] M (am_af am_W k pc L r Q)) : am_W k pc L (v3 :: v2 :: v1 :: .ref p :: r) M Q := am_s d ⟨rfl, kc, p, c, [v1, v2, v3], r, fs, hm, rfl, ha, hr, hs, hc, by simp [hv1, hv2, hv3], hw, h⟩
theorem am_cv4 (kc : Nat) {ix p c : Nat} {v1 : Value} {v2 : Value} {v3 : Value} {v4 : Value} {fs : List (Option Nat)} (d : decode (am_bytes k) pc = .ok (.invokevirtual ix, 3)) (hm : am_mth k ix = some kc) (ha : am_na kc = 5) (hr : am_rk kc < am_rk k) (hs : am_sh p = some (.inr (c, fs))) (hc : am_rc kc = some c) (hv1 : am_ok v1 = true) (hv2 : am_ok v2 = true) (hv3 : am_ok v3 = true) (hv4 : am_ok v4 = true) (hw : (r.map fun v => v.category).sum ≤ 8) (h : am_W kc 0 (am_in kc (.ref p :: [v1, v2, v3, v4])) [] M (am_af am_W k pc L r Q)) : am_W k pc L (v4 :: v3 :: v2 :: v1 :: .ref p :: r) M Q := am_s d ⟨rfl, kc, p, c, [v1, v2, v3, v4], r, fs, hm, rfl, ha, hr, hs, hc, by simp [hv1, hv2, hv3, hv4], hw, h⟩
theorem am_cv5 (kc : Nat) {ix p c : Nat} {v1 : Value} {v2 : Value} {v3 : Value} {v4 : Value} {v5 : Value} {fs : List (Option Nat)} (d : decode (am_bytes k) pc = .ok (.invokevirtual ix, 3)) (hm : am_mth k ix = some kc) (ha : am_na kc = 6) (hr : am_rk kc < am_rk k) (hs : am_sh p = some (.inr (c, fs))) (hc : am_rc kc = some c) (hv1 : am_ok v1 = true) (hv2 : am_ok v2 = true) (hv3 : am_ok v3 = true) (hv4 : am_ok v4 = true) (hv5 : am_ok v5 = true) (hw : (r.map fun v => v.category).sum ≤ 8) (h : am_W kc 0 (am_in kc (.ref p :: [v1, v2, v3, v4, v5])) [] M (am_af am_W k pc L r Q)) : am_W k pc L (v5 :: v4 :: v3 :: v2 :: v1 :: .ref p :: r) M Q := am_s d ⟨rfl, kc, p, c, [v1, v2, v3, v4, v5], r, fs, hm, rfl, ha, hr, hs, hc, by simp [hv1, hv2, hv3, hv4, hv5], hw, h⟩
theorem am_cs0 (kc : Nat) {ix : Nat} (d : decode (am_bytes k) pc = .ok (.invokestatic ix, 3)) (hm : am_mth k ix = some kc) (ha : am_na kc = 0) (hr : am_rk kc < am_rk k) (hc : am_rc kc = none)  (hw : (r.map fun v => v.category).sum ≤ 8) (h : am_W kc 0 (am_in kc []) [] M (am_af am_W k pc L r Q)) : am_W k pc L (r) M Q := am_s d ⟨rfl, Or.inr (Or.inr ⟨kc, [], r, hm, rfl, ha, hr, hc, rfl, hw, h⟩)⟩
theorem am_cs1 (kc : Nat) {ix : Nat} {v1 : Value} (d : decode (am_bytes k) pc = .ok (.invokestatic ix, 3)) (hm : am_mth k ix = some kc) (ha : am_na kc = 1) (hr : am_rk kc < am_rk k) (hc : am_rc kc = none) (hv1 : am_ok v1 = true) (hw : (r.map fun v => v.category).sum ≤ 8) (h : am_W kc 0 (am_in kc [v1]) [] M (am_af am_W k pc L r Q)) : am_W k pc L (v1 :: r) M Q := am_s d ⟨rfl, Or.inr (Or.inr ⟨kc, [v1], r, hm, rfl, ha, hr, hc, by simp [hv1], hw, h⟩)⟩
theorem am_cs2 (kc : Nat) {ix : Nat} {v1 : Value} {v2 : Value} (d : decode (am_bytes k) pc = .ok (.invokestatic ix, 3)) (hm : am_mth k ix = some kc) (ha : am_na kc = 2) (hr : am_rk kc < am_rk k) (hc : am_rc kc = none) (hv1 : am_ok v1 = true) (hv2 : am_ok v2 = true) (hw : (r.map fun v => v.category).sum ≤ 8) (h : am_W kc 0 (am_in kc [v1, v2]) [] M (am_af am_W k pc L r Q)) : am_W k pc L (v2 :: v1 :: r) M Q := am_s d ⟨rfl, Or.inr (Or.inr ⟨kc, [v1, v2], r, hm, rfl, ha, hr, hc, by simp [hv1, hv2], hw, h⟩)⟩
theorem am_cs3 (kc : Nat) {ix : Nat} {v1 : Value} {v2 : Value} {v3 : Value} (d : decode (am_bytes k) pc = .ok (.invokestatic ix, 3)) (hm : am_mth k ix = some kc) (ha : am_na kc = 3) (hr : am_rk kc < am_rk k) (hc : am_rc kc = none) (hv1 : am_ok v1 = true) (hv2 : am_ok v2 = true) (hv3 : am_ok v3 = true) (hw : (r.map fun v => v.category).sum ≤ 8) (h : am_W kc 0 (am_in kc [v1, v2, v3]) [] M (am_af am_W k pc L r Q)) : am_W k pc L (v3 :: v2 :: v1 :: r) M Q := am_s d ⟨rfl, Or.inr (Or.inr ⟨kc, [v1, v2, v3], r, hm, rfl, ha, hr, hc, by simp [hv1, hv2, hv3], hw, h⟩)⟩
theorem am_cs4 (kc : Nat) {ix : Nat} {v1 : Value} {v2 : Value} {v3 : Value} {v4 : Value} (d : decode (am_bytes k) pc = .ok (.invokestatic ix, 3)) (hm : am_mth k ix = some kc) (ha : am_na kc = 4) (hr : am_rk kc < am_rk k) (hc : am_rc kc = none) (hv1 : am_ok v1 = true) (hv2 : am_ok v2 = true) (hv3 : am_ok v3 = true) (hv4 : am_ok v4 = true) (hw : (r.map fun v => v.category).sum ≤ 8) (h : am_W kc 0 (am_in kc [v1, v2, v3, v4]) [] M (am_af am_W k pc L r Q)) : am_W k pc L (v4 :: v3 :: v2 :: v1 :: r) M Q := am_s d ⟨rfl, Or.inr (Or.inr ⟨kc, [v1, v2, v3, v4], r, hm, rfl, ha, hr, hc, by simp [hv1, hv2, hv3, hv4], hw, h⟩)⟩
theorem am_cs5 (kc : Nat) {ix : Nat} {v1 : Value} {v2 : Value} {v3 : Value} {v4 : Value} {v5 : Value} (d : decode (am_bytes k) pc = .ok (.invokestatic ix, 3)) (hm : am_mth k ix = some kc) (ha : am_na kc = 5) (hr : am_rk kc < am_rk k) (hc : am_rc kc = none) (hv1 : am_ok v1 = true) (hv2 : am_ok v2 = true) (hv3 : am_ok v3 = true) (hv4 : am_ok v4 = true) (hv5 : am_ok v5 = true) (hw : (r.map fun v => v.category).sum ≤ 8) (h : am_W kc 0 (am_in kc [v1, v2, v3, v4, v5]) [] M (am_af am_W k pc L r Q)) : am_W k pc L (v5 :: v4 :: v3 :: v2 :: v1 :: r) M Q := am_s d ⟨rfl, Or.inr (Or.inr ⟨kc, [v1, v2, v3, v4, v5], r, hm, rfl, ha, hr, hc, by simp [hv1, hv2, hv3, hv4, hv5], hw, h⟩)⟩
theorem am_cs6 (kc : Nat) {ix : Nat} {v1 : Value} {v2 : Value} {v3 : Value} {v4 : Value} {v5 : Value} {v6 : Value} (d : decode (am_bytes k) pc = .ok (.invokestatic ix, 3)) (hm : am_mth k ix = some kc) (ha : am_na kc = 6) (hr : am_rk kc < am_rk k) (hc : am_rc kc = none) (hv1 : am_ok v1 = true) (hv2 : am_ok v2 = true) (hv3 : am_ok v3 = true) (hv4 : am_ok v4 = true) (hv5 : am_ok v5 = true) (hv6 : am_ok v6 = true) (hw : (r.map fun v => v.category).sum ≤ 8) (h : am_W kc 0 (am_in kc [v1, v2, v3, v4, v5, v6]) [] M (am_af am_W k pc L r Q)) : am_W k pc L (v6 :: v5 :: v4 :: v3 :: v2 :: v1 :: r) M Q := am_s d ⟨rfl, Or.inr (Or.inr ⟨kc, [v1, v2, v3, v4, v5, v6], r, hm, rfl, ha, hr, hc, by simp [hv1, hv2, hv3, hv4, hv5, hv6], hw, h⟩)⟩
theorem am_cs7 (kc : Nat) {ix : Nat} {v1 : Value} {v2 : Value} {v3 : Value} {v4 : Value} {v5 : Value} {v6 : Value} {v7 : Value} (d : decode (am_bytes k) pc = .ok (.invokestatic ix, 3)) (hm : am_mth k ix = some kc) (ha : am_na kc = 7) (hr : am_rk kc < am_rk k) (hc : am_rc kc = none) (hv1 : am_ok v1 = true) (hv2 : am_ok v2 = true) (hv3 : am_ok v3 = true) (hv4 : am_ok v4 = true) (hv5 : am_ok v5 = true) (hv6 : am_ok v6 = true) (hv7 : am_ok v7 = true) (hw : (r.map fun v => v.category).sum ≤ 8) (h : am_W kc 0 (am_in kc [v1, v2, v3, v4, v5, v6, v7]) [] M (am_af am_W k pc L r Q)) : am_W k pc L (v7 :: v6 :: v5 :: v4 :: v3 :: v2 :: v1 :: r) M Q := am_s d ⟨rfl, Or.inr (Or.inr ⟨kc, [v1, v2, v3, v4, v5, v6, v7], r, hm, rfl, ha, hr, hc, by simp [hv1, hv2, hv3, hv4, hv5, hv6, hv7], hw, h⟩)⟩
end AMR
end
section
/-! the abstract machine's values, locals and memory on the real one -/
def am_v (ad : Nat → Nat) : Value → Value
  | .ref p => .ref (ad p)
  | v => v
def am_al (ad : Nat → Nat) (L : List Value) : List (Nat × Value) := (List.range L.length).filterMap fun i => (L[i]?).bind fun v => if am_ok v = true then some (i, am_v ad v) else none
def am_L (ad : Nat → Nat) (ls : Array Slot) (nL : Nat) (L : List Value) : Prop := L.length = nL ∧ lv_has ls nL (am_al ad L)
theorem am_al_in {ad : Nat → Nat} {L : List Value} {i : Nat} {v : Value} (h : L[i]? = some v) (hv : am_ok v = true) : (i, am_v ad v) ∈ am_al ad L := by
  refine List.mem_filterMap.mpr ⟨i, List.mem_range.mpr (List.getElem?_eq_some_iff.mp h).1, ?_⟩
  rw [h]
  show (if am_ok v = true then some (i, am_v ad v) else none) = _
  rw [if_pos hv]
theorem am_al_of {ad : Nat → Nat} {L : List Value} {q : Nat × Value} (h : q ∈ am_al ad L) : ∃ v, L[q.1]? = some v ∧ am_ok v = true ∧ q.2 = am_v ad v := by
  obtain ⟨i, -, h⟩ := List.mem_filterMap.mp h
  cases hv : L[i]? with
  | none => rw [hv] at h; cases h
  | some v =>
    rw [hv] at h
    have h : (if am_ok v = true then some (i, am_v ad v) else none) = some q := h
    split at h
    next hok => cases h; exact ⟨v, hv, hok, rfl⟩
    next => cases h
theorem am_ok_cat {ad : Nat → Nat} {v : Value} (h : am_ok v = true) : (am_v ad v).category = 1 := by
  cases v <;> first | rfl | cases h
theorem am_L.at {ad : Nat → Nat} {ls : Array Slot} {nL : Nat} {L : List Value} (h : am_L ad ls nL L) {i : Nat} {v : Value} (hi : L[i]? = some v) (hv : am_ok v = true) : ls[i]? = some (.val (am_v ad v)) := h.2.2.2 _ (am_al_in hi hv)
theorem am_L.put {ad : Nat → Nat} {ls ls' : Array Slot} {nL : Nat} {L : List Value} (h : am_L ad ls nL L) {i : Nat} {v : Value} (hv : am_ok v = true)
    (h' : lv_has ls' nL ((i, am_v ad v) :: (am_al ad L).filter (fun q => !(q.1 == i) && !(q.1 + 1 == i && q.2.category == 2)))) : am_L ad ls' nL (L.set i v) := by
  refine ⟨by rw [List.length_set]; exact h.1, h'.1, h'.2.1, fun q hq => ?_⟩
  obtain ⟨w, h1, h2, h3⟩ := am_al_of hq
  by_cases hi : q.1 = i
  · have h4 : w = v := by
      rw [hi] at h1
      by_cases hl : i < L.length
      · rw [List.getElem?_set_self hl] at h1; exact (Option.some.inj h1).symm
      · rw [List.getElem?_eq_none (by rw [List.length_set]; omega)] at h1; cases h1
    have h5 : q = (i, am_v ad v) := by rw [← hi, ← h4, ← h3]
    rw [h5]
    exact h'.2.2 _ List.mem_cons_self
  · rw [List.getElem?_set_ne (fun z => hi z.symm)] at h1
    refine h'.2.2 q (List.mem_cons_of_mem _ (List.mem_filter.mpr ⟨?_, ?_⟩))
    · have := am_al_in (ad := ad) h1 h2
      rw [← h3] at this
      exact this
    · have hc : q.2.category = 1 := by rw [h3]; exact am_ok_cat h2
      simp [hi, hc]
theorem am_lvargs {ad : Nat → Nat} (as : List Value) (n : Nat) : (∀ v ∈ as, am_ok v = true) → ∀ (j : Nat) (q : Nat × Value), q ∈ (List.range n).filterMap (fun i => ((as ++ List.replicate (n - as.length) Value.null)[i]?).bind fun v => if am_ok v = true then some (i + j, am_v ad v) else none) → q ∈ lv_args j (as.map (am_v ad)) := by
  induction as generalizing n with
  | nil =>
    intro _ j q hq
    obtain ⟨i, -, h⟩ := List.mem_filterMap.mp hq
    cases hv : ([] ++ List.replicate (n - ([] : List Value).length) Value.null)[i]? with
    | none => rw [hv] at h; cases h
    | some v =>
      rw [hv] at h
      have : v = .null := List.eq_of_mem_replicate (by simpa using List.mem_of_getElem? hv)
      subst this
      cases h
  | cons a as ih =>
    intro hok j q hq
    obtain ⟨i, hi, h⟩ := List.mem_filterMap.mp hq
    have hi := List.mem_range.mp hi
    have ha := hok a List.mem_cons_self
    show q ∈ (j, am_v ad a) :: lv_args (if (am_v ad a).category = 2 then j + 2 else j + 1) (as.map (am_v ad))
    rw [if_neg (by rw [am_ok_cat ha]; decide)]
    cases i with
    | zero =>
      have h : (if am_ok a = true then some (0 + j, am_v ad a) else none) = some q := h
      rw [if_pos ha] at h
      cases h
      rw [Nat.zero_add]
      exact List.mem_cons_self
    | succ i =>
      refine List.mem_cons_of_mem _ (ih (n - 1) (fun v hv => hok v (List.mem_cons_of_mem _ hv)) (j + 1) q (List.mem_filterMap.mpr ⟨i, List.mem_range.mpr (by omega), ?_⟩))
      rw [← h]
      have e1 : (a :: as ++ List.replicate (n - (a :: as).length) Value.null)[i + 1]? = (as ++ List.replicate (n - 1 - as.length) Value.null)[i]? := by
        rw [List.cons_append, List.getElem?_cons_succ, List.length_cons, show n - (as.length + 1) = n - 1 - as.length by omega]
      rw [e1]
      congr 1
      funext v
      rw [show i + 1 + j = i + (j + 1) by omega]
theorem am_entry {ad : Nat → Nat} {k : Nat} {as : List Value} (hok : ∀ v ∈ as, am_ok v = true) (hn : as.length ≤ am_nL k) {ls : Array Slot} (h : lv_has ls (am_nL k) (lv_args 0 (as.map (am_v ad)))) : am_L ad ls (am_nL k) (am_in k as) := by
  have hl : (am_in k as).length = am_nL k := by unfold am_in; rw [List.length_append, List.length_replicate]; omega
  refine ⟨hl, h.1, h.2.1, fun q hq => h.2.2 q ?_⟩
  refine am_lvargs as (am_nL k) hok 0 q ?_
  unfold am_al at hq
  rw [hl] at hq
  exact hq
theorem am_lgsl {ad : Nat → Nat} {as : List Value} (hok : ∀ v ∈ as, am_ok v = true) : (lg_sl (as.map (am_v ad))).length = as.length := by
  induction as with
  | nil => rfl
  | cons a as ih =>
    have h1 := ih (fun v hv => hok v (List.mem_cons_of_mem _ hv))
    have h2 := hok a List.mem_cons_self
    unfold lg_sl at h1 ⊢
    rw [List.map_cons, List.flatMap_cons, List.length_append, h1, List.length_cons]
    have : am_v ad a = am_v ad a := rfl
    cases a <;> first | (cases h2; done) | (simp [am_v, Value.category]; omega) | (simp [am_v]; omega)
def am_cell (ad : Nat → Nat) (cA : FieldType → ClassId) (M : am_M) (p : Nat) : am_Sh → va_E
  | .inl (.long, n) => .inl (cA .long, n, .inr (.inl (M.2.1 p)))
  | .inl (ty, n) => .inl (cA ty, n, .inl (M.1 p))
  | .inr (c, fs) => .inr (c, (List.range fs.length).map fun f => am_v ad (am_fv M p f (fs.getD f none)))
def am_w (ad : Nat → Nat) (cA : FieldType → ClassId) (M : am_M) : va_W := am_shl.zipIdx.map fun q => (ad q.2, am_cell ad cA M q.2 q.1)
theorem am_w_get {ad : Nat → Nat} {cA : FieldType → ClassId} {M : am_M} (p : Nat) : (am_w ad cA M)[p]? = (am_sh p).map fun s => (ad p, am_cell ad cA M p s) := by
  unfold am_w am_sh
  rw [List.getElem?_map, List.getElem?_zipIdx]
  cases am_shl[p]? <;> simp
theorem am_w_at {ad : Nat → Nat} {cA : FieldType → ClassId} {M : am_M} {p : Nat} {s : am_Sh} (h : am_sh p = some s) : (am_w ad cA M)[p]? = some (ad p, am_cell ad cA M p s) := by rw [am_w_get, h]; rfl
theorem am_w_len {ad : Nat → Nat} {cA : FieldType → ClassId} {M : am_M} : (am_w ad cA M).length = am_shl.length := by simp [am_w]
/-- two memories that agree but for a place give worlds that agree but for a place -/
theorem am_w_up {ad : Nat → Nat} {cA : FieldType → ClassId} {M M' : am_M} {p : Nat} {s : am_Sh} (h : am_sh p = some s) (h1 : ∀ q, q ≠ p → M'.1 q = M.1 q) (h2 : ∀ q, q ≠ p → M'.2.1 q = M.2.1 q) : (am_w ad cA M).set p (ad p, am_cell ad cA M' p s) = am_w ad cA M' := by
  apply List.ext_getElem?
  intro q
  by_cases hq : q = p
  · subst hq
    have hl : q < (am_w ad cA M).length := by rw [am_w_len]; exact (List.getElem?_eq_some_iff.mp h).1
    rw [List.getElem?_set_self hl, am_w_at h]
  · rw [List.getElem?_set_ne (fun z => hq z.symm), am_w_get, am_w_get]
    cases am_sh q with
    | none => rfl
    | some t =>
      have : am_cell ad cA M q t = am_cell ad cA M' q t := by
        have e1 := h1 q hq
        have e2 := h2 q hq
        rcases t with ⟨ty, n⟩ | ⟨c, fs⟩
        · cases ty <;> simp [am_cell, e1, e2]
        · simp only [am_cell]
          congr 2
          apply List.map_congr_left
          intro f _
          cases fs.getD f none <;> simp [am_fv, e1]
      simp [this]
theorem am_w_addr {ad : Nat → Nat} {cA : FieldType → ClassId} {M M' : am_M} {p : Nat} {q : Nat × va_E} (h : (am_w ad cA M)[p]? = some q) : ∃ q', (am_w ad cA M')[p]? = some q' ∧ q'.1 = q.1 := by
  rw [am_w_get] at h ⊢
  cases hs : am_sh p with
  | none => rw [hs] at h; cases h
  | some s => rw [hs] at h; cases h; exact ⟨_, rfl, rfl⟩
theorem am_D {ad : Nat → Nat} {cA : FieldType → ClassId} {M M' : am_M} {A : Nat → Prop} (h : va_D A (am_w ad cA M)) : va_D A (am_w ad cA M') := by
  refine ⟨fun i j x y hi hj hxy => ?_, fun p q hp => ?_⟩
  · obtain ⟨x', h1, h2⟩ := am_w_addr (M' := M) hi
    obtain ⟨y', h3, h4⟩ := am_w_addr (M' := M) hj
    exact h.1 i j x' y' h1 h3 (h2.trans (hxy.trans h4.symm))
  · obtain ⟨q', h1, h2⟩ := am_w_addr (M' := M) hp
    rw [← h2]
    exact h.2 p q' h1
theorem am_A {ad : Nat → Nat} {cA : FieldType → ClassId} {M M' : am_M} {n q : Nat} (h : va_A (am_w ad cA M) n q) : va_A (am_w ad cA M') n q := by
  rcases h with ⟨k, e, h⟩ | h
  · obtain ⟨⟨a, e'⟩, h1, h2⟩ := am_w_addr (M' := M') h
    have h2 : a = q := h2
    subst h2
    exact Or.inl ⟨k, e', h1⟩
  · exact Or.inr h
def am_tys (cA : FieldType → ClassId) : List (ClassId × FieldType) := [(cA .int, .int), (cA .boolean, .boolean), (cA .char, .char), (cA .long, .long)]
end
section
/-! calls: into a method, and out of it by its answer or by an exception -/
section AMC
variable {p : Program} {l : Launch} {e : Env} {R : Room} {s : State} {m : MethodId} {args : Array Value} {below : List Frame} {meth : Method} {c : Code} {T : State} {locs : List Loc} {cells slots : Nat}
theorem am_code_of {k : Nat} (h : (am_cd k).before args s = true) : ∃ mk meth c, s.methodNamed? (am_y k) = some mk ∧ s.vm.method? mk = some meth ∧ meth.code = some c ∧ c.code = am_bytes k ∧ c.maxLocals = am_nL k ∧
    c.exceptionTable.toList.map (fun h => (h.startPc, h.endPc, h.handlerPc, h.catchType)) = am_et k ∧ meth.sig.returnType = am_rt k ∧ meth.locks = false ∧ parseMethodDescriptor (am_y k).desc = some meth.sig := by
  unfold am_cd at h
  split at h
  next he =>
    obtain ⟨mk, hn⟩ := Cond.code_named h
    obtain ⟨meth, c, h1, h2, h3, h4, h5, h6, h7, h8⟩ := Cond.code_spec hn h
    refine ⟨mk, meth, c, hn, h1, h2, h3, h4, ?_, h5, h6, h8⟩
    rw [he]
    have : c.exceptionTable.toList = [] := by
      have h7 : c.exceptionTable.isEmpty = true := h7
      simpa using h7
    rw [this]; rfl
  next =>
    obtain ⟨mk, meth, c, h1, h2, h3, h4, h5, h6, h7, h8, h9⟩ := Cond.codeWith_spec h
    exact ⟨mk, meth, c, h1, h2, h3, h4, h5, h6, h7, h8, h9⟩
theorem am_goV (X : Stand p l e R s m args below meth c T locs cells slots) (hexec : p.tables.exec = Jvm.exec) {own C : String} {index : Nat} {y : MethodName}
    (hown : s.vm.findClass own = some m.cls) (hlink : (Cond.methodLink own index y).before args s = true ∨ ∃ host, (Cond.methodLinkNest own index y host).before args s = true) (hinst : (Cond.instanceMethod y).before args s = true) (hsel : (Cond.selects C y y).before args s = true)
    (hy : y.cls ≠ "java/lang/invoke/MethodHandle" ∧ y.cls ≠ "java/lang/invoke/VarHandle") {mk : MethodId} {methM : Method} (hnamed : s.methodNamed? y = some mk) (hmethM : s.vm.method? mk = some methM)
    {b : Addr} {cellB : Cell} (hcell : T.heap[b]? = some cellB) (hobj : cellB.vm.isStatics = false) (hcls : s.vm.findClass C = some cellB.cls)
    {g : JFrame} (hg : g.method = m) {argsL rest : List Value} (hlen : argsL.length = methM.sig.parameters.length)
    (hstack : g.stack = argsL.reverse ++ .ref b :: rest) (hdg : decode c.code g.pc = .ok (.invokevirtual index, 3)) :
    ∃ vm₁ : Vm, Stand p l e R s m args below meth c (T.setVm vm₁) locs cells slots ∧
      ∀ target, Steps p.tables e below (doInvoke e ((T.setVm vm₁).setTop { g with stack := rest }) [] mk (Value.ref b :: argsL).toArray).1 target → Steps p.tables e below (T.setTop g) target := by
  obtain ⟨mk', methM', hnamed', hmethM', hstM, habM⟩ := Cond.instanceMethod_spec hinst
  cases hnamed.symm.trans hnamed'
  cases hmethM.symm.trans hmethM'
  obtain ⟨c2, r2, m2, q1, q2, q3, q4, kP, hkP, hkPi⟩ := Cond.selects_spec hsel
  cases hcls.symm.trans q1
  cases (State.methodFound?_of_named hnamed hy).symm.trans q2
  cases hnamed.symm.trans q3
  have hselP : selectMethod e.platform s.vm cellB.cls mk = .method mk := by rw [Launch.admits_selectMethod X.admits]; exact q4
  rcases hlink with hlink | ⟨host, hlink⟩
  · obtain ⟨vm₁, X₁, hstep₁⟩ := X.invokevirtual hexec hown hlink hnamed hmethM hstM hkP hkPi hy (a := b) (cell := cellB) hcell
      (fun z h => by rw [h] at hobj; cases hobj) hselP hmethM habM hkP hkPi (g := g) hg (argsL := argsL) (rest := rest) hlen hstack hdg
    exact ⟨vm₁, X₁, fun target h => hstep₁ _ fun acts => by rw [doInvoke_state]; exact h⟩
  · obtain ⟨vm₁, X₁, hstep₁⟩ := X.invokevirtualNest hexec hown hlink hnamed hmethM hstM hkP hkPi hy (a := b) (cell := cellB) hcell
      (fun z h => by rw [h] at hobj; cases hobj) hselP hmethM habM hkP hkPi (g := g) hg (argsL := argsL) (rest := rest) hlen hstack hdg
    exact ⟨vm₁, X₁, fun target h => hstep₁ _ fun acts => by rw [doInvoke_state]; exact h⟩
theorem am_goS (X : Stand p l e R s m args below meth c T locs cells slots) (hexec : p.tables.exec = Jvm.exec) {own : String} {index : Nat} {y : MethodName}
    (hown : s.vm.findClass own = some m.cls) (hlink : (Cond.methodLink own index y).before args s = true ∨ ∃ host, (Cond.methodLinkNest own index y host).before args s = true) (hstat : (Cond.static y).before args s = true) (hinit : (Cond.initialized y.cls).before args s = true)
    (hy : y.cls ≠ "java/lang/invoke/MethodHandle" ∧ y.cls ≠ "java/lang/invoke/VarHandle") {mk : MethodId} {methM : Method} (hnamed : s.methodNamed? y = some mk) (hmethM : s.vm.method? mk = some methM)
    {g : JFrame} (hg : g.method = m) {argsL rest : List Value} (hlen : argsL.length = methM.sig.parameters.length)
    (hstack : g.stack = argsL.reverse ++ rest) (hdg : decode c.code g.pc = .ok (.invokestatic index, 3)) :
    ∃ vm₁ : Vm, Stand p l e R s m args below meth c (T.setVm vm₁) locs cells slots ∧
      ∀ target, Steps p.tables e below (doInvoke e ((T.setVm vm₁).setTop { g with stack := rest }) [] mk argsL.toArray).1 target → Steps p.tables e below (T.setTop g) target := by
  have hstatic : methM.isStatic = true := Cond.static_spec hnamed hmethM hstat
  obtain ⟨kP, hkP, -⟩ := className_of_methodNamed hnamed
  have hinitP : kP.init = .initialized := Cond.initialized_spec (findClass_of_methodNamed hnamed) hkP hinit
  rcases hlink with hlink | ⟨host, hlink⟩
  · obtain ⟨vm₁, X₁, hstep₁⟩ := X.invokestatic hexec hown hlink hnamed hmethM hstatic hkP hinitP hy (g := g) hg (argsL := argsL) (rest := rest) hlen hstack hdg
    exact ⟨vm₁, X₁, fun target h => hstep₁ _ fun acts => by rw [doInvoke_state]; exact h⟩
  · obtain ⟨vm₁, X₁, hstep₁⟩ := X.invokestaticNest hexec hown hlink hnamed hmethM hstatic hkP hinitP hy (g := g) hg (argsL := argsL) (rest := rest) hlen hstack hdg
    exact ⟨vm₁, X₁, fun target h => hstep₁ _ fun acts => by rw [doInvoke_state]; exact h⟩
/-- into the method: what its body comes to, the call comes to -/
theorem am_into (X : Stand p l e R s m args below meth c T locs cells slots) {g : JFrame} (hg : g.method = m) (hsize : g.locals.size = c.maxLocals) {ig : Instr} {len : Nat} (hdg : decode c.code g.pc = .ok (ig, len))
    {y : MethodName} {mk : MethodId} {methk : Method} {ck : Code} {as : List Value} {R' : Room} (hpl : plainName y.cls = true) (hnamed : s.methodNamed? y = some mk) (hmk : s.vm.method? mk = some methk) (hck : methk.code = some ck) (hlk : methk.locks = false)
    (hframes : R'.frames + 1 ≤ R.frames) (hlocals : 2 * g.monitorRoom + (g.stack.map fun v => v.category).sum + (ck.maxLocals + 11) + R'.locals ≤ R.locals) (hcells : cells + R'.cells ≤ R.cells) (hslots : slots + R'.slots ≤ R.slots)
    {Zc : State → Prop} (body : W p l e R' (T.calling g mk as.toArray) mk as.toArray (.java g :: below) methk ck T.heap [] 0 0 Zc (entryFrame mk as.toArray ck.maxLocals)) :
    ∃ t, Steps p.tables e below (doInvoke e (T.setTop g) [] mk as.toArray).1 t ∧ Zc t := by
  have hmT : T.vm.method? mk = some methk := by rw [X.warmed.alike.method?]; exact hmk
  have hnT : T.methodNamed? y = some mk := X.named hnamed
  obtain ⟨Y, hin⟩ := X.into hg hsize hdg as.toArray (R' := R') hmT hck hlk (State.plainMethod.of_named (plainFor_of_name hpl) hnT hmT) hframes hlocals hcells hslots
  obtain ⟨t, st, hz⟩ := body ((T.setTop g).pushFrame (Frame.java (entryFrame mk as.toArray ck.maxLocals))) rfl Y
  refine ⟨t, ?_, hz⟩
  rw [hin []]
  exact Steps.weaken (mid := [.java g]) st
end AMC
end
section
/-! THE ABSTRACT MACHINE IS RIGHT: what comes to an end there does so on the real one -/
/-- the two statics that every throw reads, outside of what may change -/
def am_sta (A : Nat → Prop) (s : State) : Prop := vx_Zq Bundle.tN "UNASSIGNED_STACK" Bundle.steD A s s.heap ∧ vx_Zq Bundle.tN "SUPPRESSED_SENTINEL" Bundle.listD A s s.heap
/-- no exception is another one's kind -/
def am_ncs (s : State) : Prop := ∀ x y : Nat, x < 4 → y < 4 → x ≠ y → va_Nc (am_xn x) (am_xn y) s
/-- where the walk stands: the method k, its tables, the cells that it may change, its room -/
def am_C (l : Launch) (D : va_G) (ad : Nat → Nat) (cA : FieldType → ClassId) (A : Nat → Prop) (k : Nat) (p : Program) (R : Room) (s : State) (m : MethodId) (args : Array Value) (meth : Method) (c : Code) (scr : Nat × (Nat → Int32)) (Bc Bs : Nat) : Prop :=
  p.tables.exec = Jvm.exec ∧ c.code = am_bytes k ∧ meth.sig.returnType = am_rt k ∧ c.maxLocals = am_nL k ∧ s.vm.findClass (am_y k).cls = some m.cls ∧ (∀ w ∈ am_tbl, w.before args s = true) ∧ meth.locks = false ∧
  c.exceptionTable.toList.map (fun h => (h.startPc, h.endPc, h.handlerPc, h.catchType)) = am_et k ∧ va_K D am_cl (am_tys cA) s ∧ (∀ M, va_D A (am_w ad cA M)) ∧ (∀ q, s.heap.size ≤ q → A q) ∧
  l.flags = pinnedFlags ++ [noTraceFlag] ∧ am_rk k * 34 ≤ R.locals ∧ am_rk k ≤ R.frames ∧ Bc + 1 ≤ R.cells ∧ Bs + 6 ≤ R.slots ∧
  va_X (ad am_SC) scr.1 scr.2 s s.heap ∧ ad am_SC < s.heap.size ∧ ¬ A (ad am_SC) ∧ am_sta A s ∧ am_ncs s
def am_x : am_R → Nat
  | .inl _ => 0
  | .inr _ => 1
/-- what an exception of class x is -/
def am_ex (x : Nat) (s : State) (a : Nat) (H : Heap) : Prop := ∃ cell : Cell, H[a]? = some cell ∧ cell.vm = .none ∧ s.vm.findClass (am_xn x) = some cell.cls
/-- how a method ends that was walked: Z is what is wanted of its last state -/
def am_E (l : Launch) (D : va_G) (ad : Nat → Nat) (cA : FieldType → ClassId) (A : Nat → Prop) (k : Nat) (p : Program) (e : Env) (R : Room) (s : State) (m : MethodId) (args : Array Value) (below : List Frame) (meth : Method) (c : Code) (scr : Nat × (Nat → Int32)) (Q : am_T) (Bc Bs : Nat) (Z : State → Prop) : Prop :=
  (∀ (v : Int32) (ty : FieldType) (pc : Nat) (M : am_M) (H : Heap) (locs : List Loc) (cells slots : Nat) (ls : Array Slot), am_rt k = some ty → narrow ty (.int v) = .int v → decode (am_bytes k) pc = .ok (.ireturn, 1) → Q (.inl (some (.int v))) M → M.2.2.2 = scr → va_P D am_cl (am_w ad cA M) H → va_S A s.heap H locs → cells + M.2.2.1 = Bc → slots + 6 * M.2.2.1 = Bs →
    W p l e R s m args below meth c H locs cells slots Z (F0 m pc ls [.int v])) ∧
  (∀ (pc : Nat) (M : am_M) (H : Heap) (locs : List Loc) (cells slots : Nat) (ls : Array Slot), am_rt k = none → decode (am_bytes k) pc = .ok (.return_, 1) → Q (.inl none) M → M.2.2.2 = scr → va_P D am_cl (am_w ad cA M) H → va_S A s.heap H locs → cells + M.2.2.1 = Bc → slots + 6 * M.2.2.1 = Bs →
    W p l e R s m args below meth c H locs cells slots Z (F0 m pc ls [])) ∧
  (∀ (x a : Nat) (M : am_M) (U : State) (locs : List Loc), U.status = .running → Ended U below (.threw a) → am_ex x s a U.heap → Q (.inr x) M → M.2.2.2 = scr → va_P D am_cl (am_w ad cA M) U.heap → va_S A s.heap U.heap locs → s.WarmedH U.vm → M.2.2.1 ≤ Bc → s.sameButNew ({ U with vm := s.vm } : State) locs (Bc + 1 - M.2.2.1) (Bs + 6 - 6 * M.2.2.1) → Z U)
def am_X (l : Launch) : am_K := fun k pc L st M Q =>
  ∀ (D : va_G) (ad : Nat → Nat) (cA : FieldType → ClassId) (A : Nat → Prop) (p : Program) (e : Env) (R : Room) (s : State) (m : MethodId) (args : Array Value) (below : List Frame) (meth : Method) (c : Code) (Bc Bs : Nat) (Z : State → Prop) (H : Heap) (locs : List Loc) (cells slots : Nat) (ls : Array Slot),
    am_C l D ad cA A k p R s m args meth c M.2.2.2 Bc Bs → am_E l D ad cA A k p e R s m args below meth c M.2.2.2 Q Bc Bs Z → am_L ad ls (am_nL k) L → va_P D am_cl (am_w ad cA M) H → va_S A s.heap H locs → cells + M.2.2.1 = Bc → slots + 6 * M.2.2.1 = Bs →
    W p l e R s m args below meth c H locs cells slots Z (F0 m pc ls (st.map (am_v ad)))
section AMX
variable {l : Launch} {D : va_G} {ad : Nat → Nat} {cA : FieldType → ClassId} {A : Nat → Prop} {p : Program} {e : Env} {R : Room} {s : State} {m : MethodId} {args : Array Value} {below : List Frame} {meth : Method} {c : Code} {Bc Bs : Nat} {Z : State → Prop} {H : Heap} {locs : List Loc} {cells slots : Nat} {ls : Array Slot}
variable {k pc : Nat} {L st : List Value} {M : am_M} {Q : am_T}
theorem am_ic {cd : Jvm.ClassFile.Cond} {off : Int} {t : Nat} {x y : Int32} {rest : List Value} {cc : ByteArray} (hx : p.tables.exec = Jvm.exec) (hb : c.code = cc) (hd : decode cc pc = .ok (.if_icmp cd off, 3)) (ht : (pc : Int) + off = t)
    (kt : am_cmp cd x y → W p l e R s m args below meth c H locs cells slots Z (F0 m t ls rest)) (kf : ¬ am_cmp cd x y → W p l e R s m args below meth c H locs cells slots Z (F0 m (pc + 3) ls rest)) :
    W p l e R s m args below meth c H locs cells slots Z (F0 m pc ls (.int y :: .int x :: rest)) := by
  cases cd
  · exact lv_icmp_eq hx hb hd ht kt kf
  · exact lv_icmp_ne hx hb hd ht kt (fun q => kf (fun z => z q))
  · exact lv_icmp_lt hx hb hd ht kt kf
  · exact lv_icmp_ge hx hb hd ht kt kf
  · exact lv_icmp_gt hx hb hd ht kt kf
  · exact lv_icmp_le hx hb hd ht kt kf
theorem am_if {cd : Jvm.ClassFile.Cond} {off : Int} {t : Nat} {x : Int32} {rest : List Value} {cc : ByteArray} (hx : p.tables.exec = Jvm.exec) (hb : c.code = cc) (hd : decode cc pc = .ok (.ifCond cd off, 3)) (ht : (pc : Int) + off = t)
    (kt : am_cmp cd x 0 → W p l e R s m args below meth c H locs cells slots Z (F0 m t ls rest)) (kf : ¬ am_cmp cd x 0 → W p l e R s m args below meth c H locs cells slots Z (F0 m (pc + 3) ls rest)) :
    W p l e R s m args below meth c H locs cells slots Z (F0 m pc ls (.int x :: rest)) := by
  cases cd
  · exact lv_if_eq hx hb hd ht kt kf
  · exact lv_if_ne hx hb hd ht kt (fun q => kf (fun z => z q))
  · exact lv_if_lt hx hb hd ht kt kf
  · exact lv_if_ge hx hb hd ht kt kf
  · exact lv_if_gt hx hb hd ht kt kf
  · exact lv_if_le hx hb hd ht kt kf
theorem am_w_set {p i : Nat} {x : Int32} {sh : am_Sh} (h : am_sh p = some sh) : (am_w ad cA M).set p (ad p, am_cell ad cA (am_set M p i x) p sh) = am_w ad cA (am_set M p i x) :=
  am_w_up (M' := am_set M p i x) h (fun _ hz => va_up_ne _ _ hz) (fun _ _ => rfl)
theorem am_w_setL {p i : Nat} {x : Int64} {sh : am_Sh} (h : am_sh p = some sh) : (am_w ad cA M).set p (ad p, am_cell ad cA (am_setL M p i x) p sh) = am_w ad cA (am_setL M p i x) :=
  am_w_up (M' := am_setL M p i x) h (fun _ _ => rfl) (fun _ hz => va_up_ne _ _ hz)
set_option maxHeartbeats 4000000 in
theorem am_right_simple {i : Instr} {len : Nat} (hd : decode (am_bytes k) pc = .ok (i, len)) (h : am_do (am_X l) k pc i len L st M Q) (hn1 : ∀ ix, i ≠ .invokevirtual ix) (hn2 : ∀ ix, i ≠ .invokestatic ix) (hn3 : ∀ ix, i ≠ .new ix)
    (hC : am_C l D ad cA A k p R s m args meth c M.2.2.2 Bc Bs) (hE : am_E l D ad cA A k p e R s m args below meth c M.2.2.2 Q Bc Bs Z) (hL : am_L ad ls (am_nL k) L) (hP : va_P D am_cl (am_w ad cA M) H) (hS : va_S A s.heap H locs) (hb1 : cells + M.2.2.1 = Bc) (hb2 : slots + 6 * M.2.2.1 = Bs) :
    W p l e R s m args below meth c H locs cells slots Z (F0 m pc ls (st.map (am_v ad))) := by
  have go : ∀ {pc' : Nat} {L' st' : List Value} {ls' : Array Slot}, am_X l k pc' L' st' M Q → am_L ad ls' (am_nL k) L' → W p l e R s m args below meth c H locs cells slots Z (F0 m pc' ls' (st'.map (am_v ad))) :=
    fun h1 h2 => h1 D ad cA A p e R s m args below meth c Bc Bs Z H locs cells slots _ hC hE h2 hP hS hb1 hb2
  have go2 : ∀ {pc' : Nat} {L' st' : List Value} {M' : am_M} {H' : Heap} {locs' : List Loc}, am_X l k pc' L' st' M' Q → M'.2.2 = M.2.2 → am_L ad ls (am_nL k) L' → va_P D am_cl (am_w ad cA M') H' → va_S A s.heap H' locs' → W p l e R s m args below meth c H' locs' cells slots Z (F0 m pc' ls (st'.map (am_v ad))) :=
    fun {pc' L' st' M' H' locs'} h1 he h2 hP' hS' => h1 D ad cA A p e R s m args below meth c Bc Bs Z H' locs' cells slots _ (by rw [he]; exact hC) (by rw [he]; exact hE) h2 hP' hS' (by rw [he]; exact hb1) (by rw [he]; exact hb2)
  obtain ⟨hx, hb, hr, hml, hown, hts, hlk, het, hK, hDA, hA, hfl, hRl, hRf, hRc, hRs, hX1, hX2, hX3, hsta, hnc⟩ := id hC
  have hD := hDA M
  cases i
  case iconst n => obtain ⟨rfl, v, hv, h⟩ := h; exact lv_iconst hx hb hd hv (go h hL)
  case bipush n => obtain ⟨rfl, v, hv, h⟩ := h; exact lv_bipush hx hb hd hv (go h hL)
  case sipush n => obtain ⟨rfl, v, hv, h⟩ := h; exact lv_sipush hx hb hd hv (go h hL)
  case iload_n j => obtain ⟨rfl, v, hv, h⟩ := h; exact lv_iload_n hx hb hd rfl (hL.at hv rfl) (go h hL)
  case iload j => obtain ⟨rfl, v, hv, h⟩ := h; exact lv_iload hx hb hd (hL.at hv rfl) (go h hL)
  case aload_n j => obtain ⟨rfl, v, hv, h⟩ := h; exact lv_aload_n hx hb hd rfl (hL.at hv rfl) (go h hL)
  case aload j => obtain ⟨rfl, v, hv, h⟩ := h; exact lv_aload hx hb hd (hL.at hv rfl) (go h hL)
  case istore_n j => obtain ⟨rfl, x, r, rfl, hj, h⟩ := h; exact lv_istore_n hx hb hd rfl hL.2 (by rw [← hL.1]; exact hj) rfl (fun ls' h' => go h (hL.put (v := .int x) rfl h'))
  case istore j => obtain ⟨rfl, x, r, rfl, hj, h⟩ := h; exact lv_istore hx hb hd hL.2 (by rw [← hL.1]; exact hj) rfl (fun ls' h' => go h (hL.put (v := .int x) rfl h'))
  case iinc j n =>
    obtain ⟨rfl, x, v, hl, hv, h⟩ := h
    obtain ⟨q, hq⟩ := List.getElem?_of_mem (am_al_in (ad := ad) hl rfl)
    exact lv_iinc hx hb hd hL.2 hq hv (by rw [← hL.1]; exact (List.getElem?_eq_some_iff.mp hl).1) rfl (fun ls' h' => go h (hL.put (v := .int v) rfl h'))
  case iadd => obtain ⟨rfl, y, x, r, rfl, h⟩ := h; exact lv_iadd hx hb hd (go h hL)
  case isub => obtain ⟨rfl, y, x, r, rfl, h⟩ := h; exact lv_isub hx hb hd (go h hL)
  case imul => obtain ⟨rfl, y, x, r, rfl, h⟩ := h; exact lv_imul hx hb hd (go h hL)
  case iand => obtain ⟨rfl, y, x, r, rfl, h⟩ := h; exact lv_iand hx hb hd (go h hL)
  case ior => obtain ⟨rfl, y, x, r, rfl, h⟩ := h; exact lv_ior hx hb hd (go h hL)
  case ishl => obtain ⟨rfl, y, x, r, rfl, h⟩ := h; exact lv_ishl hx hb hd (go h hL)
  case ishr => obtain ⟨rfl, y, x, r, rfl, h⟩ := h; exact lv_ishr hx hb hd (go h hL)
  case iushr => obtain ⟨rfl, y, x, r, rfl, h⟩ := h; exact lv_iushr hx hb hd rfl (go h hL)
  case ineg => obtain ⟨rfl, x, r, rfl, h⟩ := h; exact lv_ineg hx hb hd (go h hL)
  case i2l => obtain ⟨rfl, x, r, rfl, h⟩ := h; exact lv_i2l hx hb hd rfl (go h hL)
  case i2c => obtain ⟨rfl, x, r, rfl, h⟩ := h; exact lv_i2c hx hb hd rfl (go h hL)
  case lcmp => obtain ⟨rfl, y, x, r, rfl, h⟩ := h; exact W.lcmp hx hb hd (go h hL)
  case dup => obtain ⟨rfl, v, r, rfl, hv, h⟩ := h; exact lv_dup hx hb hd (am_ok_cat hv) (go h hL)
  case goto off => obtain ⟨rfl, t, ht, h⟩ := h; exact lv_goto hx hb hd ht (go h hL)
  case ifCond cd off => obtain ⟨rfl, t, x, r, rfl, ht, h1, h2⟩ := h; exact am_if hx hb hd ht (fun q => go (h1 q) hL) (fun q => go (h2 q) hL)
  case if_icmp cd off => obtain ⟨rfl, t, y, x, r, rfl, ht, h1, h2⟩ := h; exact am_ic hx hb hd ht (fun q => go (h1 q) hL) (fun q => go (h2 q) hL)
  case tableswitch d lo hi offs =>
    obtain ⟨x, r, rfl, h1, h2⟩ := h
    by_cases hlo : x.toInt < lo
    · obtain ⟨t, ht, h⟩ := h1 (Or.inl hlo)
      exact lv_tableOut hx hb hd (Or.inl hlo) ht (go h hL)
    · by_cases hhi : hi < x.toInt
      · obtain ⟨t, ht, h⟩ := h1 (Or.inr hhi)
        exact lv_tableOut hx hb hd (Or.inr hhi) ht (go h hL)
      · obtain ⟨off, t, ho, ht, h⟩ := h2 hlo hhi
        exact lv_tableIn hx hb hd hlo hhi ho ht (go h hL)
  case iaload =>
    obtain ⟨rfl, x, q, r, rfl, ⟨rfl, hi, h⟩ | ⟨n, hs, hi, h⟩⟩ := h
    · exact va_sld hx hb hX1 hX2 hX3 hS hi hd (go h hL)
    · exact va_iald hx hb hK hP q 0 (am_w_at hs) rfl hi hd (go h hL)
  case baload => obtain ⟨rfl, x, q, n, r, rfl, hs, hi, h⟩ := h; exact va_zald hx hb hK hP q 1 (am_w_at hs) rfl hi hd (go h hL)
  case caload => obtain ⟨rfl, x, q, n, r, rfl, hs, hi, h⟩ := h; exact va_cald hx hb hK hP q 2 (am_w_at hs) rfl hi hd (go h hL)
  case laload => obtain ⟨rfl, x, q, n, r, rfl, hs, hi, h⟩ := h; exact va_lald hx hb hK hP q 3 (am_w_at hs) rfl hi hd (go h hL)
  case iastore =>
    obtain ⟨rfl, v, x, q, n, r, rfl, hs, hi, h⟩ := h
    refine va_iast hx hb hK hP hD hS q 0 (am_w_at hs) rfl hi hd (fun H1 locs1 hP1 _ hS1 => go2 h rfl hL ?_ hS1)
    rw [← am_w_set hs]
    rw [show am_cell ad cA (am_set M q x.toNatClampNeg v) q (.inl (.int, n)) = .inl (cA .int, n, .inl (upd (M.1 q) x.toNatClampNeg v)) by simp [am_cell, am_set, va_up_self]]
    exact hP1
  case bastore =>
    obtain ⟨rfl, v, x, q, n, r, rfl, hs, hi, h⟩ := h
    refine va_zast hx hb hK hP hD hS q 1 (am_w_at hs) rfl hi hd (fun H1 locs1 hP1 _ hS1 => go2 h rfl hL ?_ hS1)
    rw [← am_w_set hs]
    rw [show am_cell ad cA (am_set M q x.toNatClampNeg (vp_nar .boolean v)) q (.inl (.boolean, n)) = .inl (cA .boolean, n, .inl (upd (M.1 q) x.toNatClampNeg (vp_nar .boolean v))) by simp [am_cell, am_set, va_up_self]]
    exact hP1
  case castore =>
    obtain ⟨rfl, v, x, q, n, r, rfl, hs, hi, h⟩ := h
    refine va_cast hx hb hK hP hD hS q 2 (am_w_at hs) rfl hi hd (fun H1 locs1 hP1 _ hS1 => go2 h rfl hL ?_ hS1)
    rw [← am_w_set hs]
    rw [show am_cell ad cA (am_set M q x.toNatClampNeg (vp_nar .char v)) q (.inl (.char, n)) = .inl (cA .char, n, .inl (upd (M.1 q) x.toNatClampNeg (vp_nar .char v))) by simp [am_cell, am_set, va_up_self]]
    exact hP1
  case lastore =>
    obtain ⟨rfl, v, x, q, n, r, rfl, hs, hi, h⟩ := h
    refine va_last hx hb hK hP hD hS q 3 (am_w_at hs) rfl hi hd (fun H1 locs1 hP1 _ hS1 => go2 h rfl hL ?_ hS1)
    rw [← am_w_setL hs]
    rw [show am_cell ad cA (am_setL M q x.toNatClampNeg v) q (.inl (.long, n)) = .inl (cA .long, n, .inr (.inl (vp_updL (M.2.1 q) x.toNatClampNeg v))) by simp [am_cell, am_setL, va_up_self]]
    exact hP1
  case arraylength =>
    obtain ⟨rfl, q, r, rfl, ⟨rfl, h⟩ | ⟨ty, n, hs, hy, h⟩⟩ := h
    · exact va_slen hx hb hX1 hX2 hX3 hS hd (go h hL)
    · have hh : ∃ (t0 : Nat) (xx : vp_A), (am_tys cA)[t0]? = some (cA ty, ty) ∧ xx.1 = n ∧ am_cell ad cA M q (.inl (ty, n)) = .inl (cA ty, xx) := by
        simp only [am_tyL, List.mem_cons, List.not_mem_nil, or_false] at hy
        rcases hy with rfl | rfl | rfl | rfl
        · exact ⟨0, (n, .inl (M.1 q)), rfl, rfl, rfl⟩
        · exact ⟨1, (n, .inl (M.1 q)), rfl, rfl, rfl⟩
        · exact ⟨2, (n, .inl (M.1 q)), rfl, rfl, rfl⟩
        · exact ⟨3, (n, .inr (.inl (M.2.1 q))), rfl, rfl, rfl⟩
      obtain ⟨t0, xx, h1, h2, h3⟩ := hh
      exact va_alen hx hb hK hP q t0 (x := xx) (by rw [am_w_at hs, h3]) h1 (by rw [h2]) hd (go h hL)
  case getfield ix =>
    obtain ⟨rfl, q, ci, f, r, fs, o, rfl, hf, hs, ho, h⟩ := h
    obtain ⟨CC, TT, NN, g1, g2, g3, g4, g5⟩ := am_fld_ok hf
    have hlen : f < fs.length := (List.getElem?_eq_some_iff.mp ho).1
    have hgd : fs.getD f none = o := by rw [List.getD_eq_getElem?_getD, ho]; rfl
    have hv : ((List.range fs.length).map fun f => am_v ad (am_fv M q f (fs.getD f none)))[f]? = some (am_v ad (am_fv M q f o)) := by
      rw [List.getElem?_map, List.getElem?_range hlen]
      show some (am_v ad (am_fv M q f (fs.getD f none))) = _
      rw [hgd]
    rcases g5 with g5 | ⟨host, g5⟩
    · exact va_get (D := D) hx hb hts g4 hown hK hP q (am_w_at hs) g1 f g2 (hts _ g5) (fun z hz => by rw [← g3]; exact hz) hv hd (go h hL)
    · exact va_getN (D := D) hx hb hts g4 hown hK hP q (am_w_at hs) g1 f g2 (hts _ g5) (fun z hz => by rw [← g3]; exact hz) hv hd (go h hL)
  case putfield ix =>
    obtain ⟨rfl, v, q, ci, f, r, fs, ty, rfl, hf, hs, ho, hty, hnw, hft, h⟩ := h
    obtain ⟨CC, TT, NN, g1, g2, g3, g4, g5⟩ := am_fld_ok hf
    obtain ⟨ty0, t1, t2, t3, t4⟩ := am_fty_ok g1 g2 hty
    have hlen : f < fs.length := (List.getElem?_eq_some_iff.mp ho).1
    have hgd : fs.getD f none = none := by rw [List.getD_eq_getElem?_getD, ho]; rfl
    have hcell : (Sum.inr (ci, (((List.range fs.length).map fun f => am_v ad (am_fv M q f (fs.getD f none))).set f (.int v))) : va_E) = am_cell ad cA (am_set M q f v) q (.inr (ci, fs)) := by
      simp only [am_cell]
      congr 2
      apply List.ext_getElem?
      intro j
      by_cases hj : j = f
      · subst hj
        rw [List.getElem?_set_self (by simpa using hlen), List.getElem?_map, List.getElem?_range hlen]
        simp only [Option.map_some, hgd, am_fv, am_v, am_set, va_up_self, upd, if_true]
      · rw [List.getElem?_set_ne (fun z => hj z.symm), List.getElem?_map, List.getElem?_map]
        cases hr : (List.range fs.length)[j]? with
        | none => rfl
        | some j' =>
          have hj' : j' = j := by
            have hl := (List.getElem?_eq_some_iff.mp hr).1
            rw [List.getElem?_range (by simpa using hl)] at hr
            exact (Option.some.inj hr).symm
          subst hj'
          show some (am_v ad (am_fv M q j' (fs.getD j' none))) = some (am_v ad (am_fv (am_set M q f v) q j' (fs.getD j' none)))
          cases fs.getD j' none with
          | none => simp only [am_fv, am_set, va_up_self, upd, if_neg hj]
          | some z => rfl
    have kk : ∀ (H1 : Heap) (locs1 : List Loc), va_P D am_cl ((am_w ad cA M).set q (ad q, .inr (ci, (((List.range fs.length).map fun f => am_v ad (am_fv M q f (fs.getD f none))).set f (.int v))))) H1 → va_D A ((am_w ad cA M).set q (ad q, .inr (ci, (((List.range fs.length).map fun f => am_v ad (am_fv M q f (fs.getD f none))).set f (.int v))))) → va_S A s.heap H1 locs1 → W p l e R s m args below meth c H1 locs1 cells slots Z (F0 m (pc + 3) ls (r.map (am_v ad))) := by
      intro H1 locs1 hP1 _ hS1
      refine go2 h rfl hL ?_ hS1
      rw [← am_w_set hs, ← hcell]
      exact hP1
    rcases g5 with g5 | ⟨host, g5⟩
    · exact va_put (D := D) (v := .int v) hx hb hts g4 ty0 t1 t2 hown hK hP hD hS q (am_w_at hs) g1 f g2 (hts _ g5) (fun z hz => by rw [← g3]; exact hz) t3 t4 hnw hft (by simpa using hlen) hd kk
    · exact va_putN (D := D) (v := .int v) hx hb hts g4 ty0 t1 t2 hown hK hP hD hS q (am_w_at hs) g1 f g2 (hts _ g5) (fun z hz => by rw [← g3]; exact hz) t3 t4 hnw hft (by simpa using hlen) hd kk
  case ireturn => obtain ⟨rfl, v, ty, rfl, h1, h2, h⟩ := h; exact hE.1 v ty pc M H locs cells slots ls h1 h2 hd h rfl hP hS hb1 hb2
  case return_ => obtain ⟨rfl, rfl, h1, h⟩ := h; exact hE.2.1 pc M H locs cells slots ls h1 hd h rfl hP hS hb1 hb2
  case invokevirtual ix => exact absurd rfl (hn1 ix)
  case invokestatic ix => exact absurd rfl (hn2 ix)
  case new ix => exact absurd rfl (hn3 ix)
  all_goals exact False.elim h
end AMX
end
section
/-! calls and exceptions of the abstract machine on the real one -/
def am_out (ad : Nat → Nat) (s : State) (t : State) : am_R → Outcome → Prop
  | .inl v, o => o = .returned (v.map (am_v ad))
  | .inr x, o => ∃ a, o = .threw a ∧ am_ex x s a t.heap
def am_Z (D : va_G) (ad : Nat → Nat) (cA : FieldType → ClassId) (A : Nat → Prop) (s : State) (below : List Frame) (scr : Nat × (Nat → Int32)) (Q : am_T) (Bc Bs : Nat) : State → Prop := fun t =>
  ∃ (r : am_R) (o : Outcome) (M : am_M) (locs : List Loc), t.status = .running ∧ Ended t below o ∧ am_out ad s t r o ∧ Q r M ∧ M.2.2.2 = scr ∧ M.2.2.1 ≤ Bc ∧ va_P D am_cl (am_w ad cA M) t.heap ∧ va_S A s.heap t.heap locs ∧ s.WarmedH t.vm ∧
    s.sameButNew ({ t with vm := s.vm } : State) locs (Bc + am_x r - M.2.2.1) (Bs + 6 * am_x r - 6 * M.2.2.1)
section AMZ
variable {l : Launch} {D : va_G} {ad : Nat → Nat} {cA : FieldType → ClassId} {A : Nat → Prop} {p : Program} {e : Env} {R : Room} {s : State} {m : MethodId} {args : Array Value} {below : List Frame} {meth : Method} {c : Code} {Bc Bs : Nat} {Z : State → Prop} {H : Heap} {locs : List Loc} {cells slots : Nat} {ls : Array Slot}
variable {k pc : Nat} {L st : List Value} {M : am_M} {Q : am_T}
theorem am_E_Z (hx : p.tables.exec = Jvm.exec) (hb : c.code = am_bytes k) (hr : meth.sig.returnType = am_rt k) (hlk : meth.locks = false) {scr : Nat × (Nat → Int32)} : am_E l D ad cA A k p e R s m args below meth c scr Q Bc Bs (am_Z D ad cA A s below scr Q Bc Bs) := by
  refine ⟨?_, ?_, ?_⟩
  · intro v ty pc M H locs cells slots ls h1 h2 hd hQ hscr hP hS hb1 hb2
    intro T hT X
    obtain ⟨t, st, o, hrun, hend, ⟨ho, hh⟩, L, ⟨-, hW, hsame⟩, hfree⟩ := W.zret (Qc := fun _ _ o t => o = .returned (some (.int v)) ∧ t.heap = H) (free := A) (v := v) (ty := ty) hx hb (by rw [hr]; exact h1) h2 (fun t ht _ => ⟨rfl, ht⟩) hS.2.2 hd hlk T hT X
    refine ⟨t, st, .inl (some (.int v)), o, M, L, hrun, hend, ho, hQ, hscr, by omega, by rw [hh]; exact hP, ⟨by rw [hh]; exact hS.1, by rw [hh]; exact hS.2.1, hfree⟩, hW, hsame.mono ?_ ?_⟩
    · simp only [am_x]; omega
    · simp only [am_x]; omega
  · intro pc M H locs cells slots ls h1 hd hQ hscr hP hS hb1 hb2
    intro T hT X
    obtain ⟨t, st, o, hrun, hend, ⟨ho, hh⟩, L, ⟨-, hW, hsame⟩, hfree⟩ := W.vret (Qc := fun _ _ o t => o = .returned none ∧ t.heap = H) (free := A) hx hb (by rw [hr]; exact h1) (fun t ht _ => ⟨rfl, ht⟩) hS.2.2 hd hlk T hT X
    refine ⟨t, st, .inl none, o, M, L, hrun, hend, ho, hQ, hscr, by omega, by rw [hh]; exact hP, ⟨by rw [hh]; exact hS.1, by rw [hh]; exact hS.2.1, hfree⟩, hW, hsame.mono ?_ ?_⟩
    · simp only [am_x]; omega
    · simp only [am_x]; omega
  · intro x a M U locs hrun hend hex hQ hscr hP hS hW hle hsame
    exact ⟨.inr x, .threw a, M, locs, hrun, hend, ⟨a, rfl, hex⟩, hQ, hscr, hle, hP, hS, hW, hsame⟩
theorem am_A_sub {M : am_M} {T : State} (hDA : ∀ M, va_D A (am_w ad cA M)) (hA : ∀ q, s.heap.size ≤ q → A q) (hS : va_S A s.heap T.heap locs) : ∀ q, va_A (am_w ad cA M) T.heap.size q → A q := by
  intro q hq
  rcases hq with ⟨j, e0, h1⟩ | h1
  · exact (hDA M).2 j _ h1
  · exact hA q (Nat.le_trans hS.1 h1)
/-- the room of method k when b exceptions may still be caught -/
def am_rm (k b : Nat) : Room := { frames := am_rk k, cells := b + 1, slots := 6 * b + 6, locals := am_rk k * 34 }
/-- a method that the abstract machine ends, called from a state that holds the memory -/
theorem am_callee {T : State} {g : JFrame} {mk : MethodId} {methk : Method} {ck : Code} {as : List Value}
    (hC : am_C l D ad cA A k p R s m args meth c M.2.2.2 Bc Bs) (hS : va_S A s.heap T.heap locs) (hW : s.WarmedH T.vm) (hcur : True)
    {kc : Nat} (hok : ∀ v ∈ as, am_ok v = true) (hna : as.length ≤ am_nL kc) (hnamed : s.methodNamed? (am_y kc) = some mk) (hck : ck.code = am_bytes kc) (hml : ck.maxLocals = am_nL kc) (hr : methk.sig.returnType = am_rt kc) (hlk : methk.locks = false)
    (het : ck.exceptionTable.toList.map (fun h => (h.startPc, h.endPc, h.handlerPc, h.catchType)) = am_et kc) (hP : va_P D am_cl (am_w ad cA M) T.heap) (hX : am_X l kc 0 (am_in kc as) [] M Q) :
    W p l e (am_rm kc M.2.2.1) (T.calling g mk (as.map (am_v ad)).toArray) mk (as.map (am_v ad)).toArray (.java g :: below) methk ck T.heap [] 0 0
      (am_Z D ad cA (va_A (am_w ad cA M) T.heap.size) (T.calling g mk (as.map (am_v ad)).toArray) (.java g :: below) M.2.2.2 Q M.2.2.1 (6 * M.2.2.1)) (entryFrame mk (as.map (am_v ad)).toArray ck.maxLocals) := by
  obtain ⟨hx, -, -, -, -, hts, -, -, hK, hDA, hA, hfl, -, -, -, -, hX1, hX2, hX3, hsta, hnc⟩ := hC
  have hvm : (T.calling g mk (as.map (am_v ad)).toArray).vm = T.vm := rfl
  have hhe : (T.calling g mk (as.map (am_v ad)).toArray).heap = T.heap := rfl
  have hW' : s.WarmedH (T.calling g mk (as.map (am_v ad)).toArray).vm := hW
  have hT0 : T.heap[ad am_SC]? = s.heap[ad am_SC]? := hS.2.1 _ hX2 hX3
  rw [hml]
  rw [lg_entry_eq]
  have hl := lv_entry (as.map (am_v ad)) (n := am_nL kc) (by rw [am_lgsl hok]; exact hna)
  refine hX D ad cA _ p e _ _ mk _ _ methk ck M.2.2.1 (6 * M.2.2.1) _ T.heap [] 0 0 _ ⟨hx, hck, hr, hml, ?_, ?_, hlk, het, va_K.moved hW'.alike hK, fun M' => am_D ((hDA M).self), fun q h => Or.inr h, hfl, Nat.le_refl _, Nat.le_refl _, Nat.le_refl _, Nat.le_refl _, ?_, ?_, ?_, ?_, ?_⟩ (am_E_Z hx hck hr hlk) (am_entry hok hna hl) hP va_S.rf (by omega) (by omega)
  · rw [hvm, hW.alike.findClass]
    exact findClass_of_methodNamed hnamed
  · intro w hw
    exact am_word (List.mem_filter.mp hw).2 hW' (hts w hw)
  · exact va_X.moved hW'.alike (hX1.kept hT0)
  · exact Nat.lt_of_lt_of_le hX2 hS.1
  · intro hq
    rcases hq with ⟨j, e0, h1⟩ | h1
    · exact hX3 ((hDA M).2 j _ h1)
    · have h1 : T.heap.size ≤ ad am_SC := h1
      have := Nat.lt_of_lt_of_le hX2 hS.1
      omega
  · exact ⟨(vx_Zq.moved hW'.alike (hsta.1.kept hS.2.1)).narrow (am_A_sub hDA hA hS), (vx_Zq.moved hW'.alike (hsta.2.kept hS.2.1)).narrow (am_A_sub hDA hA hS)⟩
  · exact fun x y h1 h2 h3 => va_Nc.moved hW'.alike (hnc x y h1 h2 h3)
theorem am_S_app {H0 H1 H2 : Heap} {A A' : Nat → Prop} {l1 l2 : List Loc} (h1 : va_S A H0 H1 l1) (h2 : va_S A' H1 H2 l2) (hA : ∀ q, A' q → A q) : va_S A H0 H2 (l1 ++ l2) := by
  refine ⟨Nat.le_trans h1.1 h2.1, fun q hq hn => ?_, fun q hq => ?_⟩
  · rw [h2.2.1 q (Nat.lt_of_lt_of_le hq h1.1) (fun z => hn (hA q z))]
    exact h1.2.1 q hq hn
  · rcases List.mem_append.mp hq with h | h
    · exact h1.2.2 q h
    · exact hA _ (h2.2.2 q h)
theorem am_rest {v : Option Value} {r : List Value} : (v.toList ++ r).map (am_v ad) = (v.map (am_v ad)).toList ++ r.map (am_v ad) := by cases v <;> rfl
/-- the object at a place, as the receiver of a call -/
theorem am_obj {q ci : Nat} {fs : List Value} {H : Heap} {C : String} (h : va_at D am_cl (q, .inr (ci, fs)) H) (hK : va_K D am_cl (am_tys cA) s) (hc : ∃ T N, am_cl[ci]? = some (C, T, N)) : ∃ cellB : Cell, H[q]? = some cellB ∧ cellB.vm.isStatics = false ∧ s.vm.findClass C = some cellB.cls := by
  obtain ⟨T, N, hc⟩ := hc
  obtain ⟨r, h1, cell, h2, h3, h4, -⟩ := h
  have h6 := (hK.1 ci _ hc).2.1
  refine ⟨cell, h2, by rw [h4]; rfl, ?_⟩
  rw [h3]
  exact h6
/-- an exception of class x, caught by the method's own handler: it answers v -/
theorem am_catch {T : State} {r : List Value} {x : Nat} {v : Int32} {aa : Nat} {M' : am_M} (hC : am_C l D ad cA A k p R s m args meth c M.2.2.2 Bc Bs) (hE : am_E l D ad cA A k p e R s m args below meth c M.2.2.2 Q Bc Bs Z) (hL : am_L ad ls (am_nL k) L)
    (hh : am_hd k pc x = some v) (hex : am_ex x s aa T.heap) (X : Stand p l e R s m args below meth c T locs cells slots) (hpos : 0 < M'.2.2.1) (hQ : Q (.inl (some (.int v))) (am_pay M')) (hscr : M'.2.2.2 = M.2.2.2) (hP : va_P D am_cl (am_w ad cA M') T.heap) (hS : va_S A s.heap T.heap locs)
    (hb1 : cells + M'.2.2.1 = Bc + 1) (hb2 : slots + 6 * M'.2.2.1 = Bs + 6) :
    ∃ t, Steps p.tables e below ((T.setTop (F0 m pc ls (r.map (am_v ad)))).pushFrame (.throwing aa)) t ∧ Z t := by
  obtain ⟨hx, hb, hr, hml, hown, hts, hlk, het, hK, hDA, hA, hfl, hRl, hRf, hRc, hRs, hX1, hX2, hX3, hsta, hnc⟩ := id hC
  obtain ⟨n, row, alen, ps, rfl, hchk⟩ := am_hd_ok hh
  unfold am_hchk at hchk
  simp only [Bool.and_eq_true, decide_eq_true_eq] at hchk
  obtain ⟨⟨⟨⟨⟨⟨⟨⟨⟨g1, g2⟩, g3⟩, g4⟩, g5⟩, g6⟩, g7⟩, g8⟩, g9⟩, g10⟩ := hchk
  obtain ⟨ce, x1, x2, x3⟩ := hex
  have quad : ∀ (j : Nat) (z : ExceptionTableEntry), c.exceptionTable.toList[j]? = some z → am_hq k j = (z.startPc, z.endPc, z.handlerPc, z.catchType) := by
    intro j z hz
    unfold am_hq
    rw [← het, List.getD_eq_getElem?_getD, List.getElem?_map, hz]
    rfl
  have hlen : row < c.exceptionTable.toList.length := by
    have h0 := congrArg List.length het
    rw [List.length_map] at h0
    omega
  obtain ⟨z, hz⟩ : ∃ z, c.exceptionTable.toList[row]? = some z := ⟨_, List.getElem?_eq_getElem hlen⟩
  have hq := quad row z hz
  have hsplit : c.exceptionTable.toList = c.exceptionTable.toList.take row ++ z :: c.exceptionTable.toList.drop (row + 1) := by
    have h1 := List.getElem_cons_drop hlen
    rw [(List.getElem?_eq_some_iff.mp hz).2] at h1
    rw [h1, List.take_append_drop]
  unfold am_hcode at g8
  simp only [Bool.and_eq_true, decide_eq_true_eq] at g8
  obtain ⟨⟨⟨k1, k2⟩, k3⟩, k4⟩ := g8
  rw [hq] at g2 g3 g4 g5 k1 k2 k3
  have hend : ∀ ls' : Array Slot, W p l e R s m args below meth c T.heap locs cells slots Z (F0 m (z.handlerPc + alen) ls' []) := by
    intro ls'
    refine lv_iconst hx hb k2 k4 ?_
    refine hE.1 _ .int _ (am_pay M') T.heap locs cells slots ls' g10 rfl k3 hQ hscr hP hS ?_ ?_
    · show cells + (M'.2.2.1 - 1) = Bc
      omega
    · show slots + 6 * (M'.2.2.1 - 1) = Bs
      omega
  have hw : W p l e R s m args below meth c T.heap locs cells slots Z (F0 m z.handlerPc ls [.ref aa]) := by
    split at k1
    next j hj =>
      simp only [Bool.and_eq_true, beq_iff_eq, decide_eq_true_eq] at k1
      obtain ⟨rfl, k1⟩ := k1
      exact lv_astore hx hb hj hL.2 k1 rfl (fun ls' _ => hend ls')
    next j hj =>
      simp only [Bool.and_eq_true, beq_iff_eq, decide_eq_true_eq] at k1
      obtain ⟨rfl, k1⟩ := k1
      exact lv_astore_n hx hb hj rfl hL.2 k1 rfl (fun ls' _ => hend ls')
    next => cases k1
  refine vx_catch (E := am_xn x) hown (c.exceptionTable.toList.take row) z (c.exceptionTable.toList.drop (row + 1)) hsplit ?_ ?_ g4 (hts _ (am_in_t g5 rfl)) (hts _ (am_in_t g7 rfl)) x1 x2 x3 hw T rfl X
  · intro z' hz'
    obtain ⟨j, hj⟩ := List.getElem?_of_mem hz'
    have hjl : j < row := by
      have h1 := (List.getElem?_eq_some_iff.mp hj).1
      rw [List.length_take] at h1
      omega
    rw [List.getElem?_take_of_lt hjl] at hj
    obtain ⟨x', y1, y2, y3, y4⟩ := am_hrow g9 hjl
    rw [quad j z' hj] at y3 y4
    exact Or.inr ⟨y3, _, hts _ y4, hnc x x' g6 y2 (fun q => y1 q.symm)⟩
  · simp only [covers, Bool.and_eq_true, decide_eq_true_eq]
    exact ⟨g2, g3⟩
/-- behind the call: the walk goes on with what the callee came to -/
theorem am_back {T : State} {g : JFrame} {mk : MethodId} {a : Array Value} {r : List Value} {ig : Instr}
    (hC : am_C l D ad cA A k p R s m args meth c M.2.2.2 Bc Bs) (hE : am_E l D ad cA A k p e R s m args below meth c M.2.2.2 Q Bc Bs Z) (hL : am_L ad ls (am_nL k) L) (hS : va_S A s.heap T.heap locs) (hb1 : cells + M.2.2.1 = Bc) (hb2 : slots + 6 * M.2.2.1 = Bs)
    (X : Stand p l e R s m args below meth c T locs cells slots) (hg : g = F0 m pc ls (r.map (am_v ad))) (hdg : decode c.code g.pc = .ok (ig, 3)) {t : State}
    (ht : am_Z D ad cA (va_A (am_w ad cA M) T.heap.size) (T.calling g mk a) (.java g :: below) M.2.2.2 (am_af (am_X l) k pc L r Q) M.2.2.1 (6 * M.2.2.1) t) :
    ∃ t', Steps p.tables e below t t' ∧ Z t' := by
  obtain ⟨res, o, M', Lc, hrun, hend, hout, hQ, hscr, hle, hP', hS', hW', hsame⟩ := ht
  obtain ⟨hx, hb, hr, hml, hown, hts, hlk, het, hK, hDA, hA, hfl, hRl, hRf, hRc, hRs, hX1, hX2, hX3, hsta, hnc⟩ := id hC
  have hSS := am_S_app hS hS' (am_A_sub hDA hA hS)
  have hgm : g.method = m := by rw [hg]
  cases res with
  | inl v =>
    have ho : o = .returned (v.map (am_v ad)) := hout
    subst ho
    obtain ⟨T', X', hWT, -, ht⟩ := X.outOf hgm hdg hend hW' hsame
    have hth : t.heap = T'.heap := by rw [ht]; rfl
    rw [hth] at hP' hSS
    have hgo : am_X l k (pc + 3) L (v.toList ++ r) M' Q := hQ
    have hw := hgo D ad cA A p e R s m args below meth c Bc Bs Z T'.heap (locs ++ Lc) (cells + (M.2.2.1 + am_x (.inl v) - M'.2.2.1)) (slots + (6 * M.2.2.1 + 6 * am_x (.inl v) - 6 * M'.2.2.1)) ls (by rw [hscr]; exact hC) (by rw [hscr]; exact hE) hL hP' hSS (by simp only [am_x]; omega) (by simp only [am_x]; omega)
    obtain ⟨t', a1, b1⟩ := hw T' rfl X'
    refine ⟨t', ?_, b1⟩
    rw [ht, hg, am_rest] at *
    exact a1
  | inr x =>
    obtain ⟨aa, ho, hex⟩ := hout
    subst ho
    obtain ⟨T', X', hWT, -, ht⟩ := X.outOfThrown hgm hend hW' hsame
    have hth : t.heap = T'.heap := by rw [ht]; exact Stand.throwing_heap T' g aa
    rw [hth] at hP' hSS hex
    have hex' : am_ex x s aa T'.heap := by
      obtain ⟨cell, h1, h2, h3⟩ := hex
      refine ⟨cell, h1, h2, ?_⟩
      have : (T.calling g mk a).vm = T.vm := rfl
      rw [this, X.warmed.alike.findClass] at h3
      exact h3
    cases hh : am_hd k pc x with
    | none =>
      have hQ : am_et k = [] ∧ Q (.inr x) M' := by
        have h0 : (match am_hd k pc x with | none => am_et k = [] ∧ Q (.inr x) M' | some v => 0 < M'.2.2.1 ∧ Q (.inl (some (.int v))) (am_pay M')) := hQ
        rw [hh] at h0
        exact h0
      obtain ⟨he, hQ⟩ := hQ
      have htab : c.exceptionTable.toList = [] := by
        rw [he] at het
        exact List.map_eq_nil_iff.mp het
      obtain ⟨hwalk, hrun', hended, hWU, hsameU⟩ := X'.leaveThrown aa (g := g) hgm (by rw [hg]) (by rw [hg]) (fun z hz => by rw [htab] at hz; cases hz) hlk
      refine ⟨_, by rw [ht]; exact hwalk, hE.2.2 x aa M' _ (locs ++ Lc) hrun' hended hex' hQ hscr hP' hSS hWU (by omega) (hsameU.mono ?_ ?_)⟩
      · simp only [am_x]; omega
      · simp only [am_x]; omega
    | some v =>
      have hQ : 0 < M'.2.2.1 ∧ Q (.inl (some (.int v))) (am_pay M') := by
        have h0 : (match am_hd k pc x with | none => am_et k = [] ∧ Q (.inr x) M' | some v => 0 < M'.2.2.1 ∧ Q (.inl (some (.int v))) (am_pay M')) := hQ
        rw [hh] at h0
        exact h0
      obtain ⟨hpos, hQ⟩ := hQ
      have hw := am_catch (ls := ls) (r := r) hC hE hL hh hex' X' hpos hQ hscr hP' hSS (by simp only [am_x]; omega) (by simp only [am_x]; omega)
      obtain ⟨t', a1, b1⟩ := hw
      refine ⟨t', ?_, b1⟩
      rw [ht, hg]
      exact a1
theorem am_right_v {ix len : Nat} (hd : decode (am_bytes k) pc = .ok (.invokevirtual ix, len)) (h : am_do (am_X l) k pc (.invokevirtual ix) len L st M Q)
    (hC : am_C l D ad cA A k p R s m args meth c M.2.2.2 Bc Bs) (hE : am_E l D ad cA A k p e R s m args below meth c M.2.2.2 Q Bc Bs Z) (hL : am_L ad ls (am_nL k) L) (hP : va_P D am_cl (am_w ad cA M) H) (hS : va_S A s.heap H locs) (hb1 : cells + M.2.2.1 = Bc) (hb2 : slots + 6 * M.2.2.1 = Bs) :
    W p l e R s m args below meth c H locs cells slots Z (F0 m pc ls (st.map (am_v ad))) := by
  obtain ⟨rfl, kc, q, ci, As, r, fs, h2, rfl, h4, h5, h6, h7, h8, h9, h⟩ := h
  obtain ⟨hx, hb, hr, hml, hown, hts, hlk, het, hK, hDA, hA, hfl, hRl, hRf, hRc, hRs, hX1, hX2, hX3, hsta, hnc⟩ := id hC
  obtain ⟨y1, y2, y3, y4, y5, y6, y7, y8, y9⟩ := am_mth_v h2 h7
  obtain ⟨mk, methk, ck, n1, n2, n3, n4, n5, n6, n7, n8, n9⟩ := am_code_of (hts _ y1)
  intro T hT X
  subst hT
  have hok : ∀ v ∈ (Value.ref q :: As), am_ok v = true := by
    intro v hv
    rcases List.mem_cons.mp hv with rfl | hv
    · rfl
    · exact List.all_eq_true.mp h8 v hv
  obtain ⟨cellB, c1, c2, c3⟩ := am_obj (hP q _ (am_w_at h6)) hK y8
  have hlen : (As.map (am_v ad)).length = methk.sig.parameters.length := by
    have h0 := y6
    rw [n9] at h0
    have h0 : methk.sig.parameters.length + 1 = am_na kc := Option.some.inj h0
    rw [List.length_map]
    omega
  have hsz : ls.size = c.maxLocals := by rw [hml]; exact hL.2.1
  obtain ⟨vm₁, X₁, st1⟩ := am_goV X hx (g := F0 m pc ls ((As.reverse ++ .ref q :: r).map (am_v ad))) hown (y2.imp (fun z => hts _ z) (fun ⟨host, z⟩ => ⟨host, hts _ z⟩)) (hts _ y3) (hts _ y4) y5 n1 n2 c1 c2 c3 rfl (argsL := As.map (am_v ad)) (rest := r.map (am_v ad)) hlen (by simp [am_v, List.map_append, List.map_reverse]) (by rw [hb]; exact hd)
  have hcal := am_callee (T := T.setVm vm₁) (g := F0 m pc ls (r.map (am_v ad))) (mk := mk) (methk := methk) (ck := ck) (as := .ref q :: As) (e := e) (below := below) hC hS X₁.warmed trivial (kc := kc) hok (by rw [List.length_cons, ← h4]; exact y7) n1 n4 n5 n7 n8 n6 hP h
  obtain ⟨t, st2, hz⟩ := am_into X₁ (g := F0 m pc ls (r.map (am_v ad))) rfl hsz (by rw [hb]; exact hd) (as := (Value.ref q :: As).map (am_v ad)) (R' := am_rm kc M.2.2.1) y9 n1 n2 n3 n8 (by simp only [am_rm]; omega) (by
      have hw8 : ((r.map (am_v ad)).map fun v => v.category).sum ≤ 8 := by
        rw [List.map_map]
        have : ((fun v : Value => v.category) ∘ am_v ad) = fun v : Value => v.category := by funext v; cases v <;> rfl
        rw [this]; exact h9
      have hl21 := am_nL_le kc
      simp only [am_rm]
      rw [n5]
      have : 2 * (F0 m pc ls (r.map (am_v ad))).monitorRoom + ((F0 m pc ls (r.map (am_v ad))).stack.map fun v => v.category).sum ≤ 8 := lv_room (m := m) (pc := pc) (ls := ls) (rest := r.map (am_v ad)) hw8
      have h5' : (am_rk kc + 1) * 34 ≤ am_rk k * 34 := Nat.mul_le_mul_right 34 h5
      omega) (by simp only [am_rm]; omega) (by simp only [am_rm]; omega) hcal
  obtain ⟨t', a1, b1⟩ := am_back (T := T.setVm vm₁) (ls := ls) (r := r) (g := F0 m pc ls (r.map (am_v ad))) (mk := mk) hC hE hL hS hb1 hb2 X₁ rfl (by rw [hb]; exact hd) hz
  exact ⟨t', st1 _ (st2.trans a1), b1⟩
theorem am_right_s {ix len : Nat} (hd : decode (am_bytes k) pc = .ok (.invokestatic ix, len)) (h : am_do (am_X l) k pc (.invokestatic ix) len L st M Q)
    (hC : am_C l D ad cA A k p R s m args meth c M.2.2.2 Bc Bs) (hE : am_E l D ad cA A k p e R s m args below meth c M.2.2.2 Q Bc Bs Z) (hL : am_L ad ls (am_nL k) L) (hP : va_P D am_cl (am_w ad cA M) H) (hS : va_S A s.heap H locs) (hb1 : cells + M.2.2.1 = Bc) (hb2 : slots + 6 * M.2.2.1 = Bs) :
    W p l e R s m args below meth c H locs cells slots Z (F0 m pc ls (st.map (am_v ad))) := by
  obtain ⟨hx, hb, hr, hml, hown, hts, hlk, het, hK, hDA, hA, hfl, hRl, hRf, hRc, hRs, hX1, hX2, hX3, hsta, hnc⟩ := id hC
  have hw8 : ∀ r : List Value, (r.map fun v => v.category).sum ≤ 8 → ((r.map (am_v ad)).map fun v => v.category).sum ≤ 8 := by
    intro r h9
    rw [List.map_map]
    have : ((fun v : Value => v.category) ∘ am_v ad) = fun v : Value => v.category := by funext v; cases v <;> rfl
    rw [this]; exact h9
  have hsz : ls.size = c.maxLocals := by rw [hml]; exact hL.2.1
  obtain ⟨rfl, ⟨y, x, r, h2, h0, rfl, h9, h⟩ | ⟨y, x, r, h2, h0, rfl, h9, h⟩ | ⟨kc, As, r, h2, rfl, h4, h5, h7, h8, h9, h⟩⟩ := h
  · obtain ⟨y1, y2, y3, y4⟩ := am_mx_t h2
    have h9' := hw8 r h9
    exact va_mmax hx hb hsz.symm hown (hts _ y1) (hts _ y2) (hts _ y3) (hts _ y4) (by omega) (by omega) (by omega) (by omega) hd (h D ad cA A p e R s m args below meth c Bc Bs Z H locs cells slots _ hC hE hL hP hS hb1 hb2)
  · obtain ⟨y1, y2, y3, y4⟩ := am_mx_f h2
    have h9' := hw8 r h9
    exact va_mmin hx hb hsz.symm hown (hts _ y1) (hts _ y2) (hts _ y3) (hts _ y4) (by omega) (by omega) (by omega) (by omega) hd (h D ad cA A p e R s m args below meth c Bc Bs Z H locs cells slots _ hC hE hL hP hS hb1 hb2)
  · obtain ⟨y1, y2, y3, y4, y5, y6, y7, y9⟩ := am_mth_s h2 h7
    obtain ⟨mk, methk, ck, n1, n2, n3, n4, n5, n6, n7, n8, n9⟩ := am_code_of (hts _ y1)
    intro T hT X
    subst hT
    have hok : ∀ v ∈ As, am_ok v = true := fun v hv => List.all_eq_true.mp h8 v hv
    have hlen : (As.map (am_v ad)).length = methk.sig.parameters.length := by
      have h0 := y6
      rw [n9] at h0
      have h0 : methk.sig.parameters.length = am_na kc := Option.some.inj h0
      rw [List.length_map]
      omega
    obtain ⟨vm₁, X₁, st1⟩ := am_goS X hx (g := F0 m pc ls ((As.reverse ++ r).map (am_v ad))) hown (y2.imp (fun z => hts _ z) (fun ⟨host, z⟩ => ⟨host, hts _ z⟩)) (hts _ y3) (hts _ y4) y5 n1 n2 rfl (argsL := As.map (am_v ad)) (rest := r.map (am_v ad)) hlen (by simp [List.map_append, List.map_reverse]) (by rw [hb]; exact hd)
    have hcal := am_callee (T := T.setVm vm₁) (g := F0 m pc ls (r.map (am_v ad))) (mk := mk) (methk := methk) (ck := ck) (as := As) (e := e) (below := below) hC hS X₁.warmed trivial (kc := kc) hok (by rw [← h4]; exact y7) n1 n4 n5 n7 n8 n6 hP h
    have hw9 := hw8 r h9
    obtain ⟨t, st2, hz⟩ := am_into X₁ (g := F0 m pc ls (r.map (am_v ad))) rfl hsz (by rw [hb]; exact hd) (as := As.map (am_v ad)) (R' := am_rm kc M.2.2.1) y9 n1 n2 n3 n8 (by simp only [am_rm]; omega) (by
        have hl21 := am_nL_le kc
        simp only [am_rm]
        rw [n5]
        have : 2 * (F0 m pc ls (r.map (am_v ad))).monitorRoom + ((F0 m pc ls (r.map (am_v ad))).stack.map fun v => v.category).sum ≤ 8 := lv_room (m := m) (pc := pc) (ls := ls) (rest := r.map (am_v ad)) (hw8 r h9)
        have h5' : (am_rk kc + 1) * 34 ≤ am_rk k * 34 := Nat.mul_le_mul_right 34 h5
        omega) (by simp only [am_rm]; omega) (by simp only [am_rm]; omega) hcal
    obtain ⟨t', a1, b1⟩ := am_back (T := T.setVm vm₁) (ls := ls) (r := r) (g := F0 m pc ls (r.map (am_v ad))) (mk := mk) hC hE hL hS hb1 hb2 X₁ rfl (by rw [hb]; exact hd) hz
    exact ⟨t', st1 _ (st2.trans a1), b1⟩
theorem am_catW {r : List Value} (h : (r.map fun v => v.category).sum ≤ 8) : ((r.map (am_v ad)).map fun v => v.category).sum ≤ 8 := by
  rw [List.map_map]
  have : ((fun v : Value => v.category) ∘ am_v ad) = fun v : Value => v.category := by funext v; cases v <;> rfl
  rw [this]; exact h
theorem am_right_n {ix len : Nat} (hd : decode (am_bytes k) pc = .ok (.new ix, len)) (h : am_do (am_X l) k pc (.new ix) len L st M Q)
    (hC : am_C l D ad cA A k p R s m args meth c M.2.2.2 Bc Bs) (hE : am_E l D ad cA A k p e R s m args below meth c M.2.2.2 Q Bc Bs Z) (hL : am_L ad ls (am_nL k) L) (hP : va_P D am_cl (am_w ad cA M) H) (hS : va_S A s.heap H locs) (hb1 : cells + M.2.2.1 = Bc) (hb2 : slots + 6 * M.2.2.1 = Bs) :
    W p l e R s m args below meth c H locs cells slots Z (F0 m pc ls (st.map (am_v ad))) := by
  obtain ⟨rfl, x, hx0, hw8, hQ⟩ := h
  obtain ⟨hx, hb, hr, hml, hown, hts, hlk, het, hK, hDA, hA, hfl, hRl, hRf, hRc, hRs, hX1, hX2, hX3, hsta, hnc⟩ := id hC
  obtain ⟨is, ic, pl, ps, tx, hchk⟩ := am_exc_ok hx0
  unfold am_xchk at hchk
  simp only [Bool.and_eq_true, decide_eq_true_eq] at hchk
  obtain ⟨⟨⟨⟨⟨⟨⟨⟨⟨⟨⟨⟨⟨g1, g2⟩, g3⟩, g4⟩, g5⟩, g6⟩, g7⟩, g8⟩, g9⟩, g10⟩, g11⟩, g12⟩, g13⟩, g14⟩ := hchk
  subst g5
  rw [g1] at hown
  obtain ⟨sa, hstr⟩ := am_str (hts _ (am_in_t g12 rfl))
  have htab : c.exceptionTable.toList = [] := by rw [g2] at het; exact List.map_eq_nil_iff.mp het
  have hsz : ls.size = c.maxLocals := by rw [hml]; exact hL.2.1
  have h8 := am_catW (ad := ad) hw8
  have hl : l.stackTraces = false := by unfold Launch.stackTraces; rw [hfl]; decide
  intro T hT X
  obtain ⟨U, st, o, hrun, hend, hq⟩ := vx_throwS (rest := st.map (am_v ad)) (ls := ls) (names := am_sup) (own := "BranchedPast") (cls := am_xn x) (text := tx) (ik := ix) (is := is) (sa := sa) (A := A) (mc := cells + 1) (ms := slots + 6) (free := A) (Qc := fun _ _ _ _ => False) (XC := fun E _ t => E = am_xn x ∧ H.size ≤ t.heap.size ∧ ∀ q : Nat, q < H.size → t.heap[q]? = H[q]?)
    hx hb hl hown g13 (fun n hn => List.all_eq_true.mp g14 n hn) (hts _ (am_in_t g10 rfl)) (hts _ (am_in_t g11 rfl)) hstr (fun w hw => hts w (am_at g4 w hw).1)
    (fun w hw => by
      rcases List.mem_cons.mp hw with rfl | hw
      · rfl
      · rcases List.mem_cons.mp hw with rfl | hw
        · rfl
        · exact (am_at g4 w hw).2)
    hsta.1 hsta.2 hS hsz hd g6 g7 g8 g9 (fun z hz => by rw [htab] at hz; cases hz) (by show 2 + 3 < R.frames; omega) (by show _ + (13 * (2 + 1) + 43) ≤ R.locals; omega) (by omega) (by omega) hlk (fun t _ h1 h2 => ⟨rfl, h1, h2⟩) hS.2.2 (Nat.le_refl _) (Nat.le_refl _) T hT X
  rcases hq with ⟨hf, -⟩ | ⟨q, rfl, E, ce, L9, ⟨rfl, f1, f2⟩, hce, hv, hcl, hW, hsame, hfr⟩
  · exact hf.elim
  · refine ⟨U, st, hE.2.2 x q M U L9 hrun hend ⟨ce, hce, hv, hcl⟩ hQ rfl (hP.kept (fun j z hz => f2 _ (hP j z hz).lt)) ⟨Nat.le_trans hS.1 f1, fun z hz hn => ?_, hfr⟩ hW (by omega) (hsame.mono (by omega) (by omega))⟩
    rw [f2 z (Nat.lt_of_lt_of_le hz hS.1)]
    exact hS.2.1 z hz hn
theorem am_right (l : Launch) : am_Cl (am_X l) := by
  intro k pc L st M Q i len hd h D ad cA A p e R s m args below meth c Bc Bs Z H locs cells slots ls hC hE hL hP hS hb1 hb2
  by_cases h1 : ∃ ix, i = .invokevirtual ix
  · obtain ⟨ix, rfl⟩ := h1
    exact am_right_v hd h hC hE hL hP hS hb1 hb2
  · by_cases h2 : ∃ ix, i = .invokestatic ix
    · obtain ⟨ix, rfl⟩ := h2
      exact am_right_s hd h hC hE hL hP hS hb1 hb2
    · by_cases h3 : ∃ ix, i = .new ix
      · obtain ⟨ix, rfl⟩ := h3
        exact am_right_n hd h hC hE hL hP hS hb1 hb2
      · exact am_right_simple hd h (fun ix z => h1 ⟨ix, z⟩) (fun ix z => h2 ⟨ix, z⟩) (fun ix z => h3 ⟨ix, z⟩) hC hE hL hP hS hb1 hb2
/-- what the abstract machine ends, the real one ends -/
theorem am_go {l : Launch} (h : am_W k pc L st M Q) : am_X l k pc L st M Q := h _ (am_right l)
end AMZ
end
