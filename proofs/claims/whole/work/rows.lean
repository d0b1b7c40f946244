section
-- ===== PART A: goes FIRST, ahead of the names: the tables' words, and 'selects' of the private methods out of them =====
/-- a private method of a class that the tables say can be made, by its rows of tables_1 -/
def lw_okq (q : MethodName × Nat) : Prop := (q.1.cls ≠ "java/lang/invoke/MethodHandle" ∧ q.1.cls ≠ "java/lang/invoke/VarHandle") ∧ Cond.instantiable q.1.cls q.2 ∈ tables_1 ∧ Cond.privateMethod q.1 ∈ tables_1 ∧ Cond.instanceMethod q.1 ∈ tables_1
theorem lw_p0 : lw_okq (⟨"TiltBoards$Rules", "sortKinds", "()V"⟩, 3) := ⟨⟨by decide +kernel, by decide +kernel⟩, List.mem_of_getElem? (i := 25) (by decide +kernel), List.mem_of_getElem? (i := 35) (by decide +kernel), List.mem_of_getElem? (i := 36) (by decide +kernel)⟩
theorem lw_p1 : lw_okq (⟨"TiltBoards", "recorded", "(I)I"⟩, 9) := ⟨⟨by decide +kernel, by decide +kernel⟩, List.mem_of_getElem? (i := 11) (by decide +kernel), List.mem_of_getElem? (i := 239) (by decide +kernel), List.mem_of_getElem? (i := 240) (by decide +kernel)⟩
theorem lw_p2 : lw_okq (⟨"TiltBoards$Board", "slideHeap", "(IILTiltBoards$Rules;)V"⟩, 6) := ⟨⟨by decide +kernel, by decide +kernel⟩, List.mem_of_getElem? (i := 57) (by decide +kernel), List.mem_of_getElem? (i := 361) (by decide +kernel), List.mem_of_getElem? (i := 362) (by decide +kernel)⟩
theorem lw_p3 : lw_okq (⟨"TiltBoards$Board", "stopMoving", "(I)V"⟩, 6) := ⟨⟨by decide +kernel, by decide +kernel⟩, List.mem_of_getElem? (i := 57) (by decide +kernel), List.mem_of_getElem? (i := 372) (by decide +kernel), List.mem_of_getElem? (i := 373) (by decide +kernel)⟩
theorem lw_p4 : lw_okq (⟨"TiltBoards$Orders", "readOrder", "()V"⟩, 9) := ⟨⟨by decide +kernel, by decide +kernel⟩, List.mem_of_getElem? (i := 136) (by decide +kernel), List.mem_of_getElem? (i := 408) (by decide +kernel), List.mem_of_getElem? (i := 409) (by decide +kernel)⟩
theorem lw_p5 : lw_okq (⟨"TiltBoards$Orders", "readVerb", "()V"⟩, 9) := ⟨⟨by decide +kernel, by decide +kernel⟩, List.mem_of_getElem? (i := 136) (by decide +kernel), List.mem_of_getElem? (i := 412) (by decide +kernel), List.mem_of_getElem? (i := 413) (by decide +kernel)⟩
theorem lw_p6 : lw_okq (⟨"TiltBoards$Orders", "readDigit", "(II)I"⟩, 9) := ⟨⟨by decide +kernel, by decide +kernel⟩, List.mem_of_getElem? (i := 136) (by decide +kernel), List.mem_of_getElem? (i := 419) (by decide +kernel), List.mem_of_getElem? (i := 420) (by decide +kernel)⟩
theorem lw_p7 : lw_okq (⟨"TiltBoards$Orders", "readSign", "(C)V"⟩, 9) := ⟨⟨by decide +kernel, by decide +kernel⟩, List.mem_of_getElem? (i := 136) (by decide +kernel), List.mem_of_getElem? (i := 424) (by decide +kernel), List.mem_of_getElem? (i := 425) (by decide +kernel)⟩
theorem lw_p8 : lw_okq (⟨"TiltBoards$Orders", "readNumber", "(II)I"⟩, 9) := ⟨⟨by decide +kernel, by decide +kernel⟩, List.mem_of_getElem? (i := 136) (by decide +kernel), List.mem_of_getElem? (i := 428) (by decide +kernel), List.mem_of_getElem? (i := 429) (by decide +kernel)⟩
theorem lw_p9 : lw_okq (⟨"TiltBoards", "carryOut", "()I"⟩, 9) := ⟨⟨by decide +kernel, by decide +kernel⟩, List.mem_of_getElem? (i := 11) (by decide +kernel), List.mem_of_getElem? (i := 434) (by decide +kernel), List.mem_of_getElem? (i := 435) (by decide +kernel)⟩
theorem lw_p10 : lw_okq (⟨"TiltBoards", "tryAngle", "(II)I"⟩, 9) := ⟨⟨by decide +kernel, by decide +kernel⟩, List.mem_of_getElem? (i := 11) (by decide +kernel), List.mem_of_getElem? (i := 520) (by decide +kernel), List.mem_of_getElem? (i := 521) (by decide +kernel)⟩
theorem lw_p11 : lw_okq (⟨"TiltBoardsModel", "looks", "()V"⟩, 16) := ⟨⟨by decide +kernel, by decide +kernel⟩, List.mem_of_getElem? (i := 565) (by decide +kernel), List.mem_of_getElem? (i := 630) (by decide +kernel), List.mem_of_getElem? (i := 631) (by decide +kernel)⟩
theorem lw_p12 : lw_okq (⟨"TiltBoardsModel", "lays", "(II)I"⟩, 16) := ⟨⟨by decide +kernel, by decide +kernel⟩, List.mem_of_getElem? (i := 565) (by decide +kernel), List.mem_of_getElem? (i := 634) (by decide +kernel), List.mem_of_getElem? (i := 635) (by decide +kernel)⟩
theorem lw_p13 : lw_okq (⟨"TiltBoardsModel", "acted", "(I)I"⟩, 16) := ⟨⟨by decide +kernel, by decide +kernel⟩, List.mem_of_getElem? (i := 565) (by decide +kernel), List.mem_of_getElem? (i := 638) (by decide +kernel), List.mem_of_getElem? (i := 639) (by decide +kernel)⟩
theorem lw_p14 : lw_okq (⟨"TiltBoardsModel", "records", "()V"⟩, 16) := ⟨⟨by decide +kernel, by decide +kernel⟩, List.mem_of_getElem? (i := 565) (by decide +kernel), List.mem_of_getElem? (i := 642) (by decide +kernel), List.mem_of_getElem? (i := 643) (by decide +kernel)⟩
theorem lw_p15 : lw_okq (⟨"TiltBoardsModel", "pours", "(IIII)I"⟩, 16) := ⟨⟨by decide +kernel, by decide +kernel⟩, List.mem_of_getElem? (i := 565) (by decide +kernel), List.mem_of_getElem? (i := 656) (by decide +kernel), List.mem_of_getElem? (i := 657) (by decide +kernel)⟩
def lw_privs_1 : List (MethodName × Nat) := [(⟨"TiltBoards$Rules", "sortKinds", "()V"⟩, 3), (⟨"TiltBoards", "recorded", "(I)I"⟩, 9), (⟨"TiltBoards$Board", "slideHeap", "(IILTiltBoards$Rules;)V"⟩, 6), (⟨"TiltBoards$Board", "stopMoving", "(I)V"⟩, 6), (⟨"TiltBoards$Orders", "readOrder", "()V"⟩, 9), (⟨"TiltBoards$Orders", "readVerb", "()V"⟩, 9), (⟨"TiltBoards$Orders", "readDigit", "(II)I"⟩, 9), (⟨"TiltBoards$Orders", "readSign", "(C)V"⟩, 9), (⟨"TiltBoards$Orders", "readNumber", "(II)I"⟩, 9), (⟨"TiltBoards", "carryOut", "()I"⟩, 9), (⟨"TiltBoards", "tryAngle", "(II)I"⟩, 9), (⟨"TiltBoardsModel", "looks", "()V"⟩, 16), (⟨"TiltBoardsModel", "lays", "(II)I"⟩, 16), (⟨"TiltBoardsModel", "acted", "(I)I"⟩, 16), (⟨"TiltBoardsModel", "records", "()V"⟩, 16), (⟨"TiltBoardsModel", "pours", "(IIII)I"⟩, 16)]
theorem lw_r1 : ∀ q ∈ lw_privs_1, lw_okq q := List.forall_mem_cons.mpr ⟨lw_p0, List.forall_mem_cons.mpr ⟨lw_p1, List.forall_mem_cons.mpr ⟨lw_p2, List.forall_mem_cons.mpr ⟨lw_p3, List.forall_mem_cons.mpr ⟨lw_p4, List.forall_mem_cons.mpr ⟨lw_p5, List.forall_mem_cons.mpr ⟨lw_p6, List.forall_mem_cons.mpr ⟨lw_p7, List.forall_mem_cons.mpr ⟨lw_p8, List.forall_mem_cons.mpr ⟨lw_p9, List.forall_mem_cons.mpr ⟨lw_p10, List.forall_mem_cons.mpr ⟨lw_p11, List.forall_mem_cons.mpr ⟨lw_p12, List.forall_mem_cons.mpr ⟨lw_p13, List.forall_mem_cons.mpr ⟨lw_p14, List.forall_mem_cons.mpr ⟨lw_p15, fun _ h => absurd h List.not_mem_nil⟩⟩⟩⟩⟩⟩⟩⟩⟩⟩⟩⟩⟩⟩⟩⟩
theorem lw_p16 : lw_okq (⟨"TiltBoardsModel", "onCell", "(II)I"⟩, 16) := ⟨⟨by decide +kernel, by decide +kernel⟩, List.mem_of_getElem? (i := 565) (by decide +kernel), List.mem_of_getElem? (i := 660) (by decide +kernel), List.mem_of_getElem? (i := 661) (by decide +kernel)⟩
theorem lw_p17 : lw_okq (⟨"TiltBoardsModel", "jolts", "(I)I"⟩, 16) := ⟨⟨by decide +kernel, by decide +kernel⟩, List.mem_of_getElem? (i := 565) (by decide +kernel), List.mem_of_getElem? (i := 671) (by decide +kernel), List.mem_of_getElem? (i := 672) (by decide +kernel)⟩
theorem lw_p18 : lw_okq (⟨"TiltBoardsModel", "heaps", "(I)I"⟩, 16) := ⟨⟨by decide +kernel, by decide +kernel⟩, List.mem_of_getElem? (i := 565) (by decide +kernel), List.mem_of_getElem? (i := 675) (by decide +kernel), List.mem_of_getElem? (i := 676) (by decide +kernel)⟩
theorem lw_p19 : lw_okq (⟨"TiltBoardsModel", "empties", "(I)I"⟩, 16) := ⟨⟨by decide +kernel, by decide +kernel⟩, List.mem_of_getElem? (i := 565) (by decide +kernel), List.mem_of_getElem? (i := 683) (by decide +kernel), List.mem_of_getElem? (i := 684) (by decide +kernel)⟩
theorem lw_p20 : lw_okq (⟨"TiltBoardsModel", "inPan", "(I)I"⟩, 16) := ⟨⟨by decide +kernel, by decide +kernel⟩, List.mem_of_getElem? (i := 565) (by decide +kernel), List.mem_of_getElem? (i := 687) (by decide +kernel), List.mem_of_getElem? (i := 688) (by decide +kernel)⟩
theorem lw_p21 : lw_okq (⟨"TiltBoardsModel", "passes", "(I)I"⟩, 16) := ⟨⟨by decide +kernel, by decide +kernel⟩, List.mem_of_getElem? (i := 565) (by decide +kernel), List.mem_of_getElem? (i := 704) (by decide +kernel), List.mem_of_getElem? (i := 705) (by decide +kernel)⟩
theorem lw_p22 : lw_okq (⟨"TiltBoardsModel", "fell", "()I"⟩, 16) := ⟨⟨by decide +kernel, by decide +kernel⟩, List.mem_of_getElem? (i := 565) (by decide +kernel), List.mem_of_getElem? (i := 708) (by decide +kernel), List.mem_of_getElem? (i := 709) (by decide +kernel)⟩
theorem lw_p23 : lw_okq (⟨"TiltBoardsModel", "tick", "(I)V"⟩, 16) := ⟨⟨by decide +kernel, by decide +kernel⟩, List.mem_of_getElem? (i := 565) (by decide +kernel), List.mem_of_getElem? (i := 712) (by decide +kernel), List.mem_of_getElem? (i := 713) (by decide +kernel)⟩
theorem lw_p24 : lw_okq (⟨"TiltBoardsModel", "kindAt", "(I)I"⟩, 16) := ⟨⟨by decide +kernel, by decide +kernel⟩, List.mem_of_getElem? (i := 565) (by decide +kernel), List.mem_of_getElem? (i := 716) (by decide +kernel), List.mem_of_getElem? (i := 717) (by decide +kernel)⟩
theorem lw_p25 : lw_okq (⟨"TiltBoardsModel", "why", "(III)I"⟩, 16) := ⟨⟨by decide +kernel, by decide +kernel⟩, List.mem_of_getElem? (i := 565) (by decide +kernel), List.mem_of_getElem? (i := 720) (by decide +kernel), List.mem_of_getElem? (i := 721) (by decide +kernel)⟩
theorem lw_p26 : lw_okq (⟨"TiltBoardsModel", "need", "(III)I"⟩, 16) := ⟨⟨by decide +kernel, by decide +kernel⟩, List.mem_of_getElem? (i := 565) (by decide +kernel), List.mem_of_getElem? (i := 724) (by decide +kernel), List.mem_of_getElem? (i := 725) (by decide +kernel)⟩
theorem lw_p27 : lw_okq (⟨"TiltBoardsModel", "roomBelow", "(II)I"⟩, 16) := ⟨⟨by decide +kernel, by decide +kernel⟩, List.mem_of_getElem? (i := 565) (by decide +kernel), List.mem_of_getElem? (i := 731) (by decide +kernel), List.mem_of_getElem? (i := 732) (by decide +kernel)⟩
theorem lw_p28 : lw_okq (⟨"TiltBoardsModel", "slides", "(III)V"⟩, 16) := ⟨⟨by decide +kernel, by decide +kernel⟩, List.mem_of_getElem? (i := 565) (by decide +kernel), List.mem_of_getElem? (i := 735) (by decide +kernel), List.mem_of_getElem? (i := 736) (by decide +kernel)⟩
theorem lw_p29 : lw_okq (⟨"TiltBoardsModel", "goes", "(Z)I"⟩, 16) := ⟨⟨by decide +kernel, by decide +kernel⟩, List.mem_of_getElem? (i := 565) (by decide +kernel), List.mem_of_getElem? (i := 751) (by decide +kernel), List.mem_of_getElem? (i := 752) (by decide +kernel)⟩
theorem lw_p30 : lw_okq (⟨"TiltBoardsModel", "readOrder", "()V"⟩, 16) := ⟨⟨by decide +kernel, by decide +kernel⟩, List.mem_of_getElem? (i := 565) (by decide +kernel), List.mem_of_getElem? (i := 755) (by decide +kernel), List.mem_of_getElem? (i := 756) (by decide +kernel)⟩
theorem lw_p31 : lw_okq (⟨"TiltBoardsModel", "takes", "(II)I"⟩, 16) := ⟨⟨by decide +kernel, by decide +kernel⟩, List.mem_of_getElem? (i := 565) (by decide +kernel), List.mem_of_getElem? (i := 759) (by decide +kernel), List.mem_of_getElem? (i := 760) (by decide +kernel)⟩
def lw_privs_2 : List (MethodName × Nat) := [(⟨"TiltBoardsModel", "onCell", "(II)I"⟩, 16), (⟨"TiltBoardsModel", "jolts", "(I)I"⟩, 16), (⟨"TiltBoardsModel", "heaps", "(I)I"⟩, 16), (⟨"TiltBoardsModel", "empties", "(I)I"⟩, 16), (⟨"TiltBoardsModel", "inPan", "(I)I"⟩, 16), (⟨"TiltBoardsModel", "passes", "(I)I"⟩, 16), (⟨"TiltBoardsModel", "fell", "()I"⟩, 16), (⟨"TiltBoardsModel", "tick", "(I)V"⟩, 16), (⟨"TiltBoardsModel", "kindAt", "(I)I"⟩, 16), (⟨"TiltBoardsModel", "why", "(III)I"⟩, 16), (⟨"TiltBoardsModel", "need", "(III)I"⟩, 16), (⟨"TiltBoardsModel", "roomBelow", "(II)I"⟩, 16), (⟨"TiltBoardsModel", "slides", "(III)V"⟩, 16), (⟨"TiltBoardsModel", "goes", "(Z)I"⟩, 16), (⟨"TiltBoardsModel", "readOrder", "()V"⟩, 16), (⟨"TiltBoardsModel", "takes", "(II)I"⟩, 16)]
theorem lw_r2 : ∀ q ∈ lw_privs_2, lw_okq q := List.forall_mem_cons.mpr ⟨lw_p16, List.forall_mem_cons.mpr ⟨lw_p17, List.forall_mem_cons.mpr ⟨lw_p18, List.forall_mem_cons.mpr ⟨lw_p19, List.forall_mem_cons.mpr ⟨lw_p20, List.forall_mem_cons.mpr ⟨lw_p21, List.forall_mem_cons.mpr ⟨lw_p22, List.forall_mem_cons.mpr ⟨lw_p23, List.forall_mem_cons.mpr ⟨lw_p24, List.forall_mem_cons.mpr ⟨lw_p25, List.forall_mem_cons.mpr ⟨lw_p26, List.forall_mem_cons.mpr ⟨lw_p27, List.forall_mem_cons.mpr ⟨lw_p28, List.forall_mem_cons.mpr ⟨lw_p29, List.forall_mem_cons.mpr ⟨lw_p30, List.forall_mem_cons.mpr ⟨lw_p31, fun _ h => absurd h List.not_mem_nil⟩⟩⟩⟩⟩⟩⟩⟩⟩⟩⟩⟩⟩⟩⟩⟩
theorem lw_p32 : lw_okq (⟨"TiltBoardsModel", "takesNumber", "(II)I"⟩, 16) := ⟨⟨by decide +kernel, by decide +kernel⟩, List.mem_of_getElem? (i := 565) (by decide +kernel), List.mem_of_getElem? (i := 763) (by decide +kernel), List.mem_of_getElem? (i := 764) (by decide +kernel)⟩
theorem lw_p33 : lw_okq (⟨"TiltBoardsModel", "isNext", "(II)Z"⟩, 16) := ⟨⟨by decide +kernel, by decide +kernel⟩, List.mem_of_getElem? (i := 565) (by decide +kernel), List.mem_of_getElem? (i := 767) (by decide +kernel), List.mem_of_getElem? (i := 768) (by decide +kernel)⟩
theorem lw_p34 : lw_okq (⟨"TiltBoardsModel", "does", "()I"⟩, 16) := ⟨⟨by decide +kernel, by decide +kernel⟩, List.mem_of_getElem? (i := 565) (by decide +kernel), List.mem_of_getElem? (i := 771) (by decide +kernel), List.mem_of_getElem? (i := 772) (by decide +kernel)⟩
theorem lw_p35 : lw_okq (⟨"TiltBoardsModel", "onBoard", "(I)I"⟩, 16) := ⟨⟨by decide +kernel, by decide +kernel⟩, List.mem_of_getElem? (i := 565) (by decide +kernel), List.mem_of_getElem? (i := 799) (by decide +kernel), List.mem_of_getElem? (i := 800) (by decide +kernel)⟩
theorem lw_p36 : lw_okq (⟨"TiltBoardsModel", "movingHeaps", "(I)I"⟩, 16) := ⟨⟨by decide +kernel, by decide +kernel⟩, List.mem_of_getElem? (i := 565) (by decide +kernel), List.mem_of_getElem? (i := 803) (by decide +kernel), List.mem_of_getElem? (i := 804) (by decide +kernel)⟩
theorem lw_p37 : lw_okq (⟨"TiltBoardsModel", "isAtRest", "(I)Z"⟩, 16) := ⟨⟨by decide +kernel, by decide +kernel⟩, List.mem_of_getElem? (i := 565) (by decide +kernel), List.mem_of_getElem? (i := 807) (by decide +kernel), List.mem_of_getElem? (i := 808) (by decide +kernel)⟩
theorem lw_p38 : lw_okq (⟨"TiltBoardsModel", "sumOf", "(II)I"⟩, 16) := ⟨⟨by decide +kernel, by decide +kernel⟩, List.mem_of_getElem? (i := 565) (by decide +kernel), List.mem_of_getElem? (i := 819) (by decide +kernel), List.mem_of_getElem? (i := 820) (by decide +kernel)⟩
theorem lw_p39 : lw_okq (⟨"TiltBoardsModel", "putAside", "()V"⟩, 16) := ⟨⟨by decide +kernel, by decide +kernel⟩, List.mem_of_getElem? (i := 565) (by decide +kernel), List.mem_of_getElem? (i := 839) (by decide +kernel), List.mem_of_getElem? (i := 840) (by decide +kernel)⟩
theorem lw_p40 : lw_okq (⟨"TiltBoardsModel", "settles", "(II)I"⟩, 16) := ⟨⟨by decide +kernel, by decide +kernel⟩, List.mem_of_getElem? (i := 565) (by decide +kernel), List.mem_of_getElem? (i := 843) (by decide +kernel), List.mem_of_getElem? (i := 844) (by decide +kernel)⟩
theorem lw_p41 : lw_okq (⟨"TiltBoardsModel", "putBack", "()V"⟩, 16) := ⟨⟨by decide +kernel, by decide +kernel⟩, List.mem_of_getElem? (i := 565) (by decide +kernel), List.mem_of_getElem? (i := 847) (by decide +kernel), List.mem_of_getElem? (i := 848) (by decide +kernel)⟩
theorem lw_p42 : lw_okq (⟨"TiltBoardsModel", "tilted", "(III)I"⟩, 16) := ⟨⟨by decide +kernel, by decide +kernel⟩, List.mem_of_getElem? (i := 565) (by decide +kernel), List.mem_of_getElem? (i := 855) (by decide +kernel), List.mem_of_getElem? (i := 856) (by decide +kernel)⟩
theorem lw_p43 : lw_okq (⟨"TiltBoardsModel", "sum", "(II)I"⟩, 16) := ⟨⟨by decide +kernel, by decide +kernel⟩, List.mem_of_getElem? (i := 565) (by decide +kernel), List.mem_of_getElem? (i := 871) (by decide +kernel), List.mem_of_getElem? (i := 872) (by decide +kernel)⟩
def lw_privs_3 : List (MethodName × Nat) := [(⟨"TiltBoardsModel", "takesNumber", "(II)I"⟩, 16), (⟨"TiltBoardsModel", "isNext", "(II)Z"⟩, 16), (⟨"TiltBoardsModel", "does", "()I"⟩, 16), (⟨"TiltBoardsModel", "onBoard", "(I)I"⟩, 16), (⟨"TiltBoardsModel", "movingHeaps", "(I)I"⟩, 16), (⟨"TiltBoardsModel", "isAtRest", "(I)Z"⟩, 16), (⟨"TiltBoardsModel", "sumOf", "(II)I"⟩, 16), (⟨"TiltBoardsModel", "putAside", "()V"⟩, 16), (⟨"TiltBoardsModel", "settles", "(II)I"⟩, 16), (⟨"TiltBoardsModel", "putBack", "()V"⟩, 16), (⟨"TiltBoardsModel", "tilted", "(III)I"⟩, 16), (⟨"TiltBoardsModel", "sum", "(II)I"⟩, 16)]
theorem lw_r3 : ∀ q ∈ lw_privs_3, lw_okq q := List.forall_mem_cons.mpr ⟨lw_p32, List.forall_mem_cons.mpr ⟨lw_p33, List.forall_mem_cons.mpr ⟨lw_p34, List.forall_mem_cons.mpr ⟨lw_p35, List.forall_mem_cons.mpr ⟨lw_p36, List.forall_mem_cons.mpr ⟨lw_p37, List.forall_mem_cons.mpr ⟨lw_p38, List.forall_mem_cons.mpr ⟨lw_p39, List.forall_mem_cons.mpr ⟨lw_p40, List.forall_mem_cons.mpr ⟨lw_p41, List.forall_mem_cons.mpr ⟨lw_p42, List.forall_mem_cons.mpr ⟨lw_p43, fun _ h => absurd h List.not_mem_nil⟩⟩⟩⟩⟩⟩⟩⟩⟩⟩⟩⟩
def lw_privs : List (MethodName × Nat) := lw_privs_1 ++ (lw_privs_2 ++ (lw_privs_3))
def lw_tbl : List Cond := k2_sels lw_privs ++ tables_1
theorem lw_privs_ok : ∀ q ∈ lw_privs, lw_okq q := by
  show ∀ q ∈ lw_privs_1 ++ (lw_privs_2 ++ (lw_privs_3)), lw_okq q
  exact List.forall_mem_append.mpr ⟨lw_r1, List.forall_mem_append.mpr ⟨lw_r2, lw_r3⟩⟩
end
section
def tb_cn : Nat → String := fun k => match k with
  | 0 => "TiltBoards$Board"
  | 1 => "TiltBoards$History"
  | 2 => "TiltBoards$Orders"
  | 3 => "TiltBoards$Rules"
  | 4 => "TiltBoards$State"
  | 5 => "TiltBoards"
  | 6 => "TiltBoardsModel"
  | 7 => "TiltBoardsLaw"
  | _ => ""
def tb_F0 : Nat → String × String × String × Bool := fun k => match k with
  | 0 => ("TiltBoards$Board", "heaps", "[I", true)
  | 1 => ("TiltBoards$Board", "moving", "[Z", true)
  | 2 => ("TiltBoards$Board", "pan", "[I", true)
  | 3 => ("TiltBoards$Board", "angle", "I", false)
  | 4 => ("TiltBoards$Board", "fallen", "I", false)
  | _ => ("TiltBoards$Board", "dust", "I", false)
def tb_T0 : Nat → FieldType := fun k => match k with
  | 0 => .array .int
  | 1 => .array .boolean
  | 2 => .array .int
  | 3 => .int
  | 4 => .int
  | _ => .int
def tb_F1 : Nat → String × String × String × Bool := fun k => match k with
  | 0 => ("TiltBoards$History", "states", "[LTiltBoards$State;", true)
  | 1 => ("TiltBoards$History", "oldest", "I", false)
  | _ => ("TiltBoards$History", "held", "I", false)
def tb_T1 : Nat → FieldType := fun k => match k with
  | 0 => .array (.object "TiltBoards$State")
  | 1 => .int
  | _ => .int
def tb_F2 : Nat → String × String × String × Bool := fun k => match k with
  | 0 => ("TiltBoards$Orders", "signs", "[C", true)
  | 1 => ("TiltBoards$Orders", "length", "I", false)
  | 2 => ("TiltBoards$Orders", "at", "I", false)
  | 3 => ("TiltBoards$Orders", "faulty", "Z", false)
  | 4 => ("TiltBoards$Orders", "verb", "C", false)
  | 5 => ("TiltBoards$Orders", "board", "I", false)
  | 6 => ("TiltBoards$Orders", "cell", "I", false)
  | 7 => ("TiltBoards$Orders", "kind", "I", false)
  | _ => ("TiltBoards$Orders", "number", "I", false)
def tb_T2 : Nat → FieldType := fun k => match k with
  | 0 => .array .char
  | 1 => .int
  | 2 => .int
  | 3 => .boolean
  | 4 => .char
  | 5 => .int
  | 6 => .int
  | 7 => .int
  | _ => .int
def tb_F3 : Nat → String × String × String × Bool := fun k => match k with
  | 0 => ("TiltBoards$Rules", "grips", "[I", true)
  | 1 => ("TiltBoards$Rules", "settings", "[I", true)
  | _ => ("TiltBoards$Rules", "slideOrder", "[I", true)
def tb_T3 : Nat → FieldType := fun k => match k with
  | 0 => .array .int
  | 1 => .array .int
  | _ => .array .int
def tb_F4 : Nat → String × String × String × Bool := fun k => match k with
  | 0 => ("TiltBoards$State", "rules", "LTiltBoards$Rules;", true)
  | 1 => ("TiltBoards$State", "boards", "[LTiltBoards$Board;", true)
  | 2 => ("TiltBoards$State", "poured", "[I", true)
  | 3 => ("TiltBoards$State", "emptied", "I", false)
  | _ => ("TiltBoards$State", "tick", "I", false)
def tb_T4 : Nat → FieldType := fun k => match k with
  | 0 => .object "TiltBoards$Rules"
  | 1 => .array (.object "TiltBoards$Board")
  | 2 => .array .int
  | 3 => .int
  | _ => .int
def tb_F5 : Nat → String × String × String × Bool := fun k => match k with
  | 0 => ("TiltBoards", "now", "LTiltBoards$State;", true)
  | 1 => ("TiltBoards", "before", "LTiltBoards$State;", true)
  | 2 => ("TiltBoards", "snapshot", "LTiltBoards$State;", true)
  | 3 => ("TiltBoards", "hasSnapshot", "Z", false)
  | 4 => ("TiltBoards", "history", "LTiltBoards$History;", true)
  | 5 => ("TiltBoards", "trial", "LTiltBoards$Board;", true)
  | 6 => ("TiltBoards", "text", "LTiltBoards$Orders;", true)
  | 7 => ("TiltBoards", "stopOrder", "I", false)
  | _ => ("TiltBoards", "stopError", "I", false)
def tb_T5 : Nat → FieldType := fun k => match k with
  | 0 => .object "TiltBoards$State"
  | 1 => .object "TiltBoards$State"
  | 2 => .object "TiltBoards$State"
  | 3 => .boolean
  | 4 => .object "TiltBoards$History"
  | 5 => .object "TiltBoards$Board"
  | 6 => .object "TiltBoards$Orders"
  | 7 => .int
  | _ => .int
def tb_F6 : Nat → String × String × String × Bool := fun k => match k with
  | 0 => ("TiltBoardsModel", "s", "[I", true)
  | 1 => ("TiltBoardsModel", "aside", "[I", true)
  | 2 => ("TiltBoardsModel", "ahead", "[I", true)
  | 3 => ("TiltBoardsModel", "snapshot", "[I", true)
  | 4 => ("TiltBoardsModel", "isKept", "Z", false)
  | 5 => ("TiltBoardsModel", "before", "[I", true)
  | 6 => ("TiltBoardsModel", "known", "I", false)
  | 7 => ("TiltBoardsModel", "text", "[I", true)
  | 8 => ("TiltBoardsModel", "length", "I", false)
  | 9 => ("TiltBoardsModel", "stopAt", "I", false)
  | 10 => ("TiltBoardsModel", "stopBy", "I", false)
  | 11 => ("TiltBoardsModel", "came", "[I", true)
  | 12 => ("TiltBoardsModel", "position", "I", false)
  | 13 => ("TiltBoardsModel", "isWrong", "Z", false)
  | 14 => ("TiltBoardsModel", "order", "[I", true)
  | _ => ("TiltBoardsModel", "stop", "I", false)
def tb_T6 : Nat → FieldType := fun k => match k with
  | 0 => .array .int
  | 1 => .array .int
  | 2 => .array .int
  | 3 => .array .int
  | 4 => .boolean
  | 5 => .array .int
  | 6 => .int
  | 7 => .array .int
  | 8 => .int
  | 9 => .int
  | 10 => .int
  | 11 => .array .int
  | 12 => .int
  | 13 => .boolean
  | 14 => .array .int
  | _ => .int
def tb_F : Nat → u_T := fun k => match k with
  | 0 => tb_F0
  | 1 => tb_F1
  | 2 => tb_F2
  | 3 => tb_F3
  | 4 => tb_F4
  | 5 => tb_F5
  | 6 => tb_F6
  | _ => tb_F0
def tb_T : Nat → (Nat → FieldType) := fun k => match k with
  | 0 => tb_T0
  | 1 => tb_T1
  | 2 => tb_T2
  | 3 => tb_T3
  | 4 => tb_T4
  | 5 => tb_T5
  | 6 => tb_T6
  | _ => tb_T0
def tb_nF : Nat → Nat := fun k => match k with
  | 0 => 6
  | 1 => 3
  | 2 => 9
  | 3 => 3
  | 4 => 5
  | 5 => 9
  | 6 => 16
  | _ => 0
def tb_nM : Nat := 156
def tb_ow : Nat → Nat := fun k => match k with
  | 0 => 0
  | 1 => 0
  | 2 => 0
  | 3 => 0
  | 4 => 0
  | 5 => 0
  | 6 => 0
  | 7 => 0
  | 8 => 0
  | 9 => 0
  | 10 => 0
  | 11 => 0
  | 12 => 0
  | 13 => 0
  | 14 => 0
  | 15 => 0
  | 16 => 1
  | 17 => 1
  | 18 => 1
  | 19 => 2
  | 20 => 2
  | 21 => 2
  | 22 => 2
  | 23 => 2
  | 24 => 2
  | 25 => 2
  | 26 => 2
  | 27 => 2
  | 28 => 2
  | 29 => 2
  | 30 => 2
  | 31 => 3
  | 32 => 3
  | 33 => 3
  | 34 => 3
  | 35 => 3
  | 36 => 3
  | 37 => 4
  | 38 => 4
  | 39 => 4
  | 40 => 4
  | 41 => 4
  | 42 => 4
  | 43 => 4
  | 44 => 4
  | 45 => 4
  | 46 => 4
  | 47 => 4
  | 48 => 4
  | 49 => 4
  | 50 => 4
  | 51 => 4
  | 52 => 4
  | 53 => 4
  | 54 => 5
  | 55 => 5
  | 56 => 5
  | 57 => 5
  | 58 => 5
  | 59 => 5
  | 60 => 5
  | 61 => 5
  | 62 => 5
  | 63 => 5
  | 64 => 5
  | 65 => 5
  | 66 => 5
  | 67 => 5
  | 68 => 5
  | 69 => 5
  | 70 => 5
  | 71 => 5
  | 72 => 5
  | 73 => 5
  | 74 => 5
  | 75 => 5
  | 76 => 5
  | 77 => 5
  | 78 => 5
  | 79 => 5
  | 80 => 5
  | 81 => 5
  | 82 => 5
  | 83 => 5
  | 84 => 5
  | 85 => 5
  | 86 => 5
  | 87 => 5
  | 88 => 5
  | 89 => 6
  | 90 => 6
  | 91 => 6
  | 92 => 6
  | 93 => 6
  | 94 => 6
  | 95 => 6
  | 96 => 6
  | 97 => 6
  | 98 => 6
  | 99 => 6
  | 100 => 6
  | 101 => 6
  | 102 => 6
  | 103 => 6
  | 104 => 6
  | 105 => 6
  | 106 => 6
  | 107 => 6
  | 108 => 6
  | 109 => 6
  | 110 => 6
  | 111 => 6
  | 112 => 6
  | 113 => 6
  | 114 => 6
  | 115 => 6
  | 116 => 6
  | 117 => 6
  | 118 => 6
  | 119 => 6
  | 120 => 6
  | 121 => 6
  | 122 => 6
  | 123 => 6
  | 124 => 6
  | 125 => 6
  | 126 => 6
  | 127 => 6
  | 128 => 6
  | 129 => 6
  | 130 => 6
  | 131 => 6
  | 132 => 6
  | 133 => 6
  | 134 => 6
  | 135 => 6
  | 136 => 6
  | 137 => 6
  | 138 => 6
  | 139 => 6
  | 140 => 6
  | 141 => 6
  | 142 => 6
  | 143 => 6
  | 144 => 6
  | 145 => 6
  | 146 => 6
  | 147 => 6
  | 148 => 6
  | 149 => 6
  | 150 => 6
  | 151 => 6
  | 152 => 6
  | 153 => 6
  | 154 => 6
  | 155 => 7
  | _ => 7
def tb_nm : Nat → String × String := fun k => match k with
  | 0 => ("<init>", "()V")
  | 1 => ("copyFrom", "(LTiltBoards$Board;)V")
  | 2 => ("grainsOn", "(I)I")
  | 3 => ("roomBelow", "(I)I")
  | 4 => ("angleNeeded", "(IILTiltBoards$Rules;)I")
  | 5 => ("whyNoSlide", "(IILTiltBoards$Rules;)I")
  | 6 => ("isAtRest", "(LTiltBoards$Rules;)Z")
  | 7 => ("leastAngleOfSlide", "(LTiltBoards$Rules;)I")
  | 8 => ("slideOnce", "(LTiltBoards$Rules;)Z")
  | 9 => ("slideHeap", "(IILTiltBoards$Rules;)V")
  | 10 => ("stopMoving", "(I)V")
  | 11 => ("moveAllHeaps", "()V")
  | 12 => ("grainsOnCells", "()I")
  | 13 => ("grainsInPan", "()I")
  | 14 => ("heapsLying", "()I")
  | 15 => ("heapsMoving", "()I")
  | 16 => ("<init>", "()V")
  | 17 => ("record", "(LTiltBoards$State;)V")
  | 18 => ("takeLatest", "(LTiltBoards$State;)V")
  | 19 => ("<init>", "()V")
  | 20 => ("append", "(C)I")
  | 21 => ("clear", "()I")
  | 22 => ("readAll", "()I")
  | 23 => ("readFromStart", "()V")
  | 24 => ("readNext", "()Z")
  | 25 => ("readOrder", "()V")
  | 26 => ("readVerb", "()V")
  | 27 => ("isVerb", "(C)Z")
  | 28 => ("readSign", "(C)V")
  | 29 => ("readDigit", "(II)I")
  | 30 => ("readNumber", "(II)I")
  | 31 => ("<init>", "()V")
  | 32 => ("copyFrom", "(LTiltBoards$Rules;)V")
  | 33 => ("changeGripOf", "(II)V")
  | 34 => ("sortKinds", "()V")
  | 35 => ("angleAtRest", "(II)I")
  | 36 => ("dustOf", "(I)I")
  | 37 => ("<init>", "()V")
  | 38 => ("copyFrom", "(LTiltBoards$State;)V")
  | 39 => ("tiltBoard", "(II)I")
  | 40 => ("pourGrains", "(IIII)I")
  | 41 => ("joltBoard", "(I)I")
  | 42 => ("emptyPanOf", "(I)I")
  | 43 => ("changeGrip", "(II)I")
  | 44 => ("changeSetting", "(II)I")
  | 45 => ("passTicks", "(I)I")
  | 46 => ("onCellsOfKind", "(I)I")
  | 47 => ("inPansOfKind", "(I)I")
  | 48 => ("onAllCells", "()I")
  | 49 => ("inAllPans", "()I")
  | 50 => ("fallenOfAll", "()I")
  | 51 => ("dustOfAll", "()I")
  | 52 => ("pouredOfAll", "()I")
  | 53 => ("boardsAtRest", "()I")
  | 54 => ("<init>", "()V")
  | 55 => ("tilt", "(II)I")
  | 56 => ("pour", "(IIII)I")
  | 57 => ("jolt", "(I)I")
  | 58 => ("emptyPan", "(I)I")
  | 59 => ("setGrip", "(II)I")
  | 60 => ("set", "(II)I")
  | 61 => ("pass", "(I)I")
  | 62 => ("type", "(C)I")
  | 63 => ("clearText", "()I")
  | 64 => ("perform", "()I")
  | 65 => ("stopped", "(I)I")
  | 66 => ("undo", "()I")
  | 67 => ("keep", "()I")
  | 68 => ("restore", "()I")
  | 69 => ("grains", "(III)I")
  | 70 => ("board", "(II)I")
  | 71 => ("pan", "(II)I")
  | 72 => ("kind", "(II)I")
  | 73 => ("needs", "(III)I")
  | 74 => ("reason", "(III)I")
  | 75 => ("leastAngle", "(I)I")
  | 76 => ("restsIn", "(I)I")
  | 77 => ("ifTilted", "(III)I")
  | 78 => ("clearingAngle", "(I)I")
  | 79 => ("weighs", "(IIZ)I")
  | 80 => ("count", "(I)I")
  | 81 => ("recorded", "(I)I")
  | 82 => ("carryOut", "()I")
  | 83 => ("tryAngle", "(II)I")
  | 84 => ("isWithin", "(III)Z")
  | 85 => ("isBoard", "(I)Z")
  | 86 => ("isKind", "(I)Z")
  | 87 => ("isPlace", "(III)Z")
  | 88 => ("indexOf", "(II)I")
  | 89 => ("<init>", "()V")
  | 90 => ("in", "(III)Z")
  | 91 => ("isBoard", "(I)Z")
  | 92 => ("isKind", "(I)Z")
  | 93 => ("isPlace", "(III)Z")
  | 94 => ("heap", "(III)I")
  | 95 => ("moving", "(III)I")
  | 96 => ("looks", "()V")
  | 97 => ("records", "()V")
  | 98 => ("putAside", "()V")
  | 99 => ("putBack", "()V")
  | 100 => ("onCell", "(II)I")
  | 101 => ("onBoard", "(I)I")
  | 102 => ("need", "(III)I")
  | 103 => ("roomBelow", "(II)I")
  | 104 => ("why", "(III)I")
  | 105 => ("isAtRest", "(I)Z")
  | 106 => ("slides", "(III)V")
  | 107 => ("kindAt", "(I)I")
  | 108 => ("tick", "(I)V")
  | 109 => ("fell", "()I")
  | 110 => ("passes", "(I)I")
  | 111 => ("settles", "(II)I")
  | 112 => ("lays", "(II)I")
  | 113 => ("pours", "(IIII)I")
  | 114 => ("heaps", "(I)I")
  | 115 => ("jolts", "(I)I")
  | 116 => ("inPan", "(I)I")
  | 117 => ("empties", "(I)I")
  | 118 => ("acted", "(I)I")
  | 119 => ("tilt", "(II)I")
  | 120 => ("pour", "(IIII)I")
  | 121 => ("jolt", "(I)I")
  | 122 => ("emptyPan", "(I)I")
  | 123 => ("setGrip", "(II)I")
  | 124 => ("set", "(II)I")
  | 125 => ("pass", "(I)I")
  | 126 => ("type", "(C)I")
  | 127 => ("clearText", "()I")
  | 128 => ("isNext", "(II)Z")
  | 129 => ("takes", "(II)I")
  | 130 => ("takesNumber", "(II)I")
  | 131 => ("readOrder", "()V")
  | 132 => ("does", "()I")
  | 133 => ("goes", "(Z)I")
  | 134 => ("perform", "()I")
  | 135 => ("stopped", "(I)I")
  | 136 => ("undo", "()I")
  | 137 => ("keep", "()I")
  | 138 => ("restore", "()I")
  | 139 => ("grains", "(III)I")
  | 140 => ("movingHeaps", "(I)I")
  | 141 => ("board", "(II)I")
  | 142 => ("pan", "(II)I")
  | 143 => ("sumOf", "(II)I")
  | 144 => ("kind", "(II)I")
  | 145 => ("needs", "(III)I")
  | 146 => ("reason", "(III)I")
  | 147 => ("leastAngle", "(I)I")
  | 148 => ("restsIn", "(I)I")
  | 149 => ("tilted", "(III)I")
  | 150 => ("ifTilted", "(III)I")
  | 151 => ("clearingAngle", "(I)I")
  | 152 => ("weighs", "(IIZ)I")
  | 153 => ("sum", "(II)I")
  | 154 => ("count", "(I)I")
  | 155 => ("law", "([I)Z")
  | _ => ("", "()V")
def tb_by : Nat → ByteArray := fun k => match k with
  | 0 => prog_2_method_1_code
  | 1 => prog_2_method_2_code
  | 2 => prog_2_method_3_code
  | 3 => prog_2_method_4_code
  | 4 => prog_2_method_5_code
  | 5 => prog_2_method_6_code
  | 6 => prog_2_method_7_code
  | 7 => prog_2_method_8_code
  | 8 => prog_2_method_9_code
  | 9 => prog_2_method_10_code
  | 10 => prog_2_method_11_code
  | 11 => prog_2_method_12_code
  | 12 => prog_2_method_13_code
  | 13 => prog_2_method_14_code
  | 14 => prog_2_method_15_code
  | 15 => prog_2_method_16_code
  | 16 => prog_3_method_1_code
  | 17 => prog_3_method_2_code
  | 18 => prog_3_method_3_code
  | 19 => prog_4_method_1_code
  | 20 => prog_4_method_2_code
  | 21 => prog_4_method_3_code
  | 22 => prog_4_method_4_code
  | 23 => prog_4_method_5_code
  | 24 => prog_4_method_6_code
  | 25 => prog_4_method_7_code
  | 26 => prog_4_method_8_code
  | 27 => prog_4_method_9_code
  | 28 => prog_4_method_10_code
  | 29 => prog_4_method_11_code
  | 30 => prog_4_method_12_code
  | 31 => prog_5_method_1_code
  | 32 => prog_5_method_2_code
  | 33 => prog_5_method_3_code
  | 34 => prog_5_method_4_code
  | 35 => prog_5_method_5_code
  | 36 => prog_5_method_6_code
  | 37 => prog_6_method_1_code
  | 38 => prog_6_method_2_code
  | 39 => prog_6_method_3_code
  | 40 => prog_6_method_4_code
  | 41 => prog_6_method_5_code
  | 42 => prog_6_method_6_code
  | 43 => prog_6_method_7_code
  | 44 => prog_6_method_8_code
  | 45 => prog_6_method_9_code
  | 46 => prog_6_method_10_code
  | 47 => prog_6_method_11_code
  | 48 => prog_6_method_12_code
  | 49 => prog_6_method_13_code
  | 50 => prog_6_method_14_code
  | 51 => prog_6_method_15_code
  | 52 => prog_6_method_16_code
  | 53 => prog_6_method_17_code
  | 54 => prog_1_method_1_code
  | 55 => prog_1_method_2_code
  | 56 => prog_1_method_3_code
  | 57 => prog_1_method_4_code
  | 58 => prog_1_method_5_code
  | 59 => prog_1_method_6_code
  | 60 => prog_1_method_7_code
  | 61 => prog_1_method_8_code
  | 62 => prog_1_method_9_code
  | 63 => prog_1_method_10_code
  | 64 => prog_1_method_11_code
  | 65 => prog_1_method_12_code
  | 66 => prog_1_method_13_code
  | 67 => prog_1_method_14_code
  | 68 => prog_1_method_15_code
  | 69 => prog_1_method_16_code
  | 70 => prog_1_method_17_code
  | 71 => prog_1_method_18_code
  | 72 => prog_1_method_19_code
  | 73 => prog_1_method_20_code
  | 74 => prog_1_method_21_code
  | 75 => prog_1_method_22_code
  | 76 => prog_1_method_23_code
  | 77 => prog_1_method_24_code
  | 78 => prog_1_method_25_code
  | 79 => prog_1_method_26_code
  | 80 => prog_1_method_27_code
  | 81 => prog_1_method_28_code
  | 82 => prog_1_method_29_code
  | 83 => prog_1_method_30_code
  | 84 => prog_1_method_31_code
  | 85 => prog_1_method_32_code
  | 86 => prog_1_method_33_code
  | 87 => prog_1_method_34_code
  | 88 => prog_1_method_35_code
  | 89 => prog_8_method_1_code
  | 90 => prog_8_method_3_code
  | 91 => prog_8_method_4_code
  | 92 => prog_8_method_5_code
  | 93 => prog_8_method_6_code
  | 94 => prog_8_method_7_code
  | 95 => prog_8_method_8_code
  | 96 => prog_8_method_9_code
  | 97 => prog_8_method_10_code
  | 98 => prog_8_method_11_code
  | 99 => prog_8_method_12_code
  | 100 => prog_8_method_13_code
  | 101 => prog_8_method_14_code
  | 102 => prog_8_method_15_code
  | 103 => prog_8_method_16_code
  | 104 => prog_8_method_17_code
  | 105 => prog_8_method_18_code
  | 106 => prog_8_method_19_code
  | 107 => prog_8_method_20_code
  | 108 => prog_8_method_21_code
  | 109 => prog_8_method_22_code
  | 110 => prog_8_method_23_code
  | 111 => prog_8_method_24_code
  | 112 => prog_8_method_25_code
  | 113 => prog_8_method_26_code
  | 114 => prog_8_method_27_code
  | 115 => prog_8_method_28_code
  | 116 => prog_8_method_29_code
  | 117 => prog_8_method_30_code
  | 118 => prog_8_method_31_code
  | 119 => prog_8_method_32_code
  | 120 => prog_8_method_33_code
  | 121 => prog_8_method_34_code
  | 122 => prog_8_method_35_code
  | 123 => prog_8_method_36_code
  | 124 => prog_8_method_37_code
  | 125 => prog_8_method_38_code
  | 126 => prog_8_method_39_code
  | 127 => prog_8_method_40_code
  | 128 => prog_8_method_41_code
  | 129 => prog_8_method_42_code
  | 130 => prog_8_method_43_code
  | 131 => prog_8_method_44_code
  | 132 => prog_8_method_45_code
  | 133 => prog_8_method_46_code
  | 134 => prog_8_method_47_code
  | 135 => prog_8_method_48_code
  | 136 => prog_8_method_49_code
  | 137 => prog_8_method_50_code
  | 138 => prog_8_method_51_code
  | 139 => prog_8_method_52_code
  | 140 => prog_8_method_53_code
  | 141 => prog_8_method_54_code
  | 142 => prog_8_method_55_code
  | 143 => prog_8_method_56_code
  | 144 => prog_8_method_57_code
  | 145 => prog_8_method_58_code
  | 146 => prog_8_method_59_code
  | 147 => prog_8_method_60_code
  | 148 => prog_8_method_61_code
  | 149 => prog_8_method_62_code
  | 150 => prog_8_method_63_code
  | 151 => prog_8_method_64_code
  | 152 => prog_8_method_65_code
  | 153 => prog_8_method_66_code
  | 154 => prog_8_method_67_code
  | 155 => code
  | _ => code
def tb_mL : Nat → Nat := fun k => match k with
  | 0 => 1
  | 1 => 2
  | 2 => 5
  | 3 => 2
  | 4 => 5
  | 5 => 4
  | 6 => 4
  | 7 => 6
  | 8 => 6
  | 9 => 9
  | 10 => 3
  | 11 => 2
  | 12 => 3
  | 13 => 3
  | 14 => 3
  | 15 => 3
  | 16 => 2
  | 17 => 2
  | 18 => 2
  | 19 => 1
  | 20 => 2
  | 21 => 2
  | 22 => 3
  | 23 => 1
  | 24 => 1
  | 25 => 1
  | 26 => 1
  | 27 => 1
  | 28 => 2
  | 29 => 4
  | 30 => 6
  | 31 => 2
  | 32 => 2
  | 33 => 3
  | 34 => 4
  | 35 => 5
  | 36 => 3
  | 37 => 2
  | 38 => 3
  | 39 => 4
  | 40 => 6
  | 41 => 3
  | 42 => 4
  | 43 => 4
  | 44 => 4
  | 45 => 6
  | 46 => 5
  | 47 => 4
  | 48 => 3
  | 49 => 3
  | 50 => 3
  | 51 => 3
  | 52 => 3
  | 53 => 3
  | 54 => 1
  | 55 => 3
  | 56 => 5
  | 57 => 2
  | 58 => 2
  | 59 => 3
  | 60 => 3
  | 61 => 2
  | 62 => 2
  | 63 => 1
  | 64 => 4
  | 65 => 2
  | 66 => 1
  | 67 => 1
  | 68 => 1
  | 69 => 4
  | 70 => 4
  | 71 => 3
  | 72 => 3
  | 73 => 5
  | 74 => 4
  | 75 => 3
  | 76 => 3
  | 77 => 5
  | 78 => 3
  | 79 => 7
  | 80 => 2
  | 81 => 2
  | 82 => 1
  | 83 => 4
  | 84 => 3
  | 85 => 1
  | 86 => 1
  | 87 => 3
  | 88 => 2
  | 89 => 2
  | 90 => 3
  | 91 => 1
  | 92 => 1
  | 93 => 3
  | 94 => 3
  | 95 => 3
  | 96 => 2
  | 97 => 2
  | 98 => 2
  | 99 => 2
  | 100 => 5
  | 101 => 4
  | 102 => 6
  | 103 => 3
  | 104 => 4
  | 105 => 4
  | 106 => 7
  | 107 => 6
  | 108 => 5
  | 109 => 3
  | 110 => 4
  | 111 => 4
  | 112 => 4
  | 113 => 5
  | 114 => 4
  | 115 => 3
  | 116 => 2
  | 117 => 4
  | 118 => 2
  | 119 => 3
  | 120 => 5
  | 121 => 2
  | 122 => 2
  | 123 => 3
  | 124 => 3
  | 125 => 2
  | 126 => 2
  | 127 => 2
  | 128 => 3
  | 129 => 4
  | 130 => 5
  | 131 => 3
  | 132 => 1
  | 133 => 6
  | 134 => 4
  | 135 => 2
  | 136 => 2
  | 137 => 2
  | 138 => 2
  | 139 => 4
  | 140 => 4
  | 141 => 3
  | 142 => 3
  | 143 => 5
  | 144 => 3
  | 145 => 4
  | 146 => 4
  | 147 => 6
  | 148 => 4
  | 149 => 8
  | 150 => 4
  | 151 => 4
  | 152 => 7
  | 153 => 5
  | 154 => 2
  | 155 => 4
  | _ => 0
def tb_rt : Nat → Option FieldType := fun k => match k with
  | 0 => none
  | 1 => none
  | 2 => (some .int)
  | 3 => (some .int)
  | 4 => (some .int)
  | 5 => (some .int)
  | 6 => (some .boolean)
  | 7 => (some .int)
  | 8 => (some .boolean)
  | 9 => none
  | 10 => none
  | 11 => none
  | 12 => (some .int)
  | 13 => (some .int)
  | 14 => (some .int)
  | 15 => (some .int)
  | 16 => none
  | 17 => none
  | 18 => none
  | 19 => none
  | 20 => (some .int)
  | 21 => (some .int)
  | 22 => (some .int)
  | 23 => none
  | 24 => (some .boolean)
  | 25 => none
  | 26 => none
  | 27 => (some .boolean)
  | 28 => none
  | 29 => (some .int)
  | 30 => (some .int)
  | 31 => none
  | 32 => none
  | 33 => none
  | 34 => none
  | 35 => (some .int)
  | 36 => (some .int)
  | 37 => none
  | 38 => none
  | 39 => (some .int)
  | 40 => (some .int)
  | 41 => (some .int)
  | 42 => (some .int)
  | 43 => (some .int)
  | 44 => (some .int)
  | 45 => (some .int)
  | 46 => (some .int)
  | 47 => (some .int)
  | 48 => (some .int)
  | 49 => (some .int)
  | 50 => (some .int)
  | 51 => (some .int)
  | 52 => (some .int)
  | 53 => (some .int)
  | 54 => none
  | 55 => (some .int)
  | 56 => (some .int)
  | 57 => (some .int)
  | 58 => (some .int)
  | 59 => (some .int)
  | 60 => (some .int)
  | 61 => (some .int)
  | 62 => (some .int)
  | 63 => (some .int)
  | 64 => (some .int)
  | 65 => (some .int)
  | 66 => (some .int)
  | 67 => (some .int)
  | 68 => (some .int)
  | 69 => (some .int)
  | 70 => (some .int)
  | 71 => (some .int)
  | 72 => (some .int)
  | 73 => (some .int)
  | 74 => (some .int)
  | 75 => (some .int)
  | 76 => (some .int)
  | 77 => (some .int)
  | 78 => (some .int)
  | 79 => (some .int)
  | 80 => (some .int)
  | 81 => (some .int)
  | 82 => (some .int)
  | 83 => (some .int)
  | 84 => (some .boolean)
  | 85 => (some .boolean)
  | 86 => (some .boolean)
  | 87 => (some .boolean)
  | 88 => (some .int)
  | 89 => none
  | 90 => (some .boolean)
  | 91 => (some .boolean)
  | 92 => (some .boolean)
  | 93 => (some .boolean)
  | 94 => (some .int)
  | 95 => (some .int)
  | 96 => none
  | 97 => none
  | 98 => none
  | 99 => none
  | 100 => (some .int)
  | 101 => (some .int)
  | 102 => (some .int)
  | 103 => (some .int)
  | 104 => (some .int)
  | 105 => (some .boolean)
  | 106 => none
  | 107 => (some .int)
  | 108 => none
  | 109 => (some .int)
  | 110 => (some .int)
  | 111 => (some .int)
  | 112 => (some .int)
  | 113 => (some .int)
  | 114 => (some .int)
  | 115 => (some .int)
  | 116 => (some .int)
  | 117 => (some .int)
  | 118 => (some .int)
  | 119 => (some .int)
  | 120 => (some .int)
  | 121 => (some .int)
  | 122 => (some .int)
  | 123 => (some .int)
  | 124 => (some .int)
  | 125 => (some .int)
  | 126 => (some .int)
  | 127 => (some .int)
  | 128 => (some .boolean)
  | 129 => (some .int)
  | 130 => (some .int)
  | 131 => none
  | 132 => (some .int)
  | 133 => (some .int)
  | 134 => (some .int)
  | 135 => (some .int)
  | 136 => (some .int)
  | 137 => (some .int)
  | 138 => (some .int)
  | 139 => (some .int)
  | 140 => (some .int)
  | 141 => (some .int)
  | 142 => (some .int)
  | 143 => (some .int)
  | 144 => (some .int)
  | 145 => (some .int)
  | 146 => (some .int)
  | 147 => (some .int)
  | 148 => (some .int)
  | 149 => (some .int)
  | 150 => (some .int)
  | 151 => (some .int)
  | 152 => (some .int)
  | 153 => (some .int)
  | 154 => (some .int)
  | 155 => (some .boolean)
  | _ => none
def tb_na : Nat → Nat := fun k => match k with
  | 0 => 0
  | 1 => 1
  | 2 => 1
  | 3 => 1
  | 4 => 3
  | 5 => 3
  | 6 => 1
  | 7 => 1
  | 8 => 1
  | 9 => 3
  | 10 => 1
  | 11 => 0
  | 12 => 0
  | 13 => 0
  | 14 => 0
  | 15 => 0
  | 16 => 0
  | 17 => 1
  | 18 => 1
  | 19 => 0
  | 20 => 1
  | 21 => 0
  | 22 => 0
  | 23 => 0
  | 24 => 0
  | 25 => 0
  | 26 => 0
  | 27 => 1
  | 28 => 1
  | 29 => 2
  | 30 => 2
  | 31 => 0
  | 32 => 1
  | 33 => 2
  | 34 => 0
  | 35 => 2
  | 36 => 1
  | 37 => 0
  | 38 => 1
  | 39 => 2
  | 40 => 4
  | 41 => 1
  | 42 => 1
  | 43 => 2
  | 44 => 2
  | 45 => 1
  | 46 => 1
  | 47 => 1
  | 48 => 0
  | 49 => 0
  | 50 => 0
  | 51 => 0
  | 52 => 0
  | 53 => 0
  | 54 => 0
  | 55 => 2
  | 56 => 4
  | 57 => 1
  | 58 => 1
  | 59 => 2
  | 60 => 2
  | 61 => 1
  | 62 => 1
  | 63 => 0
  | 64 => 0
  | 65 => 1
  | 66 => 0
  | 67 => 0
  | 68 => 0
  | 69 => 3
  | 70 => 2
  | 71 => 2
  | 72 => 2
  | 73 => 3
  | 74 => 3
  | 75 => 1
  | 76 => 1
  | 77 => 3
  | 78 => 1
  | 79 => 3
  | 80 => 1
  | 81 => 1
  | 82 => 0
  | 83 => 2
  | 84 => 3
  | 85 => 1
  | 86 => 1
  | 87 => 3
  | 88 => 2
  | 89 => 0
  | 90 => 3
  | 91 => 1
  | 92 => 1
  | 93 => 3
  | 94 => 3
  | 95 => 3
  | 96 => 0
  | 97 => 0
  | 98 => 0
  | 99 => 0
  | 100 => 2
  | 101 => 1
  | 102 => 3
  | 103 => 2
  | 104 => 3
  | 105 => 1
  | 106 => 3
  | 107 => 1
  | 108 => 1
  | 109 => 0
  | 110 => 1
  | 111 => 2
  | 112 => 2
  | 113 => 4
  | 114 => 1
  | 115 => 1
  | 116 => 1
  | 117 => 1
  | 118 => 1
  | 119 => 2
  | 120 => 4
  | 121 => 1
  | 122 => 1
  | 123 => 2
  | 124 => 2
  | 125 => 1
  | 126 => 1
  | 127 => 0
  | 128 => 2
  | 129 => 2
  | 130 => 2
  | 131 => 0
  | 132 => 0
  | 133 => 1
  | 134 => 0
  | 135 => 1
  | 136 => 0
  | 137 => 0
  | 138 => 0
  | 139 => 3
  | 140 => 1
  | 141 => 2
  | 142 => 2
  | 143 => 2
  | 144 => 2
  | 145 => 3
  | 146 => 3
  | 147 => 1
  | 148 => 1
  | 149 => 3
  | 150 => 3
  | 151 => 1
  | 152 => 3
  | 153 => 2
  | 154 => 1
  | 155 => 1
  | _ => 0
def tb_kd : Nat → Nat := fun k => match k with
  | 0 => 2
  | 1 => 0
  | 2 => 0
  | 3 => 0
  | 4 => 0
  | 5 => 0
  | 6 => 0
  | 7 => 0
  | 8 => 0
  | 9 => 0
  | 10 => 0
  | 11 => 0
  | 12 => 0
  | 13 => 0
  | 14 => 0
  | 15 => 0
  | 16 => 2
  | 17 => 0
  | 18 => 0
  | 19 => 2
  | 20 => 0
  | 21 => 0
  | 22 => 0
  | 23 => 0
  | 24 => 0
  | 25 => 0
  | 26 => 0
  | 27 => 1
  | 28 => 0
  | 29 => 0
  | 30 => 0
  | 31 => 2
  | 32 => 0
  | 33 => 0
  | 34 => 0
  | 35 => 0
  | 36 => 0
  | 37 => 2
  | 38 => 0
  | 39 => 0
  | 40 => 0
  | 41 => 0
  | 42 => 0
  | 43 => 0
  | 44 => 0
  | 45 => 0
  | 46 => 0
  | 47 => 0
  | 48 => 0
  | 49 => 0
  | 50 => 0
  | 51 => 0
  | 52 => 0
  | 53 => 0
  | 54 => 2
  | 55 => 0
  | 56 => 0
  | 57 => 0
  | 58 => 0
  | 59 => 0
  | 60 => 0
  | 61 => 0
  | 62 => 0
  | 63 => 0
  | 64 => 0
  | 65 => 0
  | 66 => 0
  | 67 => 0
  | 68 => 0
  | 69 => 0
  | 70 => 0
  | 71 => 0
  | 72 => 0
  | 73 => 0
  | 74 => 0
  | 75 => 0
  | 76 => 0
  | 77 => 0
  | 78 => 0
  | 79 => 0
  | 80 => 0
  | 81 => 0
  | 82 => 0
  | 83 => 0
  | 84 => 1
  | 85 => 1
  | 86 => 1
  | 87 => 1
  | 88 => 1
  | 89 => 2
  | 90 => 1
  | 91 => 1
  | 92 => 1
  | 93 => 1
  | 94 => 1
  | 95 => 1
  | 96 => 0
  | 97 => 0
  | 98 => 0
  | 99 => 0
  | 100 => 0
  | 101 => 0
  | 102 => 0
  | 103 => 0
  | 104 => 0
  | 105 => 0
  | 106 => 0
  | 107 => 0
  | 108 => 0
  | 109 => 0
  | 110 => 0
  | 111 => 0
  | 112 => 0
  | 113 => 0
  | 114 => 0
  | 115 => 0
  | 116 => 0
  | 117 => 0
  | 118 => 0
  | 119 => 0
  | 120 => 0
  | 121 => 0
  | 122 => 0
  | 123 => 0
  | 124 => 0
  | 125 => 0
  | 126 => 0
  | 127 => 0
  | 128 => 0
  | 129 => 0
  | 130 => 0
  | 131 => 0
  | 132 => 0
  | 133 => 0
  | 134 => 0
  | 135 => 0
  | 136 => 0
  | 137 => 0
  | 138 => 0
  | 139 => 0
  | 140 => 0
  | 141 => 0
  | 142 => 0
  | 143 => 0
  | 144 => 0
  | 145 => 0
  | 146 => 0
  | 147 => 0
  | 148 => 0
  | 149 => 0
  | 150 => 0
  | 151 => 0
  | 152 => 0
  | 153 => 0
  | 154 => 0
  | 155 => 1
  | _ => 9
def tb_mc : Nat → Nat := fun k => match k with
  | 0 => 3
  | 1 => 0
  | 2 => 0
  | 3 => 0
  | 4 => 0
  | 5 => 0
  | 6 => 0
  | 7 => 0
  | 8 => 0
  | 9 => 0
  | 10 => 0
  | 11 => 0
  | 12 => 0
  | 13 => 0
  | 14 => 0
  | 15 => 0
  | 16 => 109
  | 17 => 0
  | 18 => 0
  | 19 => 1
  | 20 => 0
  | 21 => 0
  | 22 => 0
  | 23 => 0
  | 24 => 0
  | 25 => 0
  | 26 => 0
  | 27 => 0
  | 28 => 0
  | 29 => 0
  | 30 => 0
  | 31 => 3
  | 32 => 0
  | 33 => 0
  | 34 => 0
  | 35 => 0
  | 36 => 0
  | 37 => 26
  | 38 => 0
  | 39 => 0
  | 40 => 0
  | 41 => 0
  | 42 => 0
  | 43 => 0
  | 44 => 0
  | 45 => 0
  | 46 => 0
  | 47 => 0
  | 48 => 0
  | 49 => 0
  | 50 => 0
  | 51 => 0
  | 52 => 0
  | 53 => 0
  | 54 => 197
  | 55 => 0
  | 56 => 0
  | 57 => 0
  | 58 => 0
  | 59 => 0
  | 60 => 0
  | 61 => 0
  | 62 => 0
  | 63 => 0
  | 64 => 0
  | 65 => 0
  | 66 => 0
  | 67 => 0
  | 68 => 0
  | 69 => 0
  | 70 => 0
  | 71 => 0
  | 72 => 0
  | 73 => 0
  | 74 => 0
  | 75 => 0
  | 76 => 0
  | 77 => 0
  | 78 => 0
  | 79 => 0
  | 80 => 0
  | 81 => 0
  | 82 => 0
  | 83 => 0
  | 84 => 0
  | 85 => 0
  | 86 => 0
  | 87 => 0
  | 88 => 0
  | 89 => 8
  | 90 => 0
  | 91 => 0
  | 92 => 0
  | 93 => 0
  | 94 => 0
  | 95 => 0
  | 96 => 0
  | 97 => 0
  | 98 => 0
  | 99 => 0
  | 100 => 0
  | 101 => 0
  | 102 => 0
  | 103 => 0
  | 104 => 0
  | 105 => 0
  | 106 => 0
  | 107 => 0
  | 108 => 0
  | 109 => 0
  | 110 => 0
  | 111 => 0
  | 112 => 0
  | 113 => 0
  | 114 => 0
  | 115 => 0
  | 116 => 0
  | 117 => 0
  | 118 => 0
  | 119 => 0
  | 120 => 0
  | 121 => 0
  | 122 => 0
  | 123 => 0
  | 124 => 0
  | 125 => 0
  | 126 => 0
  | 127 => 0
  | 128 => 0
  | 129 => 0
  | 130 => 0
  | 131 => 0
  | 132 => 0
  | 133 => 0
  | 134 => 0
  | 135 => 0
  | 136 => 0
  | 137 => 0
  | 138 => 0
  | 139 => 0
  | 140 => 0
  | 141 => 0
  | 142 => 0
  | 143 => 0
  | 144 => 0
  | 145 => 0
  | 146 => 0
  | 147 => 0
  | 148 => 0
  | 149 => 0
  | 150 => 0
  | 151 => 0
  | 152 => 0
  | 153 => 0
  | 154 => 0
  | 155 => 0
  | _ => 0
def tb_ms : Nat → Nat := fun k => match k with
  | 0 => 68
  | 1 => 0
  | 2 => 0
  | 3 => 0
  | 4 => 0
  | 5 => 0
  | 6 => 0
  | 7 => 0
  | 8 => 0
  | 9 => 0
  | 10 => 0
  | 11 => 0
  | 12 => 0
  | 13 => 0
  | 14 => 0
  | 15 => 0
  | 16 => 1596
  | 17 => 0
  | 18 => 0
  | 19 => 60
  | 20 => 0
  | 21 => 0
  | 22 => 0
  | 23 => 0
  | 24 => 0
  | 25 => 0
  | 26 => 0
  | 27 => 0
  | 28 => 0
  | 29 => 0
  | 30 => 0
  | 31 => 11
  | 32 => 0
  | 33 => 0
  | 34 => 0
  | 35 => 0
  | 36 => 0
  | 37 => 393
  | 38 => 0
  | 39 => 0
  | 40 => 0
  | 41 => 0
  | 42 => 0
  | 43 => 0
  | 44 => 0
  | 45 => 0
  | 46 => 0
  | 47 => 0
  | 48 => 0
  | 49 => 0
  | 50 => 0
  | 51 => 0
  | 52 => 0
  | 53 => 0
  | 54 => 2936
  | 55 => 0
  | 56 => 0
  | 57 => 0
  | 58 => 0
  | 59 => 0
  | 60 => 0
  | 61 => 0
  | 62 => 0
  | 63 => 0
  | 64 => 0
  | 65 => 0
  | 66 => 0
  | 67 => 0
  | 68 => 0
  | 69 => 0
  | 70 => 0
  | 71 => 0
  | 72 => 0
  | 73 => 0
  | 74 => 0
  | 75 => 0
  | 76 => 0
  | 77 => 0
  | 78 => 0
  | 79 => 0
  | 80 => 0
  | 81 => 0
  | 82 => 0
  | 83 => 0
  | 84 => 0
  | 85 => 0
  | 86 => 0
  | 87 => 0
  | 88 => 0
  | 89 => 3041
  | 90 => 0
  | 91 => 0
  | 92 => 0
  | 93 => 0
  | 94 => 0
  | 95 => 0
  | 96 => 0
  | 97 => 0
  | 98 => 0
  | 99 => 0
  | 100 => 0
  | 101 => 0
  | 102 => 0
  | 103 => 0
  | 104 => 0
  | 105 => 0
  | 106 => 0
  | 107 => 0
  | 108 => 0
  | 109 => 0
  | 110 => 0
  | 111 => 0
  | 112 => 0
  | 113 => 0
  | 114 => 0
  | 115 => 0
  | 116 => 0
  | 117 => 0
  | 118 => 0
  | 119 => 0
  | 120 => 0
  | 121 => 0
  | 122 => 0
  | 123 => 0
  | 124 => 0
  | 125 => 0
  | 126 => 0
  | 127 => 0
  | 128 => 0
  | 129 => 0
  | 130 => 0
  | 131 => 0
  | 132 => 0
  | 133 => 0
  | 134 => 0
  | 135 => 0
  | 136 => 0
  | 137 => 0
  | 138 => 0
  | 139 => 0
  | 140 => 0
  | 141 => 0
  | 142 => 0
  | 143 => 0
  | 144 => 0
  | 145 => 0
  | 146 => 0
  | 147 => 0
  | 148 => 0
  | 149 => 0
  | 150 => 0
  | 151 => 0
  | 152 => 0
  | 153 => 0
  | 154 => 0
  | 155 => 0
  | _ => 0
def tb_y (m : Nat) : MethodName := ⟨tb_cn (tb_ow m), (tb_nm m).1, (tb_nm m).2⟩
def tb_iC : Nat → Nat := fun k => match k with
  | 0 => 104
  | 1 => 268
  | 2 => 309
  | 3 => 403
  | 4 => 391
  | 5 => 386
  | 6 => 524
  | 7 => 558
  | 8 => 382
  | 9 => 407
  | 10 => 418
  | 11 => 328
  | 12 => 514
  | 13 => 340
  | 14 => 324
  | 15 => 520
  | 16 => 161
  | 17 => 289
  | 18 => 492
  | 19 => 183
  | 20 => 426
  | 21 => 434
  | 22 => 442
  | 23 => 446
  | 24 => 450
  | 25 => 454
  | 26 => 458
  | 27 => 461
  | 28 => 470
  | 29 => 465
  | 30 => 474
  | 31 => 72
  | 32 => 261
  | 33 => 353
  | 34 => 81
  | 35 => 396
  | 36 => 414
  | 37 => 66
  | 38 => 257
  | 39 => 274
  | 40 => 298
  | 41 => 320
  | 42 => 336
  | 43 => 348
  | 44 => 361
  | 45 => 373
  | 46 => 536
  | 47 => 540
  | 48 => 589
  | 49 => 594
  | 50 => 378
  | 51 => 598
  | 52 => 602
  | 53 => 606
  | 54 => 58
  | 55 => 253
  | 56 => 294
  | 57 => 316
  | 58 => 332
  | 59 => 344
  | 60 => 357
  | 61 => 369
  | 62 => 422
  | 63 => 430
  | 64 => 438
  | 65 => 484
  | 66 => 488
  | 67 => 496
  | 68 => 500
  | 69 => 504
  | 70 => 510
  | 71 => 528
  | 72 => 532
  | 73 => 544
  | 74 => 549
  | 75 => 554
  | 76 => 562
  | 77 => 572
  | 78 => 576
  | 79 => 580
  | 80 => 585
  | 81 => 285
  | 82 => 480
  | 83 => 566
  | 84 => 280
  | 85 => 277
  | 86 => 305
  | 87 => 301
  | 88 => 312
  | 89 => 612
  | 90 => 672
  | 91 => 669
  | 92 => 698
  | 93 => 695
  | 94 => 709
  | 95 => 773
  | 96 => 676
  | 97 => 688
  | 98 => 885
  | 99 => 893
  | 100 => 706
  | 101 => 845
  | 102 => 770
  | 103 => 777
  | 104 => 766
  | 105 => 853
  | 106 => 781
  | 107 => 762
  | 108 => 758
  | 109 => 754
  | 110 => 750
  | 111 => 889
  | 112 => 680
  | 113 => 702
  | 114 => 721
  | 115 => 717
  | 116 => 733
  | 117 => 729
  | 118 => 684
  | 119 => 666
  | 120 => 692
  | 121 => 713
  | 122 => 725
  | 123 => 737
  | 124 => 741
  | 125 => 745
  | 126 => 785
  | 127 => 789
  | 128 => 813
  | 129 => 805
  | 130 => 809
  | 131 => 801
  | 132 => 817
  | 133 => 797
  | 134 => 793
  | 135 => 821
  | 136 => 825
  | 137 => 829
  | 138 => 833
  | 139 => 837
  | 140 => 849
  | 141 => 841
  | 142 => 857
  | 143 => 865
  | 144 => 861
  | 145 => 869
  | 146 => 873
  | 147 => 877
  | 148 => 881
  | 149 => 901
  | 150 => 897
  | 151 => 905
  | 152 => 909
  | 153 => 917
  | 154 => 913
  | _ => 0
def tb_iS : Nat → Nat := fun k => match k with
  | 0 => 103
  | 1 => 266
  | 2 => 307
  | 3 => 401
  | 4 => 389
  | 5 => 384
  | 6 => 522
  | 7 => 556
  | 8 => 380
  | 9 => 406
  | 10 => 417
  | 11 => 326
  | 12 => 512
  | 13 => 338
  | 14 => 322
  | 15 => 518
  | 16 => 160
  | 17 => 287
  | 18 => 490
  | 19 => 182
  | 20 => 424
  | 21 => 432
  | 22 => 440
  | 23 => 444
  | 24 => 448
  | 25 => 453
  | 26 => 457
  | 27 => 460
  | 28 => 469
  | 29 => 464
  | 30 => 473
  | 31 => 71
  | 32 => 259
  | 33 => 351
  | 34 => 80
  | 35 => 394
  | 36 => 412
  | 37 => 65
  | 38 => 255
  | 39 => 272
  | 40 => 296
  | 41 => 318
  | 42 => 334
  | 43 => 346
  | 44 => 359
  | 45 => 371
  | 46 => 534
  | 47 => 538
  | 48 => 587
  | 49 => 592
  | 50 => 376
  | 51 => 596
  | 52 => 600
  | 53 => 604
  | 54 => 57
  | 55 => 251
  | 56 => 292
  | 57 => 314
  | 58 => 330
  | 59 => 342
  | 60 => 355
  | 61 => 367
  | 62 => 420
  | 63 => 428
  | 64 => 436
  | 65 => 482
  | 66 => 486
  | 67 => 494
  | 68 => 498
  | 69 => 502
  | 70 => 508
  | 71 => 526
  | 72 => 530
  | 73 => 542
  | 74 => 547
  | 75 => 552
  | 76 => 560
  | 77 => 570
  | 78 => 574
  | 79 => 578
  | 80 => 583
  | 81 => 284
  | 82 => 479
  | 83 => 565
  | 84 => 279
  | 85 => 276
  | 86 => 304
  | 87 => 300
  | 88 => 311
  | 89 => 611
  | 90 => 671
  | 91 => 668
  | 92 => 697
  | 93 => 694
  | 94 => 708
  | 95 => 772
  | 96 => 675
  | 97 => 687
  | 98 => 884
  | 99 => 892
  | 100 => 705
  | 101 => 844
  | 102 => 769
  | 103 => 776
  | 104 => 765
  | 105 => 852
  | 106 => 780
  | 107 => 761
  | 108 => 757
  | 109 => 753
  | 110 => 749
  | 111 => 888
  | 112 => 679
  | 113 => 701
  | 114 => 720
  | 115 => 716
  | 116 => 732
  | 117 => 728
  | 118 => 683
  | 119 => 664
  | 120 => 690
  | 121 => 711
  | 122 => 723
  | 123 => 735
  | 124 => 739
  | 125 => 743
  | 126 => 783
  | 127 => 787
  | 128 => 812
  | 129 => 804
  | 130 => 808
  | 131 => 800
  | 132 => 816
  | 133 => 796
  | 134 => 791
  | 135 => 819
  | 136 => 823
  | 137 => 827
  | 138 => 831
  | 139 => 835
  | 140 => 848
  | 141 => 839
  | 142 => 855
  | 143 => 864
  | 144 => 859
  | 145 => 867
  | 146 => 871
  | 147 => 875
  | 148 => 879
  | 149 => 900
  | 150 => 895
  | 151 => 903
  | 152 => 907
  | 153 => 916
  | 154 => 911
  | _ => 0
def tb_iV : Nat → Nat := fun k => match k with
  | 0 => 0
  | 1 => 267
  | 2 => 308
  | 3 => 402
  | 4 => 390
  | 5 => 385
  | 6 => 523
  | 7 => 557
  | 8 => 381
  | 9 => 2
  | 10 => 3
  | 11 => 327
  | 12 => 513
  | 13 => 339
  | 14 => 323
  | 15 => 519
  | 16 => 0
  | 17 => 288
  | 18 => 491
  | 19 => 0
  | 20 => 425
  | 21 => 433
  | 22 => 441
  | 23 => 445
  | 24 => 449
  | 25 => 4
  | 26 => 5
  | 27 => 0
  | 28 => 7
  | 29 => 6
  | 30 => 8
  | 31 => 0
  | 32 => 260
  | 33 => 352
  | 34 => 0
  | 35 => 395
  | 36 => 413
  | 37 => 0
  | 38 => 256
  | 39 => 273
  | 40 => 297
  | 41 => 319
  | 42 => 335
  | 43 => 347
  | 44 => 360
  | 45 => 372
  | 46 => 535
  | 47 => 539
  | 48 => 588
  | 49 => 593
  | 50 => 377
  | 51 => 597
  | 52 => 601
  | 53 => 605
  | 54 => 0
  | 55 => 252
  | 56 => 293
  | 57 => 315
  | 58 => 331
  | 59 => 343
  | 60 => 356
  | 61 => 368
  | 62 => 421
  | 63 => 429
  | 64 => 437
  | 65 => 483
  | 66 => 487
  | 67 => 495
  | 68 => 499
  | 69 => 503
  | 70 => 509
  | 71 => 527
  | 72 => 531
  | 73 => 543
  | 74 => 548
  | 75 => 553
  | 76 => 561
  | 77 => 571
  | 78 => 575
  | 79 => 579
  | 80 => 584
  | 81 => 1
  | 82 => 9
  | 83 => 10
  | 84 => 0
  | 85 => 0
  | 86 => 0
  | 87 => 0
  | 88 => 0
  | 89 => 0
  | 90 => 0
  | 91 => 0
  | 92 => 0
  | 93 => 0
  | 94 => 0
  | 95 => 0
  | 96 => 11
  | 97 => 14
  | 98 => 39
  | 99 => 41
  | 100 => 16
  | 101 => 35
  | 102 => 26
  | 103 => 27
  | 104 => 25
  | 105 => 37
  | 106 => 28
  | 107 => 24
  | 108 => 23
  | 109 => 22
  | 110 => 21
  | 111 => 40
  | 112 => 12
  | 113 => 15
  | 114 => 18
  | 115 => 17
  | 116 => 20
  | 117 => 19
  | 118 => 13
  | 119 => 665
  | 120 => 691
  | 121 => 712
  | 122 => 724
  | 123 => 736
  | 124 => 740
  | 125 => 744
  | 126 => 784
  | 127 => 788
  | 128 => 33
  | 129 => 31
  | 130 => 32
  | 131 => 30
  | 132 => 34
  | 133 => 29
  | 134 => 792
  | 135 => 820
  | 136 => 824
  | 137 => 828
  | 138 => 832
  | 139 => 836
  | 140 => 36
  | 141 => 840
  | 142 => 856
  | 143 => 38
  | 144 => 860
  | 145 => 868
  | 146 => 872
  | 147 => 876
  | 148 => 880
  | 149 => 42
  | 150 => 896
  | 151 => 904
  | 152 => 908
  | 153 => 43
  | 154 => 912
  | _ => 0
/-- own class, index, (target, nest mate), place of the word -/
def tb_lkL0 : List (Nat × Nat × (Nat × Bool) × Nat) := [(7, 9, (54, false), 56), (5, 1, (1001, false), 59), (5, 9, (37, false), 64), (4, 3, (1001, false), 67), (4, 11, (31, false), 70), (3, 3, (1001, false), 73), (3, 27, (34, false), 78), (0, 3, (1001, false), 105), (5, 28, (16, false), 159), (1, 3, (1001, false), 162), (1, 17, (37, false), 165), (2, 3, (1001, false), 184), (7, 13, (55, false), 250), (5, 54, (38, false), 254), (4, 29, (32, false), 258), (3, 30, (1004, false), 262), (4, 33, (1, false), 265), (0, 22, (1004, false), 269), (4, 36, (1004, false), 270), (5, 58, (39, false), 271), (5, 112, (84, false), 278), (5, 62, (81, false), 282), (5, 233, (17, false), 286), (1, 25, (38, false), 290)]
def tb_lkL1 : List (Nat × Nat × (Nat × Bool) × Nat) := [(7, 18, (56, false), 291), (5, 66, (40, false), 295), (5, 139, (85, false), 302), (5, 172, (86, false), 303), (4, 63, (2, false), 306), (7, 23, (57, false), 313), (5, 70, (41, false), 317), (4, 74, (14, false), 321), (4, 78, (11, false), 325), (7, 28, (58, false), 329), (5, 73, (42, false), 333), (4, 81, (13, false), 337), (7, 32, (59, false), 341), (5, 76, (43, false), 345), (4, 93, (33, false), 350), (7, 36, (60, false), 354), (5, 79, (44, false), 358), (7, 40, (61, false), 366), (5, 82, (45, false), 370), (4, 107, (50, false), 375), (4, 110, (8, false), 379), (0, 66, (5, false), 383), (0, 59, (4, false), 388), (0, 38, (2, false), 392)]
def tb_lkL2 : List (Nat × Nat × (Nat × Bool) × Nat) := [(0, 42, (35, false), 393), (0, 54, (1002, false), 397), (0, 63, (3, false), 400), (0, 75, (9, false), 404), (0, 69, (1003, false), 408), (0, 83, (36, false), 411), (0, 79, (10, false), 415), (7, 44, (62, false), 419), (5, 85, (20, false), 423), (7, 49, (63, false), 427), (5, 89, (21, false), 431), (7, 54, (64, false), 435), (5, 93, (22, false), 439), (2, 19, (23, false), 443), (2, 22, (24, false), 447), (2, 33, (25, false), 451), (2, 40, (26, false), 455), (2, 66, (27, false), 459), (2, 47, (29, false), 462), (2, 36, (28, false), 467), (2, 54, (30, false), 471), (5, 102, (23, false), 475), (5, 105, (24, false), 476), (5, 109, (82, false), 477)]
def tb_lkL3 : List (Nat × Nat × (Nat × Bool) × Nat) := [(7, 58, (65, false), 481), (7, 62, (66, false), 485), (5, 119, (18, false), 489), (7, 66, (67, false), 493), (7, 70, (68, false), 497), (7, 74, (69, false), 501), (5, 125, (87, false), 505), (5, 136, (88, false), 506), (7, 79, (70, false), 507), (5, 146, (12, false), 511), (5, 149, (13, false), 515), (5, 158, (14, false), 516), (5, 161, (15, false), 517), (5, 168, (6, false), 521), (7, 83, (71, false), 525), (7, 87, (72, false), 529), (5, 183, (46, false), 533), (5, 186, (47, false), 537), (7, 91, (73, false), 541), (5, 192, (4, false), 545), (7, 95, (74, false), 546), (5, 196, (5, false), 550), (7, 99, (75, false), 551), (5, 199, (7, false), 555)]
def tb_lkL4 : List (Nat × Nat × (Nat × Bool) × Nat) := [(7, 103, (76, false), 559), (5, 203, (83, false), 563), (5, 252, (1, false), 567), (5, 255, (8, false), 568), (7, 107, (77, false), 569), (7, 111, (78, false), 573), (7, 115, (79, false), 577), (5, 206, (35, false), 581), (7, 120, (80, false), 582), (5, 209, (48, false), 586), (4, 114, (12, false), 590), (5, 212, (49, false), 591), (5, 215, (51, false), 595), (5, 218, (52, false), 599), (5, 224, (53, false), 603), (4, 123, (6, false), 607), (7, 12, (89, false), 610), (6, 1, (1001, false), 613), (7, 17, (119, false), 663), (6, 45, (91, false), 667), (6, 41, (90, false), 670), (6, 103, (96, false), 673), (6, 106, (112, false), 677), (6, 109, (118, false), 681)]
def tb_lkL5 : List (Nat × Nat × (Nat × Bool) × Nat) := [(6, 100, (97, false), 685), (7, 22, (120, false), 689), (6, 112, (93, false), 693), (6, 49, (92, false), 696), (6, 115, (113, false), 699), (6, 59, (100, false), 703), (6, 52, (94, false), 707), (7, 27, (121, false), 710), (6, 119, (115, false), 714), (6, 94, (114, false), 718), (7, 31, (122, false), 722), (6, 122, (117, false), 726), (6, 97, (116, false), 730), (7, 35, (123, false), 734), (7, 39, (124, false), 738), (7, 43, (125, false), 742), (6, 126, (110, false), 747), (6, 83, (109, false), 751), (6, 87, (108, false), 755), (6, 75, (107, false), 759), (6, 72, (104, false), 763), (6, 66, (102, false), 767), (6, 63, (95, false), 771), (6, 69, (103, false), 774)]
def tb_lkL6 : List (Nat × Nat × (Nat × Bool) × Nat) := [(6, 79, (106, false), 778), (7, 48, (126, false), 782), (7, 53, (127, false), 786), (7, 57, (134, false), 790), (6, 158, (133, false), 794), (6, 152, (131, false), 798), (6, 139, (129, false), 802), (6, 146, (130, false), 806), (6, 142, (128, false), 810), (6, 155, (132, false), 814), (7, 61, (135, false), 818), (7, 65, (136, false), 822), (7, 69, (137, false), 826), (7, 73, (138, false), 830), (7, 78, (139, false), 834), (7, 82, (141, false), 838), (6, 165, (101, false), 842), (6, 168, (140, false), 846), (6, 91, (105, false), 850), (7, 86, (142, false), 854), (7, 90, (144, false), 858), (6, 171, (143, false), 862), (7, 94, (145, false), 866), (7, 98, (146, false), 870)]
def tb_lkL7 : List (Nat × Nat × (Nat × Bool) × Nat) := [(7, 102, (147, false), 874), (7, 106, (148, false), 878), (6, 174, (98, false), 882), (6, 177, (111, false), 886), (6, 180, (99, false), 890), (7, 110, (150, false), 894), (6, 183, (149, false), 898), (7, 114, (151, false), 902), (7, 119, (152, false), 906), (7, 123, (154, false), 910), (6, 186, (153, false), 914), (4, 28, (0, true), 0), (5, 35, (0, true), 0), (5, 42, (19, true), 0), (4, 49, (85, true), 0), (4, 53, (84, true), 0), (4, 60, (87, true), 0), (4, 70, (88, true), 0), (4, 87, (86, true), 0), (0, 48, (88, true), 0), (2, 70, (84, true), 0)]
def tb_lkL : List (Nat × Nat × (Nat × Bool) × Nat) := tb_lkL0 ++ (tb_lkL1 ++ (tb_lkL2 ++ (tb_lkL3 ++ (tb_lkL4 ++ (tb_lkL5 ++ (tb_lkL6 ++ (tb_lkL7)))))))
def tb_flL : List (Nat × Nat × Nat × Nat) := [(3, 9, 3, 0), (4, 90, 3, 0), (5, 178, 3, 0), (3, 15, 3, 1), (0, 51, 3, 1), (4, 103, 3, 1), (5, 227, 3, 1), (3, 18, 3, 2), (0, 72, 3, 2), (0, 9, 0, 0), (4, 67, 0, 0), (5, 132, 0, 0), (0, 15, 0, 1), (0, 19, 0, 2), (4, 84, 0, 2), (5, 175, 0, 2), (0, 28, 0, 3), (4, 57, 0, 3), (5, 143, 0, 3), (0, 32, 0, 4), (4, 117, 0, 4), (5, 152, 0, 4), (0, 35, 0, 5), (4, 120, 0, 5), (5, 155, 0, 5), (4, 12, 4, 0), (5, 164, 4, 0), (4, 20, 4, 1), (5, 128, 4, 1), (4, 24, 4, 2), (5, 189, 4, 2), (4, 42, 4, 3), (5, 221, 4, 3), (4, 46, 4, 4), (5, 122, 4, 4), (1, 11, 1, 0), (1, 22, 1, 1), (1, 18, 1, 2), (5, 116, 1, 2), (2, 9, 2, 0), (2, 15, 2, 1), (5, 230, 2, 1), (2, 26, 2, 2), (5, 99, 2, 2), (2, 29, 2, 3), (5, 96, 2, 3), (2, 43, 2, 4), (5, 236, 2, 4), (2, 51, 2, 5), (5, 240, 2, 5), (2, 60, 2, 6), (5, 246, 2, 6), (2, 63, 2, 7), (5, 249, 2, 7), (2, 57, 2, 8), (5, 243, 2, 8), (5, 10, 5, 0), (5, 16, 5, 1), (5, 19, 5, 2), (5, 22, 5, 3), (5, 29, 5, 4), (5, 36, 5, 5), (5, 43, 5, 6), (5, 47, 5, 7), (5, 51, 5, 8), (6, 7, 6, 0), (6, 13, 6, 1), (6, 16, 6, 2), (6, 19, 6, 3), (6, 162, 6, 4), (6, 22, 6, 5), (6, 56, 6, 6), (6, 25, 6, 7), (6, 129, 6, 8), (6, 28, 6, 9), (6, 32, 6, 10), (6, 35, 6, 11), (6, 136, 6, 12), (6, 132, 6, 13), (6, 38, 6, 14), (6, 149, 6, 15)]
def tb_sn : Nat → String := fun k => match k with
  | 0 => "FIRST_GRIP"
  | 1 => "FIRST_SETTING"
  | 2 => "LEAST_SETTING"
  | 3 => "MOST_SETTING"
  | _ => ""
def tb_slL : List (Nat × Nat × Nat) := [(3, 21, 0), (3, 24, 1), (4, 97, 2), (4, 100, 3)]
def tb_clL : List (Nat × Nat × Nat) := [(7, 7, 5), (5, 7, 4), (4, 9, 3), (4, 18, 0), (5, 26, 1), (1, 9, 4), (5, 33, 0), (5, 40, 2), (7, 10, 6)]
def tb_kcL : List (Nat × Nat × Int32) := [(4, 106, 99999), (6, 125, 99999)]
def tb_lk (c ix : Nat) : Option (Nat × Bool) := (tb_lkL.find? (fun q => q.1 == c && q.2.1 == ix)).map (fun q => q.2.2.1)
def tb_fl (c ix : Nat) : Option (Nat × Nat) := (tb_flL.find? (fun q => q.1 == c && q.2.1 == ix)).map (fun q => q.2.2)
def tb_sl (c ix : Nat) : Option Nat := (tb_slL.find? (fun q => q.1 == c && q.2.1 == ix)).map (fun q => q.2.2)
def tb_cl (c ix : Nat) : Option Nat := (tb_clL.find? (fun q => q.1 == c && q.2.1 == ix)).map (fun q => q.2.2)
def tb_kc (c ix : Nat) : Option Int32 := (tb_kcL.find? (fun q => q.1 == c && q.2.1 == ix)).map (fun q => q.2.2)
def tb_cls : List vw_C := (List.range 7).map (fun k => (tb_cn k, tb_F k, tb_nF k))
def tb_big : List Cond := lw_tbl.filter goodWord
def tb_cw (m : Nat) : Cond := .code (tb_y m) (tb_by m) (tb_mL m) (tb_rt m)
def tb_ws (m : Nat) : List Cond := tb_cw m :: tb_big
/-- what nest mates are called and read by: these words hold of a state, not of the tables alone -/
def tb_nst : List Cond := ((tb_lkL.filter (fun q => q.2.2.1.2)).map (fun q => Cond.methodLinkNest (tb_cn q.1) q.2.1 (tb_y q.2.2.1.1) "TiltBoards")) ++ (tb_slL.map (fun q => Cond.fieldLinkNest (tb_cn q.1) q.2.1 "TiltBoards" (tb_sn q.2.2) "[I" "TiltBoards"))
def tb_cd (m pc : Nat) : Option (Instr × Nat) := match decode (tb_by m) pc with | .ok r => some r | .error _ => none
def tb_nLaw : Nat := 155
theorem tb_k1i_0 : ∀ m, m < 16 → lw_tbl[tb_iC (m + 0)]? = some (tb_cw (m + 0)) := by decide +kernel
theorem tb_k1i_1 : ∀ m, m < 16 → lw_tbl[tb_iC (m + 16)]? = some (tb_cw (m + 16)) := by decide +kernel
theorem tb_k1i_2 : ∀ m, m < 16 → lw_tbl[tb_iC (m + 32)]? = some (tb_cw (m + 32)) := by decide +kernel
theorem tb_k1i_3 : ∀ m, m < 16 → lw_tbl[tb_iC (m + 48)]? = some (tb_cw (m + 48)) := by decide +kernel
theorem tb_k1i_4 : ∀ m, m < 16 → lw_tbl[tb_iC (m + 64)]? = some (tb_cw (m + 64)) := by decide +kernel
theorem tb_k1i_5 : ∀ m, m < 16 → lw_tbl[tb_iC (m + 80)]? = some (tb_cw (m + 80)) := by decide +kernel
theorem tb_k1i_6 : ∀ m, m < 16 → lw_tbl[tb_iC (m + 96)]? = some (tb_cw (m + 96)) := by decide +kernel
theorem tb_k1i_7 : ∀ m, m < 16 → lw_tbl[tb_iC (m + 112)]? = some (tb_cw (m + 112)) := by decide +kernel
theorem tb_k1i_8 : ∀ m, m < 16 → lw_tbl[tb_iC (m + 128)]? = some (tb_cw (m + 128)) := by decide +kernel
theorem tb_k1i_9 : ∀ m, m < 11 → lw_tbl[tb_iC (m + 144)]? = some (tb_cw (m + 144)) := by decide +kernel
theorem tb_k1i : ∀ m, m < tb_nLaw → lw_tbl[tb_iC m]? = some (tb_cw m) := by
  intro m hm
  have hm : m < 155 := hm
  by_cases h0 : m < 16
  · have h := tb_k1i_0 (m - 0) (by omega)
    rw [Nat.sub_add_cancel (by omega)] at h
    exact h
  by_cases h1 : m < 32
  · have h := tb_k1i_1 (m - 16) (by omega)
    rw [Nat.sub_add_cancel (by omega)] at h
    exact h
  by_cases h2 : m < 48
  · have h := tb_k1i_2 (m - 32) (by omega)
    rw [Nat.sub_add_cancel (by omega)] at h
    exact h
  by_cases h3 : m < 64
  · have h := tb_k1i_3 (m - 48) (by omega)
    rw [Nat.sub_add_cancel (by omega)] at h
    exact h
  by_cases h4 : m < 80
  · have h := tb_k1i_4 (m - 64) (by omega)
    rw [Nat.sub_add_cancel (by omega)] at h
    exact h
  by_cases h5 : m < 96
  · have h := tb_k1i_5 (m - 80) (by omega)
    rw [Nat.sub_add_cancel (by omega)] at h
    exact h
  by_cases h6 : m < 112
  · have h := tb_k1i_6 (m - 96) (by omega)
    rw [Nat.sub_add_cancel (by omega)] at h
    exact h
  by_cases h7 : m < 128
  · have h := tb_k1i_7 (m - 112) (by omega)
    rw [Nat.sub_add_cancel (by omega)] at h
    exact h
  by_cases h8 : m < 144
  · have h := tb_k1i_8 (m - 128) (by omega)
    rw [Nat.sub_add_cancel (by omega)] at h
    exact h
  have h := tb_k1i_9 (m - 144) (by omega)
  rw [Nat.sub_add_cancel (by omega)] at h
  exact h
theorem tb_k2i_0 : ∀ m, m < 16 → (tb_kd (m + 0) = 1 → lw_tbl[tb_iS (m + 0)]? = some (Cond.static (tb_y (m + 0)))) ∧ (tb_kd (m + 0) ≠ 1 → lw_tbl[tb_iS (m + 0)]? = some (Cond.instanceMethod (tb_y (m + 0)))) ∧ (tb_kd (m + 0) = 0 → lw_tbl[tb_iV (m + 0)]? = some (Cond.selects (tb_cn (tb_ow (m + 0))) (tb_y (m + 0)) (tb_y (m + 0)))) ∧ (tb_kd (m + 0) = 2 → (tb_y (m + 0)).name = "<init>" ∧ tb_rt (m + 0) = none) := by decide +kernel
theorem tb_k2i_1 : ∀ m, m < 16 → (tb_kd (m + 16) = 1 → lw_tbl[tb_iS (m + 16)]? = some (Cond.static (tb_y (m + 16)))) ∧ (tb_kd (m + 16) ≠ 1 → lw_tbl[tb_iS (m + 16)]? = some (Cond.instanceMethod (tb_y (m + 16)))) ∧ (tb_kd (m + 16) = 0 → lw_tbl[tb_iV (m + 16)]? = some (Cond.selects (tb_cn (tb_ow (m + 16))) (tb_y (m + 16)) (tb_y (m + 16)))) ∧ (tb_kd (m + 16) = 2 → (tb_y (m + 16)).name = "<init>" ∧ tb_rt (m + 16) = none) := by decide +kernel
theorem tb_k2i_2 : ∀ m, m < 16 → (tb_kd (m + 32) = 1 → lw_tbl[tb_iS (m + 32)]? = some (Cond.static (tb_y (m + 32)))) ∧ (tb_kd (m + 32) ≠ 1 → lw_tbl[tb_iS (m + 32)]? = some (Cond.instanceMethod (tb_y (m + 32)))) ∧ (tb_kd (m + 32) = 0 → lw_tbl[tb_iV (m + 32)]? = some (Cond.selects (tb_cn (tb_ow (m + 32))) (tb_y (m + 32)) (tb_y (m + 32)))) ∧ (tb_kd (m + 32) = 2 → (tb_y (m + 32)).name = "<init>" ∧ tb_rt (m + 32) = none) := by decide +kernel
theorem tb_k2i_3 : ∀ m, m < 16 → (tb_kd (m + 48) = 1 → lw_tbl[tb_iS (m + 48)]? = some (Cond.static (tb_y (m + 48)))) ∧ (tb_kd (m + 48) ≠ 1 → lw_tbl[tb_iS (m + 48)]? = some (Cond.instanceMethod (tb_y (m + 48)))) ∧ (tb_kd (m + 48) = 0 → lw_tbl[tb_iV (m + 48)]? = some (Cond.selects (tb_cn (tb_ow (m + 48))) (tb_y (m + 48)) (tb_y (m + 48)))) ∧ (tb_kd (m + 48) = 2 → (tb_y (m + 48)).name = "<init>" ∧ tb_rt (m + 48) = none) := by decide +kernel
theorem tb_k2i_4 : ∀ m, m < 16 → (tb_kd (m + 64) = 1 → lw_tbl[tb_iS (m + 64)]? = some (Cond.static (tb_y (m + 64)))) ∧ (tb_kd (m + 64) ≠ 1 → lw_tbl[tb_iS (m + 64)]? = some (Cond.instanceMethod (tb_y (m + 64)))) ∧ (tb_kd (m + 64) = 0 → lw_tbl[tb_iV (m + 64)]? = some (Cond.selects (tb_cn (tb_ow (m + 64))) (tb_y (m + 64)) (tb_y (m + 64)))) ∧ (tb_kd (m + 64) = 2 → (tb_y (m + 64)).name = "<init>" ∧ tb_rt (m + 64) = none) := by decide +kernel
theorem tb_k2i_5 : ∀ m, m < 16 → (tb_kd (m + 80) = 1 → lw_tbl[tb_iS (m + 80)]? = some (Cond.static (tb_y (m + 80)))) ∧ (tb_kd (m + 80) ≠ 1 → lw_tbl[tb_iS (m + 80)]? = some (Cond.instanceMethod (tb_y (m + 80)))) ∧ (tb_kd (m + 80) = 0 → lw_tbl[tb_iV (m + 80)]? = some (Cond.selects (tb_cn (tb_ow (m + 80))) (tb_y (m + 80)) (tb_y (m + 80)))) ∧ (tb_kd (m + 80) = 2 → (tb_y (m + 80)).name = "<init>" ∧ tb_rt (m + 80) = none) := by decide +kernel
theorem tb_k2i_6 : ∀ m, m < 16 → (tb_kd (m + 96) = 1 → lw_tbl[tb_iS (m + 96)]? = some (Cond.static (tb_y (m + 96)))) ∧ (tb_kd (m + 96) ≠ 1 → lw_tbl[tb_iS (m + 96)]? = some (Cond.instanceMethod (tb_y (m + 96)))) ∧ (tb_kd (m + 96) = 0 → lw_tbl[tb_iV (m + 96)]? = some (Cond.selects (tb_cn (tb_ow (m + 96))) (tb_y (m + 96)) (tb_y (m + 96)))) ∧ (tb_kd (m + 96) = 2 → (tb_y (m + 96)).name = "<init>" ∧ tb_rt (m + 96) = none) := by decide +kernel
theorem tb_k2i_7 : ∀ m, m < 16 → (tb_kd (m + 112) = 1 → lw_tbl[tb_iS (m + 112)]? = some (Cond.static (tb_y (m + 112)))) ∧ (tb_kd (m + 112) ≠ 1 → lw_tbl[tb_iS (m + 112)]? = some (Cond.instanceMethod (tb_y (m + 112)))) ∧ (tb_kd (m + 112) = 0 → lw_tbl[tb_iV (m + 112)]? = some (Cond.selects (tb_cn (tb_ow (m + 112))) (tb_y (m + 112)) (tb_y (m + 112)))) ∧ (tb_kd (m + 112) = 2 → (tb_y (m + 112)).name = "<init>" ∧ tb_rt (m + 112) = none) := by decide +kernel
theorem tb_k2i_8 : ∀ m, m < 16 → (tb_kd (m + 128) = 1 → lw_tbl[tb_iS (m + 128)]? = some (Cond.static (tb_y (m + 128)))) ∧ (tb_kd (m + 128) ≠ 1 → lw_tbl[tb_iS (m + 128)]? = some (Cond.instanceMethod (tb_y (m + 128)))) ∧ (tb_kd (m + 128) = 0 → lw_tbl[tb_iV (m + 128)]? = some (Cond.selects (tb_cn (tb_ow (m + 128))) (tb_y (m + 128)) (tb_y (m + 128)))) ∧ (tb_kd (m + 128) = 2 → (tb_y (m + 128)).name = "<init>" ∧ tb_rt (m + 128) = none) := by decide +kernel
theorem tb_k2i_9 : ∀ m, m < 11 → (tb_kd (m + 144) = 1 → lw_tbl[tb_iS (m + 144)]? = some (Cond.static (tb_y (m + 144)))) ∧ (tb_kd (m + 144) ≠ 1 → lw_tbl[tb_iS (m + 144)]? = some (Cond.instanceMethod (tb_y (m + 144)))) ∧ (tb_kd (m + 144) = 0 → lw_tbl[tb_iV (m + 144)]? = some (Cond.selects (tb_cn (tb_ow (m + 144))) (tb_y (m + 144)) (tb_y (m + 144)))) ∧ (tb_kd (m + 144) = 2 → (tb_y (m + 144)).name = "<init>" ∧ tb_rt (m + 144) = none) := by decide +kernel
theorem tb_k2i : ∀ m, m < tb_nLaw → (tb_kd m = 1 → lw_tbl[tb_iS m]? = some (Cond.static (tb_y m))) ∧ (tb_kd m ≠ 1 → lw_tbl[tb_iS m]? = some (Cond.instanceMethod (tb_y m))) ∧ (tb_kd m = 0 → lw_tbl[tb_iV m]? = some (Cond.selects (tb_cn (tb_ow m)) (tb_y m) (tb_y m))) ∧ (tb_kd m = 2 → (tb_y m).name = "<init>" ∧ tb_rt m = none) := by
  intro m hm
  have hm : m < 155 := hm
  by_cases h0 : m < 16
  · have h := tb_k2i_0 (m - 0) (by omega)
    rw [Nat.sub_add_cancel (by omega)] at h
    exact h
  by_cases h1 : m < 32
  · have h := tb_k2i_1 (m - 16) (by omega)
    rw [Nat.sub_add_cancel (by omega)] at h
    exact h
  by_cases h2 : m < 48
  · have h := tb_k2i_2 (m - 32) (by omega)
    rw [Nat.sub_add_cancel (by omega)] at h
    exact h
  by_cases h3 : m < 64
  · have h := tb_k2i_3 (m - 48) (by omega)
    rw [Nat.sub_add_cancel (by omega)] at h
    exact h
  by_cases h4 : m < 80
  · have h := tb_k2i_4 (m - 64) (by omega)
    rw [Nat.sub_add_cancel (by omega)] at h
    exact h
  by_cases h5 : m < 96
  · have h := tb_k2i_5 (m - 80) (by omega)
    rw [Nat.sub_add_cancel (by omega)] at h
    exact h
  by_cases h6 : m < 112
  · have h := tb_k2i_6 (m - 96) (by omega)
    rw [Nat.sub_add_cancel (by omega)] at h
    exact h
  by_cases h7 : m < 128
  · have h := tb_k2i_7 (m - 112) (by omega)
    rw [Nat.sub_add_cancel (by omega)] at h
    exact h
  by_cases h8 : m < 144
  · have h := tb_k2i_8 (m - 128) (by omega)
    rw [Nat.sub_add_cancel (by omega)] at h
    exact h
  have h := tb_k2i_9 (m - 144) (by omega)
  rw [Nat.sub_add_cancel (by omega)] at h
  exact h
theorem tb_k1 {m : Nat} (h : m < tb_nLaw) : tb_cw m ∈ lw_tbl := List.mem_of_getElem? (tb_k1i m h)
theorem tb_k3 : ∀ k, k < 8 → Cond.initialized (tb_cn k) ∈ lw_tbl := by decide +kernel
theorem tb_k4_0 : ∀ q ∈ tb_lkL0, (q.2.2.1.2 = false → q.2.2.1.1 < 1000 → lw_tbl[q.2.2.2]? = some (Cond.methodLink (tb_cn q.1) q.2.1 (tb_y q.2.2.1.1)) ∧ q.2.2.1.1 < tb_nLaw) ∧ (q.2.2.1.2 = true → q.2.2.1.1 < tb_nLaw) := by decide +kernel
theorem tb_k4_1 : ∀ q ∈ tb_lkL1, (q.2.2.1.2 = false → q.2.2.1.1 < 1000 → lw_tbl[q.2.2.2]? = some (Cond.methodLink (tb_cn q.1) q.2.1 (tb_y q.2.2.1.1)) ∧ q.2.2.1.1 < tb_nLaw) ∧ (q.2.2.1.2 = true → q.2.2.1.1 < tb_nLaw) := by decide +kernel
theorem tb_k4_2 : ∀ q ∈ tb_lkL2, (q.2.2.1.2 = false → q.2.2.1.1 < 1000 → lw_tbl[q.2.2.2]? = some (Cond.methodLink (tb_cn q.1) q.2.1 (tb_y q.2.2.1.1)) ∧ q.2.2.1.1 < tb_nLaw) ∧ (q.2.2.1.2 = true → q.2.2.1.1 < tb_nLaw) := by decide +kernel
theorem tb_k4_3 : ∀ q ∈ tb_lkL3, (q.2.2.1.2 = false → q.2.2.1.1 < 1000 → lw_tbl[q.2.2.2]? = some (Cond.methodLink (tb_cn q.1) q.2.1 (tb_y q.2.2.1.1)) ∧ q.2.2.1.1 < tb_nLaw) ∧ (q.2.2.1.2 = true → q.2.2.1.1 < tb_nLaw) := by decide +kernel
theorem tb_k4_4 : ∀ q ∈ tb_lkL4, (q.2.2.1.2 = false → q.2.2.1.1 < 1000 → lw_tbl[q.2.2.2]? = some (Cond.methodLink (tb_cn q.1) q.2.1 (tb_y q.2.2.1.1)) ∧ q.2.2.1.1 < tb_nLaw) ∧ (q.2.2.1.2 = true → q.2.2.1.1 < tb_nLaw) := by decide +kernel
theorem tb_k4_5 : ∀ q ∈ tb_lkL5, (q.2.2.1.2 = false → q.2.2.1.1 < 1000 → lw_tbl[q.2.2.2]? = some (Cond.methodLink (tb_cn q.1) q.2.1 (tb_y q.2.2.1.1)) ∧ q.2.2.1.1 < tb_nLaw) ∧ (q.2.2.1.2 = true → q.2.2.1.1 < tb_nLaw) := by decide +kernel
theorem tb_k4_6 : ∀ q ∈ tb_lkL6, (q.2.2.1.2 = false → q.2.2.1.1 < 1000 → lw_tbl[q.2.2.2]? = some (Cond.methodLink (tb_cn q.1) q.2.1 (tb_y q.2.2.1.1)) ∧ q.2.2.1.1 < tb_nLaw) ∧ (q.2.2.1.2 = true → q.2.2.1.1 < tb_nLaw) := by decide +kernel
theorem tb_k4_7 : ∀ q ∈ tb_lkL7, (q.2.2.1.2 = false → q.2.2.1.1 < 1000 → lw_tbl[q.2.2.2]? = some (Cond.methodLink (tb_cn q.1) q.2.1 (tb_y q.2.2.1.1)) ∧ q.2.2.1.1 < tb_nLaw) ∧ (q.2.2.1.2 = true → q.2.2.1.1 < tb_nLaw) := by decide +kernel
theorem tb_k4 : ∀ q ∈ tb_lkL, (q.2.2.1.2 = false → q.2.2.1.1 < 1000 → lw_tbl[q.2.2.2]? = some (Cond.methodLink (tb_cn q.1) q.2.1 (tb_y q.2.2.1.1)) ∧ q.2.2.1.1 < tb_nLaw) ∧ (q.2.2.1.2 = true → q.2.2.1.1 < tb_nLaw) := List.forall_mem_append.mpr ⟨tb_k4_0,  List.forall_mem_append.mpr ⟨tb_k4_1,  List.forall_mem_append.mpr ⟨tb_k4_2,  List.forall_mem_append.mpr ⟨tb_k4_3,  List.forall_mem_append.mpr ⟨tb_k4_4,  List.forall_mem_append.mpr ⟨tb_k4_5,  List.forall_mem_append.mpr ⟨tb_k4_6, tb_k4_7⟩⟩⟩⟩⟩⟩⟩
theorem tb_k4s1001_0 : ∀ q ∈ tb_lkL0, q.2.2.1.1 = 1001 → q.2.2.1.2 = false ∧ lw_tbl[q.2.2.2]? = some (Cond.methodLink (tb_cn q.1) q.2.1 ⟨"java/lang/Object", "<init>", "()V"⟩) := by decide +kernel
theorem tb_k4s1001_1 : ∀ q ∈ tb_lkL1, q.2.2.1.1 = 1001 → q.2.2.1.2 = false ∧ lw_tbl[q.2.2.2]? = some (Cond.methodLink (tb_cn q.1) q.2.1 ⟨"java/lang/Object", "<init>", "()V"⟩) := by decide +kernel
theorem tb_k4s1001_2 : ∀ q ∈ tb_lkL2, q.2.2.1.1 = 1001 → q.2.2.1.2 = false ∧ lw_tbl[q.2.2.2]? = some (Cond.methodLink (tb_cn q.1) q.2.1 ⟨"java/lang/Object", "<init>", "()V"⟩) := by decide +kernel
theorem tb_k4s1001_3 : ∀ q ∈ tb_lkL3, q.2.2.1.1 = 1001 → q.2.2.1.2 = false ∧ lw_tbl[q.2.2.2]? = some (Cond.methodLink (tb_cn q.1) q.2.1 ⟨"java/lang/Object", "<init>", "()V"⟩) := by decide +kernel
theorem tb_k4s1001_4 : ∀ q ∈ tb_lkL4, q.2.2.1.1 = 1001 → q.2.2.1.2 = false ∧ lw_tbl[q.2.2.2]? = some (Cond.methodLink (tb_cn q.1) q.2.1 ⟨"java/lang/Object", "<init>", "()V"⟩) := by decide +kernel
theorem tb_k4s1001_5 : ∀ q ∈ tb_lkL5, q.2.2.1.1 = 1001 → q.2.2.1.2 = false ∧ lw_tbl[q.2.2.2]? = some (Cond.methodLink (tb_cn q.1) q.2.1 ⟨"java/lang/Object", "<init>", "()V"⟩) := by decide +kernel
theorem tb_k4s1001_6 : ∀ q ∈ tb_lkL6, q.2.2.1.1 = 1001 → q.2.2.1.2 = false ∧ lw_tbl[q.2.2.2]? = some (Cond.methodLink (tb_cn q.1) q.2.1 ⟨"java/lang/Object", "<init>", "()V"⟩) := by decide +kernel
theorem tb_k4s1001_7 : ∀ q ∈ tb_lkL7, q.2.2.1.1 = 1001 → q.2.2.1.2 = false ∧ lw_tbl[q.2.2.2]? = some (Cond.methodLink (tb_cn q.1) q.2.1 ⟨"java/lang/Object", "<init>", "()V"⟩) := by decide +kernel
theorem tb_k4s1001 : ∀ q ∈ tb_lkL, q.2.2.1.1 = 1001 → q.2.2.1.2 = false ∧ lw_tbl[q.2.2.2]? = some (Cond.methodLink (tb_cn q.1) q.2.1 ⟨"java/lang/Object", "<init>", "()V"⟩) := List.forall_mem_append.mpr ⟨tb_k4s1001_0,  List.forall_mem_append.mpr ⟨tb_k4s1001_1,  List.forall_mem_append.mpr ⟨tb_k4s1001_2,  List.forall_mem_append.mpr ⟨tb_k4s1001_3,  List.forall_mem_append.mpr ⟨tb_k4s1001_4,  List.forall_mem_append.mpr ⟨tb_k4s1001_5,  List.forall_mem_append.mpr ⟨tb_k4s1001_6, tb_k4s1001_7⟩⟩⟩⟩⟩⟩⟩
theorem tb_k4s1002_0 : ∀ q ∈ tb_lkL0, q.2.2.1.1 = 1002 → q.2.2.1.2 = false ∧ lw_tbl[q.2.2.2]? = some (Cond.methodLink (tb_cn q.1) q.2.1 ⟨"java/lang/Math", "max", "(II)I"⟩) := by decide +kernel
theorem tb_k4s1002_1 : ∀ q ∈ tb_lkL1, q.2.2.1.1 = 1002 → q.2.2.1.2 = false ∧ lw_tbl[q.2.2.2]? = some (Cond.methodLink (tb_cn q.1) q.2.1 ⟨"java/lang/Math", "max", "(II)I"⟩) := by decide +kernel
theorem tb_k4s1002_2 : ∀ q ∈ tb_lkL2, q.2.2.1.1 = 1002 → q.2.2.1.2 = false ∧ lw_tbl[q.2.2.2]? = some (Cond.methodLink (tb_cn q.1) q.2.1 ⟨"java/lang/Math", "max", "(II)I"⟩) := by decide +kernel
theorem tb_k4s1002_3 : ∀ q ∈ tb_lkL3, q.2.2.1.1 = 1002 → q.2.2.1.2 = false ∧ lw_tbl[q.2.2.2]? = some (Cond.methodLink (tb_cn q.1) q.2.1 ⟨"java/lang/Math", "max", "(II)I"⟩) := by decide +kernel
theorem tb_k4s1002_4 : ∀ q ∈ tb_lkL4, q.2.2.1.1 = 1002 → q.2.2.1.2 = false ∧ lw_tbl[q.2.2.2]? = some (Cond.methodLink (tb_cn q.1) q.2.1 ⟨"java/lang/Math", "max", "(II)I"⟩) := by decide +kernel
theorem tb_k4s1002_5 : ∀ q ∈ tb_lkL5, q.2.2.1.1 = 1002 → q.2.2.1.2 = false ∧ lw_tbl[q.2.2.2]? = some (Cond.methodLink (tb_cn q.1) q.2.1 ⟨"java/lang/Math", "max", "(II)I"⟩) := by decide +kernel
theorem tb_k4s1002_6 : ∀ q ∈ tb_lkL6, q.2.2.1.1 = 1002 → q.2.2.1.2 = false ∧ lw_tbl[q.2.2.2]? = some (Cond.methodLink (tb_cn q.1) q.2.1 ⟨"java/lang/Math", "max", "(II)I"⟩) := by decide +kernel
theorem tb_k4s1002_7 : ∀ q ∈ tb_lkL7, q.2.2.1.1 = 1002 → q.2.2.1.2 = false ∧ lw_tbl[q.2.2.2]? = some (Cond.methodLink (tb_cn q.1) q.2.1 ⟨"java/lang/Math", "max", "(II)I"⟩) := by decide +kernel
theorem tb_k4s1002 : ∀ q ∈ tb_lkL, q.2.2.1.1 = 1002 → q.2.2.1.2 = false ∧ lw_tbl[q.2.2.2]? = some (Cond.methodLink (tb_cn q.1) q.2.1 ⟨"java/lang/Math", "max", "(II)I"⟩) := List.forall_mem_append.mpr ⟨tb_k4s1002_0,  List.forall_mem_append.mpr ⟨tb_k4s1002_1,  List.forall_mem_append.mpr ⟨tb_k4s1002_2,  List.forall_mem_append.mpr ⟨tb_k4s1002_3,  List.forall_mem_append.mpr ⟨tb_k4s1002_4,  List.forall_mem_append.mpr ⟨tb_k4s1002_5,  List.forall_mem_append.mpr ⟨tb_k4s1002_6, tb_k4s1002_7⟩⟩⟩⟩⟩⟩⟩
theorem tb_k4s1003_0 : ∀ q ∈ tb_lkL0, q.2.2.1.1 = 1003 → q.2.2.1.2 = false ∧ lw_tbl[q.2.2.2]? = some (Cond.methodLink (tb_cn q.1) q.2.1 ⟨"java/lang/Math", "min", "(II)I"⟩) := by decide +kernel
theorem tb_k4s1003_1 : ∀ q ∈ tb_lkL1, q.2.2.1.1 = 1003 → q.2.2.1.2 = false ∧ lw_tbl[q.2.2.2]? = some (Cond.methodLink (tb_cn q.1) q.2.1 ⟨"java/lang/Math", "min", "(II)I"⟩) := by decide +kernel
theorem tb_k4s1003_2 : ∀ q ∈ tb_lkL2, q.2.2.1.1 = 1003 → q.2.2.1.2 = false ∧ lw_tbl[q.2.2.2]? = some (Cond.methodLink (tb_cn q.1) q.2.1 ⟨"java/lang/Math", "min", "(II)I"⟩) := by decide +kernel
theorem tb_k4s1003_3 : ∀ q ∈ tb_lkL3, q.2.2.1.1 = 1003 → q.2.2.1.2 = false ∧ lw_tbl[q.2.2.2]? = some (Cond.methodLink (tb_cn q.1) q.2.1 ⟨"java/lang/Math", "min", "(II)I"⟩) := by decide +kernel
theorem tb_k4s1003_4 : ∀ q ∈ tb_lkL4, q.2.2.1.1 = 1003 → q.2.2.1.2 = false ∧ lw_tbl[q.2.2.2]? = some (Cond.methodLink (tb_cn q.1) q.2.1 ⟨"java/lang/Math", "min", "(II)I"⟩) := by decide +kernel
theorem tb_k4s1003_5 : ∀ q ∈ tb_lkL5, q.2.2.1.1 = 1003 → q.2.2.1.2 = false ∧ lw_tbl[q.2.2.2]? = some (Cond.methodLink (tb_cn q.1) q.2.1 ⟨"java/lang/Math", "min", "(II)I"⟩) := by decide +kernel
theorem tb_k4s1003_6 : ∀ q ∈ tb_lkL6, q.2.2.1.1 = 1003 → q.2.2.1.2 = false ∧ lw_tbl[q.2.2.2]? = some (Cond.methodLink (tb_cn q.1) q.2.1 ⟨"java/lang/Math", "min", "(II)I"⟩) := by decide +kernel
theorem tb_k4s1003_7 : ∀ q ∈ tb_lkL7, q.2.2.1.1 = 1003 → q.2.2.1.2 = false ∧ lw_tbl[q.2.2.2]? = some (Cond.methodLink (tb_cn q.1) q.2.1 ⟨"java/lang/Math", "min", "(II)I"⟩) := by decide +kernel
theorem tb_k4s1003 : ∀ q ∈ tb_lkL, q.2.2.1.1 = 1003 → q.2.2.1.2 = false ∧ lw_tbl[q.2.2.2]? = some (Cond.methodLink (tb_cn q.1) q.2.1 ⟨"java/lang/Math", "min", "(II)I"⟩) := List.forall_mem_append.mpr ⟨tb_k4s1003_0,  List.forall_mem_append.mpr ⟨tb_k4s1003_1,  List.forall_mem_append.mpr ⟨tb_k4s1003_2,  List.forall_mem_append.mpr ⟨tb_k4s1003_3,  List.forall_mem_append.mpr ⟨tb_k4s1003_4,  List.forall_mem_append.mpr ⟨tb_k4s1003_5,  List.forall_mem_append.mpr ⟨tb_k4s1003_6, tb_k4s1003_7⟩⟩⟩⟩⟩⟩⟩
theorem tb_k4s1004_0 : ∀ q ∈ tb_lkL0, q.2.2.1.1 = 1004 → q.2.2.1.2 = false ∧ lw_tbl[q.2.2.2]? = some (Cond.methodLink (tb_cn q.1) q.2.1 ⟨"java/lang/System", "arraycopy", "(Ljava/lang/Object;ILjava/lang/Object;II)V"⟩) := by decide +kernel
theorem tb_k4s1004_1 : ∀ q ∈ tb_lkL1, q.2.2.1.1 = 1004 → q.2.2.1.2 = false ∧ lw_tbl[q.2.2.2]? = some (Cond.methodLink (tb_cn q.1) q.2.1 ⟨"java/lang/System", "arraycopy", "(Ljava/lang/Object;ILjava/lang/Object;II)V"⟩) := by decide +kernel
theorem tb_k4s1004_2 : ∀ q ∈ tb_lkL2, q.2.2.1.1 = 1004 → q.2.2.1.2 = false ∧ lw_tbl[q.2.2.2]? = some (Cond.methodLink (tb_cn q.1) q.2.1 ⟨"java/lang/System", "arraycopy", "(Ljava/lang/Object;ILjava/lang/Object;II)V"⟩) := by decide +kernel
theorem tb_k4s1004_3 : ∀ q ∈ tb_lkL3, q.2.2.1.1 = 1004 → q.2.2.1.2 = false ∧ lw_tbl[q.2.2.2]? = some (Cond.methodLink (tb_cn q.1) q.2.1 ⟨"java/lang/System", "arraycopy", "(Ljava/lang/Object;ILjava/lang/Object;II)V"⟩) := by decide +kernel
theorem tb_k4s1004_4 : ∀ q ∈ tb_lkL4, q.2.2.1.1 = 1004 → q.2.2.1.2 = false ∧ lw_tbl[q.2.2.2]? = some (Cond.methodLink (tb_cn q.1) q.2.1 ⟨"java/lang/System", "arraycopy", "(Ljava/lang/Object;ILjava/lang/Object;II)V"⟩) := by decide +kernel
theorem tb_k4s1004_5 : ∀ q ∈ tb_lkL5, q.2.2.1.1 = 1004 → q.2.2.1.2 = false ∧ lw_tbl[q.2.2.2]? = some (Cond.methodLink (tb_cn q.1) q.2.1 ⟨"java/lang/System", "arraycopy", "(Ljava/lang/Object;ILjava/lang/Object;II)V"⟩) := by decide +kernel
theorem tb_k4s1004_6 : ∀ q ∈ tb_lkL6, q.2.2.1.1 = 1004 → q.2.2.1.2 = false ∧ lw_tbl[q.2.2.2]? = some (Cond.methodLink (tb_cn q.1) q.2.1 ⟨"java/lang/System", "arraycopy", "(Ljava/lang/Object;ILjava/lang/Object;II)V"⟩) := by decide +kernel
theorem tb_k4s1004_7 : ∀ q ∈ tb_lkL7, q.2.2.1.1 = 1004 → q.2.2.1.2 = false ∧ lw_tbl[q.2.2.2]? = some (Cond.methodLink (tb_cn q.1) q.2.1 ⟨"java/lang/System", "arraycopy", "(Ljava/lang/Object;ILjava/lang/Object;II)V"⟩) := by decide +kernel
theorem tb_k4s1004 : ∀ q ∈ tb_lkL, q.2.2.1.1 = 1004 → q.2.2.1.2 = false ∧ lw_tbl[q.2.2.2]? = some (Cond.methodLink (tb_cn q.1) q.2.1 ⟨"java/lang/System", "arraycopy", "(Ljava/lang/Object;ILjava/lang/Object;II)V"⟩) := List.forall_mem_append.mpr ⟨tb_k4s1004_0,  List.forall_mem_append.mpr ⟨tb_k4s1004_1,  List.forall_mem_append.mpr ⟨tb_k4s1004_2,  List.forall_mem_append.mpr ⟨tb_k4s1004_3,  List.forall_mem_append.mpr ⟨tb_k4s1004_4,  List.forall_mem_append.mpr ⟨tb_k4s1004_5,  List.forall_mem_append.mpr ⟨tb_k4s1004_6, tb_k4s1004_7⟩⟩⟩⟩⟩⟩⟩
theorem tb_k5 : ∀ q ∈ tb_flL, q.2.2.1 < 7 ∧ q.2.2.2 < tb_nF q.2.2.1 ∧ Cond.fieldLink (tb_cn q.1) q.2.1 (tb_cn q.2.2.1) (tb_F q.2.2.1 q.2.2.2).2.1 (tb_F q.2.2.1 q.2.2.2).2.2.1 ∈ lw_tbl ∧ (tb_F q.2.2.1 q.2.2.2).1 = tb_cn q.2.2.1 := by decide +kernel
theorem tb_k6 : ∀ q ∈ tb_clL, q.2.2 < 7 ∧ Cond.classLink (tb_cn q.1) q.2.1 (tb_cn q.2.2) ∈ lw_tbl := by decide +kernel
theorem tb_k7 : ∀ q ∈ tb_kcL, Cond.constant (tb_cn q.1) q.2.1 q.2.2 ∈ lw_tbl := by decide +kernel
theorem tb_k8 : ∀ k, k < 7 → (∀ w ∈ u_ws (tb_cn k) (tb_F k) (tb_nF k), w ∈ lw_tbl) ∧ Cond.instantiable (tb_cn k) (tb_nF k) ∈ lw_tbl := by decide +kernel
theorem tb_k9 : ∀ k, k < 7 → (∀ j, j < tb_nF k → parseFieldDescriptor (tb_F k j).2.2.1 = some (tb_T k j)) ∧ (∀ a, a < tb_nF k → ∀ b, b < tb_nF k → a ≠ b → (tb_F k a).2.1 ≠ (tb_F k b).2.1) := by decide +kernel
theorem tb_k10 : ∀ m, m < tb_nLaw → tb_ow m < 7 ∧ tb_mL m ≤ 19 ∧ (parseMethodDescriptor (tb_y m).desc).map (fun q => q.parameters.length) = some (tb_na m) ∧ plainName (tb_y m).cls = true ∧ (tb_y m).cls ≠ "java/lang/invoke/MethodHandle" ∧ (tb_y m).cls ≠ "java/lang/invoke/VarHandle" ∧ (tb_kd m = 0 ∨ tb_kd m = 1 ∨ tb_kd m = 2) := by decide +kernel
end
section
/-! THE MINI MACHINE: one instruction (tb_stp), a run (tb_run), over a heap that is a function from addresses to cells -/
abbrev tb_cell : Type := (Nat × List Value) ⊕ ((Nat × Nat × (Nat → Int32)) ⊕ (Nat × Nat × (Nat → Option Nat)))
abbrev tb_heap : Type := Nat → Option tb_cell
abbrev tb_ob (ci : Nat) (fs : List Value) : tb_cell := .inl (ci, fs)
abbrev tb_ar (ty n : Nat) (f : Nat → Int32) : tb_cell := .inr (.inl (ty, n, f))
abbrev tb_rr (ci n : Nat) (g : Nat → Option Nat) : tb_cell := .inr (.inr (ci, n, g))
def tb_up (h : tb_heap) (a : Nat) (x : tb_cell) : tb_heap := fun q => if q = a then some x else h q
/-- the static rows' addresses; rows that lie below the base and are only read; the base -/
abbrev tb_env : Type := (Nat → Nat) × (Nat → Option (Nat × (Nat → Int32))) × Nat
abbrev tb_cfg : Type := Nat × List Value × List Value × tb_heap × Nat × Nat × Nat
def tb_vok (ty : FieldType) (v : Value) : Bool := match ty, v with
  | .int, .int _ => true
  | .boolean, .int x => x == 0 || x == 1
  | .char, .int x => decide (0 ≤ x) && decide (x < 65536)
  | .array _, .ref _ => true
  | .object _, .ref _ => true
  | _, _ => false
def tb_rok (r : Option FieldType) (v : Int32) : Bool := match r with
  | some .int => true
  | some .boolean => v == 0 || v == 1
  | _ => false
def tb_tg (pc : Nat) (off : Int) : Option Nat := if 0 ≤ (pc : Int) + off then some ((pc : Int) + off).toNat else none
def tb_sm (st : List Value) : Bool := decide ((st.map fun v => v.category).sum ≤ 8)
def tb_df (ci : Nat) : List Value := (List.range (tb_nF ci)).map (fun j => defaultValue (tb_T ci j))
def tb_len (i : Instr) (n : Nat) : Nat := match i with
  | .bipush _ => 2 | .iload _ => 2 | .aload _ => 2 | .istore _ => 2 | .astore _ => 2 | .ldc _ => 2 | .newarray _ => 2
  | .sipush _ => 3 | .iinc _ _ => 3 | .getfield _ => 3 | .putfield _ => 3 | .getstatic _ => 3 | .goto _ => 3 | .ifCond _ _ => 3 | .if_icmp _ _ => 3
  | .invokevirtual _ => 3 | .invokestatic _ => 3 | .invokespecial _ => 3 | .new _ => 3 | .anewarray _ => 3
  | .tableswitch _ _ _ _ => n | .lookupswitch _ _ => n
  | _ => 1
/-- an array that can be read: on the heap, or below the base -/
def tb_ra (E : tb_env) (h : tb_heap) (ty a : Nat) : Option (Nat × (Nat → Int32)) := match h a with
  | some (.inr (.inl (t, n, f))) => if t = ty then some (n, f) else none
  | some _ => none
  | none => if ty = 0 then E.2.1 a else none
def tb_ld (E : tb_env) (h : tb_heap) (ty a : Nat) (i : Int32) : Option Int32 := match tb_ra E h ty a with
  | some (n, f) => if i < 0 ∨ n ≤ i.toNatClampNeg then none else some (f i.toNatClampNeg)
  | none => none
def tb_stv (h : tb_heap) (ty a : Nat) (i x : Int32) : Option tb_heap := match h a with
  | some (.inr (.inl (t, n, f))) => if t = ty then (if i < 0 ∨ n ≤ i.toNatClampNeg then none else some (tb_up h a (.inr (.inl (t, n, upd f i.toNatClampNeg x))))) else none
  | _ => none
def tb_gf (h : tb_heap) (a ci k : Nat) : Option Value := match h a with
  | some (.inl (c, fs)) => if c = ci then fs[k]? else none
  | _ => none
def tb_pf (h : tb_heap) (a ci k : Nat) (v : Value) : Option tb_heap := match h a with
  | some (.inl (c, fs)) => if c = ci ∧ k < fs.length then some (tb_up h a (.inl (c, fs.set k v))) else none
  | _ => none
def tb_ald (h : tb_heap) (a : Nat) (i : Int32) : Option Nat := match h a with
  | some (.inr (.inr (_, n, g))) => if i < 0 ∨ n ≤ i.toNatClampNeg then none else g i.toNatClampNeg
  | _ => none
def tb_ast (h : tb_heap) (a : Nat) (i : Int32) (v : Nat) : Option tb_heap := match h a, h v with
  | some (.inr (.inr (c, n, g))), some (.inl (c', _)) => if c' = c then (if i < 0 ∨ n ≤ i.toNatClampNeg then none else some (tb_up h a (.inr (.inr (c, n, va_up g i.toNatClampNeg (some v)))))) else none
  | _, _ => none
def tb_cp (h : tb_heap) (a : Nat) (sp : Int32) (b : Nat) (dp n : Int32) : Option tb_heap := match h a, h b with
  | some (.inr (.inl (t, n0, f))), some (.inr (.inl (t', n1, g))) =>
    if t = t' ∧ t < 2 ∧ ¬ sp < 0 ∧ ¬ dp < 0 ∧ ¬ n < 0 ∧ sp.toNatClampNeg + n.toNatClampNeg ≤ n0 ∧ dp.toNatClampNeg + n.toNatClampNeg ≤ n1 then some (tb_up h b (.inr (.inl (t', n1, va_cpy f g sp.toNatClampNeg dp.toNatClampNeg n.toNatClampNeg)))) else none
  | _, _ => none
def tb_cnd (c : Jvm.ClassFile.Cond) (x y : Int32) : Bool := match c with
  | .eq => decide (x = y) | .ne => !decide (x = y) | .lt => decide (x < y) | .ge => decide (y ≤ x) | .gt => decide (y < x) | .le => decide (x ≤ y)
/-- one instruction that neither calls a method of ours nor returns -/
def tb_stp1 (E : tb_env) (d m : Nat) (i : Instr) (n pc : Nat) (ls st : List Value) (h : tb_heap) (nx bc bs : Nat) : Option tb_cfg :=
  match i with
  | .iconst k => some (pc + 1, ls, .int (Int32.ofInt k) :: st, h, nx, bc, bs)
  | .bipush k => some (pc + 2, ls, .int (Int8.ofInt k).toInt32 :: st, h, nx, bc, bs)
  | .sipush k => some (pc + 3, ls, .int (Int16.ofInt k).toInt32 :: st, h, nx, bc, bs)
  | .ldc ix => (tb_kc (tb_ow m) ix).bind fun v => some (pc + 2, ls, .int v :: st, h, nx, bc, bs)
  | .iload k => match ls[k]? with | some (.int x) => some (pc + 2, ls, .int x :: st, h, nx, bc, bs) | _ => none
  | .iload_n k => match ls[k.val]? with | some (.int x) => some (pc + 1, ls, .int x :: st, h, nx, bc, bs) | _ => none
  | .aload k => match ls[k]? with | some (.ref x) => some (pc + 2, ls, .ref x :: st, h, nx, bc, bs) | _ => none
  | .aload_n k => match ls[k.val]? with | some (.ref x) => some (pc + 1, ls, .ref x :: st, h, nx, bc, bs) | _ => none
  | .istore k => match st with | .int x :: r => if k < ls.length then some (pc + 2, ls.set k (.int x), r, h, nx, bc, bs) else none | _ => none
  | .istore_n k => match st with | .int x :: r => if k.val < ls.length then some (pc + 1, ls.set k.val (.int x), r, h, nx, bc, bs) else none | _ => none
  | .astore k => match st with | .ref x :: r => if k < ls.length then some (pc + 2, ls.set k (.ref x), r, h, nx, bc, bs) else none | _ => none
  | .astore_n k => match st with | .ref x :: r => if k.val < ls.length then some (pc + 1, ls.set k.val (.ref x), r, h, nx, bc, bs) else none | _ => none
  | .iinc k z => match ls[k]? with | some (.int x) => some (pc + 3, ls.set k (.int (x + Int32.ofInt z)), st, h, nx, bc, bs) | _ => none
  | .dup => match st with | .int x :: r => some (pc + 1, ls, .int x :: .int x :: r, h, nx, bc, bs) | .ref x :: r => some (pc + 1, ls, .ref x :: .ref x :: r, h, nx, bc, bs) | _ => none
  | .dup2 => match st with | .int x :: .ref y :: r => some (pc + 1, ls, .int x :: .ref y :: .int x :: .ref y :: r, h, nx, bc, bs) | _ => none
  | .pop => match st with | .int _ :: r => some (pc + 1, ls, r, h, nx, bc, bs) | .ref _ :: r => some (pc + 1, ls, r, h, nx, bc, bs) | _ => none
  | .iadd => match st with | .int y :: .int x :: r => some (pc + 1, ls, .int (x + y) :: r, h, nx, bc, bs) | _ => none
  | .isub => match st with | .int y :: .int x :: r => some (pc + 1, ls, .int (x - y) :: r, h, nx, bc, bs) | _ => none
  | .imul => match st with | .int y :: .int x :: r => some (pc + 1, ls, .int (x * y) :: r, h, nx, bc, bs) | _ => none
  | .iand => match st with | .int y :: .int x :: r => some (pc + 1, ls, .int (x &&& y) :: r, h, nx, bc, bs) | _ => none
  | .idiv => match st with | .int y :: .int x :: r => if y = 0 then none else some (pc + 1, ls, .int (x / y) :: r, h, nx, bc, bs) | _ => none
  | .irem => match st with | .int y :: .int x :: r => if y = 0 then none else some (pc + 1, ls, .int (x - x / y * y) :: r, h, nx, bc, bs) | _ => none
  | .i2c => match st with | .int x :: r => some (pc + 1, ls, .int (x.toUInt32 % 65536).toInt32 :: r, h, nx, bc, bs) | _ => none
  | .getfield ix => match st with | .ref a :: r => (tb_fl (tb_ow m) ix).bind fun q => (tb_gf h a q.1 q.2).bind fun v => some (pc + 3, ls, v :: r, h, nx, bc, bs) | _ => none
  | .putfield ix => match st with
    | v :: .ref a :: r => (tb_fl (tb_ow m) ix).bind fun q => if tb_vok (tb_T q.1 q.2) v = true ∧ ((tb_F q.1 q.2).2.2.2 = false ∨ (tb_kd m = 2 ∧ tb_ow m = q.1)) then (tb_pf h a q.1 q.2 v).bind fun h' => some (pc + 3, ls, r, h', nx, bc, bs) else none
    | _ => none
  | .getstatic ix => (tb_sl (tb_ow m) ix).bind fun k => some (pc + 3, ls, .ref (E.1 k) :: st, h, nx, bc, bs)
  | .iaload => match st with | .int i :: .ref a :: r => (tb_ld E h 0 a i).bind fun x => some (pc + 1, ls, .int x :: r, h, nx, bc, bs) | _ => none
  | .baload => match st with | .int i :: .ref a :: r => (tb_ld E h 1 a i).bind fun x => some (pc + 1, ls, .int x :: r, h, nx, bc, bs) | _ => none
  | .caload => match st with | .int i :: .ref a :: r => (tb_ld E h 2 a i).bind fun x => some (pc + 1, ls, .int x :: r, h, nx, bc, bs) | _ => none
  | .aaload => match st with | .int i :: .ref a :: r => (tb_ald h a i).bind fun x => some (pc + 1, ls, .ref x :: r, h, nx, bc, bs) | _ => none
  | .iastore => match st with | .int x :: .int i :: .ref a :: r => (tb_stv h 0 a i x).bind fun h' => some (pc + 1, ls, r, h', nx, bc, bs) | _ => none
  | .bastore => match st with | .int x :: .int i :: .ref a :: r => if x = 0 ∨ x = 1 then (tb_stv h 1 a i x).bind fun h' => some (pc + 1, ls, r, h', nx, bc, bs) else none | _ => none
  | .castore => match st with | .int x :: .int i :: .ref a :: r => if 0 ≤ x ∧ x < 65536 then (tb_stv h 2 a i x).bind fun h' => some (pc + 1, ls, r, h', nx, bc, bs) else none | _ => none
  | .aastore => match st with | .ref v :: .int i :: .ref a :: r => (tb_ast h a i v).bind fun h' => some (pc + 1, ls, r, h', nx, bc, bs) | _ => none
  | .arraylength => match st with | .ref a :: r => (tb_ra E h 0 a).bind fun q => some (pc + 1, ls, .int (Int32.ofNat q.1) :: r, h, nx, bc, bs) | _ => none
  | .new ix => (tb_cl (tb_ow m) ix).bind fun ci => if 1 ≤ bc ∧ tb_nF ci ≤ bs then some (pc + 3, ls, .ref nx :: st, tb_up h nx (.inl (ci, tb_df ci)), nx + 1, bc - 1, bs - tb_nF ci) else none
  | .newarray t => match st with
    | .int n :: r => (match t with | .int => some 0 | .boolean => some 1 | .char => some 2 | _ => none).bind fun ty => if ¬ n < 0 ∧ n.toNatClampNeg ≤ 100000 ∧ 1 ≤ bc ∧ n.toNatClampNeg ≤ bs then some (pc + 2, ls, .ref nx :: r, tb_up h nx (.inr (.inl (ty, n.toNatClampNeg, fun _ => 0))), nx + 1, bc - 1, bs - n.toNatClampNeg) else none
    | _ => none
  | .anewarray ix => match st with
    | .int n :: r => (tb_cl (tb_ow m) ix).bind fun ci => if (ci = 0 ∨ ci = 4) ∧ ¬ n < 0 ∧ n.toNatClampNeg ≤ 100000 ∧ 1 ≤ bc ∧ n.toNatClampNeg ≤ bs then some (pc + 3, ls, .ref nx :: r, tb_up h nx (.inr (.inr (ci, n.toNatClampNeg, fun _ => none))), nx + 1, bc - 1, bs - n.toNatClampNeg) else none
    | _ => none
  | .goto off => (tb_tg pc off).bind fun t => some (t, ls, st, h, nx, bc, bs)
  | .ifCond c off => match st with | .int x :: r => (tb_tg pc off).bind fun t => some (bif tb_cnd c x 0 then t else pc + 3, ls, r, h, nx, bc, bs) | _ => none
  | .if_icmp c off => match st with | .int y :: .int x :: r => (tb_tg pc off).bind fun t => some (bif tb_cnd c x y then t else pc + 3, ls, r, h, nx, bc, bs) | _ => none
  | .tableswitch df lo hi offs => match st with
    | .int x :: r => if x.toInt < lo ∨ hi < x.toInt then (tb_tg pc df).bind fun t => some (t, ls, r, h, nx, bc, bs) else (offs[(x.toInt - lo).toNat]?).bind fun o => (tb_tg pc o).bind fun t => some (t, ls, r, h, nx, bc, bs)
    | _ => none
  | .lookupswitch df ps => match st with
    | .int x :: r => if (ps.toList.zip (ps.toList.drop 1)).all (fun (a, next) => a.1 < next.1) = true then (tb_tg pc (Op.lookupswitch.offset ps.toList df x.toInt)).bind fun t => some (t, ls, r, h, nx, bc, bs) else none
    | _ => none
  | .invokespecial ix => match st with
    | .ref _ :: r => if tb_lk (tb_ow m) ix = some (1001, false) ∧ 0 < d ∧ tb_sm r = true then some (pc + 3, ls, r, h, nx, bc, bs) else none
    | _ => none
  | .invokestatic ix =>
    match tb_lk (tb_ow m) ix with
    | some (1002, false) => match st with | .int y :: .int x :: r => if 0 < d ∧ tb_sm r = true then some (pc + 3, ls, .int (if x < y then y else x) :: r, h, nx, bc, bs) else none | _ => none
    | some (1003, false) => match st with | .int y :: .int x :: r => if 0 < d ∧ tb_sm r = true then some (pc + 3, ls, .int (if y < x then y else x) :: r, h, nx, bc, bs) else none | _ => none
    | some (1004, false) => match st with | .int n :: .int dp :: .ref b :: .int sp :: .ref a :: r => if 0 < d ∧ tb_sm r = true then (tb_cp h a sp b dp n).bind fun h' => some (pc + 3, ls, r, h', nx, bc, bs) else none | _ => none
    | _ => none
  | _ => none
def tb_stp (E : tb_env) (d m pc : Nat) (ls st : List Value) (h : tb_heap) (nx bc bs : Nat) : Option tb_cfg := match tb_cd m pc with
  | some (i, n) => if n = tb_len i n then tb_stp1 E d m i n pc ls st h nx bc bs else none
  | none => none
/-- which method of ours is called at pc -/
def tb_iv (m pc : Nat) : Option (Nat × Bool) := match tb_cd m pc with
  | some (.invokevirtual ix, 3) => match tb_lk (tb_ow m) ix with | some (t, b) => if t < 1000 ∧ tb_kd t = 0 then some (t, b) else none | none => none
  | some (.invokestatic ix, 3) => match tb_lk (tb_ow m) ix with | some (t, b) => if t < 1000 ∧ tb_kd t = 1 then some (t, b) else none | none => none
  | some (.invokespecial ix, 3) => match tb_lk (tb_ow m) ix with | some (t, b) => if t < 1000 ∧ tb_kd t = 2 then some (t, b) else none | none => none
  | _ => none
/-- a call's arguments, and what is left of the stack -/
def tb_as (t : Nat) (st : List Value) : Option (List Value × List Value) :=
  if tb_kd t = 1 then (if tb_na t ≤ st.length then some ((st.take (tb_na t)).reverse, st.drop (tb_na t)) else none)
  else match st.drop (tb_na t) with | .ref b :: r => some (.ref b :: (st.take (tb_na t)).reverse, r) | _ => none
def tb_ent (t : Nat) (av : List Value) : List Value := av ++ List.replicate (tb_mL t - av.length) (.long 0)
/-- the receiver of a virtual call is an object of the method's class -/
def tb_rv (t : Nat) (av : List Value) (h : tb_heap) : Bool := !(tb_kd t == 0) || (match av with
  | .ref b :: _ => match h b with | some (.inl (ci, _)) => ci == tb_ow t | _ => false
  | _ => false)
def tb_ck (d t : Nat) (av r : List Value) (h : tb_heap) (bc bs : Nat) : Bool := decide (0 < d) && tb_sm r && av.all (fun v => v.category == 1) && decide (av.length ≤ tb_mL t) && tb_rv t av h && decide (tb_mc t ≤ bc) && decide (tb_ms t ≤ bs)
/-- what a return answers -/
def tb_re (m pc : Nat) (st : List Value) : Option (Option Value) := match tb_cd m pc with
  | some (.ireturn, 1) => match st with | [.int v] => if tb_rok (tb_rt m) v = true then some (some (.int v)) else none | _ => none
  | some (.return_, 1) => match st with | [] => if (tb_rt m).isNone = true then some none else none | _ => none
  | _ => none
def tb_run (E : tb_env) : Nat → Nat → Nat → Nat → List Value → List Value → tb_heap → Nat → Nat → Nat → Option (Option Value × tb_heap × Nat)
  | 0, _, _, _, _, _, _, _, _, _ => none
  | f + 1, d, m, pc, ls, st, h, nx, bc, bs =>
    match tb_re m pc st with
    | some v => some (v, h, nx)
    | none => match tb_iv m pc with
      | some q => match tb_as q.1 st with
        | some w => if tb_ck d q.1 w.1 w.2 h bc bs = true then (match tb_run E f (d - 1) q.1 0 (tb_ent q.1 w.1) [] h nx (tb_mc q.1) (tb_ms q.1) with
          | some z => tb_run E f d m (pc + 3) ls (z.1.toList ++ w.2) z.2.1 z.2.2 (bc - tb_mc q.1) (bs - tb_ms q.1)
          | none => none) else none
        | none => none
      | none => match tb_stp E d m pc ls st h nx bc bs with
        | some z => tb_run E f d m z.1 z.2.1 z.2.2.1 z.2.2.2.1 z.2.2.2.2.1 z.2.2.2.2.2.1 z.2.2.2.2.2.2
        | none => none
end
section
/-! WHAT THE MINI MACHINE DOES, THE REAL ONE DOES: one instruction -/
def tb_tr (dA : Nat → ClassId) (x : tb_cell) : va_E := match x with
  | .inl o => .inr o
  | .inr (.inl q) => .inl (dA q.1, q.2.1, .inl q.2.2)
  | .inr (.inr q) => .inl (dA (10 + q.1), q.2.1, .inr (.inr (.inr (.inr q.2.2))))
def tb_wf (x : tb_cell) : Prop := match x with
  | .inl _ => True
  | .inr (.inl q) => q.1 < 3 ∧ (q.1 = 1 → ∀ j, q.2.2 j = 0 ∨ q.2.2 j = 1)
  | .inr (.inr q) => q.1 = 0 ∨ q.1 = 4
def tb_RH (D : va_G) (dA : Nat → ClassId) (base : Nat) (h : tb_heap) (H : Heap) : Prop := ∀ a x, h a = some x → base ≤ a ∧ va_at D tb_cls (a, tb_tr dA x) H ∧ tb_wf x
def tb_aty : Nat → FieldType := fun k => match k with
  | 0 => .int
  | 1 => .boolean
  | _ => .char
def tb_tys (dA : Nat → ClassId) : List (ClassId × FieldType) := [(dA 0, .int), (dA 1, .boolean), (dA 2, .char), (dA 10, .object "TiltBoards$Board"), (dA 14, .object "TiltBoards$State")]
def tb_EN (D : va_G) (dA : Nat → ClassId) (E : tb_env) (U : State) : Prop := va_K D tb_cls (tb_tys dA) U ∧ (∀ w ∈ tb_nst, va_Nw w U) ∧ (va_AO "TiltBoards$Board" U ∧ va_AO "TiltBoards$State" U) ∧ (∀ k, k < 4 → va_Z "TiltBoards" (tb_sn k) "[I" (.ref (E.1 k)) (fun q => E.2.2 ≤ q) U U.heap) ∧ (∀ a n f, E.2.1 a = some (n, f) → va_T .int a n (fun j => .int (f j)) (fun q => E.2.2 ≤ q) U U.heap)
def tb_IV (D : va_G) (dA : Nat → ClassId) (E : tb_env) (s : State) (h : tb_heap) (nx : Nat) (H : Heap) (locs : List Loc) : Prop := tb_RH D dA E.2.2 h H ∧ H.size = nx ∧ E.2.2 ≤ nx ∧ va_S (fun q => E.2.2 ≤ q) s.heap H locs
def tb_LR (lsR : Array Slot) (nL : Nat) (ls : List Value) : Prop := ls.length = nL ∧ ∃ lv, lv_has lsR nL lv ∧ (∀ q ∈ lv, q.2.category = 1) ∧ ∀ i v, ls[i]? = some v → v.category = 1 → (i, v) ∈ lv
theorem tb_LR.get {lsR : Array Slot} {nL : Nat} {ls : List Value} {i : Nat} {v : Value} (h : tb_LR lsR nL ls) (hi : ls[i]? = some v) (hc : v.category = 1) : lsR[i]? = some (.val v) := by
  obtain ⟨-, lv, h1, -, h3⟩ := h
  exact h1.2.2 _ (h3 i v hi hc)
theorem tb_LR.size {lsR : Array Slot} {nL : Nat} {ls : List Value} (h : tb_LR lsR nL ls) : lsR.size = nL := by
  obtain ⟨-, lv, h1, -⟩ := h
  exact h1.1
theorem tb_LR.put {lsR : Array Slot} {nL : Nat} {ls : List Value} (h : tb_LR lsR nL ls) : ∃ lv, lv_has lsR nL lv ∧ (∀ i v, ls[i]? = some v → v.category = 1 → ∃ k : Nat, lv[k]? = some (i, v)) ∧ ∀ (i : Nat) (v : Value), i < nL → v.category = 1 → ∀ ls' : Array Slot, lv_has ls' nL ((i, v) :: lv.filter (fun q => !(q.1 == i) && !(q.1 + 1 == i && q.2.category == 2))) → tb_LR ls' nL (ls.set i v) := by
  obtain ⟨h0, lv, h1, h2, h3⟩ := h
  refine ⟨lv, h1, fun i v hi hc => List.getElem?_of_mem (h3 i v hi hc), fun i v hi hc ls' h4 => ⟨by rw [List.length_set]; exact h0, _, h4, fun q hq => ?_, fun j w hj hw => ?_⟩⟩
  · rcases List.mem_cons.mp hq with rfl | hq
    · exact hc
    · exact h2 q (List.mem_filter.mp hq).1
  · by_cases hji : j = i
    · subst hji
      rw [List.getElem?_set_self (by omega)] at hj
      cases hj
      exact List.mem_cons_self
    · rw [List.getElem?_set_ne (Ne.symm hji)] at hj
      refine List.mem_cons_of_mem _ (List.mem_filter.mpr ⟨h3 j w hj hw, ?_⟩)
      simp [hji, hw]
theorem tb_cls_get {k : Nat} (hk : k < 7) : tb_cls[k]? = some (tb_cn k, tb_F k, tb_nF k) := by
  simp [tb_cls, hk]
theorem tb_cls_lt {k : Nat} {r : vw_C} (h : tb_cls[k]? = some r) : k < 7 := by
  have := (List.getElem?_eq_some_iff.mp h).1
  simpa [tb_cls] using this
theorem tb_bg {w : Cond} (h : w ∈ lw_tbl) (g : goodWord w = true) : w ∈ tb_big := List.mem_filter.mpr ⟨h, g⟩
theorem tb_bg_u {k : Nat} (hk : k < 7) : ∀ w ∈ u_ws (tb_cn k) (tb_F k) (tb_nF k), w ∈ tb_big := by
  intro w hw
  refine tb_bg ((tb_k8 k hk).1 w hw) ?_
  obtain ⟨j, -, rfl⟩ := List.mem_map.mp hw
  unfold u_lay
  split <;> rfl
theorem tb_cd_ok {m pc : Nat} {i : Instr} {n : Nat} (h : tb_cd m pc = some (i, n)) : decode (tb_by m) pc = .ok (i, n) := by
  unfold tb_cd at h
  split at h
  · rename_i r hr
    rw [hr, Option.some.inj h]
  · cases h
theorem tb_tg_ok {pc t : Nat} {off : Int} (h : tb_tg pc off = some t) : (pc : Int) + off = (t : Int) := by
  unfold tb_tg at h
  split at h
  · rename_i hp
    have := Option.some.inj h
    omega
  · cases h
theorem tb_fd {α : Type} {l : List (Nat × Nat × α)} {c ix : Nat} {x : α} (h : (l.find? (fun q => q.1 == c && q.2.1 == ix)).map (fun q => q.2.2) = some x) : (c, ix, x) ∈ l := by
  obtain ⟨q, h1, h2⟩ := Option.map_eq_some_iff.mp h
  have h3 := List.find?_some h1
  have h4 := List.mem_of_find?_eq_some h1
  simp only [Bool.and_eq_true, beq_iff_eq] at h3
  obtain ⟨a, b, y⟩ := q
  simp only at h2 h3
  rw [← h3.1, ← h3.2, ← h2]
  exact h4
theorem tb_lk_ok {c ix : Nat} {x : Nat × Bool} (h : tb_lk c ix = some x) : ∃ i, (c, ix, x, i) ∈ tb_lkL := by
  unfold tb_lk at h
  obtain ⟨q, h1, h2⟩ := Option.map_eq_some_iff.mp h
  have h3 := List.find?_some h1
  have h4 := List.mem_of_find?_eq_some h1
  simp only [Bool.and_eq_true, beq_iff_eq] at h3
  obtain ⟨a, b, y, j⟩ := q
  simp only at h2 h3
  refine ⟨j, ?_⟩
  rw [← h3.1, ← h3.2, ← h2]
  exact h4
theorem tb_RH.at {D : va_G} {dA : Nat → ClassId} {base : Nat} {h : tb_heap} {H : Heap} (hR : tb_RH D dA base h H) {a : Nat} {x : tb_cell} (hx : h a = some x) : va_P D tb_cls [(a, tb_tr dA x)] H := by
  intro k q hk
  have hz : k < 1 := (List.getElem?_eq_some_iff.mp hk).1
  rw [show k = 0 by omega] at hk
  cases hk
  exact (hR a x hx).2.1
theorem tb_RH.up {D : va_G} {dA : Nat → ClassId} {base : Nat} {h : tb_heap} {H H' : Heap} (hR : tb_RH D dA base h H) {a : Nat} {x' : tb_cell} (hb : base ≤ a) (hat : va_at D tb_cls (a, tb_tr dA x') H') (hw : tb_wf x') (ho : ∀ (q : Nat) (y : tb_cell), h q = some y → q ≠ a → H'[q]? = H[q]?) : tb_RH D dA base (tb_up h a x') H' := by
  intro q y hy
  unfold tb_up at hy
  split at hy
  · rename_i e
    cases hy
    subst e
    exact ⟨hb, hat, hw⟩
  · rename_i e
    obtain ⟨h1, h2, h3⟩ := hR q y hy
    exact ⟨h1, h2.kept (ho q y hy e), h3⟩
theorem tb_IV.put {D : va_G} {dA : Nat → ClassId} {E : tb_env} {s : State} {h : tb_heap} {nx : Nat} {H H' : Heap} {locs : List Loc} (hI : tb_IV D dA E s h nx H locs) {a j : Nat} {x x' : tb_cell} (hx : h a = some x) (hat : va_at D tb_cls (a, tb_tr dA x') H') (hw : tb_wf x') (hz : H'.size = H.size) (ho : ∀ q : Nat, q ≠ a → H'[q]? = H[q]?) : tb_IV D dA E s (tb_up h a x') nx H' (locs ++ [⟨a, j⟩]) := by
  obtain ⟨h1, h2, h3, h4⟩ := hI
  have hb := (h1 a x hx).1
  exact ⟨h1.up hb hat hw (fun q _ _ hq => ho q hq), hz.trans h2, h3, h4.put hz ho hb⟩
theorem tb_IV.new {D : va_G} {dA : Nat → ClassId} {E : tb_env} {s : State} {h : tb_heap} {nx : Nat} {H H' : Heap} {locs : List Loc} (hI : tb_IV D dA E s h nx H locs) {x' : tb_cell} (hat : va_at D tb_cls (nx, tb_tr dA x') H') (hw : tb_wf x') (hz : H'.size = nx + 1) (ho : ∀ q : Nat, q < nx → H'[q]? = H[q]?) : tb_IV D dA E s (tb_up h nx x') (nx + 1) H' locs := by
  obtain ⟨h1, h2, h3, h4⟩ := hI
  refine ⟨h1.up h3 hat hw (fun q y hy _ => ho q (by rw [← h2]; exact ((h1 q y hy).2.1).lt)), hz, by omega, by have := h4.1; omega, fun q hq hn => ?_, h4.2.2⟩
  rw [ho q (by have := h4.1; omega)]
  exact h4.2.1 q hq hn
theorem tb_vok_ok {ty : FieldType} {v : Value} (h : tb_vok ty v = true) : narrow ty v = v ∧ fits ty v = true := by
  cases ty <;> cases v <;> simp only [tb_vok, Bool.false_eq_true] at h <;> first | exact ⟨rfl, rfl⟩ | skip
  · rename_i x
    simp only [Bool.and_eq_true, decide_eq_true_eq] at h
    obtain ⟨j, hj, rfl⟩ := nI_of (Int32.not_lt.mpr h.1)
    refine pk_charN ?_
    have := (nI_ltI hj (by decide : 65536 < 2 ^ 31)).mp h.2
    exact this
  · rename_i x
    simp only [Bool.or_eq_true, beq_iff_eq] at h
    rcases h with rfl | rfl <;> exact ⟨rfl, rfl⟩
theorem tb_rok_ok {r : Option FieldType} {v : Int32} (h : tb_rok r v = true) : ∃ ty, r = some ty ∧ narrow ty (.int v) = .int v := by
  unfold tb_rok at h
  split at h
  · exact ⟨_, rfl, rfl⟩
  · simp only [Bool.or_eq_true, beq_iff_eq] at h
    rcases h with rfl | rfl <;> exact ⟨_, rfl, rfl⟩
  · cases h
end
section
/-! ONE INSTRUCTION OF THE MINI MACHINE, ON THE REAL ONE -/
section TB1
variable {p : Program} {l : Launch} {e : Env} {R : Room} {s : State} {m : MethodId} {args : Array Value} {below : List Frame} {meth : Method} {c : Code} {Q : State → Prop} {D : va_G} {dA : Nat → ClassId} {E : tb_env} {d mm : Nat}
def tb_Ctx (D : va_G) (dA : Nat → ClassId) (E : tb_env) (p : Program) (R : Room) (s : State) (m : MethodId) (args : Array Value) (meth : Method) (c : Code) (d mm : Nat) : Prop :=
  p.tables.exec = Jvm.exec ∧ c.code = tb_by mm ∧ c.maxLocals = tb_mL mm ∧ s.vm.findClass (tb_cn (tb_ow mm)) = some m.cls ∧ (∀ w ∈ tb_big, w.before args s = true) ∧ meth.locks = false ∧ (tb_kd mm = 2 → meth.name = "<init>") ∧ tb_EN D dA E s ∧ R.frames = d ∧ R.locals = 38 * d
def tb_W1 (D : va_G) (dA : Nat → ClassId) (E : tb_env) (p : Program) (l : Launch) (e : Env) (R : Room) (s : State) (m : MethodId) (args : Array Value) (below : List Frame) (meth : Method) (c : Code) (Q : State → Prop) (mm : Nat) (z : tb_cfg) : Prop :=
  ∀ (lsR : Array Slot) (H : Heap) (locs : List Loc) (cells slots : Nat), tb_LR lsR (tb_mL mm) z.2.1 → tb_IV D dA E s z.2.2.2.1 z.2.2.2.2.1 H locs → cells + z.2.2.2.2.2.1 ≤ R.cells → slots + z.2.2.2.2.2.2 ≤ R.slots → W p l e R s m args below meth c H locs cells slots Q (F0 m z.1 lsR z.2.2.1)
theorem tb_tys_get (dA : Nat → ClassId) {t : Nat} (ht : t < 3) : (tb_tys dA)[t]? = some (dA t, tb_aty t) := by
  rcases (by omega : t = 0 ∨ t = 1 ∨ t = 2) with rfl | rfl | rfl <;> rfl
theorem tb_tys_getq (dA : Nat → ClassId) {ci : Nat} (hc : ci = 0 ∨ ci = 4) : ∃ k : Nat, (tb_tys dA)[k]? = some (dA (10 + ci), .object (tb_cn ci)) := by
  rcases hc with rfl | rfl
  · exact ⟨3, rfl⟩
  · exact ⟨4, rfl⟩
/-- a read of a row -/
theorem tb_rd {h : tb_heap} {nx : Nat} {H : Heap} {locs : List Loc} (hE : tb_EN D dA E s) (hI : tb_IV D dA E s h nx H locs) {ty a n : Nat} {f : Nat → Int32} (hr : tb_ra E h ty a = some (n, f)) (hty : ty < 3) : ∃ cell : Cell, H[a]? = some cell ∧ s.isArrayOf cell (tb_aty ty) ∧ cell.vm ≠ .unknown ∧ (n ≤ cell.slots.size ∧ cell.slots.size.toInt32 = Int32.ofNat n) ∧ ∀ j, j < n → cell.slots[j]? = some (.int (f j)) := by
  unfold tb_ra at hr
  split at hr
  · rename_i t n' f' hx
    split at hr
    · rename_i e; subst e
      cases hr
      obtain ⟨h1, h2, h3⟩ := hI.1 a _ hx
      refine ⟨_, h2, ((hE.1.2 _ _ (tb_tys_get dA hty)).1 n (fun j => .int (f j))), (fun q => by cases q), ?_, fun j hj => ?_⟩
      · show n ≤ (arrV _ _ _).slots.size ∧ (arrV _ _ _).slots.size.toInt32 = _
        rw [arrV_size]
        exact ⟨Nat.le_refl _, rfl⟩
      · show (arrV _ _ _).slots[_]? = _
        rw [arrV_read _ _ hj]
    · cases hr
  · cases hr
  · rename_i hx
    split at hr
    · rename_i e; subst e
      obtain ⟨scr, g3, g4, g5, g6, g7, g8, g1⟩ := hE.2.2.2.2 a n f hr
      exact ⟨scr, by rw [hI.2.2.2.2.1 a (Array.getElem?_eq_some_iff.mp g3).1 g1]; exact g3, g4, g5, ⟨g6, g7⟩, g8⟩
    · cases hr
theorem tb_stv_ok {h h' : tb_heap} {nx : Nat} {H : Heap} {locs : List Loc} (hI : tb_IV D dA E s h nx H locs) {ty a : Nat} {i x : Int32} (hr : tb_stv h ty a i x = some h') : ∃ n f, h a = some (.inr (.inl (ty, n, f))) ∧ vp_in i n ∧ h' = tb_up h a (.inr (.inl (ty, n, upd f i.toNatClampNeg x))) := by
  unfold tb_stv at hr
  split at hr
  · rename_i t n f hx
    split at hr
    · rename_i e; subst e
      split at hr
      · cases hr
      · rename_i hin
        cases hr
        exact ⟨n, f, hx, hin, rfl⟩
    · cases hr
  · cases hr
theorem tb_store {h : tb_heap} {nx : Nat} {H H1 : Heap} {locs : List Loc} (hI : tb_IV D dA E s h nx H locs) {t a n k : Nat} {f : Nat → Int32} {x : Int32} (hx : h a = some (.inr (.inl (t, n, f)))) (he : H1[a]? = some ((vp_cell (dA t) (n, .inl f)).setSlot k (.int x))) (z : H1.size = H.size) (oq : ∀ q : Nat, q ≠ a → H1[q]? = H[q]?) (hw : t = 1 → x = 0 ∨ x = 1) :
    tb_IV D dA E s (tb_up h a (.inr (.inl (t, n, upd f k x)))) nx H1 (locs ++ [⟨a, k⟩]) := by
  obtain ⟨-, -, w1, w2⟩ := hI.1 a _ hx
  refine hI.put hx ?_ ⟨w1, fun e j => ?_⟩ z oq
  · show H1[a]? = some (vp_cell _ _)
    rw [he, vp_cell_i, vp_cell_i, arrV_store]
    congr 2
    funext q
    by_cases hq : q = k
    · subst hq
      simp [updV, upd]
    · simp [updV, upd, hq]
  · show upd f k x j = 0 ∨ upd f k x j = 1
    unfold upd
    split
    · exact hw e
    · exact w2 e j
theorem tb_putf {h h' : tb_heap} {nx : Nat} {H : Heap} {locs : List Loc} {cells slots pc ix a : Nat} {lsR : Array Slot} {rest : List Value} {v : Value} {q : Nat × Nat} (C0 : tb_Ctx D dA E p R s m args meth c d mm) (hI : tb_IV D dA E s h nx H locs) (hfl : tb_fl (tb_ow mm) ix = some q) (hv : tb_vok (tb_T q.1 q.2) v = true) (hf : (tb_F q.1 q.2).2.2.2 = false ∨ (tb_kd mm = 2 ∧ tb_ow mm = q.1)) (hp : tb_pf h a q.1 q.2 v = some h') (hdg : decode (tb_by mm) pc = .ok (.putfield ix, 3))
    (kk : ∀ (H1 : Heap) (locs1 : List Loc), tb_IV D dA E s h' nx H1 locs1 → W p l e R s m args below meth c H1 locs1 cells slots Q (F0 m (pc + 3) lsR rest)) : W p l e R s m args below meth c H locs cells slots Q (F0 m pc lsR (v :: .ref a :: rest)) := by
  obtain ⟨hx, hb, hml, hown, hts, hlk, hin, hE, hR⟩ := C0
  obtain ⟨ci, k⟩ := q
  obtain ⟨h7, hk, hlink, hcls⟩ := tb_k5 _ (tb_fd hfl)
  dsimp only at h7 hk hlink hcls hv hf hp
  unfold tb_pf at hp
  split at hp
  · rename_i c0 fs hx0
    split at hp
    · rename_i hce
      obtain ⟨rfl, hlen⟩ := hce
      cases hp
      have hc := tb_cls_get h7
      have hti := tb_bg_u h7
      have hty := (tb_k9 c0 h7).1
      have hnm := (tb_k9 c0 h7).2
      have hl2 := hts _ (tb_bg hlink rfl)
      have hap := va_apart (own := "") hts hti (tb_T c0) hty hnm hE.1 hc
      obtain ⟨hbase, ⟨r, h1, cell, q1, q2, q3, q4⟩, -⟩ := hI.1 a _ hx0
      have hr : r = (tb_cn c0, tb_F c0, tb_nF c0) := Option.some.inj (h1.symm.trans hc)
      subst hr
      obtain ⟨hS, hfc, kC, hkC, hkind⟩ := hE.1.1 c0 _ hc
      obtain ⟨cf, kf, fi, f, hi, hsl⟩ := hS k hk
      dsimp only at hi hsl hfc
      obtain ⟨vn, vf⟩ := tb_vok_ok hv
      have hi' : s.fieldFound? (tb_cn c0) (tb_F c0 k).2.1 (tb_F c0 k).2.2.1 = some (cf, kf, fi, f) := by rw [← hcls]; exact hi
      have hst := (u_facts hfc hkC (u_lays hts hti hk) hi).1
      have fin : ∀ H' : Heap, H'[a]? = some (cell.setSlot (D.2 c0 k) v) → H'.size = H.size → (∀ q, q ≠ a → H'[q]? = H[q]?) → tb_IV D dA E s (tb_up h a (.inl (c0, fs.set k v))) nx H' (locs ++ [⟨a, D.2 c0 k⟩]) := by
        intro H' e1 e2 e3
        refine hI.put hx0 ?_ trivial e2 e3
        exact ⟨_, hc, t_OB.to (V := updV (vp_V fs) k v) ⟨_, e1, q2, q3, t_set q4 hap hk v⟩ (fun j _ => vp_updV_set hlen v j)⟩
      by_cases hfin : (tb_F c0 k).2.2.2 = false
      · have hlay := hts _ (hti _ (u_in_lay hk))
        unfold u_lay at hlay
        rw [if_neg (by rw [hfin]; decide)] at hlay
        have h6 := u_store hfc hkC hkind hlay hi (hty k hk) vn vf
        refine W.putK hx hb (f := f) ⟨hown, hl2, ⟨_, _, _, hi'⟩, hst⟩ (by rw [q2]; exact h6) q1 q3 (by rw [hsl]; exact k2_hasslot (q4 k hk)) rfl rfl hdg fun H' e1 e2 e3 => ?_
        rw [hsl] at e1 ⊢
        exact kk H' _ (fin H' e1 e2 e3)
      · have hfin : (tb_F c0 k).2.2.2 = true := by simpa using hfin
        rcases hf with hf | ⟨hf1, hf2⟩
        · rw [hf] at hfin; cases hfin
        have hlay := hts _ (hti _ (u_in_lay hk))
        unfold u_lay at hlay
        rw [if_pos hfin] at hlay
        have hcf : m.cls = cf := by
          obtain ⟨_, _, c', _, _, _, -, -, hf', -, -, -, hown2, -⟩ := Cond.laysFinal_spec hlay
          have e1 : c' = cf := by have := hi.symm.trans hf'; simp at this; exact this.1.symm
          rw [hcls] at hown2
          rw [← e1]
          rw [hf2] at hown
          exact Option.some.inj (hown.symm.trans hown2)
        have h6 := u_fits hfc hkC hkind (Or.inr hlay) hi (hty k hk) vn vf
        refine W.putFinK hx hb hown hl2 hi' hst hcf (hin hf1) (by rw [q2]; exact h6) q1 q3 (by rw [hsl]; exact k2_hasslot (q4 k hk)) rfl rfl hdg fun H' e1 e2 e3 => ?_
        rw [hsl] at e1 ⊢
        exact kk H' _ (fin H' e1 e2 e3)
    · cases hp
  · cases hp
theorem tb_getf {h : tb_heap} {nx : Nat} {H : Heap} {locs : List Loc} {cells slots pc ix a : Nat} {lsR : Array Slot} {rest : List Value} {v : Value} {q : Nat × Nat} (C0 : tb_Ctx D dA E p R s m args meth c d mm) (hI : tb_IV D dA E s h nx H locs) (hfl : tb_fl (tb_ow mm) ix = some q) (hg : tb_gf h a q.1 q.2 = some v) (hdg : decode (tb_by mm) pc = .ok (.getfield ix, 3))
    (kk : W p l e R s m args below meth c H locs cells slots Q (F0 m (pc + 3) lsR (v :: rest))) : W p l e R s m args below meth c H locs cells slots Q (F0 m pc lsR (.ref a :: rest)) := by
  obtain ⟨hx, hb, hml, hown, hts, hlk, hin, hE, hR⟩ := C0
  obtain ⟨ci, k⟩ := q
  obtain ⟨h7, hk, hlink, hcls⟩ := tb_k5 _ (tb_fd hfl)
  dsimp only at h7 hk hlink hcls hg
  unfold tb_gf at hg
  split at hg
  · rename_i c0 fs hx0
    split at hg
    · rename_i e; subst e
      exact va_get (D := D) (ci := c0) (C := tb_cn c0) (T := tb_F c0) (N := tb_nF c0) (ref := tb_cn c0) hx hb hts (tb_bg_u h7) hown hE.1 (hI.1.at hx0) 0 rfl (tb_cls_get h7) k hk (hts _ (tb_bg hlink rfl)) (fun x h9 => by rw [hcls] at h9; exact h9) hg hdg kk
    · cases hg
  · cases hg
theorem tb_aald {h : tb_heap} {nx : Nat} {H : Heap} {locs : List Loc} {cells slots pc a x : Nat} {i : Int32} {lsR : Array Slot} {rest : List Value} (C0 : tb_Ctx D dA E p R s m args meth c d mm) (hI : tb_IV D dA E s h nx H locs) (hg : tb_ald h a i = some x) (hdg : decode (tb_by mm) pc = .ok (.aaload, 1))
    (kk : W p l e R s m args below meth c H locs cells slots Q (F0 m (pc + 1) lsR (.ref x :: rest))) : W p l e R s m args below meth c H locs cells slots Q (F0 m pc lsR (.int i :: .ref a :: rest)) := by
  obtain ⟨hx, hb, hml, hown, hts, hlk, hin, hE, hR⟩ := C0
  unfold tb_ald at hg
  split at hg
  · rename_i c0 n g hx0
    split at hg
    · cases hg
    · rename_i hi
      obtain ⟨-, h2, h3⟩ := hI.1 a _ hx0
      obtain ⟨t0, ht⟩ := tb_tys_getq dA h3
      refine va_aldq (D := D) (tys := tb_tys dA) hx hb hE.1 (hI.1.at hx0) 0 t0 rfl ht (show vp_in i n from hi) hdg ?_
      show W p l e R s m args below meth c H locs cells slots Q (F0 m (pc + 1) lsR (va_rf (g i.toNatClampNeg) :: rest))
      rw [hg]
      exact kk
  · cases hg
theorem tb_aast {h h' : tb_heap} {nx : Nat} {H : Heap} {locs : List Loc} {cells slots pc a v : Nat} {i : Int32} {lsR : Array Slot} {rest : List Value} (C0 : tb_Ctx D dA E p R s m args meth c d mm) (hI : tb_IV D dA E s h nx H locs) (hg : tb_ast h a i v = some h') (hdg : decode (tb_by mm) pc = .ok (.aastore, 1))
    (kk : ∀ (H1 : Heap) (locs1 : List Loc), tb_IV D dA E s h' nx H1 locs1 → W p l e R s m args below meth c H1 locs1 cells slots Q (F0 m (pc + 1) lsR rest)) : W p l e R s m args below meth c H locs cells slots Q (F0 m pc lsR (.ref v :: .int i :: .ref a :: rest)) := by
  obtain ⟨hx, hb, hml, hown, hts, hlk, hin, hE, hR⟩ := C0
  unfold tb_ast at hg
  split at hg
  · rename_i c0 n g c1 fs hx0 hx1
    split at hg
    · rename_i ec; subst ec
      split at hg
      · cases hg
      · rename_i hi
        cases hg
        have hlt : i.toNatClampNeg < n := Nat.not_le.mp fun q => hi (Or.inr q)
        have h0 : ¬ i < 0 := fun q => hi (Or.inl q)
        obtain ⟨-, h2, h3⟩ := hI.1 a _ hx0
        obtain ⟨-, ⟨r, g0, cellV, g1, g2, g3, -⟩, -⟩ := hI.1 v _ hx1
        obtain ⟨t0, ht⟩ := tb_tys_getq dA h3
        have h7 := tb_cls_lt g0
        have hcls := (hE.1.1 c1 _ (tb_cls_get h7)).2
        dsimp only at hcls
        obtain ⟨kA, comp, k1, k2, k3, -⟩ := (hE.1.2 t0 _ ht).2
        have hcomp : comp = D.1 c1 := Option.some.inj (k3.symm.trans hcls.1)
        subst hcomp
        obtain ⟨kC, hkC, -⟩ := hcls.2
        refine W.aast hx hb h2 (fun q h => by cases h) (fun h => by cases h) k1 k2 rfl hkC ⟨h0, by show _ < (arrV _ _ _).slots.size; rw [arrV_size]; exact hlt⟩ g1 (fun q h => by rw [g3] at h; cases h) (by rw [g2]; exact hkC) (by rw [g2]; exact va_assign hcls) rfl rfl hdg fun H1 e1 z oq => ?_
        refine kk H1 _ (hI.put hx0 ?_ h3 z oq)
        show H1[a]? = some (vp_cell _ _)
        rw [e1]
        show some (Cell.setSlot (vp_cell (dA (10 + c1)) (n, .inr (.inr (.inr (.inr g))))) _ _) = some (vp_cell (dA (10 + c1)) (n, .inr (.inr (.inr (.inr (va_up g i.toNatClampNeg (some v)))))))
        generalize dA (10 + c1) = cA
        have hu : updV (fun j => va_rf (g j)) i.toNatClampNeg (.ref v) = fun j => va_rf (va_up g i.toNatClampNeg (some v) j) := by
          funext q
          by_cases hq : q = i.toNatClampNeg
          · subst hq
            simp [updV, va_up, va_rf]
          · simp [updV, va_up, hq]
        rw [vp_cell_q, vp_cell_q, arrV_store, hu]
    · cases hg
  · cases hg
theorem tb_copy {h h' : tb_heap} {nx : Nat} {H : Heap} {locs : List Loc} {cells slots pc ix a b : Nat} {sp dp n : Int32} {lsR : Array Slot} {rest : List Value} (C0 : tb_Ctx D dA E p R s m args meth c d mm) (hls : lsR.size = tb_mL mm) (hI : tb_IV D dA E s h nx H locs) (hlk : tb_lk (tb_ow mm) ix = some (1004, false)) (hd : 0 < d) (hsm : tb_sm rest = true) (hg : tb_cp h a sp b dp n = some h') (hdg : decode (tb_by mm) pc = .ok (.invokestatic ix, 3))
    (kk : ∀ (H1 : Heap) (locs1 : List Loc), tb_IV D dA E s h' nx H1 locs1 → W p l e R s m args below meth c H1 locs1 cells slots Q (F0 m (pc + 3) lsR rest)) : W p l e R s m args below meth c H locs cells slots Q (F0 m pc lsR (.int n :: .int dp :: .ref b :: .int sp :: .ref a :: rest)) := by
  obtain ⟨hx, hb, hml, hown, hts, hlk0, hin, hE, hR1, hR2⟩ := C0
  unfold tb_cp at hg
  split at hg
  · rename_i t n0 f t' n1 g hx0 hx1
    split at hg
    · rename_i hc
      obtain ⟨rfl, ht2, h1, h2, h3, h4, h5⟩ := hc
      cases hg
      obtain ⟨-, hc0, w0⟩ := hI.1 a _ hx0
      obtain ⟨hbb, hc1, w1⟩ := hI.1 b _ hx1
      have hc0 : H[a]? = some (vp_cell (dA t) (n0, .inl f)) := hc0
      have hc1 : H[b]? = some (vp_cell (dA t) (n1, .inl g)) := hc1
      obtain ⟨j0, hj0⟩ := tb_lk_ok hlk
      have hl0 := (tb_k4s1004 _ hj0 rfl).2
      have hlink : (Cond.methodLink (tb_cn (tb_ow mm)) ix arraycopyName).before args s = true := hts _ (tb_bg (List.mem_of_getElem? hl0) rfl)
      have hnat : (Cond.native arraycopyName).before args s = true := hts _ (tb_bg (by decide +kernel) rfl)
      have hstat : (Cond.static arraycopyName).before args s = true := hts _ (tb_bg (by decide +kernel) rfl)
      have hini : (Cond.initialized "java/lang/System").before args s = true := hts _ (tb_bg (by decide +kernel) rfl)
      have nn : ∀ z : Int32, ¬ z < 0 → z.toInt = (z.toNatClampNeg : Int) := by
        intro z hz
        have hz0 : (0 : Int) ≤ z.toInt := by
          have := Int32.not_lt.mp hz
          simpa using Int32.le_iff_toInt_le.mp this
        show z.toInt = ((z.toInt.toNat : Nat) : Int)
        omega
      have hsm : (rest.map fun v => v.category).sum ≤ 8 := by simpa [tb_sm] using hsm
      intro T hT X
      have harr := (hE.1.2 t _ (tb_tys_get dA (by omega))).1
      obtain ⟨-, k0, hk0, cm0, hkk0⟩ := harr n0 (fun j => .int (f j))
      obtain ⟨-, k1, hk1, cm1, hkk1⟩ := harr n1 (fun j => .int (g j))
      have hprim : refKind (tb_aty t) = false := by rcases (by omega : t = 0 ∨ t = 1) with rfl | rfl <;> rfl
      have hfit : ∀ j, fits (tb_aty t) (.int (f j)) = true := by
        intro j
        rcases (by omega : t = 0 ∨ t = 1) with rfl | rfl
        · rfl
        · rcases w0.2 rfl j with z | z <;> (dsimp only at z; rw [z]; rfl)
      obtain ⟨vm', X', step⟩ := X.arraycopy hx hown hlink hnat hstat hini (src := a) (dst := b) (cs := vp_cell (dA t) (n0, .inl f)) (cd := vp_cell (dA t) (n1, .inl g)) (srcPos := sp) (destPos := dp) (n := n) (by rw [hT]; exact hc0) (by rw [hT]; exact hc1)
        (fun _ h => by cases h) (fun _ h => by cases h) (fun h => by cases h) (fun h => by cases h) hk0 hk1 hkk0 hkk1 (by simp [hprim]) h1 h2 h3
        (by rw [nn sp h1, nn n h3]; show ¬ _ > ((arrV (dA t) n0 (fun j => .int (f j))).slots.size : Int); rw [arrV_size]; omega)
        (by rw [nn dp h2, nn n h3]; show ¬ _ > ((arrV (dA t) n1 (fun j => .int (g j))).slots.size : Int); rw [arrV_size]; omega)
        (fun vm₁ _ i hi => by
          have e : (vp_cell (dA t) (n0, .inl f)).slots.getD (sp.toNatClampNeg + i) .null = .int (f (sp.toNatClampNeg + i)) := by
            show (arrV (dA t) n0 (fun j => .int (f j))).slots.getD _ _ = _
            rw [Array.getD_eq_getD_getElem?, arrV_read _ _ (by omega)]
            rfl
          rw [e]
          exact ⟨hfit _, trivial⟩)
        (g := F0 m pc lsR (.int n :: .int dp :: .ref b :: .int sp :: .ref a :: rest)) rfl (by rw [hml]; exact hls) (rest := rest) rfl (by rw [hb]; exact hdg) (by omega) (by show 2 * 0 + _ + (7 + 11) ≤ _; omega)
      have e1 : copied (vp_cell (dA t) (n0, .inl f)) (vp_cell (dA t) (n1, .inl g)) sp dp n = vp_cell (dA t) (n1, .inl (va_cpy f g sp.toNatClampNeg dp.toNatClampNeg n.toNatClampNeg)) := va_copied (fun z => .int z) (dA t) (dA t) f g h4
      rw [e1] at X' step
      have hlt : b < H.size := (Array.getElem?_eq_some_iff.mp hc1).1
      have hheap : ((T.setVm vm').setCell b (vp_cell (dA t) (n1, .inl (va_cpy f g sp.toNatClampNeg dp.toNatClampNeg n.toNatClampNeg)))).heap = H.setIfInBounds b (vp_cell (dA t) (n1, .inl (va_cpy f g sp.toNatClampNeg dp.toNatClampNeg n.toNatClampNeg))) := by rw [← hT]; rfl
      have oq : ∀ q : Nat, q ≠ b → (H.setIfInBounds b (vp_cell (dA t) (n1, .inl (va_cpy f g sp.toNatClampNeg dp.toNatClampNeg n.toNatClampNeg))))[q]? = H[q]? := fun q hq => by simp [Array.getElem?_setIfInBounds, Ne.symm hq]
      have hI' := hI
      obtain ⟨i1, i2, i3, i4⟩ := hI'
      have hw : tb_wf (.inr (.inl (t, n1, va_cpy f g sp.toNatClampNeg dp.toNatClampNeg n.toNatClampNeg))) := by
        refine ⟨w1.1, fun e j => ?_⟩
        show va_cpy f g _ _ _ j = 0 ∨ va_cpy f g _ _ _ j = 1
        unfold va_cpy
        split
        · exact w0.2 e _
        · exact w1.2 e j
      obtain ⟨t2, a1, b1⟩ := kk _ _ ⟨i1.up hbb (show (H.setIfInBounds b _)[b]? = some _ by simp [Array.getElem?_setIfInBounds, hlt]) hw (fun q _ _ hq => oq q hq), by simpa using i2, i3, ⟨by simp; exact i4.1, fun q g1 g2 => by
          rw [oq q (fun e => g2 (by rw [e]; exact hbb))]
          exact i4.2.1 q g1 g2, fun q hq => by
          rcases List.mem_append.mp hq with h | h
          · exact i4.2.2 q h
          · obtain ⟨z, -, hz⟩ := List.mem_map.mp h
            rw [← hz]
            exact hbb⟩⟩ _ hheap X'
      exact ⟨t2, step t2 a1, b1⟩
    · cases hg
  · cases hg
end TB1
end
section
/-! ONE INSTRUCTION OF THE MINI MACHINE, ON THE REAL ONE: all of them -/
section TB2
variable {p : Program} {l : Launch} {e : Env} {R : Room} {s : State} {m : MethodId} {args : Array Value} {below : List Frame} {meth : Method} {c : Code} {Q : State → Prop} {D : va_G} {dA : Nat → ClassId} {E : tb_env} {d mm : Nat}
theorem tb_sl_lt : ∀ q ∈ tb_slL, q.2.2 < 4 := by decide +kernel
theorem tb_default : ∀ k, k < 7 → ∀ j, j < tb_nF k → (tb_df k)[j]? = some (defaultValue (tb_T k j)) := by
  intro k _ j hj
  simp [tb_df, hj]
set_option maxHeartbeats 4000000 in
set_option maxRecDepth 100000 in
theorem tb_sim1 (C0 : tb_Ctx D dA E p R s m args meth c d mm) {i : Instr} {n pc : Nat} {ls st : List Value} {h : tb_heap} {nx bc bs : Nat} {z : tb_cfg} (hdg : decode (tb_by mm) pc = .ok (i, n)) (hn : n = tb_len i n) (hs : tb_stp1 E d mm i n pc ls st h nx bc bs = some z) (k : tb_W1 D dA E p l e R s m args below meth c Q mm z) : tb_W1 D dA E p l e R s m args below meth c Q mm (pc, ls, st, h, nx, bc, bs) := by
  intro lsR H locs cells slots hL hI h1 h2
  dsimp only at hL hI h1 h2 ⊢
  obtain ⟨hx, hb, hml, hown, hts, hlk0, hin, hE, hR1, hR2⟩ := id C0
  have hsz := hL.size
  have hlen := hL.1
  cases i
  case iconst z0 =>
    replace hn : n = 1 := hn
    subst hn
    simp only [tb_stp1] at hs
    cases hs
    exact lv_iconst hx hb hdg rfl (k lsR H locs cells slots hL hI h1 h2)
  case bipush z0 =>
    replace hn : n = 2 := hn
    subst hn
    simp only [tb_stp1] at hs
    cases hs
    exact lv_bipush hx hb hdg rfl (k lsR H locs cells slots hL hI h1 h2)
  case sipush z0 =>
    replace hn : n = 3 := hn
    subst hn
    simp only [tb_stp1] at hs
    cases hs
    exact lv_sipush hx hb hdg rfl (k lsR H locs cells slots hL hI h1 h2)
  case ldc ix =>
    replace hn : n = 2 := hn
    subst hn
    simp only [tb_stp1] at hs
    obtain ⟨v, hv, hs⟩ := Option.bind_eq_some_iff.mp hs
    cases hs
    have hw := hts _ (tb_bg (tb_k7 _ (tb_fd hv)) rfl)
    exact lv_ldc hx hb hown hw hdg (k lsR H locs cells slots hL hI h1 h2)
  case iload i0 =>
    replace hn : n = 2 := hn
    subst hn
    simp only [tb_stp1] at hs
    split at hs
    · rename_i x hg
      cases hs
      exact lv_iload hx hb hdg (hL.get hg rfl) (k lsR H locs cells slots hL hI h1 h2)
    · cases hs
  case iload_n i0 =>
    replace hn : n = 1 := hn
    subst hn
    simp only [tb_stp1] at hs
    split at hs
    · rename_i x hg
      cases hs
      exact lv_iload_n hx hb hdg rfl (hL.get hg rfl) (k lsR H locs cells slots hL hI h1 h2)
    · cases hs
  case aload i0 =>
    replace hn : n = 2 := hn
    subst hn
    simp only [tb_stp1] at hs
    split at hs
    · rename_i x hg
      cases hs
      exact lv_aload hx hb hdg (hL.get hg rfl) (k lsR H locs cells slots hL hI h1 h2)
    · cases hs
  case aload_n i0 =>
    replace hn : n = 1 := hn
    subst hn
    simp only [tb_stp1] at hs
    split at hs
    · rename_i x hg
      cases hs
      exact lv_aload_n hx hb hdg rfl (hL.get hg rfl) (k lsR H locs cells slots hL hI h1 h2)
    · cases hs
  case istore i0 =>
    replace hn : n = 2 := hn
    subst hn
    simp only [tb_stp1] at hs
    split at hs
    · rename_i x r
      split at hs
      · rename_i hk
        cases hs
        obtain ⟨lv, g1, -, g3⟩ := hL.put
        refine lv_istore hx hb hdg g1 (by omega) rfl (fun ls' hl' => ?_)
        exact k ls' H locs cells slots (g3 _ _ (by omega) rfl ls' hl') hI h1 h2
      · cases hs
    · cases hs
  case istore_n i0 =>
    replace hn : n = 1 := hn
    subst hn
    simp only [tb_stp1] at hs
    split at hs
    · rename_i x r
      split at hs
      · rename_i hk
        cases hs
        obtain ⟨lv, g1, -, g3⟩ := hL.put
        refine lv_istore_n hx hb hdg rfl g1 (by omega) rfl (fun ls' hl' => ?_)
        exact k ls' H locs cells slots (g3 _ _ (by omega) rfl ls' hl') hI h1 h2
      · cases hs
    · cases hs
  case astore i0 =>
    replace hn : n = 2 := hn
    subst hn
    simp only [tb_stp1] at hs
    split at hs
    · rename_i x r
      split at hs
      · rename_i hk
        cases hs
        obtain ⟨lv, g1, -, g3⟩ := hL.put
        refine lv_astore hx hb hdg g1 (by omega) rfl (fun ls' hl' => ?_)
        exact k ls' H locs cells slots (g3 _ _ (by omega) rfl ls' hl') hI h1 h2
      · cases hs
    · cases hs
  case astore_n i0 =>
    replace hn : n = 1 := hn
    subst hn
    simp only [tb_stp1] at hs
    split at hs
    · rename_i x r
      split at hs
      · rename_i hk
        cases hs
        obtain ⟨lv, g1, -, g3⟩ := hL.put
        refine lv_astore_n hx hb hdg rfl g1 (by omega) rfl (fun ls' hl' => ?_)
        exact k ls' H locs cells slots (g3 _ _ (by omega) rfl ls' hl') hI h1 h2
      · cases hs
    · cases hs
  case iinc i0 z0 =>
    replace hn : n = 3 := hn
    subst hn
    simp only [tb_stp1] at hs
    split at hs
    · rename_i x hg
      cases hs
      obtain ⟨lv, g1, g2, g3⟩ := hL.put
      obtain ⟨j, hj⟩ := g2 _ _ hg rfl
      have hlt := (List.getElem?_eq_some_iff.mp hg).1
      refine lv_iinc hx hb hdg g1 hj rfl (by omega) rfl (fun ls' hl' => ?_)
      exact k ls' H locs cells slots (g3 _ _ (by omega) rfl ls' hl') hI h1 h2
    · cases hs
  case dup =>
    replace hn : n = 1 := hn
    subst hn
    simp only [tb_stp1] at hs
    split at hs
    · cases hs
      exact lv_dup hx hb hdg rfl (k lsR H locs cells slots hL hI h1 h2)
    · cases hs
      exact lv_dup hx hb hdg rfl (k lsR H locs cells slots hL hI h1 h2)
    · cases hs
  case dup2 =>
    replace hn : n = 1 := hn
    subst hn
    simp only [tb_stp1] at hs
    split at hs
    · cases hs
      exact lv_dup2_11 hx hb hdg rfl rfl (k lsR H locs cells slots hL hI h1 h2)
    · cases hs
  case pop =>
    replace hn : n = 1 := hn
    subst hn
    simp only [tb_stp1] at hs
    split at hs
    · cases hs
      exact lv_pop hx hb hdg rfl (k lsR H locs cells slots hL hI h1 h2)
    · cases hs
      exact lv_pop hx hb hdg rfl (k lsR H locs cells slots hL hI h1 h2)
    · cases hs
  case iadd =>
    replace hn : n = 1 := hn
    subst hn
    simp only [tb_stp1] at hs
    split at hs
    · cases hs
      exact lv_iadd hx hb hdg (k lsR H locs cells slots hL hI h1 h2)
    · cases hs
  case isub =>
    replace hn : n = 1 := hn
    subst hn
    simp only [tb_stp1] at hs
    split at hs
    · cases hs
      exact lv_isub hx hb hdg (k lsR H locs cells slots hL hI h1 h2)
    · cases hs
  case imul =>
    replace hn : n = 1 := hn
    subst hn
    simp only [tb_stp1] at hs
    split at hs
    · cases hs
      exact lv_imul hx hb hdg (k lsR H locs cells slots hL hI h1 h2)
    · cases hs
  case iand =>
    replace hn : n = 1 := hn
    subst hn
    simp only [tb_stp1] at hs
    split at hs
    · cases hs
      exact lv_iand hx hb hdg (k lsR H locs cells slots hL hI h1 h2)
    · cases hs
  case idiv =>
    replace hn : n = 1 := hn
    subst hn
    simp only [tb_stp1] at hs
    split at hs
    · split at hs
      · cases hs
      · rename_i hne
        cases hs
        exact lv_idiv hx hb hdg hne (k lsR H locs cells slots hL hI h1 h2)
    · cases hs
  case irem =>
    replace hn : n = 1 := hn
    subst hn
    simp only [tb_stp1] at hs
    split at hs
    · split at hs
      · cases hs
      · rename_i hne
        cases hs
        exact lv_irem hx hb hdg hne (k lsR H locs cells slots hL hI h1 h2)
    · cases hs
  case i2c =>
    replace hn : n = 1 := hn
    subst hn
    simp only [tb_stp1] at hs
    split at hs
    · cases hs
      exact lv_i2c hx hb hdg rfl (k lsR H locs cells slots hL hI h1 h2)
    · cases hs
  case getfield ix =>
    replace hn : n = 3 := hn
    subst hn
    simp only [tb_stp1] at hs
    split at hs
    · obtain ⟨q, hq, hs⟩ := Option.bind_eq_some_iff.mp hs
      obtain ⟨v, hv, hs⟩ := Option.bind_eq_some_iff.mp hs
      cases hs
      exact tb_getf C0 hI hq hv hdg (k lsR H locs cells slots hL hI h1 h2)
    · cases hs
  case putfield ix =>
    replace hn : n = 3 := hn
    subst hn
    simp only [tb_stp1] at hs
    split at hs
    · obtain ⟨q, hq, hs⟩ := Option.bind_eq_some_iff.mp hs
      split at hs
      · rename_i hc
        obtain ⟨h', hv, hs⟩ := Option.bind_eq_some_iff.mp hs
        cases hs
        exact tb_putf C0 hI hq hc.1 hc.2 hv hdg (fun H1 locs1 hI1 => k lsR H1 locs1 cells slots hL hI1 h1 h2)
      · cases hs
    · cases hs
  case getstatic ix =>
    replace hn : n = 3 := hn
    subst hn
    simp only [tb_stp1] at hs
    obtain ⟨q, hq, hs⟩ := Option.bind_eq_some_iff.mp hs
    cases hs
    have hm := tb_fd hq
    have hlt : q < 4 := tb_sl_lt _ hm
    have hw : va_Nw (.fieldLinkNest (tb_cn (tb_ow mm)) ix "TiltBoards" (tb_sn q) "[I" "TiltBoards") s := hE.2.1 _ (List.mem_append_right _ (List.mem_map.mpr ⟨_, hm, rfl⟩))
    exact va_getsN (A := fun q => E.2.2 ≤ q) hx hb (hE.2.2.2.1 q hlt) hI.2.2.2 hown (va_Nw.use rfl hw) (fun _ h9 => h9) hdg (k lsR H locs cells slots hL hI h1 h2)
  case iaload =>
    replace hn : n = 1 := hn
    subst hn
    simp only [tb_stp1] at hs
    split at hs
    · obtain ⟨x, hxx, hs⟩ := Option.bind_eq_some_iff.mp hs
      cases hs
      unfold tb_ld at hxx
      split at hxx
      · rename_i n f hr
        split at hxx
        · cases hxx
        · rename_i hi
          cases hxx
          obtain ⟨cell, g1, g2, g3, g4, g5⟩ := tb_rd hE hI hr (by decide)
          exact W.iald hx hb g1 g2 g3 (fun q => hi (q.imp id (fun z => Nat.le_trans g4.1 z))) (g5 _ (Nat.not_le.mp fun q => hi (Or.inr q))) rfl rfl hdg (k lsR H locs cells slots hL hI h1 h2)
      · cases hxx
    · cases hs
  case baload =>
    replace hn : n = 1 := hn
    subst hn
    simp only [tb_stp1] at hs
    split at hs
    · obtain ⟨x, hxx, hs⟩ := Option.bind_eq_some_iff.mp hs
      cases hs
      unfold tb_ld at hxx
      split at hxx
      · rename_i n f hr
        split at hxx
        · cases hxx
        · rename_i hi
          cases hxx
          obtain ⟨cell, g1, g2, g3, g4, g5⟩ := tb_rd hE hI hr (by decide)
          exact W.zald hx hb g1 g2 g3 (fun q => hi (q.imp id (fun z => Nat.le_trans g4.1 z))) (g5 _ (Nat.not_le.mp fun q => hi (Or.inr q))) rfl rfl hdg (k lsR H locs cells slots hL hI h1 h2)
      · cases hxx
    · cases hs
  case caload =>
    replace hn : n = 1 := hn
    subst hn
    simp only [tb_stp1] at hs
    split at hs
    · obtain ⟨x, hxx, hs⟩ := Option.bind_eq_some_iff.mp hs
      cases hs
      unfold tb_ld at hxx
      split at hxx
      · rename_i n f hr
        split at hxx
        · cases hxx
        · rename_i hi
          cases hxx
          obtain ⟨cell, g1, g2, g3, g4, g5⟩ := tb_rd hE hI hr (by decide)
          exact W.cald hx hb g1 g2 g3 (fun q => hi (q.imp id (fun z => Nat.le_trans g4.1 z))) (g5 _ (Nat.not_le.mp fun q => hi (Or.inr q))) rfl rfl hdg (k lsR H locs cells slots hL hI h1 h2)
      · cases hxx
    · cases hs
  case aaload =>
    replace hn : n = 1 := hn
    subst hn
    simp only [tb_stp1] at hs
    split at hs
    · obtain ⟨x, hxx, hs⟩ := Option.bind_eq_some_iff.mp hs
      cases hs
      exact tb_aald C0 hI hxx hdg (k lsR H locs cells slots hL hI h1 h2)
    · cases hs
  case aastore =>
    replace hn : n = 1 := hn
    subst hn
    simp only [tb_stp1] at hs
    split at hs
    · obtain ⟨x, hxx, hs⟩ := Option.bind_eq_some_iff.mp hs
      cases hs
      exact tb_aast C0 hI hxx hdg (fun H1 locs1 hI1 => k lsR H1 locs1 cells slots hL hI1 h1 h2)
    · cases hs
  case iastore =>
    replace hn : n = 1 := hn
    subst hn
    simp only [tb_stp1] at hs
    split at hs
    · obtain ⟨h', hxx, hs⟩ := Option.bind_eq_some_iff.mp hs
      obtain ⟨n, f, g1, g2, rfl⟩ := tb_stv_ok hI hxx
      cases hs
      have hc := (hI.1 _ _ g1).2.1
      refine W.iast hx hb hc ((hE.1.2 _ _ (tb_tys_get dA (t := 0) (by decide))).1 n (fun j => .int (f j))) (fun q => by cases q) (by show ¬ (_ ∨ (arrV _ _ _).slots.size ≤ _); rw [arrV_size]; exact g2) rfl rfl hdg fun H1 e1 z1 oq => ?_
      exact k lsR H1 _ cells slots hL (tb_store hI g1 e1 z1 oq (fun q => by cases q)) h1 h2
    · cases hs
  case bastore =>
    replace hn : n = 1 := hn
    subst hn
    simp only [tb_stp1] at hs
    split at hs
    · split at hs
      · rename_i hw
        obtain ⟨h', hxx, hs⟩ := Option.bind_eq_some_iff.mp hs
        obtain ⟨n, f, g1, g2, rfl⟩ := tb_stv_ok hI hxx
        cases hs
        have hc := (hI.1 _ _ g1).2.1
        refine W.zast hx hb hc ((hE.1.2 _ _ (tb_tys_get dA (t := 1) (by decide))).1 n (fun j => .int (f j))) (fun q => by cases q) (by show ¬ (_ ∨ (arrV _ _ _).slots.size ≤ _); rw [arrV_size]; exact g2) rfl rfl hdg fun H1 e1 z1 oq => ?_
        exact k lsR H1 _ cells slots hL (tb_store hI g1 (by rw [e1]; rcases hw with rfl | rfl <;> rfl) z1 oq (fun _ => hw)) h1 h2
      · cases hs
    · cases hs
  case castore =>
    replace hn : n = 1 := hn
    subst hn
    simp only [tb_stp1] at hs
    split at hs
    · split at hs
      · rename_i hw
        obtain ⟨h', hxx, hs⟩ := Option.bind_eq_some_iff.mp hs
        obtain ⟨n, f, g1, g2, rfl⟩ := tb_stv_ok hI hxx
        cases hs
        have hc := (hI.1 _ _ g1).2.1
        refine W.cast hx hb hc ((hE.1.2 _ _ (tb_tys_get dA (t := 2) (by decide))).1 n (fun j => .int (f j))) (fun q => by cases q) (by show ¬ (_ ∨ (arrV _ _ _).slots.size ≤ _); rw [arrV_size]; exact g2) rfl rfl hdg fun H1 e1 z1 oq => ?_
        exact k lsR H1 _ cells slots hL (tb_store hI g1 (by rw [e1, (tb_vok_ok (ty := .char) (by simp [tb_vok, hw])).1]) z1 oq (fun q => by cases q)) h1 h2
      · cases hs
    · cases hs
  case arraylength =>
    replace hn : n = 1 := hn
    subst hn
    simp only [tb_stp1] at hs
    split at hs
    · obtain ⟨q, hq, hs⟩ := Option.bind_eq_some_iff.mp hs
      cases hs
      obtain ⟨cell, g1, g2, g3, g4, g5⟩ := tb_rd hE hI (n := q.1) (f := q.2) hq (by decide)
      exact W.alen (n := Int32.ofNat q.1) hx hb g1 g2 g4.2 rfl rfl hdg (k lsR H locs cells slots hL hI h1 h2)
    · cases hs
  case new ix =>
    replace hn : n = 3 := hn
    subst hn
    simp only [tb_stp1] at hs
    obtain ⟨ci, hci, hs⟩ := Option.bind_eq_some_iff.mp hs
    split at hs
    · rename_i hbd
      cases hs
      obtain ⟨h7, hcl⟩ := tb_k6 _ (tb_fd hci)
      dsimp only at h7 hcl
      have hc := tb_cls_get h7
      have hKn := hE.1.1 ci _ hc
      refine W.newcK hx hb hown (hts _ (tb_bg hcl rfl)) (hts _ (tb_bg (tb_k8 ci h7).2 rfl)) (hts _ (tb_bg (tb_k3 ci (by omega)) rfl)) rfl hdg (by omega) (by omega) hKn.2.1 hI.2.1 fun H1 kC hkC e1 z1 o1 => ?_
      refine k lsR H1 locs (cells + 1) (slots + tb_nF ci) hL (hI.new ?_ trivial z1 o1) (by dsimp only; omega) (by dsimp only; omega)
      refine ⟨_, hc, (u_born (tb_T ci) hts (tb_bg_u h7) hKn hkC e1 (tb_k9 ci h7).1).to (fun j hj => ?_)⟩
      show defaultValue (tb_T ci j) = (tb_df ci).getD j .null
      rw [List.getD_eq_getElem?_getD, tb_default ci h7 j hj]
      rfl
    · cases hs
  case newarray at0 =>
    replace hn : n = 2 := hn
    subst hn
    simp only [tb_stp1] at hs
    split at hs
    · obtain ⟨ty, hty, hs⟩ := Option.bind_eq_some_iff.mp hs
      split at hs
      · rename_i hbd
        obtain ⟨b1, b2, b3, b4⟩ := hbd
        cases hs
        have hat : newarray.typeOf at0 = tb_aty ty ∧ ty < 3 := by cases at0 <;> simp only [Option.some.injEq, reduceCtorEq] at hty <;> subst hty <;> exact ⟨rfl, by decide⟩
        obtain ⟨ha1, ha2⟩ := hat
        have hac : (Cond.arrayClass (newarray.typeOf at0)).before args s = true := by
          rw [ha1]
          rcases (by omega : ty = 0 ∨ ty = 1 ∨ ty = 2) with rfl | rfl | rfl <;> exact hts _ (tb_bg (by decide +kernel) rfl)
        have hcb : componentBytes (newarray.typeOf at0) ≤ 4 := by
          rw [ha1]
          rcases (by omega : ty = 0 ∨ ty = 1 ∨ ty = 2) with rfl | rfl | rfl <;> decide
        have hdv : defaultValue (tb_aty ty) = .int 0 := by
          rcases (by omega : ty = 0 ∨ ty = 1 ∨ ty = 2) with rfl | rfl | rfl <;> rfl
        refine va_newaK hx hb hac rfl hdg rfl b1 rfl (Nat.le_trans (Nat.mul_le_mul b2 hcb) (by decide)) (by omega) (by omega) hI.2.1 fun H1 cA e1 z1 o1 hAr hNm => ?_
        refine k lsR H1 locs (cells + 1) _ hL (hI.new ?_ ⟨ha2, fun _ _ => Or.inl rfl⟩ z1 o1) (by dsimp only; omega) (by dsimp only; omega)
        have hra := (hE.1.2 _ _ (tb_tys_get dA ha2)).2
        have hcA : cA = dA ty := by
          rw [ha1] at hNm
          rcases (by omega : ty = 0 ∨ ty = 1 ∨ ty = 2) with rfl | rfl | rfl <;> exact Option.some.inj (hNm.symm.trans hra)
        rw [ha1, hdv, hcA] at e1
        exact e1
      · cases hs
    · cases hs
  case anewarray ix =>
    replace hn : n = 3 := hn
    subst hn
    simp only [tb_stp1] at hs
    split at hs
    · rename_i nn r0
      obtain ⟨ci, hci, hs⟩ := Option.bind_eq_some_iff.mp hs
      split at hs
      · rename_i hbd
        obtain ⟨b0, b1, b2, b3, b4⟩ := hbd
        cases hs
        obtain ⟨h7, hcl⟩ := tb_k6 _ (tb_fd hci)
        dsimp only at h7 hcl
        have hover : va_AO (tb_cn ci) s := by
          rcases b0 with rfl | rfl
          · exact hE.2.2.1.1
          · exact hE.2.2.1.2
        refine W.anew hx hb hown (hts _ (tb_bg hcl rfl)) (va_AO.use hover) rfl hdg rfl b1 (by omega) (by omega) (by omega) fun cA kA comp f1 f2 f3 f4 => ?_
        generalize hH1 : H.push ({ cls := cA, slots := Array.replicate _ .null, vm := .none } : Cell) = H1
        have z1 : H1.size = nx + 1 := by rw [← hH1, Array.size_push, hI.2.1]
        have e1 : H1[H.size]? = some (arrV cA nn.toNatClampNeg (fun _ => .null)) := by rw [← hH1, Array.getElem?_push_size, ← arrV_new]
        have o1 : ∀ q : Nat, q < nx → H1[q]? = H[q]? := fun q hq => by rw [← hH1, Array.getElem?_push, if_neg (by have := hI.2.1; omega)]
        rw [hI.2.1] at e1 ⊢
        refine k lsR H1 locs (cells + 1) _ hL (hI.new ?_ b0 z1 o1) (by dsimp only; omega) (by dsimp only; omega)
        obtain ⟨t0, ht⟩ := tb_tys_getq dA b0
        obtain ⟨kA', comp', k1, k2, k3, k4⟩ := (hE.1.2 t0 _ ht).2
        have hcA : cA = dA (10 + ci) := Option.some.inj (f1.symm.trans k4)
        rw [hcA] at e1
        show H1[nx]? = some (vp_cell (dA (10 + ci)) _)
        generalize dA (10 + ci) = cB at e1 ⊢
        rw [vp_cell_q]
        exact e1
      · cases hs
    · cases hs
  case goto off =>
    replace hn : n = 3 := hn
    subst hn
    simp only [tb_stp1] at hs
    obtain ⟨t, ht, hs⟩ := Option.bind_eq_some_iff.mp hs
    cases hs
    exact lv_goto hx hb hdg (tb_tg_ok ht) (k lsR H locs cells slots hL hI h1 h2)
  case ifCond cd0 off =>
    replace hn : n = 3 := hn
    subst hn
    simp only [tb_stp1] at hs
    split at hs
    · obtain ⟨t, ht, hs⟩ := Option.bind_eq_some_iff.mp hs
      cases hs
      have k := k lsR H locs cells slots hL hI h1 h2
      dsimp only at k
      cases cd0
      case eq =>
        refine lv_if_eq hx hb hdg (tb_tg_ok ht) (fun hc => ?_) (fun hc => ?_)
        · simpa [tb_cnd, hc] using k
        · simpa [tb_cnd, hc] using k
      case ne =>
        refine lv_if_ne hx hb hdg (tb_tg_ok ht) (fun hc => ?_) (fun hc => ?_)
        · simpa [tb_cnd, hc] using k
        · simpa [tb_cnd, hc] using k
      case lt =>
        refine lv_if_lt hx hb hdg (tb_tg_ok ht) (fun hc => ?_) (fun hc => ?_)
        · simpa [tb_cnd, hc] using k
        · simpa [tb_cnd, hc] using k
      case ge =>
        refine lv_if_ge hx hb hdg (tb_tg_ok ht) (fun hc => ?_) (fun hc => ?_)
        · simpa [tb_cnd, hc] using k
        · simpa [tb_cnd, hc] using k
      case gt =>
        refine lv_if_gt hx hb hdg (tb_tg_ok ht) (fun hc => ?_) (fun hc => ?_)
        · simpa [tb_cnd, hc] using k
        · simpa [tb_cnd, hc] using k
      case le =>
        refine lv_if_le hx hb hdg (tb_tg_ok ht) (fun hc => ?_) (fun hc => ?_)
        · simpa [tb_cnd, hc] using k
        · simpa [tb_cnd, hc] using k
    · cases hs
  case if_icmp cd0 off =>
    replace hn : n = 3 := hn
    subst hn
    simp only [tb_stp1] at hs
    split at hs
    · obtain ⟨t, ht, hs⟩ := Option.bind_eq_some_iff.mp hs
      cases hs
      have k := k lsR H locs cells slots hL hI h1 h2
      dsimp only at k
      cases cd0
      case eq =>
        refine lv_icmp_eq hx hb hdg (tb_tg_ok ht) (fun hc => ?_) (fun hc => ?_)
        · simpa [tb_cnd, hc] using k
        · simpa [tb_cnd, hc] using k
      case ne =>
        refine lv_icmp_ne hx hb hdg (tb_tg_ok ht) (fun hc => ?_) (fun hc => ?_)
        · simpa [tb_cnd, hc] using k
        · simpa [tb_cnd, hc] using k
      case lt =>
        refine lv_icmp_lt hx hb hdg (tb_tg_ok ht) (fun hc => ?_) (fun hc => ?_)
        · simpa [tb_cnd, hc] using k
        · simpa [tb_cnd, hc] using k
      case ge =>
        refine lv_icmp_ge hx hb hdg (tb_tg_ok ht) (fun hc => ?_) (fun hc => ?_)
        · simpa [tb_cnd, hc] using k
        · simpa [tb_cnd, hc] using k
      case gt =>
        refine lv_icmp_gt hx hb hdg (tb_tg_ok ht) (fun hc => ?_) (fun hc => ?_)
        · simpa [tb_cnd, hc] using k
        · simpa [tb_cnd, hc] using k
      case le =>
        refine lv_icmp_le hx hb hdg (tb_tg_ok ht) (fun hc => ?_) (fun hc => ?_)
        · simpa [tb_cnd, hc] using k
        · simpa [tb_cnd, hc] using k
    · cases hs
  case tableswitch df lo hi offs =>
    replace hn : n = n := hn
    simp only [tb_stp1] at hs
    split at hs
    · split at hs
      · rename_i hc
        obtain ⟨t, ht, hs⟩ := Option.bind_eq_some_iff.mp hs
        cases hs
        exact lv_tableOut hx hb hdg hc (tb_tg_ok ht) (k lsR H locs cells slots hL hI h1 h2)
      · rename_i hc
        obtain ⟨o, ho, hs⟩ := Option.bind_eq_some_iff.mp hs
        obtain ⟨t, ht, hs⟩ := Option.bind_eq_some_iff.mp hs
        cases hs
        exact lv_tableIn hx hb hdg (fun q => hc (Or.inl q)) (fun q => hc (Or.inr q)) ho (tb_tg_ok ht) (k lsR H locs cells slots hL hI h1 h2)
    · cases hs
  case lookupswitch df ps =>
    replace hn : n = n := hn
    simp only [tb_stp1] at hs
    split at hs
    · split at hs
      · rename_i hc
        obtain ⟨t, ht, hs⟩ := Option.bind_eq_some_iff.mp hs
        cases hs
        exact lv_lookup hx hb hdg hc rfl (tb_tg_ok ht) (k lsR H locs cells slots hL hI h1 h2)
      · cases hs
    · cases hs
  case invokespecial ix =>
    replace hn : n = 3 := hn
    subst hn
    simp only [tb_stp1] at hs
    split at hs
    · rename_i a r
      split at hs
      · rename_i hc
        obtain ⟨c1, c2, c3⟩ := hc
        cases hs
        obtain ⟨j0, hj0⟩ := tb_lk_ok c1
        have hl0 := (tb_k4s1001 _ hj0 rfl).2
        have hsm : (r.map fun v => v.category).sum ≤ 8 := by simpa [tb_sm] using c3
        refine W.objInit hx hb hown (hts _ (tb_bg (List.mem_of_getElem? hl0) rfl)) (hts _ (tb_bg (by decide +kernel) rfl)) (hts _ (tb_bg (by decide +kernel) rfl)) rfl (by rw [hml]; exact hsz) rfl hdg (by omega) (by show 2 * 0 + _ + 12 ≤ _; omega) ?_
        exact k lsR H locs cells slots hL hI h1 h2
      · cases hs
    · cases hs
  case invokestatic ix =>
    replace hn : n = 3 := hn
    subst hn
    simp only [tb_stp1] at hs
    split at hs
    · rename_i hlk
      split at hs
      · rename_i y x r
        split at hs
        · rename_i hc
          obtain ⟨c2, c3⟩ := hc
          cases hs
          obtain ⟨j0, hj0⟩ := tb_lk_ok hlk
          have hl0 := (tb_k4s1002 _ hj0 rfl).2
          have hsm : (r.map fun v => v.category).sum ≤ 8 := by simpa [tb_sm] using c3
          refine va_mmax hx hb (by rw [hml]; exact hsz.symm) hown (hts _ (tb_bg (List.mem_of_getElem? hl0) rfl)) (hts _ (tb_bg (by decide +kernel) rfl)) (hts _ (tb_bg (by decide +kernel) rfl)) (hts _ (tb_bg (by decide +kernel) rfl)) (by omega) (by omega) (by omega) (by omega) hdg ?_
          exact k lsR H locs cells slots hL hI h1 h2
        · cases hs
      · cases hs
    · rename_i hlk
      split at hs
      · rename_i y x r
        split at hs
        · rename_i hc
          obtain ⟨c2, c3⟩ := hc
          cases hs
          obtain ⟨j0, hj0⟩ := tb_lk_ok hlk
          have hl0 := (tb_k4s1003 _ hj0 rfl).2
          have hsm : (r.map fun v => v.category).sum ≤ 8 := by simpa [tb_sm] using c3
          refine va_mmin hx hb (by rw [hml]; exact hsz.symm) hown (hts _ (tb_bg (List.mem_of_getElem? hl0) rfl)) (hts _ (tb_bg (by decide +kernel) rfl)) (hts _ (tb_bg (by decide +kernel) rfl)) (hts _ (tb_bg (by decide +kernel) rfl)) (by omega) (by omega) (by omega) (by omega) hdg ?_
          exact k lsR H locs cells slots hL hI h1 h2
        · cases hs
      · cases hs
    · rename_i hlk
      split at hs
      · split at hs
        · rename_i hc
          obtain ⟨h', hh', hs⟩ := Option.bind_eq_some_iff.mp hs
          cases hs
          exact tb_copy C0 hsz hI hlk hc.1 hc.2 hh' hdg (fun H1 locs1 hI1 => k lsR H1 locs1 cells slots hL hI1 h1 h2)
        · cases hs
      · cases hs
    · cases hs
  all_goals (simp only [tb_stp1, reduceCtorEq] at hs)
theorem tb_sim (C0 : tb_Ctx D dA E p R s m args meth c d mm) {pc : Nat} {ls st : List Value} {h : tb_heap} {nx bc bs : Nat} {z : tb_cfg} (hs : tb_stp E d mm pc ls st h nx bc bs = some z) (k : tb_W1 D dA E p l e R s m args below meth c Q mm z) : tb_W1 D dA E p l e R s m args below meth c Q mm (pc, ls, st, h, nx, bc, bs) := by
  unfold tb_stp at hs
  split at hs
  · rename_i i n hcd
    split at hs
    · rename_i hn
      exact tb_sim1 C0 (tb_cd_ok hcd) hn hs k
    · cases hs
  · cases hs
end TB2
end
section
/-! A RUN OF THE MINI MACHINE, ON THE REAL ONE -/
section TB3
variable {l : Launch} {D : va_G} {dA : Nat → ClassId} {E : tb_env}
def tb_rm (d t : Nat) : Room := { frames := d, cells := tb_mc t, slots := tb_ms t, locals := 38 * d }
def tb_Pc (D : va_G) (dA : Nat → ClassId) (E : tb_env) (av : List Value) (h : tb_heap) (nx : Nat) : Array Value → State → Prop := fun a U => a = av.toArray ∧ tb_EN D dA E U ∧ tb_RH D dA E.2.2 h U.heap ∧ U.heap.size = nx ∧ E.2.2 ≤ nx
def tb_Qc (D : va_G) (dA : Nat → ClassId) (E : tb_env) (v : Option Value) (h : tb_heap) (nx : Nat) : Array Value → State → Outcome → State → Prop := fun _ st o t => o = .returned v ∧ tb_RH D dA E.2.2 h t.heap ∧ t.heap.size = nx ∧ E.2.2 ≤ nx ∧ st.heap.size ≤ nx ∧ (∀ q : Nat, q < st.heap.size → ¬ E.2.2 ≤ q → t.heap[q]? = st.heap[q]?)
theorem tb_nst_form {w : Cond} (h : w ∈ tb_nst) : (∃ a i x h, w = .methodLinkNest a i x h) ∨ ∃ a i b n d h, w = .fieldLinkNest a i b n d h := by
  rcases List.mem_append.mp h with h | h
  · obtain ⟨q, -, rfl⟩ := List.mem_map.mp h
    exact Or.inl ⟨_, _, _, _, rfl⟩
  · obtain ⟨q, -, rfl⟩ := List.mem_map.mp h
    exact Or.inr ⟨_, _, _, _, _, _, rfl⟩
theorem tb_EN.warm {s U : State} (h : tb_EN D dA E s) (hW : s.WarmedH U.vm) (hz : s.heap.size ≤ U.heap.size) (ho : ∀ q : Nat, q < s.heap.size → ¬ E.2.2 ≤ q → U.heap[q]? = s.heap[q]?) : tb_EN D dA E U := by
  obtain ⟨h1, h2, h3, h4, h5⟩ := h
  refine ⟨h1.moved hW.alike, fun w hw => ?_, ⟨h3.1.moved hW.alike, h3.2.moved hW.alike⟩, fun k hk => ((h4 k hk).moved hW.alike).kept ho, fun a n f hf => ?_⟩
  · rcases tb_nst_form hw with ⟨_, _, _, _, rfl⟩ | ⟨_, _, _, _, _, _, rfl⟩
    · exact va_Nw.warmM hW (h2 _ hw)
    · exact va_Nw.warmF hW (h2 _ hw)
  · exact ((h5 a n f hf).moved hW.alike).kept ho
theorem tb_EN.same {u U : State} (h : tb_EN D dA E u) (hvm : u.vm = U.vm) (hh : u.heap = U.heap) : tb_EN D dA E U := by
  have hal : u.vm.Alike U.vm := by rw [hvm]; exact Vm.Alike.refl U.vm
  obtain ⟨h1, h2, h3, h4, h5⟩ := h
  refine ⟨h1.moved hal, fun w hw => ?_, ⟨h3.1.moved hal, h3.2.moved hal⟩, fun k hk => by rw [← hh]; exact (h4 k hk).moved hal, fun a n f hf => ?_⟩
  · rcases tb_nst_form hw with ⟨_, _, _, _, rfl⟩ | ⟨_, _, _, _, _, _, rfl⟩
    · exact va_Nw.same rfl hvm (h2 _ hw)
    · exact va_Nw.same rfl hvm (h2 _ hw)
  · rw [← hh]
    exact (h5 a n f hf).moved hal
theorem tb_Pc.blind {av : List Value} {h : tb_heap} {nx : Nat} : FrameBlind (tb_Pc D dA E av h nx) := by
  intro a U g mk q
  obtain ⟨q1, q2, q3⟩ := q
  exact ⟨q1, q2.same rfl rfl, q3⟩
theorem tb_args_at (vs : List Value) : ∀ (k : Nat), (∀ v ∈ vs, v.category = 1) → (∀ q ∈ lv_args k vs, q.2.category = 1) ∧ ∀ (i : Nat) (v : Value), vs[i]? = some v → (k + i, v) ∈ lv_args k vs := by
  induction vs with
  | nil =>
    intro k _
    exact ⟨(fun q h => by cases h), (fun i v h => by simp at h)⟩
  | cons x xs ih =>
    intro k hc
    have hx : x.category = 1 := hc x List.mem_cons_self
    obtain ⟨i1, i2⟩ := ih (k + 1) (fun v hv => hc v (List.mem_cons_of_mem _ hv))
    have e : lv_args k (x :: xs) = (k, x) :: lv_args (k + 1) xs := by simp [lv_args, hx]
    rw [e]
    refine ⟨fun q hq => ?_, fun i v hi => ?_⟩
    · rcases List.mem_cons.mp hq with rfl | hq
      · exact hx
      · exact i1 q hq
    · cases i with
      | zero =>
        simp at hi
        subst hi
        exact List.mem_cons_self
      | succ i =>
        refine List.mem_cons_of_mem _ ?_
        have := i2 i v (by simpa using hi)
        rwa [show k + 1 + i = k + (i + 1) by omega] at this
theorem tb_sl_len (vs : List Value) (hc : ∀ v ∈ vs, v.category = 1) : (lg_sl vs).length = vs.length := by
  induction vs with
  | nil => rfl
  | cons x xs ih =>
    have hx : x.category = 1 := hc x List.mem_cons_self
    have := ih (fun v hv => hc v (List.mem_cons_of_mem _ hv))
    simp only [lg_sl, List.flatMap_cons, hx] at this ⊢
    simp [this]
theorem tb_LR.entry {t : Nat} {av : List Value} (hc : ∀ v ∈ av, v.category = 1) (hl : av.length ≤ tb_mL t) : tb_LR ((lg_sl av ++ List.replicate (tb_mL t - (lg_sl av).length) Slot.unset).toArray) (tb_mL t) (tb_ent t av) := by
  refine ⟨?_, _, lv_entry av (by rw [tb_sl_len av hc]; exact hl), (tb_args_at av 0 hc).1, fun i v hi h1 => ?_⟩
  · simp [tb_ent]; omega
  · have hlt : i < av.length := by
      rcases Nat.lt_or_ge i av.length with q | q
      · exact q
      · exfalso
        unfold tb_ent at hi
        rw [List.getElem?_append_right q] at hi
        have := List.eq_of_mem_replicate (List.mem_of_getElem? hi)
        rw [this] at h1
        cases h1
    unfold tb_ent at hi
    rw [List.getElem?_append_left hlt] at hi
    have := (tb_args_at av 0 hc).2 i v hi
    rwa [Nat.zero_add] at this
theorem tb_good {t : Nat} (ht : t < tb_nLaw) : GoodIn tb_big (tb_ws t) := by
  intro w hw
  have hm : w ∈ tb_big := by
    rcases List.mem_cons.mp hw with rfl | h
    · exact tb_bg (tb_k1 ht) rfl
    · exact h
  exact ⟨hm, good_of_word (List.mem_filter.mp hm).2⟩
/-- what the run's induction gives -/
def tb_P (l : Launch) (D : va_G) (dA : Nat → ClassId) (E : tb_env) (f : Nat) : Prop :=
  ∀ (d mm pc : Nat) (ls st : List Value) (h : tb_heap) (nx bc bs : Nat) (z : Option Value × tb_heap × Nat), tb_run E f d mm pc ls st h nx bc bs = some z →
  ∀ (p : Program) (e : Env) (R : Room) (s : State) (m : MethodId) (args : Array Value) (below : List Frame) (meth : Method) (c : Code) (Q : State → Prop), tb_Ctx D dA E p R s m args meth c d mm →
  (∀ (pc : Nat) (lsR : Array Slot) (st : List Value) (H : Heap) (locs : List Loc) (cells slots : Nat), tb_re mm pc st = some z.1 → tb_IV D dA E s z.2.1 z.2.2 H locs → cells ≤ R.cells → slots ≤ R.slots → W p l e R s m args below meth c H locs cells slots Q (F0 m pc lsR st)) →
  tb_W1 D dA E p l e R s m args below meth c Q mm (pc, ls, st, h, nx, bc, bs)
theorem tb_met {f d t : Nat} {av : List Value} {h : tb_heap} {nx : Nat} {z : Option Value × tb_heap × Nat} (IH : tb_P l D dA E f) (ht : t < tb_nLaw) (hc : ∀ v ∈ av, v.category = 1) (hl : av.length ≤ tb_mL t) (hr : tb_run E f d t 0 (tb_ent t av) [] h nx (tb_mc t) (tb_ms t) = some z) :
    Met l (tb_y t) (tb_ws t) (tb_rm d t) (tb_Pc D dA E av h nx) (tb_Qc D dA E z.1 z.2.1 z.2.2) (tb_mc t) (tb_ms t) (fun q => E.2.2 ≤ q) := by
  obtain ⟨k1, k2, k3, k4, k5, k6, k7⟩ := tb_k10 t ht
  refine Met.ofW (cc := tb_by t) (maxL := tb_mL t) (ret := tb_rt t) k4 rfl ?_
  intro p e s m args below meth c s₁ B hml hv
  obtain ⟨rfl, hEN, hRH, hsz, hbase⟩ := hv
  have hx := B.exec
  have hb := B.bytes
  have hret := B.returns
  have hlocks := B.notSynchronized
  have hts := atoms_spec (ws := tb_ws t) B.pre
  have hown : s.vm.findClass (tb_cn (tb_ow t)) = some m.cls := findClass_of_methodNamed B.named
  have C0 : tb_Ctx D dA E p (headSpec (tb_ws t) (tb_rm d t)).room s m av.toArray meth c d t := ⟨hx, hb, hml, hown, fun w hw => hts w (List.mem_cons_of_mem _ hw), hlocks, fun hk => by
    have hn := (name_of_methodNamed B.named B.method).1
    rw [hn]
    exact ((tb_k2i t ht).2.2.2 hk).1, hEN, rfl, rfl⟩
  rw [lg_entry_eq]
  refine IH d t 0 (tb_ent t av) [] h nx (tb_mc t) (tb_ms t) z hr p e _ s m av.toArray below meth c _ C0 ?_ _ s.heap [] 0 0 (tb_LR.entry hc hl) ⟨hRH, hsz, hbase, va_S.rf⟩ (by show 0 + tb_mc t ≤ tb_mc t; omega) (by show 0 + tb_ms t ≤ tb_ms t; omega)
  intro pc lsR st H locs cells slots hre hI hc1 hc2
  refine W.widen (k := tb_mc t) (n := tb_ms t) hc1 hc2 ?_
  have hq : ∀ (v : Option Value), v = z.1 → ∀ t' : State, t'.heap = H → s.WarmedH t'.vm → tb_Qc D dA E z.1 z.2.1 z.2.2 av.toArray s (.returned v) t' := by
    intro v hv t' ht' _
    obtain ⟨i1, i2, i3, i4⟩ := hI
    exact ⟨by rw [hv], by rw [ht']; exact i1, by rw [ht']; exact i2, i3, by have := i4.1; omega, fun q h1 h2 => by rw [ht']; exact i4.2.1 q h1 h2⟩
  unfold tb_re at hre
  split at hre
  · rename_i hcd
    split at hre
    · split at hre
      · rename_i hok
        have hv := Option.some.inj hre
        obtain ⟨ty, g1, g2⟩ := tb_rok_ok hok
        exact W.zret hx hb (hret.trans g1) g2 (hq _ hv) hI.2.2.2.2.2 (tb_cd_ok hcd)
      · cases hre
    · cases hre
  · rename_i hcd
    split at hre
    · split at hre
      · rename_i hok
        have hv := Option.some.inj hre
        have hn : tb_rt t = none := by simpa using hok
        exact W.vret hx hb (hret.trans hn) (hq _ hv) hI.2.2.2.2.2 (tb_cd_ok hcd)
      · cases hre
    · cases hre
  · cases hre
theorem tb_as_ok {t : Nat} {st av r : List Value} (h : tb_as t st = some (av, r)) : (tb_kd t = 1 ∧ av.length = tb_na t ∧ st = av.reverse ++ r) ∨ (tb_kd t ≠ 1 ∧ ∃ (b : Nat) (as : List Value), av = .ref b :: as ∧ as.length = tb_na t ∧ st = as.reverse ++ .ref b :: r) := by
  unfold tb_as at h
  split at h
  · rename_i hk
    split at h
    · rename_i hl
      cases h
      refine Or.inl ⟨hk, by simp; omega, by simp⟩
    · cases h
  · rename_i hk
    split at h
    · rename_i b r' hd
      cases h
      have hlen : tb_na t < st.length := by
        rcases Nat.lt_or_ge (tb_na t) st.length with q | q
        · exact q
        · rw [List.drop_eq_nil_of_le q] at hd; cases hd
      refine Or.inr ⟨hk, b, _, rfl, by simp; omega, ?_⟩
      rw [List.reverse_reverse, ← hd, List.take_append_drop]
    · cases h
theorem tb_call {f d mm pc t : Nat} {nest : Bool} {ls st av r : List Value} {h : tb_heap} {nx bc bs : Nat} {z : Option Value × tb_heap × Nat} {p : Program} {e : Env} {R : Room} {s : State} {m : MethodId} {args : Array Value} {below : List Frame} {meth : Method} {c : Code} {Q : State → Prop}
    (IH : tb_P l D dA E f) (C0 : tb_Ctx D dA E p R s m args meth c d mm) (hiv : tb_iv mm pc = some (t, nest)) (has : tb_as t st = some (av, r)) (hck : tb_ck d t av r h bc bs = true) (hr : tb_run E f (d - 1) t 0 (tb_ent t av) [] h nx (tb_mc t) (tb_ms t) = some z)
    (k : tb_W1 D dA E p l e R s m args below meth c Q mm (pc + 3, ls, z.1.toList ++ r, z.2.1, z.2.2, bc - tb_mc t, bs - tb_ms t)) : tb_W1 D dA E p l e R s m args below meth c Q mm (pc, ls, st, h, nx, bc, bs) := by
  intro lsR H locs cells slots hL hI h1 h2
  dsimp only at hL hI h1 h2 ⊢
  have hsz := hL.size
  obtain ⟨hx, hb, hml, hown, hts, hlk0, hin, hE, hR1, hR2⟩ := id C0
  obtain ⟨i1, i2, i3, i4⟩ := id hI
  simp only [tb_ck, Bool.and_eq_true, decide_eq_true_eq] at hck
  obtain ⟨⟨⟨⟨⟨⟨c1, c2⟩, c3⟩, c4⟩, c5⟩, c6⟩, c7⟩ := hck
  have c3 : ∀ v ∈ av, v.category = 1 := fun v hv => by have := List.all_eq_true.mp c3 v hv; simpa using this
  have c2 : (r.map fun v => v.category).sum ≤ 8 := by simpa [tb_sm] using c2
  -- the target, its link
  have tgt : ∃ (op : Instr) (ix : Nat), decode (tb_by mm) pc = .ok (op, 3) ∧ tb_lk (tb_ow mm) ix = some (t, nest) ∧ t < 1000 ∧ ((op = .invokevirtual ix ∧ tb_kd t = 0) ∨ (op = .invokestatic ix ∧ tb_kd t = 1) ∨ (op = .invokespecial ix ∧ tb_kd t = 2)) := by
    unfold tb_iv at hiv
    split at hiv
    · rename_i ix hcd
      split at hiv
      · rename_i t' b' hlk
        split at hiv
        · rename_i hc; cases hiv; exact ⟨_, ix, tb_cd_ok hcd, hlk, hc.1, Or.inl ⟨rfl, hc.2⟩⟩
        · cases hiv
      · cases hiv
    · rename_i ix hcd
      split at hiv
      · rename_i t' b' hlk
        split at hiv
        · rename_i hc; cases hiv; exact ⟨_, ix, tb_cd_ok hcd, hlk, hc.1, Or.inr (Or.inl ⟨rfl, hc.2⟩)⟩
        · cases hiv
      · cases hiv
    · rename_i ix hcd
      split at hiv
      · rename_i t' b' hlk
        split at hiv
        · rename_i hc; cases hiv; exact ⟨_, ix, tb_cd_ok hcd, hlk, hc.1, Or.inr (Or.inr ⟨rfl, hc.2⟩)⟩
        · cases hiv
      · cases hiv
    · cases hiv
  obtain ⟨op, ix, hdg, hlk, ht1000, hop⟩ := tgt
  obtain ⟨j0, hj0⟩ := tb_lk_ok hlk
  have ht : t < tb_nLaw := by
    cases nest with
    | false => exact ((tb_k4 _ hj0).1 rfl ht1000).2
    | true => exact (tb_k4 _ hj0).2 rfl
  obtain ⟨k1, k2, k3, k4, k5, k6, k7⟩ := tb_k10 t ht
  have hM := tb_met IH ht c3 c4 hr
  have hini : (Cond.initialized (tb_y t).cls).before args s = true := hts _ (tb_bg (tb_k3 (tb_ow t) (by omega)) rfl)
  have hroom : (tb_rm (d - 1) t).frames + 1 ≤ R.frames ∧ 8 + (tb_mL t + 11) + (tb_rm (d - 1) t).locals ≤ R.locals := by
    constructor
    · show d - 1 + 1 ≤ _; omega
    · show 8 + (tb_mL t + 11) + 38 * (d - 1) ≤ _; omega
  have hPc : ∀ U : State, U.heap = H → s.WarmedH U.vm → tb_Pc D dA E av h nx av.toArray U := by
    intro U hU hW
    refine ⟨rfl, hE.warm hW (by rw [hU]; exact i4.1) (fun q g1 g2 => by rw [hU]; exact i4.2.1 q g1 g2), by rw [hU]; exact i1, by rw [hU]; exact i2, i3⟩
  have S : CallFix p m c (tb_by mm) (tb_mL mm) s args tb_big (tb_cn (tb_ow mm)) := ⟨hx, hb, hml, hown, hts⟩
  have fin : va_Run p l e R s m args below meth c H locs cells slots (tb_mc t) (tb_ms t) (F0 m pc lsR st) r (tb_Qc D dA E z.1 z.2.1 z.2.2 av.toArray) (fun q => E.2.2 ≤ q) → W p l e R s m args below meth c H locs cells slots Q (F0 m pc lsR st) := by
    intro hrun T hT X
    obtain ⟨v, st₀, t', T', L, h0, X', hL2, e1, e2, hq, stp⟩ := hrun T hT X
    obtain ⟨q1, q2, q3, q4, q5, q6⟩ := hq
    have hv : v = z.1 := Outcome.returned.inj q1
    subst hv
    have hI' : tb_IV D dA E s z.2.1 z.2.2 T'.heap (locs ++ L) := by
      refine ⟨by rw [e1]; exact q2, by rw [e1]; exact q3, q4, ⟨?_, fun q g1 g2 => ?_, fun q hq => ?_⟩⟩
      · rw [e1, q3]; have := i4.1; rw [h0] at q5; omega
      · have hlt : q < H.size := Nat.lt_of_lt_of_le g1 i4.1
        rw [e1, q6 q (by rw [h0]; exact hlt) g2, h0]
        exact i4.2.1 q g1 g2
      · rcases List.mem_append.mp hq with g | g
        · exact i4.2.2 q g
        · exact hL2 q g
    obtain ⟨t2, a1, b1⟩ := k lsR T'.heap (locs ++ L) (cells + tb_mc t) (slots + tb_ms t) hL hI' (by dsimp only; omega) (by dsimp only; omega) T' rfl X'
    exact ⟨t2, stp t2 a1, b1⟩
  refine fin ?_
  have hf : cells + tb_mc t ≤ R.cells ∧ slots + tb_ms t ≤ R.slots := ⟨by omega, by omega⟩
  rcases tb_as_ok has with ⟨hk, hlen, rfl⟩ | ⟨hk, b, as, rfl, hlen, rfl⟩
  · -- a static method
    have hop : op = .invokestatic ix := by
      rcases hop with ⟨_, q⟩ | ⟨q, _⟩ | ⟨_, q⟩
      · omega
      · exact q
      · omega
    subst hop
    have hst : (Cond.static (tb_y t)).before args s = true := hts _ (tb_bg (List.mem_of_getElem? ((tb_k2i t ht).1 hk)) rfl)
    cases nest with
    | false =>
      have hlink : (Cond.methodLink (tb_cn (tb_ow mm)) ix (tb_y t)).before args s = true := hts _ (tb_bg (List.mem_of_getElem? ((tb_k4 _ hj0).1 rfl ht1000).1) rfl)
      exact va_runS S hM ⟨callB_of (tb_na t) hts (tb_good ht) rfl rfl rfl hini hlink ⟨k5, k6, k3⟩ hroom, hst⟩ ⟨tb_Pc.blind, hPc⟩ rfl hlen hsz rfl (lv_room (pc := pc) (ls := lsR) (rest := av.reverse ++ r) c2) hdg hf
    | true =>
      have hlink : va_Nw (.methodLinkNest (tb_cn (tb_ow mm)) ix (tb_y t) "TiltBoards") s := hE.2.1 _ (List.mem_append_left _ (List.mem_map.mpr ⟨_, List.mem_filter.mpr ⟨hj0, rfl⟩, rfl⟩))
      exact va_runSN S hM ⟨va_cnB (tb_na t) hts (tb_good ht) rfl rfl rfl hlink hini ⟨k5, k6, k3⟩ hroom, hst, trivial⟩ ⟨tb_Pc.blind, hPc⟩ rfl hlen hsz rfl (lv_room (pc := pc) (ls := lsR) (rest := av.reverse ++ r) c2) hdg hf
  · have hinst : (Cond.instanceMethod (tb_y t)).before args s = true := hts _ (tb_bg (List.mem_of_getElem? ((tb_k2i t ht).2.1 hk)) rfl)
    rcases hop with ⟨rfl, hk0⟩ | ⟨_, q⟩ | ⟨rfl, hk2⟩
    · -- a method of an object
      have hsel : (Cond.selects (tb_cn (tb_ow t)) (tb_y t) (tb_y t)).before args s = true := hts _ (tb_bg (List.mem_of_getElem? ((tb_k2i t ht).2.2.1 hk0)) rfl)
      have hrec : ∃ cellB : Cell, H[b]? = some cellB ∧ cellB.vm.isStatics = false ∧ s.vm.findClass (tb_cn (tb_ow t)) = some cellB.cls := by
        simp only [tb_rv, hk0, BEq.rfl, Bool.not_true, Bool.false_or] at c5
        split at c5
        · rename_i ci fs hb0
          have e0 : ci = tb_ow t := by simpa using c5
          subst e0
          exact va_recv hE.1 (i1.at hb0) (ci := tb_ow t) (q0 := 0) (tb_cls_get k1) rfl
        · cases c5
      cases nest with
      | false =>
        have hlink : (Cond.methodLink (tb_cn (tb_ow mm)) ix (tb_y t)).before args s = true := hts _ (tb_bg (List.mem_of_getElem? ((tb_k4 _ hj0).1 rfl ht1000).1) rfl)
        exact va_runV S hM ⟨callB_of (tb_na t) hts (tb_good ht) rfl rfl rfl hini hlink ⟨k5, k6, k3⟩ hroom, hinst, hsel⟩ ⟨tb_Pc.blind, hrec, hPc⟩ rfl hlen hsz rfl (lv_room (pc := pc) (ls := lsR) (rest := as.reverse ++ .ref b :: r) c2) hdg hf
      | true =>
        have hlink : va_Nw (.methodLinkNest (tb_cn (tb_ow mm)) ix (tb_y t) "TiltBoards") s := hE.2.1 _ (List.mem_append_left _ (List.mem_map.mpr ⟨_, List.mem_filter.mpr ⟨hj0, rfl⟩, rfl⟩))
        exact va_runVN S hM ⟨va_cnB (tb_na t) hts (tb_good ht) rfl rfl rfl hlink hini ⟨k5, k6, k3⟩ hroom, hinst, hsel⟩ ⟨tb_Pc.blind, hrec, hPc⟩ rfl hlen hsz rfl (lv_room (pc := pc) (ls := lsR) (rest := as.reverse ++ .ref b :: r) c2) hdg hf
    · exact absurd q hk
    · -- a constructor
      obtain ⟨hn1, hn2⟩ := (tb_k2i t ht).2.2.2 hk2
      have hg := tb_good ht
      have hw : tb_ws t = Cond.code (tb_y t) (tb_by t) (tb_mL t) none :: tb_big := by
        unfold tb_ws tb_cw; rw [hn2]
      cases nest with
      | false =>
        have hlink : (Cond.methodLink (tb_cn (tb_ow mm)) ix (tb_y t)).before args s = true := hts _ (tb_bg (List.mem_of_getElem? ((tb_k4 _ hj0).1 rfl ht1000).1) rfl)
        exact va_runI S hM ⟨callB_of (tb_na t) hts hg hw rfl rfl hini hlink ⟨k5, k6, k3⟩ hroom, hn1, hinst⟩ ⟨tb_Pc.blind, hPc⟩ rfl hlen hsz rfl (lv_room (pc := pc) (ls := lsR) (rest := as.reverse ++ .ref b :: r) c2) hdg hf
      | true =>
        have hlink : va_Nw (.methodLinkNest (tb_cn (tb_ow mm)) ix (tb_y t) "TiltBoards") s := hE.2.1 _ (List.mem_append_left _ (List.mem_map.mpr ⟨_, List.mem_filter.mpr ⟨hj0, rfl⟩, rfl⟩))
        exact va_runIN S hM ⟨va_cnB (tb_na t) hts hg hw rfl rfl hlink hini ⟨k5, k6, k3⟩ hroom, hn1, hinst⟩ ⟨tb_Pc.blind, hPc⟩ rfl hlen hsz rfl (lv_room (pc := pc) (ls := lsR) (rest := as.reverse ++ .ref b :: r) c2) hdg hf
/-- THE SIMULATION -/
theorem tb_simRun (f : Nat) : tb_P l D dA E f := by
  induction f with
  | zero =>
    intro d mm pc ls st h nx bc bs z hr
    cases hr
  | succ f IH =>
    intro d mm pc ls st h nx bc bs z hr p e R s m args below meth c Q C0 hfin
    unfold tb_run at hr
    split at hr
    · rename_i v hre
      have e1 : (v, h, nx) = z := Option.some.inj hr
      subst e1
      intro lsR H locs cells slots hL hI h1 h2
      exact hfin pc lsR st H locs cells slots hre hI (by dsimp only at h1; omega) (by dsimp only at h2; omega)
    · split at hr
      · rename_i q hiv
        split at hr
        · rename_i w has
          split at hr
          · rename_i hck
            split at hr
            · rename_i z1 hr1
              exact tb_call (t := q.1) (nest := q.2) (av := w.1) (r := w.2) IH C0 hiv has hck hr1 (IH d mm _ _ _ _ _ _ _ z hr p e R s m args below meth c Q C0 hfin)
            · cases hr
          · cases hr
        · cases hr
      · split at hr
        · rename_i z1 hs
          exact tb_sim C0 hs (IH d mm _ _ _ _ _ _ _ z hr p e R s m args below meth c Q C0 hfin)
        · cases hr
end TB3
end
section
/-! THE CLAIM OUT OF ONE WALK OF THE LAW'S BODY. Your part is whole_start (and what it stands on); all else here is the same for every law, but numbers. -/
def R_law : String := "TiltBoardsLaw"
def lw_P (b : Addr) (xs : List Int32) (args : Array Value) (s : State) : Prop := args = #[.ref b] ∧ s.IntsAt b xs ∧ xs.length ≤ 2560 ∧ (Jvm.Cond.and given_1 narrow_1).before args s = true
def lw_Q (_ : Array Value) (s : State) (o : Outcome) (t : State) : Prop := o = .returned (some (.int 1)) ∧ Framed s o t [] 600000 7302250
def lw_Z (below : List Frame) (a : Array Value) (s : State) : State → Prop := fun t => ∃ o, t.status = .running ∧ Ended t below o ∧ lw_Q a s o t
/-- the law's own end, with 1 on the stack, nothing written that was there before, its room as the claim has it -/
theorem lw_ret {p : Program} {l : Launch} {e : Env} {s : State} {m : MethodId} {below : List Frame} {meth : Method} {c : Code} {b : Nat} (hx : p.tables.exec = Jvm.exec) (hb : c.code = code) (hr : meth.sig.returnType = ret) (hlocks : meth.locks = false) {pc : Nat} {H : Heap} {ls : Array Slot} (hdg : decode code pc = .ok (.ireturn, 1)) : W p l e room_1 s m #[Value.ref b] below meth c H [] 600000 7302250 (lw_Z below #[Value.ref b] s) (F0 m pc ls [.int 1]) := by
  intro T hT X
  obtain ⟨fs, hret, hrun, hended, hW, hframe⟩ := X.leave (v := some (.int 1)) (hlocks := hlocks) (fun h => by rw [hr] at h; cases h)
  have hmeth' : T.vm.method? m = some meth := X.method'
  refine ⟨T.setFrames fs, ?_, .returned (some (.int 1)), hrun, hended, rfl, ⟨_, rfl⟩, hW, hframe⟩
  jvm_step X.here [X.here.top, hx, hb, hdg, hmeth', hr, ret, narrow_b1]
  (try refine ⟨rfl, ?_⟩); (try refine ⟨rfl, ?_⟩)
  first | (intro acts; rw [hret _ acts rfl rfl rfl]) | rw [hret _ _ rfl rfl rfl]
  exact Steps.refl _
/-- what holds at the law's entry: the machine, the code, the tables' words (any of lw_tbl by 'hts w (by decide +kernel)'), the script of L ints xs at the cell b, what the Statement gives of the start (any of its parts by flat_of_before) -/
def lw_At (p : Program) (s : State) (m : MethodId) (meth : Method) (c : Code) (b L : Nat) (xs : Nat → Int32) : Prop :=
  p.tables.exec = Jvm.exec ∧ c.code = code ∧ meth.sig.returnType = ret ∧ c.maxLocals = 4 ∧ s.vm.findClass R_law = some m.cls ∧ (∀ w ∈ lw_tbl, w.before #[Value.ref b] s = true) ∧ va_X b L xs s s.heap ∧ b < s.heap.size ∧ meth.locks = false ∧ (Jvm.Cond.and given_1 narrow_1).before #[Value.ref b] s = true
/-! THE LAW'S START: what the Statement gives, in the mini machine's words -/
def tb_fG : Nat → Int32 := fun j => match j with | 0 => 20 | 1 => 25 | 2 => 30 | 3 => 35 | _ => 0
def tb_fS : Nat → Int32 := fun j => match j with | 0 => 5 | 1 => 10 | 2 => 20 | _ => 0
def tb_fL : Nat → Int32 := fun j => match j with | 0 => 0 | 1 => 1 | 2 => 2 | _ => 0
def tb_fM : Nat → Int32 := fun j => match j with | 0 => 30 | 1 => 99 | 2 => 99 | _ => 0
def tb_stat (E : tb_env) : Prop := E.2.1 (E.1 0) = some (4, tb_fG) ∧ E.2.1 (E.1 1) = some (3, tb_fS) ∧ E.2.1 (E.1 2) = some (3, tb_fL) ∧ E.2.1 (E.1 3) = some (3, tb_fM)
theorem tb_nst_in : ∀ w ∈ tb_nst, w ∈ lw_tbl := by decide +kernel
theorem tb_sa1 {b : Nat} {s : State} (ht : (Jvm.Cond.and given_1 narrow_1).before #[Value.ref b] s = true) {A : Nat → Prop} (hA : ∀ a : Nat, a < s.heap.size → ¬ A a) (hts : ∀ w ∈ lw_tbl, w.before #[Value.ref b] s = true) {N : Nat} {nm : String} {f : Nat → Int32} (hN : N < 2 ^ 31)
    (h1 : Cond.arrayOf (.static "TiltBoards" nm "[I") .int ∈ flatC (Jvm.Cond.and given_1 narrow_1)) (h2 : Cond.eq (.length (.static "TiltBoards" nm "[I")) (.int (Int32.ofNat N)) ∈ flatC (Jvm.Cond.and given_1 narrow_1)) (h3 : ∀ j, j < N → Cond.eq (.elem (.static "TiltBoards" nm "[I") (.int (Int32.ofNat j))) (.int (f j)) ∈ flatC (Jvm.Cond.and given_1 narrow_1)) (h4 : Cond.laysStatic "TiltBoards" nm "[I" ∈ lw_tbl) (h5 : Cond.not (Cond.eq (.arg 0) (.static "TiltBoards" nm "[I")) ∈ flatC (Jvm.Cond.and given_1 narrow_1)) :
    ∃ t : Nat, va_Z "TiltBoards" nm "[I" (.ref t) A s s.heap ∧ va_T .int t N (fun j => .int (f j)) A s s.heap ∧ t ≠ b := by
  have hs := flat_of_before _ ht
  obtain ⟨t, e1, e2⟩ := va_Tof (f := fun j => .int (f j)) hN (hs _ h1) (va_eqt (hs _ h2)) (fun j hj => va_eqt (hs _ (h3 j hj))) hA
  refine ⟨t, va_Zref (hts _ h4) (hts _ (tb_k3 5 (by decide))) e1 hA, e2, fun e => ?_⟩
  subst e
  have h := hs _ h5
  have ea : (Term.arg 0).eval #[Value.ref t] s none [] s = some (.ref t) := rfl
  simp [Cond.before, Cond.holds, Cond.value, ea, e1] at h
theorem tb_T_ne {s : State} {A : Nat → Prop} {t t' N N' : Nat} {f f' : Nat → Int32} (h : va_T .int t N (fun j => .int (f j)) A s s.heap) (h' : va_T .int t' N' (fun j => .int (f' j)) A s s.heap) (hN : 0 < N) (hN' : 0 < N') (hf : f 0 ≠ f' 0) : t ≠ t' := by
  intro e
  subst e
  obtain ⟨c1, a1, -, -, -, -, a2, -⟩ := h
  obtain ⟨c2, b1, -, -, -, -, b2, -⟩ := h'
  cases a1.symm.trans b1
  have h3 := (a2 0 hN).symm.trans (b2 0 hN')
  exact hf (Value.int.inj (Option.some.inj h3))
theorem tb_X_T {b L : Nat} {xs : Nat → Int32} {s : State} {A : Nat → Prop} (h : va_X b L xs s s.heap) (hA : ¬ A b) : va_T .int b L (fun j => .int (xs j)) A s s.heap := by
  obtain ⟨scr, h1, h2, h3, h4, h5⟩ := h
  exact ⟨scr, h1, h2, h3, by omega, by rw [h4], h5, hA⟩
theorem tb_begin {p : Program} {s : State} {m : MethodId} {meth : Method} {c : Code} {b L : Nat} {xs : Nat → Int32} (C0 : lw_At p s m meth c b L xs) : ∃ (D : va_G) (dA : Nat → ClassId) (E : tb_env), E.2.2 = s.heap.size ∧ tb_EN D dA E s ∧ E.2.1 b = some (L, xs) ∧ tb_stat E := by
  obtain ⟨hx, hb, hr, hml, hown, hts, hX, hbl, hlocks, hgv⟩ := C0
  have hcl : ∀ k, ∃ (q : ClassId × (Nat → Nat)), k < 7 → u_Kn s (tb_cn k) (tb_F k) (tb_nF k) q.1 q.2 := by
    intro k
    by_cases hk : k < 7
    · obtain ⟨cC, iS, h⟩ := u_known (n := tb_nF k) hts (tb_k8 k hk).1 (hts _ (tb_k8 k hk).2)
      exact ⟨(cC, iS), fun _ => h⟩
    · exact ⟨(0, fun _ => 0), fun h => absurd h hk⟩
  obtain ⟨qD, hqD⟩ := Classical.axiomOfChoice hcl
  have harr : ∀ (ty : FieldType), Cond.arrayClass ty ∈ lw_tbl → (∀ C, ty ≠ .object C) → ∃ cA : ClassId, ArrOfT s cA ty ∧ va_RA s cA ty := by
    intro ty hty hno
    obtain ⟨cA, kA, comp, h1, h2, h3⟩ := Cond.arrayClass_spec (hts _ hty)
    refine ⟨cA, fun n z => ⟨fun k h => (by cases h), kA, h2, comp, h3⟩, ?_⟩
    cases ty <;> first | exact h1 | exact absurd rfl (hno _)
  have harq : ∀ (C : String), Cond.arrayOver (.object C) ∈ lw_tbl → ∃ cA : ClassId, ArrOfT s cA (.object C) ∧ va_RA s cA (.object C) := by
    intro C hC
    obtain ⟨comp, cA, kA, h1, h2, h3, h4, h5⟩ := Cond.arrayOver_spec (hts _ hC)
    exact ⟨cA, fun n z => ⟨fun k h => (by cases h), kA, h3, comp, h4⟩, kA, comp, h3, h4, h1, h5⟩
  obtain ⟨a0, ha0⟩ := harr .int (by decide +kernel) (fun C h => by cases h)
  obtain ⟨a1, ha1⟩ := harr .boolean (by decide +kernel) (fun C h => by cases h)
  obtain ⟨a2, ha2⟩ := harr .char (by decide +kernel) (fun C h => by cases h)
  obtain ⟨a3, ha3⟩ := harq "TiltBoards$Board" (by decide +kernel)
  obtain ⟨a4, ha4⟩ := harq "TiltBoards$State" (by decide +kernel)
  have hA : ∀ a : Nat, a < s.heap.size → ¬ s.heap.size ≤ a := fun a h => Nat.not_le.mpr h
  obtain ⟨t0, z0, w0, n0⟩ := tb_sa1 (A := fun q => s.heap.size ≤ q) (N := 4) (nm := "FIRST_GRIP") (f := tb_fG) hgv hA hts (by decide) (by decide +kernel) (by decide +kernel) (by decide +kernel) (by decide +kernel) (by decide +kernel)
  obtain ⟨t1, z1, w1, n1⟩ := tb_sa1 (A := fun q => s.heap.size ≤ q) (N := 3) (nm := "FIRST_SETTING") (f := tb_fS) hgv hA hts (by decide) (by decide +kernel) (by decide +kernel) (by decide +kernel) (by decide +kernel) (by decide +kernel)
  obtain ⟨t2, z2, w2, n2⟩ := tb_sa1 (A := fun q => s.heap.size ≤ q) (N := 3) (nm := "LEAST_SETTING") (f := tb_fL) hgv hA hts (by decide) (by decide +kernel) (by decide +kernel) (by decide +kernel) (by decide +kernel) (by decide +kernel)
  obtain ⟨t3, z3, w3, n3⟩ := tb_sa1 (A := fun q => s.heap.size ≤ q) (N := 3) (nm := "MOST_SETTING") (f := tb_fM) hgv hA hts (by decide) (by decide +kernel) (by decide +kernel) (by decide +kernel) (by decide +kernel) (by decide +kernel)
  have wb := tb_X_T (A := fun q => s.heap.size ≤ q) hX (Nat.not_le.mpr hbl)
  have m01 := tb_T_ne w0 w1 (by decide) (by decide) (by decide)
  have m02 := tb_T_ne w0 w2 (by decide) (by decide) (by decide)
  have m03 := tb_T_ne w0 w3 (by decide) (by decide) (by decide)
  have m12 := tb_T_ne w1 w2 (by decide) (by decide) (by decide)
  have m13 := tb_T_ne w1 w3 (by decide) (by decide) (by decide)
  have m23 := tb_T_ne w2 w3 (by decide) (by decide) (by decide)
  refine ⟨(fun k => (qD k).1, fun k => (qD k).2), (fun k => if k = 0 then a0 else if k = 1 then a1 else if k = 2 then a2 else if k = 10 then a3 else a4), (fun k => if k = 0 then t0 else if k = 1 then t1 else if k = 2 then t2 else t3, fun a => if a = b then some (L, xs) else if a = t0 then some (4, tb_fG) else if a = t1 then some (3, tb_fS) else if a = t2 then some (3, tb_fL) else if a = t3 then some (3, tb_fM) else none, s.heap.size), rfl, ⟨⟨fun k q hq => ?_, fun k q hq => ?_⟩, fun w hw => ?_, ⟨hts (.arrayOver (.object "TiltBoards$Board")) (by decide +kernel), hts (.arrayOver (.object "TiltBoards$State")) (by decide +kernel)⟩, fun k hk => ?_, fun a n f hf => ?_⟩, ?_, ?_⟩
  · have h7 := tb_cls_lt hq
    rw [tb_cls_get h7] at hq
    cases hq
    exact hqD k h7
  · match k, hq with
    | 0, hq => cases hq; exact ha0
    | 1, hq => cases hq; exact ha1
    | 2, hq => cases hq; exact ha2
    | 3, hq => cases hq; exact ha3
    | 4, hq => cases hq; exact ha4
    | k + 5, hq => simp [tb_tys] at hq
  · have hb0 := hts w (tb_nst_in w hw)
    rcases tb_nst_form hw with ⟨_, _, _, _, rfl⟩ | ⟨_, _, _, _, _, _, rfl⟩
    · exact va_Nw.of rfl hb0
    · exact va_Nw.of rfl hb0
  · match k, hk with
    | 0, _ => exact z0
    | 1, _ => exact z1
    | 2, _ => exact z2
    | 3, _ => exact z3
  · dsimp only at hf
    split at hf
    · rename_i e; subst e; cases hf; exact wb
    · split at hf
      · rename_i e; subst e; cases hf; exact w0
      · split at hf
        · rename_i e; subst e; cases hf; exact w1
        · split at hf
          · rename_i e; subst e; cases hf; exact w2
          · split at hf
            · rename_i e; subst e; cases hf; exact w3
            · cases hf
  · simp
  · refine ⟨?_, ?_, ?_, ?_⟩
    · simp [n0]
    · simp [n1, Ne.symm m01]
    · simp [n2, Ne.symm m02, Ne.symm m12]
    · simp [n3, Ne.symm m03, Ne.symm m13, Ne.symm m23]
/-- the law's run of the mini machine is all that is wanting -/
def tb_goal : Prop := ∀ (E : tb_env) (b L : Nat) (xs : Nat → Int32), L ≤ 2560 → E.2.1 b = some (L, xs) → tb_stat E → ∃ (f : Nat) (h : tb_heap) (nx : Nat), tb_run E f 11 tb_nLaw 0 [.ref b, .long 0, .long 0, .long 0] [] (fun _ => none) E.2.2 600000 7302250 = some (some (.int 1), h, nx)
set_option maxRecDepth 100000 in
theorem tb_lawcode : tb_by tb_nLaw = code := rfl
set_option maxRecDepth 100000 in
theorem tb_whole (hg : tb_goal) {p : Program} {e : Env} {s : State} {m : MethodId} {below : List Frame} {meth : Method} {c : Code} (l : Launch) {b L : Nat} {xs : Nat → Int32} (hL : L ≤ 2560) (C0 : lw_At p s m meth c b L xs) : W p l e room_1 s m #[Value.ref b] below meth c s.heap [] 0 0 (lw_Z below #[Value.ref b] s) (entryFrame m ([Value.ref b] : List Value).toArray 4) := by
  obtain ⟨D, dA, E, hbase, hEN, hsc, hst⟩ := tb_begin C0
  obtain ⟨hx, hb, hr, hml, hown, hts, hX, hbl, hlocks, hgv⟩ := C0
  obtain ⟨f, h, nx, hrun⟩ := hg E b L xs hL hsc hst
  have Ct : tb_Ctx D dA E p room_1 s m #[Value.ref b] meth c 11 tb_nLaw := ⟨hx, hb, hml, hown, fun w hw => hts w (List.mem_filter.mp hw).1, hlocks, fun hk => absurd hk (by decide), hEN, rfl, rfl⟩
  rw [lg_entry_eq]
  refine tb_simRun f 11 tb_nLaw 0 (tb_ent tb_nLaw [.ref b]) [] (fun _ => none) E.2.2 600000 7302250 _ hrun p e room_1 s m #[Value.ref b] below meth c _ Ct ?_ _ s.heap [] 0 0 (tb_LR.entry (t := tb_nLaw) (fun v hv => by rw [List.mem_singleton.mp hv]; rfl) (show 1 ≤ 4 by decide)) ⟨(fun a x hx => by cases hx), hbase.symm, Nat.le_refl _, va_S.rf⟩ (by show 0 + 600000 ≤ 600000; omega) (by show 0 + 7302250 ≤ 7302250; omega)
  intro pc lsR st H locs cells slots hre hI hc1 hc2
  refine va_forget (fun q hq => by rw [← hbase]; exact hI.2.2.2.2.2 q hq) ?_
  refine W.widen (k := 600000) (n := 7302250) hc1 hc2 ?_
  unfold tb_re at hre
  split at hre
  · rename_i hcd
    split at hre
    · split at hre
      · have hv := Option.some.inj hre
        cases hv
        have hd := tb_cd_ok hcd
        rw [tb_lawcode] at hd
        exact lw_ret hx hb hr hlocks hd
      · cases hre
    · cases hre
  · split at hre
    · split at hre
      · cases hre
      · cases hre
    · cases hre
  · cases hre
end
