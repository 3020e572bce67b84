section
-- ===== PART A: goes FIRST, ahead of the names: the tables' words, and 'selects' of the private methods out of them =====
/-- a private method of a class that the tables say can be made, by its rows of tables_1 -/
def lw_okq (q : MethodName × Nat) : Prop := (q.1.cls ≠ "java/lang/invoke/MethodHandle" ∧ q.1.cls ≠ "java/lang/invoke/VarHandle") ∧ Cond.instantiable q.1.cls q.2 ∈ tables_1 ∧ Cond.privateMethod q.1 ∈ tables_1 ∧ Cond.instanceMethod q.1 ∈ tables_1
theorem lw_p0 : lw_okq (⟨"TownAir", "isNoSerf", "(I)Z"⟩, 9) := ⟨⟨by decide +kernel, by decide +kernel⟩, List.mem_of_getElem? (i := 16) (by decide +kernel), List.mem_of_getElem? (i := 391) (by decide +kernel), List.mem_of_getElem? (i := 392) (by decide +kernel)⟩
theorem lw_p1 : lw_okq (⟨"TownAir", "isNoMan", "(I)Z"⟩, 9) := ⟨⟨by decide +kernel, by decide +kernel⟩, List.mem_of_getElem? (i := 16) (by decide +kernel), List.mem_of_getElem? (i := 403) (by decide +kernel), List.mem_of_getElem? (i := 404) (by decide +kernel)⟩
theorem lw_p2 : lw_okq (⟨"TownAir", "isNoQuarter", "(I)Z"⟩, 9) := ⟨⟨by decide +kernel, by decide +kernel⟩, List.mem_of_getElem? (i := 16) (by decide +kernel), List.mem_of_getElem? (i := 411) (by decide +kernel), List.mem_of_getElem? (i := 412) (by decide +kernel)⟩
theorem lw_p3 : lw_okq (⟨"TownAir", "daysToEnd", "(I)I"⟩, 9) := ⟨⟨by decide +kernel, by decide +kernel⟩, List.mem_of_getElem? (i := 16) (by decide +kernel), List.mem_of_getElem? (i := 505) (by decide +kernel), List.mem_of_getElem? (i := 506) (by decide +kernel)⟩
theorem lw_p4 : lw_okq (⟨"TownAir", "daysToFree", "(II)I"⟩, 9) := ⟨⟨by decide +kernel, by decide +kernel⟩, List.mem_of_getElem? (i := 16) (by decide +kernel), List.mem_of_getElem? (i := 514) (by decide +kernel), List.mem_of_getElem? (i := 515) (by decide +kernel)⟩
theorem lw_p5 : lw_okq (⟨"TownAir", "takenWithOneMore", "(III)I"⟩, 9) := ⟨⟨by decide +kernel, by decide +kernel⟩, List.mem_of_getElem? (i := 16) (by decide +kernel), List.mem_of_getElem? (i := 555) (by decide +kernel), List.mem_of_getElem? (i := 556) (by decide +kernel)⟩
theorem lw_p6 : lw_okq (⟨"TownAir", "couldBeOf", "(II)Z"⟩, 9) := ⟨⟨by decide +kernel, by decide +kernel⟩, List.mem_of_getElem? (i := 16) (by decide +kernel), List.mem_of_getElem? (i := 592) (by decide +kernel), List.mem_of_getElem? (i := 593) (by decide +kernel)⟩
theorem lw_p7 : lw_okq (⟨"TownAir", "freeBehind", "(I)I"⟩, 9) := ⟨⟨by decide +kernel, by decide +kernel⟩, List.mem_of_getElem? (i := 16) (by decide +kernel), List.mem_of_getElem? (i := 604) (by decide +kernel), List.mem_of_getElem? (i := 605) (by decide +kernel)⟩
theorem lw_p8 : lw_okq (⟨"TownAir", "actByDraw", "(I)V"⟩, 9) := ⟨⟨by decide +kernel, by decide +kernel⟩, List.mem_of_getElem? (i := 16) (by decide +kernel), List.mem_of_getElem? (i := 629) (by decide +kernel), List.mem_of_getElem? (i := 630) (by decide +kernel)⟩
theorem lw_p9 : lw_okq (⟨"TownAirModel", "serfIs", "(IIII)V"⟩, 21) := ⟨⟨by decide +kernel, by decide +kernel⟩, List.mem_of_getElem? (i := 646) (by decide +kernel), List.mem_of_getElem? (i := 652) (by decide +kernel), List.mem_of_getElem? (i := 653) (by decide +kernel)⟩
theorem lw_p10 : lw_okq (⟨"TownAirModel", "firstDay", "()V"⟩, 21) := ⟨⟨by decide +kernel, by decide +kernel⟩, List.mem_of_getElem? (i := 646) (by decide +kernel), List.mem_of_getElem? (i := 656) (by decide +kernel), List.mem_of_getElem? (i := 657) (by decide +kernel)⟩
theorem lw_p11 : lw_okq (⟨"TownAirModel", "item", "()Z"⟩, 21) := ⟨⟨by decide +kernel, by decide +kernel⟩, List.mem_of_getElem? (i := 646) (by decide +kernel), List.mem_of_getElem? (i := 742) (by decide +kernel), List.mem_of_getElem? (i := 743) (by decide +kernel)⟩
theorem lw_p12 : lw_okq (⟨"TownAirModel", "readOne", "(III)Z"⟩, 21) := ⟨⟨by decide +kernel, by decide +kernel⟩, List.mem_of_getElem? (i := 646) (by decide +kernel), List.mem_of_getElem? (i := 746) (by decide +kernel), List.mem_of_getElem? (i := 747) (by decide +kernel)⟩
theorem lw_p13 : lw_okq (⟨"TownAirModel", "number", "(III)Z"⟩, 21) := ⟨⟨by decide +kernel, by decide +kernel⟩, List.mem_of_getElem? (i := 646) (by decide +kernel), List.mem_of_getElem? (i := 750) (by decide +kernel), List.mem_of_getElem? (i := 751) (by decide +kernel)⟩
theorem lw_p14 : lw_okq (⟨"TownAirModel", "isFigure", "()Z"⟩, 21) := ⟨⟨by decide +kernel, by decide +kernel⟩, List.mem_of_getElem? (i := 646) (by decide +kernel), List.mem_of_getElem? (i := 754) (by decide +kernel), List.mem_of_getElem? (i := 755) (by decide +kernel)⟩
theorem lw_p15 : lw_okq (⟨"TownAirModel", "readSerf", "()Z"⟩, 21) := ⟨⟨by decide +kernel, by decide +kernel⟩, List.mem_of_getElem? (i := 646) (by decide +kernel), List.mem_of_getElem? (i := 760) (by decide +kernel), List.mem_of_getElem? (i := 761) (by decide +kernel)⟩
def lw_privs_1 : List (MethodName × Nat) := [(⟨"TownAir", "isNoSerf", "(I)Z"⟩, 9), (⟨"TownAir", "isNoMan", "(I)Z"⟩, 9), (⟨"TownAir", "isNoQuarter", "(I)Z"⟩, 9), (⟨"TownAir", "daysToEnd", "(I)I"⟩, 9), (⟨"TownAir", "daysToFree", "(II)I"⟩, 9), (⟨"TownAir", "takenWithOneMore", "(III)I"⟩, 9), (⟨"TownAir", "couldBeOf", "(II)Z"⟩, 9), (⟨"TownAir", "freeBehind", "(I)I"⟩, 9), (⟨"TownAir", "actByDraw", "(I)V"⟩, 9), (⟨"TownAirModel", "serfIs", "(IIII)V"⟩, 21), (⟨"TownAirModel", "firstDay", "()V"⟩, 21), (⟨"TownAirModel", "item", "()Z"⟩, 21), (⟨"TownAirModel", "readOne", "(III)Z"⟩, 21), (⟨"TownAirModel", "number", "(III)Z"⟩, 21), (⟨"TownAirModel", "isFigure", "()Z"⟩, 21), (⟨"TownAirModel", "readSerf", "()Z"⟩, 21)]
theorem lw_r1 : ∀ q ∈ lw_privs_1, lw_okq q := List.forall_mem_cons.mpr ⟨lw_p0, List.forall_mem_cons.mpr ⟨lw_p1, List.forall_mem_cons.mpr ⟨lw_p2, List.forall_mem_cons.mpr ⟨lw_p3, List.forall_mem_cons.mpr ⟨lw_p4, List.forall_mem_cons.mpr ⟨lw_p5, List.forall_mem_cons.mpr ⟨lw_p6, List.forall_mem_cons.mpr ⟨lw_p7, List.forall_mem_cons.mpr ⟨lw_p8, List.forall_mem_cons.mpr ⟨lw_p9, List.forall_mem_cons.mpr ⟨lw_p10, List.forall_mem_cons.mpr ⟨lw_p11, List.forall_mem_cons.mpr ⟨lw_p12, List.forall_mem_cons.mpr ⟨lw_p13, List.forall_mem_cons.mpr ⟨lw_p14, List.forall_mem_cons.mpr ⟨lw_p15, fun _ h => absurd h List.not_mem_nil⟩⟩⟩⟩⟩⟩⟩⟩⟩⟩⟩⟩⟩⟩⟩⟩
theorem lw_p16 : lw_okq (⟨"TownAirModel", "readMan", "()Z"⟩, 21) := ⟨⟨by decide +kernel, by decide +kernel⟩, List.mem_of_getElem? (i := 646) (by decide +kernel), List.mem_of_getElem? (i := 764) (by decide +kernel), List.mem_of_getElem? (i := 765) (by decide +kernel)⟩
theorem lw_p17 : lw_okq (⟨"TownAirModel", "readNotch", "()Z"⟩, 21) := ⟨⟨by decide +kernel, by decide +kernel⟩, List.mem_of_getElem? (i := 646) (by decide +kernel), List.mem_of_getElem? (i := 768) (by decide +kernel), List.mem_of_getElem? (i := 769) (by decide +kernel)⟩
theorem lw_p18 : lw_okq (⟨"TownAirModel", "isSerf", "(I)Z"⟩, 21) := ⟨⟨by decide +kernel, by decide +kernel⟩, List.mem_of_getElem? (i := 646) (by decide +kernel), List.mem_of_getElem? (i := 781) (by decide +kernel), List.mem_of_getElem? (i := 782) (by decide +kernel)⟩
theorem lw_p19 : lw_okq (⟨"TownAirModel", "how", "(I)I"⟩, 21) := ⟨⟨by decide +kernel, by decide +kernel⟩, List.mem_of_getElem? (i := 646) (by decide +kernel), List.mem_of_getElem? (i := 786) (by decide +kernel), List.mem_of_getElem? (i := 787) (by decide +kernel)⟩
theorem lw_p20 : lw_okq (⟨"TownAirModel", "quarter", "(I)I"⟩, 21) := ⟨⟨by decide +kernel, by decide +kernel⟩, List.mem_of_getElem? (i := 646) (by decide +kernel), List.mem_of_getElem? (i := 790) (by decide +kernel), List.mem_of_getElem? (i := 791) (by decide +kernel)⟩
theorem lw_p21 : lw_okq (⟨"TownAirModel", "stayed", "(I)I"⟩, 21) := ⟨⟨by decide +kernel, by decide +kernel⟩, List.mem_of_getElem? (i := 646) (by decide +kernel), List.mem_of_getElem? (i := 794) (by decide +kernel), List.mem_of_getElem? (i := 795) (by decide +kernel)⟩
theorem lw_p22 : lw_okq (⟨"TownAirModel", "met", "(I)I"⟩, 21) := ⟨⟨by decide +kernel, by decide +kernel⟩, List.mem_of_getElem? (i := 646) (by decide +kernel), List.mem_of_getElem? (i := 798) (by decide +kernel), List.mem_of_getElem? (i := 799) (by decide +kernel)⟩
theorem lw_p23 : lw_okq (⟨"TownAirModel", "lord", "(I)I"⟩, 21) := ⟨⟨by decide +kernel, by decide +kernel⟩, List.mem_of_getElem? (i := 646) (by decide +kernel), List.mem_of_getElem? (i := 802) (by decide +kernel), List.mem_of_getElem? (i := 803) (by decide +kernel)⟩
theorem lw_p24 : lw_okq (⟨"TownAirModel", "men", "(II)I"⟩, 21) := ⟨⟨by decide +kernel, by decide +kernel⟩, List.mem_of_getElem? (i := 646) (by decide +kernel), List.mem_of_getElem? (i := 806) (by decide +kernel), List.mem_of_getElem? (i := 807) (by decide +kernel)⟩
theorem lw_p25 : lw_okq (⟨"TownAirModel", "isMan", "(I)Z"⟩, 21) := ⟨⟨by decide +kernel, by decide +kernel⟩, List.mem_of_getElem? (i := 646) (by decide +kernel), List.mem_of_getElem? (i := 814) (by decide +kernel), List.mem_of_getElem? (i := 815) (by decide +kernel)⟩
theorem lw_p26 : lw_okq (⟨"TownAirModel", "isQuarter", "(I)Z"⟩, 21) := ⟨⟨by decide +kernel, by decide +kernel⟩, List.mem_of_getElem? (i := 646) (by decide +kernel), List.mem_of_getElem? (i := 823) (by decide +kernel), List.mem_of_getElem? (i := 824) (by decide +kernel)⟩
theorem lw_p27 : lw_okq (⟨"TownAirModel", "notes", "()V"⟩, 21) := ⟨⟨by decide +kernel, by decide +kernel⟩, List.mem_of_getElem? (i := 646) (by decide +kernel), List.mem_of_getElem? (i := 827) (by decide +kernel), List.mem_of_getElem? (i := 828) (by decide +kernel)⟩
theorem lw_p28 : lw_okq (⟨"TownAirModel", "moves", "(II)V"⟩, 21) := ⟨⟨by decide +kernel, by decide +kernel⟩, List.mem_of_getElem? (i := 646) (by decide +kernel), List.mem_of_getElem? (i := 831) (by decide +kernel), List.mem_of_getElem? (i := 832) (by decide +kernel)⟩
theorem lw_p29 : lw_okq (⟨"TownAirModel", "leaves", "(I)V"⟩, 21) := ⟨⟨by decide +kernel, by decide +kernel⟩, List.mem_of_getElem? (i := 646) (by decide +kernel), List.mem_of_getElem? (i := 839) (by decide +kernel), List.mem_of_getElem? (i := 840) (by decide +kernel)⟩
theorem lw_p30 : lw_okq (⟨"TownAirModel", "many", "(I)I"⟩, 21) := ⟨⟨by decide +kernel, by decide +kernel⟩, List.mem_of_getElem? (i := 646) (by decide +kernel), List.mem_of_getElem? (i := 852) (by decide +kernel), List.mem_of_getElem? (i := 853) (by decide +kernel)⟩
theorem lw_p31 : lw_okq (⟨"TownAirModel", "goesOn", "(I)V"⟩, 21) := ⟨⟨by decide +kernel, by decide +kernel⟩, List.mem_of_getElem? (i := 646) (by decide +kernel), List.mem_of_getElem? (i := 856) (by decide +kernel), List.mem_of_getElem? (i := 857) (by decide +kernel)⟩
def lw_privs_2 : List (MethodName × Nat) := [(⟨"TownAirModel", "readMan", "()Z"⟩, 21), (⟨"TownAirModel", "readNotch", "()Z"⟩, 21), (⟨"TownAirModel", "isSerf", "(I)Z"⟩, 21), (⟨"TownAirModel", "how", "(I)I"⟩, 21), (⟨"TownAirModel", "quarter", "(I)I"⟩, 21), (⟨"TownAirModel", "stayed", "(I)I"⟩, 21), (⟨"TownAirModel", "met", "(I)I"⟩, 21), (⟨"TownAirModel", "lord", "(I)I"⟩, 21), (⟨"TownAirModel", "men", "(II)I"⟩, 21), (⟨"TownAirModel", "isMan", "(I)Z"⟩, 21), (⟨"TownAirModel", "isQuarter", "(I)Z"⟩, 21), (⟨"TownAirModel", "notes", "()V"⟩, 21), (⟨"TownAirModel", "moves", "(II)V"⟩, 21), (⟨"TownAirModel", "leaves", "(I)V"⟩, 21), (⟨"TownAirModel", "many", "(I)I"⟩, 21), (⟨"TownAirModel", "goesOn", "(I)V"⟩, 21)]
theorem lw_r2 : ∀ q ∈ lw_privs_2, lw_okq q := List.forall_mem_cons.mpr ⟨lw_p16, List.forall_mem_cons.mpr ⟨lw_p17, List.forall_mem_cons.mpr ⟨lw_p18, List.forall_mem_cons.mpr ⟨lw_p19, List.forall_mem_cons.mpr ⟨lw_p20, List.forall_mem_cons.mpr ⟨lw_p21, List.forall_mem_cons.mpr ⟨lw_p22, List.forall_mem_cons.mpr ⟨lw_p23, List.forall_mem_cons.mpr ⟨lw_p24, List.forall_mem_cons.mpr ⟨lw_p25, List.forall_mem_cons.mpr ⟨lw_p26, List.forall_mem_cons.mpr ⟨lw_p27, List.forall_mem_cons.mpr ⟨lw_p28, List.forall_mem_cons.mpr ⟨lw_p29, List.forall_mem_cons.mpr ⟨lw_p30, List.forall_mem_cons.mpr ⟨lw_p31, fun _ h => absurd h List.not_mem_nil⟩⟩⟩⟩⟩⟩⟩⟩⟩⟩⟩⟩⟩⟩⟩⟩
theorem lw_p32 : lw_okq (⟨"TownAirModel", "goesBy", "()V"⟩, 21) := ⟨⟨by decide +kernel, by decide +kernel⟩, List.mem_of_getElem? (i := 646) (by decide +kernel), List.mem_of_getElem? (i := 860) (by decide +kernel), List.mem_of_getElem? (i := 861) (by decide +kernel)⟩
theorem lw_p33 : lw_okq (⟨"TownAirModel", "isMet", "(II)Z"⟩, 21) := ⟨⟨by decide +kernel, by decide +kernel⟩, List.mem_of_getElem? (i := 646) (by decide +kernel), List.mem_of_getElem? (i := 864) (by decide +kernel), List.mem_of_getElem? (i := 865) (by decide +kernel)⟩
theorem lw_p34 : lw_okq (⟨"TownAirModel", "kind", "(I)I"⟩, 21) := ⟨⟨by decide +kernel, by decide +kernel⟩, List.mem_of_getElem? (i := 646) (by decide +kernel), List.mem_of_getElem? (i := 868) (by decide +kernel), List.mem_of_getElem? (i := 869) (by decide +kernel)⟩
theorem lw_p35 : lw_okq (⟨"TownAirModel", "menGoOn", "()V"⟩, 21) := ⟨⟨by decide +kernel, by decide +kernel⟩, List.mem_of_getElem? (i := 646) (by decide +kernel), List.mem_of_getElem? (i := 872) (by decide +kernel), List.mem_of_getElem? (i := 873) (by decide +kernel)⟩
theorem lw_p36 : lw_okq (⟨"TownAirModel", "asides", "()V"⟩, 21) := ⟨⟨by decide +kernel, by decide +kernel⟩, List.mem_of_getElem? (i := 646) (by decide +kernel), List.mem_of_getElem? (i := 885) (by decide +kernel), List.mem_of_getElem? (i := 886) (by decide +kernel)⟩
theorem lw_p37 : lw_okq (⟨"TownAirModel", "backs", "()V"⟩, 21) := ⟨⟨by decide +kernel, by decide +kernel⟩, List.mem_of_getElem? (i := 646) (by decide +kernel), List.mem_of_getElem? (i := 889) (by decide +kernel), List.mem_of_getElem? (i := 890) (by decide +kernel)⟩
theorem lw_p38 : lw_okq (⟨"TownAirModel", "freeBehind", "(I)I"⟩, 21) := ⟨⟨by decide +kernel, by decide +kernel⟩, List.mem_of_getElem? (i := 646) (by decide +kernel), List.mem_of_getElem? (i := 901) (by decide +kernel), List.mem_of_getElem? (i := 902) (by decide +kernel)⟩
theorem lw_p39 : lw_okq (⟨"TownAirModel", "ways", "(II)V"⟩, 21) := ⟨⟨by decide +kernel, by decide +kernel⟩, List.mem_of_getElem? (i := 646) (by decide +kernel), List.mem_of_getElem? (i := 909) (by decide +kernel), List.mem_of_getElem? (i := 910) (by decide +kernel)⟩
theorem lw_p40 : lw_okq (⟨"TownAirModel", "gapOf", "(III)I"⟩, 21) := ⟨⟨by decide +kernel, by decide +kernel⟩, List.mem_of_getElem? (i := 646) (by decide +kernel), List.mem_of_getElem? (i := 924) (by decide +kernel), List.mem_of_getElem? (i := 925) (by decide +kernel)⟩
theorem lw_p41 : lw_okq (⟨"TownAirModel", "isProved", "(II)Z"⟩, 21) := ⟨⟨by decide +kernel, by decide +kernel⟩, List.mem_of_getElem? (i := 646) (by decide +kernel), List.mem_of_getElem? (i := 928) (by decide +kernel), List.mem_of_getElem? (i := 929) (by decide +kernel)⟩
theorem lw_p42 : lw_okq (⟨"TownAirModel", "isSo", "(I)Z"⟩, 21) := ⟨⟨by decide +kernel, by decide +kernel⟩, List.mem_of_getElem? (i := 646) (by decide +kernel), List.mem_of_getElem? (i := 949) (by decide +kernel), List.mem_of_getElem? (i := 950) (by decide +kernel)⟩
theorem lw_p43 : lw_okq (⟨"TownAirModel", "freeSet", "(I)I"⟩, 21) := ⟨⟨by decide +kernel, by decide +kernel⟩, List.mem_of_getElem? (i := 646) (by decide +kernel), List.mem_of_getElem? (i := 957) (by decide +kernel), List.mem_of_getElem? (i := 958) (by decide +kernel)⟩
def lw_privs_3 : List (MethodName × Nat) := [(⟨"TownAirModel", "goesBy", "()V"⟩, 21), (⟨"TownAirModel", "isMet", "(II)Z"⟩, 21), (⟨"TownAirModel", "kind", "(I)I"⟩, 21), (⟨"TownAirModel", "menGoOn", "()V"⟩, 21), (⟨"TownAirModel", "asides", "()V"⟩, 21), (⟨"TownAirModel", "backs", "()V"⟩, 21), (⟨"TownAirModel", "freeBehind", "(I)I"⟩, 21), (⟨"TownAirModel", "ways", "(II)V"⟩, 21), (⟨"TownAirModel", "gapOf", "(III)I"⟩, 21), (⟨"TownAirModel", "isProved", "(II)Z"⟩, 21), (⟨"TownAirModel", "isSo", "(I)Z"⟩, 21), (⟨"TownAirModel", "freeSet", "(I)I"⟩, 21)]
theorem lw_r3 : ∀ q ∈ lw_privs_3, lw_okq q := List.forall_mem_cons.mpr ⟨lw_p32, List.forall_mem_cons.mpr ⟨lw_p33, List.forall_mem_cons.mpr ⟨lw_p34, List.forall_mem_cons.mpr ⟨lw_p35, List.forall_mem_cons.mpr ⟨lw_p36, List.forall_mem_cons.mpr ⟨lw_p37, List.forall_mem_cons.mpr ⟨lw_p38, List.forall_mem_cons.mpr ⟨lw_p39, List.forall_mem_cons.mpr ⟨lw_p40, List.forall_mem_cons.mpr ⟨lw_p41, List.forall_mem_cons.mpr ⟨lw_p42, List.forall_mem_cons.mpr ⟨lw_p43, fun _ h => absurd h List.not_mem_nil⟩⟩⟩⟩⟩⟩⟩⟩⟩⟩⟩⟩
def lw_privs : List (MethodName × Nat) := lw_privs_1 ++ (lw_privs_2 ++ (lw_privs_3))
def lw_tbl : List Cond := k2_sels lw_privs ++ tables_1
theorem lw_privs_ok : ∀ q ∈ lw_privs, lw_okq q := by
  show ∀ q ∈ lw_privs_1 ++ (lw_privs_2 ++ (lw_privs_3)), lw_okq q
  exact List.forall_mem_append.mpr ⟨lw_r1, List.forall_mem_append.mpr ⟨lw_r2, lw_r3⟩⟩
end
section
def RX0 : String := "TownAir$Pile"
def TX0 : u_T := fun k => match k with
  | 0 => ("TownAir$Pile", "standings", "[LTownAir$Standing;", true)
  | _ => ("TownAir$Pile", "size", "I", false)
def tyX0 : Nat → FieldType := fun k => match k with
  | 0 => .array (.object "TownAir$Standing")
  | _ => .int
theorem nmX0 : ∀ a, a < 2 → ∀ b, b < 2 → a ≠ b → (TX0 a).2.1 ≠ (TX0 b).2.1 := by decide +kernel
theorem tyX0_ok : ∀ k, k < 2 → parseFieldDescriptor (TX0 k).2.2.1 = some (tyX0 k) := by decide +kernel
def RX1 : String := "TownAir$Sights"
def TX1 : u_T := fun k => match k with
  | 0 => ("TownAir$Sights", "serfSeen", "[I", true)
  | 1 => ("TownAir$Sights", "daySeen", "[I", true)
  | 2 => ("TownAir$Sights", "howSeen", "[I", true)
  | _ => ("TownAir$Sights", "size", "I", false)
def tyX1 : Nat → FieldType := fun k => match k with
  | 0 => .array .int
  | 1 => .array .int
  | 2 => .array .int
  | _ => .int
theorem nmX1 : ∀ a, a < 4 → ∀ b, b < 4 → a ≠ b → (TX1 a).2.1 ≠ (TX1 b).2.1 := by decide +kernel
theorem tyX1_ok : ∀ k, k < 4 → parseFieldDescriptor (TX1 k).2.2.1 = some (tyX1 k) := by decide +kernel
def RX2 : String := "TownAir$Standing"
def TX2 : u_T := fun k => match k with
  | 0 => ("TownAir$Standing", "days", "I", false)
  | 1 => ("TownAir$Standing", "how", "[I", true)
  | 2 => ("TownAir$Standing", "quarter", "[I", true)
  | 3 => ("TownAir$Standing", "stayed", "[I", true)
  | 4 => ("TownAir$Standing", "met", "[I", true)
  | _ => ("TownAir$Standing", "post", "[I", true)
def tyX2 : Nat → FieldType := fun k => match k with
  | 0 => .int
  | 1 => .array .int
  | 2 => .array .int
  | 3 => .array .int
  | 4 => .array .int
  | _ => .array .int
theorem nmX2 : ∀ a, a < 6 → ∀ b, b < 6 → a ≠ b → (TX2 a).2.1 ≠ (TX2 b).2.1 := by decide +kernel
theorem tyX2_ok : ∀ k, k < 6 → parseFieldDescriptor (TX2 k).2.2.1 = some (tyX2 k) := by decide +kernel
def RX3 : String := "TownAir$Text"
def TX3 : u_T := fun k => match k with
  | 0 => ("TownAir$Text", "letters", "[C", true)
  | 1 => ("TownAir$Text", "length", "I", false)
  | 2 => ("TownAir$Text", "number", "[I", true)
  | _ => ("TownAir$Text", "numbers", "I", false)
def tyX3 : Nat → FieldType := fun k => match k with
  | 0 => .array .char
  | 1 => .int
  | 2 => .array .int
  | _ => .int
theorem nmX3 : ∀ a, a < 4 → ∀ b, b < 4 → a ≠ b → (TX3 a).2.1 ≠ (TX3 b).2.1 := by decide +kernel
theorem tyX3_ok : ∀ k, k < 4 → parseFieldDescriptor (TX3 k).2.2.1 = some (tyX3 k) := by decide +kernel
def RX4 : String := "TownAir$Told"
def TX4 : u_T := fun k => match k with
  | 0 => ("TownAir$Told", "wanted", "I", false)
  | 1 => ("TownAir$Told", "quarters", "I", false)
  | 2 => ("TownAir$Told", "guilds", "I", false)
  | 3 => ("TownAir$Told", "serfs", "I", false)
  | 4 => ("TownAir$Told", "kind", "[I", true)
  | 5 => ("TownAir$Told", "lord", "[I", true)
  | 6 => ("TownAir$Told", "home", "[I", true)
  | 7 => ("TownAir$Told", "men", "I", false)
  | 8 => ("TownAir$Told", "master", "[I", true)
  | 9 => ("TownAir$Told", "post", "[I", true)
  | 10 => ("TownAir$Told", "step", "[I", true)
  | 11 => ("TownAir$Told", "notches", "I", false)
  | 12 => ("TownAir$Told", "from", "[I", true)
  | _ => ("TownAir$Told", "to", "[I", true)
def tyX4 : Nat → FieldType := fun k => match k with
  | 0 => .int
  | 1 => .int
  | 2 => .int
  | 3 => .int
  | 4 => .array .int
  | 5 => .array .int
  | 6 => .array .int
  | 7 => .int
  | 8 => .array .int
  | 9 => .array .int
  | 10 => .array .int
  | 11 => .int
  | 12 => .array .int
  | _ => .array .int
theorem nmX4 : ∀ a, a < 14 → ∀ b, b < 14 → a ≠ b → (TX4 a).2.1 ≠ (TX4 b).2.1 := by decide +kernel
theorem tyX4_ok : ∀ k, k < 14 → parseFieldDescriptor (TX4 k).2.2.1 = some (tyX4 k) := by decide +kernel
def RX5 : String := "TownAir$Ways"
def TX5 : u_T := fun k => match k with
  | 0 => ("TownAir$Ways", "lacks", "I", false)
  | 1 => ("TownAir$Ways", "spare", "I", false)
  | 2 => ("TownAir$Ways", "found", "[I", true)
  | _ => ("TownAir$Ways", "good", "[[I", true)
def tyX5 : Nat → FieldType := fun k => match k with
  | 0 => .int
  | 1 => .int
  | 2 => .array .int
  | _ => .array (.array .int)
theorem nmX5 : ∀ a, a < 4 → ∀ b, b < 4 → a ≠ b → (TX5 a).2.1 ≠ (TX5 b).2.1 := by decide +kernel
theorem tyX5_ok : ∀ k, k < 4 → parseFieldDescriptor (TX5 k).2.2.1 = some (tyX5 k) := by decide +kernel
def RX6 : String := "TownAir"
def TX6 : u_T := fun k => match k with
  | 0 => ("TownAir", "text", "LTownAir$Text;", true)
  | 1 => ("TownAir", "laid", "LTownAir$Told;", true)
  | 2 => ("TownAir", "supposed", "LTownAir$Told;", true)
  | 3 => ("TownAir", "now", "LTownAir$Standing;", true)
  | 4 => ("TownAir", "then", "LTownAir$Standing;", true)
  | 5 => ("TownAir", "undoable", "LTownAir$Pile;", true)
  | 6 => ("TownAir", "kept", "LTownAir$Pile;", true)
  | 7 => ("TownAir", "sights", "LTownAir$Sights;", true)
  | _ => ("TownAir", "ways", "LTownAir$Ways;", true)
def tyX6 : Nat → FieldType := fun k => match k with
  | 0 => .object "TownAir$Text"
  | 1 => .object "TownAir$Told"
  | 2 => .object "TownAir$Told"
  | 3 => .object "TownAir$Standing"
  | 4 => .object "TownAir$Standing"
  | 5 => .object "TownAir$Pile"
  | 6 => .object "TownAir$Pile"
  | 7 => .object "TownAir$Sights"
  | _ => .object "TownAir$Ways"
theorem nmX6 : ∀ a, a < 9 → ∀ b, b < 9 → a ≠ b → (TX6 a).2.1 ≠ (TX6 b).2.1 := by decide +kernel
theorem tyX6_ok : ∀ k, k < 9 → parseFieldDescriptor (TX6 k).2.2.1 = some (tyX6 k) := by decide +kernel
def RX7 : String := "TownAirModel"
def TX7 : u_T := fun k => match k with
  | 0 => ("TownAirModel", "told", "[I", true)
  | 1 => ("TownAirModel", "now", "[I", true)
  | 2 => ("TownAirModel", "more", "I", false)
  | 3 => ("TownAirModel", "changed", "I", false)
  | 4 => ("TownAirModel", "changedLord", "I", false)
  | 5 => ("TownAirModel", "extra", "I", false)
  | 6 => ("TownAirModel", "extraBy", "I", false)
  | 7 => ("TownAirModel", "text", "[I", true)
  | 8 => ("TownAirModel", "letters", "I", false)
  | 9 => ("TownAirModel", "at", "I", false)
  | 10 => ("TownAirModel", "read", "[I", true)
  | 11 => ("TownAirModel", "isMore", "Z", false)
  | 12 => ("TownAirModel", "figure", "I", false)
  | 13 => ("TownAirModel", "undone", "[I", true)
  | 14 => ("TownAirModel", "undos", "I", false)
  | 15 => ("TownAirModel", "aside", "[I", true)
  | 16 => ("TownAirModel", "can", "[Z", true)
  | 17 => ("TownAirModel", "seen", "[I", true)
  | 18 => ("TownAirModel", "seens", "I", false)
  | 19 => ("TownAirModel", "kept", "[I", true)
  | _ => ("TownAirModel", "keeps", "I", false)
def tyX7 : Nat → FieldType := fun k => match k with
  | 0 => .array .int
  | 1 => .array .int
  | 2 => .int
  | 3 => .int
  | 4 => .int
  | 5 => .int
  | 6 => .int
  | 7 => .array .int
  | 8 => .int
  | 9 => .int
  | 10 => .array .int
  | 11 => .boolean
  | 12 => .int
  | 13 => .array .int
  | 14 => .int
  | 15 => .array .int
  | 16 => .array .boolean
  | 17 => .array .int
  | 18 => .int
  | 19 => .array .int
  | _ => .int
theorem nmX7 : ∀ a, a < 21 → ∀ b, b < 21 → a ≠ b → (TX7 a).2.1 ≠ (TX7 b).2.1 := by decide +kernel
theorem tyX7_ok : ∀ k, k < 21 → parseFieldDescriptor (TX7 k).2.2.1 = some (tyX7 k) := by decide +kernel
abbrev xa_cl : List vw_C := [(RX0, TX0, 2), (RX1, TX1, 4), (RX2, TX2, 6), (RX3, TX3, 4), (RX4, TX4, 14), (RX5, TX5, 4), (RX6, TX6, 9), (RX7, TX7, 21)]
def yX0_init : MethodName := ⟨RX0, "<init>", "(I)V"⟩
def yX0_put : MethodName := ⟨RX0, "put", "(LTownAir$Standing;)V"⟩
def yX0_loseLowest : MethodName := ⟨RX0, "loseLowest", "()V"⟩
def yX0_takeInto : MethodName := ⟨RX0, "takeInto", "(LTownAir$Standing;)V"⟩
def yX1_init : MethodName := ⟨RX1, "<init>", "()V"⟩
def yX1_add : MethodName := ⟨RX1, "add", "(III)Z"⟩
def yX1_deny : MethodName := ⟨RX1, "deny", "(III)Z"⟩
def yX2_init : MethodName := ⟨RX2, "<init>", "()V"⟩
def yX2_begin : MethodName := ⟨RX2, "begin", "(LTownAir$Told;)V"⟩
def yX2_copy : MethodName := ⟨RX2, "copy", "(LTownAir$Standing;)V"⟩
def yX2_isOver : MethodName := ⟨RX2, "isOver", "(I)Z"⟩
def yX2_livesIn : MethodName := ⟨RX2, "livesIn", "(II)Z"⟩
def yX2_settle : MethodName := ⟨RX2, "settle", "(II)V"⟩
def yX2_goOut : MethodName := ⟨RX2, "goOut", "(I)V"⟩
def yX2_howMany : MethodName := ⟨RX2, "howMany", "(LTownAir$Told;I)I"⟩
def yX2_menIn : MethodName := ⟨RX2, "menIn", "(LTownAir$Told;II)I"⟩
def yX2_isFoundIn : MethodName := ⟨RX2, "isFoundIn", "(LTownAir$Told;II)Z"⟩
def yX2_goDays : MethodName := ⟨RX2, "goDays", "(LTownAir$Told;I)V"⟩
def yX2_goDay : MethodName := ⟨RX2, "goDay", "(LTownAir$Told;)V"⟩
def yX2_menGoOn : MethodName := ⟨RX2, "menGoOn", "(LTownAir$Told;)V"⟩
def yX2_stayOrBeTaken : MethodName := ⟨RX2, "stayOrBeTaken", "(LTownAir$Told;I)V"⟩
def yX3_init : MethodName := ⟨RX3, "<init>", "()V"⟩
def yX3_add : MethodName := ⟨RX3, "add", "(C)Z"⟩
def yX3_readInto : MethodName := ⟨RX3, "readInto", "(LTownAir$Told;)I"⟩
def yX3_readNumbers : MethodName := ⟨RX3, "readNumbers", "(I)I"⟩
def yX3_figuresAt : MethodName := ⟨RX3, "figuresAt", "(I)I"⟩
def yX3_isFigure : MethodName := ⟨RX3, "isFigure", "(I)Z"⟩
def yX3_valueOf : MethodName := ⟨RX3, "valueOf", "(II)I"⟩
def yX4_init : MethodName := ⟨RX4, "<init>", "()V"⟩
def yX4_clear : MethodName := ⟨RX4, "clear", "()V"⟩
def yX4_copy : MethodName := ⟨RX4, "copy", "(LTownAir$Told;)V"⟩
def yX4_accepts : MethodName := ⟨RX4, "accepts", "(I[II)Z"⟩
def yX4_acceptsWanted : MethodName := ⟨RX4, "acceptsWanted", "(I)Z"⟩
def yX4_acceptsQuarters : MethodName := ⟨RX4, "acceptsQuarters", "(I)Z"⟩
def yX4_acceptsGuild : MethodName := ⟨RX4, "acceptsGuild", "(I)Z"⟩
def yX4_acceptsSerf : MethodName := ⟨RX4, "acceptsSerf", "(III)Z"⟩
def yX4_acceptsMan : MethodName := ⟨RX4, "acceptsMan", "(III)Z"⟩
def yX4_addMan : MethodName := ⟨RX4, "addMan", "(III)V"⟩
def yX4_acceptsNotch : MethodName := ⟨RX4, "acceptsNotch", "(II)Z"⟩
def yX4_hasGuild : MethodName := ⟨RX4, "hasGuild", "(I)Z"⟩
def yX4_onRing : MethodName := ⟨RX4, "onRing", "(I)I"⟩
def yX4_areNext : MethodName := ⟨RX4, "areNext", "(II)Z"⟩
def yX4_provedFrom : MethodName := ⟨RX4, "provedFrom", "(I)I"⟩
def yX5_init : MethodName := ⟨RX5, "<init>", "()V"⟩
def yX5_look : MethodName := ⟨RX5, "look", "(LTownAir$Told;LTownAir$Standing;I)V"⟩
def yX5_bitsFound : MethodName := ⟨RX5, "bitsFound", "(LTownAir$Told;LTownAir$Standing;I)I"⟩
def yX5_bitsReaching : MethodName := ⟨RX5, "bitsReaching", "(LTownAir$Told;I)I"⟩
def yX5_lowestNear : MethodName := ⟨RX5, "lowestNear", "(LTownAir$Told;II)I"⟩
def yX5_quarterOn : MethodName := ⟨RX5, "quarterOn", "(LTownAir$Told;II)I"⟩
def yX6_init : MethodName := ⟨RX6, "<init>", "()V"⟩
def yX6_write : MethodName := ⟨RX6, "write", "(I)I"⟩
def yX6_wipe : MethodName := ⟨RX6, "wipe", "()I"⟩
def yX6_fault : MethodName := ⟨RX6, "fault", "()I"⟩
def yX6_lay : MethodName := ⟨RX6, "lay", "()I"⟩
def yX6_serf : MethodName := ⟨RX6, "serf", "(II)I"⟩
def yX6_man : MethodName := ⟨RX6, "man", "(II)I"⟩
def yX6_move : MethodName := ⟨RX6, "move", "(II)I"⟩
def yX6_leave : MethodName := ⟨RX6, "leave", "(I)I"⟩
def yX6_send : MethodName := ⟨RX6, "send", "(II)I"⟩
def yX6_pass : MethodName := ⟨RX6, "pass", "(I)I"⟩
def yX6_undo : MethodName := ⟨RX6, "undo", "()I"⟩
def yX6_behind : MethodName := ⟨RX6, "behind", "(III)I"⟩
def yX6_ends : MethodName := ⟨RX6, "ends", "(I)I"⟩
def yX6_live : MethodName := ⟨RX6, "live", "(II)I"⟩
def yX6_way : MethodName := ⟨RX6, "way", "(II)I"⟩
def yX6_hunt : MethodName := ⟨RX6, "hunt", "(II)I"⟩
def yX6_proof : MethodName := ⟨RX6, "proof", "(II)I"⟩
def yX6_gap : MethodName := ⟨RX6, "gap", "(II)I"⟩
def yX6_seen : MethodName := ⟨RX6, "seen", "(III)I"⟩
def yX6_forget : MethodName := ⟨RX6, "forget", "()I"⟩
def yX6_lords : MethodName := ⟨RX6, "lords", "(I)I"⟩
def yX6_leap : MethodName := ⟨RX6, "leap", "(I)I"⟩
def yX6_sure : MethodName := ⟨RX6, "sure", "(IIII)I"⟩
def yX6_year : MethodName := ⟨RX6, "year", "(III)I"⟩
def yX6_keep : MethodName := ⟨RX6, "keep", "()I"⟩
def yX6_back : MethodName := ⟨RX6, "back", "()I"⟩
def yX6_count : MethodName := ⟨RX6, "count", "(I)I"⟩
def yX6_isNot : MethodName := ⟨RX6, "isNot", "(III)Z"⟩
def yX6_isNoSerf : MethodName := ⟨RX6, "isNoSerf", "(I)Z"⟩
def yX6_isNoMan : MethodName := ⟨RX6, "isNoMan", "(I)Z"⟩
def yX6_isNoQuarter : MethodName := ⟨RX6, "isNoQuarter", "(I)Z"⟩
def yX6_areNoDays : MethodName := ⟨RX6, "areNoDays", "(II)Z"⟩
def yX6_daysToEnd : MethodName := ⟨RX6, "daysToEnd", "(I)I"⟩
def yX6_daysToFree : MethodName := ⟨RX6, "daysToFree", "(II)I"⟩
def yX6_takenWithOneMore : MethodName := ⟨RX6, "takenWithOneMore", "(III)I"⟩
def yX6_couldBeOf : MethodName := ⟨RX6, "couldBeOf", "(II)Z"⟩
def yX6_freeBehind : MethodName := ⟨RX6, "freeBehind", "(I)I"⟩
def yX6_draw : MethodName := ⟨RX6, "draw", "(II)I"⟩
def yX6_actByDraw : MethodName := ⟨RX6, "actByDraw", "(I)V"⟩
def yX6_power : MethodName := ⟨RX6, "power", "(II)I"⟩
def yX6_commonDivisor : MethodName := ⟨RX6, "commonDivisor", "(II)I"⟩
def yX6_copyRow : MethodName := ⟨RX6, "copyRow", "([I[I)V"⟩
def yX7_in : MethodName := ⟨RX7, "in", "(JJJ)Z"⟩
def yX7_init : MethodName := ⟨RX7, "<init>", "()V"⟩
def yX7_serfIs : MethodName := ⟨RX7, "serfIs", "(IIII)V"⟩
def yX7_firstDay : MethodName := ⟨RX7, "firstDay", "()V"⟩
def yX7_isSerf : MethodName := ⟨RX7, "isSerf", "(I)Z"⟩
def yX7_isMan : MethodName := ⟨RX7, "isMan", "(I)Z"⟩
def yX7_isQuarter : MethodName := ⟨RX7, "isQuarter", "(I)Z"⟩
def yX7_how : MethodName := ⟨RX7, "how", "(I)I"⟩
def yX7_quarter : MethodName := ⟨RX7, "quarter", "(I)I"⟩
def yX7_stayed : MethodName := ⟨RX7, "stayed", "(I)I"⟩
def yX7_met : MethodName := ⟨RX7, "met", "(I)I"⟩
def yX7_kind : MethodName := ⟨RX7, "kind", "(I)I"⟩
def yX7_lord : MethodName := ⟨RX7, "lord", "(I)I"⟩
def yX7_write : MethodName := ⟨RX7, "write", "(I)I"⟩
def yX7_wipe : MethodName := ⟨RX7, "wipe", "()I"⟩
def yX7_isFigure : MethodName := ⟨RX7, "isFigure", "()Z"⟩
def yX7_number : MethodName := ⟨RX7, "number", "(III)Z"⟩
def yX7_readOne : MethodName := ⟨RX7, "readOne", "(III)Z"⟩
def yX7_readSerf : MethodName := ⟨RX7, "readSerf", "()Z"⟩
def yX7_readMan : MethodName := ⟨RX7, "readMan", "()Z"⟩
def yX7_readNotch : MethodName := ⟨RX7, "readNotch", "()Z"⟩
def yX7_item : MethodName := ⟨RX7, "item", "()Z"⟩
def yX7_fault : MethodName := ⟨RX7, "fault", "()I"⟩
def yX7_lay : MethodName := ⟨RX7, "lay", "()I"⟩
def yX7_men : MethodName := ⟨RX7, "men", "(II)I"⟩
def yX7_isMet : MethodName := ⟨RX7, "isMet", "(II)Z"⟩
def yX7_goesBy : MethodName := ⟨RX7, "goesBy", "()V"⟩
def yX7_menGoOn : MethodName := ⟨RX7, "menGoOn", "()V"⟩
def yX7_goesOn : MethodName := ⟨RX7, "goesOn", "(I)V"⟩
def yX7_many : MethodName := ⟨RX7, "many", "(I)I"⟩
def yX7_serf : MethodName := ⟨RX7, "serf", "(II)I"⟩
def yX7_man : MethodName := ⟨RX7, "man", "(II)I"⟩
def yX7_notes : MethodName := ⟨RX7, "notes", "()V"⟩
def yX7_moves : MethodName := ⟨RX7, "moves", "(II)V"⟩
def yX7_leaves : MethodName := ⟨RX7, "leaves", "(I)V"⟩
def yX7_move : MethodName := ⟨RX7, "move", "(II)I"⟩
def yX7_leave : MethodName := ⟨RX7, "leave", "(I)I"⟩
def yX7_send : MethodName := ⟨RX7, "send", "(II)I"⟩
def yX7_pass : MethodName := ⟨RX7, "pass", "(I)I"⟩
def yX7_undo : MethodName := ⟨RX7, "undo", "()I"⟩
def yX7_asides : MethodName := ⟨RX7, "asides", "()V"⟩
def yX7_backs : MethodName := ⟨RX7, "backs", "()V"⟩
def yX7_behind : MethodName := ⟨RX7, "behind", "(III)I"⟩
def yX7_ends : MethodName := ⟨RX7, "ends", "(I)I"⟩
def yX7_freeBehind : MethodName := ⟨RX7, "freeBehind", "(I)I"⟩
def yX7_live : MethodName := ⟨RX7, "live", "(II)I"⟩
def yX7_spot : MethodName := ⟨RX7, "spot", "(III)I"⟩
def yX7_ways : MethodName := ⟨RX7, "ways", "(II)V"⟩
def yX7_way : MethodName := ⟨RX7, "way", "(II)I"⟩
def yX7_hunt : MethodName := ⟨RX7, "hunt", "(II)I"⟩
def yX7_isProved : MethodName := ⟨RX7, "isProved", "(II)Z"⟩
def yX7_gapOf : MethodName := ⟨RX7, "gapOf", "(III)I"⟩
def yX7_proof : MethodName := ⟨RX7, "proof", "(II)I"⟩
def yX7_gap : MethodName := ⟨RX7, "gap", "(II)I"⟩
def yX7_seen : MethodName := ⟨RX7, "seen", "(III)I"⟩
def yX7_forget : MethodName := ⟨RX7, "forget", "()I"⟩
def yX7_isSo : MethodName := ⟨RX7, "isSo", "(I)Z"⟩
def yX7_lords : MethodName := ⟨RX7, "lords", "(I)I"⟩
def yX7_freeSet : MethodName := ⟨RX7, "freeSet", "(I)I"⟩
def yX7_leap : MethodName := ⟨RX7, "leap", "(I)I"⟩
def yX7_sure : MethodName := ⟨RX7, "sure", "(IIII)I"⟩
def yX7_year : MethodName := ⟨RX7, "year", "(III)I"⟩
def yX7_keep : MethodName := ⟨RX7, "keep", "()I"⟩
def yX7_back : MethodName := ⟨RX7, "back", "()I"⟩
def yX7_count : MethodName := ⟨RX7, "count", "(I)I"⟩
/-- a method: its name, code, locals, answer, class, rank (calls below it), number of arguments with the receiver -/
abbrev xa_MI : Type := MethodName × ByteArray × Nat × Option FieldType × Nat × Nat
def xa_mt : List xa_MI := [
  (yX0_init, prog_2_method_1_code, 3, none, 0, 2),
  (yX0_put, prog_2_method_2_code, 2, none, 0, 3),
  (yX0_loseLowest, prog_2_method_3_code, 3, none, 0, 0),
  (yX0_takeInto, prog_2_method_4_code, 2, none, 0, 3),
  (yX1_init, prog_3_method_1_code, 1, none, 1, 1),
  (yX1_add, prog_3_method_2_code, 4, some .boolean, 1, 0),
  (yX1_deny, prog_3_method_3_code, 5, some .boolean, 1, 0),
  (yX2_init, prog_4_method_1_code, 1, none, 2, 1),
  (yX2_begin, prog_4_method_2_code, 3, none, 2, 2),
  (yX2_copy, prog_4_method_3_code, 2, none, 2, 2),
  (yX2_isOver, prog_4_method_4_code, 2, some .boolean, 2, 0),
  (yX2_livesIn, prog_4_method_5_code, 3, some .boolean, 2, 0),
  (yX2_settle, prog_4_method_6_code, 3, none, 2, 0),
  (yX2_goOut, prog_4_method_7_code, 2, none, 2, 0),
  (yX2_howMany, prog_4_method_8_code, 5, some .int, 2, 0),
  (yX2_menIn, prog_4_method_9_code, 6, some .int, 2, 0),
  (yX2_isFoundIn, prog_4_method_10_code, 6, some .boolean, 2, 1),
  (yX2_goDays, prog_4_method_11_code, 4, none, 2, 4),
  (yX2_goDay, prog_4_method_12_code, 3, none, 2, 3),
  (yX2_menGoOn, prog_4_method_13_code, 3, none, 2, 1),
  (yX2_stayOrBeTaken, prog_4_method_14_code, 3, none, 2, 2),
  (yX3_init, prog_5_method_1_code, 1, none, 3, 1),
  (yX3_add, prog_5_method_2_code, 2, some .boolean, 3, 0),
  (yX3_readInto, prog_5_method_3_code, 5, some .int, 3, 3),
  (yX3_readNumbers, prog_5_method_4_code, 5, some .int, 3, 2),
  (yX3_figuresAt, prog_5_method_5_code, 2, some .int, 3, 1),
  (yX3_isFigure, prog_5_method_6_code, 2, some .boolean, 3, 0),
  (yX3_valueOf, prog_5_method_7_code, 5, some .int, 3, 0),
  (yX4_init, prog_6_method_1_code, 1, none, 4, 1),
  (yX4_clear, prog_6_method_2_code, 1, none, 4, 0),
  (yX4_copy, prog_6_method_3_code, 2, none, 4, 2),
  (yX4_accepts, prog_6_method_4_code, 4, some .boolean, 4, 2),
  (yX4_acceptsWanted, prog_6_method_5_code, 2, some .boolean, 4, 1),
  (yX4_acceptsQuarters, prog_6_method_6_code, 2, some .boolean, 4, 1),
  (yX4_acceptsGuild, prog_6_method_7_code, 2, some .boolean, 4, 1),
  (yX4_acceptsSerf, prog_6_method_8_code, 4, some .boolean, 4, 1),
  (yX4_acceptsMan, prog_6_method_9_code, 4, some .boolean, 4, 1),
  (yX4_addMan, prog_6_method_10_code, 4, none, 4, 0),
  (yX4_acceptsNotch, prog_6_method_11_code, 3, some .boolean, 4, 1),
  (yX4_hasGuild, prog_6_method_12_code, 2, some .boolean, 4, 0),
  (yX4_onRing, prog_6_method_13_code, 2, some .int, 4, 0),
  (yX4_areNext, prog_6_method_14_code, 3, some .boolean, 4, 1),
  (yX4_provedFrom, prog_6_method_15_code, 4, some .int, 4, 1),
  (yX5_init, prog_7_method_1_code, 1, none, 5, 1),
  (yX5_look, prog_7_method_2_code, 6, none, 5, 4),
  (yX5_bitsFound, prog_7_method_3_code, 6, some .int, 5, 2),
  (yX5_bitsReaching, prog_7_method_4_code, 5, some .int, 5, 3),
  (yX5_lowestNear, prog_7_method_5_code, 5, some .int, 5, 2),
  (yX5_quarterOn, prog_7_method_6_code, 7, some .int, 5, 3),
  (yX6_init, prog_1_method_1_code, 2, none, 6, 4),
  (yX6_write, prog_1_method_2_code, 2, some .int, 6, 1),
  (yX6_wipe, prog_1_method_3_code, 2, some .int, 6, 0),
  (yX6_fault, prog_1_method_4_code, 1, some .int, 6, 4),
  (yX6_lay, prog_1_method_5_code, 1, some .int, 6, 4),
  (yX6_serf, prog_1_method_6_code, 3, some .int, 6, 2),
  (yX6_man, prog_1_method_7_code, 3, some .int, 6, 2),
  (yX6_move, prog_1_method_8_code, 3, some .int, 6, 4),
  (yX6_leave, prog_1_method_9_code, 3, some .int, 6, 4),
  (yX6_send, prog_1_method_10_code, 4, some .int, 6, 4),
  (yX6_pass, prog_1_method_11_code, 3, some .int, 6, 5),
  (yX6_undo, prog_1_method_12_code, 1, some .int, 6, 4),
  (yX6_behind, prog_1_method_13_code, 4, some .int, 6, 5),
  (yX6_ends, prog_1_method_14_code, 2, some .int, 6, 5),
  (yX6_live, prog_1_method_15_code, 7, some .int, 6, 6),
  (yX6_way, prog_1_method_16_code, 3, some .int, 6, 5),
  (yX6_hunt, prog_1_method_17_code, 8, some .int, 6, 5),
  (yX6_proof, prog_1_method_18_code, 7, some .int, 6, 2),
  (yX6_gap, prog_1_method_19_code, 4, some .int, 6, 2),
  (yX6_seen, prog_1_method_20_code, 4, some .int, 6, 2),
  (yX6_forget, prog_1_method_21_code, 2, some .int, 6, 0),
  (yX6_lords, prog_1_method_22_code, 4, some .int, 6, 5),
  (yX6_leap, prog_1_method_23_code, 3, some .int, 6, 6),
  (yX6_sure, prog_1_method_24_code, 8, some .int, 6, 1),
  (yX6_year, prog_1_method_25_code, 5, some .int, 6, 4),
  (yX6_keep, prog_1_method_26_code, 1, some .int, 6, 4),
  (yX6_back, prog_1_method_27_code, 1, some .int, 6, 4),
  (yX6_count, prog_1_method_28_code, 2, some .int, 6, 1),
  (yX6_isNot, prog_1_method_29_code, 3, some .boolean, 6, 0),
  (yX6_isNoSerf, prog_1_method_30_code, 2, some .boolean, 6, 1),
  (yX6_isNoMan, prog_1_method_31_code, 2, some .boolean, 6, 1),
  (yX6_isNoQuarter, prog_1_method_32_code, 2, some .boolean, 6, 1),
  (yX6_areNoDays, prog_1_method_33_code, 2, some .boolean, 6, 1),
  (yX6_daysToEnd, prog_1_method_34_code, 3, some .int, 6, 4),
  (yX6_daysToFree, prog_1_method_35_code, 4, some .int, 6, 5),
  (yX6_takenWithOneMore, prog_1_method_36_code, 5, some .int, 6, 4),
  (yX6_couldBeOf, prog_1_method_37_code, 4, some .boolean, 6, 4),
  (yX6_freeBehind, prog_1_method_38_code, 4, some .int, 6, 5),
  (yX6_draw, prog_1_method_39_code, 4, some .int, 6, 0),
  (yX6_actByDraw, prog_1_method_40_code, 4, none, 6, 1),
  (yX6_power, prog_1_method_41_code, 4, some .int, 6, 0),
  (yX6_commonDivisor, prog_1_method_42_code, 6, some .int, 6, 0),
  (yX6_copyRow, prog_1_method_43_code, 2, none, 6, 1),
  (yX7_in, prog_9_method_2_code, 6, some .boolean, 7, 0),
  (yX7_init, prog_9_method_3_code, 1, none, 7, 1),
  (yX7_serfIs, prog_9_method_4_code, 5, none, 7, 0),
  (yX7_firstDay, prog_9_method_5_code, 3, none, 7, 0),
  (yX7_isSerf, prog_9_method_6_code, 2, some .boolean, 7, 1),
  (yX7_isMan, prog_9_method_7_code, 2, some .boolean, 7, 1),
  (yX7_isQuarter, prog_9_method_8_code, 2, some .boolean, 7, 1),
  (yX7_how, prog_9_method_9_code, 2, some .int, 7, 0),
  (yX7_quarter, prog_9_method_10_code, 2, some .int, 7, 0),
  (yX7_stayed, prog_9_method_11_code, 2, some .int, 7, 0),
  (yX7_met, prog_9_method_12_code, 2, some .int, 7, 0),
  (yX7_kind, prog_9_method_13_code, 2, some .int, 7, 0),
  (yX7_lord, prog_9_method_14_code, 2, some .int, 7, 0),
  (yX7_write, prog_9_method_15_code, 2, some .int, 7, 1),
  (yX7_wipe, prog_9_method_16_code, 2, some .int, 7, 0),
  (yX7_isFigure, prog_9_method_17_code, 1, some .boolean, 7, 1),
  (yX7_number, prog_9_method_18_code, 5, some .boolean, 7, 2),
  (yX7_readOne, prog_9_method_19_code, 5, some .boolean, 7, 3),
  (yX7_readSerf, prog_9_method_20_code, 2, some .boolean, 7, 4),
  (yX7_readMan, prog_9_method_21_code, 2, some .boolean, 7, 4),
  (yX7_readNotch, prog_9_method_22_code, 2, some .boolean, 7, 4),
  (yX7_item, prog_9_method_23_code, 3, some .boolean, 7, 5),
  (yX7_fault, prog_9_method_24_code, 2, some .int, 7, 6),
  (yX7_lay, prog_9_method_25_code, 2, some .int, 7, 7),
  (yX7_men, prog_9_method_26_code, 5, some .int, 7, 0),
  (yX7_isMet, prog_9_method_27_code, 6, some .boolean, 7, 1),
  (yX7_goesBy, prog_9_method_28_code, 3, none, 7, 2),
  (yX7_menGoOn, prog_9_method_29_code, 2, none, 7, 0),
  (yX7_goesOn, prog_9_method_30_code, 3, none, 7, 3),
  (yX7_many, prog_9_method_31_code, 4, some .int, 7, 1),
  (yX7_serf, prog_9_method_32_code, 3, some .int, 7, 2),
  (yX7_man, prog_9_method_33_code, 3, some .int, 7, 2),
  (yX7_notes, prog_9_method_34_code, 2, none, 7, 0),
  (yX7_moves, prog_9_method_35_code, 4, none, 7, 0),
  (yX7_leaves, prog_9_method_36_code, 2, none, 7, 0),
  (yX7_move, prog_9_method_37_code, 3, some .int, 7, 2),
  (yX7_leave, prog_9_method_38_code, 3, some .int, 7, 2),
  (yX7_send, prog_9_method_39_code, 4, some .int, 7, 2),
  (yX7_pass, prog_9_method_40_code, 3, some .int, 7, 4),
  (yX7_undo, prog_9_method_41_code, 2, some .int, 7, 0),
  (yX7_asides, prog_9_method_42_code, 2, none, 7, 0),
  (yX7_backs, prog_9_method_43_code, 2, none, 7, 0),
  (yX7_behind, prog_9_method_44_code, 5, some .int, 7, 4),
  (yX7_ends, prog_9_method_45_code, 3, some .int, 7, 3),
  (yX7_freeBehind, prog_9_method_46_code, 4, some .int, 7, 3),
  (yX7_live, prog_9_method_47_code, 8, some .int, 7, 4),
  (yX7_spot, prog_9_method_48_code, 3, some .int, 7, 0),
  (yX7_ways, prog_9_method_49_code, 10, none, 7, 2),
  (yX7_way, prog_9_method_50_code, 11, some .int, 7, 3),
  (yX7_hunt, prog_9_method_51_code, 8, some .int, 7, 4),
  (yX7_isProved, prog_9_method_52_code, 5, some .boolean, 7, 1),
  (yX7_gapOf, prog_9_method_53_code, 5, some .int, 7, 2),
  (yX7_proof, prog_9_method_54_code, 7, some .int, 7, 3),
  (yX7_gap, prog_9_method_55_code, 3, some .int, 7, 3),
  (yX7_seen, prog_9_method_56_code, 4, some .int, 7, 2),
  (yX7_forget, prog_9_method_57_code, 2, some .int, 7, 0),
  (yX7_isSo, prog_9_method_58_code, 5, some .boolean, 7, 3),
  (yX7_lords, prog_9_method_59_code, 4, some .int, 7, 4),
  (yX7_freeSet, prog_9_method_60_code, 4, some .int, 7, 4),
  (yX7_leap, prog_9_method_61_code, 3, some .int, 7, 5),
  (yX7_sure, prog_9_method_62_code, 12, some .int, 7, 1),
  (yX7_year, prog_9_method_63_code, 10, some .int, 7, 3),
  (yX7_keep, prog_9_method_64_code, 2, some .int, 7, 0),
  (yX7_back, prog_9_method_65_code, 2, some .int, 7, 0),
  (yX7_count, prog_9_method_66_code, 2, some .int, 7, 2)]
def xa_in (w : Cond) : Prop := w ∈ lw_tbl ∧ goodWord w = true
theorem xa_pl {w : Cond} (i : Nat) (h : lw_tbl[i]? = some w) (g : goodWord w = true) : xa_in w := ⟨List.mem_of_getElem? h, g⟩
/-- what the tables say of a method -/
def xa_mok (q : xa_MI) : Prop := xa_in (.code q.1 q.2.1 q.2.2.1 q.2.2.2.1) ∧ xa_in (.initialized q.1.cls) ∧ (q.1.cls ≠ "java/lang/invoke/MethodHandle" ∧ q.1.cls ≠ "java/lang/invoke/VarHandle") ∧ plainName q.1.cls = true ∧ q.2.2.1 ≤ 14 ∧ ((xa_in (.instanceMethod q.1) ∧ (xa_in (.selects q.1.cls q.1 q.1) ∨ q.1.name = "<init>")) ∨ xa_in (.static q.1)) ∧ (xa_cl[q.2.2.2.2.1]?).map (fun z => z.1) = some q.1.cls
set_option maxRecDepth 100000 in
theorem xa_mo0 : xa_mok (yX0_init, prog_2_method_1_code, 3, none, 0, 2) := ⟨xa_pl 197 rfl rfl, xa_pl 49 rfl rfl, by decide +kernel, by decide +kernel, by decide +kernel, Or.inl ⟨xa_pl 196 rfl rfl, Or.inr rfl⟩, rfl⟩
set_option maxRecDepth 100000 in
theorem xa_mo1 : xa_mok (yX0_put, prog_2_method_2_code, 2, none, 0, 3) := ⟨xa_pl 469 rfl rfl, xa_pl 49 rfl rfl, by decide +kernel, by decide +kernel, by decide +kernel, Or.inl ⟨xa_pl 467 rfl rfl, Or.inl (xa_pl 468 rfl rfl)⟩, rfl⟩
set_option maxRecDepth 100000 in
theorem xa_mo2 : xa_mok (yX0_loseLowest, prog_2_method_3_code, 3, none, 0, 0) := ⟨xa_pl 473 rfl rfl, xa_pl 49 rfl rfl, by decide +kernel, by decide +kernel, by decide +kernel, Or.inl ⟨xa_pl 471 rfl rfl, Or.inl (xa_pl 472 rfl rfl)⟩, rfl⟩
set_option maxRecDepth 100000 in
theorem xa_mo3 : xa_mok (yX0_takeInto, prog_2_method_4_code, 2, none, 0, 3) := ⟨xa_pl 538 rfl rfl, xa_pl 49 rfl rfl, by decide +kernel, by decide +kernel, by decide +kernel, Or.inl ⟨xa_pl 536 rfl rfl, Or.inl (xa_pl 537 rfl rfl)⟩, rfl⟩
set_option maxRecDepth 100000 in
theorem xa_mo4 : xa_mok (yX1_init, prog_3_method_1_code, 1, none, 1, 1) := ⟨xa_pl 217 rfl rfl, xa_pl 51 rfl rfl, by decide +kernel, by decide +kernel, by decide +kernel, Or.inl ⟨xa_pl 216 rfl rfl, Or.inr rfl⟩, rfl⟩
set_option maxRecDepth 100000 in
theorem xa_mo5 : xa_mok (yX1_add, prog_3_method_2_code, 4, some .boolean, 1, 0) := ⟨xa_pl 626 rfl rfl, xa_pl 51 rfl rfl, by decide +kernel, by decide +kernel, by decide +kernel, Or.inl ⟨xa_pl 624 rfl rfl, Or.inl (xa_pl 625 rfl rfl)⟩, rfl⟩
set_option maxRecDepth 100000 in
theorem xa_mo6 : xa_mok (yX1_deny, prog_3_method_3_code, 5, some .boolean, 1, 0) := ⟨xa_pl 642 rfl rfl, xa_pl 51 rfl rfl, by decide +kernel, by decide +kernel, by decide +kernel, Or.inl ⟨xa_pl 640 rfl rfl, Or.inl (xa_pl 641 rfl rfl)⟩, rfl⟩
set_option maxRecDepth 100000 in
theorem xa_mo7 : xa_mok (yX2_init, prog_4_method_1_code, 1, none, 2, 1) := ⟨xa_pl 164 rfl rfl, xa_pl 48 rfl rfl, by decide +kernel, by decide +kernel, by decide +kernel, Or.inl ⟨xa_pl 163 rfl rfl, Or.inr rfl⟩, rfl⟩
set_option maxRecDepth 100000 in
theorem xa_mo8 : xa_mok (yX2_begin, prog_4_method_2_code, 3, none, 2, 2) := ⟨xa_pl 369 rfl rfl, xa_pl 48 rfl rfl, by decide +kernel, by decide +kernel, by decide +kernel, Or.inl ⟨xa_pl 367 rfl rfl, Or.inl (xa_pl 368 rfl rfl)⟩, rfl⟩
set_option maxRecDepth 100000 in
theorem xa_mo9 : xa_mok (yX2_copy, prog_4_method_3_code, 2, none, 2, 2) := ⟨xa_pl 477 rfl rfl, xa_pl 48 rfl rfl, by decide +kernel, by decide +kernel, by decide +kernel, Or.inl ⟨xa_pl 475 rfl rfl, Or.inl (xa_pl 476 rfl rfl)⟩, rfl⟩
set_option maxRecDepth 100000 in
theorem xa_mo10 : xa_mok (yX2_isOver, prog_4_method_4_code, 2, some .boolean, 2, 0) := ⟨xa_pl 461 rfl rfl, xa_pl 48 rfl rfl, by decide +kernel, by decide +kernel, by decide +kernel, Or.inl ⟨xa_pl 459 rfl rfl, Or.inl (xa_pl 460 rfl rfl)⟩, rfl⟩
set_option maxRecDepth 100000 in
theorem xa_mo11 : xa_mok (yX2_livesIn, prog_4_method_5_code, 3, some .boolean, 2, 0) := ⟨xa_pl 465 rfl rfl, xa_pl 48 rfl rfl, by decide +kernel, by decide +kernel, by decide +kernel, Or.inl ⟨xa_pl 463 rfl rfl, Or.inl (xa_pl 464 rfl rfl)⟩, rfl⟩
set_option maxRecDepth 100000 in
theorem xa_mo12 : xa_mok (yX2_settle, prog_4_method_6_code, 3, none, 2, 0) := ⟨xa_pl 481 rfl rfl, xa_pl 48 rfl rfl, by decide +kernel, by decide +kernel, by decide +kernel, Or.inl ⟨xa_pl 479 rfl rfl, Or.inl (xa_pl 480 rfl rfl)⟩, rfl⟩
set_option maxRecDepth 100000 in
theorem xa_mo13 : xa_mok (yX2_goOut, prog_4_method_7_code, 2, none, 2, 0) := ⟨xa_pl 489 rfl rfl, xa_pl 48 rfl rfl, by decide +kernel, by decide +kernel, by decide +kernel, Or.inl ⟨xa_pl 487 rfl rfl, Or.inl (xa_pl 488 rfl rfl)⟩, rfl⟩
set_option maxRecDepth 100000 in
theorem xa_mo14 : xa_mok (yX2_howMany, prog_4_method_8_code, 5, some .int, 2, 0) := ⟨xa_pl 501 rfl rfl, xa_pl 48 rfl rfl, by decide +kernel, by decide +kernel, by decide +kernel, Or.inl ⟨xa_pl 499 rfl rfl, Or.inl (xa_pl 500 rfl rfl)⟩, rfl⟩
set_option maxRecDepth 100000 in
theorem xa_mo15 : xa_mok (yX2_menIn, prog_4_method_9_code, 6, some .int, 2, 0) := ⟨xa_pl 441 rfl rfl, xa_pl 48 rfl rfl, by decide +kernel, by decide +kernel, by decide +kernel, Or.inl ⟨xa_pl 439 rfl rfl, Or.inl (xa_pl 440 rfl rfl)⟩, rfl⟩
set_option maxRecDepth 100000 in
theorem xa_mo16 : xa_mok (yX2_isFoundIn, prog_4_method_10_code, 6, some .boolean, 2, 1) := ⟨xa_pl 517 rfl rfl, xa_pl 48 rfl rfl, by decide +kernel, by decide +kernel, by decide +kernel, Or.inl ⟨xa_pl 515 rfl rfl, Or.inl (xa_pl 516 rfl rfl)⟩, rfl⟩
set_option maxRecDepth 100000 in
theorem xa_mo17 : xa_mok (yX2_goDays, prog_4_method_11_code, 4, none, 2, 4) := ⟨xa_pl 505 rfl rfl, xa_pl 48 rfl rfl, by decide +kernel, by decide +kernel, by decide +kernel, Or.inl ⟨xa_pl 503 rfl rfl, Or.inl (xa_pl 504 rfl rfl)⟩, rfl⟩
set_option maxRecDepth 100000 in
theorem xa_mo18 : xa_mok (yX2_goDay, prog_4_method_12_code, 3, none, 2, 3) := ⟨xa_pl 509 rfl rfl, xa_pl 48 rfl rfl, by decide +kernel, by decide +kernel, by decide +kernel, Or.inl ⟨xa_pl 507 rfl rfl, Or.inl (xa_pl 508 rfl rfl)⟩, rfl⟩
set_option maxRecDepth 100000 in
theorem xa_mo19 : xa_mok (yX2_menGoOn, prog_4_method_13_code, 3, none, 2, 1) := ⟨xa_pl 530 rfl rfl, xa_pl 48 rfl rfl, by decide +kernel, by decide +kernel, by decide +kernel, Or.inl ⟨xa_pl 528 rfl rfl, Or.inl (xa_pl 529 rfl rfl)⟩, rfl⟩
set_option maxRecDepth 100000 in
theorem xa_mo20 : xa_mok (yX2_stayOrBeTaken, prog_4_method_14_code, 3, none, 2, 2) := ⟨xa_pl 513 rfl rfl, xa_pl 48 rfl rfl, by decide +kernel, by decide +kernel, by decide +kernel, Or.inl ⟨xa_pl 511 rfl rfl, Or.inl (xa_pl 512 rfl rfl)⟩, rfl⟩
set_option maxRecDepth 100000 in
theorem xa_mo21 : xa_mok (yX3_init, prog_5_method_1_code, 1, none, 3, 1) := ⟨xa_pl 71 rfl rfl, xa_pl 46 rfl rfl, by decide +kernel, by decide +kernel, by decide +kernel, Or.inl ⟨xa_pl 70 rfl rfl, Or.inr rfl⟩, rfl⟩
set_option maxRecDepth 100000 in
theorem xa_mo22 : xa_mok (yX3_add, prog_5_method_2_code, 2, some .boolean, 3, 0) := ⟨xa_pl 306 rfl rfl, xa_pl 46 rfl rfl, by decide +kernel, by decide +kernel, by decide +kernel, Or.inl ⟨xa_pl 304 rfl rfl, Or.inl (xa_pl 305 rfl rfl)⟩, rfl⟩
set_option maxRecDepth 100000 in
theorem xa_mo23 : xa_mok (yX3_readInto, prog_5_method_3_code, 5, some .int, 3, 3) := ⟨xa_pl 310 rfl rfl, xa_pl 46 rfl rfl, by decide +kernel, by decide +kernel, by decide +kernel, Or.inl ⟨xa_pl 308 rfl rfl, Or.inl (xa_pl 309 rfl rfl)⟩, rfl⟩
set_option maxRecDepth 100000 in
theorem xa_mo24 : xa_mok (yX3_readNumbers, prog_5_method_4_code, 5, some .int, 3, 2) := ⟨xa_pl 318 rfl rfl, xa_pl 46 rfl rfl, by decide +kernel, by decide +kernel, by decide +kernel, Or.inl ⟨xa_pl 316 rfl rfl, Or.inl (xa_pl 317 rfl rfl)⟩, rfl⟩
set_option maxRecDepth 100000 in
theorem xa_mo25 : xa_mok (yX3_figuresAt, prog_5_method_5_code, 2, some .int, 3, 1) := ⟨xa_pl 322 rfl rfl, xa_pl 46 rfl rfl, by decide +kernel, by decide +kernel, by decide +kernel, Or.inl ⟨xa_pl 320 rfl rfl, Or.inl (xa_pl 321 rfl rfl)⟩, rfl⟩
set_option maxRecDepth 100000 in
theorem xa_mo26 : xa_mok (yX3_isFigure, prog_5_method_6_code, 2, some .boolean, 3, 0) := ⟨xa_pl 326 rfl rfl, xa_pl 46 rfl rfl, by decide +kernel, by decide +kernel, by decide +kernel, Or.inl ⟨xa_pl 324 rfl rfl, Or.inl (xa_pl 325 rfl rfl)⟩, rfl⟩
set_option maxRecDepth 100000 in
theorem xa_mo27 : xa_mok (yX3_valueOf, prog_5_method_7_code, 5, some .int, 3, 0) := ⟨xa_pl 330 rfl rfl, xa_pl 46 rfl rfl, by decide +kernel, by decide +kernel, by decide +kernel, Or.inl ⟨xa_pl 328 rfl rfl, Or.inl (xa_pl 329 rfl rfl)⟩, rfl⟩
set_option maxRecDepth 100000 in
theorem xa_mo28 : xa_mok (yX4_init, prog_6_method_1_code, 1, none, 4, 1) := ⟨xa_pl 93 rfl rfl, xa_pl 47 rfl rfl, by decide +kernel, by decide +kernel, by decide +kernel, Or.inl ⟨xa_pl 92 rfl rfl, Or.inr rfl⟩, rfl⟩
set_option maxRecDepth 100000 in
theorem xa_mo29 : xa_mok (yX4_clear, prog_6_method_2_code, 1, none, 4, 0) := ⟨xa_pl 314 rfl rfl, xa_pl 47 rfl rfl, by decide +kernel, by decide +kernel, by decide +kernel, Or.inl ⟨xa_pl 312 rfl rfl, Or.inl (xa_pl 313 rfl rfl)⟩, rfl⟩
set_option maxRecDepth 100000 in
theorem xa_mo30 : xa_mok (yX4_copy, prog_6_method_3_code, 2, none, 4, 2) := ⟨xa_pl 428 rfl rfl, xa_pl 47 rfl rfl, by decide +kernel, by decide +kernel, by decide +kernel, Or.inl ⟨xa_pl 426 rfl rfl, Or.inl (xa_pl 427 rfl rfl)⟩, rfl⟩
set_option maxRecDepth 100000 in
theorem xa_mo31 : xa_mok (yX4_accepts, prog_6_method_4_code, 4, some .boolean, 4, 2) := ⟨xa_pl 334 rfl rfl, xa_pl 47 rfl rfl, by decide +kernel, by decide +kernel, by decide +kernel, Or.inl ⟨xa_pl 332 rfl rfl, Or.inl (xa_pl 333 rfl rfl)⟩, rfl⟩
set_option maxRecDepth 100000 in
theorem xa_mo32 : xa_mok (yX4_acceptsWanted, prog_6_method_5_code, 2, some .boolean, 4, 1) := ⟨xa_pl 338 rfl rfl, xa_pl 47 rfl rfl, by decide +kernel, by decide +kernel, by decide +kernel, Or.inl ⟨xa_pl 336 rfl rfl, Or.inl (xa_pl 337 rfl rfl)⟩, rfl⟩
set_option maxRecDepth 100000 in
theorem xa_mo33 : xa_mok (yX4_acceptsQuarters, prog_6_method_6_code, 2, some .boolean, 4, 1) := ⟨xa_pl 345 rfl rfl, xa_pl 47 rfl rfl, by decide +kernel, by decide +kernel, by decide +kernel, Or.inl ⟨xa_pl 343 rfl rfl, Or.inl (xa_pl 344 rfl rfl)⟩, rfl⟩
set_option maxRecDepth 100000 in
theorem xa_mo34 : xa_mok (yX4_acceptsGuild, prog_6_method_7_code, 2, some .boolean, 4, 1) := ⟨xa_pl 349 rfl rfl, xa_pl 47 rfl rfl, by decide +kernel, by decide +kernel, by decide +kernel, Or.inl ⟨xa_pl 347 rfl rfl, Or.inl (xa_pl 348 rfl rfl)⟩, rfl⟩
set_option maxRecDepth 100000 in
theorem xa_mo35 : xa_mok (yX4_acceptsSerf, prog_6_method_8_code, 4, some .boolean, 4, 1) := ⟨xa_pl 353 rfl rfl, xa_pl 47 rfl rfl, by decide +kernel, by decide +kernel, by decide +kernel, Or.inl ⟨xa_pl 351 rfl rfl, Or.inl (xa_pl 352 rfl rfl)⟩, rfl⟩
set_option maxRecDepth 100000 in
theorem xa_mo36 : xa_mok (yX4_acceptsMan, prog_6_method_9_code, 4, some .boolean, 4, 1) := ⟨xa_pl 357 rfl rfl, xa_pl 47 rfl rfl, by decide +kernel, by decide +kernel, by decide +kernel, Or.inl ⟨xa_pl 355 rfl rfl, Or.inl (xa_pl 356 rfl rfl)⟩, rfl⟩
set_option maxRecDepth 100000 in
theorem xa_mo37 : xa_mok (yX4_addMan, prog_6_method_10_code, 4, none, 4, 0) := ⟨xa_pl 361 rfl rfl, xa_pl 47 rfl rfl, by decide +kernel, by decide +kernel, by decide +kernel, Or.inl ⟨xa_pl 359 rfl rfl, Or.inl (xa_pl 360 rfl rfl)⟩, rfl⟩
set_option maxRecDepth 100000 in
theorem xa_mo38 : xa_mok (yX4_acceptsNotch, prog_6_method_11_code, 3, some .boolean, 4, 1) := ⟨xa_pl 365 rfl rfl, xa_pl 47 rfl rfl, by decide +kernel, by decide +kernel, by decide +kernel, Or.inl ⟨xa_pl 363 rfl rfl, Or.inl (xa_pl 364 rfl rfl)⟩, rfl⟩
set_option maxRecDepth 100000 in
theorem xa_mo39 : xa_mok (yX4_hasGuild, prog_6_method_12_code, 2, some .boolean, 4, 0) := ⟨xa_pl 522 rfl rfl, xa_pl 47 rfl rfl, by decide +kernel, by decide +kernel, by decide +kernel, Or.inl ⟨xa_pl 520 rfl rfl, Or.inl (xa_pl 521 rfl rfl)⟩, rfl⟩
set_option maxRecDepth 100000 in
theorem xa_mo40 : xa_mok (yX4_onRing, prog_6_method_13_code, 2, some .int, 4, 0) := ⟨xa_pl 526 rfl rfl, xa_pl 47 rfl rfl, by decide +kernel, by decide +kernel, by decide +kernel, Or.inl ⟨xa_pl 524 rfl rfl, Or.inl (xa_pl 525 rfl rfl)⟩, rfl⟩
set_option maxRecDepth 100000 in
theorem xa_mo41 : xa_mok (yX4_areNext, prog_6_method_14_code, 3, some .boolean, 4, 1) := ⟨xa_pl 588 rfl rfl, xa_pl 47 rfl rfl, by decide +kernel, by decide +kernel, by decide +kernel, Or.inl ⟨xa_pl 586 rfl rfl, Or.inl (xa_pl 587 rfl rfl)⟩, rfl⟩
set_option maxRecDepth 100000 in
theorem xa_mo42 : xa_mok (yX4_provedFrom, prog_6_method_15_code, 4, some .int, 4, 1) := ⟨xa_pl 613 rfl rfl, xa_pl 47 rfl rfl, by decide +kernel, by decide +kernel, by decide +kernel, Or.inl ⟨xa_pl 611 rfl rfl, Or.inl (xa_pl 612 rfl rfl)⟩, rfl⟩
set_option maxRecDepth 100000 in
theorem xa_mo43 : xa_mok (yX5_init, prog_7_method_1_code, 1, none, 5, 1) := ⟨xa_pl 237 rfl rfl, xa_pl 52 rfl rfl, by decide +kernel, by decide +kernel, by decide +kernel, Or.inl ⟨xa_pl 236 rfl rfl, Or.inr rfl⟩, rfl⟩
set_option maxRecDepth 100000 in
theorem xa_mo44 : xa_mok (yX5_look, prog_7_method_2_code, 6, none, 5, 4) := ⟨xa_pl 568 rfl rfl, xa_pl 52 rfl rfl, by decide +kernel, by decide +kernel, by decide +kernel, Or.inl ⟨xa_pl 566 rfl rfl, Or.inl (xa_pl 567 rfl rfl)⟩, rfl⟩
set_option maxRecDepth 100000 in
theorem xa_mo45 : xa_mok (yX5_bitsFound, prog_7_method_3_code, 6, some .int, 5, 2) := ⟨xa_pl 574 rfl rfl, xa_pl 52 rfl rfl, by decide +kernel, by decide +kernel, by decide +kernel, Or.inl ⟨xa_pl 572 rfl rfl, Or.inl (xa_pl 573 rfl rfl)⟩, rfl⟩
set_option maxRecDepth 100000 in
theorem xa_mo46 : xa_mok (yX5_bitsReaching, prog_7_method_4_code, 5, some .int, 5, 3) := ⟨xa_pl 580 rfl rfl, xa_pl 52 rfl rfl, by decide +kernel, by decide +kernel, by decide +kernel, Or.inl ⟨xa_pl 578 rfl rfl, Or.inl (xa_pl 579 rfl rfl)⟩, rfl⟩
set_option maxRecDepth 100000 in
theorem xa_mo47 : xa_mok (yX5_lowestNear, prog_7_method_5_code, 5, some .int, 5, 2) := ⟨xa_pl 584 rfl rfl, xa_pl 52 rfl rfl, by decide +kernel, by decide +kernel, by decide +kernel, Or.inl ⟨xa_pl 582 rfl rfl, Or.inl (xa_pl 583 rfl rfl)⟩, rfl⟩
set_option maxRecDepth 100000 in
theorem xa_mo48 : xa_mok (yX5_quarterOn, prog_7_method_6_code, 7, some .int, 5, 3) := ⟨xa_pl 593 rfl rfl, xa_pl 52 rfl rfl, by decide +kernel, by decide +kernel, by decide +kernel, Or.inl ⟨xa_pl 591 rfl rfl, Or.inl (xa_pl 592 rfl rfl)⟩, rfl⟩
set_option maxRecDepth 100000 in
theorem xa_mo49 : xa_mok (yX6_init, prog_1_method_1_code, 2, none, 6, 4) := ⟨xa_pl 63 rfl rfl, xa_pl 45 rfl rfl, by decide +kernel, by decide +kernel, by decide +kernel, Or.inl ⟨xa_pl 62 rfl rfl, Or.inr rfl⟩, rfl⟩
set_option maxRecDepth 100000 in
theorem xa_mo50 : xa_mok (yX6_write, prog_1_method_2_code, 2, some .int, 6, 1) := ⟨xa_pl 411 rfl rfl, xa_pl 45 rfl rfl, by decide +kernel, by decide +kernel, by decide +kernel, Or.inl ⟨xa_pl 409 rfl rfl, Or.inl (xa_pl 410 rfl rfl)⟩, rfl⟩
set_option maxRecDepth 100000 in
theorem xa_mo51 : xa_mok (yX6_wipe, prog_1_method_3_code, 2, some .int, 6, 0) := ⟨xa_pl 416 rfl rfl, xa_pl 45 rfl rfl, by decide +kernel, by decide +kernel, by decide +kernel, Or.inl ⟨xa_pl 414 rfl rfl, Or.inl (xa_pl 415 rfl rfl)⟩, rfl⟩
set_option maxRecDepth 100000 in
theorem xa_mo52 : xa_mok (yX6_fault, prog_1_method_4_code, 1, some .int, 6, 4) := ⟨xa_pl 420 rfl rfl, xa_pl 45 rfl rfl, by decide +kernel, by decide +kernel, by decide +kernel, Or.inl ⟨xa_pl 418 rfl rfl, Or.inl (xa_pl 419 rfl rfl)⟩, rfl⟩
set_option maxRecDepth 100000 in
theorem xa_mo53 : xa_mok (yX6_lay, prog_1_method_5_code, 1, some .int, 6, 4) := ⟨xa_pl 424 rfl rfl, xa_pl 45 rfl rfl, by decide +kernel, by decide +kernel, by decide +kernel, Or.inl ⟨xa_pl 422 rfl rfl, Or.inl (xa_pl 423 rfl rfl)⟩, rfl⟩
set_option maxRecDepth 100000 in
theorem xa_mo54 : xa_mok (yX6_serf, prog_1_method_6_code, 3, some .int, 6, 2) := ⟨xa_pl 433 rfl rfl, xa_pl 45 rfl rfl, by decide +kernel, by decide +kernel, by decide +kernel, Or.inl ⟨xa_pl 431 rfl rfl, Or.inl (xa_pl 432 rfl rfl)⟩, rfl⟩
set_option maxRecDepth 100000 in
theorem xa_mo55 : xa_mok (yX6_man, prog_1_method_7_code, 3, some .int, 6, 2) := ⟨xa_pl 445 rfl rfl, xa_pl 45 rfl rfl, by decide +kernel, by decide +kernel, by decide +kernel, Or.inl ⟨xa_pl 443 rfl rfl, Or.inl (xa_pl 444 rfl rfl)⟩, rfl⟩
set_option maxRecDepth 100000 in
theorem xa_mo56 : xa_mok (yX6_move, prog_1_method_8_code, 3, some .int, 6, 4) := ⟨xa_pl 453 rfl rfl, xa_pl 45 rfl rfl, by decide +kernel, by decide +kernel, by decide +kernel, Or.inl ⟨xa_pl 451 rfl rfl, Or.inl (xa_pl 452 rfl rfl)⟩, rfl⟩
set_option maxRecDepth 100000 in
theorem xa_mo57 : xa_mok (yX6_leave, prog_1_method_9_code, 3, some .int, 6, 4) := ⟨xa_pl 485 rfl rfl, xa_pl 45 rfl rfl, by decide +kernel, by decide +kernel, by decide +kernel, Or.inl ⟨xa_pl 483 rfl rfl, Or.inl (xa_pl 484 rfl rfl)⟩, rfl⟩
set_option maxRecDepth 100000 in
theorem xa_mo58 : xa_mok (yX6_send, prog_1_method_10_code, 4, some .int, 6, 4) := ⟨xa_pl 493 rfl rfl, xa_pl 45 rfl rfl, by decide +kernel, by decide +kernel, by decide +kernel, Or.inl ⟨xa_pl 491 rfl rfl, Or.inl (xa_pl 492 rfl rfl)⟩, rfl⟩
set_option maxRecDepth 100000 in
theorem xa_mo59 : xa_mok (yX6_pass, prog_1_method_11_code, 3, some .int, 6, 5) := ⟨xa_pl 497 rfl rfl, xa_pl 45 rfl rfl, by decide +kernel, by decide +kernel, by decide +kernel, Or.inl ⟨xa_pl 495 rfl rfl, Or.inl (xa_pl 496 rfl rfl)⟩, rfl⟩
set_option maxRecDepth 100000 in
theorem xa_mo60 : xa_mok (yX6_undo, prog_1_method_12_code, 1, some .int, 6, 4) := ⟨xa_pl 534 rfl rfl, xa_pl 45 rfl rfl, by decide +kernel, by decide +kernel, by decide +kernel, Or.inl ⟨xa_pl 532 rfl rfl, Or.inl (xa_pl 533 rfl rfl)⟩, rfl⟩
set_option maxRecDepth 100000 in
theorem xa_mo61 : xa_mok (yX6_behind, prog_1_method_13_code, 4, some .int, 6, 5) := ⟨xa_pl 542 rfl rfl, xa_pl 45 rfl rfl, by decide +kernel, by decide +kernel, by decide +kernel, Or.inl ⟨xa_pl 540 rfl rfl, Or.inl (xa_pl 541 rfl rfl)⟩, rfl⟩
set_option maxRecDepth 100000 in
theorem xa_mo62 : xa_mok (yX6_ends, prog_1_method_14_code, 2, some .int, 6, 5) := ⟨xa_pl 547 rfl rfl, xa_pl 45 rfl rfl, by decide +kernel, by decide +kernel, by decide +kernel, Or.inl ⟨xa_pl 545 rfl rfl, Or.inl (xa_pl 546 rfl rfl)⟩, rfl⟩
set_option maxRecDepth 100000 in
theorem xa_mo63 : xa_mok (yX6_live, prog_1_method_15_code, 7, some .int, 6, 6) := ⟨xa_pl 556 rfl rfl, xa_pl 45 rfl rfl, by decide +kernel, by decide +kernel, by decide +kernel, Or.inl ⟨xa_pl 554 rfl rfl, Or.inl (xa_pl 555 rfl rfl)⟩, rfl⟩
set_option maxRecDepth 100000 in
theorem xa_mo64 : xa_mok (yX6_way, prog_1_method_16_code, 3, some .int, 6, 5) := ⟨xa_pl 564 rfl rfl, xa_pl 45 rfl rfl, by decide +kernel, by decide +kernel, by decide +kernel, Or.inl ⟨xa_pl 562 rfl rfl, Or.inl (xa_pl 563 rfl rfl)⟩, rfl⟩
set_option maxRecDepth 100000 in
theorem xa_mo65 : xa_mok (yX6_hunt, prog_1_method_17_code, 8, some .int, 6, 5) := ⟨xa_pl 597 rfl rfl, xa_pl 45 rfl rfl, by decide +kernel, by decide +kernel, by decide +kernel, Or.inl ⟨xa_pl 595 rfl rfl, Or.inl (xa_pl 596 rfl rfl)⟩, rfl⟩
set_option maxRecDepth 100000 in
theorem xa_mo66 : xa_mok (yX6_proof, prog_1_method_18_code, 7, some .int, 6, 2) := ⟨xa_pl 606 rfl rfl, xa_pl 45 rfl rfl, by decide +kernel, by decide +kernel, by decide +kernel, Or.inl ⟨xa_pl 604 rfl rfl, Or.inl (xa_pl 605 rfl rfl)⟩, rfl⟩
set_option maxRecDepth 100000 in
theorem xa_mo67 : xa_mok (yX6_gap, prog_1_method_19_code, 4, some .int, 6, 2) := ⟨xa_pl 618 rfl rfl, xa_pl 45 rfl rfl, by decide +kernel, by decide +kernel, by decide +kernel, Or.inl ⟨xa_pl 616 rfl rfl, Or.inl (xa_pl 617 rfl rfl)⟩, rfl⟩
set_option maxRecDepth 100000 in
theorem xa_mo68 : xa_mok (yX6_seen, prog_1_method_20_code, 4, some .int, 6, 2) := ⟨xa_pl 622 rfl rfl, xa_pl 45 rfl rfl, by decide +kernel, by decide +kernel, by decide +kernel, Or.inl ⟨xa_pl 620 rfl rfl, Or.inl (xa_pl 621 rfl rfl)⟩, rfl⟩
set_option maxRecDepth 100000 in
theorem xa_mo69 : xa_mok (yX6_forget, prog_1_method_21_code, 2, some .int, 6, 0) := ⟨xa_pl 630 rfl rfl, xa_pl 45 rfl rfl, by decide +kernel, by decide +kernel, by decide +kernel, Or.inl ⟨xa_pl 628 rfl rfl, Or.inl (xa_pl 629 rfl rfl)⟩, rfl⟩
set_option maxRecDepth 100000 in
theorem xa_mo70 : xa_mok (yX6_lords, prog_1_method_22_code, 4, some .int, 6, 5) := ⟨xa_pl 634 rfl rfl, xa_pl 45 rfl rfl, by decide +kernel, by decide +kernel, by decide +kernel, Or.inl ⟨xa_pl 632 rfl rfl, Or.inl (xa_pl 633 rfl rfl)⟩, rfl⟩
set_option maxRecDepth 100000 in
theorem xa_mo71 : xa_mok (yX6_leap, prog_1_method_23_code, 3, some .int, 6, 6) := ⟨xa_pl 646 rfl rfl, xa_pl 45 rfl rfl, by decide +kernel, by decide +kernel, by decide +kernel, Or.inl ⟨xa_pl 644 rfl rfl, Or.inl (xa_pl 645 rfl rfl)⟩, rfl⟩
set_option maxRecDepth 100000 in
theorem xa_mo72 : xa_mok (yX6_sure, prog_1_method_24_code, 8, some .int, 6, 1) := ⟨xa_pl 654 rfl rfl, xa_pl 45 rfl rfl, by decide +kernel, by decide +kernel, by decide +kernel, Or.inl ⟨xa_pl 652 rfl rfl, Or.inl (xa_pl 653 rfl rfl)⟩, rfl⟩
set_option maxRecDepth 100000 in
theorem xa_mo73 : xa_mok (yX6_year, prog_1_method_25_code, 5, some .int, 6, 4) := ⟨xa_pl 664 rfl rfl, xa_pl 45 rfl rfl, by decide +kernel, by decide +kernel, by decide +kernel, Or.inl ⟨xa_pl 662 rfl rfl, Or.inl (xa_pl 663 rfl rfl)⟩, rfl⟩
set_option maxRecDepth 100000 in
theorem xa_mo74 : xa_mok (yX6_keep, prog_1_method_26_code, 1, some .int, 6, 4) := ⟨xa_pl 680 rfl rfl, xa_pl 45 rfl rfl, by decide +kernel, by decide +kernel, by decide +kernel, Or.inl ⟨xa_pl 678 rfl rfl, Or.inl (xa_pl 679 rfl rfl)⟩, rfl⟩
set_option maxRecDepth 100000 in
theorem xa_mo75 : xa_mok (yX6_back, prog_1_method_27_code, 1, some .int, 6, 4) := ⟨xa_pl 684 rfl rfl, xa_pl 45 rfl rfl, by decide +kernel, by decide +kernel, by decide +kernel, Or.inl ⟨xa_pl 682 rfl rfl, Or.inl (xa_pl 683 rfl rfl)⟩, rfl⟩
set_option maxRecDepth 100000 in
theorem xa_mo76 : xa_mok (yX6_count, prog_1_method_28_code, 2, some .int, 6, 1) := ⟨xa_pl 688 rfl rfl, xa_pl 45 rfl rfl, by decide +kernel, by decide +kernel, by decide +kernel, Or.inl ⟨xa_pl 686 rfl rfl, Or.inl (xa_pl 687 rfl rfl)⟩, rfl⟩
set_option maxRecDepth 100000 in
theorem xa_mo77 : xa_mok (yX6_isNot, prog_1_method_29_code, 3, some .boolean, 6, 0) := ⟨xa_pl 341 rfl rfl, xa_pl 45 rfl rfl, by decide +kernel, by decide +kernel, by decide +kernel, Or.inr (xa_pl 340 rfl rfl), rfl⟩
set_option maxRecDepth 100000 in
theorem xa_mo78 : xa_mok (yX6_isNoSerf, prog_1_method_30_code, 2, some .boolean, 6, 1) := ⟨xa_pl 437 rfl rfl, xa_pl 45 rfl rfl, by decide +kernel, by decide +kernel, by decide +kernel, Or.inl ⟨xa_pl 436 rfl rfl, Or.inl (xa_pl 0 rfl rfl)⟩, rfl⟩
set_option maxRecDepth 100000 in
theorem xa_mo79 : xa_mok (yX6_isNoMan, prog_1_method_31_code, 2, some .boolean, 6, 1) := ⟨xa_pl 449 rfl rfl, xa_pl 45 rfl rfl, by decide +kernel, by decide +kernel, by decide +kernel, Or.inl ⟨xa_pl 448 rfl rfl, Or.inl (xa_pl 1 rfl rfl)⟩, rfl⟩
set_option maxRecDepth 100000 in
theorem xa_mo80 : xa_mok (yX6_isNoQuarter, prog_1_method_32_code, 2, some .boolean, 6, 1) := ⟨xa_pl 457 rfl rfl, xa_pl 45 rfl rfl, by decide +kernel, by decide +kernel, by decide +kernel, Or.inl ⟨xa_pl 456 rfl rfl, Or.inl (xa_pl 2 rfl rfl)⟩, rfl⟩
set_option maxRecDepth 100000 in
theorem xa_mo81 : xa_mok (yX6_areNoDays, prog_1_method_33_code, 2, some .boolean, 6, 1) := ⟨xa_pl 609 rfl rfl, xa_pl 45 rfl rfl, by decide +kernel, by decide +kernel, by decide +kernel, Or.inr (xa_pl 608 rfl rfl), rfl⟩
set_option maxRecDepth 100000 in
theorem xa_mo82 : xa_mok (yX6_daysToEnd, prog_1_method_34_code, 3, some .int, 6, 4) := ⟨xa_pl 551 rfl rfl, xa_pl 45 rfl rfl, by decide +kernel, by decide +kernel, by decide +kernel, Or.inl ⟨xa_pl 550 rfl rfl, Or.inl (xa_pl 3 rfl rfl)⟩, rfl⟩
set_option maxRecDepth 100000 in
theorem xa_mo83 : xa_mok (yX6_daysToFree, prog_1_method_35_code, 4, some .int, 6, 5) := ⟨xa_pl 560 rfl rfl, xa_pl 45 rfl rfl, by decide +kernel, by decide +kernel, by decide +kernel, Or.inl ⟨xa_pl 559 rfl rfl, Or.inl (xa_pl 4 rfl rfl)⟩, rfl⟩
set_option maxRecDepth 100000 in
theorem xa_mo84 : xa_mok (yX6_takenWithOneMore, prog_1_method_36_code, 5, some .int, 6, 4) := ⟨xa_pl 601 rfl rfl, xa_pl 45 rfl rfl, by decide +kernel, by decide +kernel, by decide +kernel, Or.inl ⟨xa_pl 600 rfl rfl, Or.inl (xa_pl 5 rfl rfl)⟩, rfl⟩
set_option maxRecDepth 100000 in
theorem xa_mo85 : xa_mok (yX6_couldBeOf, prog_1_method_37_code, 4, some .boolean, 6, 4) := ⟨xa_pl 638 rfl rfl, xa_pl 45 rfl rfl, by decide +kernel, by decide +kernel, by decide +kernel, Or.inl ⟨xa_pl 637 rfl rfl, Or.inl (xa_pl 6 rfl rfl)⟩, rfl⟩
set_option maxRecDepth 100000 in
theorem xa_mo86 : xa_mok (yX6_freeBehind, prog_1_method_38_code, 4, some .int, 6, 5) := ⟨xa_pl 650 rfl rfl, xa_pl 45 rfl rfl, by decide +kernel, by decide +kernel, by decide +kernel, Or.inl ⟨xa_pl 649 rfl rfl, Or.inl (xa_pl 7 rfl rfl)⟩, rfl⟩
set_option maxRecDepth 100000 in
theorem xa_mo87 : xa_mok (yX6_draw, prog_1_method_39_code, 4, some .int, 6, 0) := ⟨xa_pl 667 rfl rfl, xa_pl 45 rfl rfl, by decide +kernel, by decide +kernel, by decide +kernel, Or.inr (xa_pl 666 rfl rfl), rfl⟩
set_option maxRecDepth 100000 in
theorem xa_mo88 : xa_mok (yX6_actByDraw, prog_1_method_40_code, 4, none, 6, 1) := ⟨xa_pl 675 rfl rfl, xa_pl 45 rfl rfl, by decide +kernel, by decide +kernel, by decide +kernel, Or.inl ⟨xa_pl 674 rfl rfl, Or.inl (xa_pl 8 rfl rfl)⟩, rfl⟩
set_option maxRecDepth 100000 in
theorem xa_mo89 : xa_mok (yX6_power, prog_1_method_41_code, 4, some .int, 6, 0) := ⟨xa_pl 657 rfl rfl, xa_pl 45 rfl rfl, by decide +kernel, by decide +kernel, by decide +kernel, Or.inr (xa_pl 656 rfl rfl), rfl⟩
set_option maxRecDepth 100000 in
theorem xa_mo90 : xa_mok (yX6_commonDivisor, prog_1_method_42_code, 6, some .int, 6, 0) := ⟨xa_pl 660 rfl rfl, xa_pl 45 rfl rfl, by decide +kernel, by decide +kernel, by decide +kernel, Or.inr (xa_pl 659 rfl rfl), rfl⟩
set_option maxRecDepth 100000 in
theorem xa_mo91 : xa_mok (yX6_copyRow, prog_1_method_43_code, 2, none, 6, 1) := ⟨xa_pl 372 rfl rfl, xa_pl 45 rfl rfl, by decide +kernel, by decide +kernel, by decide +kernel, Or.inr (xa_pl 371 rfl rfl), rfl⟩
set_option maxRecDepth 100000 in
theorem xa_mo92 : xa_mok (yX7_in, prog_9_method_2_code, 6, some .boolean, 7, 0) := ⟨xa_pl 776 rfl rfl, xa_pl 58 rfl rfl, by decide +kernel, by decide +kernel, by decide +kernel, Or.inr (xa_pl 775 rfl rfl), rfl⟩
set_option maxRecDepth 100000 in
theorem xa_mo93 : xa_mok (yX7_init, prog_9_method_3_code, 1, none, 7, 1) := ⟨xa_pl 693 rfl rfl, xa_pl 58 rfl rfl, by decide +kernel, by decide +kernel, by decide +kernel, Or.inl ⟨xa_pl 692 rfl rfl, Or.inr rfl⟩, rfl⟩
set_option maxRecDepth 100000 in
theorem xa_mo94 : xa_mok (yX7_serfIs, prog_9_method_4_code, 5, none, 7, 0) := ⟨xa_pl 698 rfl rfl, xa_pl 58 rfl rfl, by decide +kernel, by decide +kernel, by decide +kernel, Or.inl ⟨xa_pl 697 rfl rfl, Or.inl (xa_pl 9 rfl rfl)⟩, rfl⟩
set_option maxRecDepth 100000 in
theorem xa_mo95 : xa_mok (yX7_firstDay, prog_9_method_5_code, 3, none, 7, 0) := ⟨xa_pl 702 rfl rfl, xa_pl 58 rfl rfl, by decide +kernel, by decide +kernel, by decide +kernel, Or.inl ⟨xa_pl 701 rfl rfl, Or.inl (xa_pl 10 rfl rfl)⟩, rfl⟩
set_option maxRecDepth 100000 in
theorem xa_mo96 : xa_mok (yX7_isSerf, prog_9_method_6_code, 2, some .boolean, 7, 1) := ⟨xa_pl 827 rfl rfl, xa_pl 58 rfl rfl, by decide +kernel, by decide +kernel, by decide +kernel, Or.inl ⟨xa_pl 826 rfl rfl, Or.inl (xa_pl 18 rfl rfl)⟩, rfl⟩
set_option maxRecDepth 100000 in
theorem xa_mo97 : xa_mok (yX7_isMan, prog_9_method_7_code, 2, some .boolean, 7, 1) := ⟨xa_pl 860 rfl rfl, xa_pl 58 rfl rfl, by decide +kernel, by decide +kernel, by decide +kernel, Or.inl ⟨xa_pl 859 rfl rfl, Or.inl (xa_pl 25 rfl rfl)⟩, rfl⟩
set_option maxRecDepth 100000 in
theorem xa_mo98 : xa_mok (yX7_isQuarter, prog_9_method_8_code, 2, some .boolean, 7, 1) := ⟨xa_pl 869 rfl rfl, xa_pl 58 rfl rfl, by decide +kernel, by decide +kernel, by decide +kernel, Or.inl ⟨xa_pl 868 rfl rfl, Or.inl (xa_pl 26 rfl rfl)⟩, rfl⟩
set_option maxRecDepth 100000 in
theorem xa_mo99 : xa_mok (yX7_how, prog_9_method_9_code, 2, some .int, 7, 0) := ⟨xa_pl 832 rfl rfl, xa_pl 58 rfl rfl, by decide +kernel, by decide +kernel, by decide +kernel, Or.inl ⟨xa_pl 831 rfl rfl, Or.inl (xa_pl 19 rfl rfl)⟩, rfl⟩
set_option maxRecDepth 100000 in
theorem xa_mo100 : xa_mok (yX7_quarter, prog_9_method_10_code, 2, some .int, 7, 0) := ⟨xa_pl 836 rfl rfl, xa_pl 58 rfl rfl, by decide +kernel, by decide +kernel, by decide +kernel, Or.inl ⟨xa_pl 835 rfl rfl, Or.inl (xa_pl 20 rfl rfl)⟩, rfl⟩
set_option maxRecDepth 100000 in
theorem xa_mo101 : xa_mok (yX7_stayed, prog_9_method_11_code, 2, some .int, 7, 0) := ⟨xa_pl 840 rfl rfl, xa_pl 58 rfl rfl, by decide +kernel, by decide +kernel, by decide +kernel, Or.inl ⟨xa_pl 839 rfl rfl, Or.inl (xa_pl 21 rfl rfl)⟩, rfl⟩
set_option maxRecDepth 100000 in
theorem xa_mo102 : xa_mok (yX7_met, prog_9_method_12_code, 2, some .int, 7, 0) := ⟨xa_pl 844 rfl rfl, xa_pl 58 rfl rfl, by decide +kernel, by decide +kernel, by decide +kernel, Or.inl ⟨xa_pl 843 rfl rfl, Or.inl (xa_pl 22 rfl rfl)⟩, rfl⟩
set_option maxRecDepth 100000 in
theorem xa_mo103 : xa_mok (yX7_kind, prog_9_method_13_code, 2, some .int, 7, 0) := ⟨xa_pl 914 rfl rfl, xa_pl 58 rfl rfl, by decide +kernel, by decide +kernel, by decide +kernel, Or.inl ⟨xa_pl 913 rfl rfl, Or.inl (xa_pl 34 rfl rfl)⟩, rfl⟩
set_option maxRecDepth 100000 in
theorem xa_mo104 : xa_mok (yX7_lord, prog_9_method_14_code, 2, some .int, 7, 0) := ⟨xa_pl 848 rfl rfl, xa_pl 58 rfl rfl, by decide +kernel, by decide +kernel, by decide +kernel, Or.inl ⟨xa_pl 847 rfl rfl, Or.inl (xa_pl 23 rfl rfl)⟩, rfl⟩
set_option maxRecDepth 100000 in
theorem xa_mo105 : xa_mok (yX7_write, prog_9_method_15_code, 2, some .int, 7, 1) := ⟨xa_pl 771 rfl rfl, xa_pl 58 rfl rfl, by decide +kernel, by decide +kernel, by decide +kernel, Or.inl ⟨xa_pl 769 rfl rfl, Or.inl (xa_pl 770 rfl rfl)⟩, rfl⟩
set_option maxRecDepth 100000 in
theorem xa_mo106 : xa_mok (yX7_wipe, prog_9_method_16_code, 2, some .int, 7, 0) := ⟨xa_pl 780 rfl rfl, xa_pl 58 rfl rfl, by decide +kernel, by decide +kernel, by decide +kernel, Or.inl ⟨xa_pl 778 rfl rfl, Or.inl (xa_pl 779 rfl rfl)⟩, rfl⟩
set_option maxRecDepth 100000 in
theorem xa_mo107 : xa_mok (yX7_isFigure, prog_9_method_17_code, 1, some .boolean, 7, 1) := ⟨xa_pl 800 rfl rfl, xa_pl 58 rfl rfl, by decide +kernel, by decide +kernel, by decide +kernel, Or.inl ⟨xa_pl 799 rfl rfl, Or.inl (xa_pl 14 rfl rfl)⟩, rfl⟩
set_option maxRecDepth 100000 in
theorem xa_mo108 : xa_mok (yX7_number, prog_9_method_18_code, 5, some .boolean, 7, 2) := ⟨xa_pl 796 rfl rfl, xa_pl 58 rfl rfl, by decide +kernel, by decide +kernel, by decide +kernel, Or.inl ⟨xa_pl 795 rfl rfl, Or.inl (xa_pl 13 rfl rfl)⟩, rfl⟩
set_option maxRecDepth 100000 in
theorem xa_mo109 : xa_mok (yX7_readOne, prog_9_method_19_code, 5, some .boolean, 7, 3) := ⟨xa_pl 792 rfl rfl, xa_pl 58 rfl rfl, by decide +kernel, by decide +kernel, by decide +kernel, Or.inl ⟨xa_pl 791 rfl rfl, Or.inl (xa_pl 12 rfl rfl)⟩, rfl⟩
set_option maxRecDepth 100000 in
theorem xa_mo110 : xa_mok (yX7_readSerf, prog_9_method_20_code, 2, some .boolean, 7, 4) := ⟨xa_pl 806 rfl rfl, xa_pl 58 rfl rfl, by decide +kernel, by decide +kernel, by decide +kernel, Or.inl ⟨xa_pl 805 rfl rfl, Or.inl (xa_pl 15 rfl rfl)⟩, rfl⟩
set_option maxRecDepth 100000 in
theorem xa_mo111 : xa_mok (yX7_readMan, prog_9_method_21_code, 2, some .boolean, 7, 4) := ⟨xa_pl 810 rfl rfl, xa_pl 58 rfl rfl, by decide +kernel, by decide +kernel, by decide +kernel, Or.inl ⟨xa_pl 809 rfl rfl, Or.inl (xa_pl 16 rfl rfl)⟩, rfl⟩
set_option maxRecDepth 100000 in
theorem xa_mo112 : xa_mok (yX7_readNotch, prog_9_method_22_code, 2, some .boolean, 7, 4) := ⟨xa_pl 814 rfl rfl, xa_pl 58 rfl rfl, by decide +kernel, by decide +kernel, by decide +kernel, Or.inl ⟨xa_pl 813 rfl rfl, Or.inl (xa_pl 17 rfl rfl)⟩, rfl⟩
set_option maxRecDepth 100000 in
theorem xa_mo113 : xa_mok (yX7_item, prog_9_method_23_code, 3, some .boolean, 7, 5) := ⟨xa_pl 788 rfl rfl, xa_pl 58 rfl rfl, by decide +kernel, by decide +kernel, by decide +kernel, Or.inl ⟨xa_pl 787 rfl rfl, Or.inl (xa_pl 11 rfl rfl)⟩, rfl⟩
set_option maxRecDepth 100000 in
theorem xa_mo114 : xa_mok (yX7_fault, prog_9_method_24_code, 2, some .int, 7, 6) := ⟨xa_pl 784 rfl rfl, xa_pl 58 rfl rfl, by decide +kernel, by decide +kernel, by decide +kernel, Or.inl ⟨xa_pl 782 rfl rfl, Or.inl (xa_pl 783 rfl rfl)⟩, rfl⟩
set_option maxRecDepth 100000 in
theorem xa_mo115 : xa_mok (yX7_lay, prog_9_method_25_code, 2, some .int, 7, 7) := ⟨xa_pl 818 rfl rfl, xa_pl 58 rfl rfl, by decide +kernel, by decide +kernel, by decide +kernel, Or.inl ⟨xa_pl 816 rfl rfl, Or.inl (xa_pl 817 rfl rfl)⟩, rfl⟩
set_option maxRecDepth 100000 in
theorem xa_mo116 : xa_mok (yX7_men, prog_9_method_26_code, 5, some .int, 7, 0) := ⟨xa_pl 852 rfl rfl, xa_pl 58 rfl rfl, by decide +kernel, by decide +kernel, by decide +kernel, Or.inl ⟨xa_pl 851 rfl rfl, Or.inl (xa_pl 24 rfl rfl)⟩, rfl⟩
set_option maxRecDepth 100000 in
theorem xa_mo117 : xa_mok (yX7_isMet, prog_9_method_27_code, 6, some .boolean, 7, 1) := ⟨xa_pl 910 rfl rfl, xa_pl 58 rfl rfl, by decide +kernel, by decide +kernel, by decide +kernel, Or.inl ⟨xa_pl 909 rfl rfl, Or.inl (xa_pl 33 rfl rfl)⟩, rfl⟩
set_option maxRecDepth 100000 in
theorem xa_mo118 : xa_mok (yX7_goesBy, prog_9_method_28_code, 3, none, 7, 2) := ⟨xa_pl 906 rfl rfl, xa_pl 58 rfl rfl, by decide +kernel, by decide +kernel, by decide +kernel, Or.inl ⟨xa_pl 905 rfl rfl, Or.inl (xa_pl 32 rfl rfl)⟩, rfl⟩
set_option maxRecDepth 100000 in
theorem xa_mo119 : xa_mok (yX7_menGoOn, prog_9_method_29_code, 2, none, 7, 0) := ⟨xa_pl 918 rfl rfl, xa_pl 58 rfl rfl, by decide +kernel, by decide +kernel, by decide +kernel, Or.inl ⟨xa_pl 917 rfl rfl, Or.inl (xa_pl 35 rfl rfl)⟩, rfl⟩
set_option maxRecDepth 100000 in
theorem xa_mo120 : xa_mok (yX7_goesOn, prog_9_method_30_code, 3, none, 7, 3) := ⟨xa_pl 902 rfl rfl, xa_pl 58 rfl rfl, by decide +kernel, by decide +kernel, by decide +kernel, Or.inl ⟨xa_pl 901 rfl rfl, Or.inl (xa_pl 31 rfl rfl)⟩, rfl⟩
set_option maxRecDepth 100000 in
theorem xa_mo121 : xa_mok (yX7_many, prog_9_method_31_code, 4, some .int, 7, 1) := ⟨xa_pl 898 rfl rfl, xa_pl 58 rfl rfl, by decide +kernel, by decide +kernel, by decide +kernel, Or.inl ⟨xa_pl 897 rfl rfl, Or.inl (xa_pl 30 rfl rfl)⟩, rfl⟩
set_option maxRecDepth 100000 in
theorem xa_mo122 : xa_mok (yX7_serf, prog_9_method_32_code, 3, some .int, 7, 2) := ⟨xa_pl 823 rfl rfl, xa_pl 58 rfl rfl, by decide +kernel, by decide +kernel, by decide +kernel, Or.inl ⟨xa_pl 821 rfl rfl, Or.inl (xa_pl 822 rfl rfl)⟩, rfl⟩
set_option maxRecDepth 100000 in
theorem xa_mo123 : xa_mok (yX7_man, prog_9_method_33_code, 3, some .int, 7, 2) := ⟨xa_pl 856 rfl rfl, xa_pl 58 rfl rfl, by decide +kernel, by decide +kernel, by decide +kernel, Or.inl ⟨xa_pl 854 rfl rfl, Or.inl (xa_pl 855 rfl rfl)⟩, rfl⟩
set_option maxRecDepth 100000 in
theorem xa_mo124 : xa_mok (yX7_notes, prog_9_method_34_code, 2, none, 7, 0) := ⟨xa_pl 873 rfl rfl, xa_pl 58 rfl rfl, by decide +kernel, by decide +kernel, by decide +kernel, Or.inl ⟨xa_pl 872 rfl rfl, Or.inl (xa_pl 27 rfl rfl)⟩, rfl⟩
set_option maxRecDepth 100000 in
theorem xa_mo125 : xa_mok (yX7_moves, prog_9_method_35_code, 4, none, 7, 0) := ⟨xa_pl 877 rfl rfl, xa_pl 58 rfl rfl, by decide +kernel, by decide +kernel, by decide +kernel, Or.inl ⟨xa_pl 876 rfl rfl, Or.inl (xa_pl 28 rfl rfl)⟩, rfl⟩
set_option maxRecDepth 100000 in
theorem xa_mo126 : xa_mok (yX7_leaves, prog_9_method_36_code, 2, none, 7, 0) := ⟨xa_pl 885 rfl rfl, xa_pl 58 rfl rfl, by decide +kernel, by decide +kernel, by decide +kernel, Or.inl ⟨xa_pl 884 rfl rfl, Or.inl (xa_pl 29 rfl rfl)⟩, rfl⟩
set_option maxRecDepth 100000 in
theorem xa_mo127 : xa_mok (yX7_move, prog_9_method_37_code, 3, some .int, 7, 2) := ⟨xa_pl 865 rfl rfl, xa_pl 58 rfl rfl, by decide +kernel, by decide +kernel, by decide +kernel, Or.inl ⟨xa_pl 863 rfl rfl, Or.inl (xa_pl 864 rfl rfl)⟩, rfl⟩
set_option maxRecDepth 100000 in
theorem xa_mo128 : xa_mok (yX7_leave, prog_9_method_38_code, 3, some .int, 7, 2) := ⟨xa_pl 881 rfl rfl, xa_pl 58 rfl rfl, by decide +kernel, by decide +kernel, by decide +kernel, Or.inl ⟨xa_pl 879 rfl rfl, Or.inl (xa_pl 880 rfl rfl)⟩, rfl⟩
set_option maxRecDepth 100000 in
theorem xa_mo129 : xa_mok (yX7_send, prog_9_method_39_code, 4, some .int, 7, 2) := ⟨xa_pl 889 rfl rfl, xa_pl 58 rfl rfl, by decide +kernel, by decide +kernel, by decide +kernel, Or.inl ⟨xa_pl 887 rfl rfl, Or.inl (xa_pl 888 rfl rfl)⟩, rfl⟩
set_option maxRecDepth 100000 in
theorem xa_mo130 : xa_mok (yX7_pass, prog_9_method_40_code, 3, some .int, 7, 4) := ⟨xa_pl 893 rfl rfl, xa_pl 58 rfl rfl, by decide +kernel, by decide +kernel, by decide +kernel, Or.inl ⟨xa_pl 891 rfl rfl, Or.inl (xa_pl 892 rfl rfl)⟩, rfl⟩
set_option maxRecDepth 100000 in
theorem xa_mo131 : xa_mok (yX7_undo, prog_9_method_41_code, 2, some .int, 7, 0) := ⟨xa_pl 922 rfl rfl, xa_pl 58 rfl rfl, by decide +kernel, by decide +kernel, by decide +kernel, Or.inl ⟨xa_pl 920 rfl rfl, Or.inl (xa_pl 921 rfl rfl)⟩, rfl⟩
set_option maxRecDepth 100000 in
theorem xa_mo132 : xa_mok (yX7_asides, prog_9_method_42_code, 2, none, 7, 0) := ⟨xa_pl 931 rfl rfl, xa_pl 58 rfl rfl, by decide +kernel, by decide +kernel, by decide +kernel, Or.inl ⟨xa_pl 930 rfl rfl, Or.inl (xa_pl 36 rfl rfl)⟩, rfl⟩
set_option maxRecDepth 100000 in
theorem xa_mo133 : xa_mok (yX7_backs, prog_9_method_43_code, 2, none, 7, 0) := ⟨xa_pl 935 rfl rfl, xa_pl 58 rfl rfl, by decide +kernel, by decide +kernel, by decide +kernel, Or.inl ⟨xa_pl 934 rfl rfl, Or.inl (xa_pl 37 rfl rfl)⟩, rfl⟩
set_option maxRecDepth 100000 in
theorem xa_mo134 : xa_mok (yX7_behind, prog_9_method_44_code, 5, some .int, 7, 4) := ⟨xa_pl 926 rfl rfl, xa_pl 58 rfl rfl, by decide +kernel, by decide +kernel, by decide +kernel, Or.inl ⟨xa_pl 924 rfl rfl, Or.inl (xa_pl 925 rfl rfl)⟩, rfl⟩
set_option maxRecDepth 100000 in
theorem xa_mo135 : xa_mok (yX7_ends, prog_9_method_45_code, 3, some .int, 7, 3) := ⟨xa_pl 939 rfl rfl, xa_pl 58 rfl rfl, by decide +kernel, by decide +kernel, by decide +kernel, Or.inl ⟨xa_pl 937 rfl rfl, Or.inl (xa_pl 938 rfl rfl)⟩, rfl⟩
set_option maxRecDepth 100000 in
theorem xa_mo136 : xa_mok (yX7_freeBehind, prog_9_method_46_code, 4, some .int, 7, 3) := ⟨xa_pl 947 rfl rfl, xa_pl 58 rfl rfl, by decide +kernel, by decide +kernel, by decide +kernel, Or.inl ⟨xa_pl 946 rfl rfl, Or.inl (xa_pl 38 rfl rfl)⟩, rfl⟩
set_option maxRecDepth 100000 in
theorem xa_mo137 : xa_mok (yX7_live, prog_9_method_47_code, 8, some .int, 7, 4) := ⟨xa_pl 943 rfl rfl, xa_pl 58 rfl rfl, by decide +kernel, by decide +kernel, by decide +kernel, Or.inl ⟨xa_pl 941 rfl rfl, Or.inl (xa_pl 942 rfl rfl)⟩, rfl⟩
set_option maxRecDepth 100000 in
theorem xa_mo138 : xa_mok (yX7_spot, prog_9_method_48_code, 3, some .int, 7, 0) := ⟨xa_pl 958 rfl rfl, xa_pl 58 rfl rfl, by decide +kernel, by decide +kernel, by decide +kernel, Or.inr (xa_pl 957 rfl rfl), rfl⟩
set_option maxRecDepth 100000 in
theorem xa_mo139 : xa_mok (yX7_ways, prog_9_method_49_code, 10, none, 7, 2) := ⟨xa_pl 955 rfl rfl, xa_pl 58 rfl rfl, by decide +kernel, by decide +kernel, by decide +kernel, Or.inl ⟨xa_pl 954 rfl rfl, Or.inl (xa_pl 39 rfl rfl)⟩, rfl⟩
set_option maxRecDepth 100000 in
theorem xa_mo140 : xa_mok (yX7_way, prog_9_method_50_code, 11, some .int, 7, 3) := ⟨xa_pl 951 rfl rfl, xa_pl 58 rfl rfl, by decide +kernel, by decide +kernel, by decide +kernel, Or.inl ⟨xa_pl 949 rfl rfl, Or.inl (xa_pl 950 rfl rfl)⟩, rfl⟩
set_option maxRecDepth 100000 in
theorem xa_mo141 : xa_mok (yX7_hunt, prog_9_method_51_code, 8, some .int, 7, 4) := ⟨xa_pl 962 rfl rfl, xa_pl 58 rfl rfl, by decide +kernel, by decide +kernel, by decide +kernel, Or.inl ⟨xa_pl 960 rfl rfl, Or.inl (xa_pl 961 rfl rfl)⟩, rfl⟩
set_option maxRecDepth 100000 in
theorem xa_mo142 : xa_mok (yX7_isProved, prog_9_method_52_code, 5, some .boolean, 7, 1) := ⟨xa_pl 974 rfl rfl, xa_pl 58 rfl rfl, by decide +kernel, by decide +kernel, by decide +kernel, Or.inl ⟨xa_pl 973 rfl rfl, Or.inl (xa_pl 41 rfl rfl)⟩, rfl⟩
set_option maxRecDepth 100000 in
theorem xa_mo143 : xa_mok (yX7_gapOf, prog_9_method_53_code, 5, some .int, 7, 2) := ⟨xa_pl 970 rfl rfl, xa_pl 58 rfl rfl, by decide +kernel, by decide +kernel, by decide +kernel, Or.inl ⟨xa_pl 969 rfl rfl, Or.inl (xa_pl 40 rfl rfl)⟩, rfl⟩
set_option maxRecDepth 100000 in
theorem xa_mo144 : xa_mok (yX7_proof, prog_9_method_54_code, 7, some .int, 7, 3) := ⟨xa_pl 966 rfl rfl, xa_pl 58 rfl rfl, by decide +kernel, by decide +kernel, by decide +kernel, Or.inl ⟨xa_pl 964 rfl rfl, Or.inl (xa_pl 965 rfl rfl)⟩, rfl⟩
set_option maxRecDepth 100000 in
theorem xa_mo145 : xa_mok (yX7_gap, prog_9_method_55_code, 3, some .int, 7, 3) := ⟨xa_pl 978 rfl rfl, xa_pl 58 rfl rfl, by decide +kernel, by decide +kernel, by decide +kernel, Or.inl ⟨xa_pl 976 rfl rfl, Or.inl (xa_pl 977 rfl rfl)⟩, rfl⟩
set_option maxRecDepth 100000 in
theorem xa_mo146 : xa_mok (yX7_seen, prog_9_method_56_code, 4, some .int, 7, 2) := ⟨xa_pl 982 rfl rfl, xa_pl 58 rfl rfl, by decide +kernel, by decide +kernel, by decide +kernel, Or.inl ⟨xa_pl 980 rfl rfl, Or.inl (xa_pl 981 rfl rfl)⟩, rfl⟩
set_option maxRecDepth 100000 in
theorem xa_mo147 : xa_mok (yX7_forget, prog_9_method_57_code, 2, some .int, 7, 0) := ⟨xa_pl 987 rfl rfl, xa_pl 58 rfl rfl, by decide +kernel, by decide +kernel, by decide +kernel, Or.inl ⟨xa_pl 985 rfl rfl, Or.inl (xa_pl 986 rfl rfl)⟩, rfl⟩
set_option maxRecDepth 100000 in
theorem xa_mo148 : xa_mok (yX7_isSo, prog_9_method_58_code, 5, some .boolean, 7, 3) := ⟨xa_pl 995 rfl rfl, xa_pl 58 rfl rfl, by decide +kernel, by decide +kernel, by decide +kernel, Or.inl ⟨xa_pl 994 rfl rfl, Or.inl (xa_pl 42 rfl rfl)⟩, rfl⟩
set_option maxRecDepth 100000 in
theorem xa_mo149 : xa_mok (yX7_lords, prog_9_method_59_code, 4, some .int, 7, 4) := ⟨xa_pl 991 rfl rfl, xa_pl 58 rfl rfl, by decide +kernel, by decide +kernel, by decide +kernel, Or.inl ⟨xa_pl 989 rfl rfl, Or.inl (xa_pl 990 rfl rfl)⟩, rfl⟩
set_option maxRecDepth 100000 in
theorem xa_mo150 : xa_mok (yX7_freeSet, prog_9_method_60_code, 4, some .int, 7, 4) := ⟨xa_pl 1003 rfl rfl, xa_pl 58 rfl rfl, by decide +kernel, by decide +kernel, by decide +kernel, Or.inl ⟨xa_pl 1002 rfl rfl, Or.inl (xa_pl 43 rfl rfl)⟩, rfl⟩
set_option maxRecDepth 100000 in
theorem xa_mo151 : xa_mok (yX7_leap, prog_9_method_61_code, 3, some .int, 7, 5) := ⟨xa_pl 999 rfl rfl, xa_pl 58 rfl rfl, by decide +kernel, by decide +kernel, by decide +kernel, Or.inl ⟨xa_pl 997 rfl rfl, Or.inl (xa_pl 998 rfl rfl)⟩, rfl⟩
set_option maxRecDepth 100000 in
theorem xa_mo152 : xa_mok (yX7_sure, prog_9_method_62_code, 12, some .int, 7, 1) := ⟨xa_pl 1007 rfl rfl, xa_pl 58 rfl rfl, by decide +kernel, by decide +kernel, by decide +kernel, Or.inl ⟨xa_pl 1005 rfl rfl, Or.inl (xa_pl 1006 rfl rfl)⟩, rfl⟩
set_option maxRecDepth 100000 in
theorem xa_mo153 : xa_mok (yX7_year, prog_9_method_63_code, 10, some .int, 7, 3) := ⟨xa_pl 1013 rfl rfl, xa_pl 58 rfl rfl, by decide +kernel, by decide +kernel, by decide +kernel, Or.inl ⟨xa_pl 1011 rfl rfl, Or.inl (xa_pl 1012 rfl rfl)⟩, rfl⟩
set_option maxRecDepth 100000 in
theorem xa_mo154 : xa_mok (yX7_keep, prog_9_method_64_code, 2, some .int, 7, 0) := ⟨xa_pl 1021 rfl rfl, xa_pl 58 rfl rfl, by decide +kernel, by decide +kernel, by decide +kernel, Or.inl ⟨xa_pl 1019 rfl rfl, Or.inl (xa_pl 1020 rfl rfl)⟩, rfl⟩
set_option maxRecDepth 100000 in
theorem xa_mo155 : xa_mok (yX7_back, prog_9_method_65_code, 2, some .int, 7, 0) := ⟨xa_pl 1025 rfl rfl, xa_pl 58 rfl rfl, by decide +kernel, by decide +kernel, by decide +kernel, Or.inl ⟨xa_pl 1023 rfl rfl, Or.inl (xa_pl 1024 rfl rfl)⟩, rfl⟩
set_option maxRecDepth 100000 in
theorem xa_mo156 : xa_mok (yX7_count, prog_9_method_66_code, 2, some .int, 7, 2) := ⟨xa_pl 1029 rfl rfl, xa_pl 58 rfl rfl, by decide +kernel, by decide +kernel, by decide +kernel, Or.inl ⟨xa_pl 1027 rfl rfl, Or.inl (xa_pl 1028 rfl rfl)⟩, rfl⟩
set_option maxRecDepth 100000 in
theorem xa_mt_ok : ∀ q ∈ xa_mt, xa_mok q := List.forall_mem_cons.mpr ⟨xa_mo0, List.forall_mem_cons.mpr ⟨xa_mo1, List.forall_mem_cons.mpr ⟨xa_mo2, List.forall_mem_cons.mpr ⟨xa_mo3, List.forall_mem_cons.mpr ⟨xa_mo4, List.forall_mem_cons.mpr ⟨xa_mo5, List.forall_mem_cons.mpr ⟨xa_mo6, List.forall_mem_cons.mpr ⟨xa_mo7, List.forall_mem_cons.mpr ⟨xa_mo8, List.forall_mem_cons.mpr ⟨xa_mo9, List.forall_mem_cons.mpr ⟨xa_mo10, List.forall_mem_cons.mpr ⟨xa_mo11, List.forall_mem_cons.mpr ⟨xa_mo12, List.forall_mem_cons.mpr ⟨xa_mo13, List.forall_mem_cons.mpr ⟨xa_mo14, List.forall_mem_cons.mpr ⟨xa_mo15, List.forall_mem_cons.mpr ⟨xa_mo16, List.forall_mem_cons.mpr ⟨xa_mo17, List.forall_mem_cons.mpr ⟨xa_mo18, List.forall_mem_cons.mpr ⟨xa_mo19, List.forall_mem_cons.mpr ⟨xa_mo20, List.forall_mem_cons.mpr ⟨xa_mo21, List.forall_mem_cons.mpr ⟨xa_mo22, List.forall_mem_cons.mpr ⟨xa_mo23, List.forall_mem_cons.mpr ⟨xa_mo24, List.forall_mem_cons.mpr ⟨xa_mo25, List.forall_mem_cons.mpr ⟨xa_mo26, List.forall_mem_cons.mpr ⟨xa_mo27, List.forall_mem_cons.mpr ⟨xa_mo28, List.forall_mem_cons.mpr ⟨xa_mo29, List.forall_mem_cons.mpr ⟨xa_mo30, List.forall_mem_cons.mpr ⟨xa_mo31, List.forall_mem_cons.mpr ⟨xa_mo32, List.forall_mem_cons.mpr ⟨xa_mo33, List.forall_mem_cons.mpr ⟨xa_mo34, List.forall_mem_cons.mpr ⟨xa_mo35, List.forall_mem_cons.mpr ⟨xa_mo36, List.forall_mem_cons.mpr ⟨xa_mo37, List.forall_mem_cons.mpr ⟨xa_mo38, List.forall_mem_cons.mpr ⟨xa_mo39, List.forall_mem_cons.mpr ⟨xa_mo40, List.forall_mem_cons.mpr ⟨xa_mo41, List.forall_mem_cons.mpr ⟨xa_mo42, List.forall_mem_cons.mpr ⟨xa_mo43, List.forall_mem_cons.mpr ⟨xa_mo44, List.forall_mem_cons.mpr ⟨xa_mo45, List.forall_mem_cons.mpr ⟨xa_mo46, List.forall_mem_cons.mpr ⟨xa_mo47, List.forall_mem_cons.mpr ⟨xa_mo48, List.forall_mem_cons.mpr ⟨xa_mo49, List.forall_mem_cons.mpr ⟨xa_mo50, List.forall_mem_cons.mpr ⟨xa_mo51, List.forall_mem_cons.mpr ⟨xa_mo52, List.forall_mem_cons.mpr ⟨xa_mo53, List.forall_mem_cons.mpr ⟨xa_mo54, List.forall_mem_cons.mpr ⟨xa_mo55, List.forall_mem_cons.mpr ⟨xa_mo56, List.forall_mem_cons.mpr ⟨xa_mo57, List.forall_mem_cons.mpr ⟨xa_mo58, List.forall_mem_cons.mpr ⟨xa_mo59, List.forall_mem_cons.mpr ⟨xa_mo60, List.forall_mem_cons.mpr ⟨xa_mo61, List.forall_mem_cons.mpr ⟨xa_mo62, List.forall_mem_cons.mpr ⟨xa_mo63, List.forall_mem_cons.mpr ⟨xa_mo64, List.forall_mem_cons.mpr ⟨xa_mo65, List.forall_mem_cons.mpr ⟨xa_mo66, List.forall_mem_cons.mpr ⟨xa_mo67, List.forall_mem_cons.mpr ⟨xa_mo68, List.forall_mem_cons.mpr ⟨xa_mo69, List.forall_mem_cons.mpr ⟨xa_mo70, List.forall_mem_cons.mpr ⟨xa_mo71, List.forall_mem_cons.mpr ⟨xa_mo72, List.forall_mem_cons.mpr ⟨xa_mo73, List.forall_mem_cons.mpr ⟨xa_mo74, List.forall_mem_cons.mpr ⟨xa_mo75, List.forall_mem_cons.mpr ⟨xa_mo76, List.forall_mem_cons.mpr ⟨xa_mo77, List.forall_mem_cons.mpr ⟨xa_mo78, List.forall_mem_cons.mpr ⟨xa_mo79, List.forall_mem_cons.mpr ⟨xa_mo80, List.forall_mem_cons.mpr ⟨xa_mo81, List.forall_mem_cons.mpr ⟨xa_mo82, List.forall_mem_cons.mpr ⟨xa_mo83, List.forall_mem_cons.mpr ⟨xa_mo84, List.forall_mem_cons.mpr ⟨xa_mo85, List.forall_mem_cons.mpr ⟨xa_mo86, List.forall_mem_cons.mpr ⟨xa_mo87, List.forall_mem_cons.mpr ⟨xa_mo88, List.forall_mem_cons.mpr ⟨xa_mo89, List.forall_mem_cons.mpr ⟨xa_mo90, List.forall_mem_cons.mpr ⟨xa_mo91, List.forall_mem_cons.mpr ⟨xa_mo92, List.forall_mem_cons.mpr ⟨xa_mo93, List.forall_mem_cons.mpr ⟨xa_mo94, List.forall_mem_cons.mpr ⟨xa_mo95, List.forall_mem_cons.mpr ⟨xa_mo96, List.forall_mem_cons.mpr ⟨xa_mo97, List.forall_mem_cons.mpr ⟨xa_mo98, List.forall_mem_cons.mpr ⟨xa_mo99, List.forall_mem_cons.mpr ⟨xa_mo100, List.forall_mem_cons.mpr ⟨xa_mo101, List.forall_mem_cons.mpr ⟨xa_mo102, List.forall_mem_cons.mpr ⟨xa_mo103, List.forall_mem_cons.mpr ⟨xa_mo104, List.forall_mem_cons.mpr ⟨xa_mo105, List.forall_mem_cons.mpr ⟨xa_mo106, List.forall_mem_cons.mpr ⟨xa_mo107, List.forall_mem_cons.mpr ⟨xa_mo108, List.forall_mem_cons.mpr ⟨xa_mo109, List.forall_mem_cons.mpr ⟨xa_mo110, List.forall_mem_cons.mpr ⟨xa_mo111, List.forall_mem_cons.mpr ⟨xa_mo112, List.forall_mem_cons.mpr ⟨xa_mo113, List.forall_mem_cons.mpr ⟨xa_mo114, List.forall_mem_cons.mpr ⟨xa_mo115, List.forall_mem_cons.mpr ⟨xa_mo116, List.forall_mem_cons.mpr ⟨xa_mo117, List.forall_mem_cons.mpr ⟨xa_mo118, List.forall_mem_cons.mpr ⟨xa_mo119, List.forall_mem_cons.mpr ⟨xa_mo120, List.forall_mem_cons.mpr ⟨xa_mo121, List.forall_mem_cons.mpr ⟨xa_mo122, List.forall_mem_cons.mpr ⟨xa_mo123, List.forall_mem_cons.mpr ⟨xa_mo124, List.forall_mem_cons.mpr ⟨xa_mo125, List.forall_mem_cons.mpr ⟨xa_mo126, List.forall_mem_cons.mpr ⟨xa_mo127, List.forall_mem_cons.mpr ⟨xa_mo128, List.forall_mem_cons.mpr ⟨xa_mo129, List.forall_mem_cons.mpr ⟨xa_mo130, List.forall_mem_cons.mpr ⟨xa_mo131, List.forall_mem_cons.mpr ⟨xa_mo132, List.forall_mem_cons.mpr ⟨xa_mo133, List.forall_mem_cons.mpr ⟨xa_mo134, List.forall_mem_cons.mpr ⟨xa_mo135, List.forall_mem_cons.mpr ⟨xa_mo136, List.forall_mem_cons.mpr ⟨xa_mo137, List.forall_mem_cons.mpr ⟨xa_mo138, List.forall_mem_cons.mpr ⟨xa_mo139, List.forall_mem_cons.mpr ⟨xa_mo140, List.forall_mem_cons.mpr ⟨xa_mo141, List.forall_mem_cons.mpr ⟨xa_mo142, List.forall_mem_cons.mpr ⟨xa_mo143, List.forall_mem_cons.mpr ⟨xa_mo144, List.forall_mem_cons.mpr ⟨xa_mo145, List.forall_mem_cons.mpr ⟨xa_mo146, List.forall_mem_cons.mpr ⟨xa_mo147, List.forall_mem_cons.mpr ⟨xa_mo148, List.forall_mem_cons.mpr ⟨xa_mo149, List.forall_mem_cons.mpr ⟨xa_mo150, List.forall_mem_cons.mpr ⟨xa_mo151, List.forall_mem_cons.mpr ⟨xa_mo152, List.forall_mem_cons.mpr ⟨xa_mo153, List.forall_mem_cons.mpr ⟨xa_mo154, List.forall_mem_cons.mpr ⟨xa_mo155, List.forall_mem_cons.mpr ⟨xa_mo156, fun _ h => absurd h List.not_mem_nil⟩⟩⟩⟩⟩⟩⟩⟩⟩⟩⟩⟩⟩⟩⟩⟩⟩⟩⟩⟩⟩⟩⟩⟩⟩⟩⟩⟩⟩⟩⟩⟩⟩⟩⟩⟩⟩⟩⟩⟩⟩⟩⟩⟩⟩⟩⟩⟩⟩⟩⟩⟩⟩⟩⟩⟩⟩⟩⟩⟩⟩⟩⟩⟩⟩⟩⟩⟩⟩⟩⟩⟩⟩⟩⟩⟩⟩⟩⟩⟩⟩⟩⟩⟩⟩⟩⟩⟩⟩⟩⟩⟩⟩⟩⟩⟩⟩⟩⟩⟩⟩⟩⟩⟩⟩⟩⟩⟩⟩⟩⟩⟩⟩⟩⟩⟩⟩⟩⟩⟩⟩⟩⟩⟩⟩⟩⟩⟩⟩⟩⟩⟩⟩⟩⟩⟩⟩⟩⟩⟩⟩⟩⟩⟩⟩⟩⟩⟩⟩⟩⟩⟩⟩⟩⟩⟩⟩
end
section
def xa_fl (own : Nat) : List (Nat × Nat × Nat × Nat) := match own with
  | 0 => [(15, 0, 0, 205), (22, 0, 1, 206)]
  | 1 => [(9, 1, 0, 219), (15, 1, 1, 220), (18, 1, 2, 221), (21, 1, 3, 222)]
  | 2 => [(9, 2, 1, 168), (15, 2, 2, 170), (18, 2, 3, 172), (21, 2, 4, 175), (24, 2, 5, 178), (27, 2, 0, 166), (31, 4, 6, 115), (40, 4, 9, 123), (41, 4, 3, 106), (44, 4, 7, 117), (47, 4, 8, 121), (50, 4, 5, 113), (57, 4, 4, 110), (68, 4, 1, 101), (82, 4, 10, 126), (89, 4, 0, 97)]
  | 3 => [(9, 3, 0, 73), (15, 3, 2, 76), (19, 3, 1, 75), (32, 3, 3, 77)]
  | 4 => [(9, 4, 4, 107), (15, 4, 5, 111), (18, 4, 6, 114), (21, 4, 8, 119), (24, 4, 9, 122), (27, 4, 10, 124), (30, 4, 12, 129), (33, 4, 13, 130), (36, 4, 0, 95), (40, 4, 1, 99), (43, 4, 2, 103), (46, 4, 3, 104), (49, 4, 7, 116), (52, 4, 11, 127)]
  | 5 => [(9, 5, 2, 243), (17, 5, 3, 244), (20, 4, 0, 96), (26, 2, 3, 173), (40, 5, 0, 241), (43, 4, 4, 108), (46, 2, 4, 176), (49, 5, 1, 242), (60, 4, 1, 100)]
  | 6 => [(10, 6, 0, 379), (19, 6, 1, 380), (23, 6, 2, 381), (29, 6, 3, 382), (33, 6, 4, 383), (41, 6, 5, 384), (45, 6, 6, 385), (51, 6, 7, 386), (58, 6, 8, 387), (82, 3, 1, 74), (93, 4, 3, 105), (99, 1, 3, 223), (102, 0, 1, 207), (107, 4, 4, 109), (111, 4, 5, 112), (114, 2, 1, 169), (117, 2, 2, 171), (120, 2, 3, 174), (123, 2, 4, 177), (133, 4, 8, 120), (136, 2, 5, 179), (139, 4, 10, 125), (163, 2, 0, 167), (183, 4, 1, 102), (204, 4, 11, 128), (218, 4, 0, 98), (236, 4, 7, 118)]
  | 7 => [(7, 7, 0, 703), (13, 7, 1, 704), (16, 7, 3, 706), (20, 7, 5, 708), (23, 7, 7, 710), (26, 7, 10, 713), (29, 7, 13, 716), (32, 7, 15, 718), (35, 7, 16, 719), (39, 7, 17, 720), (42, 7, 19, 722), (56, 7, 4, 707), (63, 7, 8, 711), (66, 7, 9, 712), (77, 7, 12, 715), (87, 7, 11, 714), (107, 7, 18, 721), (110, 7, 14, 717), (113, 7, 20, 723), (131, 7, 2, 705), (137, 7, 6, 709)]
  | _ => []
def xa_ct (own : Nat) : List (Nat × Nat × Nat × Nat × Nat × Nat × Nat) := match own with
  | 0 => [(1, 5, 0, 0, 198, 0, 0), (7, 6, 0, 0, 199, 0, 0), (21, 4, 7, 1, 204, 163, 0), (26, 0, 2, 1, 470, 471, 472), (29, 0, 9, 2, 474, 475, 476)]
  | 1 => [(3, 5, 0, 0, 218, 0, 0)]
  | 2 => [(3, 5, 0, 0, 165, 0, 0), (36, 3, 91, 2, 370, 371, 0), (53, 0, 15, 4, 518, 439, 440), (60, 0, 39, 2, 519, 520, 521), (64, 0, 40, 2, 523, 524, 525), (71, 0, 18, 2, 506, 507, 508), (75, 0, 20, 3, 510, 511, 512), (79, 0, 19, 2, 527, 528, 529), (85, 0, 16, 4, 514, 515, 516)]
  | 3 => [(3, 5, 0, 0, 72, 0, 0), (23, 0, 29, 1, 311, 312, 313), (28, 0, 24, 2, 315, 316, 317), (35, 0, 31, 4, 331, 332, 333), (39, 0, 25, 2, 319, 320, 321), (42, 0, 27, 3, 327, 328, 329), (46, 0, 26, 2, 323, 324, 325)]
  | 4 => [(3, 5, 0, 0, 94, 0, 0), (55, 3, 91, 2, 429, 371, 0), (59, 0, 32, 2, 335, 336, 337), (63, 0, 33, 2, 342, 343, 344), (66, 0, 34, 2, 346, 347, 348), (69, 0, 35, 4, 350, 351, 352), (73, 0, 36, 4, 354, 355, 356), (76, 0, 38, 3, 362, 363, 364), (80, 3, 77, 3, 339, 340, 0), (83, 0, 37, 4, 358, 359, 360), (87, 0, 40, 2, 589, 524, 525), (91, 6, 0, 0, 614, 0, 0)]
  | 5 => [(3, 5, 0, 0, 238, 0, 0), (31, 7, 0, 0, 569, 0, 0), (37, 6, 0, 0, 570, 0, 0), (52, 0, 45, 4, 571, 572, 573), (56, 0, 19, 2, 576, 528, 529), (63, 0, 46, 3, 577, 578, 579), (67, 0, 16, 4, 575, 515, 516), (71, 0, 47, 4, 581, 582, 583), (75, 0, 41, 3, 585, 586, 587)]
  | 6 => [(1, 5, 0, 0, 64, 0, 0), (9, 4, 21, 1, 69, 70, 0), (18, 4, 28, 1, 91, 92, 0), (28, 4, 7, 1, 162, 163, 0), (38, 2, 0, 2, 195, 196, 0), (50, 4, 4, 1, 215, 216, 0), (57, 4, 43, 1, 235, 236, 0), (64, 9, 0, 0, 255, 0, 0), (70, 10, 0, 0, 265, 0, 0), (74, 0, 22, 2, 303, 304, 305), (78, 0, 23, 2, 307, 308, 309), (85, 0, 8, 2, 366, 367, 368), (89, 1, 77, 3, 412, 340, 0), (96, 0, 30, 2, 425, 426, 427), (103, 0, 78, 2, 434, 436, 0), (126, 0, 15, 4, 438, 439, 440), (130, 0, 79, 2, 446, 448, 1), (142, 0, 80, 2, 454, 456, 2), (145, 0, 10, 2, 458, 459, 460), (148, 0, 11, 3, 462, 463, 464), (152, 0, 1, 2, 466, 467, 468), (156, 0, 12, 3, 478, 479, 480), (160, 0, 13, 2, 486, 487, 488), (166, 0, 14, 3, 498, 499, 500), (170, 0, 17, 3, 502, 503, 504), (174, 0, 3, 2, 535, 536, 537), (177, 0, 9, 2, 543, 475, 476), (179, 0, 82, 2, 548, 550, 3), (186, 0, 83, 3, 557, 559, 4), (190, 0, 44, 4, 565, 566, 567), (194, 0, 48, 4, 590, 591, 592), (197, 0, 84, 4, 598, 600, 5), (201, 1, 81, 2, 607, 608, 0), (207, 0, 42, 2, 610, 611, 612), (210, 0, 5, 4, 623, 624, 625), (212, 0, 85, 3, 635, 637, 6), (215, 0, 86, 2, 647, 649, 7), (221, 1, 89, 2, 655, 656, 0), (224, 1, 90, 2, 658, 659, 0), (227, 1, 87, 2, 665, 666, 0), (230, 0, 88, 2, 672, 674, 8), (233, 0, 18, 2, 552, 507, 508), (239, 0, 37, 4, 602, 359, 360), (243, 0, 6, 4, 639, 640, 641), (254, 0, 40, 2, 676, 524, 525), (257, 7, 0, 0, 373, 0, 0), (262, 8, 0, 0, 376, 0, 0)]
  | 7 => [(1, 5, 0, 0, 694, 0, 0), (45, 0, 94, 5, 695, 697, 9), (49, 0, 95, 1, 699, 701, 10), (52, 1, 92, 3, 774, 775, 0), (73, 0, 107, 1, 797, 799, 14), (80, 0, 108, 4, 793, 795, 13), (84, 0, 109, 4, 789, 791, 12), (91, 0, 110, 1, 803, 805, 15), (94, 0, 111, 1, 807, 809, 16), (97, 0, 112, 1, 811, 813, 17), (100, 0, 113, 1, 785, 787, 11), (103, 0, 114, 1, 819, 782, 783), (116, 0, 104, 2, 845, 847, 23), (120, 0, 103, 2, 911, 913, 34), (123, 0, 116, 3, 849, 851, 24), (127, 0, 117, 3, 907, 909, 33), (134, 0, 119, 1, 915, 917, 35), (140, 0, 118, 1, 903, 905, 32), (143, 0, 99, 2, 829, 831, 19), (146, 0, 96, 2, 824, 826, 18), (152, 0, 100, 2, 833, 835, 20), (155, 0, 101, 2, 837, 839, 21), (158, 0, 102, 2, 841, 843, 22), (161, 0, 97, 2, 857, 859, 25), (166, 0, 98, 2, 866, 868, 26), (169, 0, 124, 1, 870, 872, 27), (172, 0, 125, 3, 874, 876, 28), (176, 0, 126, 2, 882, 884, 29), (182, 0, 121, 2, 895, 897, 30), (185, 0, 120, 2, 899, 901, 31), (190, 0, 132, 1, 928, 930, 36), (193, 0, 133, 1, 932, 934, 37), (196, 0, 136, 2, 944, 946, 38), (199, 1, 138, 3, 956, 957, 0), (203, 0, 139, 3, 952, 954, 39), (206, 0, 142, 3, 971, 973, 41), (209, 0, 143, 4, 967, 969, 40), (214, 0, 148, 2, 992, 994, 42), (217, 0, 150, 2, 1000, 1002, 43)]
  | _ => []
def xa_nt (own : Nat) : List (Nat × Nat × Nat) := match own with
  | 0 => [(13, 2, 202)]
  | 5 => [(15, 99, 239)]
  | 6 => [(7, 3, 67), (16, 4, 89), (26, 2, 160), (36, 0, 193), (48, 1, 213), (55, 5, 233)]
  | _ => []
def xa_lt (own : Nat) : List (Nat × Nat × Nat) := match own with
  | 6 => [(246, 7919, 668), (248, 6151, 669), (250, 65521, 670), (252, 2, 671)]
  | 7 => [(59, 32, 772), (61, 126, 773), (69, 48, 801), (71, 57, 802), (150, 6, 828), (164, 2, 861), (180, 60, 894), (188, 99, 927), (212, 3, 983), (220, 8, 1008), (222, 10, 1009), (224, 9999, 1014), (226, 7919, 1015), (228, 6151, 1016), (230, 65521, 1017)]
  | _ => []
def xa_df (ci : Nat) : List Value := match ci with
  | 0 => [.null, .int 0]
  | 1 => [.null, .null, .null, .int 0]
  | 2 => [.int 0, .null, .null, .null, .null, .null]
  | 3 => [.null, .int 0, .null, .int 0]
  | 4 => [.int 0, .int 0, .int 0, .int 0, .null, .null, .null, .int 0, .null, .null, .null, .int 0, .null, .null]
  | 5 => [.int 0, .int 0, .null, .null]
  | 6 => [.null, .null, .null, .null, .null, .null, .null, .null, .null]
  | 7 => [.null, .null, .int 0, .int 0, .int 0, .int 0, .int 0, .null, .int 0, .int 0, .null, .int 0, .int 0, .null, .int 0, .null, .null, .null, .int 0, .null, .int 0]
  | _ => []
/-- is the field a row of ints, of a boolean, or a reference (0, 1, 2) -/
def xa_ty (ci k : Nat) : Nat := match ci with
  | 0 => [2, 0].getD k 2
  | 1 => [2, 2, 2, 0].getD k 2
  | 2 => [0, 2, 2, 2, 2, 2].getD k 2
  | 3 => [2, 0, 2, 0].getD k 2
  | 4 => [0, 0, 0, 0, 2, 2, 2, 0, 2, 2, 2, 0, 2, 2].getD k 2
  | 5 => [0, 0, 2, 2].getD k 2
  | 6 => [2, 2, 2, 2, 2, 2, 2, 2, 2].getD k 2
  | 7 => [2, 2, 0, 0, 0, 0, 0, 2, 0, 0, 2, 1, 0, 2, 0, 2, 2, 2, 0, 2, 0].getD k 2
  | _ => 2
def xa_fin (ci k : Nat) : Bool := match ci with
  | 0 => [true, false].getD k true
  | 1 => [true, true, true, false].getD k true
  | 2 => [false, true, true, true, true, true].getD k true
  | 3 => [true, false, true, false].getD k true
  | 4 => [false, false, false, false, true, true, true, false, true, true, true, false, true, true].getD k true
  | 5 => [false, false, true, true].getD k true
  | 6 => [true, true, true, true, true, true, true, true, true].getD k true
  | 7 => [true, true, false, false, false, false, false, true, false, false, true, false, false, true, false, true, true, true, false, true, false].getD k true
  | _ => true
abbrev xa_I : Type := Jvm.ClassFile.Instr
abbrev xa_A : Type := Nat × vp_A
abbrev xa_C : Type := xa_A ⊕ (Nat × List Value)
/-- the memory: what a cell holds (arrays by a tag of their kind), where the next cell comes, how many slots were made, where the class's own text lies -/
abbrev xa_M : Type := (Nat → Option xa_C) × Nat × Nat × Nat
abbrev xa_L : Type := Nat → Option Value
abbrev xa_Z : Type := Option Value × xa_M
abbrev xa_J : Type := Nat → Nat → xa_L → List Value → xa_M → xa_Z → Prop
def xa_st (M : xa_M) (a : Nat) (e : xa_C) : xa_M := (fun q => if q = a then some e else M.1 q, M.2)
def xa_al (M : xa_M) (e : xa_C) (n : Nat) : xa_M := (fun q => if q = M.2.1 then some e else M.1 q, M.2.1 + 1, M.2.2.1 + n, M.2.2.2)
def xa_c1 (w : Option Value) : Option Value := match w with
  | some (.int x) => some (.int x)
  | some (.ref a) => some (.ref a)
  | _ => none
def xa_s1 (lv : xa_L) (i : Nat) (v : Value) : xa_L := fun j => if j = i then some v else if j + 1 = i then xa_c1 (lv j) else lv j
def xa_s2 (lv : xa_L) (i : Nat) (v : Value) : xa_L := fun j => if j = i then some v else if j = i + 1 then none else if j + 1 = i then xa_c1 (lv j) else lv j
def xa_ent (As : List Value) : xa_L := fun i => (lv_args 0 As).lookup i
def xa_cst (n : Int) : Int32 := if n < 0 then Int32.ofInt n else nI n.toNat
def xa_tx : List Nat := [110, 57, 59, 99, 52, 59, 103, 50, 59, 115, 48, 44, 48, 44, 49, 59, 115, 49, 44, 48, 44, 50, 59, 115, 50, 44, 49, 44, 51, 59, 115, 51, 44, 49, 44, 48, 59, 115, 48, 44, 50, 44, 48, 59, 109, 48, 44, 48, 44, 49, 59, 109, 49, 44, 49, 44, 50, 59, 119, 48, 44, 51, 59, 119, 50, 44, 54, 59, 119, 53, 44, 57, 59, 119, 51, 44, 53, 59]
-- what an instruction takes
def xa_kli (lv : xa_L) (i : Nat) (K : Int32 → Prop) : Prop := match lv i with
  | some (.int x) => K x
  | _ => False
def xa_klr (lv : xa_L) (i : Nat) (K : Nat → Prop) : Prop := match lv i with
  | some (.ref x) => K x
  | _ => False
def xa_kll (lv : xa_L) (i : Nat) (K : Int64 → Prop) : Prop := match lv i with
  | some (.long x) => K x
  | _ => False
def xa_ki (st : List Value) (K : Int32 → List Value → Prop) : Prop := match st with
  | .int x :: r => K x r
  | _ => False
def xa_kl (st : List Value) (K : Int64 → List Value → Prop) : Prop := match st with
  | .long x :: r => K x r
  | _ => False
def xa_kr (st : List Value) (K : Nat → List Value → Prop) : Prop := match st with
  | .ref x :: r => K x r
  | _ => False
def xa_kii (st : List Value) (K : Int32 → Int32 → List Value → Prop) : Prop := match st with
  | .int y :: .int x :: r => K x y r
  | _ => False
def xa_kk (st : List Value) (K : Int64 → Int64 → List Value → Prop) : Prop := match st with
  | .long y :: .long x :: r => K x y r
  | _ => False
def xa_kir (st : List Value) (K : Nat → Int32 → List Value → Prop) : Prop := match st with
  | .int i :: .ref a :: r => K a i r
  | _ => False
def xa_krr (st : List Value) (K : Nat → Nat → List Value → Prop) : Prop := match st with
  | .ref v :: .ref a :: r => K a v r
  | _ => False
def xa_kiir (st : List Value) (K : Nat → Int32 → Int32 → List Value → Prop) : Prop := match st with
  | .int x :: .int i :: .ref a :: r => K a i x r
  | _ => False
def xa_krir (st : List Value) (K : Nat → Int32 → Nat → List Value → Prop) : Prop := match st with
  | .ref x :: .int i :: .ref a :: r => K a i x r
  | _ => False
def xa_kdup (st : List Value) (K : Value → List Value → Prop) : Prop := match st with
  | .int x :: r => K (.int x) r
  | .ref a :: r => K (.ref a) r
  | _ => False
def xa_kdup2 (st : List Value) (K : Value → Value → List Value → Prop) : Prop := match st with
  | .int x :: .ref a :: r => K (.ref a) (.int x) r
  | _ => False
def xa_kcp (st : List Value) (K : Nat → Int32 → Nat → Int32 → Int32 → List Value → Prop) : Prop := match st with
  | .int n :: .int dp :: .ref d :: .int sp :: .ref s :: r => K s sp d dp n r
  | _ => False
-- the memory's cells
def xa_gf (M : xa_M) (a ci k : Nat) (K : Value → Prop) : Prop := match M.1 a with
  | some (.inr (c, fs)) => c = ci ∧ (match fs[k]? with
    | some v => K v
    | none => False)
  | _ => False
def xa_pf (M : xa_M) (a ci k : Nat) (v : Value) (K : xa_M → Prop) : Prop := match M.1 a with
  | some (.inr (c, fs)) => c = ci ∧ k < fs.length ∧ K (xa_st M a (.inr (c, fs.set k v)))
  | _ => False
def xa_ga (t : Nat) (M : xa_M) (a : Nat) (i : Int32) (K : Int32 → Prop) : Prop := match M.1 a with
  | some (.inl (t', n, .inl f)) => t' = t ∧ vp_in i n ∧ K (f i.toNatClampNeg)
  | _ => False
def xa_pa (t : Nat) (M : xa_M) (a : Nat) (i x : Int32) (K : xa_M → Prop) : Prop := match M.1 a with
  | some (.inl (t', n, .inl f)) => t' = t ∧ vp_in i n ∧ K (xa_st M a (.inl (t', n, .inl (upd f i.toNatClampNeg x))))
  | _ => False
def xa_gq (M : xa_M) (a : Nat) (i : Int32) (K : Nat → Prop) : Prop := match M.1 a with
  | some (.inl (t', n, .inr (.inr (.inr (.inr f))))) => (t' = 3 ∨ t' = 4) ∧ vp_in i n ∧ (match f i.toNatClampNeg with
    | some q => K q
    | none => False)
  | _ => False
def xa_pq (M : xa_M) (a : Nat) (i : Int32) (v : Nat) (K : xa_M → Prop) : Prop := match M.1 a with
  | some (.inl (t', n, .inr (.inr (.inr (.inr f))))) => t' = 3 ∧ vp_in i n ∧ (∃ fs, M.1 v = some (.inr (2, fs))) ∧ K (xa_st M a (.inl (t', n, .inr (.inr (.inr (.inr (va_up f i.toNatClampNeg (some v))))))))
  | _ => False
def xa_gl (M : xa_M) (a : Nat) (K : Int32 → Prop) : Prop := match M.1 a with
  | some (.inl (t, n, _)) => (t = 0 ∨ t = 3) ∧ K (nI n)
  | _ => False
def xa_cp (M : xa_M) (s : Nat) (sp : Int32) (d : Nat) (dp n : Int32) (K : xa_M → Prop) : Prop := match M.1 s, M.1 d with
  | some (.inl (t0, n0, .inl f)), some (.inl (t1, n1, .inl g)) => t0 = 0 ∧ t1 = 0 ∧ ¬ sp < 0 ∧ ¬ dp < 0 ∧ ¬ n < 0 ∧ sp.toNatClampNeg + n.toNatClampNeg ≤ n0 ∧ dp.toNatClampNeg + n.toNatClampNeg ≤ n1 ∧ K (xa_st M d (.inl (t1, n1, .inl (va_cpy f g sp.toNatClampNeg dp.toNatClampNeg n.toNatClampNeg))))
  | _, _ => False
def xa_jmp (pc : Nat) (off : Int) (K : Nat → Prop) : Prop := if 0 ≤ (pc : Int) + off then K ((pc : Int) + off).toNat else False
def xa_args (n : Nat) (st : List Value) (K : List Value → List Value → Prop) : Prop := match n, st with
  | 0, r => K [] r
  | 1, a :: r => K [a] r
  | 2, b :: a :: r => K [a, b] r
  | 3, c :: b :: a :: r => K [a, b, c] r
  | 4, d :: c :: b :: a :: r => K [a, b, c, d] r
  | 5, e :: d :: c :: b :: a :: r => K [a, b, c, d, e] r
  | _, _ => False
def xa_rc (M : xa_M) (ci : Nat) (As : List Value) : Prop := match As with
  | .ref a :: _ => ∃ fs, M.1 a = some (.inr (ci, fs))
  | _ => False
def xa_rf (As : List Value) : Prop := match As with
  | .ref _ :: _ => True
  | _ => False
def xa_w8 (r : List Value) : Prop := (r.map fun v => v.category).sum ≤ 8
def xa_mxl (mid : Nat) : Nat := match xa_mt[mid]? with
  | some q => q.2.2.1
  | none => 0
def xa_fit (mid : Nat) (As : List Value) : Prop := (lg_sl As).length ≤ xa_mxl mid
/-- a call: the callee's answer, and on -/
def xa_kc (R : xa_J) (M : xa_M) (mid : Nat) (As r : List Value) (K : xa_Z → Prop) : Prop := xa_w8 r ∧ xa_fit mid As ∧ ∃ z : xa_Z, R mid 0 (xa_ent As) [] M z ∧ K z
def xa_sw (x : Int32) (pc : Nat) (d lo hi : Int) (offs : Array Int) (K : Nat → Prop) : Prop := if x.toInt < lo ∨ hi < x.toInt then xa_jmp pc d K else (match offs[(x.toInt - lo).toNat]? with
  | some o => xa_jmp pc o K
  | none => False)
def xa_rnk (mid : Nat) : Nat := match xa_mt[mid]? with
  | some q => q.2.2.2.2.2
  | none => 0
def xa_mcl (mid : Nat) : Nat := match xa_mt[mid]? with
  | some q => q.2.2.2.2.1
  | none => 0
def xa_inv (R : xa_J) (q : xa_MI) (kd : Nat → Bool) (idx mid pc : Nat) (lv : xa_L) (st : List Value) (M : xa_M) (res : xa_Z) : Prop :=
  match (xa_ct q.2.2.2.2.1).lookup idx with
  | some (k, m2, n, _) => if kd k = true then
    (if k = 5 then xa_kr st (fun _ r => xa_w8 r ∧ R mid (pc + 3) lv r M res)
    else if k = 6 then xa_kii st (fun x y r => xa_w8 r ∧ R mid (pc + 3) lv (.int (if x < y then y else x) :: r) M res)
    else if k = 7 then xa_kii st (fun x y r => xa_w8 r ∧ R mid (pc + 3) lv (.int (if y < x then y else x) :: r) M res)
    else if k = 8 then xa_kcp st (fun s sp d dp n r => xa_w8 r ∧ xa_cp M s sp d dp n (fun M2 => R mid (pc + 3) lv r M2 res))
    else if k = 9 then xa_kr st (fun a r => a = M.2.2.2 ∧ xa_w8 r ∧ R mid (pc + 3) lv (.int (nI 78) :: r) M res)
    else if k = 10 then xa_kir st (fun a i r => a = M.2.2.2 ∧ vp_in i 78 ∧ xa_w8 r ∧ R mid (pc + 3) lv (.int (nI (xa_tx.getD i.toNatClampNeg 0)) :: r) M res)
    else if k = 0 then xa_args n st (fun As r => xa_rc M (xa_mcl m2) As ∧ xa_kc R M m2 As r (fun z => R mid (pc + 3) lv (z.1.toList ++ r) z.2 res))
    else if k = 2 ∨ k = 4 then xa_args n st (fun As r => xa_rf As ∧ xa_kc R M m2 As r (fun z => R mid (pc + 3) lv (z.1.toList ++ r) z.2 res))
    else if k ≤ 4 then xa_args n st (fun As r => xa_kc R M m2 As r (fun z => R mid (pc + 3) lv (z.1.toList ++ r) z.2 res))
    else False) else False
  | none => False
/-- one instruction of a method -/
def xa_do (R : xa_J) (q : xa_MI) (ins : xa_I) (mid pc : Nat) (lv : xa_L) (st : List Value) (M : xa_M) (res : xa_Z) : Prop :=
  match ins with
  | .iconst n => R mid (pc + 1) lv (.int (xa_cst n) :: st) M res
  | .bipush n => R mid (pc + 2) lv (.int (xa_cst n) :: st) M res
  | .sipush n => R mid (pc + 3) lv (.int (xa_cst n) :: st) M res
  | .lconst n => R mid (pc + 1) lv (.long (lN n.val) :: st) M res
  | .ldc2_w i => (match (xa_lt q.2.2.2.2.1).lookup i with
    | some (v, _) => R mid (pc + 3) lv (.long (lN v) :: st) M res
    | none => False)
  | .iload i => xa_kli lv i (fun x => R mid (pc + 2) lv (.int x :: st) M res)
  | .iload_n i => xa_kli lv i.val (fun x => R mid (pc + 1) lv (.int x :: st) M res)
  | .aload_n i => xa_klr lv i.val (fun x => R mid (pc + 1) lv (.ref x :: st) M res)
  | .lload i => xa_kll lv i (fun x => R mid (pc + 2) lv (.long x :: st) M res)
  | .lload_n i => xa_kll lv i.val (fun x => R mid (pc + 1) lv (.long x :: st) M res)
  | .istore i => xa_ki st (fun x r => R mid (pc + 2) (xa_s1 lv i (.int x)) r M res)
  | .istore_n i => xa_ki st (fun x r => R mid (pc + 1) (xa_s1 lv i.val (.int x)) r M res)
  | .astore_n i => xa_kr st (fun x r => R mid (pc + 1) (xa_s1 lv i.val (.ref x)) r M res)
  | .lstore i => xa_kl st (fun x r => R mid (pc + 2) (xa_s2 lv i (.long x)) r M res)
  | .lstore_n i => xa_kl st (fun x r => R mid (pc + 1) (xa_s2 lv i.val (.long x)) r M res)
  | .iinc i n => xa_kli lv i (fun x => R mid (pc + 3) (xa_s1 lv i (.int (x + xa_cst n))) st M res)
  | .iadd => xa_kii st (fun x y r => R mid (pc + 1) lv (.int (x + y) :: r) M res)
  | .isub => xa_kii st (fun x y r => R mid (pc + 1) lv (.int (x - y) :: r) M res)
  | .imul => xa_kii st (fun x y r => R mid (pc + 1) lv (.int (x * y) :: r) M res)
  | .iand => xa_kii st (fun x y r => R mid (pc + 1) lv (.int (x &&& y) :: r) M res)
  | .ior => xa_kii st (fun x y r => R mid (pc + 1) lv (.int (x ||| y) :: r) M res)
  | .ixor => xa_kii st (fun x y r => R mid (pc + 1) lv (.int (x ^^^ y) :: r) M res)
  | .ishl => xa_kii st (fun x y r => R mid (pc + 1) lv (.int (x <<< (y &&& 31)) :: r) M res)
  | .ishr => xa_kii st (fun x y r => R mid (pc + 1) lv (.int (x >>> (y &&& 31)) :: r) M res)
  | .idiv => xa_kii st (fun x y r => ¬ y = 0 ∧ R mid (pc + 1) lv (.int (x / y) :: r) M res)
  | .irem => xa_kii st (fun x y r => ¬ y = 0 ∧ R mid (pc + 1) lv (.int (x - x / y * y) :: r) M res)
  | .ladd => xa_kk st (fun x y r => R mid (pc + 1) lv (.long (x + y) :: r) M res)
  | .lmul => xa_kk st (fun x y r => R mid (pc + 1) lv (.long (x * y) :: r) M res)
  | .ldiv => xa_kk st (fun x y r => ¬ y = 0 ∧ R mid (pc + 1) lv (.long (x / y) :: r) M res)
  | .lrem => xa_kk st (fun x y r => ¬ y = 0 ∧ R mid (pc + 1) lv (.long (x - x / y * y) :: r) M res)
  | .lcmp => xa_kk st (fun x y r => R mid (pc + 1) lv (.int (lg_cmp x y) :: r) M res)
  | .i2l => xa_ki st (fun x r => R mid (pc + 1) lv (.long x.toInt64 :: r) M res)
  | .l2i => xa_kl st (fun x r => R mid (pc + 1) lv (.int x.toInt32 :: r) M res)
  | .i2c => xa_ki st (fun x r => R mid (pc + 1) lv (.int (x.toUInt32 % 65536).toInt32 :: r) M res)
  | .dup => xa_kdup st (fun v r => R mid (pc + 1) lv (v :: v :: r) M res)
  | .dup2 => xa_kdup2 st (fun v u r => R mid (pc + 1) lv (u :: v :: u :: v :: r) M res)
  | .pop => xa_kdup st (fun _ r => R mid (pc + 1) lv r M res)
  | .goto o => xa_jmp pc o (fun t => R mid t lv st M res)
  | .ifCond .eq o => xa_ki st (fun x r => if x = 0 then xa_jmp pc o (fun t => R mid t lv r M res) else R mid (pc + 3) lv r M res)
  | .ifCond .ne o => xa_ki st (fun x r => if x = 0 then R mid (pc + 3) lv r M res else xa_jmp pc o (fun t => R mid t lv r M res))
  | .ifCond .lt o => xa_ki st (fun x r => if x < 0 then xa_jmp pc o (fun t => R mid t lv r M res) else R mid (pc + 3) lv r M res)
  | .ifCond .ge o => xa_ki st (fun x r => if 0 ≤ x then xa_jmp pc o (fun t => R mid t lv r M res) else R mid (pc + 3) lv r M res)
  | .ifCond .gt o => xa_ki st (fun x r => if 0 < x then xa_jmp pc o (fun t => R mid t lv r M res) else R mid (pc + 3) lv r M res)
  | .ifCond .le o => xa_ki st (fun x r => if x ≤ 0 then xa_jmp pc o (fun t => R mid t lv r M res) else R mid (pc + 3) lv r M res)
  | .if_icmp .eq o => xa_kii st (fun x y r => if x = y then xa_jmp pc o (fun t => R mid t lv r M res) else R mid (pc + 3) lv r M res)
  | .if_icmp .ne o => xa_kii st (fun x y r => if x = y then R mid (pc + 3) lv r M res else xa_jmp pc o (fun t => R mid t lv r M res))
  | .if_icmp .lt o => xa_kii st (fun x y r => if x < y then xa_jmp pc o (fun t => R mid t lv r M res) else R mid (pc + 3) lv r M res)
  | .if_icmp .ge o => xa_kii st (fun x y r => if y ≤ x then xa_jmp pc o (fun t => R mid t lv r M res) else R mid (pc + 3) lv r M res)
  | .if_icmp .gt o => xa_kii st (fun x y r => if y < x then xa_jmp pc o (fun t => R mid t lv r M res) else R mid (pc + 3) lv r M res)
  | .if_icmp .le o => xa_kii st (fun x y r => if x ≤ y then xa_jmp pc o (fun t => R mid t lv r M res) else R mid (pc + 3) lv r M res)
  | .tableswitch d lo hi offs => xa_ki st (fun x r => xa_sw x pc d lo hi offs (fun t => R mid t lv r M res))
  | .lookupswitch d ps => xa_ki st (fun x r => xa_jmp pc (Op.lookupswitch.offset ps.toList d x.toInt) (fun t => R mid t lv r M res))
  | .getfield i => (match (xa_fl q.2.2.2.2.1).lookup i with
    | some (ci, k, _) => xa_kr st (fun a r => xa_gf M a ci k (fun v => R mid (pc + 3) lv (v :: r) M res))
    | none => False)
  | .putfield i => (match (xa_fl q.2.2.2.2.1).lookup i with
    | some (ci, k, _) => if xa_ty ci k = 0 then xa_kir st (fun a x r => xa_pf M a ci k (.int x) (fun M2 => R mid (pc + 3) lv r M2 res))
      else if xa_ty ci k = 1 then xa_kir st (fun a x r => (x = 0 ∨ x = 1) ∧ xa_pf M a ci k (.int x) (fun M2 => R mid (pc + 3) lv r M2 res))
      else xa_krr st (fun a x r => xa_pf M a ci k (.ref x) (fun M2 => R mid (pc + 3) lv r M2 res))
    | none => False)
  | .iaload => xa_kir st (fun a i r => xa_ga 0 M a i (fun v => R mid (pc + 1) lv (.int v :: r) M res))
  | .caload => xa_kir st (fun a i r => xa_ga 1 M a i (fun v => R mid (pc + 1) lv (.int v :: r) M res))
  | .baload => xa_kir st (fun a i r => xa_ga 2 M a i (fun v => R mid (pc + 1) lv (.int v :: r) M res))
  | .iastore => xa_kiir st (fun a i x r => xa_pa 0 M a i x (fun M2 => R mid (pc + 1) lv r M2 res))
  | .castore => xa_kiir st (fun a i x r => xa_pa 1 M a i (vp_nar .char x) (fun M2 => R mid (pc + 1) lv r M2 res))
  | .bastore => xa_kiir st (fun a i x r => xa_pa 2 M a i (vp_nar .boolean x) (fun M2 => R mid (pc + 1) lv r M2 res))
  | .aaload => xa_kir st (fun a i r => xa_gq M a i (fun v => R mid (pc + 1) lv (.ref v :: r) M res))
  | .aastore => xa_krir st (fun a i x r => xa_pq M a i x (fun M2 => R mid (pc + 1) lv r M2 res))
  | .arraylength => xa_kr st (fun a r => xa_gl M a (fun v => R mid (pc + 1) lv (.int v :: r) M res))
  | .new i => (match (xa_nt q.2.2.2.2.1).lookup i with
    | some (ci, _) => R mid (pc + 3) lv (.ref M.2.1 :: st) (xa_al M (.inr (ci, xa_df ci)) (xa_df ci).length) res
    | none => False)
  | .newarray .int => xa_ki st (fun n r => ¬ n < 0 ∧ n.toNatClampNeg ≤ 2000 ∧ R mid (pc + 2) lv (.ref M.2.1 :: r) (xa_al M (.inl (0, n.toNatClampNeg, .inl (fun _ => 0))) n.toNatClampNeg) res)
  | .newarray .char => xa_ki st (fun n r => ¬ n < 0 ∧ n.toNatClampNeg ≤ 2000 ∧ R mid (pc + 2) lv (.ref M.2.1 :: r) (xa_al M (.inl (1, n.toNatClampNeg, .inl (fun _ => 0))) n.toNatClampNeg) res)
  | .newarray .boolean => xa_ki st (fun n r => ¬ n < 0 ∧ n.toNatClampNeg ≤ 2000 ∧ R mid (pc + 2) lv (.ref M.2.1 :: r) (xa_al M (.inl (2, n.toNatClampNeg, .inl (fun _ => 0))) n.toNatClampNeg) res)
  | .anewarray i => (match (xa_nt q.2.2.2.2.1).lookup i with
    | some (ci, _) => xa_ki st (fun n r => ci = 2 ∧ ¬ n < 0 ∧ n.toNatClampNeg ≤ 2000 ∧ R mid (pc + 3) lv (.ref M.2.1 :: r) (xa_al M (.inl (3, n.toNatClampNeg, .inr (.inr (.inr (.inr (fun _ => none)))))) n.toNatClampNeg) res)
    | none => False)
  | .multianewarray i 2 => (match (xa_nt q.2.2.2.2.1).lookup i with
    | some (_, _) => xa_kii st (fun n k r => (n = nI 2 ∧ k = nI 61) ∧ R mid (pc + 4) lv (.ref M.2.1 :: r) (xa_al (xa_al (xa_al M (.inl (4, 2, .inr (.inr (.inr (.inr (fun i => if i < 2 then some (M.2.1 + 1 + i) else none)))))) 2) (.inl (0, 61, .inl (fun _ => 0))) 61) (.inl (0, 61, .inl (fun _ => 0))) 61) res)
    | none => False)
  | .ldc i => (q.2.2.2.2.1 = 6 ∧ i = 62) ∧ R mid (pc + 2) lv (.ref M.2.2.2 :: st) M res
  | .invokespecial i => xa_inv R q (fun k => k == 2 || k == 4 || k == 5) i mid pc lv st M res
  | .invokestatic i => xa_inv R q (fun k => k == 1 || k == 3 || k == 6 || k == 7 || k == 8) i mid pc lv st M res
  | .invokevirtual i => xa_inv R q (fun k => k == 0 || k == 9 || k == 10) i mid pc lv st M res
  | .ireturn => (match st with
    | [.int v] => (if q.2.2.2.1 = some .int then res = (some (.int v), M) else q.2.2.2.1 = some .boolean ∧ (v = 0 ∨ v = 1) ∧ res = (some (.int v), M))
    | _ => False)
  | .return_ => (match st with
    | [] => q.2.2.2.1 = none ∧ res = (none, M)
    | _ => False)
  | _ => False
/-- what can be seen of an instruction ahead: its length, its numbers, the rank of the callee -/
def xa_ok (q : xa_MI) (pc : Nat) (ins : xa_I) (len : Nat) : Bool := match ins with
  | .bipush n => len == 2 && (decide (-128 ≤ n) && decide (n ≤ 127))
  | .sipush n => len == 3 && (decide (-32768 ≤ n) && decide (n ≤ 32767))
  | .ldc2_w _ => len == 3
  | .iload _ => len == 2
  | .lload _ => len == 2
  | .istore i => len == 2 && decide (i < q.2.2.1)
  | .istore_n i => len == 1 && decide (i.val < q.2.2.1)
  | .astore_n i => len == 1 && decide (i.val < q.2.2.1)
  | .lstore i => len == 2 && decide (i + 1 < q.2.2.1)
  | .lstore_n i => len == 1 && decide (i.val + 1 < q.2.2.1)
  | .iinc i _ => len == 3 && decide (i < q.2.2.1)
  | .goto _ => len == 3
  | .ifCond _ o => len == 3 && decide (0 ≤ (pc : Int) + o)
  | .if_icmp _ o => len == 3 && decide (0 ≤ (pc : Int) + o)
  | .tableswitch _ _ _ _ => true
  | .lookupswitch _ ps => (ps.toList.zip (ps.toList.drop 1)).all (fun (a, next) => a.1 < next.1)
  | .getfield _ => len == 3
  | .putfield i => len == 3 && (match (xa_fl q.2.2.2.2.1).lookup i with
    | some (ci, k, _) => if xa_fin ci k then q.1.name == "<init>" && ci == q.2.2.2.2.1 else true
    | none => false)
  | .new i => len == 3 && (match (xa_nt q.2.2.2.2.1).lookup i with
    | some (ci, _) => decide (ci < 8)
    | none => false)
  | .newarray _ => len == 2
  | .anewarray _ => len == 3
  | .invokespecial i => len == 3 && (match (xa_ct q.2.2.2.2.1).lookup i with
    | some (k, m2, _, _) => if k = 5 then decide (0 < q.2.2.2.2.2) else decide (xa_rnk m2 < q.2.2.2.2.2)
    | none => false)
  | .invokestatic i => len == 3 && (match (xa_ct q.2.2.2.2.1).lookup i with
    | some (k, m2, _, _) => if 5 ≤ k then decide (0 < q.2.2.2.2.2) else decide (xa_rnk m2 < q.2.2.2.2.2)
    | none => false)
  | .multianewarray i _ => len == 4 && (match (xa_nt q.2.2.2.2.1).lookup i with
    | some (ci, _) => !(decide (ci < 8))
    | none => false)
  | .ldc _ => len == 2
  | .invokevirtual i => len == 3 && (match (xa_ct q.2.2.2.2.1).lookup i with
    | some (k, m2, _, _) => if 5 ≤ k then decide (4 ≤ q.2.2.2.2.2) else decide (xa_rnk m2 < q.2.2.2.2.2)
    | none => false)
  | _ => len == 1
def xa_fet (q : xa_MI) (pc : Nat) : Option xa_I := match decode q.2.1 pc with
  | .ok (ins, len) => if xa_ok q pc ins len = true then some ins else none
  | .error _ => none
def xa_F (R : xa_J) : xa_J := fun mid pc lv st M res => ∃ (q : xa_MI) (ins : xa_I), xa_mt[mid]? = some q ∧ xa_fet q pc = some ins ∧ xa_do R q ins mid pc lv st M res
/-- THE JUDGEMENT: method mid, at pc with these locals, this stack and memory, comes to its end with res: the least one -/
def xa_E : xa_J := fun mid pc lv st M res => ∀ R : xa_J, (∀ mid pc lv st M res, xa_F R mid pc lv st M res → R mid pc lv st M res) → R mid pc lv st M res
section XaMono
variable {R R' : xa_J} (h : ∀ mid pc lv st M res, R mid pc lv st M res → R' mid pc lv st M res)
theorem xa_jmp_mono {pc : Nat} {o : Int} {K K' : Nat → Prop} (hK : ∀ t, K t → K' t) (x : xa_jmp pc o K) : xa_jmp pc o K' := by
  unfold xa_jmp at x ⊢
  split at x
  · rename_i c; rw [if_pos c]; exact hK _ x
  · exact x.elim
theorem xa_args_mono {n : Nat} {st : List Value} {K K' : List Value → List Value → Prop} (hK : ∀ a r, K a r → K' a r) (x : xa_args n st K) : xa_args n st K' := by
  unfold xa_args at x ⊢
  split at x <;> first | exact hK _ _ x | exact x.elim
theorem xa_kc_mono {M : xa_M} {m : Nat} {As r : List Value} {K K' : xa_Z → Prop} (h : ∀ mid pc lv st M res, R mid pc lv st M res → R' mid pc lv st M res) (hK : ∀ z, K z → K' z) (x : xa_kc R M m As r K) : xa_kc R' M m As r K' := by
  obtain ⟨h1, h0, z, h2, h3⟩ := x
  exact ⟨h1, h0, z, h _ _ _ _ _ _ h2, hK z h3⟩
theorem xa_inv_mono (h : ∀ mid pc lv st M res, R mid pc lv st M res → R' mid pc lv st M res) {q : xa_MI} {kd : Nat → Bool} {i mid pc : Nat} {lv : xa_L} {st : List Value} {M : xa_M} {res : xa_Z} (x : xa_inv R q kd i mid pc lv st M res) : xa_inv R' q kd i mid pc lv st M res := by
  unfold xa_inv at x ⊢
  split at x
  · split at x
    · rename_i hk
      rw [if_pos hk]
      split at x
      · rename_i h5; rw [if_pos h5]; unfold xa_kr at x ⊢; split at x
        · exact ⟨x.1, h _ _ _ _ _ _ x.2⟩
        · exact x.elim
      · rename_i h5; rw [if_neg h5]
        split at x
        · rename_i h5; rw [if_pos h5]; unfold xa_kii at x ⊢; split at x
          · exact ⟨x.1, h _ _ _ _ _ _ x.2⟩
          · exact x.elim
        · rename_i h5; rw [if_neg h5]
          split at x
          · rename_i h5; rw [if_pos h5]; unfold xa_kii at x ⊢; split at x
            · exact ⟨x.1, h _ _ _ _ _ _ x.2⟩
            · exact x.elim
          · rename_i h5; rw [if_neg h5]
            split at x
            · rename_i h5; rw [if_pos h5]; unfold xa_kcp at x ⊢; split at x
              · refine ⟨x.1, ?_⟩
                have x := x.2
                unfold xa_cp at x ⊢
                split at x
                · obtain ⟨a1, a2, a3, a4, a5, a6, a7, a8⟩ := x
                  exact ⟨a1, a2, a3, a4, a5, a6, a7, h _ _ _ _ _ _ a8⟩
                · exact x.elim
              · exact x.elim
            · rename_i h5; rw [if_neg h5]
              split at x
              · rename_i h5; rw [if_pos h5]; unfold xa_kr at x ⊢; split at x
                · exact ⟨x.1, x.2.1, h _ _ _ _ _ _ x.2.2⟩
                · exact x.elim
              · rename_i h5; rw [if_neg h5]
                split at x
                · rename_i h5; rw [if_pos h5]; unfold xa_kir at x ⊢; split at x
                  · exact ⟨x.1, x.2.1, x.2.2.1, h _ _ _ _ _ _ x.2.2.2⟩
                  · exact x.elim
                · rename_i h5; rw [if_neg h5]
                  split at x
                  · rename_i h5; rw [if_pos h5]
                    exact xa_args_mono (fun a r y => ⟨y.1, xa_kc_mono h (fun z y => h _ _ _ _ _ _ y) y.2⟩) x
                  · rename_i h5; rw [if_neg h5]
                    split at x
                    · rename_i h5; rw [if_pos h5]
                      exact xa_args_mono (fun a r y => ⟨y.1, xa_kc_mono h (fun z y => h _ _ _ _ _ _ y) y.2⟩) x
                    · rename_i h5; rw [if_neg h5]
                      split at x
                      · rename_i h5; rw [if_pos h5]
                        exact xa_args_mono (fun a r y => xa_kc_mono h (fun z y => h _ _ _ _ _ _ y) y) x
                      · exact x.elim
    · exact x.elim
  · exact x.elim
theorem xa_do_mono (h : ∀ mid pc lv st M res, R mid pc lv st M res → R' mid pc lv st M res) {q : xa_MI} {ins : xa_I} {mid pc : Nat} {lv : xa_L} {st : List Value} {M : xa_M} {res : xa_Z} (x : xa_do R q ins mid pc lv st M res) : xa_do R' q ins mid pc lv st M res := by
  unfold xa_do at x ⊢
  split at x
  all_goals first
    | exact h _ _ _ _ _ _ x
    | exact x.elim
    | exact x
    | exact xa_inv_mono h x
    | exact ⟨x.1, h _ _ _ _ _ _ x.2⟩
    | (split at x <;> first | exact x.elim | (unfold xa_kii at x ⊢; split at x <;> first | exact ⟨x.1, h _ _ _ _ _ _ x.2⟩ | exact x.elim))
    | exact xa_jmp_mono (fun t y => h _ _ _ _ _ _ y) x
    | (unfold xa_kli at x ⊢; split at x <;> first | exact h _ _ _ _ _ _ x | exact x.elim)
    | (unfold xa_klr at x ⊢; split at x <;> first | exact h _ _ _ _ _ _ x | exact x.elim)
    | (unfold xa_kll at x ⊢; split at x <;> first | exact h _ _ _ _ _ _ x | exact x.elim)
    | (unfold xa_kl at x ⊢; split at x <;> first | exact h _ _ _ _ _ _ x | exact x.elim)
    | (unfold xa_kdup at x ⊢; split at x <;> first | exact h _ _ _ _ _ _ x | exact x.elim)
    | (unfold xa_kdup2 at x ⊢; split at x <;> first | exact h _ _ _ _ _ _ x | exact x.elim)
    | (unfold xa_kk at x ⊢; split at x <;> first | exact h _ _ _ _ _ _ x | exact ⟨x.1, h _ _ _ _ _ _ x.2⟩ | exact x.elim)
    | (unfold xa_kii at x ⊢; split at x <;> first | exact h _ _ _ _ _ _ x | exact ⟨x.1, h _ _ _ _ _ _ x.2⟩ | exact x.elim | (split at x <;> rename_i c <;> first | (rw [if_pos c]; first | exact h _ _ _ _ _ _ x | exact xa_jmp_mono (fun t y => h _ _ _ _ _ _ y) x) | (rw [if_neg c]; first | exact h _ _ _ _ _ _ x | exact xa_jmp_mono (fun t y => h _ _ _ _ _ _ y) x)))
    | (unfold xa_ki at x ⊢; split at x <;> first | exact h _ _ _ _ _ _ x | exact x.elim | exact ⟨x.1, x.2.1, h _ _ _ _ _ _ x.2.2⟩ | exact xa_jmp_mono (fun t y => h _ _ _ _ _ _ y) x | (split at x <;> rename_i c <;> first | (rw [if_pos c]; first | exact h _ _ _ _ _ _ x | exact xa_jmp_mono (fun t y => h _ _ _ _ _ _ y) x) | (rw [if_neg c]; first | exact h _ _ _ _ _ _ x | exact xa_jmp_mono (fun t y => h _ _ _ _ _ _ y) x)) | (unfold xa_sw at x ⊢; split at x <;> rename_i c <;> first | (rw [if_pos c]; exact xa_jmp_mono (fun t y => h _ _ _ _ _ _ y) x) | (rw [if_neg c]; split at x <;> first | exact xa_jmp_mono (fun t y => h _ _ _ _ _ _ y) x | exact x.elim)))
    | (unfold xa_kir at x ⊢; split at x <;> first | exact x.elim | (unfold xa_ga at x ⊢; split at x <;> first | exact ⟨x.1, x.2.1, h _ _ _ _ _ _ x.2.2⟩ | exact x.elim) | (unfold xa_gq at x ⊢; split at x <;> first | (refine ⟨x.1, x.2.1, ?_⟩; have x := x.2.2; split at x <;> first | exact h _ _ _ _ _ _ x | exact x.elim) | exact x.elim))
    | (unfold xa_kr at x ⊢; split at x <;> first | exact x.elim | exact h _ _ _ _ _ _ x | (unfold xa_gl at x ⊢; split at x <;> first | exact ⟨x.1, h _ _ _ _ _ _ x.2⟩ | exact x.elim))
    | (unfold xa_kiir xa_pa at x ⊢; split at x <;> first | exact x.elim | (split at x <;> first | exact ⟨x.1, x.2.1, h _ _ _ _ _ _ x.2.2⟩ | exact x.elim))
    | (unfold xa_krir xa_pq at x ⊢; split at x <;> first | exact x.elim | (split at x <;> first | exact ⟨x.1, x.2.1, x.2.2.1, h _ _ _ _ _ _ x.2.2.2⟩ | exact x.elim))
    | (split at x <;> first | exact h _ _ _ _ _ _ x | exact x.elim | (unfold xa_ki at x ⊢; split at x <;> first | exact x.elim | exact ⟨x.1, x.2.1, x.2.2.1, h _ _ _ _ _ _ x.2.2.2⟩) | (unfold xa_kr xa_gf at x ⊢; split at x <;> first | exact x.elim | (split at x <;> first | exact x.elim | (refine ⟨x.1, ?_⟩; have x := x.2; split at x <;> first | exact h _ _ _ _ _ _ x | exact x.elim))) | (split at x <;> rename_i c <;> first | (rw [if_pos c]; unfold xa_kir xa_pf at x ⊢; split at x <;> first | exact x.elim | (split at x <;> first | exact ⟨x.1, x.2.1, h _ _ _ _ _ _ x.2.2⟩ | exact x.elim)) | (rw [if_neg c]; split at x <;> rename_i c <;> first | (rw [if_pos c]; unfold xa_kir xa_pf at x ⊢; split at x <;> first | exact x.elim | (refine ⟨x.1, ?_⟩; have x := x.2; split at x <;> first | exact ⟨x.1, x.2.1, h _ _ _ _ _ _ x.2.2⟩ | exact x.elim)) | (rw [if_neg c]; unfold xa_krr xa_pf at x ⊢; split at x <;> first | exact x.elim | (split at x <;> first | exact ⟨x.1, x.2.1, h _ _ _ _ _ _ x.2.2⟩ | exact x.elim)))))
end XaMono
theorem xa_F_mono {R R' : xa_J} (h : ∀ mid pc lv st M res, R mid pc lv st M res → R' mid pc lv st M res) {mid pc : Nat} {lv : xa_L} {st : List Value} {M : xa_M} {res : xa_Z} (x : xa_F R mid pc lv st M res) : xa_F R' mid pc lv st M res := by
  obtain ⟨q, ins, h1, h2, h3⟩ := x
  exact ⟨q, ins, h1, h2, xa_do_mono h h3⟩
theorem xa_E_in {mid pc : Nat} {lv : xa_L} {st : List Value} {M : xa_M} {res : xa_Z} (x : xa_F xa_E mid pc lv st M res) : xa_E mid pc lv st M res :=
  fun R hR => hR _ _ _ _ _ _ (xa_F_mono (fun _ _ _ _ _ _ y => y R hR) x)
theorem xa_E_out {mid pc : Nat} {lv : xa_L} {st : List Value} {M : xa_M} {res : xa_Z} (x : xa_E mid pc lv st M res) : xa_F xa_E mid pc lv st M res :=
  x (xa_F xa_E) (fun _ _ _ _ _ _ y => xa_F_mono (fun _ _ _ _ _ _ z => xa_E_in z) y)
/-- a row of the walk: an instruction -/
theorem xa_row {q : xa_MI} {ins : xa_I} {mid pc : Nat} {lv : xa_L} {st : List Value} {M : xa_M} {res : xa_Z} (h1 : xa_mt[mid]? = some q) (h2 : xa_fet q pc = some ins) : xa_E mid pc lv st M res ↔ xa_do xa_E q ins mid pc lv st M res := by
  constructor
  · intro x
    obtain ⟨q', i', a, b, c⟩ := xa_E_out x
    cases h1.symm.trans a
    cases h2.symm.trans b
    exact c
  · intro x
    exact xa_E_in ⟨q, ins, h1, h2, x⟩
end
section
theorem xa_lkm {α : Type} {l : List (Nat × α)} {i : Nat} {v : α} (h : l.lookup i = some v) : (i, v) ∈ l := by
  induction l with
  | nil => cases h
  | cons x l ih =>
    obtain ⟨j, w⟩ := x
    rw [List.lookup_cons] at h
    by_cases e : (i == j) = true
    · rw [e] at h
      simp only [beq_iff_eq] at e
      cases h
      subst e
      exact List.mem_cons_self
    · rw [Bool.not_eq_true] at e
      rw [e] at h
      exact List.mem_cons_of_mem _ (ih h)
def xa_tyf (ci : Nat) : Nat → FieldType := match ci with
  | 0 => tyX0
  | 1 => tyX1
  | 2 => tyX2
  | 3 => tyX3
  | 4 => tyX4
  | 5 => tyX5
  | 6 => tyX6
  | 7 => tyX7
  | _ => fun _ => .int
def xa_cn (i : Nat) : String := ((xa_cl[i]?).map (fun z => z.1)).getD ""
def xa_flc (own : Nat) (e : Nat × Nat × Nat × Nat) : Bool := match xa_cl[e.2.1]? with
  | some (C, T, N) => decide (e.2.2.1 < N ∧ (T e.2.2.1).1 = C ∧ (T e.2.2.1).2.2.2 = xa_fin e.2.1 e.2.2.1 ∧ lw_tbl[e.2.2.2]? = some (.fieldLink (xa_cn own) e.1 C (T e.2.2.1).2.1 (T e.2.2.1).2.2.1))
  | none => false
set_option maxRecDepth 100000 in
theorem xa_flt0 : ∀ e ∈ xa_fl 0, xa_flc 0 e = true := by decide +kernel
set_option maxRecDepth 100000 in
theorem xa_flt1 : ∀ e ∈ xa_fl 1, xa_flc 1 e = true := by decide +kernel
set_option maxRecDepth 100000 in
theorem xa_flt2 : ∀ e ∈ xa_fl 2, xa_flc 2 e = true := by decide +kernel
set_option maxRecDepth 100000 in
theorem xa_flt3 : ∀ e ∈ xa_fl 3, xa_flc 3 e = true := by decide +kernel
set_option maxRecDepth 100000 in
theorem xa_flt4 : ∀ e ∈ xa_fl 4, xa_flc 4 e = true := by decide +kernel
set_option maxRecDepth 100000 in
theorem xa_flt5 : ∀ e ∈ xa_fl 5, xa_flc 5 e = true := by decide +kernel
set_option maxRecDepth 100000 in
theorem xa_flt6 : ∀ e ∈ xa_fl 6, xa_flc 6 e = true := by decide +kernel
set_option maxRecDepth 100000 in
theorem xa_flt7 : ∀ e ∈ xa_fl 7, xa_flc 7 e = true := by decide +kernel
theorem xa_flt (own : Nat) : ∀ e ∈ xa_fl own, xa_flc own e = true := by
  match own with
  | 0 => exact xa_flt0
  | 1 => exact xa_flt1
  | 2 => exact xa_flt2
  | 3 => exact xa_flt3
  | 4 => exact xa_flt4
  | 5 => exact xa_flt5
  | 6 => exact xa_flt6
  | 7 => exact xa_flt7
  | n + 8 => intro e h; cases h
theorem xa_cn_own {q : xa_MI} (hm : xa_mok q) : xa_cn q.2.2.2.2.1 = q.1.cls := by
  unfold xa_cn
  rw [hm.2.2.2.2.2.2]
  rfl
theorem xa_fl_ok {q : xa_MI} (hm : xa_mok q) {i ci k pl : Nat} (h : (xa_fl q.2.2.2.2.1).lookup i = some (ci, k, pl)) : ∃ (C : String) (T : u_T) (N : Nat), xa_cl[ci]? = some (C, T, N) ∧ k < N ∧ (T k).1 = C ∧ xa_in (.fieldLink q.1.cls i C (T k).2.1 (T k).2.2.1) ∧ (T k).2.2.2 = xa_fin ci k := by
  have h1 := xa_flt _ _ (xa_lkm h)
  unfold xa_flc at h1
  dsimp only at h1
  split at h1
  · rename_i C T N hc
    obtain ⟨a1, a2, a3, a4⟩ := of_decide_eq_true h1
    rw [xa_cn_own hm] at a4
    exact ⟨C, T, N, hc, a1, a2, xa_pl pl a4 rfl, a3⟩
  · cases h1
def xa_cok (ci : Nat) (z : vw_C) : Prop := (∀ w ∈ u_ws z.1 z.2.1 z.2.2, xa_in w) ∧ (∀ k, k < z.2.2 → parseFieldDescriptor (z.2.1 k).2.2.1 = some (xa_tyf ci k)) ∧ (∀ a, a < z.2.2 → ∀ b, b < z.2.2 → a ≠ b → (z.2.1 a).2.1 ≠ (z.2.1 b).2.1) ∧ z.2.2 = (xa_df ci).length ∧ (∀ j, j < z.2.2 → defaultValue (xa_tyf ci j) = vp_V (xa_df ci) j) ∧ xa_in (.instantiable z.1 z.2.2) ∧ xa_in (.initialized z.1)
set_option maxRecDepth 100000 in
theorem xa_ckm0 : ∀ w ∈ u_ws RX0 TX0 2, w ∈ lw_tbl := by decide +kernel
set_option maxRecDepth 100000 in
theorem xa_ckg0 : ∀ w ∈ u_ws RX0 TX0 2, goodWord w = true := by decide +kernel
theorem xa_cku0 : ∀ w ∈ u_ws RX0 TX0 2, xa_in w := fun w hw => ⟨xa_ckm0 w hw, xa_ckg0 w hw⟩
set_option maxRecDepth 100000 in
theorem xa_ck0 : xa_cok 0 (RX0, TX0, 2) := ⟨xa_cku0, tyX0_ok, nmX0, rfl, by decide +kernel, xa_pl 194 rfl rfl, xa_pl 49 rfl rfl⟩
set_option maxRecDepth 100000 in
theorem xa_ckm1 : ∀ w ∈ u_ws RX1 TX1 4, w ∈ lw_tbl := by decide +kernel
set_option maxRecDepth 100000 in
theorem xa_ckg1 : ∀ w ∈ u_ws RX1 TX1 4, goodWord w = true := by decide +kernel
theorem xa_cku1 : ∀ w ∈ u_ws RX1 TX1 4, xa_in w := fun w hw => ⟨xa_ckm1 w hw, xa_ckg1 w hw⟩
set_option maxRecDepth 100000 in
theorem xa_ck1 : xa_cok 1 (RX1, TX1, 4) := ⟨xa_cku1, tyX1_ok, nmX1, rfl, by decide +kernel, xa_pl 214 rfl rfl, xa_pl 51 rfl rfl⟩
set_option maxRecDepth 100000 in
theorem xa_ckm2 : ∀ w ∈ u_ws RX2 TX2 6, w ∈ lw_tbl := by decide +kernel
set_option maxRecDepth 100000 in
theorem xa_ckg2 : ∀ w ∈ u_ws RX2 TX2 6, goodWord w = true := by decide +kernel
theorem xa_cku2 : ∀ w ∈ u_ws RX2 TX2 6, xa_in w := fun w hw => ⟨xa_ckm2 w hw, xa_ckg2 w hw⟩
set_option maxRecDepth 100000 in
theorem xa_ck2 : xa_cok 2 (RX2, TX2, 6) := ⟨xa_cku2, tyX2_ok, nmX2, rfl, by decide +kernel, xa_pl 161 rfl rfl, xa_pl 48 rfl rfl⟩
set_option maxRecDepth 100000 in
theorem xa_ckm3 : ∀ w ∈ u_ws RX3 TX3 4, w ∈ lw_tbl := by decide +kernel
set_option maxRecDepth 100000 in
theorem xa_ckg3 : ∀ w ∈ u_ws RX3 TX3 4, goodWord w = true := by decide +kernel
theorem xa_cku3 : ∀ w ∈ u_ws RX3 TX3 4, xa_in w := fun w hw => ⟨xa_ckm3 w hw, xa_ckg3 w hw⟩
set_option maxRecDepth 100000 in
theorem xa_ck3 : xa_cok 3 (RX3, TX3, 4) := ⟨xa_cku3, tyX3_ok, nmX3, rfl, by decide +kernel, xa_pl 68 rfl rfl, xa_pl 46 rfl rfl⟩
set_option maxRecDepth 100000 in
theorem xa_ckm4 : ∀ w ∈ u_ws RX4 TX4 14, w ∈ lw_tbl := by decide +kernel
set_option maxRecDepth 100000 in
theorem xa_ckg4 : ∀ w ∈ u_ws RX4 TX4 14, goodWord w = true := by decide +kernel
theorem xa_cku4 : ∀ w ∈ u_ws RX4 TX4 14, xa_in w := fun w hw => ⟨xa_ckm4 w hw, xa_ckg4 w hw⟩
set_option maxRecDepth 100000 in
theorem xa_ck4 : xa_cok 4 (RX4, TX4, 14) := ⟨xa_cku4, tyX4_ok, nmX4, rfl, by decide +kernel, xa_pl 90 rfl rfl, xa_pl 47 rfl rfl⟩
set_option maxRecDepth 100000 in
theorem xa_ckm5 : ∀ w ∈ u_ws RX5 TX5 4, w ∈ lw_tbl := by decide +kernel
set_option maxRecDepth 100000 in
theorem xa_ckg5 : ∀ w ∈ u_ws RX5 TX5 4, goodWord w = true := by decide +kernel
theorem xa_cku5 : ∀ w ∈ u_ws RX5 TX5 4, xa_in w := fun w hw => ⟨xa_ckm5 w hw, xa_ckg5 w hw⟩
set_option maxRecDepth 100000 in
theorem xa_ck5 : xa_cok 5 (RX5, TX5, 4) := ⟨xa_cku5, tyX5_ok, nmX5, rfl, by decide +kernel, xa_pl 234 rfl rfl, xa_pl 52 rfl rfl⟩
set_option maxRecDepth 100000 in
theorem xa_ckm6 : ∀ w ∈ u_ws RX6 TX6 9, w ∈ lw_tbl := by decide +kernel
set_option maxRecDepth 100000 in
theorem xa_ckg6 : ∀ w ∈ u_ws RX6 TX6 9, goodWord w = true := by decide +kernel
theorem xa_cku6 : ∀ w ∈ u_ws RX6 TX6 9, xa_in w := fun w hw => ⟨xa_ckm6 w hw, xa_ckg6 w hw⟩
set_option maxRecDepth 100000 in
theorem xa_ck6 : xa_cok 6 (RX6, TX6, 9) := ⟨xa_cku6, tyX6_ok, nmX6, rfl, by decide +kernel, xa_pl 60 rfl rfl, xa_pl 45 rfl rfl⟩
set_option maxRecDepth 100000 in
theorem xa_ckm7 : ∀ w ∈ u_ws RX7 TX7 21, w ∈ lw_tbl := by decide +kernel
set_option maxRecDepth 100000 in
theorem xa_ckg7 : ∀ w ∈ u_ws RX7 TX7 21, goodWord w = true := by decide +kernel
theorem xa_cku7 : ∀ w ∈ u_ws RX7 TX7 21, xa_in w := fun w hw => ⟨xa_ckm7 w hw, xa_ckg7 w hw⟩
set_option maxRecDepth 100000 in
theorem xa_ck7 : xa_cok 7 (RX7, TX7, 21) := ⟨xa_cku7, tyX7_ok, nmX7, rfl, by decide +kernel, xa_pl 690 rfl rfl, xa_pl 58 rfl rfl⟩
theorem xa_cls_ok {ci : Nat} {C : String} {T : u_T} {N : Nat} (h : xa_cl[ci]? = some (C, T, N)) : xa_cok ci (C, T, N) := by
  match ci, h with
  | 0, h => cases h; exact xa_ck0
  | 1, h => cases h; exact xa_ck1
  | 2, h => cases h; exact xa_ck2
  | 3, h => cases h; exact xa_ck3
  | 4, h => cases h; exact xa_ck4
  | 5, h => cases h; exact xa_ck5
  | 6, h => cases h; exact xa_ck6
  | 7, h => cases h; exact xa_ck7
  | n + 8, h => simp at h
def xa_e (cA : Nat → ClassId) (e : xa_C) : va_E := match e with
  | .inl (t, x) => .inl (cA t, x)
  | .inr o => .inr o
/-- the heap is the memory's: from b0 on; below it nothing changed -/
def xa_R (b0 : Nat) (H0 : Heap) (D : va_G) (cA : Nat → ClassId) (M : xa_M) (H : Heap) : Prop :=
  M.2.1 = H.size ∧ b0 ≤ H.size ∧ (∀ q : Nat, q < b0 → H[q]? = H0[q]?) ∧ ∀ (a : Nat) (e : xa_C), M.1 a = some e → b0 ≤ a ∧ va_at D xa_cl (a, xa_e cA e) H
def xa_tys (cA : Nat → ClassId) : List (ClassId × FieldType) := [(cA 0, .int), (cA 1, .char), (cA 2, .boolean), (cA 3, .object RX2), (cA 4, .array .int)]
def xa_TX : String := "n9;c4;g2;s0,0,1;s1,0,2;s2,1,3;s3,1,0;s0,2,0;m0,0,1;m1,1,2;w0,3;w2,6;w5,9;w3,5;"
def xa_nst (s : State) : Prop := ∀ (a : String) (i : Nat) (x : MethodName) (h : String), Cond.methodLinkNest a i x h ∈ lw_tbl → va_Nw (.methodLinkNest a i x h) s
/-- what is known of the class's own text, which lies below b0 -/
def xa_Sx (b0 : Nat) (H0 : Heap) (sa : Nat) (s : State) : Prop := ((vk_R RX6 62 xa_TX sa s ∧ xa_nst s) ∧ va_Nw (.arrayOver (.array .int)) s ∧ va_AO RX2 s) ∧ b0 = H0.size ∧ ∃ va : Nat, va_O "java/lang/String" sa (fun q => b0 ≤ q) s H0 ∧ va_OF "java/lang/String" "coder" "B" (.int 0) sa (fun q => b0 ≤ q) s H0 ∧ va_OF "java/lang/String" "value" "[B" (.ref va) sa (fun q => b0 ≤ q) s H0 ∧ va_T .byte va 78 (fun j => .int (nI (xa_tx.getD j 0))) (fun q => b0 ≤ q) s H0 ∧ va_Z "java/lang/String" "COMPACT_STRINGS" "Z" (.int 1) (fun q => b0 ≤ q) s H0 ∧ va_Zq "jdk/internal/util/Preconditions" "SIOOBE_FORMATTER" "Ljava/util/function/BiFunction;" (fun q => b0 ≤ q) s H0
theorem xa_aov {u U : State} (hvm : u.vm.Alike U.vm) (h : va_Nw (.arrayOver (.array .int)) u) : va_Nw (.arrayOver (.array .int)) U := by
  obtain ⟨comp, c, k, h1, h2, h3, h4, h5⟩ := arrayOverA_spec h
  obtain ⟨k', hk', he⟩ := hvm.2.2 _ _ h3
  have hi : (U.vm.classes.findIdx? fun (x : Class) => match x.kind with | .array component _ => component == comp | _ => false) = some c := by
    have e2 := (va_idx_bare u.vm comp).trans h2
    have e3 := va_idx_bare U.vm comp
    first | rw [hvm.bare_eq] at e3 | rw [← hvm.bare_eq] at e3
    exact e3.symm.trans e2
  have hkind : k'.kind = .array comp (.array .int) := by rw [he]; exact h4
  have f1 : U.vm.findClass (FieldType.array .int).toString = some comp := by rw [hvm.findClass]; exact h1
  have f2 : U.vm.findClass ("[" ++ (FieldType.array .int).toString) = some c := by rw [hvm.findClass]; exact h5
  unfold va_Nw Cond.before Cond.holds
  simp only [Cond.value]
  rw [f1, Option.bind_some]
  refine (congrArg (fun o : Option Nat => (o.bind (fun c => (U.vm.classes[c]?).map fun (k : Class) => match k.kind with | .array _ ty => decide (ty = FieldType.array .int) && decide (U.vm.findClass ("[" ++ (FieldType.array .int).toString) = some c) | _ => false) == some true)) hi).trans ?_
  simp [hk', hkind, f2]
theorem xa_Sx_moved {b0 : Nat} {H0 : Heap} {sa : Nat} {u U : State} (hvm : u.vm.Alike U.vm) (hr : vk_R RX6 62 xa_TX sa U ∧ xa_nst U) (h : xa_Sx b0 H0 sa u) : xa_Sx b0 H0 sa U := by
  obtain ⟨⟨-, haa, hao⟩, hb, va, h1, h2, h3, h4, h5, h6⟩ := h
  exact ⟨⟨hr, xa_aov hvm haa, va_AO.moved hvm hao⟩, hb, va, va_O.moved hvm h1, va_OF.moved hvm h2, va_OF.moved hvm h3, va_T.moved hvm h4, va_Z.moved hvm h5, va_Zq.moved hvm h6⟩
def xa_K (D : va_G) (cA : Nat → ClassId) (b0 : Nat) (H0 : Heap) (sa : Nat) (s : State) : Prop := va_K D xa_cl (xa_tys cA) s ∧ xa_Sx b0 H0 sa s
theorem xa_K_warm {D : va_G} {cA : Nat → ClassId} {b0 : Nat} {H0 : Heap} {sa : Nat} {s U : State} (hW : s.WarmedH U.vm) (h : xa_K D cA b0 H0 sa s) : xa_K D cA b0 H0 sa U := ⟨va_K.moved hW.alike h.1, xa_Sx_moved hW.alike ⟨vk_R.warm hW h.2.1.1.1, fun a i x y hm => va_Nw.warmM hW (h.2.1.1.2 a i x y hm)⟩ h.2⟩
theorem xa_K_same {D : va_G} {cA : Nat → ClassId} {b0 : Nat} {H0 : Heap} {sa : Nat} {u U : State} (hv : U.vm = u.vm) (h : xa_K D cA b0 H0 sa u) : xa_K D cA b0 H0 sa U := ⟨va_K.moved (by rw [hv]; exact Vm.Alike.refl _) h.1, xa_Sx_moved (by rw [hv]; exact Vm.Alike.refl _) ⟨vk_R.same hv h.2.1.1.1, fun a i x y hm => va_Nw.same rfl hv.symm (h.2.1.1.2 a i x y hm)⟩ h.2⟩
def xa_lv (ls : Array Slot) (nL : Nat) (lv : xa_L) : Prop := ls.size = nL ∧ lv_wf ls ∧ ∀ (i : Nat) (v : Value), lv i = some v → ls[i]? = some (.val v)
def xa_ws (q : xa_MI) : List Cond := Cond.code q.1 q.2.1 q.2.2.1 q.2.2.2.1 :: lw_tbl.filter goodWord
def xa_Fx (q : xa_MI) (p : Program) (s : State) (m : MethodId) (args : Array Value) (meth : Method) (c : Code) : Prop :=
  p.tables.exec = Jvm.exec ∧ c.code = q.2.1 ∧ c.maxLocals = q.2.2.1 ∧ meth.sig.returnType = q.2.2.2.1 ∧ s.vm.findClass q.1.cls = some m.cls ∧ (∀ w ∈ xa_ws q, w.before args s = true) ∧ meth.locks = false ∧ meth.name = q.1.name
def xa_rm (q : xa_MI) (mc ms : Nat) : Room := { frames := q.2.2.2.2.2, cells := mc, slots := ms, locals := 40 * q.2.2.2.2.2 }
def xa_Q (b0 : Nat) (H0 : Heap) (D : va_G) (cA : Nat → ClassId) (res : xa_Z) : Array Value → State → Outcome → State → Prop := fun _ _ o t => o = .returned res.1 ∧ xa_R b0 H0 D cA res.2 t.heap
def xa_P (l : Launch) : xa_J := fun mid pc lv st M res => M.2.1 ≤ res.2.2.1 ∧ M.2.2.1 ≤ res.2.2.2.1 ∧ res.2.2.2.2 = M.2.2.2 ∧ ∀ (q : xa_MI), xa_mt[mid]? = some q → ∀ (b0 : Nat) (H0 : Heap) (D : va_G) (cA : Nat → ClassId) (p : Program) (e : Env) (s : State) (m : MethodId) (args : Array Value) (below : List Frame) (meth : Method) (c : Code) (H : Heap) (locs : List Loc) (cells slots sz sl : Nat) (ls : Array Slot),
  xa_Fx q p s m args meth c → xa_K D cA b0 H0 M.2.2.2 s → xa_R b0 H0 D cA M H → (∀ x ∈ locs, b0 ≤ x.base) → xa_lv ls q.2.2.1 lv → sz + cells = M.2.1 → sl + slots = M.2.2.1 →
  W p l e (xa_rm q (res.2.2.1 - sz) (res.2.2.2.1 - sl)) s m args below meth c H locs cells slots (MQ below (xa_Q b0 H0 D cA res) args s (res.2.2.1 - sz) (res.2.2.2.1 - sl) (fun x => b0 ≤ x)) (F0 m pc ls st)
theorem xa_word {q : xa_MI} {w : Cond} (h : xa_in w) : w ∈ xa_ws q := List.mem_cons_of_mem _ (List.mem_filter.mpr h)
theorem xa_fet_spec {q : xa_MI} {pc : Nat} {ins : xa_I} (h : xa_fet q pc = some ins) : ∃ len : Nat, decode q.2.1 pc = .ok (ins, len) ∧ xa_ok q pc ins len = true := by
  unfold xa_fet at h
  split at h
  · rename_i i n hd
    split at h
    · rename_i hk
      cases h
      exact ⟨n, hd, hk⟩
    · cases h
  · cases h
theorem xa_R_set {b0 : Nat} {H0 : Heap} {D : va_G} {cA : Nat → ClassId} {M : xa_M} {H H1 : Heap} {a : Nat} {e0 e : xa_C} (hR : xa_R b0 H0 D cA M H) (ha : M.1 a = some e0) (he : va_at D xa_cl (a, xa_e cA e) H1) (z : H1.size = H.size) (oq : ∀ q : Nat, q ≠ a → H1[q]? = H[q]?) : xa_R b0 H0 D cA (xa_st M a e) H1 := by
  obtain ⟨r1, r2, r3, r4⟩ := hR
  refine ⟨by rw [z]; exact r1, by rw [z]; exact r2, fun q hq => ?_, fun b f hb => ?_⟩
  · have := (r4 a _ ha).1
    rw [oq q (by omega)]
    exact r3 q hq
  · unfold xa_st at hb
    dsimp only at hb
    by_cases h : b = a
    · rw [if_pos h] at hb
      cases hb
      subst h
      exact ⟨(r4 b _ ha).1, he⟩
    · rw [if_neg h] at hb
      exact ⟨(r4 b f hb).1, (r4 b f hb).2.kept (oq b h)⟩
theorem xa_R_new {b0 : Nat} {H0 : Heap} {D : va_G} {cA : Nat → ClassId} {M : xa_M} {H H1 : Heap} {e : xa_C} {n : Nat} (hR : xa_R b0 H0 D cA M H) (he : va_at D xa_cl (H.size, xa_e cA e) H1) (z : H1.size = H.size + 1) (oq : ∀ q : Nat, q < H.size → H1[q]? = H[q]?) : xa_R b0 H0 D cA (xa_al M e n) H1 := by
  obtain ⟨r1, r2, r3, r4⟩ := hR
  refine ⟨by rw [z, ← r1]; rfl, by omega, fun q hq => ?_, fun b f hb => ?_⟩
  · rw [oq q (by omega)]
    exact r3 q hq
  · unfold xa_al at hb
    dsimp only at hb
    by_cases h : b = M.2.1
    · rw [if_pos h] at hb
      cases hb
      rw [h, r1]
      exact ⟨r2, he⟩
    · rw [if_neg h] at hb
      have h2 := (r4 b f hb).2
      exact ⟨(r4 b f hb).1, h2.kept (oq b h2.lt)⟩
def xa_ll (nL : Nat) (lv : xa_L) : List (Nat × Value) := (List.range nL).filterMap (fun i => (lv i).map (fun v => (i, v)))
theorem xa_ll_mem {nL : Nat} {lv : xa_L} {i : Nat} {v : Value} (hi : i < nL) (h : lv i = some v) : (i, v) ∈ xa_ll nL lv := List.mem_filterMap.mpr ⟨i, List.mem_range.mpr hi, by rw [h]; rfl⟩
theorem xa_ll_has {ls : Array Slot} {nL : Nat} {lv : xa_L} (h : xa_lv ls nL lv) : lv_has ls nL (xa_ll nL lv) := by
  refine ⟨h.1, h.2.1, fun x hx => ?_⟩
  obtain ⟨i, -, hi⟩ := List.mem_filterMap.mp hx
  cases hv : lv i with
  | none => rw [hv] at hi; cases hi
  | some v => rw [hv] at hi; cases hi; exact h.2.2 i v hv
theorem xa_lv_lt {ls : Array Slot} {nL : Nat} {lv : xa_L} (h : xa_lv ls nL lv) {i : Nat} {v : Value} (hi : lv i = some v) : i < nL := by
  rw [← h.1]; exact lv_lt (h.2.2 i v hi)
theorem xa_c1_spec {w : Option Value} {v : Value} (h : xa_c1 w = some v) : w = some v ∧ v.category = 1 := by
  unfold xa_c1 at h
  split at h
  · cases h; exact ⟨rfl, rfl⟩
  · cases h; exact ⟨rfl, rfl⟩
  · cases h
theorem xa_lv_s1 {ls ls' : Array Slot} {nL i : Nat} {lv : xa_L} {v : Value} (h : xa_lv ls nL lv) (h' : lv_has ls' nL ((i, v) :: (xa_ll nL lv).filter (fun q => !(q.1 == i) && !(q.1 + 1 == i && q.2.category == 2)))) : xa_lv ls' nL (xa_s1 lv i v) := by
  refine ⟨h'.1, h'.2.1, fun j w hj => ?_⟩
  unfold xa_s1 at hj
  by_cases e : j = i
  · rw [if_pos e] at hj
    cases hj
    subst e
    exact h'.2.2 (j, _) List.mem_cons_self
  · rw [if_neg e] at hj
    by_cases e2 : j + 1 = i
    · rw [if_pos e2] at hj
      obtain ⟨a1, a2⟩ := xa_c1_spec hj
      refine h'.2.2 (j, w) (List.mem_cons_of_mem _ (List.mem_filter.mpr ⟨xa_ll_mem (xa_lv_lt h a1) a1, ?_⟩))
      simp [e, a2]
    · rw [if_neg e2] at hj
      refine h'.2.2 (j, w) (List.mem_cons_of_mem _ (List.mem_filter.mpr ⟨xa_ll_mem (xa_lv_lt h hj) hj, ?_⟩))
      simp [e, e2]
theorem xa_lv_s2 {ls ls' : Array Slot} {nL i : Nat} {lv : xa_L} {v : Value} (h : xa_lv ls nL lv) (h' : lv_has ls' nL ((i, v) :: (xa_ll nL lv).filter (fun q => !(q.1 == i) && (!(q.1 == i + 1) && !(q.1 + 1 == i && q.2.category == 2))))) : xa_lv ls' nL (xa_s2 lv i v) := by
  refine ⟨h'.1, h'.2.1, fun j w hj => ?_⟩
  unfold xa_s2 at hj
  by_cases e : j = i
  · rw [if_pos e] at hj
    cases hj
    subst e
    exact h'.2.2 (j, _) List.mem_cons_self
  · rw [if_neg e] at hj
    by_cases e3 : j = i + 1
    · rw [if_pos e3] at hj; cases hj
    · rw [if_neg e3] at hj
      by_cases e2 : j + 1 = i
      · rw [if_pos e2] at hj
        obtain ⟨a1, a2⟩ := xa_c1_spec hj
        refine h'.2.2 (j, w) (List.mem_cons_of_mem _ (List.mem_filter.mpr ⟨xa_ll_mem (xa_lv_lt h a1) a1, ?_⟩))
        simp [e, e3, a2]
      · rw [if_neg e2] at hj
        refine h'.2.2 (j, w) (List.mem_cons_of_mem _ (List.mem_filter.mpr ⟨xa_ll_mem (xa_lv_lt h hj) hj, ?_⟩))
        simp [e, e2, e3]
theorem xa_cst_eq (n : Int) : xa_cst n = Int32.ofInt n := by
  unfold xa_cst
  split
  · rfl
  · rename_i h
    obtain ⟨k, rfl⟩ := Int.eq_ofNat_of_zero_le (Int.not_lt.mp h)
    rfl
/-- a step that makes no cell -/
theorem xa_stp {l : Launch} {mid pc pc' : Nat} {lv lv' : xa_L} {st st' : List Value} {M M' : xa_M} {res : xa_Z} {q : xa_MI} (h1 : xa_mt[mid]? = some q) (hn : xa_P l mid pc' lv' st' M' res) (hz : M'.2 = M.2)
    (hw : ∀ {b0 : Nat} {H0 : Heap} {D : va_G} {cA : Nat → ClassId} {p : Program} {e : Env} {R : Room} {s : State} {m : MethodId} {args : Array Value} {below : List Frame} {meth : Method} {c : Code} {H : Heap} {locs : List Loc} {cells slots : Nat} {Q : State → Prop} {ls : Array Slot}, xa_Fx q p s m args meth c → xa_K D cA b0 H0 M.2.2.2 s → xa_R b0 H0 D cA M H → (∀ x ∈ locs, b0 ≤ x.base) → xa_lv ls q.2.2.1 lv → (R.frames = q.2.2.2.2.2 ∧ R.locals = 40 * q.2.2.2.2.2 ∧ cells ≤ R.cells ∧ slots ≤ R.slots) →
      (∀ (ls' : Array Slot) (H' : Heap) (locs' : List Loc), xa_lv ls' q.2.2.1 lv' → xa_R b0 H0 D cA M' H' → (∀ x ∈ locs', b0 ≤ x.base) → W p l e R s m args below meth c H' locs' cells slots Q (F0 m pc' ls' st')) → W p l e R s m args below meth c H locs cells slots Q (F0 m pc ls st)) : xa_P l mid pc lv st M res := by
  obtain ⟨n1, n2, n4, n3⟩ := hn
  rw [hz] at n1 n2 n4
  refine ⟨n1, n2, n4, fun q' hq' b0 H0 D cA p e s m args below meth c H locs cells slots sz sl ls hF hK hR hL hl e1 e2 => ?_⟩
  cases h1.symm.trans hq'
  refine hw hF hK hR hL hl ⟨rfl, rfl, by show cells ≤ _ - _; omega, by show slots ≤ _ - _; omega⟩ (fun ls' H' locs' a1 a2 a3 => ?_)
  exact n3 q h1 b0 H0 D cA p e s m args below meth c H' locs' cells slots sz sl ls' hF (by rw [hz]; exact hK) a2 a3 a1 (by rw [hz]; exact e1) (by rw [hz]; exact e2)
/-- a step that makes a cell of n slots -/
theorem xa_sta {l : Launch} {mid pc pc' : Nat} {lv : xa_L} {st st' : List Value} {M : xa_M} {res : xa_Z} {q : xa_MI} {ce : xa_C} {n : Nat} (h1 : xa_mt[mid]? = some q) (hn : xa_P l mid pc' lv st' (xa_al M ce n) res)
    (hw : ∀ {b0 : Nat} {H0 : Heap} {D : va_G} {cA : Nat → ClassId} {p : Program} {e : Env} {R : Room} {s : State} {m : MethodId} {args : Array Value} {below : List Frame} {meth : Method} {c : Code} {H : Heap} {locs : List Loc} {cells slots : Nat} {Q : State → Prop} {ls : Array Slot}, xa_Fx q p s m args meth c → xa_K D cA b0 H0 M.2.2.2 s → xa_R b0 H0 D cA M H → xa_lv ls q.2.2.1 lv → (cells + 1 ≤ R.cells ∧ slots + n ≤ R.slots) →
      (∀ (H' : Heap), xa_R b0 H0 D cA (xa_al M ce n) H' → W p l e R s m args below meth c H' locs (cells + 1) (slots + n) Q (F0 m pc' ls st')) → W p l e R s m args below meth c H locs cells slots Q (F0 m pc ls st)) : xa_P l mid pc lv st M res := by
  obtain ⟨n1, n2, n4, n3⟩ := hn
  have n1 : M.2.1 + 1 ≤ res.2.2.1 := n1
  have n2 : M.2.2.1 + n ≤ res.2.2.2.1 := n2
  refine ⟨by omega, by omega, n4, fun q' hq' b0 H0 D cA p e s m args below meth c H locs cells slots sz sl ls hF hK hR hL hl e1 e2 => ?_⟩
  cases h1.symm.trans hq'
  refine hw hF hK hR hl ⟨by show cells + 1 ≤ _ - _; omega, by show slots + n ≤ _ - _; omega⟩ (fun H' a2 => ?_)
  exact n3 q h1 b0 H0 D cA p e s m args below meth c H' locs (cells + 1) (slots + n) sz sl ls hF hK a2 hL hl (by show _ = M.2.1 + 1; omega) (by show _ = M.2.2.1 + n; omega)
section XaS
variable {l : Launch} {mid pc : Nat} {lv : xa_L} {st r : List Value} {M : xa_M} {res : xa_Z} {q : xa_MI}
/-- pure steps -/
theorem xs_p {pc' : Nat} {st' : List Value} (h1 : xa_mt[mid]? = some q) (hn : xa_P l mid pc' lv st' M res) (hw : ∀ {p : Program} {e : Env} {R : Room} {s : State} {m : MethodId} {args : Array Value} {below : List Frame} {meth : Method} {c : Code} {H : Heap} {locs : List Loc} {cells slots : Nat} {Q : State → Prop} {ls : Array Slot}, p.tables.exec = Jvm.exec → c.code = q.2.1 → W p l e R s m args below meth c H locs cells slots Q (F0 m pc' ls st') → W p l e R s m args below meth c H locs cells slots Q (F0 m pc ls st)) : xa_P l mid pc lv st M res :=
  xa_stp h1 hn rfl (fun hF _ hR hL hl _ k => hw hF.1 hF.2.1 (k _ _ _ hl hR hL))
theorem xs_j {o : Int} (h1 : xa_mt[mid]? = some q) (x : xa_jmp pc o (fun t => xa_P l mid t lv r M res)) (hw : ∀ {p : Program} {e : Env} {R : Room} {s : State} {m : MethodId} {args : Array Value} {below : List Frame} {meth : Method} {c : Code} {H : Heap} {locs : List Loc} {cells slots : Nat} {Q : State → Prop} {ls : Array Slot} {tgt : Nat}, (pc : Int) + o = (tgt : Int) → p.tables.exec = Jvm.exec → c.code = q.2.1 → W p l e R s m args below meth c H locs cells slots Q (F0 m tgt ls r) → W p l e R s m args below meth c H locs cells slots Q (F0 m pc ls st)) : xa_P l mid pc lv st M res := by
  unfold xa_jmp at x
  split at x
  · rename_i c
    exact xs_p h1 x (fun hx hb k => hw (by omega) hx hb k)
  · exact x.elim
theorem xs_load {i : Nat} {v : Value} {pc' : Nat} (h1 : xa_mt[mid]? = some q) (hv : lv i = some v) (hn : xa_P l mid pc' lv (v :: st) M res) (hw : ∀ {p : Program} {e : Env} {R : Room} {s : State} {m : MethodId} {args : Array Value} {below : List Frame} {meth : Method} {c : Code} {H : Heap} {locs : List Loc} {cells slots : Nat} {Q : State → Prop} {ls : Array Slot}, p.tables.exec = Jvm.exec → c.code = q.2.1 → ls[i]? = some (.val v) → W p l e R s m args below meth c H locs cells slots Q (F0 m pc' ls (v :: st)) → W p l e R s m args below meth c H locs cells slots Q (F0 m pc ls st)) : xa_P l mid pc lv st M res :=
  xa_stp h1 hn rfl (fun hF _ hR hL hl _ k => hw hF.1 hF.2.1 (hl.2.2 i v hv) (k _ _ _ hl hR hL))

theorem xs_get {i : Nat} {a : Nat} (h1 : xa_mt[mid]? = some q) (hm : xa_mok q) {ci k pl : Nat} (hf : (xa_fl q.2.2.2.2.1).lookup i = some (ci, k, pl)) (hd : decode q.2.1 pc = .ok (.getfield i, 3)) (x : xa_gf M a ci k (fun v => xa_P l mid (pc + 3) lv (v :: r) M res)) : xa_P l mid pc lv (.ref a :: r) M res := by
  unfold xa_gf at x
  split at x
  · rename_i c0 fs hc
    obtain ⟨hce, x⟩ := x
    subst hce
    split at x
    · rename_i v hv
      refine xa_stp h1 x rfl (fun {b0 H0 D cA p e R s m args below meth c H locs cells slots Q ls} hF hK hR hL hl _ k' => ?_)
      obtain ⟨C, T, N, g1, g2, g3, g4, -⟩ := xa_fl_ok hm hf
      have hP : va_P D xa_cl [(a, .inr (c0, fs))] H := fun j z hj => by
        have hz : j < 1 := (List.getElem?_eq_some_iff.mp hj).1
        rw [show j = 0 by omega] at hj
        cases hj
        exact (hR.2.2.2 a _ hc).2
      exact va_get (D := D) (ci := c0) (v := v) (C := C) (T := T) (N := N) (Ts := xa_ws q) (own := q.1.cls) (ref := C) hF.1 hF.2.1 hF.2.2.2.2.2.1 (fun w hw => xa_word ((xa_cls_ok g1).1 w hw)) hF.2.2.2.2.1 hK.1 hP 0 rfl g1 k g2 (hF.2.2.2.2.2.1 _ (xa_word g4)) (fun _ h9 => by rw [← g3]; exact h9) hv hd (k' ls H locs hl hR hL)
    · exact x.elim
  · exact x.elim
theorem xs_put {i : Nat} {a : Nat} {v : Value} (h1 : xa_mt[mid]? = some q) (hm : xa_mok q) {ci k pl : Nat} (hf : (xa_fl q.2.2.2.2.1).lookup i = some (ci, k, pl)) (hd : decode q.2.1 pc = .ok (.putfield i, 3)) (hfin : xa_fin ci k = true → q.1.name = "<init>" ∧ ci = q.2.2.2.2.1) (hn : narrow (xa_tyf ci k) v = v) (hfit : fits (xa_tyf ci k) v = true) (x : xa_pf M a ci k v (fun M2 => xa_P l mid (pc + 3) lv r M2 res)) : xa_P l mid pc lv (v :: .ref a :: r) M res := by
  unfold xa_pf at x
  split at x
  · rename_i c0 fs hc
    obtain ⟨hce, hkl, x⟩ := x
    subst hce
    refine xa_stp h1 x rfl (fun {b0 H0 D cA p e R s m args below meth c H locs cells slots Q ls} hF hK hR hL hl _ k' => ?_)
    obtain ⟨C, T, N, g1, g2, g3, g4, g5⟩ := xa_fl_ok hm hf
    obtain ⟨o1, o2, o3, -⟩ := xa_cls_ok g1
    have hts := hF.2.2.2.2.2.1
    have hin : ∀ w ∈ u_ws C T N, w ∈ xa_ws q := fun w hw => xa_word (o1 w hw)
    have hap := va_apart (own := q.1.cls) (D := D) hts hin (xa_tyf c0) o2 o3 hK.1 g1
    obtain ⟨r0, hr1, cell, q1, q2, q3, q4⟩ := (hR.2.2.2 a _ hc).2
    have hr : r0 = (C, T, N) := Option.some.inj (hr1.symm.trans g1)
    subst hr
    obtain ⟨hS, hfc, kC, hkC, hkind⟩ := hK.1.1 c0 _ g1
    obtain ⟨cf, kf, fi, f, hi, hsl⟩ := hS k g2
    have hlay := hts _ (hin _ (u_in_lay g2))
    have hst := (u_facts hfc hkC (u_lays hts hin g2) hi).1
    have hlink := hts _ (xa_word (q := q) g4)
    have hfd : s.fieldFound? C (T k).2.1 (T k).2.2.1 = some (cf, kf, fi, f) := by rw [← g3]; exact hi
    have fin2 : ∀ H' : Heap, H'[a]? = some (cell.setSlot f.slot v) → H'.size = H.size → (∀ q, q ≠ a → H'[q]? = H[q]?) → W p l e R s m args below meth c H' (locs ++ [⟨a, f.slot⟩]) cells slots Q (F0 m (pc + 3) ls r) := by
      intro H' e1 e2 e3
      rw [hsl] at e1 ⊢
      refine k' ls H' _ hl (xa_R_set hR hc ?_ e2 e3) (fun y hy => ?_)
      · exact ⟨_, g1, t_OB.to (V := updV (vp_V fs) k v) ⟨_, e1, q2, q3, t_set q4 hap g2 v⟩ (fun j _ => vp_updV_set hkl v j)⟩
      · rcases List.mem_append.mp hy with h | h
        · exact hL y h
        · rw [List.mem_singleton.mp h]
          exact (hR.2.2.2 a _ hc).1
    unfold u_lay at hlay
    by_cases hfn : (T k).2.2.2 = true
    · rw [if_pos hfn] at hlay
      obtain ⟨hnm, hci⟩ := hfin (by rw [← g5]; exact hfn)
      have hown2 : q.1.cls = C := by
        have := hm.2.2.2.2.2.2
        rw [← hci, g1] at this
        exact (Option.some.inj this).symm
      have hcf : m.cls = cf := by
        obtain ⟨_, _, c', _, _, _, -, -, hf', -, -, -, hown3, -⟩ := Cond.laysFinal_spec hlay
        have e1 : c' = cf := by have := hi.symm.trans hf'; simp at this; exact this.1.symm
        have hown := hF.2.2.2.2.1
        rw [hown2, ← g3] at hown
        rw [← e1]; exact Option.some.inj (hown.symm.trans hown3)
      have h6 := u_fits hfc hkC hkind (Or.inr hlay) hi (o2 k g2) hn hfit
      exact W.putFinK hF.1 hF.2.1 hF.2.2.2.2.1 hlink hfd hst hcf (by rw [hF.2.2.2.2.2.2.2, hnm]) (by rw [q2]; exact h6) q1 q3 (by rw [hsl]; exact k2_hasslot (q4 k g2)) rfl rfl hd fin2
    · rw [if_neg hfn] at hlay
      have h6 := u_store hfc hkC hkind hlay hi (o2 k g2) hn hfit
      exact W.putK hF.1 hF.2.1 (f := f) ⟨hF.2.2.2.2.1, hlink, ⟨_, _, _, hfd⟩, hst⟩ (by rw [q2]; exact h6) q1 q3 (by rw [hsl]; exact k2_hasslot (q4 k g2)) rfl rfl hd fin2
  · exact x.elim
/-- the world of one cell -/
theorem xa_one {b0 : Nat} {H0 : Heap} {D : va_G} {cA : Nat → ClassId} {H : Heap} {a : Nat} {e : xa_C} (hR : xa_R b0 H0 D cA M H) (hc : M.1 a = some e) : va_P D xa_cl [(a, xa_e cA e)] H := fun j z hj => by
  have hz : j < 1 := (List.getElem?_eq_some_iff.mp hj).1
  rw [show j = 0 by omega] at hj
  cases hj
  exact (hR.2.2.2 a _ hc).2
/-- array loads of ints -/
theorem xs_ga {t : Nat} {a : Nat} {i : Int32} {ins : xa_I} (h1 : xa_mt[mid]? = some q) (x : xa_ga t M a i (fun v => xa_P l mid (pc + 1) lv (.int v :: r) M res))
    (hw : ∀ {D : va_G} {cA : Nat → ClassId} {p : Program} {e : Env} {R : Room} {s : State} {m : MethodId} {args : Array Value} {below : List Frame} {meth : Method} {c : Code} {H : Heap} {locs : List Loc} {cells slots : Nat} {Q : State → Prop} {ls : Array Slot} {n : Nat} {f : Nat → Int32}, p.tables.exec = Jvm.exec → c.code = q.2.1 → va_K D xa_cl (xa_tys cA) s → va_P D xa_cl [(a, .inl (cA t, n, .inl f))] H → vp_in i n → W p l e R s m args below meth c H locs cells slots Q (F0 m (pc + 1) ls (.int (f i.toNatClampNeg) :: r)) → W p l e R s m args below meth c H locs cells slots Q (F0 m pc ls (.int i :: .ref a :: r))) : xa_P l mid pc lv (.int i :: .ref a :: r) M res := by
  unfold xa_ga at x
  split at x
  · rename_i t' n f hc
    obtain ⟨rfl, hi, x⟩ := x
    exact xa_stp h1 x rfl (fun hF hK hR hL hl _ k' => hw hF.1 hF.2.1 hK.1 (xa_one hR hc) hi (k' _ _ _ hl hR hL))
  · exact x.elim
/-- array stores of ints -/
theorem xs_pa {t : Nat} {a : Nat} {i x0 x1 : Int32} (h1 : xa_mt[mid]? = some q) (x : xa_pa t M a i x1 (fun M2 => xa_P l mid (pc + 1) lv r M2 res))
    (hw : ∀ {D : va_G} {cA : Nat → ClassId} {p : Program} {e : Env} {R : Room} {s : State} {m : MethodId} {args : Array Value} {below : List Frame} {meth : Method} {c : Code} {H : Heap} {locs : List Loc} {cells slots : Nat} {Q : State → Prop} {ls : Array Slot} {n : Nat} {f : Nat → Int32}, p.tables.exec = Jvm.exec → c.code = q.2.1 → va_K D xa_cl (xa_tys cA) s → H[a]? = some (arrV (cA t) n (fun j => .int (f j))) → vp_in i n → (∀ H' : Heap, H'[a]? = some (arrV (cA t) n (updV (fun j => .int (f j)) i.toNatClampNeg (.int x1))) → H'.size = H.size → (∀ q, q ≠ a → H'[q]? = H[q]?) → W p l e R s m args below meth c H' (locs ++ [⟨a, i.toNatClampNeg⟩]) cells slots Q (F0 m (pc + 1) ls r)) → W p l e R s m args below meth c H locs cells slots Q (F0 m pc ls (.int x0 :: .int i :: .ref a :: r))) : xa_P l mid pc lv (.int x0 :: .int i :: .ref a :: r) M res := by
  unfold xa_pa at x
  split at x
  · rename_i t' n f hc
    obtain ⟨rfl, hi, x⟩ := x
    refine xa_stp h1 x rfl (fun hF hK hR hL hl _ k' => hw hF.1 hF.2.1 hK.1 (hR.2.2.2 a _ hc).2 hi (fun H' e1 e2 e3 => ?_))
    refine k' _ H' _ hl (xa_R_set hR hc ?_ e2 e3) (fun y hy => ?_)
    · show H'[a]? = some (vp_cell _ _)
      rw [e1, vp_cell_i]
      congr 2
      funext j
      simp only [updV, upd]
      split <;> rfl
    · rcases List.mem_append.mp hy with h | h
      · exact hL y h
      · rw [List.mem_singleton.mp h]
        exact (hR.2.2.2 a _ hc).1
  · exact x.elim
end XaS
end
section
section XaT
variable {l : Launch} {mid pc : Nat} {lv : xa_L} {st r : List Value} {M : xa_M} {res : xa_Z} {q : xa_MI}
theorem xs_gq {a : Nat} {i : Int32} (h1 : xa_mt[mid]? = some q) (hd : decode q.2.1 pc = .ok (.aaload, 1)) (x : xa_gq M a i (fun v => xa_P l mid (pc + 1) lv (.ref v :: r) M res)) : xa_P l mid pc lv (.int i :: .ref a :: r) M res := by
  unfold xa_gq at x
  split at x
  · rename_i t' n f hc
    obtain ⟨ht, hi, x⟩ := x
    split at x
    · rename_i v hv
      refine xa_stp h1 x rfl (fun {b0 H0 D cA p e R s m args below meth c H locs cells slots Q ls} hF hK hR hL hl _ k' => ?_)
      have hlt : i.toNatClampNeg < n := Nat.not_le.mp fun z => hi (Or.inr z)
      have hcell : H[a]? = some (arrV (cA t') n (fun j => va_rf (f j))) := (hR.2.2.2 a _ hc).2
      have hk := k' ls H locs hl hR hL
      have hread : (arrV (cA t') n (fun j => va_rf (f j))).slots[i.toNatClampNeg]? = some (.ref v) := by rw [arrV_read _ _ hlt, hv]; rfl
      rcases ht with rfl | rfl
      · exact W.aald (v := .ref v) (ty := .object RX2) hF.1 hF.2.1 hcell ((hK.1.2 3 _ rfl).1 n (fun j => va_rf (f j))) rfl (fun z => by cases z) (by rw [arrV_size]; exact hi) hread rfl rfl hd hk
      · exact W.aald (v := .ref v) (ty := .array .int) hF.1 hF.2.1 hcell ((hK.1.2 4 _ rfl).1 n (fun j => va_rf (f j))) rfl (fun z => by cases z) (by rw [arrV_size]; exact hi) hread rfl rfl hd hk
    · exact x.elim
  · exact x.elim
theorem xs_pq {a v : Nat} {i : Int32} (h1 : xa_mt[mid]? = some q) (hd : decode q.2.1 pc = .ok (.aastore, 1)) (x : xa_pq M a i v (fun M2 => xa_P l mid (pc + 1) lv r M2 res)) : xa_P l mid pc lv (.ref v :: .int i :: .ref a :: r) M res := by
  unfold xa_pq at x
  split at x
  · rename_i t' n f hc
    obtain ⟨rfl, hi, ⟨fs, hv⟩, x⟩ := x
    refine xa_stp h1 x rfl (fun {b0 H0 D cA p e R s m args below meth c H locs cells slots Q ls} hF hK hR hL hl _ k' => ?_)
    have hlt : i.toNatClampNeg < n := Nat.not_le.mp fun z => hi (Or.inr z)
    have h0 : ¬ i < 0 := fun z => hi (Or.inl z)
    have hcell : H[a]? = some (arrV (cA 3) n (fun j => va_rf (f j))) := (hR.2.2.2 a _ hc).2
    obtain ⟨r', hr', cellV, g1, g2, g3, -⟩ := (hR.2.2.2 v _ hv).2
    have hcls := (hK.1.1 2 (RX2, TX2, 6) rfl).2
    obtain ⟨kA, comp, k1, k2, k3, -⟩ := (hK.1.2 3 _ rfl).2
    have hcomp : comp = D.1 2 := Option.some.inj (k3.symm.trans hcls.1)
    subst hcomp
    obtain ⟨kC, hkC, -⟩ := id hcls.2
    refine W.aast hF.1 hF.2.1 hcell (fun q h => by cases h) (fun h => by cases h) k1 k2 rfl hkC ⟨h0, by rw [arrV_size]; exact hlt⟩ g1 (fun q h => by rw [g3] at h; cases h) (by rw [g2]; exact hkC) (by rw [g2]; exact va_assign hcls) rfl rfl hd fun H1 e1 z oq => ?_
    refine k' ls H1 _ hl (xa_R_set hR hc ?_ z oq) (fun y hy => ?_)
    · show H1[a]? = some (vp_cell _ _)
      rw [e1]
      rw [vp_cell_q, arrV_store]
      congr 2
      funext j
      by_cases hq : j = i.toNatClampNeg
      · subst hq
        simp [updV, va_up, va_rf]
      · simp [updV, va_up, hq]
    · rcases List.mem_append.mp hy with h | h
      · exact hL y h
      · rw [List.mem_singleton.mp h]
        exact (hR.2.2.2 a _ hc).1
  · exact x.elim
theorem xs_gl {a : Nat} (h1 : xa_mt[mid]? = some q) (hd : decode q.2.1 pc = .ok (.arraylength, 1)) (x : xa_gl M a (fun v => xa_P l mid (pc + 1) lv (.int v :: r) M res)) : xa_P l mid pc lv (.ref a :: r) M res := by
  unfold xa_gl at x
  split at x
  · rename_i t n z hc
    obtain ⟨ht, x⟩ := x
    refine xa_stp h1 x rfl (fun {b0 H0 D cA p e R s m args below meth c H locs cells slots Q ls} hF hK hR hL hl _ k' => ?_)
    have hP := xa_one hR hc
    have hk := k' ls H locs hl hR hL
    rcases ht with rfl | rfl
    · exact va_alen (x := (n, z)) hF.1 hF.2.1 hK.1 hP 0 0 rfl rfl rfl hd hk
    · exact va_alen (x := (n, z)) hF.1 hF.2.1 hK.1 hP 0 3 rfl rfl rfl hd hk
  · exact x.elim
theorem xs_cp {i : Nat} {s0 d : Nat} {sp dp n : Int32} (h1 : xa_mt[mid]? = some q) (hd : decode q.2.1 pc = .ok (.invokestatic i, 3)) (hli : xa_in (.methodLink q.1.cls i arraycopyName)) (hnat : xa_in (.native arraycopyName)) (hsta : xa_in (.static arraycopyName)) (hini : xa_in (.initialized "java/lang/System")) (hw8 : xa_w8 r) (hrk : 0 < q.2.2.2.2.2) (x : xa_cp M s0 sp d dp n (fun M2 => xa_P l mid (pc + 3) lv r M2 res)) : xa_P l mid pc lv (.int n :: .int dp :: .ref d :: .int sp :: .ref s0 :: r) M res := by
  unfold xa_cp at x
  split at x
  · rename_i t0 n0 f t1 n1 g hc0 hc1
    obtain ⟨rfl, rfl, g1, g2, g3, g4, g5, x⟩ := x
    refine xa_stp h1 x rfl (fun {b0 H0 D cA p e R s m args below meth c H locs cells slots Q ls} hF hK hR hL hl hrm k' => ?_)
    have nn : ∀ z : Int32, ¬ z < 0 → z.toInt = (z.toNatClampNeg : Int) := by
      intro z hz
      have hz0 : (0 : Int) ≤ z.toInt := by
        have := Int32.not_lt.mp hz
        simpa using Int32.le_iff_toInt_le.mp this
      show z.toInt = ((z.toInt.toNat : Nat) : Int)
      omega
    intro T hT X
    have hts := hF.2.2.2.2.2.1
    have hd0 : H[s0]? = some (vp_cell (cA 0) (n0, .inl f)) := (hR.2.2.2 s0 _ hc0).2
    have hd1 : H[d]? = some (vp_cell (cA 0) (n1, .inl g)) := (hR.2.2.2 d _ hc1).2
    obtain ⟨-, k0, hk0, cm0, hkk0⟩ := (hK.1.2 0 _ rfl).1 n0 (fun j => .int (f j))
    obtain ⟨-, k1, hk1, cm1, hkk1⟩ := (hK.1.2 0 _ rfl).1 n1 (fun j => .int (g j))
    obtain ⟨vm', X', step⟩ := X.arraycopy hF.1 hF.2.2.2.2.1 (hts _ (xa_word hli)) (hts _ (xa_word hnat)) (hts _ (xa_word hsta)) (hts _ (xa_word hini)) (src := s0) (dst := d) (cs := vp_cell (cA 0) (n0, .inl f)) (cd := vp_cell (cA 0) (n1, .inl g)) (srcPos := sp) (destPos := dp) (n := n) (by rw [hT]; exact hd0) (by rw [hT]; exact hd1)
      (fun _ h => by cases h) (fun _ h => by cases h) (fun h => by cases h) (fun h => by cases h) hk0 hk1 hkk0 hkk1 (by simp [refKind]) g1 g2 g3
      (by rw [nn sp g1, nn n g3]; show ¬ _ > ((arrV (cA 0) n0 (fun j => .int (f j))).slots.size : Int); rw [arrV_size]; omega)
      (by rw [nn dp g2, nn n g3]; show ¬ _ > ((arrV (cA 0) n1 (fun j => .int (g j))).slots.size : Int); rw [arrV_size]; omega)
      (fun vm₁ _ i hi => by
        have e : (vp_cell (cA 0) (n0, .inl f)).slots.getD (sp.toNatClampNeg + i) .null = .int (f (sp.toNatClampNeg + i)) := by
          show (arrV (cA 0) n0 (fun j => .int (f j))).slots.getD _ _ = _
          rw [Array.getD_eq_getD_getElem?, arrV_read _ _ (by omega)]
          rfl
        refine ⟨?_, ?_⟩
        · rw [e]
          rfl
        · rw [e]
          exact trivial)
      (g := F0 m pc ls (.int n :: .int dp :: .ref d :: .int sp :: .ref s0 :: r)) rfl (by rw [hF.2.2.1]; exact hl.1) (rest := r) rfl (by rw [hF.2.1]; exact hd) (by rw [hrm.1]; exact hrk) (by rw [hrm.2.1]; have := hw8; unfold xa_w8 at this; show 2 * 0 + _ + (7 + 11) ≤ _; omega)
    have e1 : copied (vp_cell (cA 0) (n0, .inl f)) (vp_cell (cA 0) (n1, .inl g)) sp dp n = vp_cell (cA 0) (n1, .inl (va_cpy f g sp.toNatClampNeg dp.toNatClampNeg n.toNatClampNeg)) := va_copied (fun z => .int z) (cA 0) (cA 0) f g g4
    rw [e1] at X' step
    have hlt : d < H.size := (Array.getElem?_eq_some_iff.mp hd1).1
    have hheap : ((T.setVm vm').setCell d (vp_cell (cA 0) (n1, .inl (va_cpy f g sp.toNatClampNeg dp.toNatClampNeg n.toNatClampNeg)))).heap = H.setIfInBounds d (vp_cell (cA 0) (n1, .inl (va_cpy f g sp.toNatClampNeg dp.toNatClampNeg n.toNatClampNeg))) := by rw [← hT]; rfl
    have oq : ∀ q : Nat, q ≠ d → (H.setIfInBounds d (vp_cell (cA 0) (n1, .inl (va_cpy f g sp.toNatClampNeg dp.toNatClampNeg n.toNatClampNeg))))[q]? = H[q]? := fun q hq => by simp [Array.getElem?_setIfInBounds, Ne.symm hq]
    obtain ⟨t, a1, b1⟩ := k' ls _ _ hl (xa_R_set hR hc1 (show (H.setIfInBounds d _)[d]? = some _ by simp [Array.getElem?_setIfInBounds, hlt]) (by simp) oq) (fun y hy => by
        rcases List.mem_append.mp hy with h | h
        · exact hL y h
        · obtain ⟨z, -, hz⟩ := List.mem_map.mp h
          rw [← hz]
          exact (hR.2.2.2 d _ hc1).1) _ hheap X'
    exact ⟨t, step t a1, b1⟩
  · exact x.elim
theorem xs_new {i : Nat} (h1 : xa_mt[mid]? = some q) (hm : xa_mok q) {ci pl : Nat} (hf : (xa_nt q.2.2.2.2.1).lookup i = some (ci, pl)) (hci : ci < 8) (hli : ∀ C T N, xa_cl[ci]? = some (C, T, N) → xa_in (.classLink q.1.cls i C)) (hd : decode q.2.1 pc = .ok (.new i, 3)) (x : xa_P l mid (pc + 3) lv (.ref M.2.1 :: st) (xa_al M (.inr (ci, xa_df ci)) (xa_df ci).length) res) : xa_P l mid pc lv st M res := by
  refine xa_sta h1 x (fun {b0 H0 D cA p e R s m args below meth c H locs cells slots Q ls} hF hK hR hl hcs k' => ?_)
  obtain ⟨⟨C, T, N⟩, hc⟩ : ∃ z, xa_cl[ci]? = some z := by
    match ci, hci with
    | 0, _ => exact ⟨_, rfl⟩
    | 1, _ => exact ⟨_, rfl⟩
    | 2, _ => exact ⟨_, rfl⟩
    | 3, _ => exact ⟨_, rfl⟩
    | 4, _ => exact ⟨_, rfl⟩
    | 5, _ => exact ⟨_, rfl⟩
    | 6, _ => exact ⟨_, rfl⟩
    | 7, _ => exact ⟨_, rfl⟩
  obtain ⟨o1, o2, o3, o4, o5, o6, o7⟩ := xa_cls_ok hc
  have o4 : N = (xa_df ci).length := o4
  have hts := hF.2.2.2.2.2.1
  have hKn := hK.1.1 ci _ hc
  rw [← o4] at hcs k'
  refine W.newcK hF.1 hF.2.1 hF.2.2.2.2.1 (hts _ (xa_word (hli C T N hc))) (hts _ (xa_word o6)) (hts _ (xa_word o7)) rfl hd hcs.1 hcs.2 hKn.2.1 rfl fun H1 kC hkC e1 z1 o1' => ?_
  rw [hR.1] at k'
  refine k' H1 (xa_R_new hR ?_ z1 o1')
  exact ⟨_, hc, (u_born (xa_tyf ci) hts (fun w hw => xa_word (o1 w hw)) hKn hkC e1 o2).to o5⟩
theorem xs_newa {t : Nat} {atype : ArrayType} {ty : FieldType} {n : Int32} (h1 : xa_mt[mid]? = some q) (hd : decode q.2.1 pc = .ok (.newarray atype, 2)) (hty : newarray.typeOf atype = ty) (ht : ∀ cA : Nat → ClassId, (xa_tys cA)[t]? = some (cA t, ty)) (hin : xa_in (.arrayClass ty)) (hpr : ∀ (U : State) (cA : ClassId), va_RA U cA ty → U.vm.findClass ("[" ++ ty.toString) = some cA) (hdf : defaultValue ty = .int 0) (hcb : componentBytes ty ≤ 8) (hn : ¬ n < 0) (hn2 : n.toNatClampNeg ≤ 2000) (x : xa_P l mid (pc + 2) lv (.ref M.2.1 :: r) (xa_al M (.inl (t, n.toNatClampNeg, .inl (fun _ => 0))) n.toNatClampNeg) res) : xa_P l mid pc lv (.int n :: r) M res := by
  refine xa_sta h1 x (fun {b0 H0 D cA p e R s m args below meth c H locs cells slots Q ls} hF hK hR hl hcs k' => ?_)
  subst hty
  have hb : n.toNatClampNeg * componentBytes (newarray.typeOf atype) ≤ 536870912 := Nat.le_trans (Nat.mul_le_mul hn2 hcb) (by decide)
  refine va_newaK (g := F0 m pc ls (.int n :: r)) hF.1 hF.2.1 (hF.2.2.2.2.2.1 _ (xa_word hin)) rfl hd rfl hn rfl hb hcs.1 hcs.2 rfl fun H1 cI e1 z1 o1 hAr hNm => ?_
  rw [hR.1] at k'
  refine k' H1 (xa_R_new hR ?_ z1 o1)
  have e : cI = cA t := Option.some.inj (hNm.symm.trans (hpr s (cA t) (hK.1.2 t _ (ht cA)).2))
  subst e
  show H1[H.size]? = some (vp_cell _ _)
  rw [e1, vp_cell_i, hdf]
theorem xs_anew {i : Nat} {n : Int32} (h1 : xa_mt[mid]? = some q) (hd : decode q.2.1 pc = .ok (.anewarray i, 3)) (hli : xa_in (.classLink q.1.cls i RX2)) (hn : ¬ n < 0) (hn2 : n.toNatClampNeg ≤ 2000) (x : xa_P l mid (pc + 3) lv (.ref M.2.1 :: r) (xa_al M (.inl (3, n.toNatClampNeg, .inr (.inr (.inr (.inr (fun _ => none)))))) n.toNatClampNeg) res) : xa_P l mid pc lv (.int n :: r) M res := by
  refine xa_sta h1 x (fun {b0 H0 D cA p e R s m args below meth c H locs cells slots Q ls} hF hK hR hl hcs k' => ?_)
  refine W.anew hF.1 hF.2.1 hF.2.2.2.2.1 (hF.2.2.2.2.2.1 _ (xa_word hli)) (va_AO.use hK.2.1.2.2) rfl hd rfl hn (by omega) hcs.1 hcs.2 fun cI kA comp f1 f2 f3 f4 => ?_
  rw [hR.1] at k'
  generalize hH1 : H.push ({ cls := cI, slots := Array.replicate n.toNatClampNeg .null, vm := .none } : Cell) = H1
  have z1 : H1.size = H.size + 1 := by rw [← hH1, Array.size_push]
  have e1 : H1[H.size]? = some (arrV cI n.toNatClampNeg (fun _ => .null)) := by rw [← hH1, Array.getElem?_push_size, ← arrV_new]
  have o1 : ∀ q : Nat, q < H.size → H1[q]? = H[q]? := fun q hq => by rw [← hH1, Array.getElem?_push, if_neg (Nat.ne_of_lt hq)]
  refine k' H1 (xa_R_new hR ?_ z1 o1)
  obtain ⟨kA', comp', -, -, -, k4⟩ := (hK.1.2 3 _ rfl).2
  have e : cI = cA 3 := Option.some.inj (f1.symm.trans k4)
  subst e
  show H1[H.size]? = some (vp_cell _ _)
  rw [e1, vp_cell_q]
  rfl
/-- what the callee gave, and on -/
theorem xa_callW {b0 : Nat} {H0 : Heap} {D : va_G} {cA : Nat → ClassId} {p : Program} {e : Env} {R : Room} {s : State} {m : MethodId} {args a : Array Value} {below : List Frame} {meth : Method} {c : Code} {H : Heap} {locs : List Loc} {cells slots mc ms : Nat} {Q : State → Prop} {ls : Array Slot} {st0 : List Value} {z : xa_Z} (hr : va_Run p l e R s m args below meth c H locs cells slots mc ms (F0 m pc ls st0) r (xa_Q b0 H0 D cA z a) (fun x => b0 ≤ x))
    (kk : ∀ (H1 : Heap) (L : List Loc), xa_R b0 H0 D cA z.2 H1 → (∀ x ∈ L, b0 ≤ x.base) → W p l e R s m args below meth c H1 (locs ++ L) (cells + mc) (slots + ms) Q (F0 m (pc + 3) ls (z.1.toList ++ r))) : W p l e R s m args below meth c H locs cells slots Q (F0 m pc ls st0) := by
  intro T hT X
  obtain ⟨v, st₀, t, T', L, h0, X', hL, e1, e2, ⟨hv, hR⟩, stp⟩ := hr T hT X
  cases hv
  obtain ⟨t2, a1, b1⟩ := kk T'.heap L (by rw [e1]; exact hR) hL T' rfl X'
  exact ⟨t2, stp t2 a1, b1⟩
/-- the contract of a method, out of the judgement -/
theorem xa_met {b0 : Nat} {H0 : Heap} {D : va_G} {cA : Nat → ClassId} {m2 : Nat} {z : xa_MI} {As : List Value} {zr : xa_Z} (hz : xa_mt[m2]? = some z) (hm : xa_mok z) (hfit : (lg_sl As).length ≤ z.2.2.1) (h : xa_P l m2 0 (xa_ent As) [] M zr) :
    Met l z.1 (xa_ws z) (xa_rm z (zr.2.2.1 - M.2.1) (zr.2.2.2.1 - M.2.2.1)) (fun v U => v = As.toArray ∧ xa_K D cA b0 H0 M.2.2.2 U ∧ xa_R b0 H0 D cA M U.heap) (xa_Q b0 H0 D cA zr) (zr.2.2.1 - M.2.1) (zr.2.2.2.1 - M.2.2.1) (fun x => b0 ≤ x) := by
  refine Met.ofW (cc := z.2.1) (maxL := z.2.2.1) (ret := z.2.2.2.1) hm.2.2.2.1 rfl ?_
  intro p e s m args below meth c s₁ B hml hv
  obtain ⟨rfl, hK, hR⟩ := hv
  have hl := lv_entry As (n := z.2.2.1) hfit
  rw [lg_entry_eq]
  generalize (lg_sl As ++ List.replicate (z.2.2.1 - (lg_sl As).length) Slot.unset).toArray = ls at hl ⊢
  exact h.2.2.2 z hz b0 H0 D cA p e s m _ below meth c s.heap [] 0 0 M.2.1 M.2.2.1 ls ⟨B.exec, B.bytes, hml, B.returns, findClass_of_methodNamed B.named, atoms_spec (ws := xa_ws z) B.pre, B.notSynchronized, (name_of_methodNamed B.named B.method).1⟩ hK hR (fun _ h => by cases h) ⟨hl.1, hl.2.1, fun i v hi => hl.2.2 (i, v) (xa_lkm hi)⟩ rfl rfl
theorem xa_good {z : xa_MI} (hm : xa_mok z) : GoodIn (xa_ws q) (xa_ws z) := by
  intro w hw
  rcases List.mem_cons.mp hw with rfl | h
  · exact ⟨xa_word hm.1, Or.inl rfl⟩
  · have h2 := List.mem_filter.mp h
    exact ⟨List.mem_cons_of_mem _ h, good_of_word h2.2⟩
theorem xa_args_spec {n : Nat} {K : List Value → List Value → Prop} (x : xa_args n st K) : ∃ As r, st = As.reverse ++ r ∧ As.length = n ∧ K As r := by
  unfold xa_args at x
  split at x
  all_goals first | exact x.elim | exact ⟨_, _, rfl, rfl, x⟩
/-- a call -/
theorem xs_call {m2 : Nat} {z : xa_MI} {As : List Value} {zr : xa_Z} (h1 : xa_mt[mid]? = some q) (hz : xa_mt[m2]? = some z) (hm : xa_mok z) (hrk : z.2.2.2.2.2 < q.2.2.2.2.2) (hfit : xa_fit m2 As) (hz1 : xa_P l m2 0 (xa_ent As) [] M zr) (hz2 : xa_P l mid (pc + 3) lv (zr.1.toList ++ r) zr.2 res)
    (hw : ∀ {b0 : Nat} {H0 : Heap} {D : va_G} {cA : Nat → ClassId} {p : Program} {e : Env} {R : Room} {s : State} {m : MethodId} {args : Array Value} {below : List Frame} {meth : Method} {c : Code} {H : Heap} {locs : List Loc} {cells slots : Nat} {ls : Array Slot}, xa_Fx q p s m args meth c → xa_K D cA b0 H0 M.2.2.2 s → xa_R b0 H0 D cA M H → xa_lv ls q.2.2.1 lv →
      Met l z.1 (xa_ws z) (xa_rm z (zr.2.2.1 - M.2.1) (zr.2.2.2.1 - M.2.2.1)) (fun v U => v = As.toArray ∧ xa_K D cA b0 H0 M.2.2.2 U ∧ xa_R b0 H0 D cA M U.heap) (xa_Q b0 H0 D cA zr) (zr.2.2.1 - M.2.1) (zr.2.2.2.1 - M.2.2.1) (fun x => b0 ≤ x) →
      FrameBlind (fun v U => v = As.toArray ∧ xa_K D cA b0 H0 M.2.2.2 U ∧ xa_R b0 H0 D cA M U.heap) → (∀ U : State, U.heap = H → s.WarmedH U.vm → As.toArray = As.toArray ∧ xa_K D cA b0 H0 M.2.2.2 U ∧ xa_R b0 H0 D cA M U.heap) → (z.2.2.2.2.2 + 1 ≤ R.frames ∧ 8 + (z.2.2.1 + 11) + 40 * z.2.2.2.2.2 ≤ R.locals) → (cells + (zr.2.2.1 - M.2.1) ≤ R.cells ∧ slots + (zr.2.2.2.1 - M.2.2.1) ≤ R.slots) →
      va_Run p l e R s m args below meth c H locs cells slots (zr.2.2.1 - M.2.1) (zr.2.2.2.1 - M.2.2.1) (F0 m pc ls st) r (xa_Q b0 H0 D cA zr As.toArray) (fun x => b0 ≤ x)) : xa_P l mid pc lv st M res := by
  obtain ⟨n1, n2, n4, n3⟩ := hz2
  have hz1' := id hz1
  obtain ⟨c1, c2, hsa, -⟩ := hz1'
  have hfit' : (lg_sl As).length ≤ z.2.2.1 := by
    unfold xa_fit xa_mxl at hfit
    rw [hz] at hfit
    exact hfit
  refine ⟨by omega, by omega, n4.trans hsa, fun q' hq' b0 H0 D cA p e s m args below meth c H locs cells slots sz sl ls hF hK hR hL hl e1 e2 => ?_⟩
  cases h1.symm.trans hq'
  refine xa_callW (z := zr) (hw hF hK hR hl (xa_met hz hm hfit' hz1) (fun a U g mk x => ⟨x.1, xa_K_same rfl x.2.1, x.2.2⟩) (fun U hU hW => ⟨rfl, xa_K_warm hW hK, by rw [hU]; exact hR⟩) ⟨by show _ ≤ q.2.2.2.2.2; omega, by have := hm.2.2.2.2.1; show _ ≤ 40 * q.2.2.2.2.2; omega⟩ ⟨by show _ ≤ res.2.2.1 - sz; omega, by show _ ≤ res.2.2.2.1 - sl; omega⟩) (fun H1 L hR1 hL1 => ?_)
  exact n3 q h1 b0 H0 D cA p e s m args below meth c H1 (locs ++ L) _ _ sz sl ls hF (by rw [hsa]; exact hK) hR1 (fun y hy => (List.mem_append.mp hy).elim (hL y) (hL1 y)) hl (by omega) (by omega)
end XaT
end
section
section XaMna
variable {E : CtlPost} {e : Env} {d : Bool} {acts : List Action} {s : State}
/-- one row of zeros or nulls -/
theorem xw_new {c comp : ClassId} {k : Class} {type : FieldType} {len : Nat} {init : Value} (hk : s.vm.classes[c]? = some k) (hkind : k.kind = .array comp type)
    (hlimit : ¬ len > e.platform.arrayLengthLimit) (hheap : ¬ len * componentBytes type > e.platform.maxHeapBytes) (hfit : fits type init = true) (hdef : init.isDefault = true) {Q : Addr → Pre}
    (h1 : s.heap.size < e.platform.maxCells) (h2 : s.slotsUsed + len ≤ e.platform.maxSlots)
    (hq : Q s.heap.size d acts (s.pushCell { cls := c, slots := Array.replicate len init, vm := .none })) : wp (Jvm.newArray c len init) Q E e d acts s := by
  have hf : ∀ i v, (Array.replicate len init)[i]? = some v → s.fitsSlot c .none i v = true := by
    intro i v hv
    have hv2 : v = init := by
      rw [Array.getElem?_replicate] at hv
      split at hv
      · exact (Option.some.inj hv).symm
      · cases hv
    subst hv2
    simp [State.fitsSlot, State.slotType?, hk, hkind, hfit]
  have ha : allocActs (Array.replicate len init) s.heap.size acts = acts := by
    unfold allocActs
    rw [if_pos (by rw [Array.all_replicate]; split <;> simp [hdef])]
  simp only [Jvm.newArray, Jvm.arrayFits, wp_bind', W.ask, W.ite, hlimit, if_false, wp_pure', W.theClass, hk, hkind, hheap, W.alloc, W.stop, Option.some.injEq, exists_eq_left', Array.size_replicate, ha]
  rw [if_neg (by omega)]
  exact ⟨h1, h2, hf, hq⟩
def xw_o0 (c : ClassId) : Cell := { cls := c, slots := Array.replicate 2 .null, vm := .none }
def xw_in (c : ClassId) : Cell := { cls := c, slots := Array.replicate 61 (.int 0), vm := .none }
def xw_o1 (c : ClassId) (h : Nat) : Cell := (xw_o0 c).setSlot 0 (.ref (h + 1))
def xw_o2 (c : ClassId) (h : Nat) : Cell := (xw_o1 c h).setSlot 1 (.ref (h + 2))
def xw_t1 (s : State) (c : ClassId) : State := s.pushCell (xw_o0 c)
def xw_t2 (s : State) (c ci : ClassId) : State := ((xw_t1 s c).pushCell (xw_in ci)).setCell s.heap.size (xw_o1 c s.heap.size)
def xw_t3 (s : State) (c ci : ClassId) : State := ((xw_t2 s c ci).pushCell (xw_in ci)).setCell s.heap.size (xw_o2 c s.heap.size)
theorem xw_s1 (s : State) (c : ClassId) : (xw_t1 s c).heap.size = s.heap.size + 1 ∧ (xw_t1 s c).heap[s.heap.size]? = some (xw_o0 c) ∧ (xw_t1 s c).vm = s.vm ∧ (xw_t1 s c).slotsUsed = s.slotsUsed + 2 := ⟨by simp [xw_t1], by simp [xw_t1], rfl, by simp [xw_t1, xw_o0]⟩
theorem xw_s2 (s : State) (c ci : ClassId) : (xw_t2 s c ci).heap.size = s.heap.size + 2 ∧ (xw_t2 s c ci).heap[s.heap.size]? = some (xw_o1 c s.heap.size) ∧ (xw_t2 s c ci).vm = s.vm ∧ (xw_t2 s c ci).slotsUsed = s.slotsUsed + 63 ∧ (xw_t2 s c ci).heap[s.heap.size + 1]? = some (xw_in ci) := by
  obtain ⟨a, b, v, u⟩ := xw_s1 s c
  have hlt : s.heap.size < (xw_t1 s c).heap.size := by omega
  have hb' : ((xw_t1 s c).pushCell (xw_in ci)).heap[s.heap.size]? = some (xw_o0 c) := by rw [State.heap_pushCell_of_lt (h := hlt)]; exact b
  refine ⟨by simp [xw_t2, State.setCell, a], State.heap_setCell_self hb', by simp [xw_t2, v], by simp [xw_t2, u, xw_in], ?_⟩
  show (((xw_t1 s c).pushCell (xw_in ci)).setCell s.heap.size _).heap[s.heap.size + 1]? = _
  rw [State.heap_setCell_other (show s.heap.size ≠ s.heap.size + 1 by omega), ← a]
  exact State.heap_pushCell_size _ _
theorem xw_s3 (s : State) (c ci : ClassId) : (xw_t3 s c ci).heap.size = s.heap.size + 3 ∧ (xw_t3 s c ci).heap[s.heap.size]? = some (xw_o2 c s.heap.size) ∧ (xw_t3 s c ci).vm = s.vm ∧ (xw_t3 s c ci).heap[s.heap.size + 1]? = some (xw_in ci) ∧ (xw_t3 s c ci).heap[s.heap.size + 2]? = some (xw_in ci) ∧ ∀ a, a < s.heap.size → (xw_t3 s c ci).heap[a]? = s.heap[a]? := by
  obtain ⟨a, b, v, u, w⟩ := xw_s2 s c ci
  have hlt : s.heap.size < (xw_t2 s c ci).heap.size := by omega
  have hb' : ((xw_t2 s c ci).pushCell (xw_in ci)).heap[s.heap.size]? = some (xw_o1 c s.heap.size) := by rw [State.heap_pushCell_of_lt (h := hlt)]; exact b
  refine ⟨by simp [xw_t3, State.setCell, a], State.heap_setCell_self hb', by simp [xw_t3, v], ?_, ?_, fun x hx => ?_⟩
  · show (((xw_t2 s c ci).pushCell (xw_in ci)).setCell s.heap.size _).heap[s.heap.size + 1]? = _
    rw [State.heap_setCell_other (show s.heap.size ≠ s.heap.size + 1 by omega), State.heap_pushCell_of_lt (h := show s.heap.size + 1 < (xw_t2 s c ci).heap.size by omega)]
    exact w
  · show (((xw_t2 s c ci).pushCell (xw_in ci)).setCell s.heap.size _).heap[s.heap.size + 2]? = _
    rw [State.heap_setCell_other (show s.heap.size ≠ s.heap.size + 2 by omega), ← a]
    exact State.heap_pushCell_size _ _
  · show (((xw_t2 s c ci).pushCell (xw_in ci)).setCell s.heap.size _).heap[x]? = _
    rw [State.heap_setCell_other (show s.heap.size ≠ x by omega), State.heap_pushCell_of_lt (h := show x < (xw_t2 s c ci).heap.size by omega)]
    show (((xw_t1 s c).pushCell (xw_in ci)).setCell s.heap.size _).heap[x]? = _
    rw [State.heap_setCell_other (show s.heap.size ≠ x by omega), State.heap_pushCell_of_lt (h := show x < (xw_t1 s c).heap.size by rw [(xw_s1 s c).1]; omega)]
    exact State.heap_pushCell_of_lt _ _ hx
theorem xw_make1 {comp cc : ClassId} {kc : Class} (hkc : s.vm.classes[comp]? = some kc) (hkindc : kc.kind = .array cc .int)
    (hl2 : ¬ 61 > e.platform.arrayLengthLimit) (hh2 : ¬ 61 * componentBytes .int > e.platform.maxHeapBytes) (h1 : s.heap.size < e.platform.maxCells) (h2 : s.slotsUsed + 61 ≤ e.platform.maxSlots)
    {Q : Addr → Pre} (hq : Q s.heap.size d acts (s.pushCell (xw_in comp))) : wp (multianewarray.make comp [nI 61]) Q E e d acts s := by
  rw [multianewarray.make]
  have hm : ¬ nI 61 < 0 := by decide
  simp only [wp_bind', W.ite, hm, if_false, wp_pure', W.theClass, hkc, hkindc, Option.some.injEq, exists_eq_left']
  exact xw_new (len := 61) hkc hkindc hl2 hh2 rfl rfl h1 h2 hq
theorem xw_make2 {c comp cc : ClassId} {k kc : Class} (hk : s.vm.classes[c]? = some k) (hkind : k.kind = .array comp (.array .int)) (hkc : s.vm.classes[comp]? = some kc) (hkindc : kc.kind = .array cc .int)
    (hl1 : ¬ 2 > e.platform.arrayLengthLimit) (hh1 : ¬ 2 * componentBytes (.array .int) > e.platform.maxHeapBytes) (hl2 : ¬ 61 > e.platform.arrayLengthLimit) (hh2 : ¬ 61 * componentBytes .int > e.platform.maxHeapBytes)
    (hc : s.heap.size + 3 ≤ e.platform.maxCells) (hs : s.slotsUsed + 124 ≤ e.platform.maxSlots)
    {Q : Addr → Pre} (hq : ∀ d' acts', Q s.heap.size d' acts' (xw_t3 s c comp)) : wp (multianewarray.make c [nI 2, nI 61]) Q E e d acts s := by
  have hn : ¬ nI 2 < 0 := by decide
  have h0 : (nI 2 == 0) = false := by decide
  have e2 : (nI 2).toNatClampNeg = 2 := by decide
  rw [multianewarray.make]
  simp only [wp_bind', W.ite, hn, if_false, wp_pure', W.theClass, hk, hkind, Option.some.injEq, exists_eq_left']
  rw [e2]
  refine xw_new (len := 2) hk hkind hl1 hh1 rfl rfl (by omega) (by omega) ?_
  simp only [h0, Bool.false_eq_true, if_false]
  rw [Std.Legacy.Range.forIn_eq_forIn_range']
  have hr : List.range' ([:2] : Std.Legacy.Range).start ([:2] : Std.Legacy.Range).size ([:2] : Std.Legacy.Range).step = [0, 1] := by decide
  rw [hr]
  obtain ⟨a1, a2, a3, a4⟩ := xw_s1 s c
  obtain ⟨b1, b2, b3, b4, b5⟩ := xw_s2 s c comp
  simp only [List.forIn_cons, List.forIn_nil, wp_bind']
  refine xw_make1 (s := xw_t1 s c) (by rw [a3]; exact hkc) hkindc hl2 hh2 (by omega) (by omega) ?_
  simp only [wp_bind', W.writeLoc, wp_pure']
  refine ⟨xw_o0 c, ?_, ?_, ?_, ?_, ?_⟩
  · rw [State.heap_pushCell_of_lt (h := show s.heap.size < (xw_t1 s c).heap.size by omega)]; exact a2
  · simp [xw_o0]
  · simp [xw_o0]
  · simp [State.fitsSlot, State.slotType?, xw_o0, a3, hk, hkind, fits]
  rw [show (((xw_t1 s c).pushCell (xw_in comp)).setCell s.heap.size ((xw_o0 c).setSlot 0 (Value.ref (Array.size (xw_t1 s c).heap)))) = xw_t2 s c comp by rw [a1]; rfl]
  refine xw_make1 (s := xw_t2 s c comp) (by rw [b3]; exact hkc) hkindc hl2 hh2 (by omega) (by omega) ?_
  simp only [wp_bind', W.writeLoc, wp_pure']
  refine ⟨xw_o1 c s.heap.size, ?_, ?_, ?_, ?_, ?_⟩
  · rw [State.heap_pushCell_of_lt (h := show s.heap.size < (xw_t2 s c comp).heap.size by omega)]; exact b2
  · simp [xw_o1, xw_o0, Cell.setSlot]
  · simp [xw_o1, xw_o0, Cell.setSlot]
  · simp [State.fitsSlot, State.slotType?, xw_o1, xw_o0, Cell.setSlot, b3, hk, hkind, fits]
  rw [show (((xw_t2 s c comp).pushCell (xw_in comp)).setCell s.heap.size ((xw_o1 c s.heap.size).setSlot 1 (Value.ref (Array.size (xw_t2 s c comp).heap)))) = xw_t3 s c comp by rw [b1]; rfl]
  exact hq _ _
theorem xw_setTop (s : State) (f : JFrame) (c ci : ClassId) : xw_t3 (s.setTop f) c ci = (xw_t3 s c ci).setTop f := by
  simp only [xw_t3, xw_t2, xw_t1, State.heap_setTop, State.pushCell_setTop, State.setCell_setTop]
end XaMna
section XaMnb
variable {p : Program} {l : Launch} {e : Env} {R : Room} {s : State} {m : MethodId} {args : Array Value} {below : List Frame} {meth : Method} {c : Code} {T : State} {locs : List Loc} {cells slots : Nat}
theorem xw_stand (X : Stand p l e R s m args below meth c T locs cells slots) (cA ci : ClassId) : Stand p l e R s m args below meth c (xw_t3 T cA ci) (locs ++ [⟨T.heap.size, 0⟩] ++ [⟨T.heap.size, 1⟩]) (cells + 3) (slots + 124) := by
  obtain ⟨a1, a2, a3, a4⟩ := xw_s1 T cA
  obtain ⟨b1, b2, b3, b4, b5⟩ := xw_s2 T cA ci
  have x1 : Stand p l e R s m args below meth c (xw_t1 T cA) locs (cells + 1) (slots + 2) := by
    have h := X.pushed (xw_o0 cA)
    simpa [xw_o0, xw_t1] using h
  have x2 : Stand p l e R s m args below meth c (xw_t2 T cA ci) (locs ++ [⟨T.heap.size, 0⟩]) (cells + 2) (slots + 63) := by
    have h := (x1.pushed (xw_in ci)).stored (by rw [State.heap_pushCell_of_lt (h := show T.heap.size < (xw_t1 T cA).heap.size by omega)]; exact a2) 0 (.ref (T.heap.size + 1))
    simpa [xw_in, xw_t2, xw_o1] using h
  have h := (x2.pushed (xw_in ci)).stored (by rw [State.heap_pushCell_of_lt (h := show T.heap.size < (xw_t2 T cA ci).heap.size by omega)]; exact b2) 1 (.ref (T.heap.size + 2))
  simpa [xw_in, xw_t3, xw_o2] using h
theorem xw_multi (X : Stand p l e R s m args below meth c T locs cells slots) (hexec : p.tables.exec = Jvm.exec) {own : String} {index : Nat}
    (hown : s.vm.findClass own = some m.cls) (hclink : (Cond.classLink own index "[[I").before args s = true) (hover : (Cond.arrayOver (.array .int)).before args s = true) (harr : (Cond.arrayClass .int).before args s = true)
    {g : JFrame} (hg : g.method = m) (hdg : decode c.code g.pc = .ok (.multianewarray index 2, 4)) {rest : List Value} (hstack : g.stack = .int (nI 61) :: .int (nI 2) :: rest) (hcells : cells + 3 ≤ R.cells) (hslots : slots + 124 ≤ R.slots) :
    ∃ (vm₁ : Vm) (cA comp : ClassId), s.WarmedH vm₁ ∧ s.vm.findClass "[[I" = some cA ∧ s.vm.findClass "[I" = some comp ∧
      Stand p l e R s m args below meth c (xw_t3 (T.setVm vm₁) cA comp) (locs ++ [⟨T.heap.size, 0⟩] ++ [⟨T.heap.size, 1⟩]) (cells + 3) (slots + 124) ∧
      ∀ target, Steps p.tables e below ((xw_t3 (T.setVm vm₁) cA comp).setTop { g with pc := g.pc + 4, stack := .ref T.heap.size :: rest }) target → Steps p.tables e below (T.setTop g) target := by
  subst hg
  have hpl : e.platform.magicAccessors = ({} : Platform).magicAccessors := by rw [X.admits.platform]
  obtain ⟨comp, cA, kA, hcomp, -, hkA, hkindA, hnameA⟩ := arrayOverA_spec hover
  obtain ⟨comp', kC, cc, hcomp', hkC, hkindC⟩ := Cond.arrayClass_spec harr
  have ecomp : comp' = comp := Option.some.inj (hcomp'.symm.trans hcomp)
  subst ecomp
  obtain ⟨c0, hfc0, hcl⟩ := Cond.classLink_spec hown hclink e.platform hpl
  cases hnameA.symm.trans hfc0
  obtain ⟨hg₁, hwarm₁, hready₁⟩ := State.classEntry (e := e) X.warmed hcl
  generalize T.vm.noted g.method.cls index (.cls cA) = vm₁ at hg₁ hwarm₁ hready₁
  have hal : s.vm.Alike vm₁ := hwarm₁.alike
  obtain ⟨kA₁, hkA₁, heA⟩ := hal.2.2 _ _ hkA
  obtain ⟨kC₁, hkC₁, heC⟩ := hal.2.2 _ _ hkC
  have hkindA₁ : kA₁.kind = .array comp' (.array .int) := by rw [heA]; exact hkindA
  have hkindC₁ : kC₁.kind = .array cc .int := by rw [heC]; exact hkindC
  have X₁ := X.noted hwarm₁
  obtain ⟨hr1, hr2⟩ := X.roomAbove hcells hslots
  refine ⟨vm₁, cA, comp', hwarm₁, hnameA, hcomp, xw_stand X₁ cA comp', fun target hrest => ?_⟩
  have al := Launch.admits_arrayLengthLimit X.admits
  have ah := Launch.admits_maxHeapBytes X.admits
  jvm_step X.here [hexec, hdg]
  simp only [multianewarray.sem, wp_bind', W.resolveClassAt_links (State.method?_setTop g X.here.top) hg₁]
  rw [W.popN, if_neg (by decide)]
  refine ⟨g, State.topJava?_setTop' (s := T.setVm vm₁) g X.here.top, [.int (nI 2), .int (nI 61)], rest, rfl, hstack, ?_⟩
  simp only [List.mapM_cons, List.mapM_nil, wp_bind', wp_pure']
  refine xw_make2 (k := kA₁) (kc := kC₁) (comp := comp') (cc := cc) hkA₁ hkindA₁ hkC₁ hkindC₁ (by rw [al]; omega) (by rw [ah]; decide) (by rw [al]; omega) (by rw [ah]; decide) (by show T.heap.size + 3 ≤ _; omega) (by show T.slotsUsed + 124 ≤ _; omega) (fun d' acts' => ?_)
  have XF := xw_stand X₁ cA comp'
  have eS : ((T.setTop g).setVm vm₁).setTop { g with stack := rest } = (T.setVm vm₁).setTop { g with stack := rest } := by
    show ((T.setVm vm₁).setTop g).setTop _ = _
    rw [State.setTop_setTop]
  rw [eS, xw_setTop]
  simp only [wp_bind', W.mark, W.pushRef, State.topJava?_setTop' _ XF.here.top, Option.some.injEq, exists_eq_left', State.setTop_setTop, State.heap_setTop]
  intro acts
  simp [jvm, XF.here.top]
  exact hrest
end XaMnb
end
section
section XaMnc
variable {l : Launch} {mid pc : Nat} {lv : xa_L} {st r : List Value} {M : xa_M} {res : xa_Z} {q : xa_MI}
theorem xw_oc (c : ClassId) (h : Nat) : xw_o2 c h = vp_cell c (2, .inr (.inr (.inr (.inr (fun i => if i < 2 then some (h + 1 + i) else none))))) := by
  rw [vp_cell_q]
  show ((xw_o0 c).setSlot 0 _).setSlot 1 _ = _
  have e0 : xw_o0 c = arrV c 2 (fun _ => .null) := by unfold xw_o0; rw [arrV_new]
  rw [e0, arrV_store, arrV_store]
  unfold arrV
  congr 1
theorem xw_ic (c : ClassId) : xw_in c = vp_cell c (61, .inl (fun _ => 0)) := by
  rw [vp_cell_i]
  unfold xw_in
  rw [arrV_new]
theorem xs_mna {i ci pl : Nat} {n k : Int32} (h1 : xa_mt[mid]? = some q) (hcl : xa_in (.classLink q.1.cls i "[[I")) (hac : xa_in (.arrayClass .int)) (hd : decode q.2.1 pc = .ok (.multianewarray i 2, 4)) (hn : n = nI 2) (hk : k = nI 61) (x : xa_P l mid (pc + 4) lv (.ref M.2.1 :: r) (xa_al (xa_al (xa_al M (.inl (4, 2, .inr (.inr (.inr (.inr (fun i => if i < 2 then some (M.2.1 + 1 + i) else none)))))) 2) (.inl (0, 61, .inl (fun _ => 0))) 61) (.inl (0, 61, .inl (fun _ => 0))) 61) res) : xa_P l mid pc lv (.int k :: .int n :: r) M res := by
  subst hn
  subst hk
  obtain ⟨n1, n2, n4, n3⟩ := x
  have n1 : M.2.1 + 1 + 1 + 1 ≤ res.2.2.1 := n1
  have n2 : M.2.2.1 + 2 + 61 + 61 ≤ res.2.2.2.1 := n2
  refine ⟨by omega, by omega, n4, fun q' hq' b0 H0 D cA p e s m args below meth c H locs cells slots sz sl ls hF hK hR hL hl e1 e2 => ?_⟩
  cases h1.symm.trans hq'
  intro T hT X
  have hts := hF.2.2.2.2.2.1
  obtain ⟨vm₁, cB, comp, hW, fA, fC, X', step⟩ := xw_multi X hF.1 hF.2.2.2.2.1 (hts _ (xa_word hcl)) hK.2.1.2.1 (hts _ (xa_word hac)) (g := F0 m pc ls (.int (nI 61) :: .int (nI 2) :: r)) rfl (by rw [hF.2.1]; exact hd) rfl (by show cells + 3 ≤ res.2.2.1 - sz; omega) (by show slots + 124 ≤ res.2.2.2.1 - sl; omega)
  have eA : cB = cA 4 := Option.some.inj (fA.symm.trans (hK.1.2 4 _ rfl).2)
  have eC : comp = cA 0 := Option.some.inj (fC.symm.trans (hK.1.2 0 _ rfl).2)
  subst eA
  subst eC
  obtain ⟨z1, z2, z3, z4, z5, z6⟩ := xw_s3 (T.setVm vm₁) (cA 4) (cA 0)
  have hh : (T.setVm vm₁).heap = H := hT
  rw [hh] at z1 z2 z4 z5 z6
  obtain ⟨r1, r2, r3, r4⟩ := hR
  have hR' : xa_R b0 H0 D cA (xa_al (xa_al (xa_al M (.inl (4, 2, .inr (.inr (.inr (.inr (fun i => if i < 2 then some (M.2.1 + 1 + i) else none)))))) 2) (.inl (0, 61, .inl (fun _ => 0))) 61) (.inl (0, 61, .inl (fun _ => 0))) 61) (xw_t3 (T.setVm vm₁) (cA 4) (cA 0)).heap := by
    refine ⟨by rw [z1, ← r1]; rfl, by rw [z1]; omega, fun y hy => by rw [z6 y (by omega)]; exact r3 y hy, fun a f hf => ?_⟩
    unfold xa_al at hf
    dsimp only at hf
    by_cases c2 : a = M.2.1 + 1 + 1
    · rw [if_pos c2] at hf
      cases hf
      rw [c2, r1]
      exact ⟨by omega, by show (xw_t3 (T.setVm vm₁) (cA 4) (cA 0)).heap[H.size + 1 + 1]? = some (vp_cell _ _); rw [← xw_ic]; exact z5⟩
    · rw [if_neg c2] at hf
      by_cases c1 : a = M.2.1 + 1
      · rw [if_pos c1] at hf
        cases hf
        rw [c1, r1]
        exact ⟨by omega, by show (xw_t3 (T.setVm vm₁) (cA 4) (cA 0)).heap[H.size + 1]? = some (vp_cell _ _); rw [← xw_ic]; exact z4⟩
      · rw [if_neg c1] at hf
        by_cases c0 : a = M.2.1
        · rw [if_pos c0] at hf
          cases hf
          rw [c0, r1]
          exact ⟨r2, by show (xw_t3 (T.setVm vm₁) (cA 4) (cA 0)).heap[H.size]? = some (vp_cell _ _); rw [← xw_oc]; exact z2⟩
        · rw [if_neg c0] at hf
          have h2 := (r4 a f hf).2
          exact ⟨(r4 a f hf).1, h2.kept (z6 a h2.lt)⟩
  have W9 := n3 q h1 b0 H0 D cA p e s m args below meth c _ (locs ++ [⟨T.heap.size, 0⟩] ++ [⟨T.heap.size, 1⟩]) (cells + 3) (slots + 124) sz sl ls hF hK hR' (fun y hy => by
    have hb : b0 ≤ T.heap.size := by rw [hT]; exact r2
    rcases List.mem_append.mp hy with h | h
    · rcases List.mem_append.mp h with h | h
      · exact hL y h
      · rw [List.mem_singleton.mp h]; exact hb
    · rw [List.mem_singleton.mp h]; exact hb) hl (by show _ = M.2.1 + 1 + 1 + 1; omega) (by show _ = M.2.2.1 + 2 + 61 + 61; omega)
  obtain ⟨t, a1, b1⟩ := W9 _ rfl X'
  refine ⟨t, step t ?_, b1⟩
  have e5 : T.heap.size = M.2.1 := by rw [hT]; exact r1.symm
  rw [e5]
  exact a1
end XaMnc
end
section
theorem xa_imp {k n : Nat} {A : Prop} [Decidable A] (h : (!(k == n) || decide A) = true) : k = n → A := by
  intro e
  subst e
  simpa using h
def xa_ctc (own : Nat) (e : Nat × Nat × Nat × Nat × Nat × Nat × Nat) : Bool := match e with
  | (i, k, m2, n, pl, p2, p3) => match xa_mt[m2]? with
    | some z => (!(k == 0) || decide (lw_tbl[pl]? = some (.methodLink (xa_cn own) i z.1) ∧ lw_tbl[p2]? = some (.instanceMethod z.1) ∧ lw_tbl[p3]? = some (.selects z.1.cls z.1 z.1) ∧ (parseMethodDescriptor z.1.desc).map (fun d => d.parameters.length) = some (n - 1) ∧ 0 < n)) && (!(k == 1) || decide (lw_tbl[pl]? = some (.methodLink (xa_cn own) i z.1) ∧ lw_tbl[p2]? = some (.static z.1) ∧ (parseMethodDescriptor z.1.desc).map (fun d => d.parameters.length) = some n)) && (!(k == 2) || decide (lw_tbl[pl]? = some (.methodLink (xa_cn own) i z.1) ∧ lw_tbl[p2]? = some (.instanceMethod z.1) ∧ z.1.name = "<init>" ∧ (parseMethodDescriptor z.1.desc).map (fun d => d.parameters.length) = some (n - 1) ∧ 0 < n)) && (!(k == 3) || decide (lw_tbl[pl]? = some (.methodLinkNest (xa_cn own) i z.1 RX6) ∧ lw_tbl[p2]? = some (.static z.1) ∧ (parseMethodDescriptor z.1.desc).map (fun d => d.parameters.length) = some n)) && (!(k == 4) || decide (lw_tbl[pl]? = some (.methodLinkNest (xa_cn own) i z.1 RX6) ∧ lw_tbl[p2]? = some (.instanceMethod z.1) ∧ z.1.name = "<init>" ∧ (parseMethodDescriptor z.1.desc).map (fun d => d.parameters.length) = some (n - 1) ∧ 0 < n)) && (!(k == 5) || decide (lw_tbl[pl]? = some (.methodLink (xa_cn own) i objectInit))) && (!(k == 6) || decide (lw_tbl[pl]? = some (.methodLink (xa_cn own) i Lib.Math.max.name))) && (!(k == 7) || decide (lw_tbl[pl]? = some (.methodLink (xa_cn own) i Lib.Math.min.name))) && (!(k == 8) || decide (lw_tbl[pl]? = some (.methodLink (xa_cn own) i arraycopyName))) && (!(k == 9) || decide (lw_tbl[pl]? = some (.methodLink (xa_cn own) i ⟨"java/lang/String", "length", "()I"⟩))) && (!(k == 10) || decide (lw_tbl[pl]? = some (.methodLink (xa_cn own) i ⟨"java/lang/String", "charAt", "(I)C"⟩)))
    | none => false
set_option maxRecDepth 100000 in
theorem xa_ctt0 : ∀ e ∈ xa_ct 0, xa_ctc 0 e = true := by decide +kernel
set_option maxRecDepth 100000 in
theorem xa_ctt1 : ∀ e ∈ xa_ct 1, xa_ctc 1 e = true := by decide +kernel
set_option maxRecDepth 100000 in
theorem xa_ctt2 : ∀ e ∈ xa_ct 2, xa_ctc 2 e = true := by decide +kernel
set_option maxRecDepth 100000 in
theorem xa_ctt3 : ∀ e ∈ xa_ct 3, xa_ctc 3 e = true := by decide +kernel
set_option maxRecDepth 100000 in
theorem xa_ctt4 : ∀ e ∈ xa_ct 4, xa_ctc 4 e = true := by decide +kernel
set_option maxRecDepth 100000 in
theorem xa_ctt5 : ∀ e ∈ xa_ct 5, xa_ctc 5 e = true := by decide +kernel
set_option maxRecDepth 100000 in
theorem xa_ctt6 : ∀ e ∈ xa_ct 6, xa_ctc 6 e = true := by decide +kernel
set_option maxRecDepth 100000 in
theorem xa_ctt7 : ∀ e ∈ xa_ct 7, xa_ctc 7 e = true := by decide +kernel
theorem xa_ctt (own : Nat) : ∀ e ∈ xa_ct own, xa_ctc own e = true := by
  match own with
  | 0 => exact xa_ctt0
  | 1 => exact xa_ctt1
  | 2 => exact xa_ctt2
  | 3 => exact xa_ctt3
  | 4 => exact xa_ctt4
  | 5 => exact xa_ctt5
  | 6 => exact xa_ctt6
  | 7 => exact xa_ctt7
  | n + 8 => intro e h; cases h
def xa_ntc (own : Nat) (e : Nat × Nat × Nat) : Bool := match e with
  | (i, ci, pl) => if ci < 8 then decide (lw_tbl[pl]? = some (.classLink (xa_cn own) i (xa_cn ci))) else decide (lw_tbl[pl]? = some (.classLink (xa_cn own) i "[[I"))
set_option maxRecDepth 100000 in
theorem xa_ntt0 : ∀ e ∈ xa_nt 0, xa_ntc 0 e = true := by decide +kernel
set_option maxRecDepth 100000 in
theorem xa_ntt1 : ∀ e ∈ xa_nt 1, xa_ntc 1 e = true := by decide +kernel
set_option maxRecDepth 100000 in
theorem xa_ntt2 : ∀ e ∈ xa_nt 2, xa_ntc 2 e = true := by decide +kernel
set_option maxRecDepth 100000 in
theorem xa_ntt3 : ∀ e ∈ xa_nt 3, xa_ntc 3 e = true := by decide +kernel
set_option maxRecDepth 100000 in
theorem xa_ntt4 : ∀ e ∈ xa_nt 4, xa_ntc 4 e = true := by decide +kernel
set_option maxRecDepth 100000 in
theorem xa_ntt5 : ∀ e ∈ xa_nt 5, xa_ntc 5 e = true := by decide +kernel
set_option maxRecDepth 100000 in
theorem xa_ntt6 : ∀ e ∈ xa_nt 6, xa_ntc 6 e = true := by decide +kernel
set_option maxRecDepth 100000 in
theorem xa_ntt7 : ∀ e ∈ xa_nt 7, xa_ntc 7 e = true := by decide +kernel
theorem xa_ntt (own : Nat) : ∀ e ∈ xa_nt own, xa_ntc own e = true := by
  match own with
  | 0 => exact xa_ntt0
  | 1 => exact xa_ntt1
  | 2 => exact xa_ntt2
  | 3 => exact xa_ntt3
  | 4 => exact xa_ntt4
  | 5 => exact xa_ntt5
  | 6 => exact xa_ntt6
  | 7 => exact xa_ntt7
  | n + 8 => intro e h; cases h
def xa_ltc (own : Nat) (e : Nat × Nat × Nat) : Bool := match e with
  | (i, v, pl) => decide (lw_tbl[pl]? = some (.constantLong (xa_cn own) i (lN v)))
set_option maxRecDepth 100000 in
theorem xa_ltt0 : ∀ e ∈ xa_lt 0, xa_ltc 0 e = true := by decide +kernel
set_option maxRecDepth 100000 in
theorem xa_ltt1 : ∀ e ∈ xa_lt 1, xa_ltc 1 e = true := by decide +kernel
set_option maxRecDepth 100000 in
theorem xa_ltt2 : ∀ e ∈ xa_lt 2, xa_ltc 2 e = true := by decide +kernel
set_option maxRecDepth 100000 in
theorem xa_ltt3 : ∀ e ∈ xa_lt 3, xa_ltc 3 e = true := by decide +kernel
set_option maxRecDepth 100000 in
theorem xa_ltt4 : ∀ e ∈ xa_lt 4, xa_ltc 4 e = true := by decide +kernel
set_option maxRecDepth 100000 in
theorem xa_ltt5 : ∀ e ∈ xa_lt 5, xa_ltc 5 e = true := by decide +kernel
set_option maxRecDepth 100000 in
theorem xa_ltt6 : ∀ e ∈ xa_lt 6, xa_ltc 6 e = true := by decide +kernel
set_option maxRecDepth 100000 in
theorem xa_ltt7 : ∀ e ∈ xa_lt 7, xa_ltc 7 e = true := by decide +kernel
theorem xa_ltt (own : Nat) : ∀ e ∈ xa_lt own, xa_ltc own e = true := by
  match own with
  | 0 => exact xa_ltt0
  | 1 => exact xa_ltt1
  | 2 => exact xa_ltt2
  | 3 => exact xa_ltt3
  | 4 => exact xa_ltt4
  | 5 => exact xa_ltt5
  | 6 => exact xa_ltt6
  | 7 => exact xa_ltt7
  | n + 8 => intro e h; cases h
set_option maxRecDepth 100000 in
theorem xa_acn : xa_in (.native arraycopyName) := xa_pl 378 rfl rfl
set_option maxRecDepth 100000 in
theorem xa_acs : xa_in (.static arraycopyName) := xa_pl 377 rfl rfl
set_option maxRecDepth 100000 in
theorem xa_aci : xa_in (.initialized "java/lang/System") := xa_pl 57 rfl rfl
set_option maxRecDepth 100000 in
theorem xa_mi : xa_in (.initialized "java/lang/Math") := xa_pl 50 rfl rfl
set_option maxRecDepth 100000 in
theorem xa_maxs : xa_in (.static Lib.Math.max.name) := xa_pl 200 rfl rfl
set_option maxRecDepth 100000 in
theorem xa_maxc : xa_in (.code Lib.Math.max.name Lib.Math.max.code 2 (some .int)) := xa_pl 201 rfl rfl
set_option maxRecDepth 100000 in
theorem xa_mins : xa_in (.static Lib.Math.min.name) := xa_pl 374 rfl rfl
set_option maxRecDepth 100000 in
theorem xa_minc : xa_in (.code Lib.Math.min.name Lib.Math.min.code 2 (some .int)) := xa_pl 375 rfl rfl
set_option maxRecDepth 100000 in
theorem xa_oi : xa_in (.instanceMethod objectInit) := xa_pl 65 rfl rfl
set_option maxRecDepth 100000 in
theorem xa_oc : xa_in (.code objectInit ⟨#[0xb1]⟩ 1 none) := xa_pl 66 rfl rfl
set_option maxRecDepth 100000 in
theorem xa_ac_int : xa_in (.arrayClass .int) := xa_pl 88 rfl rfl
set_option maxRecDepth 100000 in
theorem xa_ac_char : xa_in (.arrayClass .char) := xa_pl 87 rfl rfl
set_option maxRecDepth 100000 in
theorem xa_ac_boolean : xa_in (.arrayClass .boolean) := xa_pl 767 rfl rfl
end
section
def yj_length : MethodName := ⟨"java/lang/String", "length", "()I"⟩
def yj_coder : MethodName := ⟨"java/lang/String", "coder", "()B"⟩
def yj_latin : MethodName := ⟨"java/lang/String", "isLatin1", "()Z"⟩
def yj_charAt : MethodName := ⟨"java/lang/String", "charAt", "(I)C"⟩
def yj_char1 : MethodName := ⟨"java/lang/StringLatin1", "charAt", "([BI)C"⟩
def yj_check : MethodName := ⟨"java/lang/String", "checkIndex", "(II)V"⟩
def yj_pre : MethodName := ⟨"jdk/internal/util/Preconditions", "checkIndex", "(IILjava/util/function/BiFunction;)I"⟩
abbrev qj_length : xa_MI := (yj_length, prog_11_method_54_code, 1, some .int, 0, 0)
abbrev qj_coder : xa_MI := (yj_coder, prog_11_method_152_code, 1, some .byte, 0, 0)
abbrev qj_latin : xa_MI := (yj_latin, prog_11_method_154_code, 1, some .boolean, 0, 0)
abbrev qj_charAt : xa_MI := (yj_charAt, prog_11_method_56_code, 2, some .char, 0, 0)
abbrev qj_char1 : xa_MI := (yj_char1, prog_12_method_2_code, 2, some .char, 0, 0)
abbrev qj_check : xa_MI := (yj_check, prog_11_method_155_code, 2, none, 0, 0)
abbrev qj_pre : xa_MI := (yj_pre, prog_15_method_11_code, 3, some .int, 0, 0)
theorem dj_length_0 : decode prog_11_method_54_code 0 = .ok (.aload_n 0, 1) := by decide +kernel
theorem dj_length_1 : decode prog_11_method_54_code 1 = .ok (.getfield 9, 3) := by decide +kernel
theorem dj_length_4 : decode prog_11_method_54_code 4 = .ok (.arraylength, 1) := by decide +kernel
theorem dj_length_5 : decode prog_11_method_54_code 5 = .ok (.aload_n 0, 1) := by decide +kernel
theorem dj_length_6 : decode prog_11_method_54_code 6 = .ok (.invokevirtual 335, 3) := by decide +kernel
theorem dj_length_9 : decode prog_11_method_54_code 9 = .ok (.ishr, 1) := by decide +kernel
theorem dj_length_10 : decode prog_11_method_54_code 10 = .ok (.ireturn, 1) := by decide +kernel
theorem dj_coder_0 : decode prog_11_method_152_code 0 = .ok (.getstatic 38, 3) := by decide +kernel
theorem dj_coder_3 : decode prog_11_method_152_code 3 = .ok (.ifCond .eq 10, 3) := by decide +kernel
theorem dj_coder_6 : decode prog_11_method_152_code 6 = .ok (.aload_n 0, 1) := by decide +kernel
theorem dj_coder_7 : decode prog_11_method_152_code 7 = .ok (.getfield 15, 3) := by decide +kernel
theorem dj_coder_10 : decode prog_11_method_152_code 10 = .ok (.goto 4, 3) := by decide +kernel
theorem dj_coder_13 : decode prog_11_method_152_code 13 = .ok (.iconst 1, 1) := by decide +kernel
theorem dj_coder_14 : decode prog_11_method_152_code 14 = .ok (.ireturn, 1) := by decide +kernel
theorem dj_latin_0 : decode prog_11_method_154_code 0 = .ok (.getstatic 38, 3) := by decide +kernel
theorem dj_latin_3 : decode prog_11_method_154_code 3 = .ok (.ifCond .eq 14, 3) := by decide +kernel
theorem dj_latin_6 : decode prog_11_method_154_code 6 = .ok (.aload_n 0, 1) := by decide +kernel
theorem dj_latin_7 : decode prog_11_method_154_code 7 = .ok (.getfield 15, 3) := by decide +kernel
theorem dj_latin_10 : decode prog_11_method_154_code 10 = .ok (.ifCond .ne 7, 3) := by decide +kernel
theorem dj_latin_13 : decode prog_11_method_154_code 13 = .ok (.iconst 1, 1) := by decide +kernel
theorem dj_latin_14 : decode prog_11_method_154_code 14 = .ok (.goto 4, 3) := by decide +kernel
theorem dj_latin_17 : decode prog_11_method_154_code 17 = .ok (.iconst 0, 1) := by decide +kernel
theorem dj_latin_18 : decode prog_11_method_154_code 18 = .ok (.ireturn, 1) := by decide +kernel
theorem dj_charAt_0 : decode prog_11_method_56_code 0 = .ok (.aload_n 0, 1) := by decide +kernel
theorem dj_charAt_1 : decode prog_11_method_56_code 1 = .ok (.invokevirtual 492, 3) := by decide +kernel
theorem dj_charAt_4 : decode prog_11_method_56_code 4 = .ok (.ifCond .eq 12, 3) := by decide +kernel
theorem dj_charAt_7 : decode prog_11_method_56_code 7 = .ok (.aload_n 0, 1) := by decide +kernel
theorem dj_charAt_8 : decode prog_11_method_56_code 8 = .ok (.getfield 9, 3) := by decide +kernel
theorem dj_charAt_11 : decode prog_11_method_56_code 11 = .ok (.iload_n 1, 1) := by decide +kernel
theorem dj_charAt_12 : decode prog_11_method_56_code 12 = .ok (.invokestatic 495, 3) := by decide +kernel
theorem dj_charAt_15 : decode prog_11_method_56_code 15 = .ok (.ireturn, 1) := by decide +kernel
theorem dj_charAt_16 : decode prog_11_method_56_code 16 = .ok (.aload_n 0, 1) := by decide +kernel
theorem dj_charAt_17 : decode prog_11_method_56_code 17 = .ok (.getfield 9, 3) := by decide +kernel
theorem dj_charAt_20 : decode prog_11_method_56_code 20 = .ok (.iload_n 1, 1) := by decide +kernel
theorem dj_charAt_21 : decode prog_11_method_56_code 21 = .ok (.invokestatic 498, 3) := by decide +kernel
theorem dj_charAt_24 : decode prog_11_method_56_code 24 = .ok (.ireturn, 1) := by decide +kernel
theorem dj_char1_0 : decode prog_12_method_2_code 0 = .ok (.iload_n 1, 1) := by decide +kernel
theorem dj_char1_1 : decode prog_12_method_2_code 1 = .ok (.aload_n 0, 1) := by decide +kernel
theorem dj_char1_2 : decode prog_12_method_2_code 2 = .ok (.arraylength, 1) := by decide +kernel
theorem dj_char1_3 : decode prog_12_method_2_code 3 = .ok (.invokestatic 9, 3) := by decide +kernel
theorem dj_char1_6 : decode prog_12_method_2_code 6 = .ok (.aload_n 0, 1) := by decide +kernel
theorem dj_char1_7 : decode prog_12_method_2_code 7 = .ok (.iload_n 1, 1) := by decide +kernel
theorem dj_char1_8 : decode prog_12_method_2_code 8 = .ok (.baload, 1) := by decide +kernel
theorem dj_char1_9 : decode prog_12_method_2_code 9 = .ok (.sipush 255, 3) := by decide +kernel
theorem dj_char1_12 : decode prog_12_method_2_code 12 = .ok (.iand, 1) := by decide +kernel
theorem dj_char1_13 : decode prog_12_method_2_code 13 = .ok (.i2c, 1) := by decide +kernel
theorem dj_char1_14 : decode prog_12_method_2_code 14 = .ok (.ireturn, 1) := by decide +kernel
theorem dj_check_0 : decode prog_11_method_155_code 0 = .ok (.iload_n 0, 1) := by decide +kernel
theorem dj_check_1 : decode prog_11_method_155_code 1 = .ok (.iload_n 1, 1) := by decide +kernel
theorem dj_check_2 : decode prog_11_method_155_code 2 = .ok (.getstatic 1053, 3) := by decide +kernel
theorem dj_check_5 : decode prog_11_method_155_code 5 = .ok (.invokestatic 1059, 3) := by decide +kernel
theorem dj_check_8 : decode prog_11_method_155_code 8 = .ok (.pop, 1) := by decide +kernel
theorem dj_check_9 : decode prog_11_method_155_code 9 = .ok (.return_, 1) := by decide +kernel
theorem dj_pre_0 : decode prog_15_method_11_code 0 = .ok (.iload_n 0, 1) := by decide +kernel
theorem dj_pre_1 : decode prog_15_method_11_code 1 = .ok (.ifCond .lt 8, 3) := by decide +kernel
theorem dj_pre_4 : decode prog_15_method_11_code 4 = .ok (.iload_n 0, 1) := by decide +kernel
theorem dj_pre_5 : decode prog_15_method_11_code 5 = .ok (.iload_n 1, 1) := by decide +kernel
theorem dj_pre_6 : decode prog_15_method_11_code 6 = .ok (.if_icmp .lt 10, 3) := by decide +kernel
theorem dj_pre_9 : decode prog_15_method_11_code 9 = .ok (.aload_n 2, 1) := by decide +kernel
theorem dj_pre_10 : decode prog_15_method_11_code 10 = .ok (.iload_n 0, 1) := by decide +kernel
theorem dj_pre_11 : decode prog_15_method_11_code 11 = .ok (.iload_n 1, 1) := by decide +kernel
theorem dj_pre_12 : decode prog_15_method_11_code 12 = .ok (.invokestatic 95, 3) := by decide +kernel
theorem dj_pre_15 : decode prog_15_method_11_code 15 = .ok (.athrow, 1) := by decide +kernel
theorem dj_pre_16 : decode prog_15_method_11_code 16 = .ok (.iload_n 0, 1) := by decide +kernel
theorem dj_pre_17 : decode prog_15_method_11_code 17 = .ok (.ireturn, 1) := by decide +kernel
set_option maxRecDepth 100000 in
theorem xj_f38 : xa_in (.fieldLink "java/lang/String" 38 "java/lang/String" "COMPACT_STRINGS" "Z") := xa_pl 263 rfl rfl
set_option maxRecDepth 100000 in
theorem xj_f15 : xa_in (.fieldLink "java/lang/String" 15 "java/lang/String" "coder" "B") := xa_pl 1031 rfl rfl
set_option maxRecDepth 100000 in
theorem xj_f9 : xa_in (.fieldLink "java/lang/String" 9 "java/lang/String" "value" "[B") := xa_pl 1030 rfl rfl
set_option maxRecDepth 100000 in
theorem xj_f1053 : xa_in (.fieldLink "java/lang/String" 1053 "jdk/internal/util/Preconditions" "SIOOBE_FORMATTER" "Ljava/util/function/BiFunction;") := xa_pl 279 rfl rfl
set_option maxRecDepth 100000 in
theorem xj_iS : xa_in (.initialized "java/lang/String") := xa_pl 53 rfl rfl
set_option maxRecDepth 100000 in
theorem xj_i1 : xa_in (.initialized "java/lang/StringLatin1") := xa_pl 54 rfl rfl
set_option maxRecDepth 100000 in
theorem xj_iP : xa_in (.initialized "jdk/internal/util/Preconditions") := xa_pl 55 rfl rfl
set_option maxRecDepth 100000 in
theorem xj_clength : xa_in (.code yj_length prog_11_method_54_code 1 (some .int)) := xa_pl 258 rfl rfl
set_option maxRecDepth 100000 in
theorem xj_ilength : xa_in (.instanceMethod yj_length) := xa_pl 256 rfl rfl
set_option maxRecDepth 100000 in
theorem xj_slength : xa_in (.selects "java/lang/String" yj_length yj_length) := xa_pl 257 rfl rfl
set_option maxRecDepth 100000 in
theorem xj_ccoder : xa_in (.code yj_coder prog_11_method_152_code 1 (some .byte)) := xa_pl 262 rfl rfl
set_option maxRecDepth 100000 in
theorem xj_icoder : xa_in (.instanceMethod yj_coder) := xa_pl 260 rfl rfl
set_option maxRecDepth 100000 in
theorem xj_scoder : xa_in (.selects "java/lang/String" yj_coder yj_coder) := xa_pl 261 rfl rfl
set_option maxRecDepth 100000 in
theorem xj_clatin : xa_in (.code yj_latin prog_11_method_154_code 1 (some .boolean)) := xa_pl 272 rfl rfl
set_option maxRecDepth 100000 in
theorem xj_ilatin : xa_in (.instanceMethod yj_latin) := xa_pl 270 rfl rfl
set_option maxRecDepth 100000 in
theorem xj_slatin : xa_in (.selects "java/lang/String" yj_latin yj_latin) := xa_pl 271 rfl rfl
set_option maxRecDepth 100000 in
theorem xj_ccharAt : xa_in (.code yj_charAt prog_11_method_56_code 2 (some .char)) := xa_pl 268 rfl rfl
set_option maxRecDepth 100000 in
theorem xj_icharAt : xa_in (.instanceMethod yj_charAt) := xa_pl 266 rfl rfl
set_option maxRecDepth 100000 in
theorem xj_scharAt : xa_in (.selects "java/lang/String" yj_charAt yj_charAt) := xa_pl 267 rfl rfl
set_option maxRecDepth 100000 in
theorem xj_cchar1 : xa_in (.code yj_char1 prog_12_method_2_code 2 (some .char)) := xa_pl 275 rfl rfl
set_option maxRecDepth 100000 in
theorem xj_tchar1 : xa_in (.static yj_char1) := xa_pl 274 rfl rfl
set_option maxRecDepth 100000 in
theorem xj_ccheck : xa_in (.code yj_check prog_11_method_155_code 2 (none)) := xa_pl 278 rfl rfl
set_option maxRecDepth 100000 in
theorem xj_tcheck : xa_in (.static yj_check) := xa_pl 277 rfl rfl
set_option maxRecDepth 100000 in
theorem xj_cpre : xa_in (.code yj_pre prog_15_method_11_code 3 (some .int)) := xa_pl 283 rfl rfl
set_option maxRecDepth 100000 in
theorem xj_tpre : xa_in (.static yj_pre) := xa_pl 282 rfl rfl
set_option maxRecDepth 100000 in
theorem xj_lcoder : xa_in (.methodLink "java/lang/String" 335 yj_coder) := xa_pl 259 rfl rfl
set_option maxRecDepth 100000 in
theorem xj_llatin : xa_in (.methodLink "java/lang/String" 492 yj_latin) := xa_pl 269 rfl rfl
set_option maxRecDepth 100000 in
theorem xj_lchar1 : xa_in (.methodLink "java/lang/String" 495 yj_char1) := xa_pl 273 rfl rfl
set_option maxRecDepth 100000 in
theorem xj_lcheck : xa_in (.methodLink "java/lang/StringLatin1" 9 yj_check) := xa_pl 276 rfl rfl
set_option maxRecDepth 100000 in
theorem xj_lpre : xa_in (.methodLink "java/lang/String" 1059 yj_pre) := xa_pl 281 rfl rfl
def xj_S (b0 : Nat) (H0 : Heap) (sa va : Nat) (s : State) : Prop := va_O "java/lang/String" sa (fun q => b0 ≤ q) s H0 ∧ va_OF "java/lang/String" "coder" "B" (.int 0) sa (fun q => b0 ≤ q) s H0 ∧ va_OF "java/lang/String" "value" "[B" (.ref va) sa (fun q => b0 ≤ q) s H0 ∧ va_T .byte va 78 (fun j => .int (nI (xa_tx.getD j 0))) (fun q => b0 ≤ q) s H0 ∧ va_Z "java/lang/String" "COMPACT_STRINGS" "Z" (.int 1) (fun q => b0 ≤ q) s H0 ∧ va_Zq "jdk/internal/util/Preconditions" "SIOOBE_FORMATTER" "Ljava/util/function/BiFunction;" (fun q => b0 ≤ q) s H0
theorem xj_Sm {b0 sa va : Nat} {H0 : Heap} {u U : State} (hvm : u.vm.Alike U.vm) (h : xj_S b0 H0 sa va u) : xj_S b0 H0 sa va U := by
  obtain ⟨h1, h2, h3, h4, h5, h6⟩ := h
  exact ⟨va_O.moved hvm h1, va_OF.moved hvm h2, va_OF.moved hvm h3, va_T.moved hvm h4, va_Z.moved hvm h5, va_Zq.moved hvm h6⟩
def xj_K (b0 : Nat) (H0 : Heap) (sa va : Nat) (U : State) : Prop := xj_S b0 H0 sa va U ∧ ∀ x : Nat, x < b0 → U.heap[x]? = H0[x]?
def xj_P (As : List Value) (b0 : Nat) (H0 : Heap) (sa va : Nat) : Array Value → State → Prop := fun v U => v = As.toArray ∧ xj_K b0 H0 sa va U
def xj_Q (v : Option Value) : Array Value → State → Outcome → State → Prop := fun _ st o t => o = .returned v ∧ t.heap = st.heap
section XaJdk
variable {p : Program} {l : Launch} {e : Env} {R : Room} {s : State} {m : MethodId} {args a : Array Value} {below : List Frame} {meth : Method} {c : Code} {H : Heap} {locs : List Loc} {cells slots : Nat} {Q : State → Prop}
variable {pc : Nat} {ls : Array Slot} {rest st0 : List Value} {b0 sa va : Nat} {H0 : Heap}
theorem xj_call {v : Option Value} (hr : va_Run p l e R s m args below meth c H locs cells slots 0 0 (F0 m pc ls st0) rest (xj_Q v a) (fun _ => False)) (kk : W p l e R s m args below meth c H locs cells slots Q (F0 m (pc + 3) ls (v.toList ++ rest))) : W p l e R s m args below meth c H locs cells slots Q (F0 m pc ls st0) := by
  intro T hT X
  obtain ⟨v', st₀, t, T', L, h0, X', hL, e1, e2, ⟨hv, hh⟩, stp⟩ := hr T hT X
  cases hv
  have hn : L = [] := List.eq_nil_iff_forall_not_mem.mpr (fun q hq => hL q hq)
  subst hn
  rw [List.append_nil] at X'
  obtain ⟨t2, a1, b1⟩ := kk T' (by rw [e1, hh, h0]) X'
  exact ⟨t2, stp t2 a1, b1⟩
theorem xj_blind {As : List Value} : FrameBlind (xj_P As b0 H0 sa va) := fun _ U g mk x => ⟨x.1, xj_Sm (Vm.Alike.refl _) x.2.1, x.2.2⟩
theorem xj_pre' {As : List Value} (hS : xj_S b0 H0 sa va s) (hH : ∀ x : Nat, x < b0 → H[x]? = H0[x]?) : ∀ U : State, U.heap = H → s.WarmedH U.vm → xj_P As b0 H0 sa va As.toArray U := fun U hU hW => ⟨rfl, xj_Sm hW.alike hS, by rw [hU]; exact hH⟩
theorem xj_good {q z : xa_MI} (hc : xa_in (.code z.1 z.2.1 z.2.2.1 z.2.2.2.1)) : GoodIn (xa_ws q) (xa_ws z) := by
  intro w hw
  rcases List.mem_cons.mp hw with rfl | h
  · exact ⟨xa_word hc, Or.inl rfl⟩
  · exact ⟨List.mem_cons_of_mem _ h, good_of_word (List.mem_filter.mp h).2⟩
end XaJdk
set_option maxHeartbeats 4000000 in
set_option maxRecDepth 100000 in
theorem cj_coder (l : Launch) (b0 sa va : Nat) (H0 : Heap) : Met l yj_coder (xa_ws qj_coder) ({ frames := 0, cells := 0, slots := 0, locals := 0 }) (xj_P [.ref sa] b0 H0 sa va) (xj_Q (some (.int 0))) 0 0 (fun _ => False) := by
  refine Met.ofW (cc := prog_11_method_152_code) (maxL := 1) (ret := some .byte) (by decide) rfl ?_
  intro p e s m args below meth c s₁ B hml hv
  obtain ⟨rfl, hS, hU⟩ := hv
  have hx := B.exec
  have hb := B.bytes
  have hr := B.returns
  have hts := atoms_spec (ws := xa_ws qj_coder) B.pre
  have hown : s.vm.findClass "java/lang/String" = some m.cls := findClass_of_methodNamed B.named
  have hlocks := B.notSynchronized
  obtain ⟨v1, v2, v3, v4, v5, v6⟩ := id hS
  have hkp : ∀ x : Nat, x < H0.size → ¬ b0 ≤ x → s.heap[x]? = H0[x]? := fun x _ h => hU x (by omega)
  have v5 := v5.kept hkp
  have v2 := v2.kept hkp
  have hS0 : va_S (fun q => b0 ≤ q) s.heap s.heap [] := va_S.rf
  have hl := lv_entry ([.ref sa]) (n := 1) (Nat.le_of_ble_eq_true rfl)
  rw [lg_entry_eq]
  generalize (lg_sl ([.ref sa]) ++ List.replicate (1 - (lg_sl ([.ref sa])).length) Slot.unset).toArray = ls at hl ⊢
  have hl : lv_has ls 1 [(0, .ref sa)] := hl
  refine va_gets hx hb v5 hS0 hown (hts _ (xa_word xj_f38)) (fun _ h => h) dj_coder_0 ?_
  refine lv_if_eq (tgt := 13) hx hb dj_coder_3 (by decide) (fun c => absurd c (by decide)) (fun _ => ?_)
  refine lv_aload_n hx hb dj_coder_6 rfl (lv_at hl 0 rfl) ?_
  refine vk_getf hx hb v2 hS0 hown (hts _ (xa_word xj_f15)) (fun _ h => h) dj_coder_7 ?_
  refine lv_goto (tgt := 14) hx hb dj_coder_10 (by decide) ?_
  exact W.zret (ty := .byte) hx hb hr rfl (fun t ht hW => ⟨rfl, ht⟩) (fun _ h => by cases h) dj_coder_14
set_option maxHeartbeats 4000000 in
set_option maxRecDepth 100000 in
theorem cj_latin (l : Launch) (b0 sa va : Nat) (H0 : Heap) : Met l yj_latin (xa_ws qj_latin) ({ frames := 0, cells := 0, slots := 0, locals := 0 }) (xj_P [.ref sa] b0 H0 sa va) (xj_Q (some (.int 1))) 0 0 (fun _ => False) := by
  refine Met.ofW (cc := prog_11_method_154_code) (maxL := 1) (ret := some .boolean) (by decide) rfl ?_
  intro p e s m args below meth c s₁ B hml hv
  obtain ⟨rfl, hS, hU⟩ := hv
  have hx := B.exec
  have hb := B.bytes
  have hr := B.returns
  have hts := atoms_spec (ws := xa_ws qj_latin) B.pre
  have hown : s.vm.findClass "java/lang/String" = some m.cls := findClass_of_methodNamed B.named
  have hlocks := B.notSynchronized
  obtain ⟨v1, v2, v3, v4, v5, v6⟩ := id hS
  have hkp : ∀ x : Nat, x < H0.size → ¬ b0 ≤ x → s.heap[x]? = H0[x]? := fun x _ h => hU x (by omega)
  have v5 := v5.kept hkp
  have v2 := v2.kept hkp
  have hS0 : va_S (fun q => b0 ≤ q) s.heap s.heap [] := va_S.rf
  have hl := lv_entry ([.ref sa]) (n := 1) (Nat.le_of_ble_eq_true rfl)
  rw [lg_entry_eq]
  generalize (lg_sl ([.ref sa]) ++ List.replicate (1 - (lg_sl ([.ref sa])).length) Slot.unset).toArray = ls at hl ⊢
  have hl : lv_has ls 1 [(0, .ref sa)] := hl
  refine va_gets hx hb v5 hS0 hown (hts _ (xa_word xj_f38)) (fun _ h => h) dj_latin_0 ?_
  refine lv_if_eq (tgt := 17) hx hb dj_latin_3 (by decide) (fun c => absurd c (by decide)) (fun _ => ?_)
  refine lv_aload_n hx hb dj_latin_6 rfl (lv_at hl 0 rfl) ?_
  refine vk_getf hx hb v2 hS0 hown (hts _ (xa_word xj_f15)) (fun _ h => h) dj_latin_7 ?_
  refine lv_if_ne (tgt := 17) hx hb dj_latin_10 (by decide) (fun c => absurd rfl c) (fun _ => ?_)
  refine lv_iconst (v := 1) hx hb dj_latin_13 (by decide) ?_
  refine lv_goto (tgt := 18) hx hb dj_latin_14 (by decide) ?_
  exact W.zret (ty := .boolean) hx hb hr rfl (fun t ht hW => ⟨rfl, ht⟩) (fun _ h => by cases h) dj_latin_18
set_option maxHeartbeats 4000000 in
set_option maxRecDepth 100000 in
theorem cj_length (l : Launch) (b0 sa va : Nat) (H0 : Heap) : Met l yj_length (xa_ws qj_length) ({ frames := 1, cells := 0, slots := 0, locals := 40 }) (xj_P [.ref sa] b0 H0 sa va) (xj_Q (some (.int (nI 78)))) 0 0 (fun _ => False) := by
  refine Met.ofW (cc := prog_11_method_54_code) (maxL := 1) (ret := some .int) (by decide) rfl ?_
  intro p e s m args below meth c s₁ B hml hv
  obtain ⟨rfl, hS, hU⟩ := hv
  have hx := B.exec
  have hb := B.bytes
  have hr := B.returns
  have hts := atoms_spec (ws := xa_ws qj_length) B.pre
  have hown : s.vm.findClass "java/lang/String" = some m.cls := findClass_of_methodNamed B.named
  have hlocks := B.notSynchronized
  obtain ⟨v1, v2, v3, v4, v5, v6⟩ := id hS
  have hkp : ∀ x : Nat, x < H0.size → ¬ b0 ≤ x → s.heap[x]? = H0[x]? := fun x _ h => hU x (by omega)
  have v1 := v1.kept hkp
  have v3 := v3.kept hkp
  have v4 := v4.kept hkp
  have hS0 : va_S (fun q => b0 ≤ q) s.heap s.heap [] := va_S.rf
  have hl := lv_entry ([.ref sa]) (n := 1) (Nat.le_of_ble_eq_true rfl)
  rw [lg_entry_eq]
  generalize (lg_sl ([.ref sa]) ++ List.replicate (1 - (lg_sl ([.ref sa])).length) Slot.unset).toArray = ls at hl ⊢
  have hl : lv_has ls 1 [(0, .ref sa)] := hl
  refine lv_aload_n hx hb dj_length_0 rfl (lv_at hl 0 rfl) ?_
  refine vk_getf hx hb v3 hS0 hown (hts _ (xa_word xj_f9)) (fun _ h => h) dj_length_1 ?_
  refine va_tlen hx hb v4 hS0 (v := nI 78) rfl dj_length_4 ?_
  refine lv_aload_n hx hb dj_length_5 rfl (lv_at hl 0 rfl) ?_
  have cw := callB_of (R := ({ frames := 1, cells := 0, slots := 0, locals := 40 } : Room)) (own := "java/lang/String") (index := 335) (ws' := lw_tbl.filter goodWord) 0 hts (xj_good (z := qj_coder) xj_ccoder) rfl (rm := { frames := 0, cells := 0, slots := 0, locals := 0 }) rfl rfl (hts _ (xa_word xj_iS)) (hts _ (xa_word xj_lcoder)) (by decide +kernel) ⟨by decide, by decide⟩
  obtain ⟨cellB, k1, k2, k3, -⟩ := v1
  refine xj_call (va_runV (C := "java/lang/String") (As := []) (rest := [.int (nI 78)]) ⟨hx, hb, hml, hown, hts⟩ (cj_coder l b0 sa va H0) ⟨cw, hts _ (xa_word xj_icoder), hts _ (xa_word xj_scoder)⟩ ⟨xj_blind, ⟨cellB, k1, k2, k3⟩, xj_pre' hS hU⟩ rfl rfl hl.1 rfl (lv_room (Nat.le_of_ble_eq_true rfl)) dj_length_6 ⟨by decide, by decide⟩) ?_
  refine lv_ishr hx hb dj_length_9 ?_
  exact W.iret (v := nI 78) hx hb hr (fun t ht hW => ⟨rfl, ht⟩) (fun _ h => by cases h) dj_length_10
set_option maxHeartbeats 4000000 in
set_option maxRecDepth 100000 in
theorem cj_pre (l : Launch) (b0 sa va : Nat) (H0 : Heap) (j : Int32) (f : Value) (hf : f = .null ∨ ∃ t : Nat, f = .ref t) (hj : vp_in j 78) : Met l yj_pre (xa_ws qj_pre) ({ frames := 0, cells := 0, slots := 0, locals := 0 }) (xj_P [.int j, .int (nI 78), f] b0 H0 sa va) (xj_Q (some (.int j))) 0 0 (fun _ => False) := by
  refine Met.ofW (cc := prog_15_method_11_code) (maxL := 3) (ret := some .int) (by decide) rfl ?_
  intro p e s m args below meth c s₁ B hml hv
  obtain ⟨rfl, hS, hU⟩ := hv
  have hx := B.exec
  have hb := B.bytes
  have hr := B.returns
  have hlocks := B.notSynchronized
  obtain ⟨k, hk, rfl⟩ := vp_in_of hj (by decide)
  have hc1 : f.category = 1 := by rcases hf with rfl | ⟨t, rfl⟩ <;> rfl
  have hl := lv_entry ([.int (nI k), .int (nI 78), f]) (n := 3) (by rcases hf with rfl | ⟨t, rfl⟩ <;> exact Nat.le_of_ble_eq_true rfl)
  rw [lg_entry_eq]
  generalize (lg_sl ([.int (nI k), .int (nI 78), f]) ++ List.replicate (3 - (lg_sl ([.int (nI k), .int (nI 78), f])).length) Slot.unset).toArray = ls at hl ⊢
  have hl : lv_has ls 3 [(0, .int (nI k)), (1, .int (nI 78)), (2, f)] := hl
  refine lv_iload_n hx hb dj_pre_0 rfl (lv_at hl 0 rfl) ?_
  refine lv_if_lt (tgt := 9) hx hb dj_pre_1 (by decide) (fun c => absurd c (nI_pos (by omega))) (fun _ => ?_)
  refine lv_iload_n hx hb dj_pre_4 rfl (lv_at hl 0 rfl) ?_
  refine lv_iload_n hx hb dj_pre_5 rfl (lv_at hl 1 rfl) ?_
  refine lv_icmp_lt (tgt := 16) hx hb dj_pre_6 (by decide) (fun _ => ?_) (fun c => absurd (nI_lt hk (by decide)) c)
  refine lv_iload_n hx hb dj_pre_16 rfl (lv_at hl 0 rfl) ?_
  exact W.iret (v := nI k) hx hb hr (fun t ht hW => ⟨rfl, ht⟩) (fun _ h => by cases h) dj_pre_17
set_option maxHeartbeats 4000000 in
set_option maxRecDepth 100000 in
theorem cj_check (l : Launch) (b0 sa va : Nat) (H0 : Heap) (j : Int32) (hj : vp_in j 78) : Met l yj_check (xa_ws qj_check) ({ frames := 1, cells := 0, slots := 0, locals := 40 }) (xj_P [.int j, .int (nI 78)] b0 H0 sa va) (xj_Q none) 0 0 (fun _ => False) := by
  refine Met.ofW (cc := prog_11_method_155_code) (maxL := 2) (ret := none) (by decide) rfl ?_
  intro p e s m args below meth c s₁ B hml hv
  obtain ⟨rfl, hS, hU⟩ := hv
  have hx := B.exec
  have hb := B.bytes
  have hr := B.returns
  have hts := atoms_spec (ws := xa_ws qj_check) B.pre
  have hown : s.vm.findClass "java/lang/String" = some m.cls := findClass_of_methodNamed B.named
  have hlocks := B.notSynchronized
  obtain ⟨v1, v2, v3, v4, v5, v6⟩ := id hS
  have hkp : ∀ x : Nat, x < H0.size → ¬ b0 ≤ x → s.heap[x]? = H0[x]? := fun x _ h => hU x (by omega)
  have v6 := v6.kept hkp
  have hS0 : va_S (fun q => b0 ≤ q) s.heap s.heap [] := va_S.rf
  have hl := lv_entry ([.int j, .int (nI 78)]) (n := 2) (Nat.le_of_ble_eq_true rfl)
  rw [lg_entry_eq]
  generalize (lg_sl ([.int j, .int (nI 78)]) ++ List.replicate (2 - (lg_sl ([.int j, .int (nI 78)])).length) Slot.unset).toArray = ls at hl ⊢
  have hl : lv_has ls 2 [(0, .int j), (1, .int (nI 78))] := hl
  have cw := callB_of (R := ({ frames := 1, cells := 0, slots := 0, locals := 40 } : Room)) (own := "java/lang/String") (index := 1059) (ws' := lw_tbl.filter goodWord) 3 hts (xj_good (z := qj_pre) xj_cpre) rfl (rm := { frames := 0, cells := 0, slots := 0, locals := 0 }) rfl rfl (hts _ (xa_word xj_iP)) (hts _ (xa_word xj_lpre)) (by decide +kernel) ⟨by decide, by decide⟩
  have go : ∀ f : Value, (f = .null ∨ ∃ t : Nat, f = .ref t) → W p l e (headSpec (xa_ws qj_check) { frames := 1, cells := 0, slots := 0, locals := 40 }).room s m [Value.int j, Value.int (nI 78)].toArray below meth c s.heap [] 0 0 (MQ below (xj_Q none) [Value.int j, Value.int (nI 78)].toArray s 0 0 (fun _ => False)) (F0 m 5 ls [f, .int (nI 78), .int j]) := by
    intro f hf
    refine xj_call (va_runS (As := [.int j, .int (nI 78), f]) (rest := []) ⟨hx, hb, hml, hown, hts⟩ (cj_pre l b0 sa va H0 j f hf hj) ⟨cw, hts _ (xa_word xj_tpre)⟩ ⟨xj_blind, xj_pre' hS hU⟩ rfl rfl hl.1 rfl (lv_room (Nat.le_of_ble_eq_true rfl)) dj_check_5 ⟨by decide, by decide⟩) ?_
    refine lv_pop hx hb dj_check_8 rfl ?_
    exact W.vret hx hb hr (fun t ht hW => ⟨rfl, ht⟩) (fun _ h => by cases h) dj_check_9
  refine lv_iload_n hx hb dj_check_0 rfl (lv_at hl 0 rfl) ?_
  refine lv_iload_n hx hb dj_check_1 rfl (lv_at hl 1 rfl) ?_
  rcases v6 with v6 | ⟨t, v6⟩
  · exact va_gets hx hb v6 hS0 hown (hts _ (xa_word xj_f1053)) (fun _ h => h) dj_check_2 (go _ (Or.inl rfl))
  · exact va_gets hx hb v6 hS0 hown (hts _ (xa_word xj_f1053)) (fun _ h => h) dj_check_2 (go _ (Or.inr ⟨t, rfl⟩))
theorem xj_byte : ∀ i, i < 78 → ((nI (xa_tx.getD i 0) &&& 255).toUInt32 % 65536).toInt32 = nI (xa_tx.getD i 0) := by decide +kernel
theorem xj_char : ∀ i, i < 78 → narrow .char (.int (nI (xa_tx.getD i 0))) = .int (nI (xa_tx.getD i 0)) := by decide +kernel
set_option maxHeartbeats 4000000 in
set_option maxRecDepth 100000 in
theorem cj_char1 (l : Launch) (b0 sa va : Nat) (H0 : Heap) (k : Nat) (hk : k < 78) : Met l yj_char1 (xa_ws qj_char1) ({ frames := 2, cells := 0, slots := 0, locals := 80 }) (xj_P [.ref va, .int (nI k)] b0 H0 sa va) (xj_Q (some (.int (nI (xa_tx.getD k 0))))) 0 0 (fun _ => False) := by
  refine Met.ofW (cc := prog_12_method_2_code) (maxL := 2) (ret := some .char) (by decide) rfl ?_
  intro p e s m args below meth c s₁ B hml hv
  obtain ⟨rfl, hS, hU⟩ := hv
  have hx := B.exec
  have hb := B.bytes
  have hr := B.returns
  have hts := atoms_spec (ws := xa_ws qj_char1) B.pre
  have hown : s.vm.findClass "java/lang/StringLatin1" = some m.cls := findClass_of_methodNamed B.named
  have hlocks := B.notSynchronized
  have hkp : ∀ x : Nat, x < H0.size → ¬ b0 ≤ x → s.heap[x]? = H0[x]? := fun x _ h => hU x (by omega)
  obtain ⟨v1, v2, v3, v4, v5, v6⟩ := id hS
  have v4 := v4.kept hkp
  have hS0 : va_S (fun q => b0 ≤ q) s.heap s.heap [] := va_S.rf
  have hj : vp_in (nI k) 78 := vp_in_nI hk (by decide)
  have hl := lv_entry ([.ref va, .int (nI k)]) (n := 2) (Nat.le_of_ble_eq_true rfl)
  rw [lg_entry_eq]
  generalize (lg_sl ([.ref va, .int (nI k)]) ++ List.replicate (2 - (lg_sl ([.ref va, .int (nI k)])).length) Slot.unset).toArray = ls at hl ⊢
  have hl : lv_has ls 2 [(0, .ref va), (1, .int (nI k))] := hl
  have cw := callB_of (R := ({ frames := 2, cells := 0, slots := 0, locals := 80 } : Room)) (own := "java/lang/StringLatin1") (index := 9) (ws' := lw_tbl.filter goodWord) 2 hts (xj_good (z := qj_check) xj_ccheck) rfl (rm := { frames := 1, cells := 0, slots := 0, locals := 40 }) rfl rfl (hts _ (xa_word xj_iS)) (hts _ (xa_word xj_lcheck)) (by decide +kernel) ⟨by decide, by decide⟩
  refine lv_iload_n hx hb dj_char1_0 rfl (lv_at hl 1 rfl) ?_
  refine lv_aload_n hx hb dj_char1_1 rfl (lv_at hl 0 rfl) ?_
  refine va_tlen hx hb v4 hS0 (v := nI 78) rfl dj_char1_2 ?_
  refine xj_call (va_runS (As := [.int (nI k), .int (nI 78)]) (rest := []) ⟨hx, hb, hml, hown, hts⟩ (cj_check l b0 sa va H0 (nI k) hj) ⟨cw, hts _ (xa_word xj_tcheck)⟩ ⟨xj_blind, xj_pre' hS hU⟩ rfl rfl hl.1 rfl (lv_room (Nat.le_of_ble_eq_true rfl)) dj_char1_3 ⟨by decide, by decide⟩) ?_
  refine lv_aload_n hx hb dj_char1_6 rfl (lv_at hl 0 rfl) ?_
  refine lv_iload_n hx hb dj_char1_7 rfl (lv_at hl 1 rfl) ?_
  refine va_tb hx hb v4 hS0 hj (v := .int (nI (xa_tx.getD k 0))) (by rw [nI_clamp (by omega)]) dj_char1_8 ?_
  refine lv_sipush (v := 255) hx hb dj_char1_9 (by decide) ?_
  refine lv_iand hx hb dj_char1_12 ?_
  refine lv_i2c (v := nI (xa_tx.getD k 0)) hx hb dj_char1_13 (xj_byte k hk) ?_
  exact W.zret (ty := .char) hx hb hr (xj_char k hk) (fun t ht hW => ⟨rfl, ht⟩) (fun _ h => by cases h) dj_char1_14
set_option maxHeartbeats 4000000 in
set_option maxRecDepth 100000 in
theorem cj_charAt (l : Launch) (b0 sa va : Nat) (H0 : Heap) (k : Nat) (hk : k < 78) : Met l yj_charAt (xa_ws qj_charAt) ({ frames := 3, cells := 0, slots := 0, locals := 120 }) (xj_P [.ref sa, .int (nI k)] b0 H0 sa va) (xj_Q (some (.int (nI (xa_tx.getD k 0))))) 0 0 (fun _ => False) := by
  refine Met.ofW (cc := prog_11_method_56_code) (maxL := 2) (ret := some .char) (by decide) rfl ?_
  intro p e s m args below meth c s₁ B hml hv
  obtain ⟨rfl, hS, hU⟩ := hv
  have hx := B.exec
  have hb := B.bytes
  have hr := B.returns
  have hts := atoms_spec (ws := xa_ws qj_charAt) B.pre
  have hown : s.vm.findClass "java/lang/String" = some m.cls := findClass_of_methodNamed B.named
  have hlocks := B.notSynchronized
  have hkp : ∀ x : Nat, x < H0.size → ¬ b0 ≤ x → s.heap[x]? = H0[x]? := fun x _ h => hU x (by omega)
  obtain ⟨v1, v2, v3, v4, v5, v6⟩ := id hS
  have v3 := v3.kept hkp
  have v1 := v1.kept hkp
  have hS0 : va_S (fun q => b0 ≤ q) s.heap s.heap [] := va_S.rf
  have hl := lv_entry ([.ref sa, .int (nI k)]) (n := 2) (Nat.le_of_ble_eq_true rfl)
  rw [lg_entry_eq]
  generalize (lg_sl ([.ref sa, .int (nI k)]) ++ List.replicate (2 - (lg_sl ([.ref sa, .int (nI k)])).length) Slot.unset).toArray = ls at hl ⊢
  have hl : lv_has ls 2 [(0, .ref sa), (1, .int (nI k))] := hl
  have cw := callB_of (R := ({ frames := 3, cells := 0, slots := 0, locals := 120 } : Room)) (own := "java/lang/String") (index := 492) (ws' := lw_tbl.filter goodWord) 0 hts (xj_good (z := qj_latin) xj_clatin) rfl (rm := { frames := 0, cells := 0, slots := 0, locals := 0 }) rfl rfl (hts _ (xa_word xj_iS)) (hts _ (xa_word xj_llatin)) (by decide +kernel) ⟨by decide, by decide⟩
  have cw2 := callB_of (R := ({ frames := 3, cells := 0, slots := 0, locals := 120 } : Room)) (own := "java/lang/String") (index := 495) (ws' := lw_tbl.filter goodWord) 2 hts (xj_good (z := qj_char1) xj_cchar1) rfl (rm := { frames := 2, cells := 0, slots := 0, locals := 80 }) rfl rfl (hts _ (xa_word xj_i1)) (hts _ (xa_word xj_lchar1)) (by decide +kernel) ⟨by decide, by decide⟩
  obtain ⟨cellB, k1, k2, k3, -⟩ := v1
  refine lv_aload_n hx hb dj_charAt_0 rfl (lv_at hl 0 rfl) ?_
  refine xj_call (va_runV (C := "java/lang/String") (As := []) (rest := []) ⟨hx, hb, hml, hown, hts⟩ (cj_latin l b0 sa va H0) ⟨cw, hts _ (xa_word xj_ilatin), hts _ (xa_word xj_slatin)⟩ ⟨xj_blind, ⟨cellB, k1, k2, k3⟩, xj_pre' hS hU⟩ rfl rfl hl.1 rfl (lv_room (Nat.le_of_ble_eq_true rfl)) dj_charAt_1 ⟨by decide, by decide⟩) ?_
  refine lv_if_eq (tgt := 16) hx hb dj_charAt_4 (by decide) (fun c => absurd c (by decide)) (fun _ => ?_)
  refine lv_aload_n hx hb dj_charAt_7 rfl (lv_at hl 0 rfl) ?_
  refine vk_getf hx hb v3 hS0 hown (hts _ (xa_word xj_f9)) (fun _ h => h) dj_charAt_8 ?_
  refine lv_iload_n hx hb dj_charAt_11 rfl (lv_at hl 1 rfl) ?_
  refine xj_call (va_runS (As := [.ref va, .int (nI k)]) (rest := []) ⟨hx, hb, hml, hown, hts⟩ (cj_char1 l b0 sa va H0 k hk) ⟨cw2, hts _ (xa_word xj_tchar1)⟩ ⟨xj_blind, xj_pre' hS hU⟩ rfl rfl hl.1 rfl (lv_room (Nat.le_of_ble_eq_true rfl)) dj_charAt_12 ⟨by decide, by decide⟩) ?_
  exact W.zret (ty := .char) hx hb hr (xj_char k hk) (fun t ht hW => ⟨rfl, ht⟩) (fun _ h => by cases h) dj_charAt_15
end
section
theorem xa_cst8 {n : Int} (h : -128 ≤ n) (h2 : n ≤ 127) : (Int8.ofInt n).toInt32 = xa_cst n := by
  rw [xa_cst_eq]
  apply Int32.toInt_inj.mp
  rw [Int8.toInt_toInt32, Int8.toInt_ofInt_of_le h (by omega)]
  rw [Int32.toInt_ofInt_of_le (by omega) (by omega)]
theorem xa_cst16 {n : Int} (h : -32768 ≤ n) (h2 : n ≤ 32767) : (Int16.ofInt n).toInt32 = xa_cst n := by
  rw [xa_cst_eq]
  apply Int32.toInt_inj.mp
  rw [Int16.toInt_toInt32, Int16.toInt_ofInt_of_le h (by omega)]
  rw [Int32.toInt_ofInt_of_le (by omega) (by omega)]
def xa_tyq (ci k : Nat) : Bool := (if xa_ty ci k = 0 then decide (xa_tyf ci k = .int) else if xa_ty ci k = 1 then decide (xa_tyf ci k = .boolean) else (match xa_tyf ci k with
  | .array _ => true
  | .object _ => true
  | _ => false))
theorem xa_tyq_ok : ∀ ci, ci < 8 → ∀ k, k < 21 → k < (xa_df ci).length → xa_tyq ci k = true := by decide +kernel
theorem xa_tyc {ci k : Nat} {C : String} {T : u_T} {N : Nat} (g1 : xa_cl[ci]? = some (C, T, N)) (g2 : k < N) : (xa_ty ci k = 0 → xa_tyf ci k = .int) ∧ (xa_ty ci k = 1 → xa_tyf ci k = .boolean) ∧ (¬ xa_ty ci k = 0 → ¬ xa_ty ci k = 1 → (∀ x : Nat, narrow (xa_tyf ci k) (.ref x) = .ref x) ∧ ∀ x : Nat, fits (xa_tyf ci k) (.ref x) = true) := by
  have hci : ci < 8 := (List.getElem?_eq_some_iff.mp g1).1
  have h4 : N = (xa_df ci).length := (xa_cls_ok g1).2.2.2.1
  have hk : k < 21 := by
    have : ∀ c, c < 8 → (xa_df c).length ≤ 21 := by decide +kernel
    have := this ci hci
    omega
  have h := xa_tyq_ok ci hci k hk (by omega)
  unfold xa_tyq at h
  refine ⟨fun c => ?_, fun c => ?_, fun c d => ?_⟩
  · rw [if_pos c] at h; exact of_decide_eq_true h
  · rw [if_neg (by omega), if_pos c] at h; exact of_decide_eq_true h
  · rw [if_neg c, if_neg d] at h
    split at h
    · rename_i t ht
      rw [ht]
      exact ⟨fun _ => rfl, fun _ => rfl⟩
    · rename_i t ht
      rw [ht]
      exact ⟨fun _ => rfl, fun _ => rfl⟩
    · cases h
theorem xa_ct_ok {q : xa_MI} (hm : xa_mok q) {i k m2 n pl p2 p3 : Nat} (h : (xa_ct q.2.2.2.2.1).lookup i = some (k, m2, n, pl, p2, p3)) : ∃ z : xa_MI, xa_mt[m2]? = some z ∧ xa_mok z ∧
    (k = 0 → xa_in (.methodLink q.1.cls i z.1) ∧ xa_in (.instanceMethod z.1) ∧ xa_in (.selects z.1.cls z.1 z.1) ∧ (parseMethodDescriptor z.1.desc).map (fun d => d.parameters.length) = some (n - 1) ∧ 0 < n) ∧
    (k = 1 → xa_in (.methodLink q.1.cls i z.1) ∧ xa_in (.static z.1) ∧ (parseMethodDescriptor z.1.desc).map (fun d => d.parameters.length) = some n) ∧
    (k = 2 → xa_in (.methodLink q.1.cls i z.1) ∧ xa_in (.instanceMethod z.1) ∧ z.1.name = "<init>" ∧ (parseMethodDescriptor z.1.desc).map (fun d => d.parameters.length) = some (n - 1) ∧ 0 < n) ∧
    (k = 3 → Cond.methodLinkNest q.1.cls i z.1 RX6 ∈ lw_tbl ∧ xa_in (.static z.1) ∧ (parseMethodDescriptor z.1.desc).map (fun d => d.parameters.length) = some n) ∧
    (k = 4 → Cond.methodLinkNest q.1.cls i z.1 RX6 ∈ lw_tbl ∧ xa_in (.instanceMethod z.1) ∧ z.1.name = "<init>" ∧ (parseMethodDescriptor z.1.desc).map (fun d => d.parameters.length) = some (n - 1) ∧ 0 < n) ∧
    (k = 5 → xa_in (.methodLink q.1.cls i objectInit)) ∧ (k = 6 → xa_in (.methodLink q.1.cls i Lib.Math.max.name)) ∧ (k = 7 → xa_in (.methodLink q.1.cls i Lib.Math.min.name)) ∧ (k = 8 → xa_in (.methodLink q.1.cls i arraycopyName)) ∧
    (k = 9 → xa_in (.methodLink q.1.cls i ⟨"java/lang/String", "length", "()I"⟩)) ∧ (k = 10 → xa_in (.methodLink q.1.cls i ⟨"java/lang/String", "charAt", "(I)C"⟩)) := by
  have ht := xa_ctt _ _ (xa_lkm h)
  unfold xa_ctc at ht
  dsimp only at ht
  rw [xa_cn_own hm] at ht
  split at ht
  · rename_i z hz
    rw [Bool.and_eq_true, Bool.and_eq_true, Bool.and_eq_true, Bool.and_eq_true, Bool.and_eq_true, Bool.and_eq_true, Bool.and_eq_true, Bool.and_eq_true, Bool.and_eq_true, Bool.and_eq_true] at ht
    obtain ⟨⟨⟨⟨⟨⟨⟨⟨⟨⟨a0, a1⟩, a2⟩, a3⟩, a4⟩, a5⟩, a6⟩, a7⟩, a8⟩, a9⟩, a10⟩ := ht
    have a0 := xa_imp a0
    have a1 := xa_imp a1
    have a2 := xa_imp a2
    have a3 := xa_imp a3
    have a4 := xa_imp a4
    have a5 := xa_imp a5
    have a6 := xa_imp a6
    have a7 := xa_imp a7
    have a8 := xa_imp a8
    have a9 := xa_imp a9
    have a10 := xa_imp a10
    exact ⟨z, hz, xa_mt_ok z (List.mem_of_getElem? hz), fun h => ⟨xa_pl _ (a0 h).1 rfl, xa_pl _ (a0 h).2.1 rfl, xa_pl _ (a0 h).2.2.1 rfl, (a0 h).2.2.2.1, (a0 h).2.2.2.2⟩, fun h => ⟨xa_pl _ (a1 h).1 rfl, xa_pl _ (a1 h).2.1 rfl, (a1 h).2.2⟩, fun h => ⟨xa_pl _ (a2 h).1 rfl, xa_pl _ (a2 h).2.1 rfl, (a2 h).2.2.1, (a2 h).2.2.2.1, (a2 h).2.2.2.2⟩, fun h => ⟨List.mem_of_getElem? (a3 h).1, xa_pl _ (a3 h).2.1 rfl, (a3 h).2.2⟩, fun h => ⟨List.mem_of_getElem? (a4 h).1, xa_pl _ (a4 h).2.1 rfl, (a4 h).2.2.1, (a4 h).2.2.2.1, (a4 h).2.2.2.2⟩, fun h => xa_pl _ (a5 h) rfl, fun h => xa_pl _ (a6 h) rfl, fun h => xa_pl _ (a7 h) rfl, fun h => xa_pl _ (a8 h) rfl, fun h => xa_pl _ (a9 h) rfl, fun h => xa_pl _ (a10 h) rfl⟩
  · cases ht
section XaU
variable {l : Launch} {mid pc : Nat} {lv : xa_L} {st r : List Value} {M : xa_M} {res : xa_Z} {q : xa_MI}
/-- the branch that isn't taken: some target -/
theorem xs_n {o : Int} {st' : List Value} {pc' : Nat} (h1 : xa_mt[mid]? = some q) (ho : 0 ≤ (pc : Int) + o) (hn : xa_P l mid pc' lv st' M res) (hw : ∀ {p : Program} {e : Env} {R : Room} {s : State} {m : MethodId} {args : Array Value} {below : List Frame} {meth : Method} {c : Code} {H : Heap} {locs : List Loc} {cells slots : Nat} {Q : State → Prop} {ls : Array Slot} {tgt : Nat}, (pc : Int) + o = (tgt : Int) → p.tables.exec = Jvm.exec → c.code = q.2.1 → W p l e R s m args below meth c H locs cells slots Q (F0 m pc' ls st') → W p l e R s m args below meth c H locs cells slots Q (F0 m pc ls st)) : xa_P l mid pc lv st M res :=
  xs_p h1 hn (fun hx hb k => hw (tgt := ((pc : Int) + o).toNat) (by omega) hx hb k)
theorem xa_rk {m2 : Nat} {z : xa_MI} (hz : xa_mt[m2]? = some z) (h : xa_rnk m2 < q.2.2.2.2.2) : z.2.2.2.2.2 < q.2.2.2.2.2 := by
  unfold xa_rnk at h
  rw [hz] at h
  exact h
theorem xa_rt_all : ∀ z ∈ xa_mt, z.1.name = "<init>" → z.2.2.2.1 = none := by
  have h : xa_mt.all (fun z => !(z.1.name == "<init>") || decide (z.2.2.2.1 = none)) = true := by decide +kernel
  intro z hz hn
  have := List.all_eq_true.mp h z hz
  rw [hn] at this
  simpa using this
theorem xa_rt {m2 : Nat} {z : xa_MI} (hz : xa_mt[m2]? = some z) (h : z.1.name = "<init>") : z.2.2.2.1 = none := xa_rt_all z (List.mem_of_getElem? hz) h
theorem xa_hdn {z : xa_MI} (hm : xa_mok z) {n : Nat} (h : (parseMethodDescriptor z.1.desc).map (fun d => d.parameters.length) = some n) : z.1.cls ≠ "java/lang/invoke/MethodHandle" ∧ z.1.cls ≠ "java/lang/invoke/VarHandle" ∧ (parseMethodDescriptor z.1.desc).map (fun d => d.parameters.length) = some n := ⟨hm.2.2.1.1, hm.2.2.1.2, h⟩
theorem xs_len {i : Nat} {a : Nat} (h1 : xa_mt[mid]? = some q) (hd : decode q.2.1 pc = .ok (.invokevirtual i, 3)) (hli : xa_in (.methodLink q.1.cls i ⟨"java/lang/String", "length", "()I"⟩)) (hrk : 4 ≤ q.2.2.2.2.2) (ha : a = M.2.2.2) (hw8 : xa_w8 r) (x : xa_P l mid (pc + 3) lv (.int (nI 78) :: r) M res) : xa_P l mid pc lv (.ref a :: r) M res := by
  subst ha
  refine xa_stp h1 x rfl (fun {b0 H0 D cA p e R s m args below meth c H locs cells slots Q ls} hF hK hR hL hl hrm k' => ?_)
  obtain ⟨-, hbz, va, v1, v2, v3, v4, v5, v6⟩ := hK.2
  have hS : xj_S b0 H0 M.2.2.2 va s := ⟨v1, v2, v3, v4, v5, v6⟩
  have hts := hF.2.2.2.2.2.1
  obtain ⟨cellB, k1, k2, k3, -⟩ := v1.kept (H1 := H) (fun x _ h => hR.2.2.1 x (by omega))
  have cw := callB_of (R := R) (own := q.1.cls) (index := i) (ws' := lw_tbl.filter goodWord) 0 hts (xj_good (z := qj_length) xj_clength) rfl (rm := { frames := 1, cells := 0, slots := 0, locals := 40 }) rfl rfl (hts _ (xa_word xj_iS)) (hts _ (xa_word hli)) (by decide +kernel) ⟨by rw [hrm.1]; show 1 + 1 ≤ _; omega, by rw [hrm.2.1]; show 8 + (1 + 11) + 40 ≤ _; omega⟩
  exact xj_call (va_runV (C := "java/lang/String") (As := []) (rest := r) ⟨hF.1, hF.2.1, hF.2.2.1, hF.2.2.2.2.1, hts⟩ (cj_length l b0 M.2.2.2 va H0) ⟨cw, hts _ (xa_word xj_ilength), hts _ (xa_word xj_slength)⟩ ⟨xj_blind, ⟨cellB, k1, k2, k3⟩, xj_pre' hS (fun x h => hR.2.2.1 x h)⟩ rfl rfl hl.1 rfl (lv_room hw8) hd ⟨hrm.2.2.1, hrm.2.2.2⟩) (k' ls H locs hl hR hL)
theorem xs_chr {i : Nat} {a : Nat} {j : Int32} (h1 : xa_mt[mid]? = some q) (hd : decode q.2.1 pc = .ok (.invokevirtual i, 3)) (hli : xa_in (.methodLink q.1.cls i ⟨"java/lang/String", "charAt", "(I)C"⟩)) (hrk : 4 ≤ q.2.2.2.2.2) (ha : a = M.2.2.2) (hj : vp_in j 78) (hw8 : xa_w8 r) (x : xa_P l mid (pc + 3) lv (.int (nI (xa_tx.getD j.toNatClampNeg 0)) :: r) M res) : xa_P l mid pc lv (.int j :: .ref a :: r) M res := by
  subst ha
  obtain ⟨kk, hkk, rfl⟩ := vp_in_of hj (by decide)
  rw [nI_clamp (by omega)] at x
  refine xa_stp h1 x rfl (fun {b0 H0 D cA p e R s m args below meth c H locs cells slots Q ls} hF hK hR hL hl hrm k' => ?_)
  obtain ⟨-, hbz, va, v1, v2, v3, v4, v5, v6⟩ := hK.2
  have hS : xj_S b0 H0 M.2.2.2 va s := ⟨v1, v2, v3, v4, v5, v6⟩
  have hts := hF.2.2.2.2.2.1
  obtain ⟨cellB, k1, k2, k3, -⟩ := v1.kept (H1 := H) (fun x _ h => hR.2.2.1 x (by omega))
  have cw := callB_of (R := R) (own := q.1.cls) (index := i) (ws' := lw_tbl.filter goodWord) 1 hts (xj_good (z := qj_charAt) xj_ccharAt) rfl (rm := { frames := 3, cells := 0, slots := 0, locals := 120 }) rfl rfl (hts _ (xa_word xj_iS)) (hts _ (xa_word hli)) (by decide +kernel) ⟨by rw [hrm.1]; show 3 + 1 ≤ _; omega, by rw [hrm.2.1]; show 8 + (2 + 11) + 120 ≤ _; omega⟩
  exact xj_call (va_runV (C := "java/lang/String") (As := [.int (nI kk)]) (rest := r) ⟨hF.1, hF.2.1, hF.2.2.1, hF.2.2.2.2.1, hts⟩ (cj_charAt l b0 M.2.2.2 va H0 kk hkk) ⟨cw, hts _ (xa_word xj_icharAt), hts _ (xa_word xj_scharAt)⟩ ⟨xj_blind, ⟨cellB, k1, k2, k3⟩, xj_pre' hS (fun x h => hR.2.2.1 x h)⟩ rfl rfl hl.1 rfl (lv_room hw8) hd ⟨hrm.2.2.1, hrm.2.2.2⟩) (k' ls H locs hl hR hL)
theorem xs_invI {i len : Nat} (h1 : xa_mt[mid]? = some q) (hm : xa_mok q) (hd : decode q.2.1 pc = .ok (.invokespecial i, len)) (hok : xa_ok q pc (.invokespecial i) len = true) (x : xa_inv (xa_P l) q (fun k => k == 2 || k == 4 || k == 5) i mid pc lv st M res) : xa_P l mid pc lv st M res := by
  simp only [xa_ok, Bool.and_eq_true, beq_iff_eq] at hok
  obtain ⟨rfl, hok⟩ := hok
  unfold xa_inv at x
  split at x
  · rename_i k m2 n rest hl
    obtain ⟨pl, p2, p3⟩ := rest
    rw [hl] at hok
    dsimp only at hok
    split at x
    · rename_i hk
      obtain ⟨z, hz, hzm, t0, t1, t2, t3, t4, t5, t6, t7, t8, t9, t10⟩ := xa_ct_ok hm hl
      have hk3 : k = 2 ∨ k = 4 ∨ k = 5 := by simpa [or_assoc] using hk
      rcases hk3 with rfl | rfl | rfl
      · simp (decide := true) only [if_true, if_false, decide_eq_true_eq] at hok x
        obtain ⟨As, r, rfl, hn, hrf, hw8, hfit, zr, hz1, hz2⟩ := xa_args_spec x
        obtain ⟨u1, u2, u3, u4, u5⟩ := t2 rfl
        obtain ⟨b, As', rfl⟩ : ∃ (b : Nat) (As' : List Value), As = .ref b :: As' := by
          unfold xa_rf at hrf
          split at hrf
          · exact ⟨_, _, rfl⟩
          · exact hrf.elim
        refine xs_call h1 hz hzm (xa_rk hz hok) hfit hz1 hz2 (fun {b0 H0 D cA p e R s m args below meth c H locs cells slots ls} hF hK hR hl hM hB hU hRm hf => ?_)
        have hts := hF.2.2.2.2.2.1
        have hn2 : As'.length = n - 1 := by rw [← hn]; rfl
        have hst : (Value.ref b :: As').reverse ++ r = As'.reverse ++ .ref b :: r := by simp
        have cw := callB_of (R := R) (own := q.1.cls) (index := i) (ws' := lw_tbl.filter goodWord) (n - 1) hts (xa_good hzm) rfl (rm := xa_rm z (zr.2.2.1 - M.2.1) (zr.2.2.2.1 - M.2.2.1)) rfl rfl (hts _ (xa_word hzm.2.1)) (hts _ (xa_word u1)) (xa_hdn hzm u4) hRm
        have hrt : z.2.2.2.1 = none := xa_rt hz u3
        rw [hrt] at cw
        exact va_runI ⟨hF.1, hF.2.1, hF.2.2.1, hF.2.2.2.2.1, hts⟩ hM ⟨cw, u3, hts _ (xa_word u2)⟩ ⟨hB, hU⟩ rfl hn2 hl.1 hst (lv_room hw8) hd hf
      · simp (decide := true) only [if_true, if_false, decide_eq_true_eq] at hok x
        obtain ⟨As, r, rfl, hn, hrf, hw8, hfit, zr, hz1, hz2⟩ := xa_args_spec x
        obtain ⟨u1, u2, u3, u4, u5⟩ := t4 rfl
        obtain ⟨b, As', rfl⟩ : ∃ (b : Nat) (As' : List Value), As = .ref b :: As' := by
          unfold xa_rf at hrf
          split at hrf
          · exact ⟨_, _, rfl⟩
          · exact hrf.elim
        refine xs_call h1 hz hzm (xa_rk hz hok) hfit hz1 hz2 (fun {b0 H0 D cA p e R s m args below meth c H locs cells slots ls} hF hK hR hl hM hB hU hRm hf => ?_)
        have hts := hF.2.2.2.2.2.1
        have hn2 : As'.length = n - 1 := by rw [← hn]; rfl
        have hst : (Value.ref b :: As').reverse ++ r = As'.reverse ++ .ref b :: r := by simp
        have cw := va_cnB (R := R) (own := q.1.cls) (index := i) (ws' := lw_tbl.filter goodWord) (n - 1) hts (xa_good hzm) rfl (rm := xa_rm z (zr.2.2.1 - M.2.1) (zr.2.2.2.1 - M.2.2.1)) rfl rfl (hK.2.1.1.2 _ _ _ _ u1) (hts _ (xa_word hzm.2.1)) (xa_hdn hzm u4) hRm
        have hrt : z.2.2.2.1 = none := xa_rt hz u3
        rw [hrt] at cw
        exact va_runIN ⟨hF.1, hF.2.1, hF.2.2.1, hF.2.2.2.2.1, hts⟩ hM ⟨cw, u3, hts _ (xa_word u2)⟩ ⟨hB, hU⟩ rfl hn2 hl.1 hst (lv_room hw8) hd hf
      · simp (decide := true) only [if_true, if_false, decide_eq_true_eq] at hok x
        unfold xa_kr at x
        split at x
        · refine xa_stp h1 x.2 rfl (fun hF hK hR hL hl hrm k => ?_)
          have hts := hF.2.2.2.2.2.1
          have hw8 := x.1
          unfold xa_w8 at hw8
          exact W.objInit hF.1 hF.2.1 hF.2.2.2.2.1 (hts _ (xa_word (t5 rfl))) (hts _ (xa_word xa_oi)) (hts _ (xa_word xa_oc)) rfl (by rw [hF.2.2.1]; exact hl.1) rfl hd (by rw [hrm.1]; exact hok) (by rw [hrm.2.1]; show 2 * 0 + _ + 12 ≤ _; omega) (k _ _ _ hl hR hL)
        · exact x.elim
    · exact x.elim
  · exact x.elim
theorem xs_invS {i len : Nat} (h1 : xa_mt[mid]? = some q) (hm : xa_mok q) (hd : decode q.2.1 pc = .ok (.invokestatic i, len)) (hok : xa_ok q pc (.invokestatic i) len = true) (x : xa_inv (xa_P l) q (fun k => k == 1 || k == 3 || k == 6 || k == 7 || k == 8) i mid pc lv st M res) : xa_P l mid pc lv st M res := by
  simp only [xa_ok, Bool.and_eq_true, beq_iff_eq] at hok
  obtain ⟨rfl, hok⟩ := hok
  unfold xa_inv at x
  split at x
  · rename_i k m2 n rest hl
    obtain ⟨pl, p2, p3⟩ := rest
    rw [hl] at hok
    dsimp only at hok
    split at x
    · rename_i hk
      obtain ⟨z, hz, hzm, t0, t1, t2, t3, t4, t5, t6, t7, t8, t9, t10⟩ := xa_ct_ok hm hl
      have hk3 : k = 1 ∨ k = 3 ∨ k = 6 ∨ k = 7 ∨ k = 8 := by simpa [or_assoc] using hk
      rcases hk3 with rfl | rfl | rfl | rfl | rfl
      · simp (decide := true) only [if_true, if_false, decide_eq_true_eq] at hok x
        obtain ⟨As, r, rfl, hn, hw8, hfit, zr, hz1, hz2⟩ := xa_args_spec x
        obtain ⟨u1, u2, u3⟩ := t1 rfl
        refine xs_call h1 hz hzm (xa_rk hz hok) hfit hz1 hz2 (fun {b0 H0 D cA p e R s m args below meth c H locs cells slots ls} hF hK hR hl hM hB hU hRm hf => ?_)
        have hts := hF.2.2.2.2.2.1
        have cw := callB_of (R := R) (own := q.1.cls) (index := i) (ws' := lw_tbl.filter goodWord) n hts (xa_good hzm) rfl (rm := xa_rm z (zr.2.2.1 - M.2.1) (zr.2.2.2.1 - M.2.2.1)) rfl rfl (hts _ (xa_word hzm.2.1)) (hts _ (xa_word u1)) (xa_hdn hzm u3) hRm
        exact va_runS ⟨hF.1, hF.2.1, hF.2.2.1, hF.2.2.2.2.1, hts⟩ hM ⟨cw, hts _ (xa_word u2)⟩ ⟨hB, hU⟩ rfl hn hl.1 rfl (lv_room hw8) hd hf
      · simp (decide := true) only [if_true, if_false, decide_eq_true_eq] at hok x
        obtain ⟨As, r, rfl, hn, hw8, hfit, zr, hz1, hz2⟩ := xa_args_spec x
        obtain ⟨u1, u2, u3⟩ := t3 rfl
        refine xs_call h1 hz hzm (xa_rk hz hok) hfit hz1 hz2 (fun {b0 H0 D cA p e R s m args below meth c H locs cells slots ls} hF hK hR hl hM hB hU hRm hf => ?_)
        have hts := hF.2.2.2.2.2.1
        have cw := va_cnB (R := R) (own := q.1.cls) (index := i) (ws' := lw_tbl.filter goodWord) n hts (xa_good hzm) rfl (rm := xa_rm z (zr.2.2.1 - M.2.1) (zr.2.2.2.1 - M.2.2.1)) rfl rfl (hK.2.1.1.2 _ _ _ _ u1) (hts _ (xa_word hzm.2.1)) (xa_hdn hzm u3) hRm
        exact va_runSN ⟨hF.1, hF.2.1, hF.2.2.1, hF.2.2.2.2.1, hts⟩ hM ⟨cw, hts _ (xa_word u2), trivial⟩ ⟨hB, hU⟩ rfl hn hl.1 rfl (lv_room hw8) hd hf
      · simp (decide := true) only [if_true, if_false, decide_eq_true_eq] at hok x
        unfold xa_kii at x
        split at x
        · refine xa_stp h1 x.2 rfl (fun hF hK hR hL hl hrm k => ?_)
          have hts := hF.2.2.2.2.2.1
          have hw8 := x.1
          unfold xa_w8 at hw8
          exact va_mmax hF.1 hF.2.1 (by rw [hF.2.2.1]; exact hl.1.symm) hF.2.2.2.2.1 (hts _ (xa_word (t6 rfl))) (hts _ (xa_word xa_maxs)) (hts _ (xa_word xa_mi)) (hts _ (xa_word xa_maxc)) (by rw [hrm.1]; exact hok) (by rw [hrm.2.1]; omega) hrm.2.2.1 hrm.2.2.2 hd (k _ _ _ hl hR hL)
        · exact x.elim
      · simp (decide := true) only [if_true, if_false, decide_eq_true_eq] at hok x
        unfold xa_kii at x
        split at x
        · refine xa_stp h1 x.2 rfl (fun hF hK hR hL hl hrm k => ?_)
          have hts := hF.2.2.2.2.2.1
          have hw8 := x.1
          unfold xa_w8 at hw8
          exact va_mmin hF.1 hF.2.1 (by rw [hF.2.2.1]; exact hl.1.symm) hF.2.2.2.2.1 (hts _ (xa_word (t7 rfl))) (hts _ (xa_word xa_mins)) (hts _ (xa_word xa_mi)) (hts _ (xa_word xa_minc)) (by rw [hrm.1]; exact hok) (by rw [hrm.2.1]; omega) hrm.2.2.1 hrm.2.2.2 hd (k _ _ _ hl hR hL)
        · exact x.elim
      · simp (decide := true) only [if_true, if_false, decide_eq_true_eq] at hok x
        unfold xa_kcp at x
        split at x
        · exact xs_cp h1 hd (t8 rfl) xa_acn xa_acs xa_aci x.1 hok x.2
        · exact x.elim
    · exact x.elim
  · exact x.elim
theorem xs_invV {i len : Nat} (h1 : xa_mt[mid]? = some q) (hm : xa_mok q) (hd : decode q.2.1 pc = .ok (.invokevirtual i, len)) (hok : xa_ok q pc (.invokevirtual i) len = true) (x : xa_inv (xa_P l) q (fun k => k == 0 || k == 9 || k == 10) i mid pc lv st M res) : xa_P l mid pc lv st M res := by
  simp only [xa_ok, Bool.and_eq_true, beq_iff_eq] at hok
  obtain ⟨rfl, hok⟩ := hok
  unfold xa_inv at x
  split at x
  · rename_i k m2 n rest hl
    obtain ⟨pl, p2, p3⟩ := rest
    rw [hl] at hok
    dsimp only at hok
    split at x
    · rename_i hk
      obtain ⟨z, hz, hzm, t0, t1, t2, t3, t4, t5, t6, t7, t8, t9, t10⟩ := xa_ct_ok hm hl
      have hk3 : k = 0 ∨ k = 9 ∨ k = 10 := by simpa [or_assoc] using hk
      rcases hk3 with rfl | rfl | rfl
      · simp (decide := true) only [if_true, if_false, decide_eq_true_eq] at hok x
        obtain ⟨As, r, rfl, hn, hrc, hw8, hfit, zr, hz1, hz2⟩ := xa_args_spec x
        obtain ⟨u1, u2, u3, u4, u5⟩ := t0 rfl
        obtain ⟨b, As', fs, rfl, hb⟩ : ∃ (b : Nat) (As' fs : List Value), As = .ref b :: As' ∧ M.1 b = some (.inr (z.2.2.2.2.1, fs)) := by
          unfold xa_rc at hrc
          split at hrc
          · obtain ⟨fs, hfs⟩ := hrc
            refine ⟨_, _, fs, rfl, ?_⟩
            rw [hfs]
            unfold xa_mcl
            rw [hz]
          · exact hrc.elim
        refine xs_call h1 hz hzm (xa_rk hz hok) hfit hz1 hz2 (fun {b0 H0 D cA p e R s m args below meth c H locs cells slots ls} hF hK hR hl hM hB hU hRm hf => ?_)
        have hts := hF.2.2.2.2.2.1
        have hn2 : As'.length = n - 1 := by rw [← hn]; rfl
        have hst : (Value.ref b :: As').reverse ++ r = As'.reverse ++ .ref b :: r := by simp
        have cw := callB_of (R := R) (own := q.1.cls) (index := i) (ws' := lw_tbl.filter goodWord) (n - 1) hts (xa_good hzm) rfl (rm := xa_rm z (zr.2.2.1 - M.2.1) (zr.2.2.2.1 - M.2.2.1)) rfl rfl (hts _ (xa_word hzm.2.1)) (hts _ (xa_word u1)) (xa_hdn hzm u4) hRm
        obtain ⟨⟨C, T, N⟩, hc⟩ : ∃ w, xa_cl[z.2.2.2.2.1]? = some w := by
          cases hq : xa_cl[z.2.2.2.2.1]? with
          | none => have := hzm.2.2.2.2.2.2; rw [hq] at this; cases this
          | some w => exact ⟨w, rfl⟩
        have hC : C = z.1.cls := by have := hzm.2.2.2.2.2.2; rw [hc] at this; exact Option.some.inj this
        have hrv := va_recv hK.1 (xa_one hR hb) (ci := z.2.2.2.2.1) (q0 := 0) hc rfl
        exact va_runV (C := z.1.cls) ⟨hF.1, hF.2.1, hF.2.2.1, hF.2.2.2.2.1, hts⟩ hM ⟨cw, hts _ (xa_word u2), hts _ (xa_word u3)⟩ ⟨hB, by rw [← hC]; exact hrv, hU⟩ rfl hn2 hl.1 hst (lv_room hw8) hd hf
      · simp (decide := true) only [if_true, if_false, decide_eq_true_eq] at hok x
        unfold xa_kr at x
        split at x
        · exact xs_len h1 hd (t9 rfl) hok x.1 x.2.1 x.2.2
        · exact x.elim
      · simp (decide := true) only [if_true, if_false, decide_eq_true_eq] at hok x
        unfold xa_kir at x
        split at x
        · exact xs_chr h1 hd (t10 rfl) hok x.1 x.2.1 x.2.2.1 x.2.2.2
        · exact x.elim
    · exact x.elim
  · exact x.elim
end XaU
set_option maxHeartbeats 4000000 in
theorem xa_sound_step (l : Launch) {mid pc : Nat} {lv : xa_L} {st : List Value} {M : xa_M} {res : xa_Z} (x : xa_F (xa_P l) mid pc lv st M res) : xa_P l mid pc lv st M res := by
  obtain ⟨q, ins, h1, h2, h3⟩ := x
  obtain ⟨len, hd, hok⟩ := xa_fet_spec h2
  have hm : xa_mok q := xa_mt_ok q (List.mem_of_getElem? h1)
  unfold xa_do at h3
  split at h3
  · have e : len = 1 := by simpa [xa_ok] using hok
    subst e
    exact xs_p h1 h3 (fun hx hb k => lv_iconst hx hb hd (xa_cst_eq _).symm k)
  · simp only [xa_ok, Bool.and_eq_true, beq_iff_eq, decide_eq_true_eq] at hok
    obtain ⟨rfl, ha, hb9⟩ := hok
    exact xs_p h1 h3 (fun hx hb k => lv_bipush hx hb hd (xa_cst8 ha hb9) k)
  · simp only [xa_ok, Bool.and_eq_true, beq_iff_eq, decide_eq_true_eq] at hok
    obtain ⟨rfl, ha, hb9⟩ := hok
    exact xs_p h1 h3 (fun hx hb k => lv_sipush hx hb hd (xa_cst16 ha hb9) k)
  · have e : len = 1 := by simpa [xa_ok] using hok
    subst e
    exact xs_p h1 h3 (fun hx hb k => lv_lconst hx hb hd rfl k)
  · have e : len = 3 := by simpa [xa_ok] using hok
    subst e
    split at h3
    · rename_i v pl hl
      have ht := of_decide_eq_true (xa_ltt _ _ (xa_lkm hl))
      rw [xa_cn_own hm] at ht
      exact xa_stp h1 h3 rfl (fun hF _ hR hL hl _ k => lv_ldc2 hF.1 hF.2.1 hF.2.2.2.2.1 (hF.2.2.2.2.2.1 _ (xa_word (xa_pl _ ht rfl))) hd (k _ _ _ hl hR hL))
    · exact h3.elim
  · have e : len = 2 := by simpa [xa_ok] using hok
    subst e
    unfold xa_kli at h3
    split at h3
    · rename_i x hv
      exact xs_load h1 hv h3 (fun hx hb hl k => lv_iload hx hb hd hl k)
    · exact h3.elim
  · have e : len = 1 := by simpa [xa_ok] using hok
    subst e
    unfold xa_kli at h3
    split at h3
    · rename_i x hv
      exact xs_load h1 hv h3 (fun hx hb hl k => lv_iload_n hx hb hd rfl hl k)
    · exact h3.elim
  · have e : len = 1 := by simpa [xa_ok] using hok
    subst e
    unfold xa_klr at h3
    split at h3
    · rename_i x hv
      exact xs_load h1 hv h3 (fun hx hb hl k => lv_aload_n hx hb hd rfl hl k)
    · exact h3.elim
  · have e : len = 2 := by simpa [xa_ok] using hok
    subst e
    unfold xa_kll at h3
    split at h3
    · rename_i x hv
      exact xs_load h1 hv h3 (fun hx hb hl k => lv_lload hx hb hd hl k)
    · exact h3.elim
  · have e : len = 1 := by simpa [xa_ok] using hok
    subst e
    unfold xa_kll at h3
    split at h3
    · rename_i x hv
      exact xs_load h1 hv h3 (fun hx hb hl k => lv_lload_n hx hb hd rfl hl k)
    · exact h3.elim
  · simp only [xa_ok, Bool.and_eq_true, beq_iff_eq, decide_eq_true_eq] at hok
    obtain ⟨rfl, hi⟩ := hok
    unfold xa_ki at h3
    split at h3
    · exact xa_stp h1 h3 rfl (fun hF _ hR hL hl _ k => lv_istore hF.1 hF.2.1 hd (xa_ll_has hl) hi rfl (fun ls' hl' => k ls' _ _ (xa_lv_s1 hl hl') hR hL))
    · exact h3.elim
  · simp only [xa_ok, Bool.and_eq_true, beq_iff_eq, decide_eq_true_eq] at hok
    obtain ⟨rfl, hi⟩ := hok
    unfold xa_ki at h3
    split at h3
    · exact xa_stp h1 h3 rfl (fun hF _ hR hL hl _ k => lv_istore_n hF.1 hF.2.1 hd rfl (xa_ll_has hl) hi rfl (fun ls' hl' => k ls' _ _ (xa_lv_s1 hl hl') hR hL))
    · exact h3.elim
  · simp only [xa_ok, Bool.and_eq_true, beq_iff_eq, decide_eq_true_eq] at hok
    obtain ⟨rfl, hi⟩ := hok
    unfold xa_kr at h3
    split at h3
    · exact xa_stp h1 h3 rfl (fun hF _ hR hL hl _ k => lv_astore_n hF.1 hF.2.1 hd rfl (xa_ll_has hl) hi rfl (fun ls' hl' => k ls' _ _ (xa_lv_s1 hl hl') hR hL))
    · exact h3.elim
  · simp only [xa_ok, Bool.and_eq_true, beq_iff_eq, decide_eq_true_eq] at hok
    obtain ⟨rfl, hi⟩ := hok
    unfold xa_kl at h3
    split at h3
    · exact xa_stp h1 h3 rfl (fun hF _ hR hL hl _ k => lv_lstore hF.1 hF.2.1 hd (xa_ll_has hl) hi rfl (fun ls' hl' => k ls' _ _ (xa_lv_s2 hl hl') hR hL))
    · exact h3.elim
  · simp only [xa_ok, Bool.and_eq_true, beq_iff_eq, decide_eq_true_eq] at hok
    obtain ⟨rfl, hi⟩ := hok
    unfold xa_kl at h3
    split at h3
    · exact xa_stp h1 h3 rfl (fun hF _ hR hL hl _ k => lv_lstore_n hF.1 hF.2.1 hd rfl (xa_ll_has hl) hi rfl (fun ls' hl' => k ls' _ _ (xa_lv_s2 hl hl') hR hL))
    · exact h3.elim
  · simp only [xa_ok, Bool.and_eq_true, beq_iff_eq, decide_eq_true_eq] at hok
    obtain ⟨rfl, hi⟩ := hok
    unfold xa_kli at h3
    split at h3
    · rename_i x hv
      refine xa_stp h1 h3 rfl (fun hF _ hR hL hl _ k => ?_)
      obtain ⟨j, hj⟩ := List.getElem?_of_mem (xa_ll_mem (xa_lv_lt hl hv) hv)
      exact lv_iinc hF.1 hF.2.1 hd (xa_ll_has hl) hj (by rw [xa_cst_eq]) hi rfl (fun ls' hl' => k ls' _ _ (xa_lv_s1 hl hl') hR hL)
    · exact h3.elim
  · have e : len = 1 := by simpa [xa_ok] using hok
    subst e
    unfold xa_kii at h3
    split at h3
    · exact xs_p h1 h3 (fun hx hb k => lv_iadd hx hb hd k)
    · exact h3.elim
  · have e : len = 1 := by simpa [xa_ok] using hok
    subst e
    unfold xa_kii at h3
    split at h3
    · exact xs_p h1 h3 (fun hx hb k => lv_isub hx hb hd k)
    · exact h3.elim
  · have e : len = 1 := by simpa [xa_ok] using hok
    subst e
    unfold xa_kii at h3
    split at h3
    · exact xs_p h1 h3 (fun hx hb k => lv_imul hx hb hd k)
    · exact h3.elim
  · have e : len = 1 := by simpa [xa_ok] using hok
    subst e
    unfold xa_kii at h3
    split at h3
    · exact xs_p h1 h3 (fun hx hb k => lv_iand hx hb hd k)
    · exact h3.elim
  · have e : len = 1 := by simpa [xa_ok] using hok
    subst e
    unfold xa_kii at h3
    split at h3
    · exact xs_p h1 h3 (fun hx hb k => lv_ior hx hb hd k)
    · exact h3.elim
  · have e : len = 1 := by simpa [xa_ok] using hok
    subst e
    unfold xa_kii at h3
    split at h3
    · exact xs_p h1 h3 (fun hx hb k => lv_ixor hx hb hd k)
    · exact h3.elim
  · have e : len = 1 := by simpa [xa_ok] using hok
    subst e
    unfold xa_kii at h3
    split at h3
    · exact xs_p h1 h3 (fun hx hb k => lv_ishl hx hb hd k)
    · exact h3.elim
  · have e : len = 1 := by simpa [xa_ok] using hok
    subst e
    unfold xa_kii at h3
    split at h3
    · exact xs_p h1 h3 (fun hx hb k => lv_ishr hx hb hd k)
    · exact h3.elim
  · have e : len = 1 := by simpa [xa_ok] using hok
    subst e
    unfold xa_kii at h3
    split at h3
    · exact xs_p h1 h3.2 (fun hx hb k => lv_idiv hx hb hd h3.1 k)
    · exact h3.elim
  · have e : len = 1 := by simpa [xa_ok] using hok
    subst e
    unfold xa_kii at h3
    split at h3
    · exact xs_p h1 h3.2 (fun hx hb k => lv_irem hx hb hd h3.1 k)
    · exact h3.elim
  · have e : len = 1 := by simpa [xa_ok] using hok
    subst e
    unfold xa_kk at h3
    split at h3
    · exact xs_p h1 h3 (fun hx hb k => lv_ladd hx hb hd k)
    · exact h3.elim
  · have e : len = 1 := by simpa [xa_ok] using hok
    subst e
    unfold xa_kk at h3
    split at h3
    · exact xs_p h1 h3 (fun hx hb k => lv_lmul hx hb hd k)
    · exact h3.elim
  · have e : len = 1 := by simpa [xa_ok] using hok
    subst e
    unfold xa_kk at h3
    split at h3
    · exact xs_p h1 h3.2 (fun hx hb k => lv_ldiv hx hb hd h3.1 k)
    · exact h3.elim
  · have e : len = 1 := by simpa [xa_ok] using hok
    subst e
    unfold xa_kk at h3
    split at h3
    · exact xs_p h1 h3.2 (fun hx hb k => lv_lrem hx hb hd h3.1 k)
    · exact h3.elim
  · have e : len = 1 := by simpa [xa_ok] using hok
    subst e
    unfold xa_kk at h3
    split at h3
    · exact xs_p h1 h3 (fun hx hb k => W.lcmp hx hb hd k)
    · exact h3.elim
  · have e : len = 1 := by simpa [xa_ok] using hok
    subst e
    unfold xa_ki at h3
    split at h3
    · exact xs_p h1 h3 (fun hx hb k => lv_i2l hx hb hd rfl k)
    · exact h3.elim
  · have e : len = 1 := by simpa [xa_ok] using hok
    subst e
    unfold xa_kl at h3
    split at h3
    · exact xs_p h1 h3 (fun hx hb k => lv_l2i hx hb hd rfl k)
    · exact h3.elim
  · have e : len = 1 := by simpa [xa_ok] using hok
    subst e
    unfold xa_ki at h3
    split at h3
    · exact xs_p h1 h3 (fun hx hb k => lv_i2c hx hb hd rfl k)
    · exact h3.elim
  · have e : len = 1 := by simpa [xa_ok] using hok
    subst e
    unfold xa_kdup at h3
    split at h3
    · exact xs_p h1 h3 (fun hx hb k => lv_dup hx hb hd rfl k)
    · exact xs_p h1 h3 (fun hx hb k => lv_dup hx hb hd rfl k)
    · exact h3.elim
  · have e : len = 1 := by simpa [xa_ok] using hok
    subst e
    unfold xa_kdup2 at h3
    split at h3
    · exact xs_p h1 h3 (fun hx hb k => lv_dup2_11 hx hb hd rfl rfl k)
    · exact h3.elim
  · have e : len = 1 := by simpa [xa_ok] using hok
    subst e
    unfold xa_kdup at h3
    split at h3
    · exact xs_p h1 h3 (fun hx hb k => lv_pop hx hb hd rfl k)
    · exact xs_p h1 h3 (fun hx hb k => lv_pop hx hb hd rfl k)
    · exact h3.elim
  · have e : len = 3 := by simpa [xa_ok] using hok
    subst e
    exact xs_j h1 h3 (fun ht hx hb k => lv_goto hx hb hd ht k)
  · simp only [xa_ok, Bool.and_eq_true, beq_iff_eq, decide_eq_true_eq] at hok
    obtain ⟨rfl, ho⟩ := hok
    unfold xa_ki at h3
    split at h3
    · split at h3
      · rename_i c
        exact xs_j h1 h3 (fun ht hx hb k => lv_if_eq hx hb hd ht (fun _ => k) (fun c2 => absurd c c2))
      · rename_i c
        exact xs_n h1 ho h3 (fun ht hx hb k => lv_if_eq hx hb hd ht (fun c2 => absurd c2 c) (fun _ => k))
    · exact h3.elim
  · simp only [xa_ok, Bool.and_eq_true, beq_iff_eq, decide_eq_true_eq] at hok
    obtain ⟨rfl, ho⟩ := hok
    unfold xa_ki at h3
    split at h3
    · split at h3
      · rename_i c
        exact xs_n h1 ho h3 (fun ht hx hb k => lv_if_ne hx hb hd ht (fun c2 => absurd c c2) (fun _ => k))
      · rename_i c
        exact xs_j h1 h3 (fun ht hx hb k => lv_if_ne hx hb hd ht (fun _ => k) (fun c2 => absurd c2 c))
    · exact h3.elim
  · simp only [xa_ok, Bool.and_eq_true, beq_iff_eq, decide_eq_true_eq] at hok
    obtain ⟨rfl, ho⟩ := hok
    unfold xa_ki at h3
    split at h3
    · split at h3
      · rename_i c
        exact xs_j h1 h3 (fun ht hx hb k => lv_if_lt hx hb hd ht (fun _ => k) (fun c2 => absurd c c2))
      · rename_i c
        exact xs_n h1 ho h3 (fun ht hx hb k => lv_if_lt hx hb hd ht (fun c2 => absurd c2 c) (fun _ => k))
    · exact h3.elim
  · simp only [xa_ok, Bool.and_eq_true, beq_iff_eq, decide_eq_true_eq] at hok
    obtain ⟨rfl, ho⟩ := hok
    unfold xa_ki at h3
    split at h3
    · split at h3
      · rename_i c
        exact xs_j h1 h3 (fun ht hx hb k => lv_if_ge hx hb hd ht (fun _ => k) (fun c2 => absurd c c2))
      · rename_i c
        exact xs_n h1 ho h3 (fun ht hx hb k => lv_if_ge hx hb hd ht (fun c2 => absurd c2 c) (fun _ => k))
    · exact h3.elim
  · simp only [xa_ok, Bool.and_eq_true, beq_iff_eq, decide_eq_true_eq] at hok
    obtain ⟨rfl, ho⟩ := hok
    unfold xa_ki at h3
    split at h3
    · split at h3
      · rename_i c
        exact xs_j h1 h3 (fun ht hx hb k => lv_if_gt hx hb hd ht (fun _ => k) (fun c2 => absurd c c2))
      · rename_i c
        exact xs_n h1 ho h3 (fun ht hx hb k => lv_if_gt hx hb hd ht (fun c2 => absurd c2 c) (fun _ => k))
    · exact h3.elim
  · simp only [xa_ok, Bool.and_eq_true, beq_iff_eq, decide_eq_true_eq] at hok
    obtain ⟨rfl, ho⟩ := hok
    unfold xa_ki at h3
    split at h3
    · split at h3
      · rename_i c
        exact xs_j h1 h3 (fun ht hx hb k => lv_if_le hx hb hd ht (fun _ => k) (fun c2 => absurd c c2))
      · rename_i c
        exact xs_n h1 ho h3 (fun ht hx hb k => lv_if_le hx hb hd ht (fun c2 => absurd c2 c) (fun _ => k))
    · exact h3.elim
  · simp only [xa_ok, Bool.and_eq_true, beq_iff_eq, decide_eq_true_eq] at hok
    obtain ⟨rfl, ho⟩ := hok
    unfold xa_kii at h3
    split at h3
    · split at h3
      · rename_i c
        exact xs_j h1 h3 (fun ht hx hb k => lv_icmp_eq hx hb hd ht (fun _ => k) (fun c2 => absurd c c2))
      · rename_i c
        exact xs_n h1 ho h3 (fun ht hx hb k => lv_icmp_eq hx hb hd ht (fun c2 => absurd c2 c) (fun _ => k))
    · exact h3.elim
  · simp only [xa_ok, Bool.and_eq_true, beq_iff_eq, decide_eq_true_eq] at hok
    obtain ⟨rfl, ho⟩ := hok
    unfold xa_kii at h3
    split at h3
    · split at h3
      · rename_i c
        exact xs_n h1 ho h3 (fun ht hx hb k => lv_icmp_ne hx hb hd ht (fun c2 => absurd c c2) (fun _ => k))
      · rename_i c
        exact xs_j h1 h3 (fun ht hx hb k => lv_icmp_ne hx hb hd ht (fun _ => k) (fun c2 => absurd c2 c))
    · exact h3.elim
  · simp only [xa_ok, Bool.and_eq_true, beq_iff_eq, decide_eq_true_eq] at hok
    obtain ⟨rfl, ho⟩ := hok
    unfold xa_kii at h3
    split at h3
    · split at h3
      · rename_i c
        exact xs_j h1 h3 (fun ht hx hb k => lv_icmp_lt hx hb hd ht (fun _ => k) (fun c2 => absurd c c2))
      · rename_i c
        exact xs_n h1 ho h3 (fun ht hx hb k => lv_icmp_lt hx hb hd ht (fun c2 => absurd c2 c) (fun _ => k))
    · exact h3.elim
  · simp only [xa_ok, Bool.and_eq_true, beq_iff_eq, decide_eq_true_eq] at hok
    obtain ⟨rfl, ho⟩ := hok
    unfold xa_kii at h3
    split at h3
    · split at h3
      · rename_i c
        exact xs_j h1 h3 (fun ht hx hb k => lv_icmp_ge hx hb hd ht (fun _ => k) (fun c2 => absurd c c2))
      · rename_i c
        exact xs_n h1 ho h3 (fun ht hx hb k => lv_icmp_ge hx hb hd ht (fun c2 => absurd c2 c) (fun _ => k))
    · exact h3.elim
  · simp only [xa_ok, Bool.and_eq_true, beq_iff_eq, decide_eq_true_eq] at hok
    obtain ⟨rfl, ho⟩ := hok
    unfold xa_kii at h3
    split at h3
    · split at h3
      · rename_i c
        exact xs_j h1 h3 (fun ht hx hb k => lv_icmp_gt hx hb hd ht (fun _ => k) (fun c2 => absurd c c2))
      · rename_i c
        exact xs_n h1 ho h3 (fun ht hx hb k => lv_icmp_gt hx hb hd ht (fun c2 => absurd c2 c) (fun _ => k))
    · exact h3.elim
  · simp only [xa_ok, Bool.and_eq_true, beq_iff_eq, decide_eq_true_eq] at hok
    obtain ⟨rfl, ho⟩ := hok
    unfold xa_kii at h3
    split at h3
    · split at h3
      · rename_i c
        exact xs_j h1 h3 (fun ht hx hb k => lv_icmp_le hx hb hd ht (fun _ => k) (fun c2 => absurd c c2))
      · rename_i c
        exact xs_n h1 ho h3 (fun ht hx hb k => lv_icmp_le hx hb hd ht (fun c2 => absurd c2 c) (fun _ => k))
    · exact h3.elim
  · unfold xa_ki at h3
    split at h3
    · unfold xa_sw at h3
      split at h3
      · rename_i c
        exact xs_j h1 h3 (fun ht hx hb k => lv_tableOut hx hb hd c ht k)
      · rename_i c
        split at h3
        · rename_i o ho
          exact xs_j h1 h3 (fun ht hx hb k => lv_tableIn hx hb hd (fun z => c (Or.inl z)) (fun z => c (Or.inr z)) ho ht k)
        · exact h3.elim
    · exact h3.elim
  · unfold xa_ki at h3
    split at h3
    · exact xs_j h1 h3 (fun ht hx hb k => lv_lookup hx hb hd hok rfl ht k)
    · exact h3.elim
  · have e : len = 3 := by simpa [xa_ok] using hok
    subst e
    split at h3
    · rename_i ci k pl hl
      unfold xa_kr at h3
      split at h3
      · exact xs_get h1 hm hl hd h3
      · exact h3.elim
    · exact h3.elim
  · simp only [xa_ok, Bool.and_eq_true, beq_iff_eq] at hok
    obtain ⟨rfl, hok⟩ := hok
    split at h3
    · rename_i ci k pl hl
      rw [hl] at hok
      dsimp only at hok
      have hfin : xa_fin ci k = true → q.1.name = "<init>" ∧ ci = q.2.2.2.2.1 := fun hf => by
        rw [if_pos hf] at hok
        simpa using hok
      obtain ⟨C, T, N, g1, g2, -⟩ := xa_fl_ok hm hl
      have hty := xa_tyc g1 g2
      split at h3
      · rename_i c
        rw [c] at hty
        unfold xa_kir at h3
        split at h3
        · exact xs_put h1 hm hl hd hfin (by rw [hty.1 rfl]; rfl) (by rw [hty.1 rfl]; rfl) h3
        · exact h3.elim
      · split at h3
        · rename_i c
          rw [c] at hty
          unfold xa_kir at h3
          split at h3
          · obtain ⟨h01, h3⟩ := h3
            refine xs_put h1 hm hl hd hfin ?_ ?_ h3
            · rw [hty.2.1 rfl]
              rcases h01 with rfl | rfl <;> rfl
            · rw [hty.2.1 rfl]
              rcases h01 with rfl | rfl <;> rfl
          · exact h3.elim
        · rename_i c0 c1
          obtain ⟨t2, t3⟩ := hty.2.2 c0 c1
          unfold xa_krr at h3
          split at h3
          · exact xs_put h1 hm hl hd hfin (t2 _) (t3 _) h3
          · exact h3.elim
    · exact h3.elim
  · have e : len = 1 := by simpa [xa_ok] using hok
    subst e
    unfold xa_kir at h3
    split at h3
    · exact xs_ga (ins := .iaload) h1 h3 (fun hx hb hK hP hi k => va_iald hx hb hK hP 0 0 rfl rfl hi hd k)
    · exact h3.elim
  · have e : len = 1 := by simpa [xa_ok] using hok
    subst e
    unfold xa_kir at h3
    split at h3
    · exact xs_ga (ins := .iaload) h1 h3 (fun hx hb hK hP hi k => va_cald hx hb hK hP 0 1 rfl rfl hi hd k)
    · exact h3.elim
  · have e : len = 1 := by simpa [xa_ok] using hok
    subst e
    unfold xa_kir at h3
    split at h3
    · exact xs_ga (ins := .iaload) h1 h3 (fun hx hb hK hP hi k => va_zald hx hb hK hP 0 2 rfl rfl hi hd k)
    · exact h3.elim
  · have e : len = 1 := by simpa [xa_ok] using hok
    subst e
    unfold xa_kiir at h3
    split at h3
    · refine xs_pa h1 h3 (fun {D cA p e R s m args below meth c H locs cells slots Q ls n f} hx hb hK hc hi k => W.iast hx hb hc ((hK.2 0 _ rfl).1 n _) (fun z => by cases z) (by rw [arrV_size]; exact hi) rfl rfl hd (fun H' e1 e2 e3 => k H' (by first | (rw [e1, arrV_store]; done) | (rw [e1, arrV_store]; rfl)) e2 e3))
    · exact h3.elim
  · have e : len = 1 := by simpa [xa_ok] using hok
    subst e
    unfold xa_kiir at h3
    split at h3
    · refine xs_pa h1 h3 (fun {D cA p e R s m args below meth c H locs cells slots Q ls n f} hx hb hK hc hi k => W.cast hx hb hc ((hK.2 1 _ rfl).1 n _) (fun z => by cases z) (by rw [arrV_size]; exact hi) rfl rfl hd (fun H' e1 e2 e3 => k H' (by first | (rw [e1, arrV_store]; done) | (rw [e1, arrV_store]; rfl)) e2 e3))
    · exact h3.elim
  · have e : len = 1 := by simpa [xa_ok] using hok
    subst e
    unfold xa_kiir at h3
    split at h3
    · refine xs_pa h1 h3 (fun {D cA p e R s m args below meth c H locs cells slots Q ls n f} hx hb hK hc hi k => W.zast hx hb hc ((hK.2 2 _ rfl).1 n _) (fun z => by cases z) (by rw [arrV_size]; exact hi) rfl rfl hd (fun H' e1 e2 e3 => k H' (by first | (rw [e1, arrV_store]; done) | (rw [e1, arrV_store]; rfl)) e2 e3))
    · exact h3.elim
  · have e : len = 1 := by simpa [xa_ok] using hok
    subst e
    unfold xa_kir at h3
    split at h3
    · exact xs_gq h1 hd h3
    · exact h3.elim
  · have e : len = 1 := by simpa [xa_ok] using hok
    subst e
    unfold xa_krir at h3
    split at h3
    · exact xs_pq h1 hd h3
    · exact h3.elim
  · have e : len = 1 := by simpa [xa_ok] using hok
    subst e
    unfold xa_kr at h3
    split at h3
    · exact xs_gl h1 hd h3
    · exact h3.elim
  · simp only [xa_ok, Bool.and_eq_true, beq_iff_eq] at hok
    obtain ⟨rfl, hok⟩ := hok
    split at h3
    · rename_i ci pl hl
      rw [hl] at hok
      have hci : ci < 8 := of_decide_eq_true hok
      have ht := xa_ntt _ _ (xa_lkm hl)
      unfold xa_ntc at ht
      dsimp only at ht
      rw [if_pos hci] at ht
      have ht := of_decide_eq_true ht
      rw [xa_cn_own hm] at ht
      refine xs_new h1 hm hl hci (fun C T N hC => ?_) hd h3
      have e : xa_cn ci = C := by unfold xa_cn; rw [hC]; rfl
      rw [e] at ht
      exact xa_pl _ ht rfl
    · exact h3.elim
  · have e : len = 2 := by simpa [xa_ok] using hok
    subst e
    unfold xa_ki at h3
    split at h3
    · exact xs_newa h1 hd (ty := .int) rfl (fun _ => rfl) xa_ac_int (fun _ _ h => h) rfl (by decide) h3.1 h3.2.1 h3.2.2
    · exact h3.elim
  · have e : len = 2 := by simpa [xa_ok] using hok
    subst e
    unfold xa_ki at h3
    split at h3
    · exact xs_newa h1 hd (ty := .char) rfl (fun _ => rfl) xa_ac_char (fun _ _ h => h) rfl (by decide) h3.1 h3.2.1 h3.2.2
    · exact h3.elim
  · have e : len = 2 := by simpa [xa_ok] using hok
    subst e
    unfold xa_ki at h3
    split at h3
    · exact xs_newa h1 hd (ty := .boolean) rfl (fun _ => rfl) xa_ac_boolean (fun _ _ h => h) rfl (by decide) h3.1 h3.2.1 h3.2.2
    · exact h3.elim
  · have e : len = 3 := by simpa [xa_ok] using hok
    subst e
    split at h3
    · rename_i ci pl hl
      have ht := xa_ntt _ _ (xa_lkm hl)
      unfold xa_ki at h3
      split at h3
      · obtain ⟨rfl, h31, h32, h33⟩ := h3
        have ht := of_decide_eq_true ht
        rw [xa_cn_own hm] at ht
        exact xs_anew h1 hd (xa_pl _ ht rfl) h31 h32 h33
      · exact h3.elim
    · exact h3.elim
  · simp only [xa_ok, Bool.and_eq_true, beq_iff_eq] at hok
    obtain ⟨rfl, hok⟩ := hok
    split at h3
    · rename_i ci pl hl
      rw [hl] at hok
      have hci : ¬ ci < 8 := by simpa using hok
      have ht := xa_ntt _ _ (xa_lkm hl)
      unfold xa_ntc at ht
      dsimp only at ht
      rw [if_neg hci] at ht
      have ht := of_decide_eq_true ht
      rw [xa_cn_own hm] at ht
      unfold xa_kii at h3
      split at h3
      · exact xs_mna (ci := ci) (pl := pl) h1 (xa_pl _ ht rfl) xa_ac_int hd h3.1.1 h3.1.2 h3.2
      · exact h3.elim
    · exact h3.elim
  · have e : len = 2 := by simpa [xa_ok] using hok
    subst e
    obtain ⟨⟨h61, rfl⟩, h3⟩ := h3
    have hcn : q.1.cls = RX6 := by
      have := hm.2.2.2.2.2.2
      rw [h61] at this
      exact (Option.some.inj this).symm
    exact xa_stp h1 h3 rfl (fun hF hK hR hL hl _ k => va_ldcS hF.1 hF.2.1 (by rw [← hcn]; exact hF.2.2.2.2.1) hK.2.1.1.1 hd (k _ _ _ hl hR hL))
  · exact xs_invI h1 hm hd hok h3
  · exact xs_invS h1 hm hd hok h3
  · exact xs_invV h1 hm hd hok h3
  · have e : len = 1 := by simpa [xa_ok] using hok
    subst e
    split at h3
    · split at h3
      · rename_i c
        subst h3
        exact ⟨Nat.le_refl _, Nat.le_refl _, rfl, fun q' hq' b0 H0 D cA p e s m args below meth c0 H locs cells slots sz sl ls hF hK hR hL hl e1 e2 => by
          cases h1.symm.trans hq'
          have z1 : M.2.1 - sz = cells := by omega
          have z2 : M.2.2.1 - sl = slots := by omega
          show W p l e (xa_rm q (M.2.1 - sz) (M.2.2.1 - sl)) s m args below meth c0 H locs cells slots (MQ below _ args s (M.2.1 - sz) (M.2.2.1 - sl) _) _
          rw [z1, z2]
          exact W.iret hF.1 hF.2.1 (by rw [hF.2.2.2.1, c]) (fun t ht hW => ⟨rfl, by rw [ht]; exact hR⟩) hL hd (hlocks := hF.2.2.2.2.2.2.1)⟩
      · rename_i c
        obtain ⟨c, h01, h3⟩ := h3
        subst h3
        exact ⟨Nat.le_refl _, Nat.le_refl _, rfl, fun q' hq' b0 H0 D cA p e s m args below meth c0 H locs cells slots sz sl ls hF hK hR hL hl e1 e2 => by
          cases h1.symm.trans hq'
          have z1 : M.2.1 - sz = cells := by omega
          have z2 : M.2.2.1 - sl = slots := by omega
          show W p l e (xa_rm q (M.2.1 - sz) (M.2.2.1 - sl)) s m args below meth c0 H locs cells slots (MQ below _ args s (M.2.1 - sz) (M.2.2.1 - sl) _) _
          rw [z1, z2]
          exact W.zret (ty := .boolean) hF.1 hF.2.1 (by rw [hF.2.2.2.1, c]) (by rcases h01 with rfl | rfl <;> rfl) (fun t ht hW => ⟨rfl, by rw [ht]; exact hR⟩) hL hd (hlocks := hF.2.2.2.2.2.2.1)⟩
    · exact h3.elim
  · have e : len = 1 := by simpa [xa_ok] using hok
    subst e
    split at h3
    · obtain ⟨c, h3⟩ := h3
      subst h3
      exact ⟨Nat.le_refl _, Nat.le_refl _, rfl, fun q' hq' b0 H0 D cA p e s m args below meth c0 H locs cells slots sz sl ls hF hK hR hL hl e1 e2 => by
        cases h1.symm.trans hq'
        have z1 : M.2.1 - sz = cells := by omega
        have z2 : M.2.2.1 - sl = slots := by omega
        show W p l e (xa_rm q (M.2.1 - sz) (M.2.2.1 - sl)) s m args below meth c0 H locs cells slots (MQ below _ args s (M.2.1 - sz) (M.2.2.1 - sl) _) _
        rw [z1, z2]
        exact W.vret hF.1 hF.2.1 (by rw [hF.2.2.2.1, c]) (fun t ht hW => ⟨rfl, by rw [ht]; exact hR⟩) hL hd (hlocks := hF.2.2.2.2.2.2.1)⟩
    · exact h3.elim
  · exact h3.elim
theorem xa_sound (l : Launch) {mid pc : Nat} {lv : xa_L} {st : List Value} {M : xa_M} {res : xa_Z} (x : xa_E mid pc lv st M res) : xa_P l mid pc lv st M res :=
  x (xa_P l) (fun _ _ _ _ _ _ y => xa_sound_step l y)
end
