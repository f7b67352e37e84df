-- ===== PART A: goes FIRST, ahead of the names: the tables' words, and 'selects' of the private methods out of them =====
/-- a private method of a class that the tables say can be made, by its rows of tables_1 -/
def lw_okq (q : MethodName × Nat) : Prop := (q.1.cls ≠ "java/lang/invoke/MethodHandle" ∧ q.1.cls ≠ "java/lang/invoke/VarHandle") ∧ Cond.instantiable q.1.cls q.2 ∈ tables_1 ∧ Cond.privateMethod q.1 ∈ tables_1 ∧ Cond.instanceMethod q.1 ∈ tables_1
theorem lw_p0 : lw_okq (⟨"OneWayTown$Tape", "isLetter", "(I)Z"⟩, 7) := ⟨⟨by decide +kernel, by decide +kernel⟩, List.mem_of_getElem? (i := 30) (by decide +kernel), List.mem_of_getElem? (i := 502) (by decide +kernel), List.mem_of_getElem? (i := 503) (by decide +kernel)⟩
theorem lw_p1 : lw_okq (⟨"OneWayTown$Tape", "readWord", "()V"⟩, 7) := ⟨⟨by decide +kernel, by decide +kernel⟩, List.mem_of_getElem? (i := 30) (by decide +kernel), List.mem_of_getElem? (i := 506) (by decide +kernel), List.mem_of_getElem? (i := 507) (by decide +kernel)⟩
theorem lw_p2 : lw_okq (⟨"OneWayTown$Tape", "kindOfWord", "()I"⟩, 7) := ⟨⟨by decide +kernel, by decide +kernel⟩, List.mem_of_getElem? (i := 30) (by decide +kernel), List.mem_of_getElem? (i := 510) (by decide +kernel), List.mem_of_getElem? (i := 511) (by decide +kernel)⟩
theorem lw_p3 : lw_okq (⟨"OneWayTown$Tape", "spells", "(Ljava/lang/String;)Z"⟩, 7) := ⟨⟨by decide +kernel, by decide +kernel⟩, List.mem_of_getElem? (i := 30) (by decide +kernel), List.mem_of_getElem? (i := 515) (by decide +kernel), List.mem_of_getElem? (i := 516) (by decide +kernel)⟩
theorem lw_p4 : lw_okq (⟨"OneWayTown$Tape", "isDigit", "(I)Z"⟩, 7) := ⟨⟨by decide +kernel, by decide +kernel⟩, List.mem_of_getElem? (i := 30) (by decide +kernel), List.mem_of_getElem? (i := 573) (by decide +kernel), List.mem_of_getElem? (i := 574) (by decide +kernel)⟩
theorem lw_p5 : lw_okq (⟨"OneWayTown$Tape", "readNumber", "()V"⟩, 7) := ⟨⟨by decide +kernel, by decide +kernel⟩, List.mem_of_getElem? (i := 30) (by decide +kernel), List.mem_of_getElem? (i := 577) (by decide +kernel), List.mem_of_getElem? (i := 578) (by decide +kernel)⟩
theorem lw_p6 : lw_okq (⟨"OneWayTown$Reader", "readHouse", "()Z"⟩, 10) := ⟨⟨by decide +kernel, by decide +kernel⟩, List.mem_of_getElem? (i := 64) (by decide +kernel), List.mem_of_getElem? (i := 581) (by decide +kernel), List.mem_of_getElem? (i := 582) (by decide +kernel)⟩
theorem lw_p7 : lw_okq (⟨"OneWayTown$Reader", "isNewName", "([JI)Z"⟩, 10) := ⟨⟨by decide +kernel, by decide +kernel⟩, List.mem_of_getElem? (i := 64) (by decide +kernel), List.mem_of_getElem? (i := 586) (by decide +kernel), List.mem_of_getElem? (i := 587) (by decide +kernel)⟩
theorem lw_p8 : lw_okq (⟨"OneWayTown$Reader", "misplaced", "()Z"⟩, 10) := ⟨⟨by decide +kernel, by decide +kernel⟩, List.mem_of_getElem? (i := 64) (by decide +kernel), List.mem_of_getElem? (i := 590) (by decide +kernel), List.mem_of_getElem? (i := 591) (by decide +kernel)⟩
theorem lw_p9 : lw_okq (⟨"OneWayTown$Reader", "blame", "(I)Z"⟩, 10) := ⟨⟨by decide +kernel, by decide +kernel⟩, List.mem_of_getElem? (i := 64) (by decide +kernel), List.mem_of_getElem? (i := 594) (by decide +kernel), List.mem_of_getElem? (i := 595) (by decide +kernel)⟩
theorem lw_p10 : lw_okq (⟨"OneWayTown$Reader", "takeToken", "(I)Z"⟩, 10) := ⟨⟨by decide +kernel, by decide +kernel⟩, List.mem_of_getElem? (i := 64) (by decide +kernel), List.mem_of_getElem? (i := 601) (by decide +kernel), List.mem_of_getElem? (i := 602) (by decide +kernel)⟩
theorem lw_p11 : lw_okq (⟨"OneWayTown$Reader", "takeHouse", "()I"⟩, 10) := ⟨⟨by decide +kernel, by decide +kernel⟩, List.mem_of_getElem? (i := 64) (by decide +kernel), List.mem_of_getElem? (i := 605) (by decide +kernel), List.mem_of_getElem? (i := 606) (by decide +kernel)⟩
theorem lw_p12 : lw_okq (⟨"OneWayTown$Reader", "knownHouse", "()I"⟩, 10) := ⟨⟨by decide +kernel, by decide +kernel⟩, List.mem_of_getElem? (i := 64) (by decide +kernel), List.mem_of_getElem? (i := 609) (by decide +kernel), List.mem_of_getElem? (i := 610) (by decide +kernel)⟩
theorem lw_p13 : lw_okq (⟨"OneWayTown$Reader", "takeNumber", "(II)I"⟩, 10) := ⟨⟨by decide +kernel, by decide +kernel⟩, List.mem_of_getElem? (i := 64) (by decide +kernel), List.mem_of_getElem? (i := 613) (by decide +kernel), List.mem_of_getElem? (i := 614) (by decide +kernel)⟩
theorem lw_p14 : lw_okq (⟨"OneWayTown$Reader", "readCart", "()Z"⟩, 10) := ⟨⟨by decide +kernel, by decide +kernel⟩, List.mem_of_getElem? (i := 64) (by decide +kernel), List.mem_of_getElem? (i := 621) (by decide +kernel), List.mem_of_getElem? (i := 622) (by decide +kernel)⟩
theorem lw_p15 : lw_okq (⟨"OneWayTown$Reader", "takeFreeHouse", "([II)I"⟩, 10) := ⟨⟨by decide +kernel, by decide +kernel⟩, List.mem_of_getElem? (i := 64) (by decide +kernel), List.mem_of_getElem? (i := 625) (by decide +kernel), List.mem_of_getElem? (i := 626) (by decide +kernel)⟩
def lw_privs_1 : List (MethodName × Nat) := [(⟨"OneWayTown$Tape", "isLetter", "(I)Z"⟩, 7), (⟨"OneWayTown$Tape", "readWord", "()V"⟩, 7), (⟨"OneWayTown$Tape", "kindOfWord", "()I"⟩, 7), (⟨"OneWayTown$Tape", "spells", "(Ljava/lang/String;)Z"⟩, 7), (⟨"OneWayTown$Tape", "isDigit", "(I)Z"⟩, 7), (⟨"OneWayTown$Tape", "readNumber", "()V"⟩, 7), (⟨"OneWayTown$Reader", "readHouse", "()Z"⟩, 10), (⟨"OneWayTown$Reader", "isNewName", "([JI)Z"⟩, 10), (⟨"OneWayTown$Reader", "misplaced", "()Z"⟩, 10), (⟨"OneWayTown$Reader", "blame", "(I)Z"⟩, 10), (⟨"OneWayTown$Reader", "takeToken", "(I)Z"⟩, 10), (⟨"OneWayTown$Reader", "takeHouse", "()I"⟩, 10), (⟨"OneWayTown$Reader", "knownHouse", "()I"⟩, 10), (⟨"OneWayTown$Reader", "takeNumber", "(II)I"⟩, 10), (⟨"OneWayTown$Reader", "readCart", "()Z"⟩, 10), (⟨"OneWayTown$Reader", "takeFreeHouse", "([II)I"⟩, 10)]
theorem lw_r1 : ∀ q ∈ lw_privs_1, lw_okq q := List.forall_mem_cons.mpr ⟨lw_p0, List.forall_mem_cons.mpr ⟨lw_p1, List.forall_mem_cons.mpr ⟨lw_p2, List.forall_mem_cons.mpr ⟨lw_p3, List.forall_mem_cons.mpr ⟨lw_p4, List.forall_mem_cons.mpr ⟨lw_p5, List.forall_mem_cons.mpr ⟨lw_p6, List.forall_mem_cons.mpr ⟨lw_p7, List.forall_mem_cons.mpr ⟨lw_p8, List.forall_mem_cons.mpr ⟨lw_p9, List.forall_mem_cons.mpr ⟨lw_p10, List.forall_mem_cons.mpr ⟨lw_p11, List.forall_mem_cons.mpr ⟨lw_p12, List.forall_mem_cons.mpr ⟨lw_p13, List.forall_mem_cons.mpr ⟨lw_p14, List.forall_mem_cons.mpr ⟨lw_p15, fun _ h => absurd h List.not_mem_nil⟩⟩⟩⟩⟩⟩⟩⟩⟩⟩⟩⟩⟩⟩⟩⟩
theorem lw_p16 : lw_okq (⟨"OneWayTown$Reader", "readDraw", "()Z"⟩, 10) := ⟨⟨by decide +kernel, by decide +kernel⟩, List.mem_of_getElem? (i := 64) (by decide +kernel), List.mem_of_getElem? (i := 629) (by decide +kernel), List.mem_of_getElem? (i := 630) (by decide +kernel)⟩
theorem lw_p17 : lw_okq (⟨"OneWayTown$Acts", "current", "()LOneWayTown$Town;"⟩, 4) := ⟨⟨by decide +kernel, by decide +kernel⟩, List.mem_of_getElem? (i := 199) (by decide +kernel), List.mem_of_getElem? (i := 655) (by decide +kernel), List.mem_of_getElem? (i := 656) (by decide +kernel)⟩
theorem lw_p18 : lw_okq (⟨"OneWayTown", "renew", "()V"⟩, 15) := ⟨⟨by decide +kernel, by decide +kernel⟩, List.mem_of_getElem? (i := 22) (by decide +kernel), List.mem_of_getElem? (i := 660) (by decide +kernel), List.mem_of_getElem? (i := 661) (by decide +kernel)⟩
theorem lw_p19 : lw_okq (⟨"OneWayTown$Ways", "sortFromFirst", "()V"⟩, 9) := ⟨⟨by decide +kernel, by decide +kernel⟩, List.mem_of_getElem? (i := 223) (by decide +kernel), List.mem_of_getElem? (i := 668) (by decide +kernel), List.mem_of_getElem? (i := 669) (by decide +kernel)⟩
theorem lw_p20 : lw_okq (⟨"OneWayTown$Ways", "nextToward", "(II)I"⟩, 9) := ⟨⟨by decide +kernel, by decide +kernel⟩, List.mem_of_getElem? (i := 223) (by decide +kernel), List.mem_of_getElem? (i := 697) (by decide +kernel), List.mem_of_getElem? (i := 698) (by decide +kernel)⟩
theorem lw_p21 : lw_okq (⟨"OneWayTown$Ways", "walkedTo", "(I)I"⟩, 9) := ⟨⟨by decide +kernel, by decide +kernel⟩, List.mem_of_getElem? (i := 223) (by decide +kernel), List.mem_of_getElem? (i := 741) (by decide +kernel), List.mem_of_getElem? (i := 742) (by decide +kernel)⟩
theorem lw_p22 : lw_okq (⟨"OneWayTown$Ways", "greatestQuarter", "(I)I"⟩, 9) := ⟨⟨by decide +kernel, by decide +kernel⟩, List.mem_of_getElem? (i := 223) (by decide +kernel), List.mem_of_getElem? (i := 745) (by decide +kernel), List.mem_of_getElem? (i := 746) (by decide +kernel)⟩
theorem lw_p23 : lw_okq (⟨"OneWayTown$Ways", "sumBehind", "()V"⟩, 9) := ⟨⟨by decide +kernel, by decide +kernel⟩, List.mem_of_getElem? (i := 223) (by decide +kernel), List.mem_of_getElem? (i := 753) (by decide +kernel), List.mem_of_getElem? (i := 754) (by decide +kernel)⟩
theorem lw_p24 : lw_okq (⟨"OneWayTown$Ways", "maskWithin", "(I)I"⟩, 9) := ⟨⟨by decide +kernel, by decide +kernel⟩, List.mem_of_getElem? (i := 223) (by decide +kernel), List.mem_of_getElem? (i := 778) (by decide +kernel), List.mem_of_getElem? (i := 779) (by decide +kernel)⟩
theorem lw_p25 : lw_okq (⟨"OneWayTown$Ways", "measureParts", "(I)I"⟩, 9) := ⟨⟨by decide +kernel, by decide +kernel⟩, List.mem_of_getElem? (i := 223) (by decide +kernel), List.mem_of_getElem? (i := 787) (by decide +kernel), List.mem_of_getElem? (i := 788) (by decide +kernel)⟩
theorem lw_p26 : lw_okq (⟨"OneWayTown", "keepAct", "()V"⟩, 15) := ⟨⟨by decide +kernel, by decide +kernel⟩, List.mem_of_getElem? (i := 22) (by decide +kernel), List.mem_of_getElem? (i := 796) (by decide +kernel), List.mem_of_getElem? (i := 797) (by decide +kernel)⟩
theorem lw_p27 : lw_okq (⟨"OneWayTown$Town", "burn", "()V"⟩, 5) := ⟨⟨by decide +kernel, by decide +kernel⟩, List.mem_of_getElem? (i := 70) (by decide +kernel), List.mem_of_getElem? (i := 821) (by decide +kernel), List.mem_of_getElem? (i := 822) (by decide +kernel)⟩
theorem lw_p28 : lw_okq (⟨"OneWayTown$Marks", "linkFirstEnd", "(II)V"⟩, 7) := ⟨⟨by decide +kernel, by decide +kernel⟩, List.mem_of_getElem? (i := 341) (by decide +kernel), List.mem_of_getElem? (i := 845) (by decide +kernel), List.mem_of_getElem? (i := 846) (by decide +kernel)⟩
theorem lw_p29 : lw_okq (⟨"OneWayTown$Marks", "firstEnd", "(I)I"⟩, 7) := ⟨⟨by decide +kernel, by decide +kernel⟩, List.mem_of_getElem? (i := 341) (by decide +kernel), List.mem_of_getElem? (i := 849) (by decide +kernel), List.mem_of_getElem? (i := 850) (by decide +kernel)⟩
theorem lw_p30 : lw_okq (⟨"OneWayTown$Marks", "hangAll", "(ILOneWayTown$Town;)V"⟩, 7) := ⟨⟨by decide +kernel, by decide +kernel⟩, List.mem_of_getElem? (i := 341) (by decide +kernel), List.mem_of_getElem? (i := 853) (by decide +kernel), List.mem_of_getElem? (i := 854) (by decide +kernel)⟩
theorem lw_p31 : lw_okq (⟨"OneWayTown", "isFilled", "(I)Z"⟩, 15) := ⟨⟨by decide +kernel, by decide +kernel⟩, List.mem_of_getElem? (i := 22) (by decide +kernel), List.mem_of_getElem? (i := 884) (by decide +kernel), List.mem_of_getElem? (i := 885) (by decide +kernel)⟩
def lw_privs_2 : List (MethodName × Nat) := [(⟨"OneWayTown$Reader", "readDraw", "()Z"⟩, 10), (⟨"OneWayTown$Acts", "current", "()LOneWayTown$Town;"⟩, 4), (⟨"OneWayTown", "renew", "()V"⟩, 15), (⟨"OneWayTown$Ways", "sortFromFirst", "()V"⟩, 9), (⟨"OneWayTown$Ways", "nextToward", "(II)I"⟩, 9), (⟨"OneWayTown$Ways", "walkedTo", "(I)I"⟩, 9), (⟨"OneWayTown$Ways", "greatestQuarter", "(I)I"⟩, 9), (⟨"OneWayTown$Ways", "sumBehind", "()V"⟩, 9), (⟨"OneWayTown$Ways", "maskWithin", "(I)I"⟩, 9), (⟨"OneWayTown$Ways", "measureParts", "(I)I"⟩, 9), (⟨"OneWayTown", "keepAct", "()V"⟩, 15), (⟨"OneWayTown$Town", "burn", "()V"⟩, 5), (⟨"OneWayTown$Marks", "linkFirstEnd", "(II)V"⟩, 7), (⟨"OneWayTown$Marks", "firstEnd", "(I)I"⟩, 7), (⟨"OneWayTown$Marks", "hangAll", "(ILOneWayTown$Town;)V"⟩, 7), (⟨"OneWayTown", "isFilled", "(I)Z"⟩, 15)]
theorem lw_r2 : ∀ q ∈ lw_privs_2, lw_okq q := List.forall_mem_cons.mpr ⟨lw_p16, List.forall_mem_cons.mpr ⟨lw_p17, List.forall_mem_cons.mpr ⟨lw_p18, List.forall_mem_cons.mpr ⟨lw_p19, List.forall_mem_cons.mpr ⟨lw_p20, List.forall_mem_cons.mpr ⟨lw_p21, List.forall_mem_cons.mpr ⟨lw_p22, List.forall_mem_cons.mpr ⟨lw_p23, List.forall_mem_cons.mpr ⟨lw_p24, List.forall_mem_cons.mpr ⟨lw_p25, List.forall_mem_cons.mpr ⟨lw_p26, List.forall_mem_cons.mpr ⟨lw_p27, List.forall_mem_cons.mpr ⟨lw_p28, List.forall_mem_cons.mpr ⟨lw_p29, List.forall_mem_cons.mpr ⟨lw_p30, List.forall_mem_cons.mpr ⟨lw_p31, fun _ h => absurd h List.not_mem_nil⟩⟩⟩⟩⟩⟩⟩⟩⟩⟩⟩⟩⟩⟩⟩⟩
theorem lw_p32 : lw_okq (⟨"OneWayTown$Sets", "freeAll", "()V"⟩, 11) := ⟨⟨by decide +kernel, by decide +kernel⟩, List.mem_of_getElem? (i := 279) (by decide +kernel), List.mem_of_getElem? (i := 900) (by decide +kernel), List.mem_of_getElem? (i := 901) (by decide +kernel)⟩
theorem lw_p33 : lw_okq (⟨"OneWayTown$Sets", "wardensWithChoices", "(I)I"⟩, 11) := ⟨⟨by decide +kernel, by decide +kernel⟩, List.mem_of_getElem? (i := 279) (by decide +kernel), List.mem_of_getElem? (i := 904) (by decide +kernel), List.mem_of_getElem? (i := 905) (by decide +kernel)⟩
theorem lw_p34 : lw_okq (⟨"OneWayTown$Sets", "price", "(I)I"⟩, 11) := ⟨⟨by decide +kernel, by decide +kernel⟩, List.mem_of_getElem? (i := 279) (by decide +kernel), List.mem_of_getElem? (i := 908) (by decide +kernel), List.mem_of_getElem? (i := 909) (by decide +kernel)⟩
theorem lw_p35 : lw_okq (⟨"OneWayTown$Sets", "serve", "(II)V"⟩, 11) := ⟨⟨by decide +kernel, by decide +kernel⟩, List.mem_of_getElem? (i := 279) (by decide +kernel), List.mem_of_getElem? (i := 912) (by decide +kernel), List.mem_of_getElem? (i := 913) (by decide +kernel)⟩
theorem lw_p36 : lw_okq (⟨"OneWayTown$Sets", "apartMask", "(II)I"⟩, 11) := ⟨⟨by decide +kernel, by decide +kernel⟩, List.mem_of_getElem? (i := 279) (by decide +kernel), List.mem_of_getElem? (i := 927) (by decide +kernel), List.mem_of_getElem? (i := 928) (by decide +kernel)⟩
theorem lw_p37 : lw_okq (⟨"OneWayTown$Sets", "heaviestApart", "()I"⟩, 11) := ⟨⟨by decide +kernel, by decide +kernel⟩, List.mem_of_getElem? (i := 279) (by decide +kernel), List.mem_of_getElem? (i := 931) (by decide +kernel), List.mem_of_getElem? (i := 932) (by decide +kernel)⟩
theorem lw_p38 : lw_okq (⟨"OneWayTown", "lay", "(I)V"⟩, 15) := ⟨⟨by decide +kernel, by decide +kernel⟩, List.mem_of_getElem? (i := 22) (by decide +kernel), List.mem_of_getElem? (i := 953) (by decide +kernel), List.mem_of_getElem? (i := 954) (by decide +kernel)⟩
theorem lw_p39 : lw_okq (⟨"OneWayTown$Sets", "openMore", "(IIII)V"⟩, 11) := ⟨⟨by decide +kernel, by decide +kernel⟩, List.mem_of_getElem? (i := 279) (by decide +kernel), List.mem_of_getElem? (i := 966) (by decide +kernel), List.mem_of_getElem? (i := 967) (by decide +kernel)⟩
theorem lw_p40 : lw_okq (⟨"OneWayTown$Sets", "sumWith", "(II)I"⟩, 11) := ⟨⟨by decide +kernel, by decide +kernel⟩, List.mem_of_getElem? (i := 279) (by decide +kernel), List.mem_of_getElem? (i := 970) (by decide +kernel), List.mem_of_getElem? (i := 971) (by decide +kernel)⟩
theorem lw_p41 : lw_okq (⟨"OneWayTown$Sets", "startCount", "(I)V"⟩, 11) := ⟨⟨by decide +kernel, by decide +kernel⟩, List.mem_of_getElem? (i := 279) (by decide +kernel), List.mem_of_getElem? (i := 982) (by decide +kernel), List.mem_of_getElem? (i := 983) (by decide +kernel)⟩
theorem lw_p42 : lw_okq (⟨"OneWayTown$Telling", "hoursBehind", "(IIZI)I"⟩, 2) := ⟨⟨by decide +kernel, by decide +kernel⟩, List.mem_of_getElem? (i := 265) (by decide +kernel), List.mem_of_getElem? (i := 1002) (by decide +kernel), List.mem_of_getElem? (i := 1003) (by decide +kernel)⟩
theorem lw_p43 : lw_okq (⟨"OneWayTown$Fleet", "search", "()V"⟩, 11) := ⟨⟨by decide +kernel, by decide +kernel⟩, List.mem_of_getElem? (i := 156) (by decide +kernel), List.mem_of_getElem? (i := 1027) (by decide +kernel), List.mem_of_getElem? (i := 1028) (by decide +kernel)⟩
theorem lw_p44 : lw_okq (⟨"OneWayTown$Fleet", "listNeighbours", "()V"⟩, 11) := ⟨⟨by decide +kernel, by decide +kernel⟩, List.mem_of_getElem? (i := 156) (by decide +kernel), List.mem_of_getElem? (i := 1031) (by decide +kernel), List.mem_of_getElem? (i := 1032) (by decide +kernel)⟩
theorem lw_p45 : lw_okq (⟨"OneWayTown$Fleet", "pack", "([I)I"⟩, 11) := ⟨⟨by decide +kernel, by decide +kernel⟩, List.mem_of_getElem? (i := 156) (by decide +kernel), List.mem_of_getElem? (i := 1036) (by decide +kernel), List.mem_of_getElem? (i := 1037) (by decide +kernel)⟩
theorem lw_p46 : lw_okq (⟨"OneWayTown$Fleet", "comeTo", "(III)V"⟩, 11) := ⟨⟨by decide +kernel, by decide +kernel⟩, List.mem_of_getElem? (i := 156) (by decide +kernel), List.mem_of_getElem? (i := 1040) (by decide +kernel), List.mem_of_getElem? (i := 1041) (by decide +kernel)⟩
theorem lw_p47 : lw_okq (⟨"OneWayTown$Fleet", "goOn", "(II)V"⟩, 11) := ⟨⟨by decide +kernel, by decide +kernel⟩, List.mem_of_getElem? (i := 156) (by decide +kernel), List.mem_of_getElem? (i := 1044) (by decide +kernel), List.mem_of_getElem? (i := 1045) (by decide +kernel)⟩
def lw_privs_3 : List (MethodName × Nat) := [(⟨"OneWayTown$Sets", "freeAll", "()V"⟩, 11), (⟨"OneWayTown$Sets", "wardensWithChoices", "(I)I"⟩, 11), (⟨"OneWayTown$Sets", "price", "(I)I"⟩, 11), (⟨"OneWayTown$Sets", "serve", "(II)V"⟩, 11), (⟨"OneWayTown$Sets", "apartMask", "(II)I"⟩, 11), (⟨"OneWayTown$Sets", "heaviestApart", "()I"⟩, 11), (⟨"OneWayTown", "lay", "(I)V"⟩, 15), (⟨"OneWayTown$Sets", "openMore", "(IIII)V"⟩, 11), (⟨"OneWayTown$Sets", "sumWith", "(II)I"⟩, 11), (⟨"OneWayTown$Sets", "startCount", "(I)V"⟩, 11), (⟨"OneWayTown$Telling", "hoursBehind", "(IIZI)I"⟩, 2), (⟨"OneWayTown$Fleet", "search", "()V"⟩, 11), (⟨"OneWayTown$Fleet", "listNeighbours", "()V"⟩, 11), (⟨"OneWayTown$Fleet", "pack", "([I)I"⟩, 11), (⟨"OneWayTown$Fleet", "comeTo", "(III)V"⟩, 11), (⟨"OneWayTown$Fleet", "goOn", "(II)V"⟩, 11)]
theorem lw_r3 : ∀ q ∈ lw_privs_3, lw_okq q := List.forall_mem_cons.mpr ⟨lw_p32, List.forall_mem_cons.mpr ⟨lw_p33, List.forall_mem_cons.mpr ⟨lw_p34, List.forall_mem_cons.mpr ⟨lw_p35, List.forall_mem_cons.mpr ⟨lw_p36, List.forall_mem_cons.mpr ⟨lw_p37, List.forall_mem_cons.mpr ⟨lw_p38, List.forall_mem_cons.mpr ⟨lw_p39, List.forall_mem_cons.mpr ⟨lw_p40, List.forall_mem_cons.mpr ⟨lw_p41, List.forall_mem_cons.mpr ⟨lw_p42, List.forall_mem_cons.mpr ⟨lw_p43, List.forall_mem_cons.mpr ⟨lw_p44, List.forall_mem_cons.mpr ⟨lw_p45, List.forall_mem_cons.mpr ⟨lw_p46, List.forall_mem_cons.mpr ⟨lw_p47, fun _ h => absurd h List.not_mem_nil⟩⟩⟩⟩⟩⟩⟩⟩⟩⟩⟩⟩⟩⟩⟩⟩
theorem lw_p48 : lw_okq (⟨"OneWayTown$Fleet", "firstStep", "()I"⟩, 11) := ⟨⟨by decide +kernel, by decide +kernel⟩, List.mem_of_getElem? (i := 156) (by decide +kernel), List.mem_of_getElem? (i := 1053) (by decide +kernel), List.mem_of_getElem? (i := 1054) (by decide +kernel)⟩
theorem lw_p49 : lw_okq (⟨"OneWayTown$Likeness", "countLikeRoots", "()I"⟩, 4) := ⟨⟨by decide +kernel, by decide +kernel⟩, List.mem_of_getElem? (i := 322) (by decide +kernel), List.mem_of_getElem? (i := 1069) (by decide +kernel), List.mem_of_getElem? (i := 1070) (by decide +kernel)⟩
theorem lw_p50 : lw_okq (⟨"OneWayTown$Likeness", "isBranchLike", "(IIIII)Z"⟩, 4) := ⟨⟨by decide +kernel, by decide +kernel⟩, List.mem_of_getElem? (i := 322) (by decide +kernel), List.mem_of_getElem? (i := 1073) (by decide +kernel), List.mem_of_getElem? (i := 1074) (by decide +kernel)⟩
theorem lw_p51 : lw_okq (⟨"OneWayTown$Likeness", "isStreetLike", "(II)Z"⟩, 4) := ⟨⟨by decide +kernel, by decide +kernel⟩, List.mem_of_getElem? (i := 322) (by decide +kernel), List.mem_of_getElem? (i := 1079) (by decide +kernel), List.mem_of_getElem? (i := 1080) (by decide +kernel)⟩
theorem lw_p52 : lw_okq (⟨"OneWayTown$Likeness", "countLikeAhead", "(I)I"⟩, 4) := ⟨⟨by decide +kernel, by decide +kernel⟩, List.mem_of_getElem? (i := 322) (by decide +kernel), List.mem_of_getElem? (i := 1091) (by decide +kernel), List.mem_of_getElem? (i := 1092) (by decide +kernel)⟩
theorem lw_p53 : lw_okq (⟨"OneWayTown$Likeness", "countRooted", "(I)V"⟩, 4) := ⟨⟨by decide +kernel, by decide +kernel⟩, List.mem_of_getElem? (i := 322) (by decide +kernel), List.mem_of_getElem? (i := 1103) (by decide +kernel), List.mem_of_getElem? (i := 1104) (by decide +kernel)⟩
theorem lw_p54 : lw_okq (⟨"OneWayTown$Likeness", "sumOfDivisors", "(I)I"⟩, 4) := ⟨⟨by decide +kernel, by decide +kernel⟩, List.mem_of_getElem? (i := 322) (by decide +kernel), List.mem_of_getElem? (i := 1107) (by decide +kernel), List.mem_of_getElem? (i := 1108) (by decide +kernel)⟩
theorem lw_p55 : lw_okq (⟨"OneWayTown$Marks", "lastNeighbour", "(LOneWayTown$Town;I)I"⟩, 7) := ⟨⟨by decide +kernel, by decide +kernel⟩, List.mem_of_getElem? (i := 341) (by decide +kernel), List.mem_of_getElem? (i := 1120) (by decide +kernel), List.mem_of_getElem? (i := 1121) (by decide +kernel)⟩
theorem lw_p56 : lw_okq (⟨"OneWayTown$Marks", "countBroken", "(II)I"⟩, 7) := ⟨⟨by decide +kernel, by decide +kernel⟩, List.mem_of_getElem? (i := 341) (by decide +kernel), List.mem_of_getElem? (i := 1133) (by decide +kernel), List.mem_of_getElem? (i := 1134) (by decide +kernel)⟩
theorem lw_p57 : lw_okq (⟨"OneWayTown$Marks", "holds", "(I)Z"⟩, 7) := ⟨⟨by decide +kernel, by decide +kernel⟩, List.mem_of_getElem? (i := 341) (by decide +kernel), List.mem_of_getElem? (i := 1139) (by decide +kernel), List.mem_of_getElem? (i := 1140) (by decide +kernel)⟩
theorem lw_p58 : lw_okq (⟨"OneWayTown$Marks", "isMiddleOneOrTwo", "()Z"⟩, 7) := ⟨⟨by decide +kernel, by decide +kernel⟩, List.mem_of_getElem? (i := 341) (by decide +kernel), List.mem_of_getElem? (i := 1143) (by decide +kernel), List.mem_of_getElem? (i := 1144) (by decide +kernel)⟩
theorem lw_p59 : lw_okq (⟨"OneWayTown$Marks", "areAllFoursLike", "()Z"⟩, 7) := ⟨⟨by decide +kernel, by decide +kernel⟩, List.mem_of_getElem? (i := 341) (by decide +kernel), List.mem_of_getElem? (i := 1153) (by decide +kernel), List.mem_of_getElem? (i := 1154) (by decide +kernel)⟩
theorem lw_p60 : lw_okq (⟨"OneWayTown$Marks", "wardensByEnds", "()I"⟩, 7) := ⟨⟨by decide +kernel, by decide +kernel⟩, List.mem_of_getElem? (i := 341) (by decide +kernel), List.mem_of_getElem? (i := 1173) (by decide +kernel), List.mem_of_getElem? (i := 1174) (by decide +kernel)⟩
theorem lw_p61 : lw_okq (⟨"OneWayTown$Marks", "farthestOf", "(I)I"⟩, 7) := ⟨⟨by decide +kernel, by decide +kernel⟩, List.mem_of_getElem? (i := 341) (by decide +kernel), List.mem_of_getElem? (i := 1177) (by decide +kernel), List.mem_of_getElem? (i := 1178) (by decide +kernel)⟩
theorem lw_p62 : lw_okq (⟨"OneWayTown$Doors", "isWhole", "(I)Z"⟩, 12) := ⟨⟨by decide +kernel, by decide +kernel⟩, List.mem_of_getElem? (i := 375) (by decide +kernel), List.mem_of_getElem? (i := 1221) (by decide +kernel), List.mem_of_getElem? (i := 1222) (by decide +kernel)⟩
theorem lw_p63 : lw_okq (⟨"OneWayTown$Doors", "firstWrongWithout", "(III)I"⟩, 12) := ⟨⟨by decide +kernel, by decide +kernel⟩, List.mem_of_getElem? (i := 375) (by decide +kernel), List.mem_of_getElem? (i := 1229) (by decide +kernel), List.mem_of_getElem? (i := 1230) (by decide +kernel)⟩
def lw_privs_4 : List (MethodName × Nat) := [(⟨"OneWayTown$Fleet", "firstStep", "()I"⟩, 11), (⟨"OneWayTown$Likeness", "countLikeRoots", "()I"⟩, 4), (⟨"OneWayTown$Likeness", "isBranchLike", "(IIIII)Z"⟩, 4), (⟨"OneWayTown$Likeness", "isStreetLike", "(II)Z"⟩, 4), (⟨"OneWayTown$Likeness", "countLikeAhead", "(I)I"⟩, 4), (⟨"OneWayTown$Likeness", "countRooted", "(I)V"⟩, 4), (⟨"OneWayTown$Likeness", "sumOfDivisors", "(I)I"⟩, 4), (⟨"OneWayTown$Marks", "lastNeighbour", "(LOneWayTown$Town;I)I"⟩, 7), (⟨"OneWayTown$Marks", "countBroken", "(II)I"⟩, 7), (⟨"OneWayTown$Marks", "holds", "(I)Z"⟩, 7), (⟨"OneWayTown$Marks", "isMiddleOneOrTwo", "()Z"⟩, 7), (⟨"OneWayTown$Marks", "areAllFoursLike", "()Z"⟩, 7), (⟨"OneWayTown$Marks", "wardensByEnds", "()I"⟩, 7), (⟨"OneWayTown$Marks", "farthestOf", "(I)I"⟩, 7), (⟨"OneWayTown$Doors", "isWhole", "(I)Z"⟩, 12), (⟨"OneWayTown$Doors", "firstWrongWithout", "(III)I"⟩, 12)]
theorem lw_r4 : ∀ q ∈ lw_privs_4, lw_okq q := List.forall_mem_cons.mpr ⟨lw_p48, List.forall_mem_cons.mpr ⟨lw_p49, List.forall_mem_cons.mpr ⟨lw_p50, List.forall_mem_cons.mpr ⟨lw_p51, List.forall_mem_cons.mpr ⟨lw_p52, List.forall_mem_cons.mpr ⟨lw_p53, List.forall_mem_cons.mpr ⟨lw_p54, List.forall_mem_cons.mpr ⟨lw_p55, List.forall_mem_cons.mpr ⟨lw_p56, List.forall_mem_cons.mpr ⟨lw_p57, List.forall_mem_cons.mpr ⟨lw_p58, List.forall_mem_cons.mpr ⟨lw_p59, List.forall_mem_cons.mpr ⟨lw_p60, List.forall_mem_cons.mpr ⟨lw_p61, List.forall_mem_cons.mpr ⟨lw_p62, List.forall_mem_cons.mpr ⟨lw_p63, fun _ h => absurd h List.not_mem_nil⟩⟩⟩⟩⟩⟩⟩⟩⟩⟩⟩⟩⟩⟩⟩⟩
theorem lw_p64 : lw_okq (⟨"OneWayTown$Doors", "isThreeRight", "(I)Z"⟩, 12) := ⟨⟨by decide +kernel, by decide +kernel⟩, List.mem_of_getElem? (i := 375) (by decide +kernel), List.mem_of_getElem? (i := 1234) (by decide +kernel), List.mem_of_getElem? (i := 1235) (by decide +kernel)⟩
theorem lw_p65 : lw_okq (⟨"OneWayTown$Doors", "canMend", "(III)Z"⟩, 12) := ⟨⟨by decide +kernel, by decide +kernel⟩, List.mem_of_getElem? (i := 375) (by decide +kernel), List.mem_of_getElem? (i := 1249) (by decide +kernel), List.mem_of_getElem? (i := 1250) (by decide +kernel)⟩
theorem lw_p66 : lw_okq (⟨"OneWayTown$Doors", "boundByThird", "(III)V"⟩, 12) := ⟨⟨by decide +kernel, by decide +kernel⟩, List.mem_of_getElem? (i := 375) (by decide +kernel), List.mem_of_getElem? (i := 1253) (by decide +kernel), List.mem_of_getElem? (i := 1254) (by decide +kernel)⟩
theorem lw_p67 : lw_okq (⟨"OneWayTown$Doors", "boundByTwo", "(IIII)V"⟩, 12) := ⟨⟨by decide +kernel, by decide +kernel⟩, List.mem_of_getElem? (i := 375) (by decide +kernel), List.mem_of_getElem? (i := 1261) (by decide +kernel), List.mem_of_getElem? (i := 1262) (by decide +kernel)⟩
theorem lw_p68 : lw_okq (⟨"OneWayTownModel", "clearBank", "()V"⟩, 69) := ⟨⟨by decide +kernel, by decide +kernel⟩, List.mem_of_getElem? (i := 1273) (by decide +kernel), List.mem_of_getElem? (i := 1280) (by decide +kernel), List.mem_of_getElem? (i := 1281) (by decide +kernel)⟩
theorem lw_p69 : lw_okq (⟨"OneWayTownModel", "begin", "()V"⟩, 69) := ⟨⟨by decide +kernel, by decide +kernel⟩, List.mem_of_getElem? (i := 1273) (by decide +kernel), List.mem_of_getElem? (i := 1284) (by decide +kernel), List.mem_of_getElem? (i := 1285) (by decide +kernel)⟩
theorem lw_p70 : lw_okq (⟨"OneWayTownModel", "many", "()I"⟩, 69) := ⟨⟨by decide +kernel, by decide +kernel⟩, List.mem_of_getElem? (i := 1273) (by decide +kernel), List.mem_of_getElem? (i := 1288) (by decide +kernel), List.mem_of_getElem? (i := 1289) (by decide +kernel)⟩
theorem lw_p71 : lw_okq (⟨"OneWayTownModel", "lay", "(IIII)V"⟩, 69) := ⟨⟨by decide +kernel, by decide +kernel⟩, List.mem_of_getElem? (i := 1273) (by decide +kernel), List.mem_of_getElem? (i := 1292) (by decide +kernel), List.mem_of_getElem? (i := 1293) (by decide +kernel)⟩
theorem lw_p72 : lw_okq (⟨"OneWayTownModel", "goOn", "()V"⟩, 69) := ⟨⟨by decide +kernel, by decide +kernel⟩, List.mem_of_getElem? (i := 1273) (by decide +kernel), List.mem_of_getElem? (i := 1508) (by decide +kernel), List.mem_of_getElem? (i := 1509) (by decide +kernel)⟩
theorem lw_p73 : lw_okq (⟨"OneWayTownModel", "sign", "(I)I"⟩, 69) := ⟨⟨by decide +kernel, by decide +kernel⟩, List.mem_of_getElem? (i := 1273) (by decide +kernel), List.mem_of_getElem? (i := 1512) (by decide +kernel), List.mem_of_getElem? (i := 1513) (by decide +kernel)⟩
theorem lw_p74 : lw_okq (⟨"OneWayTownModel", "isGood", "()Z"⟩, 69) := ⟨⟨by decide +kernel, by decide +kernel⟩, List.mem_of_getElem? (i := 1273) (by decide +kernel), List.mem_of_getElem? (i := 1532) (by decide +kernel), List.mem_of_getElem? (i := 1533) (by decide +kernel)⟩
theorem lw_p75 : lw_okq (⟨"OneWayTownModel", "readLine", "()V"⟩, 69) := ⟨⟨by decide +kernel, by decide +kernel⟩, List.mem_of_getElem? (i := 1273) (by decide +kernel), List.mem_of_getElem? (i := 1536) (by decide +kernel), List.mem_of_getElem? (i := 1537) (by decide +kernel)⟩
theorem lw_p76 : lw_okq (⟨"OneWayTownModel", "isFull", "()Z"⟩, 69) := ⟨⟨by decide +kernel, by decide +kernel⟩, List.mem_of_getElem? (i := 1273) (by decide +kernel), List.mem_of_getElem? (i := 1540) (by decide +kernel), List.mem_of_getElem? (i := 1541) (by decide +kernel)⟩
theorem lw_p77 : lw_okq (⟨"OneWayTownModel", "isWord", "(J)Z"⟩, 69) := ⟨⟨by decide +kernel, by decide +kernel⟩, List.mem_of_getElem? (i := 1273) (by decide +kernel), List.mem_of_getElem? (i := 1544) (by decide +kernel), List.mem_of_getElem? (i := 1545) (by decide +kernel)⟩
theorem lw_p78 : lw_okq (⟨"OneWayTownModel", "misplaced", "()V"⟩, 69) := ⟨⟨by decide +kernel, by decide +kernel⟩, List.mem_of_getElem? (i := 1273) (by decide +kernel), List.mem_of_getElem? (i := 1548) (by decide +kernel), List.mem_of_getElem? (i := 1549) (by decide +kernel)⟩
theorem lw_p79 : lw_okq (⟨"OneWayTownModel", "fails", "(II)V"⟩, 69) := ⟨⟨by decide +kernel, by decide +kernel⟩, List.mem_of_getElem? (i := 1273) (by decide +kernel), List.mem_of_getElem? (i := 1552) (by decide +kernel), List.mem_of_getElem? (i := 1553) (by decide +kernel)⟩
def lw_privs_5 : List (MethodName × Nat) := [(⟨"OneWayTown$Doors", "isThreeRight", "(I)Z"⟩, 12), (⟨"OneWayTown$Doors", "canMend", "(III)Z"⟩, 12), (⟨"OneWayTown$Doors", "boundByThird", "(III)V"⟩, 12), (⟨"OneWayTown$Doors", "boundByTwo", "(IIII)V"⟩, 12), (⟨"OneWayTownModel", "clearBank", "()V"⟩, 69), (⟨"OneWayTownModel", "begin", "()V"⟩, 69), (⟨"OneWayTownModel", "many", "()I"⟩, 69), (⟨"OneWayTownModel", "lay", "(IIII)V"⟩, 69), (⟨"OneWayTownModel", "goOn", "()V"⟩, 69), (⟨"OneWayTownModel", "sign", "(I)I"⟩, 69), (⟨"OneWayTownModel", "isGood", "()Z"⟩, 69), (⟨"OneWayTownModel", "readLine", "()V"⟩, 69), (⟨"OneWayTownModel", "isFull", "()Z"⟩, 69), (⟨"OneWayTownModel", "isWord", "(J)Z"⟩, 69), (⟨"OneWayTownModel", "misplaced", "()V"⟩, 69), (⟨"OneWayTownModel", "fails", "(II)V"⟩, 69)]
theorem lw_r5 : ∀ q ∈ lw_privs_5, lw_okq q := List.forall_mem_cons.mpr ⟨lw_p64, List.forall_mem_cons.mpr ⟨lw_p65, List.forall_mem_cons.mpr ⟨lw_p66, List.forall_mem_cons.mpr ⟨lw_p67, List.forall_mem_cons.mpr ⟨lw_p68, List.forall_mem_cons.mpr ⟨lw_p69, List.forall_mem_cons.mpr ⟨lw_p70, List.forall_mem_cons.mpr ⟨lw_p71, List.forall_mem_cons.mpr ⟨lw_p72, List.forall_mem_cons.mpr ⟨lw_p73, List.forall_mem_cons.mpr ⟨lw_p74, List.forall_mem_cons.mpr ⟨lw_p75, List.forall_mem_cons.mpr ⟨lw_p76, List.forall_mem_cons.mpr ⟨lw_p77, List.forall_mem_cons.mpr ⟨lw_p78, List.forall_mem_cons.mpr ⟨lw_p79, fun _ h => absurd h List.not_mem_nil⟩⟩⟩⟩⟩⟩⟩⟩⟩⟩⟩⟩⟩⟩⟩⟩
theorem lw_p80 : lw_okq (⟨"OneWayTownModel", "readHouse", "()V"⟩, 69) := ⟨⟨by decide +kernel, by decide +kernel⟩, List.mem_of_getElem? (i := 1273) (by decide +kernel), List.mem_of_getElem? (i := 1556) (by decide +kernel), List.mem_of_getElem? (i := 1557) (by decide +kernel)⟩
theorem lw_p81 : lw_okq (⟨"OneWayTownModel", "houseHere", "()I"⟩, 69) := ⟨⟨by decide +kernel, by decide +kernel⟩, List.mem_of_getElem? (i := 1273) (by decide +kernel), List.mem_of_getElem? (i := 1560) (by decide +kernel), List.mem_of_getElem? (i := 1561) (by decide +kernel)⟩
theorem lw_p82 : lw_okq (⟨"OneWayTownModel", "here", "([JII)I"⟩, 69) := ⟨⟨by decide +kernel, by decide +kernel⟩, List.mem_of_getElem? (i := 1273) (by decide +kernel), List.mem_of_getElem? (i := 1564) (by decide +kernel), List.mem_of_getElem? (i := 1565) (by decide +kernel)⟩
theorem lw_p83 : lw_okq (⟨"OneWayTownModel", "fresh", "(Z)V"⟩, 69) := ⟨⟨by decide +kernel, by decide +kernel⟩, List.mem_of_getElem? (i := 1273) (by decide +kernel), List.mem_of_getElem? (i := 1568) (by decide +kernel), List.mem_of_getElem? (i := 1569) (by decide +kernel)⟩
theorem lw_p84 : lw_okq (⟨"OneWayTownModel", "must", "(Z)V"⟩, 69) := ⟨⟨by decide +kernel, by decide +kernel⟩, List.mem_of_getElem? (i := 1273) (by decide +kernel), List.mem_of_getElem? (i := 1572) (by decide +kernel), List.mem_of_getElem? (i := 1573) (by decide +kernel)⟩
theorem lw_p85 : lw_okq (⟨"OneWayTownModel", "known", "()I"⟩, 69) := ⟨⟨by decide +kernel, by decide +kernel⟩, List.mem_of_getElem? (i := 1273) (by decide +kernel), List.mem_of_getElem? (i := 1576) (by decide +kernel), List.mem_of_getElem? (i := 1577) (by decide +kernel)⟩
theorem lw_p86 : lw_okq (⟨"OneWayTownModel", "after", "(JII)I"⟩, 69) := ⟨⟨by decide +kernel, by decide +kernel⟩, List.mem_of_getElem? (i := 1273) (by decide +kernel), List.mem_of_getElem? (i := 1580) (by decide +kernel), List.mem_of_getElem? (i := 1581) (by decide +kernel)⟩
theorem lw_p87 : lw_okq (⟨"OneWayTownModel", "numeral", "(II)I"⟩, 69) := ⟨⟨by decide +kernel, by decide +kernel⟩, List.mem_of_getElem? (i := 1273) (by decide +kernel), List.mem_of_getElem? (i := 1584) (by decide +kernel), List.mem_of_getElem? (i := 1585) (by decide +kernel)⟩
theorem lw_p88 : lw_okq (⟨"OneWayTownModel", "readCart", "()V"⟩, 69) := ⟨⟨by decide +kernel, by decide +kernel⟩, List.mem_of_getElem? (i := 1273) (by decide +kernel), List.mem_of_getElem? (i := 1588) (by decide +kernel), List.mem_of_getElem? (i := 1589) (by decide +kernel)⟩
theorem lw_p89 : lw_okq (⟨"OneWayTownModel", "isHouse", "(I)Z"⟩, 69) := ⟨⟨by decide +kernel, by decide +kernel⟩, List.mem_of_getElem? (i := 1273) (by decide +kernel), List.mem_of_getElem? (i := 1600) (by decide +kernel), List.mem_of_getElem? (i := 1601) (by decide +kernel)⟩
theorem lw_p90 : lw_okq (⟨"OneWayTownModel", "hangsAt", "(I)I"⟩, 69) := ⟨⟨by decide +kernel, by decide +kernel⟩, List.mem_of_getElem? (i := 1273) (by decide +kernel), List.mem_of_getElem? (i := 1607) (by decide +kernel), List.mem_of_getElem? (i := 1608) (by decide +kernel)⟩
theorem lw_p91 : lw_okq (⟨"OneWayTownModel", "streetOf", "(I)I"⟩, 69) := ⟨⟨by decide +kernel, by decide +kernel⟩, List.mem_of_getElem? (i := 1273) (by decide +kernel), List.mem_of_getElem? (i := 1611) (by decide +kernel), List.mem_of_getElem? (i := 1612) (by decide +kernel)⟩
theorem lw_p92 : lw_okq (⟨"OneWayTownModel", "peopleOf", "(I)I"⟩, 69) := ⟨⟨by decide +kernel, by decide +kernel⟩, List.mem_of_getElem? (i := 1273) (by decide +kernel), List.mem_of_getElem? (i := 1615) (by decide +kernel), List.mem_of_getElem? (i := 1616) (by decide +kernel)⟩
theorem lw_p93 : lw_okq (⟨"OneWayTownModel", "streetsOf", "(I)I"⟩, 69) := ⟨⟨by decide +kernel, by decide +kernel⟩, List.mem_of_getElem? (i := 1273) (by decide +kernel), List.mem_of_getElem? (i := 1619) (by decide +kernel), List.mem_of_getElem? (i := 1620) (by decide +kernel)⟩
theorem lw_p94 : lw_okq (⟨"OneWayTownModel", "areNext", "(II)Z"⟩, 69) := ⟨⟨by decide +kernel, by decide +kernel⟩, List.mem_of_getElem? (i := 1273) (by decide +kernel), List.mem_of_getElem? (i := 1623) (by decide +kernel), List.mem_of_getElem? (i := 1624) (by decide +kernel)⟩
theorem lw_p95 : lw_okq (⟨"OneWayTownModel", "layWays", "()V"⟩, 69) := ⟨⟨by decide +kernel, by decide +kernel⟩, List.mem_of_getElem? (i := 1273) (by decide +kernel), List.mem_of_getElem? (i := 1635) (by decide +kernel), List.mem_of_getElem? (i := 1636) (by decide +kernel)⟩
def lw_privs_6 : List (MethodName × Nat) := [(⟨"OneWayTownModel", "readHouse", "()V"⟩, 69), (⟨"OneWayTownModel", "houseHere", "()I"⟩, 69), (⟨"OneWayTownModel", "here", "([JII)I"⟩, 69), (⟨"OneWayTownModel", "fresh", "(Z)V"⟩, 69), (⟨"OneWayTownModel", "must", "(Z)V"⟩, 69), (⟨"OneWayTownModel", "known", "()I"⟩, 69), (⟨"OneWayTownModel", "after", "(JII)I"⟩, 69), (⟨"OneWayTownModel", "numeral", "(II)I"⟩, 69), (⟨"OneWayTownModel", "readCart", "()V"⟩, 69), (⟨"OneWayTownModel", "isHouse", "(I)Z"⟩, 69), (⟨"OneWayTownModel", "hangsAt", "(I)I"⟩, 69), (⟨"OneWayTownModel", "streetOf", "(I)I"⟩, 69), (⟨"OneWayTownModel", "peopleOf", "(I)I"⟩, 69), (⟨"OneWayTownModel", "streetsOf", "(I)I"⟩, 69), (⟨"OneWayTownModel", "areNext", "(II)Z"⟩, 69), (⟨"OneWayTownModel", "layWays", "()V"⟩, 69)]
theorem lw_r6 : ∀ q ∈ lw_privs_6, lw_okq q := List.forall_mem_cons.mpr ⟨lw_p80, List.forall_mem_cons.mpr ⟨lw_p81, List.forall_mem_cons.mpr ⟨lw_p82, List.forall_mem_cons.mpr ⟨lw_p83, List.forall_mem_cons.mpr ⟨lw_p84, List.forall_mem_cons.mpr ⟨lw_p85, List.forall_mem_cons.mpr ⟨lw_p86, List.forall_mem_cons.mpr ⟨lw_p87, List.forall_mem_cons.mpr ⟨lw_p88, List.forall_mem_cons.mpr ⟨lw_p89, List.forall_mem_cons.mpr ⟨lw_p90, List.forall_mem_cons.mpr ⟨lw_p91, List.forall_mem_cons.mpr ⟨lw_p92, List.forall_mem_cons.mpr ⟨lw_p93, List.forall_mem_cons.mpr ⟨lw_p94, List.forall_mem_cons.mpr ⟨lw_p95, fun _ h => absurd h List.not_mem_nil⟩⟩⟩⟩⟩⟩⟩⟩⟩⟩⟩⟩⟩⟩⟩⟩
theorem lw_p96 : lw_okq (⟨"OneWayTownModel", "wayOf", "(II)I"⟩, 69) := ⟨⟨by decide +kernel, by decide +kernel⟩, List.mem_of_getElem? (i := 1273) (by decide +kernel), List.mem_of_getElem? (i := 1639) (by decide +kernel), List.mem_of_getElem? (i := 1640) (by decide +kernel)⟩
theorem lw_p97 : lw_okq (⟨"OneWayTownModel", "deepOf", "(I)I"⟩, 69) := ⟨⟨by decide +kernel, by decide +kernel⟩, List.mem_of_getElem? (i := 1273) (by decide +kernel), List.mem_of_getElem? (i := 1643) (by decide +kernel), List.mem_of_getElem? (i := 1644) (by decide +kernel)⟩
theorem lw_p98 : lw_okq (⟨"OneWayTownModel", "add", "(I)V"⟩, 69) := ⟨⟨by decide +kernel, by decide +kernel⟩, List.mem_of_getElem? (i := 1273) (by decide +kernel), List.mem_of_getElem? (i := 1647) (by decide +kernel), List.mem_of_getElem? (i := 1648) (by decide +kernel)⟩
theorem lw_p99 : lw_okq (⟨"OneWayTownModel", "farOf", "(I)I"⟩, 69) := ⟨⟨by decide +kernel, by decide +kernel⟩, List.mem_of_getElem? (i := 1273) (by decide +kernel), List.mem_of_getElem? (i := 1655) (by decide +kernel), List.mem_of_getElem? (i := 1656) (by decide +kernel)⟩
theorem lw_p100 : lw_okq (⟨"OneWayTownModel", "worthOf", "(II)I"⟩, 69) := ⟨⟨by decide +kernel, by decide +kernel⟩, List.mem_of_getElem? (i := 1273) (by decide +kernel), List.mem_of_getElem? (i := 1667) (by decide +kernel), List.mem_of_getElem? (i := 1668) (by decide +kernel)⟩
theorem lw_p101 : lw_okq (⟨"OneWayTownModel", "peopleBehind", "(II)I"⟩, 69) := ⟨⟨by decide +kernel, by decide +kernel⟩, List.mem_of_getElem? (i := 1273) (by decide +kernel), List.mem_of_getElem? (i := 1671) (by decide +kernel), List.mem_of_getElem? (i := 1672) (by decide +kernel)⟩
theorem lw_p102 : lw_okq (⟨"OneWayTownModel", "isBetween", "(III)Z"⟩, 69) := ⟨⟨by decide +kernel, by decide +kernel⟩, List.mem_of_getElem? (i := 1273) (by decide +kernel), List.mem_of_getElem? (i := 1675) (by decide +kernel), List.mem_of_getElem? (i := 1676) (by decide +kernel)⟩
theorem lw_p103 : lw_okq (⟨"OneWayTownModel", "streetsTogether", "()I"⟩, 69) := ⟨⟨by decide +kernel, by decide +kernel⟩, List.mem_of_getElem? (i := 1273) (by decide +kernel), List.mem_of_getElem? (i := 1683) (by decide +kernel), List.mem_of_getElem? (i := 1684) (by decide +kernel)⟩
theorem lw_p104 : lw_okq (⟨"OneWayTownModel", "keepAct", "()V"⟩, 69) := ⟨⟨by decide +kernel, by decide +kernel⟩, List.mem_of_getElem? (i := 1273) (by decide +kernel), List.mem_of_getElem? (i := 1695) (by decide +kernel), List.mem_of_getElem? (i := 1696) (by decide +kernel)⟩
theorem lw_p105 : lw_okq (⟨"OneWayTownModel", "grows", "(III)V"⟩, 69) := ⟨⟨by decide +kernel, by decide +kernel⟩, List.mem_of_getElem? (i := 1273) (by decide +kernel), List.mem_of_getElem? (i := 1699) (by decide +kernel), List.mem_of_getElem? (i := 1700) (by decide +kernel)⟩
theorem lw_p106 : lw_okq (⟨"OneWayTownModel", "isBehind", "(II)Z"⟩, 69) := ⟨⟨by decide +kernel, by decide +kernel⟩, List.mem_of_getElem? (i := 1273) (by decide +kernel), List.mem_of_getElem? (i := 1707) (by decide +kernel), List.mem_of_getElem? (i := 1708) (by decide +kernel)⟩
theorem lw_p107 : lw_okq (⟨"OneWayTownModel", "year", "()V"⟩, 69) := ⟨⟨by decide +kernel, by decide +kernel⟩, List.mem_of_getElem? (i := 1273) (by decide +kernel), List.mem_of_getElem? (i := 1719) (by decide +kernel), List.mem_of_getElem? (i := 1720) (by decide +kernel)⟩
theorem lw_p108 : lw_okq (⟨"OneWayTownModel", "exchange", "()V"⟩, 69) := ⟨⟨by decide +kernel, by decide +kernel⟩, List.mem_of_getElem? (i := 1273) (by decide +kernel), List.mem_of_getElem? (i := 1727) (by decide +kernel), List.mem_of_getElem? (i := 1728) (by decide +kernel)⟩
theorem lw_p109 : lw_okq (⟨"OneWayTownModel", "wardensBy", "(I)I"⟩, 69) := ⟨⟨by decide +kernel, by decide +kernel⟩, List.mem_of_getElem? (i := 1273) (by decide +kernel), List.mem_of_getElem? (i := 1739) (by decide +kernel), List.mem_of_getElem? (i := 1740) (by decide +kernel)⟩
theorem lw_p110 : lw_okq (⟨"OneWayTownModel", "layNear", "(I)V"⟩, 69) := ⟨⟨by decide +kernel, by decide +kernel⟩, List.mem_of_getElem? (i := 1273) (by decide +kernel), List.mem_of_getElem? (i := 1743) (by decide +kernel), List.mem_of_getElem? (i := 1744) (by decide +kernel)⟩
theorem lw_p111 : lw_okq (⟨"OneWayTownModel", "sets", "()I"⟩, 69) := ⟨⟨by decide +kernel, by decide +kernel⟩, List.mem_of_getElem? (i := 1273) (by decide +kernel), List.mem_of_getElem? (i := 1747) (by decide +kernel), List.mem_of_getElem? (i := 1748) (by decide +kernel)⟩
def lw_privs_7 : List (MethodName × Nat) := [(⟨"OneWayTownModel", "wayOf", "(II)I"⟩, 69), (⟨"OneWayTownModel", "deepOf", "(I)I"⟩, 69), (⟨"OneWayTownModel", "add", "(I)V"⟩, 69), (⟨"OneWayTownModel", "farOf", "(I)I"⟩, 69), (⟨"OneWayTownModel", "worthOf", "(II)I"⟩, 69), (⟨"OneWayTownModel", "peopleBehind", "(II)I"⟩, 69), (⟨"OneWayTownModel", "isBetween", "(III)Z"⟩, 69), (⟨"OneWayTownModel", "streetsTogether", "()I"⟩, 69), (⟨"OneWayTownModel", "keepAct", "()V"⟩, 69), (⟨"OneWayTownModel", "grows", "(III)V"⟩, 69), (⟨"OneWayTownModel", "isBehind", "(II)Z"⟩, 69), (⟨"OneWayTownModel", "year", "()V"⟩, 69), (⟨"OneWayTownModel", "exchange", "()V"⟩, 69), (⟨"OneWayTownModel", "wardensBy", "(I)I"⟩, 69), (⟨"OneWayTownModel", "layNear", "(I)V"⟩, 69), (⟨"OneWayTownModel", "sets", "()I"⟩, 69)]
theorem lw_r7 : ∀ q ∈ lw_privs_7, lw_okq q := List.forall_mem_cons.mpr ⟨lw_p96, List.forall_mem_cons.mpr ⟨lw_p97, List.forall_mem_cons.mpr ⟨lw_p98, List.forall_mem_cons.mpr ⟨lw_p99, List.forall_mem_cons.mpr ⟨lw_p100, List.forall_mem_cons.mpr ⟨lw_p101, List.forall_mem_cons.mpr ⟨lw_p102, List.forall_mem_cons.mpr ⟨lw_p103, List.forall_mem_cons.mpr ⟨lw_p104, List.forall_mem_cons.mpr ⟨lw_p105, List.forall_mem_cons.mpr ⟨lw_p106, List.forall_mem_cons.mpr ⟨lw_p107, List.forall_mem_cons.mpr ⟨lw_p108, List.forall_mem_cons.mpr ⟨lw_p109, List.forall_mem_cons.mpr ⟨lw_p110, List.forall_mem_cons.mpr ⟨lw_p111, fun _ h => absurd h List.not_mem_nil⟩⟩⟩⟩⟩⟩⟩⟩⟩⟩⟩⟩⟩⟩⟩⟩
theorem lw_p112 : lw_okq (⟨"OneWayTownModel", "isApart", "(I)Z"⟩, 69) := ⟨⟨by decide +kernel, by decide +kernel⟩, List.mem_of_getElem? (i := 1273) (by decide +kernel), List.mem_of_getElem? (i := 1761) (by decide +kernel), List.mem_of_getElem? (i := 1762) (by decide +kernel)⟩
theorem lw_p113 : lw_okq (⟨"OneWayTownModel", "peopleIn", "(I)I"⟩, 69) := ⟨⟨by decide +kernel, by decide +kernel⟩, List.mem_of_getElem? (i := 1273) (by decide +kernel), List.mem_of_getElem? (i := 1765) (by decide +kernel), List.mem_of_getElem? (i := 1766) (by decide +kernel)⟩
theorem lw_p114 : lw_okq (⟨"OneWayTownModel", "nextFar", "(I)I"⟩, 69) := ⟨⟨by decide +kernel, by decide +kernel⟩, List.mem_of_getElem? (i := 1273) (by decide +kernel), List.mem_of_getElem? (i := 1777) (by decide +kernel), List.mem_of_getElem? (i := 1778) (by decide +kernel)⟩
theorem lw_p115 : lw_okq (⟨"OneWayTownModel", "shopsBy", "(I)I"⟩, 69) := ⟨⟨by decide +kernel, by decide +kernel⟩, List.mem_of_getElem? (i := 1273) (by decide +kernel), List.mem_of_getElem? (i := 1785) (by decide +kernel), List.mem_of_getElem? (i := 1786) (by decide +kernel)⟩
theorem lw_p116 : lw_okq (⟨"OneWayTownModel", "isWhole", "(I)Z"⟩, 69) := ⟨⟨by decide +kernel, by decide +kernel⟩, List.mem_of_getElem? (i := 1273) (by decide +kernel), List.mem_of_getElem? (i := 1793) (by decide +kernel), List.mem_of_getElem? (i := 1794) (by decide +kernel)⟩
theorem lw_p117 : lw_okq (⟨"OneWayTownModel", "areSingle", "(I)Z"⟩, 69) := ⟨⟨by decide +kernel, by decide +kernel⟩, List.mem_of_getElem? (i := 1273) (by decide +kernel), List.mem_of_getElem? (i := 1797) (by decide +kernel), List.mem_of_getElem? (i := 1798) (by decide +kernel)⟩
theorem lw_p118 : lw_okq (⟨"OneWayTownModel", "newsFrom", "(IZ)I"⟩, 69) := ⟨⟨by decide +kernel, by decide +kernel⟩, List.mem_of_getElem? (i := 1273) (by decide +kernel), List.mem_of_getElem? (i := 1805) (by decide +kernel), List.mem_of_getElem? (i := 1806) (by decide +kernel)⟩
theorem lw_p119 : lw_okq (⟨"OneWayTownModel", "layOrder", "(I)V"⟩, 69) := ⟨⟨by decide +kernel, by decide +kernel⟩, List.mem_of_getElem? (i := 1273) (by decide +kernel), List.mem_of_getElem? (i := 1809) (by decide +kernel), List.mem_of_getElem? (i := 1810) (by decide +kernel)⟩
theorem lw_p120 : lw_okq (⟨"OneWayTownModel", "lengthOf", "(II)I"⟩, 69) := ⟨⟨by decide +kernel, by decide +kernel⟩, List.mem_of_getElem? (i := 1273) (by decide +kernel), List.mem_of_getElem? (i := 1813) (by decide +kernel), List.mem_of_getElem? (i := 1814) (by decide +kernel)⟩
theorem lw_p121 : lw_okq (⟨"OneWayTownModel", "cartsBack", "()I"⟩, 69) := ⟨⟨by decide +kernel, by decide +kernel⟩, List.mem_of_getElem? (i := 1273) (by decide +kernel), List.mem_of_getElem? (i := 1829) (by decide +kernel), List.mem_of_getElem? (i := 1830) (by decide +kernel)⟩
theorem lw_p122 : lw_okq (⟨"OneWayTownModel", "stateOf", "([I)I"⟩, 69) := ⟨⟨by decide +kernel, by decide +kernel⟩, List.mem_of_getElem? (i := 1273) (by decide +kernel), List.mem_of_getElem? (i := 1833) (by decide +kernel), List.mem_of_getElem? (i := 1834) (by decide +kernel)⟩
theorem lw_p123 : lw_okq (⟨"OneWayTownModel", "place", "(II)I"⟩, 69) := ⟨⟨by decide +kernel, by decide +kernel⟩, List.mem_of_getElem? (i := 1273) (by decide +kernel), List.mem_of_getElem? (i := 1837) (by decide +kernel), List.mem_of_getElem? (i := 1838) (by decide +kernel)⟩
theorem lw_p124 : lw_okq (⟨"OneWayTownModel", "isTaken", "(II)Z"⟩, 69) := ⟨⟨by decide +kernel, by decide +kernel⟩, List.mem_of_getElem? (i := 1273) (by decide +kernel), List.mem_of_getElem? (i := 1841) (by decide +kernel), List.mem_of_getElem? (i := 1842) (by decide +kernel)⟩
theorem lw_p125 : lw_okq (⟨"OneWayTownModel", "layFirst", "(I)I"⟩, 69) := ⟨⟨by decide +kernel, by decide +kernel⟩, List.mem_of_getElem? (i := 1273) (by decide +kernel), List.mem_of_getElem? (i := 1845) (by decide +kernel), List.mem_of_getElem? (i := 1846) (by decide +kernel)⟩
theorem lw_p126 : lw_okq (⟨"OneWayTownModel", "markOf", "(Z)I"⟩, 69) := ⟨⟨by decide +kernel, by decide +kernel⟩, List.mem_of_getElem? (i := 1273) (by decide +kernel), List.mem_of_getElem? (i := 1853) (by decide +kernel), List.mem_of_getElem? (i := 1854) (by decide +kernel)⟩
theorem lw_p127 : lw_okq (⟨"OneWayTownModel", "layMiddle", "()V"⟩, 69) := ⟨⟨by decide +kernel, by decide +kernel⟩, List.mem_of_getElem? (i := 1273) (by decide +kernel), List.mem_of_getElem? (i := 1857) (by decide +kernel), List.mem_of_getElem? (i := 1858) (by decide +kernel)⟩
def lw_privs_8 : List (MethodName × Nat) := [(⟨"OneWayTownModel", "isApart", "(I)Z"⟩, 69), (⟨"OneWayTownModel", "peopleIn", "(I)I"⟩, 69), (⟨"OneWayTownModel", "nextFar", "(I)I"⟩, 69), (⟨"OneWayTownModel", "shopsBy", "(I)I"⟩, 69), (⟨"OneWayTownModel", "isWhole", "(I)Z"⟩, 69), (⟨"OneWayTownModel", "areSingle", "(I)Z"⟩, 69), (⟨"OneWayTownModel", "newsFrom", "(IZ)I"⟩, 69), (⟨"OneWayTownModel", "layOrder", "(I)V"⟩, 69), (⟨"OneWayTownModel", "lengthOf", "(II)I"⟩, 69), (⟨"OneWayTownModel", "cartsBack", "()I"⟩, 69), (⟨"OneWayTownModel", "stateOf", "([I)I"⟩, 69), (⟨"OneWayTownModel", "place", "(II)I"⟩, 69), (⟨"OneWayTownModel", "isTaken", "(II)Z"⟩, 69), (⟨"OneWayTownModel", "layFirst", "(I)I"⟩, 69), (⟨"OneWayTownModel", "markOf", "(Z)I"⟩, 69), (⟨"OneWayTownModel", "layMiddle", "()V"⟩, 69)]
theorem lw_r8 : ∀ q ∈ lw_privs_8, lw_okq q := List.forall_mem_cons.mpr ⟨lw_p112, List.forall_mem_cons.mpr ⟨lw_p113, List.forall_mem_cons.mpr ⟨lw_p114, List.forall_mem_cons.mpr ⟨lw_p115, List.forall_mem_cons.mpr ⟨lw_p116, List.forall_mem_cons.mpr ⟨lw_p117, List.forall_mem_cons.mpr ⟨lw_p118, List.forall_mem_cons.mpr ⟨lw_p119, List.forall_mem_cons.mpr ⟨lw_p120, List.forall_mem_cons.mpr ⟨lw_p121, List.forall_mem_cons.mpr ⟨lw_p122, List.forall_mem_cons.mpr ⟨lw_p123, List.forall_mem_cons.mpr ⟨lw_p124, List.forall_mem_cons.mpr ⟨lw_p125, List.forall_mem_cons.mpr ⟨lw_p126, List.forall_mem_cons.mpr ⟨lw_p127, fun _ h => absurd h List.not_mem_nil⟩⟩⟩⟩⟩⟩⟩⟩⟩⟩⟩⟩⟩⟩⟩⟩
theorem lw_p128 : lw_okq (⟨"OneWayTownModel", "fold", "(IIZ)I"⟩, 69) := ⟨⟨by decide +kernel, by decide +kernel⟩, List.mem_of_getElem? (i := 1273) (by decide +kernel), List.mem_of_getElem? (i := 1861) (by decide +kernel), List.mem_of_getElem? (i := 1862) (by decide +kernel)⟩
theorem lw_p129 : lw_okq (⟨"OneWayTownModel", "isCutOff", "(III)Z"⟩, 69) := ⟨⟨by decide +kernel, by decide +kernel⟩, List.mem_of_getElem? (i := 1273) (by decide +kernel), List.mem_of_getElem? (i := 1865) (by decide +kernel), List.mem_of_getElem? (i := 1866) (by decide +kernel)⟩
theorem lw_p130 : lw_okq (⟨"OneWayTownModel", "takeTurns", "(I)V"⟩, 69) := ⟨⟨by decide +kernel, by decide +kernel⟩, List.mem_of_getElem? (i := 1273) (by decide +kernel), List.mem_of_getElem? (i := 1869) (by decide +kernel), List.mem_of_getElem? (i := 1870) (by decide +kernel)⟩
theorem lw_p131 : lw_okq (⟨"OneWayTownModel", "partNumber", "(I)I"⟩, 69) := ⟨⟨by decide +kernel, by decide +kernel⟩, List.mem_of_getElem? (i := 1273) (by decide +kernel), List.mem_of_getElem? (i := 1873) (by decide +kernel), List.mem_of_getElem? (i := 1874) (by decide +kernel)⟩
theorem lw_p132 : lw_okq (⟨"OneWayTownModel", "layRooted", "()V"⟩, 69) := ⟨⟨by decide +kernel, by decide +kernel⟩, List.mem_of_getElem? (i := 1273) (by decide +kernel), List.mem_of_getElem? (i := 1886) (by decide +kernel), List.mem_of_getElem? (i := 1887) (by decide +kernel)⟩
theorem lw_p133 : lw_okq (⟨"OneWayTownModel", "layMarks", "()V"⟩, 69) := ⟨⟨by decide +kernel, by decide +kernel⟩, List.mem_of_getElem? (i := 1273) (by decide +kernel), List.mem_of_getElem? (i := 1894) (by decide +kernel), List.mem_of_getElem? (i := 1895) (by decide +kernel)⟩
theorem lw_p134 : lw_okq (⟨"OneWayTownModel", "growsFrom", "(I)V"⟩, 69) := ⟨⟨by decide +kernel, by decide +kernel⟩, List.mem_of_getElem? (i := 1273) (by decide +kernel), List.mem_of_getElem? (i := 1903) (by decide +kernel), List.mem_of_getElem? (i := 1904) (by decide +kernel)⟩
theorem lw_p135 : lw_okq (⟨"OneWayTownModel", "joins", "(II)V"⟩, 69) := ⟨⟨by decide +kernel, by decide +kernel⟩, List.mem_of_getElem? (i := 1273) (by decide +kernel), List.mem_of_getElem? (i := 1907) (by decide +kernel), List.mem_of_getElem? (i := 1908) (by decide +kernel)⟩
theorem lw_p136 : lw_okq (⟨"OneWayTownModel", "hangAll", "(I)V"⟩, 69) := ⟨⟨by decide +kernel, by decide +kernel⟩, List.mem_of_getElem? (i := 1273) (by decide +kernel), List.mem_of_getElem? (i := 1911) (by decide +kernel), List.mem_of_getElem? (i := 1912) (by decide +kernel)⟩
theorem lw_p137 : lw_okq (⟨"OneWayTownModel", "isSo", "(I)Z"⟩, 69) := ⟨⟨by decide +kernel, by decide +kernel⟩, List.mem_of_getElem? (i := 1273) (by decide +kernel), List.mem_of_getElem? (i := 1919) (by decide +kernel), List.mem_of_getElem? (i := 1920) (by decide +kernel)⟩
theorem lw_p138 : lw_okq (⟨"OneWayTownModel", "isSoByFar", "()Z"⟩, 69) := ⟨⟨by decide +kernel, by decide +kernel⟩, List.mem_of_getElem? (i := 1273) (by decide +kernel), List.mem_of_getElem? (i := 1923) (by decide +kernel), List.mem_of_getElem? (i := 1924) (by decide +kernel)⟩
theorem lw_p139 : lw_okq (⟨"OneWayTownModel", "isSoByFour", "()Z"⟩, 69) := ⟨⟨by decide +kernel, by decide +kernel⟩, List.mem_of_getElem? (i := 1273) (by decide +kernel), List.mem_of_getElem? (i := 1927) (by decide +kernel), List.mem_of_getElem? (i := 1928) (by decide +kernel)⟩
theorem lw_p140 : lw_okq (⟨"OneWayTownModel", "byEnds", "()I"⟩, 69) := ⟨⟨by decide +kernel, by decide +kernel⟩, List.mem_of_getElem? (i := 1273) (by decide +kernel), List.mem_of_getElem? (i := 1934) (by decide +kernel), List.mem_of_getElem? (i := 1935) (by decide +kernel)⟩
theorem lw_p141 : lw_okq (⟨"OneWayTownModel", "longestBy", "(III)I"⟩, 69) := ⟨⟨by decide +kernel, by decide +kernel⟩, List.mem_of_getElem? (i := 1273) (by decide +kernel), List.mem_of_getElem? (i := 1942) (by decide +kernel), List.mem_of_getElem? (i := 1943) (by decide +kernel)⟩
theorem lw_p142 : lw_okq (⟨"OneWayTownModel", "layKnown", "(II)Z"⟩, 69) := ⟨⟨by decide +kernel, by decide +kernel⟩, List.mem_of_getElem? (i := 1273) (by decide +kernel), List.mem_of_getElem? (i := 1963) (by decide +kernel), List.mem_of_getElem? (i := 1964) (by decide +kernel)⟩
theorem lw_p143 : lw_okq (⟨"OneWayTownModel", "set", "(III)V"⟩, 69) := ⟨⟨by decide +kernel, by decide +kernel⟩, List.mem_of_getElem? (i := 1273) (by decide +kernel), List.mem_of_getElem? (i := 1967) (by decide +kernel), List.mem_of_getElem? (i := 1968) (by decide +kernel)⟩
def lw_privs_9 : List (MethodName × Nat) := [(⟨"OneWayTownModel", "fold", "(IIZ)I"⟩, 69), (⟨"OneWayTownModel", "isCutOff", "(III)Z"⟩, 69), (⟨"OneWayTownModel", "takeTurns", "(I)V"⟩, 69), (⟨"OneWayTownModel", "partNumber", "(I)I"⟩, 69), (⟨"OneWayTownModel", "layRooted", "()V"⟩, 69), (⟨"OneWayTownModel", "layMarks", "()V"⟩, 69), (⟨"OneWayTownModel", "growsFrom", "(I)V"⟩, 69), (⟨"OneWayTownModel", "joins", "(II)V"⟩, 69), (⟨"OneWayTownModel", "hangAll", "(I)V"⟩, 69), (⟨"OneWayTownModel", "isSo", "(I)Z"⟩, 69), (⟨"OneWayTownModel", "isSoByFar", "()Z"⟩, 69), (⟨"OneWayTownModel", "isSoByFour", "()Z"⟩, 69), (⟨"OneWayTownModel", "byEnds", "()I"⟩, 69), (⟨"OneWayTownModel", "longestBy", "(III)I"⟩, 69), (⟨"OneWayTownModel", "layKnown", "(II)Z"⟩, 69), (⟨"OneWayTownModel", "set", "(III)V"⟩, 69)]
theorem lw_r9 : ∀ q ∈ lw_privs_9, lw_okq q := List.forall_mem_cons.mpr ⟨lw_p128, List.forall_mem_cons.mpr ⟨lw_p129, List.forall_mem_cons.mpr ⟨lw_p130, List.forall_mem_cons.mpr ⟨lw_p131, List.forall_mem_cons.mpr ⟨lw_p132, List.forall_mem_cons.mpr ⟨lw_p133, List.forall_mem_cons.mpr ⟨lw_p134, List.forall_mem_cons.mpr ⟨lw_p135, List.forall_mem_cons.mpr ⟨lw_p136, List.forall_mem_cons.mpr ⟨lw_p137, List.forall_mem_cons.mpr ⟨lw_p138, List.forall_mem_cons.mpr ⟨lw_p139, List.forall_mem_cons.mpr ⟨lw_p140, List.forall_mem_cons.mpr ⟨lw_p141, List.forall_mem_cons.mpr ⟨lw_p142, List.forall_mem_cons.mpr ⟨lw_p143, fun _ h => absurd h List.not_mem_nil⟩⟩⟩⟩⟩⟩⟩⟩⟩⟩⟩⟩⟩⟩⟩⟩
theorem lw_p144 : lw_okq (⟨"OneWayTownModel", "wrongOf", "(I)I"⟩, 69) := ⟨⟨by decide +kernel, by decide +kernel⟩, List.mem_of_getElem? (i := 1273) (by decide +kernel), List.mem_of_getElem? (i := 1971) (by decide +kernel), List.mem_of_getElem? (i := 1972) (by decide +kernel)⟩
theorem lw_p145 : lw_okq (⟨"OneWayTownModel", "isThreeSo", "(III)Z"⟩, 69) := ⟨⟨by decide +kernel, by decide +kernel⟩, List.mem_of_getElem? (i := 1273) (by decide +kernel), List.mem_of_getElem? (i := 1978) (by decide +kernel), List.mem_of_getElem? (i := 1979) (by decide +kernel)⟩
theorem lw_p146 : lw_okq (⟨"OneWayTownModel", "areDoorsSo", "(IIII)Z"⟩, 69) := ⟨⟨by decide +kernel, by decide +kernel⟩, List.mem_of_getElem? (i := 1273) (by decide +kernel), List.mem_of_getElem? (i := 1982) (by decide +kernel), List.mem_of_getElem? (i := 1983) (by decide +kernel)⟩
theorem lw_p147 : lw_okq (⟨"OneWayTownModel", "mendOf", "(III)I"⟩, 69) := ⟨⟨by decide +kernel, by decide +kernel⟩, List.mem_of_getElem? (i := 1273) (by decide +kernel), List.mem_of_getElem? (i := 1990) (by decide +kernel), List.mem_of_getElem? (i := 1991) (by decide +kernel)⟩
def lw_privs_10 : List (MethodName × Nat) := [(⟨"OneWayTownModel", "wrongOf", "(I)I"⟩, 69), (⟨"OneWayTownModel", "isThreeSo", "(III)Z"⟩, 69), (⟨"OneWayTownModel", "areDoorsSo", "(IIII)Z"⟩, 69), (⟨"OneWayTownModel", "mendOf", "(III)I"⟩, 69)]
theorem lw_r10 : ∀ q ∈ lw_privs_10, lw_okq q := List.forall_mem_cons.mpr ⟨lw_p144, List.forall_mem_cons.mpr ⟨lw_p145, List.forall_mem_cons.mpr ⟨lw_p146, List.forall_mem_cons.mpr ⟨lw_p147, fun _ h => absurd h List.not_mem_nil⟩⟩⟩⟩
def lw_privs : List (MethodName × Nat) := lw_privs_1 ++ (lw_privs_2 ++ (lw_privs_3 ++ (lw_privs_4 ++ (lw_privs_5 ++ (lw_privs_6 ++ (lw_privs_7 ++ (lw_privs_8 ++ (lw_privs_9 ++ (lw_privs_10)))))))))
def lw_tbl : List Cond := k2_sels lw_privs ++ tables_1
theorem lw_privs_ok : ∀ q ∈ lw_privs, lw_okq q := by
  show ∀ q ∈ lw_privs_1 ++ (lw_privs_2 ++ (lw_privs_3 ++ (lw_privs_4 ++ (lw_privs_5 ++ (lw_privs_6 ++ (lw_privs_7 ++ (lw_privs_8 ++ (lw_privs_9 ++ (lw_privs_10))))))))), lw_okq q
  exact List.forall_mem_append.mpr ⟨lw_r1, List.forall_mem_append.mpr ⟨lw_r2, List.forall_mem_append.mpr ⟨lw_r3, List.forall_mem_append.mpr ⟨lw_r4, List.forall_mem_append.mpr ⟨lw_r5, List.forall_mem_append.mpr ⟨lw_r6, List.forall_mem_append.mpr ⟨lw_r7, List.forall_mem_append.mpr ⟨lw_r8, List.forall_mem_append.mpr ⟨lw_r9, lw_r10⟩⟩⟩⟩⟩⟩⟩⟩⟩
-- names
def RX0 : String := "OneWayTown$Acts"
def TX0 : u_T := fun k => match k with
  | 0 => ("OneWayTown$Acts", "now", "I", false)
  | 1 => ("OneWayTown$Acts", "last", "I", false)
  | 2 => ("OneWayTown$Acts", "kept", "[LOneWayTown$Town;", true)
  | _ => ("OneWayTown$Acts", "oldest", "I", false)
def tyX0 : Nat → FieldType := fun k => match k with
  | 0 => .int
  | 1 => .int
  | 2 => .array (.object "OneWayTown$Town")
  | _ => .int
abbrev wsX00 : List Cond := u_ws RX0 TX0 4
theorem nmX0 : ∀ a, a < 4 → ∀ b, b < 4 → a ≠ b → (TX0 a).2.1 ≠ (TX0 b).2.1 := by decide +kernel
theorem tyX0_ok : ∀ k, k < 4 → parseFieldDescriptor (TX0 k).2.2.1 = some (tyX0 k) := by decide +kernel
abbrev cX0_init : ByteArray := prog_2_method_1_code
def yX0_init : MethodName := ⟨RX0, "<init>", "()V"⟩
abbrev cX0_start : ByteArray := prog_2_method_2_code
def yX0_start : MethodName := ⟨RX0, "start", "(LOneWayTown$Town;)V"⟩
abbrev cX0_keep : ByteArray := prog_2_method_3_code
def yX0_keep : MethodName := ⟨RX0, "keep", "(LOneWayTown$Town;)V"⟩
abbrev cX0_stepBack : ByteArray := prog_2_method_4_code
def yX0_stepBack : MethodName := ⟨RX0, "stepBack", "(LOneWayTown$Town;)Z"⟩
abbrev cX0_stepOn : ByteArray := prog_2_method_5_code
def yX0_stepOn : MethodName := ⟨RX0, "stepOn", "(LOneWayTown$Town;)Z"⟩
abbrev cX0_current : ByteArray := prog_2_method_6_code
def yX0_current : MethodName := ⟨RX0, "current", "()LOneWayTown$Town;"⟩
def RX1 : String := "OneWayTown$Doors"
def TX1 : u_T := fun k => match k with
  | 0 => ("OneWayTown$Doors", "count", "I", false)
  | 1 => ("OneWayTown$Doors", "time", "I", false)
  | 2 => ("OneWayTown$Doors", "mendedPair", "I", false)
  | 3 => ("OneWayTown$Doors", "mendedTo", "I", false)
  | 4 => ("OneWayTown$Doors", "from", "[I", true)
  | 5 => ("OneWayTown$Doors", "to", "[I", true)
  | 6 => ("OneWayTown$Doors", "value", "[I", true)
  | 7 => ("OneWayTown$Doors", "toldAt", "[I", true)
  | 8 => ("OneWayTown$Doors", "untoldAt", "[I", true)
  | 9 => ("OneWayTown$Doors", "known", "[[I", true)
  | 10 => ("OneWayTown$Doors", "low", "I", false)
  | _ => ("OneWayTown$Doors", "high", "I", false)
def tyX1 : Nat → FieldType := fun k => match k with
  | 0 => .int
  | 1 => .int
  | 2 => .int
  | 3 => .int
  | 4 => .array .int
  | 5 => .array .int
  | 6 => .array .int
  | 7 => .array .int
  | 8 => .array .int
  | 9 => .array (.array .int)
  | 10 => .int
  | _ => .int
abbrev wsX10 : List Cond := u_ws RX1 TX1 12
theorem nmX1 : ∀ a, a < 12 → ∀ b, b < 12 → a ≠ b → (TX1 a).2.1 ≠ (TX1 b).2.1 := by decide +kernel
theorem tyX1_ok : ∀ k, k < 12 → parseFieldDescriptor (TX1 k).2.2.1 = some (tyX1 k) := by decide +kernel
abbrev cX1_init : ByteArray := prog_3_method_1_code
def yX1_init : MethodName := ⟨RX1, "<init>", "()V"⟩
abbrev cX1_tell : ByteArray := prog_3_method_2_code
def yX1_tell : MethodName := ⟨RX1, "tell", "(III)I"⟩
abbrev cX1_isDoor : ByteArray := prog_3_method_3_code
def yX1_isDoor : MethodName := ⟨RX1, "isDoor", "(I)Z"⟩
abbrev cX1_takeBack : ByteArray := prog_3_method_4_code
def yX1_takeBack : MethodName := ⟨RX1, "takeBack", "(I)Z"⟩
abbrev cX1_passTime : ByteArray := prog_3_method_5_code
def yX1_passTime : MethodName := ⟨RX1, "passTime", "(I)I"⟩
abbrev cX1_learn : ByteArray := prog_3_method_6_code
def yX1_learn : MethodName := ⟨RX1, "learn", "(II)Z"⟩
abbrev cX1_isWhole : ByteArray := prog_3_method_7_code
def yX1_isWhole : MethodName := ⟨RX1, "isWhole", "(I)Z"⟩
abbrev cX1_firstWrong : ByteArray := prog_3_method_8_code
def yX1_firstWrong : MethodName := ⟨RX1, "firstWrong", "(I)I"⟩
abbrev cX1_firstWrongWithout : ByteArray := prog_3_method_9_code
def yX1_firstWrongWithout : MethodName := ⟨RX1, "firstWrongWithout", "(III)I"⟩
abbrev cX1_isThreeRight : ByteArray := prog_3_method_10_code
def yX1_isThreeRight : MethodName := ⟨RX1, "isThreeRight", "(I)Z"⟩
abbrev cX1_mend : ByteArray := prog_3_method_11_code
def yX1_mend : MethodName := ⟨RX1, "mend", "(I)Z"⟩
abbrev cX1_canMend : ByteArray := prog_3_method_12_code
def yX1_canMend : MethodName := ⟨RX1, "canMend", "(III)Z"⟩
abbrev cX1_boundByThird : ByteArray := prog_3_method_13_code
def yX1_boundByThird : MethodName := ⟨RX1, "boundByThird", "(III)V"⟩
abbrev cX1_boundByTwo : ByteArray := prog_3_method_14_code
def yX1_boundByTwo : MethodName := ⟨RX1, "boundByTwo", "(IIII)V"⟩
def RX2 : String := "OneWayTown$Fleet"
def TX2 : u_T := fun k => match k with
  | 0 => ("OneWayTown$Fleet", "count", "I", false)
  | 1 => ("OneWayTown$Fleet", "town", "LOneWayTown$Town;", true)
  | 2 => ("OneWayTown$Fleet", "startsAt", "[I", true)
  | 3 => ("OneWayTown$Fleet", "goesTo", "[I", true)
  | 4 => ("OneWayTown$Fleet", "neighbours", "[[I", true)
  | 5 => ("OneWayTown$Fleet", "neighbourCount", "[I", true)
  | 6 => ("OneWayTown$Fleet", "queue", "[I", true)
  | 7 => ("OneWayTown$Fleet", "seen", "[I", true)
  | 8 => ("OneWayTown$Fleet", "filled", "I", false)
  | 9 => ("OneWayTown$Fleet", "goal", "I", false)
  | _ => ("OneWayTown$Fleet", "outcome", "I", false)
def tyX2 : Nat → FieldType := fun k => match k with
  | 0 => .int
  | 1 => .object "OneWayTown$Town"
  | 2 => .array .int
  | 3 => .array .int
  | 4 => .array (.array .int)
  | 5 => .array .int
  | 6 => .array .int
  | 7 => .array .int
  | 8 => .int
  | 9 => .int
  | _ => .int
abbrev wsX20 : List Cond := u_ws RX2 TX2 11
theorem nmX2 : ∀ a, a < 11 → ∀ b, b < 11 → a ≠ b → (TX2 a).2.1 ≠ (TX2 b).2.1 := by decide +kernel
theorem tyX2_ok : ∀ k, k < 11 → parseFieldDescriptor (TX2 k).2.2.1 = some (tyX2 k) := by decide +kernel
abbrev cX2_init : ByteArray := prog_4_method_1_code
def yX2_init : MethodName := ⟨RX2, "<init>", "(LOneWayTown$Town;)V"⟩
abbrev cX2_set : ByteArray := prog_4_method_2_code
def yX2_set : MethodName := ⟨RX2, "set", "(I[I[I)V"⟩
abbrev cX2_forget : ByteArray := prog_4_method_3_code
def yX2_forget : MethodName := ⟨RX2, "forget", "()V"⟩
abbrev cX2_needsHouse : ByteArray := prog_4_method_4_code
def yX2_needsHouse : MethodName := ⟨RX2, "needsHouse", "(I)Z"⟩
abbrev cX2_solve : ByteArray := prog_4_method_5_code
def yX2_solve : MethodName := ⟨RX2, "solve", "()I"⟩
abbrev cX2_firstCart : ByteArray := prog_4_method_6_code
def yX2_firstCart : MethodName := ⟨RX2, "firstCart", "()I"⟩
abbrev cX2_firstHouse : ByteArray := prog_4_method_7_code
def yX2_firstHouse : MethodName := ⟨RX2, "firstHouse", "()I"⟩
abbrev cX2_firstStep : ByteArray := prog_4_method_8_code
def yX2_firstStep : MethodName := ⟨RX2, "firstStep", "()I"⟩
abbrev cX2_search : ByteArray := prog_4_method_9_code
def yX2_search : MethodName := ⟨RX2, "search", "()V"⟩
abbrev cX2_listNeighbours : ByteArray := prog_4_method_10_code
def yX2_listNeighbours : MethodName := ⟨RX2, "listNeighbours", "()V"⟩
abbrev cX2_pack : ByteArray := prog_4_method_11_code
def yX2_pack : MethodName := ⟨RX2, "pack", "([I)I"⟩
abbrev cX2_goOn : ByteArray := prog_4_method_12_code
def yX2_goOn : MethodName := ⟨RX2, "goOn", "(II)V"⟩
abbrev cX2_comeTo : ByteArray := prog_4_method_13_code
def yX2_comeTo : MethodName := ⟨RX2, "comeTo", "(III)V"⟩
def RX3 : String := "OneWayTown$Likeness"
def TX3 : u_T := fun k => match k with
  | 0 => ("OneWayTown$Likeness", "one", "LOneWayTown$Town;", false)
  | 1 => ("OneWayTown$Likeness", "other", "LOneWayTown$Town;", false)
  | 2 => ("OneWayTown$Likeness", "lengths", "Z", false)
  | _ => ("OneWayTown$Likeness", "rooted", "[I", true)
def tyX3 : Nat → FieldType := fun k => match k with
  | 0 => .object "OneWayTown$Town"
  | 1 => .object "OneWayTown$Town"
  | 2 => .boolean
  | _ => .array .int
abbrev wsX30 : List Cond := u_ws RX3 TX3 4
theorem nmX3 : ∀ a, a < 4 → ∀ b, b < 4 → a ≠ b → (TX3 a).2.1 ≠ (TX3 b).2.1 := by decide +kernel
theorem tyX3_ok : ∀ k, k < 4 → parseFieldDescriptor (TX3 k).2.2.1 = some (tyX3 k) := by decide +kernel
abbrev cX3_init : ByteArray := prog_5_method_1_code
def yX3_init : MethodName := ⟨RX3, "<init>", "(LOneWayTown$Town;)V"⟩
abbrev cX3_isLike : ByteArray := prog_5_method_2_code
def yX3_isLike : MethodName := ⟨RX3, "isLike", "(LOneWayTown$Town;LOneWayTown$Town;Z)Z"⟩
abbrev cX3_countSelves : ByteArray := prog_5_method_3_code
def yX3_countSelves : MethodName := ⟨RX3, "countSelves", "(LOneWayTown$Town;Z)J"⟩
abbrev cX3_countLikeRoots : ByteArray := prog_5_method_4_code
def yX3_countLikeRoots : MethodName := ⟨RX3, "countLikeRoots", "()I"⟩
abbrev cX3_countLikeAhead : ByteArray := prog_5_method_5_code
def yX3_countLikeAhead : MethodName := ⟨RX3, "countLikeAhead", "(I)I"⟩
abbrev cX3_isStreetLike : ByteArray := prog_5_method_6_code
def yX3_isStreetLike : MethodName := ⟨RX3, "isStreetLike", "(II)Z"⟩
abbrev cX3_isBranchLike : ByteArray := prog_5_method_7_code
def yX3_isBranchLike : MethodName := ⟨RX3, "isBranchLike", "(IIIII)Z"⟩
abbrev cX3_countUnlike : ByteArray := prog_5_method_8_code
def yX3_countUnlike : MethodName := ⟨RX3, "countUnlike", "(I)I"⟩
abbrev cX3_countRooted : ByteArray := prog_5_method_9_code
def yX3_countRooted : MethodName := ⟨RX3, "countRooted", "(I)V"⟩
abbrev cX3_sumOfDivisors : ByteArray := prog_5_method_10_code
def yX3_sumOfDivisors : MethodName := ⟨RX3, "sumOfDivisors", "(I)I"⟩
def RX4 : String := "OneWayTown$Marks"
def TX4 : u_T := fun k => match k with
  | 0 => ("OneWayTown$Marks", "row", "[I", true)
  | 1 => ("OneWayTown$Marks", "streets", "[I", true)
  | 2 => ("OneWayTown$Marks", "linked", "[I", true)
  | 3 => ("OneWayTown$Marks", "trial", "LOneWayTown$Town;", true)
  | 4 => ("OneWayTown$Marks", "trialWays", "LOneWayTown$Ways;", true)
  | 5 => ("OneWayTown$Marks", "trialSets", "LOneWayTown$Sets;", true)
  | _ => ("OneWayTown$Marks", "known", "[I", true)
def tyX4 : Nat → FieldType := fun k => match k with
  | 0 => .array .int
  | 1 => .array .int
  | 2 => .array .int
  | 3 => .object "OneWayTown$Town"
  | 4 => .object "OneWayTown$Ways"
  | 5 => .object "OneWayTown$Sets"
  | _ => .array .int
abbrev wsX40 : List Cond := u_ws RX4 TX4 7
theorem nmX4 : ∀ a, a < 7 → ∀ b, b < 7 → a ≠ b → (TX4 a).2.1 ≠ (TX4 b).2.1 := by decide +kernel
theorem tyX4_ok : ∀ k, k < 7 → parseFieldDescriptor (TX4 k).2.2.1 = some (tyX4 k) := by decide +kernel
abbrev cX4_init : ByteArray := prog_6_method_1_code
def yX4_init : MethodName := ⟨RX4, "<init>", "()V"⟩
abbrev cX4_tell : ByteArray := prog_6_method_2_code
def yX4_tell : MethodName := ⟨RX4, "tell", "(LOneWayTown$Town;[I)I"⟩
abbrev cX4_firstEnd : ByteArray := prog_6_method_3_code
def yX4_firstEnd : MethodName := ⟨RX4, "firstEnd", "(I)I"⟩
abbrev cX4_lastNeighbour : ByteArray := prog_6_method_4_code
def yX4_lastNeighbour : MethodName := ⟨RX4, "lastNeighbour", "(LOneWayTown$Town;I)I"⟩
abbrev cX4_take : ByteArray := prog_6_method_5_code
def yX4_take : MethodName := ⟨RX4, "take", "(IJ)Z"⟩
abbrev cX4_plant : ByteArray := prog_6_method_6_code
def yX4_plant : MethodName := ⟨RX4, "plant", "(ILOneWayTown$Town;)V"⟩
abbrev cX4_linkFirstEnd : ByteArray := prog_6_method_7_code
def yX4_linkFirstEnd : MethodName := ⟨RX4, "linkFirstEnd", "(II)V"⟩
abbrev cX4_hangAll : ByteArray := prog_6_method_8_code
def yX4_hangAll : MethodName := ⟨RX4, "hangAll", "(ILOneWayTown$Town;)V"⟩
abbrev cX4_hangNext : ByteArray := prog_6_method_9_code
def yX4_hangNext : MethodName := ⟨RX4, "hangNext", "(LOneWayTown$Town;II)I"⟩
abbrev cX4_tryLaw : ByteArray := prog_6_method_10_code
def yX4_tryLaw : MethodName := ⟨RX4, "tryLaw", "(II)I"⟩
abbrev cX4_countBroken : ByteArray := prog_6_method_11_code
def yX4_countBroken : MethodName := ⟨RX4, "countBroken", "(II)I"⟩
abbrev cX4_holds : ByteArray := prog_6_method_12_code
def yX4_holds : MethodName := ⟨RX4, "holds", "(I)Z"⟩
abbrev cX4_isMiddleOneOrTwo : ByteArray := prog_6_method_13_code
def yX4_isMiddleOneOrTwo : MethodName := ⟨RX4, "isMiddleOneOrTwo", "()Z"⟩
abbrev cX4_areAllFoursLike : ByteArray := prog_6_method_14_code
def yX4_areAllFoursLike : MethodName := ⟨RX4, "areAllFoursLike", "()Z"⟩
abbrev cX4_isFourLike : ByteArray := prog_6_method_15_code
def yX4_isFourLike : MethodName := ⟨RX4, "isFourLike", "([[II)Z"⟩
abbrev cX4_wardensByEnds : ByteArray := prog_6_method_16_code
def yX4_wardensByEnds : MethodName := ⟨RX4, "wardensByEnds", "()I"⟩
abbrev cX4_farthestOf : ByteArray := prog_6_method_17_code
def yX4_farthestOf : MethodName := ⟨RX4, "farthestOf", "(I)I"⟩
def RX5 : String := "OneWayTown$Reader"
def TX5 : u_T := fun k => match k with
  | 0 => ("OneWayTown$Reader", "draft", "LOneWayTown$Town;", true)
  | 1 => ("OneWayTown$Reader", "cartAt", "[I", true)
  | 2 => ("OneWayTown$Reader", "cartTo", "[I", true)
  | 3 => ("OneWayTown$Reader", "cartCount", "I", false)
  | 4 => ("OneWayTown$Reader", "blamed", "I", false)
  | 5 => ("OneWayTown$Reader", "blamedPlace", "I", false)
  | 6 => ("OneWayTown$Reader", "tape", "LOneWayTown$Tape;", true)
  | 7 => ("OneWayTown$Reader", "houseNames", "[J", true)
  | 8 => ("OneWayTown$Reader", "cartNames", "[J", true)
  | _ => ("OneWayTown$Reader", "drawn", "Z", false)
def tyX5 : Nat → FieldType := fun k => match k with
  | 0 => .object "OneWayTown$Town"
  | 1 => .array .int
  | 2 => .array .int
  | 3 => .int
  | 4 => .int
  | 5 => .int
  | 6 => .object "OneWayTown$Tape"
  | 7 => .array .long
  | 8 => .array .long
  | _ => .boolean
abbrev wsX50 : List Cond := u_ws RX5 TX5 10
theorem nmX5 : ∀ a, a < 10 → ∀ b, b < 10 → a ≠ b → (TX5 a).2.1 ≠ (TX5 b).2.1 := by decide +kernel
theorem tyX5_ok : ∀ k, k < 10 → parseFieldDescriptor (TX5 k).2.2.1 = some (tyX5 k) := by decide +kernel
abbrev cX5_init : ByteArray := prog_7_method_1_code
def yX5_init : MethodName := ⟨RX5, "<init>", "(LOneWayTown$Tape;)V"⟩
abbrev cX5_read : ByteArray := prog_7_method_2_code
def yX5_read : MethodName := ⟨RX5, "read", "()Z"⟩
abbrev cX5_readHouse : ByteArray := prog_7_method_3_code
def yX5_readHouse : MethodName := ⟨RX5, "readHouse", "()Z"⟩
abbrev cX5_readCart : ByteArray := prog_7_method_4_code
def yX5_readCart : MethodName := ⟨RX5, "readCart", "()Z"⟩
abbrev cX5_readDraw : ByteArray := prog_7_method_5_code
def yX5_readDraw : MethodName := ⟨RX5, "readDraw", "()Z"⟩
abbrev cX5_isNewName : ByteArray := prog_7_method_6_code
def yX5_isNewName : MethodName := ⟨RX5, "isNewName", "([JI)Z"⟩
abbrev cX5_takeToken : ByteArray := prog_7_method_7_code
def yX5_takeToken : MethodName := ⟨RX5, "takeToken", "(I)Z"⟩
abbrev cX5_takeNumber : ByteArray := prog_7_method_8_code
def yX5_takeNumber : MethodName := ⟨RX5, "takeNumber", "(II)I"⟩
abbrev cX5_takeHouse : ByteArray := prog_7_method_9_code
def yX5_takeHouse : MethodName := ⟨RX5, "takeHouse", "()I"⟩
abbrev cX5_takeFreeHouse : ByteArray := prog_7_method_10_code
def yX5_takeFreeHouse : MethodName := ⟨RX5, "takeFreeHouse", "([II)I"⟩
abbrev cX5_knownHouse : ByteArray := prog_7_method_11_code
def yX5_knownHouse : MethodName := ⟨RX5, "knownHouse", "()I"⟩
abbrev cX5_find : ByteArray := prog_7_method_12_code
def yX5_find : MethodName := ⟨RX5, "find", "(J[JI)I"⟩
abbrev cX5_misplaced : ByteArray := prog_7_method_13_code
def yX5_misplaced : MethodName := ⟨RX5, "misplaced", "()Z"⟩
abbrev cX5_blame : ByteArray := prog_7_method_14_code
def yX5_blame : MethodName := ⟨RX5, "blame", "(I)Z"⟩
def RX6 : String := "OneWayTown$Sets"
def TX6 : u_T := fun k => match k with
  | 0 => ("OneWayTown$Sets", "shopMask", "I", false)
  | 1 => ("OneWayTown$Sets", "shopSum", "I", false)
  | 2 => ("OneWayTown$Sets", "town", "LOneWayTown$Town;", true)
  | 3 => ("OneWayTown$Sets", "ways", "LOneWayTown$Ways;", true)
  | 4 => ("OneWayTown$Sets", "choice", "[I", true)
  | 5 => ("OneWayTown$Sets", "weight", "[I", true)
  | 6 => ("OneWayTown$Sets", "with", "[I", true)
  | 7 => ("OneWayTown$Sets", "without", "[I", true)
  | 8 => ("OneWayTown$Sets", "fewest", "[I", true)
  | 9 => ("OneWayTown$Sets", "served", "[[I", true)
  | _ => ("OneWayTown$Sets", "nearest", "[[I", true)
def tyX6 : Nat → FieldType := fun k => match k with
  | 0 => .int
  | 1 => .int
  | 2 => .object "OneWayTown$Town"
  | 3 => .object "OneWayTown$Ways"
  | 4 => .array .int
  | 5 => .array .int
  | 6 => .array .int
  | 7 => .array .int
  | 8 => .array .int
  | 9 => .array (.array .int)
  | _ => .array (.array .int)
abbrev wsX60 : List Cond := u_ws RX6 TX6 11
theorem nmX6 : ∀ a, a < 11 → ∀ b, b < 11 → a ≠ b → (TX6 a).2.1 ≠ (TX6 b).2.1 := by decide +kernel
theorem tyX6_ok : ∀ k, k < 11 → parseFieldDescriptor (TX6 k).2.2.1 = some (tyX6 k) := by decide +kernel
abbrev cX6_init : ByteArray := prog_8_method_1_code
def yX6_init : MethodName := ⟨RX6, "<init>", "(LOneWayTown$Town;LOneWayTown$Ways;)V"⟩
abbrev cX6_wardenMask : ByteArray := prog_8_method_2_code
def yX6_wardenMask : MethodName := ⟨RX6, "wardenMask", "(I)I"⟩
abbrev cX6_leastWardens : ByteArray := prog_8_method_3_code
def yX6_leastWardens : MethodName := ⟨RX6, "leastWardens", "(I)I"⟩
abbrev cX6_leastReach : ByteArray := prog_8_method_4_code
def yX6_leastReach : MethodName := ⟨RX6, "leastReach", "(I)I"⟩
abbrev cX6_freeAll : ByteArray := prog_8_method_5_code
def yX6_freeAll : MethodName := ⟨RX6, "freeAll", "()V"⟩
abbrev cX6_wardensWithChoices : ByteArray := prog_8_method_6_code
def yX6_wardensWithChoices : MethodName := ⟨RX6, "wardensWithChoices", "(I)I"⟩
abbrev cX6_price : ByteArray := prog_8_method_7_code
def yX6_price : MethodName := ⟨RX6, "price", "(I)I"⟩
abbrev cX6_serve : ByteArray := prog_8_method_8_code
def yX6_serve : MethodName := ⟨RX6, "serve", "(II)V"⟩
abbrev cX6_quietMask : ByteArray := prog_8_method_9_code
def yX6_quietMask : MethodName := ⟨RX6, "quietMask", "()I"⟩
abbrev cX6_guardMask : ByteArray := prog_8_method_10_code
def yX6_guardMask : MethodName := ⟨RX6, "guardMask", "()I"⟩
abbrev cX6_apartMask : ByteArray := prog_8_method_11_code
def yX6_apartMask : MethodName := ⟨RX6, "apartMask", "(II)I"⟩
abbrev cX6_heaviestApart : ByteArray := prog_8_method_12_code
def yX6_heaviestApart : MethodName := ⟨RX6, "heaviestApart", "()I"⟩
abbrev cX6_countApart : ByteArray := prog_8_method_13_code
def yX6_countApart : MethodName := ⟨RX6, "countApart", "()I"⟩
abbrev cX6_countTogether : ByteArray := prog_8_method_14_code
def yX6_countTogether : MethodName := ⟨RX6, "countTogether", "()I"⟩
abbrev cX6_countStreetSets : ByteArray := prog_8_method_15_code
def yX6_countStreetSets : MethodName := ⟨RX6, "countStreetSets", "()I"⟩
abbrev cX6_startCount : ByteArray := prog_8_method_16_code
def yX6_startCount : MethodName := ⟨RX6, "startCount", "(I)V"⟩
abbrev cX6_openShops : ByteArray := prog_8_method_17_code
def yX6_openShops : MethodName := ⟨RX6, "openShops", "(I)V"⟩
abbrev cX6_openMore : ByteArray := prog_8_method_18_code
def yX6_openMore : MethodName := ⟨RX6, "openMore", "(IIII)V"⟩
abbrev cX6_sumWith : ByteArray := prog_8_method_19_code
def yX6_sumWith : MethodName := ⟨RX6, "sumWith", "(II)I"⟩
def RX7 : String := "OneWayTown$Tape"
def TX7 : u_T := fun k => match k with
  | 0 => ("OneWayTown$Tape", "size", "I", false)
  | 1 => ("OneWayTown$Tape", "kind", "I", false)
  | 2 => ("OneWayTown$Tape", "place", "I", false)
  | 3 => ("OneWayTown$Tape", "number", "I", false)
  | 4 => ("OneWayTown$Tape", "word", "J", false)
  | 5 => ("OneWayTown$Tape", "bytes", "[B", true)
  | _ => ("OneWayTown$Tape", "spot", "I", false)
def tyX7 : Nat → FieldType := fun k => match k with
  | 0 => .int
  | 1 => .int
  | 2 => .int
  | 3 => .int
  | 4 => .long
  | 5 => .array .byte
  | _ => .int
abbrev wsX70 : List Cond := u_ws RX7 TX7 7
theorem nmX7 : ∀ a, a < 7 → ∀ b, b < 7 → a ≠ b → (TX7 a).2.1 ≠ (TX7 b).2.1 := by decide +kernel
theorem tyX7_ok : ∀ k, k < 7 → parseFieldDescriptor (TX7 k).2.2.1 = some (tyX7 k) := by decide +kernel
abbrev cX7_init : ByteArray := prog_9_method_1_code
def yX7_init : MethodName := ⟨RX7, "<init>", "()V"⟩
abbrev cX7_add : ByteArray := prog_9_method_2_code
def yX7_add : MethodName := ⟨RX7, "add", "(I)V"⟩
abbrev cX7_restart : ByteArray := prog_9_method_3_code
def yX7_restart : MethodName := ⟨RX7, "restart", "()V"⟩
abbrev cX7_step : ByteArray := prog_9_method_4_code
def yX7_step : MethodName := ⟨RX7, "step", "()V"⟩
abbrev cX7_isLetter : ByteArray := prog_9_method_5_code
def yX7_isLetter : MethodName := ⟨RX7, "isLetter", "(I)Z"⟩
abbrev cX7_isDigit : ByteArray := prog_9_method_6_code
def yX7_isDigit : MethodName := ⟨RX7, "isDigit", "(I)Z"⟩
abbrev cX7_readWord : ByteArray := prog_9_method_7_code
def yX7_readWord : MethodName := ⟨RX7, "readWord", "()V"⟩
abbrev cX7_readNumber : ByteArray := prog_9_method_8_code
def yX7_readNumber : MethodName := ⟨RX7, "readNumber", "()V"⟩
abbrev cX7_kindOfWord : ByteArray := prog_9_method_9_code
def yX7_kindOfWord : MethodName := ⟨RX7, "kindOfWord", "()I"⟩
abbrev cX7_spells : ByteArray := prog_9_method_10_code
def yX7_spells : MethodName := ⟨RX7, "spells", "(Ljava/lang/String;)Z"⟩
def RX8 : String := "OneWayTown$Telling"
def TX8 : u_T := fun k => match k with
  | 0 => ("OneWayTown$Telling", "town", "LOneWayTown$Town;", true)
  | _ => ("OneWayTown$Telling", "needs", "[[I", true)
def tyX8 : Nat → FieldType := fun k => match k with
  | 0 => .object "OneWayTown$Town"
  | _ => .array (.array .int)
abbrev wsX80 : List Cond := u_ws RX8 TX8 2
theorem nmX8 : ∀ a, a < 2 → ∀ b, b < 2 → a ≠ b → (TX8 a).2.1 ≠ (TX8 b).2.1 := by decide +kernel
theorem tyX8_ok : ∀ k, k < 2 → parseFieldDescriptor (TX8 k).2.2.1 = some (tyX8 k) := by decide +kernel
abbrev cX8_init : ByteArray := prog_10_method_1_code
def yX8_init : MethodName := ⟨RX8, "<init>", "(LOneWayTown$Town;)V"⟩
abbrev cX8_hoursFrom : ByteArray := prog_10_method_2_code
def yX8_hoursFrom : MethodName := ⟨RX8, "hoursFrom", "(IZ)I"⟩
abbrev cX8_hoursBehind : ByteArray := prog_10_method_3_code
def yX8_hoursBehind : MethodName := ⟨RX8, "hoursBehind", "(IIZI)I"⟩
abbrev cX8_insert : ByteArray := prog_10_method_4_code
def yX8_insert : MethodName := ⟨RX8, "insert", "([III)V"⟩
def RX9 : String := "OneWayTown$Town"
def TX9 : u_T := fun k => match k with
  | 0 => ("OneWayTown$Town", "count", "I", false)
  | 1 => ("OneWayTown$Town", "seed", "I", false)
  | 2 => ("OneWayTown$Town", "hangsAt", "[I", true)
  | 3 => ("OneWayTown$Town", "street", "[I", true)
  | _ => ("OneWayTown$Town", "people", "[I", true)
def tyX9 : Nat → FieldType := fun k => match k with
  | 0 => .int
  | 1 => .int
  | 2 => .array .int
  | 3 => .array .int
  | _ => .array .int
abbrev wsX90 : List Cond := u_ws RX9 TX9 5
theorem nmX9 : ∀ a, a < 5 → ∀ b, b < 5 → a ≠ b → (TX9 a).2.1 ≠ (TX9 b).2.1 := by decide +kernel
theorem tyX9_ok : ∀ k, k < 5 → parseFieldDescriptor (TX9 k).2.2.1 = some (tyX9 k) := by decide +kernel
abbrev cX9_init : ByteArray := prog_11_method_1_code
def yX9_init : MethodName := ⟨RX9, "<init>", "()V"⟩
abbrev cX9_clear : ByteArray := prog_11_method_2_code
def yX9_clear : MethodName := ⟨RX9, "clear", "()V"⟩
abbrev cX9_copy : ByteArray := prog_11_method_3_code
def yX9_copy : MethodName := ⟨RX9, "copy", "(LOneWayTown$Town;)V"⟩
abbrev cX9_has : ByteArray := prog_11_method_4_code
def yX9_has : MethodName := ⟨RX9, "has", "(I)Z"⟩
abbrev cX9_add : ByteArray := prog_11_method_5_code
def yX9_add : MethodName := ⟨RX9, "add", "(III)I"⟩
abbrev cX9_streetBetween : ByteArray := prog_11_method_6_code
def yX9_streetBetween : MethodName := ⟨RX9, "streetBetween", "(II)I"⟩
abbrev cX9_streetsAt : ByteArray := prog_11_method_7_code
def yX9_streetsAt : MethodName := ⟨RX9, "streetsAt", "(I)I"⟩
abbrev cX9_isWithin : ByteArray := prog_11_method_8_code
def yX9_isWithin : MethodName := ⟨RX9, "isWithin", "(II)Z"⟩
abbrev cX9_peopleTogether : ByteArray := prog_11_method_9_code
def yX9_peopleTogether : MethodName := ⟨RX9, "peopleTogether", "()I"⟩
abbrev cX9_lengthTogether : ByteArray := prog_11_method_10_code
def yX9_lengthTogether : MethodName := ⟨RX9, "lengthTogether", "()I"⟩
abbrev cX9_passYear : ByteArray := prog_11_method_11_code
def yX9_passYear : MethodName := ⟨RX9, "passYear", "()V"⟩
abbrev cX9_burn : ByteArray := prog_11_method_12_code
def yX9_burn : MethodName := ⟨RX9, "burn", "()V"⟩
def RX10 : String := "OneWayTown$Ways"
def TX10 : u_T := fun k => match k with
  | 0 => ("OneWayTown$Ways", "order", "[I", true)
  | 1 => ("OneWayTown$Ways", "length", "[[I", true)
  | 2 => ("OneWayTown$Ways", "joinedLongest", "I", false)
  | 3 => ("OneWayTown$Ways", "joinedInner", "I", false)
  | 4 => ("OneWayTown$Ways", "joinedOuter", "I", false)
  | 5 => ("OneWayTown$Ways", "town", "LOneWayTown$Town;", true)
  | 6 => ("OneWayTown$Ways", "behind", "[I", true)
  | 7 => ("OneWayTown$Ways", "quarterRow", "[I", true)
  | _ => ("OneWayTown$Ways", "partFar", "[I", true)
def tyX10 : Nat → FieldType := fun k => match k with
  | 0 => .array .int
  | 1 => .array (.array .int)
  | 2 => .int
  | 3 => .int
  | 4 => .int
  | 5 => .object "OneWayTown$Town"
  | 6 => .array .int
  | 7 => .array .int
  | _ => .array .int
abbrev wsX100 : List Cond := u_ws RX10 TX10 9
theorem nmX10 : ∀ a, a < 9 → ∀ b, b < 9 → a ≠ b → (TX10 a).2.1 ≠ (TX10 b).2.1 := by decide +kernel
theorem tyX10_ok : ∀ k, k < 9 → parseFieldDescriptor (TX10 k).2.2.1 = some (tyX10 k) := by decide +kernel
abbrev cX10_init : ByteArray := prog_12_method_1_code
def yX10_init : MethodName := ⟨RX10, "<init>", "(LOneWayTown$Town;)V"⟩
abbrev cX10_measure : ByteArray := prog_12_method_2_code
def yX10_measure : MethodName := ⟨RX10, "measure", "()V"⟩
abbrev cX10_sortFromFirst : ByteArray := prog_12_method_3_code
def yX10_sortFromFirst : MethodName := ⟨RX10, "sortFromFirst", "()V"⟩
abbrev cX10_walk : ByteArray := prog_12_method_4_code
def yX10_walk : MethodName := ⟨RX10, "walk", "(II[I)I"⟩
abbrev cX10_nextToward : ByteArray := prog_12_method_5_code
def yX10_nextToward : MethodName := ⟨RX10, "nextToward", "(II)I"⟩
abbrev cX10_longestFrom : ByteArray := prog_12_method_6_code
def yX10_longestFrom : MethodName := ⟨RX10, "longestFrom", "(I)I"⟩
abbrev cX10_longest : ByteArray := prog_12_method_7_code
def yX10_longest : MethodName := ⟨RX10, "longest", "()I"⟩
abbrev cX10_leastLongest : ByteArray := prog_12_method_8_code
def yX10_leastLongest : MethodName := ⟨RX10, "leastLongest", "()I"⟩
abbrev cX10_firstFarthest : ByteArray := prog_12_method_9_code
def yX10_firstFarthest : MethodName := ⟨RX10, "firstFarthest", "()I"⟩
abbrev cX10_firstFarFrom : ByteArray := prog_12_method_10_code
def yX10_firstFarFrom : MethodName := ⟨RX10, "firstFarFrom", "(I)I"⟩
abbrev cX10_offMiddle : ByteArray := prog_12_method_11_code
def yX10_offMiddle : MethodName := ⟨RX10, "offMiddle", "(II)I"⟩
abbrev cX10_walkedTo : ByteArray := prog_12_method_12_code
def yX10_walkedTo : MethodName := ⟨RX10, "walkedTo", "(I)I"⟩
abbrev cX10_greatestQuarter : ByteArray := prog_12_method_13_code
def yX10_greatestQuarter : MethodName := ⟨RX10, "greatestQuarter", "(I)I"⟩
abbrev cX10_quartersWithout : ByteArray := prog_12_method_14_code
def yX10_quartersWithout : MethodName := ⟨RX10, "quartersWithout", "(I[I)I"⟩
abbrev cX10_sumBehind : ByteArray := prog_12_method_15_code
def yX10_sumBehind : MethodName := ⟨RX10, "sumBehind", "()V"⟩
abbrev cX10_joinElsewhere : ByteArray := prog_12_method_16_code
def yX10_joinElsewhere : MethodName := ⟨RX10, "joinElsewhere", "(I)V"⟩
abbrev cX10_maskWithin : ByteArray := prog_12_method_17_code
def yX10_maskWithin : MethodName := ⟨RX10, "maskWithin", "(I)I"⟩
abbrev cX10_measureParts : ByteArray := prog_12_method_18_code
def yX10_measureParts : MethodName := ⟨RX10, "measureParts", "(I)I"⟩
def RX11 : String := "OneWayTown"
def TX11 : u_T := fun k => match k with
  | 0 => ("OneWayTown", "tape", "LOneWayTown$Tape;", true)
  | 1 => ("OneWayTown", "reader", "LOneWayTown$Reader;", true)
  | 2 => ("OneWayTown", "present", "LOneWayTown$Town;", true)
  | 3 => ("OneWayTown", "fleet", "LOneWayTown$Fleet;", true)
  | 4 => ("OneWayTown", "acts", "LOneWayTown$Acts;", true)
  | 5 => ("OneWayTown", "ways", "LOneWayTown$Ways;", true)
  | 6 => ("OneWayTown", "telling", "LOneWayTown$Telling;", true)
  | 7 => ("OneWayTown", "sets", "LOneWayTown$Sets;", true)
  | 8 => ("OneWayTown", "likeness", "LOneWayTown$Likeness;", true)
  | 9 => ("OneWayTown", "markRow", "LOneWayTown$Marks;", true)
  | 10 => ("OneWayTown", "doors", "LOneWayTown$Doors;", true)
  | 11 => ("OneWayTown", "boxes", "[LOneWayTown$Town;", true)
  | 12 => ("OneWayTown", "boxFilled", "[Z", true)
  | 13 => ("OneWayTown", "lying", "[I", true)
  | _ => ("OneWayTown", "lyingCount", "I", false)
def tyX11 : Nat → FieldType := fun k => match k with
  | 0 => .object "OneWayTown$Tape"
  | 1 => .object "OneWayTown$Reader"
  | 2 => .object "OneWayTown$Town"
  | 3 => .object "OneWayTown$Fleet"
  | 4 => .object "OneWayTown$Acts"
  | 5 => .object "OneWayTown$Ways"
  | 6 => .object "OneWayTown$Telling"
  | 7 => .object "OneWayTown$Sets"
  | 8 => .object "OneWayTown$Likeness"
  | 9 => .object "OneWayTown$Marks"
  | 10 => .object "OneWayTown$Doors"
  | 11 => .array (.object "OneWayTown$Town")
  | 12 => .array .boolean
  | 13 => .array .int
  | _ => .int
abbrev wsX110 : List Cond := u_ws RX11 TX11 15
theorem nmX11 : ∀ a, a < 15 → ∀ b, b < 15 → a ≠ b → (TX11 a).2.1 ≠ (TX11 b).2.1 := by decide +kernel
theorem tyX11_ok : ∀ k, k < 15 → parseFieldDescriptor (TX11 k).2.2.1 = some (tyX11 k) := by decide +kernel
abbrev cX11_init : ByteArray := prog_1_method_1_code
def yX11_init : MethodName := ⟨RX11, "<init>", "()V"⟩
abbrev cX11_feed : ByteArray := prog_1_method_2_code
def yX11_feed : MethodName := ⟨RX11, "feed", "(IIIII)I"⟩
abbrev cX11_end : ByteArray := prog_1_method_3_code
def yX11_end : MethodName := ⟨RX11, "end", "(I)I"⟩
abbrev cX11_town : ByteArray := prog_1_method_4_code
def yX11_town : MethodName := ⟨RX11, "town", "()I"⟩
abbrev cX11_fault : ByteArray := prog_1_method_5_code
def yX11_fault : MethodName := ⟨RX11, "fault", "(I)I"⟩
abbrev cX11_house : ByteArray := prog_1_method_6_code
def yX11_house : MethodName := ⟨RX11, "house", "(II)I"⟩
abbrev cX11_way : ByteArray := prog_1_method_7_code
def yX11_way : MethodName := ⟨RX11, "way", "(II)I"⟩
abbrev cX11_far : ByteArray := prog_1_method_8_code
def yX11_far : MethodName := ⟨RX11, "far", "(I)I"⟩
abbrev cX11_farthest : ByteArray := prog_1_method_9_code
def yX11_farthest : MethodName := ⟨RX11, "farthest", "(I)I"⟩
abbrev cX11_middle : ByteArray := prog_1_method_10_code
def yX11_middle : MethodName := ⟨RX11, "middle", "(I)I"⟩
abbrev cX11_post : ByteArray := prog_1_method_11_code
def yX11_post : MethodName := ⟨RX11, "post", "(IZ)I"⟩
abbrev cX11_quarters : ByteArray := prog_1_method_12_code
def yX11_quarters : MethodName := ⟨RX11, "quarters", "(I)I"⟩
abbrev cX11_joined : ByteArray := prog_1_method_13_code
def yX11_joined : MethodName := ⟨RX11, "joined", "(II)I"⟩
abbrev cX11_grow : ByteArray := prog_1_method_14_code
def yX11_grow : MethodName := ⟨RX11, "grow", "(III)I"⟩
abbrev cX11_move : ByteArray := prog_1_method_15_code
def yX11_move : MethodName := ⟨RX11, "move", "(II)Z"⟩
abbrev cX11_live : ByteArray := prog_1_method_16_code
def yX11_live : MethodName := ⟨RX11, "live", "(II)I"⟩
abbrev cX11_years : ByteArray := prog_1_method_17_code
def yX11_years : MethodName := ⟨RX11, "years", "(I)I"⟩
abbrev cX11_grown : ByteArray := prog_1_method_18_code
def yX11_grown : MethodName := ⟨RX11, "grown", "(IJ)Z"⟩
abbrev cX11_undo : ByteArray := prog_1_method_19_code
def yX11_undo : MethodName := ⟨RX11, "undo", "()Z"⟩
abbrev cX11_redo : ByteArray := prog_1_method_20_code
def yX11_redo : MethodName := ⟨RX11, "redo", "()Z"⟩
abbrev cX11_image : ByteArray := prog_1_method_21_code
def yX11_image : MethodName := ⟨RX11, "image", "(I)I"⟩
abbrev cX11_back : ByteArray := prog_1_method_22_code
def yX11_back : MethodName := ⟨RX11, "back", "(I)I"⟩
abbrev cX11_wardens : ByteArray := prog_1_method_23_code
def yX11_wardens : MethodName := ⟨RX11, "wardens", "(I)I"⟩
abbrev cX11_quiet : ByteArray := prog_1_method_24_code
def yX11_quiet : MethodName := ⟨RX11, "quiet", "()I"⟩
abbrev cX11_guards : ByteArray := prog_1_method_25_code
def yX11_guards : MethodName := ⟨RX11, "guards", "()I"⟩
abbrev cX11_wells : ByteArray := prog_1_method_26_code
def yX11_wells : MethodName := ⟨RX11, "wells", "(I)I"⟩
abbrev cX11_shops : ByteArray := prog_1_method_27_code
def yX11_shops : MethodName := ⟨RX11, "shops", "(I)I"⟩
abbrev cX11_counted : ByteArray := prog_1_method_28_code
def yX11_counted : MethodName := ⟨RX11, "counted", "(I)I"⟩
abbrev cX11_news : ByteArray := prog_1_method_29_code
def yX11_news : MethodName := ⟨RX11, "news", "(I)I"⟩
abbrev cX11_tidings : ByteArray := prog_1_method_30_code
def yX11_tidings : MethodName := ⟨RX11, "tidings", "(I)I"⟩
abbrev cX11_bestNews : ByteArray := prog_1_method_31_code
def yX11_bestNews : MethodName := ⟨RX11, "bestNews", "()I"⟩
abbrev cX11_carts : ByteArray := prog_1_method_32_code
def yX11_carts : MethodName := ⟨RX11, "carts", "(I)I"⟩
abbrev cX11_alike : ByteArray := prog_1_method_33_code
def yX11_alike : MethodName := ⟨RX11, "alike", "(IZ)I"⟩
abbrev cX11_selves : ByteArray := prog_1_method_34_code
def yX11_selves : MethodName := ⟨RX11, "selves", "(Z)J"⟩
abbrev cX11_unlike : ByteArray := prog_1_method_35_code
def yX11_unlike : MethodName := ⟨RX11, "unlike", "(I)I"⟩
abbrev cX11_marks : ByteArray := prog_1_method_36_code
def yX11_marks : MethodName := ⟨RX11, "marks", "()I"⟩
abbrev cX11_tried : ByteArray := prog_1_method_37_code
def yX11_tried : MethodName := ⟨RX11, "tried", "(II)I"⟩
abbrev cX11_lies : ByteArray := prog_1_method_38_code
def yX11_lies : MethodName := ⟨RX11, "lies", "(I)I"⟩
abbrev cX11_distance : ByteArray := prog_1_method_39_code
def yX11_distance : MethodName := ⟨RX11, "distance", "(III)I"⟩
abbrev cX11_untell : ByteArray := prog_1_method_40_code
def yX11_untell : MethodName := ⟨RX11, "untell", "(I)Z"⟩
abbrev cX11_later : ByteArray := prog_1_method_41_code
def yX11_later : MethodName := ⟨RX11, "later", "(I)I"⟩
abbrev cX11_wrong : ByteArray := prog_1_method_42_code
def yX11_wrong : MethodName := ⟨RX11, "wrong", "(II)I"⟩
abbrev cX11_mended : ByteArray := prog_1_method_43_code
def yX11_mended : MethodName := ⟨RX11, "mended", "(III)I"⟩
abbrev cX11_about : ByteArray := prog_1_method_44_code
def yX11_about : MethodName := ⟨RX11, "about", "(I)I"⟩
abbrev cX11_isFilled : ByteArray := prog_1_method_45_code
def yX11_isFilled : MethodName := ⟨RX11, "isFilled", "(I)Z"⟩
abbrev cX11_keepAct : ByteArray := prog_1_method_46_code
def yX11_keepAct : MethodName := ⟨RX11, "keepAct", "()V"⟩
abbrev cX11_renew : ByteArray := prog_1_method_47_code
def yX11_renew : MethodName := ⟨RX11, "renew", "()V"⟩
abbrev cX11_lay : ByteArray := prog_1_method_48_code
def yX11_lay : MethodName := ⟨RX11, "lay", "(I)V"⟩
def RX12 : String := "OneWayTownModel"
def TX12 : u_T := fun k => match k with
  | 0 => ("OneWayTownModel", "tape", "[B", true)
  | 1 => ("OneWayTownModel", "text", "[B", true)
  | 2 => ("OneWayTownModel", "taped", "I", false)
  | 3 => ("OneWayTownModel", "size", "I", false)
  | 4 => ("OneWayTownModel", "faultKind", "I", false)
  | 5 => ("OneWayTownModel", "faultPlace", "I", false)
  | 6 => ("OneWayTownModel", "at", "I", false)
  | 7 => ("OneWayTownModel", "end", "I", false)
  | 8 => ("OneWayTownModel", "token", "I", false)
  | 9 => ("OneWayTownModel", "number", "I", false)
  | 10 => ("OneWayTownModel", "name", "J", false)
  | 11 => ("OneWayTownModel", "houses", "[I", true)
  | 12 => ("OneWayTownModel", "carts", "[I", true)
  | 13 => ("OneWayTownModel", "draw", "[I", true)
  | 14 => ("OneWayTownModel", "hangs", "[I", true)
  | 15 => ("OneWayTownModel", "street", "[I", true)
  | 16 => ("OneWayTownModel", "lives", "[I", true)
  | 17 => ("OneWayTownModel", "cartAt", "[I", true)
  | 18 => ("OneWayTownModel", "cartTo", "[I", true)
  | 19 => ("OneWayTownModel", "isDraw", "[Z", true)
  | 20 => ("OneWayTownModel", "hName", "[J", true)
  | 21 => ("OneWayTownModel", "cName", "[J", true)
  | 22 => ("OneWayTownModel", "bank", "I", false)
  | 23 => ("OneWayTownModel", "rb", "I", false)
  | 24 => ("OneWayTownModel", "all", "[I", true)
  | 25 => ("OneWayTownModel", "ways", "[I", true)
  | 26 => ("OneWayTownModel", "laidRow", "[I", true)
  | 27 => ("OneWayTownModel", "laid", "I", false)
  | 28 => ("OneWayTownModel", "was", "[I", true)
  | 29 => ("OneWayTownModel", "acts", "I", false)
  | 30 => ("OneWayTownModel", "undone", "I", false)
  | 31 => ("OneWayTownModel", "near", "[I", true)
  | 32 => ("OneWayTownModel", "order", "[I", true)
  | 33 => ("OneWayTownModel", "hours", "[I", true)
  | 34 => ("OneWayTownModel", "front", "[I", true)
  | 35 => ("OneWayTownModel", "told", "[I", true)
  | 36 => ("OneWayTownModel", "queue", "[I", true)
  | 37 => ("OneWayTownModel", "cameFrom", "[I", true)
  | 38 => ("OneWayTownModel", "isMet", "[Z", true)
  | 39 => ("OneWayTownModel", "firstCart", "I", false)
  | 40 => ("OneWayTownModel", "firstTo", "I", false)
  | 41 => ("OneWayTownModel", "partFrom", "[I", true)
  | 42 => ("OneWayTownModel", "partMany", "[I", true)
  | 43 => ("OneWayTownModel", "partRow", "[I", true)
  | 44 => ("OneWayTownModel", "codeOf", "[I", true)
  | 45 => ("OneWayTownModel", "streetsLeft", "[I", true)
  | 46 => ("OneWayTownModel", "level", "[I", true)
  | 47 => ("OneWayTownModel", "sorted", "[I", true)
  | 48 => ("OneWayTownModel", "parts", "I", false)
  | 49 => ("OneWayTownModel", "partsLaid", "I", false)
  | 50 => ("OneWayTownModel", "midOne", "I", false)
  | 51 => ("OneWayTownModel", "midTwo", "I", false)
  | 52 => ("OneWayTownModel", "selvesOf", "J", false)
  | 53 => ("OneWayTownModel", "aside", "[I", true)
  | 54 => ("OneWayTownModel", "rooted", "[J", true)
  | 55 => ("OneWayTownModel", "markRow", "[I", true)
  | 56 => ("OneWayTownModel", "left", "[I", true)
  | 57 => ("OneWayTownModel", "nextTo", "[I", true)
  | 58 => ("OneWayTownModel", "isOff", "[Z", true)
  | 59 => ("OneWayTownModel", "dA", "[I", true)
  | 60 => ("OneWayTownModel", "dB", "[I", true)
  | 61 => ("OneWayTownModel", "dSo", "[I", true)
  | 62 => ("OneWayTownModel", "dTold", "[I", true)
  | 63 => ("OneWayTownModel", "dUntold", "[I", true)
  | 64 => ("OneWayTownModel", "known", "[I", true)
  | 65 => ("OneWayTownModel", "tells", "I", false)
  | 66 => ("OneWayTownModel", "time", "I", false)
  | 67 => ("OneWayTownModel", "boxAll", "[I", true)
  | _ => ("OneWayTownModel", "isBoxed", "[Z", true)
def tyX12 : Nat → FieldType := fun k => match k with
  | 0 => .array .byte
  | 1 => .array .byte
  | 2 => .int
  | 3 => .int
  | 4 => .int
  | 5 => .int
  | 6 => .int
  | 7 => .int
  | 8 => .int
  | 9 => .int
  | 10 => .long
  | 11 => .array .int
  | 12 => .array .int
  | 13 => .array .int
  | 14 => .array .int
  | 15 => .array .int
  | 16 => .array .int
  | 17 => .array .int
  | 18 => .array .int
  | 19 => .array .boolean
  | 20 => .array .long
  | 21 => .array .long
  | 22 => .int
  | 23 => .int
  | 24 => .array .int
  | 25 => .array .int
  | 26 => .array .int
  | 27 => .int
  | 28 => .array .int
  | 29 => .int
  | 30 => .int
  | 31 => .array .int
  | 32 => .array .int
  | 33 => .array .int
  | 34 => .array .int
  | 35 => .array .int
  | 36 => .array .int
  | 37 => .array .int
  | 38 => .array .boolean
  | 39 => .int
  | 40 => .int
  | 41 => .array .int
  | 42 => .array .int
  | 43 => .array .int
  | 44 => .array .int
  | 45 => .array .int
  | 46 => .array .int
  | 47 => .array .int
  | 48 => .int
  | 49 => .int
  | 50 => .int
  | 51 => .int
  | 52 => .long
  | 53 => .array .int
  | 54 => .array .long
  | 55 => .array .int
  | 56 => .array .int
  | 57 => .array .int
  | 58 => .array .boolean
  | 59 => .array .int
  | 60 => .array .int
  | 61 => .array .int
  | 62 => .array .int
  | 63 => .array .int
  | 64 => .array .int
  | 65 => .int
  | 66 => .int
  | 67 => .array .int
  | _ => .array .boolean
abbrev wsX120 : List Cond := u_ws RX12 TX12 69
theorem nmX12 : ∀ a, a < 69 → ∀ b, b < 69 → a ≠ b → (TX12 a).2.1 ≠ (TX12 b).2.1 := by decide +kernel
theorem tyX12_ok : ∀ k, k < 69 → parseFieldDescriptor (TX12 k).2.2.1 = some (tyX12 k) := by decide +kernel
abbrev cX12_init : ByteArray := prog_14_method_1_code
def yX12_init : MethodName := ⟨RX12, "<init>", "()V"⟩
abbrev cX12_sign : ByteArray := prog_14_method_2_code
def yX12_sign : MethodName := ⟨RX12, "sign", "(I)I"⟩
abbrev cX12_isLetter : ByteArray := prog_14_method_3_code
def yX12_isLetter : MethodName := ⟨RX12, "isLetter", "(I)Z"⟩
abbrev cX12_isDigit : ByteArray := prog_14_method_4_code
def yX12_isDigit : MethodName := ⟨RX12, "isDigit", "(I)Z"⟩
abbrev cX12_fails : ByteArray := prog_14_method_5_code
def yX12_fails : MethodName := ⟨RX12, "fails", "(II)V"⟩
abbrev cX12_isGood : ByteArray := prog_14_method_6_code
def yX12_isGood : MethodName := ⟨RX12, "isGood", "()Z"⟩
abbrev cX12_isKept : ByteArray := prog_14_method_7_code
def yX12_isKept : MethodName := ⟨RX12, "isKept", "(J)Z"⟩
abbrev cX12_goOn : ByteArray := prog_14_method_8_code
def yX12_goOn : MethodName := ⟨RX12, "goOn", "()V"⟩
abbrev cX12_isWord : ByteArray := prog_14_method_9_code
def yX12_isWord : MethodName := ⟨RX12, "isWord", "(J)Z"⟩
abbrev cX12_misplaced : ByteArray := prog_14_method_10_code
def yX12_misplaced : MethodName := ⟨RX12, "misplaced", "()V"⟩
abbrev cX12_must : ByteArray := prog_14_method_11_code
def yX12_must : MethodName := ⟨RX12, "must", "(Z)V"⟩
abbrev cX12_numeral : ByteArray := prog_14_method_12_code
def yX12_numeral : MethodName := ⟨RX12, "numeral", "(II)I"⟩
abbrev cX12_after : ByteArray := prog_14_method_13_code
def yX12_after : MethodName := ⟨RX12, "after", "(JII)I"⟩
abbrev cX12_clearBank : ByteArray := prog_14_method_14_code
def yX12_clearBank : MethodName := ⟨RX12, "clearBank", "()V"⟩
abbrev cX12_town : ByteArray := prog_14_method_15_code
def yX12_town : MethodName := ⟨RX12, "town", "()I"⟩
abbrev cX12_isFull : ByteArray := prog_14_method_16_code
def yX12_isFull : MethodName := ⟨RX12, "isFull", "()Z"⟩
abbrev cX12_readLine : ByteArray := prog_14_method_17_code
def yX12_readLine : MethodName := ⟨RX12, "readLine", "()V"⟩
abbrev cX12_here : ByteArray := prog_14_method_18_code
def yX12_here : MethodName := ⟨RX12, "here", "([JII)I"⟩
abbrev cX12_houseHere : ByteArray := prog_14_method_19_code
def yX12_houseHere : MethodName := ⟨RX12, "houseHere", "()I"⟩
abbrev cX12_fresh : ByteArray := prog_14_method_20_code
def yX12_fresh : MethodName := ⟨RX12, "fresh", "(Z)V"⟩
abbrev cX12_known : ByteArray := prog_14_method_21_code
def yX12_known : MethodName := ⟨RX12, "known", "()I"⟩
abbrev cX12_readHouse : ByteArray := prog_14_method_22_code
def yX12_readHouse : MethodName := ⟨RX12, "readHouse", "()V"⟩
abbrev cX12_readCart : ByteArray := prog_14_method_23_code
def yX12_readCart : MethodName := ⟨RX12, "readCart", "()V"⟩
abbrev cX12_fault : ByteArray := prog_14_method_24_code
def yX12_fault : MethodName := ⟨RX12, "fault", "(I)I"⟩
abbrev cX12_isIn : ByteArray := prog_14_method_25_code
def yX12_isIn : MethodName := ⟨RX12, "isIn", "(III)Z"⟩
abbrev cX12_bitsOf : ByteArray := prog_14_method_26_code
def yX12_bitsOf : MethodName := ⟨RX12, "bitsOf", "(I)I"⟩
abbrev cX12_many : ByteArray := prog_14_method_27_code
def yX12_many : MethodName := ⟨RX12, "many", "()I"⟩
abbrev cX12_isHouse : ByteArray := prog_14_method_28_code
def yX12_isHouse : MethodName := ⟨RX12, "isHouse", "(I)Z"⟩
abbrev cX12_hangsAt : ByteArray := prog_14_method_29_code
def yX12_hangsAt : MethodName := ⟨RX12, "hangsAt", "(I)I"⟩
abbrev cX12_streetOf : ByteArray := prog_14_method_30_code
def yX12_streetOf : MethodName := ⟨RX12, "streetOf", "(I)I"⟩
abbrev cX12_peopleOf : ByteArray := prog_14_method_31_code
def yX12_peopleOf : MethodName := ⟨RX12, "peopleOf", "(I)I"⟩
abbrev cX12_lay : ByteArray := prog_14_method_32_code
def yX12_lay : MethodName := ⟨RX12, "lay", "(IIII)V"⟩
abbrev cX12_begin : ByteArray := prog_14_method_33_code
def yX12_begin : MethodName := ⟨RX12, "begin", "()V"⟩
abbrev cX12_areNext : ByteArray := prog_14_method_34_code
def yX12_areNext : MethodName := ⟨RX12, "areNext", "(II)Z"⟩
abbrev cX12_streetsOf : ByteArray := prog_14_method_35_code
def yX12_streetsOf : MethodName := ⟨RX12, "streetsOf", "(I)I"⟩
abbrev cX12_deepOf : ByteArray := prog_14_method_36_code
def yX12_deepOf : MethodName := ⟨RX12, "deepOf", "(I)I"⟩
abbrev cX12_wayOf : ByteArray := prog_14_method_37_code
def yX12_wayOf : MethodName := ⟨RX12, "wayOf", "(II)I"⟩
abbrev cX12_layWays : ByteArray := prog_14_method_38_code
def yX12_layWays : MethodName := ⟨RX12, "layWays", "()V"⟩
abbrev cX12_farOf : ByteArray := prog_14_method_39_code
def yX12_farOf : MethodName := ⟨RX12, "farOf", "(I)I"⟩
abbrev cX12_house : ByteArray := prog_14_method_40_code
def yX12_house : MethodName := ⟨RX12, "house", "(II)I"⟩
abbrev cX12_lies : ByteArray := prog_14_method_41_code
def yX12_lies : MethodName := ⟨RX12, "lies", "(I)I"⟩
abbrev cX12_add : ByteArray := prog_14_method_42_code
def yX12_add : MethodName := ⟨RX12, "add", "(I)V"⟩
abbrev cX12_way : ByteArray := prog_14_method_43_code
def yX12_way : MethodName := ⟨RX12, "way", "(II)I"⟩
abbrev cX12_far : ByteArray := prog_14_method_44_code
def yX12_far : MethodName := ⟨RX12, "far", "(I)I"⟩
abbrev cX12_farthest : ByteArray := prog_14_method_45_code
def yX12_farthest : MethodName := ⟨RX12, "farthest", "(I)I"⟩
abbrev cX12_peopleBehind : ByteArray := prog_14_method_46_code
def yX12_peopleBehind : MethodName := ⟨RX12, "peopleBehind", "(II)I"⟩
abbrev cX12_isBetween : ByteArray := prog_14_method_47_code
def yX12_isBetween : MethodName := ⟨RX12, "isBetween", "(III)Z"⟩
abbrev cX12_worthOf : ByteArray := prog_14_method_48_code
def yX12_worthOf : MethodName := ⟨RX12, "worthOf", "(II)I"⟩
abbrev cX12_middle : ByteArray := prog_14_method_49_code
def yX12_middle : MethodName := ⟨RX12, "middle", "(I)I"⟩
abbrev cX12_streetsTogether : ByteArray := prog_14_method_50_code
def yX12_streetsTogether : MethodName := ⟨RX12, "streetsTogether", "()I"⟩
abbrev cX12_post : ByteArray := prog_14_method_51_code
def yX12_post : MethodName := ⟨RX12, "post", "(IZ)I"⟩
abbrev cX12_quarters : ByteArray := prog_14_method_52_code
def yX12_quarters : MethodName := ⟨RX12, "quarters", "(I)I"⟩
abbrev cX12_keepAct : ByteArray := prog_14_method_53_code
def yX12_keepAct : MethodName := ⟨RX12, "keepAct", "()V"⟩
abbrev cX12_exchange : ByteArray := prog_14_method_54_code
def yX12_exchange : MethodName := ⟨RX12, "exchange", "()V"⟩
abbrev cX12_grows : ByteArray := prog_14_method_55_code
def yX12_grows : MethodName := ⟨RX12, "grows", "(III)V"⟩
abbrev cX12_grow : ByteArray := prog_14_method_56_code
def yX12_grow : MethodName := ⟨RX12, "grow", "(III)I"⟩
abbrev cX12_isBehind : ByteArray := prog_14_method_57_code
def yX12_isBehind : MethodName := ⟨RX12, "isBehind", "(II)Z"⟩
abbrev cX12_move : ByteArray := prog_14_method_58_code
def yX12_move : MethodName := ⟨RX12, "move", "(II)Z"⟩
abbrev cX12_live : ByteArray := prog_14_method_59_code
def yX12_live : MethodName := ⟨RX12, "live", "(II)I"⟩
abbrev cX12_year : ByteArray := prog_14_method_60_code
def yX12_year : MethodName := ⟨RX12, "year", "()V"⟩
abbrev cX12_years : ByteArray := prog_14_method_61_code
def yX12_years : MethodName := ⟨RX12, "years", "(I)I"⟩
abbrev cX12_undo : ByteArray := prog_14_method_62_code
def yX12_undo : MethodName := ⟨RX12, "undo", "()Z"⟩
abbrev cX12_redo : ByteArray := prog_14_method_63_code
def yX12_redo : MethodName := ⟨RX12, "redo", "()Z"⟩
abbrev cX12_isFirst : ByteArray := prog_14_method_64_code
def yX12_isFirst : MethodName := ⟨RX12, "isFirst", "(II)Z"⟩
abbrev cX12_sets : ByteArray := prog_14_method_65_code
def yX12_sets : MethodName := ⟨RX12, "sets", "()I"⟩
abbrev cX12_layNear : ByteArray := prog_14_method_66_code
def yX12_layNear : MethodName := ⟨RX12, "layNear", "(I)V"⟩
abbrev cX12_wardensBy : ByteArray := prog_14_method_67_code
def yX12_wardensBy : MethodName := ⟨RX12, "wardensBy", "(I)I"⟩
abbrev cX12_wardens : ByteArray := prog_14_method_68_code
def yX12_wardens : MethodName := ⟨RX12, "wardens", "(I)I"⟩
abbrev cX12_isApart : ByteArray := prog_14_method_69_code
def yX12_isApart : MethodName := ⟨RX12, "isApart", "(I)Z"⟩
abbrev cX12_peopleIn : ByteArray := prog_14_method_70_code
def yX12_peopleIn : MethodName := ⟨RX12, "peopleIn", "(I)I"⟩
abbrev cX12_quiet : ByteArray := prog_14_method_71_code
def yX12_quiet : MethodName := ⟨RX12, "quiet", "()I"⟩
abbrev cX12_guards : ByteArray := prog_14_method_72_code
def yX12_guards : MethodName := ⟨RX12, "guards", "()I"⟩
abbrev cX12_wells : ByteArray := prog_14_method_73_code
def yX12_wells : MethodName := ⟨RX12, "wells", "(I)I"⟩
abbrev cX12_nextFar : ByteArray := prog_14_method_74_code
def yX12_nextFar : MethodName := ⟨RX12, "nextFar", "(I)I"⟩
abbrev cX12_shopsBy : ByteArray := prog_14_method_75_code
def yX12_shopsBy : MethodName := ⟨RX12, "shopsBy", "(I)I"⟩
abbrev cX12_shops : ByteArray := prog_14_method_76_code
def yX12_shops : MethodName := ⟨RX12, "shops", "(I)I"⟩
abbrev cX12_isWhole : ByteArray := prog_14_method_77_code
def yX12_isWhole : MethodName := ⟨RX12, "isWhole", "(I)Z"⟩
abbrev cX12_areSingle : ByteArray := prog_14_method_78_code
def yX12_areSingle : MethodName := ⟨RX12, "areSingle", "(I)Z"⟩
abbrev cX12_counted : ByteArray := prog_14_method_79_code
def yX12_counted : MethodName := ⟨RX12, "counted", "(I)I"⟩
abbrev cX12_layOrder : ByteArray := prog_14_method_80_code
def yX12_layOrder : MethodName := ⟨RX12, "layOrder", "(I)V"⟩
abbrev cX12_lengthOf : ByteArray := prog_14_method_81_code
def yX12_lengthOf : MethodName := ⟨RX12, "lengthOf", "(II)I"⟩
abbrev cX12_newsFrom : ByteArray := prog_14_method_82_code
def yX12_newsFrom : MethodName := ⟨RX12, "newsFrom", "(IZ)I"⟩
abbrev cX12_news : ByteArray := prog_14_method_83_code
def yX12_news : MethodName := ⟨RX12, "news", "(I)I"⟩
abbrev cX12_tidings : ByteArray := prog_14_method_84_code
def yX12_tidings : MethodName := ⟨RX12, "tidings", "(I)I"⟩
abbrev cX12_bestNews : ByteArray := prog_14_method_85_code
def yX12_bestNews : MethodName := ⟨RX12, "bestNews", "()I"⟩
abbrev cX12_place : ByteArray := prog_14_method_86_code
def yX12_place : MethodName := ⟨RX12, "place", "(II)I"⟩
abbrev cX12_stateOf : ByteArray := prog_14_method_87_code
def yX12_stateOf : MethodName := ⟨RX12, "stateOf", "([I)I"⟩
abbrev cX12_isTaken : ByteArray := prog_14_method_88_code
def yX12_isTaken : MethodName := ⟨RX12, "isTaken", "(II)Z"⟩
abbrev cX12_cartsBack : ByteArray := prog_14_method_89_code
def yX12_cartsBack : MethodName := ⟨RX12, "cartsBack", "()I"⟩
abbrev cX12_layFirst : ByteArray := prog_14_method_90_code
def yX12_layFirst : MethodName := ⟨RX12, "layFirst", "(I)I"⟩
abbrev cX12_carts : ByteArray := prog_14_method_91_code
def yX12_carts : MethodName := ⟨RX12, "carts", "(I)I"⟩
abbrev cX12_layMiddle : ByteArray := prog_14_method_92_code
def yX12_layMiddle : MethodName := ⟨RX12, "layMiddle", "()V"⟩
abbrev cX12_partNumber : ByteArray := prog_14_method_93_code
def yX12_partNumber : MethodName := ⟨RX12, "partNumber", "(I)I"⟩
abbrev cX12_fold : ByteArray := prog_14_method_94_code
def yX12_fold : MethodName := ⟨RX12, "fold", "(IIZ)I"⟩
abbrev cX12_isCutOff : ByteArray := prog_14_method_95_code
def yX12_isCutOff : MethodName := ⟨RX12, "isCutOff", "(III)Z"⟩
abbrev cX12_takeTurns : ByteArray := prog_14_method_96_code
def yX12_takeTurns : MethodName := ⟨RX12, "takeTurns", "(I)V"⟩
abbrev cX12_markOf : ByteArray := prog_14_method_97_code
def yX12_markOf : MethodName := ⟨RX12, "markOf", "(Z)I"⟩
abbrev cX12_alike : ByteArray := prog_14_method_98_code
def yX12_alike : MethodName := ⟨RX12, "alike", "(IZ)I"⟩
abbrev cX12_selves : ByteArray := prog_14_method_99_code
def yX12_selves : MethodName := ⟨RX12, "selves", "(Z)J"⟩
abbrev cX12_layRooted : ByteArray := prog_14_method_100_code
def yX12_layRooted : MethodName := ⟨RX12, "layRooted", "()V"⟩
abbrev cX12_unlike : ByteArray := prog_14_method_101_code
def yX12_unlike : MethodName := ⟨RX12, "unlike", "(I)I"⟩
abbrev cX12_layMarks : ByteArray := prog_14_method_102_code
def yX12_layMarks : MethodName := ⟨RX12, "layMarks", "()V"⟩
abbrev cX12_marks : ByteArray := prog_14_method_103_code
def yX12_marks : MethodName := ⟨RX12, "marks", "()I"⟩
abbrev cX12_growsFrom : ByteArray := prog_14_method_104_code
def yX12_growsFrom : MethodName := ⟨RX12, "growsFrom", "(I)V"⟩
abbrev cX12_joins : ByteArray := prog_14_method_105_code
def yX12_joins : MethodName := ⟨RX12, "joins", "(II)V"⟩
abbrev cX12_hangAll : ByteArray := prog_14_method_106_code
def yX12_hangAll : MethodName := ⟨RX12, "hangAll", "(I)V"⟩
abbrev cX12_grown : ByteArray := prog_14_method_107_code
def yX12_grown : MethodName := ⟨RX12, "grown", "(IJ)Z"⟩
abbrev cX12_isSoByFar : ByteArray := prog_14_method_108_code
def yX12_isSoByFar : MethodName := ⟨RX12, "isSoByFar", "()Z"⟩
abbrev cX12_isFourSo : ByteArray := prog_14_method_109_code
def yX12_isFourSo : MethodName := ⟨RX12, "isFourSo", "(III)Z"⟩
abbrev cX12_isSoByFour : ByteArray := prog_14_method_110_code
def yX12_isSoByFour : MethodName := ⟨RX12, "isSoByFour", "()Z"⟩
abbrev cX12_byEnds : ByteArray := prog_14_method_111_code
def yX12_byEnds : MethodName := ⟨RX12, "byEnds", "()I"⟩
abbrev cX12_isSo : ByteArray := prog_14_method_112_code
def yX12_isSo : MethodName := ⟨RX12, "isSo", "(I)Z"⟩
abbrev cX12_tried : ByteArray := prog_14_method_113_code
def yX12_tried : MethodName := ⟨RX12, "tried", "(II)I"⟩
abbrev cX12_longestBy : ByteArray := prog_14_method_114_code
def yX12_longestBy : MethodName := ⟨RX12, "longestBy", "(III)I"⟩
abbrev cX12_joined : ByteArray := prog_14_method_115_code
def yX12_joined : MethodName := ⟨RX12, "joined", "(II)I"⟩
abbrev cX12_distance : ByteArray := prog_14_method_116_code
def yX12_distance : MethodName := ⟨RX12, "distance", "(III)I"⟩
abbrev cX12_untell : ByteArray := prog_14_method_117_code
def yX12_untell : MethodName := ⟨RX12, "untell", "(I)Z"⟩
abbrev cX12_later : ByteArray := prog_14_method_118_code
def yX12_later : MethodName := ⟨RX12, "later", "(I)I"⟩
abbrev cX12_set : ByteArray := prog_14_method_119_code
def yX12_set : MethodName := ⟨RX12, "set", "(III)V"⟩
abbrev cX12_layKnown : ByteArray := prog_14_method_120_code
def yX12_layKnown : MethodName := ⟨RX12, "layKnown", "(II)Z"⟩
abbrev cX12_isThreeSo : ByteArray := prog_14_method_121_code
def yX12_isThreeSo : MethodName := ⟨RX12, "isThreeSo", "(III)Z"⟩
abbrev cX12_wrongOf : ByteArray := prog_14_method_122_code
def yX12_wrongOf : MethodName := ⟨RX12, "wrongOf", "(I)I"⟩
abbrev cX12_nextDoor : ByteArray := prog_14_method_123_code
def yX12_nextDoor : MethodName := ⟨RX12, "nextDoor", "(II)I"⟩
abbrev cX12_areDoorsSo : ByteArray := prog_14_method_124_code
def yX12_areDoorsSo : MethodName := ⟨RX12, "areDoorsSo", "(IIII)Z"⟩
abbrev cX12_wrong : ByteArray := prog_14_method_125_code
def yX12_wrong : MethodName := ⟨RX12, "wrong", "(II)I"⟩
abbrev cX12_mendOf : ByteArray := prog_14_method_126_code
def yX12_mendOf : MethodName := ⟨RX12, "mendOf", "(III)I"⟩
abbrev cX12_mended : ByteArray := prog_14_method_127_code
def yX12_mended : MethodName := ⟨RX12, "mended", "(III)I"⟩
abbrev cX12_image : ByteArray := prog_14_method_128_code
def yX12_image : MethodName := ⟨RX12, "image", "(I)I"⟩
abbrev cX12_back : ByteArray := prog_14_method_129_code
def yX12_back : MethodName := ⟨RX12, "back", "(I)I"⟩
abbrev cX12_about : ByteArray := prog_14_method_130_code
def yX12_about : MethodName := ⟨RX12, "about", "(I)I"⟩
abbrev cX12_feed : ByteArray := prog_14_method_131_code
def yX12_feed : MethodName := ⟨RX12, "feed", "(IIIII)I"⟩
abbrev cX12_end : ByteArray := prog_14_method_132_code
def yX12_end : MethodName := ⟨RX12, "end", "(I)I"⟩
def RJ6 : String := "java/lang/Integer"
def TJ6 : u_T := fun k => match k with
  | _ => ("", "", "", false)
def tyJ6 : Nat → FieldType := fun k => match k with
  | _ => .int
abbrev wsJ60 : List Cond := u_ws RJ6 TJ6 0
theorem nmJ6 : ∀ a, a < 0 → ∀ b, b < 0 → a ≠ b → (TJ6 a).2.1 ≠ (TJ6 b).2.1 := by decide +kernel
theorem tyJ6_ok : ∀ k, k < 0 → parseFieldDescriptor (TJ6 k).2.2.1 = some (tyJ6 k) := by decide +kernel
abbrev cJ6_numberOfTrailingZeros_0f7a4 : ByteArray := prog_15_method_48_code
def yJ6_numberOfTrailingZeros_0f7a4 : MethodName := ⟨RJ6, "numberOfTrailingZeros", "(I)I"⟩
abbrev cJ6_bitCount_0f7a4 : ByteArray := prog_15_method_49_code
def yJ6_bitCount_0f7a4 : MethodName := ⟨RJ6, "bitCount", "(I)I"⟩
def RJ9 : String := "java/lang/Math"
def TJ9 : u_T := fun k => match k with
  | _ => ("", "", "", false)
def tyJ9 : Nat → FieldType := fun k => match k with
  | _ => .int
abbrev wsJ90 : List Cond := u_ws RJ9 TJ9 0
theorem nmJ9 : ∀ a, a < 0 → ∀ b, b < 0 → a ≠ b → (TJ9 a).2.1 ≠ (TJ9 b).2.1 := by decide +kernel
theorem tyJ9_ok : ∀ k, k < 0 → parseFieldDescriptor (TJ9 k).2.2.1 = some (tyJ9 k) := by decide +kernel
abbrev cJ9_abs_0f7a4 : ByteArray := prog_16_method_59_code
def yJ9_abs_0f7a4 : MethodName := ⟨RJ9, "abs", "(I)I"⟩
abbrev cJ9_max_7cf53 : ByteArray := prog_16_method_65_code
def yJ9_max_7cf53 : MethodName := ⟨RJ9, "max", "(II)I"⟩
abbrev cJ9_min_7cf53 : ByteArray := prog_16_method_69_code
def yJ9_min_7cf53 : MethodName := ⟨RJ9, "min", "(II)I"⟩
def RJ0 : String := "java/lang/String"
def TJ0 : u_T := fun k => match k with
  | _ => ("", "", "", false)
def tyJ0 : Nat → FieldType := fun k => match k with
  | _ => .int
abbrev wsJ00 : List Cond := u_ws RJ0 TJ0 0
theorem nmJ0 : ∀ a, a < 0 → ∀ b, b < 0 → a ≠ b → (TJ0 a).2.1 ≠ (TJ0 b).2.1 := by decide +kernel
theorem tyJ0_ok : ∀ k, k < 0 → parseFieldDescriptor (TJ0 k).2.2.1 = some (tyJ0 k) := by decide +kernel
abbrev cJ0_length_8abf5 : ByteArray := prog_17_method_54_code
def yJ0_length_8abf5 : MethodName := ⟨RJ0, "length", "()I"⟩
abbrev cJ0_charAt_5068e : ByteArray := prog_17_method_56_code
def yJ0_charAt_5068e : MethodName := ⟨RJ0, "charAt", "(I)C"⟩
abbrev cJ0_coder_7d493 : ByteArray := prog_17_method_152_code
def yJ0_coder_7d493 : MethodName := ⟨RJ0, "coder", "()B"⟩
abbrev cJ0_isLatin1_aae02 : ByteArray := prog_17_method_154_code
def yJ0_isLatin1_aae02 : MethodName := ⟨RJ0, "isLatin1", "()Z"⟩
abbrev cJ0_checkIndex_df160 : ByteArray := prog_17_method_155_code
def yJ0_checkIndex_df160 : MethodName := ⟨RJ0, "checkIndex", "(II)V"⟩
def RJ1 : String := "java/lang/StringLatin1"
def TJ1 : u_T := fun k => match k with
  | _ => ("", "", "", false)
def tyJ1 : Nat → FieldType := fun k => match k with
  | _ => .int
abbrev wsJ10 : List Cond := u_ws RJ1 TJ1 0
theorem nmJ1 : ∀ a, a < 0 → ∀ b, b < 0 → a ≠ b → (TJ1 a).2.1 ≠ (TJ1 b).2.1 := by decide +kernel
theorem tyJ1_ok : ∀ k, k < 0 → parseFieldDescriptor (TJ1 k).2.2.1 = some (tyJ1 k) := by decide +kernel
abbrev cJ1_charAt_3b067 : ByteArray := prog_18_method_2_code
def yJ1_charAt_3b067 : MethodName := ⟨RJ1, "charAt", "([BI)C"⟩
def RJ2 : String := "java/lang/StringUTF16"
def TJ2 : u_T := fun k => match k with
  | _ => ("", "", "", false)
def tyJ2 : Nat → FieldType := fun k => match k with
  | _ => .int
abbrev wsJ20 : List Cond := u_ws RJ2 TJ2 0
theorem nmJ2 : ∀ a, a < 0 → ∀ b, b < 0 → a ≠ b → (TJ2 a).2.1 ≠ (TJ2 b).2.1 := by decide +kernel
theorem tyJ2_ok : ∀ k, k < 0 → parseFieldDescriptor (TJ2 k).2.2.1 = some (tyJ2 k) := by decide +kernel
abbrev cJ2_getChar_3b067 : ByteArray := prog_19_method_5_code
def yJ2_getChar_3b067 : MethodName := ⟨RJ2, "getChar", "([BI)C"⟩
abbrev cJ2_length_9d52b : ByteArray := prog_19_method_6_code
def yJ2_length_9d52b : MethodName := ⟨RJ2, "length", "([B)I"⟩
abbrev cJ2_charAt_3b067 : ByteArray := prog_19_method_83_code
def yJ2_charAt_3b067 : MethodName := ⟨RJ2, "charAt", "([BI)C"⟩
abbrev cJ2_checkIndex_2214a : ByteArray := prog_19_method_91_code
def yJ2_checkIndex_2214a : MethodName := ⟨RJ2, "checkIndex", "(I[B)V"⟩
def RJ10 : String := "java/lang/System"
def TJ10 : u_T := fun k => match k with
  | _ => ("", "", "", false)
def tyJ10 : Nat → FieldType := fun k => match k with
  | _ => .int
abbrev wsJ100 : List Cond := u_ws RJ10 TJ10 0
theorem nmJ10 : ∀ a, a < 0 → ∀ b, b < 0 → a ≠ b → (TJ10 a).2.1 ≠ (TJ10 b).2.1 := by decide +kernel
theorem tyJ10_ok : ∀ k, k < 0 → parseFieldDescriptor (TJ10 k).2.2.1 = some (tyJ10 k) := by decide +kernel
def RJ3 : String := "jdk/internal/util/Preconditions"
def TJ3 : u_T := fun k => match k with
  | _ => ("", "", "", false)
def tyJ3 : Nat → FieldType := fun k => match k with
  | _ => .int
abbrev wsJ30 : List Cond := u_ws RJ3 TJ3 0
theorem nmJ3 : ∀ a, a < 0 → ∀ b, b < 0 → a ≠ b → (TJ3 a).2.1 ≠ (TJ3 b).2.1 := by decide +kernel
theorem tyJ3_ok : ∀ k, k < 0 → parseFieldDescriptor (TJ3 k).2.2.1 = some (tyJ3 k) := by decide +kernel
abbrev cJ3_checkIndex_8e157 : ByteArray := prog_21_method_11_code
def yJ3_checkIndex_8e157 : MethodName := ⟨RJ3, "checkIndex", "(IILjava/util/function/BiFunction;)I"⟩
abbrev vwCl : List vw_C := [(RX0, TX0, 4), (RX1, TX1, 12), (RX2, TX2, 11), (RX3, TX3, 4), (RX4, TX4, 7), (RX5, TX5, 10), (RX6, TX6, 11), (RX7, TX7, 7), (RX8, TX8, 2), (RX9, TX9, 5), (RX10, TX10, 9), (RX11, TX11, 15), (RX12, TX12, 69)]
