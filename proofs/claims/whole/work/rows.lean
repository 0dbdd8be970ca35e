section
-- ===== PART A: goes FIRST, ahead of the names: the tables' words, and 'selects' of the private methods out of them =====
/-- a private method of a class that the tables say can be made, by its rows of tables_1 -/
def lw_okq (q : MethodName × Nat) : Prop := (q.1.cls ≠ "java/lang/invoke/MethodHandle" ∧ q.1.cls ≠ "java/lang/invoke/VarHandle") ∧ Cond.instantiable q.1.cls q.2 ∈ tables_1 ∧ Cond.privateMethod q.1 ∈ tables_1 ∧ Cond.instanceMethod q.1 ∈ tables_1
theorem lw_p0 : lw_okq (⟨"BarnSummers", "isNoCart", "(I)Z"⟩, 11) := ⟨⟨by decide +kernel, by decide +kernel⟩, List.mem_of_getElem? (i := 13) (by decide +kernel), List.mem_of_getElem? (i := 262) (by decide +kernel), List.mem_of_getElem? (i := 263) (by decide +kernel)⟩
theorem lw_p1 : lw_okq (⟨"BarnSummers", "isNoBay", "(I)Z"⟩, 11) := ⟨⟨by decide +kernel, by decide +kernel⟩, List.mem_of_getElem? (i := 13) (by decide +kernel), List.mem_of_getElem? (i := 353) (by decide +kernel), List.mem_of_getElem? (i := 354) (by decide +kernel)⟩
theorem lw_p2 : lw_okq (⟨"BarnSummers", "isNoBarn", "()Z"⟩, 11) := ⟨⟨by decide +kernel, by decide +kernel⟩, List.mem_of_getElem? (i := 13) (by decide +kernel), List.mem_of_getElem? (i := 417) (by decide +kernel), List.mem_of_getElem? (i := 418) (by decide +kernel)⟩
theorem lw_p3 : lw_okq (⟨"BarnSummersModel", "faultOf", "()I"⟩, 39) := ⟨⟨by decide +kernel, by decide +kernel⟩, List.mem_of_getElem? (i := 584) (by decide +kernel), List.mem_of_getElem? (i := 724) (by decide +kernel), List.mem_of_getElem? (i := 725) (by decide +kernel)⟩
theorem lw_p4 : lw_okq (⟨"BarnSummersModel", "isGood", "(II)Z"⟩, 39) := ⟨⟨by decide +kernel, by decide +kernel⟩, List.mem_of_getElem? (i := 584) (by decide +kernel), List.mem_of_getElem? (i := 728) (by decide +kernel), List.mem_of_getElem? (i := 729) (by decide +kernel)⟩
theorem lw_p5 : lw_okq (⟨"BarnSummersModel", "isCart", "(I)Z"⟩, 39) := ⟨⟨by decide +kernel, by decide +kernel⟩, List.mem_of_getElem? (i := 584) (by decide +kernel), List.mem_of_getElem? (i := 746) (by decide +kernel), List.mem_of_getElem? (i := 747) (by decide +kernel)⟩
theorem lw_p6 : lw_okq (⟨"BarnSummersModel", "tellCart", "(II)I"⟩, 39) := ⟨⟨by decide +kernel, by decide +kernel⟩, List.mem_of_getElem? (i := 584) (by decide +kernel), List.mem_of_getElem? (i := 750) (by decide +kernel), List.mem_of_getElem? (i := 751) (by decide +kernel)⟩
theorem lw_p7 : lw_okq (⟨"BarnSummersModel", "begin", "()V"⟩, 39) := ⟨⟨by decide +kernel, by decide +kernel⟩, List.mem_of_getElem? (i := 584) (by decide +kernel), List.mem_of_getElem? (i := 754) (by decide +kernel), List.mem_of_getElem? (i := 755) (by decide +kernel)⟩
theorem lw_p8 : lw_okq (⟨"BarnSummersModel", "onIt", "(IZ)I"⟩, 39) := ⟨⟨by decide +kernel, by decide +kernel⟩, List.mem_of_getElem? (i := 584) (by decide +kernel), List.mem_of_getElem? (i := 766) (by decide +kernel), List.mem_of_getElem? (i := 767) (by decide +kernel)⟩
theorem lw_p9 : lw_okq (⟨"BarnSummersModel", "placeOf", "(I)I"⟩, 39) := ⟨⟨by decide +kernel, by decide +kernel⟩, List.mem_of_getElem? (i := 584) (by decide +kernel), List.mem_of_getElem? (i := 770) (by decide +kernel), List.mem_of_getElem? (i := 771) (by decide +kernel)⟩
theorem lw_p10 : lw_okq (⟨"BarnSummersModel", "warmsBy", "(I)I"⟩, 39) := ⟨⟨by decide +kernel, by decide +kernel⟩, List.mem_of_getElem? (i := 584) (by decide +kernel), List.mem_of_getElem? (i := 774) (by decide +kernel), List.mem_of_getElem? (i := 775) (by decide +kernel)⟩
theorem lw_p11 : lw_okq (⟨"BarnSummersModel", "wetsOf", "(I)I"⟩, 39) := ⟨⟨by decide +kernel, by decide +kernel⟩, List.mem_of_getElem? (i := 584) (by decide +kernel), List.mem_of_getElem? (i := 778) (by decide +kernel), List.mem_of_getElem? (i := 779) (by decide +kernel)⟩
theorem lw_p12 : lw_okq (⟨"BarnSummersModel", "layWays", "(I)V"⟩, 39) := ⟨⟨by decide +kernel, by decide +kernel⟩, List.mem_of_getElem? (i := 584) (by decide +kernel), List.mem_of_getElem? (i := 782) (by decide +kernel), List.mem_of_getElem? (i := 783) (by decide +kernel)⟩
theorem lw_p13 : lw_okq (⟨"BarnSummersModel", "warmAll", "()V"⟩, 39) := ⟨⟨by decide +kernel, by decide +kernel⟩, List.mem_of_getElem? (i := 584) (by decide +kernel), List.mem_of_getElem? (i := 786) (by decide +kernel), List.mem_of_getElem? (i := 787) (by decide +kernel)⟩
theorem lw_p14 : lw_okq (⟨"BarnSummersModel", "dryTops", "()V"⟩, 39) := ⟨⟨by decide +kernel, by decide +kernel⟩, List.mem_of_getElem? (i := 584) (by decide +kernel), List.mem_of_getElem? (i := 790) (by decide +kernel), List.mem_of_getElem? (i := 791) (by decide +kernel)⟩
theorem lw_p15 : lw_okq (⟨"BarnSummersModel", "topOf", "(I)I"⟩, 39) := ⟨⟨by decide +kernel, by decide +kernel⟩, List.mem_of_getElem? (i := 584) (by decide +kernel), List.mem_of_getElem? (i := 794) (by decide +kernel), List.mem_of_getElem? (i := 795) (by decide +kernel)⟩
def lw_privs_1 : List (MethodName × Nat) := [(⟨"BarnSummers", "isNoCart", "(I)Z"⟩, 11), (⟨"BarnSummers", "isNoBay", "(I)Z"⟩, 11), (⟨"BarnSummers", "isNoBarn", "()Z"⟩, 11), (⟨"BarnSummersModel", "faultOf", "()I"⟩, 39), (⟨"BarnSummersModel", "isGood", "(II)Z"⟩, 39), (⟨"BarnSummersModel", "isCart", "(I)Z"⟩, 39), (⟨"BarnSummersModel", "tellCart", "(II)I"⟩, 39), (⟨"BarnSummersModel", "begin", "()V"⟩, 39), (⟨"BarnSummersModel", "onIt", "(IZ)I"⟩, 39), (⟨"BarnSummersModel", "placeOf", "(I)I"⟩, 39), (⟨"BarnSummersModel", "warmsBy", "(I)I"⟩, 39), (⟨"BarnSummersModel", "wetsOf", "(I)I"⟩, 39), (⟨"BarnSummersModel", "layWays", "(I)V"⟩, 39), (⟨"BarnSummersModel", "warmAll", "()V"⟩, 39), (⟨"BarnSummersModel", "dryTops", "()V"⟩, 39), (⟨"BarnSummersModel", "topOf", "(I)I"⟩, 39)]
theorem lw_r1 : ∀ q ∈ lw_privs_1, lw_okq q := List.forall_mem_cons.mpr ⟨lw_p0, List.forall_mem_cons.mpr ⟨lw_p1, List.forall_mem_cons.mpr ⟨lw_p2, List.forall_mem_cons.mpr ⟨lw_p3, List.forall_mem_cons.mpr ⟨lw_p4, List.forall_mem_cons.mpr ⟨lw_p5, List.forall_mem_cons.mpr ⟨lw_p6, List.forall_mem_cons.mpr ⟨lw_p7, List.forall_mem_cons.mpr ⟨lw_p8, List.forall_mem_cons.mpr ⟨lw_p9, List.forall_mem_cons.mpr ⟨lw_p10, List.forall_mem_cons.mpr ⟨lw_p11, List.forall_mem_cons.mpr ⟨lw_p12, List.forall_mem_cons.mpr ⟨lw_p13, List.forall_mem_cons.mpr ⟨lw_p14, List.forall_mem_cons.mpr ⟨lw_p15, fun _ h => absurd h List.not_mem_nil⟩⟩⟩⟩⟩⟩⟩⟩⟩⟩⟩⟩⟩⟩⟩⟩
theorem lw_p16 : lw_okq (⟨"BarnSummersModel", "dry", "(I)V"⟩, 39) := ⟨⟨by decide +kernel, by decide +kernel⟩, List.mem_of_getElem? (i := 584) (by decide +kernel), List.mem_of_getElem? (i := 798) (by decide +kernel), List.mem_of_getElem? (i := 799) (by decide +kernel)⟩
theorem lw_p17 : lw_okq (⟨"BarnSummersModel", "wetsLaid", "(I)I"⟩, 39) := ⟨⟨by decide +kernel, by decide +kernel⟩, List.mem_of_getElem? (i := 584) (by decide +kernel), List.mem_of_getElem? (i := 802) (by decide +kernel), List.mem_of_getElem? (i := 803) (by decide +kernel)⟩
theorem lw_p18 : lw_okq (⟨"BarnSummersModel", "feelOf", "(I)I"⟩, 39) := ⟨⟨by decide +kernel, by decide +kernel⟩, List.mem_of_getElem? (i := 584) (by decide +kernel), List.mem_of_getElem? (i := 806) (by decide +kernel), List.mem_of_getElem? (i := 807) (by decide +kernel)⟩
theorem lw_p19 : lw_okq (⟨"BarnSummersModel", "isBay", "(I)Z"⟩, 39) := ⟨⟨by decide +kernel, by decide +kernel⟩, List.mem_of_getElem? (i := 584) (by decide +kernel), List.mem_of_getElem? (i := 819) (by decide +kernel), List.mem_of_getElem? (i := 820) (by decide +kernel)⟩
theorem lw_p20 : lw_okq (⟨"BarnSummersModel", "tellBay", "(II)I"⟩, 39) := ⟨⟨by decide +kernel, by decide +kernel⟩, List.mem_of_getElem? (i := 584) (by decide +kernel), List.mem_of_getElem? (i := 823) (by decide +kernel), List.mem_of_getElem? (i := 824) (by decide +kernel)⟩
theorem lw_p21 : lw_okq (⟨"BarnSummersModel", "thereAt", "(II)I"⟩, 39) := ⟨⟨by decide +kernel, by decide +kernel⟩, List.mem_of_getElem? (i := 584) (by decide +kernel), List.mem_of_getElem? (i := 827) (by decide +kernel), List.mem_of_getElem? (i := 828) (by decide +kernel)⟩
theorem lw_p22 : lw_okq (⟨"BarnSummersModel", "thereMany", "(I)I"⟩, 39) := ⟨⟨by decide +kernel, by decide +kernel⟩, List.mem_of_getElem? (i := 584) (by decide +kernel), List.mem_of_getElem? (i := 831) (by decide +kernel), List.mem_of_getElem? (i := 832) (by decide +kernel)⟩
theorem lw_p23 : lw_okq (⟨"BarnSummersModel", "lightIn", "(I)I"⟩, 39) := ⟨⟨by decide +kernel, by decide +kernel⟩, List.mem_of_getElem? (i := 584) (by decide +kernel), List.mem_of_getElem? (i := 835) (by decide +kernel), List.mem_of_getElem? (i := 836) (by decide +kernel)⟩
theorem lw_p24 : lw_okq (⟨"BarnSummersModel", "safeOf", "(I)I"⟩, 39) := ⟨⟨by decide +kernel, by decide +kernel⟩, List.mem_of_getElem? (i := 584) (by decide +kernel), List.mem_of_getElem? (i := 839) (by decide +kernel), List.mem_of_getElem? (i := 840) (by decide +kernel)⟩
theorem lw_p25 : lw_okq (⟨"BarnSummersModel", "lightOfSet", "(II)I"⟩, 39) := ⟨⟨by decide +kernel, by decide +kernel⟩, List.mem_of_getElem? (i := 584) (by decide +kernel), List.mem_of_getElem? (i := 843) (by decide +kernel), List.mem_of_getElem? (i := 844) (by decide +kernel)⟩
theorem lw_p26 : lw_okq (⟨"BarnSummersModel", "isSafe", "(II)Z"⟩, 39) := ⟨⟨by decide +kernel, by decide +kernel⟩, List.mem_of_getElem? (i := 584) (by decide +kernel), List.mem_of_getElem? (i := 847) (by decide +kernel), List.mem_of_getElem? (i := 848) (by decide +kernel)⟩
theorem lw_p27 : lw_okq (⟨"BarnSummersModel", "goes", "(I)V"⟩, 39) := ⟨⟨by decide +kernel, by decide +kernel⟩, List.mem_of_getElem? (i := 584) (by decide +kernel), List.mem_of_getElem? (i := 851) (by decide +kernel), List.mem_of_getElem? (i := 852) (by decide +kernel)⟩
theorem lw_p28 : lw_okq (⟨"BarnSummersModel", "dayThen", "()I"⟩, 39) := ⟨⟨by decide +kernel, by decide +kernel⟩, List.mem_of_getElem? (i := 584) (by decide +kernel), List.mem_of_getElem? (i := 855) (by decide +kernel), List.mem_of_getElem? (i := 856) (by decide +kernel)⟩
theorem lw_p29 : lw_okq (⟨"BarnSummersModel", "hasLight", "(I)Z"⟩, 39) := ⟨⟨by decide +kernel, by decide +kernel⟩, List.mem_of_getElem? (i := 584) (by decide +kernel), List.mem_of_getElem? (i := 864) (by decide +kernel), List.mem_of_getElem? (i := 865) (by decide +kernel)⟩
theorem lw_p30 : lw_okq (⟨"BarnSummersModel", "cutThen", "(II)I"⟩, 39) := ⟨⟨by decide +kernel, by decide +kernel⟩, List.mem_of_getElem? (i := 584) (by decide +kernel), List.mem_of_getElem? (i := 868) (by decide +kernel), List.mem_of_getElem? (i := 869) (by decide +kernel)⟩
theorem lw_p31 : lw_okq (⟨"BarnSummersModel", "takeThen", "()V"⟩, 39) := ⟨⟨by decide +kernel, by decide +kernel⟩, List.mem_of_getElem? (i := 584) (by decide +kernel), List.mem_of_getElem? (i := 872) (by decide +kernel), List.mem_of_getElem? (i := 873) (by decide +kernel)⟩
def lw_privs_2 : List (MethodName × Nat) := [(⟨"BarnSummersModel", "dry", "(I)V"⟩, 39), (⟨"BarnSummersModel", "wetsLaid", "(I)I"⟩, 39), (⟨"BarnSummersModel", "feelOf", "(I)I"⟩, 39), (⟨"BarnSummersModel", "isBay", "(I)Z"⟩, 39), (⟨"BarnSummersModel", "tellBay", "(II)I"⟩, 39), (⟨"BarnSummersModel", "thereAt", "(II)I"⟩, 39), (⟨"BarnSummersModel", "thereMany", "(I)I"⟩, 39), (⟨"BarnSummersModel", "lightIn", "(I)I"⟩, 39), (⟨"BarnSummersModel", "safeOf", "(I)I"⟩, 39), (⟨"BarnSummersModel", "lightOfSet", "(II)I"⟩, 39), (⟨"BarnSummersModel", "isSafe", "(II)Z"⟩, 39), (⟨"BarnSummersModel", "goes", "(I)V"⟩, 39), (⟨"BarnSummersModel", "dayThen", "()I"⟩, 39), (⟨"BarnSummersModel", "hasLight", "(I)Z"⟩, 39), (⟨"BarnSummersModel", "cutThen", "(II)I"⟩, 39), (⟨"BarnSummersModel", "takeThen", "()V"⟩, 39)]
theorem lw_r2 : ∀ q ∈ lw_privs_2, lw_okq q := List.forall_mem_cons.mpr ⟨lw_p16, List.forall_mem_cons.mpr ⟨lw_p17, List.forall_mem_cons.mpr ⟨lw_p18, List.forall_mem_cons.mpr ⟨lw_p19, List.forall_mem_cons.mpr ⟨lw_p20, List.forall_mem_cons.mpr ⟨lw_p21, List.forall_mem_cons.mpr ⟨lw_p22, List.forall_mem_cons.mpr ⟨lw_p23, List.forall_mem_cons.mpr ⟨lw_p24, List.forall_mem_cons.mpr ⟨lw_p25, List.forall_mem_cons.mpr ⟨lw_p26, List.forall_mem_cons.mpr ⟨lw_p27, List.forall_mem_cons.mpr ⟨lw_p28, List.forall_mem_cons.mpr ⟨lw_p29, List.forall_mem_cons.mpr ⟨lw_p30, List.forall_mem_cons.mpr ⟨lw_p31, fun _ h => absurd h List.not_mem_nil⟩⟩⟩⟩⟩⟩⟩⟩⟩⟩⟩⟩⟩⟩⟩⟩
theorem lw_p32 : lw_okq (⟨"BarnSummersModel", "lacks", "()Z"⟩, 39) := ⟨⟨by decide +kernel, by decide +kernel⟩, List.mem_of_getElem? (i := 584) (by decide +kernel), List.mem_of_getElem? (i := 880) (by decide +kernel), List.mem_of_getElem? (i := 881) (by decide +kernel)⟩
theorem lw_p33 : lw_okq (⟨"BarnSummersModel", "lastsOf", "(I)I"⟩, 39) := ⟨⟨by decide +kernel, by decide +kernel⟩, List.mem_of_getElem? (i := 584) (by decide +kernel), List.mem_of_getElem? (i := 898) (by decide +kernel), List.mem_of_getElem? (i := 899) (by decide +kernel)⟩
theorem lw_p34 : lw_okq (⟨"BarnSummersModel", "leastTop", "()I"⟩, 39) := ⟨⟨by decide +kernel, by decide +kernel⟩, List.mem_of_getElem? (i := 584) (by decide +kernel), List.mem_of_getElem? (i := 902) (by decide +kernel), List.mem_of_getElem? (i := 903) (by decide +kernel)⟩
theorem lw_p35 : lw_okq (⟨"BarnSummersModel", "planOf", "(II)I"⟩, 39) := ⟨⟨by decide +kernel, by decide +kernel⟩, List.mem_of_getElem? (i := 584) (by decide +kernel), List.mem_of_getElem? (i := 911) (by decide +kernel), List.mem_of_getElem? (i := 912) (by decide +kernel)⟩
theorem lw_p36 : lw_okq (⟨"BarnSummersModel", "worthOf", "(II)I"⟩, 39) := ⟨⟨by decide +kernel, by decide +kernel⟩, List.mem_of_getElem? (i := 584) (by decide +kernel), List.mem_of_getElem? (i := 915) (by decide +kernel), List.mem_of_getElem? (i := 916) (by decide +kernel)⟩
theorem lw_p37 : lw_okq (⟨"BarnSummersModel", "lightAll", "()I"⟩, 39) := ⟨⟨by decide +kernel, by decide +kernel⟩, List.mem_of_getElem? (i := 584) (by decide +kernel), List.mem_of_getElem? (i := 919) (by decide +kernel), List.mem_of_getElem? (i := 920) (by decide +kernel)⟩
theorem lw_p38 : lw_okq (⟨"BarnSummersModel", "chosenAt", "(III)I"⟩, 39) := ⟨⟨by decide +kernel, by decide +kernel⟩, List.mem_of_getElem? (i := 584) (by decide +kernel), List.mem_of_getElem? (i := 923) (by decide +kernel), List.mem_of_getElem? (i := 924) (by decide +kernel)⟩
theorem lw_p39 : lw_okq (⟨"BarnSummersModel", "shareOf", "(I)I"⟩, 39) := ⟨⟨by decide +kernel, by decide +kernel⟩, List.mem_of_getElem? (i := 584) (by decide +kernel), List.mem_of_getElem? (i := 932) (by decide +kernel), List.mem_of_getElem? (i := 933) (by decide +kernel)⟩
theorem lw_p40 : lw_okq (⟨"BarnSummersModel", "burntOf", "(I)I"⟩, 39) := ⟨⟨by decide +kernel, by decide +kernel⟩, List.mem_of_getElem? (i := 584) (by decide +kernel), List.mem_of_getElem? (i := 941) (by decide +kernel), List.mem_of_getElem? (i := 942) (by decide +kernel)⟩
theorem lw_p41 : lw_okq (⟨"BarnSummersModel", "draw", "(I)I"⟩, 39) := ⟨⟨by decide +kernel, by decide +kernel⟩, List.mem_of_getElem? (i := 584) (by decide +kernel), List.mem_of_getElem? (i := 959) (by decide +kernel), List.mem_of_getElem? (i := 960) (by decide +kernel)⟩
theorem lw_p42 : lw_okq (⟨"BarnSummersModel", "countOf", "(I)I"⟩, 39) := ⟨⟨by decide +kernel, by decide +kernel⟩, List.mem_of_getElem? (i := 584) (by decide +kernel), List.mem_of_getElem? (i := 979) (by decide +kernel), List.mem_of_getElem? (i := 980) (by decide +kernel)⟩
theorem lw_p43 : lw_okq (⟨"BarnSummersModel", "there", "()I"⟩, 39) := ⟨⟨by decide +kernel, by decide +kernel⟩, List.mem_of_getElem? (i := 584) (by decide +kernel), List.mem_of_getElem? (i := 983) (by decide +kernel), List.mem_of_getElem? (i := 984) (by decide +kernel)⟩
theorem lw_p44 : lw_okq (⟨"BarnSummersModel", "sumOf", "([I)I"⟩, 39) := ⟨⟨by decide +kernel, by decide +kernel⟩, List.mem_of_getElem? (i := 584) (by decide +kernel), List.mem_of_getElem? (i := 987) (by decide +kernel), List.mem_of_getElem? (i := 988) (by decide +kernel)⟩
theorem lw_p45 : lw_okq (⟨"BarnSummersModel", "warmest", "()I"⟩, 39) := ⟨⟨by decide +kernel, by decide +kernel⟩, List.mem_of_getElem? (i := 584) (by decide +kernel), List.mem_of_getElem? (i := 991) (by decide +kernel), List.mem_of_getElem? (i := 992) (by decide +kernel)⟩
theorem lw_p46 : lw_okq (⟨"BarnSummersModel", "say", "(J)V"⟩, 39) := ⟨⟨by decide +kernel, by decide +kernel⟩, List.mem_of_getElem? (i := 584) (by decide +kernel), List.mem_of_getElem? (i := 1000) (by decide +kernel), List.mem_of_getElem? (i := 1001) (by decide +kernel)⟩
theorem lw_p47 : lw_okq (⟨"BarnSummersModel", "sayBarn", "()V"⟩, 39) := ⟨⟨by decide +kernel, by decide +kernel⟩, List.mem_of_getElem? (i := 584) (by decide +kernel), List.mem_of_getElem? (i := 1005) (by decide +kernel), List.mem_of_getElem? (i := 1006) (by decide +kernel)⟩
def lw_privs_3 : List (MethodName × Nat) := [(⟨"BarnSummersModel", "lacks", "()Z"⟩, 39), (⟨"BarnSummersModel", "lastsOf", "(I)I"⟩, 39), (⟨"BarnSummersModel", "leastTop", "()I"⟩, 39), (⟨"BarnSummersModel", "planOf", "(II)I"⟩, 39), (⟨"BarnSummersModel", "worthOf", "(II)I"⟩, 39), (⟨"BarnSummersModel", "lightAll", "()I"⟩, 39), (⟨"BarnSummersModel", "chosenAt", "(III)I"⟩, 39), (⟨"BarnSummersModel", "shareOf", "(I)I"⟩, 39), (⟨"BarnSummersModel", "burntOf", "(I)I"⟩, 39), (⟨"BarnSummersModel", "draw", "(I)I"⟩, 39), (⟨"BarnSummersModel", "countOf", "(I)I"⟩, 39), (⟨"BarnSummersModel", "there", "()I"⟩, 39), (⟨"BarnSummersModel", "sumOf", "([I)I"⟩, 39), (⟨"BarnSummersModel", "warmest", "()I"⟩, 39), (⟨"BarnSummersModel", "say", "(J)V"⟩, 39), (⟨"BarnSummersModel", "sayBarn", "()V"⟩, 39)]
theorem lw_r3 : ∀ q ∈ lw_privs_3, lw_okq q := List.forall_mem_cons.mpr ⟨lw_p32, List.forall_mem_cons.mpr ⟨lw_p33, List.forall_mem_cons.mpr ⟨lw_p34, List.forall_mem_cons.mpr ⟨lw_p35, List.forall_mem_cons.mpr ⟨lw_p36, List.forall_mem_cons.mpr ⟨lw_p37, List.forall_mem_cons.mpr ⟨lw_p38, List.forall_mem_cons.mpr ⟨lw_p39, List.forall_mem_cons.mpr ⟨lw_p40, List.forall_mem_cons.mpr ⟨lw_p41, List.forall_mem_cons.mpr ⟨lw_p42, List.forall_mem_cons.mpr ⟨lw_p43, List.forall_mem_cons.mpr ⟨lw_p44, List.forall_mem_cons.mpr ⟨lw_p45, List.forall_mem_cons.mpr ⟨lw_p46, List.forall_mem_cons.mpr ⟨lw_p47, fun _ h => absurd h List.not_mem_nil⟩⟩⟩⟩⟩⟩⟩⟩⟩⟩⟩⟩⟩⟩⟩⟩
def lw_privs : List (MethodName × Nat) := lw_privs_1 ++ (lw_privs_2 ++ (lw_privs_3))
def lw_tbl : List Cond := k2_sels lw_privs ++ tables_1
theorem lw_privs_ok : ∀ q ∈ lw_privs, lw_okq q := by
  show ∀ q ∈ lw_privs_1 ++ (lw_privs_2 ++ (lw_privs_3)), lw_okq q
  exact List.forall_mem_append.mpr ⟨lw_r1, List.forall_mem_append.mpr ⟨lw_r2, lw_r3⟩⟩
end
section
def RX0 : String := "BarnSummers$Barn"
def TX0 : u_T := fun k => match k with
  | 0 => ("BarnSummers$Barn", "bays", "I", false)
  | 1 => ("BarnSummers$Barn", "carts", "I", false)
  | 2 => ("BarnSummers$Barn", "days", "I", false)
  | 3 => ("BarnSummers$Barn", "given", "I", false)
  | 4 => ("BarnSummers$Barn", "burnt", "I", false)
  | 5 => ("BarnSummers$Barn", "kind", "[I", true)
  | 6 => ("BarnSummers$Barn", "home", "[I", true)
  | 7 => ("BarnSummers$Barn", "light", "[I", true)
  | 8 => ("BarnSummers$Barn", "wet", "[I", true)
  | 9 => ("BarnSummers$Barn", "warm", "[I", true)
  | 10 => ("BarnSummers$Barn", "high", "[I", true)
  | _ => ("BarnSummers$Barn", "lies", "[I", true)
def tyX0 : Nat → FieldType := fun k => match k with
  | 0 => .int
  | 1 => .int
  | 2 => .int
  | 3 => .int
  | 4 => .int
  | 5 => .array .int
  | 6 => .array .int
  | 7 => .array .int
  | 8 => .array .int
  | 9 => .array .int
  | 10 => .array .int
  | _ => .array .int
abbrev wsX00 : List Cond := u_ws RX0 TX0 12
theorem nmX0 : ∀ a, a < 12 → ∀ b, b < 12 → a ≠ b → (TX0 a).2.1 ≠ (TX0 b).2.1 := by decide +kernel
theorem tyX0_ok : ∀ k, k < 12 → parseFieldDescriptor (TX0 k).2.2.1 = some (tyX0 k) := by decide +kernel
abbrev cX0_init : ByteArray := prog_2_method_1_code
def yX0_init : MethodName := ⟨RX0, "<init>", "()V"⟩
abbrev cX0_copyFrom : ByteArray := prog_2_method_2_code
def yX0_copyFrom : MethodName := ⟨RX0, "copyFrom", "(LBarnSummers$Barn;)V"⟩
abbrev cX0_empty : ByteArray := prog_2_method_3_code
def yX0_empty : MethodName := ⟨RX0, "empty", "()V"⟩
abbrev cX0_lay : ByteArray := prog_2_method_4_code
def yX0_lay : MethodName := ⟨RX0, "lay", "(IIII)V"⟩
abbrev cX0_isGone : ByteArray := prog_2_method_5_code
def yX0_isGone : MethodName := ⟨RX0, "isGone", "(I)Z"⟩
abbrev cX0_at : ByteArray := prog_2_method_6_code
def yX0_at : MethodName := ⟨RX0, "at", "(II)I"⟩
abbrev cX0_top : ByteArray := prog_2_method_7_code
def yX0_top : MethodName := ⟨RX0, "top", "(I)I"⟩
abbrev cX0_placeOf : ByteArray := prog_2_method_8_code
def yX0_placeOf : MethodName := ⟨RX0, "placeOf", "(I)I"⟩
abbrev cX0_howManyOn : ByteArray := prog_2_method_9_code
def yX0_howManyOn : MethodName := ⟨RX0, "howManyOn", "(I)I"⟩
abbrev cX0_lightOf : ByteArray := prog_2_method_10_code
def yX0_lightOf : MethodName := ⟨RX0, "lightOf", "(I)I"⟩
abbrev cX0_lightOfSome : ByteArray := prog_2_method_11_code
def yX0_lightOfSome : MethodName := ⟨RX0, "lightOfSome", "(II)I"⟩
abbrev cX0_lightOfAll : ByteArray := prog_2_method_12_code
def yX0_lightOfAll : MethodName := ⟨RX0, "lightOfAll", "()I"⟩
abbrev cX0_wetOfAll : ByteArray := prog_2_method_13_code
def yX0_wetOfAll : MethodName := ⟨RX0, "wetOfAll", "()I"⟩
abbrev cX0_mostWarm : ByteArray := prog_2_method_14_code
def yX0_mostWarm : MethodName := ⟨RX0, "mostWarm", "()I"⟩
abbrev cX0_howManyLie : ByteArray := prog_2_method_15_code
def yX0_howManyLie : MethodName := ⟨RX0, "howManyLie", "()I"⟩
abbrev cX0_gain : ByteArray := prog_2_method_16_code
def yX0_gain : MethodName := ⟨RX0, "gain", "(I)I"⟩
abbrev cX0_gainAt : ByteArray := prog_2_method_17_code
def yX0_gainAt : MethodName := ⟨RX0, "gainAt", "(II)I"⟩
abbrev cX0_warmBay : ByteArray := prog_2_method_18_code
def yX0_warmBay : MethodName := ⟨RX0, "warmBay", "(I)V"⟩
abbrev cX0_burnBay : ByteArray := prog_2_method_19_code
def yX0_burnBay : MethodName := ⟨RX0, "burnBay", "(I)I"⟩
abbrev cX0_loseFrom : ByteArray := prog_2_method_20_code
def yX0_loseFrom : MethodName := ⟨RX0, "loseFrom", "(II)I"⟩
abbrev cX0_lose : ByteArray := prog_2_method_21_code
def yX0_lose : MethodName := ⟨RX0, "lose", "(I)V"⟩
abbrev cX0_dryTop : ByteArray := prog_2_method_22_code
def yX0_dryTop : MethodName := ⟨RX0, "dryTop", "(I)V"⟩
abbrev cX0_passDay : ByteArray := prog_2_method_23_code
def yX0_passDay : MethodName := ⟨RX0, "passDay", "()I"⟩
abbrev cX0_slice : ByteArray := prog_2_method_24_code
def yX0_slice : MethodName := ⟨RX0, "slice", "(II)I"⟩
abbrev cX0_dryTopsBut : ByteArray := prog_2_method_25_code
def yX0_dryTopsBut : MethodName := ⟨RX0, "dryTopsBut", "(I)V"⟩
abbrev cX0_turnOver : ByteArray := prog_2_method_26_code
def yX0_turnOver : MethodName := ⟨RX0, "turnOver", "(I)V"⟩
abbrev cX0_takeOut : ByteArray := prog_2_method_27_code
def yX0_takeOut : MethodName := ⟨RX0, "takeOut", "(II)V"⟩
abbrev cX0_bayOfLeastLight : ByteArray := prog_2_method_28_code
def yX0_bayOfLeastLight : MethodName := ⟨RX0, "bayOfLeastLight", "()I"⟩
def RX1 : String := "BarnSummers$Feeling"
def TX1 : u_T := fun k => match k with
  | 0 => ("BarnSummers$Feeling", "trial", "LBarnSummers$Barn;", true)
  | 1 => ("BarnSummers$Feeling", "warmths", "[I", true)
  | _ => ("BarnSummers$Feeling", "like", "[I", true)
def tyX1 : Nat → FieldType := fun k => match k with
  | 0 => .object "BarnSummers$Barn"
  | 1 => .array .int
  | _ => .array .int
abbrev wsX10 : List Cond := u_ws RX1 TX1 3
theorem nmX1 : ∀ a, a < 3 → ∀ b, b < 3 → a ≠ b → (TX1 a).2.1 ≠ (TX1 b).2.1 := by decide +kernel
theorem tyX1_ok : ∀ k, k < 3 → parseFieldDescriptor (TX1 k).2.2.1 = some (tyX1 k) := by decide +kernel
abbrev cX1_init : ByteArray := prog_3_method_1_code
def yX1_init : MethodName := ⟨RX1, "<init>", "()V"⟩
abbrev cX1_wets : ByteArray := prog_3_method_2_code
def yX1_wets : MethodName := ⟨RX1, "wets", "(LBarnSummers$Barn;LBarnSummers$Seen;I)I"⟩
abbrev cX1_bestDay : ByteArray := prog_3_method_3_code
def yX1_bestDay : MethodName := ⟨RX1, "bestDay", "(LBarnSummers$Barn;LBarnSummers$Seen;I)I"⟩
abbrev cX1_tryAll : ByteArray := prog_3_method_4_code
def yX1_tryAll : MethodName := ⟨RX1, "tryAll", "(LBarnSummers$Barn;I)V"⟩
abbrev cX1_wetsThatFit : ByteArray := prog_3_method_5_code
def yX1_wetsThatFit : MethodName := ⟨RX1, "wetsThatFit", "(LBarnSummers$Seen;I)I"⟩
abbrev cX1_fits : ByteArray := prog_3_method_6_code
def yX1_fits : MethodName := ⟨RX1, "fits", "(LBarnSummers$Seen;II)Z"⟩
abbrev cX1_leftAtWorst : ByteArray := prog_3_method_7_code
def yX1_leftAtWorst : MethodName := ⟨RX1, "leftAtWorst", "(II)I"⟩
def RX2 : String := "BarnSummers$Foresight"
def TX2 : u_T := fun k => match k with
  | 0 => ("BarnSummers$Foresight", "trial", "LBarnSummers$Barn;", true)
  | 1 => ("BarnSummers$Foresight", "bestMuch", "I", false)
  | _ => ("BarnSummers$Foresight", "bestPlan", "I", false)
def tyX2 : Nat → FieldType := fun k => match k with
  | 0 => .object "BarnSummers$Barn"
  | 1 => .int
  | _ => .int
abbrev wsX20 : List Cond := u_ws RX2 TX2 3
theorem nmX2 : ∀ a, a < 3 → ∀ b, b < 3 → a ≠ b → (TX2 a).2.1 ≠ (TX2 b).2.1 := by decide +kernel
theorem tyX2_ok : ∀ k, k < 3 → parseFieldDescriptor (TX2 k).2.2.1 = some (tyX2 k) := by decide +kernel
abbrev cX2_init : ByteArray := prog_4_method_1_code
def yX2_init : MethodName := ⟨RX2, "<init>", "()V"⟩
abbrev cX2_daysItLasts : ByteArray := prog_4_method_2_code
def yX2_daysItLasts : MethodName := ⟨RX2, "daysItLasts", "(LBarnSummers$Barn;I)I"⟩
abbrev cX2_isFed : ByteArray := prog_4_method_3_code
def yX2_isFed : MethodName := ⟨RX2, "isFed", "(I)Z"⟩
abbrev cX2_makePlan : ByteArray := prog_4_method_4_code
def yX2_makePlan : MethodName := ⟨RX2, "makePlan", "(LBarnSummers$Barn;I)V"⟩
abbrev cX2_plannedBay : ByteArray := prog_4_method_5_code
def yX2_plannedBay : MethodName := ⟨RX2, "plannedBay", "(II)I"⟩
abbrev cX2_bayIn : ByteArray := prog_4_method_6_code
def yX2_bayIn : MethodName := ⟨RX2, "bayIn", "(III)I"⟩
abbrev cX2_worthOf : ByteArray := prog_4_method_7_code
def yX2_worthOf : MethodName := ⟨RX2, "worthOf", "(LBarnSummers$Barn;II)I"⟩
abbrev cX2_safe : ByteArray := prog_4_method_8_code
def yX2_safe : MethodName := ⟨RX2, "safe", "(LBarnSummers$Barn;I)I"⟩
abbrev cX2_isSafeWithout : ByteArray := prog_4_method_9_code
def yX2_isSafeWithout : MethodName := ⟨RX2, "isSafeWithout", "(LBarnSummers$Barn;II)Z"⟩
abbrev cX2_goneBehind : ByteArray := prog_4_method_10_code
def yX2_goneBehind : MethodName := ⟨RX2, "goneBehind", "(LBarnSummers$Barn;I)I"⟩
abbrev cX2_winter : ByteArray := prog_4_method_11_code
def yX2_winter : MethodName := ⟨RX2, "winter", "(LBarnSummers$Barn;III)I"⟩
abbrev cX2_seedBehind : ByteArray := prog_4_method_12_code
def yX2_seedBehind : MethodName := ⟨RX2, "seedBehind", "(J)J"⟩
abbrev cX2_drawOf : ByteArray := prog_4_method_13_code
def yX2_drawOf : MethodName := ⟨RX2, "drawOf", "(JI)I"⟩
def RX3 : String := "BarnSummers$Kind"
def TX3 : u_T := fun k => match k with
  | _ => ("", "", "", false)
def tyX3 : Nat → FieldType := fun k => match k with
  | _ => .int
abbrev wsX30 : List Cond := u_ws RX3 TX3 0
theorem nmX3 : ∀ a, a < 0 → ∀ b, b < 0 → a ≠ b → (TX3 a).2.1 ≠ (TX3 b).2.1 := by decide +kernel
theorem tyX3_ok : ∀ k, k < 0 → parseFieldDescriptor (TX3 k).2.2.1 = some (tyX3 k) := by decide +kernel
abbrev cX3_ofLetter : ByteArray := prog_5_method_2_code
def yX3_ofLetter : MethodName := ⟨RX3, "ofLetter", "(I)I"⟩
abbrev cX3_isA : ByteArray := prog_5_method_3_code
def yX3_isA : MethodName := ⟨RX3, "isA", "(II)Z"⟩
abbrev cX3_gives : ByteArray := prog_5_method_4_code
def yX3_gives : MethodName := ⟨RX3, "gives", "(II)I"⟩
abbrev cX3_warms : ByteArray := prog_5_method_5_code
def yX3_warms : MethodName := ⟨RX3, "warms", "(II)I"⟩
def RX4 : String := "BarnSummers$Page"
def TX4 : u_T := fun k => match k with
  | 0 => ("BarnSummers$Page", "letters", "[I", true)
  | _ => ("BarnSummers$Page", "size", "I", false)
def tyX4 : Nat → FieldType := fun k => match k with
  | 0 => .array .int
  | _ => .int
abbrev wsX40 : List Cond := u_ws RX4 TX4 2
theorem nmX4 : ∀ a, a < 2 → ∀ b, b < 2 → a ≠ b → (TX4 a).2.1 ≠ (TX4 b).2.1 := by decide +kernel
theorem tyX4_ok : ∀ k, k < 2 → parseFieldDescriptor (TX4 k).2.2.1 = some (tyX4 k) := by decide +kernel
abbrev cX4_init : ByteArray := prog_6_method_1_code
def yX4_init : MethodName := ⟨RX4, "<init>", "()V"⟩
abbrev cX4_append : ByteArray := prog_6_method_2_code
def yX4_append : MethodName := ⟨RX4, "append", "(I)V"⟩
abbrev cX4_firstFault : ByteArray := prog_6_method_3_code
def yX4_firstFault : MethodName := ⟨RX4, "firstFault", "()I"⟩
abbrev cX4_isDue : ByteArray := prog_6_method_4_code
def yX4_isDue : MethodName := ⟨RX4, "isDue", "(IIII)Z"⟩
abbrev cX4_isWhole : ByteArray := prog_6_method_5_code
def yX4_isWhole : MethodName := ⟨RX4, "isWhole", "()Z"⟩
abbrev cX4_hasSecondBay : ByteArray := prog_6_method_6_code
def yX4_hasSecondBay : MethodName := ⟨RX4, "hasSecondBay", "()Z"⟩
abbrev cX4_readInto : ByteArray := prog_6_method_7_code
def yX4_readInto : MethodName := ⟨RX4, "readInto", "(LBarnSummers$Barn;)V"⟩
def RX5 : String := "BarnSummers$Seen"
def TX5 : u_T := fun k => match k with
  | 0 => ("BarnSummers$Seen", "cart", "[I", true)
  | 1 => ("BarnSummers$Seen", "day", "[I", true)
  | 2 => ("BarnSummers$Seen", "warm", "[I", true)
  | _ => ("BarnSummers$Seen", "size", "I", false)
def tyX5 : Nat → FieldType := fun k => match k with
  | 0 => .array .int
  | 1 => .array .int
  | 2 => .array .int
  | _ => .int
abbrev wsX50 : List Cond := u_ws RX5 TX5 4
theorem nmX5 : ∀ a, a < 4 → ∀ b, b < 4 → a ≠ b → (TX5 a).2.1 ≠ (TX5 b).2.1 := by decide +kernel
theorem tyX5_ok : ∀ k, k < 4 → parseFieldDescriptor (TX5 k).2.2.1 = some (tyX5 k) := by decide +kernel
abbrev cX5_init : ByteArray := prog_7_method_1_code
def yX5_init : MethodName := ⟨RX5, "<init>", "()V"⟩
abbrev cX5_append : ByteArray := prog_7_method_2_code
def yX5_append : MethodName := ⟨RX5, "append", "(III)V"⟩
abbrev cX5_copyFrom : ByteArray := prog_7_method_3_code
def yX5_copyFrom : MethodName := ⟨RX5, "copyFrom", "(LBarnSummers$Seen;)V"⟩
def RX6 : String := "BarnSummers$Sharing"
def TX6 : u_T := fun k => match k with
  | _ => ("BarnSummers$Sharing", "reach", "[J", true)
def tyX6 : Nat → FieldType := fun k => match k with
  | _ => .array .long
abbrev wsX60 : List Cond := u_ws RX6 TX6 1
theorem nmX6 : ∀ a, a < 1 → ∀ b, b < 1 → a ≠ b → (TX6 a).2.1 ≠ (TX6 b).2.1 := by decide +kernel
theorem tyX6_ok : ∀ k, k < 1 → parseFieldDescriptor (TX6 k).2.2.1 = some (tyX6 k) := by decide +kernel
abbrev cX6_init : ByteArray := prog_8_method_1_code
def yX6_init : MethodName := ⟨RX6, "<init>", "()V"⟩
abbrev cX6_amongTwo : ByteArray := prog_8_method_2_code
def yX6_amongTwo : MethodName := ⟨RX6, "amongTwo", "(LBarnSummers$Barn;)I"⟩
abbrev cX6_amongThree : ByteArray := prog_8_method_3_code
def yX6_amongThree : MethodName := ⟨RX6, "amongThree", "(LBarnSummers$Barn;)I"⟩
abbrev cX6_giveAway : ByteArray := prog_8_method_4_code
def yX6_giveAway : MethodName := ⟨RX6, "giveAway", "(I)V"⟩
abbrev cX6_highestSum : ByteArray := prog_8_method_5_code
def yX6_highestSum : MethodName := ⟨RX6, "highestSum", "(JII)I"⟩
def RX7 : String := "BarnSummers"
def TX7 : u_T := fun k => match k with
  | 0 => ("BarnSummers", "page", "LBarnSummers$Page;", true)
  | 1 => ("BarnSummers", "now", "LBarnSummers$Barn;", true)
  | 2 => ("BarnSummers", "kept", "LBarnSummers$Barn;", true)
  | 3 => ("BarnSummers", "seen", "LBarnSummers$Seen;", true)
  | 4 => ("BarnSummers", "keptSeen", "LBarnSummers$Seen;", true)
  | 5 => ("BarnSummers", "foresight", "LBarnSummers$Foresight;", true)
  | 6 => ("BarnSummers", "feeling", "LBarnSummers$Feeling;", true)
  | 7 => ("BarnSummers", "sharing", "LBarnSummers$Sharing;", true)
  | 8 => ("BarnSummers", "hasImage", "Z", false)
  | 9 => ("BarnSummers", "barnsRead", "I", false)
  | _ => ("BarnSummers", "sharesDone", "I", false)
def tyX7 : Nat → FieldType := fun k => match k with
  | 0 => .object "BarnSummers$Page"
  | 1 => .object "BarnSummers$Barn"
  | 2 => .object "BarnSummers$Barn"
  | 3 => .object "BarnSummers$Seen"
  | 4 => .object "BarnSummers$Seen"
  | 5 => .object "BarnSummers$Foresight"
  | 6 => .object "BarnSummers$Feeling"
  | 7 => .object "BarnSummers$Sharing"
  | 8 => .boolean
  | 9 => .int
  | _ => .int
abbrev wsX70 : List Cond := u_ws RX7 TX7 11
theorem nmX7 : ∀ a, a < 11 → ∀ b, b < 11 → a ≠ b → (TX7 a).2.1 ≠ (TX7 b).2.1 := by decide +kernel
theorem tyX7_ok : ∀ k, k < 11 → parseFieldDescriptor (TX7 k).2.2.1 = some (tyX7 k) := by decide +kernel
abbrev cX7_init : ByteArray := prog_1_method_1_code
def yX7_init : MethodName := ⟨RX7, "<init>", "()V"⟩
abbrev cX7_letter : ByteArray := prog_1_method_2_code
def yX7_letter : MethodName := ⟨RX7, "letter", "(I)I"⟩
abbrev cX7_blank : ByteArray := prog_1_method_3_code
def yX7_blank : MethodName := ⟨RX7, "blank", "()I"⟩
abbrev cX7_fault : ByteArray := prog_1_method_4_code
def yX7_fault : MethodName := ⟨RX7, "fault", "()I"⟩
abbrev cX7_barn : ByteArray := prog_1_method_5_code
def yX7_barn : MethodName := ⟨RX7, "barn", "()I"⟩
abbrev cX7_cart : ByteArray := prog_1_method_6_code
def yX7_cart : MethodName := ⟨RX7, "cart", "(II)I"⟩
abbrev cX7_as : ByteArray := prog_1_method_7_code
def yX7_as : MethodName := ⟨RX7, "as", "(II)I"⟩
abbrev cX7_bay : ByteArray := prog_1_method_8_code
def yX7_bay : MethodName := ⟨RX7, "bay", "(II)I"⟩
abbrev cX7_cut : ByteArray := prog_1_method_9_code
def yX7_cut : MethodName := ⟨RX7, "cut", "(II)I"⟩
abbrev cX7_day : ByteArray := prog_1_method_10_code
def yX7_day : MethodName := ⟨RX7, "day", "()I"⟩
abbrev cX7_turn : ByteArray := prog_1_method_11_code
def yX7_turn : MethodName := ⟨RX7, "turn", "(I)I"⟩
abbrev cX7_rain : ByteArray := prog_1_method_12_code
def yX7_rain : MethodName := ⟨RX7, "rain", "(II)I"⟩
abbrev cX7_lasts : ByteArray := prog_1_method_13_code
def yX7_lasts : MethodName := ⟨RX7, "lasts", "(I)I"⟩
abbrev cX7_plan : ByteArray := prog_1_method_14_code
def yX7_plan : MethodName := ⟨RX7, "plan", "(II)I"⟩
abbrev cX7_share : ByteArray := prog_1_method_15_code
def yX7_share : MethodName := ⟨RX7, "share", "(I)I"⟩
abbrev cX7_burnt : ByteArray := prog_1_method_16_code
def yX7_burnt : MethodName := ⟨RX7, "burnt", "(I)I"⟩
abbrev cX7_see : ByteArray := prog_1_method_17_code
def yX7_see : MethodName := ⟨RX7, "see", "(III)I"⟩
abbrev cX7_forget : ByteArray := prog_1_method_18_code
def yX7_forget : MethodName := ⟨RX7, "forget", "()I"⟩
abbrev cX7_winters : ByteArray := prog_1_method_19_code
def yX7_winters : MethodName := ⟨RX7, "winters", "(III)I"⟩
abbrev cX7_image : ByteArray := prog_1_method_20_code
def yX7_image : MethodName := ⟨RX7, "image", "()I"⟩
abbrev cX7_restore : ByteArray := prog_1_method_21_code
def yX7_restore : MethodName := ⟨RX7, "restore", "()I"⟩
abbrev cX7_count : ByteArray := prog_1_method_22_code
def yX7_count : MethodName := ⟨RX7, "count", "(I)I"⟩
abbrev cX7_digest : ByteArray := prog_1_method_23_code
def yX7_digest : MethodName := ⟨RX7, "digest", "()J"⟩
abbrev cX7_with : ByteArray := prog_1_method_24_code
def yX7_with : MethodName := ⟨RX7, "with", "(JI)J"⟩
abbrev cX7_isNoBarn : ByteArray := prog_1_method_25_code
def yX7_isNoBarn : MethodName := ⟨RX7, "isNoBarn", "()Z"⟩
abbrev cX7_isNoCart : ByteArray := prog_1_method_26_code
def yX7_isNoCart : MethodName := ⟨RX7, "isNoCart", "(I)Z"⟩
abbrev cX7_isNoBay : ByteArray := prog_1_method_27_code
def yX7_isNoBay : MethodName := ⟨RX7, "isNoBay", "(I)Z"⟩
def RX8 : String := "BarnSummersModel"
def TX8 : u_T := fun k => match k with
  | 0 => ("BarnSummersModel", "page", "[I", true)
  | 1 => ("BarnSummersModel", "pageMany", "I", false)
  | 2 => ("BarnSummersModel", "baysBegun", "I", false)
  | 3 => ("BarnSummersModel", "cartsBegun", "I", false)
  | 4 => ("BarnSummersModel", "bays", "I", false)
  | 5 => ("BarnSummersModel", "carts", "I", false)
  | 6 => ("BarnSummersModel", "days", "I", false)
  | 7 => ("BarnSummersModel", "given", "I", false)
  | 8 => ("BarnSummersModel", "burnts", "I", false)
  | 9 => ("BarnSummersModel", "barnsRead", "I", false)
  | 10 => ("BarnSummersModel", "kinds", "[I", true)
  | 11 => ("BarnSummersModel", "bayOf", "[I", true)
  | 12 => ("BarnSummersModel", "many", "[I", true)
  | 13 => ("BarnSummersModel", "order", "[I", true)
  | 14 => ("BarnSummersModel", "light", "[I", true)
  | 15 => ("BarnSummersModel", "wet", "[I", true)
  | 16 => ("BarnSummersModel", "warm", "[I", true)
  | 17 => ("BarnSummersModel", "lightThen", "[I", true)
  | 18 => ("BarnSummersModel", "wetThen", "[I", true)
  | 19 => ("BarnSummersModel", "warmThen", "[I", true)
  | 20 => ("BarnSummersModel", "sharesDone", "I", false)
  | 21 => ("BarnSummersModel", "sums", "[I", true)
  | 22 => ("BarnSummersModel", "leasts", "[I", true)
  | 23 => ("BarnSummersModel", "more", "[I", true)
  | 24 => ("BarnSummersModel", "seenMany", "I", false)
  | 25 => ("BarnSummersModel", "sights", "[I", true)
  | 26 => ("BarnSummersModel", "ways", "[I", true)
  | 27 => ("BarnSummersModel", "seedNow", "I", false)
  | 28 => ("BarnSummersModel", "keptBarn", "I", false)
  | 29 => ("BarnSummersModel", "keptDays", "I", false)
  | 30 => ("BarnSummersModel", "keptGiven", "I", false)
  | 31 => ("BarnSummersModel", "keptBurnts", "I", false)
  | 32 => ("BarnSummersModel", "keptSeen", "I", false)
  | 33 => ("BarnSummersModel", "keptOrder", "[I", true)
  | 34 => ("BarnSummersModel", "keptLight", "[I", true)
  | 35 => ("BarnSummersModel", "keptWet", "[I", true)
  | 36 => ("BarnSummersModel", "keptWarm", "[I", true)
  | 37 => ("BarnSummersModel", "keptSights", "[I", true)
  | _ => ("BarnSummersModel", "hash", "J", false)
def tyX8 : Nat → FieldType := fun k => match k with
  | 0 => .array .int
  | 1 => .int
  | 2 => .int
  | 3 => .int
  | 4 => .int
  | 5 => .int
  | 6 => .int
  | 7 => .int
  | 8 => .int
  | 9 => .int
  | 10 => .array .int
  | 11 => .array .int
  | 12 => .array .int
  | 13 => .array .int
  | 14 => .array .int
  | 15 => .array .int
  | 16 => .array .int
  | 17 => .array .int
  | 18 => .array .int
  | 19 => .array .int
  | 20 => .int
  | 21 => .array .int
  | 22 => .array .int
  | 23 => .array .int
  | 24 => .int
  | 25 => .array .int
  | 26 => .array .int
  | 27 => .int
  | 28 => .int
  | 29 => .int
  | 30 => .int
  | 31 => .int
  | 32 => .int
  | 33 => .array .int
  | 34 => .array .int
  | 35 => .array .int
  | 36 => .array .int
  | 37 => .array .int
  | _ => .long
abbrev wsX80 : List Cond := u_ws RX8 TX8 39
theorem nmX8 : ∀ a, a < 39 → ∀ b, b < 39 → a ≠ b → (TX8 a).2.1 ≠ (TX8 b).2.1 := by decide +kernel
theorem tyX8_ok : ∀ k, k < 39 → parseFieldDescriptor (TX8 k).2.2.1 = some (tyX8 k) := by decide +kernel
abbrev cX8_init : ByteArray := prog_10_method_1_code
def yX8_init : MethodName := ⟨RX8, "<init>", "()V"⟩
abbrev cX8_in : ByteArray := prog_10_method_2_code
def yX8_in : MethodName := ⟨RX8, "in", "(JJJ)Z"⟩
abbrev cX8_copy : ByteArray := prog_10_method_3_code
def yX8_copy : MethodName := ⟨RX8, "copy", "([I[I)V"⟩
abbrev cX8_letter : ByteArray := prog_10_method_4_code
def yX8_letter : MethodName := ⟨RX8, "letter", "(I)I"⟩
abbrev cX8_blank : ByteArray := prog_10_method_5_code
def yX8_blank : MethodName := ⟨RX8, "blank", "()I"⟩
abbrev cX8_kindBy : ByteArray := prog_10_method_6_code
def yX8_kindBy : MethodName := ⟨RX8, "kindBy", "(I)I"⟩
abbrev cX8_isGood : ByteArray := prog_10_method_7_code
def yX8_isGood : MethodName := ⟨RX8, "isGood", "(II)Z"⟩
abbrev cX8_faultOf : ByteArray := prog_10_method_8_code
def yX8_faultOf : MethodName := ⟨RX8, "faultOf", "()I"⟩
abbrev cX8_fault : ByteArray := prog_10_method_9_code
def yX8_fault : MethodName := ⟨RX8, "fault", "()I"⟩
abbrev cX8_barn : ByteArray := prog_10_method_10_code
def yX8_barn : MethodName := ⟨RX8, "barn", "()I"⟩
abbrev cX8_lacks : ByteArray := prog_10_method_11_code
def yX8_lacks : MethodName := ⟨RX8, "lacks", "()Z"⟩
abbrev cX8_isCart : ByteArray := prog_10_method_12_code
def yX8_isCart : MethodName := ⟨RX8, "isCart", "(I)Z"⟩
abbrev cX8_isBay : ByteArray := prog_10_method_13_code
def yX8_isBay : MethodName := ⟨RX8, "isBay", "(I)Z"⟩
abbrev cX8_begin : ByteArray := prog_10_method_14_code
def yX8_begin : MethodName := ⟨RX8, "begin", "()V"⟩
abbrev cX8_takeThen : ByteArray := prog_10_method_15_code
def yX8_takeThen : MethodName := ⟨RX8, "takeThen", "()V"⟩
abbrev cX8_goes : ByteArray := prog_10_method_16_code
def yX8_goes : MethodName := ⟨RX8, "goes", "(I)V"⟩
abbrev cX8_topOf : ByteArray := prog_10_method_17_code
def yX8_topOf : MethodName := ⟨RX8, "topOf", "(I)I"⟩
abbrev cX8_gives : ByteArray := prog_10_method_18_code
def yX8_gives : MethodName := ⟨RX8, "gives", "(II)I"⟩
abbrev cX8_dry : ByteArray := prog_10_method_19_code
def yX8_dry : MethodName := ⟨RX8, "dry", "(I)V"⟩
abbrev cX8_cutThen : ByteArray := prog_10_method_20_code
def yX8_cutThen : MethodName := ⟨RX8, "cutThen", "(II)I"⟩
abbrev cX8_placeOf : ByteArray := prog_10_method_21_code
def yX8_placeOf : MethodName := ⟨RX8, "placeOf", "(I)I"⟩
abbrev cX8_onIt : ByteArray := prog_10_method_22_code
def yX8_onIt : MethodName := ⟨RX8, "onIt", "(IZ)I"⟩
abbrev cX8_warmsBy : ByteArray := prog_10_method_23_code
def yX8_warmsBy : MethodName := ⟨RX8, "warmsBy", "(I)I"⟩
abbrev cX8_warmAll : ByteArray := prog_10_method_24_code
def yX8_warmAll : MethodName := ⟨RX8, "warmAll", "()V"⟩
abbrev cX8_dryTops : ByteArray := prog_10_method_25_code
def yX8_dryTops : MethodName := ⟨RX8, "dryTops", "()V"⟩
abbrev cX8_dayThen : ByteArray := prog_10_method_26_code
def yX8_dayThen : MethodName := ⟨RX8, "dayThen", "()I"⟩
abbrev cX8_hasLight : ByteArray := prog_10_method_27_code
def yX8_hasLight : MethodName := ⟨RX8, "hasLight", "(I)Z"⟩
abbrev cX8_lightAll : ByteArray := prog_10_method_28_code
def yX8_lightAll : MethodName := ⟨RX8, "lightAll", "()I"⟩
abbrev cX8_tellCart : ByteArray := prog_10_method_29_code
def yX8_tellCart : MethodName := ⟨RX8, "tellCart", "(II)I"⟩
abbrev cX8_cart : ByteArray := prog_10_method_30_code
def yX8_cart : MethodName := ⟨RX8, "cart", "(II)I"⟩
abbrev cX8_as : ByteArray := prog_10_method_31_code
def yX8_as : MethodName := ⟨RX8, "as", "(II)I"⟩
abbrev cX8_thereAt : ByteArray := prog_10_method_32_code
def yX8_thereAt : MethodName := ⟨RX8, "thereAt", "(II)I"⟩
abbrev cX8_thereMany : ByteArray := prog_10_method_33_code
def yX8_thereMany : MethodName := ⟨RX8, "thereMany", "(I)I"⟩
abbrev cX8_lightIn : ByteArray := prog_10_method_34_code
def yX8_lightIn : MethodName := ⟨RX8, "lightIn", "(I)I"⟩
abbrev cX8_lightOfSet : ByteArray := prog_10_method_35_code
def yX8_lightOfSet : MethodName := ⟨RX8, "lightOfSet", "(II)I"⟩
abbrev cX8_isSafe : ByteArray := prog_10_method_36_code
def yX8_isSafe : MethodName := ⟨RX8, "isSafe", "(II)Z"⟩
abbrev cX8_safeOf : ByteArray := prog_10_method_37_code
def yX8_safeOf : MethodName := ⟨RX8, "safeOf", "(I)I"⟩
abbrev cX8_tellBay : ByteArray := prog_10_method_38_code
def yX8_tellBay : MethodName := ⟨RX8, "tellBay", "(II)I"⟩
abbrev cX8_bay : ByteArray := prog_10_method_39_code
def yX8_bay : MethodName := ⟨RX8, "bay", "(II)I"⟩
abbrev cX8_cut : ByteArray := prog_10_method_40_code
def yX8_cut : MethodName := ⟨RX8, "cut", "(II)I"⟩
abbrev cX8_day : ByteArray := prog_10_method_41_code
def yX8_day : MethodName := ⟨RX8, "day", "()I"⟩
abbrev cX8_turn : ByteArray := prog_10_method_42_code
def yX8_turn : MethodName := ⟨RX8, "turn", "(I)I"⟩
abbrev cX8_rain : ByteArray := prog_10_method_43_code
def yX8_rain : MethodName := ⟨RX8, "rain", "(II)I"⟩
abbrev cX8_leastTop : ByteArray := prog_10_method_44_code
def yX8_leastTop : MethodName := ⟨RX8, "leastTop", "()I"⟩
abbrev cX8_lastsOf : ByteArray := prog_10_method_45_code
def yX8_lastsOf : MethodName := ⟨RX8, "lastsOf", "(I)I"⟩
abbrev cX8_lasts : ByteArray := prog_10_method_46_code
def yX8_lasts : MethodName := ⟨RX8, "lasts", "(I)I"⟩
abbrev cX8_worthOf : ByteArray := prog_10_method_47_code
def yX8_worthOf : MethodName := ⟨RX8, "worthOf", "(II)I"⟩
abbrev cX8_planOf : ByteArray := prog_10_method_48_code
def yX8_planOf : MethodName := ⟨RX8, "planOf", "(II)I"⟩
abbrev cX8_chosenAt : ByteArray := prog_10_method_49_code
def yX8_chosenAt : MethodName := ⟨RX8, "chosenAt", "(III)I"⟩
abbrev cX8_plan : ByteArray := prog_10_method_50_code
def yX8_plan : MethodName := ⟨RX8, "plan", "(II)I"⟩
abbrev cX8_shareOf : ByteArray := prog_10_method_51_code
def yX8_shareOf : MethodName := ⟨RX8, "shareOf", "(I)I"⟩
abbrev cX8_share : ByteArray := prog_10_method_52_code
def yX8_share : MethodName := ⟨RX8, "share", "(I)I"⟩
abbrev cX8_burntOf : ByteArray := prog_10_method_53_code
def yX8_burntOf : MethodName := ⟨RX8, "burntOf", "(I)I"⟩
abbrev cX8_burnt : ByteArray := prog_10_method_54_code
def yX8_burnt : MethodName := ⟨RX8, "burnt", "(I)I"⟩
abbrev cX8_see : ByteArray := prog_10_method_55_code
def yX8_see : MethodName := ⟨RX8, "see", "(III)I"⟩
abbrev cX8_forget : ByteArray := prog_10_method_56_code
def yX8_forget : MethodName := ⟨RX8, "forget", "()I"⟩
abbrev cX8_layWays : ByteArray := prog_10_method_57_code
def yX8_layWays : MethodName := ⟨RX8, "layWays", "(I)V"⟩
abbrev cX8_wetsLaid : ByteArray := prog_10_method_58_code
def yX8_wetsLaid : MethodName := ⟨RX8, "wetsLaid", "(I)I"⟩
abbrev cX8_wetsOf : ByteArray := prog_10_method_59_code
def yX8_wetsOf : MethodName := ⟨RX8, "wetsOf", "(I)I"⟩
abbrev cX8_feelOf : ByteArray := prog_10_method_60_code
def yX8_feelOf : MethodName := ⟨RX8, "feelOf", "(I)I"⟩
abbrev cX8_draw : ByteArray := prog_10_method_61_code
def yX8_draw : MethodName := ⟨RX8, "draw", "(I)I"⟩
abbrev cX8_winters : ByteArray := prog_10_method_62_code
def yX8_winters : MethodName := ⟨RX8, "winters", "(III)I"⟩
abbrev cX8_image : ByteArray := prog_10_method_63_code
def yX8_image : MethodName := ⟨RX8, "image", "()I"⟩
abbrev cX8_restore : ByteArray := prog_10_method_64_code
def yX8_restore : MethodName := ⟨RX8, "restore", "()I"⟩
abbrev cX8_sumOf : ByteArray := prog_10_method_65_code
def yX8_sumOf : MethodName := ⟨RX8, "sumOf", "([I)I"⟩
abbrev cX8_there : ByteArray := prog_10_method_66_code
def yX8_there : MethodName := ⟨RX8, "there", "()I"⟩
abbrev cX8_warmest : ByteArray := prog_10_method_67_code
def yX8_warmest : MethodName := ⟨RX8, "warmest", "()I"⟩
abbrev cX8_countOf : ByteArray := prog_10_method_68_code
def yX8_countOf : MethodName := ⟨RX8, "countOf", "(I)I"⟩
abbrev cX8_count : ByteArray := prog_10_method_69_code
def yX8_count : MethodName := ⟨RX8, "count", "(I)I"⟩
abbrev cX8_say : ByteArray := prog_10_method_70_code
def yX8_say : MethodName := ⟨RX8, "say", "(J)V"⟩
abbrev cX8_sayBarn : ByteArray := prog_10_method_71_code
def yX8_sayBarn : MethodName := ⟨RX8, "sayBarn", "()V"⟩
abbrev cX8_digest : ByteArray := prog_10_method_72_code
def yX8_digest : MethodName := ⟨RX8, "digest", "()J"⟩
def RL : String := "BarnSummersLaw"
abbrev cL_law : ByteArray := code
def yL_law : MethodName := ⟨RL, "law", "([I)Z"⟩
abbrev zY : Type := MethodName × ByteArray × Nat × Option FieldType × Nat × Nat
def zT : List Cond := lw_tbl.filter goodWord
theorem zin {w : Cond} (i : Nat) (h : lw_tbl[i]? = some w) (h2 : goodWord w = true) : w ∈ zT := List.mem_filter.mpr ⟨List.mem_of_getElem? h, h2⟩
abbrev mX0_init : zY := (yX0_init, cX0_init, 1, none, 1, 60)
abbrev mX0_copyFrom : zY := (yX0_copyFrom, cX0_copyFrom, 2, none, 1, 60)
abbrev mX0_empty : zY := (yX0_empty, cX0_empty, 2, none, 0, 0)
abbrev mX0_lay : zY := (yX0_lay, cX0_lay, 5, none, 0, 0)
abbrev mX0_isGone : zY := (yX0_isGone, cX0_isGone, 2, some .boolean, 0, 0)
abbrev mX0_at : zY := (yX0_at, cX0_at, 3, some .int, 0, 0)
abbrev mX0_top : zY := (yX0_top, cX0_top, 2, some .int, 0, 0)
abbrev mX0_placeOf : zY := (yX0_placeOf, cX0_placeOf, 4, some .int, 0, 0)
abbrev mX0_howManyOn : zY := (yX0_howManyOn, cX0_howManyOn, 2, some .int, 1, 23)
abbrev mX0_lightOf : zY := (yX0_lightOf, cX0_lightOf, 4, some .int, 0, 0)
abbrev mX0_lightOfSome : zY := (yX0_lightOfSome, cX0_lightOfSome, 5, some .int, 0, 0)
abbrev mX0_lightOfAll : zY := (yX0_lightOfAll, cX0_lightOfAll, 3, some .int, 0, 0)
abbrev mX0_wetOfAll : zY := (yX0_wetOfAll, cX0_wetOfAll, 3, some .int, 0, 0)
abbrev mX0_mostWarm : zY := (yX0_mostWarm, cX0_mostWarm, 3, some .int, 1, 60)
abbrev mX0_howManyLie : zY := (yX0_howManyLie, cX0_howManyLie, 3, some .int, 0, 0)
abbrev mX0_gain : zY := (yX0_gain, cX0_gain, 2, some .int, 2, 46)
abbrev mX0_gainAt : zY := (yX0_gainAt, cX0_gainAt, 6, some .int, 1, 21)
abbrev mX0_warmBay : zY := (yX0_warmBay, cX0_warmBay, 3, none, 2, 46)
abbrev mX0_burnBay : zY := (yX0_burnBay, cX0_burnBay, 3, some .int, 2, 45)
abbrev mX0_loseFrom : zY := (yX0_loseFrom, cX0_loseFrom, 5, some .int, 1, 21)
abbrev mX0_lose : zY := (yX0_lose, cX0_lose, 2, none, 0, 0)
abbrev mX0_dryTop : zY := (yX0_dryTop, cX0_dryTop, 3, none, 1, 21)
abbrev mX0_passDay : zY := (yX0_passDay, cX0_passDay, 3, some .int, 3, 68)
abbrev mX0_slice : zY := (yX0_slice, cX0_slice, 6, some .int, 3, 65)
abbrev mX0_dryTopsBut : zY := (yX0_dryTopsBut, cX0_dryTopsBut, 3, none, 2, 43)
abbrev mX0_turnOver : zY := (yX0_turnOver, cX0_turnOver, 7, none, 0, 0)
abbrev mX0_takeOut : zY := (yX0_takeOut, cX0_takeOut, 6, none, 1, 21)
abbrev mX0_bayOfLeastLight : zY := (yX0_bayOfLeastLight, cX0_bayOfLeastLight, 5, some .int, 1, 21)
abbrev mX1_init : zY := (yX1_init, cX1_init, 1, none, 2, 80)
abbrev mX1_wets : zY := (yX1_wets, cX1_wets, 4, some .int, 4, 106)
abbrev mX1_bestDay : zY := (yX1_bestDay, cX1_bestDay, 9, some .int, 4, 106)
abbrev mX1_tryAll : zY := (yX1_tryAll, cX1_tryAll, 6, none, 3, 81)
abbrev mX1_wetsThatFit : zY := (yX1_wetsThatFit, cX1_wetsThatFit, 5, some .int, 1, 24)
abbrev mX1_fits : zY := (yX1_fits, cX1_fits, 5, some .boolean, 0, 0)
abbrev mX1_leftAtWorst : zY := (yX1_leftAtWorst, cX1_leftAtWorst, 6, some .int, 1, 60)
abbrev mX2_init : zY := (yX2_init, cX2_init, 1, none, 2, 80)
abbrev mX2_daysItLasts : zY := (yX2_daysItLasts, cX2_daysItLasts, 4, some .int, 5, 114)
abbrev mX2_isFed : zY := (yX2_isFed, cX2_isFed, 5, some .boolean, 4, 90)
abbrev mX2_makePlan : zY := (yX2_makePlan, cX2_makePlan, 5, none, 5, 115)
abbrev mX2_plannedBay : zY := (yX2_plannedBay, cX2_plannedBay, 3, some .int, 1, 22)
abbrev mX2_bayIn : zY := (yX2_bayIn, cX2_bayIn, 3, some .int, 0, 0)
abbrev mX2_worthOf : zY := (yX2_worthOf, cX2_worthOf, 6, some .int, 4, 90)
abbrev mX2_safe : zY := (yX2_safe, cX2_safe, 7, some .int, 4, 105)
abbrev mX2_isSafeWithout : zY := (yX2_isSafeWithout, cX2_isSafeWithout, 5, some .boolean, 3, 81)
abbrev mX2_goneBehind : zY := (yX2_goneBehind, cX2_goneBehind, 5, some .int, 4, 90)
abbrev mX2_winter : zY := (yX2_winter, cX2_winter, 9, some .int, 4, 90)
abbrev mX2_seedBehind : zY := (yX2_seedBehind, cX2_seedBehind, 2, some .long, 0, 0)
abbrev mX2_drawOf : zY := (yX2_drawOf, cX2_drawOf, 3, some .int, 0, 0)
abbrev mX3_ofLetter : zY := (yX3_ofLetter, cX3_ofLetter, 1, some .int, 0, 0)
abbrev mX3_isA : zY := (yX3_isA, cX3_isA, 2, some .boolean, 0, 0)
abbrev mX3_gives : zY := (yX3_gives, cX3_gives, 2, some .int, 0, 0)
abbrev mX3_warms : zY := (yX3_warms, cX3_warms, 2, some .int, 0, 0)
abbrev mX4_init : zY := (yX4_init, cX4_init, 1, none, 1, 60)
abbrev mX4_append : zY := (yX4_append, cX4_append, 2, none, 0, 0)
abbrev mX4_firstFault : zY := (yX4_firstFault, cX4_firstFault, 5, some .int, 2, 43)
abbrev mX4_isDue : zY := (yX4_isDue, cX4_isDue, 4, some .boolean, 1, 20)
abbrev mX4_isWhole : zY := (yX4_isWhole, cX4_isWhole, 1, some .boolean, 3, 67)
abbrev mX4_hasSecondBay : zY := (yX4_hasSecondBay, cX4_hasSecondBay, 2, some .boolean, 0, 0)
abbrev mX4_readInto : zY := (yX4_readInto, cX4_readInto, 4, none, 1, 24)
abbrev mX5_init : zY := (yX5_init, cX5_init, 1, none, 1, 60)
abbrev mX5_append : zY := (yX5_append, cX5_append, 4, none, 0, 0)
abbrev mX5_copyFrom : zY := (yX5_copyFrom, cX5_copyFrom, 2, none, 1, 60)
abbrev mX6_init : zY := (yX6_init, cX6_init, 1, none, 1, 60)
abbrev mX6_amongTwo : zY := (yX6_amongTwo, cX6_amongTwo, 5, some .int, 1, 24)
abbrev mX6_amongThree : zY := (yX6_amongThree, cX6_amongThree, 4, some .int, 1, 60)
abbrev mX6_giveAway : zY := (yX6_giveAway, cX6_giveAway, 5, none, 0, 0)
abbrev mX6_highestSum : zY := (yX6_highestSum, cX6_highestSum, 5, some .int, 0, 0)
abbrev mX7_init : zY := (yX7_init, cX7_init, 1, none, 3, 100)
abbrev mX7_letter : zY := (yX7_letter, cX7_letter, 2, some .int, 1, 21)
abbrev mX7_blank : zY := (yX7_blank, cX7_blank, 2, some .int, 0, 0)
abbrev mX7_fault : zY := (yX7_fault, cX7_fault, 1, some .int, 3, 67)
abbrev mX7_barn : zY := (yX7_barn, cX7_barn, 1, some .int, 4, 87)
abbrev mX7_cart : zY := (yX7_cart, cX7_cart, 4, some .int, 5, 134)
abbrev mX7_as : zY := (yX7_as, cX7_as, 3, some .int, 1, 21)
abbrev mX7_bay : zY := (yX7_bay, cX7_bay, 3, some .int, 5, 131)
abbrev mX7_cut : zY := (yX7_cut, cX7_cut, 3, some .int, 4, 90)
abbrev mX7_day : zY := (yX7_day, cX7_day, 1, some .int, 4, 90)
abbrev mX7_turn : zY := (yX7_turn, cX7_turn, 2, some .int, 1, 26)
abbrev mX7_rain : zY := (yX7_rain, cX7_rain, 4, some .int, 1, 21)
abbrev mX7_lasts : zY := (yX7_lasts, cX7_lasts, 2, some .int, 6, 137)
abbrev mX7_plan : zY := (yX7_plan, cX7_plan, 3, some .int, 6, 139)
abbrev mX7_share : zY := (yX7_share, cX7_share, 2, some .int, 2, 83)
abbrev mX7_burnt : zY := (yX7_burnt, cX7_burnt, 2, some .int, 5, 114)
abbrev mX7_see : zY := (yX7_see, cX7_see, 4, some .int, 1, 23)
abbrev mX7_forget : zY := (yX7_forget, cX7_forget, 2, some .int, 0, 0)
abbrev mX7_winters : zY := (yX7_winters, cX7_winters, 4, some .int, 5, 118)
abbrev mX7_image : zY := (yX7_image, cX7_image, 1, some .int, 2, 81)
abbrev mX7_restore : zY := (yX7_restore, cX7_restore, 1, some .int, 2, 81)
abbrev mX7_count : zY := (yX7_count, cX7_count, 2, some .int, 2, 82)
abbrev mX7_digest : zY := (yX7_digest, cX7_digest, 5, some .long, 6, 157)
abbrev mX7_with : zY := (yX7_with, cX7_with, 3, some .long, 0, 0)
abbrev mX7_isNoBarn : zY := (yX7_isNoBarn, cX7_isNoBarn, 1, some .boolean, 0, 0)
abbrev mX7_isNoCart : zY := (yX7_isNoCart, cX7_isNoCart, 2, some .boolean, 0, 0)
abbrev mX7_isNoBay : zY := (yX7_isNoBay, cX7_isNoBay, 2, some .boolean, 0, 0)
abbrev mX8_init : zY := (yX8_init, cX8_init, 1, none, 1, 60)
abbrev mX8_in : zY := (yX8_in, cX8_in, 6, some .boolean, 0, 0)
abbrev mX8_copy : zY := (yX8_copy, cX8_copy, 3, none, 0, 0)
abbrev mX8_letter : zY := (yX8_letter, cX8_letter, 2, some .int, 1, 25)
abbrev mX8_blank : zY := (yX8_blank, cX8_blank, 2, some .int, 0, 0)
abbrev mX8_kindBy : zY := (yX8_kindBy, cX8_kindBy, 1, some .int, 0, 0)
abbrev mX8_isGood : zY := (yX8_isGood, cX8_isGood, 3, some .boolean, 1, 25)
abbrev mX8_faultOf : zY := (yX8_faultOf, cX8_faultOf, 2, some .int, 2, 47)
abbrev mX8_fault : zY := (yX8_fault, cX8_fault, 1, some .int, 3, 68)
abbrev mX8_barn : zY := (yX8_barn, cX8_barn, 3, some .int, 3, 68)
abbrev mX8_lacks : zY := (yX8_lacks, cX8_lacks, 1, some .boolean, 0, 0)
abbrev mX8_isCart : zY := (yX8_isCart, cX8_isCart, 2, some .boolean, 1, 25)
abbrev mX8_isBay : zY := (yX8_isBay, cX8_isBay, 2, some .boolean, 1, 25)
abbrev mX8_begin : zY := (yX8_begin, cX8_begin, 1, none, 1, 22)
abbrev mX8_takeThen : zY := (yX8_takeThen, cX8_takeThen, 1, none, 1, 22)
abbrev mX8_goes : zY := (yX8_goes, cX8_goes, 2, none, 0, 0)
abbrev mX8_topOf : zY := (yX8_topOf, cX8_topOf, 4, some .int, 0, 0)
abbrev mX8_gives : zY := (yX8_gives, cX8_gives, 2, some .int, 0, 0)
abbrev mX8_dry : zY := (yX8_dry, cX8_dry, 2, none, 0, 0)
abbrev mX8_cutThen : zY := (yX8_cutThen, cX8_cutThen, 7, some .int, 1, 23)
abbrev mX8_placeOf : zY := (yX8_placeOf, cX8_placeOf, 3, some .int, 0, 0)
abbrev mX8_onIt : zY := (yX8_onIt, cX8_onIt, 7, some .int, 1, 22)
abbrev mX8_warmsBy : zY := (yX8_warmsBy, cX8_warmsBy, 3, some .int, 2, 48)
abbrev mX8_warmAll : zY := (yX8_warmAll, cX8_warmAll, 2, none, 3, 70)
abbrev mX8_dryTops : zY := (yX8_dryTops, cX8_dryTops, 3, none, 1, 23)
abbrev mX8_dayThen : zY := (yX8_dayThen, cX8_dayThen, 6, some .int, 4, 91)
abbrev mX8_hasLight : zY := (yX8_hasLight, cX8_hasLight, 2, some .boolean, 1, 23)
abbrev mX8_lightAll : zY := (yX8_lightAll, cX8_lightAll, 3, some .int, 0, 0)
abbrev mX8_tellCart : zY := (yX8_tellCart, cX8_tellCart, 5, some .int, 6, 143)
abbrev mX8_cart : zY := (yX8_cart, cX8_cart, 3, some .int, 7, 167)
abbrev mX8_as : zY := (yX8_as, cX8_as, 4, some .int, 2, 46)
abbrev mX8_thereAt : zY := (yX8_thereAt, cX8_thereAt, 6, some .int, 0, 0)
abbrev mX8_thereMany : zY := (yX8_thereMany, cX8_thereMany, 4, some .int, 0, 0)
abbrev mX8_lightIn : zY := (yX8_lightIn, cX8_lightIn, 4, some .int, 0, 0)
abbrev mX8_lightOfSet : zY := (yX8_lightOfSet, cX8_lightOfSet, 5, some .int, 1, 25)
abbrev mX8_isSafe : zY := (yX8_isSafe, cX8_isSafe, 5, some .boolean, 5, 116)
abbrev mX8_safeOf : zY := (yX8_safeOf, cX8_safeOf, 5, some .int, 6, 140)
abbrev mX8_tellBay : zY := (yX8_tellBay, cX8_tellBay, 3, some .int, 7, 164)
abbrev mX8_bay : zY := (yX8_bay, cX8_bay, 3, some .int, 8, 186)
abbrev mX8_cut : zY := (yX8_cut, cX8_cut, 4, some .int, 2, 49)
abbrev mX8_day : zY := (yX8_day, cX8_day, 2, some .int, 5, 116)
abbrev mX8_turn : zY := (yX8_turn, cX8_turn, 6, some .int, 2, 46)
abbrev mX8_rain : zY := (yX8_rain, cX8_rain, 4, some .int, 2, 46)
abbrev mX8_leastTop : zY := (yX8_leastTop, cX8_leastTop, 3, some .int, 2, 44)
abbrev mX8_lastsOf : zY := (yX8_lastsOf, cX8_lastsOf, 5, some .int, 5, 116)
abbrev mX8_lasts : zY := (yX8_lasts, cX8_lasts, 2, some .int, 6, 140)
abbrev mX8_worthOf : zY := (yX8_worthOf, cX8_worthOf, 7, some .int, 5, 116)
abbrev mX8_planOf : zY := (yX8_planOf, cX8_planOf, 8, some .int, 6, 143)
abbrev mX8_chosenAt : zY := (yX8_chosenAt, cX8_chosenAt, 8, some .int, 5, 116)
abbrev mX8_plan : zY := (yX8_plan, cX8_plan, 3, some .int, 7, 170)
abbrev mX8_shareOf : zY := (yX8_shareOf, cX8_shareOf, 9, some .int, 1, 22)
abbrev mX8_share : zY := (yX8_share, cX8_share, 2, some .int, 2, 50)
abbrev mX8_burntOf : zY := (yX8_burntOf, cX8_burntOf, 4, some .int, 5, 116)
abbrev mX8_burnt : zY := (yX8_burnt, cX8_burnt, 2, some .int, 6, 139)
abbrev mX8_see : zY := (yX8_see, cX8_see, 4, some .int, 2, 46)
abbrev mX8_forget : zY := (yX8_forget, cX8_forget, 2, some .int, 0, 0)
abbrev mX8_layWays : zY := (yX8_layWays, cX8_layWays, 4, none, 4, 91)
abbrev mX8_wetsLaid : zY := (yX8_wetsLaid, cX8_wetsLaid, 6, some .int, 0, 0)
abbrev mX8_wetsOf : zY := (yX8_wetsOf, cX8_wetsOf, 2, some .int, 5, 114)
abbrev mX8_feelOf : zY := (yX8_feelOf, cX8_feelOf, 10, some .int, 5, 114)
abbrev mX8_draw : zY := (yX8_draw, cX8_draw, 2, some .int, 0, 0)
abbrev mX8_winters : zY := (yX8_winters, cX8_winters, 9, some .int, 5, 116)
abbrev mX8_image : zY := (yX8_image, cX8_image, 1, some .int, 1, 22)
abbrev mX8_restore : zY := (yX8_restore, cX8_restore, 1, some .int, 1, 22)
abbrev mX8_sumOf : zY := (yX8_sumOf, cX8_sumOf, 4, some .int, 0, 0)
abbrev mX8_there : zY := (yX8_there, cX8_there, 3, some .int, 0, 0)
abbrev mX8_warmest : zY := (yX8_warmest, cX8_warmest, 3, some .int, 0, 0)
abbrev mX8_countOf : zY := (yX8_countOf, cX8_countOf, 2, some .int, 1, 23)
abbrev mX8_count : zY := (yX8_count, cX8_count, 2, some .int, 2, 44)
abbrev mX8_say : zY := (yX8_say, cX8_say, 3, none, 0, 0)
abbrev mX8_sayBarn : zY := (yX8_sayBarn, cX8_sayBarn, 1, none, 7, 170)
abbrev mX8_digest : zY := (yX8_digest, cX8_digest, 3, some .long, 8, 190)
abbrev mL_law : zY := (yL_law, code, 4, some .boolean, 11, 424)
def zmB (y : zY) (n : Nat) : Prop := Cond.code y.1 y.2.1 y.2.2.1 y.2.2.2.1 ∈ zT ∧ Cond.initialized y.1.cls ∈ zT ∧ y.1.cls ≠ "java/lang/invoke/MethodHandle" ∧ y.1.cls ≠ "java/lang/invoke/VarHandle" ∧ (parseMethodDescriptor y.1.desc).map (fun d => d.parameters.length) = some n
def zmV (y : zY) (n : Nat) : Prop := zmB y n ∧ Cond.instanceMethod y.1 ∈ zT ∧ Cond.selects y.1.cls y.1 y.1 ∈ zT
def zmS (y : zY) (n : Nat) : Prop := zmB y n ∧ Cond.static y.1 ∈ zT
def zmI (y : zY) (n : Nat) : Prop := zmB y n ∧ y.1.name = "<init>" ∧ Cond.instanceMethod y.1 ∈ zT
theorem kX0_init : zmI mX0_init 0 := ⟨⟨zin 88 (by decide +kernel) rfl, zin 51 (by decide +kernel) rfl, by decide +kernel, by decide +kernel, by decide +kernel⟩, rfl, zin 87 (by decide +kernel) rfl⟩
theorem kX0_copyFrom : zmV mX0_copyFrom 1 := ⟨⟨zin 347 (by decide +kernel) rfl, zin 51 (by decide +kernel) rfl, by decide +kernel, by decide +kernel, by decide +kernel⟩, zin 345 (by decide +kernel) rfl, zin 346 (by decide +kernel) rfl⟩
theorem kX0_empty : zmV mX0_empty 0 := ⟨⟨zin 300 (by decide +kernel) rfl, zin 51 (by decide +kernel) rfl, by decide +kernel, by decide +kernel, by decide +kernel⟩, zin 298 (by decide +kernel) rfl, zin 299 (by decide +kernel) rfl⟩
theorem kX0_lay : zmV mX0_lay 4 := ⟨⟨zin 304 (by decide +kernel) rfl, zin 51 (by decide +kernel) rfl, by decide +kernel, by decide +kernel, by decide +kernel⟩, zin 302 (by decide +kernel) rfl, zin 303 (by decide +kernel) rfl⟩
theorem kX0_isGone : zmV mX0_isGone 1 := ⟨⟨zin 316 (by decide +kernel) rfl, zin 51 (by decide +kernel) rfl, by decide +kernel, by decide +kernel, by decide +kernel⟩, zin 314 (by decide +kernel) rfl, zin 315 (by decide +kernel) rfl⟩
theorem kX0_at : zmV mX0_at 2 := ⟨⟨zin 444 (by decide +kernel) rfl, zin 51 (by decide +kernel) rfl, by decide +kernel, by decide +kernel, by decide +kernel⟩, zin 442 (by decide +kernel) rfl, zin 443 (by decide +kernel) rfl⟩
theorem kX0_top : zmV mX0_top 1 := ⟨⟨zin 362 (by decide +kernel) rfl, zin 51 (by decide +kernel) rfl, by decide +kernel, by decide +kernel, by decide +kernel⟩, zin 360 (by decide +kernel) rfl, zin 361 (by decide +kernel) rfl⟩
theorem kX0_placeOf : zmV mX0_placeOf 1 := ⟨⟨zin 324 (by decide +kernel) rfl, zin 51 (by decide +kernel) rfl, by decide +kernel, by decide +kernel, by decide +kernel⟩, zin 322 (by decide +kernel) rfl, zin 323 (by decide +kernel) rfl⟩
theorem kX0_howManyOn : zmV mX0_howManyOn 1 := ⟨⟨zin 320 (by decide +kernel) rfl, zin 51 (by decide +kernel) rfl, by decide +kernel, by decide +kernel, by decide +kernel⟩, zin 318 (by decide +kernel) rfl, zin 319 (by decide +kernel) rfl⟩
theorem kX0_lightOf : zmV mX0_lightOf 1 := ⟨⟨zin 408 (by decide +kernel) rfl, zin 51 (by decide +kernel) rfl, by decide +kernel, by decide +kernel, by decide +kernel⟩, zin 406 (by decide +kernel) rfl, zin 407 (by decide +kernel) rfl⟩
theorem kX0_lightOfSome : zmV mX0_lightOfSome 2 := ⟨⟨zin 416 (by decide +kernel) rfl, zin 51 (by decide +kernel) rfl, by decide +kernel, by decide +kernel, by decide +kernel⟩, zin 414 (by decide +kernel) rfl, zin 415 (by decide +kernel) rfl⟩
theorem kX0_lightOfAll : zmV mX0_lightOfAll 0 := ⟨⟨zin 526 (by decide +kernel) rfl, zin 51 (by decide +kernel) rfl, by decide +kernel, by decide +kernel, by decide +kernel⟩, zin 524 (by decide +kernel) rfl, zin 525 (by decide +kernel) rfl⟩
theorem kX0_wetOfAll : zmV mX0_wetOfAll 0 := ⟨⟨zin 613 (by decide +kernel) rfl, zin 51 (by decide +kernel) rfl, by decide +kernel, by decide +kernel, by decide +kernel⟩, zin 611 (by decide +kernel) rfl, zin 612 (by decide +kernel) rfl⟩
theorem kX0_mostWarm : zmV mX0_mostWarm 0 := ⟨⟨zin 617 (by decide +kernel) rfl, zin 51 (by decide +kernel) rfl, by decide +kernel, by decide +kernel, by decide +kernel⟩, zin 615 (by decide +kernel) rfl, zin 616 (by decide +kernel) rfl⟩
theorem kX0_howManyLie : zmV mX0_howManyLie 0 := ⟨⟨zin 522 (by decide +kernel) rfl, zin 51 (by decide +kernel) rfl, by decide +kernel, by decide +kernel, by decide +kernel⟩, zin 520 (by decide +kernel) rfl, zin 521 (by decide +kernel) rfl⟩
theorem kX0_gain : zmV mX0_gain 1 := ⟨⟨zin 328 (by decide +kernel) rfl, zin 51 (by decide +kernel) rfl, by decide +kernel, by decide +kernel, by decide +kernel⟩, zin 326 (by decide +kernel) rfl, zin 327 (by decide +kernel) rfl⟩
theorem kX0_gainAt : zmV mX0_gainAt 2 := ⟨⟨zin 332 (by decide +kernel) rfl, zin 51 (by decide +kernel) rfl, by decide +kernel, by decide +kernel, by decide +kernel⟩, zin 330 (by decide +kernel) rfl, zin 331 (by decide +kernel) rfl⟩
theorem kX0_warmBay : zmV mX0_warmBay 1 := ⟨⟨zin 354 (by decide +kernel) rfl, zin 51 (by decide +kernel) rfl, by decide +kernel, by decide +kernel, by decide +kernel⟩, zin 352 (by decide +kernel) rfl, zin 353 (by decide +kernel) rfl⟩
theorem kX0_burnBay : zmV mX0_burnBay 1 := ⟨⟨zin 434 (by decide +kernel) rfl, zin 51 (by decide +kernel) rfl, by decide +kernel, by decide +kernel, by decide +kernel⟩, zin 432 (by decide +kernel) rfl, zin 433 (by decide +kernel) rfl⟩
theorem kX0_loseFrom : zmV mX0_loseFrom 2 := ⟨⟨zin 438 (by decide +kernel) rfl, zin 51 (by decide +kernel) rfl, by decide +kernel, by decide +kernel, by decide +kernel⟩, zin 436 (by decide +kernel) rfl, zin 437 (by decide +kernel) rfl⟩
theorem kX0_lose : zmV mX0_lose 1 := ⟨⟨zin 429 (by decide +kernel) rfl, zin 51 (by decide +kernel) rfl, by decide +kernel, by decide +kernel, by decide +kernel⟩, zin 427 (by decide +kernel) rfl, zin 428 (by decide +kernel) rfl⟩
theorem kX0_dryTop : zmV mX0_dryTop 1 := ⟨⟨zin 358 (by decide +kernel) rfl, zin 51 (by decide +kernel) rfl, by decide +kernel, by decide +kernel, by decide +kernel⟩, zin 356 (by decide +kernel) rfl, zin 357 (by decide +kernel) rfl⟩
theorem kX0_passDay : zmV mX0_passDay 0 := ⟨⟨zin 471 (by decide +kernel) rfl, zin 51 (by decide +kernel) rfl, by decide +kernel, by decide +kernel, by decide +kernel⟩, zin 469 (by decide +kernel) rfl, zin 470 (by decide +kernel) rfl⟩
theorem kX0_slice : zmV mX0_slice 2 := ⟨⟨zin 452 (by decide +kernel) rfl, zin 51 (by decide +kernel) rfl, by decide +kernel, by decide +kernel, by decide +kernel⟩, zin 450 (by decide +kernel) rfl, zin 451 (by decide +kernel) rfl⟩
theorem kX0_dryTopsBut : zmV mX0_dryTopsBut 1 := ⟨⟨zin 458 (by decide +kernel) rfl, zin 51 (by decide +kernel) rfl, by decide +kernel, by decide +kernel, by decide +kernel⟩, zin 456 (by decide +kernel) rfl, zin 457 (by decide +kernel) rfl⟩
theorem kX0_turnOver : zmV mX0_turnOver 1 := ⟨⟨zin 481 (by decide +kernel) rfl, zin 51 (by decide +kernel) rfl, by decide +kernel, by decide +kernel, by decide +kernel⟩, zin 479 (by decide +kernel) rfl, zin 480 (by decide +kernel) rfl⟩
theorem kX0_takeOut : zmV mX0_takeOut 2 := ⟨⟨zin 425 (by decide +kernel) rfl, zin 51 (by decide +kernel) rfl, by decide +kernel, by decide +kernel, by decide +kernel⟩, zin 423 (by decide +kernel) rfl, zin 424 (by decide +kernel) rfl⟩
theorem kX0_bayOfLeastLight : zmV mX0_bayOfLeastLight 0 := ⟨⟨zin 501 (by decide +kernel) rfl, zin 51 (by decide +kernel) rfl, by decide +kernel, by decide +kernel, by decide +kernel⟩, zin 499 (by decide +kernel) rfl, zin 500 (by decide +kernel) rfl⟩
theorem kX1_init : zmI mX1_init 0 := ⟨⟨zin 195 (by decide +kernel) rfl, zin 54 (by decide +kernel) rfl, by decide +kernel, by decide +kernel, by decide +kernel⟩, rfl, zin 194 (by decide +kernel) rfl⟩
theorem kX1_wets : zmV mX1_wets 3 := ⟨⟨zin 339 (by decide +kernel) rfl, zin 54 (by decide +kernel) rfl, by decide +kernel, by decide +kernel, by decide +kernel⟩, zin 337 (by decide +kernel) rfl, zin 338 (by decide +kernel) rfl⟩
theorem kX1_bestDay : zmV mX1_bestDay 3 := ⟨⟨zin 377 (by decide +kernel) rfl, zin 54 (by decide +kernel) rfl, by decide +kernel, by decide +kernel, by decide +kernel⟩, zin 375 (by decide +kernel) rfl, zin 376 (by decide +kernel) rfl⟩
theorem kX1_tryAll : zmV mX1_tryAll 2 := ⟨⟨zin 343 (by decide +kernel) rfl, zin 54 (by decide +kernel) rfl, by decide +kernel, by decide +kernel, by decide +kernel⟩, zin 341 (by decide +kernel) rfl, zin 342 (by decide +kernel) rfl⟩
theorem kX1_wetsThatFit : zmV mX1_wetsThatFit 2 := ⟨⟨zin 369 (by decide +kernel) rfl, zin 54 (by decide +kernel) rfl, by decide +kernel, by decide +kernel, by decide +kernel⟩, zin 367 (by decide +kernel) rfl, zin 368 (by decide +kernel) rfl⟩
theorem kX1_fits : zmV mX1_fits 3 := ⟨⟨zin 373 (by decide +kernel) rfl, zin 54 (by decide +kernel) rfl, by decide +kernel, by decide +kernel, by decide +kernel⟩, zin 371 (by decide +kernel) rfl, zin 372 (by decide +kernel) rfl⟩
theorem kX1_leftAtWorst : zmV mX1_leftAtWorst 2 := ⟨⟨zin 381 (by decide +kernel) rfl, zin 54 (by decide +kernel) rfl, by decide +kernel, by decide +kernel, by decide +kernel⟩, zin 379 (by decide +kernel) rfl, zin 380 (by decide +kernel) rfl⟩
theorem kX2_init : zmI mX2_init 0 := ⟨⟨zin 176 (by decide +kernel) rfl, zin 53 (by decide +kernel) rfl, by decide +kernel, by decide +kernel, by decide +kernel⟩, rfl, zin 175 (by decide +kernel) rfl⟩
theorem kX2_daysItLasts : zmV mX2_daysItLasts 2 := ⟨⟨zin 493 (by decide +kernel) rfl, zin 53 (by decide +kernel) rfl, by decide +kernel, by decide +kernel, by decide +kernel⟩, zin 491 (by decide +kernel) rfl, zin 492 (by decide +kernel) rfl⟩
theorem kX2_isFed : zmV mX2_isFed 1 := ⟨⟨zin 497 (by decide +kernel) rfl, zin 53 (by decide +kernel) rfl, by decide +kernel, by decide +kernel, by decide +kernel⟩, zin 495 (by decide +kernel) rfl, zin 496 (by decide +kernel) rfl⟩
theorem kX2_makePlan : zmV mX2_makePlan 2 := ⟨⟨zin 511 (by decide +kernel) rfl, zin 53 (by decide +kernel) rfl, by decide +kernel, by decide +kernel, by decide +kernel⟩, zin 509 (by decide +kernel) rfl, zin 510 (by decide +kernel) rfl⟩
theorem kX2_plannedBay : zmV mX2_plannedBay 2 := ⟨⟨zin 530 (by decide +kernel) rfl, zin 53 (by decide +kernel) rfl, by decide +kernel, by decide +kernel, by decide +kernel⟩, zin 528 (by decide +kernel) rfl, zin 529 (by decide +kernel) rfl⟩
theorem kX2_bayIn : zmS mX2_bayIn 3 := ⟨⟨zin 518 (by decide +kernel) rfl, zin 53 (by decide +kernel) rfl, by decide +kernel, by decide +kernel, by decide +kernel⟩, zin 517 (by decide +kernel) rfl⟩
theorem kX2_worthOf : zmV mX2_worthOf 3 := ⟨⟨zin 515 (by decide +kernel) rfl, zin 53 (by decide +kernel) rfl, by decide +kernel, by decide +kernel, by decide +kernel⟩, zin 513 (by decide +kernel) rfl, zin 514 (by decide +kernel) rfl⟩
theorem kX2_safe : zmV mX2_safe 2 := ⟨⟨zin 412 (by decide +kernel) rfl, zin 53 (by decide +kernel) rfl, by decide +kernel, by decide +kernel, by decide +kernel⟩, zin 410 (by decide +kernel) rfl, zin 411 (by decide +kernel) rfl⟩
theorem kX2_isSafeWithout : zmV mX2_isSafeWithout 3 := ⟨⟨zin 420 (by decide +kernel) rfl, zin 53 (by decide +kernel) rfl, by decide +kernel, by decide +kernel, by decide +kernel⟩, zin 418 (by decide +kernel) rfl, zin 419 (by decide +kernel) rfl⟩
theorem kX2_goneBehind : zmV mX2_goneBehind 2 := ⟨⟨zin 559 (by decide +kernel) rfl, zin 53 (by decide +kernel) rfl, by decide +kernel, by decide +kernel, by decide +kernel⟩, zin 557 (by decide +kernel) rfl, zin 558 (by decide +kernel) rfl⟩
theorem kX2_winter : zmV mX2_winter 4 := ⟨⟨zin 580 (by decide +kernel) rfl, zin 53 (by decide +kernel) rfl, by decide +kernel, by decide +kernel, by decide +kernel⟩, zin 578 (by decide +kernel) rfl, zin 579 (by decide +kernel) rfl⟩
theorem kX2_seedBehind : zmS mX2_seedBehind 1 := ⟨⟨zin 583 (by decide +kernel) rfl, zin 53 (by decide +kernel) rfl, by decide +kernel, by decide +kernel, by decide +kernel⟩, zin 582 (by decide +kernel) rfl⟩
theorem kX2_drawOf : zmS mX2_drawOf 2 := ⟨⟨zin 589 (by decide +kernel) rfl, zin 53 (by decide +kernel) rfl, by decide +kernel, by decide +kernel, by decide +kernel⟩, zin 588 (by decide +kernel) rfl⟩
theorem kX3_ofLetter : zmS mX3_ofLetter 1 := ⟨⟨zin 279 (by decide +kernel) rfl, zin 57 (by decide +kernel) rfl, by decide +kernel, by decide +kernel, by decide +kernel⟩, zin 278 (by decide +kernel) rfl⟩
theorem kX3_isA : zmS mX3_isA 2 := ⟨⟨zin 395 (by decide +kernel) rfl, zin 57 (by decide +kernel) rfl, by decide +kernel, by decide +kernel, by decide +kernel⟩, zin 394 (by decide +kernel) rfl⟩
theorem kX3_gives : zmS mX3_gives 2 := ⟨⟨zin 388 (by decide +kernel) rfl, zin 57 (by decide +kernel) rfl, by decide +kernel, by decide +kernel, by decide +kernel⟩, zin 387 (by decide +kernel) rfl⟩
theorem kX3_warms : zmS mX3_warms 2 := ⟨⟨zin 335 (by decide +kernel) rfl, zin 57 (by decide +kernel) rfl, by decide +kernel, by decide +kernel, by decide +kernel⟩, zin 334 (by decide +kernel) rfl⟩
theorem kX4_init : zmI mX4_init 0 := ⟨⟨zin 72 (by decide +kernel) rfl, zin 50 (by decide +kernel) rfl, by decide +kernel, by decide +kernel, by decide +kernel⟩, rfl, zin 71 (by decide +kernel) rfl⟩
theorem kX4_append : zmV mX4_append 1 := ⟨⟨zin 261 (by decide +kernel) rfl, zin 50 (by decide +kernel) rfl, by decide +kernel, by decide +kernel, by decide +kernel⟩, zin 259 (by decide +kernel) rfl, zin 260 (by decide +kernel) rfl⟩
theorem kX4_firstFault : zmV mX4_firstFault 0 := ⟨⟨zin 273 (by decide +kernel) rfl, zin 50 (by decide +kernel) rfl, by decide +kernel, by decide +kernel, by decide +kernel⟩, zin 271 (by decide +kernel) rfl, zin 272 (by decide +kernel) rfl⟩
theorem kX4_isDue : zmS mX4_isDue 4 := ⟨⟨zin 276 (by decide +kernel) rfl, zin 50 (by decide +kernel) rfl, by decide +kernel, by decide +kernel, by decide +kernel⟩, zin 275 (by decide +kernel) rfl⟩
theorem kX4_isWhole : zmV mX4_isWhole 0 := ⟨⟨zin 287 (by decide +kernel) rfl, zin 50 (by decide +kernel) rfl, by decide +kernel, by decide +kernel, by decide +kernel⟩, zin 285 (by decide +kernel) rfl, zin 286 (by decide +kernel) rfl⟩
theorem kX4_hasSecondBay : zmV mX4_hasSecondBay 0 := ⟨⟨zin 292 (by decide +kernel) rfl, zin 50 (by decide +kernel) rfl, by decide +kernel, by decide +kernel, by decide +kernel⟩, zin 290 (by decide +kernel) rfl, zin 291 (by decide +kernel) rfl⟩
theorem kX4_readInto : zmV mX4_readInto 1 := ⟨⟨zin 296 (by decide +kernel) rfl, zin 50 (by decide +kernel) rfl, by decide +kernel, by decide +kernel, by decide +kernel⟩, zin 294 (by decide +kernel) rfl, zin 295 (by decide +kernel) rfl⟩
theorem kX5_init : zmI mX5_init 0 := ⟨⟨zin 152 (by decide +kernel) rfl, zin 52 (by decide +kernel) rfl, by decide +kernel, by decide +kernel, by decide +kernel⟩, rfl, zin 151 (by decide +kernel) rfl⟩
theorem kX5_append : zmV mX5_append 3 := ⟨⟨zin 568 (by decide +kernel) rfl, zin 52 (by decide +kernel) rfl, by decide +kernel, by decide +kernel, by decide +kernel⟩, zin 566 (by decide +kernel) rfl, zin 567 (by decide +kernel) rfl⟩
theorem kX5_copyFrom : zmV mX5_copyFrom 1 := ⟨⟨zin 598 (by decide +kernel) rfl, zin 52 (by decide +kernel) rfl, by decide +kernel, by decide +kernel, by decide +kernel⟩, zin 596 (by decide +kernel) rfl, zin 597 (by decide +kernel) rfl⟩
theorem kX6_init : zmI mX6_init 0 := ⟨⟨zin 213 (by decide +kernel) rfl, zin 55 (by decide +kernel) rfl, by decide +kernel, by decide +kernel, by decide +kernel⟩, rfl, zin 212 (by decide +kernel) rfl⟩
theorem kX6_amongTwo : zmV mX6_amongTwo 1 := ⟨⟨zin 538 (by decide +kernel) rfl, zin 55 (by decide +kernel) rfl, by decide +kernel, by decide +kernel, by decide +kernel⟩, zin 536 (by decide +kernel) rfl, zin 537 (by decide +kernel) rfl⟩
theorem kX6_amongThree : zmV mX6_amongThree 1 := ⟨⟨zin 546 (by decide +kernel) rfl, zin 55 (by decide +kernel) rfl, by decide +kernel, by decide +kernel, by decide +kernel⟩, zin 544 (by decide +kernel) rfl, zin 545 (by decide +kernel) rfl⟩
theorem kX6_giveAway : zmV mX6_giveAway 1 := ⟨⟨zin 550 (by decide +kernel) rfl, zin 55 (by decide +kernel) rfl, by decide +kernel, by decide +kernel, by decide +kernel⟩, zin 548 (by decide +kernel) rfl, zin 549 (by decide +kernel) rfl⟩
theorem kX6_highestSum : zmS mX6_highestSum 3 := ⟨⟨zin 542 (by decide +kernel) rfl, zin 55 (by decide +kernel) rfl, by decide +kernel, by decide +kernel, by decide +kernel⟩, zin 541 (by decide +kernel) rfl⟩
theorem kX7_init : zmI mX7_init 0 := ⟨⟨zin 64 (by decide +kernel) rfl, zin 49 (by decide +kernel) rfl, by decide +kernel, by decide +kernel, by decide +kernel⟩, rfl, zin 63 (by decide +kernel) rfl⟩
theorem kX7_letter : zmV mX7_letter 1 := ⟨⟨zin 257 (by decide +kernel) rfl, zin 49 (by decide +kernel) rfl, by decide +kernel, by decide +kernel, by decide +kernel⟩, zin 255 (by decide +kernel) rfl, zin 256 (by decide +kernel) rfl⟩
theorem kX7_blank : zmV mX7_blank 0 := ⟨⟨zin 265 (by decide +kernel) rfl, zin 49 (by decide +kernel) rfl, by decide +kernel, by decide +kernel, by decide +kernel⟩, zin 263 (by decide +kernel) rfl, zin 264 (by decide +kernel) rfl⟩
theorem kX7_fault : zmV mX7_fault 0 := ⟨⟨zin 269 (by decide +kernel) rfl, zin 49 (by decide +kernel) rfl, by decide +kernel, by decide +kernel, by decide +kernel⟩, zin 267 (by decide +kernel) rfl, zin 268 (by decide +kernel) rfl⟩
theorem kX7_barn : zmV mX7_barn 0 := ⟨⟨zin 283 (by decide +kernel) rfl, zin 49 (by decide +kernel) rfl, by decide +kernel, by decide +kernel, by decide +kernel⟩, zin 281 (by decide +kernel) rfl, zin 282 (by decide +kernel) rfl⟩
theorem kX7_cart : zmV mX7_cart 2 := ⟨⟨zin 308 (by decide +kernel) rfl, zin 49 (by decide +kernel) rfl, by decide +kernel, by decide +kernel, by decide +kernel⟩, zin 306 (by decide +kernel) rfl, zin 307 (by decide +kernel) rfl⟩
theorem kX7_as : zmV mX7_as 2 := ⟨⟨zin 392 (by decide +kernel) rfl, zin 49 (by decide +kernel) rfl, by decide +kernel, by decide +kernel, by decide +kernel⟩, zin 390 (by decide +kernel) rfl, zin 391 (by decide +kernel) rfl⟩
theorem kX7_bay : zmV mX7_bay 2 := ⟨⟨zin 399 (by decide +kernel) rfl, zin 49 (by decide +kernel) rfl, by decide +kernel, by decide +kernel, by decide +kernel⟩, zin 397 (by decide +kernel) rfl, zin 398 (by decide +kernel) rfl⟩
theorem kX7_cut : zmV mX7_cut 2 := ⟨⟨zin 448 (by decide +kernel) rfl, zin 49 (by decide +kernel) rfl, by decide +kernel, by decide +kernel, by decide +kernel⟩, zin 446 (by decide +kernel) rfl, zin 447 (by decide +kernel) rfl⟩
theorem kX7_day : zmV mX7_day 0 := ⟨⟨zin 463 (by decide +kernel) rfl, zin 49 (by decide +kernel) rfl, by decide +kernel, by decide +kernel, by decide +kernel⟩, zin 461 (by decide +kernel) rfl, zin 462 (by decide +kernel) rfl⟩
theorem kX7_turn : zmV mX7_turn 1 := ⟨⟨zin 477 (by decide +kernel) rfl, zin 49 (by decide +kernel) rfl, by decide +kernel, by decide +kernel, by decide +kernel⟩, zin 475 (by decide +kernel) rfl, zin 476 (by decide +kernel) rfl⟩
theorem kX7_rain : zmV mX7_rain 2 := ⟨⟨zin 485 (by decide +kernel) rfl, zin 49 (by decide +kernel) rfl, by decide +kernel, by decide +kernel, by decide +kernel⟩, zin 483 (by decide +kernel) rfl, zin 484 (by decide +kernel) rfl⟩
theorem kX7_lasts : zmV mX7_lasts 1 := ⟨⟨zin 489 (by decide +kernel) rfl, zin 49 (by decide +kernel) rfl, by decide +kernel, by decide +kernel, by decide +kernel⟩, zin 487 (by decide +kernel) rfl, zin 488 (by decide +kernel) rfl⟩
theorem kX7_plan : zmV mX7_plan 2 := ⟨⟨zin 507 (by decide +kernel) rfl, zin 49 (by decide +kernel) rfl, by decide +kernel, by decide +kernel, by decide +kernel⟩, zin 505 (by decide +kernel) rfl, zin 506 (by decide +kernel) rfl⟩
theorem kX7_share : zmV mX7_share 1 := ⟨⟨zin 534 (by decide +kernel) rfl, zin 49 (by decide +kernel) rfl, by decide +kernel, by decide +kernel, by decide +kernel⟩, zin 532 (by decide +kernel) rfl, zin 533 (by decide +kernel) rfl⟩
theorem kX7_burnt : zmV mX7_burnt 1 := ⟨⟨zin 555 (by decide +kernel) rfl, zin 49 (by decide +kernel) rfl, by decide +kernel, by decide +kernel, by decide +kernel⟩, zin 553 (by decide +kernel) rfl, zin 554 (by decide +kernel) rfl⟩
theorem kX7_see : zmV mX7_see 3 := ⟨⟨zin 564 (by decide +kernel) rfl, zin 49 (by decide +kernel) rfl, by decide +kernel, by decide +kernel, by decide +kernel⟩, zin 562 (by decide +kernel) rfl, zin 563 (by decide +kernel) rfl⟩
theorem kX7_forget : zmV mX7_forget 0 := ⟨⟨zin 572 (by decide +kernel) rfl, zin 49 (by decide +kernel) rfl, by decide +kernel, by decide +kernel, by decide +kernel⟩, zin 570 (by decide +kernel) rfl, zin 571 (by decide +kernel) rfl⟩
theorem kX7_winters : zmV mX7_winters 3 := ⟨⟨zin 576 (by decide +kernel) rfl, zin 49 (by decide +kernel) rfl, by decide +kernel, by decide +kernel, by decide +kernel⟩, zin 574 (by decide +kernel) rfl, zin 575 (by decide +kernel) rfl⟩
theorem kX7_image : zmV mX7_image 0 := ⟨⟨zin 593 (by decide +kernel) rfl, zin 49 (by decide +kernel) rfl, by decide +kernel, by decide +kernel, by decide +kernel⟩, zin 591 (by decide +kernel) rfl, zin 592 (by decide +kernel) rfl⟩
theorem kX7_restore : zmV mX7_restore 0 := ⟨⟨zin 603 (by decide +kernel) rfl, zin 49 (by decide +kernel) rfl, by decide +kernel, by decide +kernel, by decide +kernel⟩, zin 601 (by decide +kernel) rfl, zin 602 (by decide +kernel) rfl⟩
theorem kX7_count : zmV mX7_count 1 := ⟨⟨zin 607 (by decide +kernel) rfl, zin 49 (by decide +kernel) rfl, by decide +kernel, by decide +kernel, by decide +kernel⟩, zin 605 (by decide +kernel) rfl, zin 606 (by decide +kernel) rfl⟩
theorem kX7_digest : zmV mX7_digest 0 := ⟨⟨zin 622 (by decide +kernel) rfl, zin 49 (by decide +kernel) rfl, by decide +kernel, by decide +kernel, by decide +kernel⟩, zin 620 (by decide +kernel) rfl, zin 621 (by decide +kernel) rfl⟩
theorem kX7_with : zmS mX7_with 2 := ⟨⟨zin 627 (by decide +kernel) rfl, zin 49 (by decide +kernel) rfl, by decide +kernel, by decide +kernel, by decide +kernel⟩, zin 626 (by decide +kernel) rfl⟩
theorem kX7_isNoBarn : zmV mX7_isNoBarn 0 := ⟨⟨zin 467 (by decide +kernel) rfl, zin 49 (by decide +kernel) rfl, by decide +kernel, by decide +kernel, by decide +kernel⟩, zin 466 (by decide +kernel) rfl, zin 2 (by decide +kernel) rfl⟩
theorem kX7_isNoCart : zmV mX7_isNoCart 1 := ⟨⟨zin 312 (by decide +kernel) rfl, zin 49 (by decide +kernel) rfl, by decide +kernel, by decide +kernel, by decide +kernel⟩, zin 311 (by decide +kernel) rfl, zin 0 (by decide +kernel) rfl⟩
theorem kX7_isNoBay : zmV mX7_isNoBay 1 := ⟨⟨zin 403 (by decide +kernel) rfl, zin 49 (by decide +kernel) rfl, by decide +kernel, by decide +kernel, by decide +kernel⟩, zin 402 (by decide +kernel) rfl, zin 1 (by decide +kernel) rfl⟩
theorem kX8_init : zmI mX8_init 0 := ⟨⟨zin 635 (by decide +kernel) rfl, zin 56 (by decide +kernel) rfl, by decide +kernel, by decide +kernel, by decide +kernel⟩, rfl, zin 634 (by decide +kernel) rfl⟩
theorem kX8_in : zmS mX8_in 3 := ⟨⟨zin 762 (by decide +kernel) rfl, zin 56 (by decide +kernel) rfl, by decide +kernel, by decide +kernel, by decide +kernel⟩, zin 761 (by decide +kernel) rfl⟩
theorem kX8_copy : zmS mX8_copy 2 := ⟨⟨zin 807 (by decide +kernel) rfl, zin 56 (by decide +kernel) rfl, by decide +kernel, by decide +kernel, by decide +kernel⟩, zin 806 (by decide +kernel) rfl⟩
theorem kX8_letter : zmV mX8_letter 1 := ⟨⟨zin 758 (by decide +kernel) rfl, zin 56 (by decide +kernel) rfl, by decide +kernel, by decide +kernel, by decide +kernel⟩, zin 756 (by decide +kernel) rfl, zin 757 (by decide +kernel) rfl⟩
theorem kX8_blank : zmV mX8_blank 0 := ⟨⟨zin 766 (by decide +kernel) rfl, zin 56 (by decide +kernel) rfl, by decide +kernel, by decide +kernel, by decide +kernel⟩, zin 764 (by decide +kernel) rfl, zin 765 (by decide +kernel) rfl⟩
theorem kX8_kindBy : zmS mX8_kindBy 1 := ⟨⟨zin 781 (by decide +kernel) rfl, zin 56 (by decide +kernel) rfl, by decide +kernel, by decide +kernel, by decide +kernel⟩, zin 780 (by decide +kernel) rfl⟩
theorem kX8_isGood : zmV mX8_isGood 2 := ⟨⟨zin 778 (by decide +kernel) rfl, zin 56 (by decide +kernel) rfl, by decide +kernel, by decide +kernel, by decide +kernel⟩, zin 777 (by decide +kernel) rfl, zin 4 (by decide +kernel) rfl⟩
theorem kX8_faultOf : zmV mX8_faultOf 0 := ⟨⟨zin 774 (by decide +kernel) rfl, zin 56 (by decide +kernel) rfl, by decide +kernel, by decide +kernel, by decide +kernel⟩, zin 773 (by decide +kernel) rfl, zin 3 (by decide +kernel) rfl⟩
theorem kX8_fault : zmV mX8_fault 0 := ⟨⟨zin 770 (by decide +kernel) rfl, zin 56 (by decide +kernel) rfl, by decide +kernel, by decide +kernel, by decide +kernel⟩, zin 768 (by decide +kernel) rfl, zin 769 (by decide +kernel) rfl⟩
theorem kX8_barn : zmV mX8_barn 0 := ⟨⟨zin 788 (by decide +kernel) rfl, zin 56 (by decide +kernel) rfl, by decide +kernel, by decide +kernel, by decide +kernel⟩, zin 786 (by decide +kernel) rfl, zin 787 (by decide +kernel) rfl⟩
theorem kX8_lacks : zmV mX8_lacks 0 := ⟨⟨zin 930 (by decide +kernel) rfl, zin 56 (by decide +kernel) rfl, by decide +kernel, by decide +kernel, by decide +kernel⟩, zin 929 (by decide +kernel) rfl, zin 32 (by decide +kernel) rfl⟩
theorem kX8_isCart : zmV mX8_isCart 1 := ⟨⟨zin 796 (by decide +kernel) rfl, zin 56 (by decide +kernel) rfl, by decide +kernel, by decide +kernel, by decide +kernel⟩, zin 795 (by decide +kernel) rfl, zin 5 (by decide +kernel) rfl⟩
theorem kX8_isBay : zmV mX8_isBay 1 := ⟨⟨zin 869 (by decide +kernel) rfl, zin 56 (by decide +kernel) rfl, by decide +kernel, by decide +kernel, by decide +kernel⟩, zin 868 (by decide +kernel) rfl, zin 19 (by decide +kernel) rfl⟩
theorem kX8_begin : zmV mX8_begin 0 := ⟨⟨zin 804 (by decide +kernel) rfl, zin 56 (by decide +kernel) rfl, by decide +kernel, by decide +kernel, by decide +kernel⟩, zin 803 (by decide +kernel) rfl, zin 7 (by decide +kernel) rfl⟩
theorem kX8_takeThen : zmV mX8_takeThen 0 := ⟨⟨zin 922 (by decide +kernel) rfl, zin 56 (by decide +kernel) rfl, by decide +kernel, by decide +kernel, by decide +kernel⟩, zin 921 (by decide +kernel) rfl, zin 31 (by decide +kernel) rfl⟩
theorem kX8_goes : zmV mX8_goes 1 := ⟨⟨zin 901 (by decide +kernel) rfl, zin 56 (by decide +kernel) rfl, by decide +kernel, by decide +kernel, by decide +kernel⟩, zin 900 (by decide +kernel) rfl, zin 27 (by decide +kernel) rfl⟩
theorem kX8_topOf : zmV mX8_topOf 1 := ⟨⟨zin 844 (by decide +kernel) rfl, zin 56 (by decide +kernel) rfl, by decide +kernel, by decide +kernel, by decide +kernel⟩, zin 843 (by decide +kernel) rfl, zin 15 (by decide +kernel) rfl⟩
theorem kX8_gives : zmS mX8_gives 2 := ⟨⟨zin 812 (by decide +kernel) rfl, zin 56 (by decide +kernel) rfl, by decide +kernel, by decide +kernel, by decide +kernel⟩, zin 811 (by decide +kernel) rfl⟩
theorem kX8_dry : zmV mX8_dry 1 := ⟨⟨zin 848 (by decide +kernel) rfl, zin 56 (by decide +kernel) rfl, by decide +kernel, by decide +kernel, by decide +kernel⟩, zin 847 (by decide +kernel) rfl, zin 16 (by decide +kernel) rfl⟩
theorem kX8_cutThen : zmV mX8_cutThen 2 := ⟨⟨zin 918 (by decide +kernel) rfl, zin 56 (by decide +kernel) rfl, by decide +kernel, by decide +kernel, by decide +kernel⟩, zin 917 (by decide +kernel) rfl, zin 30 (by decide +kernel) rfl⟩
theorem kX8_placeOf : zmV mX8_placeOf 1 := ⟨⟨zin 820 (by decide +kernel) rfl, zin 56 (by decide +kernel) rfl, by decide +kernel, by decide +kernel, by decide +kernel⟩, zin 819 (by decide +kernel) rfl, zin 9 (by decide +kernel) rfl⟩
theorem kX8_onIt : zmV mX8_onIt 2 := ⟨⟨zin 816 (by decide +kernel) rfl, zin 56 (by decide +kernel) rfl, by decide +kernel, by decide +kernel, by decide +kernel⟩, zin 815 (by decide +kernel) rfl, zin 8 (by decide +kernel) rfl⟩
theorem kX8_warmsBy : zmV mX8_warmsBy 1 := ⟨⟨zin 824 (by decide +kernel) rfl, zin 56 (by decide +kernel) rfl, by decide +kernel, by decide +kernel, by decide +kernel⟩, zin 823 (by decide +kernel) rfl, zin 10 (by decide +kernel) rfl⟩
theorem kX8_warmAll : zmV mX8_warmAll 0 := ⟨⟨zin 836 (by decide +kernel) rfl, zin 56 (by decide +kernel) rfl, by decide +kernel, by decide +kernel, by decide +kernel⟩, zin 835 (by decide +kernel) rfl, zin 13 (by decide +kernel) rfl⟩
theorem kX8_dryTops : zmV mX8_dryTops 0 := ⟨⟨zin 840 (by decide +kernel) rfl, zin 56 (by decide +kernel) rfl, by decide +kernel, by decide +kernel, by decide +kernel⟩, zin 839 (by decide +kernel) rfl, zin 14 (by decide +kernel) rfl⟩
theorem kX8_dayThen : zmV mX8_dayThen 0 := ⟨⟨zin 905 (by decide +kernel) rfl, zin 56 (by decide +kernel) rfl, by decide +kernel, by decide +kernel, by decide +kernel⟩, zin 904 (by decide +kernel) rfl, zin 28 (by decide +kernel) rfl⟩
theorem kX8_hasLight : zmV mX8_hasLight 1 := ⟨⟨zin 914 (by decide +kernel) rfl, zin 56 (by decide +kernel) rfl, by decide +kernel, by decide +kernel, by decide +kernel⟩, zin 913 (by decide +kernel) rfl, zin 29 (by decide +kernel) rfl⟩
theorem kX8_lightAll : zmV mX8_lightAll 0 := ⟨⟨zin 969 (by decide +kernel) rfl, zin 56 (by decide +kernel) rfl, by decide +kernel, by decide +kernel, by decide +kernel⟩, zin 968 (by decide +kernel) rfl, zin 37 (by decide +kernel) rfl⟩
theorem kX8_tellCart : zmV mX8_tellCart 2 := ⟨⟨zin 800 (by decide +kernel) rfl, zin 56 (by decide +kernel) rfl, by decide +kernel, by decide +kernel, by decide +kernel⟩, zin 799 (by decide +kernel) rfl, zin 6 (by decide +kernel) rfl⟩
theorem kX8_cart : zmV mX8_cart 2 := ⟨⟨zin 792 (by decide +kernel) rfl, zin 56 (by decide +kernel) rfl, by decide +kernel, by decide +kernel, by decide +kernel⟩, zin 790 (by decide +kernel) rfl, zin 791 (by decide +kernel) rfl⟩
theorem kX8_as : zmV mX8_as 2 := ⟨⟨zin 860 (by decide +kernel) rfl, zin 56 (by decide +kernel) rfl, by decide +kernel, by decide +kernel, by decide +kernel⟩, zin 858 (by decide +kernel) rfl, zin 859 (by decide +kernel) rfl⟩
theorem kX8_thereAt : zmV mX8_thereAt 2 := ⟨⟨zin 877 (by decide +kernel) rfl, zin 56 (by decide +kernel) rfl, by decide +kernel, by decide +kernel, by decide +kernel⟩, zin 876 (by decide +kernel) rfl, zin 21 (by decide +kernel) rfl⟩
theorem kX8_thereMany : zmV mX8_thereMany 1 := ⟨⟨zin 881 (by decide +kernel) rfl, zin 56 (by decide +kernel) rfl, by decide +kernel, by decide +kernel, by decide +kernel⟩, zin 880 (by decide +kernel) rfl, zin 22 (by decide +kernel) rfl⟩
theorem kX8_lightIn : zmV mX8_lightIn 1 := ⟨⟨zin 885 (by decide +kernel) rfl, zin 56 (by decide +kernel) rfl, by decide +kernel, by decide +kernel, by decide +kernel⟩, zin 884 (by decide +kernel) rfl, zin 23 (by decide +kernel) rfl⟩
theorem kX8_lightOfSet : zmV mX8_lightOfSet 2 := ⟨⟨zin 893 (by decide +kernel) rfl, zin 56 (by decide +kernel) rfl, by decide +kernel, by decide +kernel, by decide +kernel⟩, zin 892 (by decide +kernel) rfl, zin 25 (by decide +kernel) rfl⟩
theorem kX8_isSafe : zmV mX8_isSafe 2 := ⟨⟨zin 897 (by decide +kernel) rfl, zin 56 (by decide +kernel) rfl, by decide +kernel, by decide +kernel, by decide +kernel⟩, zin 896 (by decide +kernel) rfl, zin 26 (by decide +kernel) rfl⟩
theorem kX8_safeOf : zmV mX8_safeOf 1 := ⟨⟨zin 889 (by decide +kernel) rfl, zin 56 (by decide +kernel) rfl, by decide +kernel, by decide +kernel, by decide +kernel⟩, zin 888 (by decide +kernel) rfl, zin 24 (by decide +kernel) rfl⟩
theorem kX8_tellBay : zmV mX8_tellBay 2 := ⟨⟨zin 873 (by decide +kernel) rfl, zin 56 (by decide +kernel) rfl, by decide +kernel, by decide +kernel, by decide +kernel⟩, zin 872 (by decide +kernel) rfl, zin 20 (by decide +kernel) rfl⟩
theorem kX8_bay : zmV mX8_bay 2 := ⟨⟨zin 865 (by decide +kernel) rfl, zin 56 (by decide +kernel) rfl, by decide +kernel, by decide +kernel, by decide +kernel⟩, zin 863 (by decide +kernel) rfl, zin 864 (by decide +kernel) rfl⟩
theorem kX8_cut : zmV mX8_cut 2 := ⟨⟨zin 909 (by decide +kernel) rfl, zin 56 (by decide +kernel) rfl, by decide +kernel, by decide +kernel, by decide +kernel⟩, zin 907 (by decide +kernel) rfl, zin 908 (by decide +kernel) rfl⟩
theorem kX8_day : zmV mX8_day 0 := ⟨⟨zin 926 (by decide +kernel) rfl, zin 56 (by decide +kernel) rfl, by decide +kernel, by decide +kernel, by decide +kernel⟩, zin 924 (by decide +kernel) rfl, zin 925 (by decide +kernel) rfl⟩
theorem kX8_turn : zmV mX8_turn 1 := ⟨⟨zin 934 (by decide +kernel) rfl, zin 56 (by decide +kernel) rfl, by decide +kernel, by decide +kernel, by decide +kernel⟩, zin 932 (by decide +kernel) rfl, zin 933 (by decide +kernel) rfl⟩
theorem kX8_rain : zmV mX8_rain 2 := ⟨⟨zin 938 (by decide +kernel) rfl, zin 56 (by decide +kernel) rfl, by decide +kernel, by decide +kernel, by decide +kernel⟩, zin 936 (by decide +kernel) rfl, zin 937 (by decide +kernel) rfl⟩
theorem kX8_leastTop : zmV mX8_leastTop 0 := ⟨⟨zin 952 (by decide +kernel) rfl, zin 56 (by decide +kernel) rfl, by decide +kernel, by decide +kernel, by decide +kernel⟩, zin 951 (by decide +kernel) rfl, zin 34 (by decide +kernel) rfl⟩
theorem kX8_lastsOf : zmV mX8_lastsOf 1 := ⟨⟨zin 948 (by decide +kernel) rfl, zin 56 (by decide +kernel) rfl, by decide +kernel, by decide +kernel, by decide +kernel⟩, zin 947 (by decide +kernel) rfl, zin 33 (by decide +kernel) rfl⟩
theorem kX8_lasts : zmV mX8_lasts 1 := ⟨⟨zin 943 (by decide +kernel) rfl, zin 56 (by decide +kernel) rfl, by decide +kernel, by decide +kernel, by decide +kernel⟩, zin 941 (by decide +kernel) rfl, zin 942 (by decide +kernel) rfl⟩
theorem kX8_worthOf : zmV mX8_worthOf 2 := ⟨⟨zin 965 (by decide +kernel) rfl, zin 56 (by decide +kernel) rfl, by decide +kernel, by decide +kernel, by decide +kernel⟩, zin 964 (by decide +kernel) rfl, zin 36 (by decide +kernel) rfl⟩
theorem kX8_planOf : zmV mX8_planOf 2 := ⟨⟨zin 961 (by decide +kernel) rfl, zin 56 (by decide +kernel) rfl, by decide +kernel, by decide +kernel, by decide +kernel⟩, zin 960 (by decide +kernel) rfl, zin 35 (by decide +kernel) rfl⟩
theorem kX8_chosenAt : zmV mX8_chosenAt 3 := ⟨⟨zin 973 (by decide +kernel) rfl, zin 56 (by decide +kernel) rfl, by decide +kernel, by decide +kernel, by decide +kernel⟩, zin 972 (by decide +kernel) rfl, zin 38 (by decide +kernel) rfl⟩
theorem kX8_plan : zmV mX8_plan 2 := ⟨⟨zin 956 (by decide +kernel) rfl, zin 56 (by decide +kernel) rfl, by decide +kernel, by decide +kernel, by decide +kernel⟩, zin 954 (by decide +kernel) rfl, zin 955 (by decide +kernel) rfl⟩
theorem kX8_shareOf : zmV mX8_shareOf 1 := ⟨⟨zin 982 (by decide +kernel) rfl, zin 56 (by decide +kernel) rfl, by decide +kernel, by decide +kernel, by decide +kernel⟩, zin 981 (by decide +kernel) rfl, zin 39 (by decide +kernel) rfl⟩
theorem kX8_share : zmV mX8_share 1 := ⟨⟨zin 977 (by decide +kernel) rfl, zin 56 (by decide +kernel) rfl, by decide +kernel, by decide +kernel, by decide +kernel⟩, zin 975 (by decide +kernel) rfl, zin 976 (by decide +kernel) rfl⟩
theorem kX8_burntOf : zmV mX8_burntOf 1 := ⟨⟨zin 991 (by decide +kernel) rfl, zin 56 (by decide +kernel) rfl, by decide +kernel, by decide +kernel, by decide +kernel⟩, zin 990 (by decide +kernel) rfl, zin 40 (by decide +kernel) rfl⟩
theorem kX8_burnt : zmV mX8_burnt 1 := ⟨⟨zin 986 (by decide +kernel) rfl, zin 56 (by decide +kernel) rfl, by decide +kernel, by decide +kernel, by decide +kernel⟩, zin 984 (by decide +kernel) rfl, zin 985 (by decide +kernel) rfl⟩
theorem kX8_see : zmV mX8_see 3 := ⟨⟨zin 995 (by decide +kernel) rfl, zin 56 (by decide +kernel) rfl, by decide +kernel, by decide +kernel, by decide +kernel⟩, zin 993 (by decide +kernel) rfl, zin 994 (by decide +kernel) rfl⟩
theorem kX8_forget : zmV mX8_forget 0 := ⟨⟨zin 1000 (by decide +kernel) rfl, zin 56 (by decide +kernel) rfl, by decide +kernel, by decide +kernel, by decide +kernel⟩, zin 998 (by decide +kernel) rfl, zin 999 (by decide +kernel) rfl⟩
theorem kX8_layWays : zmV mX8_layWays 1 := ⟨⟨zin 832 (by decide +kernel) rfl, zin 56 (by decide +kernel) rfl, by decide +kernel, by decide +kernel, by decide +kernel⟩, zin 831 (by decide +kernel) rfl, zin 12 (by decide +kernel) rfl⟩
theorem kX8_wetsLaid : zmV mX8_wetsLaid 1 := ⟨⟨zin 852 (by decide +kernel) rfl, zin 56 (by decide +kernel) rfl, by decide +kernel, by decide +kernel, by decide +kernel⟩, zin 851 (by decide +kernel) rfl, zin 17 (by decide +kernel) rfl⟩
theorem kX8_wetsOf : zmV mX8_wetsOf 1 := ⟨⟨zin 828 (by decide +kernel) rfl, zin 56 (by decide +kernel) rfl, by decide +kernel, by decide +kernel, by decide +kernel⟩, zin 827 (by decide +kernel) rfl, zin 11 (by decide +kernel) rfl⟩
theorem kX8_feelOf : zmV mX8_feelOf 1 := ⟨⟨zin 856 (by decide +kernel) rfl, zin 56 (by decide +kernel) rfl, by decide +kernel, by decide +kernel, by decide +kernel⟩, zin 855 (by decide +kernel) rfl, zin 18 (by decide +kernel) rfl⟩
theorem kX8_draw : zmV mX8_draw 1 := ⟨⟨zin 1009 (by decide +kernel) rfl, zin 56 (by decide +kernel) rfl, by decide +kernel, by decide +kernel, by decide +kernel⟩, zin 1008 (by decide +kernel) rfl, zin 41 (by decide +kernel) rfl⟩
theorem kX8_winters : zmV mX8_winters 3 := ⟨⟨zin 1004 (by decide +kernel) rfl, zin 56 (by decide +kernel) rfl, by decide +kernel, by decide +kernel, by decide +kernel⟩, zin 1002 (by decide +kernel) rfl, zin 1003 (by decide +kernel) rfl⟩
theorem kX8_image : zmV mX8_image 0 := ⟨⟨zin 1017 (by decide +kernel) rfl, zin 56 (by decide +kernel) rfl, by decide +kernel, by decide +kernel, by decide +kernel⟩, zin 1015 (by decide +kernel) rfl, zin 1016 (by decide +kernel) rfl⟩
theorem kX8_restore : zmV mX8_restore 0 := ⟨⟨zin 1021 (by decide +kernel) rfl, zin 56 (by decide +kernel) rfl, by decide +kernel, by decide +kernel, by decide +kernel⟩, zin 1019 (by decide +kernel) rfl, zin 1020 (by decide +kernel) rfl⟩
theorem kX8_sumOf : zmV mX8_sumOf 1 := ⟨⟨zin 1037 (by decide +kernel) rfl, zin 56 (by decide +kernel) rfl, by decide +kernel, by decide +kernel, by decide +kernel⟩, zin 1036 (by decide +kernel) rfl, zin 44 (by decide +kernel) rfl⟩
theorem kX8_there : zmV mX8_there 0 := ⟨⟨zin 1033 (by decide +kernel) rfl, zin 56 (by decide +kernel) rfl, by decide +kernel, by decide +kernel, by decide +kernel⟩, zin 1032 (by decide +kernel) rfl, zin 43 (by decide +kernel) rfl⟩
theorem kX8_warmest : zmV mX8_warmest 0 := ⟨⟨zin 1041 (by decide +kernel) rfl, zin 56 (by decide +kernel) rfl, by decide +kernel, by decide +kernel, by decide +kernel⟩, zin 1040 (by decide +kernel) rfl, zin 45 (by decide +kernel) rfl⟩
theorem kX8_countOf : zmV mX8_countOf 1 := ⟨⟨zin 1029 (by decide +kernel) rfl, zin 56 (by decide +kernel) rfl, by decide +kernel, by decide +kernel, by decide +kernel⟩, zin 1028 (by decide +kernel) rfl, zin 42 (by decide +kernel) rfl⟩
theorem kX8_count : zmV mX8_count 1 := ⟨⟨zin 1025 (by decide +kernel) rfl, zin 56 (by decide +kernel) rfl, by decide +kernel, by decide +kernel, by decide +kernel⟩, zin 1023 (by decide +kernel) rfl, zin 1024 (by decide +kernel) rfl⟩
theorem kX8_say : zmV mX8_say 1 := ⟨⟨zin 1050 (by decide +kernel) rfl, zin 56 (by decide +kernel) rfl, by decide +kernel, by decide +kernel, by decide +kernel⟩, zin 1049 (by decide +kernel) rfl, zin 46 (by decide +kernel) rfl⟩
theorem kX8_sayBarn : zmV mX8_sayBarn 0 := ⟨⟨zin 1055 (by decide +kernel) rfl, zin 56 (by decide +kernel) rfl, by decide +kernel, by decide +kernel, by decide +kernel⟩, zin 1054 (by decide +kernel) rfl, zin 47 (by decide +kernel) rfl⟩
theorem kX8_digest : zmV mX8_digest 0 := ⟨⟨zin 1045 (by decide +kernel) rfl, zin 56 (by decide +kernel) rfl, by decide +kernel, by decide +kernel, by decide +kernel⟩, zin 1043 (by decide +kernel) rfl, zin 1044 (by decide +kernel) rfl⟩
theorem lX7_3 : Cond.methodLink RX7 3 Lib.objectInit ∈ zT := zin 65 (by decide +kernel) rfl
theorem lX7_61 : Cond.methodLink RX7 61 yX4_append ∈ zT := zin 258 (by decide +kernel) rfl
theorem lX7_65 : Cond.methodLink RX7 65 yX4_firstFault ∈ zT := zin 270 (by decide +kernel) rfl
theorem lX7_69 : Cond.methodLink RX7 69 yX4_isWhole ∈ zT := zin 284 (by decide +kernel) rfl
theorem lX7_73 : Cond.methodLink RX7 73 yX4_readInto ∈ zT := zin 293 (by decide +kernel) rfl
theorem lX7_88 : Cond.methodLink RX7 88 yX7_isNoCart ∈ zT := zin 309 (by decide +kernel) rfl
theorem lX7_92 : Cond.methodLink RX7 92 yX0_isGone ∈ zT := zin 313 (by decide +kernel) rfl
theorem lX7_111 : Cond.methodLink RX7 111 yX0_howManyOn ∈ zT := zin 317 (by decide +kernel) rfl
theorem lX7_115 : Cond.methodLink RX7 115 yX0_gain ∈ zT := zin 325 (by decide +kernel) rfl
theorem lX7_118 : Cond.methodLink RX7 118 yX1_wets ∈ zT := zin 336 (by decide +kernel) rfl
theorem lX7_122 : Cond.methodLink RX7 122 yX1_bestDay ∈ zT := zin 374 (by decide +kernel) rfl
theorem lX7_125 : Cond.methodLink RX7 125 Lib.Math.min.name ∈ zT := zin 385 (by decide +kernel) rfl
theorem lX7_131 : Cond.methodLink RX7 131 yX3_gives ∈ zT := zin 386 (by decide +kernel) rfl
theorem lX7_136 : Cond.methodLink RX7 136 yX3_isA ∈ zT := zin 393 (by decide +kernel) rfl
theorem lX7_140 : Cond.methodLink RX7 140 yX7_isNoBay ∈ zT := zin 400 (by decide +kernel) rfl
theorem lX7_146 : Cond.methodLink RX7 146 yX0_top ∈ zT := zin 404 (by decide +kernel) rfl
theorem lX7_149 : Cond.methodLink RX7 149 yX0_lightOf ∈ zT := zin 405 (by decide +kernel) rfl
theorem lX7_152 : Cond.methodLink RX7 152 yX2_safe ∈ zT := zin 409 (by decide +kernel) rfl
theorem lX7_156 : Cond.methodLink RX7 156 yX0_lightOfSome ∈ zT := zin 440 (by decide +kernel) rfl
theorem lX7_159 : Cond.methodLink RX7 159 yX0_at ∈ zT := zin 441 (by decide +kernel) rfl
theorem lX7_165 : Cond.methodLink RX7 165 yX0_slice ∈ zT := zin 449 (by decide +kernel) rfl
theorem lX7_168 : Cond.methodLink RX7 168 yX7_isNoBarn ∈ zT := zin 464 (by decide +kernel) rfl
theorem lX7_174 : Cond.methodLink RX7 174 yX0_passDay ∈ zT := zin 468 (by decide +kernel) rfl
theorem lX7_177 : Cond.methodLink RX7 177 yX0_turnOver ∈ zT := zin 478 (by decide +kernel) rfl
theorem lX7_180 : Cond.methodLink RX7 180 yX2_daysItLasts ∈ zT := zin 490 (by decide +kernel) rfl
theorem lX7_183 : Cond.methodLink RX7 183 yX2_makePlan ∈ zT := zin 508 (by decide +kernel) rfl
theorem lX7_190 : Cond.methodLink RX7 190 yX2_plannedBay ∈ zT := zin 527 (by decide +kernel) rfl
theorem lX7_196 : Cond.methodLink RX7 196 yX6_amongTwo ∈ zT := zin 535 (by decide +kernel) rfl
theorem lX7_200 : Cond.methodLink RX7 200 yX6_amongThree ∈ zT := zin 543 (by decide +kernel) rfl
theorem lX7_203 : Cond.methodLink RX7 203 yX2_goneBehind ∈ zT := zin 556 (by decide +kernel) rfl
theorem lX7_206 : Cond.methodLink RX7 206 yX5_append ∈ zT := zin 565 (by decide +kernel) rfl
theorem lX7_209 : Cond.methodLink RX7 209 yX2_winter ∈ zT := zin 577 (by decide +kernel) rfl
theorem lX7_213 : Cond.methodLink RX7 213 yX0_copyFrom ∈ zT := zin 594 (by decide +kernel) rfl
theorem lX7_216 : Cond.methodLink RX7 216 yX5_copyFrom ∈ zT := zin 595 (by decide +kernel) rfl
theorem lX7_222 : Cond.methodLink RX7 222 yX0_howManyLie ∈ zT := zin 608 (by decide +kernel) rfl
theorem lX7_225 : Cond.methodLink RX7 225 yX0_lightOfAll ∈ zT := zin 609 (by decide +kernel) rfl
theorem lX7_228 : Cond.methodLink RX7 228 yX0_wetOfAll ∈ zT := zin 610 (by decide +kernel) rfl
theorem lX7_231 : Cond.methodLink RX7 231 yX0_mostWarm ∈ zT := zin 614 (by decide +kernel) rfl
theorem lX7_239 : Cond.methodLink RX7 239 yX7_cart ∈ zT := zin 624 (by decide +kernel) rfl
theorem lX7_242 : Cond.methodLink RX7 242 yX7_with ∈ zT := zin 625 (by decide +kernel) rfl
theorem lX7_246 : Cond.methodLink RX7 246 yX7_bay ∈ zT := zin 629 (by decide +kernel) rfl
theorem lX7_252 : Cond.methodLink RX7 252 yX7_count ∈ zT := zin 630 (by decide +kernel) rfl
theorem lX0_3 : Cond.methodLink RX0 3 Lib.objectInit ∈ zT := zin 89 (by decide +kernel) rfl
theorem lX0_49 : Cond.methodLink RX0 49 arraycopyName ∈ zT := zin 348 (by decide +kernel) rfl
theorem lX0_55 : Cond.methodLink RX0 55 yX0_placeOf ∈ zT := zin 321 (by decide +kernel) rfl
theorem lX0_59 : Cond.methodLink RX0 59 Lib.Math.max.name ∈ zT := zin 618 (by decide +kernel) rfl
theorem lX0_65 : Cond.methodLink RX0 65 yX0_gainAt ∈ zT := zin 329 (by decide +kernel) rfl
theorem lX0_68 : Cond.methodLink RX0 68 yX3_warms ∈ zT := zin 333 (by decide +kernel) rfl
theorem lX0_73 : Cond.methodLink RX0 73 yX0_loseFrom ∈ zT := zin 435 (by decide +kernel) rfl
theorem lX0_76 : Cond.methodLink RX0 76 yX0_lose ∈ zT := zin 426 (by decide +kernel) rfl
theorem lX0_80 : Cond.methodLink RX0 80 yX0_top ∈ zT := zin 359 (by decide +kernel) rfl
theorem lX0_83 : Cond.methodLink RX0 83 yX0_warmBay ∈ zT := zin 472 (by decide +kernel) rfl
theorem lX0_86 : Cond.methodLink RX0 86 yX0_burnBay ∈ zT := zin 473 (by decide +kernel) rfl
theorem lX0_89 : Cond.methodLink RX0 89 yX0_dryTop ∈ zT := zin 459 (by decide +kernel) rfl
theorem lX0_92 : Cond.methodLink RX0 92 Lib.Math.min.name ∈ zT := zin 453 (by decide +kernel) rfl
theorem lX0_95 : Cond.methodLink RX0 95 yX3_gives ∈ zT := zin 454 (by decide +kernel) rfl
theorem lX0_98 : Cond.methodLink RX0 98 yX0_dryTopsBut ∈ zT := zin 455 (by decide +kernel) rfl
theorem lX1_3 : Cond.methodLink RX1 3 Lib.objectInit ∈ zT := zin 196 (by decide +kernel) rfl
theorem lX1_25 : Cond.methodLink RX1 25 yX1_tryAll ∈ zT := zin 340 (by decide +kernel) rfl
theorem lX1_29 : Cond.methodLink RX1 29 yX1_wetsThatFit ∈ zT := zin 366 (by decide +kernel) rfl
theorem lX1_33 : Cond.methodLink RX1 33 yX1_leftAtWorst ∈ zT := zin 378 (by decide +kernel) rfl
theorem lX1_40 : Cond.methodLink RX1 40 yX0_copyFrom ∈ zT := zin 344 (by decide +kernel) rfl
theorem lX1_47 : Cond.methodLink RX1 47 yX0_warmBay ∈ zT := zin 351 (by decide +kernel) rfl
theorem lX1_51 : Cond.methodLink RX1 51 yX0_dryTop ∈ zT := zin 355 (by decide +kernel) rfl
theorem lX1_57 : Cond.methodLink RX1 57 Lib.Math.min.name ∈ zT := zin 363 (by decide +kernel) rfl
theorem lX1_62 : Cond.methodLink RX1 62 yX1_fits ∈ zT := zin 370 (by decide +kernel) rfl
theorem lX1_79 : Cond.methodLink RX1 79 Lib.Math.max.name ∈ zT := zin 382 (by decide +kernel) rfl
theorem lX2_3 : Cond.methodLink RX2 3 Lib.objectInit ∈ zT := zin 177 (by decide +kernel) rfl
theorem lX2_18 : Cond.methodLink RX2 18 yX0_copyFrom ∈ zT := zin 421 (by decide +kernel) rfl
theorem lX2_22 : Cond.methodLink RX2 22 yX2_isFed ∈ zT := zin 494 (by decide +kernel) rfl
theorem lX2_26 : Cond.methodLink RX2 26 yX0_passDay ∈ zT := zin 503 (by decide +kernel) rfl
theorem lX2_30 : Cond.methodLink RX2 30 yX0_bayOfLeastLight ∈ zT := zin 498 (by decide +kernel) rfl
theorem lX2_33 : Cond.methodLink RX2 33 yX0_slice ∈ zT := zin 502 (by decide +kernel) rfl
theorem lX2_44 : Cond.methodLink RX2 44 yX2_worthOf ∈ zT := zin 512 (by decide +kernel) rfl
theorem lX2_48 : Cond.methodLink RX2 48 yX2_bayIn ∈ zT := zin 516 (by decide +kernel) rfl
theorem lX2_55 : Cond.methodLink RX2 55 yX0_howManyLie ∈ zT := zin 519 (by decide +kernel) rfl
theorem lX2_65 : Cond.methodLink RX2 65 yX0_lightOfAll ∈ zT := zin 523 (by decide +kernel) rfl
theorem lX2_68 : Cond.methodLink RX2 68 yX0_lightOfSome ∈ zT := zin 413 (by decide +kernel) rfl
theorem lX2_71 : Cond.methodLink RX2 71 yX2_isSafeWithout ∈ zT := zin 417 (by decide +kernel) rfl
theorem lX2_75 : Cond.methodLink RX2 75 yX0_takeOut ∈ zT := zin 422 (by decide +kernel) rfl
theorem lX2_79 : Cond.methodLink RX2 79 yX0_warmBay ∈ zT := zin 430 (by decide +kernel) rfl
theorem lX2_83 : Cond.methodLink RX2 83 yX0_burnBay ∈ zT := zin 431 (by decide +kernel) rfl
theorem lX2_87 : Cond.methodLink RX2 87 yX0_dryTop ∈ zT := zin 439 (by decide +kernel) rfl
theorem lX2_93 : Cond.methodLink RX2 93 yX0_isGone ∈ zT := zin 560 (by decide +kernel) rfl
theorem lX2_96 : Cond.methodLink RX2 96 yX2_seedBehind ∈ zT := zin 581 (by decide +kernel) rfl
theorem lX2_100 : Cond.methodLink RX2 100 yX2_drawOf ∈ zT := zin 587 (by decide +kernel) rfl
theorem lX4_3 : Cond.methodLink RX4 3 Lib.objectInit ∈ zT := zin 73 (by decide +kernel) rfl
theorem lX4_19 : Cond.methodLink RX4 19 yX4_isDue ∈ zT := zin 274 (by decide +kernel) rfl
theorem lX4_23 : Cond.methodLink RX4 23 yX3_ofLetter ∈ zT := zin 277 (by decide +kernel) rfl
theorem lX4_29 : Cond.methodLink RX4 29 yX4_firstFault ∈ zT := zin 288 (by decide +kernel) rfl
theorem lX4_33 : Cond.methodLink RX4 33 yX4_hasSecondBay ∈ zT := zin 289 (by decide +kernel) rfl
theorem lX4_37 : Cond.methodLink RX4 37 yX0_empty ∈ zT := zin 297 (by decide +kernel) rfl
theorem lX4_42 : Cond.methodLink RX4 42 yX0_lay ∈ zT := zin 301 (by decide +kernel) rfl
theorem lX5_1 : Cond.methodLink RX5 1 Lib.objectInit ∈ zT := zin 153 (by decide +kernel) rfl
theorem lX5_23 : Cond.methodLink RX5 23 arraycopyName ∈ zT := zin 599 (by decide +kernel) rfl
theorem lX6_3 : Cond.methodLink RX6 3 Lib.objectInit ∈ zT := zin 214 (by decide +kernel) rfl
theorem lX6_25 : Cond.methodLink RX6 25 yX0_lightOfAll ∈ zT := zin 539 (by decide +kernel) rfl
theorem lX6_29 : Cond.methodLink RX6 29 yX6_highestSum ∈ zT := zin 540 (by decide +kernel) rfl
theorem lX6_33 : Cond.methodLink RX6 33 yX6_giveAway ∈ zT := zin 547 (by decide +kernel) rfl
theorem lX6_37 : Cond.methodLink RX6 37 Lib.Math.min.name ∈ zT := zin 551 (by decide +kernel) rfl
theorem lL_9 : Cond.methodLink RL 9 yX7_init ∈ zT := zin 62 (by decide +kernel) rfl
theorem lL_12 : Cond.methodLink RL 12 yX8_init ∈ zT := zin 633 (by decide +kernel) rfl
theorem lL_13 : Cond.methodLink RL 13 yX7_letter ∈ zT := zin 254 (by decide +kernel) rfl
theorem lL_17 : Cond.methodLink RL 17 yX8_letter ∈ zT := zin 755 (by decide +kernel) rfl
theorem lL_18 : Cond.methodLink RL 18 yX7_blank ∈ zT := zin 262 (by decide +kernel) rfl
theorem lL_22 : Cond.methodLink RL 22 yX8_blank ∈ zT := zin 763 (by decide +kernel) rfl
theorem lL_23 : Cond.methodLink RL 23 yX7_fault ∈ zT := zin 266 (by decide +kernel) rfl
theorem lL_26 : Cond.methodLink RL 26 yX8_fault ∈ zT := zin 767 (by decide +kernel) rfl
theorem lL_27 : Cond.methodLink RL 27 yX7_barn ∈ zT := zin 280 (by decide +kernel) rfl
theorem lL_30 : Cond.methodLink RL 30 yX8_barn ∈ zT := zin 785 (by decide +kernel) rfl
theorem lL_31 : Cond.methodLink RL 31 yX7_cart ∈ zT := zin 305 (by decide +kernel) rfl
theorem lL_35 : Cond.methodLink RL 35 yX8_cart ∈ zT := zin 789 (by decide +kernel) rfl
theorem lL_36 : Cond.methodLink RL 36 yX7_as ∈ zT := zin 389 (by decide +kernel) rfl
theorem lL_39 : Cond.methodLink RL 39 yX8_as ∈ zT := zin 857 (by decide +kernel) rfl
theorem lL_40 : Cond.methodLink RL 40 yX7_bay ∈ zT := zin 396 (by decide +kernel) rfl
theorem lL_43 : Cond.methodLink RL 43 yX8_bay ∈ zT := zin 862 (by decide +kernel) rfl
theorem lL_44 : Cond.methodLink RL 44 yX7_cut ∈ zT := zin 445 (by decide +kernel) rfl
theorem lL_47 : Cond.methodLink RL 47 yX8_cut ∈ zT := zin 906 (by decide +kernel) rfl
theorem lL_48 : Cond.methodLink RL 48 yX7_day ∈ zT := zin 460 (by decide +kernel) rfl
theorem lL_51 : Cond.methodLink RL 51 yX8_day ∈ zT := zin 923 (by decide +kernel) rfl
theorem lL_52 : Cond.methodLink RL 52 yX7_turn ∈ zT := zin 474 (by decide +kernel) rfl
theorem lL_55 : Cond.methodLink RL 55 yX8_turn ∈ zT := zin 931 (by decide +kernel) rfl
theorem lL_56 : Cond.methodLink RL 56 yX7_rain ∈ zT := zin 482 (by decide +kernel) rfl
theorem lL_59 : Cond.methodLink RL 59 yX8_rain ∈ zT := zin 935 (by decide +kernel) rfl
theorem lL_60 : Cond.methodLink RL 60 yX7_lasts ∈ zT := zin 486 (by decide +kernel) rfl
theorem lL_63 : Cond.methodLink RL 63 yX8_lasts ∈ zT := zin 940 (by decide +kernel) rfl
theorem lL_64 : Cond.methodLink RL 64 yX7_plan ∈ zT := zin 504 (by decide +kernel) rfl
theorem lL_67 : Cond.methodLink RL 67 yX8_plan ∈ zT := zin 953 (by decide +kernel) rfl
theorem lL_68 : Cond.methodLink RL 68 yX7_share ∈ zT := zin 531 (by decide +kernel) rfl
theorem lL_71 : Cond.methodLink RL 71 yX8_share ∈ zT := zin 974 (by decide +kernel) rfl
theorem lL_72 : Cond.methodLink RL 72 yX7_burnt ∈ zT := zin 552 (by decide +kernel) rfl
theorem lL_75 : Cond.methodLink RL 75 yX8_burnt ∈ zT := zin 983 (by decide +kernel) rfl
theorem lL_76 : Cond.methodLink RL 76 yX7_see ∈ zT := zin 561 (by decide +kernel) rfl
theorem lL_80 : Cond.methodLink RL 80 yX8_see ∈ zT := zin 992 (by decide +kernel) rfl
theorem lL_81 : Cond.methodLink RL 81 yX7_forget ∈ zT := zin 569 (by decide +kernel) rfl
theorem lL_84 : Cond.methodLink RL 84 yX8_forget ∈ zT := zin 997 (by decide +kernel) rfl
theorem lL_85 : Cond.methodLink RL 85 yX7_winters ∈ zT := zin 573 (by decide +kernel) rfl
theorem lL_88 : Cond.methodLink RL 88 yX8_winters ∈ zT := zin 1001 (by decide +kernel) rfl
theorem lL_89 : Cond.methodLink RL 89 yX7_image ∈ zT := zin 590 (by decide +kernel) rfl
theorem lL_92 : Cond.methodLink RL 92 yX8_image ∈ zT := zin 1014 (by decide +kernel) rfl
theorem lL_93 : Cond.methodLink RL 93 yX7_restore ∈ zT := zin 600 (by decide +kernel) rfl
theorem lL_96 : Cond.methodLink RL 96 yX8_restore ∈ zT := zin 1018 (by decide +kernel) rfl
theorem lL_97 : Cond.methodLink RL 97 yX7_count ∈ zT := zin 604 (by decide +kernel) rfl
theorem lL_100 : Cond.methodLink RL 100 yX8_count ∈ zT := zin 1022 (by decide +kernel) rfl
theorem lL_101 : Cond.methodLink RL 101 yX7_digest ∈ zT := zin 619 (by decide +kernel) rfl
theorem lL_105 : Cond.methodLink RL 105 yX8_digest ∈ zT := zin 1042 (by decide +kernel) rfl
theorem lX8_1 : Cond.methodLink RX8 1 Lib.objectInit ∈ zT := zin 636 (by decide +kernel) rfl
theorem lX8_79 : Cond.methodLink RX8 79 yX8_in ∈ zT := zin 760 (by decide +kernel) rfl
theorem lX8_89 : Cond.methodLink RX8 89 yX8_kindBy ∈ zT := zin 779 (by decide +kernel) rfl
theorem lX8_102 : Cond.methodLink RX8 102 yX8_isGood ∈ zT := zin 775 (by decide +kernel) rfl
theorem lX8_106 : Cond.methodLink RX8 106 yX8_faultOf ∈ zT := zin 771 (by decide +kernel) rfl
theorem lX8_131 : Cond.methodLink RX8 131 yX8_copy ∈ zT := zin 805 (by decide +kernel) rfl
theorem lX8_135 : Cond.methodLink RX8 135 yX8_topOf ∈ zT := zin 841 (by decide +kernel) rfl
theorem lX8_138 : Cond.methodLink RX8 138 yX8_dry ∈ zT := zin 845 (by decide +kernel) rfl
theorem lX8_142 : Cond.methodLink RX8 142 yX8_goes ∈ zT := zin 898 (by decide +kernel) rfl
theorem lX8_145 : Cond.methodLink RX8 145 yX8_gives ∈ zT := zin 810 (by decide +kernel) rfl
theorem lX8_149 : Cond.methodLink RX8 149 yX8_placeOf ∈ zT := zin 817 (by decide +kernel) rfl
theorem lX8_152 : Cond.methodLink RX8 152 yX8_onIt ∈ zT := zin 813 (by decide +kernel) rfl
theorem lX8_156 : Cond.methodLink RX8 156 yX8_warmsBy ∈ zT := zin 821 (by decide +kernel) rfl
theorem lX8_159 : Cond.methodLink RX8 159 yX8_warmAll ∈ zT := zin 833 (by decide +kernel) rfl
theorem lX8_162 : Cond.methodLink RX8 162 yX8_dryTops ∈ zT := zin 837 (by decide +kernel) rfl
theorem lX8_165 : Cond.methodLink RX8 165 yX8_begin ∈ zT := zin 801 (by decide +kernel) rfl
theorem lX8_172 : Cond.methodLink RX8 172 yX8_wetsOf ∈ zT := zin 825 (by decide +kernel) rfl
theorem lX8_175 : Cond.methodLink RX8 175 yX8_feelOf ∈ zT := zin 853 (by decide +kernel) rfl
theorem lX8_178 : Cond.methodLink RX8 178 yX8_isCart ∈ zT := zin 793 (by decide +kernel) rfl
theorem lX8_182 : Cond.methodLink RX8 182 yX8_tellCart ∈ zT := zin 797 (by decide +kernel) rfl
theorem lX8_187 : Cond.methodLink RX8 187 yX8_thereAt ∈ zT := zin 874 (by decide +kernel) rfl
theorem lX8_190 : Cond.methodLink RX8 190 yX8_dayThen ∈ zT := zin 902 (by decide +kernel) rfl
theorem lX8_193 : Cond.methodLink RX8 193 yX8_thereMany ∈ zT := zin 878 (by decide +kernel) rfl
theorem lX8_196 : Cond.methodLink RX8 196 yX8_lightOfSet ∈ zT := zin 890 (by decide +kernel) rfl
theorem lX8_199 : Cond.methodLink RX8 199 yX8_isSafe ∈ zT := zin 894 (by decide +kernel) rfl
theorem lX8_202 : Cond.methodLink RX8 202 yX8_lightIn ∈ zT := zin 882 (by decide +kernel) rfl
theorem lX8_205 : Cond.methodLink RX8 205 yX8_safeOf ∈ zT := zin 886 (by decide +kernel) rfl
theorem lX8_208 : Cond.methodLink RX8 208 yX8_isBay ∈ zT := zin 866 (by decide +kernel) rfl
theorem lX8_211 : Cond.methodLink RX8 211 yX8_tellBay ∈ zT := zin 870 (by decide +kernel) rfl
theorem lX8_216 : Cond.methodLink RX8 216 yX8_hasLight ∈ zT := zin 911 (by decide +kernel) rfl
theorem lX8_219 : Cond.methodLink RX8 219 yX8_cutThen ∈ zT := zin 915 (by decide +kernel) rfl
theorem lX8_222 : Cond.methodLink RX8 222 yX8_takeThen ∈ zT := zin 919 (by decide +kernel) rfl
theorem lX8_225 : Cond.methodLink RX8 225 yX8_lacks ∈ zT := zin 927 (by decide +kernel) rfl
theorem lX8_231 : Cond.methodLink RX8 231 yX8_leastTop ∈ zT := zin 949 (by decide +kernel) rfl
theorem lX8_236 : Cond.methodLink RX8 236 yX8_lastsOf ∈ zT := zin 945 (by decide +kernel) rfl
theorem lX8_239 : Cond.methodLink RX8 239 yX8_lightAll ∈ zT := zin 966 (by decide +kernel) rfl
theorem lX8_242 : Cond.methodLink RX8 242 yX8_worthOf ∈ zT := zin 962 (by decide +kernel) rfl
theorem lX8_245 : Cond.methodLink RX8 245 yX8_chosenAt ∈ zT := zin 970 (by decide +kernel) rfl
theorem lX8_251 : Cond.methodLink RX8 251 yX8_planOf ∈ zT := zin 958 (by decide +kernel) rfl
theorem lX8_259 : Cond.methodLink RX8 259 yX8_shareOf ∈ zT := zin 979 (by decide +kernel) rfl
theorem lX8_264 : Cond.methodLink RX8 264 yX8_burntOf ∈ zT := zin 988 (by decide +kernel) rfl
theorem lX8_269 : Cond.methodLink RX8 269 yX8_layWays ∈ zT := zin 829 (by decide +kernel) rfl
theorem lX8_272 : Cond.methodLink RX8 272 yX8_wetsLaid ∈ zT := zin 849 (by decide +kernel) rfl
theorem lX8_287 : Cond.methodLink RX8 287 yX8_draw ∈ zT := zin 1006 (by decide +kernel) rfl
theorem lX8_302 : Cond.methodLink RX8 302 yX8_there ∈ zT := zin 1030 (by decide +kernel) rfl
theorem lX8_305 : Cond.methodLink RX8 305 yX8_sumOf ∈ zT := zin 1034 (by decide +kernel) rfl
theorem lX8_309 : Cond.methodLink RX8 309 yX8_warmest ∈ zT := zin 1038 (by decide +kernel) rfl
theorem lX8_312 : Cond.methodLink RX8 312 yX8_countOf ∈ zT := zin 1026 (by decide +kernel) rfl
theorem lX8_321 : Cond.methodLink RX8 321 yX8_say ∈ zT := zin 1047 (by decide +kernel) rfl
theorem lX8_327 : Cond.methodLink RX8 327 yX8_sayBarn ∈ zT := zin 1052 (by decide +kernel) rfl
def zNest : List Cond := [Cond.methodLinkNest RX7 11 yX4_init RX7, Cond.methodLinkNest RX7 18 yX0_init RX7, Cond.methodLinkNest RX7 28 yX5_init RX7, Cond.methodLinkNest RX7 38 yX2_init RX7, Cond.methodLinkNest RX7 45 yX1_init RX7, Cond.methodLinkNest RX7 52 yX6_init RX7, Cond.methodLinkNest RX1 11 yX0_init RX7, Cond.methodLinkNest RX2 11 yX0_init RX7]
theorem zNest_in : ∀ w ∈ zNest, w ∈ lw_tbl := by decide +kernel
theorem lX7_11 : Cond.methodLinkNest RX7 11 yX4_init RX7 ∈ zNest := List.mem_of_getElem? (i := 0) rfl
theorem lX7_18 : Cond.methodLinkNest RX7 18 yX0_init RX7 ∈ zNest := List.mem_of_getElem? (i := 1) rfl
theorem lX7_28 : Cond.methodLinkNest RX7 28 yX5_init RX7 ∈ zNest := List.mem_of_getElem? (i := 2) rfl
theorem lX7_38 : Cond.methodLinkNest RX7 38 yX2_init RX7 ∈ zNest := List.mem_of_getElem? (i := 3) rfl
theorem lX7_45 : Cond.methodLinkNest RX7 45 yX1_init RX7 ∈ zNest := List.mem_of_getElem? (i := 4) rfl
theorem lX7_52 : Cond.methodLinkNest RX7 52 yX6_init RX7 ∈ zNest := List.mem_of_getElem? (i := 5) rfl
theorem lX1_11 : Cond.methodLinkNest RX1 11 yX0_init RX7 ∈ zNest := List.mem_of_getElem? (i := 6) rfl
theorem lX2_11 : Cond.methodLinkNest RX2 11 yX0_init RX7 ∈ zNest := List.mem_of_getElem? (i := 7) rfl
abbrev zcls : List vw_C := [(RX0, TX0, 12), (RX1, TX1, 3), (RX2, TX2, 3), (RX4, TX4, 2), (RX5, TX5, 4), (RX6, TX6, 1), (RX7, TX7, 11), (RX8, TX8, 39)]
theorem inX0 : ∀ w ∈ u_ws RX0 TX0 12, w ∈ zT := fun w h => List.mem_filter.mpr ⟨(show ∀ w ∈ u_ws RX0 TX0 12, w ∈ lw_tbl by decide +kernel) w h, (show ∀ w ∈ u_ws RX0 TX0 12, goodWord w = true by decide +kernel) w h⟩
theorem inX1 : ∀ w ∈ u_ws RX1 TX1 3, w ∈ zT := fun w h => List.mem_filter.mpr ⟨(show ∀ w ∈ u_ws RX1 TX1 3, w ∈ lw_tbl by decide +kernel) w h, (show ∀ w ∈ u_ws RX1 TX1 3, goodWord w = true by decide +kernel) w h⟩
theorem inX2 : ∀ w ∈ u_ws RX2 TX2 3, w ∈ zT := fun w h => List.mem_filter.mpr ⟨(show ∀ w ∈ u_ws RX2 TX2 3, w ∈ lw_tbl by decide +kernel) w h, (show ∀ w ∈ u_ws RX2 TX2 3, goodWord w = true by decide +kernel) w h⟩
theorem inX4 : ∀ w ∈ u_ws RX4 TX4 2, w ∈ zT := fun w h => List.mem_filter.mpr ⟨(show ∀ w ∈ u_ws RX4 TX4 2, w ∈ lw_tbl by decide +kernel) w h, (show ∀ w ∈ u_ws RX4 TX4 2, goodWord w = true by decide +kernel) w h⟩
theorem inX5 : ∀ w ∈ u_ws RX5 TX5 4, w ∈ zT := fun w h => List.mem_filter.mpr ⟨(show ∀ w ∈ u_ws RX5 TX5 4, w ∈ lw_tbl by decide +kernel) w h, (show ∀ w ∈ u_ws RX5 TX5 4, goodWord w = true by decide +kernel) w h⟩
theorem inX6 : ∀ w ∈ u_ws RX6 TX6 1, w ∈ zT := fun w h => List.mem_filter.mpr ⟨(show ∀ w ∈ u_ws RX6 TX6 1, w ∈ lw_tbl by decide +kernel) w h, (show ∀ w ∈ u_ws RX6 TX6 1, goodWord w = true by decide +kernel) w h⟩
theorem inX7 : ∀ w ∈ u_ws RX7 TX7 11, w ∈ zT := fun w h => List.mem_filter.mpr ⟨(show ∀ w ∈ u_ws RX7 TX7 11, w ∈ lw_tbl by decide +kernel) w h, (show ∀ w ∈ u_ws RX7 TX7 11, goodWord w = true by decide +kernel) w h⟩
theorem inX8 : ∀ w ∈ u_ws RX8 TX8 39, w ∈ zT := fun w h => List.mem_filter.mpr ⟨(show ∀ w ∈ u_ws RX8 TX8 39, w ∈ lw_tbl by decide +kernel) w h, (show ∀ w ∈ u_ws RX8 TX8 39, goodWord w = true by decide +kernel) w h⟩
def zfl (own : String) (idx ci kf : Nat) (fin : Bool) (ty : FieldType) : Prop := ∃ (C : String) (T : u_T) (n : Nat), zcls[ci]? = some (C, T, n) ∧ kf < n ∧ (T kf).1 = C ∧ (T kf).2.2.2 = fin ∧ parseFieldDescriptor (T kf).2.2.1 = some ty ∧ Cond.fieldLink own idx C (T kf).2.1 (T kf).2.2.1 ∈ zT
def znw (own : String) (idx ci n : Nat) (fs : List Value) : Prop := ∃ (C : String) (T : u_T), Cond.classLink own idx C ∈ zT ∧ Cond.instantiable C n ∈ zT ∧ Cond.initialized C ∈ zT ∧ zcls[ci]? = some (C, T, n) ∧ ∃ ty : Nat → FieldType, (∀ k, k < n → parseFieldDescriptor (T k).2.2.1 = some (ty k)) ∧ ∀ j, j < n → defaultValue (ty j) = vp_V fs j
theorem bL : Cond.initialized RL ∈ zT := zin 48 (by decide +kernel) rfl
theorem bX7 : Cond.initialized RX7 ∈ zT := zin 49 (by decide +kernel) rfl
theorem bX4 : Cond.initialized RX4 ∈ zT := zin 50 (by decide +kernel) rfl
theorem bX0 : Cond.initialized RX0 ∈ zT := zin 51 (by decide +kernel) rfl
theorem bX5 : Cond.initialized RX5 ∈ zT := zin 52 (by decide +kernel) rfl
theorem bX2 : Cond.initialized RX2 ∈ zT := zin 53 (by decide +kernel) rfl
theorem bX1 : Cond.initialized RX1 ∈ zT := zin 54 (by decide +kernel) rfl
theorem bX6 : Cond.initialized RX6 ∈ zT := zin 55 (by decide +kernel) rfl
theorem bX8 : Cond.initialized RX8 ∈ zT := zin 56 (by decide +kernel) rfl
theorem bX3 : Cond.initialized RX3 ∈ zT := zin 57 (by decide +kernel) rfl
theorem aX7 : Cond.instantiable RX7 11 ∈ zT := zin 61 (by decide +kernel) rfl
theorem aX4 : Cond.instantiable RX4 2 ∈ zT := zin 69 (by decide +kernel) rfl
theorem aX0 : Cond.instantiable RX0 12 ∈ zT := zin 85 (by decide +kernel) rfl
theorem aX5 : Cond.instantiable RX5 4 ∈ zT := zin 149 (by decide +kernel) rfl
theorem aX2 : Cond.instantiable RX2 3 ∈ zT := zin 173 (by decide +kernel) rfl
theorem aX1 : Cond.instantiable RX1 3 ∈ zT := zin 192 (by decide +kernel) rfl
theorem aX6 : Cond.instantiable RX6 1 ∈ zT := zin 210 (by decide +kernel) rfl
theorem aX8 : Cond.instantiable RX8 39 ∈ zT := zin 632 (by decide +kernel) rfl
abbrev vXX0 : List Value := [.int 0, .int 0, .int 0, .int 0, .int 0, .null, .null, .null, .null, .null, .null, .null]
theorem vX0_ok : ∀ j, j < 12 → defaultValue (tyX0 j) = vp_V vXX0 j := by decide +kernel
abbrev vXX1 : List Value := [.null, .null, .null]
theorem vX1_ok : ∀ j, j < 3 → defaultValue (tyX1 j) = vp_V vXX1 j := by decide +kernel
abbrev vXX2 : List Value := [.null, .int 0, .int 0]
theorem vX2_ok : ∀ j, j < 3 → defaultValue (tyX2 j) = vp_V vXX2 j := by decide +kernel
abbrev vXX4 : List Value := [.null, .int 0]
theorem vX4_ok : ∀ j, j < 2 → defaultValue (tyX4 j) = vp_V vXX4 j := by decide +kernel
abbrev vXX5 : List Value := [.null, .null, .null, .int 0]
theorem vX5_ok : ∀ j, j < 4 → defaultValue (tyX5 j) = vp_V vXX5 j := by decide +kernel
abbrev vXX6 : List Value := [.null]
theorem vX6_ok : ∀ j, j < 1 → defaultValue (tyX6 j) = vp_V vXX6 j := by decide +kernel
abbrev vXX7 : List Value := [.null, .null, .null, .null, .null, .null, .null, .null, .int 0, .int 0, .int 0]
theorem vX7_ok : ∀ j, j < 11 → defaultValue (tyX7 j) = vp_V vXX7 j := by decide +kernel
abbrev vXX8 : List Value := [.null, .int 0, .int 0, .int 0, .int 0, .int 0, .int 0, .int 0, .int 0, .int 0, .null, .null, .null, .null, .null, .null, .null, .null, .null, .null, .int 0, .null, .null, .null, .int 0, .null, .null, .int 0, .int 0, .int 0, .int 0, .int 0, .int 0, .null, .null, .null, .null, .null, .long 0]
theorem vX8_ok : ∀ j, j < 39 → defaultValue (tyX8 j) = vp_V vXX8 j := by decide +kernel
theorem zcls_in : ∀ (ci : Nat) (q : vw_C), zcls[ci]? = some q → ∀ w ∈ u_ws q.1 q.2.1 q.2.2, w ∈ zT := by
  intro ci q h
  match ci, h with
  | 0, h => cases h; exact inX0
  | 1, h => cases h; exact inX1
  | 2, h => cases h; exact inX2
  | 3, h => cases h; exact inX4
  | 4, h => cases h; exact inX5
  | 5, h => cases h; exact inX6
  | 6, h => cases h; exact inX7
  | 7, h => cases h; exact inX8
  | n + 8, h => simp [zcls] at h
theorem zcls_ty : ∀ (ci : Nat) (q : vw_C), zcls[ci]? = some q → ∃ ty : Nat → FieldType, (∀ k, k < q.2.2 → parseFieldDescriptor (q.2.1 k).2.2.1 = some (ty k)) ∧ ∀ a, a < q.2.2 → ∀ b, b < q.2.2 → a ≠ b → (q.2.1 a).2.1 ≠ (q.2.1 b).2.1 := by
  intro ci q h
  match ci, h with
  | 0, h => cases h; exact ⟨tyX0, tyX0_ok, nmX0⟩
  | 1, h => cases h; exact ⟨tyX1, tyX1_ok, nmX1⟩
  | 2, h => cases h; exact ⟨tyX2, tyX2_ok, nmX2⟩
  | 3, h => cases h; exact ⟨tyX4, tyX4_ok, nmX4⟩
  | 4, h => cases h; exact ⟨tyX5, tyX5_ok, nmX5⟩
  | 5, h => cases h; exact ⟨tyX6, tyX6_ok, nmX6⟩
  | 6, h => cases h; exact ⟨tyX7, tyX7_ok, nmX7⟩
  | 7, h => cases h; exact ⟨tyX8, tyX8_ok, nmX8⟩
  | n + 8, h => simp [zcls] at h
theorem nL_7 : znw RL 7 6 11 vXX7 := ⟨RX7, TX7, zin 60 (by decide +kernel) rfl, aX7, bX7, rfl, tyX7, tyX7_ok, vX7_ok⟩
theorem nX7_9 : znw RX7 9 3 2 vXX4 := ⟨RX4, TX4, zin 68 (by decide +kernel) rfl, aX4, bX4, rfl, tyX4, tyX4_ok, vX4_ok⟩
theorem fX4_11 : zfl RX4 11 3 0 true (.array .int) := ⟨RX4, TX4, 2, rfl, by decide, rfl, rfl, by decide +kernel, zin 74 (by decide +kernel) rfl⟩
theorem fX7_249 : zfl RX7 249 3 0 true (.array .int) := ⟨RX4, TX4, 2, rfl, by decide, rfl, rfl, by decide +kernel, zin 75 (by decide +kernel) rfl⟩
theorem fX4_15 : zfl RX4 15 3 1 false (.int) := ⟨RX4, TX4, 2, rfl, by decide, rfl, rfl, by decide +kernel, zin 76 (by decide +kernel) rfl⟩
theorem fX7_57 : zfl RX7 57 3 1 false (.int) := ⟨RX4, TX4, 2, rfl, by decide, rfl, rfl, by decide +kernel, zin 77 (by decide +kernel) rfl⟩
theorem nX7_16 : znw RX7 16 0 12 vXX0 := ⟨RX0, TX0, zin 84 (by decide +kernel) rfl, aX0, bX0, rfl, tyX0, tyX0_ok, vX0_ok⟩
theorem fX0_33 : zfl RX0 33 0 0 false (.int) := ⟨RX0, TX0, 12, rfl, by decide, rfl, rfl, by decide +kernel, zin 90 (by decide +kernel) rfl⟩
theorem fX2_52 : zfl RX2 52 0 0 false (.int) := ⟨RX0, TX0, 12, rfl, by decide, rfl, rfl, by decide +kernel, zin 91 (by decide +kernel) rfl⟩
theorem fX7_219 : zfl RX7 219 0 0 false (.int) := ⟨RX0, TX0, 12, rfl, by decide, rfl, rfl, by decide +kernel, zin 92 (by decide +kernel) rfl⟩
theorem fX6_15 : zfl RX6 15 0 1 false (.int) := ⟨RX0, TX0, 12, rfl, by decide, rfl, rfl, by decide +kernel, zin 93 (by decide +kernel) rfl⟩
theorem fX0_37 : zfl RX0 37 0 1 false (.int) := ⟨RX0, TX0, 12, rfl, by decide, rfl, rfl, by decide +kernel, zin 94 (by decide +kernel) rfl⟩
theorem fX7_85 : zfl RX7 85 0 1 false (.int) := ⟨RX0, TX0, 12, rfl, by decide, rfl, rfl, by decide +kernel, zin 95 (by decide +kernel) rfl⟩
theorem fX2_90 : zfl RX2 90 0 1 false (.int) := ⟨RX0, TX0, 12, rfl, by decide, rfl, rfl, by decide +kernel, zin 96 (by decide +kernel) rfl⟩
theorem fX0_40 : zfl RX0 40 0 2 false (.int) := ⟨RX0, TX0, 12, rfl, by decide, rfl, rfl, by decide +kernel, zin 97 (by decide +kernel) rfl⟩
theorem fX7_171 : zfl RX7 171 0 2 false (.int) := ⟨RX0, TX0, 12, rfl, by decide, rfl, rfl, by decide +kernel, zin 98 (by decide +kernel) rfl⟩
theorem fX0_43 : zfl RX0 43 0 3 false (.int) := ⟨RX0, TX0, 12, rfl, by decide, rfl, rfl, by decide +kernel, zin 99 (by decide +kernel) rfl⟩
theorem fX2_62 : zfl RX2 62 0 3 false (.int) := ⟨RX0, TX0, 12, rfl, by decide, rfl, rfl, by decide +kernel, zin 100 (by decide +kernel) rfl⟩
theorem fX7_162 : zfl RX7 162 0 3 false (.int) := ⟨RX0, TX0, 12, rfl, by decide, rfl, rfl, by decide +kernel, zin 101 (by decide +kernel) rfl⟩
theorem fX0_46 : zfl RX0 46 0 4 false (.int) := ⟨RX0, TX0, 12, rfl, by decide, rfl, rfl, by decide +kernel, zin 102 (by decide +kernel) rfl⟩
theorem fX2_104 : zfl RX2 104 0 4 false (.int) := ⟨RX0, TX0, 12, rfl, by decide, rfl, rfl, by decide +kernel, zin 103 (by decide +kernel) rfl⟩
theorem fX7_234 : zfl RX7 234 0 4 false (.int) := ⟨RX0, TX0, 12, rfl, by decide, rfl, rfl, by decide +kernel, zin 104 (by decide +kernel) rfl⟩
theorem fX0_9 : zfl RX0 9 0 5 true (.array .int) := ⟨RX0, TX0, 12, rfl, by decide, rfl, rfl, by decide +kernel, zin 105 (by decide +kernel) rfl⟩
theorem fX7_95 : zfl RX7 95 0 5 true (.array .int) := ⟨RX0, TX0, 12, rfl, by decide, rfl, rfl, by decide +kernel, zin 106 (by decide +kernel) rfl⟩
theorem fX0_15 : zfl RX0 15 0 6 true (.array .int) := ⟨RX0, TX0, 12, rfl, by decide, rfl, rfl, by decide +kernel, zin 107 (by decide +kernel) rfl⟩
theorem fX1_37 : zfl RX1 37 0 6 true (.array .int) := ⟨RX0, TX0, 12, rfl, by decide, rfl, rfl, by decide +kernel, zin 108 (by decide +kernel) rfl⟩
theorem fX7_108 : zfl RX7 108 0 6 true (.array .int) := ⟨RX0, TX0, 12, rfl, by decide, rfl, rfl, by decide +kernel, zin 109 (by decide +kernel) rfl⟩
theorem fX0_18 : zfl RX0 18 0 7 true (.array .int) := ⟨RX0, TX0, 12, rfl, by decide, rfl, rfl, by decide +kernel, zin 110 (by decide +kernel) rfl⟩
theorem fX6_21 : zfl RX6 21 0 7 true (.array .int) := ⟨RX0, TX0, 12, rfl, by decide, rfl, rfl, by decide +kernel, zin 111 (by decide +kernel) rfl⟩
theorem fX7_99 : zfl RX7 99 0 7 true (.array .int) := ⟨RX0, TX0, 12, rfl, by decide, rfl, rfl, by decide +kernel, zin 112 (by decide +kernel) rfl⟩
theorem fX0_21 : zfl RX0 21 0 8 true (.array .int) := ⟨RX0, TX0, 12, rfl, by decide, rfl, rfl, by decide +kernel, zin 113 (by decide +kernel) rfl⟩
theorem fX1_44 : zfl RX1 44 0 8 true (.array .int) := ⟨RX0, TX0, 12, rfl, by decide, rfl, rfl, by decide +kernel, zin 114 (by decide +kernel) rfl⟩
theorem fX7_102 : zfl RX7 102 0 8 true (.array .int) := ⟨RX0, TX0, 12, rfl, by decide, rfl, rfl, by decide +kernel, zin 115 (by decide +kernel) rfl⟩
theorem fX0_24 : zfl RX0 24 0 9 true (.array .int) := ⟨RX0, TX0, 12, rfl, by decide, rfl, rfl, by decide +kernel, zin 116 (by decide +kernel) rfl⟩
theorem fX1_54 : zfl RX1 54 0 9 true (.array .int) := ⟨RX0, TX0, 12, rfl, by decide, rfl, rfl, by decide +kernel, zin 117 (by decide +kernel) rfl⟩
theorem fX7_105 : zfl RX7 105 0 9 true (.array .int) := ⟨RX0, TX0, 12, rfl, by decide, rfl, rfl, by decide +kernel, zin 118 (by decide +kernel) rfl⟩
theorem fX0_27 : zfl RX0 27 0 10 true (.array .int) := ⟨RX0, TX0, 12, rfl, by decide, rfl, rfl, by decide +kernel, zin 119 (by decide +kernel) rfl⟩
theorem fX2_58 : zfl RX2 58 0 10 true (.array .int) := ⟨RX0, TX0, 12, rfl, by decide, rfl, rfl, by decide +kernel, zin 120 (by decide +kernel) rfl⟩
theorem fX7_143 : zfl RX7 143 0 10 true (.array .int) := ⟨RX0, TX0, 12, rfl, by decide, rfl, rfl, by decide +kernel, zin 121 (by decide +kernel) rfl⟩
theorem fX0_30 : zfl RX0 30 0 11 true (.array .int) := ⟨RX0, TX0, 12, rfl, by decide, rfl, rfl, by decide +kernel, zin 122 (by decide +kernel) rfl⟩
theorem nX7_26 : znw RX7 26 4 4 vXX5 := ⟨RX5, TX5, zin 148 (by decide +kernel) rfl, aX5, bX5, rfl, tyX5, tyX5_ok, vX5_ok⟩
theorem fX5_9 : zfl RX5 9 4 0 true (.array .int) := ⟨RX5, TX5, 4, rfl, by decide, rfl, rfl, by decide +kernel, zin 154 (by decide +kernel) rfl⟩
theorem fX1_72 : zfl RX1 72 4 0 true (.array .int) := ⟨RX5, TX5, 4, rfl, by decide, rfl, rfl, by decide +kernel, zin 155 (by decide +kernel) rfl⟩
theorem fX5_13 : zfl RX5 13 4 1 true (.array .int) := ⟨RX5, TX5, 4, rfl, by decide, rfl, rfl, by decide +kernel, zin 156 (by decide +kernel) rfl⟩
theorem fX1_75 : zfl RX1 75 4 1 true (.array .int) := ⟨RX5, TX5, 4, rfl, by decide, rfl, rfl, by decide +kernel, zin 157 (by decide +kernel) rfl⟩
theorem fX5_16 : zfl RX5 16 4 2 true (.array .int) := ⟨RX5, TX5, 4, rfl, by decide, rfl, rfl, by decide +kernel, zin 158 (by decide +kernel) rfl⟩
theorem fX1_78 : zfl RX1 78 4 2 true (.array .int) := ⟨RX5, TX5, 4, rfl, by decide, rfl, rfl, by decide +kernel, zin 159 (by decide +kernel) rfl⟩
theorem fX5_19 : zfl RX5 19 4 3 false (.int) := ⟨RX5, TX5, 4, rfl, by decide, rfl, rfl, by decide +kernel, zin 160 (by decide +kernel) rfl⟩
theorem fX7_77 : zfl RX7 77 4 3 false (.int) := ⟨RX5, TX5, 4, rfl, by decide, rfl, rfl, by decide +kernel, zin 161 (by decide +kernel) rfl⟩
theorem fX1_66 : zfl RX1 66 4 3 false (.int) := ⟨RX5, TX5, 4, rfl, by decide, rfl, rfl, by decide +kernel, zin 162 (by decide +kernel) rfl⟩
theorem nX7_36 : znw RX7 36 2 3 vXX2 := ⟨RX2, TX2, zin 172 (by decide +kernel) rfl, aX2, bX2, rfl, tyX2, tyX2_ok, vX2_ok⟩
theorem nX2_9 : znw RX2 9 0 12 vXX0 := ⟨RX0, TX0, zin 178 (by decide +kernel) rfl, aX0, bX0, rfl, tyX0, tyX0_ok, vX0_ok⟩
theorem fX2_12 : zfl RX2 12 2 0 true (.object "BarnSummers$Barn") := ⟨RX2, TX2, 3, rfl, by decide, rfl, rfl, by decide +kernel, zin 180 (by decide +kernel) rfl⟩
theorem fX2_37 : zfl RX2 37 2 1 false (.int) := ⟨RX2, TX2, 3, rfl, by decide, rfl, rfl, by decide +kernel, zin 181 (by decide +kernel) rfl⟩
theorem fX7_187 : zfl RX7 187 2 1 false (.int) := ⟨RX2, TX2, 3, rfl, by decide, rfl, rfl, by decide +kernel, zin 182 (by decide +kernel) rfl⟩
theorem fX2_41 : zfl RX2 41 2 2 false (.int) := ⟨RX2, TX2, 3, rfl, by decide, rfl, rfl, by decide +kernel, zin 183 (by decide +kernel) rfl⟩
theorem nX7_43 : znw RX7 43 1 3 vXX1 := ⟨RX1, TX1, zin 191 (by decide +kernel) rfl, aX1, bX1, rfl, tyX1, tyX1_ok, vX1_ok⟩
theorem nX1_9 : znw RX1 9 0 12 vXX0 := ⟨RX0, TX0, zin 197 (by decide +kernel) rfl, aX0, bX0, rfl, tyX0, tyX0_ok, vX0_ok⟩
theorem fX1_12 : zfl RX1 12 1 0 true (.object "BarnSummers$Barn") := ⟨RX1, TX1, 3, rfl, by decide, rfl, rfl, by decide +kernel, zin 199 (by decide +kernel) rfl⟩
theorem fX1_18 : zfl RX1 18 1 1 true (.array .int) := ⟨RX1, TX1, 3, rfl, by decide, rfl, rfl, by decide +kernel, zin 200 (by decide +kernel) rfl⟩
theorem fX1_22 : zfl RX1 22 1 2 true (.array .int) := ⟨RX1, TX1, 3, rfl, by decide, rfl, rfl, by decide +kernel, zin 201 (by decide +kernel) rfl⟩
theorem nX7_50 : znw RX7 50 5 1 vXX6 := ⟨RX6, TX6, zin 209 (by decide +kernel) rfl, aX6, bX6, rfl, tyX6, tyX6_ok, vX6_ok⟩
theorem fX6_11 : zfl RX6 11 5 0 true (.array .long) := ⟨RX6, TX6, 1, rfl, by decide, rfl, rfl, by decide +kernel, zin 215 (by decide +kernel) rfl⟩
theorem fX7_12 : zfl RX7 12 6 0 true (.object "BarnSummers$Page") := ⟨RX7, TX7, 11, rfl, by decide, rfl, rfl, by decide +kernel, zin 220 (by decide +kernel) rfl⟩
theorem fX7_19 : zfl RX7 19 6 1 true (.object "BarnSummers$Barn") := ⟨RX7, TX7, 11, rfl, by decide, rfl, rfl, by decide +kernel, zin 221 (by decide +kernel) rfl⟩
theorem fX7_23 : zfl RX7 23 6 2 true (.object "BarnSummers$Barn") := ⟨RX7, TX7, 11, rfl, by decide, rfl, rfl, by decide +kernel, zin 222 (by decide +kernel) rfl⟩
theorem fX7_29 : zfl RX7 29 6 3 true (.object "BarnSummers$Seen") := ⟨RX7, TX7, 11, rfl, by decide, rfl, rfl, by decide +kernel, zin 223 (by decide +kernel) rfl⟩
theorem fX7_33 : zfl RX7 33 6 4 true (.object "BarnSummers$Seen") := ⟨RX7, TX7, 11, rfl, by decide, rfl, rfl, by decide +kernel, zin 224 (by decide +kernel) rfl⟩
theorem fX7_39 : zfl RX7 39 6 5 true (.object "BarnSummers$Foresight") := ⟨RX7, TX7, 11, rfl, by decide, rfl, rfl, by decide +kernel, zin 225 (by decide +kernel) rfl⟩
theorem fX7_46 : zfl RX7 46 6 6 true (.object "BarnSummers$Feeling") := ⟨RX7, TX7, 11, rfl, by decide, rfl, rfl, by decide +kernel, zin 226 (by decide +kernel) rfl⟩
theorem fX7_53 : zfl RX7 53 6 7 true (.object "BarnSummers$Sharing") := ⟨RX7, TX7, 11, rfl, by decide, rfl, rfl, by decide +kernel, zin 227 (by decide +kernel) rfl⟩
theorem fX7_78 : zfl RX7 78 6 8 false (.boolean) := ⟨RX7, TX7, 11, rfl, by decide, rfl, rfl, by decide +kernel, zin 228 (by decide +kernel) rfl⟩
theorem fX7_82 : zfl RX7 82 6 9 false (.int) := ⟨RX7, TX7, 11, rfl, by decide, rfl, rfl, by decide +kernel, zin 229 (by decide +kernel) rfl⟩
theorem fX7_193 : zfl RX7 193 6 10 false (.int) := ⟨RX7, TX7, 11, rfl, by decide, rfl, rfl, by decide +kernel, zin 230 (by decide +kernel) rfl⟩
theorem gX2_107 : Cond.constantLong RX2 107 1103515245 ∈ zT := zin 584 (by decide +kernel) rfl
theorem gX2_109 : Cond.constantLong RX2 109 12345 ∈ zT := zin 585 (by decide +kernel) rfl
theorem gX2_111 : Cond.constantLong RX2 111 2147483647 ∈ zT := zin 586 (by decide +kernel) rfl
theorem gX7_237 : Cond.constantLong RX7 237 1201 ∈ zT := zin 623 (by decide +kernel) rfl
theorem gX7_255 : Cond.constantLong RX7 255 31 ∈ zT := zin 628 (by decide +kernel) rfl
theorem nL_10 : znw RL 10 7 39 vXX8 := ⟨RX8, TX8, zin 631 (by decide +kernel) rfl, aX8, bX8, rfl, tyX8, tyX8_ok, vX8_ok⟩
theorem fX8_7 : zfl RX8 7 7 0 true (.array .int) := ⟨RX8, TX8, 39, rfl, by decide, rfl, rfl, by decide +kernel, zin 637 (by decide +kernel) rfl⟩
theorem fX8_83 : zfl RX8 83 7 1 false (.int) := ⟨RX8, TX8, 39, rfl, by decide, rfl, rfl, by decide +kernel, zin 638 (by decide +kernel) rfl⟩
theorem fX8_99 : zfl RX8 99 7 2 false (.int) := ⟨RX8, TX8, 39, rfl, by decide, rfl, rfl, by decide +kernel, zin 639 (by decide +kernel) rfl⟩
theorem fX8_86 : zfl RX8 86 7 3 false (.int) := ⟨RX8, TX8, 39, rfl, by decide, rfl, rfl, by decide +kernel, zin 640 (by decide +kernel) rfl⟩
theorem fX8_110 : zfl RX8 110 7 4 false (.int) := ⟨RX8, TX8, 39, rfl, by decide, rfl, rfl, by decide +kernel, zin 641 (by decide +kernel) rfl⟩
theorem fX8_113 : zfl RX8 113 7 5 false (.int) := ⟨RX8, TX8, 39, rfl, by decide, rfl, rfl, by decide +kernel, zin 642 (by decide +kernel) rfl⟩
theorem fX8_116 : zfl RX8 116 7 6 false (.int) := ⟨RX8, TX8, 39, rfl, by decide, rfl, rfl, by decide +kernel, zin 643 (by decide +kernel) rfl⟩
theorem fX8_119 : zfl RX8 119 7 7 false (.int) := ⟨RX8, TX8, 39, rfl, by decide, rfl, rfl, by decide +kernel, zin 644 (by decide +kernel) rfl⟩
theorem fX8_122 : zfl RX8 122 7 8 false (.int) := ⟨RX8, TX8, 39, rfl, by decide, rfl, rfl, by decide +kernel, zin 645 (by decide +kernel) rfl⟩
theorem fX8_128 : zfl RX8 128 7 9 false (.int) := ⟨RX8, TX8, 39, rfl, by decide, rfl, rfl, by decide +kernel, zin 646 (by decide +kernel) rfl⟩
theorem fX8_13 : zfl RX8 13 7 10 true (.array .int) := ⟨RX8, TX8, 39, rfl, by decide, rfl, rfl, by decide +kernel, zin 647 (by decide +kernel) rfl⟩
theorem fX8_16 : zfl RX8 16 7 11 true (.array .int) := ⟨RX8, TX8, 39, rfl, by decide, rfl, rfl, by decide +kernel, zin 648 (by decide +kernel) rfl⟩
theorem fX8_19 : zfl RX8 19 7 12 true (.array .int) := ⟨RX8, TX8, 39, rfl, by decide, rfl, rfl, by decide +kernel, zin 649 (by decide +kernel) rfl⟩
theorem fX8_22 : zfl RX8 22 7 13 true (.array .int) := ⟨RX8, TX8, 39, rfl, by decide, rfl, rfl, by decide +kernel, zin 650 (by decide +kernel) rfl⟩
theorem fX8_25 : zfl RX8 25 7 14 true (.array .int) := ⟨RX8, TX8, 39, rfl, by decide, rfl, rfl, by decide +kernel, zin 651 (by decide +kernel) rfl⟩
theorem fX8_28 : zfl RX8 28 7 15 true (.array .int) := ⟨RX8, TX8, 39, rfl, by decide, rfl, rfl, by decide +kernel, zin 652 (by decide +kernel) rfl⟩
theorem fX8_31 : zfl RX8 31 7 16 true (.array .int) := ⟨RX8, TX8, 39, rfl, by decide, rfl, rfl, by decide +kernel, zin 653 (by decide +kernel) rfl⟩
theorem fX8_34 : zfl RX8 34 7 17 true (.array .int) := ⟨RX8, TX8, 39, rfl, by decide, rfl, rfl, by decide +kernel, zin 654 (by decide +kernel) rfl⟩
theorem fX8_37 : zfl RX8 37 7 18 true (.array .int) := ⟨RX8, TX8, 39, rfl, by decide, rfl, rfl, by decide +kernel, zin 655 (by decide +kernel) rfl⟩
theorem fX8_40 : zfl RX8 40 7 19 true (.array .int) := ⟨RX8, TX8, 39, rfl, by decide, rfl, rfl, by decide +kernel, zin 656 (by decide +kernel) rfl⟩
theorem fX8_256 : zfl RX8 256 7 20 false (.int) := ⟨RX8, TX8, 39, rfl, by decide, rfl, rfl, by decide +kernel, zin 657 (by decide +kernel) rfl⟩
theorem fX8_43 : zfl RX8 43 7 21 true (.array .int) := ⟨RX8, TX8, 39, rfl, by decide, rfl, rfl, by decide +kernel, zin 658 (by decide +kernel) rfl⟩
theorem fX8_46 : zfl RX8 46 7 22 true (.array .int) := ⟨RX8, TX8, 39, rfl, by decide, rfl, rfl, by decide +kernel, zin 659 (by decide +kernel) rfl⟩
theorem fX8_49 : zfl RX8 49 7 23 true (.array .int) := ⟨RX8, TX8, 39, rfl, by decide, rfl, rfl, by decide +kernel, zin 660 (by decide +kernel) rfl⟩
theorem fX8_125 : zfl RX8 125 7 24 false (.int) := ⟨RX8, TX8, 39, rfl, by decide, rfl, rfl, by decide +kernel, zin 661 (by decide +kernel) rfl⟩
theorem fX8_52 : zfl RX8 52 7 25 true (.array .int) := ⟨RX8, TX8, 39, rfl, by decide, rfl, rfl, by decide +kernel, zin 662 (by decide +kernel) rfl⟩
theorem fX8_55 : zfl RX8 55 7 26 true (.array .int) := ⟨RX8, TX8, 39, rfl, by decide, rfl, rfl, by decide +kernel, zin 663 (by decide +kernel) rfl⟩
theorem fX8_277 : zfl RX8 277 7 27 false (.int) := ⟨RX8, TX8, 39, rfl, by decide, rfl, rfl, by decide +kernel, zin 664 (by decide +kernel) rfl⟩
theorem fX8_73 : zfl RX8 73 7 28 false (.int) := ⟨RX8, TX8, 39, rfl, by decide, rfl, rfl, by decide +kernel, zin 665 (by decide +kernel) rfl⟩
theorem fX8_290 : zfl RX8 290 7 29 false (.int) := ⟨RX8, TX8, 39, rfl, by decide, rfl, rfl, by decide +kernel, zin 666 (by decide +kernel) rfl⟩
theorem fX8_293 : zfl RX8 293 7 30 false (.int) := ⟨RX8, TX8, 39, rfl, by decide, rfl, rfl, by decide +kernel, zin 667 (by decide +kernel) rfl⟩
theorem fX8_296 : zfl RX8 296 7 31 false (.int) := ⟨RX8, TX8, 39, rfl, by decide, rfl, rfl, by decide +kernel, zin 668 (by decide +kernel) rfl⟩
theorem fX8_299 : zfl RX8 299 7 32 false (.int) := ⟨RX8, TX8, 39, rfl, by decide, rfl, rfl, by decide +kernel, zin 669 (by decide +kernel) rfl⟩
theorem fX8_58 : zfl RX8 58 7 33 true (.array .int) := ⟨RX8, TX8, 39, rfl, by decide, rfl, rfl, by decide +kernel, zin 670 (by decide +kernel) rfl⟩
theorem fX8_61 : zfl RX8 61 7 34 true (.array .int) := ⟨RX8, TX8, 39, rfl, by decide, rfl, rfl, by decide +kernel, zin 671 (by decide +kernel) rfl⟩
theorem fX8_64 : zfl RX8 64 7 35 true (.array .int) := ⟨RX8, TX8, 39, rfl, by decide, rfl, rfl, by decide +kernel, zin 672 (by decide +kernel) rfl⟩
theorem fX8_67 : zfl RX8 67 7 36 true (.array .int) := ⟨RX8, TX8, 39, rfl, by decide, rfl, rfl, by decide +kernel, zin 673 (by decide +kernel) rfl⟩
theorem fX8_70 : zfl RX8 70 7 37 true (.array .int) := ⟨RX8, TX8, 39, rfl, by decide, rfl, rfl, by decide +kernel, zin 674 (by decide +kernel) rfl⟩
theorem fX8_317 : zfl RX8 317 7 38 false (.long) := ⟨RX8, TX8, 39, rfl, by decide, rfl, rfl, by decide +kernel, zin 675 (by decide +kernel) rfl⟩
theorem gX8_77 : Cond.constantLong RX8 77 126 ∈ zT := zin 759 (by decide +kernel) rfl
theorem gX8_93 : Cond.constantLong RX8 93 49 ∈ zT := zin 782 (by decide +kernel) rfl
theorem gX8_95 : Cond.constantLong RX8 95 57 ∈ zT := zin 783 (by decide +kernel) rfl
theorem gX8_97 : Cond.constantLong RX8 97 48 ∈ zT := zin 784 (by decide +kernel) rfl
theorem gX8_168 : Cond.constantLong RX8 168 10 ∈ zT := zin 808 (by decide +kernel) rfl
theorem gX8_170 : Cond.constantLong RX8 170 12 ∈ zT := zin 809 (by decide +kernel) rfl
theorem gX8_185 : Cond.constantLong RX8 185 4 ∈ zT := zin 861 (by decide +kernel) rfl
theorem gX8_214 : Cond.constantLong RX8 214 3 ∈ zT := zin 910 (by decide +kernel) rfl
theorem gX8_229 : Cond.constantLong RX8 229 9 ∈ zT := zin 939 (by decide +kernel) rfl
theorem gX8_234 : Cond.constantLong RX8 234 6 ∈ zT := zin 944 (by decide +kernel) rfl
theorem gX8_249 : Cond.constantLong RX8 249 13 ∈ zT := zin 957 (by decide +kernel) rfl
theorem gX8_254 : Cond.constantLong RX8 254 2 ∈ zT := zin 978 (by decide +kernel) rfl
theorem gX8_262 : Cond.constantLong RX8 262 20 ∈ zT := zin 987 (by decide +kernel) rfl
theorem gX8_267 : Cond.constantLong RX8 267 30 ∈ zT := zin 996 (by decide +kernel) rfl
theorem gX8_285 : Cond.constantLong RX8 285 60 ∈ zT := zin 1005 (by decide +kernel) rfl
theorem gX8_275 : Cond.constantLong RX8 275 1103515245 ∈ zT := zin 1010 (by decide +kernel) rfl
theorem gX8_280 : Cond.constantLong RX8 280 12345 ∈ zT := zin 1011 (by decide +kernel) rfl
theorem gX8_282 : Cond.constantLong RX8 282 2147483647 ∈ zT := zin 1012 (by decide +kernel) rfl
theorem gX8_284 : Cond.constant RX8 284 65536 ∈ zT := zin 1013 (by decide +kernel) rfl
theorem gX8_325 : Cond.constantLong RX8 325 1201 ∈ zT := zin 1046 (by decide +kernel) rfl
theorem gX8_315 : Cond.constantLong RX8 315 31 ∈ zT := zin 1051 (by decide +kernel) rfl
theorem zw_int : Cond.arrayClass .int ∈ zT := zin 83 (by decide +kernel) rfl
theorem zw_long : Cond.arrayClass .long ∈ zT := zin 219 (by decide +kernel) rfl
theorem zw_oi : Cond.instanceMethod Lib.objectInit ∈ zT := zin 66 (by decide +kernel) rfl
theorem zw_oc : Cond.code Lib.objectInit ⟨#[0xb1]⟩ 1 none ∈ zT := zin 67 (by decide +kernel) rfl
theorem zw_min : Cond.static Lib.Math.min.name ∈ zT ∧ Cond.code Lib.Math.min.name Lib.Math.min.code 2 (some .int) ∈ zT := ⟨zin 364 (by decide +kernel) rfl, zin 365 (by decide +kernel) rfl⟩
theorem zw_max : Cond.static Lib.Math.max.name ∈ zT ∧ Cond.code Lib.Math.max.name Lib.Math.max.code 2 (some .int) ∈ zT := ⟨zin 383 (by decide +kernel) rfl, zin 384 (by decide +kernel) rfl⟩
theorem zw_math : Cond.initialized "java/lang/Math" ∈ zT := zin 59 (by decide +kernel) rfl
theorem zw_ac : Cond.static arraycopyName ∈ zT ∧ Cond.native arraycopyName ∈ zT ∧ Cond.initialized "java/lang/System" ∈ zT := ⟨zin 349 (by decide +kernel) rfl, zin 350 (by decide +kernel) rfl, zin 58 (by decide +kernel) rfl⟩
end
section
def zat (y : zY) (pc n pc2 : Nat) (i : Instr) : Prop := decode y.2.1 pc = .ok (i, n) ∧ pc + n = pc2
def zbr (y : zY) (pc pc2 tgt : Nat) (f : Int → Instr) : Prop := ∃ off : Int, decode y.2.1 pc = .ok (f off, 3) ∧ (pc : Int) + off = (tgt : Int) ∧ pc + 3 = pc2
theorem iX0_init_0 : zat mX0_init 0 1 1 (.aload_n 0) := ⟨by decide +kernel, rfl⟩
theorem iX0_init_1 : zat mX0_init 1 3 4 (.invokespecial 3) := ⟨by decide +kernel, rfl⟩
theorem iX0_init_4 : zat mX0_init 4 1 5 (.aload_n 0) := ⟨by decide +kernel, rfl⟩
theorem iX0_init_5 : zat mX0_init 5 2 7 (.bipush 9) := ⟨by decide +kernel, rfl⟩
theorem iX0_init_7 : zat mX0_init 7 2 9 (.newarray .int) := ⟨by decide +kernel, rfl⟩
theorem iX0_init_9 : zat mX0_init 9 3 12 (.putfield 9) := ⟨by decide +kernel, rfl⟩
theorem iX0_init_12 : zat mX0_init 12 1 13 (.aload_n 0) := ⟨by decide +kernel, rfl⟩
theorem iX0_init_13 : zat mX0_init 13 2 15 (.bipush 9) := ⟨by decide +kernel, rfl⟩
theorem iX0_init_15 : zat mX0_init 15 2 17 (.newarray .int) := ⟨by decide +kernel, rfl⟩
theorem iX0_init_17 : zat mX0_init 17 3 20 (.putfield 15) := ⟨by decide +kernel, rfl⟩
theorem iX0_init_20 : zat mX0_init 20 1 21 (.aload_n 0) := ⟨by decide +kernel, rfl⟩
theorem iX0_init_21 : zat mX0_init 21 2 23 (.bipush 9) := ⟨by decide +kernel, rfl⟩
theorem iX0_init_23 : zat mX0_init 23 2 25 (.newarray .int) := ⟨by decide +kernel, rfl⟩
theorem iX0_init_25 : zat mX0_init 25 3 28 (.putfield 18) := ⟨by decide +kernel, rfl⟩
theorem iX0_init_28 : zat mX0_init 28 1 29 (.aload_n 0) := ⟨by decide +kernel, rfl⟩
theorem iX0_init_29 : zat mX0_init 29 2 31 (.bipush 9) := ⟨by decide +kernel, rfl⟩
theorem iX0_init_31 : zat mX0_init 31 2 33 (.newarray .int) := ⟨by decide +kernel, rfl⟩
theorem iX0_init_33 : zat mX0_init 33 3 36 (.putfield 21) := ⟨by decide +kernel, rfl⟩
theorem iX0_init_36 : zat mX0_init 36 1 37 (.aload_n 0) := ⟨by decide +kernel, rfl⟩
theorem iX0_init_37 : zat mX0_init 37 2 39 (.bipush 9) := ⟨by decide +kernel, rfl⟩
theorem iX0_init_39 : zat mX0_init 39 2 41 (.newarray .int) := ⟨by decide +kernel, rfl⟩
theorem iX0_init_41 : zat mX0_init 41 3 44 (.putfield 24) := ⟨by decide +kernel, rfl⟩
theorem iX0_init_44 : zat mX0_init 44 1 45 (.aload_n 0) := ⟨by decide +kernel, rfl⟩
theorem iX0_init_45 : zat mX0_init 45 1 46 (.iconst 3) := ⟨by decide +kernel, rfl⟩
theorem iX0_init_46 : zat mX0_init 46 2 48 (.newarray .int) := ⟨by decide +kernel, rfl⟩
theorem iX0_init_48 : zat mX0_init 48 3 51 (.putfield 27) := ⟨by decide +kernel, rfl⟩
theorem iX0_init_51 : zat mX0_init 51 1 52 (.aload_n 0) := ⟨by decide +kernel, rfl⟩
theorem iX0_init_52 : zat mX0_init 52 2 54 (.bipush 9) := ⟨by decide +kernel, rfl⟩
theorem iX0_init_54 : zat mX0_init 54 2 56 (.newarray .int) := ⟨by decide +kernel, rfl⟩
theorem iX0_init_56 : zat mX0_init 56 3 59 (.putfield 30) := ⟨by decide +kernel, rfl⟩
theorem iX0_init_59 : zat mX0_init 59 1 60 (.return_) := ⟨by decide +kernel, rfl⟩
theorem iX0_copyFrom_0 : zat mX0_copyFrom 0 1 1 (.aload_n 0) := ⟨by decide +kernel, rfl⟩
theorem iX0_copyFrom_1 : zat mX0_copyFrom 1 1 2 (.aload_n 1) := ⟨by decide +kernel, rfl⟩
theorem iX0_copyFrom_2 : zat mX0_copyFrom 2 3 5 (.getfield 33) := ⟨by decide +kernel, rfl⟩
theorem iX0_copyFrom_5 : zat mX0_copyFrom 5 3 8 (.putfield 33) := ⟨by decide +kernel, rfl⟩
theorem iX0_copyFrom_8 : zat mX0_copyFrom 8 1 9 (.aload_n 0) := ⟨by decide +kernel, rfl⟩
theorem iX0_copyFrom_9 : zat mX0_copyFrom 9 1 10 (.aload_n 1) := ⟨by decide +kernel, rfl⟩
theorem iX0_copyFrom_10 : zat mX0_copyFrom 10 3 13 (.getfield 37) := ⟨by decide +kernel, rfl⟩
theorem iX0_copyFrom_13 : zat mX0_copyFrom 13 3 16 (.putfield 37) := ⟨by decide +kernel, rfl⟩
theorem iX0_copyFrom_16 : zat mX0_copyFrom 16 1 17 (.aload_n 0) := ⟨by decide +kernel, rfl⟩
theorem iX0_copyFrom_17 : zat mX0_copyFrom 17 1 18 (.aload_n 1) := ⟨by decide +kernel, rfl⟩
theorem iX0_copyFrom_18 : zat mX0_copyFrom 18 3 21 (.getfield 40) := ⟨by decide +kernel, rfl⟩
theorem iX0_copyFrom_21 : zat mX0_copyFrom 21 3 24 (.putfield 40) := ⟨by decide +kernel, rfl⟩
theorem iX0_copyFrom_24 : zat mX0_copyFrom 24 1 25 (.aload_n 0) := ⟨by decide +kernel, rfl⟩
theorem iX0_copyFrom_25 : zat mX0_copyFrom 25 1 26 (.aload_n 1) := ⟨by decide +kernel, rfl⟩
theorem iX0_copyFrom_26 : zat mX0_copyFrom 26 3 29 (.getfield 43) := ⟨by decide +kernel, rfl⟩
theorem iX0_copyFrom_29 : zat mX0_copyFrom 29 3 32 (.putfield 43) := ⟨by decide +kernel, rfl⟩
theorem iX0_copyFrom_32 : zat mX0_copyFrom 32 1 33 (.aload_n 0) := ⟨by decide +kernel, rfl⟩
theorem iX0_copyFrom_33 : zat mX0_copyFrom 33 1 34 (.aload_n 1) := ⟨by decide +kernel, rfl⟩
theorem iX0_copyFrom_34 : zat mX0_copyFrom 34 3 37 (.getfield 46) := ⟨by decide +kernel, rfl⟩
theorem iX0_copyFrom_37 : zat mX0_copyFrom 37 3 40 (.putfield 46) := ⟨by decide +kernel, rfl⟩
theorem iX0_copyFrom_40 : zat mX0_copyFrom 40 1 41 (.aload_n 1) := ⟨by decide +kernel, rfl⟩
theorem iX0_copyFrom_41 : zat mX0_copyFrom 41 3 44 (.getfield 9) := ⟨by decide +kernel, rfl⟩
theorem iX0_copyFrom_44 : zat mX0_copyFrom 44 1 45 (.iconst 0) := ⟨by decide +kernel, rfl⟩
theorem iX0_copyFrom_45 : zat mX0_copyFrom 45 1 46 (.aload_n 0) := ⟨by decide +kernel, rfl⟩
theorem iX0_copyFrom_46 : zat mX0_copyFrom 46 3 49 (.getfield 9) := ⟨by decide +kernel, rfl⟩
theorem iX0_copyFrom_49 : zat mX0_copyFrom 49 1 50 (.iconst 0) := ⟨by decide +kernel, rfl⟩
theorem iX0_copyFrom_50 : zat mX0_copyFrom 50 2 52 (.bipush 9) := ⟨by decide +kernel, rfl⟩
theorem iX0_copyFrom_52 : zat mX0_copyFrom 52 3 55 (.invokestatic 49) := ⟨by decide +kernel, rfl⟩
theorem iX0_copyFrom_55 : zat mX0_copyFrom 55 1 56 (.aload_n 1) := ⟨by decide +kernel, rfl⟩
theorem iX0_copyFrom_56 : zat mX0_copyFrom 56 3 59 (.getfield 15) := ⟨by decide +kernel, rfl⟩
theorem iX0_copyFrom_59 : zat mX0_copyFrom 59 1 60 (.iconst 0) := ⟨by decide +kernel, rfl⟩
theorem iX0_copyFrom_60 : zat mX0_copyFrom 60 1 61 (.aload_n 0) := ⟨by decide +kernel, rfl⟩
theorem iX0_copyFrom_61 : zat mX0_copyFrom 61 3 64 (.getfield 15) := ⟨by decide +kernel, rfl⟩
theorem iX0_copyFrom_64 : zat mX0_copyFrom 64 1 65 (.iconst 0) := ⟨by decide +kernel, rfl⟩
theorem iX0_copyFrom_65 : zat mX0_copyFrom 65 2 67 (.bipush 9) := ⟨by decide +kernel, rfl⟩
theorem iX0_copyFrom_67 : zat mX0_copyFrom 67 3 70 (.invokestatic 49) := ⟨by decide +kernel, rfl⟩
theorem iX0_copyFrom_70 : zat mX0_copyFrom 70 1 71 (.aload_n 1) := ⟨by decide +kernel, rfl⟩
theorem iX0_copyFrom_71 : zat mX0_copyFrom 71 3 74 (.getfield 18) := ⟨by decide +kernel, rfl⟩
theorem iX0_copyFrom_74 : zat mX0_copyFrom 74 1 75 (.iconst 0) := ⟨by decide +kernel, rfl⟩
theorem iX0_copyFrom_75 : zat mX0_copyFrom 75 1 76 (.aload_n 0) := ⟨by decide +kernel, rfl⟩
theorem iX0_copyFrom_76 : zat mX0_copyFrom 76 3 79 (.getfield 18) := ⟨by decide +kernel, rfl⟩
theorem iX0_copyFrom_79 : zat mX0_copyFrom 79 1 80 (.iconst 0) := ⟨by decide +kernel, rfl⟩
theorem iX0_copyFrom_80 : zat mX0_copyFrom 80 2 82 (.bipush 9) := ⟨by decide +kernel, rfl⟩
theorem iX0_copyFrom_82 : zat mX0_copyFrom 82 3 85 (.invokestatic 49) := ⟨by decide +kernel, rfl⟩
theorem iX0_copyFrom_85 : zat mX0_copyFrom 85 1 86 (.aload_n 1) := ⟨by decide +kernel, rfl⟩
theorem iX0_copyFrom_86 : zat mX0_copyFrom 86 3 89 (.getfield 21) := ⟨by decide +kernel, rfl⟩
theorem iX0_copyFrom_89 : zat mX0_copyFrom 89 1 90 (.iconst 0) := ⟨by decide +kernel, rfl⟩
theorem iX0_copyFrom_90 : zat mX0_copyFrom 90 1 91 (.aload_n 0) := ⟨by decide +kernel, rfl⟩
theorem iX0_copyFrom_91 : zat mX0_copyFrom 91 3 94 (.getfield 21) := ⟨by decide +kernel, rfl⟩
theorem iX0_copyFrom_94 : zat mX0_copyFrom 94 1 95 (.iconst 0) := ⟨by decide +kernel, rfl⟩
theorem iX0_copyFrom_95 : zat mX0_copyFrom 95 2 97 (.bipush 9) := ⟨by decide +kernel, rfl⟩
theorem iX0_copyFrom_97 : zat mX0_copyFrom 97 3 100 (.invokestatic 49) := ⟨by decide +kernel, rfl⟩
theorem iX0_copyFrom_100 : zat mX0_copyFrom 100 1 101 (.aload_n 1) := ⟨by decide +kernel, rfl⟩
theorem iX0_copyFrom_101 : zat mX0_copyFrom 101 3 104 (.getfield 24) := ⟨by decide +kernel, rfl⟩
theorem iX0_copyFrom_104 : zat mX0_copyFrom 104 1 105 (.iconst 0) := ⟨by decide +kernel, rfl⟩
theorem iX0_copyFrom_105 : zat mX0_copyFrom 105 1 106 (.aload_n 0) := ⟨by decide +kernel, rfl⟩
theorem iX0_copyFrom_106 : zat mX0_copyFrom 106 3 109 (.getfield 24) := ⟨by decide +kernel, rfl⟩
theorem iX0_copyFrom_109 : zat mX0_copyFrom 109 1 110 (.iconst 0) := ⟨by decide +kernel, rfl⟩
theorem iX0_copyFrom_110 : zat mX0_copyFrom 110 2 112 (.bipush 9) := ⟨by decide +kernel, rfl⟩
theorem iX0_copyFrom_112 : zat mX0_copyFrom 112 3 115 (.invokestatic 49) := ⟨by decide +kernel, rfl⟩
theorem iX0_copyFrom_115 : zat mX0_copyFrom 115 1 116 (.aload_n 1) := ⟨by decide +kernel, rfl⟩
theorem iX0_copyFrom_116 : zat mX0_copyFrom 116 3 119 (.getfield 27) := ⟨by decide +kernel, rfl⟩
theorem iX0_copyFrom_119 : zat mX0_copyFrom 119 1 120 (.iconst 0) := ⟨by decide +kernel, rfl⟩
theorem iX0_copyFrom_120 : zat mX0_copyFrom 120 1 121 (.aload_n 0) := ⟨by decide +kernel, rfl⟩
theorem iX0_copyFrom_121 : zat mX0_copyFrom 121 3 124 (.getfield 27) := ⟨by decide +kernel, rfl⟩
theorem iX0_copyFrom_124 : zat mX0_copyFrom 124 1 125 (.iconst 0) := ⟨by decide +kernel, rfl⟩
theorem iX0_copyFrom_125 : zat mX0_copyFrom 125 1 126 (.iconst 3) := ⟨by decide +kernel, rfl⟩
theorem iX0_copyFrom_126 : zat mX0_copyFrom 126 3 129 (.invokestatic 49) := ⟨by decide +kernel, rfl⟩
theorem iX0_copyFrom_129 : zat mX0_copyFrom 129 1 130 (.aload_n 1) := ⟨by decide +kernel, rfl⟩
theorem iX0_copyFrom_130 : zat mX0_copyFrom 130 3 133 (.getfield 30) := ⟨by decide +kernel, rfl⟩
theorem iX0_copyFrom_133 : zat mX0_copyFrom 133 1 134 (.iconst 0) := ⟨by decide +kernel, rfl⟩
theorem iX0_copyFrom_134 : zat mX0_copyFrom 134 1 135 (.aload_n 0) := ⟨by decide +kernel, rfl⟩
theorem iX0_copyFrom_135 : zat mX0_copyFrom 135 3 138 (.getfield 30) := ⟨by decide +kernel, rfl⟩
theorem iX0_copyFrom_138 : zat mX0_copyFrom 138 1 139 (.iconst 0) := ⟨by decide +kernel, rfl⟩
theorem iX0_copyFrom_139 : zat mX0_copyFrom 139 2 141 (.bipush 9) := ⟨by decide +kernel, rfl⟩
theorem iX0_copyFrom_141 : zat mX0_copyFrom 141 3 144 (.invokestatic 49) := ⟨by decide +kernel, rfl⟩
theorem iX0_copyFrom_144 : zat mX0_copyFrom 144 1 145 (.return_) := ⟨by decide +kernel, rfl⟩
theorem iX0_empty_0 : zat mX0_empty 0 1 1 (.aload_n 0) := ⟨by decide +kernel, rfl⟩
theorem iX0_empty_1 : zat mX0_empty 1 1 2 (.iconst 0) := ⟨by decide +kernel, rfl⟩
theorem iX0_empty_2 : zat mX0_empty 2 3 5 (.putfield 33) := ⟨by decide +kernel, rfl⟩
theorem iX0_empty_5 : zat mX0_empty 5 1 6 (.aload_n 0) := ⟨by decide +kernel, rfl⟩
theorem iX0_empty_6 : zat mX0_empty 6 1 7 (.iconst 0) := ⟨by decide +kernel, rfl⟩
theorem iX0_empty_7 : zat mX0_empty 7 3 10 (.putfield 37) := ⟨by decide +kernel, rfl⟩
theorem iX0_empty_10 : zat mX0_empty 10 1 11 (.aload_n 0) := ⟨by decide +kernel, rfl⟩
theorem iX0_empty_11 : zat mX0_empty 11 1 12 (.iconst 0) := ⟨by decide +kernel, rfl⟩
theorem iX0_empty_12 : zat mX0_empty 12 3 15 (.putfield 40) := ⟨by decide +kernel, rfl⟩
theorem iX0_empty_15 : zat mX0_empty 15 1 16 (.aload_n 0) := ⟨by decide +kernel, rfl⟩
theorem iX0_empty_16 : zat mX0_empty 16 1 17 (.iconst 0) := ⟨by decide +kernel, rfl⟩
theorem iX0_empty_17 : zat mX0_empty 17 3 20 (.putfield 43) := ⟨by decide +kernel, rfl⟩
theorem iX0_empty_20 : zat mX0_empty 20 1 21 (.aload_n 0) := ⟨by decide +kernel, rfl⟩
theorem iX0_empty_21 : zat mX0_empty 21 1 22 (.iconst 0) := ⟨by decide +kernel, rfl⟩
theorem iX0_empty_22 : zat mX0_empty 22 3 25 (.putfield 46) := ⟨by decide +kernel, rfl⟩
theorem iX0_empty_25 : zat mX0_empty 25 1 26 (.iconst 0) := ⟨by decide +kernel, rfl⟩
theorem iX0_empty_26 : zat mX0_empty 26 1 27 (.istore_n 1) := ⟨by decide +kernel, rfl⟩
theorem iX0_empty_27 : zat mX0_empty 27 1 28 (.iload_n 1) := ⟨by decide +kernel, rfl⟩
theorem iX0_empty_28 : zat mX0_empty 28 1 29 (.iconst 3) := ⟨by decide +kernel, rfl⟩
theorem iX0_empty_29 : zbr mX0_empty 29 32 45 (.if_icmp .ge) := ⟨16, by decide +kernel, rfl, rfl⟩
theorem iX0_empty_32 : zat mX0_empty 32 1 33 (.aload_n 0) := ⟨by decide +kernel, rfl⟩
theorem iX0_empty_33 : zat mX0_empty 33 3 36 (.getfield 27) := ⟨by decide +kernel, rfl⟩
theorem iX0_empty_36 : zat mX0_empty 36 1 37 (.iload_n 1) := ⟨by decide +kernel, rfl⟩
theorem iX0_empty_37 : zat mX0_empty 37 1 38 (.iconst 0) := ⟨by decide +kernel, rfl⟩
theorem iX0_empty_38 : zat mX0_empty 38 1 39 (.iastore) := ⟨by decide +kernel, rfl⟩
theorem iX0_empty_39 : zat mX0_empty 39 3 42 (.iinc 1 1) := ⟨by decide +kernel, rfl⟩
theorem iX0_empty_42 : zbr mX0_empty 42 45 27 (.goto) := ⟨-15, by decide +kernel, rfl, rfl⟩
theorem iX0_empty_45 : zat mX0_empty 45 1 46 (.return_) := ⟨by decide +kernel, rfl⟩
theorem iX0_lay_0 : zat mX0_lay 0 1 1 (.iload_n 1) := ⟨by decide +kernel, rfl⟩
theorem iX0_lay_1 : zat mX0_lay 1 1 2 (.iconst 3) := ⟨by decide +kernel, rfl⟩
theorem iX0_lay_2 : zbr mX0_lay 2 5 24 (.if_icmp .ge) := ⟨22, by decide +kernel, rfl, rfl⟩
theorem iX0_lay_5 : zat mX0_lay 5 1 6 (.aload_n 0) := ⟨by decide +kernel, rfl⟩
theorem iX0_lay_6 : zat mX0_lay 6 3 9 (.getfield 27) := ⟨by decide +kernel, rfl⟩
theorem iX0_lay_9 : zat mX0_lay 9 1 10 (.iload_n 1) := ⟨by decide +kernel, rfl⟩
theorem iX0_lay_10 : zat mX0_lay 10 1 11 (.iaload) := ⟨by decide +kernel, rfl⟩
theorem iX0_lay_11 : zat mX0_lay 11 1 12 (.iconst 3) := ⟨by decide +kernel, rfl⟩
theorem iX0_lay_12 : zbr mX0_lay 12 15 24 (.if_icmp .ge) := ⟨12, by decide +kernel, rfl, rfl⟩
theorem iX0_lay_15 : zat mX0_lay 15 1 16 (.aload_n 0) := ⟨by decide +kernel, rfl⟩
theorem iX0_lay_16 : zat mX0_lay 16 3 19 (.getfield 37) := ⟨by decide +kernel, rfl⟩
theorem iX0_lay_19 : zat mX0_lay 19 2 21 (.bipush 9) := ⟨by decide +kernel, rfl⟩
theorem iX0_lay_21 : zbr mX0_lay 21 24 25 (.if_icmp .lt) := ⟨4, by decide +kernel, rfl, rfl⟩
theorem iX0_lay_24 : zat mX0_lay 24 1 25 (.return_) := ⟨by decide +kernel, rfl⟩
theorem iX0_lay_25 : zat mX0_lay 25 1 26 (.aload_n 0) := ⟨by decide +kernel, rfl⟩
theorem iX0_lay_26 : zat mX0_lay 26 3 29 (.getfield 9) := ⟨by decide +kernel, rfl⟩
theorem iX0_lay_29 : zat mX0_lay 29 1 30 (.aload_n 0) := ⟨by decide +kernel, rfl⟩
theorem iX0_lay_30 : zat mX0_lay 30 3 33 (.getfield 37) := ⟨by decide +kernel, rfl⟩
theorem iX0_lay_33 : zat mX0_lay 33 1 34 (.iload_n 2) := ⟨by decide +kernel, rfl⟩
theorem iX0_lay_34 : zat mX0_lay 34 1 35 (.iastore) := ⟨by decide +kernel, rfl⟩
theorem iX0_lay_35 : zat mX0_lay 35 1 36 (.aload_n 0) := ⟨by decide +kernel, rfl⟩
theorem iX0_lay_36 : zat mX0_lay 36 3 39 (.getfield 15) := ⟨by decide +kernel, rfl⟩
theorem iX0_lay_39 : zat mX0_lay 39 1 40 (.aload_n 0) := ⟨by decide +kernel, rfl⟩
theorem iX0_lay_40 : zat mX0_lay 40 3 43 (.getfield 37) := ⟨by decide +kernel, rfl⟩
theorem iX0_lay_43 : zat mX0_lay 43 1 44 (.iload_n 1) := ⟨by decide +kernel, rfl⟩
theorem iX0_lay_44 : zat mX0_lay 44 1 45 (.iastore) := ⟨by decide +kernel, rfl⟩
theorem iX0_lay_45 : zat mX0_lay 45 1 46 (.aload_n 0) := ⟨by decide +kernel, rfl⟩
theorem iX0_lay_46 : zat mX0_lay 46 3 49 (.getfield 18) := ⟨by decide +kernel, rfl⟩
theorem iX0_lay_49 : zat mX0_lay 49 1 50 (.aload_n 0) := ⟨by decide +kernel, rfl⟩
theorem iX0_lay_50 : zat mX0_lay 50 3 53 (.getfield 37) := ⟨by decide +kernel, rfl⟩
theorem iX0_lay_53 : zat mX0_lay 53 1 54 (.iload_n 3) := ⟨by decide +kernel, rfl⟩
theorem iX0_lay_54 : zat mX0_lay 54 1 55 (.iastore) := ⟨by decide +kernel, rfl⟩
theorem iX0_lay_55 : zat mX0_lay 55 1 56 (.aload_n 0) := ⟨by decide +kernel, rfl⟩
theorem iX0_lay_56 : zat mX0_lay 56 3 59 (.getfield 21) := ⟨by decide +kernel, rfl⟩
theorem iX0_lay_59 : zat mX0_lay 59 1 60 (.aload_n 0) := ⟨by decide +kernel, rfl⟩
theorem iX0_lay_60 : zat mX0_lay 60 3 63 (.getfield 37) := ⟨by decide +kernel, rfl⟩
theorem iX0_lay_63 : zat mX0_lay 63 2 65 (.iload 4) := ⟨by decide +kernel, rfl⟩
theorem iX0_lay_65 : zat mX0_lay 65 1 66 (.iastore) := ⟨by decide +kernel, rfl⟩
theorem iX0_lay_66 : zat mX0_lay 66 1 67 (.aload_n 0) := ⟨by decide +kernel, rfl⟩
theorem iX0_lay_67 : zat mX0_lay 67 3 70 (.getfield 24) := ⟨by decide +kernel, rfl⟩
theorem iX0_lay_70 : zat mX0_lay 70 1 71 (.aload_n 0) := ⟨by decide +kernel, rfl⟩
theorem iX0_lay_71 : zat mX0_lay 71 3 74 (.getfield 37) := ⟨by decide +kernel, rfl⟩
theorem iX0_lay_74 : zat mX0_lay 74 1 75 (.iconst 0) := ⟨by decide +kernel, rfl⟩
theorem iX0_lay_75 : zat mX0_lay 75 1 76 (.iastore) := ⟨by decide +kernel, rfl⟩
theorem iX0_lay_76 : zat mX0_lay 76 1 77 (.aload_n 0) := ⟨by decide +kernel, rfl⟩
theorem iX0_lay_77 : zat mX0_lay 77 3 80 (.getfield 30) := ⟨by decide +kernel, rfl⟩
theorem iX0_lay_80 : zat mX0_lay 80 1 81 (.iload_n 1) := ⟨by decide +kernel, rfl⟩
theorem iX0_lay_81 : zat mX0_lay 81 1 82 (.iconst 3) := ⟨by decide +kernel, rfl⟩
theorem iX0_lay_82 : zat mX0_lay 82 1 83 (.imul) := ⟨by decide +kernel, rfl⟩
theorem iX0_lay_83 : zat mX0_lay 83 1 84 (.aload_n 0) := ⟨by decide +kernel, rfl⟩
theorem iX0_lay_84 : zat mX0_lay 84 3 87 (.getfield 27) := ⟨by decide +kernel, rfl⟩
theorem iX0_lay_87 : zat mX0_lay 87 1 88 (.iload_n 1) := ⟨by decide +kernel, rfl⟩
theorem iX0_lay_88 : zat mX0_lay 88 1 89 (.iaload) := ⟨by decide +kernel, rfl⟩
theorem iX0_lay_89 : zat mX0_lay 89 1 90 (.iadd) := ⟨by decide +kernel, rfl⟩
theorem iX0_lay_90 : zat mX0_lay 90 1 91 (.aload_n 0) := ⟨by decide +kernel, rfl⟩
theorem iX0_lay_91 : zat mX0_lay 91 3 94 (.getfield 37) := ⟨by decide +kernel, rfl⟩
theorem iX0_lay_94 : zat mX0_lay 94 1 95 (.iastore) := ⟨by decide +kernel, rfl⟩
theorem iX0_lay_95 : zat mX0_lay 95 1 96 (.aload_n 0) := ⟨by decide +kernel, rfl⟩
theorem iX0_lay_96 : zat mX0_lay 96 3 99 (.getfield 27) := ⟨by decide +kernel, rfl⟩
theorem iX0_lay_99 : zat mX0_lay 99 1 100 (.iload_n 1) := ⟨by decide +kernel, rfl⟩
theorem iX0_lay_100 : zat mX0_lay 100 1 101 (.dup2) := ⟨by decide +kernel, rfl⟩
theorem iX0_lay_101 : zat mX0_lay 101 1 102 (.iaload) := ⟨by decide +kernel, rfl⟩
theorem iX0_lay_102 : zat mX0_lay 102 1 103 (.iconst 1) := ⟨by decide +kernel, rfl⟩
theorem iX0_lay_103 : zat mX0_lay 103 1 104 (.iadd) := ⟨by decide +kernel, rfl⟩
theorem iX0_lay_104 : zat mX0_lay 104 1 105 (.iastore) := ⟨by decide +kernel, rfl⟩
theorem iX0_lay_105 : zat mX0_lay 105 1 106 (.aload_n 0) := ⟨by decide +kernel, rfl⟩
theorem iX0_lay_106 : zat mX0_lay 106 1 107 (.dup) := ⟨by decide +kernel, rfl⟩
theorem iX0_lay_107 : zat mX0_lay 107 3 110 (.getfield 37) := ⟨by decide +kernel, rfl⟩
theorem iX0_lay_110 : zat mX0_lay 110 1 111 (.iconst 1) := ⟨by decide +kernel, rfl⟩
theorem iX0_lay_111 : zat mX0_lay 111 1 112 (.iadd) := ⟨by decide +kernel, rfl⟩
theorem iX0_lay_112 : zat mX0_lay 112 3 115 (.putfield 37) := ⟨by decide +kernel, rfl⟩
theorem iX0_lay_115 : zat mX0_lay 115 1 116 (.aload_n 0) := ⟨by decide +kernel, rfl⟩
theorem iX0_lay_116 : zat mX0_lay 116 1 117 (.iload_n 1) := ⟨by decide +kernel, rfl⟩
theorem iX0_lay_117 : zat mX0_lay 117 1 118 (.iconst 1) := ⟨by decide +kernel, rfl⟩
theorem iX0_lay_118 : zat mX0_lay 118 1 119 (.iadd) := ⟨by decide +kernel, rfl⟩
theorem iX0_lay_119 : zat mX0_lay 119 3 122 (.putfield 33) := ⟨by decide +kernel, rfl⟩
theorem iX0_lay_122 : zat mX0_lay 122 1 123 (.return_) := ⟨by decide +kernel, rfl⟩
theorem iX0_isGone_0 : zat mX0_isGone 0 1 1 (.aload_n 0) := ⟨by decide +kernel, rfl⟩
theorem iX0_isGone_1 : zat mX0_isGone 1 3 4 (.getfield 18) := ⟨by decide +kernel, rfl⟩
theorem iX0_isGone_4 : zat mX0_isGone 4 1 5 (.iload_n 1) := ⟨by decide +kernel, rfl⟩
theorem iX0_isGone_5 : zat mX0_isGone 5 1 6 (.iaload) := ⟨by decide +kernel, rfl⟩
theorem iX0_isGone_6 : zbr mX0_isGone 6 9 13 (.ifCond .ne) := ⟨7, by decide +kernel, rfl, rfl⟩
theorem iX0_isGone_9 : zat mX0_isGone 9 1 10 (.iconst 1) := ⟨by decide +kernel, rfl⟩
theorem iX0_isGone_10 : zbr mX0_isGone 10 13 14 (.goto) := ⟨4, by decide +kernel, rfl, rfl⟩
theorem iX0_isGone_13 : zat mX0_isGone 13 1 14 (.iconst 0) := ⟨by decide +kernel, rfl⟩
theorem iX0_isGone_14 : zat mX0_isGone 14 1 15 (.ireturn) := ⟨by decide +kernel, rfl⟩
theorem iX0_at_0 : zat mX0_at 0 1 1 (.iload_n 2) := ⟨by decide +kernel, rfl⟩
theorem iX0_at_1 : zbr mX0_at 1 4 14 (.ifCond .lt) := ⟨13, by decide +kernel, rfl, rfl⟩
theorem iX0_at_4 : zat mX0_at 4 1 5 (.iload_n 2) := ⟨by decide +kernel, rfl⟩
theorem iX0_at_5 : zat mX0_at 5 1 6 (.aload_n 0) := ⟨by decide +kernel, rfl⟩
theorem iX0_at_6 : zat mX0_at 6 3 9 (.getfield 27) := ⟨by decide +kernel, rfl⟩
theorem iX0_at_9 : zat mX0_at 9 1 10 (.iload_n 1) := ⟨by decide +kernel, rfl⟩
theorem iX0_at_10 : zat mX0_at 10 1 11 (.iaload) := ⟨by decide +kernel, rfl⟩
theorem iX0_at_11 : zbr mX0_at 11 14 18 (.if_icmp .lt) := ⟨7, by decide +kernel, rfl, rfl⟩
theorem iX0_at_14 : zat mX0_at 14 1 15 (.iconst (-1)) := ⟨by decide +kernel, rfl⟩
theorem iX0_at_15 : zbr mX0_at 15 18 28 (.goto) := ⟨13, by decide +kernel, rfl, rfl⟩
theorem iX0_at_18 : zat mX0_at 18 1 19 (.aload_n 0) := ⟨by decide +kernel, rfl⟩
theorem iX0_at_19 : zat mX0_at 19 3 22 (.getfield 30) := ⟨by decide +kernel, rfl⟩
theorem iX0_at_22 : zat mX0_at 22 1 23 (.iload_n 1) := ⟨by decide +kernel, rfl⟩
theorem iX0_at_23 : zat mX0_at 23 1 24 (.iconst 3) := ⟨by decide +kernel, rfl⟩
theorem iX0_at_24 : zat mX0_at 24 1 25 (.imul) := ⟨by decide +kernel, rfl⟩
theorem iX0_at_25 : zat mX0_at 25 1 26 (.iload_n 2) := ⟨by decide +kernel, rfl⟩
theorem iX0_at_26 : zat mX0_at 26 1 27 (.iadd) := ⟨by decide +kernel, rfl⟩
theorem iX0_at_27 : zat mX0_at 27 1 28 (.iaload) := ⟨by decide +kernel, rfl⟩
theorem iX0_at_28 : zat mX0_at 28 1 29 (.ireturn) := ⟨by decide +kernel, rfl⟩
theorem iX0_top_0 : zat mX0_top 0 1 1 (.aload_n 0) := ⟨by decide +kernel, rfl⟩
theorem iX0_top_1 : zat mX0_top 1 3 4 (.getfield 27) := ⟨by decide +kernel, rfl⟩
theorem iX0_top_4 : zat mX0_top 4 1 5 (.iload_n 1) := ⟨by decide +kernel, rfl⟩
theorem iX0_top_5 : zat mX0_top 5 1 6 (.iaload) := ⟨by decide +kernel, rfl⟩
theorem iX0_top_6 : zbr mX0_top 6 9 13 (.ifCond .ne) := ⟨7, by decide +kernel, rfl, rfl⟩
theorem iX0_top_9 : zat mX0_top 9 1 10 (.iconst (-1)) := ⟨by decide +kernel, rfl⟩
theorem iX0_top_10 : zbr mX0_top 10 13 30 (.goto) := ⟨20, by decide +kernel, rfl, rfl⟩
theorem iX0_top_13 : zat mX0_top 13 1 14 (.aload_n 0) := ⟨by decide +kernel, rfl⟩
theorem iX0_top_14 : zat mX0_top 14 3 17 (.getfield 30) := ⟨by decide +kernel, rfl⟩
theorem iX0_top_17 : zat mX0_top 17 1 18 (.iload_n 1) := ⟨by decide +kernel, rfl⟩
theorem iX0_top_18 : zat mX0_top 18 1 19 (.iconst 3) := ⟨by decide +kernel, rfl⟩
theorem iX0_top_19 : zat mX0_top 19 1 20 (.imul) := ⟨by decide +kernel, rfl⟩
theorem iX0_top_20 : zat mX0_top 20 1 21 (.aload_n 0) := ⟨by decide +kernel, rfl⟩
theorem iX0_top_21 : zat mX0_top 21 3 24 (.getfield 27) := ⟨by decide +kernel, rfl⟩
theorem iX0_top_24 : zat mX0_top 24 1 25 (.iload_n 1) := ⟨by decide +kernel, rfl⟩
theorem iX0_top_25 : zat mX0_top 25 1 26 (.iaload) := ⟨by decide +kernel, rfl⟩
theorem iX0_top_26 : zat mX0_top 26 1 27 (.iadd) := ⟨by decide +kernel, rfl⟩
theorem iX0_top_27 : zat mX0_top 27 1 28 (.iconst 1) := ⟨by decide +kernel, rfl⟩
theorem iX0_top_28 : zat mX0_top 28 1 29 (.isub) := ⟨by decide +kernel, rfl⟩
theorem iX0_top_29 : zat mX0_top 29 1 30 (.iaload) := ⟨by decide +kernel, rfl⟩
theorem iX0_top_30 : zat mX0_top 30 1 31 (.ireturn) := ⟨by decide +kernel, rfl⟩
theorem iX0_placeOf_0 : zat mX0_placeOf 0 1 1 (.aload_n 0) := ⟨by decide +kernel, rfl⟩
theorem iX0_placeOf_1 : zat mX0_placeOf 1 3 4 (.getfield 15) := ⟨by decide +kernel, rfl⟩
theorem iX0_placeOf_4 : zat mX0_placeOf 4 1 5 (.iload_n 1) := ⟨by decide +kernel, rfl⟩
theorem iX0_placeOf_5 : zat mX0_placeOf 5 1 6 (.iaload) := ⟨by decide +kernel, rfl⟩
theorem iX0_placeOf_6 : zat mX0_placeOf 6 1 7 (.istore_n 2) := ⟨by decide +kernel, rfl⟩
theorem iX0_placeOf_7 : zat mX0_placeOf 7 1 8 (.iconst 0) := ⟨by decide +kernel, rfl⟩
theorem iX0_placeOf_8 : zat mX0_placeOf 8 1 9 (.istore_n 3) := ⟨by decide +kernel, rfl⟩
theorem iX0_placeOf_9 : zat mX0_placeOf 9 1 10 (.iload_n 3) := ⟨by decide +kernel, rfl⟩
theorem iX0_placeOf_10 : zat mX0_placeOf 10 1 11 (.aload_n 0) := ⟨by decide +kernel, rfl⟩
theorem iX0_placeOf_11 : zat mX0_placeOf 11 3 14 (.getfield 27) := ⟨by decide +kernel, rfl⟩
theorem iX0_placeOf_14 : zat mX0_placeOf 14 1 15 (.iload_n 2) := ⟨by decide +kernel, rfl⟩
theorem iX0_placeOf_15 : zat mX0_placeOf 15 1 16 (.iaload) := ⟨by decide +kernel, rfl⟩
theorem iX0_placeOf_16 : zbr mX0_placeOf 16 19 41 (.if_icmp .ge) := ⟨25, by decide +kernel, rfl, rfl⟩
theorem iX0_placeOf_19 : zat mX0_placeOf 19 1 20 (.aload_n 0) := ⟨by decide +kernel, rfl⟩
theorem iX0_placeOf_20 : zat mX0_placeOf 20 3 23 (.getfield 30) := ⟨by decide +kernel, rfl⟩
theorem iX0_placeOf_23 : zat mX0_placeOf 23 1 24 (.iload_n 2) := ⟨by decide +kernel, rfl⟩
theorem iX0_placeOf_24 : zat mX0_placeOf 24 1 25 (.iconst 3) := ⟨by decide +kernel, rfl⟩
theorem iX0_placeOf_25 : zat mX0_placeOf 25 1 26 (.imul) := ⟨by decide +kernel, rfl⟩
theorem iX0_placeOf_26 : zat mX0_placeOf 26 1 27 (.iload_n 3) := ⟨by decide +kernel, rfl⟩
theorem iX0_placeOf_27 : zat mX0_placeOf 27 1 28 (.iadd) := ⟨by decide +kernel, rfl⟩
theorem iX0_placeOf_28 : zat mX0_placeOf 28 1 29 (.iaload) := ⟨by decide +kernel, rfl⟩
theorem iX0_placeOf_29 : zat mX0_placeOf 29 1 30 (.iload_n 1) := ⟨by decide +kernel, rfl⟩
theorem iX0_placeOf_30 : zbr mX0_placeOf 30 33 35 (.if_icmp .ne) := ⟨5, by decide +kernel, rfl, rfl⟩
theorem iX0_placeOf_33 : zat mX0_placeOf 33 1 34 (.iload_n 3) := ⟨by decide +kernel, rfl⟩
theorem iX0_placeOf_34 : zat mX0_placeOf 34 1 35 (.ireturn) := ⟨by decide +kernel, rfl⟩
theorem iX0_placeOf_35 : zat mX0_placeOf 35 3 38 (.iinc 3 1) := ⟨by decide +kernel, rfl⟩
theorem iX0_placeOf_38 : zbr mX0_placeOf 38 41 9 (.goto) := ⟨-29, by decide +kernel, rfl, rfl⟩
theorem iX0_placeOf_41 : zat mX0_placeOf 41 1 42 (.iconst (-1)) := ⟨by decide +kernel, rfl⟩
theorem iX0_placeOf_42 : zat mX0_placeOf 42 1 43 (.ireturn) := ⟨by decide +kernel, rfl⟩
theorem iX0_howManyOn_0 : zat mX0_howManyOn 0 1 1 (.aload_n 0) := ⟨by decide +kernel, rfl⟩
theorem iX0_howManyOn_1 : zat mX0_howManyOn 1 3 4 (.getfield 27) := ⟨by decide +kernel, rfl⟩
theorem iX0_howManyOn_4 : zat mX0_howManyOn 4 1 5 (.aload_n 0) := ⟨by decide +kernel, rfl⟩
theorem iX0_howManyOn_5 : zat mX0_howManyOn 5 3 8 (.getfield 15) := ⟨by decide +kernel, rfl⟩
theorem iX0_howManyOn_8 : zat mX0_howManyOn 8 1 9 (.iload_n 1) := ⟨by decide +kernel, rfl⟩
theorem iX0_howManyOn_9 : zat mX0_howManyOn 9 1 10 (.iaload) := ⟨by decide +kernel, rfl⟩
theorem iX0_howManyOn_10 : zat mX0_howManyOn 10 1 11 (.iaload) := ⟨by decide +kernel, rfl⟩
theorem iX0_howManyOn_11 : zat mX0_howManyOn 11 1 12 (.iconst 1) := ⟨by decide +kernel, rfl⟩
theorem iX0_howManyOn_12 : zat mX0_howManyOn 12 1 13 (.isub) := ⟨by decide +kernel, rfl⟩
theorem iX0_howManyOn_13 : zat mX0_howManyOn 13 1 14 (.aload_n 0) := ⟨by decide +kernel, rfl⟩
theorem iX0_howManyOn_14 : zat mX0_howManyOn 14 1 15 (.iload_n 1) := ⟨by decide +kernel, rfl⟩
theorem iX0_howManyOn_15 : zat mX0_howManyOn 15 3 18 (.invokevirtual 55) := ⟨by decide +kernel, rfl⟩
theorem iX0_howManyOn_18 : zat mX0_howManyOn 18 1 19 (.isub) := ⟨by decide +kernel, rfl⟩
theorem iX0_howManyOn_19 : zat mX0_howManyOn 19 1 20 (.ireturn) := ⟨by decide +kernel, rfl⟩
theorem iX0_lightOf_0 : zat mX0_lightOf 0 1 1 (.iconst 0) := ⟨by decide +kernel, rfl⟩
theorem iX0_lightOf_1 : zat mX0_lightOf 1 1 2 (.istore_n 2) := ⟨by decide +kernel, rfl⟩
theorem iX0_lightOf_2 : zat mX0_lightOf 2 1 3 (.iconst 0) := ⟨by decide +kernel, rfl⟩
theorem iX0_lightOf_3 : zat mX0_lightOf 3 1 4 (.istore_n 3) := ⟨by decide +kernel, rfl⟩
theorem iX0_lightOf_4 : zat mX0_lightOf 4 1 5 (.iload_n 3) := ⟨by decide +kernel, rfl⟩
theorem iX0_lightOf_5 : zat mX0_lightOf 5 1 6 (.aload_n 0) := ⟨by decide +kernel, rfl⟩
theorem iX0_lightOf_6 : zat mX0_lightOf 6 3 9 (.getfield 27) := ⟨by decide +kernel, rfl⟩
theorem iX0_lightOf_9 : zat mX0_lightOf 9 1 10 (.iload_n 1) := ⟨by decide +kernel, rfl⟩
theorem iX0_lightOf_10 : zat mX0_lightOf 10 1 11 (.iaload) := ⟨by decide +kernel, rfl⟩
theorem iX0_lightOf_11 : zbr mX0_lightOf 11 14 38 (.if_icmp .ge) := ⟨27, by decide +kernel, rfl, rfl⟩
theorem iX0_lightOf_14 : zat mX0_lightOf 14 1 15 (.iload_n 2) := ⟨by decide +kernel, rfl⟩
theorem iX0_lightOf_15 : zat mX0_lightOf 15 1 16 (.aload_n 0) := ⟨by decide +kernel, rfl⟩
theorem iX0_lightOf_16 : zat mX0_lightOf 16 3 19 (.getfield 18) := ⟨by decide +kernel, rfl⟩
theorem iX0_lightOf_19 : zat mX0_lightOf 19 1 20 (.aload_n 0) := ⟨by decide +kernel, rfl⟩
theorem iX0_lightOf_20 : zat mX0_lightOf 20 3 23 (.getfield 30) := ⟨by decide +kernel, rfl⟩
theorem iX0_lightOf_23 : zat mX0_lightOf 23 1 24 (.iload_n 1) := ⟨by decide +kernel, rfl⟩
theorem iX0_lightOf_24 : zat mX0_lightOf 24 1 25 (.iconst 3) := ⟨by decide +kernel, rfl⟩
theorem iX0_lightOf_25 : zat mX0_lightOf 25 1 26 (.imul) := ⟨by decide +kernel, rfl⟩
theorem iX0_lightOf_26 : zat mX0_lightOf 26 1 27 (.iload_n 3) := ⟨by decide +kernel, rfl⟩
theorem iX0_lightOf_27 : zat mX0_lightOf 27 1 28 (.iadd) := ⟨by decide +kernel, rfl⟩
theorem iX0_lightOf_28 : zat mX0_lightOf 28 1 29 (.iaload) := ⟨by decide +kernel, rfl⟩
theorem iX0_lightOf_29 : zat mX0_lightOf 29 1 30 (.iaload) := ⟨by decide +kernel, rfl⟩
theorem iX0_lightOf_30 : zat mX0_lightOf 30 1 31 (.iadd) := ⟨by decide +kernel, rfl⟩
theorem iX0_lightOf_31 : zat mX0_lightOf 31 1 32 (.istore_n 2) := ⟨by decide +kernel, rfl⟩
theorem iX0_lightOf_32 : zat mX0_lightOf 32 3 35 (.iinc 3 1) := ⟨by decide +kernel, rfl⟩
theorem iX0_lightOf_35 : zbr mX0_lightOf 35 38 4 (.goto) := ⟨-31, by decide +kernel, rfl, rfl⟩
theorem iX0_lightOf_38 : zat mX0_lightOf 38 1 39 (.iload_n 2) := ⟨by decide +kernel, rfl⟩
theorem iX0_lightOf_39 : zat mX0_lightOf 39 1 40 (.ireturn) := ⟨by decide +kernel, rfl⟩
theorem iX0_lightOfSome_0 : zat mX0_lightOfSome 0 1 1 (.iconst 0) := ⟨by decide +kernel, rfl⟩
theorem iX0_lightOfSome_1 : zat mX0_lightOfSome 1 1 2 (.istore_n 3) := ⟨by decide +kernel, rfl⟩
theorem iX0_lightOfSome_2 : zat mX0_lightOfSome 2 1 3 (.iconst 0) := ⟨by decide +kernel, rfl⟩
theorem iX0_lightOfSome_3 : zat mX0_lightOfSome 3 2 5 (.istore 4) := ⟨by decide +kernel, rfl⟩
theorem iX0_lightOfSome_5 : zat mX0_lightOfSome 5 2 7 (.iload 4) := ⟨by decide +kernel, rfl⟩
theorem iX0_lightOfSome_7 : zat mX0_lightOfSome 7 1 8 (.aload_n 0) := ⟨by decide +kernel, rfl⟩
theorem iX0_lightOfSome_8 : zat mX0_lightOfSome 8 3 11 (.getfield 27) := ⟨by decide +kernel, rfl⟩
theorem iX0_lightOfSome_11 : zat mX0_lightOfSome 11 1 12 (.iload_n 1) := ⟨by decide +kernel, rfl⟩
theorem iX0_lightOfSome_12 : zat mX0_lightOfSome 12 1 13 (.iaload) := ⟨by decide +kernel, rfl⟩
theorem iX0_lightOfSome_13 : zbr mX0_lightOfSome 13 16 51 (.if_icmp .ge) := ⟨38, by decide +kernel, rfl, rfl⟩
theorem iX0_lightOfSome_16 : zat mX0_lightOfSome 16 1 17 (.iload_n 2) := ⟨by decide +kernel, rfl⟩
theorem iX0_lightOfSome_17 : zat mX0_lightOfSome 17 2 19 (.iload 4) := ⟨by decide +kernel, rfl⟩
theorem iX0_lightOfSome_19 : zat mX0_lightOfSome 19 1 20 (.ishr) := ⟨by decide +kernel, rfl⟩
theorem iX0_lightOfSome_20 : zat mX0_lightOfSome 20 1 21 (.iconst 1) := ⟨by decide +kernel, rfl⟩
theorem iX0_lightOfSome_21 : zat mX0_lightOfSome 21 1 22 (.iand) := ⟨by decide +kernel, rfl⟩
theorem iX0_lightOfSome_22 : zat mX0_lightOfSome 22 1 23 (.iconst 1) := ⟨by decide +kernel, rfl⟩
theorem iX0_lightOfSome_23 : zbr mX0_lightOfSome 23 26 45 (.if_icmp .ne) := ⟨22, by decide +kernel, rfl, rfl⟩
theorem iX0_lightOfSome_26 : zat mX0_lightOfSome 26 1 27 (.iload_n 3) := ⟨by decide +kernel, rfl⟩
theorem iX0_lightOfSome_27 : zat mX0_lightOfSome 27 1 28 (.aload_n 0) := ⟨by decide +kernel, rfl⟩
theorem iX0_lightOfSome_28 : zat mX0_lightOfSome 28 3 31 (.getfield 18) := ⟨by decide +kernel, rfl⟩
theorem iX0_lightOfSome_31 : zat mX0_lightOfSome 31 1 32 (.aload_n 0) := ⟨by decide +kernel, rfl⟩
theorem iX0_lightOfSome_32 : zat mX0_lightOfSome 32 3 35 (.getfield 30) := ⟨by decide +kernel, rfl⟩
theorem iX0_lightOfSome_35 : zat mX0_lightOfSome 35 1 36 (.iload_n 1) := ⟨by decide +kernel, rfl⟩
theorem iX0_lightOfSome_36 : zat mX0_lightOfSome 36 1 37 (.iconst 3) := ⟨by decide +kernel, rfl⟩
theorem iX0_lightOfSome_37 : zat mX0_lightOfSome 37 1 38 (.imul) := ⟨by decide +kernel, rfl⟩
theorem iX0_lightOfSome_38 : zat mX0_lightOfSome 38 2 40 (.iload 4) := ⟨by decide +kernel, rfl⟩
theorem iX0_lightOfSome_40 : zat mX0_lightOfSome 40 1 41 (.iadd) := ⟨by decide +kernel, rfl⟩
theorem iX0_lightOfSome_41 : zat mX0_lightOfSome 41 1 42 (.iaload) := ⟨by decide +kernel, rfl⟩
theorem iX0_lightOfSome_42 : zat mX0_lightOfSome 42 1 43 (.iaload) := ⟨by decide +kernel, rfl⟩
theorem iX0_lightOfSome_43 : zat mX0_lightOfSome 43 1 44 (.iadd) := ⟨by decide +kernel, rfl⟩
theorem iX0_lightOfSome_44 : zat mX0_lightOfSome 44 1 45 (.istore_n 3) := ⟨by decide +kernel, rfl⟩
theorem iX0_lightOfSome_45 : zat mX0_lightOfSome 45 3 48 (.iinc 4 1) := ⟨by decide +kernel, rfl⟩
theorem iX0_lightOfSome_48 : zbr mX0_lightOfSome 48 51 5 (.goto) := ⟨-43, by decide +kernel, rfl, rfl⟩
theorem iX0_lightOfSome_51 : zat mX0_lightOfSome 51 1 52 (.iload_n 3) := ⟨by decide +kernel, rfl⟩
theorem iX0_lightOfSome_52 : zat mX0_lightOfSome 52 1 53 (.ireturn) := ⟨by decide +kernel, rfl⟩
theorem iX0_lightOfAll_0 : zat mX0_lightOfAll 0 1 1 (.iconst 0) := ⟨by decide +kernel, rfl⟩
theorem iX0_lightOfAll_1 : zat mX0_lightOfAll 1 1 2 (.istore_n 1) := ⟨by decide +kernel, rfl⟩
theorem iX0_lightOfAll_2 : zat mX0_lightOfAll 2 1 3 (.iconst 0) := ⟨by decide +kernel, rfl⟩
theorem iX0_lightOfAll_3 : zat mX0_lightOfAll 3 1 4 (.istore_n 2) := ⟨by decide +kernel, rfl⟩
theorem iX0_lightOfAll_4 : zat mX0_lightOfAll 4 1 5 (.iload_n 2) := ⟨by decide +kernel, rfl⟩
theorem iX0_lightOfAll_5 : zat mX0_lightOfAll 5 1 6 (.aload_n 0) := ⟨by decide +kernel, rfl⟩
theorem iX0_lightOfAll_6 : zat mX0_lightOfAll 6 3 9 (.getfield 37) := ⟨by decide +kernel, rfl⟩
theorem iX0_lightOfAll_9 : zbr mX0_lightOfAll 9 12 27 (.if_icmp .ge) := ⟨18, by decide +kernel, rfl, rfl⟩
theorem iX0_lightOfAll_12 : zat mX0_lightOfAll 12 1 13 (.iload_n 1) := ⟨by decide +kernel, rfl⟩
theorem iX0_lightOfAll_13 : zat mX0_lightOfAll 13 1 14 (.aload_n 0) := ⟨by decide +kernel, rfl⟩
theorem iX0_lightOfAll_14 : zat mX0_lightOfAll 14 3 17 (.getfield 18) := ⟨by decide +kernel, rfl⟩
theorem iX0_lightOfAll_17 : zat mX0_lightOfAll 17 1 18 (.iload_n 2) := ⟨by decide +kernel, rfl⟩
theorem iX0_lightOfAll_18 : zat mX0_lightOfAll 18 1 19 (.iaload) := ⟨by decide +kernel, rfl⟩
theorem iX0_lightOfAll_19 : zat mX0_lightOfAll 19 1 20 (.iadd) := ⟨by decide +kernel, rfl⟩
theorem iX0_lightOfAll_20 : zat mX0_lightOfAll 20 1 21 (.istore_n 1) := ⟨by decide +kernel, rfl⟩
theorem iX0_lightOfAll_21 : zat mX0_lightOfAll 21 3 24 (.iinc 2 1) := ⟨by decide +kernel, rfl⟩
theorem iX0_lightOfAll_24 : zbr mX0_lightOfAll 24 27 4 (.goto) := ⟨-20, by decide +kernel, rfl, rfl⟩
theorem iX0_lightOfAll_27 : zat mX0_lightOfAll 27 1 28 (.iload_n 1) := ⟨by decide +kernel, rfl⟩
theorem iX0_lightOfAll_28 : zat mX0_lightOfAll 28 1 29 (.ireturn) := ⟨by decide +kernel, rfl⟩
theorem iX0_wetOfAll_0 : zat mX0_wetOfAll 0 1 1 (.iconst 0) := ⟨by decide +kernel, rfl⟩
theorem iX0_wetOfAll_1 : zat mX0_wetOfAll 1 1 2 (.istore_n 1) := ⟨by decide +kernel, rfl⟩
theorem iX0_wetOfAll_2 : zat mX0_wetOfAll 2 1 3 (.iconst 0) := ⟨by decide +kernel, rfl⟩
theorem iX0_wetOfAll_3 : zat mX0_wetOfAll 3 1 4 (.istore_n 2) := ⟨by decide +kernel, rfl⟩
theorem iX0_wetOfAll_4 : zat mX0_wetOfAll 4 1 5 (.iload_n 2) := ⟨by decide +kernel, rfl⟩
theorem iX0_wetOfAll_5 : zat mX0_wetOfAll 5 1 6 (.aload_n 0) := ⟨by decide +kernel, rfl⟩
theorem iX0_wetOfAll_6 : zat mX0_wetOfAll 6 3 9 (.getfield 37) := ⟨by decide +kernel, rfl⟩
theorem iX0_wetOfAll_9 : zbr mX0_wetOfAll 9 12 27 (.if_icmp .ge) := ⟨18, by decide +kernel, rfl, rfl⟩
theorem iX0_wetOfAll_12 : zat mX0_wetOfAll 12 1 13 (.iload_n 1) := ⟨by decide +kernel, rfl⟩
theorem iX0_wetOfAll_13 : zat mX0_wetOfAll 13 1 14 (.aload_n 0) := ⟨by decide +kernel, rfl⟩
theorem iX0_wetOfAll_14 : zat mX0_wetOfAll 14 3 17 (.getfield 21) := ⟨by decide +kernel, rfl⟩
theorem iX0_wetOfAll_17 : zat mX0_wetOfAll 17 1 18 (.iload_n 2) := ⟨by decide +kernel, rfl⟩
theorem iX0_wetOfAll_18 : zat mX0_wetOfAll 18 1 19 (.iaload) := ⟨by decide +kernel, rfl⟩
theorem iX0_wetOfAll_19 : zat mX0_wetOfAll 19 1 20 (.iadd) := ⟨by decide +kernel, rfl⟩
theorem iX0_wetOfAll_20 : zat mX0_wetOfAll 20 1 21 (.istore_n 1) := ⟨by decide +kernel, rfl⟩
theorem iX0_wetOfAll_21 : zat mX0_wetOfAll 21 3 24 (.iinc 2 1) := ⟨by decide +kernel, rfl⟩
theorem iX0_wetOfAll_24 : zbr mX0_wetOfAll 24 27 4 (.goto) := ⟨-20, by decide +kernel, rfl, rfl⟩
theorem iX0_wetOfAll_27 : zat mX0_wetOfAll 27 1 28 (.iload_n 1) := ⟨by decide +kernel, rfl⟩
theorem iX0_wetOfAll_28 : zat mX0_wetOfAll 28 1 29 (.ireturn) := ⟨by decide +kernel, rfl⟩
theorem iX0_mostWarm_0 : zat mX0_mostWarm 0 1 1 (.iconst 0) := ⟨by decide +kernel, rfl⟩
theorem iX0_mostWarm_1 : zat mX0_mostWarm 1 1 2 (.istore_n 1) := ⟨by decide +kernel, rfl⟩
theorem iX0_mostWarm_2 : zat mX0_mostWarm 2 1 3 (.iconst 0) := ⟨by decide +kernel, rfl⟩
theorem iX0_mostWarm_3 : zat mX0_mostWarm 3 1 4 (.istore_n 2) := ⟨by decide +kernel, rfl⟩
theorem iX0_mostWarm_4 : zat mX0_mostWarm 4 1 5 (.iload_n 2) := ⟨by decide +kernel, rfl⟩
theorem iX0_mostWarm_5 : zat mX0_mostWarm 5 1 6 (.aload_n 0) := ⟨by decide +kernel, rfl⟩
theorem iX0_mostWarm_6 : zat mX0_mostWarm 6 3 9 (.getfield 37) := ⟨by decide +kernel, rfl⟩
theorem iX0_mostWarm_9 : zbr mX0_mostWarm 9 12 29 (.if_icmp .ge) := ⟨20, by decide +kernel, rfl, rfl⟩
theorem iX0_mostWarm_12 : zat mX0_mostWarm 12 1 13 (.iload_n 1) := ⟨by decide +kernel, rfl⟩
theorem iX0_mostWarm_13 : zat mX0_mostWarm 13 1 14 (.aload_n 0) := ⟨by decide +kernel, rfl⟩
theorem iX0_mostWarm_14 : zat mX0_mostWarm 14 3 17 (.getfield 24) := ⟨by decide +kernel, rfl⟩
theorem iX0_mostWarm_17 : zat mX0_mostWarm 17 1 18 (.iload_n 2) := ⟨by decide +kernel, rfl⟩
theorem iX0_mostWarm_18 : zat mX0_mostWarm 18 1 19 (.iaload) := ⟨by decide +kernel, rfl⟩
theorem iX0_mostWarm_19 : zat mX0_mostWarm 19 3 22 (.invokestatic 59) := ⟨by decide +kernel, rfl⟩
theorem iX0_mostWarm_22 : zat mX0_mostWarm 22 1 23 (.istore_n 1) := ⟨by decide +kernel, rfl⟩
theorem iX0_mostWarm_23 : zat mX0_mostWarm 23 3 26 (.iinc 2 1) := ⟨by decide +kernel, rfl⟩
theorem iX0_mostWarm_26 : zbr mX0_mostWarm 26 29 4 (.goto) := ⟨-22, by decide +kernel, rfl, rfl⟩
theorem iX0_mostWarm_29 : zat mX0_mostWarm 29 1 30 (.iload_n 1) := ⟨by decide +kernel, rfl⟩
theorem iX0_mostWarm_30 : zat mX0_mostWarm 30 1 31 (.ireturn) := ⟨by decide +kernel, rfl⟩
theorem iX0_howManyLie_0 : zat mX0_howManyLie 0 1 1 (.iconst 0) := ⟨by decide +kernel, rfl⟩
theorem iX0_howManyLie_1 : zat mX0_howManyLie 1 1 2 (.istore_n 1) := ⟨by decide +kernel, rfl⟩
theorem iX0_howManyLie_2 : zat mX0_howManyLie 2 1 3 (.iconst 0) := ⟨by decide +kernel, rfl⟩
theorem iX0_howManyLie_3 : zat mX0_howManyLie 3 1 4 (.istore_n 2) := ⟨by decide +kernel, rfl⟩
theorem iX0_howManyLie_4 : zat mX0_howManyLie 4 1 5 (.iload_n 2) := ⟨by decide +kernel, rfl⟩
theorem iX0_howManyLie_5 : zat mX0_howManyLie 5 1 6 (.aload_n 0) := ⟨by decide +kernel, rfl⟩
theorem iX0_howManyLie_6 : zat mX0_howManyLie 6 3 9 (.getfield 33) := ⟨by decide +kernel, rfl⟩
theorem iX0_howManyLie_9 : zbr mX0_howManyLie 9 12 27 (.if_icmp .ge) := ⟨18, by decide +kernel, rfl, rfl⟩
theorem iX0_howManyLie_12 : zat mX0_howManyLie 12 1 13 (.iload_n 1) := ⟨by decide +kernel, rfl⟩
theorem iX0_howManyLie_13 : zat mX0_howManyLie 13 1 14 (.aload_n 0) := ⟨by decide +kernel, rfl⟩
theorem iX0_howManyLie_14 : zat mX0_howManyLie 14 3 17 (.getfield 27) := ⟨by decide +kernel, rfl⟩
theorem iX0_howManyLie_17 : zat mX0_howManyLie 17 1 18 (.iload_n 2) := ⟨by decide +kernel, rfl⟩
theorem iX0_howManyLie_18 : zat mX0_howManyLie 18 1 19 (.iaload) := ⟨by decide +kernel, rfl⟩
theorem iX0_howManyLie_19 : zat mX0_howManyLie 19 1 20 (.iadd) := ⟨by decide +kernel, rfl⟩
theorem iX0_howManyLie_20 : zat mX0_howManyLie 20 1 21 (.istore_n 1) := ⟨by decide +kernel, rfl⟩
theorem iX0_howManyLie_21 : zat mX0_howManyLie 21 3 24 (.iinc 2 1) := ⟨by decide +kernel, rfl⟩
theorem iX0_howManyLie_24 : zbr mX0_howManyLie 24 27 4 (.goto) := ⟨-20, by decide +kernel, rfl, rfl⟩
theorem iX0_howManyLie_27 : zat mX0_howManyLie 27 1 28 (.iload_n 1) := ⟨by decide +kernel, rfl⟩
theorem iX0_howManyLie_28 : zat mX0_howManyLie 28 1 29 (.ireturn) := ⟨by decide +kernel, rfl⟩
theorem iX0_gain_0 : zat mX0_gain 0 1 1 (.aload_n 0) := ⟨by decide +kernel, rfl⟩
theorem iX0_gain_1 : zat mX0_gain 1 1 2 (.aload_n 0) := ⟨by decide +kernel, rfl⟩
theorem iX0_gain_2 : zat mX0_gain 2 3 5 (.getfield 15) := ⟨by decide +kernel, rfl⟩
theorem iX0_gain_5 : zat mX0_gain 5 1 6 (.iload_n 1) := ⟨by decide +kernel, rfl⟩
theorem iX0_gain_6 : zat mX0_gain 6 1 7 (.iaload) := ⟨by decide +kernel, rfl⟩
theorem iX0_gain_7 : zat mX0_gain 7 1 8 (.aload_n 0) := ⟨by decide +kernel, rfl⟩
theorem iX0_gain_8 : zat mX0_gain 8 1 9 (.iload_n 1) := ⟨by decide +kernel, rfl⟩
theorem iX0_gain_9 : zat mX0_gain 9 3 12 (.invokevirtual 55) := ⟨by decide +kernel, rfl⟩
theorem iX0_gain_12 : zat mX0_gain 12 3 15 (.invokevirtual 65) := ⟨by decide +kernel, rfl⟩
theorem iX0_gain_15 : zat mX0_gain 15 1 16 (.ireturn) := ⟨by decide +kernel, rfl⟩
theorem iX0_gainAt_0 : zat mX0_gainAt 0 1 1 (.iload_n 2) := ⟨by decide +kernel, rfl⟩
theorem iX0_gainAt_1 : zbr mX0_gainAt 1 4 14 (.ifCond .lt) := ⟨13, by decide +kernel, rfl, rfl⟩
theorem iX0_gainAt_4 : zat mX0_gainAt 4 1 5 (.iload_n 2) := ⟨by decide +kernel, rfl⟩
theorem iX0_gainAt_5 : zat mX0_gainAt 5 1 6 (.aload_n 0) := ⟨by decide +kernel, rfl⟩
theorem iX0_gainAt_6 : zat mX0_gainAt 6 3 9 (.getfield 27) := ⟨by decide +kernel, rfl⟩
theorem iX0_gainAt_9 : zat mX0_gainAt 9 1 10 (.iload_n 1) := ⟨by decide +kernel, rfl⟩
theorem iX0_gainAt_10 : zat mX0_gainAt 10 1 11 (.iaload) := ⟨by decide +kernel, rfl⟩
theorem iX0_gainAt_11 : zbr mX0_gainAt 11 14 16 (.if_icmp .lt) := ⟨5, by decide +kernel, rfl, rfl⟩
theorem iX0_gainAt_14 : zat mX0_gainAt 14 1 15 (.iconst 0) := ⟨by decide +kernel, rfl⟩
theorem iX0_gainAt_15 : zat mX0_gainAt 15 1 16 (.ireturn) := ⟨by decide +kernel, rfl⟩
theorem iX0_gainAt_16 : zat mX0_gainAt 16 1 17 (.aload_n 0) := ⟨by decide +kernel, rfl⟩
theorem iX0_gainAt_17 : zat mX0_gainAt 17 3 20 (.getfield 30) := ⟨by decide +kernel, rfl⟩
theorem iX0_gainAt_20 : zat mX0_gainAt 20 1 21 (.iload_n 1) := ⟨by decide +kernel, rfl⟩
theorem iX0_gainAt_21 : zat mX0_gainAt 21 1 22 (.iconst 3) := ⟨by decide +kernel, rfl⟩
theorem iX0_gainAt_22 : zat mX0_gainAt 22 1 23 (.imul) := ⟨by decide +kernel, rfl⟩
theorem iX0_gainAt_23 : zat mX0_gainAt 23 1 24 (.iload_n 2) := ⟨by decide +kernel, rfl⟩
theorem iX0_gainAt_24 : zat mX0_gainAt 24 1 25 (.iadd) := ⟨by decide +kernel, rfl⟩
theorem iX0_gainAt_25 : zat mX0_gainAt 25 1 26 (.iaload) := ⟨by decide +kernel, rfl⟩
theorem iX0_gainAt_26 : zat mX0_gainAt 26 1 27 (.istore_n 3) := ⟨by decide +kernel, rfl⟩
theorem iX0_gainAt_27 : zat mX0_gainAt 27 1 28 (.aload_n 0) := ⟨by decide +kernel, rfl⟩
theorem iX0_gainAt_28 : zat mX0_gainAt 28 3 31 (.getfield 21) := ⟨by decide +kernel, rfl⟩
theorem iX0_gainAt_31 : zat mX0_gainAt 31 1 32 (.iload_n 3) := ⟨by decide +kernel, rfl⟩
theorem iX0_gainAt_32 : zat mX0_gainAt 32 1 33 (.iaload) := ⟨by decide +kernel, rfl⟩
theorem iX0_gainAt_33 : zat mX0_gainAt 33 2 35 (.istore 4) := ⟨by decide +kernel, rfl⟩
theorem iX0_gainAt_35 : zat mX0_gainAt 35 1 36 (.iload_n 2) := ⟨by decide +kernel, rfl⟩
theorem iX0_gainAt_36 : zat mX0_gainAt 36 1 37 (.iconst 1) := ⟨by decide +kernel, rfl⟩
theorem iX0_gainAt_37 : zat mX0_gainAt 37 1 38 (.iadd) := ⟨by decide +kernel, rfl⟩
theorem iX0_gainAt_38 : zat mX0_gainAt 38 2 40 (.istore 5) := ⟨by decide +kernel, rfl⟩
theorem iX0_gainAt_40 : zat mX0_gainAt 40 2 42 (.iload 5) := ⟨by decide +kernel, rfl⟩
theorem iX0_gainAt_42 : zat mX0_gainAt 42 1 43 (.aload_n 0) := ⟨by decide +kernel, rfl⟩
theorem iX0_gainAt_43 : zat mX0_gainAt 43 3 46 (.getfield 27) := ⟨by decide +kernel, rfl⟩
theorem iX0_gainAt_46 : zat mX0_gainAt 46 1 47 (.iload_n 1) := ⟨by decide +kernel, rfl⟩
theorem iX0_gainAt_47 : zat mX0_gainAt 47 1 48 (.iaload) := ⟨by decide +kernel, rfl⟩
theorem iX0_gainAt_48 : zbr mX0_gainAt 48 51 79 (.if_icmp .ge) := ⟨31, by decide +kernel, rfl, rfl⟩
theorem iX0_gainAt_51 : zat mX0_gainAt 51 1 52 (.aload_n 0) := ⟨by decide +kernel, rfl⟩
theorem iX0_gainAt_52 : zat mX0_gainAt 52 3 55 (.getfield 21) := ⟨by decide +kernel, rfl⟩
theorem iX0_gainAt_55 : zat mX0_gainAt 55 1 56 (.aload_n 0) := ⟨by decide +kernel, rfl⟩
theorem iX0_gainAt_56 : zat mX0_gainAt 56 3 59 (.getfield 30) := ⟨by decide +kernel, rfl⟩
theorem iX0_gainAt_59 : zat mX0_gainAt 59 1 60 (.iload_n 1) := ⟨by decide +kernel, rfl⟩
theorem iX0_gainAt_60 : zat mX0_gainAt 60 1 61 (.iconst 3) := ⟨by decide +kernel, rfl⟩
theorem iX0_gainAt_61 : zat mX0_gainAt 61 1 62 (.imul) := ⟨by decide +kernel, rfl⟩
theorem iX0_gainAt_62 : zat mX0_gainAt 62 2 64 (.iload 5) := ⟨by decide +kernel, rfl⟩
theorem iX0_gainAt_64 : zat mX0_gainAt 64 1 65 (.iadd) := ⟨by decide +kernel, rfl⟩
theorem iX0_gainAt_65 : zat mX0_gainAt 65 1 66 (.iaload) := ⟨by decide +kernel, rfl⟩
theorem iX0_gainAt_66 : zat mX0_gainAt 66 1 67 (.iaload) := ⟨by decide +kernel, rfl⟩
theorem iX0_gainAt_67 : zbr mX0_gainAt 67 70 73 (.ifCond .le) := ⟨6, by decide +kernel, rfl, rfl⟩
theorem iX0_gainAt_70 : zat mX0_gainAt 70 3 73 (.iinc 4 1) := ⟨by decide +kernel, rfl⟩
theorem iX0_gainAt_73 : zat mX0_gainAt 73 3 76 (.iinc 5 1) := ⟨by decide +kernel, rfl⟩
theorem iX0_gainAt_76 : zbr mX0_gainAt 76 79 40 (.goto) := ⟨-36, by decide +kernel, rfl, rfl⟩
theorem iX0_gainAt_79 : zat mX0_gainAt 79 1 80 (.aload_n 0) := ⟨by decide +kernel, rfl⟩
theorem iX0_gainAt_80 : zat mX0_gainAt 80 3 83 (.getfield 9) := ⟨by decide +kernel, rfl⟩
theorem iX0_gainAt_83 : zat mX0_gainAt 83 1 84 (.iload_n 3) := ⟨by decide +kernel, rfl⟩
theorem iX0_gainAt_84 : zat mX0_gainAt 84 1 85 (.iaload) := ⟨by decide +kernel, rfl⟩
theorem iX0_gainAt_85 : zat mX0_gainAt 85 2 87 (.iload 4) := ⟨by decide +kernel, rfl⟩
theorem iX0_gainAt_87 : zat mX0_gainAt 87 3 90 (.invokestatic 68) := ⟨by decide +kernel, rfl⟩
theorem iX0_gainAt_90 : zat mX0_gainAt 90 1 91 (.ireturn) := ⟨by decide +kernel, rfl⟩
theorem iX0_warmBay_0 : zat mX0_warmBay 0 1 1 (.iconst 0) := ⟨by decide +kernel, rfl⟩
theorem iX0_warmBay_1 : zat mX0_warmBay 1 1 2 (.istore_n 2) := ⟨by decide +kernel, rfl⟩
theorem iX0_warmBay_2 : zat mX0_warmBay 2 1 3 (.iload_n 2) := ⟨by decide +kernel, rfl⟩
theorem iX0_warmBay_3 : zat mX0_warmBay 3 1 4 (.aload_n 0) := ⟨by decide +kernel, rfl⟩
theorem iX0_warmBay_4 : zat mX0_warmBay 4 3 7 (.getfield 27) := ⟨by decide +kernel, rfl⟩
theorem iX0_warmBay_7 : zat mX0_warmBay 7 1 8 (.iload_n 1) := ⟨by decide +kernel, rfl⟩
theorem iX0_warmBay_8 : zat mX0_warmBay 8 1 9 (.iaload) := ⟨by decide +kernel, rfl⟩
theorem iX0_warmBay_9 : zbr mX0_warmBay 9 12 42 (.if_icmp .ge) := ⟨33, by decide +kernel, rfl, rfl⟩
theorem iX0_warmBay_12 : zat mX0_warmBay 12 1 13 (.aload_n 0) := ⟨by decide +kernel, rfl⟩
theorem iX0_warmBay_13 : zat mX0_warmBay 13 3 16 (.getfield 24) := ⟨by decide +kernel, rfl⟩
theorem iX0_warmBay_16 : zat mX0_warmBay 16 1 17 (.aload_n 0) := ⟨by decide +kernel, rfl⟩
theorem iX0_warmBay_17 : zat mX0_warmBay 17 3 20 (.getfield 30) := ⟨by decide +kernel, rfl⟩
theorem iX0_warmBay_20 : zat mX0_warmBay 20 1 21 (.iload_n 1) := ⟨by decide +kernel, rfl⟩
theorem iX0_warmBay_21 : zat mX0_warmBay 21 1 22 (.iconst 3) := ⟨by decide +kernel, rfl⟩
theorem iX0_warmBay_22 : zat mX0_warmBay 22 1 23 (.imul) := ⟨by decide +kernel, rfl⟩
theorem iX0_warmBay_23 : zat mX0_warmBay 23 1 24 (.iload_n 2) := ⟨by decide +kernel, rfl⟩
theorem iX0_warmBay_24 : zat mX0_warmBay 24 1 25 (.iadd) := ⟨by decide +kernel, rfl⟩
theorem iX0_warmBay_25 : zat mX0_warmBay 25 1 26 (.iaload) := ⟨by decide +kernel, rfl⟩
theorem iX0_warmBay_26 : zat mX0_warmBay 26 1 27 (.dup2) := ⟨by decide +kernel, rfl⟩
theorem iX0_warmBay_27 : zat mX0_warmBay 27 1 28 (.iaload) := ⟨by decide +kernel, rfl⟩
theorem iX0_warmBay_28 : zat mX0_warmBay 28 1 29 (.aload_n 0) := ⟨by decide +kernel, rfl⟩
theorem iX0_warmBay_29 : zat mX0_warmBay 29 1 30 (.iload_n 1) := ⟨by decide +kernel, rfl⟩
theorem iX0_warmBay_30 : zat mX0_warmBay 30 1 31 (.iload_n 2) := ⟨by decide +kernel, rfl⟩
theorem iX0_warmBay_31 : zat mX0_warmBay 31 3 34 (.invokevirtual 65) := ⟨by decide +kernel, rfl⟩
theorem iX0_warmBay_34 : zat mX0_warmBay 34 1 35 (.iadd) := ⟨by decide +kernel, rfl⟩
theorem iX0_warmBay_35 : zat mX0_warmBay 35 1 36 (.iastore) := ⟨by decide +kernel, rfl⟩
theorem iX0_warmBay_36 : zat mX0_warmBay 36 3 39 (.iinc 2 1) := ⟨by decide +kernel, rfl⟩
theorem iX0_warmBay_39 : zbr mX0_warmBay 39 42 2 (.goto) := ⟨-37, by decide +kernel, rfl, rfl⟩
theorem iX0_warmBay_42 : zat mX0_warmBay 42 1 43 (.return_) := ⟨by decide +kernel, rfl⟩
theorem iX0_burnBay_0 : zat mX0_burnBay 0 1 1 (.iconst 0) := ⟨by decide +kernel, rfl⟩
theorem iX0_burnBay_1 : zat mX0_burnBay 1 1 2 (.istore_n 2) := ⟨by decide +kernel, rfl⟩
theorem iX0_burnBay_2 : zat mX0_burnBay 2 1 3 (.iload_n 2) := ⟨by decide +kernel, rfl⟩
theorem iX0_burnBay_3 : zat mX0_burnBay 3 1 4 (.aload_n 0) := ⟨by decide +kernel, rfl⟩
theorem iX0_burnBay_4 : zat mX0_burnBay 4 3 7 (.getfield 27) := ⟨by decide +kernel, rfl⟩
theorem iX0_burnBay_7 : zat mX0_burnBay 7 1 8 (.iload_n 1) := ⟨by decide +kernel, rfl⟩
theorem iX0_burnBay_8 : zat mX0_burnBay 8 1 9 (.iaload) := ⟨by decide +kernel, rfl⟩
theorem iX0_burnBay_9 : zbr mX0_burnBay 9 12 45 (.if_icmp .ge) := ⟨36, by decide +kernel, rfl, rfl⟩
theorem iX0_burnBay_12 : zat mX0_burnBay 12 1 13 (.aload_n 0) := ⟨by decide +kernel, rfl⟩
theorem iX0_burnBay_13 : zat mX0_burnBay 13 3 16 (.getfield 24) := ⟨by decide +kernel, rfl⟩
theorem iX0_burnBay_16 : zat mX0_burnBay 16 1 17 (.aload_n 0) := ⟨by decide +kernel, rfl⟩
theorem iX0_burnBay_17 : zat mX0_burnBay 17 3 20 (.getfield 30) := ⟨by decide +kernel, rfl⟩
theorem iX0_burnBay_20 : zat mX0_burnBay 20 1 21 (.iload_n 1) := ⟨by decide +kernel, rfl⟩
theorem iX0_burnBay_21 : zat mX0_burnBay 21 1 22 (.iconst 3) := ⟨by decide +kernel, rfl⟩
theorem iX0_burnBay_22 : zat mX0_burnBay 22 1 23 (.imul) := ⟨by decide +kernel, rfl⟩
theorem iX0_burnBay_23 : zat mX0_burnBay 23 1 24 (.iload_n 2) := ⟨by decide +kernel, rfl⟩
theorem iX0_burnBay_24 : zat mX0_burnBay 24 1 25 (.iadd) := ⟨by decide +kernel, rfl⟩
theorem iX0_burnBay_25 : zat mX0_burnBay 25 1 26 (.iaload) := ⟨by decide +kernel, rfl⟩
theorem iX0_burnBay_26 : zat mX0_burnBay 26 1 27 (.iaload) := ⟨by decide +kernel, rfl⟩
theorem iX0_burnBay_27 : zat mX0_burnBay 27 2 29 (.bipush 30) := ⟨by decide +kernel, rfl⟩
theorem iX0_burnBay_29 : zbr mX0_burnBay 29 32 39 (.if_icmp .lt) := ⟨10, by decide +kernel, rfl, rfl⟩
theorem iX0_burnBay_32 : zat mX0_burnBay 32 1 33 (.aload_n 0) := ⟨by decide +kernel, rfl⟩
theorem iX0_burnBay_33 : zat mX0_burnBay 33 1 34 (.iload_n 1) := ⟨by decide +kernel, rfl⟩
theorem iX0_burnBay_34 : zat mX0_burnBay 34 1 35 (.iload_n 2) := ⟨by decide +kernel, rfl⟩
theorem iX0_burnBay_35 : zat mX0_burnBay 35 3 38 (.invokevirtual 73) := ⟨by decide +kernel, rfl⟩
theorem iX0_burnBay_38 : zat mX0_burnBay 38 1 39 (.ireturn) := ⟨by decide +kernel, rfl⟩
theorem iX0_burnBay_39 : zat mX0_burnBay 39 3 42 (.iinc 2 1) := ⟨by decide +kernel, rfl⟩
theorem iX0_burnBay_42 : zbr mX0_burnBay 42 45 2 (.goto) := ⟨-40, by decide +kernel, rfl, rfl⟩
theorem iX0_burnBay_45 : zat mX0_burnBay 45 1 46 (.iconst 0) := ⟨by decide +kernel, rfl⟩
theorem iX0_burnBay_46 : zat mX0_burnBay 46 1 47 (.ireturn) := ⟨by decide +kernel, rfl⟩
theorem iX0_loseFrom_0 : zat mX0_loseFrom 0 1 1 (.aload_n 0) := ⟨by decide +kernel, rfl⟩
theorem iX0_loseFrom_1 : zat mX0_loseFrom 1 3 4 (.getfield 27) := ⟨by decide +kernel, rfl⟩
theorem iX0_loseFrom_4 : zat mX0_loseFrom 4 1 5 (.iload_n 1) := ⟨by decide +kernel, rfl⟩
theorem iX0_loseFrom_5 : zat mX0_loseFrom 5 1 6 (.iaload) := ⟨by decide +kernel, rfl⟩
theorem iX0_loseFrom_6 : zat mX0_loseFrom 6 1 7 (.iload_n 2) := ⟨by decide +kernel, rfl⟩
theorem iX0_loseFrom_7 : zat mX0_loseFrom 7 1 8 (.isub) := ⟨by decide +kernel, rfl⟩
theorem iX0_loseFrom_8 : zat mX0_loseFrom 8 1 9 (.istore_n 3) := ⟨by decide +kernel, rfl⟩
theorem iX0_loseFrom_9 : zat mX0_loseFrom 9 1 10 (.iload_n 2) := ⟨by decide +kernel, rfl⟩
theorem iX0_loseFrom_10 : zat mX0_loseFrom 10 2 12 (.istore 4) := ⟨by decide +kernel, rfl⟩
theorem iX0_loseFrom_12 : zat mX0_loseFrom 12 2 14 (.iload 4) := ⟨by decide +kernel, rfl⟩
theorem iX0_loseFrom_14 : zat mX0_loseFrom 14 1 15 (.aload_n 0) := ⟨by decide +kernel, rfl⟩
theorem iX0_loseFrom_15 : zat mX0_loseFrom 15 3 18 (.getfield 27) := ⟨by decide +kernel, rfl⟩
theorem iX0_loseFrom_18 : zat mX0_loseFrom 18 1 19 (.iload_n 1) := ⟨by decide +kernel, rfl⟩
theorem iX0_loseFrom_19 : zat mX0_loseFrom 19 1 20 (.iaload) := ⟨by decide +kernel, rfl⟩
theorem iX0_loseFrom_20 : zbr mX0_loseFrom 20 23 44 (.if_icmp .ge) := ⟨24, by decide +kernel, rfl, rfl⟩
theorem iX0_loseFrom_23 : zat mX0_loseFrom 23 1 24 (.aload_n 0) := ⟨by decide +kernel, rfl⟩
theorem iX0_loseFrom_24 : zat mX0_loseFrom 24 1 25 (.aload_n 0) := ⟨by decide +kernel, rfl⟩
theorem iX0_loseFrom_25 : zat mX0_loseFrom 25 3 28 (.getfield 30) := ⟨by decide +kernel, rfl⟩
theorem iX0_loseFrom_28 : zat mX0_loseFrom 28 1 29 (.iload_n 1) := ⟨by decide +kernel, rfl⟩
theorem iX0_loseFrom_29 : zat mX0_loseFrom 29 1 30 (.iconst 3) := ⟨by decide +kernel, rfl⟩
theorem iX0_loseFrom_30 : zat mX0_loseFrom 30 1 31 (.imul) := ⟨by decide +kernel, rfl⟩
theorem iX0_loseFrom_31 : zat mX0_loseFrom 31 2 33 (.iload 4) := ⟨by decide +kernel, rfl⟩
theorem iX0_loseFrom_33 : zat mX0_loseFrom 33 1 34 (.iadd) := ⟨by decide +kernel, rfl⟩
theorem iX0_loseFrom_34 : zat mX0_loseFrom 34 1 35 (.iaload) := ⟨by decide +kernel, rfl⟩
theorem iX0_loseFrom_35 : zat mX0_loseFrom 35 3 38 (.invokevirtual 76) := ⟨by decide +kernel, rfl⟩
theorem iX0_loseFrom_38 : zat mX0_loseFrom 38 3 41 (.iinc 4 1) := ⟨by decide +kernel, rfl⟩
theorem iX0_loseFrom_41 : zbr mX0_loseFrom 41 44 12 (.goto) := ⟨-29, by decide +kernel, rfl, rfl⟩
theorem iX0_loseFrom_44 : zat mX0_loseFrom 44 1 45 (.aload_n 0) := ⟨by decide +kernel, rfl⟩
theorem iX0_loseFrom_45 : zat mX0_loseFrom 45 3 48 (.getfield 27) := ⟨by decide +kernel, rfl⟩
theorem iX0_loseFrom_48 : zat mX0_loseFrom 48 1 49 (.iload_n 1) := ⟨by decide +kernel, rfl⟩
theorem iX0_loseFrom_49 : zat mX0_loseFrom 49 1 50 (.iload_n 2) := ⟨by decide +kernel, rfl⟩
theorem iX0_loseFrom_50 : zat mX0_loseFrom 50 1 51 (.iastore) := ⟨by decide +kernel, rfl⟩
theorem iX0_loseFrom_51 : zat mX0_loseFrom 51 1 52 (.iload_n 3) := ⟨by decide +kernel, rfl⟩
theorem iX0_loseFrom_52 : zat mX0_loseFrom 52 1 53 (.ireturn) := ⟨by decide +kernel, rfl⟩
theorem iX0_lose_0 : zat mX0_lose 0 1 1 (.aload_n 0) := ⟨by decide +kernel, rfl⟩
theorem iX0_lose_1 : zat mX0_lose 1 3 4 (.getfield 18) := ⟨by decide +kernel, rfl⟩
theorem iX0_lose_4 : zat mX0_lose 4 1 5 (.iload_n 1) := ⟨by decide +kernel, rfl⟩
theorem iX0_lose_5 : zat mX0_lose 5 1 6 (.iconst 0) := ⟨by decide +kernel, rfl⟩
theorem iX0_lose_6 : zat mX0_lose 6 1 7 (.iastore) := ⟨by decide +kernel, rfl⟩
theorem iX0_lose_7 : zat mX0_lose 7 1 8 (.aload_n 0) := ⟨by decide +kernel, rfl⟩
theorem iX0_lose_8 : zat mX0_lose 8 3 11 (.getfield 21) := ⟨by decide +kernel, rfl⟩
theorem iX0_lose_11 : zat mX0_lose 11 1 12 (.iload_n 1) := ⟨by decide +kernel, rfl⟩
theorem iX0_lose_12 : zat mX0_lose 12 1 13 (.iconst 0) := ⟨by decide +kernel, rfl⟩
theorem iX0_lose_13 : zat mX0_lose 13 1 14 (.iastore) := ⟨by decide +kernel, rfl⟩
theorem iX0_lose_14 : zat mX0_lose 14 1 15 (.aload_n 0) := ⟨by decide +kernel, rfl⟩
theorem iX0_lose_15 : zat mX0_lose 15 3 18 (.getfield 24) := ⟨by decide +kernel, rfl⟩
theorem iX0_lose_18 : zat mX0_lose 18 1 19 (.iload_n 1) := ⟨by decide +kernel, rfl⟩
theorem iX0_lose_19 : zat mX0_lose 19 1 20 (.iconst 0) := ⟨by decide +kernel, rfl⟩
theorem iX0_lose_20 : zat mX0_lose 20 1 21 (.iastore) := ⟨by decide +kernel, rfl⟩
theorem iX0_lose_21 : zat mX0_lose 21 1 22 (.return_) := ⟨by decide +kernel, rfl⟩
theorem iX0_dryTop_0 : zat mX0_dryTop 0 1 1 (.aload_n 0) := ⟨by decide +kernel, rfl⟩
theorem iX0_dryTop_1 : zat mX0_dryTop 1 1 2 (.iload_n 1) := ⟨by decide +kernel, rfl⟩
theorem iX0_dryTop_2 : zat mX0_dryTop 2 3 5 (.invokevirtual 80) := ⟨by decide +kernel, rfl⟩
theorem iX0_dryTop_5 : zat mX0_dryTop 5 1 6 (.istore_n 2) := ⟨by decide +kernel, rfl⟩
theorem iX0_dryTop_6 : zat mX0_dryTop 6 1 7 (.iload_n 2) := ⟨by decide +kernel, rfl⟩
theorem iX0_dryTop_7 : zat mX0_dryTop 7 1 8 (.iconst (-1)) := ⟨by decide +kernel, rfl⟩
theorem iX0_dryTop_8 : zbr mX0_dryTop 8 11 30 (.if_icmp .eq) := ⟨22, by decide +kernel, rfl, rfl⟩
theorem iX0_dryTop_11 : zat mX0_dryTop 11 1 12 (.aload_n 0) := ⟨by decide +kernel, rfl⟩
theorem iX0_dryTop_12 : zat mX0_dryTop 12 3 15 (.getfield 21) := ⟨by decide +kernel, rfl⟩
theorem iX0_dryTop_15 : zat mX0_dryTop 15 1 16 (.iload_n 2) := ⟨by decide +kernel, rfl⟩
theorem iX0_dryTop_16 : zat mX0_dryTop 16 1 17 (.iaload) := ⟨by decide +kernel, rfl⟩
theorem iX0_dryTop_17 : zbr mX0_dryTop 17 20 30 (.ifCond .le) := ⟨13, by decide +kernel, rfl, rfl⟩
theorem iX0_dryTop_20 : zat mX0_dryTop 20 1 21 (.aload_n 0) := ⟨by decide +kernel, rfl⟩
theorem iX0_dryTop_21 : zat mX0_dryTop 21 3 24 (.getfield 21) := ⟨by decide +kernel, rfl⟩
theorem iX0_dryTop_24 : zat mX0_dryTop 24 1 25 (.iload_n 2) := ⟨by decide +kernel, rfl⟩
theorem iX0_dryTop_25 : zat mX0_dryTop 25 1 26 (.dup2) := ⟨by decide +kernel, rfl⟩
theorem iX0_dryTop_26 : zat mX0_dryTop 26 1 27 (.iaload) := ⟨by decide +kernel, rfl⟩
theorem iX0_dryTop_27 : zat mX0_dryTop 27 1 28 (.iconst 1) := ⟨by decide +kernel, rfl⟩
theorem iX0_dryTop_28 : zat mX0_dryTop 28 1 29 (.isub) := ⟨by decide +kernel, rfl⟩
theorem iX0_dryTop_29 : zat mX0_dryTop 29 1 30 (.iastore) := ⟨by decide +kernel, rfl⟩
theorem iX0_dryTop_30 : zat mX0_dryTop 30 1 31 (.return_) := ⟨by decide +kernel, rfl⟩
theorem iX0_passDay_0 : zat mX0_passDay 0 1 1 (.iconst 0) := ⟨by decide +kernel, rfl⟩
theorem iX0_passDay_1 : zat mX0_passDay 1 1 2 (.istore_n 1) := ⟨by decide +kernel, rfl⟩
theorem iX0_passDay_2 : zat mX0_passDay 2 1 3 (.iconst 0) := ⟨by decide +kernel, rfl⟩
theorem iX0_passDay_3 : zat mX0_passDay 3 1 4 (.istore_n 2) := ⟨by decide +kernel, rfl⟩
theorem iX0_passDay_4 : zat mX0_passDay 4 1 5 (.iload_n 2) := ⟨by decide +kernel, rfl⟩
theorem iX0_passDay_5 : zat mX0_passDay 5 1 6 (.aload_n 0) := ⟨by decide +kernel, rfl⟩
theorem iX0_passDay_6 : zat mX0_passDay 6 3 9 (.getfield 33) := ⟨by decide +kernel, rfl⟩
theorem iX0_passDay_9 : zbr mX0_passDay 9 12 36 (.if_icmp .ge) := ⟨27, by decide +kernel, rfl, rfl⟩
theorem iX0_passDay_12 : zat mX0_passDay 12 1 13 (.aload_n 0) := ⟨by decide +kernel, rfl⟩
theorem iX0_passDay_13 : zat mX0_passDay 13 1 14 (.iload_n 2) := ⟨by decide +kernel, rfl⟩
theorem iX0_passDay_14 : zat mX0_passDay 14 3 17 (.invokevirtual 83) := ⟨by decide +kernel, rfl⟩
theorem iX0_passDay_17 : zat mX0_passDay 17 1 18 (.iload_n 1) := ⟨by decide +kernel, rfl⟩
theorem iX0_passDay_18 : zat mX0_passDay 18 1 19 (.aload_n 0) := ⟨by decide +kernel, rfl⟩
theorem iX0_passDay_19 : zat mX0_passDay 19 1 20 (.iload_n 2) := ⟨by decide +kernel, rfl⟩
theorem iX0_passDay_20 : zat mX0_passDay 20 3 23 (.invokevirtual 86) := ⟨by decide +kernel, rfl⟩
theorem iX0_passDay_23 : zat mX0_passDay 23 1 24 (.iadd) := ⟨by decide +kernel, rfl⟩
theorem iX0_passDay_24 : zat mX0_passDay 24 1 25 (.istore_n 1) := ⟨by decide +kernel, rfl⟩
theorem iX0_passDay_25 : zat mX0_passDay 25 1 26 (.aload_n 0) := ⟨by decide +kernel, rfl⟩
theorem iX0_passDay_26 : zat mX0_passDay 26 1 27 (.iload_n 2) := ⟨by decide +kernel, rfl⟩
theorem iX0_passDay_27 : zat mX0_passDay 27 3 30 (.invokevirtual 89) := ⟨by decide +kernel, rfl⟩
theorem iX0_passDay_30 : zat mX0_passDay 30 3 33 (.iinc 2 1) := ⟨by decide +kernel, rfl⟩
theorem iX0_passDay_33 : zbr mX0_passDay 33 36 4 (.goto) := ⟨-29, by decide +kernel, rfl, rfl⟩
theorem iX0_passDay_36 : zat mX0_passDay 36 1 37 (.aload_n 0) := ⟨by decide +kernel, rfl⟩
theorem iX0_passDay_37 : zat mX0_passDay 37 1 38 (.dup) := ⟨by decide +kernel, rfl⟩
theorem iX0_passDay_38 : zat mX0_passDay 38 3 41 (.getfield 40) := ⟨by decide +kernel, rfl⟩
theorem iX0_passDay_41 : zat mX0_passDay 41 1 42 (.iconst 1) := ⟨by decide +kernel, rfl⟩
theorem iX0_passDay_42 : zat mX0_passDay 42 1 43 (.iadd) := ⟨by decide +kernel, rfl⟩
theorem iX0_passDay_43 : zat mX0_passDay 43 3 46 (.putfield 40) := ⟨by decide +kernel, rfl⟩
theorem iX0_passDay_46 : zat mX0_passDay 46 1 47 (.aload_n 0) := ⟨by decide +kernel, rfl⟩
theorem iX0_passDay_47 : zat mX0_passDay 47 1 48 (.dup) := ⟨by decide +kernel, rfl⟩
theorem iX0_passDay_48 : zat mX0_passDay 48 3 51 (.getfield 46) := ⟨by decide +kernel, rfl⟩
theorem iX0_passDay_51 : zat mX0_passDay 51 1 52 (.iload_n 1) := ⟨by decide +kernel, rfl⟩
theorem iX0_passDay_52 : zat mX0_passDay 52 1 53 (.iadd) := ⟨by decide +kernel, rfl⟩
theorem iX0_passDay_53 : zat mX0_passDay 53 3 56 (.putfield 46) := ⟨by decide +kernel, rfl⟩
theorem iX0_passDay_56 : zat mX0_passDay 56 1 57 (.iload_n 1) := ⟨by decide +kernel, rfl⟩
theorem iX0_passDay_57 : zat mX0_passDay 57 1 58 (.ireturn) := ⟨by decide +kernel, rfl⟩
theorem iX0_slice_0 : zat mX0_slice 0 1 1 (.aload_n 0) := ⟨by decide +kernel, rfl⟩
theorem iX0_slice_1 : zat mX0_slice 1 1 2 (.iload_n 1) := ⟨by decide +kernel, rfl⟩
theorem iX0_slice_2 : zat mX0_slice 2 3 5 (.invokevirtual 80) := ⟨by decide +kernel, rfl⟩
theorem iX0_slice_5 : zat mX0_slice 5 1 6 (.istore_n 3) := ⟨by decide +kernel, rfl⟩
theorem iX0_slice_6 : zat mX0_slice 6 1 7 (.iload_n 3) := ⟨by decide +kernel, rfl⟩
theorem iX0_slice_7 : zat mX0_slice 7 1 8 (.iconst (-1)) := ⟨by decide +kernel, rfl⟩
theorem iX0_slice_8 : zbr mX0_slice 8 11 13 (.if_icmp .ne) := ⟨5, by decide +kernel, rfl, rfl⟩
theorem iX0_slice_11 : zat mX0_slice 11 1 12 (.iconst 0) := ⟨by decide +kernel, rfl⟩
theorem iX0_slice_12 : zat mX0_slice 12 1 13 (.ireturn) := ⟨by decide +kernel, rfl⟩
theorem iX0_slice_13 : zat mX0_slice 13 1 14 (.iload_n 2) := ⟨by decide +kernel, rfl⟩
theorem iX0_slice_14 : zat mX0_slice 14 1 15 (.aload_n 0) := ⟨by decide +kernel, rfl⟩
theorem iX0_slice_15 : zat mX0_slice 15 3 18 (.getfield 18) := ⟨by decide +kernel, rfl⟩
theorem iX0_slice_18 : zat mX0_slice 18 1 19 (.iload_n 3) := ⟨by decide +kernel, rfl⟩
theorem iX0_slice_19 : zat mX0_slice 19 1 20 (.iaload) := ⟨by decide +kernel, rfl⟩
theorem iX0_slice_20 : zat mX0_slice 20 3 23 (.invokestatic 92) := ⟨by decide +kernel, rfl⟩
theorem iX0_slice_23 : zat mX0_slice 23 2 25 (.istore 4) := ⟨by decide +kernel, rfl⟩
theorem iX0_slice_25 : zat mX0_slice 25 1 26 (.aload_n 0) := ⟨by decide +kernel, rfl⟩
theorem iX0_slice_26 : zat mX0_slice 26 3 29 (.getfield 9) := ⟨by decide +kernel, rfl⟩
theorem iX0_slice_29 : zat mX0_slice 29 1 30 (.iload_n 3) := ⟨by decide +kernel, rfl⟩
theorem iX0_slice_30 : zat mX0_slice 30 1 31 (.iaload) := ⟨by decide +kernel, rfl⟩
theorem iX0_slice_31 : zat mX0_slice 31 2 33 (.iload 4) := ⟨by decide +kernel, rfl⟩
theorem iX0_slice_33 : zat mX0_slice 33 3 36 (.invokestatic 95) := ⟨by decide +kernel, rfl⟩
theorem iX0_slice_36 : zat mX0_slice 36 2 38 (.istore 5) := ⟨by decide +kernel, rfl⟩
theorem iX0_slice_38 : zat mX0_slice 38 1 39 (.aload_n 0) := ⟨by decide +kernel, rfl⟩
theorem iX0_slice_39 : zat mX0_slice 39 3 42 (.getfield 18) := ⟨by decide +kernel, rfl⟩
theorem iX0_slice_42 : zat mX0_slice 42 1 43 (.iload_n 3) := ⟨by decide +kernel, rfl⟩
theorem iX0_slice_43 : zat mX0_slice 43 1 44 (.dup2) := ⟨by decide +kernel, rfl⟩
theorem iX0_slice_44 : zat mX0_slice 44 1 45 (.iaload) := ⟨by decide +kernel, rfl⟩
theorem iX0_slice_45 : zat mX0_slice 45 2 47 (.iload 4) := ⟨by decide +kernel, rfl⟩
theorem iX0_slice_47 : zat mX0_slice 47 1 48 (.isub) := ⟨by decide +kernel, rfl⟩
theorem iX0_slice_48 : zat mX0_slice 48 1 49 (.iastore) := ⟨by decide +kernel, rfl⟩
theorem iX0_slice_49 : zat mX0_slice 49 1 50 (.aload_n 0) := ⟨by decide +kernel, rfl⟩
theorem iX0_slice_50 : zat mX0_slice 50 3 53 (.getfield 18) := ⟨by decide +kernel, rfl⟩
theorem iX0_slice_53 : zat mX0_slice 53 1 54 (.iload_n 3) := ⟨by decide +kernel, rfl⟩
theorem iX0_slice_54 : zat mX0_slice 54 1 55 (.iaload) := ⟨by decide +kernel, rfl⟩
theorem iX0_slice_55 : zbr mX0_slice 55 58 72 (.ifCond .ne) := ⟨17, by decide +kernel, rfl, rfl⟩
theorem iX0_slice_58 : zat mX0_slice 58 1 59 (.aload_n 0) := ⟨by decide +kernel, rfl⟩
theorem iX0_slice_59 : zat mX0_slice 59 1 60 (.iload_n 1) := ⟨by decide +kernel, rfl⟩
theorem iX0_slice_60 : zat mX0_slice 60 1 61 (.aload_n 0) := ⟨by decide +kernel, rfl⟩
theorem iX0_slice_61 : zat mX0_slice 61 3 64 (.getfield 27) := ⟨by decide +kernel, rfl⟩
theorem iX0_slice_64 : zat mX0_slice 64 1 65 (.iload_n 1) := ⟨by decide +kernel, rfl⟩
theorem iX0_slice_65 : zat mX0_slice 65 1 66 (.iaload) := ⟨by decide +kernel, rfl⟩
theorem iX0_slice_66 : zat mX0_slice 66 1 67 (.iconst 1) := ⟨by decide +kernel, rfl⟩
theorem iX0_slice_67 : zat mX0_slice 67 1 68 (.isub) := ⟨by decide +kernel, rfl⟩
theorem iX0_slice_68 : zat mX0_slice 68 3 71 (.invokevirtual 73) := ⟨by decide +kernel, rfl⟩
theorem iX0_slice_71 : zat mX0_slice 71 1 72 (.pop) := ⟨by decide +kernel, rfl⟩
theorem iX0_slice_72 : zat mX0_slice 72 1 73 (.aload_n 0) := ⟨by decide +kernel, rfl⟩
theorem iX0_slice_73 : zat mX0_slice 73 3 76 (.getfield 9) := ⟨by decide +kernel, rfl⟩
theorem iX0_slice_76 : zat mX0_slice 76 1 77 (.iload_n 3) := ⟨by decide +kernel, rfl⟩
theorem iX0_slice_77 : zat mX0_slice 77 1 78 (.iaload) := ⟨by decide +kernel, rfl⟩
theorem iX0_slice_78 : zat mX0_slice 78 1 79 (.iconst 3) := ⟨by decide +kernel, rfl⟩
theorem iX0_slice_79 : zbr mX0_slice 79 82 87 (.if_icmp .ne) := ⟨8, by decide +kernel, rfl, rfl⟩
theorem iX0_slice_82 : zat mX0_slice 82 1 83 (.aload_n 0) := ⟨by decide +kernel, rfl⟩
theorem iX0_slice_83 : zat mX0_slice 83 1 84 (.iload_n 1) := ⟨by decide +kernel, rfl⟩
theorem iX0_slice_84 : zat mX0_slice 84 3 87 (.invokevirtual 98) := ⟨by decide +kernel, rfl⟩
theorem iX0_slice_87 : zat mX0_slice 87 1 88 (.aload_n 0) := ⟨by decide +kernel, rfl⟩
theorem iX0_slice_88 : zat mX0_slice 88 1 89 (.dup) := ⟨by decide +kernel, rfl⟩
theorem iX0_slice_89 : zat mX0_slice 89 3 92 (.getfield 43) := ⟨by decide +kernel, rfl⟩
theorem iX0_slice_92 : zat mX0_slice 92 2 94 (.iload 5) := ⟨by decide +kernel, rfl⟩
theorem iX0_slice_94 : zat mX0_slice 94 1 95 (.iadd) := ⟨by decide +kernel, rfl⟩
theorem iX0_slice_95 : zat mX0_slice 95 3 98 (.putfield 43) := ⟨by decide +kernel, rfl⟩
theorem iX0_slice_98 : zat mX0_slice 98 2 100 (.iload 5) := ⟨by decide +kernel, rfl⟩
theorem iX0_slice_100 : zat mX0_slice 100 1 101 (.ireturn) := ⟨by decide +kernel, rfl⟩
theorem iX0_dryTopsBut_0 : zat mX0_dryTopsBut 0 1 1 (.iconst 0) := ⟨by decide +kernel, rfl⟩
theorem iX0_dryTopsBut_1 : zat mX0_dryTopsBut 1 1 2 (.istore_n 2) := ⟨by decide +kernel, rfl⟩
theorem iX0_dryTopsBut_2 : zat mX0_dryTopsBut 2 1 3 (.iload_n 2) := ⟨by decide +kernel, rfl⟩
theorem iX0_dryTopsBut_3 : zat mX0_dryTopsBut 3 1 4 (.aload_n 0) := ⟨by decide +kernel, rfl⟩
theorem iX0_dryTopsBut_4 : zat mX0_dryTopsBut 4 3 7 (.getfield 33) := ⟨by decide +kernel, rfl⟩
theorem iX0_dryTopsBut_7 : zbr mX0_dryTopsBut 7 10 26 (.if_icmp .ge) := ⟨19, by decide +kernel, rfl, rfl⟩
theorem iX0_dryTopsBut_10 : zat mX0_dryTopsBut 10 1 11 (.iload_n 2) := ⟨by decide +kernel, rfl⟩
theorem iX0_dryTopsBut_11 : zat mX0_dryTopsBut 11 1 12 (.iload_n 1) := ⟨by decide +kernel, rfl⟩
theorem iX0_dryTopsBut_12 : zbr mX0_dryTopsBut 12 15 20 (.if_icmp .eq) := ⟨8, by decide +kernel, rfl, rfl⟩
theorem iX0_dryTopsBut_15 : zat mX0_dryTopsBut 15 1 16 (.aload_n 0) := ⟨by decide +kernel, rfl⟩
theorem iX0_dryTopsBut_16 : zat mX0_dryTopsBut 16 1 17 (.iload_n 2) := ⟨by decide +kernel, rfl⟩
theorem iX0_dryTopsBut_17 : zat mX0_dryTopsBut 17 3 20 (.invokevirtual 89) := ⟨by decide +kernel, rfl⟩
theorem iX0_dryTopsBut_20 : zat mX0_dryTopsBut 20 3 23 (.iinc 2 1) := ⟨by decide +kernel, rfl⟩
theorem iX0_dryTopsBut_23 : zbr mX0_dryTopsBut 23 26 2 (.goto) := ⟨-21, by decide +kernel, rfl, rfl⟩
theorem iX0_dryTopsBut_26 : zat mX0_dryTopsBut 26 1 27 (.return_) := ⟨by decide +kernel, rfl⟩
theorem iX0_turnOver_0 : zat mX0_turnOver 0 1 1 (.iload_n 1) := ⟨by decide +kernel, rfl⟩
theorem iX0_turnOver_1 : zat mX0_turnOver 1 1 2 (.iconst 3) := ⟨by decide +kernel, rfl⟩
theorem iX0_turnOver_2 : zat mX0_turnOver 2 1 3 (.imul) := ⟨by decide +kernel, rfl⟩
theorem iX0_turnOver_3 : zat mX0_turnOver 3 1 4 (.istore_n 2) := ⟨by decide +kernel, rfl⟩
theorem iX0_turnOver_4 : zat mX0_turnOver 4 1 5 (.iload_n 2) := ⟨by decide +kernel, rfl⟩
theorem iX0_turnOver_5 : zat mX0_turnOver 5 1 6 (.aload_n 0) := ⟨by decide +kernel, rfl⟩
theorem iX0_turnOver_6 : zat mX0_turnOver 6 3 9 (.getfield 27) := ⟨by decide +kernel, rfl⟩
theorem iX0_turnOver_9 : zat mX0_turnOver 9 1 10 (.iload_n 1) := ⟨by decide +kernel, rfl⟩
theorem iX0_turnOver_10 : zat mX0_turnOver 10 1 11 (.iaload) := ⟨by decide +kernel, rfl⟩
theorem iX0_turnOver_11 : zat mX0_turnOver 11 1 12 (.iadd) := ⟨by decide +kernel, rfl⟩
theorem iX0_turnOver_12 : zat mX0_turnOver 12 1 13 (.iconst 1) := ⟨by decide +kernel, rfl⟩
theorem iX0_turnOver_13 : zat mX0_turnOver 13 1 14 (.isub) := ⟨by decide +kernel, rfl⟩
theorem iX0_turnOver_14 : zat mX0_turnOver 14 1 15 (.istore_n 3) := ⟨by decide +kernel, rfl⟩
theorem iX0_turnOver_15 : zat mX0_turnOver 15 1 16 (.iload_n 2) := ⟨by decide +kernel, rfl⟩
theorem iX0_turnOver_16 : zat mX0_turnOver 16 2 18 (.istore 4) := ⟨by decide +kernel, rfl⟩
theorem iX0_turnOver_18 : zat mX0_turnOver 18 2 20 (.iload 4) := ⟨by decide +kernel, rfl⟩
theorem iX0_turnOver_20 : zat mX0_turnOver 20 1 21 (.iload_n 3) := ⟨by decide +kernel, rfl⟩
theorem iX0_turnOver_21 : zbr mX0_turnOver 21 24 43 (.if_icmp .gt) := ⟨22, by decide +kernel, rfl, rfl⟩
theorem iX0_turnOver_24 : zat mX0_turnOver 24 1 25 (.aload_n 0) := ⟨by decide +kernel, rfl⟩
theorem iX0_turnOver_25 : zat mX0_turnOver 25 3 28 (.getfield 24) := ⟨by decide +kernel, rfl⟩
theorem iX0_turnOver_28 : zat mX0_turnOver 28 1 29 (.aload_n 0) := ⟨by decide +kernel, rfl⟩
theorem iX0_turnOver_29 : zat mX0_turnOver 29 3 32 (.getfield 30) := ⟨by decide +kernel, rfl⟩
theorem iX0_turnOver_32 : zat mX0_turnOver 32 2 34 (.iload 4) := ⟨by decide +kernel, rfl⟩
theorem iX0_turnOver_34 : zat mX0_turnOver 34 1 35 (.iaload) := ⟨by decide +kernel, rfl⟩
theorem iX0_turnOver_35 : zat mX0_turnOver 35 1 36 (.iconst 0) := ⟨by decide +kernel, rfl⟩
theorem iX0_turnOver_36 : zat mX0_turnOver 36 1 37 (.iastore) := ⟨by decide +kernel, rfl⟩
theorem iX0_turnOver_37 : zat mX0_turnOver 37 3 40 (.iinc 4 1) := ⟨by decide +kernel, rfl⟩
theorem iX0_turnOver_40 : zbr mX0_turnOver 40 43 18 (.goto) := ⟨-22, by decide +kernel, rfl, rfl⟩
theorem iX0_turnOver_43 : zat mX0_turnOver 43 1 44 (.iload_n 2) := ⟨by decide +kernel, rfl⟩
theorem iX0_turnOver_44 : zat mX0_turnOver 44 2 46 (.istore 4) := ⟨by decide +kernel, rfl⟩
theorem iX0_turnOver_46 : zat mX0_turnOver 46 1 47 (.iload_n 3) := ⟨by decide +kernel, rfl⟩
theorem iX0_turnOver_47 : zat mX0_turnOver 47 2 49 (.istore 5) := ⟨by decide +kernel, rfl⟩
theorem iX0_turnOver_49 : zat mX0_turnOver 49 2 51 (.iload 4) := ⟨by decide +kernel, rfl⟩
theorem iX0_turnOver_51 : zat mX0_turnOver 51 2 53 (.iload 5) := ⟨by decide +kernel, rfl⟩
theorem iX0_turnOver_53 : zbr mX0_turnOver 53 56 97 (.if_icmp .ge) := ⟨44, by decide +kernel, rfl, rfl⟩
theorem iX0_turnOver_56 : zat mX0_turnOver 56 1 57 (.aload_n 0) := ⟨by decide +kernel, rfl⟩
theorem iX0_turnOver_57 : zat mX0_turnOver 57 3 60 (.getfield 30) := ⟨by decide +kernel, rfl⟩
theorem iX0_turnOver_60 : zat mX0_turnOver 60 2 62 (.iload 4) := ⟨by decide +kernel, rfl⟩
theorem iX0_turnOver_62 : zat mX0_turnOver 62 1 63 (.iaload) := ⟨by decide +kernel, rfl⟩
theorem iX0_turnOver_63 : zat mX0_turnOver 63 2 65 (.istore 6) := ⟨by decide +kernel, rfl⟩
theorem iX0_turnOver_65 : zat mX0_turnOver 65 1 66 (.aload_n 0) := ⟨by decide +kernel, rfl⟩
theorem iX0_turnOver_66 : zat mX0_turnOver 66 3 69 (.getfield 30) := ⟨by decide +kernel, rfl⟩
theorem iX0_turnOver_69 : zat mX0_turnOver 69 2 71 (.iload 4) := ⟨by decide +kernel, rfl⟩
theorem iX0_turnOver_71 : zat mX0_turnOver 71 1 72 (.aload_n 0) := ⟨by decide +kernel, rfl⟩
theorem iX0_turnOver_72 : zat mX0_turnOver 72 3 75 (.getfield 30) := ⟨by decide +kernel, rfl⟩
theorem iX0_turnOver_75 : zat mX0_turnOver 75 2 77 (.iload 5) := ⟨by decide +kernel, rfl⟩
theorem iX0_turnOver_77 : zat mX0_turnOver 77 1 78 (.iaload) := ⟨by decide +kernel, rfl⟩
theorem iX0_turnOver_78 : zat mX0_turnOver 78 1 79 (.iastore) := ⟨by decide +kernel, rfl⟩
theorem iX0_turnOver_79 : zat mX0_turnOver 79 1 80 (.aload_n 0) := ⟨by decide +kernel, rfl⟩
theorem iX0_turnOver_80 : zat mX0_turnOver 80 3 83 (.getfield 30) := ⟨by decide +kernel, rfl⟩
theorem iX0_turnOver_83 : zat mX0_turnOver 83 2 85 (.iload 5) := ⟨by decide +kernel, rfl⟩
theorem iX0_turnOver_85 : zat mX0_turnOver 85 2 87 (.iload 6) := ⟨by decide +kernel, rfl⟩
theorem iX0_turnOver_87 : zat mX0_turnOver 87 1 88 (.iastore) := ⟨by decide +kernel, rfl⟩
theorem iX0_turnOver_88 : zat mX0_turnOver 88 3 91 (.iinc 4 1) := ⟨by decide +kernel, rfl⟩
theorem iX0_turnOver_91 : zat mX0_turnOver 91 3 94 (.iinc 5 (-1)) := ⟨by decide +kernel, rfl⟩
theorem iX0_turnOver_94 : zbr mX0_turnOver 94 97 49 (.goto) := ⟨-45, by decide +kernel, rfl, rfl⟩
theorem iX0_turnOver_97 : zat mX0_turnOver 97 1 98 (.return_) := ⟨by decide +kernel, rfl⟩
theorem iX0_takeOut_0 : zat mX0_takeOut 0 1 1 (.iconst 0) := ⟨by decide +kernel, rfl⟩
theorem iX0_takeOut_1 : zat mX0_takeOut 1 1 2 (.istore_n 3) := ⟨by decide +kernel, rfl⟩
theorem iX0_takeOut_2 : zat mX0_takeOut 2 1 3 (.iconst 0) := ⟨by decide +kernel, rfl⟩
theorem iX0_takeOut_3 : zat mX0_takeOut 3 2 5 (.istore 4) := ⟨by decide +kernel, rfl⟩
theorem iX0_takeOut_5 : zat mX0_takeOut 5 2 7 (.iload 4) := ⟨by decide +kernel, rfl⟩
theorem iX0_takeOut_7 : zat mX0_takeOut 7 1 8 (.aload_n 0) := ⟨by decide +kernel, rfl⟩
theorem iX0_takeOut_8 : zat mX0_takeOut 8 3 11 (.getfield 27) := ⟨by decide +kernel, rfl⟩
theorem iX0_takeOut_11 : zat mX0_takeOut 11 1 12 (.iload_n 1) := ⟨by decide +kernel, rfl⟩
theorem iX0_takeOut_12 : zat mX0_takeOut 12 1 13 (.iaload) := ⟨by decide +kernel, rfl⟩
theorem iX0_takeOut_13 : zbr mX0_takeOut 13 16 69 (.if_icmp .ge) := ⟨56, by decide +kernel, rfl, rfl⟩
theorem iX0_takeOut_16 : zat mX0_takeOut 16 1 17 (.aload_n 0) := ⟨by decide +kernel, rfl⟩
theorem iX0_takeOut_17 : zat mX0_takeOut 17 3 20 (.getfield 30) := ⟨by decide +kernel, rfl⟩
theorem iX0_takeOut_20 : zat mX0_takeOut 20 1 21 (.iload_n 1) := ⟨by decide +kernel, rfl⟩
theorem iX0_takeOut_21 : zat mX0_takeOut 21 1 22 (.iconst 3) := ⟨by decide +kernel, rfl⟩
theorem iX0_takeOut_22 : zat mX0_takeOut 22 1 23 (.imul) := ⟨by decide +kernel, rfl⟩
theorem iX0_takeOut_23 : zat mX0_takeOut 23 2 25 (.iload 4) := ⟨by decide +kernel, rfl⟩
theorem iX0_takeOut_25 : zat mX0_takeOut 25 1 26 (.iadd) := ⟨by decide +kernel, rfl⟩
theorem iX0_takeOut_26 : zat mX0_takeOut 26 1 27 (.iaload) := ⟨by decide +kernel, rfl⟩
theorem iX0_takeOut_27 : zat mX0_takeOut 27 2 29 (.istore 5) := ⟨by decide +kernel, rfl⟩
theorem iX0_takeOut_29 : zat mX0_takeOut 29 1 30 (.iload_n 2) := ⟨by decide +kernel, rfl⟩
theorem iX0_takeOut_30 : zat mX0_takeOut 30 2 32 (.iload 4) := ⟨by decide +kernel, rfl⟩
theorem iX0_takeOut_32 : zat mX0_takeOut 32 1 33 (.ishr) := ⟨by decide +kernel, rfl⟩
theorem iX0_takeOut_33 : zat mX0_takeOut 33 1 34 (.iconst 1) := ⟨by decide +kernel, rfl⟩
theorem iX0_takeOut_34 : zat mX0_takeOut 34 1 35 (.iand) := ⟨by decide +kernel, rfl⟩
theorem iX0_takeOut_35 : zat mX0_takeOut 35 1 36 (.iconst 1) := ⟨by decide +kernel, rfl⟩
theorem iX0_takeOut_36 : zbr mX0_takeOut 36 39 48 (.if_icmp .ne) := ⟨12, by decide +kernel, rfl, rfl⟩
theorem iX0_takeOut_39 : zat mX0_takeOut 39 1 40 (.aload_n 0) := ⟨by decide +kernel, rfl⟩
theorem iX0_takeOut_40 : zat mX0_takeOut 40 2 42 (.iload 5) := ⟨by decide +kernel, rfl⟩
theorem iX0_takeOut_42 : zat mX0_takeOut 42 3 45 (.invokevirtual 76) := ⟨by decide +kernel, rfl⟩
theorem iX0_takeOut_45 : zbr mX0_takeOut 45 48 63 (.goto) := ⟨18, by decide +kernel, rfl, rfl⟩
theorem iX0_takeOut_48 : zat mX0_takeOut 48 1 49 (.aload_n 0) := ⟨by decide +kernel, rfl⟩
theorem iX0_takeOut_49 : zat mX0_takeOut 49 3 52 (.getfield 30) := ⟨by decide +kernel, rfl⟩
theorem iX0_takeOut_52 : zat mX0_takeOut 52 1 53 (.iload_n 1) := ⟨by decide +kernel, rfl⟩
theorem iX0_takeOut_53 : zat mX0_takeOut 53 1 54 (.iconst 3) := ⟨by decide +kernel, rfl⟩
theorem iX0_takeOut_54 : zat mX0_takeOut 54 1 55 (.imul) := ⟨by decide +kernel, rfl⟩
theorem iX0_takeOut_55 : zat mX0_takeOut 55 1 56 (.iload_n 3) := ⟨by decide +kernel, rfl⟩
theorem iX0_takeOut_56 : zat mX0_takeOut 56 1 57 (.iadd) := ⟨by decide +kernel, rfl⟩
theorem iX0_takeOut_57 : zat mX0_takeOut 57 2 59 (.iload 5) := ⟨by decide +kernel, rfl⟩
theorem iX0_takeOut_59 : zat mX0_takeOut 59 1 60 (.iastore) := ⟨by decide +kernel, rfl⟩
theorem iX0_takeOut_60 : zat mX0_takeOut 60 3 63 (.iinc 3 1) := ⟨by decide +kernel, rfl⟩
theorem iX0_takeOut_63 : zat mX0_takeOut 63 3 66 (.iinc 4 1) := ⟨by decide +kernel, rfl⟩
theorem iX0_takeOut_66 : zbr mX0_takeOut 66 69 5 (.goto) := ⟨-61, by decide +kernel, rfl, rfl⟩
theorem iX0_takeOut_69 : zat mX0_takeOut 69 1 70 (.aload_n 0) := ⟨by decide +kernel, rfl⟩
theorem iX0_takeOut_70 : zat mX0_takeOut 70 3 73 (.getfield 27) := ⟨by decide +kernel, rfl⟩
theorem iX0_takeOut_73 : zat mX0_takeOut 73 1 74 (.iload_n 1) := ⟨by decide +kernel, rfl⟩
theorem iX0_takeOut_74 : zat mX0_takeOut 74 1 75 (.iload_n 3) := ⟨by decide +kernel, rfl⟩
theorem iX0_takeOut_75 : zat mX0_takeOut 75 1 76 (.iastore) := ⟨by decide +kernel, rfl⟩
theorem iX0_takeOut_76 : zat mX0_takeOut 76 1 77 (.return_) := ⟨by decide +kernel, rfl⟩
theorem iX0_bayOfLeastLight_0 : zat mX0_bayOfLeastLight 0 1 1 (.iconst (-1)) := ⟨by decide +kernel, rfl⟩
theorem iX0_bayOfLeastLight_1 : zat mX0_bayOfLeastLight 1 1 2 (.istore_n 1) := ⟨by decide +kernel, rfl⟩
theorem iX0_bayOfLeastLight_2 : zat mX0_bayOfLeastLight 2 2 4 (.bipush 10) := ⟨by decide +kernel, rfl⟩
theorem iX0_bayOfLeastLight_4 : zat mX0_bayOfLeastLight 4 1 5 (.istore_n 2) := ⟨by decide +kernel, rfl⟩
theorem iX0_bayOfLeastLight_5 : zat mX0_bayOfLeastLight 5 1 6 (.iconst 0) := ⟨by decide +kernel, rfl⟩
theorem iX0_bayOfLeastLight_6 : zat mX0_bayOfLeastLight 6 1 7 (.istore_n 3) := ⟨by decide +kernel, rfl⟩
theorem iX0_bayOfLeastLight_7 : zat mX0_bayOfLeastLight 7 1 8 (.iload_n 3) := ⟨by decide +kernel, rfl⟩
theorem iX0_bayOfLeastLight_8 : zat mX0_bayOfLeastLight 8 1 9 (.aload_n 0) := ⟨by decide +kernel, rfl⟩
theorem iX0_bayOfLeastLight_9 : zat mX0_bayOfLeastLight 9 3 12 (.getfield 33) := ⟨by decide +kernel, rfl⟩
theorem iX0_bayOfLeastLight_12 : zbr mX0_bayOfLeastLight 12 15 55 (.if_icmp .ge) := ⟨43, by decide +kernel, rfl, rfl⟩
theorem iX0_bayOfLeastLight_15 : zat mX0_bayOfLeastLight 15 1 16 (.aload_n 0) := ⟨by decide +kernel, rfl⟩
theorem iX0_bayOfLeastLight_16 : zat mX0_bayOfLeastLight 16 1 17 (.iload_n 3) := ⟨by decide +kernel, rfl⟩
theorem iX0_bayOfLeastLight_17 : zat mX0_bayOfLeastLight 17 3 20 (.invokevirtual 80) := ⟨by decide +kernel, rfl⟩
theorem iX0_bayOfLeastLight_20 : zat mX0_bayOfLeastLight 20 2 22 (.istore 4) := ⟨by decide +kernel, rfl⟩
theorem iX0_bayOfLeastLight_22 : zat mX0_bayOfLeastLight 22 2 24 (.iload 4) := ⟨by decide +kernel, rfl⟩
theorem iX0_bayOfLeastLight_24 : zat mX0_bayOfLeastLight 24 1 25 (.iconst (-1)) := ⟨by decide +kernel, rfl⟩
theorem iX0_bayOfLeastLight_25 : zbr mX0_bayOfLeastLight 25 28 49 (.if_icmp .eq) := ⟨24, by decide +kernel, rfl, rfl⟩
theorem iX0_bayOfLeastLight_28 : zat mX0_bayOfLeastLight 28 1 29 (.aload_n 0) := ⟨by decide +kernel, rfl⟩
theorem iX0_bayOfLeastLight_29 : zat mX0_bayOfLeastLight 29 3 32 (.getfield 18) := ⟨by decide +kernel, rfl⟩
theorem iX0_bayOfLeastLight_32 : zat mX0_bayOfLeastLight 32 2 34 (.iload 4) := ⟨by decide +kernel, rfl⟩
theorem iX0_bayOfLeastLight_34 : zat mX0_bayOfLeastLight 34 1 35 (.iaload) := ⟨by decide +kernel, rfl⟩
theorem iX0_bayOfLeastLight_35 : zat mX0_bayOfLeastLight 35 1 36 (.iload_n 2) := ⟨by decide +kernel, rfl⟩
theorem iX0_bayOfLeastLight_36 : zbr mX0_bayOfLeastLight 36 39 49 (.if_icmp .ge) := ⟨13, by decide +kernel, rfl, rfl⟩
theorem iX0_bayOfLeastLight_39 : zat mX0_bayOfLeastLight 39 1 40 (.aload_n 0) := ⟨by decide +kernel, rfl⟩
theorem iX0_bayOfLeastLight_40 : zat mX0_bayOfLeastLight 40 3 43 (.getfield 18) := ⟨by decide +kernel, rfl⟩
theorem iX0_bayOfLeastLight_43 : zat mX0_bayOfLeastLight 43 2 45 (.iload 4) := ⟨by decide +kernel, rfl⟩
theorem iX0_bayOfLeastLight_45 : zat mX0_bayOfLeastLight 45 1 46 (.iaload) := ⟨by decide +kernel, rfl⟩
theorem iX0_bayOfLeastLight_46 : zat mX0_bayOfLeastLight 46 1 47 (.istore_n 2) := ⟨by decide +kernel, rfl⟩
theorem iX0_bayOfLeastLight_47 : zat mX0_bayOfLeastLight 47 1 48 (.iload_n 3) := ⟨by decide +kernel, rfl⟩
theorem iX0_bayOfLeastLight_48 : zat mX0_bayOfLeastLight 48 1 49 (.istore_n 1) := ⟨by decide +kernel, rfl⟩
theorem iX0_bayOfLeastLight_49 : zat mX0_bayOfLeastLight 49 3 52 (.iinc 3 1) := ⟨by decide +kernel, rfl⟩
theorem iX0_bayOfLeastLight_52 : zbr mX0_bayOfLeastLight 52 55 7 (.goto) := ⟨-45, by decide +kernel, rfl, rfl⟩
theorem iX0_bayOfLeastLight_55 : zat mX0_bayOfLeastLight 55 1 56 (.iload_n 1) := ⟨by decide +kernel, rfl⟩
theorem iX0_bayOfLeastLight_56 : zat mX0_bayOfLeastLight 56 1 57 (.ireturn) := ⟨by decide +kernel, rfl⟩
theorem iX1_init_0 : zat mX1_init 0 1 1 (.aload_n 0) := ⟨by decide +kernel, rfl⟩
theorem iX1_init_1 : zat mX1_init 1 3 4 (.invokespecial 3) := ⟨by decide +kernel, rfl⟩
theorem iX1_init_4 : zat mX1_init 4 1 5 (.aload_n 0) := ⟨by decide +kernel, rfl⟩
theorem iX1_init_5 : zat mX1_init 5 3 8 (.new 9) := ⟨by decide +kernel, rfl⟩
theorem iX1_init_8 : zat mX1_init 8 1 9 (.dup) := ⟨by decide +kernel, rfl⟩
theorem iX1_init_9 : zat mX1_init 9 3 12 (.invokespecial 11) := ⟨by decide +kernel, rfl⟩
theorem iX1_init_12 : zat mX1_init 12 3 15 (.putfield 12) := ⟨by decide +kernel, rfl⟩
theorem iX1_init_15 : zat mX1_init 15 1 16 (.aload_n 0) := ⟨by decide +kernel, rfl⟩
theorem iX1_init_16 : zat mX1_init 16 2 18 (.bipush 90) := ⟨by decide +kernel, rfl⟩
theorem iX1_init_18 : zat mX1_init 18 2 20 (.newarray .int) := ⟨by decide +kernel, rfl⟩
theorem iX1_init_20 : zat mX1_init 20 3 23 (.putfield 18) := ⟨by decide +kernel, rfl⟩
theorem iX1_init_23 : zat mX1_init 23 1 24 (.aload_n 0) := ⟨by decide +kernel, rfl⟩
theorem iX1_init_24 : zat mX1_init 24 2 26 (.bipush 31) := ⟨by decide +kernel, rfl⟩
theorem iX1_init_26 : zat mX1_init 26 2 28 (.newarray .int) := ⟨by decide +kernel, rfl⟩
theorem iX1_init_28 : zat mX1_init 28 3 31 (.putfield 22) := ⟨by decide +kernel, rfl⟩
theorem iX1_init_31 : zat mX1_init 31 1 32 (.return_) := ⟨by decide +kernel, rfl⟩
theorem iX1_wets_0 : zat mX1_wets 0 1 1 (.aload_n 0) := ⟨by decide +kernel, rfl⟩
theorem iX1_wets_1 : zat mX1_wets 1 1 2 (.aload_n 1) := ⟨by decide +kernel, rfl⟩
theorem iX1_wets_2 : zat mX1_wets 2 1 3 (.iload_n 3) := ⟨by decide +kernel, rfl⟩
theorem iX1_wets_3 : zat mX1_wets 3 3 6 (.invokevirtual 25) := ⟨by decide +kernel, rfl⟩
theorem iX1_wets_6 : zat mX1_wets 6 1 7 (.aload_n 0) := ⟨by decide +kernel, rfl⟩
theorem iX1_wets_7 : zat mX1_wets 7 1 8 (.aload_n 2) := ⟨by decide +kernel, rfl⟩
theorem iX1_wets_8 : zat mX1_wets 8 1 9 (.iload_n 3) := ⟨by decide +kernel, rfl⟩
theorem iX1_wets_9 : zat mX1_wets 9 3 12 (.invokevirtual 29) := ⟨by decide +kernel, rfl⟩
theorem iX1_wets_12 : zat mX1_wets 12 1 13 (.ireturn) := ⟨by decide +kernel, rfl⟩
theorem iX1_bestDay_0 : zat mX1_bestDay 0 1 1 (.aload_n 0) := ⟨by decide +kernel, rfl⟩
theorem iX1_bestDay_1 : zat mX1_bestDay 1 1 2 (.aload_n 1) := ⟨by decide +kernel, rfl⟩
theorem iX1_bestDay_2 : zat mX1_bestDay 2 1 3 (.iload_n 3) := ⟨by decide +kernel, rfl⟩
theorem iX1_bestDay_3 : zat mX1_bestDay 3 3 6 (.invokevirtual 25) := ⟨by decide +kernel, rfl⟩
theorem iX1_bestDay_6 : zat mX1_bestDay 6 1 7 (.aload_n 0) := ⟨by decide +kernel, rfl⟩
theorem iX1_bestDay_7 : zat mX1_bestDay 7 1 8 (.aload_n 2) := ⟨by decide +kernel, rfl⟩
theorem iX1_bestDay_8 : zat mX1_bestDay 8 1 9 (.iload_n 3) := ⟨by decide +kernel, rfl⟩
theorem iX1_bestDay_9 : zat mX1_bestDay 9 3 12 (.invokevirtual 29) := ⟨by decide +kernel, rfl⟩
theorem iX1_bestDay_12 : zat mX1_bestDay 12 2 14 (.istore 4) := ⟨by decide +kernel, rfl⟩
theorem iX1_bestDay_14 : zat mX1_bestDay 14 2 16 (.iload 4) := ⟨by decide +kernel, rfl⟩
theorem iX1_bestDay_16 : zbr mX1_bestDay 16 19 21 (.ifCond .ne) := ⟨5, by decide +kernel, rfl, rfl⟩
theorem iX1_bestDay_19 : zat mX1_bestDay 19 1 20 (.iconst (-1)) := ⟨by decide +kernel, rfl⟩
theorem iX1_bestDay_20 : zat mX1_bestDay 20 1 21 (.ireturn) := ⟨by decide +kernel, rfl⟩
theorem iX1_bestDay_21 : zat mX1_bestDay 21 1 22 (.iconst (-1)) := ⟨by decide +kernel, rfl⟩
theorem iX1_bestDay_22 : zat mX1_bestDay 22 2 24 (.istore 5) := ⟨by decide +kernel, rfl⟩
theorem iX1_bestDay_24 : zat mX1_bestDay 24 2 26 (.bipush 11) := ⟨by decide +kernel, rfl⟩
theorem iX1_bestDay_26 : zat mX1_bestDay 26 2 28 (.istore 6) := ⟨by decide +kernel, rfl⟩
theorem iX1_bestDay_28 : zat mX1_bestDay 28 1 29 (.iconst 1) := ⟨by decide +kernel, rfl⟩
theorem iX1_bestDay_29 : zat mX1_bestDay 29 2 31 (.istore 7) := ⟨by decide +kernel, rfl⟩
theorem iX1_bestDay_31 : zat mX1_bestDay 31 2 33 (.iload 7) := ⟨by decide +kernel, rfl⟩
theorem iX1_bestDay_33 : zat mX1_bestDay 33 2 35 (.bipush 9) := ⟨by decide +kernel, rfl⟩
theorem iX1_bestDay_35 : zbr mX1_bestDay 35 38 69 (.if_icmp .gt) := ⟨34, by decide +kernel, rfl, rfl⟩
theorem iX1_bestDay_38 : zat mX1_bestDay 38 1 39 (.aload_n 0) := ⟨by decide +kernel, rfl⟩
theorem iX1_bestDay_39 : zat mX1_bestDay 39 2 41 (.iload 4) := ⟨by decide +kernel, rfl⟩
theorem iX1_bestDay_41 : zat mX1_bestDay 41 2 43 (.iload 7) := ⟨by decide +kernel, rfl⟩
theorem iX1_bestDay_43 : zat mX1_bestDay 43 3 46 (.invokevirtual 33) := ⟨by decide +kernel, rfl⟩
theorem iX1_bestDay_46 : zat mX1_bestDay 46 2 48 (.istore 8) := ⟨by decide +kernel, rfl⟩
theorem iX1_bestDay_48 : zat mX1_bestDay 48 2 50 (.iload 8) := ⟨by decide +kernel, rfl⟩
theorem iX1_bestDay_50 : zat mX1_bestDay 50 2 52 (.iload 6) := ⟨by decide +kernel, rfl⟩
theorem iX1_bestDay_52 : zbr mX1_bestDay 52 55 63 (.if_icmp .ge) := ⟨11, by decide +kernel, rfl, rfl⟩
theorem iX1_bestDay_55 : zat mX1_bestDay 55 2 57 (.iload 8) := ⟨by decide +kernel, rfl⟩
theorem iX1_bestDay_57 : zat mX1_bestDay 57 2 59 (.istore 6) := ⟨by decide +kernel, rfl⟩
theorem iX1_bestDay_59 : zat mX1_bestDay 59 2 61 (.iload 7) := ⟨by decide +kernel, rfl⟩
theorem iX1_bestDay_61 : zat mX1_bestDay 61 2 63 (.istore 5) := ⟨by decide +kernel, rfl⟩
theorem iX1_bestDay_63 : zat mX1_bestDay 63 3 66 (.iinc 7 1) := ⟨by decide +kernel, rfl⟩
theorem iX1_bestDay_66 : zbr mX1_bestDay 66 69 31 (.goto) := ⟨-35, by decide +kernel, rfl, rfl⟩
theorem iX1_bestDay_69 : zat mX1_bestDay 69 2 71 (.iload 5) := ⟨by decide +kernel, rfl⟩
theorem iX1_bestDay_71 : zat mX1_bestDay 71 1 72 (.ireturn) := ⟨by decide +kernel, rfl⟩
theorem iX1_tryAll_0 : zat mX1_tryAll 0 1 1 (.aload_n 1) := ⟨by decide +kernel, rfl⟩
theorem iX1_tryAll_1 : zat mX1_tryAll 1 3 4 (.getfield 37) := ⟨by decide +kernel, rfl⟩
theorem iX1_tryAll_4 : zat mX1_tryAll 4 1 5 (.iload_n 2) := ⟨by decide +kernel, rfl⟩
theorem iX1_tryAll_5 : zat mX1_tryAll 5 1 6 (.iaload) := ⟨by decide +kernel, rfl⟩
theorem iX1_tryAll_6 : zat mX1_tryAll 6 1 7 (.istore_n 3) := ⟨by decide +kernel, rfl⟩
theorem iX1_tryAll_7 : zat mX1_tryAll 7 1 8 (.iconst 0) := ⟨by decide +kernel, rfl⟩
theorem iX1_tryAll_8 : zat mX1_tryAll 8 2 10 (.istore 4) := ⟨by decide +kernel, rfl⟩
theorem iX1_tryAll_10 : zat mX1_tryAll 10 2 12 (.iload 4) := ⟨by decide +kernel, rfl⟩
theorem iX1_tryAll_12 : zat mX1_tryAll 12 2 14 (.bipush 10) := ⟨by decide +kernel, rfl⟩
theorem iX1_tryAll_14 : zbr mX1_tryAll 14 17 103 (.if_icmp .ge) := ⟨89, by decide +kernel, rfl, rfl⟩
theorem iX1_tryAll_17 : zat mX1_tryAll 17 1 18 (.aload_n 0) := ⟨by decide +kernel, rfl⟩
theorem iX1_tryAll_18 : zat mX1_tryAll 18 3 21 (.getfield 12) := ⟨by decide +kernel, rfl⟩
theorem iX1_tryAll_21 : zat mX1_tryAll 21 1 22 (.aload_n 1) := ⟨by decide +kernel, rfl⟩
theorem iX1_tryAll_22 : zat mX1_tryAll 22 3 25 (.invokevirtual 40) := ⟨by decide +kernel, rfl⟩
theorem iX1_tryAll_25 : zat mX1_tryAll 25 1 26 (.aload_n 0) := ⟨by decide +kernel, rfl⟩
theorem iX1_tryAll_26 : zat mX1_tryAll 26 3 29 (.getfield 12) := ⟨by decide +kernel, rfl⟩
theorem iX1_tryAll_29 : zat mX1_tryAll 29 3 32 (.getfield 44) := ⟨by decide +kernel, rfl⟩
theorem iX1_tryAll_32 : zat mX1_tryAll 32 1 33 (.iload_n 2) := ⟨by decide +kernel, rfl⟩
theorem iX1_tryAll_33 : zat mX1_tryAll 33 2 35 (.iload 4) := ⟨by decide +kernel, rfl⟩
theorem iX1_tryAll_35 : zat mX1_tryAll 35 1 36 (.iastore) := ⟨by decide +kernel, rfl⟩
theorem iX1_tryAll_36 : zat mX1_tryAll 36 1 37 (.iconst 1) := ⟨by decide +kernel, rfl⟩
theorem iX1_tryAll_37 : zat mX1_tryAll 37 2 39 (.istore 5) := ⟨by decide +kernel, rfl⟩
theorem iX1_tryAll_39 : zat mX1_tryAll 39 2 41 (.iload 5) := ⟨by decide +kernel, rfl⟩
theorem iX1_tryAll_41 : zat mX1_tryAll 41 2 43 (.bipush 9) := ⟨by decide +kernel, rfl⟩
theorem iX1_tryAll_43 : zbr mX1_tryAll 43 46 97 (.if_icmp .gt) := ⟨54, by decide +kernel, rfl, rfl⟩
theorem iX1_tryAll_46 : zat mX1_tryAll 46 1 47 (.aload_n 0) := ⟨by decide +kernel, rfl⟩
theorem iX1_tryAll_47 : zat mX1_tryAll 47 3 50 (.getfield 12) := ⟨by decide +kernel, rfl⟩
theorem iX1_tryAll_50 : zat mX1_tryAll 50 1 51 (.iload_n 3) := ⟨by decide +kernel, rfl⟩
theorem iX1_tryAll_51 : zat mX1_tryAll 51 3 54 (.invokevirtual 47) := ⟨by decide +kernel, rfl⟩
theorem iX1_tryAll_54 : zat mX1_tryAll 54 1 55 (.aload_n 0) := ⟨by decide +kernel, rfl⟩
theorem iX1_tryAll_55 : zat mX1_tryAll 55 3 58 (.getfield 12) := ⟨by decide +kernel, rfl⟩
theorem iX1_tryAll_58 : zat mX1_tryAll 58 1 59 (.iload_n 3) := ⟨by decide +kernel, rfl⟩
theorem iX1_tryAll_59 : zat mX1_tryAll 59 3 62 (.invokevirtual 51) := ⟨by decide +kernel, rfl⟩
theorem iX1_tryAll_62 : zat mX1_tryAll 62 1 63 (.aload_n 0) := ⟨by decide +kernel, rfl⟩
theorem iX1_tryAll_63 : zat mX1_tryAll 63 3 66 (.getfield 18) := ⟨by decide +kernel, rfl⟩
theorem iX1_tryAll_66 : zat mX1_tryAll 66 2 68 (.iload 4) := ⟨by decide +kernel, rfl⟩
theorem iX1_tryAll_68 : zat mX1_tryAll 68 2 70 (.bipush 9) := ⟨by decide +kernel, rfl⟩
theorem iX1_tryAll_70 : zat mX1_tryAll 70 1 71 (.imul) := ⟨by decide +kernel, rfl⟩
theorem iX1_tryAll_71 : zat mX1_tryAll 71 2 73 (.iload 5) := ⟨by decide +kernel, rfl⟩
theorem iX1_tryAll_73 : zat mX1_tryAll 73 1 74 (.iadd) := ⟨by decide +kernel, rfl⟩
theorem iX1_tryAll_74 : zat mX1_tryAll 74 1 75 (.iconst 1) := ⟨by decide +kernel, rfl⟩
theorem iX1_tryAll_75 : zat mX1_tryAll 75 1 76 (.isub) := ⟨by decide +kernel, rfl⟩
theorem iX1_tryAll_76 : zat mX1_tryAll 76 2 78 (.bipush 30) := ⟨by decide +kernel, rfl⟩
theorem iX1_tryAll_78 : zat mX1_tryAll 78 1 79 (.aload_n 0) := ⟨by decide +kernel, rfl⟩
theorem iX1_tryAll_79 : zat mX1_tryAll 79 3 82 (.getfield 12) := ⟨by decide +kernel, rfl⟩
theorem iX1_tryAll_82 : zat mX1_tryAll 82 3 85 (.getfield 54) := ⟨by decide +kernel, rfl⟩
theorem iX1_tryAll_85 : zat mX1_tryAll 85 1 86 (.iload_n 2) := ⟨by decide +kernel, rfl⟩
theorem iX1_tryAll_86 : zat mX1_tryAll 86 1 87 (.iaload) := ⟨by decide +kernel, rfl⟩
theorem iX1_tryAll_87 : zat mX1_tryAll 87 3 90 (.invokestatic 57) := ⟨by decide +kernel, rfl⟩
theorem iX1_tryAll_90 : zat mX1_tryAll 90 1 91 (.iastore) := ⟨by decide +kernel, rfl⟩
theorem iX1_tryAll_91 : zat mX1_tryAll 91 3 94 (.iinc 5 1) := ⟨by decide +kernel, rfl⟩
theorem iX1_tryAll_94 : zbr mX1_tryAll 94 97 39 (.goto) := ⟨-55, by decide +kernel, rfl, rfl⟩
theorem iX1_tryAll_97 : zat mX1_tryAll 97 3 100 (.iinc 4 1) := ⟨by decide +kernel, rfl⟩
theorem iX1_tryAll_100 : zbr mX1_tryAll 100 103 10 (.goto) := ⟨-90, by decide +kernel, rfl, rfl⟩
theorem iX1_tryAll_103 : zat mX1_tryAll 103 1 104 (.return_) := ⟨by decide +kernel, rfl⟩
theorem iX1_wetsThatFit_0 : zat mX1_wetsThatFit 0 1 1 (.iconst 0) := ⟨by decide +kernel, rfl⟩
theorem iX1_wetsThatFit_1 : zat mX1_wetsThatFit 1 1 2 (.istore_n 3) := ⟨by decide +kernel, rfl⟩
theorem iX1_wetsThatFit_2 : zat mX1_wetsThatFit 2 1 3 (.iconst 0) := ⟨by decide +kernel, rfl⟩
theorem iX1_wetsThatFit_3 : zat mX1_wetsThatFit 3 2 5 (.istore 4) := ⟨by decide +kernel, rfl⟩
theorem iX1_wetsThatFit_5 : zat mX1_wetsThatFit 5 2 7 (.iload 4) := ⟨by decide +kernel, rfl⟩
theorem iX1_wetsThatFit_7 : zat mX1_wetsThatFit 7 2 9 (.bipush 10) := ⟨by decide +kernel, rfl⟩
theorem iX1_wetsThatFit_9 : zbr mX1_wetsThatFit 9 12 36 (.if_icmp .ge) := ⟨27, by decide +kernel, rfl, rfl⟩
theorem iX1_wetsThatFit_12 : zat mX1_wetsThatFit 12 1 13 (.aload_n 0) := ⟨by decide +kernel, rfl⟩
theorem iX1_wetsThatFit_13 : zat mX1_wetsThatFit 13 1 14 (.aload_n 1) := ⟨by decide +kernel, rfl⟩
theorem iX1_wetsThatFit_14 : zat mX1_wetsThatFit 14 1 15 (.iload_n 2) := ⟨by decide +kernel, rfl⟩
theorem iX1_wetsThatFit_15 : zat mX1_wetsThatFit 15 2 17 (.iload 4) := ⟨by decide +kernel, rfl⟩
theorem iX1_wetsThatFit_17 : zat mX1_wetsThatFit 17 3 20 (.invokevirtual 62) := ⟨by decide +kernel, rfl⟩
theorem iX1_wetsThatFit_20 : zbr mX1_wetsThatFit 20 23 30 (.ifCond .eq) := ⟨10, by decide +kernel, rfl, rfl⟩
theorem iX1_wetsThatFit_23 : zat mX1_wetsThatFit 23 1 24 (.iload_n 3) := ⟨by decide +kernel, rfl⟩
theorem iX1_wetsThatFit_24 : zat mX1_wetsThatFit 24 1 25 (.iconst 1) := ⟨by decide +kernel, rfl⟩
theorem iX1_wetsThatFit_25 : zat mX1_wetsThatFit 25 2 27 (.iload 4) := ⟨by decide +kernel, rfl⟩
theorem iX1_wetsThatFit_27 : zat mX1_wetsThatFit 27 1 28 (.ishl) := ⟨by decide +kernel, rfl⟩
theorem iX1_wetsThatFit_28 : zat mX1_wetsThatFit 28 1 29 (.ior) := ⟨by decide +kernel, rfl⟩
theorem iX1_wetsThatFit_29 : zat mX1_wetsThatFit 29 1 30 (.istore_n 3) := ⟨by decide +kernel, rfl⟩
theorem iX1_wetsThatFit_30 : zat mX1_wetsThatFit 30 3 33 (.iinc 4 1) := ⟨by decide +kernel, rfl⟩
theorem iX1_wetsThatFit_33 : zbr mX1_wetsThatFit 33 36 5 (.goto) := ⟨-28, by decide +kernel, rfl, rfl⟩
theorem iX1_wetsThatFit_36 : zat mX1_wetsThatFit 36 1 37 (.iload_n 3) := ⟨by decide +kernel, rfl⟩
theorem iX1_wetsThatFit_37 : zat mX1_wetsThatFit 37 1 38 (.ireturn) := ⟨by decide +kernel, rfl⟩
theorem iX1_fits_0 : zat mX1_fits 0 1 1 (.iconst 0) := ⟨by decide +kernel, rfl⟩
theorem iX1_fits_1 : zat mX1_fits 1 2 3 (.istore 4) := ⟨by decide +kernel, rfl⟩
theorem iX1_fits_3 : zat mX1_fits 3 2 5 (.iload 4) := ⟨by decide +kernel, rfl⟩
theorem iX1_fits_5 : zat mX1_fits 5 1 6 (.aload_n 1) := ⟨by decide +kernel, rfl⟩
theorem iX1_fits_6 : zat mX1_fits 6 3 9 (.getfield 66) := ⟨by decide +kernel, rfl⟩
theorem iX1_fits_9 : zbr mX1_fits 9 12 60 (.if_icmp .ge) := ⟨51, by decide +kernel, rfl, rfl⟩
theorem iX1_fits_12 : zat mX1_fits 12 1 13 (.aload_n 1) := ⟨by decide +kernel, rfl⟩
theorem iX1_fits_13 : zat mX1_fits 13 3 16 (.getfield 72) := ⟨by decide +kernel, rfl⟩
theorem iX1_fits_16 : zat mX1_fits 16 2 18 (.iload 4) := ⟨by decide +kernel, rfl⟩
theorem iX1_fits_18 : zat mX1_fits 18 1 19 (.iaload) := ⟨by decide +kernel, rfl⟩
theorem iX1_fits_19 : zat mX1_fits 19 1 20 (.iload_n 2) := ⟨by decide +kernel, rfl⟩
theorem iX1_fits_20 : zbr mX1_fits 20 23 54 (.if_icmp .ne) := ⟨34, by decide +kernel, rfl, rfl⟩
theorem iX1_fits_23 : zat mX1_fits 23 1 24 (.aload_n 0) := ⟨by decide +kernel, rfl⟩
theorem iX1_fits_24 : zat mX1_fits 24 3 27 (.getfield 18) := ⟨by decide +kernel, rfl⟩
theorem iX1_fits_27 : zat mX1_fits 27 1 28 (.iload_n 3) := ⟨by decide +kernel, rfl⟩
theorem iX1_fits_28 : zat mX1_fits 28 2 30 (.bipush 9) := ⟨by decide +kernel, rfl⟩
theorem iX1_fits_30 : zat mX1_fits 30 1 31 (.imul) := ⟨by decide +kernel, rfl⟩
theorem iX1_fits_31 : zat mX1_fits 31 1 32 (.aload_n 1) := ⟨by decide +kernel, rfl⟩
theorem iX1_fits_32 : zat mX1_fits 32 3 35 (.getfield 75) := ⟨by decide +kernel, rfl⟩
theorem iX1_fits_35 : zat mX1_fits 35 2 37 (.iload 4) := ⟨by decide +kernel, rfl⟩
theorem iX1_fits_37 : zat mX1_fits 37 1 38 (.iaload) := ⟨by decide +kernel, rfl⟩
theorem iX1_fits_38 : zat mX1_fits 38 1 39 (.iadd) := ⟨by decide +kernel, rfl⟩
theorem iX1_fits_39 : zat mX1_fits 39 1 40 (.iconst 1) := ⟨by decide +kernel, rfl⟩
theorem iX1_fits_40 : zat mX1_fits 40 1 41 (.isub) := ⟨by decide +kernel, rfl⟩
theorem iX1_fits_41 : zat mX1_fits 41 1 42 (.iaload) := ⟨by decide +kernel, rfl⟩
theorem iX1_fits_42 : zat mX1_fits 42 1 43 (.aload_n 1) := ⟨by decide +kernel, rfl⟩
theorem iX1_fits_43 : zat mX1_fits 43 3 46 (.getfield 78) := ⟨by decide +kernel, rfl⟩
theorem iX1_fits_46 : zat mX1_fits 46 2 48 (.iload 4) := ⟨by decide +kernel, rfl⟩
theorem iX1_fits_48 : zat mX1_fits 48 1 49 (.iaload) := ⟨by decide +kernel, rfl⟩
theorem iX1_fits_49 : zbr mX1_fits 49 52 54 (.if_icmp .eq) := ⟨5, by decide +kernel, rfl, rfl⟩
theorem iX1_fits_52 : zat mX1_fits 52 1 53 (.iconst 0) := ⟨by decide +kernel, rfl⟩
theorem iX1_fits_53 : zat mX1_fits 53 1 54 (.ireturn) := ⟨by decide +kernel, rfl⟩
theorem iX1_fits_54 : zat mX1_fits 54 3 57 (.iinc 4 1) := ⟨by decide +kernel, rfl⟩
theorem iX1_fits_57 : zbr mX1_fits 57 60 3 (.goto) := ⟨-54, by decide +kernel, rfl, rfl⟩
theorem iX1_fits_60 : zat mX1_fits 60 1 61 (.iconst 1) := ⟨by decide +kernel, rfl⟩
theorem iX1_fits_61 : zat mX1_fits 61 1 62 (.ireturn) := ⟨by decide +kernel, rfl⟩
theorem iX1_leftAtWorst_0 : zat mX1_leftAtWorst 0 1 1 (.iconst 0) := ⟨by decide +kernel, rfl⟩
theorem iX1_leftAtWorst_1 : zat mX1_leftAtWorst 1 1 2 (.istore_n 3) := ⟨by decide +kernel, rfl⟩
theorem iX1_leftAtWorst_2 : zat mX1_leftAtWorst 2 1 3 (.iload_n 3) := ⟨by decide +kernel, rfl⟩
theorem iX1_leftAtWorst_3 : zat mX1_leftAtWorst 3 2 5 (.bipush 30) := ⟨by decide +kernel, rfl⟩
theorem iX1_leftAtWorst_5 : zbr mX1_leftAtWorst 5 8 21 (.if_icmp .gt) := ⟨16, by decide +kernel, rfl, rfl⟩
theorem iX1_leftAtWorst_8 : zat mX1_leftAtWorst 8 1 9 (.aload_n 0) := ⟨by decide +kernel, rfl⟩
theorem iX1_leftAtWorst_9 : zat mX1_leftAtWorst 9 3 12 (.getfield 22) := ⟨by decide +kernel, rfl⟩
theorem iX1_leftAtWorst_12 : zat mX1_leftAtWorst 12 1 13 (.iload_n 3) := ⟨by decide +kernel, rfl⟩
theorem iX1_leftAtWorst_13 : zat mX1_leftAtWorst 13 1 14 (.iconst 0) := ⟨by decide +kernel, rfl⟩
theorem iX1_leftAtWorst_14 : zat mX1_leftAtWorst 14 1 15 (.iastore) := ⟨by decide +kernel, rfl⟩
theorem iX1_leftAtWorst_15 : zat mX1_leftAtWorst 15 3 18 (.iinc 3 1) := ⟨by decide +kernel, rfl⟩
theorem iX1_leftAtWorst_18 : zbr mX1_leftAtWorst 18 21 2 (.goto) := ⟨-16, by decide +kernel, rfl, rfl⟩
theorem iX1_leftAtWorst_21 : zat mX1_leftAtWorst 21 1 22 (.iconst 0) := ⟨by decide +kernel, rfl⟩
theorem iX1_leftAtWorst_22 : zat mX1_leftAtWorst 22 1 23 (.istore_n 3) := ⟨by decide +kernel, rfl⟩
theorem iX1_leftAtWorst_23 : zat mX1_leftAtWorst 23 1 24 (.iconst 0) := ⟨by decide +kernel, rfl⟩
theorem iX1_leftAtWorst_24 : zat mX1_leftAtWorst 24 2 26 (.istore 4) := ⟨by decide +kernel, rfl⟩
theorem iX1_leftAtWorst_26 : zat mX1_leftAtWorst 26 2 28 (.iload 4) := ⟨by decide +kernel, rfl⟩
theorem iX1_leftAtWorst_28 : zat mX1_leftAtWorst 28 2 30 (.bipush 10) := ⟨by decide +kernel, rfl⟩
theorem iX1_leftAtWorst_30 : zbr mX1_leftAtWorst 30 33 88 (.if_icmp .ge) := ⟨58, by decide +kernel, rfl, rfl⟩
theorem iX1_leftAtWorst_33 : zat mX1_leftAtWorst 33 1 34 (.iload_n 1) := ⟨by decide +kernel, rfl⟩
theorem iX1_leftAtWorst_34 : zat mX1_leftAtWorst 34 2 36 (.iload 4) := ⟨by decide +kernel, rfl⟩
theorem iX1_leftAtWorst_36 : zat mX1_leftAtWorst 36 1 37 (.ishr) := ⟨by decide +kernel, rfl⟩
theorem iX1_leftAtWorst_37 : zat mX1_leftAtWorst 37 1 38 (.iconst 1) := ⟨by decide +kernel, rfl⟩
theorem iX1_leftAtWorst_38 : zat mX1_leftAtWorst 38 1 39 (.iand) := ⟨by decide +kernel, rfl⟩
theorem iX1_leftAtWorst_39 : zat mX1_leftAtWorst 39 1 40 (.iconst 1) := ⟨by decide +kernel, rfl⟩
theorem iX1_leftAtWorst_40 : zbr mX1_leftAtWorst 40 43 82 (.if_icmp .ne) := ⟨42, by decide +kernel, rfl, rfl⟩
theorem iX1_leftAtWorst_43 : zat mX1_leftAtWorst 43 1 44 (.aload_n 0) := ⟨by decide +kernel, rfl⟩
theorem iX1_leftAtWorst_44 : zat mX1_leftAtWorst 44 3 47 (.getfield 18) := ⟨by decide +kernel, rfl⟩
theorem iX1_leftAtWorst_47 : zat mX1_leftAtWorst 47 2 49 (.iload 4) := ⟨by decide +kernel, rfl⟩
theorem iX1_leftAtWorst_49 : zat mX1_leftAtWorst 49 2 51 (.bipush 9) := ⟨by decide +kernel, rfl⟩
theorem iX1_leftAtWorst_51 : zat mX1_leftAtWorst 51 1 52 (.imul) := ⟨by decide +kernel, rfl⟩
theorem iX1_leftAtWorst_52 : zat mX1_leftAtWorst 52 1 53 (.iload_n 2) := ⟨by decide +kernel, rfl⟩
theorem iX1_leftAtWorst_53 : zat mX1_leftAtWorst 53 1 54 (.iadd) := ⟨by decide +kernel, rfl⟩
theorem iX1_leftAtWorst_54 : zat mX1_leftAtWorst 54 1 55 (.iconst 1) := ⟨by decide +kernel, rfl⟩
theorem iX1_leftAtWorst_55 : zat mX1_leftAtWorst 55 1 56 (.isub) := ⟨by decide +kernel, rfl⟩
theorem iX1_leftAtWorst_56 : zat mX1_leftAtWorst 56 1 57 (.iaload) := ⟨by decide +kernel, rfl⟩
theorem iX1_leftAtWorst_57 : zat mX1_leftAtWorst 57 2 59 (.istore 5) := ⟨by decide +kernel, rfl⟩
theorem iX1_leftAtWorst_59 : zat mX1_leftAtWorst 59 1 60 (.aload_n 0) := ⟨by decide +kernel, rfl⟩
theorem iX1_leftAtWorst_60 : zat mX1_leftAtWorst 60 3 63 (.getfield 22) := ⟨by decide +kernel, rfl⟩
theorem iX1_leftAtWorst_63 : zat mX1_leftAtWorst 63 2 65 (.iload 5) := ⟨by decide +kernel, rfl⟩
theorem iX1_leftAtWorst_65 : zat mX1_leftAtWorst 65 1 66 (.dup2) := ⟨by decide +kernel, rfl⟩
theorem iX1_leftAtWorst_66 : zat mX1_leftAtWorst 66 1 67 (.iaload) := ⟨by decide +kernel, rfl⟩
theorem iX1_leftAtWorst_67 : zat mX1_leftAtWorst 67 1 68 (.iconst 1) := ⟨by decide +kernel, rfl⟩
theorem iX1_leftAtWorst_68 : zat mX1_leftAtWorst 68 1 69 (.iadd) := ⟨by decide +kernel, rfl⟩
theorem iX1_leftAtWorst_69 : zat mX1_leftAtWorst 69 1 70 (.iastore) := ⟨by decide +kernel, rfl⟩
theorem iX1_leftAtWorst_70 : zat mX1_leftAtWorst 70 1 71 (.iload_n 3) := ⟨by decide +kernel, rfl⟩
theorem iX1_leftAtWorst_71 : zat mX1_leftAtWorst 71 1 72 (.aload_n 0) := ⟨by decide +kernel, rfl⟩
theorem iX1_leftAtWorst_72 : zat mX1_leftAtWorst 72 3 75 (.getfield 22) := ⟨by decide +kernel, rfl⟩
theorem iX1_leftAtWorst_75 : zat mX1_leftAtWorst 75 2 77 (.iload 5) := ⟨by decide +kernel, rfl⟩
theorem iX1_leftAtWorst_77 : zat mX1_leftAtWorst 77 1 78 (.iaload) := ⟨by decide +kernel, rfl⟩
theorem iX1_leftAtWorst_78 : zat mX1_leftAtWorst 78 3 81 (.invokestatic 79) := ⟨by decide +kernel, rfl⟩
theorem iX1_leftAtWorst_81 : zat mX1_leftAtWorst 81 1 82 (.istore_n 3) := ⟨by decide +kernel, rfl⟩
theorem iX1_leftAtWorst_82 : zat mX1_leftAtWorst 82 3 85 (.iinc 4 1) := ⟨by decide +kernel, rfl⟩
theorem iX1_leftAtWorst_85 : zbr mX1_leftAtWorst 85 88 26 (.goto) := ⟨-59, by decide +kernel, rfl, rfl⟩
theorem iX1_leftAtWorst_88 : zat mX1_leftAtWorst 88 1 89 (.iload_n 3) := ⟨by decide +kernel, rfl⟩
theorem iX1_leftAtWorst_89 : zat mX1_leftAtWorst 89 1 90 (.ireturn) := ⟨by decide +kernel, rfl⟩
theorem iX2_init_0 : zat mX2_init 0 1 1 (.aload_n 0) := ⟨by decide +kernel, rfl⟩
theorem iX2_init_1 : zat mX2_init 1 3 4 (.invokespecial 3) := ⟨by decide +kernel, rfl⟩
theorem iX2_init_4 : zat mX2_init 4 1 5 (.aload_n 0) := ⟨by decide +kernel, rfl⟩
theorem iX2_init_5 : zat mX2_init 5 3 8 (.new 9) := ⟨by decide +kernel, rfl⟩
theorem iX2_init_8 : zat mX2_init 8 1 9 (.dup) := ⟨by decide +kernel, rfl⟩
theorem iX2_init_9 : zat mX2_init 9 3 12 (.invokespecial 11) := ⟨by decide +kernel, rfl⟩
theorem iX2_init_12 : zat mX2_init 12 3 15 (.putfield 12) := ⟨by decide +kernel, rfl⟩
theorem iX2_init_15 : zat mX2_init 15 1 16 (.return_) := ⟨by decide +kernel, rfl⟩
theorem iX2_daysItLasts_0 : zat mX2_daysItLasts 0 1 1 (.aload_n 0) := ⟨by decide +kernel, rfl⟩
theorem iX2_daysItLasts_1 : zat mX2_daysItLasts 1 3 4 (.getfield 12) := ⟨by decide +kernel, rfl⟩
theorem iX2_daysItLasts_4 : zat mX2_daysItLasts 4 1 5 (.aload_n 1) := ⟨by decide +kernel, rfl⟩
theorem iX2_daysItLasts_5 : zat mX2_daysItLasts 5 3 8 (.invokevirtual 18) := ⟨by decide +kernel, rfl⟩
theorem iX2_daysItLasts_8 : zat mX2_daysItLasts 8 1 9 (.iconst 0) := ⟨by decide +kernel, rfl⟩
theorem iX2_daysItLasts_9 : zat mX2_daysItLasts 9 1 10 (.istore_n 3) := ⟨by decide +kernel, rfl⟩
theorem iX2_daysItLasts_10 : zat mX2_daysItLasts 10 1 11 (.iload_n 3) := ⟨by decide +kernel, rfl⟩
theorem iX2_daysItLasts_11 : zat mX2_daysItLasts 11 2 13 (.bipush 100) := ⟨by decide +kernel, rfl⟩
theorem iX2_daysItLasts_13 : zbr mX2_daysItLasts 13 16 40 (.if_icmp .ge) := ⟨27, by decide +kernel, rfl, rfl⟩
theorem iX2_daysItLasts_16 : zat mX2_daysItLasts 16 1 17 (.aload_n 0) := ⟨by decide +kernel, rfl⟩
theorem iX2_daysItLasts_17 : zat mX2_daysItLasts 17 1 18 (.iload_n 2) := ⟨by decide +kernel, rfl⟩
theorem iX2_daysItLasts_18 : zat mX2_daysItLasts 18 3 21 (.invokevirtual 22) := ⟨by decide +kernel, rfl⟩
theorem iX2_daysItLasts_21 : zbr mX2_daysItLasts 21 24 26 (.ifCond .ne) := ⟨5, by decide +kernel, rfl, rfl⟩
theorem iX2_daysItLasts_24 : zat mX2_daysItLasts 24 1 25 (.iload_n 3) := ⟨by decide +kernel, rfl⟩
theorem iX2_daysItLasts_25 : zat mX2_daysItLasts 25 1 26 (.ireturn) := ⟨by decide +kernel, rfl⟩
theorem iX2_daysItLasts_26 : zat mX2_daysItLasts 26 1 27 (.aload_n 0) := ⟨by decide +kernel, rfl⟩
theorem iX2_daysItLasts_27 : zat mX2_daysItLasts 27 3 30 (.getfield 12) := ⟨by decide +kernel, rfl⟩
theorem iX2_daysItLasts_30 : zat mX2_daysItLasts 30 3 33 (.invokevirtual 26) := ⟨by decide +kernel, rfl⟩
theorem iX2_daysItLasts_33 : zat mX2_daysItLasts 33 1 34 (.pop) := ⟨by decide +kernel, rfl⟩
theorem iX2_daysItLasts_34 : zat mX2_daysItLasts 34 3 37 (.iinc 3 1) := ⟨by decide +kernel, rfl⟩
theorem iX2_daysItLasts_37 : zbr mX2_daysItLasts 37 40 10 (.goto) := ⟨-27, by decide +kernel, rfl, rfl⟩
theorem iX2_daysItLasts_40 : zat mX2_daysItLasts 40 2 42 (.bipush 100) := ⟨by decide +kernel, rfl⟩
theorem iX2_daysItLasts_42 : zat mX2_daysItLasts 42 1 43 (.ireturn) := ⟨by decide +kernel, rfl⟩
theorem iX2_isFed_0 : zat mX2_isFed 0 1 1 (.iconst 0) := ⟨by decide +kernel, rfl⟩
theorem iX2_isFed_1 : zat mX2_isFed 1 1 2 (.istore_n 2) := ⟨by decide +kernel, rfl⟩
theorem iX2_isFed_2 : zat mX2_isFed 2 1 3 (.iconst 0) := ⟨by decide +kernel, rfl⟩
theorem iX2_isFed_3 : zat mX2_isFed 3 1 4 (.istore_n 3) := ⟨by decide +kernel, rfl⟩
theorem iX2_isFed_4 : zat mX2_isFed 4 1 5 (.iload_n 3) := ⟨by decide +kernel, rfl⟩
theorem iX2_isFed_5 : zat mX2_isFed 5 2 7 (.bipush 81) := ⟨by decide +kernel, rfl⟩
theorem iX2_isFed_7 : zbr mX2_isFed 7 10 51 (.if_icmp .ge) := ⟨44, by decide +kernel, rfl, rfl⟩
theorem iX2_isFed_10 : zat mX2_isFed 10 1 11 (.iload_n 2) := ⟨by decide +kernel, rfl⟩
theorem iX2_isFed_11 : zat mX2_isFed 11 1 12 (.iload_n 1) := ⟨by decide +kernel, rfl⟩
theorem iX2_isFed_12 : zbr mX2_isFed 12 15 51 (.if_icmp .ge) := ⟨39, by decide +kernel, rfl, rfl⟩
theorem iX2_isFed_15 : zat mX2_isFed 15 1 16 (.aload_n 0) := ⟨by decide +kernel, rfl⟩
theorem iX2_isFed_16 : zat mX2_isFed 16 3 19 (.getfield 12) := ⟨by decide +kernel, rfl⟩
theorem iX2_isFed_19 : zat mX2_isFed 19 3 22 (.invokevirtual 30) := ⟨by decide +kernel, rfl⟩
theorem iX2_isFed_22 : zat mX2_isFed 22 2 24 (.istore 4) := ⟨by decide +kernel, rfl⟩
theorem iX2_isFed_24 : zat mX2_isFed 24 2 26 (.iload 4) := ⟨by decide +kernel, rfl⟩
theorem iX2_isFed_26 : zat mX2_isFed 26 1 27 (.iconst (-1)) := ⟨by decide +kernel, rfl⟩
theorem iX2_isFed_27 : zbr mX2_isFed 27 30 32 (.if_icmp .ne) := ⟨5, by decide +kernel, rfl, rfl⟩
theorem iX2_isFed_30 : zat mX2_isFed 30 1 31 (.iconst 0) := ⟨by decide +kernel, rfl⟩
theorem iX2_isFed_31 : zat mX2_isFed 31 1 32 (.ireturn) := ⟨by decide +kernel, rfl⟩
theorem iX2_isFed_32 : zat mX2_isFed 32 1 33 (.iload_n 2) := ⟨by decide +kernel, rfl⟩
theorem iX2_isFed_33 : zat mX2_isFed 33 1 34 (.aload_n 0) := ⟨by decide +kernel, rfl⟩
theorem iX2_isFed_34 : zat mX2_isFed 34 3 37 (.getfield 12) := ⟨by decide +kernel, rfl⟩
theorem iX2_isFed_37 : zat mX2_isFed 37 2 39 (.iload 4) := ⟨by decide +kernel, rfl⟩
theorem iX2_isFed_39 : zat mX2_isFed 39 1 40 (.iconst 1) := ⟨by decide +kernel, rfl⟩
theorem iX2_isFed_40 : zat mX2_isFed 40 3 43 (.invokevirtual 33) := ⟨by decide +kernel, rfl⟩
theorem iX2_isFed_43 : zat mX2_isFed 43 1 44 (.iadd) := ⟨by decide +kernel, rfl⟩
theorem iX2_isFed_44 : zat mX2_isFed 44 1 45 (.istore_n 2) := ⟨by decide +kernel, rfl⟩
theorem iX2_isFed_45 : zat mX2_isFed 45 3 48 (.iinc 3 1) := ⟨by decide +kernel, rfl⟩
theorem iX2_isFed_48 : zbr mX2_isFed 48 51 4 (.goto) := ⟨-44, by decide +kernel, rfl, rfl⟩
theorem iX2_isFed_51 : zat mX2_isFed 51 1 52 (.iload_n 2) := ⟨by decide +kernel, rfl⟩
theorem iX2_isFed_52 : zat mX2_isFed 52 1 53 (.iload_n 1) := ⟨by decide +kernel, rfl⟩
theorem iX2_isFed_53 : zbr mX2_isFed 53 56 60 (.if_icmp .lt) := ⟨7, by decide +kernel, rfl, rfl⟩
theorem iX2_isFed_56 : zat mX2_isFed 56 1 57 (.iconst 1) := ⟨by decide +kernel, rfl⟩
theorem iX2_isFed_57 : zbr mX2_isFed 57 60 61 (.goto) := ⟨4, by decide +kernel, rfl, rfl⟩
theorem iX2_isFed_60 : zat mX2_isFed 60 1 61 (.iconst 0) := ⟨by decide +kernel, rfl⟩
theorem iX2_isFed_61 : zat mX2_isFed 61 1 62 (.ireturn) := ⟨by decide +kernel, rfl⟩
theorem iX2_makePlan_0 : zat mX2_makePlan 0 1 1 (.aload_n 0) := ⟨by decide +kernel, rfl⟩
theorem iX2_makePlan_1 : zat mX2_makePlan 1 1 2 (.iconst (-1)) := ⟨by decide +kernel, rfl⟩
theorem iX2_makePlan_2 : zat mX2_makePlan 2 3 5 (.putfield 37) := ⟨by decide +kernel, rfl⟩
theorem iX2_makePlan_5 : zat mX2_makePlan 5 1 6 (.aload_n 0) := ⟨by decide +kernel, rfl⟩
theorem iX2_makePlan_6 : zat mX2_makePlan 6 1 7 (.iconst 0) := ⟨by decide +kernel, rfl⟩
theorem iX2_makePlan_7 : zat mX2_makePlan 7 3 10 (.putfield 41) := ⟨by decide +kernel, rfl⟩
theorem iX2_makePlan_10 : zat mX2_makePlan 10 1 11 (.iconst 0) := ⟨by decide +kernel, rfl⟩
theorem iX2_makePlan_11 : zat mX2_makePlan 11 1 12 (.istore_n 3) := ⟨by decide +kernel, rfl⟩
theorem iX2_makePlan_12 : zat mX2_makePlan 12 1 13 (.iload_n 3) := ⟨by decide +kernel, rfl⟩
theorem iX2_makePlan_13 : zat mX2_makePlan 13 1 14 (.iconst 1) := ⟨by decide +kernel, rfl⟩
theorem iX2_makePlan_14 : zat mX2_makePlan 14 1 15 (.iconst 2) := ⟨by decide +kernel, rfl⟩
theorem iX2_makePlan_15 : zat mX2_makePlan 15 1 16 (.iload_n 2) := ⟨by decide +kernel, rfl⟩
theorem iX2_makePlan_16 : zat mX2_makePlan 16 1 17 (.imul) := ⟨by decide +kernel, rfl⟩
theorem iX2_makePlan_17 : zat mX2_makePlan 17 1 18 (.ishl) := ⟨by decide +kernel, rfl⟩
theorem iX2_makePlan_18 : zbr mX2_makePlan 18 21 56 (.if_icmp .ge) := ⟨38, by decide +kernel, rfl, rfl⟩
theorem iX2_makePlan_21 : zat mX2_makePlan 21 1 22 (.aload_n 0) := ⟨by decide +kernel, rfl⟩
theorem iX2_makePlan_22 : zat mX2_makePlan 22 1 23 (.aload_n 1) := ⟨by decide +kernel, rfl⟩
theorem iX2_makePlan_23 : zat mX2_makePlan 23 1 24 (.iload_n 2) := ⟨by decide +kernel, rfl⟩
theorem iX2_makePlan_24 : zat mX2_makePlan 24 1 25 (.iload_n 3) := ⟨by decide +kernel, rfl⟩
theorem iX2_makePlan_25 : zat mX2_makePlan 25 3 28 (.invokevirtual 44) := ⟨by decide +kernel, rfl⟩
theorem iX2_makePlan_28 : zat mX2_makePlan 28 2 30 (.istore 4) := ⟨by decide +kernel, rfl⟩
theorem iX2_makePlan_30 : zat mX2_makePlan 30 2 32 (.iload 4) := ⟨by decide +kernel, rfl⟩
theorem iX2_makePlan_32 : zat mX2_makePlan 32 1 33 (.aload_n 0) := ⟨by decide +kernel, rfl⟩
theorem iX2_makePlan_33 : zat mX2_makePlan 33 3 36 (.getfield 37) := ⟨by decide +kernel, rfl⟩
theorem iX2_makePlan_36 : zbr mX2_makePlan 36 39 50 (.if_icmp .le) := ⟨14, by decide +kernel, rfl, rfl⟩
theorem iX2_makePlan_39 : zat mX2_makePlan 39 1 40 (.aload_n 0) := ⟨by decide +kernel, rfl⟩
theorem iX2_makePlan_40 : zat mX2_makePlan 40 2 42 (.iload 4) := ⟨by decide +kernel, rfl⟩
theorem iX2_makePlan_42 : zat mX2_makePlan 42 3 45 (.putfield 37) := ⟨by decide +kernel, rfl⟩
theorem iX2_makePlan_45 : zat mX2_makePlan 45 1 46 (.aload_n 0) := ⟨by decide +kernel, rfl⟩
theorem iX2_makePlan_46 : zat mX2_makePlan 46 1 47 (.iload_n 3) := ⟨by decide +kernel, rfl⟩
theorem iX2_makePlan_47 : zat mX2_makePlan 47 3 50 (.putfield 41) := ⟨by decide +kernel, rfl⟩
theorem iX2_makePlan_50 : zat mX2_makePlan 50 3 53 (.iinc 3 1) := ⟨by decide +kernel, rfl⟩
theorem iX2_makePlan_53 : zbr mX2_makePlan 53 56 12 (.goto) := ⟨-41, by decide +kernel, rfl, rfl⟩
theorem iX2_makePlan_56 : zat mX2_makePlan 56 1 57 (.return_) := ⟨by decide +kernel, rfl⟩
theorem iX2_plannedBay_0 : zat mX2_plannedBay 0 1 1 (.iload_n 2) := ⟨by decide +kernel, rfl⟩
theorem iX2_plannedBay_1 : zat mX2_plannedBay 1 1 2 (.iload_n 1) := ⟨by decide +kernel, rfl⟩
theorem iX2_plannedBay_2 : zbr mX2_plannedBay 2 5 9 (.if_icmp .lt) := ⟨7, by decide +kernel, rfl, rfl⟩
theorem iX2_plannedBay_5 : zat mX2_plannedBay 5 1 6 (.iconst (-1)) := ⟨by decide +kernel, rfl⟩
theorem iX2_plannedBay_6 : zbr mX2_plannedBay 6 9 18 (.goto) := ⟨12, by decide +kernel, rfl, rfl⟩
theorem iX2_plannedBay_9 : zat mX2_plannedBay 9 1 10 (.aload_n 0) := ⟨by decide +kernel, rfl⟩
theorem iX2_plannedBay_10 : zat mX2_plannedBay 10 3 13 (.getfield 41) := ⟨by decide +kernel, rfl⟩
theorem iX2_plannedBay_13 : zat mX2_plannedBay 13 1 14 (.iload_n 1) := ⟨by decide +kernel, rfl⟩
theorem iX2_plannedBay_14 : zat mX2_plannedBay 14 1 15 (.iload_n 2) := ⟨by decide +kernel, rfl⟩
theorem iX2_plannedBay_15 : zat mX2_plannedBay 15 3 18 (.invokestatic 48) := ⟨by decide +kernel, rfl⟩
theorem iX2_plannedBay_18 : zat mX2_plannedBay 18 1 19 (.ireturn) := ⟨by decide +kernel, rfl⟩
theorem iX2_bayIn_0 : zat mX2_bayIn 0 1 1 (.iload_n 0) := ⟨by decide +kernel, rfl⟩
theorem iX2_bayIn_1 : zat mX2_bayIn 1 1 2 (.iconst 2) := ⟨by decide +kernel, rfl⟩
theorem iX2_bayIn_2 : zat mX2_bayIn 2 1 3 (.iload_n 1) := ⟨by decide +kernel, rfl⟩
theorem iX2_bayIn_3 : zat mX2_bayIn 3 1 4 (.iconst 1) := ⟨by decide +kernel, rfl⟩
theorem iX2_bayIn_4 : zat mX2_bayIn 4 1 5 (.isub) := ⟨by decide +kernel, rfl⟩
theorem iX2_bayIn_5 : zat mX2_bayIn 5 1 6 (.iload_n 2) := ⟨by decide +kernel, rfl⟩
theorem iX2_bayIn_6 : zat mX2_bayIn 6 1 7 (.isub) := ⟨by decide +kernel, rfl⟩
theorem iX2_bayIn_7 : zat mX2_bayIn 7 1 8 (.imul) := ⟨by decide +kernel, rfl⟩
theorem iX2_bayIn_8 : zat mX2_bayIn 8 1 9 (.ishr) := ⟨by decide +kernel, rfl⟩
theorem iX2_bayIn_9 : zat mX2_bayIn 9 1 10 (.iconst 3) := ⟨by decide +kernel, rfl⟩
theorem iX2_bayIn_10 : zat mX2_bayIn 10 1 11 (.iand) := ⟨by decide +kernel, rfl⟩
theorem iX2_bayIn_11 : zat mX2_bayIn 11 1 12 (.iconst 1) := ⟨by decide +kernel, rfl⟩
theorem iX2_bayIn_12 : zat mX2_bayIn 12 1 13 (.isub) := ⟨by decide +kernel, rfl⟩
theorem iX2_bayIn_13 : zat mX2_bayIn 13 1 14 (.ireturn) := ⟨by decide +kernel, rfl⟩
theorem iX2_worthOf_0 : zat mX2_worthOf 0 1 1 (.aload_n 0) := ⟨by decide +kernel, rfl⟩
theorem iX2_worthOf_1 : zat mX2_worthOf 1 3 4 (.getfield 12) := ⟨by decide +kernel, rfl⟩
theorem iX2_worthOf_4 : zat mX2_worthOf 4 1 5 (.aload_n 1) := ⟨by decide +kernel, rfl⟩
theorem iX2_worthOf_5 : zat mX2_worthOf 5 3 8 (.invokevirtual 18) := ⟨by decide +kernel, rfl⟩
theorem iX2_worthOf_8 : zat mX2_worthOf 8 1 9 (.iconst 0) := ⟨by decide +kernel, rfl⟩
theorem iX2_worthOf_9 : zat mX2_worthOf 9 2 11 (.istore 4) := ⟨by decide +kernel, rfl⟩
theorem iX2_worthOf_11 : zat mX2_worthOf 11 2 13 (.iload 4) := ⟨by decide +kernel, rfl⟩
theorem iX2_worthOf_13 : zat mX2_worthOf 13 1 14 (.iload_n 2) := ⟨by decide +kernel, rfl⟩
theorem iX2_worthOf_14 : zbr mX2_worthOf 14 17 105 (.if_icmp .ge) := ⟨91, by decide +kernel, rfl, rfl⟩
theorem iX2_worthOf_17 : zat mX2_worthOf 17 1 18 (.iload_n 3) := ⟨by decide +kernel, rfl⟩
theorem iX2_worthOf_18 : zat mX2_worthOf 18 1 19 (.iload_n 2) := ⟨by decide +kernel, rfl⟩
theorem iX2_worthOf_19 : zat mX2_worthOf 19 2 21 (.iload 4) := ⟨by decide +kernel, rfl⟩
theorem iX2_worthOf_21 : zat mX2_worthOf 21 3 24 (.invokestatic 48) := ⟨by decide +kernel, rfl⟩
theorem iX2_worthOf_24 : zat mX2_worthOf 24 2 26 (.istore 5) := ⟨by decide +kernel, rfl⟩
theorem iX2_worthOf_26 : zat mX2_worthOf 26 2 28 (.iload 5) := ⟨by decide +kernel, rfl⟩
theorem iX2_worthOf_28 : zat mX2_worthOf 28 1 29 (.aload_n 0) := ⟨by decide +kernel, rfl⟩
theorem iX2_worthOf_29 : zat mX2_worthOf 29 3 32 (.getfield 12) := ⟨by decide +kernel, rfl⟩
theorem iX2_worthOf_32 : zat mX2_worthOf 32 3 35 (.getfield 52) := ⟨by decide +kernel, rfl⟩
theorem iX2_worthOf_35 : zbr mX2_worthOf 35 38 40 (.if_icmp .lt) := ⟨5, by decide +kernel, rfl, rfl⟩
theorem iX2_worthOf_38 : zat mX2_worthOf 38 1 39 (.iconst (-1)) := ⟨by decide +kernel, rfl⟩
theorem iX2_worthOf_39 : zat mX2_worthOf 39 1 40 (.ireturn) := ⟨by decide +kernel, rfl⟩
theorem iX2_worthOf_40 : zat mX2_worthOf 40 2 42 (.iload 5) := ⟨by decide +kernel, rfl⟩
theorem iX2_worthOf_42 : zat mX2_worthOf 42 1 43 (.iconst (-1)) := ⟨by decide +kernel, rfl⟩
theorem iX2_worthOf_43 : zbr mX2_worthOf 43 46 59 (.if_icmp .ne) := ⟨16, by decide +kernel, rfl, rfl⟩
theorem iX2_worthOf_46 : zat mX2_worthOf 46 1 47 (.aload_n 0) := ⟨by decide +kernel, rfl⟩
theorem iX2_worthOf_47 : zat mX2_worthOf 47 3 50 (.getfield 12) := ⟨by decide +kernel, rfl⟩
theorem iX2_worthOf_50 : zat mX2_worthOf 50 3 53 (.invokevirtual 55) := ⟨by decide +kernel, rfl⟩
theorem iX2_worthOf_53 : zbr mX2_worthOf 53 56 74 (.ifCond .le) := ⟨21, by decide +kernel, rfl, rfl⟩
theorem iX2_worthOf_56 : zbr mX2_worthOf 56 59 72 (.goto) := ⟨16, by decide +kernel, rfl, rfl⟩
theorem iX2_worthOf_59 : zat mX2_worthOf 59 1 60 (.aload_n 0) := ⟨by decide +kernel, rfl⟩
theorem iX2_worthOf_60 : zat mX2_worthOf 60 3 63 (.getfield 12) := ⟨by decide +kernel, rfl⟩
theorem iX2_worthOf_63 : zat mX2_worthOf 63 3 66 (.getfield 58) := ⟨by decide +kernel, rfl⟩
theorem iX2_worthOf_66 : zat mX2_worthOf 66 2 68 (.iload 5) := ⟨by decide +kernel, rfl⟩
theorem iX2_worthOf_68 : zat mX2_worthOf 68 1 69 (.iaload) := ⟨by decide +kernel, rfl⟩
theorem iX2_worthOf_69 : zbr mX2_worthOf 69 72 74 (.ifCond .ne) := ⟨5, by decide +kernel, rfl, rfl⟩
theorem iX2_worthOf_72 : zat mX2_worthOf 72 1 73 (.iconst (-1)) := ⟨by decide +kernel, rfl⟩
theorem iX2_worthOf_73 : zat mX2_worthOf 73 1 74 (.ireturn) := ⟨by decide +kernel, rfl⟩
theorem iX2_worthOf_74 : zat mX2_worthOf 74 2 76 (.iload 5) := ⟨by decide +kernel, rfl⟩
theorem iX2_worthOf_76 : zat mX2_worthOf 76 1 77 (.iconst (-1)) := ⟨by decide +kernel, rfl⟩
theorem iX2_worthOf_77 : zbr mX2_worthOf 77 80 91 (.if_icmp .eq) := ⟨14, by decide +kernel, rfl, rfl⟩
theorem iX2_worthOf_80 : zat mX2_worthOf 80 1 81 (.aload_n 0) := ⟨by decide +kernel, rfl⟩
theorem iX2_worthOf_81 : zat mX2_worthOf 81 3 84 (.getfield 12) := ⟨by decide +kernel, rfl⟩
theorem iX2_worthOf_84 : zat mX2_worthOf 84 2 86 (.iload 5) := ⟨by decide +kernel, rfl⟩
theorem iX2_worthOf_86 : zat mX2_worthOf 86 1 87 (.iconst 3) := ⟨by decide +kernel, rfl⟩
theorem iX2_worthOf_87 : zat mX2_worthOf 87 3 90 (.invokevirtual 33) := ⟨by decide +kernel, rfl⟩
theorem iX2_worthOf_90 : zat mX2_worthOf 90 1 91 (.pop) := ⟨by decide +kernel, rfl⟩
theorem iX2_worthOf_91 : zat mX2_worthOf 91 1 92 (.aload_n 0) := ⟨by decide +kernel, rfl⟩
theorem iX2_worthOf_92 : zat mX2_worthOf 92 3 95 (.getfield 12) := ⟨by decide +kernel, rfl⟩
theorem iX2_worthOf_95 : zat mX2_worthOf 95 3 98 (.invokevirtual 26) := ⟨by decide +kernel, rfl⟩
theorem iX2_worthOf_98 : zat mX2_worthOf 98 1 99 (.pop) := ⟨by decide +kernel, rfl⟩
theorem iX2_worthOf_99 : zat mX2_worthOf 99 3 102 (.iinc 4 1) := ⟨by decide +kernel, rfl⟩
theorem iX2_worthOf_102 : zbr mX2_worthOf 102 105 11 (.goto) := ⟨-91, by decide +kernel, rfl, rfl⟩
theorem iX2_worthOf_105 : zat mX2_worthOf 105 1 106 (.aload_n 0) := ⟨by decide +kernel, rfl⟩
theorem iX2_worthOf_106 : zat mX2_worthOf 106 3 109 (.getfield 12) := ⟨by decide +kernel, rfl⟩
theorem iX2_worthOf_109 : zat mX2_worthOf 109 3 112 (.getfield 62) := ⟨by decide +kernel, rfl⟩
theorem iX2_worthOf_112 : zat mX2_worthOf 112 1 113 (.aload_n 1) := ⟨by decide +kernel, rfl⟩
theorem iX2_worthOf_113 : zat mX2_worthOf 113 3 116 (.getfield 62) := ⟨by decide +kernel, rfl⟩
theorem iX2_worthOf_116 : zat mX2_worthOf 116 1 117 (.isub) := ⟨by decide +kernel, rfl⟩
theorem iX2_worthOf_117 : zat mX2_worthOf 117 1 118 (.aload_n 0) := ⟨by decide +kernel, rfl⟩
theorem iX2_worthOf_118 : zat mX2_worthOf 118 3 121 (.getfield 12) := ⟨by decide +kernel, rfl⟩
theorem iX2_worthOf_121 : zat mX2_worthOf 121 3 124 (.invokevirtual 65) := ⟨by decide +kernel, rfl⟩
theorem iX2_worthOf_124 : zat mX2_worthOf 124 1 125 (.iadd) := ⟨by decide +kernel, rfl⟩
theorem iX2_worthOf_125 : zat mX2_worthOf 125 1 126 (.ireturn) := ⟨by decide +kernel, rfl⟩
theorem iX2_safe_0 : zat mX2_safe 0 1 1 (.iconst 0) := ⟨by decide +kernel, rfl⟩
theorem iX2_safe_1 : zat mX2_safe 1 1 2 (.istore_n 3) := ⟨by decide +kernel, rfl⟩
theorem iX2_safe_2 : zat mX2_safe 2 2 4 (.bipush 28) := ⟨by decide +kernel, rfl⟩
theorem iX2_safe_4 : zat mX2_safe 4 2 6 (.istore 4) := ⟨by decide +kernel, rfl⟩
theorem iX2_safe_6 : zat mX2_safe 6 1 7 (.iconst 0) := ⟨by decide +kernel, rfl⟩
theorem iX2_safe_7 : zat mX2_safe 7 2 9 (.istore 5) := ⟨by decide +kernel, rfl⟩
theorem iX2_safe_9 : zat mX2_safe 9 2 11 (.iload 5) := ⟨by decide +kernel, rfl⟩
theorem iX2_safe_11 : zat mX2_safe 11 1 12 (.iconst 1) := ⟨by decide +kernel, rfl⟩
theorem iX2_safe_12 : zat mX2_safe 12 1 13 (.aload_n 1) := ⟨by decide +kernel, rfl⟩
theorem iX2_safe_13 : zat mX2_safe 13 3 16 (.getfield 58) := ⟨by decide +kernel, rfl⟩
theorem iX2_safe_16 : zat mX2_safe 16 1 17 (.iload_n 2) := ⟨by decide +kernel, rfl⟩
theorem iX2_safe_17 : zat mX2_safe 17 1 18 (.iaload) := ⟨by decide +kernel, rfl⟩
theorem iX2_safe_18 : zat mX2_safe 18 1 19 (.ishl) := ⟨by decide +kernel, rfl⟩
theorem iX2_safe_19 : zbr mX2_safe 19 22 62 (.if_icmp .ge) := ⟨43, by decide +kernel, rfl, rfl⟩
theorem iX2_safe_22 : zat mX2_safe 22 1 23 (.aload_n 1) := ⟨by decide +kernel, rfl⟩
theorem iX2_safe_23 : zat mX2_safe 23 1 24 (.iload_n 2) := ⟨by decide +kernel, rfl⟩
theorem iX2_safe_24 : zat mX2_safe 24 2 26 (.iload 5) := ⟨by decide +kernel, rfl⟩
theorem iX2_safe_26 : zat mX2_safe 26 3 29 (.invokevirtual 68) := ⟨by decide +kernel, rfl⟩
theorem iX2_safe_29 : zat mX2_safe 29 2 31 (.istore 6) := ⟨by decide +kernel, rfl⟩
theorem iX2_safe_31 : zat mX2_safe 31 2 33 (.iload 6) := ⟨by decide +kernel, rfl⟩
theorem iX2_safe_33 : zat mX2_safe 33 2 35 (.iload 4) := ⟨by decide +kernel, rfl⟩
theorem iX2_safe_35 : zbr mX2_safe 35 38 56 (.if_icmp .ge) := ⟨21, by decide +kernel, rfl, rfl⟩
theorem iX2_safe_38 : zat mX2_safe 38 1 39 (.aload_n 0) := ⟨by decide +kernel, rfl⟩
theorem iX2_safe_39 : zat mX2_safe 39 1 40 (.aload_n 1) := ⟨by decide +kernel, rfl⟩
theorem iX2_safe_40 : zat mX2_safe 40 1 41 (.iload_n 2) := ⟨by decide +kernel, rfl⟩
theorem iX2_safe_41 : zat mX2_safe 41 2 43 (.iload 5) := ⟨by decide +kernel, rfl⟩
theorem iX2_safe_43 : zat mX2_safe 43 3 46 (.invokevirtual 71) := ⟨by decide +kernel, rfl⟩
theorem iX2_safe_46 : zbr mX2_safe 46 49 56 (.ifCond .eq) := ⟨10, by decide +kernel, rfl, rfl⟩
theorem iX2_safe_49 : zat mX2_safe 49 2 51 (.iload 6) := ⟨by decide +kernel, rfl⟩
theorem iX2_safe_51 : zat mX2_safe 51 2 53 (.istore 4) := ⟨by decide +kernel, rfl⟩
theorem iX2_safe_53 : zat mX2_safe 53 2 55 (.iload 5) := ⟨by decide +kernel, rfl⟩
theorem iX2_safe_55 : zat mX2_safe 55 1 56 (.istore_n 3) := ⟨by decide +kernel, rfl⟩
theorem iX2_safe_56 : zat mX2_safe 56 3 59 (.iinc 5 1) := ⟨by decide +kernel, rfl⟩
theorem iX2_safe_59 : zbr mX2_safe 59 62 9 (.goto) := ⟨-50, by decide +kernel, rfl, rfl⟩
theorem iX2_safe_62 : zat mX2_safe 62 1 63 (.iload_n 3) := ⟨by decide +kernel, rfl⟩
theorem iX2_safe_63 : zat mX2_safe 63 1 64 (.ireturn) := ⟨by decide +kernel, rfl⟩
theorem iX2_isSafeWithout_0 : zat mX2_isSafeWithout 0 1 1 (.aload_n 0) := ⟨by decide +kernel, rfl⟩
theorem iX2_isSafeWithout_1 : zat mX2_isSafeWithout 1 3 4 (.getfield 12) := ⟨by decide +kernel, rfl⟩
theorem iX2_isSafeWithout_4 : zat mX2_isSafeWithout 4 1 5 (.aload_n 1) := ⟨by decide +kernel, rfl⟩
theorem iX2_isSafeWithout_5 : zat mX2_isSafeWithout 5 3 8 (.invokevirtual 18) := ⟨by decide +kernel, rfl⟩
theorem iX2_isSafeWithout_8 : zat mX2_isSafeWithout 8 1 9 (.aload_n 0) := ⟨by decide +kernel, rfl⟩
theorem iX2_isSafeWithout_9 : zat mX2_isSafeWithout 9 3 12 (.getfield 12) := ⟨by decide +kernel, rfl⟩
theorem iX2_isSafeWithout_12 : zat mX2_isSafeWithout 12 1 13 (.iload_n 2) := ⟨by decide +kernel, rfl⟩
theorem iX2_isSafeWithout_13 : zat mX2_isSafeWithout 13 1 14 (.iload_n 3) := ⟨by decide +kernel, rfl⟩
theorem iX2_isSafeWithout_14 : zat mX2_isSafeWithout 14 3 17 (.invokevirtual 75) := ⟨by decide +kernel, rfl⟩
theorem iX2_isSafeWithout_17 : zat mX2_isSafeWithout 17 1 18 (.iconst 0) := ⟨by decide +kernel, rfl⟩
theorem iX2_isSafeWithout_18 : zat mX2_isSafeWithout 18 2 20 (.istore 4) := ⟨by decide +kernel, rfl⟩
theorem iX2_isSafeWithout_20 : zat mX2_isSafeWithout 20 2 22 (.iload 4) := ⟨by decide +kernel, rfl⟩
theorem iX2_isSafeWithout_22 : zat mX2_isSafeWithout 22 2 24 (.bipush 10) := ⟨by decide +kernel, rfl⟩
theorem iX2_isSafeWithout_24 : zbr mX2_isSafeWithout 24 27 62 (.if_icmp .ge) := ⟨38, by decide +kernel, rfl, rfl⟩
theorem iX2_isSafeWithout_27 : zat mX2_isSafeWithout 27 1 28 (.aload_n 0) := ⟨by decide +kernel, rfl⟩
theorem iX2_isSafeWithout_28 : zat mX2_isSafeWithout 28 3 31 (.getfield 12) := ⟨by decide +kernel, rfl⟩
theorem iX2_isSafeWithout_31 : zat mX2_isSafeWithout 31 1 32 (.iload_n 2) := ⟨by decide +kernel, rfl⟩
theorem iX2_isSafeWithout_32 : zat mX2_isSafeWithout 32 3 35 (.invokevirtual 79) := ⟨by decide +kernel, rfl⟩
theorem iX2_isSafeWithout_35 : zat mX2_isSafeWithout 35 1 36 (.aload_n 0) := ⟨by decide +kernel, rfl⟩
theorem iX2_isSafeWithout_36 : zat mX2_isSafeWithout 36 3 39 (.getfield 12) := ⟨by decide +kernel, rfl⟩
theorem iX2_isSafeWithout_39 : zat mX2_isSafeWithout 39 1 40 (.iload_n 2) := ⟨by decide +kernel, rfl⟩
theorem iX2_isSafeWithout_40 : zat mX2_isSafeWithout 40 3 43 (.invokevirtual 83) := ⟨by decide +kernel, rfl⟩
theorem iX2_isSafeWithout_43 : zbr mX2_isSafeWithout 43 46 48 (.ifCond .le) := ⟨5, by decide +kernel, rfl, rfl⟩
theorem iX2_isSafeWithout_46 : zat mX2_isSafeWithout 46 1 47 (.iconst 0) := ⟨by decide +kernel, rfl⟩
theorem iX2_isSafeWithout_47 : zat mX2_isSafeWithout 47 1 48 (.ireturn) := ⟨by decide +kernel, rfl⟩
theorem iX2_isSafeWithout_48 : zat mX2_isSafeWithout 48 1 49 (.aload_n 0) := ⟨by decide +kernel, rfl⟩
theorem iX2_isSafeWithout_49 : zat mX2_isSafeWithout 49 3 52 (.getfield 12) := ⟨by decide +kernel, rfl⟩
theorem iX2_isSafeWithout_52 : zat mX2_isSafeWithout 52 1 53 (.iload_n 2) := ⟨by decide +kernel, rfl⟩
theorem iX2_isSafeWithout_53 : zat mX2_isSafeWithout 53 3 56 (.invokevirtual 87) := ⟨by decide +kernel, rfl⟩
theorem iX2_isSafeWithout_56 : zat mX2_isSafeWithout 56 3 59 (.iinc 4 1) := ⟨by decide +kernel, rfl⟩
theorem iX2_isSafeWithout_59 : zbr mX2_isSafeWithout 59 62 20 (.goto) := ⟨-39, by decide +kernel, rfl, rfl⟩
theorem iX2_isSafeWithout_62 : zat mX2_isSafeWithout 62 1 63 (.iconst 1) := ⟨by decide +kernel, rfl⟩
theorem iX2_isSafeWithout_63 : zat mX2_isSafeWithout 63 1 64 (.ireturn) := ⟨by decide +kernel, rfl⟩
theorem iX2_goneBehind_0 : zat mX2_goneBehind 0 1 1 (.aload_n 0) := ⟨by decide +kernel, rfl⟩
theorem iX2_goneBehind_1 : zat mX2_goneBehind 1 3 4 (.getfield 12) := ⟨by decide +kernel, rfl⟩
theorem iX2_goneBehind_4 : zat mX2_goneBehind 4 1 5 (.aload_n 1) := ⟨by decide +kernel, rfl⟩
theorem iX2_goneBehind_5 : zat mX2_goneBehind 5 3 8 (.invokevirtual 18) := ⟨by decide +kernel, rfl⟩
theorem iX2_goneBehind_8 : zat mX2_goneBehind 8 1 9 (.iconst 0) := ⟨by decide +kernel, rfl⟩
theorem iX2_goneBehind_9 : zat mX2_goneBehind 9 1 10 (.istore_n 3) := ⟨by decide +kernel, rfl⟩
theorem iX2_goneBehind_10 : zat mX2_goneBehind 10 1 11 (.iload_n 3) := ⟨by decide +kernel, rfl⟩
theorem iX2_goneBehind_11 : zat mX2_goneBehind 11 1 12 (.iload_n 2) := ⟨by decide +kernel, rfl⟩
theorem iX2_goneBehind_12 : zbr mX2_goneBehind 12 15 29 (.if_icmp .ge) := ⟨17, by decide +kernel, rfl, rfl⟩
theorem iX2_goneBehind_15 : zat mX2_goneBehind 15 1 16 (.aload_n 0) := ⟨by decide +kernel, rfl⟩
theorem iX2_goneBehind_16 : zat mX2_goneBehind 16 3 19 (.getfield 12) := ⟨by decide +kernel, rfl⟩
theorem iX2_goneBehind_19 : zat mX2_goneBehind 19 3 22 (.invokevirtual 26) := ⟨by decide +kernel, rfl⟩
theorem iX2_goneBehind_22 : zat mX2_goneBehind 22 1 23 (.pop) := ⟨by decide +kernel, rfl⟩
theorem iX2_goneBehind_23 : zat mX2_goneBehind 23 3 26 (.iinc 3 1) := ⟨by decide +kernel, rfl⟩
theorem iX2_goneBehind_26 : zbr mX2_goneBehind 26 29 10 (.goto) := ⟨-16, by decide +kernel, rfl, rfl⟩
theorem iX2_goneBehind_29 : zat mX2_goneBehind 29 1 30 (.iconst 0) := ⟨by decide +kernel, rfl⟩
theorem iX2_goneBehind_30 : zat mX2_goneBehind 30 1 31 (.istore_n 3) := ⟨by decide +kernel, rfl⟩
theorem iX2_goneBehind_31 : zat mX2_goneBehind 31 1 32 (.iconst 0) := ⟨by decide +kernel, rfl⟩
theorem iX2_goneBehind_32 : zat mX2_goneBehind 32 2 34 (.istore 4) := ⟨by decide +kernel, rfl⟩
theorem iX2_goneBehind_34 : zat mX2_goneBehind 34 2 36 (.iload 4) := ⟨by decide +kernel, rfl⟩
theorem iX2_goneBehind_36 : zat mX2_goneBehind 36 1 37 (.aload_n 1) := ⟨by decide +kernel, rfl⟩
theorem iX2_goneBehind_37 : zat mX2_goneBehind 37 3 40 (.getfield 90) := ⟨by decide +kernel, rfl⟩
theorem iX2_goneBehind_40 : zbr mX2_goneBehind 40 43 77 (.if_icmp .ge) := ⟨37, by decide +kernel, rfl, rfl⟩
theorem iX2_goneBehind_43 : zat mX2_goneBehind 43 1 44 (.aload_n 0) := ⟨by decide +kernel, rfl⟩
theorem iX2_goneBehind_44 : zat mX2_goneBehind 44 3 47 (.getfield 12) := ⟨by decide +kernel, rfl⟩
theorem iX2_goneBehind_47 : zat mX2_goneBehind 47 2 49 (.iload 4) := ⟨by decide +kernel, rfl⟩
theorem iX2_goneBehind_49 : zat mX2_goneBehind 49 3 52 (.invokevirtual 93) := ⟨by decide +kernel, rfl⟩
theorem iX2_goneBehind_52 : zbr mX2_goneBehind 52 55 71 (.ifCond .eq) := ⟨19, by decide +kernel, rfl, rfl⟩
theorem iX2_goneBehind_55 : zat mX2_goneBehind 55 1 56 (.aload_n 1) := ⟨by decide +kernel, rfl⟩
theorem iX2_goneBehind_56 : zat mX2_goneBehind 56 2 58 (.iload 4) := ⟨by decide +kernel, rfl⟩
theorem iX2_goneBehind_58 : zat mX2_goneBehind 58 3 61 (.invokevirtual 93) := ⟨by decide +kernel, rfl⟩
theorem iX2_goneBehind_61 : zbr mX2_goneBehind 61 64 71 (.ifCond .ne) := ⟨10, by decide +kernel, rfl, rfl⟩
theorem iX2_goneBehind_64 : zat mX2_goneBehind 64 1 65 (.iload_n 3) := ⟨by decide +kernel, rfl⟩
theorem iX2_goneBehind_65 : zat mX2_goneBehind 65 1 66 (.iconst 1) := ⟨by decide +kernel, rfl⟩
theorem iX2_goneBehind_66 : zat mX2_goneBehind 66 2 68 (.iload 4) := ⟨by decide +kernel, rfl⟩
theorem iX2_goneBehind_68 : zat mX2_goneBehind 68 1 69 (.ishl) := ⟨by decide +kernel, rfl⟩
theorem iX2_goneBehind_69 : zat mX2_goneBehind 69 1 70 (.ior) := ⟨by decide +kernel, rfl⟩
theorem iX2_goneBehind_70 : zat mX2_goneBehind 70 1 71 (.istore_n 3) := ⟨by decide +kernel, rfl⟩
theorem iX2_goneBehind_71 : zat mX2_goneBehind 71 3 74 (.iinc 4 1) := ⟨by decide +kernel, rfl⟩
theorem iX2_goneBehind_74 : zbr mX2_goneBehind 74 77 34 (.goto) := ⟨-40, by decide +kernel, rfl, rfl⟩
theorem iX2_goneBehind_77 : zat mX2_goneBehind 77 1 78 (.iload_n 3) := ⟨by decide +kernel, rfl⟩
theorem iX2_goneBehind_78 : zat mX2_goneBehind 78 1 79 (.ireturn) := ⟨by decide +kernel, rfl⟩
theorem iX2_winter_0 : zat mX2_winter 0 1 1 (.aload_n 0) := ⟨by decide +kernel, rfl⟩
theorem iX2_winter_1 : zat mX2_winter 1 3 4 (.getfield 12) := ⟨by decide +kernel, rfl⟩
theorem iX2_winter_4 : zat mX2_winter 4 1 5 (.aload_n 1) := ⟨by decide +kernel, rfl⟩
theorem iX2_winter_5 : zat mX2_winter 5 3 8 (.invokevirtual 18) := ⟨by decide +kernel, rfl⟩
theorem iX2_winter_8 : zat mX2_winter 8 1 9 (.iload_n 3) := ⟨by decide +kernel, rfl⟩
theorem iX2_winter_9 : zat mX2_winter 9 1 10 (.i2l) := ⟨by decide +kernel, rfl⟩
theorem iX2_winter_10 : zat mX2_winter 10 2 12 (.lstore 5) := ⟨by decide +kernel, rfl⟩
theorem iX2_winter_12 : zat mX2_winter 12 1 13 (.iconst 0) := ⟨by decide +kernel, rfl⟩
theorem iX2_winter_13 : zat mX2_winter 13 2 15 (.istore 7) := ⟨by decide +kernel, rfl⟩
theorem iX2_winter_15 : zat mX2_winter 15 2 17 (.iload 7) := ⟨by decide +kernel, rfl⟩
theorem iX2_winter_17 : zat mX2_winter 17 1 18 (.iload_n 2) := ⟨by decide +kernel, rfl⟩
theorem iX2_winter_18 : zbr mX2_winter 18 21 81 (.if_icmp .ge) := ⟨63, by decide +kernel, rfl, rfl⟩
theorem iX2_winter_21 : zat mX2_winter 21 2 23 (.lload 5) := ⟨by decide +kernel, rfl⟩
theorem iX2_winter_23 : zat mX2_winter 23 3 26 (.invokestatic 96) := ⟨by decide +kernel, rfl⟩
theorem iX2_winter_26 : zat mX2_winter 26 2 28 (.lstore 5) := ⟨by decide +kernel, rfl⟩
theorem iX2_winter_28 : zat mX2_winter 28 1 29 (.iconst 1) := ⟨by decide +kernel, rfl⟩
theorem iX2_winter_29 : zat mX2_winter 29 2 31 (.lload 5) := ⟨by decide +kernel, rfl⟩
theorem iX2_winter_31 : zat mX2_winter 31 1 32 (.iconst 3) := ⟨by decide +kernel, rfl⟩
theorem iX2_winter_32 : zat mX2_winter 32 3 35 (.invokestatic 100) := ⟨by decide +kernel, rfl⟩
theorem iX2_winter_35 : zat mX2_winter 35 1 36 (.iadd) := ⟨by decide +kernel, rfl⟩
theorem iX2_winter_36 : zat mX2_winter 36 2 38 (.istore 8) := ⟨by decide +kernel, rfl⟩
theorem iX2_winter_38 : zat mX2_winter 38 2 40 (.lload 5) := ⟨by decide +kernel, rfl⟩
theorem iX2_winter_40 : zat mX2_winter 40 3 43 (.invokestatic 96) := ⟨by decide +kernel, rfl⟩
theorem iX2_winter_43 : zat mX2_winter 43 2 45 (.lstore 5) := ⟨by decide +kernel, rfl⟩
theorem iX2_winter_45 : zat mX2_winter 45 1 46 (.aload_n 0) := ⟨by decide +kernel, rfl⟩
theorem iX2_winter_46 : zat mX2_winter 46 3 49 (.getfield 12) := ⟨by decide +kernel, rfl⟩
theorem iX2_winter_49 : zat mX2_winter 49 2 51 (.lload 5) := ⟨by decide +kernel, rfl⟩
theorem iX2_winter_51 : zat mX2_winter 51 1 52 (.aload_n 0) := ⟨by decide +kernel, rfl⟩
theorem iX2_winter_52 : zat mX2_winter 52 3 55 (.getfield 12) := ⟨by decide +kernel, rfl⟩
theorem iX2_winter_55 : zat mX2_winter 55 3 58 (.getfield 52) := ⟨by decide +kernel, rfl⟩
theorem iX2_winter_58 : zat mX2_winter 58 3 61 (.invokestatic 100) := ⟨by decide +kernel, rfl⟩
theorem iX2_winter_61 : zat mX2_winter 61 2 63 (.iload 8) := ⟨by decide +kernel, rfl⟩
theorem iX2_winter_63 : zat mX2_winter 63 3 66 (.invokevirtual 33) := ⟨by decide +kernel, rfl⟩
theorem iX2_winter_66 : zat mX2_winter 66 1 67 (.pop) := ⟨by decide +kernel, rfl⟩
theorem iX2_winter_67 : zat mX2_winter 67 1 68 (.aload_n 0) := ⟨by decide +kernel, rfl⟩
theorem iX2_winter_68 : zat mX2_winter 68 3 71 (.getfield 12) := ⟨by decide +kernel, rfl⟩
theorem iX2_winter_71 : zat mX2_winter 71 3 74 (.invokevirtual 26) := ⟨by decide +kernel, rfl⟩
theorem iX2_winter_74 : zat mX2_winter 74 1 75 (.pop) := ⟨by decide +kernel, rfl⟩
theorem iX2_winter_75 : zat mX2_winter 75 3 78 (.iinc 7 1) := ⟨by decide +kernel, rfl⟩
theorem iX2_winter_78 : zbr mX2_winter 78 81 15 (.goto) := ⟨-63, by decide +kernel, rfl, rfl⟩
theorem iX2_winter_81 : zat mX2_winter 81 2 83 (.iload 4) := ⟨by decide +kernel, rfl⟩
theorem iX2_winter_83 : zat mX2_winter 83 25 108 (.lookupswitch 51 #[(0, 25), (1, 38)]) := ⟨by decide +kernel, rfl⟩
theorem iX2_winter_108 : zat mX2_winter 108 1 109 (.aload_n 0) := ⟨by decide +kernel, rfl⟩
theorem iX2_winter_109 : zat mX2_winter 109 3 112 (.getfield 12) := ⟨by decide +kernel, rfl⟩
theorem iX2_winter_112 : zat mX2_winter 112 3 115 (.getfield 62) := ⟨by decide +kernel, rfl⟩
theorem iX2_winter_115 : zat mX2_winter 115 1 116 (.aload_n 1) := ⟨by decide +kernel, rfl⟩
theorem iX2_winter_116 : zat mX2_winter 116 3 119 (.getfield 62) := ⟨by decide +kernel, rfl⟩
theorem iX2_winter_119 : zat mX2_winter 119 1 120 (.isub) := ⟨by decide +kernel, rfl⟩
theorem iX2_winter_120 : zat mX2_winter 120 1 121 (.ireturn) := ⟨by decide +kernel, rfl⟩
theorem iX2_winter_121 : zat mX2_winter 121 1 122 (.aload_n 0) := ⟨by decide +kernel, rfl⟩
theorem iX2_winter_122 : zat mX2_winter 122 3 125 (.getfield 12) := ⟨by decide +kernel, rfl⟩
theorem iX2_winter_125 : zat mX2_winter 125 3 128 (.getfield 104) := ⟨by decide +kernel, rfl⟩
theorem iX2_winter_128 : zat mX2_winter 128 1 129 (.aload_n 1) := ⟨by decide +kernel, rfl⟩
theorem iX2_winter_129 : zat mX2_winter 129 3 132 (.getfield 104) := ⟨by decide +kernel, rfl⟩
theorem iX2_winter_132 : zat mX2_winter 132 1 133 (.isub) := ⟨by decide +kernel, rfl⟩
theorem iX2_winter_133 : zat mX2_winter 133 1 134 (.ireturn) := ⟨by decide +kernel, rfl⟩
theorem iX2_winter_134 : zat mX2_winter 134 2 136 (.lload 5) := ⟨by decide +kernel, rfl⟩
theorem iX2_winter_136 : zat mX2_winter 136 1 137 (.l2i) := ⟨by decide +kernel, rfl⟩
theorem iX2_winter_137 : zat mX2_winter 137 1 138 (.ireturn) := ⟨by decide +kernel, rfl⟩
theorem iX2_seedBehind_0 : zat mX2_seedBehind 0 3 3 (.ldc2_w 107) := ⟨by decide +kernel, rfl⟩
theorem iX2_seedBehind_3 : zat mX2_seedBehind 3 1 4 (.lload_n 0) := ⟨by decide +kernel, rfl⟩
theorem iX2_seedBehind_4 : zat mX2_seedBehind 4 1 5 (.lmul) := ⟨by decide +kernel, rfl⟩
theorem iX2_seedBehind_5 : zat mX2_seedBehind 5 3 8 (.ldc2_w 109) := ⟨by decide +kernel, rfl⟩
theorem iX2_seedBehind_8 : zat mX2_seedBehind 8 1 9 (.ladd) := ⟨by decide +kernel, rfl⟩
theorem iX2_seedBehind_9 : zat mX2_seedBehind 9 3 12 (.ldc2_w 111) := ⟨by decide +kernel, rfl⟩
theorem iX2_seedBehind_12 : zat mX2_seedBehind 12 1 13 (.land) := ⟨by decide +kernel, rfl⟩
theorem iX2_seedBehind_13 : zat mX2_seedBehind 13 1 14 (.lreturn) := ⟨by decide +kernel, rfl⟩
theorem iX2_drawOf_0 : zat mX2_drawOf 0 1 1 (.iload_n 2) := ⟨by decide +kernel, rfl⟩
theorem iX2_drawOf_1 : zbr mX2_drawOf 1 4 8 (.ifCond .gt) := ⟨7, by decide +kernel, rfl, rfl⟩
theorem iX2_drawOf_4 : zat mX2_drawOf 4 1 5 (.iconst 0) := ⟨by decide +kernel, rfl⟩
theorem iX2_drawOf_5 : zbr mX2_drawOf 5 8 16 (.goto) := ⟨11, by decide +kernel, rfl, rfl⟩
theorem iX2_drawOf_8 : zat mX2_drawOf 8 1 9 (.lload_n 0) := ⟨by decide +kernel, rfl⟩
theorem iX2_drawOf_9 : zat mX2_drawOf 9 2 11 (.bipush 16) := ⟨by decide +kernel, rfl⟩
theorem iX2_drawOf_11 : zat mX2_drawOf 11 1 12 (.lshr) := ⟨by decide +kernel, rfl⟩
theorem iX2_drawOf_12 : zat mX2_drawOf 12 1 13 (.iload_n 2) := ⟨by decide +kernel, rfl⟩
theorem iX2_drawOf_13 : zat mX2_drawOf 13 1 14 (.i2l) := ⟨by decide +kernel, rfl⟩
theorem iX2_drawOf_14 : zat mX2_drawOf 14 1 15 (.lrem) := ⟨by decide +kernel, rfl⟩
theorem iX2_drawOf_15 : zat mX2_drawOf 15 1 16 (.l2i) := ⟨by decide +kernel, rfl⟩
theorem iX2_drawOf_16 : zat mX2_drawOf 16 1 17 (.ireturn) := ⟨by decide +kernel, rfl⟩
theorem iX3_ofLetter_0 : zat mX3_ofLetter 0 1 1 (.iload_n 0) := ⟨by decide +kernel, rfl⟩
theorem iX3_ofLetter_1 : zat mX3_ofLetter 1 51 52 (.lookupswitch 61 #[(97, 59), (99, 55), (109, 57), (111, 53), (115, 51)]) := ⟨by decide +kernel, rfl⟩
theorem iX3_ofLetter_52 : zat mX3_ofLetter 52 1 53 (.iconst 0) := ⟨by decide +kernel, rfl⟩
theorem iX3_ofLetter_53 : zat mX3_ofLetter 53 1 54 (.ireturn) := ⟨by decide +kernel, rfl⟩
theorem iX3_ofLetter_54 : zat mX3_ofLetter 54 1 55 (.iconst 1) := ⟨by decide +kernel, rfl⟩
theorem iX3_ofLetter_55 : zat mX3_ofLetter 55 1 56 (.ireturn) := ⟨by decide +kernel, rfl⟩
theorem iX3_ofLetter_56 : zat mX3_ofLetter 56 1 57 (.iconst 2) := ⟨by decide +kernel, rfl⟩
theorem iX3_ofLetter_57 : zat mX3_ofLetter 57 1 58 (.ireturn) := ⟨by decide +kernel, rfl⟩
theorem iX3_ofLetter_58 : zat mX3_ofLetter 58 1 59 (.iconst 3) := ⟨by decide +kernel, rfl⟩
theorem iX3_ofLetter_59 : zat mX3_ofLetter 59 1 60 (.ireturn) := ⟨by decide +kernel, rfl⟩
theorem iX3_ofLetter_60 : zat mX3_ofLetter 60 1 61 (.iconst 4) := ⟨by decide +kernel, rfl⟩
theorem iX3_ofLetter_61 : zat mX3_ofLetter 61 1 62 (.ireturn) := ⟨by decide +kernel, rfl⟩
theorem iX3_ofLetter_62 : zat mX3_ofLetter 62 1 63 (.iconst (-1)) := ⟨by decide +kernel, rfl⟩
theorem iX3_ofLetter_63 : zat mX3_ofLetter 63 1 64 (.ireturn) := ⟨by decide +kernel, rfl⟩
theorem iX3_isA_0 : zat mX3_isA 0 1 1 (.iload_n 0) := ⟨by decide +kernel, rfl⟩
theorem iX3_isA_1 : zat mX3_isA 1 1 2 (.iload_n 1) := ⟨by decide +kernel, rfl⟩
theorem iX3_isA_2 : zbr mX3_isA 2 5 19 (.if_icmp .eq) := ⟨17, by decide +kernel, rfl, rfl⟩
theorem iX3_isA_5 : zat mX3_isA 5 1 6 (.iload_n 1) := ⟨by decide +kernel, rfl⟩
theorem iX3_isA_6 : zbr mX3_isA 6 9 19 (.ifCond .eq) := ⟨13, by decide +kernel, rfl, rfl⟩
theorem iX3_isA_9 : zat mX3_isA 9 1 10 (.iload_n 0) := ⟨by decide +kernel, rfl⟩
theorem iX3_isA_10 : zat mX3_isA 10 1 11 (.iconst 4) := ⟨by decide +kernel, rfl⟩
theorem iX3_isA_11 : zbr mX3_isA 11 14 23 (.if_icmp .ne) := ⟨12, by decide +kernel, rfl, rfl⟩
theorem iX3_isA_14 : zat mX3_isA 14 1 15 (.iload_n 1) := ⟨by decide +kernel, rfl⟩
theorem iX3_isA_15 : zat mX3_isA 15 1 16 (.iconst 1) := ⟨by decide +kernel, rfl⟩
theorem iX3_isA_16 : zbr mX3_isA 16 19 23 (.if_icmp .ne) := ⟨7, by decide +kernel, rfl, rfl⟩
theorem iX3_isA_19 : zat mX3_isA 19 1 20 (.iconst 1) := ⟨by decide +kernel, rfl⟩
theorem iX3_isA_20 : zbr mX3_isA 20 23 24 (.goto) := ⟨4, by decide +kernel, rfl, rfl⟩
theorem iX3_isA_23 : zat mX3_isA 23 1 24 (.iconst 0) := ⟨by decide +kernel, rfl⟩
theorem iX3_isA_24 : zat mX3_isA 24 1 25 (.ireturn) := ⟨by decide +kernel, rfl⟩
theorem iX3_gives_0 : zat mX3_gives 0 1 1 (.iload_n 0) := ⟨by decide +kernel, rfl⟩
theorem iX3_gives_1 : zat mX3_gives 1 31 32 (.tableswitch 47 1 4 #[31, 35, 39, 41]) := ⟨by decide +kernel, rfl⟩
theorem iX3_gives_32 : zat mX3_gives 32 1 33 (.iconst 2) := ⟨by decide +kernel, rfl⟩
theorem iX3_gives_33 : zat mX3_gives 33 1 34 (.iload_n 1) := ⟨by decide +kernel, rfl⟩
theorem iX3_gives_34 : zat mX3_gives 34 1 35 (.imul) := ⟨by decide +kernel, rfl⟩
theorem iX3_gives_35 : zat mX3_gives 35 1 36 (.ireturn) := ⟨by decide +kernel, rfl⟩
theorem iX3_gives_36 : zat mX3_gives 36 1 37 (.iload_n 1) := ⟨by decide +kernel, rfl⟩
theorem iX3_gives_37 : zat mX3_gives 37 1 38 (.iconst 1) := ⟨by decide +kernel, rfl⟩
theorem iX3_gives_38 : zat mX3_gives 38 1 39 (.iadd) := ⟨by decide +kernel, rfl⟩
theorem iX3_gives_39 : zat mX3_gives 39 1 40 (.ireturn) := ⟨by decide +kernel, rfl⟩
theorem iX3_gives_40 : zat mX3_gives 40 1 41 (.iconst 0) := ⟨by decide +kernel, rfl⟩
theorem iX3_gives_41 : zat mX3_gives 41 1 42 (.ireturn) := ⟨by decide +kernel, rfl⟩
theorem iX3_gives_42 : zat mX3_gives 42 1 43 (.iconst 2) := ⟨by decide +kernel, rfl⟩
theorem iX3_gives_43 : zat mX3_gives 43 1 44 (.iload_n 1) := ⟨by decide +kernel, rfl⟩
theorem iX3_gives_44 : zat mX3_gives 44 1 45 (.imul) := ⟨by decide +kernel, rfl⟩
theorem iX3_gives_45 : zat mX3_gives 45 1 46 (.iconst 1) := ⟨by decide +kernel, rfl⟩
theorem iX3_gives_46 : zat mX3_gives 46 1 47 (.iadd) := ⟨by decide +kernel, rfl⟩
theorem iX3_gives_47 : zat mX3_gives 47 1 48 (.ireturn) := ⟨by decide +kernel, rfl⟩
theorem iX3_gives_48 : zat mX3_gives 48 1 49 (.iload_n 1) := ⟨by decide +kernel, rfl⟩
theorem iX3_gives_49 : zat mX3_gives 49 1 50 (.ireturn) := ⟨by decide +kernel, rfl⟩
theorem iX3_warms_0 : zat mX3_warms 0 1 1 (.iload_n 0) := ⟨by decide +kernel, rfl⟩
theorem iX3_warms_1 : zat mX3_warms 1 31 32 (.tableswitch 47 1 4 #[31, 35, 39, 41]) := ⟨by decide +kernel, rfl⟩
theorem iX3_warms_32 : zat mX3_warms 32 1 33 (.iload_n 1) := ⟨by decide +kernel, rfl⟩
theorem iX3_warms_33 : zat mX3_warms 33 1 34 (.iconst 2) := ⟨by decide +kernel, rfl⟩
theorem iX3_warms_34 : zat mX3_warms 34 1 35 (.idiv) := ⟨by decide +kernel, rfl⟩
theorem iX3_warms_35 : zat mX3_warms 35 1 36 (.ireturn) := ⟨by decide +kernel, rfl⟩
theorem iX3_warms_36 : zat mX3_warms 36 1 37 (.iconst 2) := ⟨by decide +kernel, rfl⟩
theorem iX3_warms_37 : zat mX3_warms 37 1 38 (.iload_n 1) := ⟨by decide +kernel, rfl⟩
theorem iX3_warms_38 : zat mX3_warms 38 1 39 (.imul) := ⟨by decide +kernel, rfl⟩
theorem iX3_warms_39 : zat mX3_warms 39 1 40 (.ireturn) := ⟨by decide +kernel, rfl⟩
theorem iX3_warms_40 : zat mX3_warms 40 1 41 (.iconst 0) := ⟨by decide +kernel, rfl⟩
theorem iX3_warms_41 : zat mX3_warms 41 1 42 (.ireturn) := ⟨by decide +kernel, rfl⟩
theorem iX3_warms_42 : zat mX3_warms 42 1 43 (.iload_n 1) := ⟨by decide +kernel, rfl⟩
theorem iX3_warms_43 : zat mX3_warms 43 1 44 (.iconst 2) := ⟨by decide +kernel, rfl⟩
theorem iX3_warms_44 : zat mX3_warms 44 1 45 (.idiv) := ⟨by decide +kernel, rfl⟩
theorem iX3_warms_45 : zat mX3_warms 45 1 46 (.iconst 2) := ⟨by decide +kernel, rfl⟩
theorem iX3_warms_46 : zat mX3_warms 46 1 47 (.idiv) := ⟨by decide +kernel, rfl⟩
theorem iX3_warms_47 : zat mX3_warms 47 1 48 (.ireturn) := ⟨by decide +kernel, rfl⟩
theorem iX3_warms_48 : zat mX3_warms 48 1 49 (.iload_n 1) := ⟨by decide +kernel, rfl⟩
theorem iX3_warms_49 : zat mX3_warms 49 1 50 (.ireturn) := ⟨by decide +kernel, rfl⟩
theorem iX4_init_0 : zat mX4_init 0 1 1 (.aload_n 0) := ⟨by decide +kernel, rfl⟩
theorem iX4_init_1 : zat mX4_init 1 3 4 (.invokespecial 3) := ⟨by decide +kernel, rfl⟩
theorem iX4_init_4 : zat mX4_init 4 1 5 (.aload_n 0) := ⟨by decide +kernel, rfl⟩
theorem iX4_init_5 : zat mX4_init 5 2 7 (.bipush 38) := ⟨by decide +kernel, rfl⟩
theorem iX4_init_7 : zat mX4_init 7 2 9 (.newarray .int) := ⟨by decide +kernel, rfl⟩
theorem iX4_init_9 : zat mX4_init 9 3 12 (.putfield 11) := ⟨by decide +kernel, rfl⟩
theorem iX4_init_12 : zat mX4_init 12 1 13 (.return_) := ⟨by decide +kernel, rfl⟩
theorem iX4_append_0 : zat mX4_append 0 1 1 (.aload_n 0) := ⟨by decide +kernel, rfl⟩
theorem iX4_append_1 : zat mX4_append 1 3 4 (.getfield 15) := ⟨by decide +kernel, rfl⟩
theorem iX4_append_4 : zat mX4_append 4 2 6 (.bipush 38) := ⟨by decide +kernel, rfl⟩
theorem iX4_append_6 : zbr mX4_append 6 9 29 (.if_icmp .ge) := ⟨23, by decide +kernel, rfl, rfl⟩
theorem iX4_append_9 : zat mX4_append 9 1 10 (.aload_n 0) := ⟨by decide +kernel, rfl⟩
theorem iX4_append_10 : zat mX4_append 10 3 13 (.getfield 11) := ⟨by decide +kernel, rfl⟩
theorem iX4_append_13 : zat mX4_append 13 1 14 (.aload_n 0) := ⟨by decide +kernel, rfl⟩
theorem iX4_append_14 : zat mX4_append 14 3 17 (.getfield 15) := ⟨by decide +kernel, rfl⟩
theorem iX4_append_17 : zat mX4_append 17 1 18 (.iload_n 1) := ⟨by decide +kernel, rfl⟩
theorem iX4_append_18 : zat mX4_append 18 1 19 (.iastore) := ⟨by decide +kernel, rfl⟩
theorem iX4_append_19 : zat mX4_append 19 1 20 (.aload_n 0) := ⟨by decide +kernel, rfl⟩
theorem iX4_append_20 : zat mX4_append 20 1 21 (.dup) := ⟨by decide +kernel, rfl⟩
theorem iX4_append_21 : zat mX4_append 21 3 24 (.getfield 15) := ⟨by decide +kernel, rfl⟩
theorem iX4_append_24 : zat mX4_append 24 1 25 (.iconst 1) := ⟨by decide +kernel, rfl⟩
theorem iX4_append_25 : zat mX4_append 25 1 26 (.iadd) := ⟨by decide +kernel, rfl⟩
theorem iX4_append_26 : zat mX4_append 26 3 29 (.putfield 15) := ⟨by decide +kernel, rfl⟩
theorem iX4_append_29 : zat mX4_append 29 1 30 (.return_) := ⟨by decide +kernel, rfl⟩
theorem iX4_firstFault_0 : zat mX4_firstFault 0 1 1 (.iconst 1) := ⟨by decide +kernel, rfl⟩
theorem iX4_firstFault_1 : zat mX4_firstFault 1 1 2 (.istore_n 1) := ⟨by decide +kernel, rfl⟩
theorem iX4_firstFault_2 : zat mX4_firstFault 2 1 3 (.iconst 1) := ⟨by decide +kernel, rfl⟩
theorem iX4_firstFault_3 : zat mX4_firstFault 3 1 4 (.istore_n 2) := ⟨by decide +kernel, rfl⟩
theorem iX4_firstFault_4 : zat mX4_firstFault 4 1 5 (.iconst 0) := ⟨by decide +kernel, rfl⟩
theorem iX4_firstFault_5 : zat mX4_firstFault 5 1 6 (.istore_n 3) := ⟨by decide +kernel, rfl⟩
theorem iX4_firstFault_6 : zat mX4_firstFault 6 1 7 (.iload_n 3) := ⟨by decide +kernel, rfl⟩
theorem iX4_firstFault_7 : zat mX4_firstFault 7 1 8 (.aload_n 0) := ⟨by decide +kernel, rfl⟩
theorem iX4_firstFault_8 : zat mX4_firstFault 8 3 11 (.getfield 15) := ⟨by decide +kernel, rfl⟩
theorem iX4_firstFault_11 : zbr mX4_firstFault 11 14 66 (.if_icmp .ge) := ⟨55, by decide +kernel, rfl, rfl⟩
theorem iX4_firstFault_14 : zat mX4_firstFault 14 1 15 (.aload_n 0) := ⟨by decide +kernel, rfl⟩
theorem iX4_firstFault_15 : zat mX4_firstFault 15 3 18 (.getfield 11) := ⟨by decide +kernel, rfl⟩
theorem iX4_firstFault_18 : zat mX4_firstFault 18 1 19 (.iload_n 3) := ⟨by decide +kernel, rfl⟩
theorem iX4_firstFault_19 : zat mX4_firstFault 19 1 20 (.iaload) := ⟨by decide +kernel, rfl⟩
theorem iX4_firstFault_20 : zat mX4_firstFault 20 2 22 (.istore 4) := ⟨by decide +kernel, rfl⟩
theorem iX4_firstFault_22 : zat mX4_firstFault 22 1 23 (.iload_n 3) := ⟨by decide +kernel, rfl⟩
theorem iX4_firstFault_23 : zat mX4_firstFault 23 2 25 (.iload 4) := ⟨by decide +kernel, rfl⟩
theorem iX4_firstFault_25 : zat mX4_firstFault 25 1 26 (.iload_n 1) := ⟨by decide +kernel, rfl⟩
theorem iX4_firstFault_26 : zat mX4_firstFault 26 1 27 (.iload_n 2) := ⟨by decide +kernel, rfl⟩
theorem iX4_firstFault_27 : zat mX4_firstFault 27 3 30 (.invokestatic 19) := ⟨by decide +kernel, rfl⟩
theorem iX4_firstFault_30 : zbr mX4_firstFault 30 33 35 (.ifCond .ne) := ⟨5, by decide +kernel, rfl, rfl⟩
theorem iX4_firstFault_33 : zat mX4_firstFault 33 1 34 (.iload_n 3) := ⟨by decide +kernel, rfl⟩
theorem iX4_firstFault_34 : zat mX4_firstFault 34 1 35 (.ireturn) := ⟨by decide +kernel, rfl⟩
theorem iX4_firstFault_35 : zat mX4_firstFault 35 2 37 (.iload 4) := ⟨by decide +kernel, rfl⟩
theorem iX4_firstFault_37 : zat mX4_firstFault 37 2 39 (.bipush 44) := ⟨by decide +kernel, rfl⟩
theorem iX4_firstFault_39 : zbr mX4_firstFault 39 42 48 (.if_icmp .ne) := ⟨9, by decide +kernel, rfl, rfl⟩
theorem iX4_firstFault_42 : zat mX4_firstFault 42 3 45 (.iinc 2 1) := ⟨by decide +kernel, rfl⟩
theorem iX4_firstFault_45 : zbr mX4_firstFault 45 48 60 (.goto) := ⟨15, by decide +kernel, rfl, rfl⟩
theorem iX4_firstFault_48 : zat mX4_firstFault 48 2 50 (.iload 4) := ⟨by decide +kernel, rfl⟩
theorem iX4_firstFault_50 : zat mX4_firstFault 50 2 52 (.bipush 59) := ⟨by decide +kernel, rfl⟩
theorem iX4_firstFault_52 : zbr mX4_firstFault 52 55 60 (.if_icmp .ne) := ⟨8, by decide +kernel, rfl, rfl⟩
theorem iX4_firstFault_55 : zat mX4_firstFault 55 3 58 (.iinc 1 1) := ⟨by decide +kernel, rfl⟩
theorem iX4_firstFault_58 : zat mX4_firstFault 58 1 59 (.iconst 1) := ⟨by decide +kernel, rfl⟩
theorem iX4_firstFault_59 : zat mX4_firstFault 59 1 60 (.istore_n 2) := ⟨by decide +kernel, rfl⟩
theorem iX4_firstFault_60 : zat mX4_firstFault 60 3 63 (.iinc 3 1) := ⟨by decide +kernel, rfl⟩
theorem iX4_firstFault_63 : zbr mX4_firstFault 63 66 6 (.goto) := ⟨-57, by decide +kernel, rfl, rfl⟩
theorem iX4_firstFault_66 : zat mX4_firstFault 66 1 67 (.aload_n 0) := ⟨by decide +kernel, rfl⟩
theorem iX4_firstFault_67 : zat mX4_firstFault 67 3 70 (.getfield 15) := ⟨by decide +kernel, rfl⟩
theorem iX4_firstFault_70 : zat mX4_firstFault 70 1 71 (.ireturn) := ⟨by decide +kernel, rfl⟩
theorem iX4_isDue_0 : zat mX4_isDue 0 1 1 (.iload_n 0) := ⟨by decide +kernel, rfl⟩
theorem iX4_isDue_1 : zat mX4_isDue 1 1 2 (.iconst 3) := ⟨by decide +kernel, rfl⟩
theorem iX4_isDue_2 : zat mX4_isDue 2 1 3 (.iand) := ⟨by decide +kernel, rfl⟩
theorem iX4_isDue_3 : zat mX4_isDue 3 25 28 (.tableswitch 75 0 2 #[25, 39, 57]) := ⟨by decide +kernel, rfl⟩
theorem iX4_isDue_28 : zat mX4_isDue 28 1 29 (.iload_n 1) := ⟨by decide +kernel, rfl⟩
theorem iX4_isDue_29 : zat mX4_isDue 29 3 32 (.invokestatic 23) := ⟨by decide +kernel, rfl⟩
theorem iX4_isDue_32 : zat mX4_isDue 32 1 33 (.iconst (-1)) := ⟨by decide +kernel, rfl⟩
theorem iX4_isDue_33 : zbr mX4_isDue 33 36 40 (.if_icmp .eq) := ⟨7, by decide +kernel, rfl, rfl⟩
theorem iX4_isDue_36 : zat mX4_isDue 36 1 37 (.iconst 1) := ⟨by decide +kernel, rfl⟩
theorem iX4_isDue_37 : zbr mX4_isDue 37 40 41 (.goto) := ⟨4, by decide +kernel, rfl, rfl⟩
theorem iX4_isDue_40 : zat mX4_isDue 40 1 41 (.iconst 0) := ⟨by decide +kernel, rfl⟩
theorem iX4_isDue_41 : zat mX4_isDue 41 1 42 (.ireturn) := ⟨by decide +kernel, rfl⟩
theorem iX4_isDue_42 : zat mX4_isDue 42 1 43 (.iload_n 1) := ⟨by decide +kernel, rfl⟩
theorem iX4_isDue_43 : zat mX4_isDue 43 2 45 (.bipush 49) := ⟨by decide +kernel, rfl⟩
theorem iX4_isDue_45 : zbr mX4_isDue 45 48 58 (.if_icmp .lt) := ⟨13, by decide +kernel, rfl, rfl⟩
theorem iX4_isDue_48 : zat mX4_isDue 48 1 49 (.iload_n 1) := ⟨by decide +kernel, rfl⟩
theorem iX4_isDue_49 : zat mX4_isDue 49 2 51 (.bipush 57) := ⟨by decide +kernel, rfl⟩
theorem iX4_isDue_51 : zbr mX4_isDue 51 54 58 (.if_icmp .gt) := ⟨7, by decide +kernel, rfl, rfl⟩
theorem iX4_isDue_54 : zat mX4_isDue 54 1 55 (.iconst 1) := ⟨by decide +kernel, rfl⟩
theorem iX4_isDue_55 : zbr mX4_isDue 55 58 59 (.goto) := ⟨4, by decide +kernel, rfl, rfl⟩
theorem iX4_isDue_58 : zat mX4_isDue 58 1 59 (.iconst 0) := ⟨by decide +kernel, rfl⟩
theorem iX4_isDue_59 : zat mX4_isDue 59 1 60 (.ireturn) := ⟨by decide +kernel, rfl⟩
theorem iX4_isDue_60 : zat mX4_isDue 60 1 61 (.iload_n 1) := ⟨by decide +kernel, rfl⟩
theorem iX4_isDue_61 : zat mX4_isDue 61 2 63 (.bipush 48) := ⟨by decide +kernel, rfl⟩
theorem iX4_isDue_63 : zbr mX4_isDue 63 66 76 (.if_icmp .lt) := ⟨13, by decide +kernel, rfl, rfl⟩
theorem iX4_isDue_66 : zat mX4_isDue 66 1 67 (.iload_n 1) := ⟨by decide +kernel, rfl⟩
theorem iX4_isDue_67 : zat mX4_isDue 67 2 69 (.bipush 57) := ⟨by decide +kernel, rfl⟩
theorem iX4_isDue_69 : zbr mX4_isDue 69 72 76 (.if_icmp .gt) := ⟨7, by decide +kernel, rfl, rfl⟩
theorem iX4_isDue_72 : zat mX4_isDue 72 1 73 (.iconst 1) := ⟨by decide +kernel, rfl⟩
theorem iX4_isDue_73 : zbr mX4_isDue 73 76 77 (.goto) := ⟨4, by decide +kernel, rfl, rfl⟩
theorem iX4_isDue_76 : zat mX4_isDue 76 1 77 (.iconst 0) := ⟨by decide +kernel, rfl⟩
theorem iX4_isDue_77 : zat mX4_isDue 77 1 78 (.ireturn) := ⟨by decide +kernel, rfl⟩
theorem iX4_isDue_78 : zat mX4_isDue 78 1 79 (.iload_n 1) := ⟨by decide +kernel, rfl⟩
theorem iX4_isDue_79 : zat mX4_isDue 79 2 81 (.bipush 44) := ⟨by decide +kernel, rfl⟩
theorem iX4_isDue_81 : zbr mX4_isDue 81 84 89 (.if_icmp .ne) := ⟨8, by decide +kernel, rfl, rfl⟩
theorem iX4_isDue_84 : zat mX4_isDue 84 1 85 (.iload_n 3) := ⟨by decide +kernel, rfl⟩
theorem iX4_isDue_85 : zat mX4_isDue 85 1 86 (.iconst 3) := ⟨by decide +kernel, rfl⟩
theorem iX4_isDue_86 : zbr mX4_isDue 86 89 100 (.if_icmp .lt) := ⟨14, by decide +kernel, rfl, rfl⟩
theorem iX4_isDue_89 : zat mX4_isDue 89 1 90 (.iload_n 1) := ⟨by decide +kernel, rfl⟩
theorem iX4_isDue_90 : zat mX4_isDue 90 2 92 (.bipush 59) := ⟨by decide +kernel, rfl⟩
theorem iX4_isDue_92 : zbr mX4_isDue 92 95 104 (.if_icmp .ne) := ⟨12, by decide +kernel, rfl, rfl⟩
theorem iX4_isDue_95 : zat mX4_isDue 95 1 96 (.iload_n 2) := ⟨by decide +kernel, rfl⟩
theorem iX4_isDue_96 : zat mX4_isDue 96 1 97 (.iconst 3) := ⟨by decide +kernel, rfl⟩
theorem iX4_isDue_97 : zbr mX4_isDue 97 100 104 (.if_icmp .ge) := ⟨7, by decide +kernel, rfl, rfl⟩
theorem iX4_isDue_100 : zat mX4_isDue 100 1 101 (.iconst 1) := ⟨by decide +kernel, rfl⟩
theorem iX4_isDue_101 : zbr mX4_isDue 101 104 105 (.goto) := ⟨4, by decide +kernel, rfl, rfl⟩
theorem iX4_isDue_104 : zat mX4_isDue 104 1 105 (.iconst 0) := ⟨by decide +kernel, rfl⟩
theorem iX4_isDue_105 : zat mX4_isDue 105 1 106 (.ireturn) := ⟨by decide +kernel, rfl⟩
theorem iX4_isWhole_0 : zat mX4_isWhole 0 1 1 (.aload_n 0) := ⟨by decide +kernel, rfl⟩
theorem iX4_isWhole_1 : zat mX4_isWhole 1 3 4 (.getfield 15) := ⟨by decide +kernel, rfl⟩
theorem iX4_isWhole_4 : zat mX4_isWhole 4 1 5 (.iconst 3) := ⟨by decide +kernel, rfl⟩
theorem iX4_isWhole_5 : zat mX4_isWhole 5 1 6 (.iand) := ⟨by decide +kernel, rfl⟩
theorem iX4_isWhole_6 : zat mX4_isWhole 6 1 7 (.iconst 3) := ⟨by decide +kernel, rfl⟩
theorem iX4_isWhole_7 : zbr mX4_isWhole 7 10 32 (.if_icmp .ne) := ⟨25, by decide +kernel, rfl, rfl⟩
theorem iX4_isWhole_10 : zat mX4_isWhole 10 1 11 (.aload_n 0) := ⟨by decide +kernel, rfl⟩
theorem iX4_isWhole_11 : zat mX4_isWhole 11 3 14 (.invokevirtual 29) := ⟨by decide +kernel, rfl⟩
theorem iX4_isWhole_14 : zat mX4_isWhole 14 1 15 (.aload_n 0) := ⟨by decide +kernel, rfl⟩
theorem iX4_isWhole_15 : zat mX4_isWhole 15 3 18 (.getfield 15) := ⟨by decide +kernel, rfl⟩
theorem iX4_isWhole_18 : zbr mX4_isWhole 18 21 32 (.if_icmp .ne) := ⟨14, by decide +kernel, rfl, rfl⟩
theorem iX4_isWhole_21 : zat mX4_isWhole 21 1 22 (.aload_n 0) := ⟨by decide +kernel, rfl⟩
theorem iX4_isWhole_22 : zat mX4_isWhole 22 3 25 (.invokevirtual 33) := ⟨by decide +kernel, rfl⟩
theorem iX4_isWhole_25 : zbr mX4_isWhole 25 28 32 (.ifCond .eq) := ⟨7, by decide +kernel, rfl, rfl⟩
theorem iX4_isWhole_28 : zat mX4_isWhole 28 1 29 (.iconst 1) := ⟨by decide +kernel, rfl⟩
theorem iX4_isWhole_29 : zbr mX4_isWhole 29 32 33 (.goto) := ⟨4, by decide +kernel, rfl, rfl⟩
theorem iX4_isWhole_32 : zat mX4_isWhole 32 1 33 (.iconst 0) := ⟨by decide +kernel, rfl⟩
theorem iX4_isWhole_33 : zat mX4_isWhole 33 1 34 (.ireturn) := ⟨by decide +kernel, rfl⟩
theorem iX4_hasSecondBay_0 : zat mX4_hasSecondBay 0 1 1 (.iconst 0) := ⟨by decide +kernel, rfl⟩
theorem iX4_hasSecondBay_1 : zat mX4_hasSecondBay 1 1 2 (.istore_n 1) := ⟨by decide +kernel, rfl⟩
theorem iX4_hasSecondBay_2 : zat mX4_hasSecondBay 2 1 3 (.iload_n 1) := ⟨by decide +kernel, rfl⟩
theorem iX4_hasSecondBay_3 : zat mX4_hasSecondBay 3 1 4 (.aload_n 0) := ⟨by decide +kernel, rfl⟩
theorem iX4_hasSecondBay_4 : zat mX4_hasSecondBay 4 3 7 (.getfield 15) := ⟨by decide +kernel, rfl⟩
theorem iX4_hasSecondBay_7 : zbr mX4_hasSecondBay 7 10 29 (.if_icmp .ge) := ⟨22, by decide +kernel, rfl, rfl⟩
theorem iX4_hasSecondBay_10 : zat mX4_hasSecondBay 10 1 11 (.aload_n 0) := ⟨by decide +kernel, rfl⟩
theorem iX4_hasSecondBay_11 : zat mX4_hasSecondBay 11 3 14 (.getfield 11) := ⟨by decide +kernel, rfl⟩
theorem iX4_hasSecondBay_14 : zat mX4_hasSecondBay 14 1 15 (.iload_n 1) := ⟨by decide +kernel, rfl⟩
theorem iX4_hasSecondBay_15 : zat mX4_hasSecondBay 15 1 16 (.iaload) := ⟨by decide +kernel, rfl⟩
theorem iX4_hasSecondBay_16 : zat mX4_hasSecondBay 16 2 18 (.bipush 59) := ⟨by decide +kernel, rfl⟩
theorem iX4_hasSecondBay_18 : zbr mX4_hasSecondBay 18 21 23 (.if_icmp .ne) := ⟨5, by decide +kernel, rfl, rfl⟩
theorem iX4_hasSecondBay_21 : zat mX4_hasSecondBay 21 1 22 (.iconst 1) := ⟨by decide +kernel, rfl⟩
theorem iX4_hasSecondBay_22 : zat mX4_hasSecondBay 22 1 23 (.ireturn) := ⟨by decide +kernel, rfl⟩
theorem iX4_hasSecondBay_23 : zat mX4_hasSecondBay 23 3 26 (.iinc 1 1) := ⟨by decide +kernel, rfl⟩
theorem iX4_hasSecondBay_26 : zbr mX4_hasSecondBay 26 29 2 (.goto) := ⟨-24, by decide +kernel, rfl, rfl⟩
theorem iX4_hasSecondBay_29 : zat mX4_hasSecondBay 29 1 30 (.iconst 0) := ⟨by decide +kernel, rfl⟩
theorem iX4_hasSecondBay_30 : zat mX4_hasSecondBay 30 1 31 (.ireturn) := ⟨by decide +kernel, rfl⟩
theorem iX4_readInto_0 : zat mX4_readInto 0 1 1 (.aload_n 1) := ⟨by decide +kernel, rfl⟩
theorem iX4_readInto_1 : zat mX4_readInto 1 3 4 (.invokevirtual 37) := ⟨by decide +kernel, rfl⟩
theorem iX4_readInto_4 : zat mX4_readInto 4 1 5 (.iconst 0) := ⟨by decide +kernel, rfl⟩
theorem iX4_readInto_5 : zat mX4_readInto 5 1 6 (.istore_n 2) := ⟨by decide +kernel, rfl⟩
theorem iX4_readInto_6 : zat mX4_readInto 6 1 7 (.iconst 0) := ⟨by decide +kernel, rfl⟩
theorem iX4_readInto_7 : zat mX4_readInto 7 1 8 (.istore_n 3) := ⟨by decide +kernel, rfl⟩
theorem iX4_readInto_8 : zat mX4_readInto 8 1 9 (.iload_n 3) := ⟨by decide +kernel, rfl⟩
theorem iX4_readInto_9 : zat mX4_readInto 9 1 10 (.iconst 2) := ⟨by decide +kernel, rfl⟩
theorem iX4_readInto_10 : zat mX4_readInto 10 1 11 (.iadd) := ⟨by decide +kernel, rfl⟩
theorem iX4_readInto_11 : zat mX4_readInto 11 1 12 (.aload_n 0) := ⟨by decide +kernel, rfl⟩
theorem iX4_readInto_12 : zat mX4_readInto 12 3 15 (.getfield 15) := ⟨by decide +kernel, rfl⟩
theorem iX4_readInto_15 : zbr mX4_readInto 15 18 80 (.if_icmp .ge) := ⟨65, by decide +kernel, rfl, rfl⟩
theorem iX4_readInto_18 : zat mX4_readInto 18 1 19 (.iload_n 3) := ⟨by decide +kernel, rfl⟩
theorem iX4_readInto_19 : zbr mX4_readInto 19 22 38 (.ifCond .le) := ⟨19, by decide +kernel, rfl, rfl⟩
theorem iX4_readInto_22 : zat mX4_readInto 22 1 23 (.aload_n 0) := ⟨by decide +kernel, rfl⟩
theorem iX4_readInto_23 : zat mX4_readInto 23 3 26 (.getfield 11) := ⟨by decide +kernel, rfl⟩
theorem iX4_readInto_26 : zat mX4_readInto 26 1 27 (.iload_n 3) := ⟨by decide +kernel, rfl⟩
theorem iX4_readInto_27 : zat mX4_readInto 27 1 28 (.iconst 1) := ⟨by decide +kernel, rfl⟩
theorem iX4_readInto_28 : zat mX4_readInto 28 1 29 (.isub) := ⟨by decide +kernel, rfl⟩
theorem iX4_readInto_29 : zat mX4_readInto 29 1 30 (.iaload) := ⟨by decide +kernel, rfl⟩
theorem iX4_readInto_30 : zat mX4_readInto 30 2 32 (.bipush 59) := ⟨by decide +kernel, rfl⟩
theorem iX4_readInto_32 : zbr mX4_readInto 32 35 38 (.if_icmp .ne) := ⟨6, by decide +kernel, rfl, rfl⟩
theorem iX4_readInto_35 : zat mX4_readInto 35 3 38 (.iinc 2 1) := ⟨by decide +kernel, rfl⟩
theorem iX4_readInto_38 : zat mX4_readInto 38 1 39 (.aload_n 1) := ⟨by decide +kernel, rfl⟩
theorem iX4_readInto_39 : zat mX4_readInto 39 1 40 (.iload_n 2) := ⟨by decide +kernel, rfl⟩
theorem iX4_readInto_40 : zat mX4_readInto 40 1 41 (.aload_n 0) := ⟨by decide +kernel, rfl⟩
theorem iX4_readInto_41 : zat mX4_readInto 41 3 44 (.getfield 11) := ⟨by decide +kernel, rfl⟩
theorem iX4_readInto_44 : zat mX4_readInto 44 1 45 (.iload_n 3) := ⟨by decide +kernel, rfl⟩
theorem iX4_readInto_45 : zat mX4_readInto 45 1 46 (.iaload) := ⟨by decide +kernel, rfl⟩
theorem iX4_readInto_46 : zat mX4_readInto 46 3 49 (.invokestatic 23) := ⟨by decide +kernel, rfl⟩
theorem iX4_readInto_49 : zat mX4_readInto 49 1 50 (.aload_n 0) := ⟨by decide +kernel, rfl⟩
theorem iX4_readInto_50 : zat mX4_readInto 50 3 53 (.getfield 11) := ⟨by decide +kernel, rfl⟩
theorem iX4_readInto_53 : zat mX4_readInto 53 1 54 (.iload_n 3) := ⟨by decide +kernel, rfl⟩
theorem iX4_readInto_54 : zat mX4_readInto 54 1 55 (.iconst 1) := ⟨by decide +kernel, rfl⟩
theorem iX4_readInto_55 : zat mX4_readInto 55 1 56 (.iadd) := ⟨by decide +kernel, rfl⟩
theorem iX4_readInto_56 : zat mX4_readInto 56 1 57 (.iaload) := ⟨by decide +kernel, rfl⟩
theorem iX4_readInto_57 : zat mX4_readInto 57 2 59 (.bipush 48) := ⟨by decide +kernel, rfl⟩
theorem iX4_readInto_59 : zat mX4_readInto 59 1 60 (.isub) := ⟨by decide +kernel, rfl⟩
theorem iX4_readInto_60 : zat mX4_readInto 60 1 61 (.aload_n 0) := ⟨by decide +kernel, rfl⟩
theorem iX4_readInto_61 : zat mX4_readInto 61 3 64 (.getfield 11) := ⟨by decide +kernel, rfl⟩
theorem iX4_readInto_64 : zat mX4_readInto 64 1 65 (.iload_n 3) := ⟨by decide +kernel, rfl⟩
theorem iX4_readInto_65 : zat mX4_readInto 65 1 66 (.iconst 2) := ⟨by decide +kernel, rfl⟩
theorem iX4_readInto_66 : zat mX4_readInto 66 1 67 (.iadd) := ⟨by decide +kernel, rfl⟩
theorem iX4_readInto_67 : zat mX4_readInto 67 1 68 (.iaload) := ⟨by decide +kernel, rfl⟩
theorem iX4_readInto_68 : zat mX4_readInto 68 2 70 (.bipush 48) := ⟨by decide +kernel, rfl⟩
theorem iX4_readInto_70 : zat mX4_readInto 70 1 71 (.isub) := ⟨by decide +kernel, rfl⟩
theorem iX4_readInto_71 : zat mX4_readInto 71 3 74 (.invokevirtual 42) := ⟨by decide +kernel, rfl⟩
theorem iX4_readInto_74 : zat mX4_readInto 74 3 77 (.iinc 3 4) := ⟨by decide +kernel, rfl⟩
theorem iX4_readInto_77 : zbr mX4_readInto 77 80 8 (.goto) := ⟨-69, by decide +kernel, rfl, rfl⟩
theorem iX4_readInto_80 : zat mX4_readInto 80 1 81 (.return_) := ⟨by decide +kernel, rfl⟩
theorem iX5_init_0 : zat mX5_init 0 1 1 (.aload_n 0) := ⟨by decide +kernel, rfl⟩
theorem iX5_init_1 : zat mX5_init 1 3 4 (.invokespecial 1) := ⟨by decide +kernel, rfl⟩
theorem iX5_init_4 : zat mX5_init 4 1 5 (.aload_n 0) := ⟨by decide +kernel, rfl⟩
theorem iX5_init_5 : zat mX5_init 5 2 7 (.bipush 6) := ⟨by decide +kernel, rfl⟩
theorem iX5_init_7 : zat mX5_init 7 2 9 (.newarray .int) := ⟨by decide +kernel, rfl⟩
theorem iX5_init_9 : zat mX5_init 9 3 12 (.putfield 9) := ⟨by decide +kernel, rfl⟩
theorem iX5_init_12 : zat mX5_init 12 1 13 (.aload_n 0) := ⟨by decide +kernel, rfl⟩
theorem iX5_init_13 : zat mX5_init 13 2 15 (.bipush 6) := ⟨by decide +kernel, rfl⟩
theorem iX5_init_15 : zat mX5_init 15 2 17 (.newarray .int) := ⟨by decide +kernel, rfl⟩
theorem iX5_init_17 : zat mX5_init 17 3 20 (.putfield 13) := ⟨by decide +kernel, rfl⟩
theorem iX5_init_20 : zat mX5_init 20 1 21 (.aload_n 0) := ⟨by decide +kernel, rfl⟩
theorem iX5_init_21 : zat mX5_init 21 2 23 (.bipush 6) := ⟨by decide +kernel, rfl⟩
theorem iX5_init_23 : zat mX5_init 23 2 25 (.newarray .int) := ⟨by decide +kernel, rfl⟩
theorem iX5_init_25 : zat mX5_init 25 3 28 (.putfield 16) := ⟨by decide +kernel, rfl⟩
theorem iX5_init_28 : zat mX5_init 28 1 29 (.return_) := ⟨by decide +kernel, rfl⟩
theorem iX5_append_0 : zat mX5_append 0 1 1 (.aload_n 0) := ⟨by decide +kernel, rfl⟩
theorem iX5_append_1 : zat mX5_append 1 3 4 (.getfield 19) := ⟨by decide +kernel, rfl⟩
theorem iX5_append_4 : zat mX5_append 4 2 6 (.bipush 6) := ⟨by decide +kernel, rfl⟩
theorem iX5_append_6 : zbr mX5_append 6 9 49 (.if_icmp .ge) := ⟨43, by decide +kernel, rfl, rfl⟩
theorem iX5_append_9 : zat mX5_append 9 1 10 (.aload_n 0) := ⟨by decide +kernel, rfl⟩
theorem iX5_append_10 : zat mX5_append 10 3 13 (.getfield 9) := ⟨by decide +kernel, rfl⟩
theorem iX5_append_13 : zat mX5_append 13 1 14 (.aload_n 0) := ⟨by decide +kernel, rfl⟩
theorem iX5_append_14 : zat mX5_append 14 3 17 (.getfield 19) := ⟨by decide +kernel, rfl⟩
theorem iX5_append_17 : zat mX5_append 17 1 18 (.iload_n 1) := ⟨by decide +kernel, rfl⟩
theorem iX5_append_18 : zat mX5_append 18 1 19 (.iastore) := ⟨by decide +kernel, rfl⟩
theorem iX5_append_19 : zat mX5_append 19 1 20 (.aload_n 0) := ⟨by decide +kernel, rfl⟩
theorem iX5_append_20 : zat mX5_append 20 3 23 (.getfield 13) := ⟨by decide +kernel, rfl⟩
theorem iX5_append_23 : zat mX5_append 23 1 24 (.aload_n 0) := ⟨by decide +kernel, rfl⟩
theorem iX5_append_24 : zat mX5_append 24 3 27 (.getfield 19) := ⟨by decide +kernel, rfl⟩
theorem iX5_append_27 : zat mX5_append 27 1 28 (.iload_n 2) := ⟨by decide +kernel, rfl⟩
theorem iX5_append_28 : zat mX5_append 28 1 29 (.iastore) := ⟨by decide +kernel, rfl⟩
theorem iX5_append_29 : zat mX5_append 29 1 30 (.aload_n 0) := ⟨by decide +kernel, rfl⟩
theorem iX5_append_30 : zat mX5_append 30 3 33 (.getfield 16) := ⟨by decide +kernel, rfl⟩
theorem iX5_append_33 : zat mX5_append 33 1 34 (.aload_n 0) := ⟨by decide +kernel, rfl⟩
theorem iX5_append_34 : zat mX5_append 34 3 37 (.getfield 19) := ⟨by decide +kernel, rfl⟩
theorem iX5_append_37 : zat mX5_append 37 1 38 (.iload_n 3) := ⟨by decide +kernel, rfl⟩
theorem iX5_append_38 : zat mX5_append 38 1 39 (.iastore) := ⟨by decide +kernel, rfl⟩
theorem iX5_append_39 : zat mX5_append 39 1 40 (.aload_n 0) := ⟨by decide +kernel, rfl⟩
theorem iX5_append_40 : zat mX5_append 40 1 41 (.dup) := ⟨by decide +kernel, rfl⟩
theorem iX5_append_41 : zat mX5_append 41 3 44 (.getfield 19) := ⟨by decide +kernel, rfl⟩
theorem iX5_append_44 : zat mX5_append 44 1 45 (.iconst 1) := ⟨by decide +kernel, rfl⟩
theorem iX5_append_45 : zat mX5_append 45 1 46 (.iadd) := ⟨by decide +kernel, rfl⟩
theorem iX5_append_46 : zat mX5_append 46 3 49 (.putfield 19) := ⟨by decide +kernel, rfl⟩
theorem iX5_append_49 : zat mX5_append 49 1 50 (.return_) := ⟨by decide +kernel, rfl⟩
theorem iX5_copyFrom_0 : zat mX5_copyFrom 0 1 1 (.aload_n 0) := ⟨by decide +kernel, rfl⟩
theorem iX5_copyFrom_1 : zat mX5_copyFrom 1 1 2 (.aload_n 1) := ⟨by decide +kernel, rfl⟩
theorem iX5_copyFrom_2 : zat mX5_copyFrom 2 3 5 (.getfield 19) := ⟨by decide +kernel, rfl⟩
theorem iX5_copyFrom_5 : zat mX5_copyFrom 5 3 8 (.putfield 19) := ⟨by decide +kernel, rfl⟩
theorem iX5_copyFrom_8 : zat mX5_copyFrom 8 1 9 (.aload_n 1) := ⟨by decide +kernel, rfl⟩
theorem iX5_copyFrom_9 : zat mX5_copyFrom 9 3 12 (.getfield 9) := ⟨by decide +kernel, rfl⟩
theorem iX5_copyFrom_12 : zat mX5_copyFrom 12 1 13 (.iconst 0) := ⟨by decide +kernel, rfl⟩
theorem iX5_copyFrom_13 : zat mX5_copyFrom 13 1 14 (.aload_n 0) := ⟨by decide +kernel, rfl⟩
theorem iX5_copyFrom_14 : zat mX5_copyFrom 14 3 17 (.getfield 9) := ⟨by decide +kernel, rfl⟩
theorem iX5_copyFrom_17 : zat mX5_copyFrom 17 1 18 (.iconst 0) := ⟨by decide +kernel, rfl⟩
theorem iX5_copyFrom_18 : zat mX5_copyFrom 18 2 20 (.bipush 6) := ⟨by decide +kernel, rfl⟩
theorem iX5_copyFrom_20 : zat mX5_copyFrom 20 3 23 (.invokestatic 23) := ⟨by decide +kernel, rfl⟩
theorem iX5_copyFrom_23 : zat mX5_copyFrom 23 1 24 (.aload_n 1) := ⟨by decide +kernel, rfl⟩
theorem iX5_copyFrom_24 : zat mX5_copyFrom 24 3 27 (.getfield 13) := ⟨by decide +kernel, rfl⟩
theorem iX5_copyFrom_27 : zat mX5_copyFrom 27 1 28 (.iconst 0) := ⟨by decide +kernel, rfl⟩
theorem iX5_copyFrom_28 : zat mX5_copyFrom 28 1 29 (.aload_n 0) := ⟨by decide +kernel, rfl⟩
theorem iX5_copyFrom_29 : zat mX5_copyFrom 29 3 32 (.getfield 13) := ⟨by decide +kernel, rfl⟩
theorem iX5_copyFrom_32 : zat mX5_copyFrom 32 1 33 (.iconst 0) := ⟨by decide +kernel, rfl⟩
theorem iX5_copyFrom_33 : zat mX5_copyFrom 33 2 35 (.bipush 6) := ⟨by decide +kernel, rfl⟩
theorem iX5_copyFrom_35 : zat mX5_copyFrom 35 3 38 (.invokestatic 23) := ⟨by decide +kernel, rfl⟩
theorem iX5_copyFrom_38 : zat mX5_copyFrom 38 1 39 (.aload_n 1) := ⟨by decide +kernel, rfl⟩
theorem iX5_copyFrom_39 : zat mX5_copyFrom 39 3 42 (.getfield 16) := ⟨by decide +kernel, rfl⟩
theorem iX5_copyFrom_42 : zat mX5_copyFrom 42 1 43 (.iconst 0) := ⟨by decide +kernel, rfl⟩
theorem iX5_copyFrom_43 : zat mX5_copyFrom 43 1 44 (.aload_n 0) := ⟨by decide +kernel, rfl⟩
theorem iX5_copyFrom_44 : zat mX5_copyFrom 44 3 47 (.getfield 16) := ⟨by decide +kernel, rfl⟩
theorem iX5_copyFrom_47 : zat mX5_copyFrom 47 1 48 (.iconst 0) := ⟨by decide +kernel, rfl⟩
theorem iX5_copyFrom_48 : zat mX5_copyFrom 48 2 50 (.bipush 6) := ⟨by decide +kernel, rfl⟩
theorem iX5_copyFrom_50 : zat mX5_copyFrom 50 3 53 (.invokestatic 23) := ⟨by decide +kernel, rfl⟩
theorem iX5_copyFrom_53 : zat mX5_copyFrom 53 1 54 (.return_) := ⟨by decide +kernel, rfl⟩
theorem iX6_init_0 : zat mX6_init 0 1 1 (.aload_n 0) := ⟨by decide +kernel, rfl⟩
theorem iX6_init_1 : zat mX6_init 1 3 4 (.invokespecial 3) := ⟨by decide +kernel, rfl⟩
theorem iX6_init_4 : zat mX6_init 4 1 5 (.aload_n 0) := ⟨by decide +kernel, rfl⟩
theorem iX6_init_5 : zat mX6_init 5 2 7 (.bipush 28) := ⟨by decide +kernel, rfl⟩
theorem iX6_init_7 : zat mX6_init 7 2 9 (.newarray .long) := ⟨by decide +kernel, rfl⟩
theorem iX6_init_9 : zat mX6_init 9 3 12 (.putfield 11) := ⟨by decide +kernel, rfl⟩
theorem iX6_init_12 : zat mX6_init 12 1 13 (.return_) := ⟨by decide +kernel, rfl⟩
theorem iX6_amongTwo_0 : zat mX6_amongTwo 0 1 1 (.lconst 1) := ⟨by decide +kernel, rfl⟩
theorem iX6_amongTwo_1 : zat mX6_amongTwo 1 1 2 (.lstore_n 2) := ⟨by decide +kernel, rfl⟩
theorem iX6_amongTwo_2 : zat mX6_amongTwo 2 1 3 (.iconst 0) := ⟨by decide +kernel, rfl⟩
theorem iX6_amongTwo_3 : zat mX6_amongTwo 3 2 5 (.istore 4) := ⟨by decide +kernel, rfl⟩
theorem iX6_amongTwo_5 : zat mX6_amongTwo 5 2 7 (.iload 4) := ⟨by decide +kernel, rfl⟩
theorem iX6_amongTwo_7 : zat mX6_amongTwo 7 1 8 (.aload_n 1) := ⟨by decide +kernel, rfl⟩
theorem iX6_amongTwo_8 : zat mX6_amongTwo 8 3 11 (.getfield 15) := ⟨by decide +kernel, rfl⟩
theorem iX6_amongTwo_11 : zbr mX6_amongTwo 11 14 32 (.if_icmp .ge) := ⟨21, by decide +kernel, rfl, rfl⟩
theorem iX6_amongTwo_14 : zat mX6_amongTwo 14 1 15 (.lload_n 2) := ⟨by decide +kernel, rfl⟩
theorem iX6_amongTwo_15 : zat mX6_amongTwo 15 1 16 (.lload_n 2) := ⟨by decide +kernel, rfl⟩
theorem iX6_amongTwo_16 : zat mX6_amongTwo 16 1 17 (.aload_n 1) := ⟨by decide +kernel, rfl⟩
theorem iX6_amongTwo_17 : zat mX6_amongTwo 17 3 20 (.getfield 21) := ⟨by decide +kernel, rfl⟩
theorem iX6_amongTwo_20 : zat mX6_amongTwo 20 2 22 (.iload 4) := ⟨by decide +kernel, rfl⟩
theorem iX6_amongTwo_22 : zat mX6_amongTwo 22 1 23 (.iaload) := ⟨by decide +kernel, rfl⟩
theorem iX6_amongTwo_23 : zat mX6_amongTwo 23 1 24 (.lshl) := ⟨by decide +kernel, rfl⟩
theorem iX6_amongTwo_24 : zat mX6_amongTwo 24 1 25 (.lor) := ⟨by decide +kernel, rfl⟩
theorem iX6_amongTwo_25 : zat mX6_amongTwo 25 1 26 (.lstore_n 2) := ⟨by decide +kernel, rfl⟩
theorem iX6_amongTwo_26 : zat mX6_amongTwo 26 3 29 (.iinc 4 1) := ⟨by decide +kernel, rfl⟩
theorem iX6_amongTwo_29 : zbr mX6_amongTwo 29 32 5 (.goto) := ⟨-24, by decide +kernel, rfl, rfl⟩
theorem iX6_amongTwo_32 : zat mX6_amongTwo 32 1 33 (.lload_n 2) := ⟨by decide +kernel, rfl⟩
theorem iX6_amongTwo_33 : zat mX6_amongTwo 33 1 34 (.iconst 0) := ⟨by decide +kernel, rfl⟩
theorem iX6_amongTwo_34 : zat mX6_amongTwo 34 1 35 (.aload_n 1) := ⟨by decide +kernel, rfl⟩
theorem iX6_amongTwo_35 : zat mX6_amongTwo 35 3 38 (.invokevirtual 25) := ⟨by decide +kernel, rfl⟩
theorem iX6_amongTwo_38 : zat mX6_amongTwo 38 1 39 (.iconst 2) := ⟨by decide +kernel, rfl⟩
theorem iX6_amongTwo_39 : zat mX6_amongTwo 39 1 40 (.idiv) := ⟨by decide +kernel, rfl⟩
theorem iX6_amongTwo_40 : zat mX6_amongTwo 40 3 43 (.invokestatic 29) := ⟨by decide +kernel, rfl⟩
theorem iX6_amongTwo_43 : zat mX6_amongTwo 43 1 44 (.ireturn) := ⟨by decide +kernel, rfl⟩
theorem iX6_amongThree_0 : zat mX6_amongThree 0 1 1 (.iconst 0) := ⟨by decide +kernel, rfl⟩
theorem iX6_amongThree_1 : zat mX6_amongThree 1 1 2 (.istore_n 2) := ⟨by decide +kernel, rfl⟩
theorem iX6_amongThree_2 : zat mX6_amongThree 2 1 3 (.iload_n 2) := ⟨by decide +kernel, rfl⟩
theorem iX6_amongThree_3 : zat mX6_amongThree 3 2 5 (.bipush 27) := ⟨by decide +kernel, rfl⟩
theorem iX6_amongThree_5 : zbr mX6_amongThree 5 8 21 (.if_icmp .gt) := ⟨16, by decide +kernel, rfl, rfl⟩
theorem iX6_amongThree_8 : zat mX6_amongThree 8 1 9 (.aload_n 0) := ⟨by decide +kernel, rfl⟩
theorem iX6_amongThree_9 : zat mX6_amongThree 9 3 12 (.getfield 11) := ⟨by decide +kernel, rfl⟩
theorem iX6_amongThree_12 : zat mX6_amongThree 12 1 13 (.iload_n 2) := ⟨by decide +kernel, rfl⟩
theorem iX6_amongThree_13 : zat mX6_amongThree 13 1 14 (.lconst 0) := ⟨by decide +kernel, rfl⟩
theorem iX6_amongThree_14 : zat mX6_amongThree 14 1 15 (.lastore) := ⟨by decide +kernel, rfl⟩
theorem iX6_amongThree_15 : zat mX6_amongThree 15 3 18 (.iinc 2 1) := ⟨by decide +kernel, rfl⟩
theorem iX6_amongThree_18 : zbr mX6_amongThree 18 21 2 (.goto) := ⟨-16, by decide +kernel, rfl, rfl⟩
theorem iX6_amongThree_21 : zat mX6_amongThree 21 1 22 (.aload_n 0) := ⟨by decide +kernel, rfl⟩
theorem iX6_amongThree_22 : zat mX6_amongThree 22 3 25 (.getfield 11) := ⟨by decide +kernel, rfl⟩
theorem iX6_amongThree_25 : zat mX6_amongThree 25 1 26 (.iconst 0) := ⟨by decide +kernel, rfl⟩
theorem iX6_amongThree_26 : zat mX6_amongThree 26 1 27 (.lconst 1) := ⟨by decide +kernel, rfl⟩
theorem iX6_amongThree_27 : zat mX6_amongThree 27 1 28 (.lastore) := ⟨by decide +kernel, rfl⟩
theorem iX6_amongThree_28 : zat mX6_amongThree 28 1 29 (.iconst 0) := ⟨by decide +kernel, rfl⟩
theorem iX6_amongThree_29 : zat mX6_amongThree 29 1 30 (.istore_n 2) := ⟨by decide +kernel, rfl⟩
theorem iX6_amongThree_30 : zat mX6_amongThree 30 1 31 (.iload_n 2) := ⟨by decide +kernel, rfl⟩
theorem iX6_amongThree_31 : zat mX6_amongThree 31 1 32 (.aload_n 1) := ⟨by decide +kernel, rfl⟩
theorem iX6_amongThree_32 : zat mX6_amongThree 32 3 35 (.getfield 15) := ⟨by decide +kernel, rfl⟩
theorem iX6_amongThree_35 : zbr mX6_amongThree 35 38 54 (.if_icmp .ge) := ⟨19, by decide +kernel, rfl, rfl⟩
theorem iX6_amongThree_38 : zat mX6_amongThree 38 1 39 (.aload_n 0) := ⟨by decide +kernel, rfl⟩
theorem iX6_amongThree_39 : zat mX6_amongThree 39 1 40 (.aload_n 1) := ⟨by decide +kernel, rfl⟩
theorem iX6_amongThree_40 : zat mX6_amongThree 40 3 43 (.getfield 21) := ⟨by decide +kernel, rfl⟩
theorem iX6_amongThree_43 : zat mX6_amongThree 43 1 44 (.iload_n 2) := ⟨by decide +kernel, rfl⟩
theorem iX6_amongThree_44 : zat mX6_amongThree 44 1 45 (.iaload) := ⟨by decide +kernel, rfl⟩
theorem iX6_amongThree_45 : zat mX6_amongThree 45 3 48 (.invokevirtual 33) := ⟨by decide +kernel, rfl⟩
theorem iX6_amongThree_48 : zat mX6_amongThree 48 3 51 (.iinc 2 1) := ⟨by decide +kernel, rfl⟩
theorem iX6_amongThree_51 : zbr mX6_amongThree 51 54 30 (.goto) := ⟨-21, by decide +kernel, rfl, rfl⟩
theorem iX6_amongThree_54 : zat mX6_amongThree 54 1 55 (.aload_n 1) := ⟨by decide +kernel, rfl⟩
theorem iX6_amongThree_55 : zat mX6_amongThree 55 3 58 (.invokevirtual 25) := ⟨by decide +kernel, rfl⟩
theorem iX6_amongThree_58 : zat mX6_amongThree 58 1 59 (.istore_n 2) := ⟨by decide +kernel, rfl⟩
theorem iX6_amongThree_59 : zat mX6_amongThree 59 2 61 (.bipush 27) := ⟨by decide +kernel, rfl⟩
theorem iX6_amongThree_61 : zat mX6_amongThree 61 1 62 (.iload_n 2) := ⟨by decide +kernel, rfl⟩
theorem iX6_amongThree_62 : zat mX6_amongThree 62 1 63 (.iconst 3) := ⟨by decide +kernel, rfl⟩
theorem iX6_amongThree_63 : zat mX6_amongThree 63 1 64 (.idiv) := ⟨by decide +kernel, rfl⟩
theorem iX6_amongThree_64 : zat mX6_amongThree 64 3 67 (.invokestatic 37) := ⟨by decide +kernel, rfl⟩
theorem iX6_amongThree_67 : zat mX6_amongThree 67 1 68 (.istore_n 3) := ⟨by decide +kernel, rfl⟩
theorem iX6_amongThree_68 : zat mX6_amongThree 68 1 69 (.iload_n 3) := ⟨by decide +kernel, rfl⟩
theorem iX6_amongThree_69 : zbr mX6_amongThree 69 72 99 (.ifCond .le) := ⟨30, by decide +kernel, rfl, rfl⟩
theorem iX6_amongThree_72 : zat mX6_amongThree 72 1 73 (.aload_n 0) := ⟨by decide +kernel, rfl⟩
theorem iX6_amongThree_73 : zat mX6_amongThree 73 3 76 (.getfield 11) := ⟨by decide +kernel, rfl⟩
theorem iX6_amongThree_76 : zat mX6_amongThree 76 1 77 (.iload_n 3) := ⟨by decide +kernel, rfl⟩
theorem iX6_amongThree_77 : zat mX6_amongThree 77 1 78 (.laload) := ⟨by decide +kernel, rfl⟩
theorem iX6_amongThree_78 : zat mX6_amongThree 78 1 79 (.iload_n 3) := ⟨by decide +kernel, rfl⟩
theorem iX6_amongThree_79 : zat mX6_amongThree 79 1 80 (.iload_n 2) := ⟨by decide +kernel, rfl⟩
theorem iX6_amongThree_80 : zat mX6_amongThree 80 1 81 (.iload_n 3) := ⟨by decide +kernel, rfl⟩
theorem iX6_amongThree_81 : zat mX6_amongThree 81 1 82 (.isub) := ⟨by decide +kernel, rfl⟩
theorem iX6_amongThree_82 : zat mX6_amongThree 82 1 83 (.iconst 2) := ⟨by decide +kernel, rfl⟩
theorem iX6_amongThree_83 : zat mX6_amongThree 83 1 84 (.idiv) := ⟨by decide +kernel, rfl⟩
theorem iX6_amongThree_84 : zat mX6_amongThree 84 3 87 (.invokestatic 29) := ⟨by decide +kernel, rfl⟩
theorem iX6_amongThree_87 : zat mX6_amongThree 87 1 88 (.iconst (-1)) := ⟨by decide +kernel, rfl⟩
theorem iX6_amongThree_88 : zbr mX6_amongThree 88 91 93 (.if_icmp .eq) := ⟨5, by decide +kernel, rfl, rfl⟩
theorem iX6_amongThree_91 : zat mX6_amongThree 91 1 92 (.iload_n 3) := ⟨by decide +kernel, rfl⟩
theorem iX6_amongThree_92 : zat mX6_amongThree 92 1 93 (.ireturn) := ⟨by decide +kernel, rfl⟩
theorem iX6_amongThree_93 : zat mX6_amongThree 93 3 96 (.iinc 3 (-1)) := ⟨by decide +kernel, rfl⟩
theorem iX6_amongThree_96 : zbr mX6_amongThree 96 99 68 (.goto) := ⟨-28, by decide +kernel, rfl, rfl⟩
theorem iX6_amongThree_99 : zat mX6_amongThree 99 1 100 (.iconst 0) := ⟨by decide +kernel, rfl⟩
theorem iX6_amongThree_100 : zat mX6_amongThree 100 1 101 (.ireturn) := ⟨by decide +kernel, rfl⟩
theorem iX6_giveAway_0 : zat mX6_giveAway 0 2 2 (.bipush 27) := ⟨by decide +kernel, rfl⟩
theorem iX6_giveAway_2 : zat mX6_giveAway 2 1 3 (.istore_n 2) := ⟨by decide +kernel, rfl⟩
theorem iX6_giveAway_3 : zat mX6_giveAway 3 1 4 (.iload_n 2) := ⟨by decide +kernel, rfl⟩
theorem iX6_giveAway_4 : zbr mX6_giveAway 4 7 52 (.ifCond .lt) := ⟨48, by decide +kernel, rfl, rfl⟩
theorem iX6_giveAway_7 : zat mX6_giveAway 7 1 8 (.aload_n 0) := ⟨by decide +kernel, rfl⟩
theorem iX6_giveAway_8 : zat mX6_giveAway 8 3 11 (.getfield 11) := ⟨by decide +kernel, rfl⟩
theorem iX6_giveAway_11 : zat mX6_giveAway 11 1 12 (.iload_n 2) := ⟨by decide +kernel, rfl⟩
theorem iX6_giveAway_12 : zat mX6_giveAway 12 1 13 (.laload) := ⟨by decide +kernel, rfl⟩
theorem iX6_giveAway_13 : zat mX6_giveAway 13 1 14 (.aload_n 0) := ⟨by decide +kernel, rfl⟩
theorem iX6_giveAway_14 : zat mX6_giveAway 14 3 17 (.getfield 11) := ⟨by decide +kernel, rfl⟩
theorem iX6_giveAway_17 : zat mX6_giveAway 17 1 18 (.iload_n 2) := ⟨by decide +kernel, rfl⟩
theorem iX6_giveAway_18 : zat mX6_giveAway 18 1 19 (.laload) := ⟨by decide +kernel, rfl⟩
theorem iX6_giveAway_19 : zat mX6_giveAway 19 1 20 (.iload_n 1) := ⟨by decide +kernel, rfl⟩
theorem iX6_giveAway_20 : zat mX6_giveAway 20 1 21 (.lshl) := ⟨by decide +kernel, rfl⟩
theorem iX6_giveAway_21 : zat mX6_giveAway 21 1 22 (.lor) := ⟨by decide +kernel, rfl⟩
theorem iX6_giveAway_22 : zat mX6_giveAway 22 1 23 (.lstore_n 3) := ⟨by decide +kernel, rfl⟩
theorem iX6_giveAway_23 : zat mX6_giveAway 23 1 24 (.iload_n 2) := ⟨by decide +kernel, rfl⟩
theorem iX6_giveAway_24 : zat mX6_giveAway 24 1 25 (.iload_n 1) := ⟨by decide +kernel, rfl⟩
theorem iX6_giveAway_25 : zbr mX6_giveAway 25 28 39 (.if_icmp .lt) := ⟨14, by decide +kernel, rfl, rfl⟩
theorem iX6_giveAway_28 : zat mX6_giveAway 28 1 29 (.lload_n 3) := ⟨by decide +kernel, rfl⟩
theorem iX6_giveAway_29 : zat mX6_giveAway 29 1 30 (.aload_n 0) := ⟨by decide +kernel, rfl⟩
theorem iX6_giveAway_30 : zat mX6_giveAway 30 3 33 (.getfield 11) := ⟨by decide +kernel, rfl⟩
theorem iX6_giveAway_33 : zat mX6_giveAway 33 1 34 (.iload_n 2) := ⟨by decide +kernel, rfl⟩
theorem iX6_giveAway_34 : zat mX6_giveAway 34 1 35 (.iload_n 1) := ⟨by decide +kernel, rfl⟩
theorem iX6_giveAway_35 : zat mX6_giveAway 35 1 36 (.isub) := ⟨by decide +kernel, rfl⟩
theorem iX6_giveAway_36 : zat mX6_giveAway 36 1 37 (.laload) := ⟨by decide +kernel, rfl⟩
theorem iX6_giveAway_37 : zat mX6_giveAway 37 1 38 (.lor) := ⟨by decide +kernel, rfl⟩
theorem iX6_giveAway_38 : zat mX6_giveAway 38 1 39 (.lstore_n 3) := ⟨by decide +kernel, rfl⟩
theorem iX6_giveAway_39 : zat mX6_giveAway 39 1 40 (.aload_n 0) := ⟨by decide +kernel, rfl⟩
theorem iX6_giveAway_40 : zat mX6_giveAway 40 3 43 (.getfield 11) := ⟨by decide +kernel, rfl⟩
theorem iX6_giveAway_43 : zat mX6_giveAway 43 1 44 (.iload_n 2) := ⟨by decide +kernel, rfl⟩
theorem iX6_giveAway_44 : zat mX6_giveAway 44 1 45 (.lload_n 3) := ⟨by decide +kernel, rfl⟩
theorem iX6_giveAway_45 : zat mX6_giveAway 45 1 46 (.lastore) := ⟨by decide +kernel, rfl⟩
theorem iX6_giveAway_46 : zat mX6_giveAway 46 3 49 (.iinc 2 (-1)) := ⟨by decide +kernel, rfl⟩
theorem iX6_giveAway_49 : zbr mX6_giveAway 49 52 3 (.goto) := ⟨-46, by decide +kernel, rfl, rfl⟩
theorem iX6_giveAway_52 : zat mX6_giveAway 52 1 53 (.return_) := ⟨by decide +kernel, rfl⟩
theorem iX6_highestSum_0 : zat mX6_highestSum 0 1 1 (.iload_n 3) := ⟨by decide +kernel, rfl⟩
theorem iX6_highestSum_1 : zat mX6_highestSum 1 2 3 (.istore 4) := ⟨by decide +kernel, rfl⟩
theorem iX6_highestSum_3 : zat mX6_highestSum 3 2 5 (.iload 4) := ⟨by decide +kernel, rfl⟩
theorem iX6_highestSum_5 : zat mX6_highestSum 5 1 6 (.iload_n 2) := ⟨by decide +kernel, rfl⟩
theorem iX6_highestSum_6 : zbr mX6_highestSum 6 9 29 (.if_icmp .lt) := ⟨23, by decide +kernel, rfl, rfl⟩
theorem iX6_highestSum_9 : zat mX6_highestSum 9 1 10 (.lload_n 0) := ⟨by decide +kernel, rfl⟩
theorem iX6_highestSum_10 : zat mX6_highestSum 10 2 12 (.iload 4) := ⟨by decide +kernel, rfl⟩
theorem iX6_highestSum_12 : zat mX6_highestSum 12 1 13 (.lshr) := ⟨by decide +kernel, rfl⟩
theorem iX6_highestSum_13 : zat mX6_highestSum 13 1 14 (.lconst 1) := ⟨by decide +kernel, rfl⟩
theorem iX6_highestSum_14 : zat mX6_highestSum 14 1 15 (.land) := ⟨by decide +kernel, rfl⟩
theorem iX6_highestSum_15 : zat mX6_highestSum 15 1 16 (.lconst 1) := ⟨by decide +kernel, rfl⟩
theorem iX6_highestSum_16 : zat mX6_highestSum 16 1 17 (.lcmp) := ⟨by decide +kernel, rfl⟩
theorem iX6_highestSum_17 : zbr mX6_highestSum 17 20 23 (.ifCond .ne) := ⟨6, by decide +kernel, rfl, rfl⟩
theorem iX6_highestSum_20 : zat mX6_highestSum 20 2 22 (.iload 4) := ⟨by decide +kernel, rfl⟩
theorem iX6_highestSum_22 : zat mX6_highestSum 22 1 23 (.ireturn) := ⟨by decide +kernel, rfl⟩
theorem iX6_highestSum_23 : zat mX6_highestSum 23 3 26 (.iinc 4 (-1)) := ⟨by decide +kernel, rfl⟩
theorem iX6_highestSum_26 : zbr mX6_highestSum 26 29 3 (.goto) := ⟨-23, by decide +kernel, rfl, rfl⟩
theorem iX6_highestSum_29 : zat mX6_highestSum 29 1 30 (.iconst (-1)) := ⟨by decide +kernel, rfl⟩
theorem iX6_highestSum_30 : zat mX6_highestSum 30 1 31 (.ireturn) := ⟨by decide +kernel, rfl⟩
theorem iX7_init_0 : zat mX7_init 0 1 1 (.aload_n 0) := ⟨by decide +kernel, rfl⟩
theorem iX7_init_1 : zat mX7_init 1 3 4 (.invokespecial 3) := ⟨by decide +kernel, rfl⟩
theorem iX7_init_4 : zat mX7_init 4 1 5 (.aload_n 0) := ⟨by decide +kernel, rfl⟩
theorem iX7_init_5 : zat mX7_init 5 3 8 (.new 9) := ⟨by decide +kernel, rfl⟩
theorem iX7_init_8 : zat mX7_init 8 1 9 (.dup) := ⟨by decide +kernel, rfl⟩
theorem iX7_init_9 : zat mX7_init 9 3 12 (.invokespecial 11) := ⟨by decide +kernel, rfl⟩
theorem iX7_init_12 : zat mX7_init 12 3 15 (.putfield 12) := ⟨by decide +kernel, rfl⟩
theorem iX7_init_15 : zat mX7_init 15 1 16 (.aload_n 0) := ⟨by decide +kernel, rfl⟩
theorem iX7_init_16 : zat mX7_init 16 3 19 (.new 16) := ⟨by decide +kernel, rfl⟩
theorem iX7_init_19 : zat mX7_init 19 1 20 (.dup) := ⟨by decide +kernel, rfl⟩
theorem iX7_init_20 : zat mX7_init 20 3 23 (.invokespecial 18) := ⟨by decide +kernel, rfl⟩
theorem iX7_init_23 : zat mX7_init 23 3 26 (.putfield 19) := ⟨by decide +kernel, rfl⟩
theorem iX7_init_26 : zat mX7_init 26 1 27 (.aload_n 0) := ⟨by decide +kernel, rfl⟩
theorem iX7_init_27 : zat mX7_init 27 3 30 (.new 16) := ⟨by decide +kernel, rfl⟩
theorem iX7_init_30 : zat mX7_init 30 1 31 (.dup) := ⟨by decide +kernel, rfl⟩
theorem iX7_init_31 : zat mX7_init 31 3 34 (.invokespecial 18) := ⟨by decide +kernel, rfl⟩
theorem iX7_init_34 : zat mX7_init 34 3 37 (.putfield 23) := ⟨by decide +kernel, rfl⟩
theorem iX7_init_37 : zat mX7_init 37 1 38 (.aload_n 0) := ⟨by decide +kernel, rfl⟩
theorem iX7_init_38 : zat mX7_init 38 3 41 (.new 26) := ⟨by decide +kernel, rfl⟩
theorem iX7_init_41 : zat mX7_init 41 1 42 (.dup) := ⟨by decide +kernel, rfl⟩
theorem iX7_init_42 : zat mX7_init 42 3 45 (.invokespecial 28) := ⟨by decide +kernel, rfl⟩
theorem iX7_init_45 : zat mX7_init 45 3 48 (.putfield 29) := ⟨by decide +kernel, rfl⟩
theorem iX7_init_48 : zat mX7_init 48 1 49 (.aload_n 0) := ⟨by decide +kernel, rfl⟩
theorem iX7_init_49 : zat mX7_init 49 3 52 (.new 26) := ⟨by decide +kernel, rfl⟩
theorem iX7_init_52 : zat mX7_init 52 1 53 (.dup) := ⟨by decide +kernel, rfl⟩
theorem iX7_init_53 : zat mX7_init 53 3 56 (.invokespecial 28) := ⟨by decide +kernel, rfl⟩
theorem iX7_init_56 : zat mX7_init 56 3 59 (.putfield 33) := ⟨by decide +kernel, rfl⟩
theorem iX7_init_59 : zat mX7_init 59 1 60 (.aload_n 0) := ⟨by decide +kernel, rfl⟩
theorem iX7_init_60 : zat mX7_init 60 3 63 (.new 36) := ⟨by decide +kernel, rfl⟩
theorem iX7_init_63 : zat mX7_init 63 1 64 (.dup) := ⟨by decide +kernel, rfl⟩
theorem iX7_init_64 : zat mX7_init 64 3 67 (.invokespecial 38) := ⟨by decide +kernel, rfl⟩
theorem iX7_init_67 : zat mX7_init 67 3 70 (.putfield 39) := ⟨by decide +kernel, rfl⟩
theorem iX7_init_70 : zat mX7_init 70 1 71 (.aload_n 0) := ⟨by decide +kernel, rfl⟩
theorem iX7_init_71 : zat mX7_init 71 3 74 (.new 43) := ⟨by decide +kernel, rfl⟩
theorem iX7_init_74 : zat mX7_init 74 1 75 (.dup) := ⟨by decide +kernel, rfl⟩
theorem iX7_init_75 : zat mX7_init 75 3 78 (.invokespecial 45) := ⟨by decide +kernel, rfl⟩
theorem iX7_init_78 : zat mX7_init 78 3 81 (.putfield 46) := ⟨by decide +kernel, rfl⟩
theorem iX7_init_81 : zat mX7_init 81 1 82 (.aload_n 0) := ⟨by decide +kernel, rfl⟩
theorem iX7_init_82 : zat mX7_init 82 3 85 (.new 50) := ⟨by decide +kernel, rfl⟩
theorem iX7_init_85 : zat mX7_init 85 1 86 (.dup) := ⟨by decide +kernel, rfl⟩
theorem iX7_init_86 : zat mX7_init 86 3 89 (.invokespecial 52) := ⟨by decide +kernel, rfl⟩
theorem iX7_init_89 : zat mX7_init 89 3 92 (.putfield 53) := ⟨by decide +kernel, rfl⟩
theorem iX7_init_92 : zat mX7_init 92 1 93 (.return_) := ⟨by decide +kernel, rfl⟩
theorem iX7_letter_0 : zat mX7_letter 0 1 1 (.iload_n 1) := ⟨by decide +kernel, rfl⟩
theorem iX7_letter_1 : zat mX7_letter 1 1 2 (.iconst 1) := ⟨by decide +kernel, rfl⟩
theorem iX7_letter_2 : zbr mX7_letter 2 5 11 (.if_icmp .lt) := ⟨9, by decide +kernel, rfl, rfl⟩
theorem iX7_letter_5 : zat mX7_letter 5 1 6 (.iload_n 1) := ⟨by decide +kernel, rfl⟩
theorem iX7_letter_6 : zat mX7_letter 6 2 8 (.bipush 126) := ⟨by decide +kernel, rfl⟩
theorem iX7_letter_8 : zbr mX7_letter 8 11 14 (.if_icmp .le) := ⟨6, by decide +kernel, rfl, rfl⟩
theorem iX7_letter_11 : zat mX7_letter 11 2 13 (.bipush (-102)) := ⟨by decide +kernel, rfl⟩
theorem iX7_letter_13 : zat mX7_letter 13 1 14 (.ireturn) := ⟨by decide +kernel, rfl⟩
theorem iX7_letter_14 : zat mX7_letter 14 1 15 (.aload_n 0) := ⟨by decide +kernel, rfl⟩
theorem iX7_letter_15 : zat mX7_letter 15 3 18 (.getfield 12) := ⟨by decide +kernel, rfl⟩
theorem iX7_letter_18 : zat mX7_letter 18 3 21 (.getfield 57) := ⟨by decide +kernel, rfl⟩
theorem iX7_letter_21 : zat mX7_letter 21 2 23 (.bipush 38) := ⟨by decide +kernel, rfl⟩
theorem iX7_letter_23 : zbr mX7_letter 23 26 29 (.if_icmp .lt) := ⟨6, by decide +kernel, rfl, rfl⟩
theorem iX7_letter_26 : zat mX7_letter 26 2 28 (.bipush (-104)) := ⟨by decide +kernel, rfl⟩
theorem iX7_letter_28 : zat mX7_letter 28 1 29 (.ireturn) := ⟨by decide +kernel, rfl⟩
theorem iX7_letter_29 : zat mX7_letter 29 1 30 (.aload_n 0) := ⟨by decide +kernel, rfl⟩
theorem iX7_letter_30 : zat mX7_letter 30 3 33 (.getfield 12) := ⟨by decide +kernel, rfl⟩
theorem iX7_letter_33 : zat mX7_letter 33 1 34 (.iload_n 1) := ⟨by decide +kernel, rfl⟩
theorem iX7_letter_34 : zat mX7_letter 34 3 37 (.invokevirtual 61) := ⟨by decide +kernel, rfl⟩
theorem iX7_letter_37 : zat mX7_letter 37 1 38 (.aload_n 0) := ⟨by decide +kernel, rfl⟩
theorem iX7_letter_38 : zat mX7_letter 38 3 41 (.getfield 12) := ⟨by decide +kernel, rfl⟩
theorem iX7_letter_41 : zat mX7_letter 41 3 44 (.getfield 57) := ⟨by decide +kernel, rfl⟩
theorem iX7_letter_44 : zat mX7_letter 44 1 45 (.ireturn) := ⟨by decide +kernel, rfl⟩
theorem iX7_blank_0 : zat mX7_blank 0 1 1 (.aload_n 0) := ⟨by decide +kernel, rfl⟩
theorem iX7_blank_1 : zat mX7_blank 1 3 4 (.getfield 12) := ⟨by decide +kernel, rfl⟩
theorem iX7_blank_4 : zat mX7_blank 4 3 7 (.getfield 57) := ⟨by decide +kernel, rfl⟩
theorem iX7_blank_7 : zat mX7_blank 7 1 8 (.istore_n 1) := ⟨by decide +kernel, rfl⟩
theorem iX7_blank_8 : zat mX7_blank 8 1 9 (.aload_n 0) := ⟨by decide +kernel, rfl⟩
theorem iX7_blank_9 : zat mX7_blank 9 3 12 (.getfield 12) := ⟨by decide +kernel, rfl⟩
theorem iX7_blank_12 : zat mX7_blank 12 1 13 (.iconst 0) := ⟨by decide +kernel, rfl⟩
theorem iX7_blank_13 : zat mX7_blank 13 3 16 (.putfield 57) := ⟨by decide +kernel, rfl⟩
theorem iX7_blank_16 : zat mX7_blank 16 1 17 (.iload_n 1) := ⟨by decide +kernel, rfl⟩
theorem iX7_blank_17 : zat mX7_blank 17 1 18 (.ireturn) := ⟨by decide +kernel, rfl⟩
theorem iX7_fault_0 : zat mX7_fault 0 1 1 (.aload_n 0) := ⟨by decide +kernel, rfl⟩
theorem iX7_fault_1 : zat mX7_fault 1 3 4 (.getfield 12) := ⟨by decide +kernel, rfl⟩
theorem iX7_fault_4 : zat mX7_fault 4 3 7 (.invokevirtual 65) := ⟨by decide +kernel, rfl⟩
theorem iX7_fault_7 : zat mX7_fault 7 1 8 (.ireturn) := ⟨by decide +kernel, rfl⟩
theorem iX7_barn_0 : zat mX7_barn 0 1 1 (.aload_n 0) := ⟨by decide +kernel, rfl⟩
theorem iX7_barn_1 : zat mX7_barn 1 3 4 (.getfield 12) := ⟨by decide +kernel, rfl⟩
theorem iX7_barn_4 : zat mX7_barn 4 3 7 (.invokevirtual 69) := ⟨by decide +kernel, rfl⟩
theorem iX7_barn_7 : zbr mX7_barn 7 10 13 (.ifCond .ne) := ⟨6, by decide +kernel, rfl, rfl⟩
theorem iX7_barn_10 : zat mX7_barn 10 2 12 (.bipush (-103)) := ⟨by decide +kernel, rfl⟩
theorem iX7_barn_12 : zat mX7_barn 12 1 13 (.ireturn) := ⟨by decide +kernel, rfl⟩
theorem iX7_barn_13 : zat mX7_barn 13 1 14 (.aload_n 0) := ⟨by decide +kernel, rfl⟩
theorem iX7_barn_14 : zat mX7_barn 14 3 17 (.getfield 12) := ⟨by decide +kernel, rfl⟩
theorem iX7_barn_17 : zat mX7_barn 17 1 18 (.aload_n 0) := ⟨by decide +kernel, rfl⟩
theorem iX7_barn_18 : zat mX7_barn 18 3 21 (.getfield 19) := ⟨by decide +kernel, rfl⟩
theorem iX7_barn_21 : zat mX7_barn 21 3 24 (.invokevirtual 73) := ⟨by decide +kernel, rfl⟩
theorem iX7_barn_24 : zat mX7_barn 24 1 25 (.aload_n 0) := ⟨by decide +kernel, rfl⟩
theorem iX7_barn_25 : zat mX7_barn 25 3 28 (.getfield 12) := ⟨by decide +kernel, rfl⟩
theorem iX7_barn_28 : zat mX7_barn 28 1 29 (.iconst 0) := ⟨by decide +kernel, rfl⟩
theorem iX7_barn_29 : zat mX7_barn 29 3 32 (.putfield 57) := ⟨by decide +kernel, rfl⟩
theorem iX7_barn_32 : zat mX7_barn 32 1 33 (.aload_n 0) := ⟨by decide +kernel, rfl⟩
theorem iX7_barn_33 : zat mX7_barn 33 3 36 (.getfield 29) := ⟨by decide +kernel, rfl⟩
theorem iX7_barn_36 : zat mX7_barn 36 1 37 (.iconst 0) := ⟨by decide +kernel, rfl⟩
theorem iX7_barn_37 : zat mX7_barn 37 3 40 (.putfield 77) := ⟨by decide +kernel, rfl⟩
theorem iX7_barn_40 : zat mX7_barn 40 1 41 (.aload_n 0) := ⟨by decide +kernel, rfl⟩
theorem iX7_barn_41 : zat mX7_barn 41 1 42 (.iconst 0) := ⟨by decide +kernel, rfl⟩
theorem iX7_barn_42 : zat mX7_barn 42 3 45 (.putfield 78) := ⟨by decide +kernel, rfl⟩
theorem iX7_barn_45 : zat mX7_barn 45 1 46 (.aload_n 0) := ⟨by decide +kernel, rfl⟩
theorem iX7_barn_46 : zat mX7_barn 46 1 47 (.dup) := ⟨by decide +kernel, rfl⟩
theorem iX7_barn_47 : zat mX7_barn 47 3 50 (.getfield 82) := ⟨by decide +kernel, rfl⟩
theorem iX7_barn_50 : zat mX7_barn 50 1 51 (.iconst 1) := ⟨by decide +kernel, rfl⟩
theorem iX7_barn_51 : zat mX7_barn 51 1 52 (.iadd) := ⟨by decide +kernel, rfl⟩
theorem iX7_barn_52 : zat mX7_barn 52 3 55 (.putfield 82) := ⟨by decide +kernel, rfl⟩
theorem iX7_barn_55 : zat mX7_barn 55 1 56 (.aload_n 0) := ⟨by decide +kernel, rfl⟩
theorem iX7_barn_56 : zat mX7_barn 56 3 59 (.getfield 19) := ⟨by decide +kernel, rfl⟩
theorem iX7_barn_59 : zat mX7_barn 59 3 62 (.getfield 85) := ⟨by decide +kernel, rfl⟩
theorem iX7_barn_62 : zat mX7_barn 62 1 63 (.ireturn) := ⟨by decide +kernel, rfl⟩
theorem iX7_cart_0 : zat mX7_cart 0 1 1 (.aload_n 0) := ⟨by decide +kernel, rfl⟩
theorem iX7_cart_1 : zat mX7_cart 1 1 2 (.iload_n 1) := ⟨by decide +kernel, rfl⟩
theorem iX7_cart_2 : zat mX7_cart 2 3 5 (.invokevirtual 88) := ⟨by decide +kernel, rfl⟩
theorem iX7_cart_5 : zbr mX7_cart 5 8 11 (.ifCond .eq) := ⟨6, by decide +kernel, rfl, rfl⟩
theorem iX7_cart_8 : zat mX7_cart 8 2 10 (.bipush (-101)) := ⟨by decide +kernel, rfl⟩
theorem iX7_cart_10 : zat mX7_cart 10 1 11 (.ireturn) := ⟨by decide +kernel, rfl⟩
theorem iX7_cart_11 : zat mX7_cart 11 1 12 (.aload_n 0) := ⟨by decide +kernel, rfl⟩
theorem iX7_cart_12 : zat mX7_cart 12 3 15 (.getfield 19) := ⟨by decide +kernel, rfl⟩
theorem iX7_cart_15 : zat mX7_cart 15 1 16 (.iload_n 1) := ⟨by decide +kernel, rfl⟩
theorem iX7_cart_16 : zat mX7_cart 16 3 19 (.invokevirtual 92) := ⟨by decide +kernel, rfl⟩
theorem iX7_cart_19 : zat mX7_cart 19 1 20 (.istore_n 3) := ⟨by decide +kernel, rfl⟩
theorem iX7_cart_20 : zat mX7_cart 20 1 21 (.iload_n 2) := ⟨by decide +kernel, rfl⟩
theorem iX7_cart_21 : zat mX7_cart 21 67 88 (.tableswitch 238 0 12 #[67, 77, 87, 97, 107, 117, 134, 151, 176, 238, 201, 201, 201]) := ⟨by decide +kernel, rfl⟩
theorem iX7_cart_88 : zat mX7_cart 88 1 89 (.aload_n 0) := ⟨by decide +kernel, rfl⟩
theorem iX7_cart_89 : zat mX7_cart 89 3 92 (.getfield 19) := ⟨by decide +kernel, rfl⟩
theorem iX7_cart_92 : zat mX7_cart 92 3 95 (.getfield 95) := ⟨by decide +kernel, rfl⟩
theorem iX7_cart_95 : zat mX7_cart 95 1 96 (.iload_n 1) := ⟨by decide +kernel, rfl⟩
theorem iX7_cart_96 : zat mX7_cart 96 1 97 (.iaload) := ⟨by decide +kernel, rfl⟩
theorem iX7_cart_97 : zat mX7_cart 97 1 98 (.ireturn) := ⟨by decide +kernel, rfl⟩
theorem iX7_cart_98 : zat mX7_cart 98 1 99 (.aload_n 0) := ⟨by decide +kernel, rfl⟩
theorem iX7_cart_99 : zat mX7_cart 99 3 102 (.getfield 19) := ⟨by decide +kernel, rfl⟩
theorem iX7_cart_102 : zat mX7_cart 102 3 105 (.getfield 99) := ⟨by decide +kernel, rfl⟩
theorem iX7_cart_105 : zat mX7_cart 105 1 106 (.iload_n 1) := ⟨by decide +kernel, rfl⟩
theorem iX7_cart_106 : zat mX7_cart 106 1 107 (.iaload) := ⟨by decide +kernel, rfl⟩
theorem iX7_cart_107 : zat mX7_cart 107 1 108 (.ireturn) := ⟨by decide +kernel, rfl⟩
theorem iX7_cart_108 : zat mX7_cart 108 1 109 (.aload_n 0) := ⟨by decide +kernel, rfl⟩
theorem iX7_cart_109 : zat mX7_cart 109 3 112 (.getfield 19) := ⟨by decide +kernel, rfl⟩
theorem iX7_cart_112 : zat mX7_cart 112 3 115 (.getfield 102) := ⟨by decide +kernel, rfl⟩
theorem iX7_cart_115 : zat mX7_cart 115 1 116 (.iload_n 1) := ⟨by decide +kernel, rfl⟩
theorem iX7_cart_116 : zat mX7_cart 116 1 117 (.iaload) := ⟨by decide +kernel, rfl⟩
theorem iX7_cart_117 : zat mX7_cart 117 1 118 (.ireturn) := ⟨by decide +kernel, rfl⟩
theorem iX7_cart_118 : zat mX7_cart 118 1 119 (.aload_n 0) := ⟨by decide +kernel, rfl⟩
theorem iX7_cart_119 : zat mX7_cart 119 3 122 (.getfield 19) := ⟨by decide +kernel, rfl⟩
theorem iX7_cart_122 : zat mX7_cart 122 3 125 (.getfield 105) := ⟨by decide +kernel, rfl⟩
theorem iX7_cart_125 : zat mX7_cart 125 1 126 (.iload_n 1) := ⟨by decide +kernel, rfl⟩
theorem iX7_cart_126 : zat mX7_cart 126 1 127 (.iaload) := ⟨by decide +kernel, rfl⟩
theorem iX7_cart_127 : zat mX7_cart 127 1 128 (.ireturn) := ⟨by decide +kernel, rfl⟩
theorem iX7_cart_128 : zat mX7_cart 128 1 129 (.aload_n 0) := ⟨by decide +kernel, rfl⟩
theorem iX7_cart_129 : zat mX7_cart 129 3 132 (.getfield 19) := ⟨by decide +kernel, rfl⟩
theorem iX7_cart_132 : zat mX7_cart 132 3 135 (.getfield 108) := ⟨by decide +kernel, rfl⟩
theorem iX7_cart_135 : zat mX7_cart 135 1 136 (.iload_n 1) := ⟨by decide +kernel, rfl⟩
theorem iX7_cart_136 : zat mX7_cart 136 1 137 (.iaload) := ⟨by decide +kernel, rfl⟩
theorem iX7_cart_137 : zat mX7_cart 137 1 138 (.ireturn) := ⟨by decide +kernel, rfl⟩
theorem iX7_cart_138 : zat mX7_cart 138 1 139 (.iload_n 3) := ⟨by decide +kernel, rfl⟩
theorem iX7_cart_139 : zbr mX7_cart 139 142 146 (.ifCond .eq) := ⟨7, by decide +kernel, rfl, rfl⟩
theorem iX7_cart_142 : zat mX7_cart 142 1 143 (.iconst (-1)) := ⟨by decide +kernel, rfl⟩
theorem iX7_cart_143 : zbr mX7_cart 143 146 154 (.goto) := ⟨11, by decide +kernel, rfl, rfl⟩
theorem iX7_cart_146 : zat mX7_cart 146 1 147 (.aload_n 0) := ⟨by decide +kernel, rfl⟩
theorem iX7_cart_147 : zat mX7_cart 147 3 150 (.getfield 19) := ⟨by decide +kernel, rfl⟩
theorem iX7_cart_150 : zat mX7_cart 150 1 151 (.iload_n 1) := ⟨by decide +kernel, rfl⟩
theorem iX7_cart_151 : zat mX7_cart 151 3 154 (.invokevirtual 111) := ⟨by decide +kernel, rfl⟩
theorem iX7_cart_154 : zat mX7_cart 154 1 155 (.ireturn) := ⟨by decide +kernel, rfl⟩
theorem iX7_cart_155 : zat mX7_cart 155 1 156 (.iload_n 3) := ⟨by decide +kernel, rfl⟩
theorem iX7_cart_156 : zbr mX7_cart 156 159 163 (.ifCond .eq) := ⟨7, by decide +kernel, rfl, rfl⟩
theorem iX7_cart_159 : zat mX7_cart 159 1 160 (.iconst 0) := ⟨by decide +kernel, rfl⟩
theorem iX7_cart_160 : zbr mX7_cart 160 163 171 (.goto) := ⟨11, by decide +kernel, rfl, rfl⟩
theorem iX7_cart_163 : zat mX7_cart 163 1 164 (.aload_n 0) := ⟨by decide +kernel, rfl⟩
theorem iX7_cart_164 : zat mX7_cart 164 3 167 (.getfield 19) := ⟨by decide +kernel, rfl⟩
theorem iX7_cart_167 : zat mX7_cart 167 1 168 (.iload_n 1) := ⟨by decide +kernel, rfl⟩
theorem iX7_cart_168 : zat mX7_cart 168 3 171 (.invokevirtual 115) := ⟨by decide +kernel, rfl⟩
theorem iX7_cart_171 : zat mX7_cart 171 1 172 (.ireturn) := ⟨by decide +kernel, rfl⟩
theorem iX7_cart_172 : zat mX7_cart 172 1 173 (.iload_n 3) := ⟨by decide +kernel, rfl⟩
theorem iX7_cart_173 : zbr mX7_cart 173 176 180 (.ifCond .eq) := ⟨7, by decide +kernel, rfl, rfl⟩
theorem iX7_cart_176 : zat mX7_cart 176 1 177 (.iconst (-1)) := ⟨by decide +kernel, rfl⟩
theorem iX7_cart_177 : zbr mX7_cart 177 180 196 (.goto) := ⟨19, by decide +kernel, rfl, rfl⟩
theorem iX7_cart_180 : zat mX7_cart 180 1 181 (.aload_n 0) := ⟨by decide +kernel, rfl⟩
theorem iX7_cart_181 : zat mX7_cart 181 3 184 (.getfield 46) := ⟨by decide +kernel, rfl⟩
theorem iX7_cart_184 : zat mX7_cart 184 1 185 (.aload_n 0) := ⟨by decide +kernel, rfl⟩
theorem iX7_cart_185 : zat mX7_cart 185 3 188 (.getfield 19) := ⟨by decide +kernel, rfl⟩
theorem iX7_cart_188 : zat mX7_cart 188 1 189 (.aload_n 0) := ⟨by decide +kernel, rfl⟩
theorem iX7_cart_189 : zat mX7_cart 189 3 192 (.getfield 29) := ⟨by decide +kernel, rfl⟩
theorem iX7_cart_192 : zat mX7_cart 192 1 193 (.iload_n 1) := ⟨by decide +kernel, rfl⟩
theorem iX7_cart_193 : zat mX7_cart 193 3 196 (.invokevirtual 118) := ⟨by decide +kernel, rfl⟩
theorem iX7_cart_196 : zat mX7_cart 196 1 197 (.ireturn) := ⟨by decide +kernel, rfl⟩
theorem iX7_cart_197 : zat mX7_cart 197 1 198 (.iload_n 3) := ⟨by decide +kernel, rfl⟩
theorem iX7_cart_198 : zbr mX7_cart 198 201 205 (.ifCond .eq) := ⟨7, by decide +kernel, rfl, rfl⟩
theorem iX7_cart_201 : zat mX7_cart 201 1 202 (.iconst (-1)) := ⟨by decide +kernel, rfl⟩
theorem iX7_cart_202 : zbr mX7_cart 202 205 221 (.goto) := ⟨19, by decide +kernel, rfl, rfl⟩
theorem iX7_cart_205 : zat mX7_cart 205 1 206 (.aload_n 0) := ⟨by decide +kernel, rfl⟩
theorem iX7_cart_206 : zat mX7_cart 206 3 209 (.getfield 46) := ⟨by decide +kernel, rfl⟩
theorem iX7_cart_209 : zat mX7_cart 209 1 210 (.aload_n 0) := ⟨by decide +kernel, rfl⟩
theorem iX7_cart_210 : zat mX7_cart 210 3 213 (.getfield 19) := ⟨by decide +kernel, rfl⟩
theorem iX7_cart_213 : zat mX7_cart 213 1 214 (.aload_n 0) := ⟨by decide +kernel, rfl⟩
theorem iX7_cart_214 : zat mX7_cart 214 3 217 (.getfield 29) := ⟨by decide +kernel, rfl⟩
theorem iX7_cart_217 : zat mX7_cart 217 1 218 (.iload_n 1) := ⟨by decide +kernel, rfl⟩
theorem iX7_cart_218 : zat mX7_cart 218 3 221 (.invokevirtual 122) := ⟨by decide +kernel, rfl⟩
theorem iX7_cart_221 : zat mX7_cart 221 1 222 (.ireturn) := ⟨by decide +kernel, rfl⟩
theorem iX7_cart_222 : zat mX7_cart 222 1 223 (.iload_n 3) := ⟨by decide +kernel, rfl⟩
theorem iX7_cart_223 : zbr mX7_cart 223 226 230 (.ifCond .eq) := ⟨7, by decide +kernel, rfl, rfl⟩
theorem iX7_cart_226 : zat mX7_cart 226 1 227 (.iconst (-1)) := ⟨by decide +kernel, rfl⟩
theorem iX7_cart_227 : zbr mX7_cart 227 230 258 (.goto) := ⟨31, by decide +kernel, rfl, rfl⟩
theorem iX7_cart_230 : zat mX7_cart 230 1 231 (.aload_n 0) := ⟨by decide +kernel, rfl⟩
theorem iX7_cart_231 : zat mX7_cart 231 3 234 (.getfield 19) := ⟨by decide +kernel, rfl⟩
theorem iX7_cart_234 : zat mX7_cart 234 3 237 (.getfield 95) := ⟨by decide +kernel, rfl⟩
theorem iX7_cart_237 : zat mX7_cart 237 1 238 (.iload_n 1) := ⟨by decide +kernel, rfl⟩
theorem iX7_cart_238 : zat mX7_cart 238 1 239 (.iaload) := ⟨by decide +kernel, rfl⟩
theorem iX7_cart_239 : zat mX7_cart 239 1 240 (.iload_n 2) := ⟨by decide +kernel, rfl⟩
theorem iX7_cart_240 : zat mX7_cart 240 2 242 (.bipush 9) := ⟨by decide +kernel, rfl⟩
theorem iX7_cart_242 : zat mX7_cart 242 1 243 (.isub) := ⟨by decide +kernel, rfl⟩
theorem iX7_cart_243 : zat mX7_cart 243 1 244 (.aload_n 0) := ⟨by decide +kernel, rfl⟩
theorem iX7_cart_244 : zat mX7_cart 244 3 247 (.getfield 19) := ⟨by decide +kernel, rfl⟩
theorem iX7_cart_247 : zat mX7_cart 247 3 250 (.getfield 99) := ⟨by decide +kernel, rfl⟩
theorem iX7_cart_250 : zat mX7_cart 250 1 251 (.iload_n 1) := ⟨by decide +kernel, rfl⟩
theorem iX7_cart_251 : zat mX7_cart 251 1 252 (.iaload) := ⟨by decide +kernel, rfl⟩
theorem iX7_cart_252 : zat mX7_cart 252 3 255 (.invokestatic 125) := ⟨by decide +kernel, rfl⟩
theorem iX7_cart_255 : zat mX7_cart 255 3 258 (.invokestatic 131) := ⟨by decide +kernel, rfl⟩
theorem iX7_cart_258 : zat mX7_cart 258 1 259 (.ireturn) := ⟨by decide +kernel, rfl⟩
theorem iX7_cart_259 : zat mX7_cart 259 2 261 (.bipush (-102)) := ⟨by decide +kernel, rfl⟩
theorem iX7_cart_261 : zat mX7_cart 261 1 262 (.ireturn) := ⟨by decide +kernel, rfl⟩
theorem iX7_as_0 : zat mX7_as 0 1 1 (.aload_n 0) := ⟨by decide +kernel, rfl⟩
theorem iX7_as_1 : zat mX7_as 1 1 2 (.iload_n 1) := ⟨by decide +kernel, rfl⟩
theorem iX7_as_2 : zat mX7_as 2 3 5 (.invokevirtual 88) := ⟨by decide +kernel, rfl⟩
theorem iX7_as_5 : zbr mX7_as 5 8 11 (.ifCond .eq) := ⟨6, by decide +kernel, rfl, rfl⟩
theorem iX7_as_8 : zat mX7_as 8 2 10 (.bipush (-101)) := ⟨by decide +kernel, rfl⟩
theorem iX7_as_10 : zat mX7_as 10 1 11 (.ireturn) := ⟨by decide +kernel, rfl⟩
theorem iX7_as_11 : zat mX7_as 11 1 12 (.iload_n 2) := ⟨by decide +kernel, rfl⟩
theorem iX7_as_12 : zbr mX7_as 12 15 20 (.ifCond .lt) := ⟨8, by decide +kernel, rfl, rfl⟩
theorem iX7_as_15 : zat mX7_as 15 1 16 (.iload_n 2) := ⟨by decide +kernel, rfl⟩
theorem iX7_as_16 : zat mX7_as 16 1 17 (.iconst 5) := ⟨by decide +kernel, rfl⟩
theorem iX7_as_17 : zbr mX7_as 17 20 23 (.if_icmp .lt) := ⟨6, by decide +kernel, rfl, rfl⟩
theorem iX7_as_20 : zat mX7_as 20 2 22 (.bipush (-102)) := ⟨by decide +kernel, rfl⟩
theorem iX7_as_22 : zat mX7_as 22 1 23 (.ireturn) := ⟨by decide +kernel, rfl⟩
theorem iX7_as_23 : zat mX7_as 23 1 24 (.aload_n 0) := ⟨by decide +kernel, rfl⟩
theorem iX7_as_24 : zat mX7_as 24 3 27 (.getfield 19) := ⟨by decide +kernel, rfl⟩
theorem iX7_as_27 : zat mX7_as 27 3 30 (.getfield 95) := ⟨by decide +kernel, rfl⟩
theorem iX7_as_30 : zat mX7_as 30 1 31 (.iload_n 1) := ⟨by decide +kernel, rfl⟩
theorem iX7_as_31 : zat mX7_as 31 1 32 (.iaload) := ⟨by decide +kernel, rfl⟩
theorem iX7_as_32 : zat mX7_as 32 1 33 (.iload_n 2) := ⟨by decide +kernel, rfl⟩
theorem iX7_as_33 : zat mX7_as 33 3 36 (.invokestatic 136) := ⟨by decide +kernel, rfl⟩
theorem iX7_as_36 : zbr mX7_as 36 39 43 (.ifCond .eq) := ⟨7, by decide +kernel, rfl, rfl⟩
theorem iX7_as_39 : zat mX7_as 39 1 40 (.iload_n 1) := ⟨by decide +kernel, rfl⟩
theorem iX7_as_40 : zbr mX7_as 40 43 44 (.goto) := ⟨4, by decide +kernel, rfl, rfl⟩
theorem iX7_as_43 : zat mX7_as 43 1 44 (.iconst (-1)) := ⟨by decide +kernel, rfl⟩
theorem iX7_as_44 : zat mX7_as 44 1 45 (.ireturn) := ⟨by decide +kernel, rfl⟩
theorem iX7_bay_0 : zat mX7_bay 0 1 1 (.aload_n 0) := ⟨by decide +kernel, rfl⟩
theorem iX7_bay_1 : zat mX7_bay 1 1 2 (.iload_n 1) := ⟨by decide +kernel, rfl⟩
theorem iX7_bay_2 : zat mX7_bay 2 3 5 (.invokevirtual 140) := ⟨by decide +kernel, rfl⟩
theorem iX7_bay_5 : zbr mX7_bay 5 8 11 (.ifCond .eq) := ⟨6, by decide +kernel, rfl, rfl⟩
theorem iX7_bay_8 : zat mX7_bay 8 2 10 (.bipush (-101)) := ⟨by decide +kernel, rfl⟩
theorem iX7_bay_10 : zat mX7_bay 10 1 11 (.ireturn) := ⟨by decide +kernel, rfl⟩
theorem iX7_bay_11 : zat mX7_bay 11 1 12 (.iload_n 2) := ⟨by decide +kernel, rfl⟩
theorem iX7_bay_12 : zat mX7_bay 12 68 80 (.tableswitch 143 0 12 #[68, 78, 87, 96, 109, 143, 143, 143, 143, 143, 130, 130, 130]) := ⟨by decide +kernel, rfl⟩
theorem iX7_bay_80 : zat mX7_bay 80 1 81 (.aload_n 0) := ⟨by decide +kernel, rfl⟩
theorem iX7_bay_81 : zat mX7_bay 81 3 84 (.getfield 19) := ⟨by decide +kernel, rfl⟩
theorem iX7_bay_84 : zat mX7_bay 84 3 87 (.getfield 143) := ⟨by decide +kernel, rfl⟩
theorem iX7_bay_87 : zat mX7_bay 87 1 88 (.iload_n 1) := ⟨by decide +kernel, rfl⟩
theorem iX7_bay_88 : zat mX7_bay 88 1 89 (.iaload) := ⟨by decide +kernel, rfl⟩
theorem iX7_bay_89 : zat mX7_bay 89 1 90 (.ireturn) := ⟨by decide +kernel, rfl⟩
theorem iX7_bay_90 : zat mX7_bay 90 1 91 (.aload_n 0) := ⟨by decide +kernel, rfl⟩
theorem iX7_bay_91 : zat mX7_bay 91 3 94 (.getfield 19) := ⟨by decide +kernel, rfl⟩
theorem iX7_bay_94 : zat mX7_bay 94 1 95 (.iload_n 1) := ⟨by decide +kernel, rfl⟩
theorem iX7_bay_95 : zat mX7_bay 95 3 98 (.invokevirtual 146) := ⟨by decide +kernel, rfl⟩
theorem iX7_bay_98 : zat mX7_bay 98 1 99 (.ireturn) := ⟨by decide +kernel, rfl⟩
theorem iX7_bay_99 : zat mX7_bay 99 1 100 (.aload_n 0) := ⟨by decide +kernel, rfl⟩
theorem iX7_bay_100 : zat mX7_bay 100 3 103 (.getfield 19) := ⟨by decide +kernel, rfl⟩
theorem iX7_bay_103 : zat mX7_bay 103 1 104 (.iload_n 1) := ⟨by decide +kernel, rfl⟩
theorem iX7_bay_104 : zat mX7_bay 104 3 107 (.invokevirtual 149) := ⟨by decide +kernel, rfl⟩
theorem iX7_bay_107 : zat mX7_bay 107 1 108 (.ireturn) := ⟨by decide +kernel, rfl⟩
theorem iX7_bay_108 : zat mX7_bay 108 1 109 (.aload_n 0) := ⟨by decide +kernel, rfl⟩
theorem iX7_bay_109 : zat mX7_bay 109 3 112 (.getfield 39) := ⟨by decide +kernel, rfl⟩
theorem iX7_bay_112 : zat mX7_bay 112 1 113 (.aload_n 0) := ⟨by decide +kernel, rfl⟩
theorem iX7_bay_113 : zat mX7_bay 113 3 116 (.getfield 19) := ⟨by decide +kernel, rfl⟩
theorem iX7_bay_116 : zat mX7_bay 116 1 117 (.iload_n 1) := ⟨by decide +kernel, rfl⟩
theorem iX7_bay_117 : zat mX7_bay 117 3 120 (.invokevirtual 152) := ⟨by decide +kernel, rfl⟩
theorem iX7_bay_120 : zat mX7_bay 120 1 121 (.ireturn) := ⟨by decide +kernel, rfl⟩
theorem iX7_bay_121 : zat mX7_bay 121 1 122 (.aload_n 0) := ⟨by decide +kernel, rfl⟩
theorem iX7_bay_122 : zat mX7_bay 122 3 125 (.getfield 19) := ⟨by decide +kernel, rfl⟩
theorem iX7_bay_125 : zat mX7_bay 125 1 126 (.iload_n 1) := ⟨by decide +kernel, rfl⟩
theorem iX7_bay_126 : zat mX7_bay 126 1 127 (.aload_n 0) := ⟨by decide +kernel, rfl⟩
theorem iX7_bay_127 : zat mX7_bay 127 3 130 (.getfield 39) := ⟨by decide +kernel, rfl⟩
theorem iX7_bay_130 : zat mX7_bay 130 1 131 (.aload_n 0) := ⟨by decide +kernel, rfl⟩
theorem iX7_bay_131 : zat mX7_bay 131 3 134 (.getfield 19) := ⟨by decide +kernel, rfl⟩
theorem iX7_bay_134 : zat mX7_bay 134 1 135 (.iload_n 1) := ⟨by decide +kernel, rfl⟩
theorem iX7_bay_135 : zat mX7_bay 135 3 138 (.invokevirtual 152) := ⟨by decide +kernel, rfl⟩
theorem iX7_bay_138 : zat mX7_bay 138 3 141 (.invokevirtual 156) := ⟨by decide +kernel, rfl⟩
theorem iX7_bay_141 : zat mX7_bay 141 1 142 (.ireturn) := ⟨by decide +kernel, rfl⟩
theorem iX7_bay_142 : zat mX7_bay 142 1 143 (.aload_n 0) := ⟨by decide +kernel, rfl⟩
theorem iX7_bay_143 : zat mX7_bay 143 3 146 (.getfield 19) := ⟨by decide +kernel, rfl⟩
theorem iX7_bay_146 : zat mX7_bay 146 1 147 (.iload_n 1) := ⟨by decide +kernel, rfl⟩
theorem iX7_bay_147 : zat mX7_bay 147 1 148 (.iload_n 2) := ⟨by decide +kernel, rfl⟩
theorem iX7_bay_148 : zat mX7_bay 148 2 150 (.bipush 10) := ⟨by decide +kernel, rfl⟩
theorem iX7_bay_150 : zat mX7_bay 150 1 151 (.isub) := ⟨by decide +kernel, rfl⟩
theorem iX7_bay_151 : zat mX7_bay 151 3 154 (.invokevirtual 159) := ⟨by decide +kernel, rfl⟩
theorem iX7_bay_154 : zat mX7_bay 154 1 155 (.ireturn) := ⟨by decide +kernel, rfl⟩
theorem iX7_bay_155 : zat mX7_bay 155 2 157 (.bipush (-102)) := ⟨by decide +kernel, rfl⟩
theorem iX7_bay_157 : zat mX7_bay 157 1 158 (.ireturn) := ⟨by decide +kernel, rfl⟩
theorem iX7_cut_0 : zat mX7_cut 0 1 1 (.aload_n 0) := ⟨by decide +kernel, rfl⟩
theorem iX7_cut_1 : zat mX7_cut 1 1 2 (.iload_n 1) := ⟨by decide +kernel, rfl⟩
theorem iX7_cut_2 : zat mX7_cut 2 3 5 (.invokevirtual 140) := ⟨by decide +kernel, rfl⟩
theorem iX7_cut_5 : zbr mX7_cut 5 8 11 (.ifCond .eq) := ⟨6, by decide +kernel, rfl, rfl⟩
theorem iX7_cut_8 : zat mX7_cut 8 2 10 (.bipush (-101)) := ⟨by decide +kernel, rfl⟩
theorem iX7_cut_10 : zat mX7_cut 10 1 11 (.ireturn) := ⟨by decide +kernel, rfl⟩
theorem iX7_cut_11 : zat mX7_cut 11 1 12 (.iload_n 2) := ⟨by decide +kernel, rfl⟩
theorem iX7_cut_12 : zat mX7_cut 12 1 13 (.iconst 1) := ⟨by decide +kernel, rfl⟩
theorem iX7_cut_13 : zbr mX7_cut 13 16 21 (.if_icmp .lt) := ⟨8, by decide +kernel, rfl, rfl⟩
theorem iX7_cut_16 : zat mX7_cut 16 1 17 (.iload_n 2) := ⟨by decide +kernel, rfl⟩
theorem iX7_cut_17 : zat mX7_cut 17 1 18 (.iconst 3) := ⟨by decide +kernel, rfl⟩
theorem iX7_cut_18 : zbr mX7_cut 18 21 24 (.if_icmp .le) := ⟨6, by decide +kernel, rfl, rfl⟩
theorem iX7_cut_21 : zat mX7_cut 21 2 23 (.bipush (-102)) := ⟨by decide +kernel, rfl⟩
theorem iX7_cut_23 : zat mX7_cut 23 1 24 (.ireturn) := ⟨by decide +kernel, rfl⟩
theorem iX7_cut_24 : zat mX7_cut 24 1 25 (.aload_n 0) := ⟨by decide +kernel, rfl⟩
theorem iX7_cut_25 : zat mX7_cut 25 3 28 (.getfield 19) := ⟨by decide +kernel, rfl⟩
theorem iX7_cut_28 : zat mX7_cut 28 3 31 (.getfield 143) := ⟨by decide +kernel, rfl⟩
theorem iX7_cut_31 : zat mX7_cut 31 1 32 (.iload_n 1) := ⟨by decide +kernel, rfl⟩
theorem iX7_cut_32 : zat mX7_cut 32 1 33 (.iaload) := ⟨by decide +kernel, rfl⟩
theorem iX7_cut_33 : zbr mX7_cut 33 36 39 (.ifCond .ne) := ⟨6, by decide +kernel, rfl, rfl⟩
theorem iX7_cut_36 : zat mX7_cut 36 2 38 (.bipush (-103)) := ⟨by decide +kernel, rfl⟩
theorem iX7_cut_38 : zat mX7_cut 38 1 39 (.ireturn) := ⟨by decide +kernel, rfl⟩
theorem iX7_cut_39 : zat mX7_cut 39 1 40 (.aload_n 0) := ⟨by decide +kernel, rfl⟩
theorem iX7_cut_40 : zat mX7_cut 40 3 43 (.getfield 19) := ⟨by decide +kernel, rfl⟩
theorem iX7_cut_43 : zat mX7_cut 43 3 46 (.getfield 162) := ⟨by decide +kernel, rfl⟩
theorem iX7_cut_46 : zat mX7_cut 46 3 49 (.sipush 9000) := ⟨by decide +kernel, rfl⟩
theorem iX7_cut_49 : zbr mX7_cut 49 52 55 (.if_icmp .lt) := ⟨6, by decide +kernel, rfl, rfl⟩
theorem iX7_cut_52 : zat mX7_cut 52 2 54 (.bipush (-104)) := ⟨by decide +kernel, rfl⟩
theorem iX7_cut_54 : zat mX7_cut 54 1 55 (.ireturn) := ⟨by decide +kernel, rfl⟩
theorem iX7_cut_55 : zat mX7_cut 55 1 56 (.aload_n 0) := ⟨by decide +kernel, rfl⟩
theorem iX7_cut_56 : zat mX7_cut 56 3 59 (.getfield 19) := ⟨by decide +kernel, rfl⟩
theorem iX7_cut_59 : zat mX7_cut 59 1 60 (.iload_n 1) := ⟨by decide +kernel, rfl⟩
theorem iX7_cut_60 : zat mX7_cut 60 1 61 (.iload_n 2) := ⟨by decide +kernel, rfl⟩
theorem iX7_cut_61 : zat mX7_cut 61 3 64 (.invokevirtual 165) := ⟨by decide +kernel, rfl⟩
theorem iX7_cut_64 : zat mX7_cut 64 1 65 (.ireturn) := ⟨by decide +kernel, rfl⟩
theorem iX7_day_0 : zat mX7_day 0 1 1 (.aload_n 0) := ⟨by decide +kernel, rfl⟩
theorem iX7_day_1 : zat mX7_day 1 3 4 (.invokevirtual 168) := ⟨by decide +kernel, rfl⟩
theorem iX7_day_4 : zbr mX7_day 4 7 10 (.ifCond .eq) := ⟨6, by decide +kernel, rfl, rfl⟩
theorem iX7_day_7 : zat mX7_day 7 2 9 (.bipush (-103)) := ⟨by decide +kernel, rfl⟩
theorem iX7_day_9 : zat mX7_day 9 1 10 (.ireturn) := ⟨by decide +kernel, rfl⟩
theorem iX7_day_10 : zat mX7_day 10 1 11 (.aload_n 0) := ⟨by decide +kernel, rfl⟩
theorem iX7_day_11 : zat mX7_day 11 3 14 (.getfield 19) := ⟨by decide +kernel, rfl⟩
theorem iX7_day_14 : zat mX7_day 14 3 17 (.getfield 171) := ⟨by decide +kernel, rfl⟩
theorem iX7_day_17 : zat mX7_day 17 3 20 (.sipush 999) := ⟨by decide +kernel, rfl⟩
theorem iX7_day_20 : zbr mX7_day 20 23 26 (.if_icmp .lt) := ⟨6, by decide +kernel, rfl, rfl⟩
theorem iX7_day_23 : zat mX7_day 23 2 25 (.bipush (-104)) := ⟨by decide +kernel, rfl⟩
theorem iX7_day_25 : zat mX7_day 25 1 26 (.ireturn) := ⟨by decide +kernel, rfl⟩
theorem iX7_day_26 : zat mX7_day 26 1 27 (.aload_n 0) := ⟨by decide +kernel, rfl⟩
theorem iX7_day_27 : zat mX7_day 27 3 30 (.getfield 19) := ⟨by decide +kernel, rfl⟩
theorem iX7_day_30 : zat mX7_day 30 3 33 (.invokevirtual 174) := ⟨by decide +kernel, rfl⟩
theorem iX7_day_33 : zat mX7_day 33 1 34 (.ireturn) := ⟨by decide +kernel, rfl⟩
theorem iX7_turn_0 : zat mX7_turn 0 1 1 (.aload_n 0) := ⟨by decide +kernel, rfl⟩
theorem iX7_turn_1 : zat mX7_turn 1 1 2 (.iload_n 1) := ⟨by decide +kernel, rfl⟩
theorem iX7_turn_2 : zat mX7_turn 2 3 5 (.invokevirtual 140) := ⟨by decide +kernel, rfl⟩
theorem iX7_turn_5 : zbr mX7_turn 5 8 11 (.ifCond .eq) := ⟨6, by decide +kernel, rfl, rfl⟩
theorem iX7_turn_8 : zat mX7_turn 8 2 10 (.bipush (-101)) := ⟨by decide +kernel, rfl⟩
theorem iX7_turn_10 : zat mX7_turn 10 1 11 (.ireturn) := ⟨by decide +kernel, rfl⟩
theorem iX7_turn_11 : zat mX7_turn 11 1 12 (.aload_n 0) := ⟨by decide +kernel, rfl⟩
theorem iX7_turn_12 : zat mX7_turn 12 3 15 (.getfield 19) := ⟨by decide +kernel, rfl⟩
theorem iX7_turn_15 : zat mX7_turn 15 3 18 (.getfield 143) := ⟨by decide +kernel, rfl⟩
theorem iX7_turn_18 : zat mX7_turn 18 1 19 (.iload_n 1) := ⟨by decide +kernel, rfl⟩
theorem iX7_turn_19 : zat mX7_turn 19 1 20 (.iaload) := ⟨by decide +kernel, rfl⟩
theorem iX7_turn_20 : zbr mX7_turn 20 23 26 (.ifCond .ne) := ⟨6, by decide +kernel, rfl, rfl⟩
theorem iX7_turn_23 : zat mX7_turn 23 2 25 (.bipush (-103)) := ⟨by decide +kernel, rfl⟩
theorem iX7_turn_25 : zat mX7_turn 25 1 26 (.ireturn) := ⟨by decide +kernel, rfl⟩
theorem iX7_turn_26 : zat mX7_turn 26 1 27 (.aload_n 0) := ⟨by decide +kernel, rfl⟩
theorem iX7_turn_27 : zat mX7_turn 27 3 30 (.getfield 19) := ⟨by decide +kernel, rfl⟩
theorem iX7_turn_30 : zat mX7_turn 30 1 31 (.iload_n 1) := ⟨by decide +kernel, rfl⟩
theorem iX7_turn_31 : zat mX7_turn 31 3 34 (.invokevirtual 177) := ⟨by decide +kernel, rfl⟩
theorem iX7_turn_34 : zat mX7_turn 34 1 35 (.aload_n 0) := ⟨by decide +kernel, rfl⟩
theorem iX7_turn_35 : zat mX7_turn 35 3 38 (.getfield 19) := ⟨by decide +kernel, rfl⟩
theorem iX7_turn_38 : zat mX7_turn 38 3 41 (.getfield 143) := ⟨by decide +kernel, rfl⟩
theorem iX7_turn_41 : zat mX7_turn 41 1 42 (.iload_n 1) := ⟨by decide +kernel, rfl⟩
theorem iX7_turn_42 : zat mX7_turn 42 1 43 (.iaload) := ⟨by decide +kernel, rfl⟩
theorem iX7_turn_43 : zat mX7_turn 43 1 44 (.ireturn) := ⟨by decide +kernel, rfl⟩
theorem iX7_rain_0 : zat mX7_rain 0 1 1 (.aload_n 0) := ⟨by decide +kernel, rfl⟩
theorem iX7_rain_1 : zat mX7_rain 1 1 2 (.iload_n 1) := ⟨by decide +kernel, rfl⟩
theorem iX7_rain_2 : zat mX7_rain 2 3 5 (.invokevirtual 88) := ⟨by decide +kernel, rfl⟩
theorem iX7_rain_5 : zbr mX7_rain 5 8 11 (.ifCond .eq) := ⟨6, by decide +kernel, rfl, rfl⟩
theorem iX7_rain_8 : zat mX7_rain 8 2 10 (.bipush (-101)) := ⟨by decide +kernel, rfl⟩
theorem iX7_rain_10 : zat mX7_rain 10 1 11 (.ireturn) := ⟨by decide +kernel, rfl⟩
theorem iX7_rain_11 : zat mX7_rain 11 1 12 (.iload_n 2) := ⟨by decide +kernel, rfl⟩
theorem iX7_rain_12 : zbr mX7_rain 12 15 21 (.ifCond .lt) := ⟨9, by decide +kernel, rfl, rfl⟩
theorem iX7_rain_15 : zat mX7_rain 15 1 16 (.iload_n 2) := ⟨by decide +kernel, rfl⟩
theorem iX7_rain_16 : zat mX7_rain 16 2 18 (.bipush 9) := ⟨by decide +kernel, rfl⟩
theorem iX7_rain_18 : zbr mX7_rain 18 21 24 (.if_icmp .le) := ⟨6, by decide +kernel, rfl, rfl⟩
theorem iX7_rain_21 : zat mX7_rain 21 2 23 (.bipush (-102)) := ⟨by decide +kernel, rfl⟩
theorem iX7_rain_23 : zat mX7_rain 23 1 24 (.ireturn) := ⟨by decide +kernel, rfl⟩
theorem iX7_rain_24 : zat mX7_rain 24 1 25 (.aload_n 0) := ⟨by decide +kernel, rfl⟩
theorem iX7_rain_25 : zat mX7_rain 25 3 28 (.getfield 19) := ⟨by decide +kernel, rfl⟩
theorem iX7_rain_28 : zat mX7_rain 28 1 29 (.iload_n 1) := ⟨by decide +kernel, rfl⟩
theorem iX7_rain_29 : zat mX7_rain 29 3 32 (.invokevirtual 92) := ⟨by decide +kernel, rfl⟩
theorem iX7_rain_32 : zbr mX7_rain 32 35 38 (.ifCond .eq) := ⟨6, by decide +kernel, rfl, rfl⟩
theorem iX7_rain_35 : zat mX7_rain 35 2 37 (.bipush (-103)) := ⟨by decide +kernel, rfl⟩
theorem iX7_rain_37 : zat mX7_rain 37 1 38 (.ireturn) := ⟨by decide +kernel, rfl⟩
theorem iX7_rain_38 : zat mX7_rain 38 1 39 (.aload_n 0) := ⟨by decide +kernel, rfl⟩
theorem iX7_rain_39 : zat mX7_rain 39 3 42 (.getfield 19) := ⟨by decide +kernel, rfl⟩
theorem iX7_rain_42 : zat mX7_rain 42 3 45 (.getfield 102) := ⟨by decide +kernel, rfl⟩
theorem iX7_rain_45 : zat mX7_rain 45 1 46 (.iload_n 1) := ⟨by decide +kernel, rfl⟩
theorem iX7_rain_46 : zat mX7_rain 46 1 47 (.iaload) := ⟨by decide +kernel, rfl⟩
theorem iX7_rain_47 : zat mX7_rain 47 1 48 (.istore_n 3) := ⟨by decide +kernel, rfl⟩
theorem iX7_rain_48 : zat mX7_rain 48 1 49 (.aload_n 0) := ⟨by decide +kernel, rfl⟩
theorem iX7_rain_49 : zat mX7_rain 49 3 52 (.getfield 19) := ⟨by decide +kernel, rfl⟩
theorem iX7_rain_52 : zat mX7_rain 52 3 55 (.getfield 102) := ⟨by decide +kernel, rfl⟩
theorem iX7_rain_55 : zat mX7_rain 55 1 56 (.iload_n 1) := ⟨by decide +kernel, rfl⟩
theorem iX7_rain_56 : zat mX7_rain 56 1 57 (.iload_n 2) := ⟨by decide +kernel, rfl⟩
theorem iX7_rain_57 : zat mX7_rain 57 1 58 (.iastore) := ⟨by decide +kernel, rfl⟩
theorem iX7_rain_58 : zat mX7_rain 58 1 59 (.iload_n 3) := ⟨by decide +kernel, rfl⟩
theorem iX7_rain_59 : zat mX7_rain 59 1 60 (.ireturn) := ⟨by decide +kernel, rfl⟩
theorem iX7_lasts_0 : zat mX7_lasts 0 1 1 (.iload_n 1) := ⟨by decide +kernel, rfl⟩
theorem iX7_lasts_1 : zat mX7_lasts 1 1 2 (.iconst 1) := ⟨by decide +kernel, rfl⟩
theorem iX7_lasts_2 : zbr mX7_lasts 2 5 11 (.if_icmp .lt) := ⟨9, by decide +kernel, rfl, rfl⟩
theorem iX7_lasts_5 : zat mX7_lasts 5 1 6 (.iload_n 1) := ⟨by decide +kernel, rfl⟩
theorem iX7_lasts_6 : zat mX7_lasts 6 2 8 (.bipush 6) := ⟨by decide +kernel, rfl⟩
theorem iX7_lasts_8 : zbr mX7_lasts 8 11 14 (.if_icmp .le) := ⟨6, by decide +kernel, rfl, rfl⟩
theorem iX7_lasts_11 : zat mX7_lasts 11 2 13 (.bipush (-102)) := ⟨by decide +kernel, rfl⟩
theorem iX7_lasts_13 : zat mX7_lasts 13 1 14 (.ireturn) := ⟨by decide +kernel, rfl⟩
theorem iX7_lasts_14 : zat mX7_lasts 14 1 15 (.aload_n 0) := ⟨by decide +kernel, rfl⟩
theorem iX7_lasts_15 : zat mX7_lasts 15 3 18 (.invokevirtual 168) := ⟨by decide +kernel, rfl⟩
theorem iX7_lasts_18 : zbr mX7_lasts 18 21 24 (.ifCond .eq) := ⟨6, by decide +kernel, rfl, rfl⟩
theorem iX7_lasts_21 : zat mX7_lasts 21 2 23 (.bipush (-103)) := ⟨by decide +kernel, rfl⟩
theorem iX7_lasts_23 : zat mX7_lasts 23 1 24 (.ireturn) := ⟨by decide +kernel, rfl⟩
theorem iX7_lasts_24 : zat mX7_lasts 24 1 25 (.aload_n 0) := ⟨by decide +kernel, rfl⟩
theorem iX7_lasts_25 : zat mX7_lasts 25 3 28 (.getfield 39) := ⟨by decide +kernel, rfl⟩
theorem iX7_lasts_28 : zat mX7_lasts 28 1 29 (.aload_n 0) := ⟨by decide +kernel, rfl⟩
theorem iX7_lasts_29 : zat mX7_lasts 29 3 32 (.getfield 19) := ⟨by decide +kernel, rfl⟩
theorem iX7_lasts_32 : zat mX7_lasts 32 1 33 (.iload_n 1) := ⟨by decide +kernel, rfl⟩
theorem iX7_lasts_33 : zat mX7_lasts 33 3 36 (.invokevirtual 180) := ⟨by decide +kernel, rfl⟩
theorem iX7_lasts_36 : zat mX7_lasts 36 1 37 (.ireturn) := ⟨by decide +kernel, rfl⟩
theorem iX7_plan_0 : zat mX7_plan 0 1 1 (.iload_n 1) := ⟨by decide +kernel, rfl⟩
theorem iX7_plan_1 : zat mX7_plan 1 1 2 (.iconst 1) := ⟨by decide +kernel, rfl⟩
theorem iX7_plan_2 : zbr mX7_plan 2 5 10 (.if_icmp .lt) := ⟨8, by decide +kernel, rfl, rfl⟩
theorem iX7_plan_5 : zat mX7_plan 5 1 6 (.iload_n 1) := ⟨by decide +kernel, rfl⟩
theorem iX7_plan_6 : zat mX7_plan 6 1 7 (.iconst 4) := ⟨by decide +kernel, rfl⟩
theorem iX7_plan_7 : zbr mX7_plan 7 10 13 (.if_icmp .le) := ⟨6, by decide +kernel, rfl, rfl⟩
theorem iX7_plan_10 : zat mX7_plan 10 2 12 (.bipush (-102)) := ⟨by decide +kernel, rfl⟩
theorem iX7_plan_12 : zat mX7_plan 12 1 13 (.ireturn) := ⟨by decide +kernel, rfl⟩
theorem iX7_plan_13 : zat mX7_plan 13 1 14 (.iload_n 2) := ⟨by decide +kernel, rfl⟩
theorem iX7_plan_14 : zbr mX7_plan 14 17 32 (.ifCond .eq) := ⟨18, by decide +kernel, rfl, rfl⟩
theorem iX7_plan_17 : zat mX7_plan 17 1 18 (.iload_n 2) := ⟨by decide +kernel, rfl⟩
theorem iX7_plan_18 : zat mX7_plan 18 2 20 (.bipush 10) := ⟨by decide +kernel, rfl⟩
theorem iX7_plan_20 : zbr mX7_plan 20 23 29 (.if_icmp .lt) := ⟨9, by decide +kernel, rfl, rfl⟩
theorem iX7_plan_23 : zat mX7_plan 23 1 24 (.iload_n 2) := ⟨by decide +kernel, rfl⟩
theorem iX7_plan_24 : zat mX7_plan 24 2 26 (.bipush 14) := ⟨by decide +kernel, rfl⟩
theorem iX7_plan_26 : zbr mX7_plan 26 29 32 (.if_icmp .lt) := ⟨6, by decide +kernel, rfl, rfl⟩
theorem iX7_plan_29 : zat mX7_plan 29 2 31 (.bipush (-102)) := ⟨by decide +kernel, rfl⟩
theorem iX7_plan_31 : zat mX7_plan 31 1 32 (.ireturn) := ⟨by decide +kernel, rfl⟩
theorem iX7_plan_32 : zat mX7_plan 32 1 33 (.aload_n 0) := ⟨by decide +kernel, rfl⟩
theorem iX7_plan_33 : zat mX7_plan 33 3 36 (.invokevirtual 168) := ⟨by decide +kernel, rfl⟩
theorem iX7_plan_36 : zbr mX7_plan 36 39 42 (.ifCond .eq) := ⟨6, by decide +kernel, rfl, rfl⟩
theorem iX7_plan_39 : zat mX7_plan 39 2 41 (.bipush (-103)) := ⟨by decide +kernel, rfl⟩
theorem iX7_plan_41 : zat mX7_plan 41 1 42 (.ireturn) := ⟨by decide +kernel, rfl⟩
theorem iX7_plan_42 : zat mX7_plan 42 1 43 (.aload_n 0) := ⟨by decide +kernel, rfl⟩
theorem iX7_plan_43 : zat mX7_plan 43 3 46 (.getfield 39) := ⟨by decide +kernel, rfl⟩
theorem iX7_plan_46 : zat mX7_plan 46 1 47 (.aload_n 0) := ⟨by decide +kernel, rfl⟩
theorem iX7_plan_47 : zat mX7_plan 47 3 50 (.getfield 19) := ⟨by decide +kernel, rfl⟩
theorem iX7_plan_50 : zat mX7_plan 50 1 51 (.iload_n 1) := ⟨by decide +kernel, rfl⟩
theorem iX7_plan_51 : zat mX7_plan 51 3 54 (.invokevirtual 183) := ⟨by decide +kernel, rfl⟩
theorem iX7_plan_54 : zat mX7_plan 54 1 55 (.iload_n 2) := ⟨by decide +kernel, rfl⟩
theorem iX7_plan_55 : zbr mX7_plan 55 58 68 (.ifCond .ne) := ⟨13, by decide +kernel, rfl, rfl⟩
theorem iX7_plan_58 : zat mX7_plan 58 1 59 (.aload_n 0) := ⟨by decide +kernel, rfl⟩
theorem iX7_plan_59 : zat mX7_plan 59 3 62 (.getfield 39) := ⟨by decide +kernel, rfl⟩
theorem iX7_plan_62 : zat mX7_plan 62 3 65 (.getfield 187) := ⟨by decide +kernel, rfl⟩
theorem iX7_plan_65 : zbr mX7_plan 65 68 80 (.goto) := ⟨15, by decide +kernel, rfl, rfl⟩
theorem iX7_plan_68 : zat mX7_plan 68 1 69 (.aload_n 0) := ⟨by decide +kernel, rfl⟩
theorem iX7_plan_69 : zat mX7_plan 69 3 72 (.getfield 39) := ⟨by decide +kernel, rfl⟩
theorem iX7_plan_72 : zat mX7_plan 72 1 73 (.iload_n 1) := ⟨by decide +kernel, rfl⟩
theorem iX7_plan_73 : zat mX7_plan 73 1 74 (.iload_n 2) := ⟨by decide +kernel, rfl⟩
theorem iX7_plan_74 : zat mX7_plan 74 2 76 (.bipush 10) := ⟨by decide +kernel, rfl⟩
theorem iX7_plan_76 : zat mX7_plan 76 1 77 (.isub) := ⟨by decide +kernel, rfl⟩
theorem iX7_plan_77 : zat mX7_plan 77 3 80 (.invokevirtual 190) := ⟨by decide +kernel, rfl⟩
theorem iX7_plan_80 : zat mX7_plan 80 1 81 (.ireturn) := ⟨by decide +kernel, rfl⟩
theorem iX7_share_0 : zat mX7_share 0 1 1 (.iload_n 1) := ⟨by decide +kernel, rfl⟩
theorem iX7_share_1 : zat mX7_share 1 1 2 (.iconst 2) := ⟨by decide +kernel, rfl⟩
theorem iX7_share_2 : zbr mX7_share 2 5 10 (.if_icmp .lt) := ⟨8, by decide +kernel, rfl, rfl⟩
theorem iX7_share_5 : zat mX7_share 5 1 6 (.iload_n 1) := ⟨by decide +kernel, rfl⟩
theorem iX7_share_6 : zat mX7_share 6 1 7 (.iconst 3) := ⟨by decide +kernel, rfl⟩
theorem iX7_share_7 : zbr mX7_share 7 10 13 (.if_icmp .le) := ⟨6, by decide +kernel, rfl, rfl⟩
theorem iX7_share_10 : zat mX7_share 10 2 12 (.bipush (-102)) := ⟨by decide +kernel, rfl⟩
theorem iX7_share_12 : zat mX7_share 12 1 13 (.ireturn) := ⟨by decide +kernel, rfl⟩
theorem iX7_share_13 : zat mX7_share 13 1 14 (.aload_n 0) := ⟨by decide +kernel, rfl⟩
theorem iX7_share_14 : zat mX7_share 14 3 17 (.invokevirtual 168) := ⟨by decide +kernel, rfl⟩
theorem iX7_share_17 : zbr mX7_share 17 20 29 (.ifCond .ne) := ⟨12, by decide +kernel, rfl, rfl⟩
theorem iX7_share_20 : zat mX7_share 20 1 21 (.aload_n 0) := ⟨by decide +kernel, rfl⟩
theorem iX7_share_21 : zat mX7_share 21 3 24 (.getfield 193) := ⟨by decide +kernel, rfl⟩
theorem iX7_share_24 : zat mX7_share 24 2 26 (.bipush 12) := ⟨by decide +kernel, rfl⟩
theorem iX7_share_26 : zbr mX7_share 26 29 32 (.if_icmp .lt) := ⟨6, by decide +kernel, rfl, rfl⟩
theorem iX7_share_29 : zat mX7_share 29 2 31 (.bipush (-103)) := ⟨by decide +kernel, rfl⟩
theorem iX7_share_31 : zat mX7_share 31 1 32 (.ireturn) := ⟨by decide +kernel, rfl⟩
theorem iX7_share_32 : zat mX7_share 32 1 33 (.aload_n 0) := ⟨by decide +kernel, rfl⟩
theorem iX7_share_33 : zat mX7_share 33 1 34 (.dup) := ⟨by decide +kernel, rfl⟩
theorem iX7_share_34 : zat mX7_share 34 3 37 (.getfield 193) := ⟨by decide +kernel, rfl⟩
theorem iX7_share_37 : zat mX7_share 37 1 38 (.iconst 1) := ⟨by decide +kernel, rfl⟩
theorem iX7_share_38 : zat mX7_share 38 1 39 (.iadd) := ⟨by decide +kernel, rfl⟩
theorem iX7_share_39 : zat mX7_share 39 3 42 (.putfield 193) := ⟨by decide +kernel, rfl⟩
theorem iX7_share_42 : zat mX7_share 42 1 43 (.iload_n 1) := ⟨by decide +kernel, rfl⟩
theorem iX7_share_43 : zat mX7_share 43 1 44 (.iconst 2) := ⟨by decide +kernel, rfl⟩
theorem iX7_share_44 : zbr mX7_share 44 47 61 (.if_icmp .ne) := ⟨17, by decide +kernel, rfl, rfl⟩
theorem iX7_share_47 : zat mX7_share 47 1 48 (.aload_n 0) := ⟨by decide +kernel, rfl⟩
theorem iX7_share_48 : zat mX7_share 48 3 51 (.getfield 53) := ⟨by decide +kernel, rfl⟩
theorem iX7_share_51 : zat mX7_share 51 1 52 (.aload_n 0) := ⟨by decide +kernel, rfl⟩
theorem iX7_share_52 : zat mX7_share 52 3 55 (.getfield 19) := ⟨by decide +kernel, rfl⟩
theorem iX7_share_55 : zat mX7_share 55 3 58 (.invokevirtual 196) := ⟨by decide +kernel, rfl⟩
theorem iX7_share_58 : zbr mX7_share 58 61 72 (.goto) := ⟨14, by decide +kernel, rfl, rfl⟩
theorem iX7_share_61 : zat mX7_share 61 1 62 (.aload_n 0) := ⟨by decide +kernel, rfl⟩
theorem iX7_share_62 : zat mX7_share 62 3 65 (.getfield 53) := ⟨by decide +kernel, rfl⟩
theorem iX7_share_65 : zat mX7_share 65 1 66 (.aload_n 0) := ⟨by decide +kernel, rfl⟩
theorem iX7_share_66 : zat mX7_share 66 3 69 (.getfield 19) := ⟨by decide +kernel, rfl⟩
theorem iX7_share_69 : zat mX7_share 69 3 72 (.invokevirtual 200) := ⟨by decide +kernel, rfl⟩
theorem iX7_share_72 : zat mX7_share 72 1 73 (.ireturn) := ⟨by decide +kernel, rfl⟩
theorem iX7_burnt_0 : zat mX7_burnt 0 1 1 (.iload_n 1) := ⟨by decide +kernel, rfl⟩
theorem iX7_burnt_1 : zbr mX7_burnt 1 4 10 (.ifCond .lt) := ⟨9, by decide +kernel, rfl, rfl⟩
theorem iX7_burnt_4 : zat mX7_burnt 4 1 5 (.iload_n 1) := ⟨by decide +kernel, rfl⟩
theorem iX7_burnt_5 : zat mX7_burnt 5 2 7 (.bipush 20) := ⟨by decide +kernel, rfl⟩
theorem iX7_burnt_7 : zbr mX7_burnt 7 10 13 (.if_icmp .le) := ⟨6, by decide +kernel, rfl, rfl⟩
theorem iX7_burnt_10 : zat mX7_burnt 10 2 12 (.bipush (-102)) := ⟨by decide +kernel, rfl⟩
theorem iX7_burnt_12 : zat mX7_burnt 12 1 13 (.ireturn) := ⟨by decide +kernel, rfl⟩
theorem iX7_burnt_13 : zat mX7_burnt 13 1 14 (.aload_n 0) := ⟨by decide +kernel, rfl⟩
theorem iX7_burnt_14 : zat mX7_burnt 14 3 17 (.invokevirtual 168) := ⟨by decide +kernel, rfl⟩
theorem iX7_burnt_17 : zbr mX7_burnt 17 20 23 (.ifCond .eq) := ⟨6, by decide +kernel, rfl, rfl⟩
theorem iX7_burnt_20 : zat mX7_burnt 20 2 22 (.bipush (-103)) := ⟨by decide +kernel, rfl⟩
theorem iX7_burnt_22 : zat mX7_burnt 22 1 23 (.ireturn) := ⟨by decide +kernel, rfl⟩
theorem iX7_burnt_23 : zat mX7_burnt 23 1 24 (.aload_n 0) := ⟨by decide +kernel, rfl⟩
theorem iX7_burnt_24 : zat mX7_burnt 24 3 27 (.getfield 39) := ⟨by decide +kernel, rfl⟩
theorem iX7_burnt_27 : zat mX7_burnt 27 1 28 (.aload_n 0) := ⟨by decide +kernel, rfl⟩
theorem iX7_burnt_28 : zat mX7_burnt 28 3 31 (.getfield 19) := ⟨by decide +kernel, rfl⟩
theorem iX7_burnt_31 : zat mX7_burnt 31 1 32 (.iload_n 1) := ⟨by decide +kernel, rfl⟩
theorem iX7_burnt_32 : zat mX7_burnt 32 3 35 (.invokevirtual 203) := ⟨by decide +kernel, rfl⟩
theorem iX7_burnt_35 : zat mX7_burnt 35 1 36 (.ireturn) := ⟨by decide +kernel, rfl⟩
theorem iX7_see_0 : zat mX7_see 0 1 1 (.aload_n 0) := ⟨by decide +kernel, rfl⟩
theorem iX7_see_1 : zat mX7_see 1 1 2 (.iload_n 1) := ⟨by decide +kernel, rfl⟩
theorem iX7_see_2 : zat mX7_see 2 3 5 (.invokevirtual 88) := ⟨by decide +kernel, rfl⟩
theorem iX7_see_5 : zbr mX7_see 5 8 11 (.ifCond .eq) := ⟨6, by decide +kernel, rfl, rfl⟩
theorem iX7_see_8 : zat mX7_see 8 2 10 (.bipush (-101)) := ⟨by decide +kernel, rfl⟩
theorem iX7_see_10 : zat mX7_see 10 1 11 (.ireturn) := ⟨by decide +kernel, rfl⟩
theorem iX7_see_11 : zat mX7_see 11 1 12 (.iload_n 2) := ⟨by decide +kernel, rfl⟩
theorem iX7_see_12 : zat mX7_see 12 1 13 (.iconst 1) := ⟨by decide +kernel, rfl⟩
theorem iX7_see_13 : zbr mX7_see 13 16 32 (.if_icmp .lt) := ⟨19, by decide +kernel, rfl, rfl⟩
theorem iX7_see_16 : zat mX7_see 16 1 17 (.iload_n 2) := ⟨by decide +kernel, rfl⟩
theorem iX7_see_17 : zat mX7_see 17 2 19 (.bipush 9) := ⟨by decide +kernel, rfl⟩
theorem iX7_see_19 : zbr mX7_see 19 22 32 (.if_icmp .gt) := ⟨13, by decide +kernel, rfl, rfl⟩
theorem iX7_see_22 : zat mX7_see 22 1 23 (.iload_n 3) := ⟨by decide +kernel, rfl⟩
theorem iX7_see_23 : zbr mX7_see 23 26 32 (.ifCond .lt) := ⟨9, by decide +kernel, rfl, rfl⟩
theorem iX7_see_26 : zat mX7_see 26 1 27 (.iload_n 3) := ⟨by decide +kernel, rfl⟩
theorem iX7_see_27 : zat mX7_see 27 2 29 (.bipush 30) := ⟨by decide +kernel, rfl⟩
theorem iX7_see_29 : zbr mX7_see 29 32 35 (.if_icmp .le) := ⟨6, by decide +kernel, rfl, rfl⟩
theorem iX7_see_32 : zat mX7_see 32 2 34 (.bipush (-102)) := ⟨by decide +kernel, rfl⟩
theorem iX7_see_34 : zat mX7_see 34 1 35 (.ireturn) := ⟨by decide +kernel, rfl⟩
theorem iX7_see_35 : zat mX7_see 35 1 36 (.aload_n 0) := ⟨by decide +kernel, rfl⟩
theorem iX7_see_36 : zat mX7_see 36 3 39 (.getfield 19) := ⟨by decide +kernel, rfl⟩
theorem iX7_see_39 : zat mX7_see 39 1 40 (.iload_n 1) := ⟨by decide +kernel, rfl⟩
theorem iX7_see_40 : zat mX7_see 40 3 43 (.invokevirtual 92) := ⟨by decide +kernel, rfl⟩
theorem iX7_see_43 : zbr mX7_see 43 46 49 (.ifCond .eq) := ⟨6, by decide +kernel, rfl, rfl⟩
theorem iX7_see_46 : zat mX7_see 46 2 48 (.bipush (-103)) := ⟨by decide +kernel, rfl⟩
theorem iX7_see_48 : zat mX7_see 48 1 49 (.ireturn) := ⟨by decide +kernel, rfl⟩
theorem iX7_see_49 : zat mX7_see 49 1 50 (.aload_n 0) := ⟨by decide +kernel, rfl⟩
theorem iX7_see_50 : zat mX7_see 50 3 53 (.getfield 29) := ⟨by decide +kernel, rfl⟩
theorem iX7_see_53 : zat mX7_see 53 3 56 (.getfield 77) := ⟨by decide +kernel, rfl⟩
theorem iX7_see_56 : zat mX7_see 56 2 58 (.bipush 6) := ⟨by decide +kernel, rfl⟩
theorem iX7_see_58 : zbr mX7_see 58 61 64 (.if_icmp .lt) := ⟨6, by decide +kernel, rfl, rfl⟩
theorem iX7_see_61 : zat mX7_see 61 2 63 (.bipush (-104)) := ⟨by decide +kernel, rfl⟩
theorem iX7_see_63 : zat mX7_see 63 1 64 (.ireturn) := ⟨by decide +kernel, rfl⟩
theorem iX7_see_64 : zat mX7_see 64 1 65 (.aload_n 0) := ⟨by decide +kernel, rfl⟩
theorem iX7_see_65 : zat mX7_see 65 3 68 (.getfield 29) := ⟨by decide +kernel, rfl⟩
theorem iX7_see_68 : zat mX7_see 68 1 69 (.iload_n 1) := ⟨by decide +kernel, rfl⟩
theorem iX7_see_69 : zat mX7_see 69 1 70 (.iload_n 2) := ⟨by decide +kernel, rfl⟩
theorem iX7_see_70 : zat mX7_see 70 1 71 (.iload_n 3) := ⟨by decide +kernel, rfl⟩
theorem iX7_see_71 : zat mX7_see 71 3 74 (.invokevirtual 206) := ⟨by decide +kernel, rfl⟩
theorem iX7_see_74 : zat mX7_see 74 1 75 (.aload_n 0) := ⟨by decide +kernel, rfl⟩
theorem iX7_see_75 : zat mX7_see 75 3 78 (.getfield 29) := ⟨by decide +kernel, rfl⟩
theorem iX7_see_78 : zat mX7_see 78 3 81 (.getfield 77) := ⟨by decide +kernel, rfl⟩
theorem iX7_see_81 : zat mX7_see 81 1 82 (.ireturn) := ⟨by decide +kernel, rfl⟩
theorem iX7_forget_0 : zat mX7_forget 0 1 1 (.aload_n 0) := ⟨by decide +kernel, rfl⟩
theorem iX7_forget_1 : zat mX7_forget 1 3 4 (.getfield 29) := ⟨by decide +kernel, rfl⟩
theorem iX7_forget_4 : zat mX7_forget 4 3 7 (.getfield 77) := ⟨by decide +kernel, rfl⟩
theorem iX7_forget_7 : zat mX7_forget 7 1 8 (.istore_n 1) := ⟨by decide +kernel, rfl⟩
theorem iX7_forget_8 : zat mX7_forget 8 1 9 (.aload_n 0) := ⟨by decide +kernel, rfl⟩
theorem iX7_forget_9 : zat mX7_forget 9 3 12 (.getfield 29) := ⟨by decide +kernel, rfl⟩
theorem iX7_forget_12 : zat mX7_forget 12 1 13 (.iconst 0) := ⟨by decide +kernel, rfl⟩
theorem iX7_forget_13 : zat mX7_forget 13 3 16 (.putfield 77) := ⟨by decide +kernel, rfl⟩
theorem iX7_forget_16 : zat mX7_forget 16 1 17 (.iload_n 1) := ⟨by decide +kernel, rfl⟩
theorem iX7_forget_17 : zat mX7_forget 17 1 18 (.ireturn) := ⟨by decide +kernel, rfl⟩
theorem iX7_winters_0 : zat mX7_winters 0 1 1 (.iload_n 1) := ⟨by decide +kernel, rfl⟩
theorem iX7_winters_1 : zat mX7_winters 1 1 2 (.iconst 1) := ⟨by decide +kernel, rfl⟩
theorem iX7_winters_2 : zbr mX7_winters 2 5 24 (.if_icmp .lt) := ⟨22, by decide +kernel, rfl, rfl⟩
theorem iX7_winters_5 : zat mX7_winters 5 1 6 (.iload_n 1) := ⟨by decide +kernel, rfl⟩
theorem iX7_winters_6 : zat mX7_winters 6 2 8 (.bipush 60) := ⟨by decide +kernel, rfl⟩
theorem iX7_winters_8 : zbr mX7_winters 8 11 24 (.if_icmp .gt) := ⟨16, by decide +kernel, rfl, rfl⟩
theorem iX7_winters_11 : zat mX7_winters 11 1 12 (.iload_n 2) := ⟨by decide +kernel, rfl⟩
theorem iX7_winters_12 : zbr mX7_winters 12 15 24 (.ifCond .lt) := ⟨12, by decide +kernel, rfl, rfl⟩
theorem iX7_winters_15 : zat mX7_winters 15 1 16 (.iload_n 3) := ⟨by decide +kernel, rfl⟩
theorem iX7_winters_16 : zbr mX7_winters 16 19 24 (.ifCond .lt) := ⟨8, by decide +kernel, rfl, rfl⟩
theorem iX7_winters_19 : zat mX7_winters 19 1 20 (.iload_n 3) := ⟨by decide +kernel, rfl⟩
theorem iX7_winters_20 : zat mX7_winters 20 1 21 (.iconst 2) := ⟨by decide +kernel, rfl⟩
theorem iX7_winters_21 : zbr mX7_winters 21 24 27 (.if_icmp .le) := ⟨6, by decide +kernel, rfl, rfl⟩
theorem iX7_winters_24 : zat mX7_winters 24 2 26 (.bipush (-102)) := ⟨by decide +kernel, rfl⟩
theorem iX7_winters_26 : zat mX7_winters 26 1 27 (.ireturn) := ⟨by decide +kernel, rfl⟩
theorem iX7_winters_27 : zat mX7_winters 27 1 28 (.aload_n 0) := ⟨by decide +kernel, rfl⟩
theorem iX7_winters_28 : zat mX7_winters 28 3 31 (.invokevirtual 168) := ⟨by decide +kernel, rfl⟩
theorem iX7_winters_31 : zbr mX7_winters 31 34 37 (.ifCond .eq) := ⟨6, by decide +kernel, rfl, rfl⟩
theorem iX7_winters_34 : zat mX7_winters 34 2 36 (.bipush (-103)) := ⟨by decide +kernel, rfl⟩
theorem iX7_winters_36 : zat mX7_winters 36 1 37 (.ireturn) := ⟨by decide +kernel, rfl⟩
theorem iX7_winters_37 : zat mX7_winters 37 1 38 (.aload_n 0) := ⟨by decide +kernel, rfl⟩
theorem iX7_winters_38 : zat mX7_winters 38 3 41 (.getfield 39) := ⟨by decide +kernel, rfl⟩
theorem iX7_winters_41 : zat mX7_winters 41 1 42 (.aload_n 0) := ⟨by decide +kernel, rfl⟩
theorem iX7_winters_42 : zat mX7_winters 42 3 45 (.getfield 19) := ⟨by decide +kernel, rfl⟩
theorem iX7_winters_45 : zat mX7_winters 45 1 46 (.iload_n 1) := ⟨by decide +kernel, rfl⟩
theorem iX7_winters_46 : zat mX7_winters 46 1 47 (.iload_n 2) := ⟨by decide +kernel, rfl⟩
theorem iX7_winters_47 : zat mX7_winters 47 1 48 (.iload_n 3) := ⟨by decide +kernel, rfl⟩
theorem iX7_winters_48 : zat mX7_winters 48 3 51 (.invokevirtual 209) := ⟨by decide +kernel, rfl⟩
theorem iX7_winters_51 : zat mX7_winters 51 1 52 (.ireturn) := ⟨by decide +kernel, rfl⟩
theorem iX7_image_0 : zat mX7_image 0 1 1 (.aload_n 0) := ⟨by decide +kernel, rfl⟩
theorem iX7_image_1 : zat mX7_image 1 3 4 (.invokevirtual 168) := ⟨by decide +kernel, rfl⟩
theorem iX7_image_4 : zbr mX7_image 4 7 10 (.ifCond .eq) := ⟨6, by decide +kernel, rfl, rfl⟩
theorem iX7_image_7 : zat mX7_image 7 2 9 (.bipush (-103)) := ⟨by decide +kernel, rfl⟩
theorem iX7_image_9 : zat mX7_image 9 1 10 (.ireturn) := ⟨by decide +kernel, rfl⟩
theorem iX7_image_10 : zat mX7_image 10 1 11 (.aload_n 0) := ⟨by decide +kernel, rfl⟩
theorem iX7_image_11 : zat mX7_image 11 3 14 (.getfield 23) := ⟨by decide +kernel, rfl⟩
theorem iX7_image_14 : zat mX7_image 14 1 15 (.aload_n 0) := ⟨by decide +kernel, rfl⟩
theorem iX7_image_15 : zat mX7_image 15 3 18 (.getfield 19) := ⟨by decide +kernel, rfl⟩
theorem iX7_image_18 : zat mX7_image 18 3 21 (.invokevirtual 213) := ⟨by decide +kernel, rfl⟩
theorem iX7_image_21 : zat mX7_image 21 1 22 (.aload_n 0) := ⟨by decide +kernel, rfl⟩
theorem iX7_image_22 : zat mX7_image 22 3 25 (.getfield 33) := ⟨by decide +kernel, rfl⟩
theorem iX7_image_25 : zat mX7_image 25 1 26 (.aload_n 0) := ⟨by decide +kernel, rfl⟩
theorem iX7_image_26 : zat mX7_image 26 3 29 (.getfield 29) := ⟨by decide +kernel, rfl⟩
theorem iX7_image_29 : zat mX7_image 29 3 32 (.invokevirtual 216) := ⟨by decide +kernel, rfl⟩
theorem iX7_image_32 : zat mX7_image 32 1 33 (.aload_n 0) := ⟨by decide +kernel, rfl⟩
theorem iX7_image_33 : zat mX7_image 33 1 34 (.iconst 1) := ⟨by decide +kernel, rfl⟩
theorem iX7_image_34 : zat mX7_image 34 3 37 (.putfield 78) := ⟨by decide +kernel, rfl⟩
theorem iX7_image_37 : zat mX7_image 37 1 38 (.aload_n 0) := ⟨by decide +kernel, rfl⟩
theorem iX7_image_38 : zat mX7_image 38 3 41 (.getfield 19) := ⟨by decide +kernel, rfl⟩
theorem iX7_image_41 : zat mX7_image 41 3 44 (.getfield 171) := ⟨by decide +kernel, rfl⟩
theorem iX7_image_44 : zat mX7_image 44 1 45 (.ireturn) := ⟨by decide +kernel, rfl⟩
theorem iX7_restore_0 : zat mX7_restore 0 1 1 (.aload_n 0) := ⟨by decide +kernel, rfl⟩
theorem iX7_restore_1 : zat mX7_restore 1 3 4 (.getfield 78) := ⟨by decide +kernel, rfl⟩
theorem iX7_restore_4 : zbr mX7_restore 4 7 10 (.ifCond .ne) := ⟨6, by decide +kernel, rfl, rfl⟩
theorem iX7_restore_7 : zat mX7_restore 7 2 9 (.bipush (-103)) := ⟨by decide +kernel, rfl⟩
theorem iX7_restore_9 : zat mX7_restore 9 1 10 (.ireturn) := ⟨by decide +kernel, rfl⟩
theorem iX7_restore_10 : zat mX7_restore 10 1 11 (.aload_n 0) := ⟨by decide +kernel, rfl⟩
theorem iX7_restore_11 : zat mX7_restore 11 3 14 (.getfield 19) := ⟨by decide +kernel, rfl⟩
theorem iX7_restore_14 : zat mX7_restore 14 1 15 (.aload_n 0) := ⟨by decide +kernel, rfl⟩
theorem iX7_restore_15 : zat mX7_restore 15 3 18 (.getfield 23) := ⟨by decide +kernel, rfl⟩
theorem iX7_restore_18 : zat mX7_restore 18 3 21 (.invokevirtual 213) := ⟨by decide +kernel, rfl⟩
theorem iX7_restore_21 : zat mX7_restore 21 1 22 (.aload_n 0) := ⟨by decide +kernel, rfl⟩
theorem iX7_restore_22 : zat mX7_restore 22 3 25 (.getfield 29) := ⟨by decide +kernel, rfl⟩
theorem iX7_restore_25 : zat mX7_restore 25 1 26 (.aload_n 0) := ⟨by decide +kernel, rfl⟩
theorem iX7_restore_26 : zat mX7_restore 26 3 29 (.getfield 33) := ⟨by decide +kernel, rfl⟩
theorem iX7_restore_29 : zat mX7_restore 29 3 32 (.invokevirtual 216) := ⟨by decide +kernel, rfl⟩
theorem iX7_restore_32 : zat mX7_restore 32 1 33 (.aload_n 0) := ⟨by decide +kernel, rfl⟩
theorem iX7_restore_33 : zat mX7_restore 33 3 36 (.getfield 19) := ⟨by decide +kernel, rfl⟩
theorem iX7_restore_36 : zat mX7_restore 36 3 39 (.getfield 171) := ⟨by decide +kernel, rfl⟩
theorem iX7_restore_39 : zat mX7_restore 39 1 40 (.ireturn) := ⟨by decide +kernel, rfl⟩
theorem iX7_count_0 : zat mX7_count 0 1 1 (.iload_n 1) := ⟨by decide +kernel, rfl⟩
theorem iX7_count_1 : zat mX7_count 1 67 68 (.tableswitch 165 0 12 #[67, 75, 83, 91, 99, 107, 115, 123, 131, 139, 147, 155, 160]) := ⟨by decide +kernel, rfl⟩
theorem iX7_count_68 : zat mX7_count 68 1 69 (.aload_n 0) := ⟨by decide +kernel, rfl⟩
theorem iX7_count_69 : zat mX7_count 69 3 72 (.getfield 19) := ⟨by decide +kernel, rfl⟩
theorem iX7_count_72 : zat mX7_count 72 3 75 (.getfield 219) := ⟨by decide +kernel, rfl⟩
theorem iX7_count_75 : zat mX7_count 75 1 76 (.ireturn) := ⟨by decide +kernel, rfl⟩
theorem iX7_count_76 : zat mX7_count 76 1 77 (.aload_n 0) := ⟨by decide +kernel, rfl⟩
theorem iX7_count_77 : zat mX7_count 77 3 80 (.getfield 19) := ⟨by decide +kernel, rfl⟩
theorem iX7_count_80 : zat mX7_count 80 3 83 (.getfield 85) := ⟨by decide +kernel, rfl⟩
theorem iX7_count_83 : zat mX7_count 83 1 84 (.ireturn) := ⟨by decide +kernel, rfl⟩
theorem iX7_count_84 : zat mX7_count 84 1 85 (.aload_n 0) := ⟨by decide +kernel, rfl⟩
theorem iX7_count_85 : zat mX7_count 85 3 88 (.getfield 19) := ⟨by decide +kernel, rfl⟩
theorem iX7_count_88 : zat mX7_count 88 3 91 (.invokevirtual 222) := ⟨by decide +kernel, rfl⟩
theorem iX7_count_91 : zat mX7_count 91 1 92 (.ireturn) := ⟨by decide +kernel, rfl⟩
theorem iX7_count_92 : zat mX7_count 92 1 93 (.aload_n 0) := ⟨by decide +kernel, rfl⟩
theorem iX7_count_93 : zat mX7_count 93 3 96 (.getfield 19) := ⟨by decide +kernel, rfl⟩
theorem iX7_count_96 : zat mX7_count 96 3 99 (.invokevirtual 225) := ⟨by decide +kernel, rfl⟩
theorem iX7_count_99 : zat mX7_count 99 1 100 (.ireturn) := ⟨by decide +kernel, rfl⟩
theorem iX7_count_100 : zat mX7_count 100 1 101 (.aload_n 0) := ⟨by decide +kernel, rfl⟩
theorem iX7_count_101 : zat mX7_count 101 3 104 (.getfield 19) := ⟨by decide +kernel, rfl⟩
theorem iX7_count_104 : zat mX7_count 104 3 107 (.invokevirtual 228) := ⟨by decide +kernel, rfl⟩
theorem iX7_count_107 : zat mX7_count 107 1 108 (.ireturn) := ⟨by decide +kernel, rfl⟩
theorem iX7_count_108 : zat mX7_count 108 1 109 (.aload_n 0) := ⟨by decide +kernel, rfl⟩
theorem iX7_count_109 : zat mX7_count 109 3 112 (.getfield 19) := ⟨by decide +kernel, rfl⟩
theorem iX7_count_112 : zat mX7_count 112 3 115 (.invokevirtual 231) := ⟨by decide +kernel, rfl⟩
theorem iX7_count_115 : zat mX7_count 115 1 116 (.ireturn) := ⟨by decide +kernel, rfl⟩
theorem iX7_count_116 : zat mX7_count 116 1 117 (.aload_n 0) := ⟨by decide +kernel, rfl⟩
theorem iX7_count_117 : zat mX7_count 117 3 120 (.getfield 19) := ⟨by decide +kernel, rfl⟩
theorem iX7_count_120 : zat mX7_count 120 3 123 (.getfield 171) := ⟨by decide +kernel, rfl⟩
theorem iX7_count_123 : zat mX7_count 123 1 124 (.ireturn) := ⟨by decide +kernel, rfl⟩
theorem iX7_count_124 : zat mX7_count 124 1 125 (.aload_n 0) := ⟨by decide +kernel, rfl⟩
theorem iX7_count_125 : zat mX7_count 125 3 128 (.getfield 19) := ⟨by decide +kernel, rfl⟩
theorem iX7_count_128 : zat mX7_count 128 3 131 (.getfield 162) := ⟨by decide +kernel, rfl⟩
theorem iX7_count_131 : zat mX7_count 131 1 132 (.ireturn) := ⟨by decide +kernel, rfl⟩
theorem iX7_count_132 : zat mX7_count 132 1 133 (.aload_n 0) := ⟨by decide +kernel, rfl⟩
theorem iX7_count_133 : zat mX7_count 133 3 136 (.getfield 19) := ⟨by decide +kernel, rfl⟩
theorem iX7_count_136 : zat mX7_count 136 3 139 (.getfield 234) := ⟨by decide +kernel, rfl⟩
theorem iX7_count_139 : zat mX7_count 139 1 140 (.ireturn) := ⟨by decide +kernel, rfl⟩
theorem iX7_count_140 : zat mX7_count 140 1 141 (.aload_n 0) := ⟨by decide +kernel, rfl⟩
theorem iX7_count_141 : zat mX7_count 141 3 144 (.getfield 29) := ⟨by decide +kernel, rfl⟩
theorem iX7_count_144 : zat mX7_count 144 3 147 (.getfield 77) := ⟨by decide +kernel, rfl⟩
theorem iX7_count_147 : zat mX7_count 147 1 148 (.ireturn) := ⟨by decide +kernel, rfl⟩
theorem iX7_count_148 : zat mX7_count 148 1 149 (.aload_n 0) := ⟨by decide +kernel, rfl⟩
theorem iX7_count_149 : zat mX7_count 149 3 152 (.getfield 12) := ⟨by decide +kernel, rfl⟩
theorem iX7_count_152 : zat mX7_count 152 3 155 (.getfield 57) := ⟨by decide +kernel, rfl⟩
theorem iX7_count_155 : zat mX7_count 155 1 156 (.ireturn) := ⟨by decide +kernel, rfl⟩
theorem iX7_count_156 : zat mX7_count 156 1 157 (.aload_n 0) := ⟨by decide +kernel, rfl⟩
theorem iX7_count_157 : zat mX7_count 157 3 160 (.getfield 82) := ⟨by decide +kernel, rfl⟩
theorem iX7_count_160 : zat mX7_count 160 1 161 (.ireturn) := ⟨by decide +kernel, rfl⟩
theorem iX7_count_161 : zat mX7_count 161 1 162 (.aload_n 0) := ⟨by decide +kernel, rfl⟩
theorem iX7_count_162 : zat mX7_count 162 3 165 (.getfield 193) := ⟨by decide +kernel, rfl⟩
theorem iX7_count_165 : zat mX7_count 165 1 166 (.ireturn) := ⟨by decide +kernel, rfl⟩
theorem iX7_count_166 : zat mX7_count 166 2 168 (.bipush (-102)) := ⟨by decide +kernel, rfl⟩
theorem iX7_count_168 : zat mX7_count 168 1 169 (.ireturn) := ⟨by decide +kernel, rfl⟩
theorem iX7_digest_0 : zat mX7_digest 0 3 3 (.ldc2_w 237) := ⟨by decide +kernel, rfl⟩
theorem iX7_digest_3 : zat mX7_digest 3 1 4 (.lstore_n 1) := ⟨by decide +kernel, rfl⟩
theorem iX7_digest_4 : zat mX7_digest 4 1 5 (.iconst 0) := ⟨by decide +kernel, rfl⟩
theorem iX7_digest_5 : zat mX7_digest 5 1 6 (.istore_n 3) := ⟨by decide +kernel, rfl⟩
theorem iX7_digest_6 : zat mX7_digest 6 1 7 (.iload_n 3) := ⟨by decide +kernel, rfl⟩
theorem iX7_digest_7 : zat mX7_digest 7 1 8 (.aload_n 0) := ⟨by decide +kernel, rfl⟩
theorem iX7_digest_8 : zat mX7_digest 8 3 11 (.getfield 19) := ⟨by decide +kernel, rfl⟩
theorem iX7_digest_11 : zat mX7_digest 11 3 14 (.getfield 85) := ⟨by decide +kernel, rfl⟩
theorem iX7_digest_14 : zbr mX7_digest 14 17 62 (.if_icmp .ge) := ⟨48, by decide +kernel, rfl, rfl⟩
theorem iX7_digest_17 : zat mX7_digest 17 1 18 (.iconst 0) := ⟨by decide +kernel, rfl⟩
theorem iX7_digest_18 : zat mX7_digest 18 2 20 (.istore 4) := ⟨by decide +kernel, rfl⟩
theorem iX7_digest_20 : zat mX7_digest 20 2 22 (.iload 4) := ⟨by decide +kernel, rfl⟩
theorem iX7_digest_22 : zat mX7_digest 22 2 24 (.bipush 12) := ⟨by decide +kernel, rfl⟩
theorem iX7_digest_24 : zbr mX7_digest 24 27 56 (.if_icmp .gt) := ⟨32, by decide +kernel, rfl, rfl⟩
theorem iX7_digest_27 : zat mX7_digest 27 2 29 (.iload 4) := ⟨by decide +kernel, rfl⟩
theorem iX7_digest_29 : zat mX7_digest 29 2 31 (.bipush 9) := ⟨by decide +kernel, rfl⟩
theorem iX7_digest_31 : zbr mX7_digest 31 34 38 (.if_icmp .ne) := ⟨7, by decide +kernel, rfl, rfl⟩
theorem iX7_digest_34 : zat mX7_digest 34 1 35 (.lload_n 1) := ⟨by decide +kernel, rfl⟩
theorem iX7_digest_35 : zbr mX7_digest 35 38 49 (.goto) := ⟨14, by decide +kernel, rfl, rfl⟩
theorem iX7_digest_38 : zat mX7_digest 38 1 39 (.lload_n 1) := ⟨by decide +kernel, rfl⟩
theorem iX7_digest_39 : zat mX7_digest 39 1 40 (.aload_n 0) := ⟨by decide +kernel, rfl⟩
theorem iX7_digest_40 : zat mX7_digest 40 1 41 (.iload_n 3) := ⟨by decide +kernel, rfl⟩
theorem iX7_digest_41 : zat mX7_digest 41 2 43 (.iload 4) := ⟨by decide +kernel, rfl⟩
theorem iX7_digest_43 : zat mX7_digest 43 3 46 (.invokevirtual 239) := ⟨by decide +kernel, rfl⟩
theorem iX7_digest_46 : zat mX7_digest 46 3 49 (.invokestatic 242) := ⟨by decide +kernel, rfl⟩
theorem iX7_digest_49 : zat mX7_digest 49 1 50 (.lstore_n 1) := ⟨by decide +kernel, rfl⟩
theorem iX7_digest_50 : zat mX7_digest 50 3 53 (.iinc 4 1) := ⟨by decide +kernel, rfl⟩
theorem iX7_digest_53 : zbr mX7_digest 53 56 20 (.goto) := ⟨-33, by decide +kernel, rfl, rfl⟩
theorem iX7_digest_56 : zat mX7_digest 56 3 59 (.iinc 3 1) := ⟨by decide +kernel, rfl⟩
theorem iX7_digest_59 : zbr mX7_digest 59 62 6 (.goto) := ⟨-53, by decide +kernel, rfl, rfl⟩
theorem iX7_digest_62 : zat mX7_digest 62 1 63 (.iconst 0) := ⟨by decide +kernel, rfl⟩
theorem iX7_digest_63 : zat mX7_digest 63 1 64 (.istore_n 3) := ⟨by decide +kernel, rfl⟩
theorem iX7_digest_64 : zat mX7_digest 64 1 65 (.iload_n 3) := ⟨by decide +kernel, rfl⟩
theorem iX7_digest_65 : zat mX7_digest 65 1 66 (.aload_n 0) := ⟨by decide +kernel, rfl⟩
theorem iX7_digest_66 : zat mX7_digest 66 3 69 (.getfield 19) := ⟨by decide +kernel, rfl⟩
theorem iX7_digest_69 : zat mX7_digest 69 3 72 (.getfield 219) := ⟨by decide +kernel, rfl⟩
theorem iX7_digest_72 : zbr mX7_digest 72 75 126 (.if_icmp .ge) := ⟨54, by decide +kernel, rfl, rfl⟩
theorem iX7_digest_75 : zat mX7_digest 75 1 76 (.iconst 0) := ⟨by decide +kernel, rfl⟩
theorem iX7_digest_76 : zat mX7_digest 76 2 78 (.istore 4) := ⟨by decide +kernel, rfl⟩
theorem iX7_digest_78 : zat mX7_digest 78 2 80 (.iload 4) := ⟨by decide +kernel, rfl⟩
theorem iX7_digest_80 : zat mX7_digest 80 2 82 (.bipush 12) := ⟨by decide +kernel, rfl⟩
theorem iX7_digest_82 : zbr mX7_digest 82 85 120 (.if_icmp .gt) := ⟨38, by decide +kernel, rfl, rfl⟩
theorem iX7_digest_85 : zat mX7_digest 85 2 87 (.iload 4) := ⟨by decide +kernel, rfl⟩
theorem iX7_digest_87 : zat mX7_digest 87 1 88 (.iconst 4) := ⟨by decide +kernel, rfl⟩
theorem iX7_digest_88 : zbr mX7_digest 88 91 102 (.if_icmp .le) := ⟨14, by decide +kernel, rfl, rfl⟩
theorem iX7_digest_91 : zat mX7_digest 91 2 93 (.iload 4) := ⟨by decide +kernel, rfl⟩
theorem iX7_digest_93 : zat mX7_digest 93 2 95 (.bipush 10) := ⟨by decide +kernel, rfl⟩
theorem iX7_digest_95 : zbr mX7_digest 95 98 102 (.if_icmp .ge) := ⟨7, by decide +kernel, rfl, rfl⟩
theorem iX7_digest_98 : zat mX7_digest 98 1 99 (.lload_n 1) := ⟨by decide +kernel, rfl⟩
theorem iX7_digest_99 : zbr mX7_digest 99 102 113 (.goto) := ⟨14, by decide +kernel, rfl, rfl⟩
theorem iX7_digest_102 : zat mX7_digest 102 1 103 (.lload_n 1) := ⟨by decide +kernel, rfl⟩
theorem iX7_digest_103 : zat mX7_digest 103 1 104 (.aload_n 0) := ⟨by decide +kernel, rfl⟩
theorem iX7_digest_104 : zat mX7_digest 104 1 105 (.iload_n 3) := ⟨by decide +kernel, rfl⟩
theorem iX7_digest_105 : zat mX7_digest 105 2 107 (.iload 4) := ⟨by decide +kernel, rfl⟩
theorem iX7_digest_107 : zat mX7_digest 107 3 110 (.invokevirtual 246) := ⟨by decide +kernel, rfl⟩
theorem iX7_digest_110 : zat mX7_digest 110 3 113 (.invokestatic 242) := ⟨by decide +kernel, rfl⟩
theorem iX7_digest_113 : zat mX7_digest 113 1 114 (.lstore_n 1) := ⟨by decide +kernel, rfl⟩
theorem iX7_digest_114 : zat mX7_digest 114 3 117 (.iinc 4 1) := ⟨by decide +kernel, rfl⟩
theorem iX7_digest_117 : zbr mX7_digest 117 120 78 (.goto) := ⟨-39, by decide +kernel, rfl, rfl⟩
theorem iX7_digest_120 : zat mX7_digest 120 3 123 (.iinc 3 1) := ⟨by decide +kernel, rfl⟩
theorem iX7_digest_123 : zbr mX7_digest 123 126 64 (.goto) := ⟨-59, by decide +kernel, rfl, rfl⟩
theorem iX7_digest_126 : zat mX7_digest 126 1 127 (.aload_n 0) := ⟨by decide +kernel, rfl⟩
theorem iX7_digest_127 : zat mX7_digest 127 3 130 (.invokevirtual 168) := ⟨by decide +kernel, rfl⟩
theorem iX7_digest_130 : zbr mX7_digest 130 133 220 (.ifCond .ne) := ⟨90, by decide +kernel, rfl, rfl⟩
theorem iX7_digest_133 : zat mX7_digest 133 1 134 (.lload_n 1) := ⟨by decide +kernel, rfl⟩
theorem iX7_digest_134 : zat mX7_digest 134 1 135 (.aload_n 0) := ⟨by decide +kernel, rfl⟩
theorem iX7_digest_135 : zat mX7_digest 135 3 138 (.getfield 39) := ⟨by decide +kernel, rfl⟩
theorem iX7_digest_138 : zat mX7_digest 138 1 139 (.aload_n 0) := ⟨by decide +kernel, rfl⟩
theorem iX7_digest_139 : zat mX7_digest 139 3 142 (.getfield 19) := ⟨by decide +kernel, rfl⟩
theorem iX7_digest_142 : zat mX7_digest 142 1 143 (.iconst 2) := ⟨by decide +kernel, rfl⟩
theorem iX7_digest_143 : zat mX7_digest 143 3 146 (.invokevirtual 180) := ⟨by decide +kernel, rfl⟩
theorem iX7_digest_146 : zat mX7_digest 146 3 149 (.invokestatic 242) := ⟨by decide +kernel, rfl⟩
theorem iX7_digest_149 : zat mX7_digest 149 1 150 (.lstore_n 1) := ⟨by decide +kernel, rfl⟩
theorem iX7_digest_150 : zat mX7_digest 150 1 151 (.aload_n 0) := ⟨by decide +kernel, rfl⟩
theorem iX7_digest_151 : zat mX7_digest 151 3 154 (.getfield 39) := ⟨by decide +kernel, rfl⟩
theorem iX7_digest_154 : zat mX7_digest 154 1 155 (.aload_n 0) := ⟨by decide +kernel, rfl⟩
theorem iX7_digest_155 : zat mX7_digest 155 3 158 (.getfield 19) := ⟨by decide +kernel, rfl⟩
theorem iX7_digest_158 : zat mX7_digest 158 1 159 (.iconst 2) := ⟨by decide +kernel, rfl⟩
theorem iX7_digest_159 : zat mX7_digest 159 3 162 (.invokevirtual 183) := ⟨by decide +kernel, rfl⟩
theorem iX7_digest_162 : zat mX7_digest 162 1 163 (.lload_n 1) := ⟨by decide +kernel, rfl⟩
theorem iX7_digest_163 : zat mX7_digest 163 1 164 (.aload_n 0) := ⟨by decide +kernel, rfl⟩
theorem iX7_digest_164 : zat mX7_digest 164 3 167 (.getfield 39) := ⟨by decide +kernel, rfl⟩
theorem iX7_digest_167 : zat mX7_digest 167 3 170 (.getfield 187) := ⟨by decide +kernel, rfl⟩
theorem iX7_digest_170 : zat mX7_digest 170 3 173 (.invokestatic 242) := ⟨by decide +kernel, rfl⟩
theorem iX7_digest_173 : zat mX7_digest 173 1 174 (.lstore_n 1) := ⟨by decide +kernel, rfl⟩
theorem iX7_digest_174 : zat mX7_digest 174 1 175 (.lload_n 1) := ⟨by decide +kernel, rfl⟩
theorem iX7_digest_175 : zat mX7_digest 175 1 176 (.aload_n 0) := ⟨by decide +kernel, rfl⟩
theorem iX7_digest_176 : zat mX7_digest 176 3 179 (.getfield 39) := ⟨by decide +kernel, rfl⟩
theorem iX7_digest_179 : zat mX7_digest 179 1 180 (.iconst 2) := ⟨by decide +kernel, rfl⟩
theorem iX7_digest_180 : zat mX7_digest 180 1 181 (.iconst 0) := ⟨by decide +kernel, rfl⟩
theorem iX7_digest_181 : zat mX7_digest 181 3 184 (.invokevirtual 190) := ⟨by decide +kernel, rfl⟩
theorem iX7_digest_184 : zat mX7_digest 184 3 187 (.invokestatic 242) := ⟨by decide +kernel, rfl⟩
theorem iX7_digest_187 : zat mX7_digest 187 1 188 (.lstore_n 1) := ⟨by decide +kernel, rfl⟩
theorem iX7_digest_188 : zat mX7_digest 188 1 189 (.lload_n 1) := ⟨by decide +kernel, rfl⟩
theorem iX7_digest_189 : zat mX7_digest 189 1 190 (.aload_n 0) := ⟨by decide +kernel, rfl⟩
theorem iX7_digest_190 : zat mX7_digest 190 3 193 (.getfield 39) := ⟨by decide +kernel, rfl⟩
theorem iX7_digest_193 : zat mX7_digest 193 1 194 (.iconst 2) := ⟨by decide +kernel, rfl⟩
theorem iX7_digest_194 : zat mX7_digest 194 1 195 (.iconst 1) := ⟨by decide +kernel, rfl⟩
theorem iX7_digest_195 : zat mX7_digest 195 3 198 (.invokevirtual 190) := ⟨by decide +kernel, rfl⟩
theorem iX7_digest_198 : zat mX7_digest 198 3 201 (.invokestatic 242) := ⟨by decide +kernel, rfl⟩
theorem iX7_digest_201 : zat mX7_digest 201 1 202 (.lstore_n 1) := ⟨by decide +kernel, rfl⟩
theorem iX7_digest_202 : zat mX7_digest 202 1 203 (.lload_n 1) := ⟨by decide +kernel, rfl⟩
theorem iX7_digest_203 : zat mX7_digest 203 1 204 (.aload_n 0) := ⟨by decide +kernel, rfl⟩
theorem iX7_digest_204 : zat mX7_digest 204 3 207 (.getfield 39) := ⟨by decide +kernel, rfl⟩
theorem iX7_digest_207 : zat mX7_digest 207 1 208 (.aload_n 0) := ⟨by decide +kernel, rfl⟩
theorem iX7_digest_208 : zat mX7_digest 208 3 211 (.getfield 19) := ⟨by decide +kernel, rfl⟩
theorem iX7_digest_211 : zat mX7_digest 211 2 213 (.bipush 9) := ⟨by decide +kernel, rfl⟩
theorem iX7_digest_213 : zat mX7_digest 213 3 216 (.invokevirtual 203) := ⟨by decide +kernel, rfl⟩
theorem iX7_digest_216 : zat mX7_digest 216 3 219 (.invokestatic 242) := ⟨by decide +kernel, rfl⟩
theorem iX7_digest_219 : zat mX7_digest 219 1 220 (.lstore_n 1) := ⟨by decide +kernel, rfl⟩
theorem iX7_digest_220 : zat mX7_digest 220 1 221 (.iconst 0) := ⟨by decide +kernel, rfl⟩
theorem iX7_digest_221 : zat mX7_digest 221 1 222 (.istore_n 3) := ⟨by decide +kernel, rfl⟩
theorem iX7_digest_222 : zat mX7_digest 222 1 223 (.iload_n 3) := ⟨by decide +kernel, rfl⟩
theorem iX7_digest_223 : zat mX7_digest 223 1 224 (.aload_n 0) := ⟨by decide +kernel, rfl⟩
theorem iX7_digest_224 : zat mX7_digest 224 3 227 (.getfield 12) := ⟨by decide +kernel, rfl⟩
theorem iX7_digest_227 : zat mX7_digest 227 3 230 (.getfield 57) := ⟨by decide +kernel, rfl⟩
theorem iX7_digest_230 : zbr mX7_digest 230 233 253 (.if_icmp .ge) := ⟨23, by decide +kernel, rfl, rfl⟩
theorem iX7_digest_233 : zat mX7_digest 233 1 234 (.lload_n 1) := ⟨by decide +kernel, rfl⟩
theorem iX7_digest_234 : zat mX7_digest 234 1 235 (.aload_n 0) := ⟨by decide +kernel, rfl⟩
theorem iX7_digest_235 : zat mX7_digest 235 3 238 (.getfield 12) := ⟨by decide +kernel, rfl⟩
theorem iX7_digest_238 : zat mX7_digest 238 3 241 (.getfield 249) := ⟨by decide +kernel, rfl⟩
theorem iX7_digest_241 : zat mX7_digest 241 1 242 (.iload_n 3) := ⟨by decide +kernel, rfl⟩
theorem iX7_digest_242 : zat mX7_digest 242 1 243 (.iaload) := ⟨by decide +kernel, rfl⟩
theorem iX7_digest_243 : zat mX7_digest 243 3 246 (.invokestatic 242) := ⟨by decide +kernel, rfl⟩
theorem iX7_digest_246 : zat mX7_digest 246 1 247 (.lstore_n 1) := ⟨by decide +kernel, rfl⟩
theorem iX7_digest_247 : zat mX7_digest 247 3 250 (.iinc 3 1) := ⟨by decide +kernel, rfl⟩
theorem iX7_digest_250 : zbr mX7_digest 250 253 222 (.goto) := ⟨-28, by decide +kernel, rfl, rfl⟩
theorem iX7_digest_253 : zat mX7_digest 253 1 254 (.iconst 0) := ⟨by decide +kernel, rfl⟩
theorem iX7_digest_254 : zat mX7_digest 254 1 255 (.istore_n 3) := ⟨by decide +kernel, rfl⟩
theorem iX7_digest_255 : zat mX7_digest 255 1 256 (.iload_n 3) := ⟨by decide +kernel, rfl⟩
theorem iX7_digest_256 : zat mX7_digest 256 2 258 (.bipush 12) := ⟨by decide +kernel, rfl⟩
theorem iX7_digest_258 : zbr mX7_digest 258 261 277 (.if_icmp .gt) := ⟨19, by decide +kernel, rfl, rfl⟩
theorem iX7_digest_261 : zat mX7_digest 261 1 262 (.lload_n 1) := ⟨by decide +kernel, rfl⟩
theorem iX7_digest_262 : zat mX7_digest 262 1 263 (.aload_n 0) := ⟨by decide +kernel, rfl⟩
theorem iX7_digest_263 : zat mX7_digest 263 1 264 (.iload_n 3) := ⟨by decide +kernel, rfl⟩
theorem iX7_digest_264 : zat mX7_digest 264 3 267 (.invokevirtual 252) := ⟨by decide +kernel, rfl⟩
theorem iX7_digest_267 : zat mX7_digest 267 3 270 (.invokestatic 242) := ⟨by decide +kernel, rfl⟩
theorem iX7_digest_270 : zat mX7_digest 270 1 271 (.lstore_n 1) := ⟨by decide +kernel, rfl⟩
theorem iX7_digest_271 : zat mX7_digest 271 3 274 (.iinc 3 1) := ⟨by decide +kernel, rfl⟩
theorem iX7_digest_274 : zbr mX7_digest 274 277 255 (.goto) := ⟨-19, by decide +kernel, rfl, rfl⟩
theorem iX7_digest_277 : zat mX7_digest 277 1 278 (.lload_n 1) := ⟨by decide +kernel, rfl⟩
theorem iX7_digest_278 : zat mX7_digest 278 1 279 (.lreturn) := ⟨by decide +kernel, rfl⟩
theorem iX7_with_0 : zat mX7_with 0 3 3 (.ldc2_w 255) := ⟨by decide +kernel, rfl⟩
theorem iX7_with_3 : zat mX7_with 3 1 4 (.lload_n 0) := ⟨by decide +kernel, rfl⟩
theorem iX7_with_4 : zat mX7_with 4 1 5 (.lmul) := ⟨by decide +kernel, rfl⟩
theorem iX7_with_5 : zat mX7_with 5 1 6 (.iload_n 2) := ⟨by decide +kernel, rfl⟩
theorem iX7_with_6 : zat mX7_with 6 1 7 (.i2l) := ⟨by decide +kernel, rfl⟩
theorem iX7_with_7 : zat mX7_with 7 1 8 (.ladd) := ⟨by decide +kernel, rfl⟩
theorem iX7_with_8 : zat mX7_with 8 1 9 (.lreturn) := ⟨by decide +kernel, rfl⟩
theorem iX7_isNoBarn_0 : zat mX7_isNoBarn 0 1 1 (.aload_n 0) := ⟨by decide +kernel, rfl⟩
theorem iX7_isNoBarn_1 : zat mX7_isNoBarn 1 3 4 (.getfield 19) := ⟨by decide +kernel, rfl⟩
theorem iX7_isNoBarn_4 : zat mX7_isNoBarn 4 3 7 (.getfield 85) := ⟨by decide +kernel, rfl⟩
theorem iX7_isNoBarn_7 : zbr mX7_isNoBarn 7 10 14 (.ifCond .ne) := ⟨7, by decide +kernel, rfl, rfl⟩
theorem iX7_isNoBarn_10 : zat mX7_isNoBarn 10 1 11 (.iconst 1) := ⟨by decide +kernel, rfl⟩
theorem iX7_isNoBarn_11 : zbr mX7_isNoBarn 11 14 15 (.goto) := ⟨4, by decide +kernel, rfl, rfl⟩
theorem iX7_isNoBarn_14 : zat mX7_isNoBarn 14 1 15 (.iconst 0) := ⟨by decide +kernel, rfl⟩
theorem iX7_isNoBarn_15 : zat mX7_isNoBarn 15 1 16 (.ireturn) := ⟨by decide +kernel, rfl⟩
theorem iX7_isNoCart_0 : zat mX7_isNoCart 0 1 1 (.iload_n 1) := ⟨by decide +kernel, rfl⟩
theorem iX7_isNoCart_1 : zbr mX7_isNoCart 1 4 15 (.ifCond .lt) := ⟨14, by decide +kernel, rfl, rfl⟩
theorem iX7_isNoCart_4 : zat mX7_isNoCart 4 1 5 (.iload_n 1) := ⟨by decide +kernel, rfl⟩
theorem iX7_isNoCart_5 : zat mX7_isNoCart 5 1 6 (.aload_n 0) := ⟨by decide +kernel, rfl⟩
theorem iX7_isNoCart_6 : zat mX7_isNoCart 6 3 9 (.getfield 19) := ⟨by decide +kernel, rfl⟩
theorem iX7_isNoCart_9 : zat mX7_isNoCart 9 3 12 (.getfield 85) := ⟨by decide +kernel, rfl⟩
theorem iX7_isNoCart_12 : zbr mX7_isNoCart 12 15 19 (.if_icmp .lt) := ⟨7, by decide +kernel, rfl, rfl⟩
theorem iX7_isNoCart_15 : zat mX7_isNoCart 15 1 16 (.iconst 1) := ⟨by decide +kernel, rfl⟩
theorem iX7_isNoCart_16 : zbr mX7_isNoCart 16 19 20 (.goto) := ⟨4, by decide +kernel, rfl, rfl⟩
theorem iX7_isNoCart_19 : zat mX7_isNoCart 19 1 20 (.iconst 0) := ⟨by decide +kernel, rfl⟩
theorem iX7_isNoCart_20 : zat mX7_isNoCart 20 1 21 (.ireturn) := ⟨by decide +kernel, rfl⟩
theorem iX7_isNoBay_0 : zat mX7_isNoBay 0 1 1 (.iload_n 1) := ⟨by decide +kernel, rfl⟩
theorem iX7_isNoBay_1 : zbr mX7_isNoBay 1 4 15 (.ifCond .lt) := ⟨14, by decide +kernel, rfl, rfl⟩
theorem iX7_isNoBay_4 : zat mX7_isNoBay 4 1 5 (.iload_n 1) := ⟨by decide +kernel, rfl⟩
theorem iX7_isNoBay_5 : zat mX7_isNoBay 5 1 6 (.aload_n 0) := ⟨by decide +kernel, rfl⟩
theorem iX7_isNoBay_6 : zat mX7_isNoBay 6 3 9 (.getfield 19) := ⟨by decide +kernel, rfl⟩
theorem iX7_isNoBay_9 : zat mX7_isNoBay 9 3 12 (.getfield 219) := ⟨by decide +kernel, rfl⟩
theorem iX7_isNoBay_12 : zbr mX7_isNoBay 12 15 19 (.if_icmp .lt) := ⟨7, by decide +kernel, rfl, rfl⟩
theorem iX7_isNoBay_15 : zat mX7_isNoBay 15 1 16 (.iconst 1) := ⟨by decide +kernel, rfl⟩
theorem iX7_isNoBay_16 : zbr mX7_isNoBay 16 19 20 (.goto) := ⟨4, by decide +kernel, rfl, rfl⟩
theorem iX7_isNoBay_19 : zat mX7_isNoBay 19 1 20 (.iconst 0) := ⟨by decide +kernel, rfl⟩
theorem iX7_isNoBay_20 : zat mX7_isNoBay 20 1 21 (.ireturn) := ⟨by decide +kernel, rfl⟩
theorem iX8_init_0 : zat mX8_init 0 1 1 (.aload_n 0) := ⟨by decide +kernel, rfl⟩
theorem iX8_init_1 : zat mX8_init 1 3 4 (.invokespecial 1) := ⟨by decide +kernel, rfl⟩
theorem iX8_init_4 : zat mX8_init 4 1 5 (.aload_n 0) := ⟨by decide +kernel, rfl⟩
theorem iX8_init_5 : zat mX8_init 5 2 7 (.bipush 38) := ⟨by decide +kernel, rfl⟩
theorem iX8_init_7 : zat mX8_init 7 2 9 (.newarray .int) := ⟨by decide +kernel, rfl⟩
theorem iX8_init_9 : zat mX8_init 9 3 12 (.putfield 7) := ⟨by decide +kernel, rfl⟩
theorem iX8_init_12 : zat mX8_init 12 1 13 (.aload_n 0) := ⟨by decide +kernel, rfl⟩
theorem iX8_init_13 : zat mX8_init 13 2 15 (.bipush 12) := ⟨by decide +kernel, rfl⟩
theorem iX8_init_15 : zat mX8_init 15 2 17 (.newarray .int) := ⟨by decide +kernel, rfl⟩
theorem iX8_init_17 : zat mX8_init 17 3 20 (.putfield 13) := ⟨by decide +kernel, rfl⟩
theorem iX8_init_20 : zat mX8_init 20 1 21 (.aload_n 0) := ⟨by decide +kernel, rfl⟩
theorem iX8_init_21 : zat mX8_init 21 2 23 (.bipush 12) := ⟨by decide +kernel, rfl⟩
theorem iX8_init_23 : zat mX8_init 23 2 25 (.newarray .int) := ⟨by decide +kernel, rfl⟩
theorem iX8_init_25 : zat mX8_init 25 3 28 (.putfield 16) := ⟨by decide +kernel, rfl⟩
theorem iX8_init_28 : zat mX8_init 28 1 29 (.aload_n 0) := ⟨by decide +kernel, rfl⟩
theorem iX8_init_29 : zat mX8_init 29 1 30 (.iconst 3) := ⟨by decide +kernel, rfl⟩
theorem iX8_init_30 : zat mX8_init 30 2 32 (.newarray .int) := ⟨by decide +kernel, rfl⟩
theorem iX8_init_32 : zat mX8_init 32 3 35 (.putfield 19) := ⟨by decide +kernel, rfl⟩
theorem iX8_init_35 : zat mX8_init 35 1 36 (.aload_n 0) := ⟨by decide +kernel, rfl⟩
theorem iX8_init_36 : zat mX8_init 36 2 38 (.bipush 12) := ⟨by decide +kernel, rfl⟩
theorem iX8_init_38 : zat mX8_init 38 2 40 (.newarray .int) := ⟨by decide +kernel, rfl⟩
theorem iX8_init_40 : zat mX8_init 40 3 43 (.putfield 22) := ⟨by decide +kernel, rfl⟩
theorem iX8_init_43 : zat mX8_init 43 1 44 (.aload_n 0) := ⟨by decide +kernel, rfl⟩
theorem iX8_init_44 : zat mX8_init 44 2 46 (.bipush 12) := ⟨by decide +kernel, rfl⟩
theorem iX8_init_46 : zat mX8_init 46 2 48 (.newarray .int) := ⟨by decide +kernel, rfl⟩
theorem iX8_init_48 : zat mX8_init 48 3 51 (.putfield 25) := ⟨by decide +kernel, rfl⟩
theorem iX8_init_51 : zat mX8_init 51 1 52 (.aload_n 0) := ⟨by decide +kernel, rfl⟩
theorem iX8_init_52 : zat mX8_init 52 2 54 (.bipush 12) := ⟨by decide +kernel, rfl⟩
theorem iX8_init_54 : zat mX8_init 54 2 56 (.newarray .int) := ⟨by decide +kernel, rfl⟩
theorem iX8_init_56 : zat mX8_init 56 3 59 (.putfield 28) := ⟨by decide +kernel, rfl⟩
theorem iX8_init_59 : zat mX8_init 59 1 60 (.aload_n 0) := ⟨by decide +kernel, rfl⟩
theorem iX8_init_60 : zat mX8_init 60 2 62 (.bipush 12) := ⟨by decide +kernel, rfl⟩
theorem iX8_init_62 : zat mX8_init 62 2 64 (.newarray .int) := ⟨by decide +kernel, rfl⟩
theorem iX8_init_64 : zat mX8_init 64 3 67 (.putfield 31) := ⟨by decide +kernel, rfl⟩
theorem iX8_init_67 : zat mX8_init 67 1 68 (.aload_n 0) := ⟨by decide +kernel, rfl⟩
theorem iX8_init_68 : zat mX8_init 68 2 70 (.bipush 12) := ⟨by decide +kernel, rfl⟩
theorem iX8_init_70 : zat mX8_init 70 2 72 (.newarray .int) := ⟨by decide +kernel, rfl⟩
theorem iX8_init_72 : zat mX8_init 72 3 75 (.putfield 34) := ⟨by decide +kernel, rfl⟩
theorem iX8_init_75 : zat mX8_init 75 1 76 (.aload_n 0) := ⟨by decide +kernel, rfl⟩
theorem iX8_init_76 : zat mX8_init 76 2 78 (.bipush 12) := ⟨by decide +kernel, rfl⟩
theorem iX8_init_78 : zat mX8_init 78 2 80 (.newarray .int) := ⟨by decide +kernel, rfl⟩
theorem iX8_init_80 : zat mX8_init 80 3 83 (.putfield 37) := ⟨by decide +kernel, rfl⟩
theorem iX8_init_83 : zat mX8_init 83 1 84 (.aload_n 0) := ⟨by decide +kernel, rfl⟩
theorem iX8_init_84 : zat mX8_init 84 2 86 (.bipush 12) := ⟨by decide +kernel, rfl⟩
theorem iX8_init_86 : zat mX8_init 86 2 88 (.newarray .int) := ⟨by decide +kernel, rfl⟩
theorem iX8_init_88 : zat mX8_init 88 3 91 (.putfield 40) := ⟨by decide +kernel, rfl⟩
theorem iX8_init_91 : zat mX8_init 91 1 92 (.aload_n 0) := ⟨by decide +kernel, rfl⟩
theorem iX8_init_92 : zat mX8_init 92 3 95 (.sipush 512) := ⟨by decide +kernel, rfl⟩
theorem iX8_init_95 : zat mX8_init 95 2 97 (.newarray .int) := ⟨by decide +kernel, rfl⟩
theorem iX8_init_97 : zat mX8_init 97 3 100 (.putfield 43) := ⟨by decide +kernel, rfl⟩
theorem iX8_init_100 : zat mX8_init 100 1 101 (.aload_n 0) := ⟨by decide +kernel, rfl⟩
theorem iX8_init_101 : zat mX8_init 101 3 104 (.sipush 512) := ⟨by decide +kernel, rfl⟩
theorem iX8_init_104 : zat mX8_init 104 2 106 (.newarray .int) := ⟨by decide +kernel, rfl⟩
theorem iX8_init_106 : zat mX8_init 106 3 109 (.putfield 46) := ⟨by decide +kernel, rfl⟩
theorem iX8_init_109 : zat mX8_init 109 1 110 (.aload_n 0) := ⟨by decide +kernel, rfl⟩
theorem iX8_init_110 : zat mX8_init 110 3 113 (.sipush 512) := ⟨by decide +kernel, rfl⟩
theorem iX8_init_113 : zat mX8_init 113 2 115 (.newarray .int) := ⟨by decide +kernel, rfl⟩
theorem iX8_init_115 : zat mX8_init 115 3 118 (.putfield 49) := ⟨by decide +kernel, rfl⟩
theorem iX8_init_118 : zat mX8_init 118 1 119 (.aload_n 0) := ⟨by decide +kernel, rfl⟩
theorem iX8_init_119 : zat mX8_init 119 2 121 (.bipush 18) := ⟨by decide +kernel, rfl⟩
theorem iX8_init_121 : zat mX8_init 121 2 123 (.newarray .int) := ⟨by decide +kernel, rfl⟩
theorem iX8_init_123 : zat mX8_init 123 3 126 (.putfield 52) := ⟨by decide +kernel, rfl⟩
theorem iX8_init_126 : zat mX8_init 126 1 127 (.aload_n 0) := ⟨by decide +kernel, rfl⟩
theorem iX8_init_127 : zat mX8_init 127 2 129 (.bipush 90) := ⟨by decide +kernel, rfl⟩
theorem iX8_init_129 : zat mX8_init 129 2 131 (.newarray .int) := ⟨by decide +kernel, rfl⟩
theorem iX8_init_131 : zat mX8_init 131 3 134 (.putfield 55) := ⟨by decide +kernel, rfl⟩
theorem iX8_init_134 : zat mX8_init 134 1 135 (.aload_n 0) := ⟨by decide +kernel, rfl⟩
theorem iX8_init_135 : zat mX8_init 135 2 137 (.bipush 12) := ⟨by decide +kernel, rfl⟩
theorem iX8_init_137 : zat mX8_init 137 2 139 (.newarray .int) := ⟨by decide +kernel, rfl⟩
theorem iX8_init_139 : zat mX8_init 139 3 142 (.putfield 58) := ⟨by decide +kernel, rfl⟩
theorem iX8_init_142 : zat mX8_init 142 1 143 (.aload_n 0) := ⟨by decide +kernel, rfl⟩
theorem iX8_init_143 : zat mX8_init 143 2 145 (.bipush 12) := ⟨by decide +kernel, rfl⟩
theorem iX8_init_145 : zat mX8_init 145 2 147 (.newarray .int) := ⟨by decide +kernel, rfl⟩
theorem iX8_init_147 : zat mX8_init 147 3 150 (.putfield 61) := ⟨by decide +kernel, rfl⟩
theorem iX8_init_150 : zat mX8_init 150 1 151 (.aload_n 0) := ⟨by decide +kernel, rfl⟩
theorem iX8_init_151 : zat mX8_init 151 2 153 (.bipush 12) := ⟨by decide +kernel, rfl⟩
theorem iX8_init_153 : zat mX8_init 153 2 155 (.newarray .int) := ⟨by decide +kernel, rfl⟩
theorem iX8_init_155 : zat mX8_init 155 3 158 (.putfield 64) := ⟨by decide +kernel, rfl⟩
theorem iX8_init_158 : zat mX8_init 158 1 159 (.aload_n 0) := ⟨by decide +kernel, rfl⟩
theorem iX8_init_159 : zat mX8_init 159 2 161 (.bipush 12) := ⟨by decide +kernel, rfl⟩
theorem iX8_init_161 : zat mX8_init 161 2 163 (.newarray .int) := ⟨by decide +kernel, rfl⟩
theorem iX8_init_163 : zat mX8_init 163 3 166 (.putfield 67) := ⟨by decide +kernel, rfl⟩
theorem iX8_init_166 : zat mX8_init 166 1 167 (.aload_n 0) := ⟨by decide +kernel, rfl⟩
theorem iX8_init_167 : zat mX8_init 167 2 169 (.bipush 18) := ⟨by decide +kernel, rfl⟩
theorem iX8_init_169 : zat mX8_init 169 2 171 (.newarray .int) := ⟨by decide +kernel, rfl⟩
theorem iX8_init_171 : zat mX8_init 171 3 174 (.putfield 70) := ⟨by decide +kernel, rfl⟩
theorem iX8_init_174 : zat mX8_init 174 1 175 (.aload_n 0) := ⟨by decide +kernel, rfl⟩
theorem iX8_init_175 : zat mX8_init 175 1 176 (.iconst (-1)) := ⟨by decide +kernel, rfl⟩
theorem iX8_init_176 : zat mX8_init 176 3 179 (.putfield 73) := ⟨by decide +kernel, rfl⟩
theorem iX8_init_179 : zat mX8_init 179 1 180 (.return_) := ⟨by decide +kernel, rfl⟩
theorem iX8_in_0 : zat mX8_in 0 1 1 (.lload_n 0) := ⟨by decide +kernel, rfl⟩
theorem iX8_in_1 : zat mX8_in 1 1 2 (.lload_n 2) := ⟨by decide +kernel, rfl⟩
theorem iX8_in_2 : zat mX8_in 2 1 3 (.lcmp) := ⟨by decide +kernel, rfl⟩
theorem iX8_in_3 : zbr mX8_in 3 6 17 (.ifCond .lt) := ⟨14, by decide +kernel, rfl, rfl⟩
theorem iX8_in_6 : zat mX8_in 6 1 7 (.lload_n 0) := ⟨by decide +kernel, rfl⟩
theorem iX8_in_7 : zat mX8_in 7 2 9 (.lload 4) := ⟨by decide +kernel, rfl⟩
theorem iX8_in_9 : zat mX8_in 9 1 10 (.lcmp) := ⟨by decide +kernel, rfl⟩
theorem iX8_in_10 : zbr mX8_in 10 13 17 (.ifCond .gt) := ⟨7, by decide +kernel, rfl, rfl⟩
theorem iX8_in_13 : zat mX8_in 13 1 14 (.iconst 1) := ⟨by decide +kernel, rfl⟩
theorem iX8_in_14 : zbr mX8_in 14 17 18 (.goto) := ⟨4, by decide +kernel, rfl, rfl⟩
theorem iX8_in_17 : zat mX8_in 17 1 18 (.iconst 0) := ⟨by decide +kernel, rfl⟩
theorem iX8_in_18 : zat mX8_in 18 1 19 (.ireturn) := ⟨by decide +kernel, rfl⟩
theorem iX8_copy_0 : zat mX8_copy 0 1 1 (.iconst 0) := ⟨by decide +kernel, rfl⟩
theorem iX8_copy_1 : zat mX8_copy 1 1 2 (.istore_n 2) := ⟨by decide +kernel, rfl⟩
theorem iX8_copy_2 : zat mX8_copy 2 1 3 (.iload_n 2) := ⟨by decide +kernel, rfl⟩
theorem iX8_copy_3 : zat mX8_copy 3 1 4 (.aload_n 0) := ⟨by decide +kernel, rfl⟩
theorem iX8_copy_4 : zat mX8_copy 4 1 5 (.arraylength) := ⟨by decide +kernel, rfl⟩
theorem iX8_copy_5 : zbr mX8_copy 5 8 20 (.if_icmp .ge) := ⟨15, by decide +kernel, rfl, rfl⟩
theorem iX8_copy_8 : zat mX8_copy 8 1 9 (.aload_n 1) := ⟨by decide +kernel, rfl⟩
theorem iX8_copy_9 : zat mX8_copy 9 1 10 (.iload_n 2) := ⟨by decide +kernel, rfl⟩
theorem iX8_copy_10 : zat mX8_copy 10 1 11 (.aload_n 0) := ⟨by decide +kernel, rfl⟩
theorem iX8_copy_11 : zat mX8_copy 11 1 12 (.iload_n 2) := ⟨by decide +kernel, rfl⟩
theorem iX8_copy_12 : zat mX8_copy 12 1 13 (.iaload) := ⟨by decide +kernel, rfl⟩
theorem iX8_copy_13 : zat mX8_copy 13 1 14 (.iastore) := ⟨by decide +kernel, rfl⟩
theorem iX8_copy_14 : zat mX8_copy 14 3 17 (.iinc 2 1) := ⟨by decide +kernel, rfl⟩
theorem iX8_copy_17 : zbr mX8_copy 17 20 2 (.goto) := ⟨-15, by decide +kernel, rfl, rfl⟩
theorem iX8_copy_20 : zat mX8_copy 20 1 21 (.return_) := ⟨by decide +kernel, rfl⟩
theorem iX8_letter_0 : zat mX8_letter 0 1 1 (.iload_n 1) := ⟨by decide +kernel, rfl⟩
theorem iX8_letter_1 : zat mX8_letter 1 1 2 (.i2l) := ⟨by decide +kernel, rfl⟩
theorem iX8_letter_2 : zat mX8_letter 2 1 3 (.lconst 1) := ⟨by decide +kernel, rfl⟩
theorem iX8_letter_3 : zat mX8_letter 3 3 6 (.ldc2_w 77) := ⟨by decide +kernel, rfl⟩
theorem iX8_letter_6 : zat mX8_letter 6 3 9 (.invokestatic 79) := ⟨by decide +kernel, rfl⟩
theorem iX8_letter_9 : zbr mX8_letter 9 12 15 (.ifCond .ne) := ⟨6, by decide +kernel, rfl, rfl⟩
theorem iX8_letter_12 : zat mX8_letter 12 2 14 (.bipush (-102)) := ⟨by decide +kernel, rfl⟩
theorem iX8_letter_14 : zat mX8_letter 14 1 15 (.ireturn) := ⟨by decide +kernel, rfl⟩
theorem iX8_letter_15 : zat mX8_letter 15 1 16 (.aload_n 0) := ⟨by decide +kernel, rfl⟩
theorem iX8_letter_16 : zat mX8_letter 16 3 19 (.getfield 83) := ⟨by decide +kernel, rfl⟩
theorem iX8_letter_19 : zat mX8_letter 19 2 21 (.bipush 38) := ⟨by decide +kernel, rfl⟩
theorem iX8_letter_21 : zbr mX8_letter 21 24 27 (.if_icmp .ne) := ⟨6, by decide +kernel, rfl, rfl⟩
theorem iX8_letter_24 : zat mX8_letter 24 2 26 (.bipush (-104)) := ⟨by decide +kernel, rfl⟩
theorem iX8_letter_26 : zat mX8_letter 26 1 27 (.ireturn) := ⟨by decide +kernel, rfl⟩
theorem iX8_letter_27 : zat mX8_letter 27 1 28 (.aload_n 0) := ⟨by decide +kernel, rfl⟩
theorem iX8_letter_28 : zat mX8_letter 28 3 31 (.getfield 7) := ⟨by decide +kernel, rfl⟩
theorem iX8_letter_31 : zat mX8_letter 31 1 32 (.aload_n 0) := ⟨by decide +kernel, rfl⟩
theorem iX8_letter_32 : zat mX8_letter 32 3 35 (.getfield 83) := ⟨by decide +kernel, rfl⟩
theorem iX8_letter_35 : zat mX8_letter 35 1 36 (.iload_n 1) := ⟨by decide +kernel, rfl⟩
theorem iX8_letter_36 : zat mX8_letter 36 1 37 (.iastore) := ⟨by decide +kernel, rfl⟩
theorem iX8_letter_37 : zat mX8_letter 37 1 38 (.aload_n 0) := ⟨by decide +kernel, rfl⟩
theorem iX8_letter_38 : zat mX8_letter 38 1 39 (.dup) := ⟨by decide +kernel, rfl⟩
theorem iX8_letter_39 : zat mX8_letter 39 3 42 (.getfield 83) := ⟨by decide +kernel, rfl⟩
theorem iX8_letter_42 : zat mX8_letter 42 1 43 (.iconst 1) := ⟨by decide +kernel, rfl⟩
theorem iX8_letter_43 : zat mX8_letter 43 1 44 (.iadd) := ⟨by decide +kernel, rfl⟩
theorem iX8_letter_44 : zat mX8_letter 44 3 47 (.putfield 83) := ⟨by decide +kernel, rfl⟩
theorem iX8_letter_47 : zat mX8_letter 47 1 48 (.aload_n 0) := ⟨by decide +kernel, rfl⟩
theorem iX8_letter_48 : zat mX8_letter 48 3 51 (.getfield 83) := ⟨by decide +kernel, rfl⟩
theorem iX8_letter_51 : zat mX8_letter 51 1 52 (.ireturn) := ⟨by decide +kernel, rfl⟩
theorem iX8_blank_0 : zat mX8_blank 0 1 1 (.aload_n 0) := ⟨by decide +kernel, rfl⟩
theorem iX8_blank_1 : zat mX8_blank 1 3 4 (.getfield 83) := ⟨by decide +kernel, rfl⟩
theorem iX8_blank_4 : zat mX8_blank 4 1 5 (.istore_n 1) := ⟨by decide +kernel, rfl⟩
theorem iX8_blank_5 : zat mX8_blank 5 1 6 (.aload_n 0) := ⟨by decide +kernel, rfl⟩
theorem iX8_blank_6 : zat mX8_blank 6 1 7 (.iconst 0) := ⟨by decide +kernel, rfl⟩
theorem iX8_blank_7 : zat mX8_blank 7 3 10 (.putfield 83) := ⟨by decide +kernel, rfl⟩
theorem iX8_blank_10 : zat mX8_blank 10 1 11 (.iload_n 1) := ⟨by decide +kernel, rfl⟩
theorem iX8_blank_11 : zat mX8_blank 11 1 12 (.ireturn) := ⟨by decide +kernel, rfl⟩
theorem iX8_kindBy_0 : zat mX8_kindBy 0 1 1 (.iload_n 0) := ⟨by decide +kernel, rfl⟩
theorem iX8_kindBy_1 : zat mX8_kindBy 1 51 52 (.lookupswitch 61 #[(97, 59), (99, 55), (109, 57), (111, 53), (115, 51)]) := ⟨by decide +kernel, rfl⟩
theorem iX8_kindBy_52 : zat mX8_kindBy 52 1 53 (.iconst 0) := ⟨by decide +kernel, rfl⟩
theorem iX8_kindBy_53 : zat mX8_kindBy 53 1 54 (.ireturn) := ⟨by decide +kernel, rfl⟩
theorem iX8_kindBy_54 : zat mX8_kindBy 54 1 55 (.iconst 1) := ⟨by decide +kernel, rfl⟩
theorem iX8_kindBy_55 : zat mX8_kindBy 55 1 56 (.ireturn) := ⟨by decide +kernel, rfl⟩
theorem iX8_kindBy_56 : zat mX8_kindBy 56 1 57 (.iconst 2) := ⟨by decide +kernel, rfl⟩
theorem iX8_kindBy_57 : zat mX8_kindBy 57 1 58 (.ireturn) := ⟨by decide +kernel, rfl⟩
theorem iX8_kindBy_58 : zat mX8_kindBy 58 1 59 (.iconst 3) := ⟨by decide +kernel, rfl⟩
theorem iX8_kindBy_59 : zat mX8_kindBy 59 1 60 (.ireturn) := ⟨by decide +kernel, rfl⟩
theorem iX8_kindBy_60 : zat mX8_kindBy 60 1 61 (.iconst 4) := ⟨by decide +kernel, rfl⟩
theorem iX8_kindBy_61 : zat mX8_kindBy 61 1 62 (.ireturn) := ⟨by decide +kernel, rfl⟩
theorem iX8_kindBy_62 : zat mX8_kindBy 62 1 63 (.iconst (-1)) := ⟨by decide +kernel, rfl⟩
theorem iX8_kindBy_63 : zat mX8_kindBy 63 1 64 (.ireturn) := ⟨by decide +kernel, rfl⟩
theorem iX8_isGood_0 : zat mX8_isGood 0 1 1 (.iload_n 1) := ⟨by decide +kernel, rfl⟩
theorem iX8_isGood_1 : zat mX8_isGood 1 1 2 (.iconst 4) := ⟨by decide +kernel, rfl⟩
theorem iX8_isGood_2 : zat mX8_isGood 2 1 3 (.irem) := ⟨by decide +kernel, rfl⟩
theorem iX8_isGood_3 : zat mX8_isGood 3 25 28 (.tableswitch 73 0 2 #[25, 49, 61]) := ⟨by decide +kernel, rfl⟩
theorem iX8_isGood_28 : zat mX8_isGood 28 1 29 (.aload_n 0) := ⟨by decide +kernel, rfl⟩
theorem iX8_isGood_29 : zat mX8_isGood 29 1 30 (.dup) := ⟨by decide +kernel, rfl⟩
theorem iX8_isGood_30 : zat mX8_isGood 30 3 33 (.getfield 86) := ⟨by decide +kernel, rfl⟩
theorem iX8_isGood_33 : zat mX8_isGood 33 1 34 (.iconst 1) := ⟨by decide +kernel, rfl⟩
theorem iX8_isGood_34 : zat mX8_isGood 34 1 35 (.iadd) := ⟨by decide +kernel, rfl⟩
theorem iX8_isGood_35 : zat mX8_isGood 35 3 38 (.putfield 86) := ⟨by decide +kernel, rfl⟩
theorem iX8_isGood_38 : zat mX8_isGood 38 1 39 (.iload_n 2) := ⟨by decide +kernel, rfl⟩
theorem iX8_isGood_39 : zat mX8_isGood 39 3 42 (.invokestatic 89) := ⟨by decide +kernel, rfl⟩
theorem iX8_isGood_42 : zat mX8_isGood 42 1 43 (.iconst (-1)) := ⟨by decide +kernel, rfl⟩
theorem iX8_isGood_43 : zbr mX8_isGood 43 46 50 (.if_icmp .eq) := ⟨7, by decide +kernel, rfl, rfl⟩
theorem iX8_isGood_46 : zat mX8_isGood 46 1 47 (.iconst 1) := ⟨by decide +kernel, rfl⟩
theorem iX8_isGood_47 : zbr mX8_isGood 47 50 51 (.goto) := ⟨4, by decide +kernel, rfl, rfl⟩
theorem iX8_isGood_50 : zat mX8_isGood 50 1 51 (.iconst 0) := ⟨by decide +kernel, rfl⟩
theorem iX8_isGood_51 : zat mX8_isGood 51 1 52 (.ireturn) := ⟨by decide +kernel, rfl⟩
theorem iX8_isGood_52 : zat mX8_isGood 52 1 53 (.iload_n 2) := ⟨by decide +kernel, rfl⟩
theorem iX8_isGood_53 : zat mX8_isGood 53 1 54 (.i2l) := ⟨by decide +kernel, rfl⟩
theorem iX8_isGood_54 : zat mX8_isGood 54 3 57 (.ldc2_w 93) := ⟨by decide +kernel, rfl⟩
theorem iX8_isGood_57 : zat mX8_isGood 57 3 60 (.ldc2_w 95) := ⟨by decide +kernel, rfl⟩
theorem iX8_isGood_60 : zat mX8_isGood 60 3 63 (.invokestatic 79) := ⟨by decide +kernel, rfl⟩
theorem iX8_isGood_63 : zat mX8_isGood 63 1 64 (.ireturn) := ⟨by decide +kernel, rfl⟩
theorem iX8_isGood_64 : zat mX8_isGood 64 1 65 (.iload_n 2) := ⟨by decide +kernel, rfl⟩
theorem iX8_isGood_65 : zat mX8_isGood 65 1 66 (.i2l) := ⟨by decide +kernel, rfl⟩
theorem iX8_isGood_66 : zat mX8_isGood 66 3 69 (.ldc2_w 97) := ⟨by decide +kernel, rfl⟩
theorem iX8_isGood_69 : zat mX8_isGood 69 3 72 (.ldc2_w 95) := ⟨by decide +kernel, rfl⟩
theorem iX8_isGood_72 : zat mX8_isGood 72 3 75 (.invokestatic 79) := ⟨by decide +kernel, rfl⟩
theorem iX8_isGood_75 : zat mX8_isGood 75 1 76 (.ireturn) := ⟨by decide +kernel, rfl⟩
theorem iX8_isGood_76 : zat mX8_isGood 76 1 77 (.iload_n 2) := ⟨by decide +kernel, rfl⟩
theorem iX8_isGood_77 : zat mX8_isGood 77 2 79 (.bipush 59) := ⟨by decide +kernel, rfl⟩
theorem iX8_isGood_79 : zbr mX8_isGood 79 82 107 (.if_icmp .ne) := ⟨28, by decide +kernel, rfl, rfl⟩
theorem iX8_isGood_82 : zat mX8_isGood 82 1 83 (.aload_n 0) := ⟨by decide +kernel, rfl⟩
theorem iX8_isGood_83 : zat mX8_isGood 83 3 86 (.getfield 99) := ⟨by decide +kernel, rfl⟩
theorem iX8_isGood_86 : zat mX8_isGood 86 1 87 (.iconst 3) := ⟨by decide +kernel, rfl⟩
theorem iX8_isGood_87 : zbr mX8_isGood 87 90 107 (.if_icmp .ge) := ⟨20, by decide +kernel, rfl, rfl⟩
theorem iX8_isGood_90 : zat mX8_isGood 90 1 91 (.aload_n 0) := ⟨by decide +kernel, rfl⟩
theorem iX8_isGood_91 : zat mX8_isGood 91 1 92 (.dup) := ⟨by decide +kernel, rfl⟩
theorem iX8_isGood_92 : zat mX8_isGood 92 3 95 (.getfield 99) := ⟨by decide +kernel, rfl⟩
theorem iX8_isGood_95 : zat mX8_isGood 95 1 96 (.iconst 1) := ⟨by decide +kernel, rfl⟩
theorem iX8_isGood_96 : zat mX8_isGood 96 1 97 (.iadd) := ⟨by decide +kernel, rfl⟩
theorem iX8_isGood_97 : zat mX8_isGood 97 3 100 (.putfield 99) := ⟨by decide +kernel, rfl⟩
theorem iX8_isGood_100 : zat mX8_isGood 100 1 101 (.aload_n 0) := ⟨by decide +kernel, rfl⟩
theorem iX8_isGood_101 : zat mX8_isGood 101 1 102 (.iconst 0) := ⟨by decide +kernel, rfl⟩
theorem iX8_isGood_102 : zat mX8_isGood 102 3 105 (.putfield 86) := ⟨by decide +kernel, rfl⟩
theorem iX8_isGood_105 : zat mX8_isGood 105 1 106 (.iconst 1) := ⟨by decide +kernel, rfl⟩
theorem iX8_isGood_106 : zat mX8_isGood 106 1 107 (.ireturn) := ⟨by decide +kernel, rfl⟩
theorem iX8_isGood_107 : zat mX8_isGood 107 1 108 (.iload_n 2) := ⟨by decide +kernel, rfl⟩
theorem iX8_isGood_108 : zat mX8_isGood 108 2 110 (.bipush 44) := ⟨by decide +kernel, rfl⟩
theorem iX8_isGood_110 : zbr mX8_isGood 110 113 125 (.if_icmp .ne) := ⟨15, by decide +kernel, rfl, rfl⟩
theorem iX8_isGood_113 : zat mX8_isGood 113 1 114 (.aload_n 0) := ⟨by decide +kernel, rfl⟩
theorem iX8_isGood_114 : zat mX8_isGood 114 3 117 (.getfield 86) := ⟨by decide +kernel, rfl⟩
theorem iX8_isGood_117 : zat mX8_isGood 117 1 118 (.iconst 3) := ⟨by decide +kernel, rfl⟩
theorem iX8_isGood_118 : zbr mX8_isGood 118 121 125 (.if_icmp .ge) := ⟨7, by decide +kernel, rfl, rfl⟩
end
section
theorem iX8_isGood_121 : zat mX8_isGood 121 1 122 (.iconst 1) := ⟨by decide +kernel, rfl⟩
theorem iX8_isGood_122 : zbr mX8_isGood 122 125 126 (.goto) := ⟨4, by decide +kernel, rfl, rfl⟩
theorem iX8_isGood_125 : zat mX8_isGood 125 1 126 (.iconst 0) := ⟨by decide +kernel, rfl⟩
theorem iX8_isGood_126 : zat mX8_isGood 126 1 127 (.ireturn) := ⟨by decide +kernel, rfl⟩
theorem iX8_faultOf_0 : zat mX8_faultOf 0 1 1 (.aload_n 0) := ⟨by decide +kernel, rfl⟩
theorem iX8_faultOf_1 : zat mX8_faultOf 1 1 2 (.iconst 1) := ⟨by decide +kernel, rfl⟩
theorem iX8_faultOf_2 : zat mX8_faultOf 2 3 5 (.putfield 99) := ⟨by decide +kernel, rfl⟩
theorem iX8_faultOf_5 : zat mX8_faultOf 5 1 6 (.aload_n 0) := ⟨by decide +kernel, rfl⟩
theorem iX8_faultOf_6 : zat mX8_faultOf 6 1 7 (.iconst 0) := ⟨by decide +kernel, rfl⟩
theorem iX8_faultOf_7 : zat mX8_faultOf 7 3 10 (.putfield 86) := ⟨by decide +kernel, rfl⟩
theorem iX8_faultOf_10 : zat mX8_faultOf 10 1 11 (.iconst 0) := ⟨by decide +kernel, rfl⟩
theorem iX8_faultOf_11 : zat mX8_faultOf 11 1 12 (.istore_n 1) := ⟨by decide +kernel, rfl⟩
theorem iX8_faultOf_12 : zat mX8_faultOf 12 1 13 (.iload_n 1) := ⟨by decide +kernel, rfl⟩
theorem iX8_faultOf_13 : zat mX8_faultOf 13 1 14 (.aload_n 0) := ⟨by decide +kernel, rfl⟩
theorem iX8_faultOf_14 : zat mX8_faultOf 14 3 17 (.getfield 83) := ⟨by decide +kernel, rfl⟩
theorem iX8_faultOf_17 : zbr mX8_faultOf 17 20 40 (.if_icmp .ge) := ⟨23, by decide +kernel, rfl, rfl⟩
theorem iX8_faultOf_20 : zat mX8_faultOf 20 1 21 (.aload_n 0) := ⟨by decide +kernel, rfl⟩
theorem iX8_faultOf_21 : zat mX8_faultOf 21 1 22 (.iload_n 1) := ⟨by decide +kernel, rfl⟩
theorem iX8_faultOf_22 : zat mX8_faultOf 22 1 23 (.aload_n 0) := ⟨by decide +kernel, rfl⟩
theorem iX8_faultOf_23 : zat mX8_faultOf 23 3 26 (.getfield 7) := ⟨by decide +kernel, rfl⟩
theorem iX8_faultOf_26 : zat mX8_faultOf 26 1 27 (.iload_n 1) := ⟨by decide +kernel, rfl⟩
theorem iX8_faultOf_27 : zat mX8_faultOf 27 1 28 (.iaload) := ⟨by decide +kernel, rfl⟩
theorem iX8_faultOf_28 : zat mX8_faultOf 28 3 31 (.invokevirtual 102) := ⟨by decide +kernel, rfl⟩
theorem iX8_faultOf_31 : zbr mX8_faultOf 31 34 40 (.ifCond .eq) := ⟨9, by decide +kernel, rfl, rfl⟩
theorem iX8_faultOf_34 : zat mX8_faultOf 34 3 37 (.iinc 1 1) := ⟨by decide +kernel, rfl⟩
theorem iX8_faultOf_37 : zbr mX8_faultOf 37 40 12 (.goto) := ⟨-25, by decide +kernel, rfl, rfl⟩
theorem iX8_faultOf_40 : zat mX8_faultOf 40 1 41 (.iload_n 1) := ⟨by decide +kernel, rfl⟩
theorem iX8_faultOf_41 : zat mX8_faultOf 41 1 42 (.ireturn) := ⟨by decide +kernel, rfl⟩
theorem iX8_fault_0 : zat mX8_fault 0 1 1 (.aload_n 0) := ⟨by decide +kernel, rfl⟩
theorem iX8_fault_1 : zat mX8_fault 1 3 4 (.invokevirtual 106) := ⟨by decide +kernel, rfl⟩
theorem iX8_fault_4 : zat mX8_fault 4 1 5 (.ireturn) := ⟨by decide +kernel, rfl⟩
theorem iX8_barn_0 : zat mX8_barn 0 1 1 (.aload_n 0) := ⟨by decide +kernel, rfl⟩
theorem iX8_barn_1 : zat mX8_barn 1 3 4 (.getfield 83) := ⟨by decide +kernel, rfl⟩
theorem iX8_barn_4 : zat mX8_barn 4 1 5 (.iconst 4) := ⟨by decide +kernel, rfl⟩
theorem iX8_barn_5 : zat mX8_barn 5 1 6 (.irem) := ⟨by decide +kernel, rfl⟩
theorem iX8_barn_6 : zat mX8_barn 6 1 7 (.iconst 3) := ⟨by decide +kernel, rfl⟩
theorem iX8_barn_7 : zbr mX8_barn 7 10 29 (.if_icmp .ne) := ⟨22, by decide +kernel, rfl, rfl⟩
theorem iX8_barn_10 : zat mX8_barn 10 1 11 (.aload_n 0) := ⟨by decide +kernel, rfl⟩
theorem iX8_barn_11 : zat mX8_barn 11 3 14 (.invokevirtual 106) := ⟨by decide +kernel, rfl⟩
theorem iX8_barn_14 : zat mX8_barn 14 1 15 (.aload_n 0) := ⟨by decide +kernel, rfl⟩
theorem iX8_barn_15 : zat mX8_barn 15 3 18 (.getfield 83) := ⟨by decide +kernel, rfl⟩
theorem iX8_barn_18 : zbr mX8_barn 18 21 29 (.if_icmp .lt) := ⟨11, by decide +kernel, rfl, rfl⟩
theorem iX8_barn_21 : zat mX8_barn 21 1 22 (.aload_n 0) := ⟨by decide +kernel, rfl⟩
theorem iX8_barn_22 : zat mX8_barn 22 3 25 (.getfield 99) := ⟨by decide +kernel, rfl⟩
theorem iX8_barn_25 : zat mX8_barn 25 1 26 (.iconst 2) := ⟨by decide +kernel, rfl⟩
theorem iX8_barn_26 : zbr mX8_barn 26 29 32 (.if_icmp .ge) := ⟨6, by decide +kernel, rfl, rfl⟩
theorem iX8_barn_29 : zat mX8_barn 29 2 31 (.bipush (-103)) := ⟨by decide +kernel, rfl⟩
theorem iX8_barn_31 : zat mX8_barn 31 1 32 (.ireturn) := ⟨by decide +kernel, rfl⟩
theorem iX8_barn_32 : zat mX8_barn 32 1 33 (.aload_n 0) := ⟨by decide +kernel, rfl⟩
theorem iX8_barn_33 : zat mX8_barn 33 1 34 (.aload_n 0) := ⟨by decide +kernel, rfl⟩
theorem iX8_barn_34 : zat mX8_barn 34 3 37 (.getfield 99) := ⟨by decide +kernel, rfl⟩
theorem iX8_barn_37 : zat mX8_barn 37 3 40 (.putfield 110) := ⟨by decide +kernel, rfl⟩
theorem iX8_barn_40 : zat mX8_barn 40 1 41 (.aload_n 0) := ⟨by decide +kernel, rfl⟩
theorem iX8_barn_41 : zat mX8_barn 41 1 42 (.aload_n 0) := ⟨by decide +kernel, rfl⟩
theorem iX8_barn_42 : zat mX8_barn 42 3 45 (.getfield 83) := ⟨by decide +kernel, rfl⟩
theorem iX8_barn_45 : zat mX8_barn 45 1 46 (.iconst 1) := ⟨by decide +kernel, rfl⟩
theorem iX8_barn_46 : zat mX8_barn 46 1 47 (.iadd) := ⟨by decide +kernel, rfl⟩
theorem iX8_barn_47 : zat mX8_barn 47 1 48 (.iconst 4) := ⟨by decide +kernel, rfl⟩
theorem iX8_barn_48 : zat mX8_barn 48 1 49 (.idiv) := ⟨by decide +kernel, rfl⟩
theorem iX8_barn_49 : zat mX8_barn 49 3 52 (.putfield 113) := ⟨by decide +kernel, rfl⟩
theorem iX8_barn_52 : zat mX8_barn 52 1 53 (.iconst 0) := ⟨by decide +kernel, rfl⟩
theorem iX8_barn_53 : zat mX8_barn 53 1 54 (.istore_n 1) := ⟨by decide +kernel, rfl⟩
theorem iX8_barn_54 : zat mX8_barn 54 1 55 (.aload_n 0) := ⟨by decide +kernel, rfl⟩
theorem iX8_barn_55 : zat mX8_barn 55 3 58 (.getfield 19) := ⟨by decide +kernel, rfl⟩
theorem iX8_barn_58 : zat mX8_barn 58 1 59 (.iconst 0) := ⟨by decide +kernel, rfl⟩
theorem iX8_barn_59 : zat mX8_barn 59 1 60 (.iconst 0) := ⟨by decide +kernel, rfl⟩
theorem iX8_barn_60 : zat mX8_barn 60 1 61 (.iastore) := ⟨by decide +kernel, rfl⟩
theorem iX8_barn_61 : zat mX8_barn 61 1 62 (.aload_n 0) := ⟨by decide +kernel, rfl⟩
theorem iX8_barn_62 : zat mX8_barn 62 3 65 (.getfield 19) := ⟨by decide +kernel, rfl⟩
theorem iX8_barn_65 : zat mX8_barn 65 1 66 (.iconst 1) := ⟨by decide +kernel, rfl⟩
theorem iX8_barn_66 : zat mX8_barn 66 1 67 (.iconst 0) := ⟨by decide +kernel, rfl⟩
theorem iX8_barn_67 : zat mX8_barn 67 1 68 (.iastore) := ⟨by decide +kernel, rfl⟩
theorem iX8_barn_68 : zat mX8_barn 68 1 69 (.aload_n 0) := ⟨by decide +kernel, rfl⟩
theorem iX8_barn_69 : zat mX8_barn 69 3 72 (.getfield 19) := ⟨by decide +kernel, rfl⟩
theorem iX8_barn_72 : zat mX8_barn 72 1 73 (.iconst 2) := ⟨by decide +kernel, rfl⟩
theorem iX8_barn_73 : zat mX8_barn 73 1 74 (.iconst 0) := ⟨by decide +kernel, rfl⟩
theorem iX8_barn_74 : zat mX8_barn 74 1 75 (.iastore) := ⟨by decide +kernel, rfl⟩
theorem iX8_barn_75 : zat mX8_barn 75 1 76 (.iconst 0) := ⟨by decide +kernel, rfl⟩
theorem iX8_barn_76 : zat mX8_barn 76 1 77 (.istore_n 2) := ⟨by decide +kernel, rfl⟩
theorem iX8_barn_77 : zat mX8_barn 77 1 78 (.iload_n 2) := ⟨by decide +kernel, rfl⟩
theorem iX8_barn_78 : zat mX8_barn 78 1 79 (.aload_n 0) := ⟨by decide +kernel, rfl⟩
theorem iX8_barn_79 : zat mX8_barn 79 3 82 (.getfield 113) := ⟨by decide +kernel, rfl⟩
theorem iX8_barn_82 : zbr mX8_barn 82 85 219 (.if_icmp .ge) := ⟨137, by decide +kernel, rfl, rfl⟩
theorem iX8_barn_85 : zat mX8_barn 85 1 86 (.aload_n 0) := ⟨by decide +kernel, rfl⟩
theorem iX8_barn_86 : zat mX8_barn 86 3 89 (.getfield 13) := ⟨by decide +kernel, rfl⟩
theorem iX8_barn_89 : zat mX8_barn 89 1 90 (.iload_n 2) := ⟨by decide +kernel, rfl⟩
theorem iX8_barn_90 : zat mX8_barn 90 1 91 (.aload_n 0) := ⟨by decide +kernel, rfl⟩
theorem iX8_barn_91 : zat mX8_barn 91 3 94 (.getfield 7) := ⟨by decide +kernel, rfl⟩
theorem iX8_barn_94 : zat mX8_barn 94 1 95 (.iconst 4) := ⟨by decide +kernel, rfl⟩
theorem iX8_barn_95 : zat mX8_barn 95 1 96 (.iload_n 2) := ⟨by decide +kernel, rfl⟩
theorem iX8_barn_96 : zat mX8_barn 96 1 97 (.imul) := ⟨by decide +kernel, rfl⟩
theorem iX8_barn_97 : zat mX8_barn 97 1 98 (.iaload) := ⟨by decide +kernel, rfl⟩
theorem iX8_barn_98 : zat mX8_barn 98 3 101 (.invokestatic 89) := ⟨by decide +kernel, rfl⟩
theorem iX8_barn_101 : zat mX8_barn 101 1 102 (.iastore) := ⟨by decide +kernel, rfl⟩
theorem iX8_barn_102 : zat mX8_barn 102 1 103 (.aload_n 0) := ⟨by decide +kernel, rfl⟩
theorem iX8_barn_103 : zat mX8_barn 103 3 106 (.getfield 25) := ⟨by decide +kernel, rfl⟩
theorem iX8_barn_106 : zat mX8_barn 106 1 107 (.iload_n 2) := ⟨by decide +kernel, rfl⟩
theorem iX8_barn_107 : zat mX8_barn 107 1 108 (.aload_n 0) := ⟨by decide +kernel, rfl⟩
theorem iX8_barn_108 : zat mX8_barn 108 3 111 (.getfield 7) := ⟨by decide +kernel, rfl⟩
theorem iX8_barn_111 : zat mX8_barn 111 1 112 (.iconst 4) := ⟨by decide +kernel, rfl⟩
theorem iX8_barn_112 : zat mX8_barn 112 1 113 (.iload_n 2) := ⟨by decide +kernel, rfl⟩
theorem iX8_barn_113 : zat mX8_barn 113 1 114 (.imul) := ⟨by decide +kernel, rfl⟩
theorem iX8_barn_114 : zat mX8_barn 114 1 115 (.iconst 1) := ⟨by decide +kernel, rfl⟩
theorem iX8_barn_115 : zat mX8_barn 115 1 116 (.iadd) := ⟨by decide +kernel, rfl⟩
theorem iX8_barn_116 : zat mX8_barn 116 1 117 (.iaload) := ⟨by decide +kernel, rfl⟩
theorem iX8_barn_117 : zat mX8_barn 117 2 119 (.bipush 48) := ⟨by decide +kernel, rfl⟩
theorem iX8_barn_119 : zat mX8_barn 119 1 120 (.isub) := ⟨by decide +kernel, rfl⟩
theorem iX8_barn_120 : zat mX8_barn 120 1 121 (.iastore) := ⟨by decide +kernel, rfl⟩
theorem iX8_barn_121 : zat mX8_barn 121 1 122 (.aload_n 0) := ⟨by decide +kernel, rfl⟩
theorem iX8_barn_122 : zat mX8_barn 122 3 125 (.getfield 28) := ⟨by decide +kernel, rfl⟩
theorem iX8_barn_125 : zat mX8_barn 125 1 126 (.iload_n 2) := ⟨by decide +kernel, rfl⟩
theorem iX8_barn_126 : zat mX8_barn 126 1 127 (.aload_n 0) := ⟨by decide +kernel, rfl⟩
theorem iX8_barn_127 : zat mX8_barn 127 3 130 (.getfield 7) := ⟨by decide +kernel, rfl⟩
theorem iX8_barn_130 : zat mX8_barn 130 1 131 (.iconst 4) := ⟨by decide +kernel, rfl⟩
theorem iX8_barn_131 : zat mX8_barn 131 1 132 (.iload_n 2) := ⟨by decide +kernel, rfl⟩
theorem iX8_barn_132 : zat mX8_barn 132 1 133 (.imul) := ⟨by decide +kernel, rfl⟩
theorem iX8_barn_133 : zat mX8_barn 133 1 134 (.iconst 2) := ⟨by decide +kernel, rfl⟩
theorem iX8_barn_134 : zat mX8_barn 134 1 135 (.iadd) := ⟨by decide +kernel, rfl⟩
theorem iX8_barn_135 : zat mX8_barn 135 1 136 (.iaload) := ⟨by decide +kernel, rfl⟩
theorem iX8_barn_136 : zat mX8_barn 136 2 138 (.bipush 48) := ⟨by decide +kernel, rfl⟩
theorem iX8_barn_138 : zat mX8_barn 138 1 139 (.isub) := ⟨by decide +kernel, rfl⟩
theorem iX8_barn_139 : zat mX8_barn 139 1 140 (.iastore) := ⟨by decide +kernel, rfl⟩
theorem iX8_barn_140 : zat mX8_barn 140 1 141 (.aload_n 0) := ⟨by decide +kernel, rfl⟩
theorem iX8_barn_141 : zat mX8_barn 141 3 144 (.getfield 31) := ⟨by decide +kernel, rfl⟩
theorem iX8_barn_144 : zat mX8_barn 144 1 145 (.iload_n 2) := ⟨by decide +kernel, rfl⟩
theorem iX8_barn_145 : zat mX8_barn 145 1 146 (.iconst 0) := ⟨by decide +kernel, rfl⟩
theorem iX8_barn_146 : zat mX8_barn 146 1 147 (.iastore) := ⟨by decide +kernel, rfl⟩
theorem iX8_barn_147 : zat mX8_barn 147 1 148 (.aload_n 0) := ⟨by decide +kernel, rfl⟩
theorem iX8_barn_148 : zat mX8_barn 148 3 151 (.getfield 16) := ⟨by decide +kernel, rfl⟩
theorem iX8_barn_151 : zat mX8_barn 151 1 152 (.iload_n 2) := ⟨by decide +kernel, rfl⟩
theorem iX8_barn_152 : zat mX8_barn 152 1 153 (.iload_n 1) := ⟨by decide +kernel, rfl⟩
theorem iX8_barn_153 : zat mX8_barn 153 1 154 (.iastore) := ⟨by decide +kernel, rfl⟩
theorem iX8_barn_154 : zat mX8_barn 154 1 155 (.aload_n 0) := ⟨by decide +kernel, rfl⟩
theorem iX8_barn_155 : zat mX8_barn 155 3 158 (.getfield 22) := ⟨by decide +kernel, rfl⟩
theorem iX8_barn_158 : zat mX8_barn 158 1 159 (.iconst 4) := ⟨by decide +kernel, rfl⟩
theorem iX8_barn_159 : zat mX8_barn 159 1 160 (.iload_n 1) := ⟨by decide +kernel, rfl⟩
theorem iX8_barn_160 : zat mX8_barn 160 1 161 (.imul) := ⟨by decide +kernel, rfl⟩
theorem iX8_barn_161 : zat mX8_barn 161 1 162 (.aload_n 0) := ⟨by decide +kernel, rfl⟩
theorem iX8_barn_162 : zat mX8_barn 162 3 165 (.getfield 19) := ⟨by decide +kernel, rfl⟩
theorem iX8_barn_165 : zat mX8_barn 165 1 166 (.iload_n 1) := ⟨by decide +kernel, rfl⟩
theorem iX8_barn_166 : zat mX8_barn 166 1 167 (.iaload) := ⟨by decide +kernel, rfl⟩
theorem iX8_barn_167 : zat mX8_barn 167 1 168 (.iadd) := ⟨by decide +kernel, rfl⟩
theorem iX8_barn_168 : zat mX8_barn 168 1 169 (.iload_n 2) := ⟨by decide +kernel, rfl⟩
theorem iX8_barn_169 : zat mX8_barn 169 1 170 (.iastore) := ⟨by decide +kernel, rfl⟩
theorem iX8_barn_170 : zat mX8_barn 170 1 171 (.aload_n 0) := ⟨by decide +kernel, rfl⟩
theorem iX8_barn_171 : zat mX8_barn 171 3 174 (.getfield 19) := ⟨by decide +kernel, rfl⟩
theorem iX8_barn_174 : zat mX8_barn 174 1 175 (.iload_n 1) := ⟨by decide +kernel, rfl⟩
theorem iX8_barn_175 : zat mX8_barn 175 1 176 (.dup2) := ⟨by decide +kernel, rfl⟩
theorem iX8_barn_176 : zat mX8_barn 176 1 177 (.iaload) := ⟨by decide +kernel, rfl⟩
theorem iX8_barn_177 : zat mX8_barn 177 1 178 (.iconst 1) := ⟨by decide +kernel, rfl⟩
theorem iX8_barn_178 : zat mX8_barn 178 1 179 (.iadd) := ⟨by decide +kernel, rfl⟩
theorem iX8_barn_179 : zat mX8_barn 179 1 180 (.iastore) := ⟨by decide +kernel, rfl⟩
theorem iX8_barn_180 : zat mX8_barn 180 1 181 (.iload_n 1) := ⟨by decide +kernel, rfl⟩
theorem iX8_barn_181 : zat mX8_barn 181 1 182 (.iload_n 2) := ⟨by decide +kernel, rfl⟩
theorem iX8_barn_182 : zat mX8_barn 182 1 183 (.iconst 1) := ⟨by decide +kernel, rfl⟩
theorem iX8_barn_183 : zat mX8_barn 183 1 184 (.iadd) := ⟨by decide +kernel, rfl⟩
theorem iX8_barn_184 : zat mX8_barn 184 1 185 (.aload_n 0) := ⟨by decide +kernel, rfl⟩
theorem iX8_barn_185 : zat mX8_barn 185 3 188 (.getfield 113) := ⟨by decide +kernel, rfl⟩
theorem iX8_barn_188 : zbr mX8_barn 188 191 210 (.if_icmp .ge) := ⟨22, by decide +kernel, rfl, rfl⟩
theorem iX8_barn_191 : zat mX8_barn 191 1 192 (.aload_n 0) := ⟨by decide +kernel, rfl⟩
theorem iX8_barn_192 : zat mX8_barn 192 3 195 (.getfield 7) := ⟨by decide +kernel, rfl⟩
theorem iX8_barn_195 : zat mX8_barn 195 1 196 (.iconst 4) := ⟨by decide +kernel, rfl⟩
theorem iX8_barn_196 : zat mX8_barn 196 1 197 (.iload_n 2) := ⟨by decide +kernel, rfl⟩
theorem iX8_barn_197 : zat mX8_barn 197 1 198 (.imul) := ⟨by decide +kernel, rfl⟩
theorem iX8_barn_198 : zat mX8_barn 198 1 199 (.iconst 3) := ⟨by decide +kernel, rfl⟩
theorem iX8_barn_199 : zat mX8_barn 199 1 200 (.iadd) := ⟨by decide +kernel, rfl⟩
theorem iX8_barn_200 : zat mX8_barn 200 1 201 (.iaload) := ⟨by decide +kernel, rfl⟩
theorem iX8_barn_201 : zat mX8_barn 201 2 203 (.bipush 59) := ⟨by decide +kernel, rfl⟩
theorem iX8_barn_203 : zbr mX8_barn 203 206 210 (.if_icmp .ne) := ⟨7, by decide +kernel, rfl, rfl⟩
theorem iX8_barn_206 : zat mX8_barn 206 1 207 (.iconst 1) := ⟨by decide +kernel, rfl⟩
theorem iX8_barn_207 : zbr mX8_barn 207 210 211 (.goto) := ⟨4, by decide +kernel, rfl, rfl⟩
theorem iX8_barn_210 : zat mX8_barn 210 1 211 (.iconst 0) := ⟨by decide +kernel, rfl⟩
theorem iX8_barn_211 : zat mX8_barn 211 1 212 (.iadd) := ⟨by decide +kernel, rfl⟩
theorem iX8_barn_212 : zat mX8_barn 212 1 213 (.istore_n 1) := ⟨by decide +kernel, rfl⟩
theorem iX8_barn_213 : zat mX8_barn 213 3 216 (.iinc 2 1) := ⟨by decide +kernel, rfl⟩
theorem iX8_barn_216 : zbr mX8_barn 216 219 77 (.goto) := ⟨-139, by decide +kernel, rfl, rfl⟩
theorem iX8_barn_219 : zat mX8_barn 219 1 220 (.aload_n 0) := ⟨by decide +kernel, rfl⟩
theorem iX8_barn_220 : zat mX8_barn 220 1 221 (.iconst 0) := ⟨by decide +kernel, rfl⟩
theorem iX8_barn_221 : zat mX8_barn 221 3 224 (.putfield 116) := ⟨by decide +kernel, rfl⟩
theorem iX8_barn_224 : zat mX8_barn 224 1 225 (.aload_n 0) := ⟨by decide +kernel, rfl⟩
theorem iX8_barn_225 : zat mX8_barn 225 1 226 (.iconst 0) := ⟨by decide +kernel, rfl⟩
theorem iX8_barn_226 : zat mX8_barn 226 3 229 (.putfield 119) := ⟨by decide +kernel, rfl⟩
theorem iX8_barn_229 : zat mX8_barn 229 1 230 (.aload_n 0) := ⟨by decide +kernel, rfl⟩
theorem iX8_barn_230 : zat mX8_barn 230 1 231 (.iconst 0) := ⟨by decide +kernel, rfl⟩
theorem iX8_barn_231 : zat mX8_barn 231 3 234 (.putfield 122) := ⟨by decide +kernel, rfl⟩
theorem iX8_barn_234 : zat mX8_barn 234 1 235 (.aload_n 0) := ⟨by decide +kernel, rfl⟩
theorem iX8_barn_235 : zat mX8_barn 235 1 236 (.iconst 0) := ⟨by decide +kernel, rfl⟩
theorem iX8_barn_236 : zat mX8_barn 236 3 239 (.putfield 125) := ⟨by decide +kernel, rfl⟩
theorem iX8_barn_239 : zat mX8_barn 239 1 240 (.aload_n 0) := ⟨by decide +kernel, rfl⟩
theorem iX8_barn_240 : zat mX8_barn 240 1 241 (.dup) := ⟨by decide +kernel, rfl⟩
theorem iX8_barn_241 : zat mX8_barn 241 3 244 (.getfield 128) := ⟨by decide +kernel, rfl⟩
theorem iX8_barn_244 : zat mX8_barn 244 1 245 (.iconst 1) := ⟨by decide +kernel, rfl⟩
theorem iX8_barn_245 : zat mX8_barn 245 1 246 (.iadd) := ⟨by decide +kernel, rfl⟩
theorem iX8_barn_246 : zat mX8_barn 246 3 249 (.putfield 128) := ⟨by decide +kernel, rfl⟩
theorem iX8_barn_249 : zat mX8_barn 249 1 250 (.aload_n 0) := ⟨by decide +kernel, rfl⟩
theorem iX8_barn_250 : zat mX8_barn 250 1 251 (.iconst 0) := ⟨by decide +kernel, rfl⟩
theorem iX8_barn_251 : zat mX8_barn 251 3 254 (.putfield 83) := ⟨by decide +kernel, rfl⟩
theorem iX8_barn_254 : zat mX8_barn 254 1 255 (.aload_n 0) := ⟨by decide +kernel, rfl⟩
theorem iX8_barn_255 : zat mX8_barn 255 3 258 (.getfield 113) := ⟨by decide +kernel, rfl⟩
theorem iX8_barn_258 : zat mX8_barn 258 1 259 (.ireturn) := ⟨by decide +kernel, rfl⟩
theorem iX8_lacks_0 : zat mX8_lacks 0 1 1 (.aload_n 0) := ⟨by decide +kernel, rfl⟩
theorem iX8_lacks_1 : zat mX8_lacks 1 3 4 (.getfield 110) := ⟨by decide +kernel, rfl⟩
theorem iX8_lacks_4 : zbr mX8_lacks 4 7 11 (.ifCond .ne) := ⟨7, by decide +kernel, rfl, rfl⟩
theorem iX8_lacks_7 : zat mX8_lacks 7 1 8 (.iconst 1) := ⟨by decide +kernel, rfl⟩
theorem iX8_lacks_8 : zbr mX8_lacks 8 11 12 (.goto) := ⟨4, by decide +kernel, rfl, rfl⟩
theorem iX8_lacks_11 : zat mX8_lacks 11 1 12 (.iconst 0) := ⟨by decide +kernel, rfl⟩
theorem iX8_lacks_12 : zat mX8_lacks 12 1 13 (.ireturn) := ⟨by decide +kernel, rfl⟩
theorem iX8_isCart_0 : zat mX8_isCart 0 1 1 (.iload_n 1) := ⟨by decide +kernel, rfl⟩
theorem iX8_isCart_1 : zat mX8_isCart 1 1 2 (.i2l) := ⟨by decide +kernel, rfl⟩
theorem iX8_isCart_2 : zat mX8_isCart 2 1 3 (.lconst 0) := ⟨by decide +kernel, rfl⟩
theorem iX8_isCart_3 : zat mX8_isCart 3 1 4 (.aload_n 0) := ⟨by decide +kernel, rfl⟩
theorem iX8_isCart_4 : zat mX8_isCart 4 3 7 (.getfield 113) := ⟨by decide +kernel, rfl⟩
theorem iX8_isCart_7 : zat mX8_isCart 7 1 8 (.iconst 1) := ⟨by decide +kernel, rfl⟩
theorem iX8_isCart_8 : zat mX8_isCart 8 1 9 (.isub) := ⟨by decide +kernel, rfl⟩
theorem iX8_isCart_9 : zat mX8_isCart 9 1 10 (.i2l) := ⟨by decide +kernel, rfl⟩
theorem iX8_isCart_10 : zat mX8_isCart 10 3 13 (.invokestatic 79) := ⟨by decide +kernel, rfl⟩
theorem iX8_isCart_13 : zat mX8_isCart 13 1 14 (.ireturn) := ⟨by decide +kernel, rfl⟩
theorem iX8_isBay_0 : zat mX8_isBay 0 1 1 (.iload_n 1) := ⟨by decide +kernel, rfl⟩
theorem iX8_isBay_1 : zat mX8_isBay 1 1 2 (.i2l) := ⟨by decide +kernel, rfl⟩
theorem iX8_isBay_2 : zat mX8_isBay 2 1 3 (.lconst 0) := ⟨by decide +kernel, rfl⟩
theorem iX8_isBay_3 : zat mX8_isBay 3 1 4 (.aload_n 0) := ⟨by decide +kernel, rfl⟩
theorem iX8_isBay_4 : zat mX8_isBay 4 3 7 (.getfield 110) := ⟨by decide +kernel, rfl⟩
theorem iX8_isBay_7 : zat mX8_isBay 7 1 8 (.iconst 1) := ⟨by decide +kernel, rfl⟩
theorem iX8_isBay_8 : zat mX8_isBay 8 1 9 (.isub) := ⟨by decide +kernel, rfl⟩
theorem iX8_isBay_9 : zat mX8_isBay 9 1 10 (.i2l) := ⟨by decide +kernel, rfl⟩
theorem iX8_isBay_10 : zat mX8_isBay 10 3 13 (.invokestatic 79) := ⟨by decide +kernel, rfl⟩
theorem iX8_isBay_13 : zat mX8_isBay 13 1 14 (.ireturn) := ⟨by decide +kernel, rfl⟩
theorem iX8_begin_0 : zat mX8_begin 0 1 1 (.aload_n 0) := ⟨by decide +kernel, rfl⟩
theorem iX8_begin_1 : zat mX8_begin 1 3 4 (.getfield 25) := ⟨by decide +kernel, rfl⟩
theorem iX8_begin_4 : zat mX8_begin 4 1 5 (.aload_n 0) := ⟨by decide +kernel, rfl⟩
theorem iX8_begin_5 : zat mX8_begin 5 3 8 (.getfield 34) := ⟨by decide +kernel, rfl⟩
theorem iX8_begin_8 : zat mX8_begin 8 3 11 (.invokestatic 131) := ⟨by decide +kernel, rfl⟩
theorem iX8_begin_11 : zat mX8_begin 11 1 12 (.aload_n 0) := ⟨by decide +kernel, rfl⟩
theorem iX8_begin_12 : zat mX8_begin 12 3 15 (.getfield 28) := ⟨by decide +kernel, rfl⟩
theorem iX8_begin_15 : zat mX8_begin 15 1 16 (.aload_n 0) := ⟨by decide +kernel, rfl⟩
theorem iX8_begin_16 : zat mX8_begin 16 3 19 (.getfield 37) := ⟨by decide +kernel, rfl⟩
theorem iX8_begin_19 : zat mX8_begin 19 3 22 (.invokestatic 131) := ⟨by decide +kernel, rfl⟩
theorem iX8_begin_22 : zat mX8_begin 22 1 23 (.aload_n 0) := ⟨by decide +kernel, rfl⟩
theorem iX8_begin_23 : zat mX8_begin 23 3 26 (.getfield 31) := ⟨by decide +kernel, rfl⟩
theorem iX8_begin_26 : zat mX8_begin 26 1 27 (.aload_n 0) := ⟨by decide +kernel, rfl⟩
theorem iX8_begin_27 : zat mX8_begin 27 3 30 (.getfield 40) := ⟨by decide +kernel, rfl⟩
theorem iX8_begin_30 : zat mX8_begin 30 3 33 (.invokestatic 131) := ⟨by decide +kernel, rfl⟩
theorem iX8_begin_33 : zat mX8_begin 33 1 34 (.return_) := ⟨by decide +kernel, rfl⟩
theorem iX8_takeThen_0 : zat mX8_takeThen 0 1 1 (.aload_n 0) := ⟨by decide +kernel, rfl⟩
theorem iX8_takeThen_1 : zat mX8_takeThen 1 3 4 (.getfield 34) := ⟨by decide +kernel, rfl⟩
theorem iX8_takeThen_4 : zat mX8_takeThen 4 1 5 (.aload_n 0) := ⟨by decide +kernel, rfl⟩
theorem iX8_takeThen_5 : zat mX8_takeThen 5 3 8 (.getfield 25) := ⟨by decide +kernel, rfl⟩
theorem iX8_takeThen_8 : zat mX8_takeThen 8 3 11 (.invokestatic 131) := ⟨by decide +kernel, rfl⟩
theorem iX8_takeThen_11 : zat mX8_takeThen 11 1 12 (.aload_n 0) := ⟨by decide +kernel, rfl⟩
theorem iX8_takeThen_12 : zat mX8_takeThen 12 3 15 (.getfield 37) := ⟨by decide +kernel, rfl⟩
theorem iX8_takeThen_15 : zat mX8_takeThen 15 1 16 (.aload_n 0) := ⟨by decide +kernel, rfl⟩
theorem iX8_takeThen_16 : zat mX8_takeThen 16 3 19 (.getfield 28) := ⟨by decide +kernel, rfl⟩
theorem iX8_takeThen_19 : zat mX8_takeThen 19 3 22 (.invokestatic 131) := ⟨by decide +kernel, rfl⟩
theorem iX8_takeThen_22 : zat mX8_takeThen 22 1 23 (.aload_n 0) := ⟨by decide +kernel, rfl⟩
theorem iX8_takeThen_23 : zat mX8_takeThen 23 3 26 (.getfield 40) := ⟨by decide +kernel, rfl⟩
theorem iX8_takeThen_26 : zat mX8_takeThen 26 1 27 (.aload_n 0) := ⟨by decide +kernel, rfl⟩
theorem iX8_takeThen_27 : zat mX8_takeThen 27 3 30 (.getfield 31) := ⟨by decide +kernel, rfl⟩
theorem iX8_takeThen_30 : zat mX8_takeThen 30 3 33 (.invokestatic 131) := ⟨by decide +kernel, rfl⟩
theorem iX8_takeThen_33 : zat mX8_takeThen 33 1 34 (.return_) := ⟨by decide +kernel, rfl⟩
theorem iX8_goes_0 : zat mX8_goes 0 1 1 (.aload_n 0) := ⟨by decide +kernel, rfl⟩
theorem iX8_goes_1 : zat mX8_goes 1 3 4 (.getfield 34) := ⟨by decide +kernel, rfl⟩
theorem iX8_goes_4 : zat mX8_goes 4 1 5 (.iload_n 1) := ⟨by decide +kernel, rfl⟩
theorem iX8_goes_5 : zat mX8_goes 5 1 6 (.iconst 0) := ⟨by decide +kernel, rfl⟩
theorem iX8_goes_6 : zat mX8_goes 6 1 7 (.iastore) := ⟨by decide +kernel, rfl⟩
theorem iX8_goes_7 : zat mX8_goes 7 1 8 (.aload_n 0) := ⟨by decide +kernel, rfl⟩
theorem iX8_goes_8 : zat mX8_goes 8 3 11 (.getfield 37) := ⟨by decide +kernel, rfl⟩
theorem iX8_goes_11 : zat mX8_goes 11 1 12 (.iload_n 1) := ⟨by decide +kernel, rfl⟩
theorem iX8_goes_12 : zat mX8_goes 12 1 13 (.iconst 0) := ⟨by decide +kernel, rfl⟩
theorem iX8_goes_13 : zat mX8_goes 13 1 14 (.iastore) := ⟨by decide +kernel, rfl⟩
theorem iX8_goes_14 : zat mX8_goes 14 1 15 (.aload_n 0) := ⟨by decide +kernel, rfl⟩
theorem iX8_goes_15 : zat mX8_goes 15 3 18 (.getfield 40) := ⟨by decide +kernel, rfl⟩
theorem iX8_goes_18 : zat mX8_goes 18 1 19 (.iload_n 1) := ⟨by decide +kernel, rfl⟩
theorem iX8_goes_19 : zat mX8_goes 19 1 20 (.iconst 0) := ⟨by decide +kernel, rfl⟩
theorem iX8_goes_20 : zat mX8_goes 20 1 21 (.iastore) := ⟨by decide +kernel, rfl⟩
theorem iX8_goes_21 : zat mX8_goes 21 1 22 (.return_) := ⟨by decide +kernel, rfl⟩
theorem iX8_topOf_0 : zat mX8_topOf 0 1 1 (.aload_n 0) := ⟨by decide +kernel, rfl⟩
theorem iX8_topOf_1 : zat mX8_topOf 1 3 4 (.getfield 19) := ⟨by decide +kernel, rfl⟩
theorem iX8_topOf_4 : zat mX8_topOf 4 1 5 (.iload_n 1) := ⟨by decide +kernel, rfl⟩
theorem iX8_topOf_5 : zat mX8_topOf 5 1 6 (.iaload) := ⟨by decide +kernel, rfl⟩
theorem iX8_topOf_6 : zat mX8_topOf 6 1 7 (.iconst 1) := ⟨by decide +kernel, rfl⟩
theorem iX8_topOf_7 : zat mX8_topOf 7 1 8 (.isub) := ⟨by decide +kernel, rfl⟩
theorem iX8_topOf_8 : zat mX8_topOf 8 1 9 (.istore_n 2) := ⟨by decide +kernel, rfl⟩
theorem iX8_topOf_9 : zat mX8_topOf 9 1 10 (.iload_n 2) := ⟨by decide +kernel, rfl⟩
theorem iX8_topOf_10 : zbr mX8_topOf 10 13 41 (.ifCond .lt) := ⟨31, by decide +kernel, rfl, rfl⟩
theorem iX8_topOf_13 : zat mX8_topOf 13 1 14 (.aload_n 0) := ⟨by decide +kernel, rfl⟩
theorem iX8_topOf_14 : zat mX8_topOf 14 3 17 (.getfield 22) := ⟨by decide +kernel, rfl⟩
theorem iX8_topOf_17 : zat mX8_topOf 17 1 18 (.iconst 4) := ⟨by decide +kernel, rfl⟩
theorem iX8_topOf_18 : zat mX8_topOf 18 1 19 (.iload_n 1) := ⟨by decide +kernel, rfl⟩
theorem iX8_topOf_19 : zat mX8_topOf 19 1 20 (.imul) := ⟨by decide +kernel, rfl⟩
theorem iX8_topOf_20 : zat mX8_topOf 20 1 21 (.iload_n 2) := ⟨by decide +kernel, rfl⟩
theorem iX8_topOf_21 : zat mX8_topOf 21 1 22 (.iadd) := ⟨by decide +kernel, rfl⟩
theorem iX8_topOf_22 : zat mX8_topOf 22 1 23 (.iaload) := ⟨by decide +kernel, rfl⟩
theorem iX8_topOf_23 : zat mX8_topOf 23 1 24 (.istore_n 3) := ⟨by decide +kernel, rfl⟩
theorem iX8_topOf_24 : zat mX8_topOf 24 1 25 (.aload_n 0) := ⟨by decide +kernel, rfl⟩
theorem iX8_topOf_25 : zat mX8_topOf 25 3 28 (.getfield 34) := ⟨by decide +kernel, rfl⟩
theorem iX8_topOf_28 : zat mX8_topOf 28 1 29 (.iload_n 3) := ⟨by decide +kernel, rfl⟩
theorem iX8_topOf_29 : zat mX8_topOf 29 1 30 (.iaload) := ⟨by decide +kernel, rfl⟩
theorem iX8_topOf_30 : zbr mX8_topOf 30 33 35 (.ifCond .le) := ⟨5, by decide +kernel, rfl, rfl⟩
theorem iX8_topOf_33 : zat mX8_topOf 33 1 34 (.iload_n 3) := ⟨by decide +kernel, rfl⟩
theorem iX8_topOf_34 : zat mX8_topOf 34 1 35 (.ireturn) := ⟨by decide +kernel, rfl⟩
theorem iX8_topOf_35 : zat mX8_topOf 35 3 38 (.iinc 2 (-1)) := ⟨by decide +kernel, rfl⟩
theorem iX8_topOf_38 : zbr mX8_topOf 38 41 9 (.goto) := ⟨-29, by decide +kernel, rfl, rfl⟩
theorem iX8_topOf_41 : zat mX8_topOf 41 1 42 (.iconst (-1)) := ⟨by decide +kernel, rfl⟩
theorem iX8_topOf_42 : zat mX8_topOf 42 1 43 (.ireturn) := ⟨by decide +kernel, rfl⟩
theorem iX8_gives_0 : zat mX8_gives 0 1 1 (.iload_n 0) := ⟨by decide +kernel, rfl⟩
theorem iX8_gives_1 : zat mX8_gives 1 31 32 (.tableswitch 47 1 4 #[31, 35, 39, 41]) := ⟨by decide +kernel, rfl⟩
theorem iX8_gives_32 : zat mX8_gives 32 1 33 (.iconst 2) := ⟨by decide +kernel, rfl⟩
theorem iX8_gives_33 : zat mX8_gives 33 1 34 (.iload_n 1) := ⟨by decide +kernel, rfl⟩
theorem iX8_gives_34 : zat mX8_gives 34 1 35 (.imul) := ⟨by decide +kernel, rfl⟩
theorem iX8_gives_35 : zat mX8_gives 35 1 36 (.ireturn) := ⟨by decide +kernel, rfl⟩
theorem iX8_gives_36 : zat mX8_gives 36 1 37 (.iload_n 1) := ⟨by decide +kernel, rfl⟩
theorem iX8_gives_37 : zat mX8_gives 37 1 38 (.iconst 1) := ⟨by decide +kernel, rfl⟩
theorem iX8_gives_38 : zat mX8_gives 38 1 39 (.iadd) := ⟨by decide +kernel, rfl⟩
theorem iX8_gives_39 : zat mX8_gives 39 1 40 (.ireturn) := ⟨by decide +kernel, rfl⟩
theorem iX8_gives_40 : zat mX8_gives 40 1 41 (.iconst 0) := ⟨by decide +kernel, rfl⟩
theorem iX8_gives_41 : zat mX8_gives 41 1 42 (.ireturn) := ⟨by decide +kernel, rfl⟩
theorem iX8_gives_42 : zat mX8_gives 42 1 43 (.iconst 2) := ⟨by decide +kernel, rfl⟩
theorem iX8_gives_43 : zat mX8_gives 43 1 44 (.iload_n 1) := ⟨by decide +kernel, rfl⟩
theorem iX8_gives_44 : zat mX8_gives 44 1 45 (.imul) := ⟨by decide +kernel, rfl⟩
theorem iX8_gives_45 : zat mX8_gives 45 1 46 (.iconst 1) := ⟨by decide +kernel, rfl⟩
theorem iX8_gives_46 : zat mX8_gives 46 1 47 (.iadd) := ⟨by decide +kernel, rfl⟩
theorem iX8_gives_47 : zat mX8_gives 47 1 48 (.ireturn) := ⟨by decide +kernel, rfl⟩
theorem iX8_gives_48 : zat mX8_gives 48 1 49 (.iload_n 1) := ⟨by decide +kernel, rfl⟩
theorem iX8_gives_49 : zat mX8_gives 49 1 50 (.ireturn) := ⟨by decide +kernel, rfl⟩
theorem iX8_dry_0 : zat mX8_dry 0 1 1 (.aload_n 0) := ⟨by decide +kernel, rfl⟩
theorem iX8_dry_1 : zat mX8_dry 1 3 4 (.getfield 37) := ⟨by decide +kernel, rfl⟩
theorem iX8_dry_4 : zat mX8_dry 4 1 5 (.iload_n 1) := ⟨by decide +kernel, rfl⟩
theorem iX8_dry_5 : zat mX8_dry 5 1 6 (.dup2) := ⟨by decide +kernel, rfl⟩
theorem iX8_dry_6 : zat mX8_dry 6 1 7 (.iaload) := ⟨by decide +kernel, rfl⟩
theorem iX8_dry_7 : zat mX8_dry 7 1 8 (.aload_n 0) := ⟨by decide +kernel, rfl⟩
theorem iX8_dry_8 : zat mX8_dry 8 3 11 (.getfield 37) := ⟨by decide +kernel, rfl⟩
theorem iX8_dry_11 : zat mX8_dry 11 1 12 (.iload_n 1) := ⟨by decide +kernel, rfl⟩
theorem iX8_dry_12 : zat mX8_dry 12 1 13 (.iaload) := ⟨by decide +kernel, rfl⟩
theorem iX8_dry_13 : zbr mX8_dry 13 16 20 (.ifCond .le) := ⟨7, by decide +kernel, rfl, rfl⟩
theorem iX8_dry_16 : zat mX8_dry 16 1 17 (.iconst 1) := ⟨by decide +kernel, rfl⟩
theorem iX8_dry_17 : zbr mX8_dry 17 20 21 (.goto) := ⟨4, by decide +kernel, rfl, rfl⟩
theorem iX8_dry_20 : zat mX8_dry 20 1 21 (.iconst 0) := ⟨by decide +kernel, rfl⟩
theorem iX8_dry_21 : zat mX8_dry 21 1 22 (.isub) := ⟨by decide +kernel, rfl⟩
theorem iX8_dry_22 : zat mX8_dry 22 1 23 (.iastore) := ⟨by decide +kernel, rfl⟩
theorem iX8_dry_23 : zat mX8_dry 23 1 24 (.return_) := ⟨by decide +kernel, rfl⟩
theorem iX8_cutThen_0 : zat mX8_cutThen 0 1 1 (.aload_n 0) := ⟨by decide +kernel, rfl⟩
theorem iX8_cutThen_1 : zat mX8_cutThen 1 1 2 (.iload_n 1) := ⟨by decide +kernel, rfl⟩
theorem iX8_cutThen_2 : zat mX8_cutThen 2 3 5 (.invokevirtual 135) := ⟨by decide +kernel, rfl⟩
theorem iX8_cutThen_5 : zat mX8_cutThen 5 1 6 (.istore_n 3) := ⟨by decide +kernel, rfl⟩
theorem iX8_cutThen_6 : zat mX8_cutThen 6 1 7 (.iload_n 2) := ⟨by decide +kernel, rfl⟩
theorem iX8_cutThen_7 : zat mX8_cutThen 7 1 8 (.aload_n 0) := ⟨by decide +kernel, rfl⟩
theorem iX8_cutThen_8 : zat mX8_cutThen 8 3 11 (.getfield 34) := ⟨by decide +kernel, rfl⟩
theorem iX8_cutThen_11 : zat mX8_cutThen 11 1 12 (.iload_n 3) := ⟨by decide +kernel, rfl⟩
theorem iX8_cutThen_12 : zat mX8_cutThen 12 1 13 (.iaload) := ⟨by decide +kernel, rfl⟩
theorem iX8_cutThen_13 : zbr mX8_cutThen 13 16 20 (.if_icmp .ge) := ⟨7, by decide +kernel, rfl, rfl⟩
theorem iX8_cutThen_16 : zat mX8_cutThen 16 1 17 (.iload_n 2) := ⟨by decide +kernel, rfl⟩
theorem iX8_cutThen_17 : zbr mX8_cutThen 17 20 26 (.goto) := ⟨9, by decide +kernel, rfl, rfl⟩
theorem iX8_cutThen_20 : zat mX8_cutThen 20 1 21 (.aload_n 0) := ⟨by decide +kernel, rfl⟩
theorem iX8_cutThen_21 : zat mX8_cutThen 21 3 24 (.getfield 34) := ⟨by decide +kernel, rfl⟩
theorem iX8_cutThen_24 : zat mX8_cutThen 24 1 25 (.iload_n 3) := ⟨by decide +kernel, rfl⟩
theorem iX8_cutThen_25 : zat mX8_cutThen 25 1 26 (.iaload) := ⟨by decide +kernel, rfl⟩
theorem iX8_cutThen_26 : zat mX8_cutThen 26 2 28 (.istore 4) := ⟨by decide +kernel, rfl⟩
theorem iX8_cutThen_28 : zat mX8_cutThen 28 1 29 (.iconst 0) := ⟨by decide +kernel, rfl⟩
theorem iX8_cutThen_29 : zat mX8_cutThen 29 2 31 (.istore 5) := ⟨by decide +kernel, rfl⟩
theorem iX8_cutThen_31 : zat mX8_cutThen 31 2 33 (.iload 5) := ⟨by decide +kernel, rfl⟩
theorem iX8_cutThen_33 : zat mX8_cutThen 33 1 34 (.aload_n 0) := ⟨by decide +kernel, rfl⟩
theorem iX8_cutThen_34 : zat mX8_cutThen 34 3 37 (.getfield 110) := ⟨by decide +kernel, rfl⟩
theorem iX8_cutThen_37 : zbr mX8_cutThen 37 40 82 (.if_icmp .ge) := ⟨45, by decide +kernel, rfl, rfl⟩
theorem iX8_cutThen_40 : zat mX8_cutThen 40 1 41 (.aload_n 0) := ⟨by decide +kernel, rfl⟩
theorem iX8_cutThen_41 : zat mX8_cutThen 41 2 43 (.iload 5) := ⟨by decide +kernel, rfl⟩
theorem iX8_cutThen_43 : zat mX8_cutThen 43 3 46 (.invokevirtual 135) := ⟨by decide +kernel, rfl⟩
theorem iX8_cutThen_46 : zat mX8_cutThen 46 2 48 (.istore 6) := ⟨by decide +kernel, rfl⟩
theorem iX8_cutThen_48 : zat mX8_cutThen 48 1 49 (.aload_n 0) := ⟨by decide +kernel, rfl⟩
theorem iX8_cutThen_49 : zat mX8_cutThen 49 3 52 (.getfield 13) := ⟨by decide +kernel, rfl⟩
theorem iX8_cutThen_52 : zat mX8_cutThen 52 1 53 (.iload_n 3) := ⟨by decide +kernel, rfl⟩
theorem iX8_cutThen_53 : zat mX8_cutThen 53 1 54 (.iaload) := ⟨by decide +kernel, rfl⟩
theorem iX8_cutThen_54 : zat mX8_cutThen 54 1 55 (.iconst 3) := ⟨by decide +kernel, rfl⟩
theorem iX8_cutThen_55 : zbr mX8_cutThen 55 58 76 (.if_icmp .ne) := ⟨21, by decide +kernel, rfl, rfl⟩
theorem iX8_cutThen_58 : zat mX8_cutThen 58 2 60 (.iload 5) := ⟨by decide +kernel, rfl⟩
theorem iX8_cutThen_60 : zat mX8_cutThen 60 1 61 (.iload_n 1) := ⟨by decide +kernel, rfl⟩
theorem iX8_cutThen_61 : zbr mX8_cutThen 61 64 76 (.if_icmp .eq) := ⟨15, by decide +kernel, rfl, rfl⟩
theorem iX8_cutThen_64 : zat mX8_cutThen 64 2 66 (.iload 6) := ⟨by decide +kernel, rfl⟩
theorem iX8_cutThen_66 : zat mX8_cutThen 66 1 67 (.iconst (-1)) := ⟨by decide +kernel, rfl⟩
theorem iX8_cutThen_67 : zbr mX8_cutThen 67 70 76 (.if_icmp .eq) := ⟨9, by decide +kernel, rfl, rfl⟩
theorem iX8_cutThen_70 : zat mX8_cutThen 70 1 71 (.aload_n 0) := ⟨by decide +kernel, rfl⟩
theorem iX8_cutThen_71 : zat mX8_cutThen 71 2 73 (.iload 6) := ⟨by decide +kernel, rfl⟩
theorem iX8_cutThen_73 : zat mX8_cutThen 73 3 76 (.invokevirtual 138) := ⟨by decide +kernel, rfl⟩
theorem iX8_cutThen_76 : zat mX8_cutThen 76 3 79 (.iinc 5 1) := ⟨by decide +kernel, rfl⟩
theorem iX8_cutThen_79 : zbr mX8_cutThen 79 82 31 (.goto) := ⟨-48, by decide +kernel, rfl, rfl⟩
theorem iX8_cutThen_82 : zat mX8_cutThen 82 1 83 (.aload_n 0) := ⟨by decide +kernel, rfl⟩
theorem iX8_cutThen_83 : zat mX8_cutThen 83 3 86 (.getfield 34) := ⟨by decide +kernel, rfl⟩
theorem iX8_cutThen_86 : zat mX8_cutThen 86 1 87 (.iload_n 3) := ⟨by decide +kernel, rfl⟩
theorem iX8_cutThen_87 : zat mX8_cutThen 87 1 88 (.dup2) := ⟨by decide +kernel, rfl⟩
theorem iX8_cutThen_88 : zat mX8_cutThen 88 1 89 (.iaload) := ⟨by decide +kernel, rfl⟩
theorem iX8_cutThen_89 : zat mX8_cutThen 89 2 91 (.iload 4) := ⟨by decide +kernel, rfl⟩
theorem iX8_cutThen_91 : zat mX8_cutThen 91 1 92 (.isub) := ⟨by decide +kernel, rfl⟩
theorem iX8_cutThen_92 : zat mX8_cutThen 92 1 93 (.iastore) := ⟨by decide +kernel, rfl⟩
theorem iX8_cutThen_93 : zat mX8_cutThen 93 1 94 (.aload_n 0) := ⟨by decide +kernel, rfl⟩
theorem iX8_cutThen_94 : zat mX8_cutThen 94 3 97 (.getfield 34) := ⟨by decide +kernel, rfl⟩
theorem iX8_cutThen_97 : zat mX8_cutThen 97 1 98 (.iload_n 3) := ⟨by decide +kernel, rfl⟩
theorem iX8_cutThen_98 : zat mX8_cutThen 98 1 99 (.iaload) := ⟨by decide +kernel, rfl⟩
theorem iX8_cutThen_99 : zbr mX8_cutThen 99 102 107 (.ifCond .ne) := ⟨8, by decide +kernel, rfl, rfl⟩
theorem iX8_cutThen_102 : zat mX8_cutThen 102 1 103 (.aload_n 0) := ⟨by decide +kernel, rfl⟩
theorem iX8_cutThen_103 : zat mX8_cutThen 103 1 104 (.iload_n 3) := ⟨by decide +kernel, rfl⟩
theorem iX8_cutThen_104 : zat mX8_cutThen 104 3 107 (.invokevirtual 142) := ⟨by decide +kernel, rfl⟩
theorem iX8_cutThen_107 : zat mX8_cutThen 107 1 108 (.aload_n 0) := ⟨by decide +kernel, rfl⟩
theorem iX8_cutThen_108 : zat mX8_cutThen 108 3 111 (.getfield 13) := ⟨by decide +kernel, rfl⟩
theorem iX8_cutThen_111 : zat mX8_cutThen 111 1 112 (.iload_n 3) := ⟨by decide +kernel, rfl⟩
theorem iX8_cutThen_112 : zat mX8_cutThen 112 1 113 (.iaload) := ⟨by decide +kernel, rfl⟩
theorem iX8_cutThen_113 : zat mX8_cutThen 113 2 115 (.iload 4) := ⟨by decide +kernel, rfl⟩
theorem iX8_cutThen_115 : zat mX8_cutThen 115 3 118 (.invokestatic 145) := ⟨by decide +kernel, rfl⟩
theorem iX8_cutThen_118 : zat mX8_cutThen 118 1 119 (.ireturn) := ⟨by decide +kernel, rfl⟩
theorem iX8_placeOf_0 : zat mX8_placeOf 0 1 1 (.iconst 0) := ⟨by decide +kernel, rfl⟩
theorem iX8_placeOf_1 : zat mX8_placeOf 1 1 2 (.istore_n 2) := ⟨by decide +kernel, rfl⟩
theorem iX8_placeOf_2 : zat mX8_placeOf 2 1 3 (.aload_n 0) := ⟨by decide +kernel, rfl⟩
theorem iX8_placeOf_3 : zat mX8_placeOf 3 3 6 (.getfield 22) := ⟨by decide +kernel, rfl⟩
theorem iX8_placeOf_6 : zat mX8_placeOf 6 1 7 (.iconst 4) := ⟨by decide +kernel, rfl⟩
theorem iX8_placeOf_7 : zat mX8_placeOf 7 1 8 (.aload_n 0) := ⟨by decide +kernel, rfl⟩
theorem iX8_placeOf_8 : zat mX8_placeOf 8 3 11 (.getfield 16) := ⟨by decide +kernel, rfl⟩
theorem iX8_placeOf_11 : zat mX8_placeOf 11 1 12 (.iload_n 1) := ⟨by decide +kernel, rfl⟩
theorem iX8_placeOf_12 : zat mX8_placeOf 12 1 13 (.iaload) := ⟨by decide +kernel, rfl⟩
theorem iX8_placeOf_13 : zat mX8_placeOf 13 1 14 (.imul) := ⟨by decide +kernel, rfl⟩
theorem iX8_placeOf_14 : zat mX8_placeOf 14 1 15 (.iload_n 2) := ⟨by decide +kernel, rfl⟩
theorem iX8_placeOf_15 : zat mX8_placeOf 15 1 16 (.iadd) := ⟨by decide +kernel, rfl⟩
theorem iX8_placeOf_16 : zat mX8_placeOf 16 1 17 (.iaload) := ⟨by decide +kernel, rfl⟩
theorem iX8_placeOf_17 : zat mX8_placeOf 17 1 18 (.iload_n 1) := ⟨by decide +kernel, rfl⟩
theorem iX8_placeOf_18 : zbr mX8_placeOf 18 21 27 (.if_icmp .eq) := ⟨9, by decide +kernel, rfl, rfl⟩
theorem iX8_placeOf_21 : zat mX8_placeOf 21 3 24 (.iinc 2 1) := ⟨by decide +kernel, rfl⟩
theorem iX8_placeOf_24 : zbr mX8_placeOf 24 27 2 (.goto) := ⟨-22, by decide +kernel, rfl, rfl⟩
theorem iX8_placeOf_27 : zat mX8_placeOf 27 1 28 (.iload_n 2) := ⟨by decide +kernel, rfl⟩
theorem iX8_placeOf_28 : zat mX8_placeOf 28 1 29 (.ireturn) := ⟨by decide +kernel, rfl⟩
theorem iX8_onIt_0 : zat mX8_onIt 0 1 1 (.aload_n 0) := ⟨by decide +kernel, rfl⟩
theorem iX8_onIt_1 : zat mX8_onIt 1 3 4 (.getfield 16) := ⟨by decide +kernel, rfl⟩
theorem iX8_onIt_4 : zat mX8_onIt 4 1 5 (.iload_n 1) := ⟨by decide +kernel, rfl⟩
theorem iX8_onIt_5 : zat mX8_onIt 5 1 6 (.iaload) := ⟨by decide +kernel, rfl⟩
theorem iX8_onIt_6 : zat mX8_onIt 6 1 7 (.istore_n 3) := ⟨by decide +kernel, rfl⟩
theorem iX8_onIt_7 : zat mX8_onIt 7 1 8 (.iconst 0) := ⟨by decide +kernel, rfl⟩
theorem iX8_onIt_8 : zat mX8_onIt 8 2 10 (.istore 4) := ⟨by decide +kernel, rfl⟩
theorem iX8_onIt_10 : zat mX8_onIt 10 1 11 (.aload_n 0) := ⟨by decide +kernel, rfl⟩
theorem iX8_onIt_11 : zat mX8_onIt 11 1 12 (.iload_n 1) := ⟨by decide +kernel, rfl⟩
theorem iX8_onIt_12 : zat mX8_onIt 12 3 15 (.invokevirtual 149) := ⟨by decide +kernel, rfl⟩
theorem iX8_onIt_15 : zat mX8_onIt 15 1 16 (.iconst 1) := ⟨by decide +kernel, rfl⟩
theorem iX8_onIt_16 : zat mX8_onIt 16 1 17 (.iadd) := ⟨by decide +kernel, rfl⟩
theorem iX8_onIt_17 : zat mX8_onIt 17 2 19 (.istore 5) := ⟨by decide +kernel, rfl⟩
theorem iX8_onIt_19 : zat mX8_onIt 19 2 21 (.iload 5) := ⟨by decide +kernel, rfl⟩
theorem iX8_onIt_21 : zat mX8_onIt 21 1 22 (.aload_n 0) := ⟨by decide +kernel, rfl⟩
theorem iX8_onIt_22 : zat mX8_onIt 22 3 25 (.getfield 19) := ⟨by decide +kernel, rfl⟩
theorem iX8_onIt_25 : zat mX8_onIt 25 1 26 (.iload_n 3) := ⟨by decide +kernel, rfl⟩
theorem iX8_onIt_26 : zat mX8_onIt 26 1 27 (.iaload) := ⟨by decide +kernel, rfl⟩
theorem iX8_onIt_27 : zbr mX8_onIt 27 30 83 (.if_icmp .ge) := ⟨56, by decide +kernel, rfl, rfl⟩
theorem iX8_onIt_30 : zat mX8_onIt 30 1 31 (.aload_n 0) := ⟨by decide +kernel, rfl⟩
theorem iX8_onIt_31 : zat mX8_onIt 31 3 34 (.getfield 22) := ⟨by decide +kernel, rfl⟩
theorem iX8_onIt_34 : zat mX8_onIt 34 1 35 (.iconst 4) := ⟨by decide +kernel, rfl⟩
theorem iX8_onIt_35 : zat mX8_onIt 35 1 36 (.iload_n 3) := ⟨by decide +kernel, rfl⟩
theorem iX8_onIt_36 : zat mX8_onIt 36 1 37 (.imul) := ⟨by decide +kernel, rfl⟩
theorem iX8_onIt_37 : zat mX8_onIt 37 2 39 (.iload 5) := ⟨by decide +kernel, rfl⟩
theorem iX8_onIt_39 : zat mX8_onIt 39 1 40 (.iadd) := ⟨by decide +kernel, rfl⟩
theorem iX8_onIt_40 : zat mX8_onIt 40 1 41 (.iaload) := ⟨by decide +kernel, rfl⟩
theorem iX8_onIt_41 : zat mX8_onIt 41 2 43 (.istore 6) := ⟨by decide +kernel, rfl⟩
theorem iX8_onIt_43 : zat mX8_onIt 43 2 45 (.iload 4) := ⟨by decide +kernel, rfl⟩
theorem iX8_onIt_45 : zat mX8_onIt 45 1 46 (.aload_n 0) := ⟨by decide +kernel, rfl⟩
theorem iX8_onIt_46 : zat mX8_onIt 46 3 49 (.getfield 34) := ⟨by decide +kernel, rfl⟩
theorem iX8_onIt_49 : zat mX8_onIt 49 2 51 (.iload 6) := ⟨by decide +kernel, rfl⟩
theorem iX8_onIt_51 : zat mX8_onIt 51 1 52 (.iaload) := ⟨by decide +kernel, rfl⟩
theorem iX8_onIt_52 : zbr mX8_onIt 52 55 73 (.ifCond .le) := ⟨21, by decide +kernel, rfl, rfl⟩
theorem iX8_onIt_55 : zat mX8_onIt 55 1 56 (.iload_n 2) := ⟨by decide +kernel, rfl⟩
theorem iX8_onIt_56 : zbr mX8_onIt 56 59 69 (.ifCond .eq) := ⟨13, by decide +kernel, rfl, rfl⟩
theorem iX8_onIt_59 : zat mX8_onIt 59 1 60 (.aload_n 0) := ⟨by decide +kernel, rfl⟩
theorem iX8_onIt_60 : zat mX8_onIt 60 3 63 (.getfield 37) := ⟨by decide +kernel, rfl⟩
theorem iX8_onIt_63 : zat mX8_onIt 63 2 65 (.iload 6) := ⟨by decide +kernel, rfl⟩
theorem iX8_onIt_65 : zat mX8_onIt 65 1 66 (.iaload) := ⟨by decide +kernel, rfl⟩
theorem iX8_onIt_66 : zbr mX8_onIt 66 69 73 (.ifCond .le) := ⟨7, by decide +kernel, rfl, rfl⟩
theorem iX8_onIt_69 : zat mX8_onIt 69 1 70 (.iconst 1) := ⟨by decide +kernel, rfl⟩
theorem iX8_onIt_70 : zbr mX8_onIt 70 73 74 (.goto) := ⟨4, by decide +kernel, rfl, rfl⟩
theorem iX8_onIt_73 : zat mX8_onIt 73 1 74 (.iconst 0) := ⟨by decide +kernel, rfl⟩
theorem iX8_onIt_74 : zat mX8_onIt 74 1 75 (.iadd) := ⟨by decide +kernel, rfl⟩
theorem iX8_onIt_75 : zat mX8_onIt 75 2 77 (.istore 4) := ⟨by decide +kernel, rfl⟩
theorem iX8_onIt_77 : zat mX8_onIt 77 3 80 (.iinc 5 1) := ⟨by decide +kernel, rfl⟩
theorem iX8_onIt_80 : zbr mX8_onIt 80 83 19 (.goto) := ⟨-61, by decide +kernel, rfl, rfl⟩
theorem iX8_onIt_83 : zat mX8_onIt 83 2 85 (.iload 4) := ⟨by decide +kernel, rfl⟩
theorem iX8_onIt_85 : zat mX8_onIt 85 1 86 (.ireturn) := ⟨by decide +kernel, rfl⟩
theorem iX8_warmsBy_0 : zat mX8_warmsBy 0 1 1 (.aload_n 0) := ⟨by decide +kernel, rfl⟩
theorem iX8_warmsBy_1 : zat mX8_warmsBy 1 3 4 (.getfield 34) := ⟨by decide +kernel, rfl⟩
theorem iX8_warmsBy_4 : zat mX8_warmsBy 4 1 5 (.iload_n 1) := ⟨by decide +kernel, rfl⟩
theorem iX8_warmsBy_5 : zat mX8_warmsBy 5 1 6 (.iaload) := ⟨by decide +kernel, rfl⟩
theorem iX8_warmsBy_6 : zbr mX8_warmsBy 6 9 11 (.ifCond .ne) := ⟨5, by decide +kernel, rfl, rfl⟩
theorem iX8_warmsBy_9 : zat mX8_warmsBy 9 1 10 (.iconst 0) := ⟨by decide +kernel, rfl⟩
theorem iX8_warmsBy_10 : zat mX8_warmsBy 10 1 11 (.ireturn) := ⟨by decide +kernel, rfl⟩
theorem iX8_warmsBy_11 : zat mX8_warmsBy 11 1 12 (.aload_n 0) := ⟨by decide +kernel, rfl⟩
theorem iX8_warmsBy_12 : zat mX8_warmsBy 12 3 15 (.getfield 37) := ⟨by decide +kernel, rfl⟩
theorem iX8_warmsBy_15 : zat mX8_warmsBy 15 1 16 (.iload_n 1) := ⟨by decide +kernel, rfl⟩
theorem iX8_warmsBy_16 : zat mX8_warmsBy 16 1 17 (.iaload) := ⟨by decide +kernel, rfl⟩
theorem iX8_warmsBy_17 : zat mX8_warmsBy 17 1 18 (.aload_n 0) := ⟨by decide +kernel, rfl⟩
theorem iX8_warmsBy_18 : zat mX8_warmsBy 18 1 19 (.iload_n 1) := ⟨by decide +kernel, rfl⟩
theorem iX8_warmsBy_19 : zat mX8_warmsBy 19 1 20 (.iconst 1) := ⟨by decide +kernel, rfl⟩
theorem iX8_warmsBy_20 : zat mX8_warmsBy 20 3 23 (.invokevirtual 152) := ⟨by decide +kernel, rfl⟩
theorem iX8_warmsBy_23 : zat mX8_warmsBy 23 1 24 (.iadd) := ⟨by decide +kernel, rfl⟩
theorem iX8_warmsBy_24 : zat mX8_warmsBy 24 1 25 (.istore_n 2) := ⟨by decide +kernel, rfl⟩
theorem iX8_warmsBy_25 : zat mX8_warmsBy 25 1 26 (.aload_n 0) := ⟨by decide +kernel, rfl⟩
theorem iX8_warmsBy_26 : zat mX8_warmsBy 26 3 29 (.getfield 13) := ⟨by decide +kernel, rfl⟩
theorem iX8_warmsBy_29 : zat mX8_warmsBy 29 1 30 (.iload_n 1) := ⟨by decide +kernel, rfl⟩
theorem iX8_warmsBy_30 : zat mX8_warmsBy 30 1 31 (.iaload) := ⟨by decide +kernel, rfl⟩
theorem iX8_warmsBy_31 : zat mX8_warmsBy 31 29 60 (.tableswitch 43 1 4 #[29, 33, 37, 39]) := ⟨by decide +kernel, rfl⟩
theorem iX8_warmsBy_60 : zat mX8_warmsBy 60 1 61 (.iload_n 2) := ⟨by decide +kernel, rfl⟩
theorem iX8_warmsBy_61 : zat mX8_warmsBy 61 1 62 (.iconst 2) := ⟨by decide +kernel, rfl⟩
theorem iX8_warmsBy_62 : zat mX8_warmsBy 62 1 63 (.idiv) := ⟨by decide +kernel, rfl⟩
theorem iX8_warmsBy_63 : zat mX8_warmsBy 63 1 64 (.ireturn) := ⟨by decide +kernel, rfl⟩
theorem iX8_warmsBy_64 : zat mX8_warmsBy 64 1 65 (.iconst 2) := ⟨by decide +kernel, rfl⟩
theorem iX8_warmsBy_65 : zat mX8_warmsBy 65 1 66 (.iload_n 2) := ⟨by decide +kernel, rfl⟩
theorem iX8_warmsBy_66 : zat mX8_warmsBy 66 1 67 (.imul) := ⟨by decide +kernel, rfl⟩
theorem iX8_warmsBy_67 : zat mX8_warmsBy 67 1 68 (.ireturn) := ⟨by decide +kernel, rfl⟩
theorem iX8_warmsBy_68 : zat mX8_warmsBy 68 1 69 (.iconst 0) := ⟨by decide +kernel, rfl⟩
theorem iX8_warmsBy_69 : zat mX8_warmsBy 69 1 70 (.ireturn) := ⟨by decide +kernel, rfl⟩
theorem iX8_warmsBy_70 : zat mX8_warmsBy 70 1 71 (.iload_n 2) := ⟨by decide +kernel, rfl⟩
theorem iX8_warmsBy_71 : zat mX8_warmsBy 71 1 72 (.iconst 4) := ⟨by decide +kernel, rfl⟩
theorem iX8_warmsBy_72 : zat mX8_warmsBy 72 1 73 (.idiv) := ⟨by decide +kernel, rfl⟩
theorem iX8_warmsBy_73 : zat mX8_warmsBy 73 1 74 (.ireturn) := ⟨by decide +kernel, rfl⟩
theorem iX8_warmsBy_74 : zat mX8_warmsBy 74 1 75 (.iload_n 2) := ⟨by decide +kernel, rfl⟩
theorem iX8_warmsBy_75 : zat mX8_warmsBy 75 1 76 (.ireturn) := ⟨by decide +kernel, rfl⟩
theorem iX8_warmAll_0 : zat mX8_warmAll 0 1 1 (.iconst 0) := ⟨by decide +kernel, rfl⟩
theorem iX8_warmAll_1 : zat mX8_warmAll 1 1 2 (.istore_n 1) := ⟨by decide +kernel, rfl⟩
theorem iX8_warmAll_2 : zat mX8_warmAll 2 1 3 (.iload_n 1) := ⟨by decide +kernel, rfl⟩
theorem iX8_warmAll_3 : zat mX8_warmAll 3 1 4 (.aload_n 0) := ⟨by decide +kernel, rfl⟩
theorem iX8_warmAll_4 : zat mX8_warmAll 4 3 7 (.getfield 113) := ⟨by decide +kernel, rfl⟩
theorem iX8_warmAll_7 : zbr mX8_warmAll 7 10 30 (.if_icmp .ge) := ⟨23, by decide +kernel, rfl, rfl⟩
theorem iX8_warmAll_10 : zat mX8_warmAll 10 1 11 (.aload_n 0) := ⟨by decide +kernel, rfl⟩
theorem iX8_warmAll_11 : zat mX8_warmAll 11 3 14 (.getfield 40) := ⟨by decide +kernel, rfl⟩
theorem iX8_warmAll_14 : zat mX8_warmAll 14 1 15 (.iload_n 1) := ⟨by decide +kernel, rfl⟩
theorem iX8_warmAll_15 : zat mX8_warmAll 15 1 16 (.dup2) := ⟨by decide +kernel, rfl⟩
theorem iX8_warmAll_16 : zat mX8_warmAll 16 1 17 (.iaload) := ⟨by decide +kernel, rfl⟩
theorem iX8_warmAll_17 : zat mX8_warmAll 17 1 18 (.aload_n 0) := ⟨by decide +kernel, rfl⟩
theorem iX8_warmAll_18 : zat mX8_warmAll 18 1 19 (.iload_n 1) := ⟨by decide +kernel, rfl⟩
theorem iX8_warmAll_19 : zat mX8_warmAll 19 3 22 (.invokevirtual 156) := ⟨by decide +kernel, rfl⟩
theorem iX8_warmAll_22 : zat mX8_warmAll 22 1 23 (.iadd) := ⟨by decide +kernel, rfl⟩
theorem iX8_warmAll_23 : zat mX8_warmAll 23 1 24 (.iastore) := ⟨by decide +kernel, rfl⟩
theorem iX8_warmAll_24 : zat mX8_warmAll 24 3 27 (.iinc 1 1) := ⟨by decide +kernel, rfl⟩
theorem iX8_warmAll_27 : zbr mX8_warmAll 27 30 2 (.goto) := ⟨-25, by decide +kernel, rfl, rfl⟩
theorem iX8_warmAll_30 : zat mX8_warmAll 30 1 31 (.return_) := ⟨by decide +kernel, rfl⟩
theorem iX8_dryTops_0 : zat mX8_dryTops 0 1 1 (.iconst 0) := ⟨by decide +kernel, rfl⟩
theorem iX8_dryTops_1 : zat mX8_dryTops 1 1 2 (.istore_n 1) := ⟨by decide +kernel, rfl⟩
theorem iX8_dryTops_2 : zat mX8_dryTops 2 1 3 (.iload_n 1) := ⟨by decide +kernel, rfl⟩
theorem iX8_dryTops_3 : zat mX8_dryTops 3 1 4 (.aload_n 0) := ⟨by decide +kernel, rfl⟩
theorem iX8_dryTops_4 : zat mX8_dryTops 4 3 7 (.getfield 110) := ⟨by decide +kernel, rfl⟩
theorem iX8_dryTops_7 : zbr mX8_dryTops 7 10 32 (.if_icmp .ge) := ⟨25, by decide +kernel, rfl, rfl⟩
theorem iX8_dryTops_10 : zat mX8_dryTops 10 1 11 (.aload_n 0) := ⟨by decide +kernel, rfl⟩
theorem iX8_dryTops_11 : zat mX8_dryTops 11 1 12 (.iload_n 1) := ⟨by decide +kernel, rfl⟩
theorem iX8_dryTops_12 : zat mX8_dryTops 12 3 15 (.invokevirtual 135) := ⟨by decide +kernel, rfl⟩
theorem iX8_dryTops_15 : zat mX8_dryTops 15 1 16 (.istore_n 2) := ⟨by decide +kernel, rfl⟩
theorem iX8_dryTops_16 : zat mX8_dryTops 16 1 17 (.iload_n 2) := ⟨by decide +kernel, rfl⟩
theorem iX8_dryTops_17 : zat mX8_dryTops 17 1 18 (.iconst (-1)) := ⟨by decide +kernel, rfl⟩
theorem iX8_dryTops_18 : zbr mX8_dryTops 18 21 26 (.if_icmp .eq) := ⟨8, by decide +kernel, rfl, rfl⟩
theorem iX8_dryTops_21 : zat mX8_dryTops 21 1 22 (.aload_n 0) := ⟨by decide +kernel, rfl⟩
theorem iX8_dryTops_22 : zat mX8_dryTops 22 1 23 (.iload_n 2) := ⟨by decide +kernel, rfl⟩
theorem iX8_dryTops_23 : zat mX8_dryTops 23 3 26 (.invokevirtual 138) := ⟨by decide +kernel, rfl⟩
theorem iX8_dryTops_26 : zat mX8_dryTops 26 3 29 (.iinc 1 1) := ⟨by decide +kernel, rfl⟩
theorem iX8_dryTops_29 : zbr mX8_dryTops 29 32 2 (.goto) := ⟨-27, by decide +kernel, rfl, rfl⟩
theorem iX8_dryTops_32 : zat mX8_dryTops 32 1 33 (.return_) := ⟨by decide +kernel, rfl⟩
theorem iX8_dayThen_0 : zat mX8_dayThen 0 1 1 (.aload_n 0) := ⟨by decide +kernel, rfl⟩
theorem iX8_dayThen_1 : zat mX8_dayThen 1 3 4 (.invokevirtual 159) := ⟨by decide +kernel, rfl⟩
theorem iX8_dayThen_4 : zat mX8_dayThen 4 1 5 (.iconst 0) := ⟨by decide +kernel, rfl⟩
theorem iX8_dayThen_5 : zat mX8_dayThen 5 1 6 (.istore_n 1) := ⟨by decide +kernel, rfl⟩
theorem iX8_dayThen_6 : zat mX8_dayThen 6 1 7 (.iconst 0) := ⟨by decide +kernel, rfl⟩
theorem iX8_dayThen_7 : zat mX8_dayThen 7 1 8 (.istore_n 2) := ⟨by decide +kernel, rfl⟩
theorem iX8_dayThen_8 : zat mX8_dayThen 8 1 9 (.iload_n 2) := ⟨by decide +kernel, rfl⟩
theorem iX8_dayThen_9 : zat mX8_dayThen 9 1 10 (.aload_n 0) := ⟨by decide +kernel, rfl⟩
theorem iX8_dayThen_10 : zat mX8_dayThen 10 3 13 (.getfield 110) := ⟨by decide +kernel, rfl⟩
theorem iX8_dayThen_13 : zbr mX8_dayThen 13 16 112 (.if_icmp .ge) := ⟨99, by decide +kernel, rfl, rfl⟩
theorem iX8_dayThen_16 : zat mX8_dayThen 16 1 17 (.iconst 0) := ⟨by decide +kernel, rfl⟩
theorem iX8_dayThen_17 : zat mX8_dayThen 17 1 18 (.istore_n 3) := ⟨by decide +kernel, rfl⟩
theorem iX8_dayThen_18 : zat mX8_dayThen 18 1 19 (.iconst 0) := ⟨by decide +kernel, rfl⟩
theorem iX8_dayThen_19 : zat mX8_dayThen 19 2 21 (.istore 4) := ⟨by decide +kernel, rfl⟩
theorem iX8_dayThen_21 : zat mX8_dayThen 21 2 23 (.iload 4) := ⟨by decide +kernel, rfl⟩
theorem iX8_dayThen_23 : zat mX8_dayThen 23 1 24 (.aload_n 0) := ⟨by decide +kernel, rfl⟩
theorem iX8_dayThen_24 : zat mX8_dayThen 24 3 27 (.getfield 19) := ⟨by decide +kernel, rfl⟩
theorem iX8_dayThen_27 : zat mX8_dayThen 27 1 28 (.iload_n 2) := ⟨by decide +kernel, rfl⟩
theorem iX8_dayThen_28 : zat mX8_dayThen 28 1 29 (.iaload) := ⟨by decide +kernel, rfl⟩
theorem iX8_dayThen_29 : zbr mX8_dayThen 29 32 106 (.if_icmp .ge) := ⟨77, by decide +kernel, rfl, rfl⟩
theorem iX8_dayThen_32 : zat mX8_dayThen 32 1 33 (.aload_n 0) := ⟨by decide +kernel, rfl⟩
theorem iX8_dayThen_33 : zat mX8_dayThen 33 3 36 (.getfield 22) := ⟨by decide +kernel, rfl⟩
theorem iX8_dayThen_36 : zat mX8_dayThen 36 1 37 (.iconst 4) := ⟨by decide +kernel, rfl⟩
theorem iX8_dayThen_37 : zat mX8_dayThen 37 1 38 (.iload_n 2) := ⟨by decide +kernel, rfl⟩
theorem iX8_dayThen_38 : zat mX8_dayThen 38 1 39 (.imul) := ⟨by decide +kernel, rfl⟩
theorem iX8_dayThen_39 : zat mX8_dayThen 39 2 41 (.iload 4) := ⟨by decide +kernel, rfl⟩
theorem iX8_dayThen_41 : zat mX8_dayThen 41 1 42 (.iadd) := ⟨by decide +kernel, rfl⟩
theorem iX8_dayThen_42 : zat mX8_dayThen 42 1 43 (.iaload) := ⟨by decide +kernel, rfl⟩
theorem iX8_dayThen_43 : zat mX8_dayThen 43 2 45 (.istore 5) := ⟨by decide +kernel, rfl⟩
theorem iX8_dayThen_45 : zat mX8_dayThen 45 1 46 (.iload_n 3) := ⟨by decide +kernel, rfl⟩
theorem iX8_dayThen_46 : zbr mX8_dayThen 46 49 71 (.ifCond .ne) := ⟨25, by decide +kernel, rfl, rfl⟩
theorem iX8_dayThen_49 : zat mX8_dayThen 49 1 50 (.aload_n 0) := ⟨by decide +kernel, rfl⟩
theorem iX8_dayThen_50 : zat mX8_dayThen 50 3 53 (.getfield 34) := ⟨by decide +kernel, rfl⟩
theorem iX8_dayThen_53 : zat mX8_dayThen 53 2 55 (.iload 5) := ⟨by decide +kernel, rfl⟩
theorem iX8_dayThen_55 : zat mX8_dayThen 55 1 56 (.iaload) := ⟨by decide +kernel, rfl⟩
theorem iX8_dayThen_56 : zbr mX8_dayThen 56 59 75 (.ifCond .le) := ⟨19, by decide +kernel, rfl, rfl⟩
theorem iX8_dayThen_59 : zat mX8_dayThen 59 1 60 (.aload_n 0) := ⟨by decide +kernel, rfl⟩
theorem iX8_dayThen_60 : zat mX8_dayThen 60 3 63 (.getfield 40) := ⟨by decide +kernel, rfl⟩
theorem iX8_dayThen_63 : zat mX8_dayThen 63 2 65 (.iload 5) := ⟨by decide +kernel, rfl⟩
theorem iX8_dayThen_65 : zat mX8_dayThen 65 1 66 (.iaload) := ⟨by decide +kernel, rfl⟩
theorem iX8_dayThen_66 : zat mX8_dayThen 66 2 68 (.bipush 30) := ⟨by decide +kernel, rfl⟩
theorem iX8_dayThen_68 : zbr mX8_dayThen 68 71 75 (.if_icmp .lt) := ⟨7, by decide +kernel, rfl, rfl⟩
theorem iX8_dayThen_71 : zat mX8_dayThen 71 1 72 (.iconst 1) := ⟨by decide +kernel, rfl⟩
theorem iX8_dayThen_72 : zbr mX8_dayThen 72 75 76 (.goto) := ⟨4, by decide +kernel, rfl, rfl⟩
theorem iX8_dayThen_75 : zat mX8_dayThen 75 1 76 (.iconst 0) := ⟨by decide +kernel, rfl⟩
theorem iX8_dayThen_76 : zat mX8_dayThen 76 1 77 (.istore_n 3) := ⟨by decide +kernel, rfl⟩
theorem iX8_dayThen_77 : zat mX8_dayThen 77 1 78 (.iload_n 3) := ⟨by decide +kernel, rfl⟩
theorem iX8_dayThen_78 : zbr mX8_dayThen 78 81 100 (.ifCond .eq) := ⟨22, by decide +kernel, rfl, rfl⟩
theorem iX8_dayThen_81 : zat mX8_dayThen 81 1 82 (.aload_n 0) := ⟨by decide +kernel, rfl⟩
theorem iX8_dayThen_82 : zat mX8_dayThen 82 3 85 (.getfield 34) := ⟨by decide +kernel, rfl⟩
theorem iX8_dayThen_85 : zat mX8_dayThen 85 2 87 (.iload 5) := ⟨by decide +kernel, rfl⟩
theorem iX8_dayThen_87 : zat mX8_dayThen 87 1 88 (.iaload) := ⟨by decide +kernel, rfl⟩
theorem iX8_dayThen_88 : zbr mX8_dayThen 88 91 100 (.ifCond .le) := ⟨12, by decide +kernel, rfl, rfl⟩
theorem iX8_dayThen_91 : zat mX8_dayThen 91 1 92 (.aload_n 0) := ⟨by decide +kernel, rfl⟩
theorem iX8_dayThen_92 : zat mX8_dayThen 92 2 94 (.iload 5) := ⟨by decide +kernel, rfl⟩
theorem iX8_dayThen_94 : zat mX8_dayThen 94 3 97 (.invokevirtual 142) := ⟨by decide +kernel, rfl⟩
theorem iX8_dayThen_97 : zat mX8_dayThen 97 3 100 (.iinc 1 1) := ⟨by decide +kernel, rfl⟩
theorem iX8_dayThen_100 : zat mX8_dayThen 100 3 103 (.iinc 4 1) := ⟨by decide +kernel, rfl⟩
theorem iX8_dayThen_103 : zbr mX8_dayThen 103 106 21 (.goto) := ⟨-82, by decide +kernel, rfl, rfl⟩
theorem iX8_dayThen_106 : zat mX8_dayThen 106 3 109 (.iinc 2 1) := ⟨by decide +kernel, rfl⟩
theorem iX8_dayThen_109 : zbr mX8_dayThen 109 112 8 (.goto) := ⟨-101, by decide +kernel, rfl, rfl⟩
theorem iX8_dayThen_112 : zat mX8_dayThen 112 1 113 (.aload_n 0) := ⟨by decide +kernel, rfl⟩
theorem iX8_dayThen_113 : zat mX8_dayThen 113 3 116 (.invokevirtual 162) := ⟨by decide +kernel, rfl⟩
theorem iX8_dayThen_116 : zat mX8_dayThen 116 1 117 (.iload_n 1) := ⟨by decide +kernel, rfl⟩
theorem iX8_dayThen_117 : zat mX8_dayThen 117 1 118 (.ireturn) := ⟨by decide +kernel, rfl⟩
theorem iX8_hasLight_0 : zat mX8_hasLight 0 1 1 (.aload_n 0) := ⟨by decide +kernel, rfl⟩
theorem iX8_hasLight_1 : zat mX8_hasLight 1 1 2 (.iload_n 1) := ⟨by decide +kernel, rfl⟩
theorem iX8_hasLight_2 : zat mX8_hasLight 2 3 5 (.invokevirtual 135) := ⟨by decide +kernel, rfl⟩
theorem iX8_hasLight_5 : zat mX8_hasLight 5 1 6 (.iconst (-1)) := ⟨by decide +kernel, rfl⟩
theorem iX8_hasLight_6 : zbr mX8_hasLight 6 9 13 (.if_icmp .eq) := ⟨7, by decide +kernel, rfl, rfl⟩
theorem iX8_hasLight_9 : zat mX8_hasLight 9 1 10 (.iconst 1) := ⟨by decide +kernel, rfl⟩
theorem iX8_hasLight_10 : zbr mX8_hasLight 10 13 14 (.goto) := ⟨4, by decide +kernel, rfl, rfl⟩
theorem iX8_hasLight_13 : zat mX8_hasLight 13 1 14 (.iconst 0) := ⟨by decide +kernel, rfl⟩
theorem iX8_hasLight_14 : zat mX8_hasLight 14 1 15 (.ireturn) := ⟨by decide +kernel, rfl⟩
theorem iX8_lightAll_0 : zat mX8_lightAll 0 1 1 (.iconst 0) := ⟨by decide +kernel, rfl⟩
theorem iX8_lightAll_1 : zat mX8_lightAll 1 1 2 (.istore_n 1) := ⟨by decide +kernel, rfl⟩
theorem iX8_lightAll_2 : zat mX8_lightAll 2 1 3 (.iconst 0) := ⟨by decide +kernel, rfl⟩
theorem iX8_lightAll_3 : zat mX8_lightAll 3 1 4 (.istore_n 2) := ⟨by decide +kernel, rfl⟩
theorem iX8_lightAll_4 : zat mX8_lightAll 4 1 5 (.iload_n 2) := ⟨by decide +kernel, rfl⟩
theorem iX8_lightAll_5 : zat mX8_lightAll 5 1 6 (.aload_n 0) := ⟨by decide +kernel, rfl⟩
theorem iX8_lightAll_6 : zat mX8_lightAll 6 3 9 (.getfield 113) := ⟨by decide +kernel, rfl⟩
theorem iX8_lightAll_9 : zbr mX8_lightAll 9 12 27 (.if_icmp .ge) := ⟨18, by decide +kernel, rfl, rfl⟩
theorem iX8_lightAll_12 : zat mX8_lightAll 12 1 13 (.iload_n 1) := ⟨by decide +kernel, rfl⟩
theorem iX8_lightAll_13 : zat mX8_lightAll 13 1 14 (.aload_n 0) := ⟨by decide +kernel, rfl⟩
theorem iX8_lightAll_14 : zat mX8_lightAll 14 3 17 (.getfield 34) := ⟨by decide +kernel, rfl⟩
theorem iX8_lightAll_17 : zat mX8_lightAll 17 1 18 (.iload_n 2) := ⟨by decide +kernel, rfl⟩
theorem iX8_lightAll_18 : zat mX8_lightAll 18 1 19 (.iaload) := ⟨by decide +kernel, rfl⟩
theorem iX8_lightAll_19 : zat mX8_lightAll 19 1 20 (.iadd) := ⟨by decide +kernel, rfl⟩
theorem iX8_lightAll_20 : zat mX8_lightAll 20 1 21 (.istore_n 1) := ⟨by decide +kernel, rfl⟩
theorem iX8_lightAll_21 : zat mX8_lightAll 21 3 24 (.iinc 2 1) := ⟨by decide +kernel, rfl⟩
theorem iX8_lightAll_24 : zbr mX8_lightAll 24 27 4 (.goto) := ⟨-20, by decide +kernel, rfl, rfl⟩
theorem iX8_lightAll_27 : zat mX8_lightAll 27 1 28 (.iload_n 1) := ⟨by decide +kernel, rfl⟩
theorem iX8_lightAll_28 : zat mX8_lightAll 28 1 29 (.ireturn) := ⟨by decide +kernel, rfl⟩
theorem iX8_tellCart_0 : zat mX8_tellCart 0 1 1 (.aload_n 0) := ⟨by decide +kernel, rfl⟩
theorem iX8_tellCart_1 : zat mX8_tellCart 1 3 4 (.invokevirtual 165) := ⟨by decide +kernel, rfl⟩
theorem iX8_tellCart_4 : zat mX8_tellCart 4 1 5 (.aload_n 0) := ⟨by decide +kernel, rfl⟩
theorem iX8_tellCart_5 : zat mX8_tellCart 5 3 8 (.getfield 25) := ⟨by decide +kernel, rfl⟩
theorem iX8_tellCart_8 : zat mX8_tellCart 8 1 9 (.iload_n 1) := ⟨by decide +kernel, rfl⟩
theorem iX8_tellCart_9 : zat mX8_tellCart 9 1 10 (.iaload) := ⟨by decide +kernel, rfl⟩
theorem iX8_tellCart_10 : zbr mX8_tellCart 10 13 17 (.ifCond .ne) := ⟨7, by decide +kernel, rfl, rfl⟩
theorem iX8_tellCart_13 : zat mX8_tellCart 13 1 14 (.iconst 1) := ⟨by decide +kernel, rfl⟩
theorem iX8_tellCart_14 : zbr mX8_tellCart 14 17 18 (.goto) := ⟨4, by decide +kernel, rfl, rfl⟩
theorem iX8_tellCart_17 : zat mX8_tellCart 17 1 18 (.iconst 0) := ⟨by decide +kernel, rfl⟩
theorem iX8_tellCart_18 : zat mX8_tellCart 18 1 19 (.istore_n 3) := ⟨by decide +kernel, rfl⟩
theorem iX8_tellCart_19 : zat mX8_tellCart 19 1 20 (.iload_n 2) := ⟨by decide +kernel, rfl⟩
theorem iX8_tellCart_20 : zat mX8_tellCart 20 1 21 (.i2l) := ⟨by decide +kernel, rfl⟩
theorem iX8_tellCart_21 : zat mX8_tellCart 21 3 24 (.ldc2_w 168) := ⟨by decide +kernel, rfl⟩
theorem iX8_tellCart_24 : zat mX8_tellCart 24 3 27 (.ldc2_w 170) := ⟨by decide +kernel, rfl⟩
theorem iX8_tellCart_27 : zat mX8_tellCart 27 3 30 (.invokestatic 79) := ⟨by decide +kernel, rfl⟩
theorem iX8_tellCart_30 : zbr mX8_tellCart 30 33 79 (.ifCond .eq) := ⟨49, by decide +kernel, rfl, rfl⟩
theorem iX8_tellCart_33 : zat mX8_tellCart 33 1 34 (.iload_n 2) := ⟨by decide +kernel, rfl⟩
theorem iX8_tellCart_34 : zat mX8_tellCart 34 2 36 (.bipush 9) := ⟨by decide +kernel, rfl⟩
theorem iX8_tellCart_36 : zat mX8_tellCart 36 1 37 (.isub) := ⟨by decide +kernel, rfl⟩
theorem iX8_tellCart_37 : zat mX8_tellCart 37 2 39 (.istore 4) := ⟨by decide +kernel, rfl⟩
theorem iX8_tellCart_39 : zat mX8_tellCart 39 1 40 (.iload_n 3) := ⟨by decide +kernel, rfl⟩
theorem iX8_tellCart_40 : zbr mX8_tellCart 40 43 47 (.ifCond .eq) := ⟨7, by decide +kernel, rfl, rfl⟩
theorem iX8_tellCart_43 : zat mX8_tellCart 43 1 44 (.iconst (-1)) := ⟨by decide +kernel, rfl⟩
theorem iX8_tellCart_44 : zbr mX8_tellCart 44 47 78 (.goto) := ⟨34, by decide +kernel, rfl, rfl⟩
theorem iX8_tellCart_47 : zat mX8_tellCart 47 1 48 (.aload_n 0) := ⟨by decide +kernel, rfl⟩
theorem iX8_tellCart_48 : zat mX8_tellCart 48 3 51 (.getfield 13) := ⟨by decide +kernel, rfl⟩
theorem iX8_tellCart_51 : zat mX8_tellCart 51 1 52 (.iload_n 1) := ⟨by decide +kernel, rfl⟩
theorem iX8_tellCart_52 : zat mX8_tellCart 52 1 53 (.iaload) := ⟨by decide +kernel, rfl⟩
theorem iX8_tellCart_53 : zat mX8_tellCart 53 2 55 (.iload 4) := ⟨by decide +kernel, rfl⟩
theorem iX8_tellCart_55 : zat mX8_tellCart 55 1 56 (.aload_n 0) := ⟨by decide +kernel, rfl⟩
theorem iX8_tellCart_56 : zat mX8_tellCart 56 3 59 (.getfield 25) := ⟨by decide +kernel, rfl⟩
theorem iX8_tellCart_59 : zat mX8_tellCart 59 1 60 (.iload_n 1) := ⟨by decide +kernel, rfl⟩
theorem iX8_tellCart_60 : zat mX8_tellCart 60 1 61 (.iaload) := ⟨by decide +kernel, rfl⟩
theorem iX8_tellCart_61 : zbr mX8_tellCart 61 64 69 (.if_icmp .ge) := ⟨8, by decide +kernel, rfl, rfl⟩
theorem iX8_tellCart_64 : zat mX8_tellCart 64 2 66 (.iload 4) := ⟨by decide +kernel, rfl⟩
theorem iX8_tellCart_66 : zbr mX8_tellCart 66 69 75 (.goto) := ⟨9, by decide +kernel, rfl, rfl⟩
theorem iX8_tellCart_69 : zat mX8_tellCart 69 1 70 (.aload_n 0) := ⟨by decide +kernel, rfl⟩
theorem iX8_tellCart_70 : zat mX8_tellCart 70 3 73 (.getfield 25) := ⟨by decide +kernel, rfl⟩
theorem iX8_tellCart_73 : zat mX8_tellCart 73 1 74 (.iload_n 1) := ⟨by decide +kernel, rfl⟩
theorem iX8_tellCart_74 : zat mX8_tellCart 74 1 75 (.iaload) := ⟨by decide +kernel, rfl⟩
theorem iX8_tellCart_75 : zat mX8_tellCart 75 3 78 (.invokestatic 145) := ⟨by decide +kernel, rfl⟩
theorem iX8_tellCart_78 : zat mX8_tellCart 78 1 79 (.ireturn) := ⟨by decide +kernel, rfl⟩
theorem iX8_tellCart_79 : zat mX8_tellCart 79 1 80 (.iload_n 2) := ⟨by decide +kernel, rfl⟩
theorem iX8_tellCart_80 : zat mX8_tellCart 80 52 132 (.tableswitch 136 0 8 #[52, 59, 66, 73, 80, 87, 102, 108, 122]) := ⟨by decide +kernel, rfl⟩
theorem iX8_tellCart_132 : zat mX8_tellCart 132 1 133 (.aload_n 0) := ⟨by decide +kernel, rfl⟩
theorem iX8_tellCart_133 : zat mX8_tellCart 133 3 136 (.getfield 13) := ⟨by decide +kernel, rfl⟩
theorem iX8_tellCart_136 : zat mX8_tellCart 136 1 137 (.iload_n 1) := ⟨by decide +kernel, rfl⟩
theorem iX8_tellCart_137 : zat mX8_tellCart 137 1 138 (.iaload) := ⟨by decide +kernel, rfl⟩
theorem iX8_tellCart_138 : zat mX8_tellCart 138 1 139 (.ireturn) := ⟨by decide +kernel, rfl⟩
theorem iX8_tellCart_139 : zat mX8_tellCart 139 1 140 (.aload_n 0) := ⟨by decide +kernel, rfl⟩
theorem iX8_tellCart_140 : zat mX8_tellCart 140 3 143 (.getfield 25) := ⟨by decide +kernel, rfl⟩
theorem iX8_tellCart_143 : zat mX8_tellCart 143 1 144 (.iload_n 1) := ⟨by decide +kernel, rfl⟩
theorem iX8_tellCart_144 : zat mX8_tellCart 144 1 145 (.iaload) := ⟨by decide +kernel, rfl⟩
theorem iX8_tellCart_145 : zat mX8_tellCart 145 1 146 (.ireturn) := ⟨by decide +kernel, rfl⟩
theorem iX8_tellCart_146 : zat mX8_tellCart 146 1 147 (.aload_n 0) := ⟨by decide +kernel, rfl⟩
theorem iX8_tellCart_147 : zat mX8_tellCart 147 3 150 (.getfield 28) := ⟨by decide +kernel, rfl⟩
theorem iX8_tellCart_150 : zat mX8_tellCart 150 1 151 (.iload_n 1) := ⟨by decide +kernel, rfl⟩
theorem iX8_tellCart_151 : zat mX8_tellCart 151 1 152 (.iaload) := ⟨by decide +kernel, rfl⟩
theorem iX8_tellCart_152 : zat mX8_tellCart 152 1 153 (.ireturn) := ⟨by decide +kernel, rfl⟩
theorem iX8_tellCart_153 : zat mX8_tellCart 153 1 154 (.aload_n 0) := ⟨by decide +kernel, rfl⟩
theorem iX8_tellCart_154 : zat mX8_tellCart 154 3 157 (.getfield 31) := ⟨by decide +kernel, rfl⟩
theorem iX8_tellCart_157 : zat mX8_tellCart 157 1 158 (.iload_n 1) := ⟨by decide +kernel, rfl⟩
theorem iX8_tellCart_158 : zat mX8_tellCart 158 1 159 (.iaload) := ⟨by decide +kernel, rfl⟩
theorem iX8_tellCart_159 : zat mX8_tellCart 159 1 160 (.ireturn) := ⟨by decide +kernel, rfl⟩
theorem iX8_tellCart_160 : zat mX8_tellCart 160 1 161 (.aload_n 0) := ⟨by decide +kernel, rfl⟩
theorem iX8_tellCart_161 : zat mX8_tellCart 161 3 164 (.getfield 16) := ⟨by decide +kernel, rfl⟩
theorem iX8_tellCart_164 : zat mX8_tellCart 164 1 165 (.iload_n 1) := ⟨by decide +kernel, rfl⟩
theorem iX8_tellCart_165 : zat mX8_tellCart 165 1 166 (.iaload) := ⟨by decide +kernel, rfl⟩
theorem iX8_tellCart_166 : zat mX8_tellCart 166 1 167 (.ireturn) := ⟨by decide +kernel, rfl⟩
theorem iX8_tellCart_167 : zat mX8_tellCart 167 1 168 (.iload_n 3) := ⟨by decide +kernel, rfl⟩
theorem iX8_tellCart_168 : zbr mX8_tellCart 168 171 175 (.ifCond .eq) := ⟨7, by decide +kernel, rfl, rfl⟩
theorem iX8_tellCart_171 : zat mX8_tellCart 171 1 172 (.iconst (-1)) := ⟨by decide +kernel, rfl⟩
theorem iX8_tellCart_172 : zbr mX8_tellCart 172 175 181 (.goto) := ⟨9, by decide +kernel, rfl, rfl⟩
theorem iX8_tellCart_175 : zat mX8_tellCart 175 1 176 (.aload_n 0) := ⟨by decide +kernel, rfl⟩
theorem iX8_tellCart_176 : zat mX8_tellCart 176 1 177 (.iload_n 1) := ⟨by decide +kernel, rfl⟩
theorem iX8_tellCart_177 : zat mX8_tellCart 177 1 178 (.iconst 0) := ⟨by decide +kernel, rfl⟩
theorem iX8_tellCart_178 : zat mX8_tellCart 178 3 181 (.invokevirtual 152) := ⟨by decide +kernel, rfl⟩
theorem iX8_tellCart_181 : zat mX8_tellCart 181 1 182 (.ireturn) := ⟨by decide +kernel, rfl⟩
theorem iX8_tellCart_182 : zat mX8_tellCart 182 1 183 (.aload_n 0) := ⟨by decide +kernel, rfl⟩
theorem iX8_tellCart_183 : zat mX8_tellCart 183 1 184 (.iload_n 1) := ⟨by decide +kernel, rfl⟩
theorem iX8_tellCart_184 : zat mX8_tellCart 184 3 187 (.invokevirtual 156) := ⟨by decide +kernel, rfl⟩
theorem iX8_tellCart_187 : zat mX8_tellCart 187 1 188 (.ireturn) := ⟨by decide +kernel, rfl⟩
theorem iX8_tellCart_188 : zat mX8_tellCart 188 1 189 (.iload_n 3) := ⟨by decide +kernel, rfl⟩
theorem iX8_tellCart_189 : zbr mX8_tellCart 189 192 196 (.ifCond .eq) := ⟨7, by decide +kernel, rfl, rfl⟩
theorem iX8_tellCart_192 : zat mX8_tellCart 192 1 193 (.iconst (-1)) := ⟨by decide +kernel, rfl⟩
theorem iX8_tellCart_193 : zbr mX8_tellCart 193 196 201 (.goto) := ⟨8, by decide +kernel, rfl, rfl⟩
theorem iX8_tellCart_196 : zat mX8_tellCart 196 1 197 (.aload_n 0) := ⟨by decide +kernel, rfl⟩
theorem iX8_tellCart_197 : zat mX8_tellCart 197 1 198 (.iload_n 1) := ⟨by decide +kernel, rfl⟩
theorem iX8_tellCart_198 : zat mX8_tellCart 198 3 201 (.invokevirtual 172) := ⟨by decide +kernel, rfl⟩
theorem iX8_tellCart_201 : zat mX8_tellCart 201 1 202 (.ireturn) := ⟨by decide +kernel, rfl⟩
theorem iX8_tellCart_202 : zat mX8_tellCart 202 1 203 (.iload_n 3) := ⟨by decide +kernel, rfl⟩
theorem iX8_tellCart_203 : zbr mX8_tellCart 203 206 210 (.ifCond .eq) := ⟨7, by decide +kernel, rfl, rfl⟩
theorem iX8_tellCart_206 : zat mX8_tellCart 206 1 207 (.iconst (-1)) := ⟨by decide +kernel, rfl⟩
theorem iX8_tellCart_207 : zbr mX8_tellCart 207 210 215 (.goto) := ⟨8, by decide +kernel, rfl, rfl⟩
theorem iX8_tellCart_210 : zat mX8_tellCart 210 1 211 (.aload_n 0) := ⟨by decide +kernel, rfl⟩
theorem iX8_tellCart_211 : zat mX8_tellCart 211 1 212 (.iload_n 1) := ⟨by decide +kernel, rfl⟩
theorem iX8_tellCart_212 : zat mX8_tellCart 212 3 215 (.invokevirtual 175) := ⟨by decide +kernel, rfl⟩
theorem iX8_tellCart_215 : zat mX8_tellCart 215 1 216 (.ireturn) := ⟨by decide +kernel, rfl⟩
theorem iX8_tellCart_216 : zat mX8_tellCart 216 2 218 (.bipush (-102)) := ⟨by decide +kernel, rfl⟩
theorem iX8_tellCart_218 : zat mX8_tellCart 218 1 219 (.ireturn) := ⟨by decide +kernel, rfl⟩
theorem iX8_cart_0 : zat mX8_cart 0 1 1 (.aload_n 0) := ⟨by decide +kernel, rfl⟩
theorem iX8_cart_1 : zat mX8_cart 1 1 2 (.iload_n 1) := ⟨by decide +kernel, rfl⟩
theorem iX8_cart_2 : zat mX8_cart 2 3 5 (.invokevirtual 178) := ⟨by decide +kernel, rfl⟩
theorem iX8_cart_5 : zbr mX8_cart 5 8 17 (.ifCond .eq) := ⟨12, by decide +kernel, rfl, rfl⟩
theorem iX8_cart_8 : zat mX8_cart 8 1 9 (.aload_n 0) := ⟨by decide +kernel, rfl⟩
theorem iX8_cart_9 : zat mX8_cart 9 1 10 (.iload_n 1) := ⟨by decide +kernel, rfl⟩
theorem iX8_cart_10 : zat mX8_cart 10 1 11 (.iload_n 2) := ⟨by decide +kernel, rfl⟩
theorem iX8_cart_11 : zat mX8_cart 11 3 14 (.invokevirtual 182) := ⟨by decide +kernel, rfl⟩
theorem iX8_cart_14 : zbr mX8_cart 14 17 19 (.goto) := ⟨5, by decide +kernel, rfl, rfl⟩
theorem iX8_cart_17 : zat mX8_cart 17 2 19 (.bipush (-101)) := ⟨by decide +kernel, rfl⟩
theorem iX8_cart_19 : zat mX8_cart 19 1 20 (.ireturn) := ⟨by decide +kernel, rfl⟩
theorem iX8_as_0 : zat mX8_as 0 1 1 (.aload_n 0) := ⟨by decide +kernel, rfl⟩
theorem iX8_as_1 : zat mX8_as 1 1 2 (.iload_n 1) := ⟨by decide +kernel, rfl⟩
theorem iX8_as_2 : zat mX8_as 2 3 5 (.invokevirtual 178) := ⟨by decide +kernel, rfl⟩
theorem iX8_as_5 : zbr mX8_as 5 8 11 (.ifCond .ne) := ⟨6, by decide +kernel, rfl, rfl⟩
theorem iX8_as_8 : zat mX8_as 8 2 10 (.bipush (-101)) := ⟨by decide +kernel, rfl⟩
theorem iX8_as_10 : zat mX8_as 10 1 11 (.ireturn) := ⟨by decide +kernel, rfl⟩
theorem iX8_as_11 : zat mX8_as 11 1 12 (.iload_n 2) := ⟨by decide +kernel, rfl⟩
theorem iX8_as_12 : zat mX8_as 12 1 13 (.i2l) := ⟨by decide +kernel, rfl⟩
theorem iX8_as_13 : zat mX8_as 13 1 14 (.lconst 0) := ⟨by decide +kernel, rfl⟩
theorem iX8_as_14 : zat mX8_as 14 3 17 (.ldc2_w 185) := ⟨by decide +kernel, rfl⟩
theorem iX8_as_17 : zat mX8_as 17 3 20 (.invokestatic 79) := ⟨by decide +kernel, rfl⟩
theorem iX8_as_20 : zbr mX8_as 20 23 26 (.ifCond .ne) := ⟨6, by decide +kernel, rfl, rfl⟩
theorem iX8_as_23 : zat mX8_as 23 2 25 (.bipush (-102)) := ⟨by decide +kernel, rfl⟩
theorem iX8_as_25 : zat mX8_as 25 1 26 (.ireturn) := ⟨by decide +kernel, rfl⟩
theorem iX8_as_26 : zat mX8_as 26 1 27 (.iload_n 2) := ⟨by decide +kernel, rfl⟩
theorem iX8_as_27 : zbr mX8_as 27 30 55 (.ifCond .eq) := ⟨28, by decide +kernel, rfl, rfl⟩
theorem iX8_as_30 : zat mX8_as 30 1 31 (.iload_n 2) := ⟨by decide +kernel, rfl⟩
theorem iX8_as_31 : zat mX8_as 31 1 32 (.aload_n 0) := ⟨by decide +kernel, rfl⟩
theorem iX8_as_32 : zat mX8_as 32 3 35 (.getfield 13) := ⟨by decide +kernel, rfl⟩
theorem iX8_as_35 : zat mX8_as 35 1 36 (.iload_n 1) := ⟨by decide +kernel, rfl⟩
theorem iX8_as_36 : zat mX8_as 36 1 37 (.iaload) := ⟨by decide +kernel, rfl⟩
theorem iX8_as_37 : zbr mX8_as 37 40 55 (.if_icmp .eq) := ⟨18, by decide +kernel, rfl, rfl⟩
theorem iX8_as_40 : zat mX8_as 40 1 41 (.iload_n 2) := ⟨by decide +kernel, rfl⟩
theorem iX8_as_41 : zat mX8_as 41 1 42 (.iconst 1) := ⟨by decide +kernel, rfl⟩
theorem iX8_as_42 : zbr mX8_as 42 45 59 (.if_icmp .ne) := ⟨17, by decide +kernel, rfl, rfl⟩
theorem iX8_as_45 : zat mX8_as 45 1 46 (.aload_n 0) := ⟨by decide +kernel, rfl⟩
theorem iX8_as_46 : zat mX8_as 46 3 49 (.getfield 13) := ⟨by decide +kernel, rfl⟩
theorem iX8_as_49 : zat mX8_as 49 1 50 (.iload_n 1) := ⟨by decide +kernel, rfl⟩
theorem iX8_as_50 : zat mX8_as 50 1 51 (.iaload) := ⟨by decide +kernel, rfl⟩
theorem iX8_as_51 : zat mX8_as 51 1 52 (.iconst 4) := ⟨by decide +kernel, rfl⟩
theorem iX8_as_52 : zbr mX8_as 52 55 59 (.if_icmp .ne) := ⟨7, by decide +kernel, rfl, rfl⟩
theorem iX8_as_55 : zat mX8_as 55 1 56 (.iconst 1) := ⟨by decide +kernel, rfl⟩
theorem iX8_as_56 : zbr mX8_as 56 59 60 (.goto) := ⟨4, by decide +kernel, rfl, rfl⟩
theorem iX8_as_59 : zat mX8_as 59 1 60 (.iconst 0) := ⟨by decide +kernel, rfl⟩
theorem iX8_as_60 : zat mX8_as 60 1 61 (.istore_n 3) := ⟨by decide +kernel, rfl⟩
theorem iX8_as_61 : zat mX8_as 61 1 62 (.iload_n 3) := ⟨by decide +kernel, rfl⟩
theorem iX8_as_62 : zbr mX8_as 62 65 69 (.ifCond .eq) := ⟨7, by decide +kernel, rfl, rfl⟩
theorem iX8_as_65 : zat mX8_as 65 1 66 (.iload_n 1) := ⟨by decide +kernel, rfl⟩
theorem iX8_as_66 : zbr mX8_as 66 69 70 (.goto) := ⟨4, by decide +kernel, rfl, rfl⟩
theorem iX8_as_69 : zat mX8_as 69 1 70 (.iconst (-1)) := ⟨by decide +kernel, rfl⟩
theorem iX8_as_70 : zat mX8_as 70 1 71 (.ireturn) := ⟨by decide +kernel, rfl⟩
theorem iX8_thereAt_0 : zat mX8_thereAt 0 1 1 (.iload_n 2) := ⟨by decide +kernel, rfl⟩
theorem iX8_thereAt_1 : zat mX8_thereAt 1 1 2 (.istore_n 3) := ⟨by decide +kernel, rfl⟩
theorem iX8_thereAt_2 : zat mX8_thereAt 2 1 3 (.iconst 0) := ⟨by decide +kernel, rfl⟩
theorem iX8_thereAt_3 : zat mX8_thereAt 3 2 5 (.istore 4) := ⟨by decide +kernel, rfl⟩
theorem iX8_thereAt_5 : zat mX8_thereAt 5 2 7 (.iload 4) := ⟨by decide +kernel, rfl⟩
theorem iX8_thereAt_7 : zat mX8_thereAt 7 1 8 (.aload_n 0) := ⟨by decide +kernel, rfl⟩
theorem iX8_thereAt_8 : zat mX8_thereAt 8 3 11 (.getfield 19) := ⟨by decide +kernel, rfl⟩
theorem iX8_thereAt_11 : zat mX8_thereAt 11 1 12 (.iload_n 1) := ⟨by decide +kernel, rfl⟩
theorem iX8_thereAt_12 : zat mX8_thereAt 12 1 13 (.iaload) := ⟨by decide +kernel, rfl⟩
theorem iX8_thereAt_13 : zbr mX8_thereAt 13 16 55 (.if_icmp .ge) := ⟨42, by decide +kernel, rfl, rfl⟩
theorem iX8_thereAt_16 : zat mX8_thereAt 16 1 17 (.aload_n 0) := ⟨by decide +kernel, rfl⟩
theorem iX8_thereAt_17 : zat mX8_thereAt 17 3 20 (.getfield 22) := ⟨by decide +kernel, rfl⟩
theorem iX8_thereAt_20 : zat mX8_thereAt 20 1 21 (.iconst 4) := ⟨by decide +kernel, rfl⟩
theorem iX8_thereAt_21 : zat mX8_thereAt 21 1 22 (.iload_n 1) := ⟨by decide +kernel, rfl⟩
theorem iX8_thereAt_22 : zat mX8_thereAt 22 1 23 (.imul) := ⟨by decide +kernel, rfl⟩
theorem iX8_thereAt_23 : zat mX8_thereAt 23 2 25 (.iload 4) := ⟨by decide +kernel, rfl⟩
theorem iX8_thereAt_25 : zat mX8_thereAt 25 1 26 (.iadd) := ⟨by decide +kernel, rfl⟩
theorem iX8_thereAt_26 : zat mX8_thereAt 26 1 27 (.iaload) := ⟨by decide +kernel, rfl⟩
theorem iX8_thereAt_27 : zat mX8_thereAt 27 2 29 (.istore 5) := ⟨by decide +kernel, rfl⟩
theorem iX8_thereAt_29 : zat mX8_thereAt 29 1 30 (.aload_n 0) := ⟨by decide +kernel, rfl⟩
theorem iX8_thereAt_30 : zat mX8_thereAt 30 3 33 (.getfield 25) := ⟨by decide +kernel, rfl⟩
theorem iX8_thereAt_33 : zat mX8_thereAt 33 2 35 (.iload 5) := ⟨by decide +kernel, rfl⟩
theorem iX8_thereAt_35 : zat mX8_thereAt 35 1 36 (.iaload) := ⟨by decide +kernel, rfl⟩
theorem iX8_thereAt_36 : zbr mX8_thereAt 36 39 49 (.ifCond .le) := ⟨13, by decide +kernel, rfl, rfl⟩
theorem iX8_thereAt_39 : zat mX8_thereAt 39 1 40 (.iload_n 3) := ⟨by decide +kernel, rfl⟩
theorem iX8_thereAt_40 : zbr mX8_thereAt 40 43 46 (.ifCond .ne) := ⟨6, by decide +kernel, rfl, rfl⟩
theorem iX8_thereAt_43 : zat mX8_thereAt 43 2 45 (.iload 5) := ⟨by decide +kernel, rfl⟩
theorem iX8_thereAt_45 : zat mX8_thereAt 45 1 46 (.ireturn) := ⟨by decide +kernel, rfl⟩
theorem iX8_thereAt_46 : zat mX8_thereAt 46 3 49 (.iinc 3 (-1)) := ⟨by decide +kernel, rfl⟩
theorem iX8_thereAt_49 : zat mX8_thereAt 49 3 52 (.iinc 4 1) := ⟨by decide +kernel, rfl⟩
theorem iX8_thereAt_52 : zbr mX8_thereAt 52 55 5 (.goto) := ⟨-47, by decide +kernel, rfl, rfl⟩
theorem iX8_thereAt_55 : zat mX8_thereAt 55 1 56 (.iconst (-1)) := ⟨by decide +kernel, rfl⟩
theorem iX8_thereAt_56 : zat mX8_thereAt 56 1 57 (.ireturn) := ⟨by decide +kernel, rfl⟩
theorem iX8_thereMany_0 : zat mX8_thereMany 0 1 1 (.iconst 0) := ⟨by decide +kernel, rfl⟩
theorem iX8_thereMany_1 : zat mX8_thereMany 1 1 2 (.istore_n 2) := ⟨by decide +kernel, rfl⟩
theorem iX8_thereMany_2 : zat mX8_thereMany 2 1 3 (.iconst 0) := ⟨by decide +kernel, rfl⟩
theorem iX8_thereMany_3 : zat mX8_thereMany 3 1 4 (.istore_n 3) := ⟨by decide +kernel, rfl⟩
theorem iX8_thereMany_4 : zat mX8_thereMany 4 1 5 (.iload_n 3) := ⟨by decide +kernel, rfl⟩
theorem iX8_thereMany_5 : zat mX8_thereMany 5 1 6 (.aload_n 0) := ⟨by decide +kernel, rfl⟩
theorem iX8_thereMany_6 : zat mX8_thereMany 6 3 9 (.getfield 19) := ⟨by decide +kernel, rfl⟩
theorem iX8_thereMany_9 : zat mX8_thereMany 9 1 10 (.iload_n 1) := ⟨by decide +kernel, rfl⟩
theorem iX8_thereMany_10 : zat mX8_thereMany 10 1 11 (.iaload) := ⟨by decide +kernel, rfl⟩
theorem iX8_thereMany_11 : zbr mX8_thereMany 11 14 46 (.if_icmp .ge) := ⟨35, by decide +kernel, rfl, rfl⟩
theorem iX8_thereMany_14 : zat mX8_thereMany 14 1 15 (.iload_n 2) := ⟨by decide +kernel, rfl⟩
theorem iX8_thereMany_15 : zat mX8_thereMany 15 1 16 (.aload_n 0) := ⟨by decide +kernel, rfl⟩
theorem iX8_thereMany_16 : zat mX8_thereMany 16 3 19 (.getfield 25) := ⟨by decide +kernel, rfl⟩
theorem iX8_thereMany_19 : zat mX8_thereMany 19 1 20 (.aload_n 0) := ⟨by decide +kernel, rfl⟩
theorem iX8_thereMany_20 : zat mX8_thereMany 20 3 23 (.getfield 22) := ⟨by decide +kernel, rfl⟩
theorem iX8_thereMany_23 : zat mX8_thereMany 23 1 24 (.iconst 4) := ⟨by decide +kernel, rfl⟩
theorem iX8_thereMany_24 : zat mX8_thereMany 24 1 25 (.iload_n 1) := ⟨by decide +kernel, rfl⟩
theorem iX8_thereMany_25 : zat mX8_thereMany 25 1 26 (.imul) := ⟨by decide +kernel, rfl⟩
theorem iX8_thereMany_26 : zat mX8_thereMany 26 1 27 (.iload_n 3) := ⟨by decide +kernel, rfl⟩
theorem iX8_thereMany_27 : zat mX8_thereMany 27 1 28 (.iadd) := ⟨by decide +kernel, rfl⟩
theorem iX8_thereMany_28 : zat mX8_thereMany 28 1 29 (.iaload) := ⟨by decide +kernel, rfl⟩
theorem iX8_thereMany_29 : zat mX8_thereMany 29 1 30 (.iaload) := ⟨by decide +kernel, rfl⟩
theorem iX8_thereMany_30 : zbr mX8_thereMany 30 33 37 (.ifCond .le) := ⟨7, by decide +kernel, rfl, rfl⟩
theorem iX8_thereMany_33 : zat mX8_thereMany 33 1 34 (.iconst 1) := ⟨by decide +kernel, rfl⟩
theorem iX8_thereMany_34 : zbr mX8_thereMany 34 37 38 (.goto) := ⟨4, by decide +kernel, rfl, rfl⟩
theorem iX8_thereMany_37 : zat mX8_thereMany 37 1 38 (.iconst 0) := ⟨by decide +kernel, rfl⟩
theorem iX8_thereMany_38 : zat mX8_thereMany 38 1 39 (.iadd) := ⟨by decide +kernel, rfl⟩
theorem iX8_thereMany_39 : zat mX8_thereMany 39 1 40 (.istore_n 2) := ⟨by decide +kernel, rfl⟩
theorem iX8_thereMany_40 : zat mX8_thereMany 40 3 43 (.iinc 3 1) := ⟨by decide +kernel, rfl⟩
theorem iX8_thereMany_43 : zbr mX8_thereMany 43 46 4 (.goto) := ⟨-39, by decide +kernel, rfl, rfl⟩
theorem iX8_thereMany_46 : zat mX8_thereMany 46 1 47 (.iload_n 2) := ⟨by decide +kernel, rfl⟩
theorem iX8_thereMany_47 : zat mX8_thereMany 47 1 48 (.ireturn) := ⟨by decide +kernel, rfl⟩
theorem iX8_lightIn_0 : zat mX8_lightIn 0 1 1 (.iconst 0) := ⟨by decide +kernel, rfl⟩
theorem iX8_lightIn_1 : zat mX8_lightIn 1 1 2 (.istore_n 2) := ⟨by decide +kernel, rfl⟩
theorem iX8_lightIn_2 : zat mX8_lightIn 2 1 3 (.iconst 0) := ⟨by decide +kernel, rfl⟩
theorem iX8_lightIn_3 : zat mX8_lightIn 3 1 4 (.istore_n 3) := ⟨by decide +kernel, rfl⟩
theorem iX8_lightIn_4 : zat mX8_lightIn 4 1 5 (.iload_n 3) := ⟨by decide +kernel, rfl⟩
theorem iX8_lightIn_5 : zat mX8_lightIn 5 1 6 (.aload_n 0) := ⟨by decide +kernel, rfl⟩
theorem iX8_lightIn_6 : zat mX8_lightIn 6 3 9 (.getfield 19) := ⟨by decide +kernel, rfl⟩
theorem iX8_lightIn_9 : zat mX8_lightIn 9 1 10 (.iload_n 1) := ⟨by decide +kernel, rfl⟩
theorem iX8_lightIn_10 : zat mX8_lightIn 10 1 11 (.iaload) := ⟨by decide +kernel, rfl⟩
theorem iX8_lightIn_11 : zbr mX8_lightIn 11 14 38 (.if_icmp .ge) := ⟨27, by decide +kernel, rfl, rfl⟩
theorem iX8_lightIn_14 : zat mX8_lightIn 14 1 15 (.iload_n 2) := ⟨by decide +kernel, rfl⟩
theorem iX8_lightIn_15 : zat mX8_lightIn 15 1 16 (.aload_n 0) := ⟨by decide +kernel, rfl⟩
theorem iX8_lightIn_16 : zat mX8_lightIn 16 3 19 (.getfield 25) := ⟨by decide +kernel, rfl⟩
theorem iX8_lightIn_19 : zat mX8_lightIn 19 1 20 (.aload_n 0) := ⟨by decide +kernel, rfl⟩
theorem iX8_lightIn_20 : zat mX8_lightIn 20 3 23 (.getfield 22) := ⟨by decide +kernel, rfl⟩
theorem iX8_lightIn_23 : zat mX8_lightIn 23 1 24 (.iconst 4) := ⟨by decide +kernel, rfl⟩
theorem iX8_lightIn_24 : zat mX8_lightIn 24 1 25 (.iload_n 1) := ⟨by decide +kernel, rfl⟩
theorem iX8_lightIn_25 : zat mX8_lightIn 25 1 26 (.imul) := ⟨by decide +kernel, rfl⟩
theorem iX8_lightIn_26 : zat mX8_lightIn 26 1 27 (.iload_n 3) := ⟨by decide +kernel, rfl⟩
theorem iX8_lightIn_27 : zat mX8_lightIn 27 1 28 (.iadd) := ⟨by decide +kernel, rfl⟩
theorem iX8_lightIn_28 : zat mX8_lightIn 28 1 29 (.iaload) := ⟨by decide +kernel, rfl⟩
theorem iX8_lightIn_29 : zat mX8_lightIn 29 1 30 (.iaload) := ⟨by decide +kernel, rfl⟩
theorem iX8_lightIn_30 : zat mX8_lightIn 30 1 31 (.iadd) := ⟨by decide +kernel, rfl⟩
theorem iX8_lightIn_31 : zat mX8_lightIn 31 1 32 (.istore_n 2) := ⟨by decide +kernel, rfl⟩
theorem iX8_lightIn_32 : zat mX8_lightIn 32 3 35 (.iinc 3 1) := ⟨by decide +kernel, rfl⟩
theorem iX8_lightIn_35 : zbr mX8_lightIn 35 38 4 (.goto) := ⟨-31, by decide +kernel, rfl, rfl⟩
theorem iX8_lightIn_38 : zat mX8_lightIn 38 1 39 (.iload_n 2) := ⟨by decide +kernel, rfl⟩
theorem iX8_lightIn_39 : zat mX8_lightIn 39 1 40 (.ireturn) := ⟨by decide +kernel, rfl⟩
theorem iX8_lightOfSet_0 : zat mX8_lightOfSet 0 1 1 (.iconst 0) := ⟨by decide +kernel, rfl⟩
theorem iX8_lightOfSet_1 : zat mX8_lightOfSet 1 1 2 (.istore_n 3) := ⟨by decide +kernel, rfl⟩
theorem iX8_lightOfSet_2 : zat mX8_lightOfSet 2 1 3 (.iconst 0) := ⟨by decide +kernel, rfl⟩
theorem iX8_lightOfSet_3 : zat mX8_lightOfSet 3 2 5 (.istore 4) := ⟨by decide +kernel, rfl⟩
theorem iX8_lightOfSet_5 : zat mX8_lightOfSet 5 2 7 (.iload 4) := ⟨by decide +kernel, rfl⟩
theorem iX8_lightOfSet_7 : zat mX8_lightOfSet 7 1 8 (.iconst 3) := ⟨by decide +kernel, rfl⟩
theorem iX8_lightOfSet_8 : zbr mX8_lightOfSet 8 11 46 (.if_icmp .ge) := ⟨38, by decide +kernel, rfl, rfl⟩
theorem iX8_lightOfSet_11 : zat mX8_lightOfSet 11 1 12 (.iload_n 3) := ⟨by decide +kernel, rfl⟩
theorem iX8_lightOfSet_12 : zat mX8_lightOfSet 12 1 13 (.iload_n 2) := ⟨by decide +kernel, rfl⟩
theorem iX8_lightOfSet_13 : zat mX8_lightOfSet 13 2 15 (.iload 4) := ⟨by decide +kernel, rfl⟩
theorem iX8_lightOfSet_15 : zat mX8_lightOfSet 15 1 16 (.ishr) := ⟨by decide +kernel, rfl⟩
theorem iX8_lightOfSet_16 : zat mX8_lightOfSet 16 1 17 (.iconst 1) := ⟨by decide +kernel, rfl⟩
theorem iX8_lightOfSet_17 : zat mX8_lightOfSet 17 1 18 (.iand) := ⟨by decide +kernel, rfl⟩
theorem iX8_lightOfSet_18 : zat mX8_lightOfSet 18 1 19 (.iconst 1) := ⟨by decide +kernel, rfl⟩
theorem iX8_lightOfSet_19 : zbr mX8_lightOfSet 19 22 37 (.if_icmp .ne) := ⟨18, by decide +kernel, rfl, rfl⟩
theorem iX8_lightOfSet_22 : zat mX8_lightOfSet 22 1 23 (.aload_n 0) := ⟨by decide +kernel, rfl⟩
theorem iX8_lightOfSet_23 : zat mX8_lightOfSet 23 3 26 (.getfield 25) := ⟨by decide +kernel, rfl⟩
theorem iX8_lightOfSet_26 : zat mX8_lightOfSet 26 1 27 (.aload_n 0) := ⟨by decide +kernel, rfl⟩
theorem iX8_lightOfSet_27 : zat mX8_lightOfSet 27 1 28 (.iload_n 1) := ⟨by decide +kernel, rfl⟩
theorem iX8_lightOfSet_28 : zat mX8_lightOfSet 28 2 30 (.iload 4) := ⟨by decide +kernel, rfl⟩
theorem iX8_lightOfSet_30 : zat mX8_lightOfSet 30 3 33 (.invokevirtual 187) := ⟨by decide +kernel, rfl⟩
theorem iX8_lightOfSet_33 : zat mX8_lightOfSet 33 1 34 (.iaload) := ⟨by decide +kernel, rfl⟩
theorem iX8_lightOfSet_34 : zbr mX8_lightOfSet 34 37 38 (.goto) := ⟨4, by decide +kernel, rfl, rfl⟩
theorem iX8_lightOfSet_37 : zat mX8_lightOfSet 37 1 38 (.iconst 0) := ⟨by decide +kernel, rfl⟩
theorem iX8_lightOfSet_38 : zat mX8_lightOfSet 38 1 39 (.iadd) := ⟨by decide +kernel, rfl⟩
theorem iX8_lightOfSet_39 : zat mX8_lightOfSet 39 1 40 (.istore_n 3) := ⟨by decide +kernel, rfl⟩
theorem iX8_lightOfSet_40 : zat mX8_lightOfSet 40 3 43 (.iinc 4 1) := ⟨by decide +kernel, rfl⟩
theorem iX8_lightOfSet_43 : zbr mX8_lightOfSet 43 46 5 (.goto) := ⟨-38, by decide +kernel, rfl, rfl⟩
theorem iX8_lightOfSet_46 : zat mX8_lightOfSet 46 1 47 (.iload_n 3) := ⟨by decide +kernel, rfl⟩
theorem iX8_lightOfSet_47 : zat mX8_lightOfSet 47 1 48 (.ireturn) := ⟨by decide +kernel, rfl⟩
theorem iX8_isSafe_0 : zat mX8_isSafe 0 1 1 (.aload_n 0) := ⟨by decide +kernel, rfl⟩
theorem iX8_isSafe_1 : zat mX8_isSafe 1 3 4 (.invokevirtual 165) := ⟨by decide +kernel, rfl⟩
theorem iX8_isSafe_4 : zat mX8_isSafe 4 1 5 (.iconst 0) := ⟨by decide +kernel, rfl⟩
theorem iX8_isSafe_5 : zat mX8_isSafe 5 1 6 (.istore_n 3) := ⟨by decide +kernel, rfl⟩
theorem iX8_isSafe_6 : zat mX8_isSafe 6 1 7 (.iload_n 3) := ⟨by decide +kernel, rfl⟩
theorem iX8_isSafe_7 : zat mX8_isSafe 7 1 8 (.iconst 3) := ⟨by decide +kernel, rfl⟩
theorem iX8_isSafe_8 : zbr mX8_isSafe 8 11 36 (.if_icmp .ge) := ⟨28, by decide +kernel, rfl, rfl⟩
theorem iX8_isSafe_11 : zat mX8_isSafe 11 1 12 (.iload_n 2) := ⟨by decide +kernel, rfl⟩
theorem iX8_isSafe_12 : zat mX8_isSafe 12 1 13 (.iload_n 3) := ⟨by decide +kernel, rfl⟩
theorem iX8_isSafe_13 : zat mX8_isSafe 13 1 14 (.ishr) := ⟨by decide +kernel, rfl⟩
theorem iX8_isSafe_14 : zat mX8_isSafe 14 1 15 (.iconst 1) := ⟨by decide +kernel, rfl⟩
theorem iX8_isSafe_15 : zat mX8_isSafe 15 1 16 (.iand) := ⟨by decide +kernel, rfl⟩
theorem iX8_isSafe_16 : zat mX8_isSafe 16 1 17 (.iconst 1) := ⟨by decide +kernel, rfl⟩
theorem iX8_isSafe_17 : zbr mX8_isSafe 17 20 30 (.if_icmp .ne) := ⟨13, by decide +kernel, rfl, rfl⟩
theorem iX8_isSafe_20 : zat mX8_isSafe 20 1 21 (.aload_n 0) := ⟨by decide +kernel, rfl⟩
theorem iX8_isSafe_21 : zat mX8_isSafe 21 1 22 (.aload_n 0) := ⟨by decide +kernel, rfl⟩
theorem iX8_isSafe_22 : zat mX8_isSafe 22 1 23 (.iload_n 1) := ⟨by decide +kernel, rfl⟩
theorem iX8_isSafe_23 : zat mX8_isSafe 23 1 24 (.iload_n 3) := ⟨by decide +kernel, rfl⟩
theorem iX8_isSafe_24 : zat mX8_isSafe 24 3 27 (.invokevirtual 187) := ⟨by decide +kernel, rfl⟩
theorem iX8_isSafe_27 : zat mX8_isSafe 27 3 30 (.invokevirtual 142) := ⟨by decide +kernel, rfl⟩
theorem iX8_isSafe_30 : zat mX8_isSafe 30 3 33 (.iinc 3 1) := ⟨by decide +kernel, rfl⟩
theorem iX8_isSafe_33 : zbr mX8_isSafe 33 36 6 (.goto) := ⟨-27, by decide +kernel, rfl, rfl⟩
theorem iX8_isSafe_36 : zat mX8_isSafe 36 1 37 (.iconst 0) := ⟨by decide +kernel, rfl⟩
theorem iX8_isSafe_37 : zat mX8_isSafe 37 1 38 (.istore_n 3) := ⟨by decide +kernel, rfl⟩
theorem iX8_isSafe_38 : zat mX8_isSafe 38 1 39 (.iconst 0) := ⟨by decide +kernel, rfl⟩
theorem iX8_isSafe_39 : zat mX8_isSafe 39 2 41 (.istore 4) := ⟨by decide +kernel, rfl⟩
theorem iX8_isSafe_41 : zat mX8_isSafe 41 2 43 (.iload 4) := ⟨by decide +kernel, rfl⟩
theorem iX8_isSafe_43 : zat mX8_isSafe 43 1 44 (.aload_n 0) := ⟨by decide +kernel, rfl⟩
theorem iX8_isSafe_44 : zat mX8_isSafe 44 3 47 (.getfield 19) := ⟨by decide +kernel, rfl⟩
theorem iX8_isSafe_47 : zat mX8_isSafe 47 1 48 (.iload_n 1) := ⟨by decide +kernel, rfl⟩
theorem iX8_isSafe_48 : zat mX8_isSafe 48 1 49 (.iaload) := ⟨by decide +kernel, rfl⟩
theorem iX8_isSafe_49 : zbr mX8_isSafe 49 52 85 (.if_icmp .ge) := ⟨36, by decide +kernel, rfl, rfl⟩
theorem iX8_isSafe_52 : zat mX8_isSafe 52 1 53 (.iload_n 3) := ⟨by decide +kernel, rfl⟩
theorem iX8_isSafe_53 : zat mX8_isSafe 53 1 54 (.aload_n 0) := ⟨by decide +kernel, rfl⟩
theorem iX8_isSafe_54 : zat mX8_isSafe 54 3 57 (.getfield 34) := ⟨by decide +kernel, rfl⟩
theorem iX8_isSafe_57 : zat mX8_isSafe 57 1 58 (.aload_n 0) := ⟨by decide +kernel, rfl⟩
theorem iX8_isSafe_58 : zat mX8_isSafe 58 3 61 (.getfield 22) := ⟨by decide +kernel, rfl⟩
theorem iX8_isSafe_61 : zat mX8_isSafe 61 1 62 (.iconst 4) := ⟨by decide +kernel, rfl⟩
theorem iX8_isSafe_62 : zat mX8_isSafe 62 1 63 (.iload_n 1) := ⟨by decide +kernel, rfl⟩
theorem iX8_isSafe_63 : zat mX8_isSafe 63 1 64 (.imul) := ⟨by decide +kernel, rfl⟩
theorem iX8_isSafe_64 : zat mX8_isSafe 64 2 66 (.iload 4) := ⟨by decide +kernel, rfl⟩
theorem iX8_isSafe_66 : zat mX8_isSafe 66 1 67 (.iadd) := ⟨by decide +kernel, rfl⟩
theorem iX8_isSafe_67 : zat mX8_isSafe 67 1 68 (.iaload) := ⟨by decide +kernel, rfl⟩
theorem iX8_isSafe_68 : zat mX8_isSafe 68 1 69 (.iaload) := ⟨by decide +kernel, rfl⟩
theorem iX8_isSafe_69 : zbr mX8_isSafe 69 72 76 (.ifCond .le) := ⟨7, by decide +kernel, rfl, rfl⟩
theorem iX8_isSafe_72 : zat mX8_isSafe 72 1 73 (.iconst 1) := ⟨by decide +kernel, rfl⟩
theorem iX8_isSafe_73 : zbr mX8_isSafe 73 76 77 (.goto) := ⟨4, by decide +kernel, rfl, rfl⟩
theorem iX8_isSafe_76 : zat mX8_isSafe 76 1 77 (.iconst 0) := ⟨by decide +kernel, rfl⟩
theorem iX8_isSafe_77 : zat mX8_isSafe 77 1 78 (.iadd) := ⟨by decide +kernel, rfl⟩
theorem iX8_isSafe_78 : zat mX8_isSafe 78 1 79 (.istore_n 3) := ⟨by decide +kernel, rfl⟩
theorem iX8_isSafe_79 : zat mX8_isSafe 79 3 82 (.iinc 4 1) := ⟨by decide +kernel, rfl⟩
theorem iX8_isSafe_82 : zbr mX8_isSafe 82 85 41 (.goto) := ⟨-41, by decide +kernel, rfl, rfl⟩
theorem iX8_isSafe_85 : zat mX8_isSafe 85 1 86 (.iconst 0) := ⟨by decide +kernel, rfl⟩
theorem iX8_isSafe_86 : zat mX8_isSafe 86 2 88 (.istore 4) := ⟨by decide +kernel, rfl⟩
theorem iX8_isSafe_88 : zat mX8_isSafe 88 2 90 (.iload 4) := ⟨by decide +kernel, rfl⟩
theorem iX8_isSafe_90 : zat mX8_isSafe 90 2 92 (.bipush 10) := ⟨by decide +kernel, rfl⟩
theorem iX8_isSafe_92 : zbr mX8_isSafe 92 95 106 (.if_icmp .ge) := ⟨14, by decide +kernel, rfl, rfl⟩
theorem iX8_isSafe_95 : zat mX8_isSafe 95 1 96 (.aload_n 0) := ⟨by decide +kernel, rfl⟩
theorem iX8_isSafe_96 : zat mX8_isSafe 96 3 99 (.invokevirtual 190) := ⟨by decide +kernel, rfl⟩
theorem iX8_isSafe_99 : zat mX8_isSafe 99 1 100 (.pop) := ⟨by decide +kernel, rfl⟩
theorem iX8_isSafe_100 : zat mX8_isSafe 100 3 103 (.iinc 4 1) := ⟨by decide +kernel, rfl⟩
theorem iX8_isSafe_103 : zbr mX8_isSafe 103 106 88 (.goto) := ⟨-15, by decide +kernel, rfl, rfl⟩
theorem iX8_isSafe_106 : zat mX8_isSafe 106 1 107 (.iconst 0) := ⟨by decide +kernel, rfl⟩
theorem iX8_isSafe_107 : zat mX8_isSafe 107 2 109 (.istore 4) := ⟨by decide +kernel, rfl⟩
theorem iX8_isSafe_109 : zat mX8_isSafe 109 2 111 (.iload 4) := ⟨by decide +kernel, rfl⟩
theorem iX8_isSafe_111 : zat mX8_isSafe 111 1 112 (.aload_n 0) := ⟨by decide +kernel, rfl⟩
theorem iX8_isSafe_112 : zat mX8_isSafe 112 3 115 (.getfield 19) := ⟨by decide +kernel, rfl⟩
theorem iX8_isSafe_115 : zat mX8_isSafe 115 1 116 (.iload_n 1) := ⟨by decide +kernel, rfl⟩
theorem iX8_isSafe_116 : zat mX8_isSafe 116 1 117 (.iaload) := ⟨by decide +kernel, rfl⟩
theorem iX8_isSafe_117 : zbr mX8_isSafe 117 120 153 (.if_icmp .ge) := ⟨36, by decide +kernel, rfl, rfl⟩
theorem iX8_isSafe_120 : zat mX8_isSafe 120 1 121 (.iload_n 3) := ⟨by decide +kernel, rfl⟩
theorem iX8_isSafe_121 : zat mX8_isSafe 121 1 122 (.aload_n 0) := ⟨by decide +kernel, rfl⟩
theorem iX8_isSafe_122 : zat mX8_isSafe 122 3 125 (.getfield 34) := ⟨by decide +kernel, rfl⟩
theorem iX8_isSafe_125 : zat mX8_isSafe 125 1 126 (.aload_n 0) := ⟨by decide +kernel, rfl⟩
theorem iX8_isSafe_126 : zat mX8_isSafe 126 3 129 (.getfield 22) := ⟨by decide +kernel, rfl⟩
theorem iX8_isSafe_129 : zat mX8_isSafe 129 1 130 (.iconst 4) := ⟨by decide +kernel, rfl⟩
theorem iX8_isSafe_130 : zat mX8_isSafe 130 1 131 (.iload_n 1) := ⟨by decide +kernel, rfl⟩
theorem iX8_isSafe_131 : zat mX8_isSafe 131 1 132 (.imul) := ⟨by decide +kernel, rfl⟩
theorem iX8_isSafe_132 : zat mX8_isSafe 132 2 134 (.iload 4) := ⟨by decide +kernel, rfl⟩
theorem iX8_isSafe_134 : zat mX8_isSafe 134 1 135 (.iadd) := ⟨by decide +kernel, rfl⟩
theorem iX8_isSafe_135 : zat mX8_isSafe 135 1 136 (.iaload) := ⟨by decide +kernel, rfl⟩
theorem iX8_isSafe_136 : zat mX8_isSafe 136 1 137 (.iaload) := ⟨by decide +kernel, rfl⟩
theorem iX8_isSafe_137 : zbr mX8_isSafe 137 140 144 (.ifCond .le) := ⟨7, by decide +kernel, rfl, rfl⟩
theorem iX8_isSafe_140 : zat mX8_isSafe 140 1 141 (.iconst 1) := ⟨by decide +kernel, rfl⟩
theorem iX8_isSafe_141 : zbr mX8_isSafe 141 144 145 (.goto) := ⟨4, by decide +kernel, rfl, rfl⟩
theorem iX8_isSafe_144 : zat mX8_isSafe 144 1 145 (.iconst 0) := ⟨by decide +kernel, rfl⟩
theorem iX8_isSafe_145 : zat mX8_isSafe 145 1 146 (.isub) := ⟨by decide +kernel, rfl⟩
theorem iX8_isSafe_146 : zat mX8_isSafe 146 1 147 (.istore_n 3) := ⟨by decide +kernel, rfl⟩
theorem iX8_isSafe_147 : zat mX8_isSafe 147 3 150 (.iinc 4 1) := ⟨by decide +kernel, rfl⟩
theorem iX8_isSafe_150 : zbr mX8_isSafe 150 153 109 (.goto) := ⟨-41, by decide +kernel, rfl, rfl⟩
theorem iX8_isSafe_153 : zat mX8_isSafe 153 1 154 (.iload_n 3) := ⟨by decide +kernel, rfl⟩
theorem iX8_isSafe_154 : zbr mX8_isSafe 154 157 161 (.ifCond .ne) := ⟨7, by decide +kernel, rfl, rfl⟩
theorem iX8_isSafe_157 : zat mX8_isSafe 157 1 158 (.iconst 1) := ⟨by decide +kernel, rfl⟩
theorem iX8_isSafe_158 : zbr mX8_isSafe 158 161 162 (.goto) := ⟨4, by decide +kernel, rfl, rfl⟩
theorem iX8_isSafe_161 : zat mX8_isSafe 161 1 162 (.iconst 0) := ⟨by decide +kernel, rfl⟩
theorem iX8_isSafe_162 : zat mX8_isSafe 162 1 163 (.ireturn) := ⟨by decide +kernel, rfl⟩
theorem iX8_safeOf_0 : zat mX8_safeOf 0 1 1 (.iconst (-1)) := ⟨by decide +kernel, rfl⟩
theorem iX8_safeOf_1 : zat mX8_safeOf 1 1 2 (.istore_n 2) := ⟨by decide +kernel, rfl⟩
theorem iX8_safeOf_2 : zat mX8_safeOf 2 1 3 (.iconst 0) := ⟨by decide +kernel, rfl⟩
theorem iX8_safeOf_3 : zat mX8_safeOf 3 1 4 (.istore_n 3) := ⟨by decide +kernel, rfl⟩
theorem iX8_safeOf_4 : zat mX8_safeOf 4 1 5 (.iload_n 3) := ⟨by decide +kernel, rfl⟩
theorem iX8_safeOf_5 : zat mX8_safeOf 5 1 6 (.iconst 1) := ⟨by decide +kernel, rfl⟩
theorem iX8_safeOf_6 : zat mX8_safeOf 6 1 7 (.aload_n 0) := ⟨by decide +kernel, rfl⟩
theorem iX8_safeOf_7 : zat mX8_safeOf 7 1 8 (.iload_n 1) := ⟨by decide +kernel, rfl⟩
theorem iX8_safeOf_8 : zat mX8_safeOf 8 3 11 (.invokevirtual 193) := ⟨by decide +kernel, rfl⟩
theorem iX8_safeOf_11 : zat mX8_safeOf 11 1 12 (.ishl) := ⟨by decide +kernel, rfl⟩
theorem iX8_safeOf_12 : zbr mX8_safeOf 12 15 68 (.if_icmp .ge) := ⟨56, by decide +kernel, rfl, rfl⟩
theorem iX8_safeOf_15 : zat mX8_safeOf 15 1 16 (.iload_n 2) := ⟨by decide +kernel, rfl⟩
theorem iX8_safeOf_16 : zat mX8_safeOf 16 1 17 (.iconst (-1)) := ⟨by decide +kernel, rfl⟩
theorem iX8_safeOf_17 : zbr mX8_safeOf 17 20 35 (.if_icmp .eq) := ⟨18, by decide +kernel, rfl, rfl⟩
theorem iX8_safeOf_20 : zat mX8_safeOf 20 1 21 (.aload_n 0) := ⟨by decide +kernel, rfl⟩
theorem iX8_safeOf_21 : zat mX8_safeOf 21 1 22 (.iload_n 1) := ⟨by decide +kernel, rfl⟩
theorem iX8_safeOf_22 : zat mX8_safeOf 22 1 23 (.iload_n 3) := ⟨by decide +kernel, rfl⟩
theorem iX8_safeOf_23 : zat mX8_safeOf 23 3 26 (.invokevirtual 196) := ⟨by decide +kernel, rfl⟩
theorem iX8_safeOf_26 : zat mX8_safeOf 26 1 27 (.aload_n 0) := ⟨by decide +kernel, rfl⟩
theorem iX8_safeOf_27 : zat mX8_safeOf 27 1 28 (.iload_n 1) := ⟨by decide +kernel, rfl⟩
theorem iX8_safeOf_28 : zat mX8_safeOf 28 1 29 (.iload_n 2) := ⟨by decide +kernel, rfl⟩
theorem iX8_safeOf_29 : zat mX8_safeOf 29 3 32 (.invokevirtual 196) := ⟨by decide +kernel, rfl⟩
theorem iX8_safeOf_32 : zbr mX8_safeOf 32 35 39 (.if_icmp .ge) := ⟨7, by decide +kernel, rfl, rfl⟩
theorem iX8_safeOf_35 : zat mX8_safeOf 35 1 36 (.iconst 1) := ⟨by decide +kernel, rfl⟩
theorem iX8_safeOf_36 : zbr mX8_safeOf 36 39 40 (.goto) := ⟨4, by decide +kernel, rfl, rfl⟩
theorem iX8_safeOf_39 : zat mX8_safeOf 39 1 40 (.iconst 0) := ⟨by decide +kernel, rfl⟩
theorem iX8_safeOf_40 : zat mX8_safeOf 40 2 42 (.istore 4) := ⟨by decide +kernel, rfl⟩
theorem iX8_safeOf_42 : zat mX8_safeOf 42 2 44 (.iload 4) := ⟨by decide +kernel, rfl⟩
theorem iX8_safeOf_44 : zbr mX8_safeOf 44 47 60 (.ifCond .eq) := ⟨16, by decide +kernel, rfl, rfl⟩
theorem iX8_safeOf_47 : zat mX8_safeOf 47 1 48 (.aload_n 0) := ⟨by decide +kernel, rfl⟩
theorem iX8_safeOf_48 : zat mX8_safeOf 48 1 49 (.iload_n 1) := ⟨by decide +kernel, rfl⟩
theorem iX8_safeOf_49 : zat mX8_safeOf 49 1 50 (.iload_n 3) := ⟨by decide +kernel, rfl⟩
theorem iX8_safeOf_50 : zat mX8_safeOf 50 3 53 (.invokevirtual 199) := ⟨by decide +kernel, rfl⟩
theorem iX8_safeOf_53 : zbr mX8_safeOf 53 56 60 (.ifCond .eq) := ⟨7, by decide +kernel, rfl, rfl⟩
theorem iX8_safeOf_56 : zat mX8_safeOf 56 1 57 (.iload_n 3) := ⟨by decide +kernel, rfl⟩
theorem iX8_safeOf_57 : zbr mX8_safeOf 57 60 61 (.goto) := ⟨4, by decide +kernel, rfl, rfl⟩
theorem iX8_safeOf_60 : zat mX8_safeOf 60 1 61 (.iload_n 2) := ⟨by decide +kernel, rfl⟩
theorem iX8_safeOf_61 : zat mX8_safeOf 61 1 62 (.istore_n 2) := ⟨by decide +kernel, rfl⟩
theorem iX8_safeOf_62 : zat mX8_safeOf 62 3 65 (.iinc 3 1) := ⟨by decide +kernel, rfl⟩
theorem iX8_safeOf_65 : zbr mX8_safeOf 65 68 4 (.goto) := ⟨-61, by decide +kernel, rfl, rfl⟩
theorem iX8_safeOf_68 : zat mX8_safeOf 68 1 69 (.iload_n 2) := ⟨by decide +kernel, rfl⟩
theorem iX8_safeOf_69 : zat mX8_safeOf 69 1 70 (.ireturn) := ⟨by decide +kernel, rfl⟩
theorem iX8_tellBay_0 : zat mX8_tellBay 0 1 1 (.iload_n 2) := ⟨by decide +kernel, rfl⟩
theorem iX8_tellBay_1 : zat mX8_tellBay 1 1 2 (.i2l) := ⟨by decide +kernel, rfl⟩
theorem iX8_tellBay_2 : zat mX8_tellBay 2 3 5 (.ldc2_w 168) := ⟨by decide +kernel, rfl⟩
theorem iX8_tellBay_5 : zat mX8_tellBay 5 3 8 (.ldc2_w 170) := ⟨by decide +kernel, rfl⟩
theorem iX8_tellBay_8 : zat mX8_tellBay 8 3 11 (.invokestatic 79) := ⟨by decide +kernel, rfl⟩
theorem iX8_tellBay_11 : zbr mX8_tellBay 11 14 24 (.ifCond .eq) := ⟨13, by decide +kernel, rfl, rfl⟩
theorem iX8_tellBay_14 : zat mX8_tellBay 14 1 15 (.aload_n 0) := ⟨by decide +kernel, rfl⟩
theorem iX8_tellBay_15 : zat mX8_tellBay 15 1 16 (.iload_n 1) := ⟨by decide +kernel, rfl⟩
theorem iX8_tellBay_16 : zat mX8_tellBay 16 1 17 (.iload_n 2) := ⟨by decide +kernel, rfl⟩
theorem iX8_tellBay_17 : zat mX8_tellBay 17 2 19 (.bipush 10) := ⟨by decide +kernel, rfl⟩
theorem iX8_tellBay_19 : zat mX8_tellBay 19 1 20 (.isub) := ⟨by decide +kernel, rfl⟩
theorem iX8_tellBay_20 : zat mX8_tellBay 20 3 23 (.invokevirtual 187) := ⟨by decide +kernel, rfl⟩
theorem iX8_tellBay_23 : zat mX8_tellBay 23 1 24 (.ireturn) := ⟨by decide +kernel, rfl⟩
theorem iX8_tellBay_24 : zat mX8_tellBay 24 1 25 (.aload_n 0) := ⟨by decide +kernel, rfl⟩
theorem iX8_tellBay_25 : zat mX8_tellBay 25 3 28 (.invokevirtual 165) := ⟨by decide +kernel, rfl⟩
theorem iX8_tellBay_28 : zat mX8_tellBay 28 1 29 (.iload_n 2) := ⟨by decide +kernel, rfl⟩
theorem iX8_tellBay_29 : zat mX8_tellBay 29 35 64 (.tableswitch 70 0 4 #[35, 41, 47, 53, 59]) := ⟨by decide +kernel, rfl⟩
theorem iX8_tellBay_64 : zat mX8_tellBay 64 1 65 (.aload_n 0) := ⟨by decide +kernel, rfl⟩
theorem iX8_tellBay_65 : zat mX8_tellBay 65 1 66 (.iload_n 1) := ⟨by decide +kernel, rfl⟩
theorem iX8_tellBay_66 : zat mX8_tellBay 66 3 69 (.invokevirtual 193) := ⟨by decide +kernel, rfl⟩
theorem iX8_tellBay_69 : zat mX8_tellBay 69 1 70 (.ireturn) := ⟨by decide +kernel, rfl⟩
theorem iX8_tellBay_70 : zat mX8_tellBay 70 1 71 (.aload_n 0) := ⟨by decide +kernel, rfl⟩
theorem iX8_tellBay_71 : zat mX8_tellBay 71 1 72 (.iload_n 1) := ⟨by decide +kernel, rfl⟩
theorem iX8_tellBay_72 : zat mX8_tellBay 72 3 75 (.invokevirtual 135) := ⟨by decide +kernel, rfl⟩
theorem iX8_tellBay_75 : zat mX8_tellBay 75 1 76 (.ireturn) := ⟨by decide +kernel, rfl⟩
theorem iX8_tellBay_76 : zat mX8_tellBay 76 1 77 (.aload_n 0) := ⟨by decide +kernel, rfl⟩
theorem iX8_tellBay_77 : zat mX8_tellBay 77 1 78 (.iload_n 1) := ⟨by decide +kernel, rfl⟩
theorem iX8_tellBay_78 : zat mX8_tellBay 78 3 81 (.invokevirtual 202) := ⟨by decide +kernel, rfl⟩
theorem iX8_tellBay_81 : zat mX8_tellBay 81 1 82 (.ireturn) := ⟨by decide +kernel, rfl⟩
theorem iX8_tellBay_82 : zat mX8_tellBay 82 1 83 (.aload_n 0) := ⟨by decide +kernel, rfl⟩
theorem iX8_tellBay_83 : zat mX8_tellBay 83 1 84 (.iload_n 1) := ⟨by decide +kernel, rfl⟩
theorem iX8_tellBay_84 : zat mX8_tellBay 84 3 87 (.invokevirtual 205) := ⟨by decide +kernel, rfl⟩
theorem iX8_tellBay_87 : zat mX8_tellBay 87 1 88 (.ireturn) := ⟨by decide +kernel, rfl⟩
theorem iX8_tellBay_88 : zat mX8_tellBay 88 1 89 (.aload_n 0) := ⟨by decide +kernel, rfl⟩
theorem iX8_tellBay_89 : zat mX8_tellBay 89 1 90 (.iload_n 1) := ⟨by decide +kernel, rfl⟩
theorem iX8_tellBay_90 : zat mX8_tellBay 90 1 91 (.aload_n 0) := ⟨by decide +kernel, rfl⟩
theorem iX8_tellBay_91 : zat mX8_tellBay 91 1 92 (.iload_n 1) := ⟨by decide +kernel, rfl⟩
theorem iX8_tellBay_92 : zat mX8_tellBay 92 3 95 (.invokevirtual 205) := ⟨by decide +kernel, rfl⟩
theorem iX8_tellBay_95 : zat mX8_tellBay 95 3 98 (.invokevirtual 196) := ⟨by decide +kernel, rfl⟩
theorem iX8_tellBay_98 : zat mX8_tellBay 98 1 99 (.ireturn) := ⟨by decide +kernel, rfl⟩
theorem iX8_tellBay_99 : zat mX8_tellBay 99 2 101 (.bipush (-102)) := ⟨by decide +kernel, rfl⟩
theorem iX8_tellBay_101 : zat mX8_tellBay 101 1 102 (.ireturn) := ⟨by decide +kernel, rfl⟩
theorem iX8_bay_0 : zat mX8_bay 0 1 1 (.aload_n 0) := ⟨by decide +kernel, rfl⟩
theorem iX8_bay_1 : zat mX8_bay 1 1 2 (.iload_n 1) := ⟨by decide +kernel, rfl⟩
theorem iX8_bay_2 : zat mX8_bay 2 3 5 (.invokevirtual 208) := ⟨by decide +kernel, rfl⟩
theorem iX8_bay_5 : zbr mX8_bay 5 8 17 (.ifCond .eq) := ⟨12, by decide +kernel, rfl, rfl⟩
theorem iX8_bay_8 : zat mX8_bay 8 1 9 (.aload_n 0) := ⟨by decide +kernel, rfl⟩
theorem iX8_bay_9 : zat mX8_bay 9 1 10 (.iload_n 1) := ⟨by decide +kernel, rfl⟩
theorem iX8_bay_10 : zat mX8_bay 10 1 11 (.iload_n 2) := ⟨by decide +kernel, rfl⟩
theorem iX8_bay_11 : zat mX8_bay 11 3 14 (.invokevirtual 211) := ⟨by decide +kernel, rfl⟩
theorem iX8_bay_14 : zbr mX8_bay 14 17 19 (.goto) := ⟨5, by decide +kernel, rfl, rfl⟩
theorem iX8_bay_17 : zat mX8_bay 17 2 19 (.bipush (-101)) := ⟨by decide +kernel, rfl⟩
theorem iX8_bay_19 : zat mX8_bay 19 1 20 (.ireturn) := ⟨by decide +kernel, rfl⟩
theorem iX8_cut_0 : zat mX8_cut 0 1 1 (.aload_n 0) := ⟨by decide +kernel, rfl⟩
theorem iX8_cut_1 : zat mX8_cut 1 1 2 (.iload_n 1) := ⟨by decide +kernel, rfl⟩
theorem iX8_cut_2 : zat mX8_cut 2 3 5 (.invokevirtual 208) := ⟨by decide +kernel, rfl⟩
theorem iX8_cut_5 : zbr mX8_cut 5 8 11 (.ifCond .ne) := ⟨6, by decide +kernel, rfl, rfl⟩
theorem iX8_cut_8 : zat mX8_cut 8 2 10 (.bipush (-101)) := ⟨by decide +kernel, rfl⟩
theorem iX8_cut_10 : zat mX8_cut 10 1 11 (.ireturn) := ⟨by decide +kernel, rfl⟩
theorem iX8_cut_11 : zat mX8_cut 11 1 12 (.iload_n 2) := ⟨by decide +kernel, rfl⟩
theorem iX8_cut_12 : zat mX8_cut 12 1 13 (.i2l) := ⟨by decide +kernel, rfl⟩
theorem iX8_cut_13 : zat mX8_cut 13 1 14 (.lconst 1) := ⟨by decide +kernel, rfl⟩
theorem iX8_cut_14 : zat mX8_cut 14 3 17 (.ldc2_w 214) := ⟨by decide +kernel, rfl⟩
theorem iX8_cut_17 : zat mX8_cut 17 3 20 (.invokestatic 79) := ⟨by decide +kernel, rfl⟩
theorem iX8_cut_20 : zbr mX8_cut 20 23 26 (.ifCond .ne) := ⟨6, by decide +kernel, rfl, rfl⟩
theorem iX8_cut_23 : zat mX8_cut 23 2 25 (.bipush (-102)) := ⟨by decide +kernel, rfl⟩
theorem iX8_cut_25 : zat mX8_cut 25 1 26 (.ireturn) := ⟨by decide +kernel, rfl⟩
theorem iX8_cut_26 : zat mX8_cut 26 1 27 (.aload_n 0) := ⟨by decide +kernel, rfl⟩
theorem iX8_cut_27 : zat mX8_cut 27 3 30 (.invokevirtual 165) := ⟨by decide +kernel, rfl⟩
theorem iX8_cut_30 : zat mX8_cut 30 1 31 (.aload_n 0) := ⟨by decide +kernel, rfl⟩
theorem iX8_cut_31 : zat mX8_cut 31 1 32 (.iload_n 1) := ⟨by decide +kernel, rfl⟩
theorem iX8_cut_32 : zat mX8_cut 32 3 35 (.invokevirtual 216) := ⟨by decide +kernel, rfl⟩
theorem iX8_cut_35 : zbr mX8_cut 35 38 41 (.ifCond .ne) := ⟨6, by decide +kernel, rfl, rfl⟩
theorem iX8_cut_38 : zat mX8_cut 38 2 40 (.bipush (-103)) := ⟨by decide +kernel, rfl⟩
theorem iX8_cut_40 : zat mX8_cut 40 1 41 (.ireturn) := ⟨by decide +kernel, rfl⟩
theorem iX8_cut_41 : zat mX8_cut 41 1 42 (.aload_n 0) := ⟨by decide +kernel, rfl⟩
theorem iX8_cut_42 : zat mX8_cut 42 3 45 (.getfield 119) := ⟨by decide +kernel, rfl⟩
theorem iX8_cut_45 : zat mX8_cut 45 3 48 (.sipush 9000) := ⟨by decide +kernel, rfl⟩
theorem iX8_cut_48 : zbr mX8_cut 48 51 54 (.if_icmp .lt) := ⟨6, by decide +kernel, rfl, rfl⟩
theorem iX8_cut_51 : zat mX8_cut 51 2 53 (.bipush (-104)) := ⟨by decide +kernel, rfl⟩
theorem iX8_cut_53 : zat mX8_cut 53 1 54 (.ireturn) := ⟨by decide +kernel, rfl⟩
theorem iX8_cut_54 : zat mX8_cut 54 1 55 (.aload_n 0) := ⟨by decide +kernel, rfl⟩
theorem iX8_cut_55 : zat mX8_cut 55 1 56 (.iload_n 1) := ⟨by decide +kernel, rfl⟩
theorem iX8_cut_56 : zat mX8_cut 56 1 57 (.iload_n 2) := ⟨by decide +kernel, rfl⟩
theorem iX8_cut_57 : zat mX8_cut 57 3 60 (.invokevirtual 219) := ⟨by decide +kernel, rfl⟩
theorem iX8_cut_60 : zat mX8_cut 60 1 61 (.istore_n 3) := ⟨by decide +kernel, rfl⟩
theorem iX8_cut_61 : zat mX8_cut 61 1 62 (.aload_n 0) := ⟨by decide +kernel, rfl⟩
theorem iX8_cut_62 : zat mX8_cut 62 3 65 (.invokevirtual 222) := ⟨by decide +kernel, rfl⟩
theorem iX8_cut_65 : zat mX8_cut 65 1 66 (.aload_n 0) := ⟨by decide +kernel, rfl⟩
theorem iX8_cut_66 : zat mX8_cut 66 1 67 (.dup) := ⟨by decide +kernel, rfl⟩
theorem iX8_cut_67 : zat mX8_cut 67 3 70 (.getfield 119) := ⟨by decide +kernel, rfl⟩
theorem iX8_cut_70 : zat mX8_cut 70 1 71 (.iload_n 3) := ⟨by decide +kernel, rfl⟩
theorem iX8_cut_71 : zat mX8_cut 71 1 72 (.iadd) := ⟨by decide +kernel, rfl⟩
theorem iX8_cut_72 : zat mX8_cut 72 3 75 (.putfield 119) := ⟨by decide +kernel, rfl⟩
theorem iX8_cut_75 : zat mX8_cut 75 1 76 (.iload_n 3) := ⟨by decide +kernel, rfl⟩
theorem iX8_cut_76 : zat mX8_cut 76 1 77 (.ireturn) := ⟨by decide +kernel, rfl⟩
theorem iX8_day_0 : zat mX8_day 0 1 1 (.aload_n 0) := ⟨by decide +kernel, rfl⟩
theorem iX8_day_1 : zat mX8_day 1 3 4 (.invokevirtual 225) := ⟨by decide +kernel, rfl⟩
theorem iX8_day_4 : zbr mX8_day 4 7 10 (.ifCond .eq) := ⟨6, by decide +kernel, rfl, rfl⟩
theorem iX8_day_7 : zat mX8_day 7 2 9 (.bipush (-103)) := ⟨by decide +kernel, rfl⟩
theorem iX8_day_9 : zat mX8_day 9 1 10 (.ireturn) := ⟨by decide +kernel, rfl⟩
theorem iX8_day_10 : zat mX8_day 10 1 11 (.aload_n 0) := ⟨by decide +kernel, rfl⟩
theorem iX8_day_11 : zat mX8_day 11 3 14 (.getfield 116) := ⟨by decide +kernel, rfl⟩
theorem iX8_day_14 : zat mX8_day 14 3 17 (.sipush 999) := ⟨by decide +kernel, rfl⟩
theorem iX8_day_17 : zbr mX8_day 17 20 23 (.if_icmp .ne) := ⟨6, by decide +kernel, rfl, rfl⟩
theorem iX8_day_20 : zat mX8_day 20 2 22 (.bipush (-104)) := ⟨by decide +kernel, rfl⟩
theorem iX8_day_22 : zat mX8_day 22 1 23 (.ireturn) := ⟨by decide +kernel, rfl⟩
theorem iX8_day_23 : zat mX8_day 23 1 24 (.aload_n 0) := ⟨by decide +kernel, rfl⟩
theorem iX8_day_24 : zat mX8_day 24 3 27 (.invokevirtual 165) := ⟨by decide +kernel, rfl⟩
theorem iX8_day_27 : zat mX8_day 27 1 28 (.aload_n 0) := ⟨by decide +kernel, rfl⟩
theorem iX8_day_28 : zat mX8_day 28 3 31 (.invokevirtual 190) := ⟨by decide +kernel, rfl⟩
theorem iX8_day_31 : zat mX8_day 31 1 32 (.istore_n 1) := ⟨by decide +kernel, rfl⟩
theorem iX8_day_32 : zat mX8_day 32 1 33 (.aload_n 0) := ⟨by decide +kernel, rfl⟩
theorem iX8_day_33 : zat mX8_day 33 3 36 (.invokevirtual 222) := ⟨by decide +kernel, rfl⟩
theorem iX8_day_36 : zat mX8_day 36 1 37 (.aload_n 0) := ⟨by decide +kernel, rfl⟩
theorem iX8_day_37 : zat mX8_day 37 1 38 (.dup) := ⟨by decide +kernel, rfl⟩
theorem iX8_day_38 : zat mX8_day 38 3 41 (.getfield 116) := ⟨by decide +kernel, rfl⟩
theorem iX8_day_41 : zat mX8_day 41 1 42 (.iconst 1) := ⟨by decide +kernel, rfl⟩
theorem iX8_day_42 : zat mX8_day 42 1 43 (.iadd) := ⟨by decide +kernel, rfl⟩
theorem iX8_day_43 : zat mX8_day 43 3 46 (.putfield 116) := ⟨by decide +kernel, rfl⟩
theorem iX8_day_46 : zat mX8_day 46 1 47 (.aload_n 0) := ⟨by decide +kernel, rfl⟩
theorem iX8_day_47 : zat mX8_day 47 1 48 (.dup) := ⟨by decide +kernel, rfl⟩
theorem iX8_day_48 : zat mX8_day 48 3 51 (.getfield 122) := ⟨by decide +kernel, rfl⟩
theorem iX8_day_51 : zat mX8_day 51 1 52 (.iload_n 1) := ⟨by decide +kernel, rfl⟩
theorem iX8_day_52 : zat mX8_day 52 1 53 (.iadd) := ⟨by decide +kernel, rfl⟩
theorem iX8_day_53 : zat mX8_day 53 3 56 (.putfield 122) := ⟨by decide +kernel, rfl⟩
theorem iX8_day_56 : zat mX8_day 56 1 57 (.iload_n 1) := ⟨by decide +kernel, rfl⟩
theorem iX8_day_57 : zat mX8_day 57 1 58 (.ireturn) := ⟨by decide +kernel, rfl⟩
theorem iX8_turn_0 : zat mX8_turn 0 1 1 (.aload_n 0) := ⟨by decide +kernel, rfl⟩
theorem iX8_turn_1 : zat mX8_turn 1 1 2 (.iload_n 1) := ⟨by decide +kernel, rfl⟩
theorem iX8_turn_2 : zat mX8_turn 2 3 5 (.invokevirtual 208) := ⟨by decide +kernel, rfl⟩
theorem iX8_turn_5 : zbr mX8_turn 5 8 11 (.ifCond .ne) := ⟨6, by decide +kernel, rfl, rfl⟩
theorem iX8_turn_8 : zat mX8_turn 8 2 10 (.bipush (-101)) := ⟨by decide +kernel, rfl⟩
theorem iX8_turn_10 : zat mX8_turn 10 1 11 (.ireturn) := ⟨by decide +kernel, rfl⟩
theorem iX8_turn_11 : zat mX8_turn 11 1 12 (.aload_n 0) := ⟨by decide +kernel, rfl⟩
theorem iX8_turn_12 : zat mX8_turn 12 1 13 (.iload_n 1) := ⟨by decide +kernel, rfl⟩
theorem iX8_turn_13 : zat mX8_turn 13 3 16 (.invokevirtual 193) := ⟨by decide +kernel, rfl⟩
theorem iX8_turn_16 : zat mX8_turn 16 1 17 (.istore_n 2) := ⟨by decide +kernel, rfl⟩
theorem iX8_turn_17 : zat mX8_turn 17 1 18 (.iload_n 2) := ⟨by decide +kernel, rfl⟩
theorem iX8_turn_18 : zbr mX8_turn 18 21 24 (.ifCond .ne) := ⟨6, by decide +kernel, rfl, rfl⟩
theorem iX8_turn_21 : zat mX8_turn 21 2 23 (.bipush (-103)) := ⟨by decide +kernel, rfl⟩
theorem iX8_turn_23 : zat mX8_turn 23 1 24 (.ireturn) := ⟨by decide +kernel, rfl⟩
theorem iX8_turn_24 : zat mX8_turn 24 1 25 (.iconst 4) := ⟨by decide +kernel, rfl⟩
theorem iX8_turn_25 : zat mX8_turn 25 1 26 (.iload_n 1) := ⟨by decide +kernel, rfl⟩
theorem iX8_turn_26 : zat mX8_turn 26 1 27 (.imul) := ⟨by decide +kernel, rfl⟩
theorem iX8_turn_27 : zat mX8_turn 27 1 28 (.istore_n 3) := ⟨by decide +kernel, rfl⟩
theorem iX8_turn_28 : zat mX8_turn 28 1 29 (.iconst 4) := ⟨by decide +kernel, rfl⟩
theorem iX8_turn_29 : zat mX8_turn 29 1 30 (.iload_n 1) := ⟨by decide +kernel, rfl⟩
theorem iX8_turn_30 : zat mX8_turn 30 1 31 (.imul) := ⟨by decide +kernel, rfl⟩
theorem iX8_turn_31 : zat mX8_turn 31 1 32 (.aload_n 0) := ⟨by decide +kernel, rfl⟩
theorem iX8_turn_32 : zat mX8_turn 32 3 35 (.getfield 19) := ⟨by decide +kernel, rfl⟩
theorem iX8_turn_35 : zat mX8_turn 35 1 36 (.iload_n 1) := ⟨by decide +kernel, rfl⟩
theorem iX8_turn_36 : zat mX8_turn 36 1 37 (.iaload) := ⟨by decide +kernel, rfl⟩
theorem iX8_turn_37 : zat mX8_turn 37 1 38 (.iadd) := ⟨by decide +kernel, rfl⟩
theorem iX8_turn_38 : zat mX8_turn 38 1 39 (.iconst 1) := ⟨by decide +kernel, rfl⟩
theorem iX8_turn_39 : zat mX8_turn 39 1 40 (.isub) := ⟨by decide +kernel, rfl⟩
theorem iX8_turn_40 : zat mX8_turn 40 2 42 (.istore 4) := ⟨by decide +kernel, rfl⟩
theorem iX8_turn_42 : zat mX8_turn 42 1 43 (.iload_n 3) := ⟨by decide +kernel, rfl⟩
theorem iX8_turn_43 : zat mX8_turn 43 2 45 (.iload 4) := ⟨by decide +kernel, rfl⟩
theorem iX8_turn_45 : zbr mX8_turn 45 48 87 (.if_icmp .ge) := ⟨42, by decide +kernel, rfl, rfl⟩
theorem iX8_turn_48 : zat mX8_turn 48 1 49 (.aload_n 0) := ⟨by decide +kernel, rfl⟩
theorem iX8_turn_49 : zat mX8_turn 49 3 52 (.getfield 22) := ⟨by decide +kernel, rfl⟩
theorem iX8_turn_52 : zat mX8_turn 52 1 53 (.iload_n 3) := ⟨by decide +kernel, rfl⟩
theorem iX8_turn_53 : zat mX8_turn 53 1 54 (.iaload) := ⟨by decide +kernel, rfl⟩
theorem iX8_turn_54 : zat mX8_turn 54 2 56 (.istore 5) := ⟨by decide +kernel, rfl⟩
theorem iX8_turn_56 : zat mX8_turn 56 1 57 (.aload_n 0) := ⟨by decide +kernel, rfl⟩
theorem iX8_turn_57 : zat mX8_turn 57 3 60 (.getfield 22) := ⟨by decide +kernel, rfl⟩
theorem iX8_turn_60 : zat mX8_turn 60 1 61 (.iload_n 3) := ⟨by decide +kernel, rfl⟩
theorem iX8_turn_61 : zat mX8_turn 61 1 62 (.aload_n 0) := ⟨by decide +kernel, rfl⟩
theorem iX8_turn_62 : zat mX8_turn 62 3 65 (.getfield 22) := ⟨by decide +kernel, rfl⟩
theorem iX8_turn_65 : zat mX8_turn 65 2 67 (.iload 4) := ⟨by decide +kernel, rfl⟩
theorem iX8_turn_67 : zat mX8_turn 67 1 68 (.iaload) := ⟨by decide +kernel, rfl⟩
theorem iX8_turn_68 : zat mX8_turn 68 1 69 (.iastore) := ⟨by decide +kernel, rfl⟩
theorem iX8_turn_69 : zat mX8_turn 69 1 70 (.aload_n 0) := ⟨by decide +kernel, rfl⟩
theorem iX8_turn_70 : zat mX8_turn 70 3 73 (.getfield 22) := ⟨by decide +kernel, rfl⟩
theorem iX8_turn_73 : zat mX8_turn 73 2 75 (.iload 4) := ⟨by decide +kernel, rfl⟩
theorem iX8_turn_75 : zat mX8_turn 75 2 77 (.iload 5) := ⟨by decide +kernel, rfl⟩
theorem iX8_turn_77 : zat mX8_turn 77 1 78 (.iastore) := ⟨by decide +kernel, rfl⟩
theorem iX8_turn_78 : zat mX8_turn 78 3 81 (.iinc 3 1) := ⟨by decide +kernel, rfl⟩
theorem iX8_turn_81 : zat mX8_turn 81 3 84 (.iinc 4 (-1)) := ⟨by decide +kernel, rfl⟩
theorem iX8_turn_84 : zbr mX8_turn 84 87 42 (.goto) := ⟨-42, by decide +kernel, rfl, rfl⟩
theorem iX8_turn_87 : zat mX8_turn 87 1 88 (.iconst 0) := ⟨by decide +kernel, rfl⟩
theorem iX8_turn_88 : zat mX8_turn 88 2 90 (.istore 5) := ⟨by decide +kernel, rfl⟩
theorem iX8_turn_90 : zat mX8_turn 90 2 92 (.iload 5) := ⟨by decide +kernel, rfl⟩
theorem iX8_turn_92 : zat mX8_turn 92 1 93 (.aload_n 0) := ⟨by decide +kernel, rfl⟩
theorem iX8_turn_93 : zat mX8_turn 93 3 96 (.getfield 19) := ⟨by decide +kernel, rfl⟩
theorem iX8_turn_96 : zat mX8_turn 96 1 97 (.iload_n 1) := ⟨by decide +kernel, rfl⟩
theorem iX8_turn_97 : zat mX8_turn 97 1 98 (.iaload) := ⟨by decide +kernel, rfl⟩
theorem iX8_turn_98 : zbr mX8_turn 98 101 124 (.if_icmp .ge) := ⟨26, by decide +kernel, rfl, rfl⟩
theorem iX8_turn_101 : zat mX8_turn 101 1 102 (.aload_n 0) := ⟨by decide +kernel, rfl⟩
theorem iX8_turn_102 : zat mX8_turn 102 3 105 (.getfield 31) := ⟨by decide +kernel, rfl⟩
theorem iX8_turn_105 : zat mX8_turn 105 1 106 (.aload_n 0) := ⟨by decide +kernel, rfl⟩
theorem iX8_turn_106 : zat mX8_turn 106 3 109 (.getfield 22) := ⟨by decide +kernel, rfl⟩
theorem iX8_turn_109 : zat mX8_turn 109 1 110 (.iconst 4) := ⟨by decide +kernel, rfl⟩
theorem iX8_turn_110 : zat mX8_turn 110 1 111 (.iload_n 1) := ⟨by decide +kernel, rfl⟩
theorem iX8_turn_111 : zat mX8_turn 111 1 112 (.imul) := ⟨by decide +kernel, rfl⟩
theorem iX8_turn_112 : zat mX8_turn 112 2 114 (.iload 5) := ⟨by decide +kernel, rfl⟩
theorem iX8_turn_114 : zat mX8_turn 114 1 115 (.iadd) := ⟨by decide +kernel, rfl⟩
theorem iX8_turn_115 : zat mX8_turn 115 1 116 (.iaload) := ⟨by decide +kernel, rfl⟩
theorem iX8_turn_116 : zat mX8_turn 116 1 117 (.iconst 0) := ⟨by decide +kernel, rfl⟩
theorem iX8_turn_117 : zat mX8_turn 117 1 118 (.iastore) := ⟨by decide +kernel, rfl⟩
theorem iX8_turn_118 : zat mX8_turn 118 3 121 (.iinc 5 1) := ⟨by decide +kernel, rfl⟩
theorem iX8_turn_121 : zbr mX8_turn 121 124 90 (.goto) := ⟨-31, by decide +kernel, rfl, rfl⟩
theorem iX8_turn_124 : zat mX8_turn 124 1 125 (.iload_n 2) := ⟨by decide +kernel, rfl⟩
theorem iX8_turn_125 : zat mX8_turn 125 1 126 (.ireturn) := ⟨by decide +kernel, rfl⟩
theorem iX8_rain_0 : zat mX8_rain 0 1 1 (.aload_n 0) := ⟨by decide +kernel, rfl⟩
theorem iX8_rain_1 : zat mX8_rain 1 1 2 (.iload_n 1) := ⟨by decide +kernel, rfl⟩
theorem iX8_rain_2 : zat mX8_rain 2 3 5 (.invokevirtual 178) := ⟨by decide +kernel, rfl⟩
theorem iX8_rain_5 : zbr mX8_rain 5 8 11 (.ifCond .ne) := ⟨6, by decide +kernel, rfl, rfl⟩
theorem iX8_rain_8 : zat mX8_rain 8 2 10 (.bipush (-101)) := ⟨by decide +kernel, rfl⟩
theorem iX8_rain_10 : zat mX8_rain 10 1 11 (.ireturn) := ⟨by decide +kernel, rfl⟩
theorem iX8_rain_11 : zat mX8_rain 11 1 12 (.iload_n 2) := ⟨by decide +kernel, rfl⟩
theorem iX8_rain_12 : zat mX8_rain 12 1 13 (.i2l) := ⟨by decide +kernel, rfl⟩
theorem iX8_rain_13 : zat mX8_rain 13 1 14 (.lconst 0) := ⟨by decide +kernel, rfl⟩
theorem iX8_rain_14 : zat mX8_rain 14 3 17 (.ldc2_w 229) := ⟨by decide +kernel, rfl⟩
theorem iX8_rain_17 : zat mX8_rain 17 3 20 (.invokestatic 79) := ⟨by decide +kernel, rfl⟩
theorem iX8_rain_20 : zbr mX8_rain 20 23 26 (.ifCond .ne) := ⟨6, by decide +kernel, rfl, rfl⟩
theorem iX8_rain_23 : zat mX8_rain 23 2 25 (.bipush (-102)) := ⟨by decide +kernel, rfl⟩
theorem iX8_rain_25 : zat mX8_rain 25 1 26 (.ireturn) := ⟨by decide +kernel, rfl⟩
theorem iX8_rain_26 : zat mX8_rain 26 1 27 (.aload_n 0) := ⟨by decide +kernel, rfl⟩
theorem iX8_rain_27 : zat mX8_rain 27 3 30 (.getfield 25) := ⟨by decide +kernel, rfl⟩
theorem iX8_rain_30 : zat mX8_rain 30 1 31 (.iload_n 1) := ⟨by decide +kernel, rfl⟩
theorem iX8_rain_31 : zat mX8_rain 31 1 32 (.iaload) := ⟨by decide +kernel, rfl⟩
theorem iX8_rain_32 : zbr mX8_rain 32 35 38 (.ifCond .ne) := ⟨6, by decide +kernel, rfl, rfl⟩
theorem iX8_rain_35 : zat mX8_rain 35 2 37 (.bipush (-103)) := ⟨by decide +kernel, rfl⟩
theorem iX8_rain_37 : zat mX8_rain 37 1 38 (.ireturn) := ⟨by decide +kernel, rfl⟩
theorem iX8_rain_38 : zat mX8_rain 38 1 39 (.aload_n 0) := ⟨by decide +kernel, rfl⟩
theorem iX8_rain_39 : zat mX8_rain 39 3 42 (.getfield 28) := ⟨by decide +kernel, rfl⟩
theorem iX8_rain_42 : zat mX8_rain 42 1 43 (.iload_n 1) := ⟨by decide +kernel, rfl⟩
theorem iX8_rain_43 : zat mX8_rain 43 1 44 (.iaload) := ⟨by decide +kernel, rfl⟩
theorem iX8_rain_44 : zat mX8_rain 44 1 45 (.istore_n 3) := ⟨by decide +kernel, rfl⟩
theorem iX8_rain_45 : zat mX8_rain 45 1 46 (.aload_n 0) := ⟨by decide +kernel, rfl⟩
theorem iX8_rain_46 : zat mX8_rain 46 3 49 (.getfield 28) := ⟨by decide +kernel, rfl⟩
theorem iX8_rain_49 : zat mX8_rain 49 1 50 (.iload_n 1) := ⟨by decide +kernel, rfl⟩
theorem iX8_rain_50 : zat mX8_rain 50 1 51 (.iload_n 2) := ⟨by decide +kernel, rfl⟩
theorem iX8_rain_51 : zat mX8_rain 51 1 52 (.iastore) := ⟨by decide +kernel, rfl⟩
theorem iX8_rain_52 : zat mX8_rain 52 1 53 (.iload_n 3) := ⟨by decide +kernel, rfl⟩
theorem iX8_rain_53 : zat mX8_rain 53 1 54 (.ireturn) := ⟨by decide +kernel, rfl⟩
theorem iX8_leastTop_0 : zat mX8_leastTop 0 1 1 (.iconst (-1)) := ⟨by decide +kernel, rfl⟩
theorem iX8_leastTop_1 : zat mX8_leastTop 1 1 2 (.istore_n 1) := ⟨by decide +kernel, rfl⟩
theorem iX8_leastTop_2 : zat mX8_leastTop 2 1 3 (.iconst 0) := ⟨by decide +kernel, rfl⟩
theorem iX8_leastTop_3 : zat mX8_leastTop 3 1 4 (.istore_n 2) := ⟨by decide +kernel, rfl⟩
theorem iX8_leastTop_4 : zat mX8_leastTop 4 1 5 (.iload_n 2) := ⟨by decide +kernel, rfl⟩
theorem iX8_leastTop_5 : zat mX8_leastTop 5 1 6 (.aload_n 0) := ⟨by decide +kernel, rfl⟩
theorem iX8_leastTop_6 : zat mX8_leastTop 6 3 9 (.getfield 110) := ⟨by decide +kernel, rfl⟩
theorem iX8_leastTop_9 : zbr mX8_leastTop 9 12 56 (.if_icmp .ge) := ⟨47, by decide +kernel, rfl, rfl⟩
theorem iX8_leastTop_12 : zat mX8_leastTop 12 1 13 (.aload_n 0) := ⟨by decide +kernel, rfl⟩
theorem iX8_leastTop_13 : zat mX8_leastTop 13 1 14 (.iload_n 2) := ⟨by decide +kernel, rfl⟩
theorem iX8_leastTop_14 : zat mX8_leastTop 14 3 17 (.invokevirtual 216) := ⟨by decide +kernel, rfl⟩
theorem iX8_leastTop_17 : zbr mX8_leastTop 17 20 50 (.ifCond .eq) := ⟨33, by decide +kernel, rfl, rfl⟩
theorem iX8_leastTop_20 : zat mX8_leastTop 20 1 21 (.iload_n 1) := ⟨by decide +kernel, rfl⟩
theorem iX8_leastTop_21 : zat mX8_leastTop 21 1 22 (.iconst (-1)) := ⟨by decide +kernel, rfl⟩
theorem iX8_leastTop_22 : zbr mX8_leastTop 22 25 48 (.if_icmp .eq) := ⟨26, by decide +kernel, rfl, rfl⟩
theorem iX8_leastTop_25 : zat mX8_leastTop 25 1 26 (.aload_n 0) := ⟨by decide +kernel, rfl⟩
theorem iX8_leastTop_26 : zat mX8_leastTop 26 3 29 (.getfield 34) := ⟨by decide +kernel, rfl⟩
theorem iX8_leastTop_29 : zat mX8_leastTop 29 1 30 (.aload_n 0) := ⟨by decide +kernel, rfl⟩
theorem iX8_leastTop_30 : zat mX8_leastTop 30 1 31 (.iload_n 2) := ⟨by decide +kernel, rfl⟩
theorem iX8_leastTop_31 : zat mX8_leastTop 31 3 34 (.invokevirtual 135) := ⟨by decide +kernel, rfl⟩
theorem iX8_leastTop_34 : zat mX8_leastTop 34 1 35 (.iaload) := ⟨by decide +kernel, rfl⟩
theorem iX8_leastTop_35 : zat mX8_leastTop 35 1 36 (.aload_n 0) := ⟨by decide +kernel, rfl⟩
theorem iX8_leastTop_36 : zat mX8_leastTop 36 3 39 (.getfield 34) := ⟨by decide +kernel, rfl⟩
theorem iX8_leastTop_39 : zat mX8_leastTop 39 1 40 (.aload_n 0) := ⟨by decide +kernel, rfl⟩
theorem iX8_leastTop_40 : zat mX8_leastTop 40 1 41 (.iload_n 1) := ⟨by decide +kernel, rfl⟩
theorem iX8_leastTop_41 : zat mX8_leastTop 41 3 44 (.invokevirtual 135) := ⟨by decide +kernel, rfl⟩
theorem iX8_leastTop_44 : zat mX8_leastTop 44 1 45 (.iaload) := ⟨by decide +kernel, rfl⟩
theorem iX8_leastTop_45 : zbr mX8_leastTop 45 48 50 (.if_icmp .ge) := ⟨5, by decide +kernel, rfl, rfl⟩
theorem iX8_leastTop_48 : zat mX8_leastTop 48 1 49 (.iload_n 2) := ⟨by decide +kernel, rfl⟩
theorem iX8_leastTop_49 : zat mX8_leastTop 49 1 50 (.istore_n 1) := ⟨by decide +kernel, rfl⟩
theorem iX8_leastTop_50 : zat mX8_leastTop 50 3 53 (.iinc 2 1) := ⟨by decide +kernel, rfl⟩
theorem iX8_leastTop_53 : zbr mX8_leastTop 53 56 4 (.goto) := ⟨-49, by decide +kernel, rfl, rfl⟩
theorem iX8_leastTop_56 : zat mX8_leastTop 56 1 57 (.iload_n 1) := ⟨by decide +kernel, rfl⟩
theorem iX8_leastTop_57 : zat mX8_leastTop 57 1 58 (.ireturn) := ⟨by decide +kernel, rfl⟩
theorem iX8_lastsOf_0 : zat mX8_lastsOf 0 1 1 (.aload_n 0) := ⟨by decide +kernel, rfl⟩
theorem iX8_lastsOf_1 : zat mX8_lastsOf 1 3 4 (.invokevirtual 165) := ⟨by decide +kernel, rfl⟩
theorem iX8_lastsOf_4 : zat mX8_lastsOf 4 1 5 (.iconst 0) := ⟨by decide +kernel, rfl⟩
theorem iX8_lastsOf_5 : zat mX8_lastsOf 5 1 6 (.istore_n 2) := ⟨by decide +kernel, rfl⟩
theorem iX8_lastsOf_6 : zat mX8_lastsOf 6 1 7 (.iload_n 2) := ⟨by decide +kernel, rfl⟩
theorem iX8_lastsOf_7 : zat mX8_lastsOf 7 2 9 (.bipush 100) := ⟨by decide +kernel, rfl⟩
theorem iX8_lastsOf_9 : zbr mX8_lastsOf 9 12 68 (.if_icmp .ge) := ⟨59, by decide +kernel, rfl, rfl⟩
theorem iX8_lastsOf_12 : zat mX8_lastsOf 12 1 13 (.iconst 0) := ⟨by decide +kernel, rfl⟩
theorem iX8_lastsOf_13 : zat mX8_lastsOf 13 1 14 (.istore_n 3) := ⟨by decide +kernel, rfl⟩
theorem iX8_lastsOf_14 : zat mX8_lastsOf 14 1 15 (.aload_n 0) := ⟨by decide +kernel, rfl⟩
theorem iX8_lastsOf_15 : zat mX8_lastsOf 15 3 18 (.invokevirtual 231) := ⟨by decide +kernel, rfl⟩
theorem iX8_lastsOf_18 : zat mX8_lastsOf 18 2 20 (.istore 4) := ⟨by decide +kernel, rfl⟩
theorem iX8_lastsOf_20 : zat mX8_lastsOf 20 1 21 (.iload_n 3) := ⟨by decide +kernel, rfl⟩
theorem iX8_lastsOf_21 : zat mX8_lastsOf 21 1 22 (.iload_n 1) := ⟨by decide +kernel, rfl⟩
theorem iX8_lastsOf_22 : zbr mX8_lastsOf 22 25 50 (.if_icmp .ge) := ⟨28, by decide +kernel, rfl, rfl⟩
theorem iX8_lastsOf_25 : zat mX8_lastsOf 25 2 27 (.iload 4) := ⟨by decide +kernel, rfl⟩
theorem iX8_lastsOf_27 : zat mX8_lastsOf 27 1 28 (.iconst (-1)) := ⟨by decide +kernel, rfl⟩
theorem iX8_lastsOf_28 : zbr mX8_lastsOf 28 31 50 (.if_icmp .eq) := ⟨22, by decide +kernel, rfl, rfl⟩
theorem iX8_lastsOf_31 : zat mX8_lastsOf 31 1 32 (.iload_n 3) := ⟨by decide +kernel, rfl⟩
theorem iX8_lastsOf_32 : zat mX8_lastsOf 32 1 33 (.aload_n 0) := ⟨by decide +kernel, rfl⟩
theorem iX8_lastsOf_33 : zat mX8_lastsOf 33 2 35 (.iload 4) := ⟨by decide +kernel, rfl⟩
theorem iX8_lastsOf_35 : zat mX8_lastsOf 35 1 36 (.iconst 1) := ⟨by decide +kernel, rfl⟩
theorem iX8_lastsOf_36 : zat mX8_lastsOf 36 3 39 (.invokevirtual 219) := ⟨by decide +kernel, rfl⟩
theorem iX8_lastsOf_39 : zat mX8_lastsOf 39 1 40 (.iadd) := ⟨by decide +kernel, rfl⟩
theorem iX8_lastsOf_40 : zat mX8_lastsOf 40 1 41 (.istore_n 3) := ⟨by decide +kernel, rfl⟩
theorem iX8_lastsOf_41 : zat mX8_lastsOf 41 1 42 (.aload_n 0) := ⟨by decide +kernel, rfl⟩
theorem iX8_lastsOf_42 : zat mX8_lastsOf 42 3 45 (.invokevirtual 231) := ⟨by decide +kernel, rfl⟩
theorem iX8_lastsOf_45 : zat mX8_lastsOf 45 2 47 (.istore 4) := ⟨by decide +kernel, rfl⟩
theorem iX8_lastsOf_47 : zbr mX8_lastsOf 47 50 20 (.goto) := ⟨-27, by decide +kernel, rfl, rfl⟩
theorem iX8_lastsOf_50 : zat mX8_lastsOf 50 1 51 (.iload_n 3) := ⟨by decide +kernel, rfl⟩
theorem iX8_lastsOf_51 : zat mX8_lastsOf 51 1 52 (.iload_n 1) := ⟨by decide +kernel, rfl⟩
theorem iX8_lastsOf_52 : zbr mX8_lastsOf 52 55 57 (.if_icmp .ge) := ⟨5, by decide +kernel, rfl, rfl⟩
theorem iX8_lastsOf_55 : zat mX8_lastsOf 55 1 56 (.iload_n 2) := ⟨by decide +kernel, rfl⟩
theorem iX8_lastsOf_56 : zat mX8_lastsOf 56 1 57 (.ireturn) := ⟨by decide +kernel, rfl⟩
theorem iX8_lastsOf_57 : zat mX8_lastsOf 57 1 58 (.aload_n 0) := ⟨by decide +kernel, rfl⟩
theorem iX8_lastsOf_58 : zat mX8_lastsOf 58 3 61 (.invokevirtual 190) := ⟨by decide +kernel, rfl⟩
theorem iX8_lastsOf_61 : zat mX8_lastsOf 61 1 62 (.pop) := ⟨by decide +kernel, rfl⟩
theorem iX8_lastsOf_62 : zat mX8_lastsOf 62 3 65 (.iinc 2 1) := ⟨by decide +kernel, rfl⟩
theorem iX8_lastsOf_65 : zbr mX8_lastsOf 65 68 6 (.goto) := ⟨-59, by decide +kernel, rfl, rfl⟩
theorem iX8_lastsOf_68 : zat mX8_lastsOf 68 2 70 (.bipush 100) := ⟨by decide +kernel, rfl⟩
theorem iX8_lastsOf_70 : zat mX8_lastsOf 70 1 71 (.ireturn) := ⟨by decide +kernel, rfl⟩
theorem iX8_lasts_0 : zat mX8_lasts 0 1 1 (.iload_n 1) := ⟨by decide +kernel, rfl⟩
theorem iX8_lasts_1 : zat mX8_lasts 1 1 2 (.i2l) := ⟨by decide +kernel, rfl⟩
theorem iX8_lasts_2 : zat mX8_lasts 2 1 3 (.lconst 1) := ⟨by decide +kernel, rfl⟩
theorem iX8_lasts_3 : zat mX8_lasts 3 3 6 (.ldc2_w 234) := ⟨by decide +kernel, rfl⟩
theorem iX8_lasts_6 : zat mX8_lasts 6 3 9 (.invokestatic 79) := ⟨by decide +kernel, rfl⟩
theorem iX8_lasts_9 : zbr mX8_lasts 9 12 15 (.ifCond .ne) := ⟨6, by decide +kernel, rfl, rfl⟩
theorem iX8_lasts_12 : zat mX8_lasts 12 2 14 (.bipush (-102)) := ⟨by decide +kernel, rfl⟩
theorem iX8_lasts_14 : zat mX8_lasts 14 1 15 (.ireturn) := ⟨by decide +kernel, rfl⟩
theorem iX8_lasts_15 : zat mX8_lasts 15 1 16 (.aload_n 0) := ⟨by decide +kernel, rfl⟩
theorem iX8_lasts_16 : zat mX8_lasts 16 3 19 (.invokevirtual 225) := ⟨by decide +kernel, rfl⟩
theorem iX8_lasts_19 : zbr mX8_lasts 19 22 27 (.ifCond .eq) := ⟨8, by decide +kernel, rfl, rfl⟩
theorem iX8_lasts_22 : zat mX8_lasts 22 2 24 (.bipush (-103)) := ⟨by decide +kernel, rfl⟩
theorem iX8_lasts_24 : zbr mX8_lasts 24 27 32 (.goto) := ⟨8, by decide +kernel, rfl, rfl⟩
theorem iX8_lasts_27 : zat mX8_lasts 27 1 28 (.aload_n 0) := ⟨by decide +kernel, rfl⟩
theorem iX8_lasts_28 : zat mX8_lasts 28 1 29 (.iload_n 1) := ⟨by decide +kernel, rfl⟩
theorem iX8_lasts_29 : zat mX8_lasts 29 3 32 (.invokevirtual 236) := ⟨by decide +kernel, rfl⟩
theorem iX8_lasts_32 : zat mX8_lasts 32 1 33 (.ireturn) := ⟨by decide +kernel, rfl⟩
theorem iX8_worthOf_0 : zat mX8_worthOf 0 1 1 (.aload_n 0) := ⟨by decide +kernel, rfl⟩
theorem iX8_worthOf_1 : zat mX8_worthOf 1 3 4 (.invokevirtual 165) := ⟨by decide +kernel, rfl⟩
theorem iX8_worthOf_4 : zat mX8_worthOf 4 1 5 (.iconst 1) := ⟨by decide +kernel, rfl⟩
theorem iX8_worthOf_5 : zat mX8_worthOf 5 1 6 (.istore_n 3) := ⟨by decide +kernel, rfl⟩
theorem iX8_worthOf_6 : zat mX8_worthOf 6 1 7 (.iconst 1) := ⟨by decide +kernel, rfl⟩
theorem iX8_worthOf_7 : zat mX8_worthOf 7 2 9 (.istore 4) := ⟨by decide +kernel, rfl⟩
theorem iX8_worthOf_9 : zat mX8_worthOf 9 2 11 (.iload 4) := ⟨by decide +kernel, rfl⟩
theorem iX8_worthOf_11 : zat mX8_worthOf 11 1 12 (.iload_n 2) := ⟨by decide +kernel, rfl⟩
theorem iX8_worthOf_12 : zbr mX8_worthOf 12 15 25 (.if_icmp .ge) := ⟨13, by decide +kernel, rfl, rfl⟩
theorem iX8_worthOf_15 : zat mX8_worthOf 15 1 16 (.iload_n 3) := ⟨by decide +kernel, rfl⟩
theorem iX8_worthOf_16 : zat mX8_worthOf 16 1 17 (.iconst 3) := ⟨by decide +kernel, rfl⟩
theorem iX8_worthOf_17 : zat mX8_worthOf 17 1 18 (.imul) := ⟨by decide +kernel, rfl⟩
theorem iX8_worthOf_18 : zat mX8_worthOf 18 1 19 (.istore_n 3) := ⟨by decide +kernel, rfl⟩
theorem iX8_worthOf_19 : zat mX8_worthOf 19 3 22 (.iinc 4 1) := ⟨by decide +kernel, rfl⟩
theorem iX8_worthOf_22 : zbr mX8_worthOf 22 25 9 (.goto) := ⟨-13, by decide +kernel, rfl, rfl⟩
theorem iX8_worthOf_25 : zat mX8_worthOf 25 1 26 (.iconst 0) := ⟨by decide +kernel, rfl⟩
theorem iX8_worthOf_26 : zat mX8_worthOf 26 2 28 (.istore 4) := ⟨by decide +kernel, rfl⟩
theorem iX8_worthOf_28 : zat mX8_worthOf 28 1 29 (.iconst 0) := ⟨by decide +kernel, rfl⟩
theorem iX8_worthOf_29 : zat mX8_worthOf 29 2 31 (.istore 5) := ⟨by decide +kernel, rfl⟩
theorem iX8_worthOf_31 : zat mX8_worthOf 31 2 33 (.iload 5) := ⟨by decide +kernel, rfl⟩
theorem iX8_worthOf_33 : zat mX8_worthOf 33 1 34 (.iload_n 2) := ⟨by decide +kernel, rfl⟩
theorem iX8_worthOf_34 : zbr mX8_worthOf 34 37 115 (.if_icmp .ge) := ⟨81, by decide +kernel, rfl, rfl⟩
theorem iX8_worthOf_37 : zat mX8_worthOf 37 1 38 (.iload_n 1) := ⟨by decide +kernel, rfl⟩
theorem iX8_worthOf_38 : zat mX8_worthOf 38 1 39 (.iload_n 3) := ⟨by decide +kernel, rfl⟩
theorem iX8_worthOf_39 : zat mX8_worthOf 39 1 40 (.idiv) := ⟨by decide +kernel, rfl⟩
theorem iX8_worthOf_40 : zat mX8_worthOf 40 1 41 (.iconst 3) := ⟨by decide +kernel, rfl⟩
theorem iX8_worthOf_41 : zat mX8_worthOf 41 1 42 (.irem) := ⟨by decide +kernel, rfl⟩
theorem iX8_worthOf_42 : zat mX8_worthOf 42 2 44 (.istore 6) := ⟨by decide +kernel, rfl⟩
theorem iX8_worthOf_44 : zat mX8_worthOf 44 1 45 (.iload_n 3) := ⟨by decide +kernel, rfl⟩
theorem iX8_worthOf_45 : zat mX8_worthOf 45 1 46 (.iconst 1) := ⟨by decide +kernel, rfl⟩
theorem iX8_worthOf_46 : zbr mX8_worthOf 46 49 55 (.if_icmp .le) := ⟨9, by decide +kernel, rfl, rfl⟩
theorem iX8_worthOf_49 : zat mX8_worthOf 49 1 50 (.iload_n 3) := ⟨by decide +kernel, rfl⟩
theorem iX8_worthOf_50 : zat mX8_worthOf 50 1 51 (.iconst 3) := ⟨by decide +kernel, rfl⟩
theorem iX8_worthOf_51 : zat mX8_worthOf 51 1 52 (.idiv) := ⟨by decide +kernel, rfl⟩
theorem iX8_worthOf_52 : zbr mX8_worthOf 52 55 56 (.goto) := ⟨4, by decide +kernel, rfl, rfl⟩
theorem iX8_worthOf_55 : zat mX8_worthOf 55 1 56 (.iconst 1) := ⟨by decide +kernel, rfl⟩
theorem iX8_worthOf_56 : zat mX8_worthOf 56 1 57 (.istore_n 3) := ⟨by decide +kernel, rfl⟩
theorem iX8_worthOf_57 : zat mX8_worthOf 57 1 58 (.aload_n 0) := ⟨by decide +kernel, rfl⟩
theorem iX8_worthOf_58 : zat mX8_worthOf 58 3 61 (.invokevirtual 231) := ⟨by decide +kernel, rfl⟩
theorem iX8_worthOf_61 : zat mX8_worthOf 61 1 62 (.iconst (-1)) := ⟨by decide +kernel, rfl⟩
theorem iX8_worthOf_62 : zbr mX8_worthOf 62 65 72 (.if_icmp .ne) := ⟨10, by decide +kernel, rfl, rfl⟩
theorem iX8_worthOf_65 : zat mX8_worthOf 65 2 67 (.iload 6) := ⟨by decide +kernel, rfl⟩
theorem iX8_worthOf_67 : zbr mX8_worthOf 67 70 104 (.ifCond .le) := ⟨37, by decide +kernel, rfl, rfl⟩
theorem iX8_worthOf_70 : zat mX8_worthOf 70 1 71 (.iconst (-1)) := ⟨by decide +kernel, rfl⟩
theorem iX8_worthOf_71 : zat mX8_worthOf 71 1 72 (.ireturn) := ⟨by decide +kernel, rfl⟩
theorem iX8_worthOf_72 : zat mX8_worthOf 72 2 74 (.iload 6) := ⟨by decide +kernel, rfl⟩
theorem iX8_worthOf_74 : zat mX8_worthOf 74 1 75 (.aload_n 0) := ⟨by decide +kernel, rfl⟩
theorem iX8_worthOf_75 : zat mX8_worthOf 75 3 78 (.getfield 110) := ⟨by decide +kernel, rfl⟩
theorem iX8_worthOf_78 : zbr mX8_worthOf 78 81 90 (.if_icmp .ge) := ⟨12, by decide +kernel, rfl, rfl⟩
theorem iX8_worthOf_81 : zat mX8_worthOf 81 1 82 (.aload_n 0) := ⟨by decide +kernel, rfl⟩
theorem iX8_worthOf_82 : zat mX8_worthOf 82 2 84 (.iload 6) := ⟨by decide +kernel, rfl⟩
theorem iX8_worthOf_84 : zat mX8_worthOf 84 3 87 (.invokevirtual 216) := ⟨by decide +kernel, rfl⟩
theorem iX8_worthOf_87 : zbr mX8_worthOf 87 90 92 (.ifCond .ne) := ⟨5, by decide +kernel, rfl, rfl⟩
theorem iX8_worthOf_90 : zat mX8_worthOf 90 1 91 (.iconst (-1)) := ⟨by decide +kernel, rfl⟩
theorem iX8_worthOf_91 : zat mX8_worthOf 91 1 92 (.ireturn) := ⟨by decide +kernel, rfl⟩
theorem iX8_worthOf_92 : zat mX8_worthOf 92 2 94 (.iload 4) := ⟨by decide +kernel, rfl⟩
theorem iX8_worthOf_94 : zat mX8_worthOf 94 1 95 (.aload_n 0) := ⟨by decide +kernel, rfl⟩
theorem iX8_worthOf_95 : zat mX8_worthOf 95 2 97 (.iload 6) := ⟨by decide +kernel, rfl⟩
theorem iX8_worthOf_97 : zat mX8_worthOf 97 1 98 (.iconst 3) := ⟨by decide +kernel, rfl⟩
theorem iX8_worthOf_98 : zat mX8_worthOf 98 3 101 (.invokevirtual 219) := ⟨by decide +kernel, rfl⟩
theorem iX8_worthOf_101 : zat mX8_worthOf 101 1 102 (.iadd) := ⟨by decide +kernel, rfl⟩
theorem iX8_worthOf_102 : zat mX8_worthOf 102 2 104 (.istore 4) := ⟨by decide +kernel, rfl⟩
theorem iX8_worthOf_104 : zat mX8_worthOf 104 1 105 (.aload_n 0) := ⟨by decide +kernel, rfl⟩
theorem iX8_worthOf_105 : zat mX8_worthOf 105 3 108 (.invokevirtual 190) := ⟨by decide +kernel, rfl⟩
theorem iX8_worthOf_108 : zat mX8_worthOf 108 1 109 (.pop) := ⟨by decide +kernel, rfl⟩
theorem iX8_worthOf_109 : zat mX8_worthOf 109 3 112 (.iinc 5 1) := ⟨by decide +kernel, rfl⟩
theorem iX8_worthOf_112 : zbr mX8_worthOf 112 115 31 (.goto) := ⟨-81, by decide +kernel, rfl, rfl⟩
theorem iX8_worthOf_115 : zat mX8_worthOf 115 2 117 (.iload 4) := ⟨by decide +kernel, rfl⟩
theorem iX8_worthOf_117 : zat mX8_worthOf 117 1 118 (.aload_n 0) := ⟨by decide +kernel, rfl⟩
theorem iX8_worthOf_118 : zat mX8_worthOf 118 3 121 (.invokevirtual 239) := ⟨by decide +kernel, rfl⟩
theorem iX8_worthOf_121 : zat mX8_worthOf 121 1 122 (.iadd) := ⟨by decide +kernel, rfl⟩
theorem iX8_worthOf_122 : zat mX8_worthOf 122 1 123 (.ireturn) := ⟨by decide +kernel, rfl⟩
theorem iX8_planOf_0 : zat mX8_planOf 0 1 1 (.iconst 1) := ⟨by decide +kernel, rfl⟩
theorem iX8_planOf_1 : zat mX8_planOf 1 1 2 (.istore_n 3) := ⟨by decide +kernel, rfl⟩
theorem iX8_planOf_2 : zat mX8_planOf 2 1 3 (.iconst 0) := ⟨by decide +kernel, rfl⟩
theorem iX8_planOf_3 : zat mX8_planOf 3 2 5 (.istore 4) := ⟨by decide +kernel, rfl⟩
theorem iX8_planOf_5 : zat mX8_planOf 5 2 7 (.iload 4) := ⟨by decide +kernel, rfl⟩
theorem iX8_planOf_7 : zat mX8_planOf 7 1 8 (.iload_n 1) := ⟨by decide +kernel, rfl⟩
theorem iX8_planOf_8 : zbr mX8_planOf 8 11 21 (.if_icmp .ge) := ⟨13, by decide +kernel, rfl, rfl⟩
theorem iX8_planOf_11 : zat mX8_planOf 11 1 12 (.iload_n 3) := ⟨by decide +kernel, rfl⟩
theorem iX8_planOf_12 : zat mX8_planOf 12 1 13 (.iconst 3) := ⟨by decide +kernel, rfl⟩
theorem iX8_planOf_13 : zat mX8_planOf 13 1 14 (.imul) := ⟨by decide +kernel, rfl⟩
theorem iX8_planOf_14 : zat mX8_planOf 14 1 15 (.istore_n 3) := ⟨by decide +kernel, rfl⟩
theorem iX8_planOf_15 : zat mX8_planOf 15 3 18 (.iinc 4 1) := ⟨by decide +kernel, rfl⟩
theorem iX8_planOf_18 : zbr mX8_planOf 18 21 5 (.goto) := ⟨-13, by decide +kernel, rfl, rfl⟩
theorem iX8_planOf_21 : zat mX8_planOf 21 1 22 (.iconst (-1)) := ⟨by decide +kernel, rfl⟩
theorem iX8_planOf_22 : zat mX8_planOf 22 2 24 (.istore 4) := ⟨by decide +kernel, rfl⟩
theorem iX8_planOf_24 : zat mX8_planOf 24 1 25 (.iconst 0) := ⟨by decide +kernel, rfl⟩
theorem iX8_planOf_25 : zat mX8_planOf 25 2 27 (.istore 5) := ⟨by decide +kernel, rfl⟩
theorem iX8_planOf_27 : zat mX8_planOf 27 1 28 (.iconst 0) := ⟨by decide +kernel, rfl⟩
theorem iX8_planOf_28 : zat mX8_planOf 28 2 30 (.istore 6) := ⟨by decide +kernel, rfl⟩
theorem iX8_planOf_30 : zat mX8_planOf 30 2 32 (.iload 6) := ⟨by decide +kernel, rfl⟩
theorem iX8_planOf_32 : zat mX8_planOf 32 1 33 (.iload_n 3) := ⟨by decide +kernel, rfl⟩
theorem iX8_planOf_33 : zbr mX8_planOf 33 36 66 (.if_icmp .ge) := ⟨33, by decide +kernel, rfl, rfl⟩
theorem iX8_planOf_36 : zat mX8_planOf 36 1 37 (.aload_n 0) := ⟨by decide +kernel, rfl⟩
theorem iX8_planOf_37 : zat mX8_planOf 37 2 39 (.iload 6) := ⟨by decide +kernel, rfl⟩
theorem iX8_planOf_39 : zat mX8_planOf 39 1 40 (.iload_n 1) := ⟨by decide +kernel, rfl⟩
theorem iX8_planOf_40 : zat mX8_planOf 40 3 43 (.invokevirtual 242) := ⟨by decide +kernel, rfl⟩
theorem iX8_planOf_43 : zat mX8_planOf 43 2 45 (.istore 7) := ⟨by decide +kernel, rfl⟩
theorem iX8_planOf_45 : zat mX8_planOf 45 2 47 (.iload 7) := ⟨by decide +kernel, rfl⟩
theorem iX8_planOf_47 : zat mX8_planOf 47 2 49 (.iload 4) := ⟨by decide +kernel, rfl⟩
theorem iX8_planOf_49 : zbr mX8_planOf 49 52 60 (.if_icmp .le) := ⟨11, by decide +kernel, rfl, rfl⟩
theorem iX8_planOf_52 : zat mX8_planOf 52 2 54 (.iload 7) := ⟨by decide +kernel, rfl⟩
theorem iX8_planOf_54 : zat mX8_planOf 54 2 56 (.istore 4) := ⟨by decide +kernel, rfl⟩
theorem iX8_planOf_56 : zat mX8_planOf 56 2 58 (.iload 6) := ⟨by decide +kernel, rfl⟩
theorem iX8_planOf_58 : zat mX8_planOf 58 2 60 (.istore 5) := ⟨by decide +kernel, rfl⟩
theorem iX8_planOf_60 : zat mX8_planOf 60 3 63 (.iinc 6 1) := ⟨by decide +kernel, rfl⟩
theorem iX8_planOf_63 : zbr mX8_planOf 63 66 30 (.goto) := ⟨-33, by decide +kernel, rfl, rfl⟩
theorem iX8_planOf_66 : zat mX8_planOf 66 1 67 (.iload_n 2) := ⟨by decide +kernel, rfl⟩
theorem iX8_planOf_67 : zbr mX8_planOf 67 70 73 (.ifCond .ne) := ⟨6, by decide +kernel, rfl, rfl⟩
theorem iX8_planOf_70 : zat mX8_planOf 70 2 72 (.iload 4) := ⟨by decide +kernel, rfl⟩
theorem iX8_planOf_72 : zat mX8_planOf 72 1 73 (.ireturn) := ⟨by decide +kernel, rfl⟩
theorem iX8_planOf_73 : zat mX8_planOf 73 1 74 (.iload_n 2) := ⟨by decide +kernel, rfl⟩
theorem iX8_planOf_74 : zat mX8_planOf 74 2 76 (.bipush 10) := ⟨by decide +kernel, rfl⟩
theorem iX8_planOf_76 : zat mX8_planOf 76 1 77 (.isub) := ⟨by decide +kernel, rfl⟩
theorem iX8_planOf_77 : zat mX8_planOf 77 1 78 (.iload_n 1) := ⟨by decide +kernel, rfl⟩
theorem iX8_planOf_78 : zbr mX8_planOf 78 81 95 (.if_icmp .ge) := ⟨17, by decide +kernel, rfl, rfl⟩
theorem iX8_planOf_81 : zat mX8_planOf 81 1 82 (.aload_n 0) := ⟨by decide +kernel, rfl⟩
theorem iX8_planOf_82 : zat mX8_planOf 82 2 84 (.iload 5) := ⟨by decide +kernel, rfl⟩
theorem iX8_planOf_84 : zat mX8_planOf 84 1 85 (.iload_n 1) := ⟨by decide +kernel, rfl⟩
theorem iX8_planOf_85 : zat mX8_planOf 85 1 86 (.iload_n 2) := ⟨by decide +kernel, rfl⟩
theorem iX8_planOf_86 : zat mX8_planOf 86 2 88 (.bipush 10) := ⟨by decide +kernel, rfl⟩
theorem iX8_planOf_88 : zat mX8_planOf 88 1 89 (.isub) := ⟨by decide +kernel, rfl⟩
theorem iX8_planOf_89 : zat mX8_planOf 89 3 92 (.invokevirtual 245) := ⟨by decide +kernel, rfl⟩
theorem iX8_planOf_92 : zbr mX8_planOf 92 95 96 (.goto) := ⟨4, by decide +kernel, rfl, rfl⟩
theorem iX8_planOf_95 : zat mX8_planOf 95 1 96 (.iconst (-1)) := ⟨by decide +kernel, rfl⟩
theorem iX8_planOf_96 : zat mX8_planOf 96 1 97 (.ireturn) := ⟨by decide +kernel, rfl⟩
theorem iX8_chosenAt_0 : zat mX8_chosenAt 0 1 1 (.aload_n 0) := ⟨by decide +kernel, rfl⟩
theorem iX8_chosenAt_1 : zat mX8_chosenAt 1 3 4 (.invokevirtual 165) := ⟨by decide +kernel, rfl⟩
theorem iX8_chosenAt_4 : zat mX8_chosenAt 4 1 5 (.iconst 1) := ⟨by decide +kernel, rfl⟩
theorem iX8_chosenAt_5 : zat mX8_chosenAt 5 2 7 (.istore 4) := ⟨by decide +kernel, rfl⟩
theorem iX8_chosenAt_7 : zat mX8_chosenAt 7 1 8 (.iconst 1) := ⟨by decide +kernel, rfl⟩
theorem iX8_chosenAt_8 : zat mX8_chosenAt 8 2 10 (.istore 5) := ⟨by decide +kernel, rfl⟩
theorem iX8_chosenAt_10 : zat mX8_chosenAt 10 2 12 (.iload 5) := ⟨by decide +kernel, rfl⟩
theorem iX8_chosenAt_12 : zat mX8_chosenAt 12 1 13 (.iload_n 2) := ⟨by decide +kernel, rfl⟩
theorem iX8_chosenAt_13 : zbr mX8_chosenAt 13 16 28 (.if_icmp .ge) := ⟨15, by decide +kernel, rfl, rfl⟩
theorem iX8_chosenAt_16 : zat mX8_chosenAt 16 2 18 (.iload 4) := ⟨by decide +kernel, rfl⟩
theorem iX8_chosenAt_18 : zat mX8_chosenAt 18 1 19 (.iconst 3) := ⟨by decide +kernel, rfl⟩
theorem iX8_chosenAt_19 : zat mX8_chosenAt 19 1 20 (.imul) := ⟨by decide +kernel, rfl⟩
theorem iX8_chosenAt_20 : zat mX8_chosenAt 20 2 22 (.istore 4) := ⟨by decide +kernel, rfl⟩
theorem iX8_chosenAt_22 : zat mX8_chosenAt 22 3 25 (.iinc 5 1) := ⟨by decide +kernel, rfl⟩
theorem iX8_chosenAt_25 : zbr mX8_chosenAt 25 28 10 (.goto) := ⟨-15, by decide +kernel, rfl, rfl⟩
theorem iX8_chosenAt_28 : zat mX8_chosenAt 28 1 29 (.iconst (-1)) := ⟨by decide +kernel, rfl⟩
theorem iX8_chosenAt_29 : zat mX8_chosenAt 29 2 31 (.istore 5) := ⟨by decide +kernel, rfl⟩
theorem iX8_chosenAt_31 : zat mX8_chosenAt 31 1 32 (.iconst 0) := ⟨by decide +kernel, rfl⟩
theorem iX8_chosenAt_32 : zat mX8_chosenAt 32 2 34 (.istore 6) := ⟨by decide +kernel, rfl⟩
theorem iX8_chosenAt_34 : zat mX8_chosenAt 34 2 36 (.iload 6) := ⟨by decide +kernel, rfl⟩
theorem iX8_chosenAt_36 : zat mX8_chosenAt 36 1 37 (.iload_n 3) := ⟨by decide +kernel, rfl⟩
theorem iX8_chosenAt_37 : zbr mX8_chosenAt 37 40 105 (.if_icmp .gt) := ⟨68, by decide +kernel, rfl, rfl⟩
theorem iX8_chosenAt_40 : zat mX8_chosenAt 40 1 41 (.iload_n 1) := ⟨by decide +kernel, rfl⟩
theorem iX8_chosenAt_41 : zat mX8_chosenAt 41 2 43 (.iload 4) := ⟨by decide +kernel, rfl⟩
theorem iX8_chosenAt_43 : zat mX8_chosenAt 43 1 44 (.idiv) := ⟨by decide +kernel, rfl⟩
theorem iX8_chosenAt_44 : zat mX8_chosenAt 44 1 45 (.iconst 3) := ⟨by decide +kernel, rfl⟩
theorem iX8_chosenAt_45 : zat mX8_chosenAt 45 1 46 (.irem) := ⟨by decide +kernel, rfl⟩
theorem iX8_chosenAt_46 : zat mX8_chosenAt 46 2 48 (.istore 7) := ⟨by decide +kernel, rfl⟩
theorem iX8_chosenAt_48 : zat mX8_chosenAt 48 2 50 (.iload 4) := ⟨by decide +kernel, rfl⟩
theorem iX8_chosenAt_50 : zat mX8_chosenAt 50 1 51 (.iconst 1) := ⟨by decide +kernel, rfl⟩
theorem iX8_chosenAt_51 : zbr mX8_chosenAt 51 54 61 (.if_icmp .le) := ⟨10, by decide +kernel, rfl, rfl⟩
theorem iX8_chosenAt_54 : zat mX8_chosenAt 54 2 56 (.iload 4) := ⟨by decide +kernel, rfl⟩
theorem iX8_chosenAt_56 : zat mX8_chosenAt 56 1 57 (.iconst 3) := ⟨by decide +kernel, rfl⟩
theorem iX8_chosenAt_57 : zat mX8_chosenAt 57 1 58 (.idiv) := ⟨by decide +kernel, rfl⟩
theorem iX8_chosenAt_58 : zbr mX8_chosenAt 58 61 62 (.goto) := ⟨4, by decide +kernel, rfl, rfl⟩
theorem iX8_chosenAt_61 : zat mX8_chosenAt 61 1 62 (.iconst 1) := ⟨by decide +kernel, rfl⟩
theorem iX8_chosenAt_62 : zat mX8_chosenAt 62 2 64 (.istore 4) := ⟨by decide +kernel, rfl⟩
theorem iX8_chosenAt_64 : zat mX8_chosenAt 64 1 65 (.aload_n 0) := ⟨by decide +kernel, rfl⟩
theorem iX8_chosenAt_65 : zat mX8_chosenAt 65 3 68 (.invokevirtual 231) := ⟨by decide +kernel, rfl⟩
theorem iX8_chosenAt_68 : zat mX8_chosenAt 68 1 69 (.iconst (-1)) := ⟨by decide +kernel, rfl⟩
theorem iX8_chosenAt_69 : zbr mX8_chosenAt 69 72 76 (.if_icmp .ne) := ⟨7, by decide +kernel, rfl, rfl⟩
theorem iX8_chosenAt_72 : zat mX8_chosenAt 72 1 73 (.iconst (-1)) := ⟨by decide +kernel, rfl⟩
theorem iX8_chosenAt_73 : zbr mX8_chosenAt 73 76 78 (.goto) := ⟨5, by decide +kernel, rfl, rfl⟩
theorem iX8_chosenAt_76 : zat mX8_chosenAt 76 2 78 (.iload 7) := ⟨by decide +kernel, rfl⟩
theorem iX8_chosenAt_78 : zat mX8_chosenAt 78 2 80 (.istore 5) := ⟨by decide +kernel, rfl⟩
theorem iX8_chosenAt_80 : zat mX8_chosenAt 80 2 82 (.iload 5) := ⟨by decide +kernel, rfl⟩
theorem iX8_chosenAt_82 : zat mX8_chosenAt 82 1 83 (.iconst (-1)) := ⟨by decide +kernel, rfl⟩
theorem iX8_chosenAt_83 : zbr mX8_chosenAt 83 86 94 (.if_icmp .eq) := ⟨11, by decide +kernel, rfl, rfl⟩
theorem iX8_chosenAt_86 : zat mX8_chosenAt 86 1 87 (.aload_n 0) := ⟨by decide +kernel, rfl⟩
theorem iX8_chosenAt_87 : zat mX8_chosenAt 87 2 89 (.iload 7) := ⟨by decide +kernel, rfl⟩
theorem iX8_chosenAt_89 : zat mX8_chosenAt 89 1 90 (.iconst 3) := ⟨by decide +kernel, rfl⟩
theorem iX8_chosenAt_90 : zat mX8_chosenAt 90 3 93 (.invokevirtual 219) := ⟨by decide +kernel, rfl⟩
theorem iX8_chosenAt_93 : zat mX8_chosenAt 93 1 94 (.pop) := ⟨by decide +kernel, rfl⟩
theorem iX8_chosenAt_94 : zat mX8_chosenAt 94 1 95 (.aload_n 0) := ⟨by decide +kernel, rfl⟩
theorem iX8_chosenAt_95 : zat mX8_chosenAt 95 3 98 (.invokevirtual 190) := ⟨by decide +kernel, rfl⟩
theorem iX8_chosenAt_98 : zat mX8_chosenAt 98 1 99 (.pop) := ⟨by decide +kernel, rfl⟩
theorem iX8_chosenAt_99 : zat mX8_chosenAt 99 3 102 (.iinc 6 1) := ⟨by decide +kernel, rfl⟩
theorem iX8_chosenAt_102 : zbr mX8_chosenAt 102 105 34 (.goto) := ⟨-68, by decide +kernel, rfl, rfl⟩
theorem iX8_chosenAt_105 : zat mX8_chosenAt 105 2 107 (.iload 5) := ⟨by decide +kernel, rfl⟩
theorem iX8_chosenAt_107 : zat mX8_chosenAt 107 1 108 (.ireturn) := ⟨by decide +kernel, rfl⟩
theorem iX8_plan_0 : zat mX8_plan 0 1 1 (.iload_n 1) := ⟨by decide +kernel, rfl⟩
theorem iX8_plan_1 : zat mX8_plan 1 1 2 (.i2l) := ⟨by decide +kernel, rfl⟩
theorem iX8_plan_2 : zat mX8_plan 2 1 3 (.lconst 1) := ⟨by decide +kernel, rfl⟩
theorem iX8_plan_3 : zat mX8_plan 3 3 6 (.ldc2_w 185) := ⟨by decide +kernel, rfl⟩
theorem iX8_plan_6 : zat mX8_plan 6 3 9 (.invokestatic 79) := ⟨by decide +kernel, rfl⟩
theorem iX8_plan_9 : zbr mX8_plan 9 12 30 (.ifCond .eq) := ⟨21, by decide +kernel, rfl, rfl⟩
theorem iX8_plan_12 : zat mX8_plan 12 1 13 (.iload_n 2) := ⟨by decide +kernel, rfl⟩
theorem iX8_plan_13 : zbr mX8_plan 13 16 33 (.ifCond .eq) := ⟨20, by decide +kernel, rfl, rfl⟩
theorem iX8_plan_16 : zat mX8_plan 16 1 17 (.iload_n 2) := ⟨by decide +kernel, rfl⟩
theorem iX8_plan_17 : zat mX8_plan 17 1 18 (.i2l) := ⟨by decide +kernel, rfl⟩
theorem iX8_plan_18 : zat mX8_plan 18 3 21 (.ldc2_w 168) := ⟨by decide +kernel, rfl⟩
theorem iX8_plan_21 : zat mX8_plan 21 3 24 (.ldc2_w 249) := ⟨by decide +kernel, rfl⟩
theorem iX8_plan_24 : zat mX8_plan 24 3 27 (.invokestatic 79) := ⟨by decide +kernel, rfl⟩
theorem iX8_plan_27 : zbr mX8_plan 27 30 33 (.ifCond .ne) := ⟨6, by decide +kernel, rfl, rfl⟩
theorem iX8_plan_30 : zat mX8_plan 30 2 32 (.bipush (-102)) := ⟨by decide +kernel, rfl⟩
theorem iX8_plan_32 : zat mX8_plan 32 1 33 (.ireturn) := ⟨by decide +kernel, rfl⟩
theorem iX8_plan_33 : zat mX8_plan 33 1 34 (.aload_n 0) := ⟨by decide +kernel, rfl⟩
theorem iX8_plan_34 : zat mX8_plan 34 3 37 (.invokevirtual 225) := ⟨by decide +kernel, rfl⟩
theorem iX8_plan_37 : zbr mX8_plan 37 40 45 (.ifCond .eq) := ⟨8, by decide +kernel, rfl, rfl⟩
theorem iX8_plan_40 : zat mX8_plan 40 2 42 (.bipush (-103)) := ⟨by decide +kernel, rfl⟩
theorem iX8_plan_42 : zbr mX8_plan 42 45 51 (.goto) := ⟨9, by decide +kernel, rfl, rfl⟩
theorem iX8_plan_45 : zat mX8_plan 45 1 46 (.aload_n 0) := ⟨by decide +kernel, rfl⟩
theorem iX8_plan_46 : zat mX8_plan 46 1 47 (.iload_n 1) := ⟨by decide +kernel, rfl⟩
theorem iX8_plan_47 : zat mX8_plan 47 1 48 (.iload_n 2) := ⟨by decide +kernel, rfl⟩
theorem iX8_plan_48 : zat mX8_plan 48 3 51 (.invokevirtual 251) := ⟨by decide +kernel, rfl⟩
theorem iX8_plan_51 : zat mX8_plan 51 1 52 (.ireturn) := ⟨by decide +kernel, rfl⟩
theorem iX8_shareOf_0 : zat mX8_shareOf 0 1 1 (.iconst 1) := ⟨by decide +kernel, rfl⟩
theorem iX8_shareOf_1 : zat mX8_shareOf 1 1 2 (.aload_n 0) := ⟨by decide +kernel, rfl⟩
theorem iX8_shareOf_2 : zat mX8_shareOf 2 3 5 (.getfield 113) := ⟨by decide +kernel, rfl⟩
theorem iX8_shareOf_5 : zat mX8_shareOf 5 1 6 (.ishl) := ⟨by decide +kernel, rfl⟩
theorem iX8_shareOf_6 : zat mX8_shareOf 6 1 7 (.istore_n 2) := ⟨by decide +kernel, rfl⟩
theorem iX8_shareOf_7 : zat mX8_shareOf 7 1 8 (.iconst 0) := ⟨by decide +kernel, rfl⟩
theorem iX8_shareOf_8 : zat mX8_shareOf 8 1 9 (.istore_n 3) := ⟨by decide +kernel, rfl⟩
theorem iX8_shareOf_9 : zat mX8_shareOf 9 1 10 (.iload_n 3) := ⟨by decide +kernel, rfl⟩
theorem iX8_shareOf_10 : zat mX8_shareOf 10 1 11 (.iload_n 2) := ⟨by decide +kernel, rfl⟩
theorem iX8_shareOf_11 : zbr mX8_shareOf 11 14 87 (.if_icmp .ge) := ⟨76, by decide +kernel, rfl, rfl⟩
theorem iX8_shareOf_14 : zat mX8_shareOf 14 1 15 (.aload_n 0) := ⟨by decide +kernel, rfl⟩
theorem iX8_shareOf_15 : zat mX8_shareOf 15 3 18 (.getfield 43) := ⟨by decide +kernel, rfl⟩
theorem iX8_shareOf_18 : zat mX8_shareOf 18 1 19 (.iload_n 3) := ⟨by decide +kernel, rfl⟩
theorem iX8_shareOf_19 : zat mX8_shareOf 19 1 20 (.iconst 0) := ⟨by decide +kernel, rfl⟩
theorem iX8_shareOf_20 : zat mX8_shareOf 20 1 21 (.iastore) := ⟨by decide +kernel, rfl⟩
theorem iX8_shareOf_21 : zat mX8_shareOf 21 1 22 (.iconst 0) := ⟨by decide +kernel, rfl⟩
theorem iX8_shareOf_22 : zat mX8_shareOf 22 2 24 (.istore 4) := ⟨by decide +kernel, rfl⟩
theorem iX8_shareOf_24 : zat mX8_shareOf 24 2 26 (.iload 4) := ⟨by decide +kernel, rfl⟩
theorem iX8_shareOf_26 : zat mX8_shareOf 26 1 27 (.aload_n 0) := ⟨by decide +kernel, rfl⟩
theorem iX8_shareOf_27 : zat mX8_shareOf 27 3 30 (.getfield 113) := ⟨by decide +kernel, rfl⟩
theorem iX8_shareOf_30 : zbr mX8_shareOf 30 33 69 (.if_icmp .ge) := ⟨39, by decide +kernel, rfl, rfl⟩
theorem iX8_shareOf_33 : zat mX8_shareOf 33 1 34 (.aload_n 0) := ⟨by decide +kernel, rfl⟩
theorem iX8_shareOf_34 : zat mX8_shareOf 34 3 37 (.getfield 43) := ⟨by decide +kernel, rfl⟩
theorem iX8_shareOf_37 : zat mX8_shareOf 37 1 38 (.iload_n 3) := ⟨by decide +kernel, rfl⟩
theorem iX8_shareOf_38 : zat mX8_shareOf 38 1 39 (.dup2) := ⟨by decide +kernel, rfl⟩
theorem iX8_shareOf_39 : zat mX8_shareOf 39 1 40 (.iaload) := ⟨by decide +kernel, rfl⟩
theorem iX8_shareOf_40 : zat mX8_shareOf 40 1 41 (.iload_n 3) := ⟨by decide +kernel, rfl⟩
theorem iX8_shareOf_41 : zat mX8_shareOf 41 2 43 (.iload 4) := ⟨by decide +kernel, rfl⟩
theorem iX8_shareOf_43 : zat mX8_shareOf 43 1 44 (.ishr) := ⟨by decide +kernel, rfl⟩
theorem iX8_shareOf_44 : zat mX8_shareOf 44 1 45 (.iconst 1) := ⟨by decide +kernel, rfl⟩
theorem iX8_shareOf_45 : zat mX8_shareOf 45 1 46 (.iand) := ⟨by decide +kernel, rfl⟩
theorem iX8_shareOf_46 : zat mX8_shareOf 46 1 47 (.iconst 1) := ⟨by decide +kernel, rfl⟩
theorem iX8_shareOf_47 : zbr mX8_shareOf 47 50 60 (.if_icmp .ne) := ⟨13, by decide +kernel, rfl, rfl⟩
theorem iX8_shareOf_50 : zat mX8_shareOf 50 1 51 (.aload_n 0) := ⟨by decide +kernel, rfl⟩
theorem iX8_shareOf_51 : zat mX8_shareOf 51 3 54 (.getfield 25) := ⟨by decide +kernel, rfl⟩
theorem iX8_shareOf_54 : zat mX8_shareOf 54 2 56 (.iload 4) := ⟨by decide +kernel, rfl⟩
theorem iX8_shareOf_56 : zat mX8_shareOf 56 1 57 (.iaload) := ⟨by decide +kernel, rfl⟩
theorem iX8_shareOf_57 : zbr mX8_shareOf 57 60 61 (.goto) := ⟨4, by decide +kernel, rfl, rfl⟩
theorem iX8_shareOf_60 : zat mX8_shareOf 60 1 61 (.iconst 0) := ⟨by decide +kernel, rfl⟩
theorem iX8_shareOf_61 : zat mX8_shareOf 61 1 62 (.iadd) := ⟨by decide +kernel, rfl⟩
theorem iX8_shareOf_62 : zat mX8_shareOf 62 1 63 (.iastore) := ⟨by decide +kernel, rfl⟩
theorem iX8_shareOf_63 : zat mX8_shareOf 63 3 66 (.iinc 4 1) := ⟨by decide +kernel, rfl⟩
theorem iX8_shareOf_66 : zbr mX8_shareOf 66 69 24 (.goto) := ⟨-42, by decide +kernel, rfl, rfl⟩
theorem iX8_shareOf_69 : zat mX8_shareOf 69 1 70 (.aload_n 0) := ⟨by decide +kernel, rfl⟩
theorem iX8_shareOf_70 : zat mX8_shareOf 70 3 73 (.getfield 46) := ⟨by decide +kernel, rfl⟩
theorem iX8_shareOf_73 : zat mX8_shareOf 73 1 74 (.iload_n 3) := ⟨by decide +kernel, rfl⟩
theorem iX8_shareOf_74 : zat mX8_shareOf 74 1 75 (.aload_n 0) := ⟨by decide +kernel, rfl⟩
theorem iX8_shareOf_75 : zat mX8_shareOf 75 3 78 (.getfield 43) := ⟨by decide +kernel, rfl⟩
theorem iX8_shareOf_78 : zat mX8_shareOf 78 1 79 (.iload_n 3) := ⟨by decide +kernel, rfl⟩
theorem iX8_shareOf_79 : zat mX8_shareOf 79 1 80 (.iaload) := ⟨by decide +kernel, rfl⟩
theorem iX8_shareOf_80 : zat mX8_shareOf 80 1 81 (.iastore) := ⟨by decide +kernel, rfl⟩
theorem iX8_shareOf_81 : zat mX8_shareOf 81 3 84 (.iinc 3 1) := ⟨by decide +kernel, rfl⟩
theorem iX8_shareOf_84 : zbr mX8_shareOf 84 87 9 (.goto) := ⟨-75, by decide +kernel, rfl, rfl⟩
theorem iX8_shareOf_87 : zat mX8_shareOf 87 1 88 (.iconst 1) := ⟨by decide +kernel, rfl⟩
theorem iX8_shareOf_88 : zat mX8_shareOf 88 1 89 (.istore_n 3) := ⟨by decide +kernel, rfl⟩
theorem iX8_shareOf_89 : zat mX8_shareOf 89 1 90 (.iload_n 3) := ⟨by decide +kernel, rfl⟩
theorem iX8_shareOf_90 : zat mX8_shareOf 90 1 91 (.iload_n 1) := ⟨by decide +kernel, rfl⟩
theorem iX8_shareOf_91 : zbr mX8_shareOf 91 94 213 (.if_icmp .ge) := ⟨122, by decide +kernel, rfl, rfl⟩
theorem iX8_shareOf_94 : zat mX8_shareOf 94 1 95 (.iconst 0) := ⟨by decide +kernel, rfl⟩
theorem iX8_shareOf_95 : zat mX8_shareOf 95 2 97 (.istore 4) := ⟨by decide +kernel, rfl⟩
theorem iX8_shareOf_97 : zat mX8_shareOf 97 2 99 (.iload 4) := ⟨by decide +kernel, rfl⟩
theorem iX8_shareOf_99 : zat mX8_shareOf 99 1 100 (.iload_n 2) := ⟨by decide +kernel, rfl⟩
theorem iX8_shareOf_100 : zbr mX8_shareOf 100 103 196 (.if_icmp .ge) := ⟨96, by decide +kernel, rfl, rfl⟩
theorem iX8_shareOf_103 : zat mX8_shareOf 103 1 104 (.iconst 0) := ⟨by decide +kernel, rfl⟩
theorem iX8_shareOf_104 : zat mX8_shareOf 104 2 106 (.istore 5) := ⟨by decide +kernel, rfl⟩
theorem iX8_shareOf_106 : zat mX8_shareOf 106 2 108 (.iload 4) := ⟨by decide +kernel, rfl⟩
theorem iX8_shareOf_108 : zat mX8_shareOf 108 2 110 (.istore 6) := ⟨by decide +kernel, rfl⟩
theorem iX8_shareOf_110 : zat mX8_shareOf 110 2 112 (.iload 6) := ⟨by decide +kernel, rfl⟩
theorem iX8_shareOf_112 : zbr mX8_shareOf 112 115 181 (.ifCond .le) := ⟨69, by decide +kernel, rfl, rfl⟩
theorem iX8_shareOf_115 : zat mX8_shareOf 115 1 116 (.aload_n 0) := ⟨by decide +kernel, rfl⟩
theorem iX8_shareOf_116 : zat mX8_shareOf 116 3 119 (.getfield 46) := ⟨by decide +kernel, rfl⟩
theorem iX8_shareOf_119 : zat mX8_shareOf 119 2 121 (.iload 4) := ⟨by decide +kernel, rfl⟩
theorem iX8_shareOf_121 : zat mX8_shareOf 121 2 123 (.iload 6) := ⟨by decide +kernel, rfl⟩
theorem iX8_shareOf_123 : zat mX8_shareOf 123 1 124 (.isub) := ⟨by decide +kernel, rfl⟩
theorem iX8_shareOf_124 : zat mX8_shareOf 124 1 125 (.iaload) := ⟨by decide +kernel, rfl⟩
theorem iX8_shareOf_125 : zat mX8_shareOf 125 2 127 (.istore 7) := ⟨by decide +kernel, rfl⟩
theorem iX8_shareOf_127 : zat mX8_shareOf 127 1 128 (.aload_n 0) := ⟨by decide +kernel, rfl⟩
theorem iX8_shareOf_128 : zat mX8_shareOf 128 3 131 (.getfield 43) := ⟨by decide +kernel, rfl⟩
theorem iX8_shareOf_131 : zat mX8_shareOf 131 2 133 (.iload 6) := ⟨by decide +kernel, rfl⟩
theorem iX8_shareOf_133 : zat mX8_shareOf 133 1 134 (.iaload) := ⟨by decide +kernel, rfl⟩
theorem iX8_shareOf_134 : zat mX8_shareOf 134 2 136 (.iload 7) := ⟨by decide +kernel, rfl⟩
theorem iX8_shareOf_136 : zbr mX8_shareOf 136 139 149 (.if_icmp .ge) := ⟨13, by decide +kernel, rfl, rfl⟩
theorem iX8_shareOf_139 : zat mX8_shareOf 139 1 140 (.aload_n 0) := ⟨by decide +kernel, rfl⟩
theorem iX8_shareOf_140 : zat mX8_shareOf 140 3 143 (.getfield 43) := ⟨by decide +kernel, rfl⟩
theorem iX8_shareOf_143 : zat mX8_shareOf 143 2 145 (.iload 6) := ⟨by decide +kernel, rfl⟩
theorem iX8_shareOf_145 : zat mX8_shareOf 145 1 146 (.iaload) := ⟨by decide +kernel, rfl⟩
theorem iX8_shareOf_146 : zbr mX8_shareOf 146 149 151 (.goto) := ⟨5, by decide +kernel, rfl, rfl⟩
theorem iX8_shareOf_149 : zat mX8_shareOf 149 2 151 (.iload 7) := ⟨by decide +kernel, rfl⟩
theorem iX8_shareOf_151 : zat mX8_shareOf 151 2 153 (.istore 8) := ⟨by decide +kernel, rfl⟩
theorem iX8_shareOf_153 : zat mX8_shareOf 153 2 155 (.iload 8) := ⟨by decide +kernel, rfl⟩
theorem iX8_shareOf_155 : zat mX8_shareOf 155 2 157 (.iload 5) := ⟨by decide +kernel, rfl⟩
theorem iX8_shareOf_157 : zbr mX8_shareOf 157 160 165 (.if_icmp .le) := ⟨8, by decide +kernel, rfl, rfl⟩
theorem iX8_shareOf_160 : zat mX8_shareOf 160 2 162 (.iload 8) := ⟨by decide +kernel, rfl⟩
theorem iX8_shareOf_162 : zbr mX8_shareOf 162 165 167 (.goto) := ⟨5, by decide +kernel, rfl, rfl⟩
theorem iX8_shareOf_165 : zat mX8_shareOf 165 2 167 (.iload 5) := ⟨by decide +kernel, rfl⟩
theorem iX8_shareOf_167 : zat mX8_shareOf 167 2 169 (.istore 5) := ⟨by decide +kernel, rfl⟩
theorem iX8_shareOf_169 : zat mX8_shareOf 169 2 171 (.iload 6) := ⟨by decide +kernel, rfl⟩
theorem iX8_shareOf_171 : zat mX8_shareOf 171 1 172 (.iconst 1) := ⟨by decide +kernel, rfl⟩
theorem iX8_shareOf_172 : zat mX8_shareOf 172 1 173 (.isub) := ⟨by decide +kernel, rfl⟩
theorem iX8_shareOf_173 : zat mX8_shareOf 173 2 175 (.iload 4) := ⟨by decide +kernel, rfl⟩
theorem iX8_shareOf_175 : zat mX8_shareOf 175 1 176 (.iand) := ⟨by decide +kernel, rfl⟩
theorem iX8_shareOf_176 : zat mX8_shareOf 176 2 178 (.istore 6) := ⟨by decide +kernel, rfl⟩
theorem iX8_shareOf_178 : zbr mX8_shareOf 178 181 110 (.goto) := ⟨-68, by decide +kernel, rfl, rfl⟩
theorem iX8_shareOf_181 : zat mX8_shareOf 181 1 182 (.aload_n 0) := ⟨by decide +kernel, rfl⟩
theorem iX8_shareOf_182 : zat mX8_shareOf 182 3 185 (.getfield 49) := ⟨by decide +kernel, rfl⟩
theorem iX8_shareOf_185 : zat mX8_shareOf 185 2 187 (.iload 4) := ⟨by decide +kernel, rfl⟩
theorem iX8_shareOf_187 : zat mX8_shareOf 187 2 189 (.iload 5) := ⟨by decide +kernel, rfl⟩
theorem iX8_shareOf_189 : zat mX8_shareOf 189 1 190 (.iastore) := ⟨by decide +kernel, rfl⟩
theorem iX8_shareOf_190 : zat mX8_shareOf 190 3 193 (.iinc 4 1) := ⟨by decide +kernel, rfl⟩
theorem iX8_shareOf_193 : zbr mX8_shareOf 193 196 97 (.goto) := ⟨-96, by decide +kernel, rfl, rfl⟩
theorem iX8_shareOf_196 : zat mX8_shareOf 196 1 197 (.aload_n 0) := ⟨by decide +kernel, rfl⟩
theorem iX8_shareOf_197 : zat mX8_shareOf 197 3 200 (.getfield 49) := ⟨by decide +kernel, rfl⟩
theorem iX8_shareOf_200 : zat mX8_shareOf 200 1 201 (.aload_n 0) := ⟨by decide +kernel, rfl⟩
theorem iX8_shareOf_201 : zat mX8_shareOf 201 3 204 (.getfield 46) := ⟨by decide +kernel, rfl⟩
theorem iX8_shareOf_204 : zat mX8_shareOf 204 3 207 (.invokestatic 131) := ⟨by decide +kernel, rfl⟩
theorem iX8_shareOf_207 : zat mX8_shareOf 207 3 210 (.iinc 3 1) := ⟨by decide +kernel, rfl⟩
theorem iX8_shareOf_210 : zbr mX8_shareOf 210 213 89 (.goto) := ⟨-121, by decide +kernel, rfl, rfl⟩
theorem iX8_shareOf_213 : zat mX8_shareOf 213 1 214 (.aload_n 0) := ⟨by decide +kernel, rfl⟩
theorem iX8_shareOf_214 : zat mX8_shareOf 214 3 217 (.getfield 46) := ⟨by decide +kernel, rfl⟩
theorem iX8_shareOf_217 : zat mX8_shareOf 217 1 218 (.iload_n 2) := ⟨by decide +kernel, rfl⟩
theorem iX8_shareOf_218 : zat mX8_shareOf 218 1 219 (.iconst 1) := ⟨by decide +kernel, rfl⟩
theorem iX8_shareOf_219 : zat mX8_shareOf 219 1 220 (.isub) := ⟨by decide +kernel, rfl⟩
theorem iX8_shareOf_220 : zat mX8_shareOf 220 1 221 (.iaload) := ⟨by decide +kernel, rfl⟩
theorem iX8_shareOf_221 : zat mX8_shareOf 221 1 222 (.ireturn) := ⟨by decide +kernel, rfl⟩
theorem iX8_share_0 : zat mX8_share 0 1 1 (.iload_n 1) := ⟨by decide +kernel, rfl⟩
theorem iX8_share_1 : zat mX8_share 1 1 2 (.i2l) := ⟨by decide +kernel, rfl⟩
theorem iX8_share_2 : zat mX8_share 2 3 5 (.ldc2_w 254) := ⟨by decide +kernel, rfl⟩
theorem iX8_share_5 : zat mX8_share 5 3 8 (.ldc2_w 214) := ⟨by decide +kernel, rfl⟩
theorem iX8_share_8 : zat mX8_share 8 3 11 (.invokestatic 79) := ⟨by decide +kernel, rfl⟩
theorem iX8_share_11 : zbr mX8_share 11 14 17 (.ifCond .ne) := ⟨6, by decide +kernel, rfl, rfl⟩
theorem iX8_share_14 : zat mX8_share 14 2 16 (.bipush (-102)) := ⟨by decide +kernel, rfl⟩
theorem iX8_share_16 : zat mX8_share 16 1 17 (.ireturn) := ⟨by decide +kernel, rfl⟩
theorem iX8_share_17 : zat mX8_share 17 1 18 (.aload_n 0) := ⟨by decide +kernel, rfl⟩
theorem iX8_share_18 : zat mX8_share 18 3 21 (.invokevirtual 225) := ⟨by decide +kernel, rfl⟩
theorem iX8_share_21 : zbr mX8_share 21 24 33 (.ifCond .ne) := ⟨12, by decide +kernel, rfl, rfl⟩
theorem iX8_share_24 : zat mX8_share 24 1 25 (.aload_n 0) := ⟨by decide +kernel, rfl⟩
theorem iX8_share_25 : zat mX8_share 25 3 28 (.getfield 256) := ⟨by decide +kernel, rfl⟩
theorem iX8_share_28 : zat mX8_share 28 2 30 (.bipush 12) := ⟨by decide +kernel, rfl⟩
theorem iX8_share_30 : zbr mX8_share 30 33 36 (.if_icmp .ne) := ⟨6, by decide +kernel, rfl, rfl⟩
theorem iX8_share_33 : zat mX8_share 33 2 35 (.bipush (-103)) := ⟨by decide +kernel, rfl⟩
theorem iX8_share_35 : zat mX8_share 35 1 36 (.ireturn) := ⟨by decide +kernel, rfl⟩
theorem iX8_share_36 : zat mX8_share 36 1 37 (.aload_n 0) := ⟨by decide +kernel, rfl⟩
theorem iX8_share_37 : zat mX8_share 37 1 38 (.dup) := ⟨by decide +kernel, rfl⟩
theorem iX8_share_38 : zat mX8_share 38 3 41 (.getfield 256) := ⟨by decide +kernel, rfl⟩
theorem iX8_share_41 : zat mX8_share 41 1 42 (.iconst 1) := ⟨by decide +kernel, rfl⟩
theorem iX8_share_42 : zat mX8_share 42 1 43 (.iadd) := ⟨by decide +kernel, rfl⟩
theorem iX8_share_43 : zat mX8_share 43 3 46 (.putfield 256) := ⟨by decide +kernel, rfl⟩
theorem iX8_share_46 : zat mX8_share 46 1 47 (.aload_n 0) := ⟨by decide +kernel, rfl⟩
theorem iX8_share_47 : zat mX8_share 47 1 48 (.iload_n 1) := ⟨by decide +kernel, rfl⟩
theorem iX8_share_48 : zat mX8_share 48 3 51 (.invokevirtual 259) := ⟨by decide +kernel, rfl⟩
theorem iX8_share_51 : zat mX8_share 51 1 52 (.ireturn) := ⟨by decide +kernel, rfl⟩
theorem iX8_burntOf_0 : zat mX8_burntOf 0 1 1 (.aload_n 0) := ⟨by decide +kernel, rfl⟩
theorem iX8_burntOf_1 : zat mX8_burntOf 1 3 4 (.invokevirtual 165) := ⟨by decide +kernel, rfl⟩
theorem iX8_burntOf_4 : zat mX8_burntOf 4 1 5 (.iconst 0) := ⟨by decide +kernel, rfl⟩
theorem iX8_burntOf_5 : zat mX8_burntOf 5 1 6 (.istore_n 2) := ⟨by decide +kernel, rfl⟩
theorem iX8_burntOf_6 : zat mX8_burntOf 6 1 7 (.iload_n 2) := ⟨by decide +kernel, rfl⟩
theorem iX8_burntOf_7 : zat mX8_burntOf 7 1 8 (.iload_n 1) := ⟨by decide +kernel, rfl⟩
theorem iX8_burntOf_8 : zbr mX8_burntOf 8 11 22 (.if_icmp .ge) := ⟨14, by decide +kernel, rfl, rfl⟩
theorem iX8_burntOf_11 : zat mX8_burntOf 11 1 12 (.aload_n 0) := ⟨by decide +kernel, rfl⟩
theorem iX8_burntOf_12 : zat mX8_burntOf 12 3 15 (.invokevirtual 190) := ⟨by decide +kernel, rfl⟩
theorem iX8_burntOf_15 : zat mX8_burntOf 15 1 16 (.pop) := ⟨by decide +kernel, rfl⟩
theorem iX8_burntOf_16 : zat mX8_burntOf 16 3 19 (.iinc 2 1) := ⟨by decide +kernel, rfl⟩
theorem iX8_burntOf_19 : zbr mX8_burntOf 19 22 6 (.goto) := ⟨-13, by decide +kernel, rfl, rfl⟩
theorem iX8_burntOf_22 : zat mX8_burntOf 22 1 23 (.iconst 0) := ⟨by decide +kernel, rfl⟩
theorem iX8_burntOf_23 : zat mX8_burntOf 23 1 24 (.istore_n 2) := ⟨by decide +kernel, rfl⟩
theorem iX8_burntOf_24 : zat mX8_burntOf 24 1 25 (.iconst 0) := ⟨by decide +kernel, rfl⟩
theorem iX8_burntOf_25 : zat mX8_burntOf 25 1 26 (.istore_n 3) := ⟨by decide +kernel, rfl⟩
theorem iX8_burntOf_26 : zat mX8_burntOf 26 1 27 (.iload_n 3) := ⟨by decide +kernel, rfl⟩
theorem iX8_burntOf_27 : zat mX8_burntOf 27 1 28 (.aload_n 0) := ⟨by decide +kernel, rfl⟩
theorem iX8_burntOf_28 : zat mX8_burntOf 28 3 31 (.getfield 113) := ⟨by decide +kernel, rfl⟩
theorem iX8_burntOf_31 : zbr mX8_burntOf 31 34 68 (.if_icmp .ge) := ⟨37, by decide +kernel, rfl, rfl⟩
theorem iX8_burntOf_34 : zat mX8_burntOf 34 1 35 (.iload_n 2) := ⟨by decide +kernel, rfl⟩
theorem iX8_burntOf_35 : zat mX8_burntOf 35 1 36 (.aload_n 0) := ⟨by decide +kernel, rfl⟩
theorem iX8_burntOf_36 : zat mX8_burntOf 36 3 39 (.getfield 25) := ⟨by decide +kernel, rfl⟩
theorem iX8_burntOf_39 : zat mX8_burntOf 39 1 40 (.iload_n 3) := ⟨by decide +kernel, rfl⟩
theorem iX8_burntOf_40 : zat mX8_burntOf 40 1 41 (.iaload) := ⟨by decide +kernel, rfl⟩
theorem iX8_burntOf_41 : zbr mX8_burntOf 41 44 59 (.ifCond .le) := ⟨18, by decide +kernel, rfl, rfl⟩
theorem iX8_burntOf_44 : zat mX8_burntOf 44 1 45 (.aload_n 0) := ⟨by decide +kernel, rfl⟩
theorem iX8_burntOf_45 : zat mX8_burntOf 45 3 48 (.getfield 34) := ⟨by decide +kernel, rfl⟩
theorem iX8_burntOf_48 : zat mX8_burntOf 48 1 49 (.iload_n 3) := ⟨by decide +kernel, rfl⟩
theorem iX8_burntOf_49 : zat mX8_burntOf 49 1 50 (.iaload) := ⟨by decide +kernel, rfl⟩
theorem iX8_burntOf_50 : zbr mX8_burntOf 50 53 59 (.ifCond .ne) := ⟨9, by decide +kernel, rfl, rfl⟩
theorem iX8_burntOf_53 : zat mX8_burntOf 53 1 54 (.iconst 1) := ⟨by decide +kernel, rfl⟩
theorem iX8_burntOf_54 : zat mX8_burntOf 54 1 55 (.iload_n 3) := ⟨by decide +kernel, rfl⟩
theorem iX8_burntOf_55 : zat mX8_burntOf 55 1 56 (.ishl) := ⟨by decide +kernel, rfl⟩
theorem iX8_burntOf_56 : zbr mX8_burntOf 56 59 60 (.goto) := ⟨4, by decide +kernel, rfl, rfl⟩
theorem iX8_burntOf_59 : zat mX8_burntOf 59 1 60 (.iconst 0) := ⟨by decide +kernel, rfl⟩
theorem iX8_burntOf_60 : zat mX8_burntOf 60 1 61 (.ior) := ⟨by decide +kernel, rfl⟩
theorem iX8_burntOf_61 : zat mX8_burntOf 61 1 62 (.istore_n 2) := ⟨by decide +kernel, rfl⟩
theorem iX8_burntOf_62 : zat mX8_burntOf 62 3 65 (.iinc 3 1) := ⟨by decide +kernel, rfl⟩
theorem iX8_burntOf_65 : zbr mX8_burntOf 65 68 26 (.goto) := ⟨-39, by decide +kernel, rfl, rfl⟩
theorem iX8_burntOf_68 : zat mX8_burntOf 68 1 69 (.iload_n 2) := ⟨by decide +kernel, rfl⟩
theorem iX8_burntOf_69 : zat mX8_burntOf 69 1 70 (.ireturn) := ⟨by decide +kernel, rfl⟩
theorem iX8_burnt_0 : zat mX8_burnt 0 1 1 (.iload_n 1) := ⟨by decide +kernel, rfl⟩
theorem iX8_burnt_1 : zat mX8_burnt 1 1 2 (.i2l) := ⟨by decide +kernel, rfl⟩
theorem iX8_burnt_2 : zat mX8_burnt 2 1 3 (.lconst 0) := ⟨by decide +kernel, rfl⟩
theorem iX8_burnt_3 : zat mX8_burnt 3 3 6 (.ldc2_w 262) := ⟨by decide +kernel, rfl⟩
theorem iX8_burnt_6 : zat mX8_burnt 6 3 9 (.invokestatic 79) := ⟨by decide +kernel, rfl⟩
theorem iX8_burnt_9 : zbr mX8_burnt 9 12 15 (.ifCond .ne) := ⟨6, by decide +kernel, rfl, rfl⟩
theorem iX8_burnt_12 : zat mX8_burnt 12 2 14 (.bipush (-102)) := ⟨by decide +kernel, rfl⟩
theorem iX8_burnt_14 : zat mX8_burnt 14 1 15 (.ireturn) := ⟨by decide +kernel, rfl⟩
theorem iX8_burnt_15 : zat mX8_burnt 15 1 16 (.aload_n 0) := ⟨by decide +kernel, rfl⟩
theorem iX8_burnt_16 : zat mX8_burnt 16 3 19 (.invokevirtual 225) := ⟨by decide +kernel, rfl⟩
theorem iX8_burnt_19 : zbr mX8_burnt 19 22 27 (.ifCond .eq) := ⟨8, by decide +kernel, rfl, rfl⟩
theorem iX8_burnt_22 : zat mX8_burnt 22 2 24 (.bipush (-103)) := ⟨by decide +kernel, rfl⟩
theorem iX8_burnt_24 : zbr mX8_burnt 24 27 32 (.goto) := ⟨8, by decide +kernel, rfl, rfl⟩
theorem iX8_burnt_27 : zat mX8_burnt 27 1 28 (.aload_n 0) := ⟨by decide +kernel, rfl⟩
theorem iX8_burnt_28 : zat mX8_burnt 28 1 29 (.iload_n 1) := ⟨by decide +kernel, rfl⟩
theorem iX8_burnt_29 : zat mX8_burnt 29 3 32 (.invokevirtual 264) := ⟨by decide +kernel, rfl⟩
theorem iX8_burnt_32 : zat mX8_burnt 32 1 33 (.ireturn) := ⟨by decide +kernel, rfl⟩
theorem iX8_see_0 : zat mX8_see 0 1 1 (.aload_n 0) := ⟨by decide +kernel, rfl⟩
theorem iX8_see_1 : zat mX8_see 1 1 2 (.iload_n 1) := ⟨by decide +kernel, rfl⟩
theorem iX8_see_2 : zat mX8_see 2 3 5 (.invokevirtual 178) := ⟨by decide +kernel, rfl⟩
theorem iX8_see_5 : zbr mX8_see 5 8 11 (.ifCond .ne) := ⟨6, by decide +kernel, rfl, rfl⟩
theorem iX8_see_8 : zat mX8_see 8 2 10 (.bipush (-101)) := ⟨by decide +kernel, rfl⟩
theorem iX8_see_10 : zat mX8_see 10 1 11 (.ireturn) := ⟨by decide +kernel, rfl⟩
theorem iX8_see_11 : zat mX8_see 11 1 12 (.iload_n 2) := ⟨by decide +kernel, rfl⟩
theorem iX8_see_12 : zat mX8_see 12 1 13 (.i2l) := ⟨by decide +kernel, rfl⟩
theorem iX8_see_13 : zat mX8_see 13 1 14 (.lconst 1) := ⟨by decide +kernel, rfl⟩
theorem iX8_see_14 : zat mX8_see 14 3 17 (.ldc2_w 229) := ⟨by decide +kernel, rfl⟩
theorem iX8_see_17 : zat mX8_see 17 3 20 (.invokestatic 79) := ⟨by decide +kernel, rfl⟩
theorem iX8_see_20 : zbr mX8_see 20 23 35 (.ifCond .eq) := ⟨15, by decide +kernel, rfl, rfl⟩
theorem iX8_see_23 : zat mX8_see 23 1 24 (.iload_n 3) := ⟨by decide +kernel, rfl⟩
theorem iX8_see_24 : zat mX8_see 24 1 25 (.i2l) := ⟨by decide +kernel, rfl⟩
theorem iX8_see_25 : zat mX8_see 25 1 26 (.lconst 0) := ⟨by decide +kernel, rfl⟩
theorem iX8_see_26 : zat mX8_see 26 3 29 (.ldc2_w 267) := ⟨by decide +kernel, rfl⟩
theorem iX8_see_29 : zat mX8_see 29 3 32 (.invokestatic 79) := ⟨by decide +kernel, rfl⟩
theorem iX8_see_32 : zbr mX8_see 32 35 38 (.ifCond .ne) := ⟨6, by decide +kernel, rfl, rfl⟩
theorem iX8_see_35 : zat mX8_see 35 2 37 (.bipush (-102)) := ⟨by decide +kernel, rfl⟩
theorem iX8_see_37 : zat mX8_see 37 1 38 (.ireturn) := ⟨by decide +kernel, rfl⟩
theorem iX8_see_38 : zat mX8_see 38 1 39 (.aload_n 0) := ⟨by decide +kernel, rfl⟩
theorem iX8_see_39 : zat mX8_see 39 3 42 (.getfield 25) := ⟨by decide +kernel, rfl⟩
theorem iX8_see_42 : zat mX8_see 42 1 43 (.iload_n 1) := ⟨by decide +kernel, rfl⟩
theorem iX8_see_43 : zat mX8_see 43 1 44 (.iaload) := ⟨by decide +kernel, rfl⟩
theorem iX8_see_44 : zbr mX8_see 44 47 50 (.ifCond .ne) := ⟨6, by decide +kernel, rfl, rfl⟩
theorem iX8_see_47 : zat mX8_see 47 2 49 (.bipush (-103)) := ⟨by decide +kernel, rfl⟩
theorem iX8_see_49 : zat mX8_see 49 1 50 (.ireturn) := ⟨by decide +kernel, rfl⟩
theorem iX8_see_50 : zat mX8_see 50 1 51 (.aload_n 0) := ⟨by decide +kernel, rfl⟩
theorem iX8_see_51 : zat mX8_see 51 3 54 (.getfield 125) := ⟨by decide +kernel, rfl⟩
theorem iX8_see_54 : zat mX8_see 54 2 56 (.bipush 6) := ⟨by decide +kernel, rfl⟩
theorem iX8_see_56 : zbr mX8_see 56 59 62 (.if_icmp .ne) := ⟨6, by decide +kernel, rfl, rfl⟩
theorem iX8_see_59 : zat mX8_see 59 2 61 (.bipush (-104)) := ⟨by decide +kernel, rfl⟩
theorem iX8_see_61 : zat mX8_see 61 1 62 (.ireturn) := ⟨by decide +kernel, rfl⟩
theorem iX8_see_62 : zat mX8_see 62 1 63 (.aload_n 0) := ⟨by decide +kernel, rfl⟩
theorem iX8_see_63 : zat mX8_see 63 3 66 (.getfield 52) := ⟨by decide +kernel, rfl⟩
theorem iX8_see_66 : zat mX8_see 66 1 67 (.iconst 3) := ⟨by decide +kernel, rfl⟩
theorem iX8_see_67 : zat mX8_see 67 1 68 (.aload_n 0) := ⟨by decide +kernel, rfl⟩
theorem iX8_see_68 : zat mX8_see 68 3 71 (.getfield 125) := ⟨by decide +kernel, rfl⟩
theorem iX8_see_71 : zat mX8_see 71 1 72 (.imul) := ⟨by decide +kernel, rfl⟩
theorem iX8_see_72 : zat mX8_see 72 1 73 (.iload_n 1) := ⟨by decide +kernel, rfl⟩
theorem iX8_see_73 : zat mX8_see 73 1 74 (.iastore) := ⟨by decide +kernel, rfl⟩
theorem iX8_see_74 : zat mX8_see 74 1 75 (.aload_n 0) := ⟨by decide +kernel, rfl⟩
theorem iX8_see_75 : zat mX8_see 75 3 78 (.getfield 52) := ⟨by decide +kernel, rfl⟩
theorem iX8_see_78 : zat mX8_see 78 1 79 (.iconst 3) := ⟨by decide +kernel, rfl⟩
theorem iX8_see_79 : zat mX8_see 79 1 80 (.aload_n 0) := ⟨by decide +kernel, rfl⟩
theorem iX8_see_80 : zat mX8_see 80 3 83 (.getfield 125) := ⟨by decide +kernel, rfl⟩
theorem iX8_see_83 : zat mX8_see 83 1 84 (.imul) := ⟨by decide +kernel, rfl⟩
theorem iX8_see_84 : zat mX8_see 84 1 85 (.iconst 1) := ⟨by decide +kernel, rfl⟩
theorem iX8_see_85 : zat mX8_see 85 1 86 (.iadd) := ⟨by decide +kernel, rfl⟩
theorem iX8_see_86 : zat mX8_see 86 1 87 (.iload_n 2) := ⟨by decide +kernel, rfl⟩
theorem iX8_see_87 : zat mX8_see 87 1 88 (.iastore) := ⟨by decide +kernel, rfl⟩
theorem iX8_see_88 : zat mX8_see 88 1 89 (.aload_n 0) := ⟨by decide +kernel, rfl⟩
theorem iX8_see_89 : zat mX8_see 89 3 92 (.getfield 52) := ⟨by decide +kernel, rfl⟩
theorem iX8_see_92 : zat mX8_see 92 1 93 (.iconst 3) := ⟨by decide +kernel, rfl⟩
theorem iX8_see_93 : zat mX8_see 93 1 94 (.aload_n 0) := ⟨by decide +kernel, rfl⟩
theorem iX8_see_94 : zat mX8_see 94 3 97 (.getfield 125) := ⟨by decide +kernel, rfl⟩
theorem iX8_see_97 : zat mX8_see 97 1 98 (.imul) := ⟨by decide +kernel, rfl⟩
theorem iX8_see_98 : zat mX8_see 98 1 99 (.iconst 2) := ⟨by decide +kernel, rfl⟩
theorem iX8_see_99 : zat mX8_see 99 1 100 (.iadd) := ⟨by decide +kernel, rfl⟩
theorem iX8_see_100 : zat mX8_see 100 1 101 (.iload_n 3) := ⟨by decide +kernel, rfl⟩
theorem iX8_see_101 : zat mX8_see 101 1 102 (.iastore) := ⟨by decide +kernel, rfl⟩
theorem iX8_see_102 : zat mX8_see 102 1 103 (.aload_n 0) := ⟨by decide +kernel, rfl⟩
theorem iX8_see_103 : zat mX8_see 103 1 104 (.dup) := ⟨by decide +kernel, rfl⟩
theorem iX8_see_104 : zat mX8_see 104 3 107 (.getfield 125) := ⟨by decide +kernel, rfl⟩
theorem iX8_see_107 : zat mX8_see 107 1 108 (.iconst 1) := ⟨by decide +kernel, rfl⟩
theorem iX8_see_108 : zat mX8_see 108 1 109 (.iadd) := ⟨by decide +kernel, rfl⟩
theorem iX8_see_109 : zat mX8_see 109 3 112 (.putfield 125) := ⟨by decide +kernel, rfl⟩
theorem iX8_see_112 : zat mX8_see 112 1 113 (.aload_n 0) := ⟨by decide +kernel, rfl⟩
theorem iX8_see_113 : zat mX8_see 113 3 116 (.getfield 125) := ⟨by decide +kernel, rfl⟩
theorem iX8_see_116 : zat mX8_see 116 1 117 (.ireturn) := ⟨by decide +kernel, rfl⟩
theorem iX8_forget_0 : zat mX8_forget 0 1 1 (.aload_n 0) := ⟨by decide +kernel, rfl⟩
theorem iX8_forget_1 : zat mX8_forget 1 3 4 (.getfield 125) := ⟨by decide +kernel, rfl⟩
theorem iX8_forget_4 : zat mX8_forget 4 1 5 (.istore_n 1) := ⟨by decide +kernel, rfl⟩
theorem iX8_forget_5 : zat mX8_forget 5 1 6 (.aload_n 0) := ⟨by decide +kernel, rfl⟩
theorem iX8_forget_6 : zat mX8_forget 6 1 7 (.iconst 0) := ⟨by decide +kernel, rfl⟩
theorem iX8_forget_7 : zat mX8_forget 7 3 10 (.putfield 125) := ⟨by decide +kernel, rfl⟩
theorem iX8_forget_10 : zat mX8_forget 10 1 11 (.iload_n 1) := ⟨by decide +kernel, rfl⟩
theorem iX8_forget_11 : zat mX8_forget 11 1 12 (.ireturn) := ⟨by decide +kernel, rfl⟩
theorem iX8_layWays_0 : zat mX8_layWays 0 1 1 (.iconst 0) := ⟨by decide +kernel, rfl⟩
theorem iX8_layWays_1 : zat mX8_layWays 1 1 2 (.istore_n 2) := ⟨by decide +kernel, rfl⟩
theorem iX8_layWays_2 : zat mX8_layWays 2 1 3 (.iload_n 2) := ⟨by decide +kernel, rfl⟩
theorem iX8_layWays_3 : zat mX8_layWays 3 2 5 (.bipush 10) := ⟨by decide +kernel, rfl⟩
theorem iX8_layWays_5 : zbr mX8_layWays 5 8 80 (.if_icmp .ge) := ⟨75, by decide +kernel, rfl, rfl⟩
theorem iX8_layWays_8 : zat mX8_layWays 8 1 9 (.aload_n 0) := ⟨by decide +kernel, rfl⟩
theorem iX8_layWays_9 : zat mX8_layWays 9 3 12 (.invokevirtual 165) := ⟨by decide +kernel, rfl⟩
theorem iX8_layWays_12 : zat mX8_layWays 12 1 13 (.aload_n 0) := ⟨by decide +kernel, rfl⟩
theorem iX8_layWays_13 : zat mX8_layWays 13 3 16 (.getfield 37) := ⟨by decide +kernel, rfl⟩
theorem iX8_layWays_16 : zat mX8_layWays 16 1 17 (.iload_n 1) := ⟨by decide +kernel, rfl⟩
theorem iX8_layWays_17 : zat mX8_layWays 17 1 18 (.iload_n 2) := ⟨by decide +kernel, rfl⟩
theorem iX8_layWays_18 : zat mX8_layWays 18 1 19 (.iastore) := ⟨by decide +kernel, rfl⟩
theorem iX8_layWays_19 : zat mX8_layWays 19 1 20 (.iconst 0) := ⟨by decide +kernel, rfl⟩
theorem iX8_layWays_20 : zat mX8_layWays 20 1 21 (.istore_n 3) := ⟨by decide +kernel, rfl⟩
theorem iX8_layWays_21 : zat mX8_layWays 21 1 22 (.iload_n 3) := ⟨by decide +kernel, rfl⟩
theorem iX8_layWays_22 : zat mX8_layWays 22 2 24 (.bipush 9) := ⟨by decide +kernel, rfl⟩
theorem iX8_layWays_24 : zbr mX8_layWays 24 27 74 (.if_icmp .ge) := ⟨50, by decide +kernel, rfl, rfl⟩
theorem iX8_layWays_27 : zat mX8_layWays 27 1 28 (.aload_n 0) := ⟨by decide +kernel, rfl⟩
theorem iX8_layWays_28 : zat mX8_layWays 28 3 31 (.invokevirtual 159) := ⟨by decide +kernel, rfl⟩
theorem iX8_layWays_31 : zat mX8_layWays 31 1 32 (.aload_n 0) := ⟨by decide +kernel, rfl⟩
theorem iX8_layWays_32 : zat mX8_layWays 32 3 35 (.invokevirtual 162) := ⟨by decide +kernel, rfl⟩
theorem iX8_layWays_35 : zat mX8_layWays 35 1 36 (.aload_n 0) := ⟨by decide +kernel, rfl⟩
theorem iX8_layWays_36 : zat mX8_layWays 36 3 39 (.getfield 55) := ⟨by decide +kernel, rfl⟩
theorem iX8_layWays_39 : zat mX8_layWays 39 2 41 (.bipush 9) := ⟨by decide +kernel, rfl⟩
theorem iX8_layWays_41 : zat mX8_layWays 41 1 42 (.iload_n 2) := ⟨by decide +kernel, rfl⟩
theorem iX8_layWays_42 : zat mX8_layWays 42 1 43 (.imul) := ⟨by decide +kernel, rfl⟩
theorem iX8_layWays_43 : zat mX8_layWays 43 1 44 (.iload_n 3) := ⟨by decide +kernel, rfl⟩
theorem iX8_layWays_44 : zat mX8_layWays 44 1 45 (.iadd) := ⟨by decide +kernel, rfl⟩
theorem iX8_layWays_45 : zat mX8_layWays 45 1 46 (.aload_n 0) := ⟨by decide +kernel, rfl⟩
theorem iX8_layWays_46 : zat mX8_layWays 46 3 49 (.getfield 40) := ⟨by decide +kernel, rfl⟩
theorem iX8_layWays_49 : zat mX8_layWays 49 1 50 (.iload_n 1) := ⟨by decide +kernel, rfl⟩
theorem iX8_layWays_50 : zat mX8_layWays 50 1 51 (.iaload) := ⟨by decide +kernel, rfl⟩
theorem iX8_layWays_51 : zat mX8_layWays 51 2 53 (.bipush 30) := ⟨by decide +kernel, rfl⟩
theorem iX8_layWays_53 : zbr mX8_layWays 53 56 61 (.if_icmp .le) := ⟨8, by decide +kernel, rfl, rfl⟩
theorem iX8_layWays_56 : zat mX8_layWays 56 2 58 (.bipush 30) := ⟨by decide +kernel, rfl⟩
theorem iX8_layWays_58 : zbr mX8_layWays 58 61 67 (.goto) := ⟨9, by decide +kernel, rfl, rfl⟩
theorem iX8_layWays_61 : zat mX8_layWays 61 1 62 (.aload_n 0) := ⟨by decide +kernel, rfl⟩
theorem iX8_layWays_62 : zat mX8_layWays 62 3 65 (.getfield 40) := ⟨by decide +kernel, rfl⟩
theorem iX8_layWays_65 : zat mX8_layWays 65 1 66 (.iload_n 1) := ⟨by decide +kernel, rfl⟩
theorem iX8_layWays_66 : zat mX8_layWays 66 1 67 (.iaload) := ⟨by decide +kernel, rfl⟩
theorem iX8_layWays_67 : zat mX8_layWays 67 1 68 (.iastore) := ⟨by decide +kernel, rfl⟩
theorem iX8_layWays_68 : zat mX8_layWays 68 3 71 (.iinc 3 1) := ⟨by decide +kernel, rfl⟩
theorem iX8_layWays_71 : zbr mX8_layWays 71 74 21 (.goto) := ⟨-50, by decide +kernel, rfl, rfl⟩
theorem iX8_layWays_74 : zat mX8_layWays 74 3 77 (.iinc 2 1) := ⟨by decide +kernel, rfl⟩
theorem iX8_layWays_77 : zbr mX8_layWays 77 80 2 (.goto) := ⟨-75, by decide +kernel, rfl, rfl⟩
theorem iX8_layWays_80 : zat mX8_layWays 80 1 81 (.return_) := ⟨by decide +kernel, rfl⟩
theorem iX8_wetsLaid_0 : zat mX8_wetsLaid 0 1 1 (.iconst 0) := ⟨by decide +kernel, rfl⟩
theorem iX8_wetsLaid_1 : zat mX8_wetsLaid 1 1 2 (.istore_n 2) := ⟨by decide +kernel, rfl⟩
theorem iX8_wetsLaid_2 : zat mX8_wetsLaid 2 1 3 (.iconst 0) := ⟨by decide +kernel, rfl⟩
theorem iX8_wetsLaid_3 : zat mX8_wetsLaid 3 1 4 (.istore_n 3) := ⟨by decide +kernel, rfl⟩
theorem iX8_wetsLaid_4 : zat mX8_wetsLaid 4 1 5 (.iload_n 3) := ⟨by decide +kernel, rfl⟩
theorem iX8_wetsLaid_5 : zat mX8_wetsLaid 5 2 7 (.bipush 10) := ⟨by decide +kernel, rfl⟩
theorem iX8_wetsLaid_7 : zbr mX8_wetsLaid 7 10 110 (.if_icmp .ge) := ⟨103, by decide +kernel, rfl, rfl⟩
theorem iX8_wetsLaid_10 : zat mX8_wetsLaid 10 1 11 (.iconst 1) := ⟨by decide +kernel, rfl⟩
theorem iX8_wetsLaid_11 : zat mX8_wetsLaid 11 2 13 (.istore 4) := ⟨by decide +kernel, rfl⟩
theorem iX8_wetsLaid_13 : zat mX8_wetsLaid 13 1 14 (.iconst 0) := ⟨by decide +kernel, rfl⟩
theorem iX8_wetsLaid_14 : zat mX8_wetsLaid 14 2 16 (.istore 5) := ⟨by decide +kernel, rfl⟩
theorem iX8_wetsLaid_16 : zat mX8_wetsLaid 16 2 18 (.iload 5) := ⟨by decide +kernel, rfl⟩
theorem iX8_wetsLaid_18 : zat mX8_wetsLaid 18 1 19 (.iconst 3) := ⟨by decide +kernel, rfl⟩
theorem iX8_wetsLaid_19 : zat mX8_wetsLaid 19 1 20 (.aload_n 0) := ⟨by decide +kernel, rfl⟩
theorem iX8_wetsLaid_20 : zat mX8_wetsLaid 20 3 23 (.getfield 125) := ⟨by decide +kernel, rfl⟩
theorem iX8_wetsLaid_23 : zat mX8_wetsLaid 23 1 24 (.imul) := ⟨by decide +kernel, rfl⟩
theorem iX8_wetsLaid_24 : zbr mX8_wetsLaid 24 27 89 (.if_icmp .ge) := ⟨65, by decide +kernel, rfl, rfl⟩
theorem iX8_wetsLaid_27 : zat mX8_wetsLaid 27 1 28 (.aload_n 0) := ⟨by decide +kernel, rfl⟩
theorem iX8_wetsLaid_28 : zat mX8_wetsLaid 28 3 31 (.getfield 52) := ⟨by decide +kernel, rfl⟩
theorem iX8_wetsLaid_31 : zat mX8_wetsLaid 31 2 33 (.iload 5) := ⟨by decide +kernel, rfl⟩
theorem iX8_wetsLaid_33 : zat mX8_wetsLaid 33 1 34 (.iaload) := ⟨by decide +kernel, rfl⟩
theorem iX8_wetsLaid_34 : zat mX8_wetsLaid 34 1 35 (.iload_n 1) := ⟨by decide +kernel, rfl⟩
theorem iX8_wetsLaid_35 : zbr mX8_wetsLaid 35 38 83 (.if_icmp .ne) := ⟨48, by decide +kernel, rfl, rfl⟩
theorem iX8_wetsLaid_38 : zat mX8_wetsLaid 38 2 40 (.iload 4) := ⟨by decide +kernel, rfl⟩
theorem iX8_wetsLaid_40 : zbr mX8_wetsLaid 40 43 80 (.ifCond .eq) := ⟨40, by decide +kernel, rfl, rfl⟩
theorem iX8_wetsLaid_43 : zat mX8_wetsLaid 43 1 44 (.aload_n 0) := ⟨by decide +kernel, rfl⟩
theorem iX8_wetsLaid_44 : zat mX8_wetsLaid 44 3 47 (.getfield 55) := ⟨by decide +kernel, rfl⟩
theorem iX8_wetsLaid_47 : zat mX8_wetsLaid 47 2 49 (.bipush 9) := ⟨by decide +kernel, rfl⟩
theorem iX8_wetsLaid_49 : zat mX8_wetsLaid 49 1 50 (.iload_n 3) := ⟨by decide +kernel, rfl⟩
theorem iX8_wetsLaid_50 : zat mX8_wetsLaid 50 1 51 (.imul) := ⟨by decide +kernel, rfl⟩
theorem iX8_wetsLaid_51 : zat mX8_wetsLaid 51 1 52 (.aload_n 0) := ⟨by decide +kernel, rfl⟩
theorem iX8_wetsLaid_52 : zat mX8_wetsLaid 52 3 55 (.getfield 52) := ⟨by decide +kernel, rfl⟩
theorem iX8_wetsLaid_55 : zat mX8_wetsLaid 55 2 57 (.iload 5) := ⟨by decide +kernel, rfl⟩
theorem iX8_wetsLaid_57 : zat mX8_wetsLaid 57 1 58 (.iconst 1) := ⟨by decide +kernel, rfl⟩
theorem iX8_wetsLaid_58 : zat mX8_wetsLaid 58 1 59 (.iadd) := ⟨by decide +kernel, rfl⟩
theorem iX8_wetsLaid_59 : zat mX8_wetsLaid 59 1 60 (.iaload) := ⟨by decide +kernel, rfl⟩
theorem iX8_wetsLaid_60 : zat mX8_wetsLaid 60 1 61 (.iadd) := ⟨by decide +kernel, rfl⟩
theorem iX8_wetsLaid_61 : zat mX8_wetsLaid 61 1 62 (.iconst 1) := ⟨by decide +kernel, rfl⟩
theorem iX8_wetsLaid_62 : zat mX8_wetsLaid 62 1 63 (.isub) := ⟨by decide +kernel, rfl⟩
theorem iX8_wetsLaid_63 : zat mX8_wetsLaid 63 1 64 (.iaload) := ⟨by decide +kernel, rfl⟩
theorem iX8_wetsLaid_64 : zat mX8_wetsLaid 64 1 65 (.aload_n 0) := ⟨by decide +kernel, rfl⟩
theorem iX8_wetsLaid_65 : zat mX8_wetsLaid 65 3 68 (.getfield 52) := ⟨by decide +kernel, rfl⟩
theorem iX8_wetsLaid_68 : zat mX8_wetsLaid 68 2 70 (.iload 5) := ⟨by decide +kernel, rfl⟩
theorem iX8_wetsLaid_70 : zat mX8_wetsLaid 70 1 71 (.iconst 2) := ⟨by decide +kernel, rfl⟩
theorem iX8_wetsLaid_71 : zat mX8_wetsLaid 71 1 72 (.iadd) := ⟨by decide +kernel, rfl⟩
theorem iX8_wetsLaid_72 : zat mX8_wetsLaid 72 1 73 (.iaload) := ⟨by decide +kernel, rfl⟩
theorem iX8_wetsLaid_73 : zbr mX8_wetsLaid 73 76 80 (.if_icmp .ne) := ⟨7, by decide +kernel, rfl, rfl⟩
theorem iX8_wetsLaid_76 : zat mX8_wetsLaid 76 1 77 (.iconst 1) := ⟨by decide +kernel, rfl⟩
theorem iX8_wetsLaid_77 : zbr mX8_wetsLaid 77 80 81 (.goto) := ⟨4, by decide +kernel, rfl, rfl⟩
theorem iX8_wetsLaid_80 : zat mX8_wetsLaid 80 1 81 (.iconst 0) := ⟨by decide +kernel, rfl⟩
theorem iX8_wetsLaid_81 : zat mX8_wetsLaid 81 2 83 (.istore 4) := ⟨by decide +kernel, rfl⟩
theorem iX8_wetsLaid_83 : zat mX8_wetsLaid 83 3 86 (.iinc 5 3) := ⟨by decide +kernel, rfl⟩
theorem iX8_wetsLaid_86 : zbr mX8_wetsLaid 86 89 16 (.goto) := ⟨-70, by decide +kernel, rfl, rfl⟩
theorem iX8_wetsLaid_89 : zat mX8_wetsLaid 89 1 90 (.iload_n 2) := ⟨by decide +kernel, rfl⟩
theorem iX8_wetsLaid_90 : zat mX8_wetsLaid 90 2 92 (.iload 4) := ⟨by decide +kernel, rfl⟩
theorem iX8_wetsLaid_92 : zbr mX8_wetsLaid 92 95 101 (.ifCond .eq) := ⟨9, by decide +kernel, rfl, rfl⟩
theorem iX8_wetsLaid_95 : zat mX8_wetsLaid 95 1 96 (.iconst 1) := ⟨by decide +kernel, rfl⟩
theorem iX8_wetsLaid_96 : zat mX8_wetsLaid 96 1 97 (.iload_n 3) := ⟨by decide +kernel, rfl⟩
theorem iX8_wetsLaid_97 : zat mX8_wetsLaid 97 1 98 (.ishl) := ⟨by decide +kernel, rfl⟩
theorem iX8_wetsLaid_98 : zbr mX8_wetsLaid 98 101 102 (.goto) := ⟨4, by decide +kernel, rfl, rfl⟩
theorem iX8_wetsLaid_101 : zat mX8_wetsLaid 101 1 102 (.iconst 0) := ⟨by decide +kernel, rfl⟩
theorem iX8_wetsLaid_102 : zat mX8_wetsLaid 102 1 103 (.ior) := ⟨by decide +kernel, rfl⟩
theorem iX8_wetsLaid_103 : zat mX8_wetsLaid 103 1 104 (.istore_n 2) := ⟨by decide +kernel, rfl⟩
theorem iX8_wetsLaid_104 : zat mX8_wetsLaid 104 3 107 (.iinc 3 1) := ⟨by decide +kernel, rfl⟩
theorem iX8_wetsLaid_107 : zbr mX8_wetsLaid 107 110 4 (.goto) := ⟨-103, by decide +kernel, rfl, rfl⟩
theorem iX8_wetsLaid_110 : zat mX8_wetsLaid 110 1 111 (.iload_n 2) := ⟨by decide +kernel, rfl⟩
theorem iX8_wetsLaid_111 : zat mX8_wetsLaid 111 1 112 (.ireturn) := ⟨by decide +kernel, rfl⟩
theorem iX8_wetsOf_0 : zat mX8_wetsOf 0 1 1 (.aload_n 0) := ⟨by decide +kernel, rfl⟩
theorem iX8_wetsOf_1 : zat mX8_wetsOf 1 1 2 (.iload_n 1) := ⟨by decide +kernel, rfl⟩
theorem iX8_wetsOf_2 : zat mX8_wetsOf 2 3 5 (.invokevirtual 269) := ⟨by decide +kernel, rfl⟩
theorem iX8_wetsOf_5 : zat mX8_wetsOf 5 1 6 (.aload_n 0) := ⟨by decide +kernel, rfl⟩
theorem iX8_wetsOf_6 : zat mX8_wetsOf 6 1 7 (.iload_n 1) := ⟨by decide +kernel, rfl⟩
theorem iX8_wetsOf_7 : zat mX8_wetsOf 7 3 10 (.invokevirtual 272) := ⟨by decide +kernel, rfl⟩
theorem iX8_wetsOf_10 : zat mX8_wetsOf 10 1 11 (.ireturn) := ⟨by decide +kernel, rfl⟩
theorem iX8_feelOf_0 : zat mX8_feelOf 0 1 1 (.aload_n 0) := ⟨by decide +kernel, rfl⟩
theorem iX8_feelOf_1 : zat mX8_feelOf 1 1 2 (.iload_n 1) := ⟨by decide +kernel, rfl⟩
theorem iX8_feelOf_2 : zat mX8_feelOf 2 3 5 (.invokevirtual 269) := ⟨by decide +kernel, rfl⟩
theorem iX8_feelOf_5 : zat mX8_feelOf 5 1 6 (.aload_n 0) := ⟨by decide +kernel, rfl⟩
theorem iX8_feelOf_6 : zat mX8_feelOf 6 1 7 (.iload_n 1) := ⟨by decide +kernel, rfl⟩
theorem iX8_feelOf_7 : zat mX8_feelOf 7 3 10 (.invokevirtual 272) := ⟨by decide +kernel, rfl⟩
theorem iX8_feelOf_10 : zat mX8_feelOf 10 1 11 (.istore_n 2) := ⟨by decide +kernel, rfl⟩
theorem iX8_feelOf_11 : zat mX8_feelOf 11 1 12 (.iconst (-1)) := ⟨by decide +kernel, rfl⟩
theorem iX8_feelOf_12 : zat mX8_feelOf 12 1 13 (.istore_n 3) := ⟨by decide +kernel, rfl⟩
theorem iX8_feelOf_13 : zat mX8_feelOf 13 2 15 (.bipush 11) := ⟨by decide +kernel, rfl⟩
theorem iX8_feelOf_15 : zat mX8_feelOf 15 2 17 (.istore 4) := ⟨by decide +kernel, rfl⟩
theorem iX8_feelOf_17 : zat mX8_feelOf 17 1 18 (.iconst 0) := ⟨by decide +kernel, rfl⟩
theorem iX8_feelOf_18 : zat mX8_feelOf 18 2 20 (.istore 5) := ⟨by decide +kernel, rfl⟩
theorem iX8_feelOf_20 : zat mX8_feelOf 20 2 22 (.iload 5) := ⟨by decide +kernel, rfl⟩
theorem iX8_feelOf_22 : zat mX8_feelOf 22 2 24 (.bipush 9) := ⟨by decide +kernel, rfl⟩
theorem iX8_feelOf_24 : zbr mX8_feelOf 24 27 177 (.if_icmp .ge) := ⟨153, by decide +kernel, rfl, rfl⟩
theorem iX8_feelOf_27 : zat mX8_feelOf 27 1 28 (.iload_n 2) := ⟨by decide +kernel, rfl⟩
theorem iX8_feelOf_28 : zbr mX8_feelOf 28 31 177 (.ifCond .eq) := ⟨149, by decide +kernel, rfl, rfl⟩
theorem iX8_feelOf_31 : zat mX8_feelOf 31 1 32 (.iconst 0) := ⟨by decide +kernel, rfl⟩
theorem iX8_feelOf_32 : zat mX8_feelOf 32 2 34 (.istore 6) := ⟨by decide +kernel, rfl⟩
theorem iX8_feelOf_34 : zat mX8_feelOf 34 1 35 (.iconst 0) := ⟨by decide +kernel, rfl⟩
theorem iX8_feelOf_35 : zat mX8_feelOf 35 2 37 (.istore 7) := ⟨by decide +kernel, rfl⟩
theorem iX8_feelOf_37 : zat mX8_feelOf 37 2 39 (.iload 7) := ⟨by decide +kernel, rfl⟩
theorem iX8_feelOf_39 : zat mX8_feelOf 39 2 41 (.bipush 10) := ⟨by decide +kernel, rfl⟩
theorem iX8_feelOf_41 : zbr mX8_feelOf 41 44 139 (.if_icmp .ge) := ⟨98, by decide +kernel, rfl, rfl⟩
theorem iX8_feelOf_44 : zat mX8_feelOf 44 1 45 (.iconst 0) := ⟨by decide +kernel, rfl⟩
theorem iX8_feelOf_45 : zat mX8_feelOf 45 2 47 (.istore 8) := ⟨by decide +kernel, rfl⟩
theorem iX8_feelOf_47 : zat mX8_feelOf 47 1 48 (.iconst 0) := ⟨by decide +kernel, rfl⟩
theorem iX8_feelOf_48 : zat mX8_feelOf 48 2 50 (.istore 9) := ⟨by decide +kernel, rfl⟩
theorem iX8_feelOf_50 : zat mX8_feelOf 50 2 52 (.iload 9) := ⟨by decide +kernel, rfl⟩
theorem iX8_feelOf_52 : zat mX8_feelOf 52 2 54 (.bipush 10) := ⟨by decide +kernel, rfl⟩
theorem iX8_feelOf_54 : zbr mX8_feelOf 54 57 107 (.if_icmp .ge) := ⟨53, by decide +kernel, rfl, rfl⟩
theorem iX8_feelOf_57 : zat mX8_feelOf 57 2 59 (.iload 8) := ⟨by decide +kernel, rfl⟩
theorem iX8_feelOf_59 : zat mX8_feelOf 59 1 60 (.aload_n 0) := ⟨by decide +kernel, rfl⟩
theorem iX8_feelOf_60 : zat mX8_feelOf 60 3 63 (.getfield 55) := ⟨by decide +kernel, rfl⟩
theorem iX8_feelOf_63 : zat mX8_feelOf 63 2 65 (.bipush 9) := ⟨by decide +kernel, rfl⟩
theorem iX8_feelOf_65 : zat mX8_feelOf 65 2 67 (.iload 9) := ⟨by decide +kernel, rfl⟩
theorem iX8_feelOf_67 : zat mX8_feelOf 67 1 68 (.imul) := ⟨by decide +kernel, rfl⟩
theorem iX8_feelOf_68 : zat mX8_feelOf 68 2 70 (.iload 5) := ⟨by decide +kernel, rfl⟩
theorem iX8_feelOf_70 : zat mX8_feelOf 70 1 71 (.iadd) := ⟨by decide +kernel, rfl⟩
theorem iX8_feelOf_71 : zat mX8_feelOf 71 1 72 (.iaload) := ⟨by decide +kernel, rfl⟩
theorem iX8_feelOf_72 : zat mX8_feelOf 72 1 73 (.aload_n 0) := ⟨by decide +kernel, rfl⟩
theorem iX8_feelOf_73 : zat mX8_feelOf 73 3 76 (.getfield 55) := ⟨by decide +kernel, rfl⟩
theorem iX8_feelOf_76 : zat mX8_feelOf 76 2 78 (.bipush 9) := ⟨by decide +kernel, rfl⟩
theorem iX8_feelOf_78 : zat mX8_feelOf 78 2 80 (.iload 7) := ⟨by decide +kernel, rfl⟩
theorem iX8_feelOf_80 : zat mX8_feelOf 80 1 81 (.imul) := ⟨by decide +kernel, rfl⟩
theorem iX8_feelOf_81 : zat mX8_feelOf 81 2 83 (.iload 5) := ⟨by decide +kernel, rfl⟩
theorem iX8_feelOf_83 : zat mX8_feelOf 83 1 84 (.iadd) := ⟨by decide +kernel, rfl⟩
theorem iX8_feelOf_84 : zat mX8_feelOf 84 1 85 (.iaload) := ⟨by decide +kernel, rfl⟩
theorem iX8_feelOf_85 : zbr mX8_feelOf 85 88 97 (.if_icmp .ne) := ⟨12, by decide +kernel, rfl, rfl⟩
theorem iX8_feelOf_88 : zat mX8_feelOf 88 1 89 (.iload_n 2) := ⟨by decide +kernel, rfl⟩
theorem iX8_feelOf_89 : zat mX8_feelOf 89 2 91 (.iload 9) := ⟨by decide +kernel, rfl⟩
theorem iX8_feelOf_91 : zat mX8_feelOf 91 1 92 (.ishr) := ⟨by decide +kernel, rfl⟩
theorem iX8_feelOf_92 : zat mX8_feelOf 92 1 93 (.iconst 1) := ⟨by decide +kernel, rfl⟩
theorem iX8_feelOf_93 : zat mX8_feelOf 93 1 94 (.iand) := ⟨by decide +kernel, rfl⟩
theorem iX8_feelOf_94 : zbr mX8_feelOf 94 97 98 (.goto) := ⟨4, by decide +kernel, rfl, rfl⟩
theorem iX8_feelOf_97 : zat mX8_feelOf 97 1 98 (.iconst 0) := ⟨by decide +kernel, rfl⟩
theorem iX8_feelOf_98 : zat mX8_feelOf 98 1 99 (.iadd) := ⟨by decide +kernel, rfl⟩
theorem iX8_feelOf_99 : zat mX8_feelOf 99 2 101 (.istore 8) := ⟨by decide +kernel, rfl⟩
theorem iX8_feelOf_101 : zat mX8_feelOf 101 3 104 (.iinc 9 1) := ⟨by decide +kernel, rfl⟩
theorem iX8_feelOf_104 : zbr mX8_feelOf 104 107 50 (.goto) := ⟨-54, by decide +kernel, rfl, rfl⟩
theorem iX8_feelOf_107 : zat mX8_feelOf 107 1 108 (.iload_n 2) := ⟨by decide +kernel, rfl⟩
theorem iX8_feelOf_108 : zat mX8_feelOf 108 2 110 (.iload 7) := ⟨by decide +kernel, rfl⟩
theorem iX8_feelOf_110 : zat mX8_feelOf 110 1 111 (.ishr) := ⟨by decide +kernel, rfl⟩
theorem iX8_feelOf_111 : zat mX8_feelOf 111 1 112 (.iconst 1) := ⟨by decide +kernel, rfl⟩
theorem iX8_feelOf_112 : zat mX8_feelOf 112 1 113 (.iand) := ⟨by decide +kernel, rfl⟩
theorem iX8_feelOf_113 : zat mX8_feelOf 113 1 114 (.iconst 1) := ⟨by decide +kernel, rfl⟩
theorem iX8_feelOf_114 : zbr mX8_feelOf 114 117 129 (.if_icmp .ne) := ⟨15, by decide +kernel, rfl, rfl⟩
theorem iX8_feelOf_117 : zat mX8_feelOf 117 2 119 (.iload 8) := ⟨by decide +kernel, rfl⟩
theorem iX8_feelOf_119 : zat mX8_feelOf 119 2 121 (.iload 6) := ⟨by decide +kernel, rfl⟩
theorem iX8_feelOf_121 : zbr mX8_feelOf 121 124 129 (.if_icmp .le) := ⟨8, by decide +kernel, rfl, rfl⟩
theorem iX8_feelOf_124 : zat mX8_feelOf 124 2 126 (.iload 8) := ⟨by decide +kernel, rfl⟩
theorem iX8_feelOf_126 : zbr mX8_feelOf 126 129 131 (.goto) := ⟨5, by decide +kernel, rfl, rfl⟩
theorem iX8_feelOf_129 : zat mX8_feelOf 129 2 131 (.iload 6) := ⟨by decide +kernel, rfl⟩
theorem iX8_feelOf_131 : zat mX8_feelOf 131 2 133 (.istore 6) := ⟨by decide +kernel, rfl⟩
theorem iX8_feelOf_133 : zat mX8_feelOf 133 3 136 (.iinc 7 1) := ⟨by decide +kernel, rfl⟩
theorem iX8_feelOf_136 : zbr mX8_feelOf 136 139 37 (.goto) := ⟨-99, by decide +kernel, rfl, rfl⟩
theorem iX8_feelOf_139 : zat mX8_feelOf 139 2 141 (.iload 6) := ⟨by decide +kernel, rfl⟩
theorem iX8_feelOf_141 : zat mX8_feelOf 141 2 143 (.iload 4) := ⟨by decide +kernel, rfl⟩
theorem iX8_feelOf_143 : zbr mX8_feelOf 143 146 153 (.if_icmp .ge) := ⟨10, by decide +kernel, rfl, rfl⟩
theorem iX8_feelOf_146 : zat mX8_feelOf 146 2 148 (.iload 5) := ⟨by decide +kernel, rfl⟩
theorem iX8_feelOf_148 : zat mX8_feelOf 148 1 149 (.iconst 1) := ⟨by decide +kernel, rfl⟩
theorem iX8_feelOf_149 : zat mX8_feelOf 149 1 150 (.iadd) := ⟨by decide +kernel, rfl⟩
theorem iX8_feelOf_150 : zbr mX8_feelOf 150 153 154 (.goto) := ⟨4, by decide +kernel, rfl, rfl⟩
theorem iX8_feelOf_153 : zat mX8_feelOf 153 1 154 (.iload_n 3) := ⟨by decide +kernel, rfl⟩
theorem iX8_feelOf_154 : zat mX8_feelOf 154 1 155 (.istore_n 3) := ⟨by decide +kernel, rfl⟩
theorem iX8_feelOf_155 : zat mX8_feelOf 155 2 157 (.iload 6) := ⟨by decide +kernel, rfl⟩
theorem iX8_feelOf_157 : zat mX8_feelOf 157 2 159 (.iload 4) := ⟨by decide +kernel, rfl⟩
theorem iX8_feelOf_159 : zbr mX8_feelOf 159 162 167 (.if_icmp .ge) := ⟨8, by decide +kernel, rfl, rfl⟩
theorem iX8_feelOf_162 : zat mX8_feelOf 162 2 164 (.iload 6) := ⟨by decide +kernel, rfl⟩
theorem iX8_feelOf_164 : zbr mX8_feelOf 164 167 169 (.goto) := ⟨5, by decide +kernel, rfl, rfl⟩
theorem iX8_feelOf_167 : zat mX8_feelOf 167 2 169 (.iload 4) := ⟨by decide +kernel, rfl⟩
theorem iX8_feelOf_169 : zat mX8_feelOf 169 2 171 (.istore 4) := ⟨by decide +kernel, rfl⟩
theorem iX8_feelOf_171 : zat mX8_feelOf 171 3 174 (.iinc 5 1) := ⟨by decide +kernel, rfl⟩
theorem iX8_feelOf_174 : zbr mX8_feelOf 174 177 20 (.goto) := ⟨-154, by decide +kernel, rfl, rfl⟩
theorem iX8_feelOf_177 : zat mX8_feelOf 177 1 178 (.iload_n 3) := ⟨by decide +kernel, rfl⟩
theorem iX8_feelOf_178 : zat mX8_feelOf 178 1 179 (.ireturn) := ⟨by decide +kernel, rfl⟩
theorem iX8_draw_0 : zat mX8_draw 0 1 1 (.aload_n 0) := ⟨by decide +kernel, rfl⟩
theorem iX8_draw_1 : zat mX8_draw 1 3 4 (.ldc2_w 275) := ⟨by decide +kernel, rfl⟩
theorem iX8_draw_4 : zat mX8_draw 4 1 5 (.aload_n 0) := ⟨by decide +kernel, rfl⟩
theorem iX8_draw_5 : zat mX8_draw 5 3 8 (.getfield 277) := ⟨by decide +kernel, rfl⟩
theorem iX8_draw_8 : zat mX8_draw 8 1 9 (.i2l) := ⟨by decide +kernel, rfl⟩
theorem iX8_draw_9 : zat mX8_draw 9 1 10 (.lmul) := ⟨by decide +kernel, rfl⟩
theorem iX8_draw_10 : zat mX8_draw 10 3 13 (.ldc2_w 280) := ⟨by decide +kernel, rfl⟩
theorem iX8_draw_13 : zat mX8_draw 13 1 14 (.ladd) := ⟨by decide +kernel, rfl⟩
theorem iX8_draw_14 : zat mX8_draw 14 3 17 (.ldc2_w 282) := ⟨by decide +kernel, rfl⟩
theorem iX8_draw_17 : zat mX8_draw 17 1 18 (.land) := ⟨by decide +kernel, rfl⟩
theorem iX8_draw_18 : zat mX8_draw 18 1 19 (.l2i) := ⟨by decide +kernel, rfl⟩
theorem iX8_draw_19 : zat mX8_draw 19 3 22 (.putfield 277) := ⟨by decide +kernel, rfl⟩
theorem iX8_draw_22 : zat mX8_draw 22 1 23 (.aload_n 0) := ⟨by decide +kernel, rfl⟩
theorem iX8_draw_23 : zat mX8_draw 23 3 26 (.getfield 277) := ⟨by decide +kernel, rfl⟩
theorem iX8_draw_26 : zat mX8_draw 26 3 29 (.ldc_w 284) := ⟨by decide +kernel, rfl⟩
theorem iX8_draw_29 : zat mX8_draw 29 1 30 (.idiv) := ⟨by decide +kernel, rfl⟩
theorem iX8_draw_30 : zat mX8_draw 30 1 31 (.iload_n 1) := ⟨by decide +kernel, rfl⟩
theorem iX8_draw_31 : zat mX8_draw 31 1 32 (.irem) := ⟨by decide +kernel, rfl⟩
theorem iX8_draw_32 : zat mX8_draw 32 1 33 (.ireturn) := ⟨by decide +kernel, rfl⟩
theorem iX8_winters_0 : zat mX8_winters 0 1 1 (.iload_n 1) := ⟨by decide +kernel, rfl⟩
theorem iX8_winters_1 : zat mX8_winters 1 1 2 (.i2l) := ⟨by decide +kernel, rfl⟩
theorem iX8_winters_2 : zat mX8_winters 2 1 3 (.lconst 1) := ⟨by decide +kernel, rfl⟩
theorem iX8_winters_3 : zat mX8_winters 3 3 6 (.ldc2_w 285) := ⟨by decide +kernel, rfl⟩
theorem iX8_winters_6 : zat mX8_winters 6 3 9 (.invokestatic 79) := ⟨by decide +kernel, rfl⟩
theorem iX8_winters_9 : zbr mX8_winters 9 12 28 (.ifCond .eq) := ⟨19, by decide +kernel, rfl, rfl⟩
theorem iX8_winters_12 : zat mX8_winters 12 1 13 (.iload_n 2) := ⟨by decide +kernel, rfl⟩
theorem iX8_winters_13 : zbr mX8_winters 13 16 28 (.ifCond .lt) := ⟨15, by decide +kernel, rfl, rfl⟩
theorem iX8_winters_16 : zat mX8_winters 16 1 17 (.iload_n 3) := ⟨by decide +kernel, rfl⟩
theorem iX8_winters_17 : zat mX8_winters 17 1 18 (.i2l) := ⟨by decide +kernel, rfl⟩
theorem iX8_winters_18 : zat mX8_winters 18 1 19 (.lconst 0) := ⟨by decide +kernel, rfl⟩
theorem iX8_winters_19 : zat mX8_winters 19 3 22 (.ldc2_w 254) := ⟨by decide +kernel, rfl⟩
theorem iX8_winters_22 : zat mX8_winters 22 3 25 (.invokestatic 79) := ⟨by decide +kernel, rfl⟩
theorem iX8_winters_25 : zbr mX8_winters 25 28 31 (.ifCond .ne) := ⟨6, by decide +kernel, rfl, rfl⟩
theorem iX8_winters_28 : zat mX8_winters 28 2 30 (.bipush (-102)) := ⟨by decide +kernel, rfl⟩
theorem iX8_winters_30 : zat mX8_winters 30 1 31 (.ireturn) := ⟨by decide +kernel, rfl⟩
theorem iX8_winters_31 : zat mX8_winters 31 1 32 (.aload_n 0) := ⟨by decide +kernel, rfl⟩
theorem iX8_winters_32 : zat mX8_winters 32 3 35 (.invokevirtual 225) := ⟨by decide +kernel, rfl⟩
theorem iX8_winters_35 : zbr mX8_winters 35 38 41 (.ifCond .eq) := ⟨6, by decide +kernel, rfl, rfl⟩
theorem iX8_winters_38 : zat mX8_winters 38 2 40 (.bipush (-103)) := ⟨by decide +kernel, rfl⟩
theorem iX8_winters_40 : zat mX8_winters 40 1 41 (.ireturn) := ⟨by decide +kernel, rfl⟩
theorem iX8_winters_41 : zat mX8_winters 41 1 42 (.aload_n 0) := ⟨by decide +kernel, rfl⟩
theorem iX8_winters_42 : zat mX8_winters 42 1 43 (.iload_n 2) := ⟨by decide +kernel, rfl⟩
theorem iX8_winters_43 : zat mX8_winters 43 3 46 (.putfield 277) := ⟨by decide +kernel, rfl⟩
theorem iX8_winters_46 : zat mX8_winters 46 1 47 (.aload_n 0) := ⟨by decide +kernel, rfl⟩
theorem iX8_winters_47 : zat mX8_winters 47 3 50 (.invokevirtual 165) := ⟨by decide +kernel, rfl⟩
theorem iX8_winters_50 : zat mX8_winters 50 1 51 (.iconst 0) := ⟨by decide +kernel, rfl⟩
theorem iX8_winters_51 : zat mX8_winters 51 2 53 (.istore 4) := ⟨by decide +kernel, rfl⟩
theorem iX8_winters_53 : zat mX8_winters 53 1 54 (.iconst 0) := ⟨by decide +kernel, rfl⟩
theorem iX8_winters_54 : zat mX8_winters 54 2 56 (.istore 5) := ⟨by decide +kernel, rfl⟩
theorem iX8_winters_56 : zat mX8_winters 56 1 57 (.iconst 0) := ⟨by decide +kernel, rfl⟩
theorem iX8_winters_57 : zat mX8_winters 57 2 59 (.istore 6) := ⟨by decide +kernel, rfl⟩
theorem iX8_winters_59 : zat mX8_winters 59 2 61 (.iload 6) := ⟨by decide +kernel, rfl⟩
theorem iX8_winters_61 : zat mX8_winters 61 1 62 (.iload_n 1) := ⟨by decide +kernel, rfl⟩
theorem iX8_winters_62 : zbr mX8_winters 62 65 125 (.if_icmp .ge) := ⟨63, by decide +kernel, rfl, rfl⟩
theorem iX8_winters_65 : zat mX8_winters 65 1 66 (.iconst 1) := ⟨by decide +kernel, rfl⟩
theorem iX8_winters_66 : zat mX8_winters 66 1 67 (.aload_n 0) := ⟨by decide +kernel, rfl⟩
theorem iX8_winters_67 : zat mX8_winters 67 1 68 (.iconst 3) := ⟨by decide +kernel, rfl⟩
theorem iX8_winters_68 : zat mX8_winters 68 3 71 (.invokevirtual 287) := ⟨by decide +kernel, rfl⟩
theorem iX8_winters_71 : zat mX8_winters 71 1 72 (.iadd) := ⟨by decide +kernel, rfl⟩
theorem iX8_winters_72 : zat mX8_winters 72 2 74 (.istore 7) := ⟨by decide +kernel, rfl⟩
theorem iX8_winters_74 : zat mX8_winters 74 1 75 (.aload_n 0) := ⟨by decide +kernel, rfl⟩
theorem iX8_winters_75 : zat mX8_winters 75 1 76 (.aload_n 0) := ⟨by decide +kernel, rfl⟩
theorem iX8_winters_76 : zat mX8_winters 76 3 79 (.getfield 110) := ⟨by decide +kernel, rfl⟩
theorem iX8_winters_79 : zat mX8_winters 79 3 82 (.invokevirtual 287) := ⟨by decide +kernel, rfl⟩
theorem iX8_winters_82 : zat mX8_winters 82 2 84 (.istore 8) := ⟨by decide +kernel, rfl⟩
theorem iX8_winters_84 : zat mX8_winters 84 2 86 (.iload 4) := ⟨by decide +kernel, rfl⟩
theorem iX8_winters_86 : zat mX8_winters 86 1 87 (.aload_n 0) := ⟨by decide +kernel, rfl⟩
theorem iX8_winters_87 : zat mX8_winters 87 2 89 (.iload 8) := ⟨by decide +kernel, rfl⟩
theorem iX8_winters_89 : zat mX8_winters 89 3 92 (.invokevirtual 216) := ⟨by decide +kernel, rfl⟩
theorem iX8_winters_92 : zbr mX8_winters 92 95 106 (.ifCond .eq) := ⟨14, by decide +kernel, rfl, rfl⟩
theorem iX8_winters_95 : zat mX8_winters 95 1 96 (.aload_n 0) := ⟨by decide +kernel, rfl⟩
theorem iX8_winters_96 : zat mX8_winters 96 2 98 (.iload 8) := ⟨by decide +kernel, rfl⟩
theorem iX8_winters_98 : zat mX8_winters 98 2 100 (.iload 7) := ⟨by decide +kernel, rfl⟩
theorem iX8_winters_100 : zat mX8_winters 100 3 103 (.invokevirtual 219) := ⟨by decide +kernel, rfl⟩
theorem iX8_winters_103 : zbr mX8_winters 103 106 107 (.goto) := ⟨4, by decide +kernel, rfl, rfl⟩
theorem iX8_winters_106 : zat mX8_winters 106 1 107 (.iconst 0) := ⟨by decide +kernel, rfl⟩
theorem iX8_winters_107 : zat mX8_winters 107 1 108 (.iadd) := ⟨by decide +kernel, rfl⟩
theorem iX8_winters_108 : zat mX8_winters 108 2 110 (.istore 4) := ⟨by decide +kernel, rfl⟩
theorem iX8_winters_110 : zat mX8_winters 110 2 112 (.iload 5) := ⟨by decide +kernel, rfl⟩
theorem iX8_winters_112 : zat mX8_winters 112 1 113 (.aload_n 0) := ⟨by decide +kernel, rfl⟩
theorem iX8_winters_113 : zat mX8_winters 113 3 116 (.invokevirtual 190) := ⟨by decide +kernel, rfl⟩
theorem iX8_winters_116 : zat mX8_winters 116 1 117 (.iadd) := ⟨by decide +kernel, rfl⟩
theorem iX8_winters_117 : zat mX8_winters 117 2 119 (.istore 5) := ⟨by decide +kernel, rfl⟩
theorem iX8_winters_119 : zat mX8_winters 119 3 122 (.iinc 6 1) := ⟨by decide +kernel, rfl⟩
theorem iX8_winters_122 : zbr mX8_winters 122 125 59 (.goto) := ⟨-63, by decide +kernel, rfl, rfl⟩
theorem iX8_winters_125 : zat mX8_winters 125 1 126 (.iload_n 3) := ⟨by decide +kernel, rfl⟩
theorem iX8_winters_126 : zbr mX8_winters 126 129 134 (.ifCond .ne) := ⟨8, by decide +kernel, rfl, rfl⟩
theorem iX8_winters_129 : zat mX8_winters 129 2 131 (.iload 4) := ⟨by decide +kernel, rfl⟩
theorem iX8_winters_131 : zbr mX8_winters 131 134 148 (.goto) := ⟨17, by decide +kernel, rfl, rfl⟩
theorem iX8_winters_134 : zat mX8_winters 134 1 135 (.iload_n 3) := ⟨by decide +kernel, rfl⟩
theorem iX8_winters_135 : zat mX8_winters 135 1 136 (.iconst 1) := ⟨by decide +kernel, rfl⟩
theorem iX8_winters_136 : zbr mX8_winters 136 139 144 (.if_icmp .ne) := ⟨8, by decide +kernel, rfl, rfl⟩
theorem iX8_winters_139 : zat mX8_winters 139 2 141 (.iload 5) := ⟨by decide +kernel, rfl⟩
theorem iX8_winters_141 : zbr mX8_winters 141 144 148 (.goto) := ⟨7, by decide +kernel, rfl, rfl⟩
theorem iX8_winters_144 : zat mX8_winters 144 1 145 (.aload_n 0) := ⟨by decide +kernel, rfl⟩
theorem iX8_winters_145 : zat mX8_winters 145 3 148 (.getfield 277) := ⟨by decide +kernel, rfl⟩
theorem iX8_winters_148 : zat mX8_winters 148 1 149 (.ireturn) := ⟨by decide +kernel, rfl⟩
theorem iX8_image_0 : zat mX8_image 0 1 1 (.aload_n 0) := ⟨by decide +kernel, rfl⟩
theorem iX8_image_1 : zat mX8_image 1 3 4 (.invokevirtual 225) := ⟨by decide +kernel, rfl⟩
theorem iX8_image_4 : zbr mX8_image 4 7 10 (.ifCond .eq) := ⟨6, by decide +kernel, rfl, rfl⟩
theorem iX8_image_7 : zat mX8_image 7 2 9 (.bipush (-103)) := ⟨by decide +kernel, rfl⟩
theorem iX8_image_9 : zat mX8_image 9 1 10 (.ireturn) := ⟨by decide +kernel, rfl⟩
theorem iX8_image_10 : zat mX8_image 10 1 11 (.aload_n 0) := ⟨by decide +kernel, rfl⟩
theorem iX8_image_11 : zat mX8_image 11 3 14 (.getfield 22) := ⟨by decide +kernel, rfl⟩
theorem iX8_image_14 : zat mX8_image 14 1 15 (.aload_n 0) := ⟨by decide +kernel, rfl⟩
theorem iX8_image_15 : zat mX8_image 15 3 18 (.getfield 58) := ⟨by decide +kernel, rfl⟩
theorem iX8_image_18 : zat mX8_image 18 3 21 (.invokestatic 131) := ⟨by decide +kernel, rfl⟩
theorem iX8_image_21 : zat mX8_image 21 1 22 (.aload_n 0) := ⟨by decide +kernel, rfl⟩
theorem iX8_image_22 : zat mX8_image 22 3 25 (.getfield 25) := ⟨by decide +kernel, rfl⟩
theorem iX8_image_25 : zat mX8_image 25 1 26 (.aload_n 0) := ⟨by decide +kernel, rfl⟩
theorem iX8_image_26 : zat mX8_image 26 3 29 (.getfield 61) := ⟨by decide +kernel, rfl⟩
theorem iX8_image_29 : zat mX8_image 29 3 32 (.invokestatic 131) := ⟨by decide +kernel, rfl⟩
theorem iX8_image_32 : zat mX8_image 32 1 33 (.aload_n 0) := ⟨by decide +kernel, rfl⟩
theorem iX8_image_33 : zat mX8_image 33 3 36 (.getfield 28) := ⟨by decide +kernel, rfl⟩
theorem iX8_image_36 : zat mX8_image 36 1 37 (.aload_n 0) := ⟨by decide +kernel, rfl⟩
theorem iX8_image_37 : zat mX8_image 37 3 40 (.getfield 64) := ⟨by decide +kernel, rfl⟩
theorem iX8_image_40 : zat mX8_image 40 3 43 (.invokestatic 131) := ⟨by decide +kernel, rfl⟩
theorem iX8_image_43 : zat mX8_image 43 1 44 (.aload_n 0) := ⟨by decide +kernel, rfl⟩
theorem iX8_image_44 : zat mX8_image 44 3 47 (.getfield 31) := ⟨by decide +kernel, rfl⟩
theorem iX8_image_47 : zat mX8_image 47 1 48 (.aload_n 0) := ⟨by decide +kernel, rfl⟩
theorem iX8_image_48 : zat mX8_image 48 3 51 (.getfield 67) := ⟨by decide +kernel, rfl⟩
theorem iX8_image_51 : zat mX8_image 51 3 54 (.invokestatic 131) := ⟨by decide +kernel, rfl⟩
theorem iX8_image_54 : zat mX8_image 54 1 55 (.aload_n 0) := ⟨by decide +kernel, rfl⟩
theorem iX8_image_55 : zat mX8_image 55 3 58 (.getfield 52) := ⟨by decide +kernel, rfl⟩
theorem iX8_image_58 : zat mX8_image 58 1 59 (.aload_n 0) := ⟨by decide +kernel, rfl⟩
theorem iX8_image_59 : zat mX8_image 59 3 62 (.getfield 70) := ⟨by decide +kernel, rfl⟩
theorem iX8_image_62 : zat mX8_image 62 3 65 (.invokestatic 131) := ⟨by decide +kernel, rfl⟩
theorem iX8_image_65 : zat mX8_image 65 1 66 (.aload_n 0) := ⟨by decide +kernel, rfl⟩
theorem iX8_image_66 : zat mX8_image 66 1 67 (.aload_n 0) := ⟨by decide +kernel, rfl⟩
theorem iX8_image_67 : zat mX8_image 67 3 70 (.getfield 116) := ⟨by decide +kernel, rfl⟩
theorem iX8_image_70 : zat mX8_image 70 3 73 (.putfield 290) := ⟨by decide +kernel, rfl⟩
theorem iX8_image_73 : zat mX8_image 73 1 74 (.aload_n 0) := ⟨by decide +kernel, rfl⟩
theorem iX8_image_74 : zat mX8_image 74 1 75 (.aload_n 0) := ⟨by decide +kernel, rfl⟩
theorem iX8_image_75 : zat mX8_image 75 3 78 (.getfield 119) := ⟨by decide +kernel, rfl⟩
theorem iX8_image_78 : zat mX8_image 78 3 81 (.putfield 293) := ⟨by decide +kernel, rfl⟩
theorem iX8_image_81 : zat mX8_image 81 1 82 (.aload_n 0) := ⟨by decide +kernel, rfl⟩
theorem iX8_image_82 : zat mX8_image 82 1 83 (.aload_n 0) := ⟨by decide +kernel, rfl⟩
theorem iX8_image_83 : zat mX8_image 83 3 86 (.getfield 122) := ⟨by decide +kernel, rfl⟩
theorem iX8_image_86 : zat mX8_image 86 3 89 (.putfield 296) := ⟨by decide +kernel, rfl⟩
theorem iX8_image_89 : zat mX8_image 89 1 90 (.aload_n 0) := ⟨by decide +kernel, rfl⟩
theorem iX8_image_90 : zat mX8_image 90 1 91 (.aload_n 0) := ⟨by decide +kernel, rfl⟩
theorem iX8_image_91 : zat mX8_image 91 3 94 (.getfield 125) := ⟨by decide +kernel, rfl⟩
theorem iX8_image_94 : zat mX8_image 94 3 97 (.putfield 299) := ⟨by decide +kernel, rfl⟩
theorem iX8_image_97 : zat mX8_image 97 1 98 (.aload_n 0) := ⟨by decide +kernel, rfl⟩
theorem iX8_image_98 : zat mX8_image 98 1 99 (.aload_n 0) := ⟨by decide +kernel, rfl⟩
theorem iX8_image_99 : zat mX8_image 99 3 102 (.getfield 128) := ⟨by decide +kernel, rfl⟩
theorem iX8_image_102 : zat mX8_image 102 3 105 (.putfield 73) := ⟨by decide +kernel, rfl⟩
theorem iX8_image_105 : zat mX8_image 105 1 106 (.aload_n 0) := ⟨by decide +kernel, rfl⟩
theorem iX8_image_106 : zat mX8_image 106 3 109 (.getfield 116) := ⟨by decide +kernel, rfl⟩
theorem iX8_image_109 : zat mX8_image 109 1 110 (.ireturn) := ⟨by decide +kernel, rfl⟩
theorem iX8_restore_0 : zat mX8_restore 0 1 1 (.aload_n 0) := ⟨by decide +kernel, rfl⟩
theorem iX8_restore_1 : zat mX8_restore 1 3 4 (.getfield 73) := ⟨by decide +kernel, rfl⟩
theorem iX8_restore_4 : zat mX8_restore 4 1 5 (.aload_n 0) := ⟨by decide +kernel, rfl⟩
theorem iX8_restore_5 : zat mX8_restore 5 3 8 (.getfield 128) := ⟨by decide +kernel, rfl⟩
theorem iX8_restore_8 : zbr mX8_restore 8 11 14 (.if_icmp .eq) := ⟨6, by decide +kernel, rfl, rfl⟩
theorem iX8_restore_11 : zat mX8_restore 11 2 13 (.bipush (-103)) := ⟨by decide +kernel, rfl⟩
theorem iX8_restore_13 : zat mX8_restore 13 1 14 (.ireturn) := ⟨by decide +kernel, rfl⟩
theorem iX8_restore_14 : zat mX8_restore 14 1 15 (.aload_n 0) := ⟨by decide +kernel, rfl⟩
theorem iX8_restore_15 : zat mX8_restore 15 3 18 (.getfield 58) := ⟨by decide +kernel, rfl⟩
theorem iX8_restore_18 : zat mX8_restore 18 1 19 (.aload_n 0) := ⟨by decide +kernel, rfl⟩
theorem iX8_restore_19 : zat mX8_restore 19 3 22 (.getfield 22) := ⟨by decide +kernel, rfl⟩
theorem iX8_restore_22 : zat mX8_restore 22 3 25 (.invokestatic 131) := ⟨by decide +kernel, rfl⟩
theorem iX8_restore_25 : zat mX8_restore 25 1 26 (.aload_n 0) := ⟨by decide +kernel, rfl⟩
theorem iX8_restore_26 : zat mX8_restore 26 3 29 (.getfield 61) := ⟨by decide +kernel, rfl⟩
theorem iX8_restore_29 : zat mX8_restore 29 1 30 (.aload_n 0) := ⟨by decide +kernel, rfl⟩
theorem iX8_restore_30 : zat mX8_restore 30 3 33 (.getfield 25) := ⟨by decide +kernel, rfl⟩
theorem iX8_restore_33 : zat mX8_restore 33 3 36 (.invokestatic 131) := ⟨by decide +kernel, rfl⟩
theorem iX8_restore_36 : zat mX8_restore 36 1 37 (.aload_n 0) := ⟨by decide +kernel, rfl⟩
theorem iX8_restore_37 : zat mX8_restore 37 3 40 (.getfield 64) := ⟨by decide +kernel, rfl⟩
theorem iX8_restore_40 : zat mX8_restore 40 1 41 (.aload_n 0) := ⟨by decide +kernel, rfl⟩
theorem iX8_restore_41 : zat mX8_restore 41 3 44 (.getfield 28) := ⟨by decide +kernel, rfl⟩
theorem iX8_restore_44 : zat mX8_restore 44 3 47 (.invokestatic 131) := ⟨by decide +kernel, rfl⟩
theorem iX8_restore_47 : zat mX8_restore 47 1 48 (.aload_n 0) := ⟨by decide +kernel, rfl⟩
theorem iX8_restore_48 : zat mX8_restore 48 3 51 (.getfield 67) := ⟨by decide +kernel, rfl⟩
theorem iX8_restore_51 : zat mX8_restore 51 1 52 (.aload_n 0) := ⟨by decide +kernel, rfl⟩
theorem iX8_restore_52 : zat mX8_restore 52 3 55 (.getfield 31) := ⟨by decide +kernel, rfl⟩
theorem iX8_restore_55 : zat mX8_restore 55 3 58 (.invokestatic 131) := ⟨by decide +kernel, rfl⟩
theorem iX8_restore_58 : zat mX8_restore 58 1 59 (.aload_n 0) := ⟨by decide +kernel, rfl⟩
theorem iX8_restore_59 : zat mX8_restore 59 3 62 (.getfield 70) := ⟨by decide +kernel, rfl⟩
theorem iX8_restore_62 : zat mX8_restore 62 1 63 (.aload_n 0) := ⟨by decide +kernel, rfl⟩
theorem iX8_restore_63 : zat mX8_restore 63 3 66 (.getfield 52) := ⟨by decide +kernel, rfl⟩
theorem iX8_restore_66 : zat mX8_restore 66 3 69 (.invokestatic 131) := ⟨by decide +kernel, rfl⟩
theorem iX8_restore_69 : zat mX8_restore 69 1 70 (.aload_n 0) := ⟨by decide +kernel, rfl⟩
theorem iX8_restore_70 : zat mX8_restore 70 1 71 (.aload_n 0) := ⟨by decide +kernel, rfl⟩
theorem iX8_restore_71 : zat mX8_restore 71 3 74 (.getfield 290) := ⟨by decide +kernel, rfl⟩
theorem iX8_restore_74 : zat mX8_restore 74 3 77 (.putfield 116) := ⟨by decide +kernel, rfl⟩
theorem iX8_restore_77 : zat mX8_restore 77 1 78 (.aload_n 0) := ⟨by decide +kernel, rfl⟩
theorem iX8_restore_78 : zat mX8_restore 78 1 79 (.aload_n 0) := ⟨by decide +kernel, rfl⟩
theorem iX8_restore_79 : zat mX8_restore 79 3 82 (.getfield 293) := ⟨by decide +kernel, rfl⟩
theorem iX8_restore_82 : zat mX8_restore 82 3 85 (.putfield 119) := ⟨by decide +kernel, rfl⟩
theorem iX8_restore_85 : zat mX8_restore 85 1 86 (.aload_n 0) := ⟨by decide +kernel, rfl⟩
theorem iX8_restore_86 : zat mX8_restore 86 1 87 (.aload_n 0) := ⟨by decide +kernel, rfl⟩
theorem iX8_restore_87 : zat mX8_restore 87 3 90 (.getfield 296) := ⟨by decide +kernel, rfl⟩
theorem iX8_restore_90 : zat mX8_restore 90 3 93 (.putfield 122) := ⟨by decide +kernel, rfl⟩
theorem iX8_restore_93 : zat mX8_restore 93 1 94 (.aload_n 0) := ⟨by decide +kernel, rfl⟩
theorem iX8_restore_94 : zat mX8_restore 94 1 95 (.aload_n 0) := ⟨by decide +kernel, rfl⟩
theorem iX8_restore_95 : zat mX8_restore 95 3 98 (.getfield 299) := ⟨by decide +kernel, rfl⟩
theorem iX8_restore_98 : zat mX8_restore 98 3 101 (.putfield 125) := ⟨by decide +kernel, rfl⟩
theorem iX8_restore_101 : zat mX8_restore 101 1 102 (.aload_n 0) := ⟨by decide +kernel, rfl⟩
theorem iX8_restore_102 : zat mX8_restore 102 3 105 (.getfield 116) := ⟨by decide +kernel, rfl⟩
theorem iX8_restore_105 : zat mX8_restore 105 1 106 (.ireturn) := ⟨by decide +kernel, rfl⟩
theorem iX8_sumOf_0 : zat mX8_sumOf 0 1 1 (.iconst 0) := ⟨by decide +kernel, rfl⟩
theorem iX8_sumOf_1 : zat mX8_sumOf 1 1 2 (.istore_n 2) := ⟨by decide +kernel, rfl⟩
theorem iX8_sumOf_2 : zat mX8_sumOf 2 1 3 (.iconst 0) := ⟨by decide +kernel, rfl⟩
theorem iX8_sumOf_3 : zat mX8_sumOf 3 1 4 (.istore_n 3) := ⟨by decide +kernel, rfl⟩
theorem iX8_sumOf_4 : zat mX8_sumOf 4 1 5 (.iload_n 3) := ⟨by decide +kernel, rfl⟩
theorem iX8_sumOf_5 : zat mX8_sumOf 5 1 6 (.aload_n 0) := ⟨by decide +kernel, rfl⟩
theorem iX8_sumOf_6 : zat mX8_sumOf 6 3 9 (.getfield 113) := ⟨by decide +kernel, rfl⟩
theorem iX8_sumOf_9 : zbr mX8_sumOf 9 12 24 (.if_icmp .ge) := ⟨15, by decide +kernel, rfl, rfl⟩
theorem iX8_sumOf_12 : zat mX8_sumOf 12 1 13 (.iload_n 2) := ⟨by decide +kernel, rfl⟩
theorem iX8_sumOf_13 : zat mX8_sumOf 13 1 14 (.aload_n 1) := ⟨by decide +kernel, rfl⟩
theorem iX8_sumOf_14 : zat mX8_sumOf 14 1 15 (.iload_n 3) := ⟨by decide +kernel, rfl⟩
theorem iX8_sumOf_15 : zat mX8_sumOf 15 1 16 (.iaload) := ⟨by decide +kernel, rfl⟩
theorem iX8_sumOf_16 : zat mX8_sumOf 16 1 17 (.iadd) := ⟨by decide +kernel, rfl⟩
theorem iX8_sumOf_17 : zat mX8_sumOf 17 1 18 (.istore_n 2) := ⟨by decide +kernel, rfl⟩
theorem iX8_sumOf_18 : zat mX8_sumOf 18 3 21 (.iinc 3 1) := ⟨by decide +kernel, rfl⟩
theorem iX8_sumOf_21 : zbr mX8_sumOf 21 24 4 (.goto) := ⟨-17, by decide +kernel, rfl, rfl⟩
theorem iX8_sumOf_24 : zat mX8_sumOf 24 1 25 (.iload_n 2) := ⟨by decide +kernel, rfl⟩
theorem iX8_sumOf_25 : zat mX8_sumOf 25 1 26 (.ireturn) := ⟨by decide +kernel, rfl⟩
theorem iX8_there_0 : zat mX8_there 0 1 1 (.iconst 0) := ⟨by decide +kernel, rfl⟩
theorem iX8_there_1 : zat mX8_there 1 1 2 (.istore_n 1) := ⟨by decide +kernel, rfl⟩
theorem iX8_there_2 : zat mX8_there 2 1 3 (.iconst 0) := ⟨by decide +kernel, rfl⟩
theorem iX8_there_3 : zat mX8_there 3 1 4 (.istore_n 2) := ⟨by decide +kernel, rfl⟩
theorem iX8_there_4 : zat mX8_there 4 1 5 (.iload_n 2) := ⟨by decide +kernel, rfl⟩
theorem iX8_there_5 : zat mX8_there 5 1 6 (.aload_n 0) := ⟨by decide +kernel, rfl⟩
theorem iX8_there_6 : zat mX8_there 6 3 9 (.getfield 113) := ⟨by decide +kernel, rfl⟩
theorem iX8_there_9 : zbr mX8_there 9 12 35 (.if_icmp .ge) := ⟨26, by decide +kernel, rfl, rfl⟩
theorem iX8_there_12 : zat mX8_there 12 1 13 (.iload_n 1) := ⟨by decide +kernel, rfl⟩
theorem iX8_there_13 : zat mX8_there 13 1 14 (.aload_n 0) := ⟨by decide +kernel, rfl⟩
theorem iX8_there_14 : zat mX8_there 14 3 17 (.getfield 25) := ⟨by decide +kernel, rfl⟩
theorem iX8_there_17 : zat mX8_there 17 1 18 (.iload_n 2) := ⟨by decide +kernel, rfl⟩
theorem iX8_there_18 : zat mX8_there 18 1 19 (.iaload) := ⟨by decide +kernel, rfl⟩
theorem iX8_there_19 : zbr mX8_there 19 22 26 (.ifCond .le) := ⟨7, by decide +kernel, rfl, rfl⟩
theorem iX8_there_22 : zat mX8_there 22 1 23 (.iconst 1) := ⟨by decide +kernel, rfl⟩
theorem iX8_there_23 : zbr mX8_there 23 26 27 (.goto) := ⟨4, by decide +kernel, rfl, rfl⟩
theorem iX8_there_26 : zat mX8_there 26 1 27 (.iconst 0) := ⟨by decide +kernel, rfl⟩
theorem iX8_there_27 : zat mX8_there 27 1 28 (.iadd) := ⟨by decide +kernel, rfl⟩
theorem iX8_there_28 : zat mX8_there 28 1 29 (.istore_n 1) := ⟨by decide +kernel, rfl⟩
theorem iX8_there_29 : zat mX8_there 29 3 32 (.iinc 2 1) := ⟨by decide +kernel, rfl⟩
theorem iX8_there_32 : zbr mX8_there 32 35 4 (.goto) := ⟨-28, by decide +kernel, rfl, rfl⟩
theorem iX8_there_35 : zat mX8_there 35 1 36 (.iload_n 1) := ⟨by decide +kernel, rfl⟩
theorem iX8_there_36 : zat mX8_there 36 1 37 (.ireturn) := ⟨by decide +kernel, rfl⟩
theorem iX8_warmest_0 : zat mX8_warmest 0 1 1 (.iconst 0) := ⟨by decide +kernel, rfl⟩
theorem iX8_warmest_1 : zat mX8_warmest 1 1 2 (.istore_n 1) := ⟨by decide +kernel, rfl⟩
theorem iX8_warmest_2 : zat mX8_warmest 2 1 3 (.iconst 0) := ⟨by decide +kernel, rfl⟩
theorem iX8_warmest_3 : zat mX8_warmest 3 1 4 (.istore_n 2) := ⟨by decide +kernel, rfl⟩
theorem iX8_warmest_4 : zat mX8_warmest 4 1 5 (.iload_n 2) := ⟨by decide +kernel, rfl⟩
theorem iX8_warmest_5 : zat mX8_warmest 5 1 6 (.aload_n 0) := ⟨by decide +kernel, rfl⟩
theorem iX8_warmest_6 : zat mX8_warmest 6 3 9 (.getfield 113) := ⟨by decide +kernel, rfl⟩
theorem iX8_warmest_9 : zbr mX8_warmest 9 12 39 (.if_icmp .ge) := ⟨30, by decide +kernel, rfl, rfl⟩
theorem iX8_warmest_12 : zat mX8_warmest 12 1 13 (.aload_n 0) := ⟨by decide +kernel, rfl⟩
theorem iX8_warmest_13 : zat mX8_warmest 13 3 16 (.getfield 31) := ⟨by decide +kernel, rfl⟩
theorem iX8_warmest_16 : zat mX8_warmest 16 1 17 (.iload_n 2) := ⟨by decide +kernel, rfl⟩
theorem iX8_warmest_17 : zat mX8_warmest 17 1 18 (.iaload) := ⟨by decide +kernel, rfl⟩
theorem iX8_warmest_18 : zat mX8_warmest 18 1 19 (.iload_n 1) := ⟨by decide +kernel, rfl⟩
theorem iX8_warmest_19 : zbr mX8_warmest 19 22 31 (.if_icmp .le) := ⟨12, by decide +kernel, rfl, rfl⟩
theorem iX8_warmest_22 : zat mX8_warmest 22 1 23 (.aload_n 0) := ⟨by decide +kernel, rfl⟩
theorem iX8_warmest_23 : zat mX8_warmest 23 3 26 (.getfield 31) := ⟨by decide +kernel, rfl⟩
theorem iX8_warmest_26 : zat mX8_warmest 26 1 27 (.iload_n 2) := ⟨by decide +kernel, rfl⟩
theorem iX8_warmest_27 : zat mX8_warmest 27 1 28 (.iaload) := ⟨by decide +kernel, rfl⟩
theorem iX8_warmest_28 : zbr mX8_warmest 28 31 32 (.goto) := ⟨4, by decide +kernel, rfl, rfl⟩
theorem iX8_warmest_31 : zat mX8_warmest 31 1 32 (.iload_n 1) := ⟨by decide +kernel, rfl⟩
theorem iX8_warmest_32 : zat mX8_warmest 32 1 33 (.istore_n 1) := ⟨by decide +kernel, rfl⟩
theorem iX8_warmest_33 : zat mX8_warmest 33 3 36 (.iinc 2 1) := ⟨by decide +kernel, rfl⟩
theorem iX8_warmest_36 : zbr mX8_warmest 36 39 4 (.goto) := ⟨-32, by decide +kernel, rfl, rfl⟩
theorem iX8_warmest_39 : zat mX8_warmest 39 1 40 (.iload_n 1) := ⟨by decide +kernel, rfl⟩
theorem iX8_warmest_40 : zat mX8_warmest 40 1 41 (.ireturn) := ⟨by decide +kernel, rfl⟩
theorem iX8_countOf_0 : zat mX8_countOf 0 1 1 (.iload_n 1) := ⟨by decide +kernel, rfl⟩
theorem iX8_countOf_1 : zat mX8_countOf 1 67 68 (.tableswitch 140 0 12 #[67, 72, 77, 82, 91, 100, 105, 110, 115, 120, 125, 130, 135]) := ⟨by decide +kernel, rfl⟩
theorem iX8_countOf_68 : zat mX8_countOf 68 1 69 (.aload_n 0) := ⟨by decide +kernel, rfl⟩
theorem iX8_countOf_69 : zat mX8_countOf 69 3 72 (.getfield 110) := ⟨by decide +kernel, rfl⟩
theorem iX8_countOf_72 : zat mX8_countOf 72 1 73 (.ireturn) := ⟨by decide +kernel, rfl⟩
theorem iX8_countOf_73 : zat mX8_countOf 73 1 74 (.aload_n 0) := ⟨by decide +kernel, rfl⟩
theorem iX8_countOf_74 : zat mX8_countOf 74 3 77 (.getfield 113) := ⟨by decide +kernel, rfl⟩
theorem iX8_countOf_77 : zat mX8_countOf 77 1 78 (.ireturn) := ⟨by decide +kernel, rfl⟩
theorem iX8_countOf_78 : zat mX8_countOf 78 1 79 (.aload_n 0) := ⟨by decide +kernel, rfl⟩
theorem iX8_countOf_79 : zat mX8_countOf 79 3 82 (.invokevirtual 302) := ⟨by decide +kernel, rfl⟩
theorem iX8_countOf_82 : zat mX8_countOf 82 1 83 (.ireturn) := ⟨by decide +kernel, rfl⟩
theorem iX8_countOf_83 : zat mX8_countOf 83 1 84 (.aload_n 0) := ⟨by decide +kernel, rfl⟩
theorem iX8_countOf_84 : zat mX8_countOf 84 1 85 (.aload_n 0) := ⟨by decide +kernel, rfl⟩
theorem iX8_countOf_85 : zat mX8_countOf 85 3 88 (.getfield 25) := ⟨by decide +kernel, rfl⟩
theorem iX8_countOf_88 : zat mX8_countOf 88 3 91 (.invokevirtual 305) := ⟨by decide +kernel, rfl⟩
theorem iX8_countOf_91 : zat mX8_countOf 91 1 92 (.ireturn) := ⟨by decide +kernel, rfl⟩
theorem iX8_countOf_92 : zat mX8_countOf 92 1 93 (.aload_n 0) := ⟨by decide +kernel, rfl⟩
theorem iX8_countOf_93 : zat mX8_countOf 93 1 94 (.aload_n 0) := ⟨by decide +kernel, rfl⟩
theorem iX8_countOf_94 : zat mX8_countOf 94 3 97 (.getfield 28) := ⟨by decide +kernel, rfl⟩
theorem iX8_countOf_97 : zat mX8_countOf 97 3 100 (.invokevirtual 305) := ⟨by decide +kernel, rfl⟩
theorem iX8_countOf_100 : zat mX8_countOf 100 1 101 (.ireturn) := ⟨by decide +kernel, rfl⟩
theorem iX8_countOf_101 : zat mX8_countOf 101 1 102 (.aload_n 0) := ⟨by decide +kernel, rfl⟩
theorem iX8_countOf_102 : zat mX8_countOf 102 3 105 (.invokevirtual 309) := ⟨by decide +kernel, rfl⟩
theorem iX8_countOf_105 : zat mX8_countOf 105 1 106 (.ireturn) := ⟨by decide +kernel, rfl⟩
theorem iX8_countOf_106 : zat mX8_countOf 106 1 107 (.aload_n 0) := ⟨by decide +kernel, rfl⟩
theorem iX8_countOf_107 : zat mX8_countOf 107 3 110 (.getfield 116) := ⟨by decide +kernel, rfl⟩
theorem iX8_countOf_110 : zat mX8_countOf 110 1 111 (.ireturn) := ⟨by decide +kernel, rfl⟩
theorem iX8_countOf_111 : zat mX8_countOf 111 1 112 (.aload_n 0) := ⟨by decide +kernel, rfl⟩
theorem iX8_countOf_112 : zat mX8_countOf 112 3 115 (.getfield 119) := ⟨by decide +kernel, rfl⟩
theorem iX8_countOf_115 : zat mX8_countOf 115 1 116 (.ireturn) := ⟨by decide +kernel, rfl⟩
theorem iX8_countOf_116 : zat mX8_countOf 116 1 117 (.aload_n 0) := ⟨by decide +kernel, rfl⟩
theorem iX8_countOf_117 : zat mX8_countOf 117 3 120 (.getfield 122) := ⟨by decide +kernel, rfl⟩
theorem iX8_countOf_120 : zat mX8_countOf 120 1 121 (.ireturn) := ⟨by decide +kernel, rfl⟩
theorem iX8_countOf_121 : zat mX8_countOf 121 1 122 (.aload_n 0) := ⟨by decide +kernel, rfl⟩
theorem iX8_countOf_122 : zat mX8_countOf 122 3 125 (.getfield 125) := ⟨by decide +kernel, rfl⟩
theorem iX8_countOf_125 : zat mX8_countOf 125 1 126 (.ireturn) := ⟨by decide +kernel, rfl⟩
theorem iX8_countOf_126 : zat mX8_countOf 126 1 127 (.aload_n 0) := ⟨by decide +kernel, rfl⟩
theorem iX8_countOf_127 : zat mX8_countOf 127 3 130 (.getfield 83) := ⟨by decide +kernel, rfl⟩
theorem iX8_countOf_130 : zat mX8_countOf 130 1 131 (.ireturn) := ⟨by decide +kernel, rfl⟩
theorem iX8_countOf_131 : zat mX8_countOf 131 1 132 (.aload_n 0) := ⟨by decide +kernel, rfl⟩
theorem iX8_countOf_132 : zat mX8_countOf 132 3 135 (.getfield 128) := ⟨by decide +kernel, rfl⟩
theorem iX8_countOf_135 : zat mX8_countOf 135 1 136 (.ireturn) := ⟨by decide +kernel, rfl⟩
theorem iX8_countOf_136 : zat mX8_countOf 136 1 137 (.aload_n 0) := ⟨by decide +kernel, rfl⟩
theorem iX8_countOf_137 : zat mX8_countOf 137 3 140 (.getfield 256) := ⟨by decide +kernel, rfl⟩
theorem iX8_countOf_140 : zat mX8_countOf 140 1 141 (.ireturn) := ⟨by decide +kernel, rfl⟩
theorem iX8_countOf_141 : zat mX8_countOf 141 2 143 (.bipush (-102)) := ⟨by decide +kernel, rfl⟩
theorem iX8_countOf_143 : zat mX8_countOf 143 1 144 (.ireturn) := ⟨by decide +kernel, rfl⟩
theorem iX8_count_0 : zat mX8_count 0 1 1 (.aload_n 0) := ⟨by decide +kernel, rfl⟩
theorem iX8_count_1 : zat mX8_count 1 1 2 (.iload_n 1) := ⟨by decide +kernel, rfl⟩
theorem iX8_count_2 : zat mX8_count 2 3 5 (.invokevirtual 312) := ⟨by decide +kernel, rfl⟩
theorem iX8_count_5 : zat mX8_count 5 1 6 (.ireturn) := ⟨by decide +kernel, rfl⟩
theorem iX8_say_0 : zat mX8_say 0 1 1 (.aload_n 0) := ⟨by decide +kernel, rfl⟩
theorem iX8_say_1 : zat mX8_say 1 3 4 (.ldc2_w 315) := ⟨by decide +kernel, rfl⟩
theorem iX8_say_4 : zat mX8_say 4 1 5 (.aload_n 0) := ⟨by decide +kernel, rfl⟩
theorem iX8_say_5 : zat mX8_say 5 3 8 (.getfield 317) := ⟨by decide +kernel, rfl⟩
theorem iX8_say_8 : zat mX8_say 8 1 9 (.lmul) := ⟨by decide +kernel, rfl⟩
theorem iX8_say_9 : zat mX8_say 9 1 10 (.lload_n 1) := ⟨by decide +kernel, rfl⟩
theorem iX8_say_10 : zat mX8_say 10 1 11 (.ladd) := ⟨by decide +kernel, rfl⟩
theorem iX8_say_11 : zat mX8_say 11 3 14 (.putfield 317) := ⟨by decide +kernel, rfl⟩
theorem iX8_say_14 : zat mX8_say 14 1 15 (.return_) := ⟨by decide +kernel, rfl⟩
theorem iX8_sayBarn_0 : zat mX8_sayBarn 0 1 1 (.aload_n 0) := ⟨by decide +kernel, rfl⟩
theorem iX8_sayBarn_1 : zat mX8_sayBarn 1 1 2 (.aload_n 0) := ⟨by decide +kernel, rfl⟩
theorem iX8_sayBarn_2 : zat mX8_sayBarn 2 1 3 (.iconst 2) := ⟨by decide +kernel, rfl⟩
theorem iX8_sayBarn_3 : zat mX8_sayBarn 3 3 6 (.invokevirtual 236) := ⟨by decide +kernel, rfl⟩
theorem iX8_sayBarn_6 : zat mX8_sayBarn 6 1 7 (.i2l) := ⟨by decide +kernel, rfl⟩
theorem iX8_sayBarn_7 : zat mX8_sayBarn 7 3 10 (.invokevirtual 321) := ⟨by decide +kernel, rfl⟩
theorem iX8_sayBarn_10 : zat mX8_sayBarn 10 1 11 (.aload_n 0) := ⟨by decide +kernel, rfl⟩
theorem iX8_sayBarn_11 : zat mX8_sayBarn 11 1 12 (.aload_n 0) := ⟨by decide +kernel, rfl⟩
theorem iX8_sayBarn_12 : zat mX8_sayBarn 12 1 13 (.iconst 2) := ⟨by decide +kernel, rfl⟩
theorem iX8_sayBarn_13 : zat mX8_sayBarn 13 1 14 (.iconst 0) := ⟨by decide +kernel, rfl⟩
theorem iX8_sayBarn_14 : zat mX8_sayBarn 14 3 17 (.invokevirtual 251) := ⟨by decide +kernel, rfl⟩
theorem iX8_sayBarn_17 : zat mX8_sayBarn 17 1 18 (.i2l) := ⟨by decide +kernel, rfl⟩
theorem iX8_sayBarn_18 : zat mX8_sayBarn 18 3 21 (.invokevirtual 321) := ⟨by decide +kernel, rfl⟩
theorem iX8_sayBarn_21 : zat mX8_sayBarn 21 1 22 (.aload_n 0) := ⟨by decide +kernel, rfl⟩
theorem iX8_sayBarn_22 : zat mX8_sayBarn 22 1 23 (.aload_n 0) := ⟨by decide +kernel, rfl⟩
theorem iX8_sayBarn_23 : zat mX8_sayBarn 23 1 24 (.iconst 2) := ⟨by decide +kernel, rfl⟩
theorem iX8_sayBarn_24 : zat mX8_sayBarn 24 2 26 (.bipush 10) := ⟨by decide +kernel, rfl⟩
theorem iX8_sayBarn_26 : zat mX8_sayBarn 26 3 29 (.invokevirtual 251) := ⟨by decide +kernel, rfl⟩
theorem iX8_sayBarn_29 : zat mX8_sayBarn 29 1 30 (.i2l) := ⟨by decide +kernel, rfl⟩
theorem iX8_sayBarn_30 : zat mX8_sayBarn 30 3 33 (.invokevirtual 321) := ⟨by decide +kernel, rfl⟩
theorem iX8_sayBarn_33 : zat mX8_sayBarn 33 1 34 (.aload_n 0) := ⟨by decide +kernel, rfl⟩
theorem iX8_sayBarn_34 : zat mX8_sayBarn 34 1 35 (.aload_n 0) := ⟨by decide +kernel, rfl⟩
theorem iX8_sayBarn_35 : zat mX8_sayBarn 35 1 36 (.iconst 2) := ⟨by decide +kernel, rfl⟩
theorem iX8_sayBarn_36 : zat mX8_sayBarn 36 2 38 (.bipush 11) := ⟨by decide +kernel, rfl⟩
theorem iX8_sayBarn_38 : zat mX8_sayBarn 38 3 41 (.invokevirtual 251) := ⟨by decide +kernel, rfl⟩
theorem iX8_sayBarn_41 : zat mX8_sayBarn 41 1 42 (.i2l) := ⟨by decide +kernel, rfl⟩
theorem iX8_sayBarn_42 : zat mX8_sayBarn 42 3 45 (.invokevirtual 321) := ⟨by decide +kernel, rfl⟩
theorem iX8_sayBarn_45 : zat mX8_sayBarn 45 1 46 (.aload_n 0) := ⟨by decide +kernel, rfl⟩
theorem iX8_sayBarn_46 : zat mX8_sayBarn 46 1 47 (.aload_n 0) := ⟨by decide +kernel, rfl⟩
theorem iX8_sayBarn_47 : zat mX8_sayBarn 47 2 49 (.bipush 9) := ⟨by decide +kernel, rfl⟩
theorem iX8_sayBarn_49 : zat mX8_sayBarn 49 3 52 (.invokevirtual 264) := ⟨by decide +kernel, rfl⟩
theorem iX8_sayBarn_52 : zat mX8_sayBarn 52 1 53 (.i2l) := ⟨by decide +kernel, rfl⟩
theorem iX8_sayBarn_53 : zat mX8_sayBarn 53 3 56 (.invokevirtual 321) := ⟨by decide +kernel, rfl⟩
theorem iX8_sayBarn_56 : zat mX8_sayBarn 56 1 57 (.return_) := ⟨by decide +kernel, rfl⟩
theorem iX8_digest_0 : zat mX8_digest 0 1 1 (.aload_n 0) := ⟨by decide +kernel, rfl⟩
theorem iX8_digest_1 : zat mX8_digest 1 3 4 (.ldc2_w 325) := ⟨by decide +kernel, rfl⟩
theorem iX8_digest_4 : zat mX8_digest 4 3 7 (.putfield 317) := ⟨by decide +kernel, rfl⟩
theorem iX8_digest_7 : zat mX8_digest 7 1 8 (.iconst 0) := ⟨by decide +kernel, rfl⟩
theorem iX8_digest_8 : zat mX8_digest 8 1 9 (.istore_n 1) := ⟨by decide +kernel, rfl⟩
theorem iX8_digest_9 : zat mX8_digest 9 1 10 (.iload_n 1) := ⟨by decide +kernel, rfl⟩
theorem iX8_digest_10 : zat mX8_digest 10 1 11 (.aload_n 0) := ⟨by decide +kernel, rfl⟩
theorem iX8_digest_11 : zat mX8_digest 11 3 14 (.getfield 113) := ⟨by decide +kernel, rfl⟩
theorem iX8_digest_14 : zbr mX8_digest 14 17 54 (.if_icmp .ge) := ⟨40, by decide +kernel, rfl, rfl⟩
theorem iX8_digest_17 : zat mX8_digest 17 1 18 (.iconst 0) := ⟨by decide +kernel, rfl⟩
theorem iX8_digest_18 : zat mX8_digest 18 1 19 (.istore_n 2) := ⟨by decide +kernel, rfl⟩
theorem iX8_digest_19 : zat mX8_digest 19 1 20 (.iload_n 2) := ⟨by decide +kernel, rfl⟩
theorem iX8_digest_20 : zat mX8_digest 20 2 22 (.bipush 13) := ⟨by decide +kernel, rfl⟩
theorem iX8_digest_22 : zbr mX8_digest 22 25 48 (.if_icmp .ge) := ⟨26, by decide +kernel, rfl, rfl⟩
theorem iX8_digest_25 : zat mX8_digest 25 1 26 (.iload_n 2) := ⟨by decide +kernel, rfl⟩
theorem iX8_digest_26 : zat mX8_digest 26 2 28 (.bipush 9) := ⟨by decide +kernel, rfl⟩
theorem iX8_digest_28 : zbr mX8_digest 28 31 42 (.if_icmp .eq) := ⟨14, by decide +kernel, rfl, rfl⟩
theorem iX8_digest_31 : zat mX8_digest 31 1 32 (.aload_n 0) := ⟨by decide +kernel, rfl⟩
theorem iX8_digest_32 : zat mX8_digest 32 1 33 (.aload_n 0) := ⟨by decide +kernel, rfl⟩
theorem iX8_digest_33 : zat mX8_digest 33 1 34 (.iload_n 1) := ⟨by decide +kernel, rfl⟩
theorem iX8_digest_34 : zat mX8_digest 34 1 35 (.iload_n 2) := ⟨by decide +kernel, rfl⟩
theorem iX8_digest_35 : zat mX8_digest 35 3 38 (.invokevirtual 182) := ⟨by decide +kernel, rfl⟩
theorem iX8_digest_38 : zat mX8_digest 38 1 39 (.i2l) := ⟨by decide +kernel, rfl⟩
theorem iX8_digest_39 : zat mX8_digest 39 3 42 (.invokevirtual 321) := ⟨by decide +kernel, rfl⟩
theorem iX8_digest_42 : zat mX8_digest 42 3 45 (.iinc 2 1) := ⟨by decide +kernel, rfl⟩
theorem iX8_digest_45 : zbr mX8_digest 45 48 19 (.goto) := ⟨-26, by decide +kernel, rfl, rfl⟩
theorem iX8_digest_48 : zat mX8_digest 48 3 51 (.iinc 1 1) := ⟨by decide +kernel, rfl⟩
theorem iX8_digest_51 : zbr mX8_digest 51 54 9 (.goto) := ⟨-42, by decide +kernel, rfl, rfl⟩
theorem iX8_digest_54 : zat mX8_digest 54 1 55 (.iconst 0) := ⟨by decide +kernel, rfl⟩
theorem iX8_digest_55 : zat mX8_digest 55 1 56 (.istore_n 1) := ⟨by decide +kernel, rfl⟩
theorem iX8_digest_56 : zat mX8_digest 56 1 57 (.iload_n 1) := ⟨by decide +kernel, rfl⟩
theorem iX8_digest_57 : zat mX8_digest 57 1 58 (.aload_n 0) := ⟨by decide +kernel, rfl⟩
theorem iX8_digest_58 : zat mX8_digest 58 3 61 (.getfield 110) := ⟨by decide +kernel, rfl⟩
theorem iX8_digest_61 : zbr mX8_digest 61 64 106 (.if_icmp .ge) := ⟨45, by decide +kernel, rfl, rfl⟩
theorem iX8_digest_64 : zat mX8_digest 64 1 65 (.iconst 0) := ⟨by decide +kernel, rfl⟩
theorem iX8_digest_65 : zat mX8_digest 65 1 66 (.istore_n 2) := ⟨by decide +kernel, rfl⟩
theorem iX8_digest_66 : zat mX8_digest 66 1 67 (.iload_n 2) := ⟨by decide +kernel, rfl⟩
theorem iX8_digest_67 : zat mX8_digest 67 2 69 (.bipush 13) := ⟨by decide +kernel, rfl⟩
theorem iX8_digest_69 : zbr mX8_digest 69 72 100 (.if_icmp .ge) := ⟨31, by decide +kernel, rfl, rfl⟩
theorem iX8_digest_72 : zat mX8_digest 72 1 73 (.iload_n 2) := ⟨by decide +kernel, rfl⟩
theorem iX8_digest_73 : zat mX8_digest 73 1 74 (.iconst 5) := ⟨by decide +kernel, rfl⟩
theorem iX8_digest_74 : zbr mX8_digest 74 77 83 (.if_icmp .lt) := ⟨9, by decide +kernel, rfl, rfl⟩
theorem iX8_digest_77 : zat mX8_digest 77 1 78 (.iload_n 2) := ⟨by decide +kernel, rfl⟩
theorem iX8_digest_78 : zat mX8_digest 78 2 80 (.bipush 9) := ⟨by decide +kernel, rfl⟩
theorem iX8_digest_80 : zbr mX8_digest 80 83 94 (.if_icmp .le) := ⟨14, by decide +kernel, rfl, rfl⟩
theorem iX8_digest_83 : zat mX8_digest 83 1 84 (.aload_n 0) := ⟨by decide +kernel, rfl⟩
theorem iX8_digest_84 : zat mX8_digest 84 1 85 (.aload_n 0) := ⟨by decide +kernel, rfl⟩
theorem iX8_digest_85 : zat mX8_digest 85 1 86 (.iload_n 1) := ⟨by decide +kernel, rfl⟩
theorem iX8_digest_86 : zat mX8_digest 86 1 87 (.iload_n 2) := ⟨by decide +kernel, rfl⟩
theorem iX8_digest_87 : zat mX8_digest 87 3 90 (.invokevirtual 211) := ⟨by decide +kernel, rfl⟩
theorem iX8_digest_90 : zat mX8_digest 90 1 91 (.i2l) := ⟨by decide +kernel, rfl⟩
theorem iX8_digest_91 : zat mX8_digest 91 3 94 (.invokevirtual 321) := ⟨by decide +kernel, rfl⟩
theorem iX8_digest_94 : zat mX8_digest 94 3 97 (.iinc 2 1) := ⟨by decide +kernel, rfl⟩
theorem iX8_digest_97 : zbr mX8_digest 97 100 66 (.goto) := ⟨-31, by decide +kernel, rfl, rfl⟩
theorem iX8_digest_100 : zat mX8_digest 100 3 103 (.iinc 1 1) := ⟨by decide +kernel, rfl⟩
theorem iX8_digest_103 : zbr mX8_digest 103 106 56 (.goto) := ⟨-47, by decide +kernel, rfl, rfl⟩
theorem iX8_digest_106 : zat mX8_digest 106 1 107 (.aload_n 0) := ⟨by decide +kernel, rfl⟩
theorem iX8_digest_107 : zat mX8_digest 107 3 110 (.invokevirtual 225) := ⟨by decide +kernel, rfl⟩
theorem iX8_digest_110 : zbr mX8_digest 110 113 117 (.ifCond .ne) := ⟨7, by decide +kernel, rfl, rfl⟩
theorem iX8_digest_113 : zat mX8_digest 113 1 114 (.aload_n 0) := ⟨by decide +kernel, rfl⟩
theorem iX8_digest_114 : zat mX8_digest 114 3 117 (.invokevirtual 327) := ⟨by decide +kernel, rfl⟩
theorem iX8_digest_117 : zat mX8_digest 117 1 118 (.iconst 0) := ⟨by decide +kernel, rfl⟩
theorem iX8_digest_118 : zat mX8_digest 118 1 119 (.istore_n 1) := ⟨by decide +kernel, rfl⟩
theorem iX8_digest_119 : zat mX8_digest 119 1 120 (.iload_n 1) := ⟨by decide +kernel, rfl⟩
theorem iX8_digest_120 : zat mX8_digest 120 1 121 (.aload_n 0) := ⟨by decide +kernel, rfl⟩
theorem iX8_digest_121 : zat mX8_digest 121 3 124 (.getfield 83) := ⟨by decide +kernel, rfl⟩
theorem iX8_digest_124 : zbr mX8_digest 124 127 144 (.if_icmp .ge) := ⟨20, by decide +kernel, rfl, rfl⟩
theorem iX8_digest_127 : zat mX8_digest 127 1 128 (.aload_n 0) := ⟨by decide +kernel, rfl⟩
theorem iX8_digest_128 : zat mX8_digest 128 1 129 (.aload_n 0) := ⟨by decide +kernel, rfl⟩
theorem iX8_digest_129 : zat mX8_digest 129 3 132 (.getfield 7) := ⟨by decide +kernel, rfl⟩
theorem iX8_digest_132 : zat mX8_digest 132 1 133 (.iload_n 1) := ⟨by decide +kernel, rfl⟩
theorem iX8_digest_133 : zat mX8_digest 133 1 134 (.iaload) := ⟨by decide +kernel, rfl⟩
theorem iX8_digest_134 : zat mX8_digest 134 1 135 (.i2l) := ⟨by decide +kernel, rfl⟩
theorem iX8_digest_135 : zat mX8_digest 135 3 138 (.invokevirtual 321) := ⟨by decide +kernel, rfl⟩
theorem iX8_digest_138 : zat mX8_digest 138 3 141 (.iinc 1 1) := ⟨by decide +kernel, rfl⟩
theorem iX8_digest_141 : zbr mX8_digest 141 144 119 (.goto) := ⟨-22, by decide +kernel, rfl, rfl⟩
theorem iX8_digest_144 : zat mX8_digest 144 1 145 (.iconst 0) := ⟨by decide +kernel, rfl⟩
theorem iX8_digest_145 : zat mX8_digest 145 1 146 (.istore_n 1) := ⟨by decide +kernel, rfl⟩
theorem iX8_digest_146 : zat mX8_digest 146 1 147 (.iload_n 1) := ⟨by decide +kernel, rfl⟩
theorem iX8_digest_147 : zat mX8_digest 147 2 149 (.bipush 13) := ⟨by decide +kernel, rfl⟩
theorem iX8_digest_149 : zbr mX8_digest 149 152 168 (.if_icmp .ge) := ⟨19, by decide +kernel, rfl, rfl⟩
theorem iX8_digest_152 : zat mX8_digest 152 1 153 (.aload_n 0) := ⟨by decide +kernel, rfl⟩
theorem iX8_digest_153 : zat mX8_digest 153 1 154 (.aload_n 0) := ⟨by decide +kernel, rfl⟩
theorem iX8_digest_154 : zat mX8_digest 154 1 155 (.iload_n 1) := ⟨by decide +kernel, rfl⟩
theorem iX8_digest_155 : zat mX8_digest 155 3 158 (.invokevirtual 312) := ⟨by decide +kernel, rfl⟩
theorem iX8_digest_158 : zat mX8_digest 158 1 159 (.i2l) := ⟨by decide +kernel, rfl⟩
theorem iX8_digest_159 : zat mX8_digest 159 3 162 (.invokevirtual 321) := ⟨by decide +kernel, rfl⟩
theorem iX8_digest_162 : zat mX8_digest 162 3 165 (.iinc 1 1) := ⟨by decide +kernel, rfl⟩
theorem iX8_digest_165 : zbr mX8_digest 165 168 146 (.goto) := ⟨-19, by decide +kernel, rfl, rfl⟩
theorem iX8_digest_168 : zat mX8_digest 168 1 169 (.aload_n 0) := ⟨by decide +kernel, rfl⟩
theorem iX8_digest_169 : zat mX8_digest 169 3 172 (.getfield 317) := ⟨by decide +kernel, rfl⟩
theorem iX8_digest_172 : zat mX8_digest 172 1 173 (.lreturn) := ⟨by decide +kernel, rfl⟩
theorem iL_law_0 : zat mL_law 0 3 3 (.new 7) := ⟨by decide +kernel, rfl⟩
theorem iL_law_3 : zat mL_law 3 1 4 (.dup) := ⟨by decide +kernel, rfl⟩
theorem iL_law_4 : zat mL_law 4 3 7 (.invokespecial 9) := ⟨by decide +kernel, rfl⟩
theorem iL_law_7 : zat mL_law 7 1 8 (.astore_n 1) := ⟨by decide +kernel, rfl⟩
theorem iL_law_8 : zat mL_law 8 3 11 (.new 10) := ⟨by decide +kernel, rfl⟩
theorem iL_law_11 : zat mL_law 11 1 12 (.dup) := ⟨by decide +kernel, rfl⟩
theorem iL_law_12 : zat mL_law 12 3 15 (.invokespecial 12) := ⟨by decide +kernel, rfl⟩
theorem iL_law_15 : zat mL_law 15 1 16 (.astore_n 2) := ⟨by decide +kernel, rfl⟩
theorem iL_law_16 : zat mL_law 16 1 17 (.iconst 0) := ⟨by decide +kernel, rfl⟩
theorem iL_law_17 : zat mL_law 17 1 18 (.istore_n 3) := ⟨by decide +kernel, rfl⟩
theorem iL_law_18 : zat mL_law 18 1 19 (.iload_n 3) := ⟨by decide +kernel, rfl⟩
theorem iL_law_19 : zat mL_law 19 1 20 (.aload_n 0) := ⟨by decide +kernel, rfl⟩
theorem iL_law_20 : zat mL_law 20 1 21 (.arraylength) := ⟨by decide +kernel, rfl⟩
theorem iL_law_21 : zat mL_law 21 1 22 (.iconst 4) := ⟨by decide +kernel, rfl⟩
theorem iL_law_22 : zat mL_law 22 1 23 (.isub) := ⟨by decide +kernel, rfl⟩
theorem iL_law_23 : zbr mL_law 23 26 669 (.if_icmp .gt) := ⟨646, by decide +kernel, rfl, rfl⟩
theorem iL_law_26 : zat mL_law 26 1 27 (.aload_n 0) := ⟨by decide +kernel, rfl⟩
theorem iL_law_27 : zat mL_law 27 1 28 (.iload_n 3) := ⟨by decide +kernel, rfl⟩
theorem iL_law_28 : zat mL_law 28 1 29 (.iaload) := ⟨by decide +kernel, rfl⟩
theorem iL_law_29 : zat mL_law 29 2 31 (.bipush 31) := ⟨by decide +kernel, rfl⟩
theorem iL_law_31 : zat mL_law 31 1 32 (.iand) := ⟨by decide +kernel, rfl⟩
theorem iL_law_32 : zat mL_law 32 104 136 (.tableswitch 631 0 21 #[104, 127, 140, 153, 166, 199, 232, 265, 298, 311, 334, 367, 390, 423, 446, 469, 512, 525, 568, 581, 594, 617]) := ⟨by decide +kernel, rfl⟩
theorem iL_law_136 : zat mL_law 136 1 137 (.aload_n 1) := ⟨by decide +kernel, rfl⟩
theorem iL_law_137 : zat mL_law 137 1 138 (.aload_n 0) := ⟨by decide +kernel, rfl⟩
theorem iL_law_138 : zat mL_law 138 1 139 (.iload_n 3) := ⟨by decide +kernel, rfl⟩
theorem iL_law_139 : zat mL_law 139 1 140 (.iconst 1) := ⟨by decide +kernel, rfl⟩
theorem iL_law_140 : zat mL_law 140 1 141 (.iadd) := ⟨by decide +kernel, rfl⟩
theorem iL_law_141 : zat mL_law 141 1 142 (.iaload) := ⟨by decide +kernel, rfl⟩
theorem iL_law_142 : zat mL_law 142 3 145 (.invokevirtual 13) := ⟨by decide +kernel, rfl⟩
theorem iL_law_145 : zat mL_law 145 1 146 (.aload_n 2) := ⟨by decide +kernel, rfl⟩
theorem iL_law_146 : zat mL_law 146 1 147 (.aload_n 0) := ⟨by decide +kernel, rfl⟩
theorem iL_law_147 : zat mL_law 147 1 148 (.iload_n 3) := ⟨by decide +kernel, rfl⟩
theorem iL_law_148 : zat mL_law 148 1 149 (.iconst 1) := ⟨by decide +kernel, rfl⟩
theorem iL_law_149 : zat mL_law 149 1 150 (.iadd) := ⟨by decide +kernel, rfl⟩
theorem iL_law_150 : zat mL_law 150 1 151 (.iaload) := ⟨by decide +kernel, rfl⟩
theorem iL_law_151 : zat mL_law 151 3 154 (.invokevirtual 17) := ⟨by decide +kernel, rfl⟩
theorem iL_law_154 : zbr mL_law 154 157 663 (.if_icmp .eq) := ⟨509, by decide +kernel, rfl, rfl⟩
theorem iL_law_157 : zat mL_law 157 1 158 (.iconst 0) := ⟨by decide +kernel, rfl⟩
theorem iL_law_158 : zat mL_law 158 1 159 (.ireturn) := ⟨by decide +kernel, rfl⟩
theorem iL_law_159 : zat mL_law 159 1 160 (.aload_n 1) := ⟨by decide +kernel, rfl⟩
theorem iL_law_160 : zat mL_law 160 3 163 (.invokevirtual 18) := ⟨by decide +kernel, rfl⟩
theorem iL_law_163 : zat mL_law 163 1 164 (.aload_n 2) := ⟨by decide +kernel, rfl⟩
theorem iL_law_164 : zat mL_law 164 3 167 (.invokevirtual 22) := ⟨by decide +kernel, rfl⟩
theorem iL_law_167 : zbr mL_law 167 170 663 (.if_icmp .eq) := ⟨496, by decide +kernel, rfl, rfl⟩
theorem iL_law_170 : zat mL_law 170 1 171 (.iconst 0) := ⟨by decide +kernel, rfl⟩
theorem iL_law_171 : zat mL_law 171 1 172 (.ireturn) := ⟨by decide +kernel, rfl⟩
theorem iL_law_172 : zat mL_law 172 1 173 (.aload_n 1) := ⟨by decide +kernel, rfl⟩
theorem iL_law_173 : zat mL_law 173 3 176 (.invokevirtual 23) := ⟨by decide +kernel, rfl⟩
theorem iL_law_176 : zat mL_law 176 1 177 (.aload_n 2) := ⟨by decide +kernel, rfl⟩
theorem iL_law_177 : zat mL_law 177 3 180 (.invokevirtual 26) := ⟨by decide +kernel, rfl⟩
theorem iL_law_180 : zbr mL_law 180 183 663 (.if_icmp .eq) := ⟨483, by decide +kernel, rfl, rfl⟩
theorem iL_law_183 : zat mL_law 183 1 184 (.iconst 0) := ⟨by decide +kernel, rfl⟩
theorem iL_law_184 : zat mL_law 184 1 185 (.ireturn) := ⟨by decide +kernel, rfl⟩
theorem iL_law_185 : zat mL_law 185 1 186 (.aload_n 1) := ⟨by decide +kernel, rfl⟩
theorem iL_law_186 : zat mL_law 186 3 189 (.invokevirtual 27) := ⟨by decide +kernel, rfl⟩
theorem iL_law_189 : zat mL_law 189 1 190 (.aload_n 2) := ⟨by decide +kernel, rfl⟩
theorem iL_law_190 : zat mL_law 190 3 193 (.invokevirtual 30) := ⟨by decide +kernel, rfl⟩
theorem iL_law_193 : zbr mL_law 193 196 663 (.if_icmp .eq) := ⟨470, by decide +kernel, rfl, rfl⟩
theorem iL_law_196 : zat mL_law 196 1 197 (.iconst 0) := ⟨by decide +kernel, rfl⟩
theorem iL_law_197 : zat mL_law 197 1 198 (.ireturn) := ⟨by decide +kernel, rfl⟩
theorem iL_law_198 : zat mL_law 198 1 199 (.aload_n 1) := ⟨by decide +kernel, rfl⟩
theorem iL_law_199 : zat mL_law 199 1 200 (.aload_n 0) := ⟨by decide +kernel, rfl⟩
theorem iL_law_200 : zat mL_law 200 1 201 (.iload_n 3) := ⟨by decide +kernel, rfl⟩
theorem iL_law_201 : zat mL_law 201 1 202 (.iconst 1) := ⟨by decide +kernel, rfl⟩
theorem iL_law_202 : zat mL_law 202 1 203 (.iadd) := ⟨by decide +kernel, rfl⟩
theorem iL_law_203 : zat mL_law 203 1 204 (.iaload) := ⟨by decide +kernel, rfl⟩
theorem iL_law_204 : zat mL_law 204 1 205 (.aload_n 0) := ⟨by decide +kernel, rfl⟩
theorem iL_law_205 : zat mL_law 205 1 206 (.iload_n 3) := ⟨by decide +kernel, rfl⟩
theorem iL_law_206 : zat mL_law 206 1 207 (.iconst 2) := ⟨by decide +kernel, rfl⟩
theorem iL_law_207 : zat mL_law 207 1 208 (.iadd) := ⟨by decide +kernel, rfl⟩
theorem iL_law_208 : zat mL_law 208 1 209 (.iaload) := ⟨by decide +kernel, rfl⟩
theorem iL_law_209 : zat mL_law 209 3 212 (.invokevirtual 31) := ⟨by decide +kernel, rfl⟩
theorem iL_law_212 : zat mL_law 212 1 213 (.aload_n 2) := ⟨by decide +kernel, rfl⟩
theorem iL_law_213 : zat mL_law 213 1 214 (.aload_n 0) := ⟨by decide +kernel, rfl⟩
theorem iL_law_214 : zat mL_law 214 1 215 (.iload_n 3) := ⟨by decide +kernel, rfl⟩
theorem iL_law_215 : zat mL_law 215 1 216 (.iconst 1) := ⟨by decide +kernel, rfl⟩
theorem iL_law_216 : zat mL_law 216 1 217 (.iadd) := ⟨by decide +kernel, rfl⟩
theorem iL_law_217 : zat mL_law 217 1 218 (.iaload) := ⟨by decide +kernel, rfl⟩
theorem iL_law_218 : zat mL_law 218 1 219 (.aload_n 0) := ⟨by decide +kernel, rfl⟩
theorem iL_law_219 : zat mL_law 219 1 220 (.iload_n 3) := ⟨by decide +kernel, rfl⟩
theorem iL_law_220 : zat mL_law 220 1 221 (.iconst 2) := ⟨by decide +kernel, rfl⟩
theorem iL_law_221 : zat mL_law 221 1 222 (.iadd) := ⟨by decide +kernel, rfl⟩
theorem iL_law_222 : zat mL_law 222 1 223 (.iaload) := ⟨by decide +kernel, rfl⟩
theorem iL_law_223 : zat mL_law 223 3 226 (.invokevirtual 35) := ⟨by decide +kernel, rfl⟩
theorem iL_law_226 : zbr mL_law 226 229 663 (.if_icmp .eq) := ⟨437, by decide +kernel, rfl, rfl⟩
theorem iL_law_229 : zat mL_law 229 1 230 (.iconst 0) := ⟨by decide +kernel, rfl⟩
theorem iL_law_230 : zat mL_law 230 1 231 (.ireturn) := ⟨by decide +kernel, rfl⟩
theorem iL_law_231 : zat mL_law 231 1 232 (.aload_n 1) := ⟨by decide +kernel, rfl⟩
theorem iL_law_232 : zat mL_law 232 1 233 (.aload_n 0) := ⟨by decide +kernel, rfl⟩
theorem iL_law_233 : zat mL_law 233 1 234 (.iload_n 3) := ⟨by decide +kernel, rfl⟩
theorem iL_law_234 : zat mL_law 234 1 235 (.iconst 1) := ⟨by decide +kernel, rfl⟩
theorem iL_law_235 : zat mL_law 235 1 236 (.iadd) := ⟨by decide +kernel, rfl⟩
theorem iL_law_236 : zat mL_law 236 1 237 (.iaload) := ⟨by decide +kernel, rfl⟩
theorem iL_law_237 : zat mL_law 237 1 238 (.aload_n 0) := ⟨by decide +kernel, rfl⟩
theorem iL_law_238 : zat mL_law 238 1 239 (.iload_n 3) := ⟨by decide +kernel, rfl⟩
theorem iL_law_239 : zat mL_law 239 1 240 (.iconst 2) := ⟨by decide +kernel, rfl⟩
theorem iL_law_240 : zat mL_law 240 1 241 (.iadd) := ⟨by decide +kernel, rfl⟩
theorem iL_law_241 : zat mL_law 241 1 242 (.iaload) := ⟨by decide +kernel, rfl⟩
theorem iL_law_242 : zat mL_law 242 3 245 (.invokevirtual 36) := ⟨by decide +kernel, rfl⟩
theorem iL_law_245 : zat mL_law 245 1 246 (.aload_n 2) := ⟨by decide +kernel, rfl⟩
theorem iL_law_246 : zat mL_law 246 1 247 (.aload_n 0) := ⟨by decide +kernel, rfl⟩
theorem iL_law_247 : zat mL_law 247 1 248 (.iload_n 3) := ⟨by decide +kernel, rfl⟩
theorem iL_law_248 : zat mL_law 248 1 249 (.iconst 1) := ⟨by decide +kernel, rfl⟩
theorem iL_law_249 : zat mL_law 249 1 250 (.iadd) := ⟨by decide +kernel, rfl⟩
theorem iL_law_250 : zat mL_law 250 1 251 (.iaload) := ⟨by decide +kernel, rfl⟩
theorem iL_law_251 : zat mL_law 251 1 252 (.aload_n 0) := ⟨by decide +kernel, rfl⟩
theorem iL_law_252 : zat mL_law 252 1 253 (.iload_n 3) := ⟨by decide +kernel, rfl⟩
theorem iL_law_253 : zat mL_law 253 1 254 (.iconst 2) := ⟨by decide +kernel, rfl⟩
theorem iL_law_254 : zat mL_law 254 1 255 (.iadd) := ⟨by decide +kernel, rfl⟩
theorem iL_law_255 : zat mL_law 255 1 256 (.iaload) := ⟨by decide +kernel, rfl⟩
theorem iL_law_256 : zat mL_law 256 3 259 (.invokevirtual 39) := ⟨by decide +kernel, rfl⟩
theorem iL_law_259 : zbr mL_law 259 262 663 (.if_icmp .eq) := ⟨404, by decide +kernel, rfl, rfl⟩
theorem iL_law_262 : zat mL_law 262 1 263 (.iconst 0) := ⟨by decide +kernel, rfl⟩
theorem iL_law_263 : zat mL_law 263 1 264 (.ireturn) := ⟨by decide +kernel, rfl⟩
theorem iL_law_264 : zat mL_law 264 1 265 (.aload_n 1) := ⟨by decide +kernel, rfl⟩
theorem iL_law_265 : zat mL_law 265 1 266 (.aload_n 0) := ⟨by decide +kernel, rfl⟩
theorem iL_law_266 : zat mL_law 266 1 267 (.iload_n 3) := ⟨by decide +kernel, rfl⟩
theorem iL_law_267 : zat mL_law 267 1 268 (.iconst 1) := ⟨by decide +kernel, rfl⟩
theorem iL_law_268 : zat mL_law 268 1 269 (.iadd) := ⟨by decide +kernel, rfl⟩
theorem iL_law_269 : zat mL_law 269 1 270 (.iaload) := ⟨by decide +kernel, rfl⟩
theorem iL_law_270 : zat mL_law 270 1 271 (.aload_n 0) := ⟨by decide +kernel, rfl⟩
theorem iL_law_271 : zat mL_law 271 1 272 (.iload_n 3) := ⟨by decide +kernel, rfl⟩
theorem iL_law_272 : zat mL_law 272 1 273 (.iconst 2) := ⟨by decide +kernel, rfl⟩
theorem iL_law_273 : zat mL_law 273 1 274 (.iadd) := ⟨by decide +kernel, rfl⟩
theorem iL_law_274 : zat mL_law 274 1 275 (.iaload) := ⟨by decide +kernel, rfl⟩
theorem iL_law_275 : zat mL_law 275 3 278 (.invokevirtual 40) := ⟨by decide +kernel, rfl⟩
theorem iL_law_278 : zat mL_law 278 1 279 (.aload_n 2) := ⟨by decide +kernel, rfl⟩
theorem iL_law_279 : zat mL_law 279 1 280 (.aload_n 0) := ⟨by decide +kernel, rfl⟩
theorem iL_law_280 : zat mL_law 280 1 281 (.iload_n 3) := ⟨by decide +kernel, rfl⟩
theorem iL_law_281 : zat mL_law 281 1 282 (.iconst 1) := ⟨by decide +kernel, rfl⟩
theorem iL_law_282 : zat mL_law 282 1 283 (.iadd) := ⟨by decide +kernel, rfl⟩
theorem iL_law_283 : zat mL_law 283 1 284 (.iaload) := ⟨by decide +kernel, rfl⟩
theorem iL_law_284 : zat mL_law 284 1 285 (.aload_n 0) := ⟨by decide +kernel, rfl⟩
theorem iL_law_285 : zat mL_law 285 1 286 (.iload_n 3) := ⟨by decide +kernel, rfl⟩
theorem iL_law_286 : zat mL_law 286 1 287 (.iconst 2) := ⟨by decide +kernel, rfl⟩
theorem iL_law_287 : zat mL_law 287 1 288 (.iadd) := ⟨by decide +kernel, rfl⟩
theorem iL_law_288 : zat mL_law 288 1 289 (.iaload) := ⟨by decide +kernel, rfl⟩
theorem iL_law_289 : zat mL_law 289 3 292 (.invokevirtual 43) := ⟨by decide +kernel, rfl⟩
theorem iL_law_292 : zbr mL_law 292 295 663 (.if_icmp .eq) := ⟨371, by decide +kernel, rfl, rfl⟩
theorem iL_law_295 : zat mL_law 295 1 296 (.iconst 0) := ⟨by decide +kernel, rfl⟩
theorem iL_law_296 : zat mL_law 296 1 297 (.ireturn) := ⟨by decide +kernel, rfl⟩
theorem iL_law_297 : zat mL_law 297 1 298 (.aload_n 1) := ⟨by decide +kernel, rfl⟩
theorem iL_law_298 : zat mL_law 298 1 299 (.aload_n 0) := ⟨by decide +kernel, rfl⟩
theorem iL_law_299 : zat mL_law 299 1 300 (.iload_n 3) := ⟨by decide +kernel, rfl⟩
theorem iL_law_300 : zat mL_law 300 1 301 (.iconst 1) := ⟨by decide +kernel, rfl⟩
theorem iL_law_301 : zat mL_law 301 1 302 (.iadd) := ⟨by decide +kernel, rfl⟩
theorem iL_law_302 : zat mL_law 302 1 303 (.iaload) := ⟨by decide +kernel, rfl⟩
theorem iL_law_303 : zat mL_law 303 1 304 (.aload_n 0) := ⟨by decide +kernel, rfl⟩
theorem iL_law_304 : zat mL_law 304 1 305 (.iload_n 3) := ⟨by decide +kernel, rfl⟩
theorem iL_law_305 : zat mL_law 305 1 306 (.iconst 2) := ⟨by decide +kernel, rfl⟩
theorem iL_law_306 : zat mL_law 306 1 307 (.iadd) := ⟨by decide +kernel, rfl⟩
theorem iL_law_307 : zat mL_law 307 1 308 (.iaload) := ⟨by decide +kernel, rfl⟩
theorem iL_law_308 : zat mL_law 308 3 311 (.invokevirtual 44) := ⟨by decide +kernel, rfl⟩
theorem iL_law_311 : zat mL_law 311 1 312 (.aload_n 2) := ⟨by decide +kernel, rfl⟩
theorem iL_law_312 : zat mL_law 312 1 313 (.aload_n 0) := ⟨by decide +kernel, rfl⟩
theorem iL_law_313 : zat mL_law 313 1 314 (.iload_n 3) := ⟨by decide +kernel, rfl⟩
theorem iL_law_314 : zat mL_law 314 1 315 (.iconst 1) := ⟨by decide +kernel, rfl⟩
theorem iL_law_315 : zat mL_law 315 1 316 (.iadd) := ⟨by decide +kernel, rfl⟩
theorem iL_law_316 : zat mL_law 316 1 317 (.iaload) := ⟨by decide +kernel, rfl⟩
theorem iL_law_317 : zat mL_law 317 1 318 (.aload_n 0) := ⟨by decide +kernel, rfl⟩
theorem iL_law_318 : zat mL_law 318 1 319 (.iload_n 3) := ⟨by decide +kernel, rfl⟩
theorem iL_law_319 : zat mL_law 319 1 320 (.iconst 2) := ⟨by decide +kernel, rfl⟩
theorem iL_law_320 : zat mL_law 320 1 321 (.iadd) := ⟨by decide +kernel, rfl⟩
theorem iL_law_321 : zat mL_law 321 1 322 (.iaload) := ⟨by decide +kernel, rfl⟩
theorem iL_law_322 : zat mL_law 322 3 325 (.invokevirtual 47) := ⟨by decide +kernel, rfl⟩
theorem iL_law_325 : zbr mL_law 325 328 663 (.if_icmp .eq) := ⟨338, by decide +kernel, rfl, rfl⟩
theorem iL_law_328 : zat mL_law 328 1 329 (.iconst 0) := ⟨by decide +kernel, rfl⟩
theorem iL_law_329 : zat mL_law 329 1 330 (.ireturn) := ⟨by decide +kernel, rfl⟩
theorem iL_law_330 : zat mL_law 330 1 331 (.aload_n 1) := ⟨by decide +kernel, rfl⟩
theorem iL_law_331 : zat mL_law 331 3 334 (.invokevirtual 48) := ⟨by decide +kernel, rfl⟩
theorem iL_law_334 : zat mL_law 334 1 335 (.aload_n 2) := ⟨by decide +kernel, rfl⟩
theorem iL_law_335 : zat mL_law 335 3 338 (.invokevirtual 51) := ⟨by decide +kernel, rfl⟩
theorem iL_law_338 : zbr mL_law 338 341 663 (.if_icmp .eq) := ⟨325, by decide +kernel, rfl, rfl⟩
theorem iL_law_341 : zat mL_law 341 1 342 (.iconst 0) := ⟨by decide +kernel, rfl⟩
theorem iL_law_342 : zat mL_law 342 1 343 (.ireturn) := ⟨by decide +kernel, rfl⟩
theorem iL_law_343 : zat mL_law 343 1 344 (.aload_n 1) := ⟨by decide +kernel, rfl⟩
theorem iL_law_344 : zat mL_law 344 1 345 (.aload_n 0) := ⟨by decide +kernel, rfl⟩
theorem iL_law_345 : zat mL_law 345 1 346 (.iload_n 3) := ⟨by decide +kernel, rfl⟩
theorem iL_law_346 : zat mL_law 346 1 347 (.iconst 1) := ⟨by decide +kernel, rfl⟩
theorem iL_law_347 : zat mL_law 347 1 348 (.iadd) := ⟨by decide +kernel, rfl⟩
theorem iL_law_348 : zat mL_law 348 1 349 (.iaload) := ⟨by decide +kernel, rfl⟩
theorem iL_law_349 : zat mL_law 349 3 352 (.invokevirtual 52) := ⟨by decide +kernel, rfl⟩
theorem iL_law_352 : zat mL_law 352 1 353 (.aload_n 2) := ⟨by decide +kernel, rfl⟩
theorem iL_law_353 : zat mL_law 353 1 354 (.aload_n 0) := ⟨by decide +kernel, rfl⟩
theorem iL_law_354 : zat mL_law 354 1 355 (.iload_n 3) := ⟨by decide +kernel, rfl⟩
theorem iL_law_355 : zat mL_law 355 1 356 (.iconst 1) := ⟨by decide +kernel, rfl⟩
theorem iL_law_356 : zat mL_law 356 1 357 (.iadd) := ⟨by decide +kernel, rfl⟩
theorem iL_law_357 : zat mL_law 357 1 358 (.iaload) := ⟨by decide +kernel, rfl⟩
theorem iL_law_358 : zat mL_law 358 3 361 (.invokevirtual 55) := ⟨by decide +kernel, rfl⟩
theorem iL_law_361 : zbr mL_law 361 364 663 (.if_icmp .eq) := ⟨302, by decide +kernel, rfl, rfl⟩
theorem iL_law_364 : zat mL_law 364 1 365 (.iconst 0) := ⟨by decide +kernel, rfl⟩
theorem iL_law_365 : zat mL_law 365 1 366 (.ireturn) := ⟨by decide +kernel, rfl⟩
theorem iL_law_366 : zat mL_law 366 1 367 (.aload_n 1) := ⟨by decide +kernel, rfl⟩
theorem iL_law_367 : zat mL_law 367 1 368 (.aload_n 0) := ⟨by decide +kernel, rfl⟩
theorem iL_law_368 : zat mL_law 368 1 369 (.iload_n 3) := ⟨by decide +kernel, rfl⟩
theorem iL_law_369 : zat mL_law 369 1 370 (.iconst 1) := ⟨by decide +kernel, rfl⟩
theorem iL_law_370 : zat mL_law 370 1 371 (.iadd) := ⟨by decide +kernel, rfl⟩
theorem iL_law_371 : zat mL_law 371 1 372 (.iaload) := ⟨by decide +kernel, rfl⟩
theorem iL_law_372 : zat mL_law 372 1 373 (.aload_n 0) := ⟨by decide +kernel, rfl⟩
theorem iL_law_373 : zat mL_law 373 1 374 (.iload_n 3) := ⟨by decide +kernel, rfl⟩
theorem iL_law_374 : zat mL_law 374 1 375 (.iconst 2) := ⟨by decide +kernel, rfl⟩
theorem iL_law_375 : zat mL_law 375 1 376 (.iadd) := ⟨by decide +kernel, rfl⟩
theorem iL_law_376 : zat mL_law 376 1 377 (.iaload) := ⟨by decide +kernel, rfl⟩
theorem iL_law_377 : zat mL_law 377 3 380 (.invokevirtual 56) := ⟨by decide +kernel, rfl⟩
theorem iL_law_380 : zat mL_law 380 1 381 (.aload_n 2) := ⟨by decide +kernel, rfl⟩
theorem iL_law_381 : zat mL_law 381 1 382 (.aload_n 0) := ⟨by decide +kernel, rfl⟩
theorem iL_law_382 : zat mL_law 382 1 383 (.iload_n 3) := ⟨by decide +kernel, rfl⟩
theorem iL_law_383 : zat mL_law 383 1 384 (.iconst 1) := ⟨by decide +kernel, rfl⟩
theorem iL_law_384 : zat mL_law 384 1 385 (.iadd) := ⟨by decide +kernel, rfl⟩
theorem iL_law_385 : zat mL_law 385 1 386 (.iaload) := ⟨by decide +kernel, rfl⟩
theorem iL_law_386 : zat mL_law 386 1 387 (.aload_n 0) := ⟨by decide +kernel, rfl⟩
theorem iL_law_387 : zat mL_law 387 1 388 (.iload_n 3) := ⟨by decide +kernel, rfl⟩
theorem iL_law_388 : zat mL_law 388 1 389 (.iconst 2) := ⟨by decide +kernel, rfl⟩
theorem iL_law_389 : zat mL_law 389 1 390 (.iadd) := ⟨by decide +kernel, rfl⟩
theorem iL_law_390 : zat mL_law 390 1 391 (.iaload) := ⟨by decide +kernel, rfl⟩
theorem iL_law_391 : zat mL_law 391 3 394 (.invokevirtual 59) := ⟨by decide +kernel, rfl⟩
theorem iL_law_394 : zbr mL_law 394 397 663 (.if_icmp .eq) := ⟨269, by decide +kernel, rfl, rfl⟩
theorem iL_law_397 : zat mL_law 397 1 398 (.iconst 0) := ⟨by decide +kernel, rfl⟩
theorem iL_law_398 : zat mL_law 398 1 399 (.ireturn) := ⟨by decide +kernel, rfl⟩
theorem iL_law_399 : zat mL_law 399 1 400 (.aload_n 1) := ⟨by decide +kernel, rfl⟩
theorem iL_law_400 : zat mL_law 400 1 401 (.aload_n 0) := ⟨by decide +kernel, rfl⟩
theorem iL_law_401 : zat mL_law 401 1 402 (.iload_n 3) := ⟨by decide +kernel, rfl⟩
theorem iL_law_402 : zat mL_law 402 1 403 (.iconst 1) := ⟨by decide +kernel, rfl⟩
theorem iL_law_403 : zat mL_law 403 1 404 (.iadd) := ⟨by decide +kernel, rfl⟩
theorem iL_law_404 : zat mL_law 404 1 405 (.iaload) := ⟨by decide +kernel, rfl⟩
theorem iL_law_405 : zat mL_law 405 3 408 (.invokevirtual 60) := ⟨by decide +kernel, rfl⟩
theorem iL_law_408 : zat mL_law 408 1 409 (.aload_n 2) := ⟨by decide +kernel, rfl⟩
theorem iL_law_409 : zat mL_law 409 1 410 (.aload_n 0) := ⟨by decide +kernel, rfl⟩
theorem iL_law_410 : zat mL_law 410 1 411 (.iload_n 3) := ⟨by decide +kernel, rfl⟩
theorem iL_law_411 : zat mL_law 411 1 412 (.iconst 1) := ⟨by decide +kernel, rfl⟩
theorem iL_law_412 : zat mL_law 412 1 413 (.iadd) := ⟨by decide +kernel, rfl⟩
theorem iL_law_413 : zat mL_law 413 1 414 (.iaload) := ⟨by decide +kernel, rfl⟩
theorem iL_law_414 : zat mL_law 414 3 417 (.invokevirtual 63) := ⟨by decide +kernel, rfl⟩
theorem iL_law_417 : zbr mL_law 417 420 663 (.if_icmp .eq) := ⟨246, by decide +kernel, rfl, rfl⟩
theorem iL_law_420 : zat mL_law 420 1 421 (.iconst 0) := ⟨by decide +kernel, rfl⟩
theorem iL_law_421 : zat mL_law 421 1 422 (.ireturn) := ⟨by decide +kernel, rfl⟩
theorem iL_law_422 : zat mL_law 422 1 423 (.aload_n 1) := ⟨by decide +kernel, rfl⟩
theorem iL_law_423 : zat mL_law 423 1 424 (.aload_n 0) := ⟨by decide +kernel, rfl⟩
theorem iL_law_424 : zat mL_law 424 1 425 (.iload_n 3) := ⟨by decide +kernel, rfl⟩
theorem iL_law_425 : zat mL_law 425 1 426 (.iconst 1) := ⟨by decide +kernel, rfl⟩
theorem iL_law_426 : zat mL_law 426 1 427 (.iadd) := ⟨by decide +kernel, rfl⟩
theorem iL_law_427 : zat mL_law 427 1 428 (.iaload) := ⟨by decide +kernel, rfl⟩
theorem iL_law_428 : zat mL_law 428 1 429 (.aload_n 0) := ⟨by decide +kernel, rfl⟩
theorem iL_law_429 : zat mL_law 429 1 430 (.iload_n 3) := ⟨by decide +kernel, rfl⟩
theorem iL_law_430 : zat mL_law 430 1 431 (.iconst 2) := ⟨by decide +kernel, rfl⟩
theorem iL_law_431 : zat mL_law 431 1 432 (.iadd) := ⟨by decide +kernel, rfl⟩
theorem iL_law_432 : zat mL_law 432 1 433 (.iaload) := ⟨by decide +kernel, rfl⟩
theorem iL_law_433 : zat mL_law 433 3 436 (.invokevirtual 64) := ⟨by decide +kernel, rfl⟩
theorem iL_law_436 : zat mL_law 436 1 437 (.aload_n 2) := ⟨by decide +kernel, rfl⟩
theorem iL_law_437 : zat mL_law 437 1 438 (.aload_n 0) := ⟨by decide +kernel, rfl⟩
theorem iL_law_438 : zat mL_law 438 1 439 (.iload_n 3) := ⟨by decide +kernel, rfl⟩
theorem iL_law_439 : zat mL_law 439 1 440 (.iconst 1) := ⟨by decide +kernel, rfl⟩
theorem iL_law_440 : zat mL_law 440 1 441 (.iadd) := ⟨by decide +kernel, rfl⟩
theorem iL_law_441 : zat mL_law 441 1 442 (.iaload) := ⟨by decide +kernel, rfl⟩
theorem iL_law_442 : zat mL_law 442 1 443 (.aload_n 0) := ⟨by decide +kernel, rfl⟩
theorem iL_law_443 : zat mL_law 443 1 444 (.iload_n 3) := ⟨by decide +kernel, rfl⟩
theorem iL_law_444 : zat mL_law 444 1 445 (.iconst 2) := ⟨by decide +kernel, rfl⟩
theorem iL_law_445 : zat mL_law 445 1 446 (.iadd) := ⟨by decide +kernel, rfl⟩
theorem iL_law_446 : zat mL_law 446 1 447 (.iaload) := ⟨by decide +kernel, rfl⟩
theorem iL_law_447 : zat mL_law 447 3 450 (.invokevirtual 67) := ⟨by decide +kernel, rfl⟩
theorem iL_law_450 : zbr mL_law 450 453 663 (.if_icmp .eq) := ⟨213, by decide +kernel, rfl, rfl⟩
theorem iL_law_453 : zat mL_law 453 1 454 (.iconst 0) := ⟨by decide +kernel, rfl⟩
theorem iL_law_454 : zat mL_law 454 1 455 (.ireturn) := ⟨by decide +kernel, rfl⟩
theorem iL_law_455 : zat mL_law 455 1 456 (.aload_n 1) := ⟨by decide +kernel, rfl⟩
theorem iL_law_456 : zat mL_law 456 1 457 (.aload_n 0) := ⟨by decide +kernel, rfl⟩
theorem iL_law_457 : zat mL_law 457 1 458 (.iload_n 3) := ⟨by decide +kernel, rfl⟩
theorem iL_law_458 : zat mL_law 458 1 459 (.iconst 1) := ⟨by decide +kernel, rfl⟩
theorem iL_law_459 : zat mL_law 459 1 460 (.iadd) := ⟨by decide +kernel, rfl⟩
theorem iL_law_460 : zat mL_law 460 1 461 (.iaload) := ⟨by decide +kernel, rfl⟩
theorem iL_law_461 : zat mL_law 461 3 464 (.invokevirtual 68) := ⟨by decide +kernel, rfl⟩
theorem iL_law_464 : zat mL_law 464 1 465 (.aload_n 2) := ⟨by decide +kernel, rfl⟩
theorem iL_law_465 : zat mL_law 465 1 466 (.aload_n 0) := ⟨by decide +kernel, rfl⟩
theorem iL_law_466 : zat mL_law 466 1 467 (.iload_n 3) := ⟨by decide +kernel, rfl⟩
theorem iL_law_467 : zat mL_law 467 1 468 (.iconst 1) := ⟨by decide +kernel, rfl⟩
theorem iL_law_468 : zat mL_law 468 1 469 (.iadd) := ⟨by decide +kernel, rfl⟩
theorem iL_law_469 : zat mL_law 469 1 470 (.iaload) := ⟨by decide +kernel, rfl⟩
theorem iL_law_470 : zat mL_law 470 3 473 (.invokevirtual 71) := ⟨by decide +kernel, rfl⟩
theorem iL_law_473 : zbr mL_law 473 476 663 (.if_icmp .eq) := ⟨190, by decide +kernel, rfl, rfl⟩
theorem iL_law_476 : zat mL_law 476 1 477 (.iconst 0) := ⟨by decide +kernel, rfl⟩
theorem iL_law_477 : zat mL_law 477 1 478 (.ireturn) := ⟨by decide +kernel, rfl⟩
theorem iL_law_478 : zat mL_law 478 1 479 (.aload_n 1) := ⟨by decide +kernel, rfl⟩
theorem iL_law_479 : zat mL_law 479 1 480 (.aload_n 0) := ⟨by decide +kernel, rfl⟩
theorem iL_law_480 : zat mL_law 480 1 481 (.iload_n 3) := ⟨by decide +kernel, rfl⟩
theorem iL_law_481 : zat mL_law 481 1 482 (.iconst 1) := ⟨by decide +kernel, rfl⟩
theorem iL_law_482 : zat mL_law 482 1 483 (.iadd) := ⟨by decide +kernel, rfl⟩
theorem iL_law_483 : zat mL_law 483 1 484 (.iaload) := ⟨by decide +kernel, rfl⟩
theorem iL_law_484 : zat mL_law 484 3 487 (.invokevirtual 72) := ⟨by decide +kernel, rfl⟩
theorem iL_law_487 : zat mL_law 487 1 488 (.aload_n 2) := ⟨by decide +kernel, rfl⟩
theorem iL_law_488 : zat mL_law 488 1 489 (.aload_n 0) := ⟨by decide +kernel, rfl⟩
theorem iL_law_489 : zat mL_law 489 1 490 (.iload_n 3) := ⟨by decide +kernel, rfl⟩
theorem iL_law_490 : zat mL_law 490 1 491 (.iconst 1) := ⟨by decide +kernel, rfl⟩
theorem iL_law_491 : zat mL_law 491 1 492 (.iadd) := ⟨by decide +kernel, rfl⟩
theorem iL_law_492 : zat mL_law 492 1 493 (.iaload) := ⟨by decide +kernel, rfl⟩
theorem iL_law_493 : zat mL_law 493 3 496 (.invokevirtual 75) := ⟨by decide +kernel, rfl⟩
theorem iL_law_496 : zbr mL_law 496 499 663 (.if_icmp .eq) := ⟨167, by decide +kernel, rfl, rfl⟩
theorem iL_law_499 : zat mL_law 499 1 500 (.iconst 0) := ⟨by decide +kernel, rfl⟩
theorem iL_law_500 : zat mL_law 500 1 501 (.ireturn) := ⟨by decide +kernel, rfl⟩
theorem iL_law_501 : zat mL_law 501 1 502 (.aload_n 1) := ⟨by decide +kernel, rfl⟩
theorem iL_law_502 : zat mL_law 502 1 503 (.aload_n 0) := ⟨by decide +kernel, rfl⟩
theorem iL_law_503 : zat mL_law 503 1 504 (.iload_n 3) := ⟨by decide +kernel, rfl⟩
theorem iL_law_504 : zat mL_law 504 1 505 (.iconst 1) := ⟨by decide +kernel, rfl⟩
theorem iL_law_505 : zat mL_law 505 1 506 (.iadd) := ⟨by decide +kernel, rfl⟩
theorem iL_law_506 : zat mL_law 506 1 507 (.iaload) := ⟨by decide +kernel, rfl⟩
theorem iL_law_507 : zat mL_law 507 1 508 (.aload_n 0) := ⟨by decide +kernel, rfl⟩
theorem iL_law_508 : zat mL_law 508 1 509 (.iload_n 3) := ⟨by decide +kernel, rfl⟩
theorem iL_law_509 : zat mL_law 509 1 510 (.iconst 2) := ⟨by decide +kernel, rfl⟩
theorem iL_law_510 : zat mL_law 510 1 511 (.iadd) := ⟨by decide +kernel, rfl⟩
theorem iL_law_511 : zat mL_law 511 1 512 (.iaload) := ⟨by decide +kernel, rfl⟩
theorem iL_law_512 : zat mL_law 512 1 513 (.aload_n 0) := ⟨by decide +kernel, rfl⟩
theorem iL_law_513 : zat mL_law 513 1 514 (.iload_n 3) := ⟨by decide +kernel, rfl⟩
theorem iL_law_514 : zat mL_law 514 1 515 (.iconst 3) := ⟨by decide +kernel, rfl⟩
theorem iL_law_515 : zat mL_law 515 1 516 (.iadd) := ⟨by decide +kernel, rfl⟩
theorem iL_law_516 : zat mL_law 516 1 517 (.iaload) := ⟨by decide +kernel, rfl⟩
theorem iL_law_517 : zat mL_law 517 3 520 (.invokevirtual 76) := ⟨by decide +kernel, rfl⟩
theorem iL_law_520 : zat mL_law 520 1 521 (.aload_n 2) := ⟨by decide +kernel, rfl⟩
theorem iL_law_521 : zat mL_law 521 1 522 (.aload_n 0) := ⟨by decide +kernel, rfl⟩
theorem iL_law_522 : zat mL_law 522 1 523 (.iload_n 3) := ⟨by decide +kernel, rfl⟩
theorem iL_law_523 : zat mL_law 523 1 524 (.iconst 1) := ⟨by decide +kernel, rfl⟩
theorem iL_law_524 : zat mL_law 524 1 525 (.iadd) := ⟨by decide +kernel, rfl⟩
theorem iL_law_525 : zat mL_law 525 1 526 (.iaload) := ⟨by decide +kernel, rfl⟩
theorem iL_law_526 : zat mL_law 526 1 527 (.aload_n 0) := ⟨by decide +kernel, rfl⟩
theorem iL_law_527 : zat mL_law 527 1 528 (.iload_n 3) := ⟨by decide +kernel, rfl⟩
theorem iL_law_528 : zat mL_law 528 1 529 (.iconst 2) := ⟨by decide +kernel, rfl⟩
theorem iL_law_529 : zat mL_law 529 1 530 (.iadd) := ⟨by decide +kernel, rfl⟩
theorem iL_law_530 : zat mL_law 530 1 531 (.iaload) := ⟨by decide +kernel, rfl⟩
theorem iL_law_531 : zat mL_law 531 1 532 (.aload_n 0) := ⟨by decide +kernel, rfl⟩
theorem iL_law_532 : zat mL_law 532 1 533 (.iload_n 3) := ⟨by decide +kernel, rfl⟩
theorem iL_law_533 : zat mL_law 533 1 534 (.iconst 3) := ⟨by decide +kernel, rfl⟩
theorem iL_law_534 : zat mL_law 534 1 535 (.iadd) := ⟨by decide +kernel, rfl⟩
theorem iL_law_535 : zat mL_law 535 1 536 (.iaload) := ⟨by decide +kernel, rfl⟩
theorem iL_law_536 : zat mL_law 536 3 539 (.invokevirtual 80) := ⟨by decide +kernel, rfl⟩
theorem iL_law_539 : zbr mL_law 539 542 663 (.if_icmp .eq) := ⟨124, by decide +kernel, rfl, rfl⟩
theorem iL_law_542 : zat mL_law 542 1 543 (.iconst 0) := ⟨by decide +kernel, rfl⟩
theorem iL_law_543 : zat mL_law 543 1 544 (.ireturn) := ⟨by decide +kernel, rfl⟩
theorem iL_law_544 : zat mL_law 544 1 545 (.aload_n 1) := ⟨by decide +kernel, rfl⟩
theorem iL_law_545 : zat mL_law 545 3 548 (.invokevirtual 81) := ⟨by decide +kernel, rfl⟩
theorem iL_law_548 : zat mL_law 548 1 549 (.aload_n 2) := ⟨by decide +kernel, rfl⟩
theorem iL_law_549 : zat mL_law 549 3 552 (.invokevirtual 84) := ⟨by decide +kernel, rfl⟩
theorem iL_law_552 : zbr mL_law 552 555 663 (.if_icmp .eq) := ⟨111, by decide +kernel, rfl, rfl⟩
theorem iL_law_555 : zat mL_law 555 1 556 (.iconst 0) := ⟨by decide +kernel, rfl⟩
theorem iL_law_556 : zat mL_law 556 1 557 (.ireturn) := ⟨by decide +kernel, rfl⟩
theorem iL_law_557 : zat mL_law 557 1 558 (.aload_n 1) := ⟨by decide +kernel, rfl⟩
theorem iL_law_558 : zat mL_law 558 1 559 (.aload_n 0) := ⟨by decide +kernel, rfl⟩
theorem iL_law_559 : zat mL_law 559 1 560 (.iload_n 3) := ⟨by decide +kernel, rfl⟩
theorem iL_law_560 : zat mL_law 560 1 561 (.iconst 1) := ⟨by decide +kernel, rfl⟩
theorem iL_law_561 : zat mL_law 561 1 562 (.iadd) := ⟨by decide +kernel, rfl⟩
theorem iL_law_562 : zat mL_law 562 1 563 (.iaload) := ⟨by decide +kernel, rfl⟩
theorem iL_law_563 : zat mL_law 563 1 564 (.aload_n 0) := ⟨by decide +kernel, rfl⟩
theorem iL_law_564 : zat mL_law 564 1 565 (.iload_n 3) := ⟨by decide +kernel, rfl⟩
theorem iL_law_565 : zat mL_law 565 1 566 (.iconst 2) := ⟨by decide +kernel, rfl⟩
theorem iL_law_566 : zat mL_law 566 1 567 (.iadd) := ⟨by decide +kernel, rfl⟩
theorem iL_law_567 : zat mL_law 567 1 568 (.iaload) := ⟨by decide +kernel, rfl⟩
theorem iL_law_568 : zat mL_law 568 1 569 (.aload_n 0) := ⟨by decide +kernel, rfl⟩
theorem iL_law_569 : zat mL_law 569 1 570 (.iload_n 3) := ⟨by decide +kernel, rfl⟩
theorem iL_law_570 : zat mL_law 570 1 571 (.iconst 3) := ⟨by decide +kernel, rfl⟩
theorem iL_law_571 : zat mL_law 571 1 572 (.iadd) := ⟨by decide +kernel, rfl⟩
theorem iL_law_572 : zat mL_law 572 1 573 (.iaload) := ⟨by decide +kernel, rfl⟩
theorem iL_law_573 : zat mL_law 573 3 576 (.invokevirtual 85) := ⟨by decide +kernel, rfl⟩
theorem iL_law_576 : zat mL_law 576 1 577 (.aload_n 2) := ⟨by decide +kernel, rfl⟩
theorem iL_law_577 : zat mL_law 577 1 578 (.aload_n 0) := ⟨by decide +kernel, rfl⟩
theorem iL_law_578 : zat mL_law 578 1 579 (.iload_n 3) := ⟨by decide +kernel, rfl⟩
theorem iL_law_579 : zat mL_law 579 1 580 (.iconst 1) := ⟨by decide +kernel, rfl⟩
theorem iL_law_580 : zat mL_law 580 1 581 (.iadd) := ⟨by decide +kernel, rfl⟩
theorem iL_law_581 : zat mL_law 581 1 582 (.iaload) := ⟨by decide +kernel, rfl⟩
theorem iL_law_582 : zat mL_law 582 1 583 (.aload_n 0) := ⟨by decide +kernel, rfl⟩
theorem iL_law_583 : zat mL_law 583 1 584 (.iload_n 3) := ⟨by decide +kernel, rfl⟩
theorem iL_law_584 : zat mL_law 584 1 585 (.iconst 2) := ⟨by decide +kernel, rfl⟩
theorem iL_law_585 : zat mL_law 585 1 586 (.iadd) := ⟨by decide +kernel, rfl⟩
theorem iL_law_586 : zat mL_law 586 1 587 (.iaload) := ⟨by decide +kernel, rfl⟩
theorem iL_law_587 : zat mL_law 587 1 588 (.aload_n 0) := ⟨by decide +kernel, rfl⟩
theorem iL_law_588 : zat mL_law 588 1 589 (.iload_n 3) := ⟨by decide +kernel, rfl⟩
theorem iL_law_589 : zat mL_law 589 1 590 (.iconst 3) := ⟨by decide +kernel, rfl⟩
theorem iL_law_590 : zat mL_law 590 1 591 (.iadd) := ⟨by decide +kernel, rfl⟩
theorem iL_law_591 : zat mL_law 591 1 592 (.iaload) := ⟨by decide +kernel, rfl⟩
theorem iL_law_592 : zat mL_law 592 3 595 (.invokevirtual 88) := ⟨by decide +kernel, rfl⟩
theorem iL_law_595 : zbr mL_law 595 598 663 (.if_icmp .eq) := ⟨68, by decide +kernel, rfl, rfl⟩
theorem iL_law_598 : zat mL_law 598 1 599 (.iconst 0) := ⟨by decide +kernel, rfl⟩
theorem iL_law_599 : zat mL_law 599 1 600 (.ireturn) := ⟨by decide +kernel, rfl⟩
theorem iL_law_600 : zat mL_law 600 1 601 (.aload_n 1) := ⟨by decide +kernel, rfl⟩
theorem iL_law_601 : zat mL_law 601 3 604 (.invokevirtual 89) := ⟨by decide +kernel, rfl⟩
theorem iL_law_604 : zat mL_law 604 1 605 (.aload_n 2) := ⟨by decide +kernel, rfl⟩
theorem iL_law_605 : zat mL_law 605 3 608 (.invokevirtual 92) := ⟨by decide +kernel, rfl⟩
theorem iL_law_608 : zbr mL_law 608 611 663 (.if_icmp .eq) := ⟨55, by decide +kernel, rfl, rfl⟩
theorem iL_law_611 : zat mL_law 611 1 612 (.iconst 0) := ⟨by decide +kernel, rfl⟩
theorem iL_law_612 : zat mL_law 612 1 613 (.ireturn) := ⟨by decide +kernel, rfl⟩
theorem iL_law_613 : zat mL_law 613 1 614 (.aload_n 1) := ⟨by decide +kernel, rfl⟩
theorem iL_law_614 : zat mL_law 614 3 617 (.invokevirtual 93) := ⟨by decide +kernel, rfl⟩
theorem iL_law_617 : zat mL_law 617 1 618 (.aload_n 2) := ⟨by decide +kernel, rfl⟩
theorem iL_law_618 : zat mL_law 618 3 621 (.invokevirtual 96) := ⟨by decide +kernel, rfl⟩
theorem iL_law_621 : zbr mL_law 621 624 663 (.if_icmp .eq) := ⟨42, by decide +kernel, rfl, rfl⟩
theorem iL_law_624 : zat mL_law 624 1 625 (.iconst 0) := ⟨by decide +kernel, rfl⟩
theorem iL_law_625 : zat mL_law 625 1 626 (.ireturn) := ⟨by decide +kernel, rfl⟩
theorem iL_law_626 : zat mL_law 626 1 627 (.aload_n 1) := ⟨by decide +kernel, rfl⟩
theorem iL_law_627 : zat mL_law 627 1 628 (.aload_n 0) := ⟨by decide +kernel, rfl⟩
theorem iL_law_628 : zat mL_law 628 1 629 (.iload_n 3) := ⟨by decide +kernel, rfl⟩
theorem iL_law_629 : zat mL_law 629 1 630 (.iconst 1) := ⟨by decide +kernel, rfl⟩
theorem iL_law_630 : zat mL_law 630 1 631 (.iadd) := ⟨by decide +kernel, rfl⟩
theorem iL_law_631 : zat mL_law 631 1 632 (.iaload) := ⟨by decide +kernel, rfl⟩
theorem iL_law_632 : zat mL_law 632 3 635 (.invokevirtual 97) := ⟨by decide +kernel, rfl⟩
theorem iL_law_635 : zat mL_law 635 1 636 (.aload_n 2) := ⟨by decide +kernel, rfl⟩
theorem iL_law_636 : zat mL_law 636 1 637 (.aload_n 0) := ⟨by decide +kernel, rfl⟩
theorem iL_law_637 : zat mL_law 637 1 638 (.iload_n 3) := ⟨by decide +kernel, rfl⟩
theorem iL_law_638 : zat mL_law 638 1 639 (.iconst 1) := ⟨by decide +kernel, rfl⟩
theorem iL_law_639 : zat mL_law 639 1 640 (.iadd) := ⟨by decide +kernel, rfl⟩
theorem iL_law_640 : zat mL_law 640 1 641 (.iaload) := ⟨by decide +kernel, rfl⟩
theorem iL_law_641 : zat mL_law 641 3 644 (.invokevirtual 100) := ⟨by decide +kernel, rfl⟩
theorem iL_law_644 : zbr mL_law 644 647 663 (.if_icmp .eq) := ⟨19, by decide +kernel, rfl, rfl⟩
theorem iL_law_647 : zat mL_law 647 1 648 (.iconst 0) := ⟨by decide +kernel, rfl⟩
theorem iL_law_648 : zat mL_law 648 1 649 (.ireturn) := ⟨by decide +kernel, rfl⟩
theorem iL_law_649 : zat mL_law 649 1 650 (.aload_n 1) := ⟨by decide +kernel, rfl⟩
theorem iL_law_650 : zat mL_law 650 3 653 (.invokevirtual 101) := ⟨by decide +kernel, rfl⟩
theorem iL_law_653 : zat mL_law 653 1 654 (.aload_n 2) := ⟨by decide +kernel, rfl⟩
theorem iL_law_654 : zat mL_law 654 3 657 (.invokevirtual 105) := ⟨by decide +kernel, rfl⟩
theorem iL_law_657 : zat mL_law 657 1 658 (.lcmp) := ⟨by decide +kernel, rfl⟩
theorem iL_law_658 : zbr mL_law 658 661 663 (.ifCond .eq) := ⟨5, by decide +kernel, rfl, rfl⟩
theorem iL_law_661 : zat mL_law 661 1 662 (.iconst 0) := ⟨by decide +kernel, rfl⟩
theorem iL_law_662 : zat mL_law 662 1 663 (.ireturn) := ⟨by decide +kernel, rfl⟩
theorem iL_law_663 : zat mL_law 663 3 666 (.iinc 3 4) := ⟨by decide +kernel, rfl⟩
theorem iL_law_666 : zbr mL_law 666 669 18 (.goto) := ⟨-648, by decide +kernel, rfl, rfl⟩
theorem iL_law_669 : zat mL_law 669 1 670 (.iconst 1) := ⟨by decide +kernel, rfl⟩
theorem iL_law_670 : zat mL_law 670 1 671 (.ireturn) := ⟨by decide +kernel, rfl⟩
end
section
/-! the walk's own words: a heap by numbers (cell k lies at base + k, the script is number 1000), a method's walk as a relation on it -/
abbrev zG : Type := Launch × va_G × ClassId × ClassId × Nat × Nat × Nat × (Nat → Int32)
abbrev zl (G : zG) : Launch := G.1
abbrev zD (G : zG) : va_G := G.2.1
abbrev zcI (G : zG) : ClassId := G.2.2.1
abbrev zcJ (G : zG) : ClassId := G.2.2.2.1
abbrev zb (G : zG) : Nat := G.2.2.2.2.1
abbrev zbase (G : zG) : Nat := G.2.2.2.2.2.1
abbrev zL (G : zG) : Nat := G.2.2.2.2.2.2.1
abbrev zxs (G : zG) : Nat → Int32 := G.2.2.2.2.2.2.2
abbrev zc : Type := (Nat × (Nat → Int32)) ⊕ (Nat × (Nat → Int64)) ⊕ (Nat × List Value)
abbrev zI (n : Nat) (f : Nat → Int32) : zc := .inl (n, f)
abbrev zJ (n : Nat) (f : Nat → Int64) : zc := .inr (.inl (n, f))
abbrev zO (ci : Nat) (fs : List Value) : zc := .inr (.inr (ci, fs))
abbrev zdead : zc := zO 99 []
abbrev zh : Type := Nat → zc
def zv (G : zG) : Value → Value
  | .ref k => .ref (if k = 1000 then zb G else zbase G + k)
  | v => v
theorem zv_cat (G : zG) (v : Value) : (zv G v).category = v.category := by cases v <;> rfl
def zconv (G : zG) (c : zc) : va_E := match c with
  | .inl a => .inl (zcI G, a.1, .inl a.2)
  | .inr (.inl a) => .inl (zcJ G, a.1, .inr (.inl a.2))
  | .inr (.inr o) => .inr (o.1, o.2.map (zv G))
def zW (G : zG) (N : Nat) (g : zh) : va_W := (List.range N).map (fun k => (zbase G + k, zconv G (g k)))
def zup (g : zh) (k : Nat) (c : zc) : zh := fun j => if j = k then c else g j
theorem zup_s (g : zh) (k : Nat) (c : zc) : zup g k c k = c := by simp [zup]
theorem zup_n (g : zh) {k j : Nat} (c : zc) (h : j ≠ k) : zup g k c j = g j := by simp [zup, h]
def zA (G : zG) : Nat → Prop := fun q => zbase G ≤ q
abbrev ztys (G : zG) : List (ClassId × FieldType) := [(zcI G, .int), (zcJ G, .long)]
theorem zW_get {G : zG} {N k : Nat} {g : zh} (h : k < N) : (zW G N g)[k]? = some (zbase G + k, zconv G (g k)) := by simp [zW, h]
theorem zW_of {G : zG} {N k : Nat} {g : zh} {q : Nat × va_E} (h : (zW G N g)[k]? = some q) : k < N ∧ q = (zbase G + k, zconv G (g k)) := by
  have hk : k < (zW G N g).length := (List.getElem?_eq_some_iff.mp h).1
  have hk2 : k < N := by simpa [zW] using hk
  rw [zW_get hk2] at h
  exact ⟨hk2, (Option.some.inj h).symm⟩
theorem zW_D {G : zG} {N : Nat} {g : zh} : va_D (zA G) (zW G N g) := by
  refine ⟨fun i j p q hi hj e => ?_, fun k q h => ?_⟩
  · rw [(zW_of hi).2, (zW_of hj).2] at e
    exact Nat.add_left_cancel e
  · rw [(zW_of h).2]
    exact Nat.le_add_right _ _
theorem zW_set {G : zG} {N k : Nat} {g : zh} {c : zc} : (zW G N g).set k (zbase G + k, zconv G c) = zW G N (zup g k c) := by
  apply List.ext_getElem?
  intro i
  by_cases hi : i < N
  · rw [zW_get hi]
    by_cases h : i = k
    · subst h
      rw [List.getElem?_set_self (by simpa [zW] using hi), zup_s]
    · rw [List.getElem?_set_ne (fun e => h e.symm), zW_get hi, zup_n _ _ h]
  · rw [List.getElem?_eq_none (by simpa [zW] using hi), List.getElem?_eq_none (by simpa [zW] using hi)]
def zRel (G : zG) (N : Nat) (g : zh) (H : Heap) : Prop := va_P (zD G) zcls (zW G N g) H ∧ (N < 71 → H.size = zbase G + N) ∧ N ≤ 71 ∧ ∀ k, N ≤ k → g k = zdead
theorem zRel.lt {G : zG} {N k : Nat} {g : zh} {H : Heap} (h : zRel G N g H) {c : zc} (hk : g k = c) (hc : c ≠ zdead) : k < N := by
  rcases Nat.lt_or_ge k N with q | q
  · exact q
  · exact absurd (hk.symm.trans (h.2.2.2 k q)) hc
theorem zRel.get {G : zG} {N k : Nat} {g : zh} {H : Heap} (h : zRel G N g H) {c : zc} (hk : g k = c) (hc : c ≠ zdead) : (zW G N g)[k]? = some (zbase G + k, zconv G c) := by
  rw [zW_get (h.lt hk hc), hk]
theorem zRel.put {G : zG} {N k : Nat} {g : zh} {H H1 : Heap} {c c1 : zc} (h : zRel G N g H) (hk : g k = c1) (hc : c1 ≠ zdead) (hP : va_P (zD G) zcls ((zW G N g).set k (zbase G + k, zconv G c)) H1) (hs : N < 71 → H1.size = H.size) : zRel G N (zup g k c) H1 := by
  have hlt := h.lt hk hc
  rw [zW_set] at hP
  exact ⟨hP, fun q => (hs q).trans (h.2.1 q), h.2.2.1, fun j hj => by rw [zup_n _ _ (by omega)]; exact h.2.2.2 j hj⟩
theorem zarr (cA : ClassId) {n : Nat} {f f2 : Nat → Int32} (he : ∀ j, j < n → f j = f2 j) : arrV cA n (fun j => .int (f j)) = arrV cA n (fun j => .int (f2 j)) := by
  unfold arrV
  congr 1
  apply Array.ext
  · simp
  · intro j hj1 hj2
    simp at hj1 ⊢
    exact he j hj1
/-- cells that agree below their length are the same -/
theorem zRel.same {G : zG} {N k n : Nat} {g : zh} {H : Heap} {f f2 : Nat → Int32} (h : zRel G N (zup g k (zI n f)) H) (he : ∀ j, j < n → f j = f2 j) : zRel G N (zup g k (zI n f2)) H := by
  refine ⟨fun i q hq => ?_, h.2.1, h.2.2.1, fun j hj => ?_⟩
  · obtain ⟨hi, rfl⟩ := zW_of hq
    have h1 := h.1 i _ (zW_get hi)
    by_cases hik : i = k
    · subst hik
      rw [zup_s] at h1 ⊢
      show H[_]? = some (vp_cell _ _)
      have h2 : H[zbase G + i]? = some (vp_cell (zcI G) (n, .inl f)) := h1
      rw [h2]
      show some (vp_cell (zcI G) (n, .inl f)) = some (vp_cell (zcI G) (n, .inl f2))
      rw [vp_cell_i, vp_cell_i]
      exact congrArg some (zarr _ he)
    · rw [zup_n _ _ hik] at h1 ⊢
      exact h1
  · have := h.2.2.2 j hj
    by_cases hjk : j = k
    · subst hjk
      rw [zup_s] at this
      cases this
    · rw [zup_n _ _ hjk] at this ⊢
      exact this
/-! the named values of a frame, by place -/
def zAs (G : zG) (ls : List (Option Value)) : List (Nat × Value) := ls.zipIdx.filterMap (fun q => q.1.map (fun v => (q.2, zv G v)))
theorem zAs_mem {G : zG} {ls : List (Option Value)} {q : Nat × Value} : q ∈ zAs G ls ↔ ∃ i v, ls[i]? = some (some v) ∧ q = (i, zv G v) := by
  simp only [zAs, List.mem_filterMap]
  constructor
  · rintro ⟨⟨o, i⟩, h1, h2⟩
    cases o with
    | none => simp at h2
    | some v =>
      simp at h2
      exact ⟨i, v, List.mem_zipIdx_iff_getElem?.mp h1, h2.symm⟩
  · rintro ⟨i, v, h1, rfl⟩
    exact ⟨(some v, i), List.mem_zipIdx_iff_getElem?.mpr h1, rfl⟩
def zLoc (G : zG) (lsA : Array Slot) (nL : Nat) (ls : List (Option Value)) : Prop := lv_has lsA nL (zAs G ls)
theorem zLoc_at {G : zG} {lsA : Array Slot} {nL i : Nat} {ls : List (Option Value)} {v : Value} (h : zLoc G lsA nL ls) (hi : ls[i]? = some (some v)) : lsA[i]? = some (.val (zv G v)) := h.2.2 (i, zv G v) (zAs_mem.mpr ⟨i, v, hi, rfl⟩)
theorem zLoc_of {G : zG} {lsA : Array Slot} {nL : Nat} {ls : List (Option Value)} {l : List (Nat × Value)} (h : lv_has lsA nL l) (hk : ∀ i v, ls[i]? = some (some v) → (i, zv G v) ∈ l) : zLoc G lsA nL ls :=
  ⟨h.1, h.2.1, fun q hq => by
    obtain ⟨i, v, h1, rfl⟩ := zAs_mem.mp hq
    exact h.2.2 _ (hk i v h1)⟩
/-- no long stands just below place i -/
def zok (ls : List (Option Value)) (i : Nat) : Bool := match i with
  | 0 => true
  | k + 1 => match ls[k]? with
    | some (some v) => Nat.beq v.category 1
    | _ => true
theorem zok_at {ls : List (Option Value)} {i j : Nat} {v : Value} (h : zok ls i = true) (hj : ls[j]? = some (some v)) (hij : j + 1 = i) : v.category = 1 := by
  subst hij
  rw [zok] at h
  simp only [hj] at h
  exact Nat.eq_of_beq_eq_true h
theorem zLoc_st1 {G : zG} {lsA : Array Slot} {nL i : Nat} {ls : List (Option Value)} {v : Value} (hok : zok ls i = true)
    (h : lv_has lsA nL ((i, zv G v) :: (zAs G ls).filter (fun q => !(q.1 == i) && !(q.1 + 1 == i && q.2.category == 2)))) : zLoc G lsA nL (ls.set i (some v)) := by
  refine zLoc_of h fun j w hj => ?_
  by_cases e : j = i
  · subst e
    have hl : j < ls.length := by
      have := (List.getElem?_eq_some_iff.mp hj).1
      simpa using this
    rw [List.getElem?_set_self hl] at hj
    cases hj
    exact List.mem_cons_self
  · rw [List.getElem?_set_ne (fun q => e q.symm)] at hj
    refine List.mem_cons_of_mem _ (List.mem_filter.mpr ⟨zAs_mem.mpr ⟨j, w, hj, rfl⟩, ?_⟩)
    by_cases e2 : j + 1 = i
    · have h1 := zok_at hok hj e2
      simp [e, zv_cat, h1]
    · simp [e, e2]
theorem zLoc_st2 {G : zG} {lsA : Array Slot} {nL i : Nat} {ls : List (Option Value)} {v : Value} (hok : zok ls i = true)
    (h : lv_has lsA nL ((i, zv G v) :: (zAs G ls).filter (fun q => !(q.1 == i) && (!(q.1 == i + 1) && !(q.1 + 1 == i && q.2.category == 2))))) : zLoc G lsA nL ((ls.set i (some v)).set (i + 1) none) := by
  refine zLoc_of h fun j w hj => ?_
  by_cases e1 : j = i + 1
  · subst e1
    have hl : i + 1 < (ls.set i (some v)).length := by
      have := (List.getElem?_eq_some_iff.mp hj).1
      simpa using this
    rw [List.getElem?_set_self hl] at hj
    cases hj
  · rw [List.getElem?_set_ne (fun q => e1 q.symm)] at hj
    by_cases e : j = i
    · subst e
      have hl : j < ls.length := by
        have := (List.getElem?_eq_some_iff.mp hj).1
        simpa using this
      rw [List.getElem?_set_self hl] at hj
      cases hj
      exact List.mem_cons_self
    · rw [List.getElem?_set_ne (fun q => e q.symm)] at hj
      refine List.mem_cons_of_mem _ (List.mem_filter.mpr ⟨zAs_mem.mpr ⟨j, w, hj, rfl⟩, ?_⟩)
      by_cases e2 : j + 1 = i
      · have h1 := zok_at hok hj e2
        simp [e, e1, zv_cat, h1]
      · simp [e, e1, e2]
theorem zO_nd {ci : Nat} {fs : List Value} {q : vw_C} (h : zcls[ci]? = some q) : zO ci fs ≠ zdead := by
  intro e
  have h1 : ci = 99 := by
    have := Sum.inr.inj (Sum.inr.inj e)
    exact congrArg Prod.fst this
  subst h1
  simp [zcls] at h
theorem zargs_map {G : zG} {as : List Value} {i : Nat} {v : Value} (h : (i, v) ∈ lv_args 0 as) : (i, zv G v) ∈ lv_args 0 (as.map (zv G)) := by
  have key : ∀ (as : List Value) (n : Nat), (i, v) ∈ lv_args n as → (i, zv G v) ∈ lv_args n (as.map (zv G)) := by
    intro as
    induction as with
    | nil => intro n h; simp [lv_args] at h
    | cons a t ih =>
      intro n h
      simp only [lv_args, List.map_cons, List.mem_cons, zv_cat] at h ⊢
      rcases h with h | h
      · obtain ⟨rfl, rfl⟩ := Prod.mk.inj h
        exact Or.inl rfl
      · exact Or.inr (ih _ h)
  exact key as 0 h
theorem zNest_tab : ∀ w ∈ zNest, w.onTables = true := by
  intro w hw
  simp only [zNest, List.mem_cons, List.not_mem_nil, or_false] at hw
  rcases hw with rfl | rfl | rfl | rfl | rfl | rfl | rfl | rfl <;> rfl
theorem zNest_warm {s U : State} (hW : s.WarmedH U.vm) : ∀ w ∈ zNest, va_Nw w s → va_Nw w U := by
  intro w hw h
  simp only [zNest, List.mem_cons, List.not_mem_nil, or_false] at hw
  rcases hw with rfl | rfl | rfl | rfl | rfl | rfl | rfl | rfl <;> exact va_Nw.warmM hW h
/-! the walk -/
abbrev zCtx (G : zG) (y : zY) (p : Program) (s : State) (m : MethodId) (args : Array Value) (meth : Method) (c : Code) : Prop :=
  p.tables.exec = Jvm.exec ∧ c.code = y.2.1 ∧ c.maxLocals = y.2.2.1 ∧ s.vm.findClass y.1.cls = some m.cls ∧ (∀ w ∈ zT, w.before args s = true) ∧ va_K (zD G) zcls (ztys G) s ∧ zbase G ≤ s.heap.size ∧
  (y.1.name = "<init>" → meth.name = "<init>") ∧ (y.1.name = "law" → va_X (zb G) (zL G) (zxs G) s s.heap ∧ zb G < s.heap.size ∧ ¬ zA G (zb G)) ∧ (∀ w ∈ zNest, va_Nw w s)
abbrev zrm (y : zY) (E : Nat × Nat) (N u : Nat) : Room := { frames := y.2.2.2.2.1, cells := N - E.1, slots := u - E.2, locals := y.2.2.2.2.2 }
abbrev zrd (y : zY) (pc : Nat) (r : Option Value) : Prop := (r = none → decode y.2.1 pc = .ok (.return_, 1)) ∧ (∀ x, r = some (.int x) → decode y.2.1 pc = .ok (.ireturn, 1)) ∧ (∀ x, r = some (.long x) → decode y.2.1 pc = .ok (.lreturn, 1))
def zR (G : zG) (y : zY) (E : Nat × Nat) (pc : Nat) (ls : List (Option Value)) (st : List Value) (N u : Nat) (g : zh) (r : Option Value) (N' u' : Nat) (g' : zh) : Prop :=
  (N ≤ N' ∧ u ≤ u') ∧ ∀ (p : Program) (e : Env) (s : State) (m : MethodId) (args : Array Value) (below : List Frame) (meth : Method) (c : Code) (H : Heap) (locs : List Loc) (Q : State → Prop) (lsA : Array Slot),
    zCtx G y p s m args meth c → E.1 ≤ N → E.2 ≤ u → zRel G N g H → zLoc G lsA y.2.2.1 ls → va_S (zA G) s.heap H locs →
    (∀ (pc' : Nat) (lsA' : Array Slot) (H' : Heap) (locs' : List Loc), zrd y pc' r → zRel G N' g' H' → va_S (zA G) s.heap H' locs' →
      W p (zl G) e (zrm y E N' u') s m args below meth c H' locs' (N' - E.1) (u' - E.2) Q (F0 m pc' lsA' (r.toList.map (zv G)))) →
    W p (zl G) e (zrm y E N' u') s m args below meth c H locs (N - E.1) (u - E.2) Q (F0 m pc lsA (st.map (zv G)))
theorem zR.le {G : zG} {y : zY} {E : Nat × Nat} {pc : Nat} {ls : List (Option Value)} {st : List Value} {N u : Nat} {g : zh} {r : Option Value} {N' u' : Nat} {g' : zh} (k : zR G y E pc ls st N u g r N' u' g') : N ≤ N' ∧ u ≤ u' := k.1
theorem zR.run {G : zG} {y : zY} {E : Nat × Nat} {pc : Nat} {ls : List (Option Value)} {st : List Value} {N u : Nat} {g : zh} {r : Option Value} {N' u' : Nat} {g' : zh} (k : zR G y E pc ls st N u g r N' u' g') {p : Program} {e : Env} {s : State} {m : MethodId} {args : Array Value} {below : List Frame} {meth : Method} {c : Code} {H : Heap} {locs : List Loc} {Q : State → Prop} {lsA : Array Slot}
    (C : zCtx G y p s m args meth c) (h1 : E.1 ≤ N) (h2 : E.2 ≤ u) (hR : zRel G N g H) (hl : zLoc G lsA y.2.2.1 ls) (hS : va_S (zA G) s.heap H locs)
    (hF : ∀ (pc' : Nat) (lsA' : Array Slot) (H' : Heap) (locs' : List Loc), zrd y pc' r → zRel G N' g' H' → va_S (zA G) s.heap H' locs' →
      W p (zl G) e (zrm y E N' u') s m args below meth c H' locs' (N' - E.1) (u' - E.2) Q (F0 m pc' lsA' (r.toList.map (zv G)))) :
    W p (zl G) e (zrm y E N' u') s m args below meth c H locs (N - E.1) (u - E.2) Q (F0 m pc lsA (st.map (zv G))) := k.2 p e s m args below meth c H locs Q lsA C h1 h2 hR hl hS hF
section ZRULES
variable {G : zG} {y : zY} {E : Nat × Nat} {pc pc2 : Nat} {ls : List (Option Value)} {st : List Value} {N u : Nat} {g : zh} {r : Option Value} {N' u' : Nat} {g' : zh}
theorem z_iconst {n : Int} {v : Int32} (hd : zat y pc 1 pc2 (.iconst n)) (hv : Int32.ofInt n = v) (k : zR G y E pc2 ls (.int v :: st) N u g r N' u' g') : zR G y E pc ls (st) N u g r N' u' g' := by
  obtain ⟨hd, rfl⟩ := hd
  unfold zR
  exact ⟨k.le, fun p e s m args below meth c H locs Q lsA C h1 h2 hR hl hS hF => lv_iconst C.1 C.2.1 hd hv (k.run C h1 h2 hR hl hS hF)⟩
theorem z_bipush {n : Int} {v : Int32} (hd : zat y pc 2 pc2 (.bipush n)) (hv : (Int8.ofInt n).toInt32 = v) (k : zR G y E pc2 ls (.int v :: st) N u g r N' u' g') : zR G y E pc ls (st) N u g r N' u' g' := by
  obtain ⟨hd, rfl⟩ := hd
  unfold zR
  exact ⟨k.le, fun p e s m args below meth c H locs Q lsA C h1 h2 hR hl hS hF => lv_bipush C.1 C.2.1 hd hv (k.run C h1 h2 hR hl hS hF)⟩
theorem z_sipush {n : Int} {v : Int32} (hd : zat y pc 3 pc2 (.sipush n)) (hv : (Int16.ofInt n).toInt32 = v) (k : zR G y E pc2 ls (.int v :: st) N u g r N' u' g') : zR G y E pc ls (st) N u g r N' u' g' := by
  obtain ⟨hd, rfl⟩ := hd
  unfold zR
  exact ⟨k.le, fun p e s m args below meth c H locs Q lsA C h1 h2 hR hl hS hF => lv_sipush C.1 C.2.1 hd hv (k.run C h1 h2 hR hl hS hF)⟩
theorem z_lconst {n : Fin 2} {v : Int64} (hd : zat y pc 1 pc2 (.lconst n)) (hv : Int64.ofNat (n : Nat) = v) (k : zR G y E pc2 ls (.long v :: st) N u g r N' u' g') : zR G y E pc ls (st) N u g r N' u' g' := by
  obtain ⟨hd, rfl⟩ := hd
  unfold zR
  exact ⟨k.le, fun p e s m args below meth c H locs Q lsA C h1 h2 hR hl hS hF => lv_lconst C.1 C.2.1 hd hv (k.run C h1 h2 hR hl hS hF)⟩
theorem z_ldc2 {idx : Nat} {v : Int64} (hd : zat y pc 3 pc2 (.ldc2_w idx)) (hc : Cond.constantLong y.1.cls idx v ∈ zT) (k : zR G y E pc2 ls (.long v :: st) N u g r N' u' g') : zR G y E pc ls (st) N u g r N' u' g' := by
  obtain ⟨hd, rfl⟩ := hd
  unfold zR
  exact ⟨k.le, fun p e s m args below meth c H locs Q lsA C h1 h2 hR hl hS hF => lv_ldc2 C.1 C.2.1 C.2.2.2.1 (C.2.2.2.2.1 _ hc) hd (k.run C h1 h2 hR hl hS hF)⟩
theorem z_ldcw {idx : Nat} {v : Int32} (hd : zat y pc 3 pc2 (.ldc_w idx)) (hc : Cond.constant y.1.cls idx v ∈ zT) (k : zR G y E pc2 ls (.int v :: st) N u g r N' u' g') : zR G y E pc ls (st) N u g r N' u' g' := by
  obtain ⟨hd, rfl⟩ := hd
  unfold zR
  exact ⟨k.le, fun p e s m args below meth c H locs Q lsA C h1 h2 hR hl hS hF => lv_ldcw C.1 C.2.1 C.2.2.2.1 (C.2.2.2.2.1 _ hc) hd (k.run C h1 h2 hR hl hS hF)⟩
theorem z_iload_n {i : Fin 4} {x : Int32} (hd : zat y pc 1 pc2 (.iload_n i)) (hx : ls[(i : Nat)]? = some (some (.int x))) (k : zR G y E pc2 ls (.int x :: st) N u g r N' u' g') : zR G y E pc ls (st) N u g r N' u' g' := by
  obtain ⟨hd, rfl⟩ := hd
  unfold zR
  exact ⟨k.le, fun p e s m args below meth c H locs Q lsA C h1 h2 hR hl hS hF => lv_iload_n C.1 C.2.1 hd rfl (zLoc_at hl hx) (k.run C h1 h2 hR hl hS hF)⟩
theorem z_iload {i : Nat} {x : Int32} (hd : zat y pc 2 pc2 (.iload i)) (hx : ls[i]? = some (some (.int x))) (k : zR G y E pc2 ls (.int x :: st) N u g r N' u' g') : zR G y E pc ls (st) N u g r N' u' g' := by
  obtain ⟨hd, rfl⟩ := hd
  unfold zR
  exact ⟨k.le, fun p e s m args below meth c H locs Q lsA C h1 h2 hR hl hS hF => lv_iload C.1 C.2.1 hd (zLoc_at hl hx) (k.run C h1 h2 hR hl hS hF)⟩
theorem z_lload_n {i : Fin 4} {x : Int64} (hd : zat y pc 1 pc2 (.lload_n i)) (hx : ls[(i : Nat)]? = some (some (.long x))) (k : zR G y E pc2 ls (.long x :: st) N u g r N' u' g') : zR G y E pc ls (st) N u g r N' u' g' := by
  obtain ⟨hd, rfl⟩ := hd
  unfold zR
  exact ⟨k.le, fun p e s m args below meth c H locs Q lsA C h1 h2 hR hl hS hF => lv_lload_n C.1 C.2.1 hd rfl (zLoc_at hl hx) (k.run C h1 h2 hR hl hS hF)⟩
theorem z_lload {i : Nat} {x : Int64} (hd : zat y pc 2 pc2 (.lload i)) (hx : ls[i]? = some (some (.long x))) (k : zR G y E pc2 ls (.long x :: st) N u g r N' u' g') : zR G y E pc ls (st) N u g r N' u' g' := by
  obtain ⟨hd, rfl⟩ := hd
  unfold zR
  exact ⟨k.le, fun p e s m args below meth c H locs Q lsA C h1 h2 hR hl hS hF => lv_lload C.1 C.2.1 hd (zLoc_at hl hx) (k.run C h1 h2 hR hl hS hF)⟩
theorem z_aload_n {i : Fin 4} {x : Nat} (hd : zat y pc 1 pc2 (.aload_n i)) (hx : ls[(i : Nat)]? = some (some (.ref x))) (k : zR G y E pc2 ls (.ref x :: st) N u g r N' u' g') : zR G y E pc ls (st) N u g r N' u' g' := by
  obtain ⟨hd, rfl⟩ := hd
  unfold zR
  exact ⟨k.le, fun p e s m args below meth c H locs Q lsA C h1 h2 hR hl hS hF => lv_aload_n C.1 C.2.1 hd rfl (zLoc_at hl hx) (k.run C h1 h2 hR hl hS hF)⟩
theorem z_aload {i : Nat} {x : Nat} (hd : zat y pc 2 pc2 (.aload i)) (hx : ls[i]? = some (some (.ref x))) (k : zR G y E pc2 ls (.ref x :: st) N u g r N' u' g') : zR G y E pc ls (st) N u g r N' u' g' := by
  obtain ⟨hd, rfl⟩ := hd
  unfold zR
  exact ⟨k.le, fun p e s m args below meth c H locs Q lsA C h1 h2 hR hl hS hF => lv_aload C.1 C.2.1 hd (zLoc_at hl hx) (k.run C h1 h2 hR hl hS hF)⟩
theorem z_iadd {x v : Int32} (hd : zat y pc 1 pc2 (.iadd)) (k : zR G y E pc2 ls (.int (x + v) :: st) N u g r N' u' g') : zR G y E pc ls (.int v :: .int x :: st) N u g r N' u' g' := by
  obtain ⟨hd, rfl⟩ := hd
  unfold zR
  exact ⟨k.le, fun p e s m args below meth c H locs Q lsA C h1 h2 hR hl hS hF => lv_iadd C.1 C.2.1 hd (k.run C h1 h2 hR hl hS hF)⟩
theorem z_isub {x v : Int32} (hd : zat y pc 1 pc2 (.isub)) (k : zR G y E pc2 ls (.int (x - v) :: st) N u g r N' u' g') : zR G y E pc ls (.int v :: .int x :: st) N u g r N' u' g' := by
  obtain ⟨hd, rfl⟩ := hd
  unfold zR
  exact ⟨k.le, fun p e s m args below meth c H locs Q lsA C h1 h2 hR hl hS hF => lv_isub C.1 C.2.1 hd (k.run C h1 h2 hR hl hS hF)⟩
theorem z_imul {x v : Int32} (hd : zat y pc 1 pc2 (.imul)) (k : zR G y E pc2 ls (.int (x * v) :: st) N u g r N' u' g') : zR G y E pc ls (.int v :: .int x :: st) N u g r N' u' g' := by
  obtain ⟨hd, rfl⟩ := hd
  unfold zR
  exact ⟨k.le, fun p e s m args below meth c H locs Q lsA C h1 h2 hR hl hS hF => lv_imul C.1 C.2.1 hd (k.run C h1 h2 hR hl hS hF)⟩
theorem z_iand {x v : Int32} (hd : zat y pc 1 pc2 (.iand)) (k : zR G y E pc2 ls (.int (x &&& v) :: st) N u g r N' u' g') : zR G y E pc ls (.int v :: .int x :: st) N u g r N' u' g' := by
  obtain ⟨hd, rfl⟩ := hd
  unfold zR
  exact ⟨k.le, fun p e s m args below meth c H locs Q lsA C h1 h2 hR hl hS hF => lv_iand C.1 C.2.1 hd (k.run C h1 h2 hR hl hS hF)⟩
theorem z_ior {x v : Int32} (hd : zat y pc 1 pc2 (.ior)) (k : zR G y E pc2 ls (.int (x ||| v) :: st) N u g r N' u' g') : zR G y E pc ls (.int v :: .int x :: st) N u g r N' u' g' := by
  obtain ⟨hd, rfl⟩ := hd
  unfold zR
  exact ⟨k.le, fun p e s m args below meth c H locs Q lsA C h1 h2 hR hl hS hF => lv_ior C.1 C.2.1 hd (k.run C h1 h2 hR hl hS hF)⟩
theorem z_ishl {x v : Int32} (hd : zat y pc 1 pc2 (.ishl)) (k : zR G y E pc2 ls (.int (x <<< (v &&& 31)) :: st) N u g r N' u' g') : zR G y E pc ls (.int v :: .int x :: st) N u g r N' u' g' := by
  obtain ⟨hd, rfl⟩ := hd
  unfold zR
  exact ⟨k.le, fun p e s m args below meth c H locs Q lsA C h1 h2 hR hl hS hF => lv_ishl C.1 C.2.1 hd (k.run C h1 h2 hR hl hS hF)⟩
theorem z_ishr {x v : Int32} (hd : zat y pc 1 pc2 (.ishr)) (k : zR G y E pc2 ls (.int (x >>> (v &&& 31)) :: st) N u g r N' u' g') : zR G y E pc ls (.int v :: .int x :: st) N u g r N' u' g' := by
  obtain ⟨hd, rfl⟩ := hd
  unfold zR
  exact ⟨k.le, fun p e s m args below meth c H locs Q lsA C h1 h2 hR hl hS hF => lv_ishr C.1 C.2.1 hd (k.run C h1 h2 hR hl hS hF)⟩
theorem z_idiv {x v : Int32} (hd : zat y pc 1 pc2 (.idiv)) (hne : ¬ v = 0) (k : zR G y E pc2 ls (.int (x / v) :: st) N u g r N' u' g') : zR G y E pc ls (.int v :: .int x :: st) N u g r N' u' g' := by
  obtain ⟨hd, rfl⟩ := hd
  unfold zR
  exact ⟨k.le, fun p e s m args below meth c H locs Q lsA C h1 h2 hR hl hS hF => lv_idiv C.1 C.2.1 hd hne (k.run C h1 h2 hR hl hS hF)⟩
theorem z_irem {x v : Int32} (hd : zat y pc 1 pc2 (.irem)) (hne : ¬ v = 0) (k : zR G y E pc2 ls (.int (x - x / v * v) :: st) N u g r N' u' g') : zR G y E pc ls (.int v :: .int x :: st) N u g r N' u' g' := by
  obtain ⟨hd, rfl⟩ := hd
  unfold zR
  exact ⟨k.le, fun p e s m args below meth c H locs Q lsA C h1 h2 hR hl hS hF => lv_irem C.1 C.2.1 hd hne (k.run C h1 h2 hR hl hS hF)⟩
theorem z_ladd {x v : Int64} (hd : zat y pc 1 pc2 (.ladd)) (k : zR G y E pc2 ls (.long (x + v) :: st) N u g r N' u' g') : zR G y E pc ls (.long v :: .long x :: st) N u g r N' u' g' := by
  obtain ⟨hd, rfl⟩ := hd
  unfold zR
  exact ⟨k.le, fun p e s m args below meth c H locs Q lsA C h1 h2 hR hl hS hF => lv_ladd C.1 C.2.1 hd (k.run C h1 h2 hR hl hS hF)⟩
theorem z_lmul {x v : Int64} (hd : zat y pc 1 pc2 (.lmul)) (k : zR G y E pc2 ls (.long (x * v) :: st) N u g r N' u' g') : zR G y E pc ls (.long v :: .long x :: st) N u g r N' u' g' := by
  obtain ⟨hd, rfl⟩ := hd
  unfold zR
  exact ⟨k.le, fun p e s m args below meth c H locs Q lsA C h1 h2 hR hl hS hF => lv_lmul C.1 C.2.1 hd (k.run C h1 h2 hR hl hS hF)⟩
theorem z_land {x v : Int64} (hd : zat y pc 1 pc2 (.land)) (k : zR G y E pc2 ls (.long (x &&& v) :: st) N u g r N' u' g') : zR G y E pc ls (.long v :: .long x :: st) N u g r N' u' g' := by
  obtain ⟨hd, rfl⟩ := hd
  unfold zR
  exact ⟨k.le, fun p e s m args below meth c H locs Q lsA C h1 h2 hR hl hS hF => lv_land C.1 C.2.1 hd (k.run C h1 h2 hR hl hS hF)⟩
theorem z_lor {x v : Int64} (hd : zat y pc 1 pc2 (.lor)) (k : zR G y E pc2 ls (.long (x ||| v) :: st) N u g r N' u' g') : zR G y E pc ls (.long v :: .long x :: st) N u g r N' u' g' := by
  obtain ⟨hd, rfl⟩ := hd
  unfold zR
  exact ⟨k.le, fun p e s m args below meth c H locs Q lsA C h1 h2 hR hl hS hF => lv_lor C.1 C.2.1 hd (k.run C h1 h2 hR hl hS hF)⟩
theorem z_lrem {x v : Int64} (hd : zat y pc 1 pc2 (.lrem)) (hne : ¬ v = 0) (k : zR G y E pc2 ls (.long (x - x / v * v) :: st) N u g r N' u' g') : zR G y E pc ls (.long v :: .long x :: st) N u g r N' u' g' := by
  obtain ⟨hd, rfl⟩ := hd
  unfold zR
  exact ⟨k.le, fun p e s m args below meth c H locs Q lsA C h1 h2 hR hl hS hF => lv_lrem C.1 C.2.1 hd hne (k.run C h1 h2 hR hl hS hF)⟩
theorem z_lshl {x : Int64} {v : Int32} (hd : zat y pc 1 pc2 (.lshl)) (k : zR G y E pc2 ls (.long (x <<< (v.toInt64 &&& 63)) :: st) N u g r N' u' g') : zR G y E pc ls (.int v :: .long x :: st) N u g r N' u' g' := by
  obtain ⟨hd, rfl⟩ := hd
  unfold zR
  exact ⟨k.le, fun p e s m args below meth c H locs Q lsA C h1 h2 hR hl hS hF => lv_lshl C.1 C.2.1 hd rfl (k.run C h1 h2 hR hl hS hF)⟩
theorem z_lshr {x : Int64} {v : Int32} (hd : zat y pc 1 pc2 (.lshr)) (k : zR G y E pc2 ls (.long (x >>> (v.toInt64 &&& 63)) :: st) N u g r N' u' g') : zR G y E pc ls (.int v :: .long x :: st) N u g r N' u' g' := by
  obtain ⟨hd, rfl⟩ := hd
  unfold zR
  exact ⟨k.le, fun p e s m args below meth c H locs Q lsA C h1 h2 hR hl hS hF => lv_lshr C.1 C.2.1 hd rfl (k.run C h1 h2 hR hl hS hF)⟩
theorem z_i2l {x : Int32} (hd : zat y pc 1 pc2 (.i2l)) (k : zR G y E pc2 ls (.long x.toInt64 :: st) N u g r N' u' g') : zR G y E pc ls (.int x :: st) N u g r N' u' g' := by
  obtain ⟨hd, rfl⟩ := hd
  unfold zR
  exact ⟨k.le, fun p e s m args below meth c H locs Q lsA C h1 h2 hR hl hS hF => lv_i2l C.1 C.2.1 hd rfl (k.run C h1 h2 hR hl hS hF)⟩
theorem z_l2i {x : Int64} (hd : zat y pc 1 pc2 (.l2i)) (k : zR G y E pc2 ls (.int x.toInt32 :: st) N u g r N' u' g') : zR G y E pc ls (.long x :: st) N u g r N' u' g' := by
  obtain ⟨hd, rfl⟩ := hd
  unfold zR
  exact ⟨k.le, fun p e s m args below meth c H locs Q lsA C h1 h2 hR hl hS hF => lv_l2i C.1 C.2.1 hd rfl (k.run C h1 h2 hR hl hS hF)⟩
theorem z_lcmp {x v : Int64} (hd : zat y pc 1 pc2 (.lcmp)) (k : zR G y E pc2 ls (.int (lg_cmp x v) :: st) N u g r N' u' g') : zR G y E pc ls (.long v :: .long x :: st) N u g r N' u' g' := by
  obtain ⟨hd, rfl⟩ := hd
  unfold zR
  exact ⟨k.le, fun p e s m args below meth c H locs Q lsA C h1 h2 hR hl hS hF => W.lcmp C.1 C.2.1 hd (k.run C h1 h2 hR hl hS hF)⟩
theorem z_dup {a : Value} (hd : zat y pc 1 pc2 (.dup)) (ha : a.category = 1) (k : zR G y E pc2 ls (a :: a :: st) N u g r N' u' g') : zR G y E pc ls (a :: st) N u g r N' u' g' := by
  obtain ⟨hd, rfl⟩ := hd
  unfold zR
  exact ⟨k.le, fun p e s m args below meth c H locs Q lsA C h1 h2 hR hl hS hF => lv_dup C.1 C.2.1 hd ((zv_cat G a).trans ha) (k.run C h1 h2 hR hl hS hF)⟩
theorem z_pop {a : Value} (hd : zat y pc 1 pc2 (.pop)) (ha : a.category = 1) (k : zR G y E pc2 ls (st) N u g r N' u' g') : zR G y E pc ls (a :: st) N u g r N' u' g' := by
  obtain ⟨hd, rfl⟩ := hd
  unfold zR
  exact ⟨k.le, fun p e s m args below meth c H locs Q lsA C h1 h2 hR hl hS hF => lv_pop C.1 C.2.1 hd ((zv_cat G a).trans ha) (k.run C h1 h2 hR hl hS hF)⟩
theorem z_dup2 {a b : Value} (hd : zat y pc 1 pc2 (.dup2)) (ha : a.category = 1) (hb : b.category = 1) (k : zR G y E pc2 ls (a :: b :: a :: b :: st) N u g r N' u' g') : zR G y E pc ls (a :: b :: st) N u g r N' u' g' := by
  obtain ⟨hd, rfl⟩ := hd
  unfold zR
  exact ⟨k.le, fun p e s m args below meth c H locs Q lsA C h1 h2 hR hl hS hF => lv_dup2_11 C.1 C.2.1 hd ((zv_cat G a).trans ha) ((zv_cat G b).trans hb) (k.run C h1 h2 hR hl hS hF)⟩
theorem z_istore_n {i : Fin 4} {x : Int32} (hd : zat y pc 1 pc2 (.istore_n i)) (hok : zok ls (i : Nat) = true) (hn : (i : Nat) < y.2.2.1) (k : zR G y E pc2 (ls.set (i : Nat) (some (.int x))) st N u g r N' u' g') : zR G y E pc ls (.int x :: st) N u g r N' u' g' := by
  obtain ⟨hd, rfl⟩ := hd
  unfold zR
  exact ⟨k.le, fun p e s m args below meth c H locs Q lsA C h1 h2 hR hl hS hF => lv_istore_n (lv := zAs G ls) C.1 C.2.1 hd rfl hl hn rfl (fun ls2 hl2 => k.run C h1 h2 hR (zLoc_st1 hok hl2) hS hF)⟩
theorem z_istore {i : Nat} {x : Int32} (hd : zat y pc 2 pc2 (.istore i)) (hok : zok ls i = true) (hn : i < y.2.2.1) (k : zR G y E pc2 (ls.set i (some (.int x))) st N u g r N' u' g') : zR G y E pc ls (.int x :: st) N u g r N' u' g' := by
  obtain ⟨hd, rfl⟩ := hd
  unfold zR
  exact ⟨k.le, fun p e s m args below meth c H locs Q lsA C h1 h2 hR hl hS hF => lv_istore (lv := zAs G ls) C.1 C.2.1 hd hl hn rfl (fun ls2 hl2 => k.run C h1 h2 hR (zLoc_st1 hok hl2) hS hF)⟩
theorem z_lstore_n {i : Fin 4} {x : Int64} (hd : zat y pc 1 pc2 (.lstore_n i)) (hok : zok ls (i : Nat) = true) (hn : (i : Nat) + 1 < y.2.2.1) (k : zR G y E pc2 ((ls.set (i : Nat) (some (.long x))).set ((i : Nat) + 1) none) st N u g r N' u' g') : zR G y E pc ls (.long x :: st) N u g r N' u' g' := by
  obtain ⟨hd, rfl⟩ := hd
  unfold zR
  exact ⟨k.le, fun p e s m args below meth c H locs Q lsA C h1 h2 hR hl hS hF => lv_lstore_n (lv := zAs G ls) C.1 C.2.1 hd rfl hl hn rfl (fun ls2 hl2 => k.run C h1 h2 hR (zLoc_st2 hok hl2) hS hF)⟩
theorem z_lstore {i : Nat} {x : Int64} (hd : zat y pc 2 pc2 (.lstore i)) (hok : zok ls i = true) (hn : i + 1 < y.2.2.1) (k : zR G y E pc2 ((ls.set i (some (.long x))).set (i + 1) none) st N u g r N' u' g') : zR G y E pc ls (.long x :: st) N u g r N' u' g' := by
  obtain ⟨hd, rfl⟩ := hd
  unfold zR
  exact ⟨k.le, fun p e s m args below meth c H locs Q lsA C h1 h2 hR hl hS hF => lv_lstore (lv := zAs G ls) C.1 C.2.1 hd hl hn rfl (fun ls2 hl2 => k.run C h1 h2 hR (zLoc_st2 hok hl2) hS hF)⟩
theorem z_astore_n {i : Fin 4} {x : Nat} (hd : zat y pc 1 pc2 (.astore_n i)) (hok : zok ls (i : Nat) = true) (hn : (i : Nat) < y.2.2.1) (k : zR G y E pc2 (ls.set (i : Nat) (some (.ref x))) st N u g r N' u' g') : zR G y E pc ls (.ref x :: st) N u g r N' u' g' := by
  obtain ⟨hd, rfl⟩ := hd
  unfold zR
  exact ⟨k.le, fun p e s m args below meth c H locs Q lsA C h1 h2 hR hl hS hF => lv_astore_n (lv := zAs G ls) C.1 C.2.1 hd rfl hl hn rfl (fun ls2 hl2 => k.run C h1 h2 hR (zLoc_st1 (v := .ref x) hok hl2) hS hF)⟩
theorem z_astore {i : Nat} {x : Nat} (hd : zat y pc 2 pc2 (.astore i)) (hok : zok ls i = true) (hn : i < y.2.2.1) (k : zR G y E pc2 (ls.set i (some (.ref x))) st N u g r N' u' g') : zR G y E pc ls (.ref x :: st) N u g r N' u' g' := by
  obtain ⟨hd, rfl⟩ := hd
  unfold zR
  exact ⟨k.le, fun p e s m args below meth c H locs Q lsA C h1 h2 hR hl hS hF => lv_astore (lv := zAs G ls) C.1 C.2.1 hd hl hn rfl (fun ls2 hl2 => k.run C h1 h2 hR (zLoc_st1 (v := .ref x) hok hl2) hS hF)⟩
theorem z_iinc {i : Nat} {n : Int} {x v : Int32} (hd : zat y pc 3 pc2 (.iinc i n)) (hx : ls[i]? = some (some (.int x))) (hv : x + Int32.ofInt n = v) (hok : zok ls i = true) (hn : i < y.2.2.1) (k : zR G y E pc2 (ls.set i (some (.int v))) st N u g r N' u' g') : zR G y E pc ls st N u g r N' u' g' := by
  obtain ⟨hd, rfl⟩ := hd
  unfold zR
  refine ⟨k.le, fun p e s m args below meth c H locs Q lsA C h1 h2 hR hl hS hF => ?_⟩
  obtain ⟨j, hj⟩ := List.getElem?_of_mem (zAs_mem.mpr ⟨i, _, hx, rfl⟩ : (i, zv G (.int x)) ∈ zAs G ls)
  exact lv_iinc (lv := zAs G ls) C.1 C.2.1 hd hl hj hv hn rfl (fun ls2 hl2 => k.run C h1 h2 hR (zLoc_st1 (v := .int v) hok hl2) hS hF)
theorem z_icmp_eq {x v : Int32} {tgt : Nat} (hd : zbr y pc pc2 tgt (.if_icmp .eq)) (kt : x = v → zR G y E tgt ls st N u g r N' u' g') (kf : ¬ x = v → zR G y E pc2 ls st N u g r N' u' g') : zR G y E pc ls (.int v :: .int x :: st) N u g r N' u' g' := by
  obtain ⟨off, hd, ht, rfl⟩ := hd
  unfold zR
  refine ⟨?_, fun p e s m args below meth c H locs Q lsA C h1 h2 hR hl hS hF => lv_icmp_eq C.1 C.2.1 hd ht (fun q => (kt q).run C h1 h2 hR hl hS hF) (fun q => (kf q).run C h1 h2 hR hl hS hF)⟩
  by_cases q : x = v
  · exact (kt q).le
  · exact (kf q).le
theorem z_icmp_ne {x v : Int32} {tgt : Nat} (hd : zbr y pc pc2 tgt (.if_icmp .ne)) (kt : ¬ x = v → zR G y E tgt ls st N u g r N' u' g') (kf : x = v → zR G y E pc2 ls st N u g r N' u' g') : zR G y E pc ls (.int v :: .int x :: st) N u g r N' u' g' := by
  obtain ⟨off, hd, ht, rfl⟩ := hd
  unfold zR
  refine ⟨?_, fun p e s m args below meth c H locs Q lsA C h1 h2 hR hl hS hF => lv_icmp_ne C.1 C.2.1 hd ht (fun q => (kt q).run C h1 h2 hR hl hS hF) (fun q => (kf q).run C h1 h2 hR hl hS hF)⟩
  by_cases q : x = v
  · exact (kf q).le
  · exact (kt q).le
theorem z_icmp_lt {x v : Int32} {tgt : Nat} (hd : zbr y pc pc2 tgt (.if_icmp .lt)) (kt : x < v → zR G y E tgt ls st N u g r N' u' g') (kf : ¬ x < v → zR G y E pc2 ls st N u g r N' u' g') : zR G y E pc ls (.int v :: .int x :: st) N u g r N' u' g' := by
  obtain ⟨off, hd, ht, rfl⟩ := hd
  unfold zR
  refine ⟨?_, fun p e s m args below meth c H locs Q lsA C h1 h2 hR hl hS hF => lv_icmp_lt C.1 C.2.1 hd ht (fun q => (kt q).run C h1 h2 hR hl hS hF) (fun q => (kf q).run C h1 h2 hR hl hS hF)⟩
  by_cases q : x < v
  · exact (kt q).le
  · exact (kf q).le
theorem z_icmp_ge {x v : Int32} {tgt : Nat} (hd : zbr y pc pc2 tgt (.if_icmp .ge)) (kt : v ≤ x → zR G y E tgt ls st N u g r N' u' g') (kf : ¬ v ≤ x → zR G y E pc2 ls st N u g r N' u' g') : zR G y E pc ls (.int v :: .int x :: st) N u g r N' u' g' := by
  obtain ⟨off, hd, ht, rfl⟩ := hd
  unfold zR
  refine ⟨?_, fun p e s m args below meth c H locs Q lsA C h1 h2 hR hl hS hF => lv_icmp_ge C.1 C.2.1 hd ht (fun q => (kt q).run C h1 h2 hR hl hS hF) (fun q => (kf q).run C h1 h2 hR hl hS hF)⟩
  by_cases q : v ≤ x
  · exact (kt q).le
  · exact (kf q).le
theorem z_icmp_gt {x v : Int32} {tgt : Nat} (hd : zbr y pc pc2 tgt (.if_icmp .gt)) (kt : v < x → zR G y E tgt ls st N u g r N' u' g') (kf : ¬ v < x → zR G y E pc2 ls st N u g r N' u' g') : zR G y E pc ls (.int v :: .int x :: st) N u g r N' u' g' := by
  obtain ⟨off, hd, ht, rfl⟩ := hd
  unfold zR
  refine ⟨?_, fun p e s m args below meth c H locs Q lsA C h1 h2 hR hl hS hF => lv_icmp_gt C.1 C.2.1 hd ht (fun q => (kt q).run C h1 h2 hR hl hS hF) (fun q => (kf q).run C h1 h2 hR hl hS hF)⟩
  by_cases q : v < x
  · exact (kt q).le
  · exact (kf q).le
theorem z_icmp_le {x v : Int32} {tgt : Nat} (hd : zbr y pc pc2 tgt (.if_icmp .le)) (kt : x ≤ v → zR G y E tgt ls st N u g r N' u' g') (kf : ¬ x ≤ v → zR G y E pc2 ls st N u g r N' u' g') : zR G y E pc ls (.int v :: .int x :: st) N u g r N' u' g' := by
  obtain ⟨off, hd, ht, rfl⟩ := hd
  unfold zR
  refine ⟨?_, fun p e s m args below meth c H locs Q lsA C h1 h2 hR hl hS hF => lv_icmp_le C.1 C.2.1 hd ht (fun q => (kt q).run C h1 h2 hR hl hS hF) (fun q => (kf q).run C h1 h2 hR hl hS hF)⟩
  by_cases q : x ≤ v
  · exact (kt q).le
  · exact (kf q).le
theorem z_if_eq {x : Int32} {tgt : Nat} (hd : zbr y pc pc2 tgt (.ifCond .eq)) (kt : x = 0 → zR G y E tgt ls st N u g r N' u' g') (kf : ¬ x = 0 → zR G y E pc2 ls st N u g r N' u' g') : zR G y E pc ls (.int x :: st) N u g r N' u' g' := by
  obtain ⟨off, hd, ht, rfl⟩ := hd
  unfold zR
  refine ⟨?_, fun p e s m args below meth c H locs Q lsA C h1 h2 hR hl hS hF => lv_if_eq C.1 C.2.1 hd ht (fun q => (kt q).run C h1 h2 hR hl hS hF) (fun q => (kf q).run C h1 h2 hR hl hS hF)⟩
  by_cases q : x = 0
  · exact (kt q).le
  · exact (kf q).le
theorem z_if_ne {x : Int32} {tgt : Nat} (hd : zbr y pc pc2 tgt (.ifCond .ne)) (kt : ¬ x = 0 → zR G y E tgt ls st N u g r N' u' g') (kf : x = 0 → zR G y E pc2 ls st N u g r N' u' g') : zR G y E pc ls (.int x :: st) N u g r N' u' g' := by
  obtain ⟨off, hd, ht, rfl⟩ := hd
  unfold zR
  refine ⟨?_, fun p e s m args below meth c H locs Q lsA C h1 h2 hR hl hS hF => lv_if_ne C.1 C.2.1 hd ht (fun q => (kt q).run C h1 h2 hR hl hS hF) (fun q => (kf q).run C h1 h2 hR hl hS hF)⟩
  by_cases q : x = 0
  · exact (kf q).le
  · exact (kt q).le
theorem z_if_lt {x : Int32} {tgt : Nat} (hd : zbr y pc pc2 tgt (.ifCond .lt)) (kt : x < 0 → zR G y E tgt ls st N u g r N' u' g') (kf : ¬ x < 0 → zR G y E pc2 ls st N u g r N' u' g') : zR G y E pc ls (.int x :: st) N u g r N' u' g' := by
  obtain ⟨off, hd, ht, rfl⟩ := hd
  unfold zR
  refine ⟨?_, fun p e s m args below meth c H locs Q lsA C h1 h2 hR hl hS hF => lv_if_lt C.1 C.2.1 hd ht (fun q => (kt q).run C h1 h2 hR hl hS hF) (fun q => (kf q).run C h1 h2 hR hl hS hF)⟩
  by_cases q : x < 0
  · exact (kt q).le
  · exact (kf q).le
theorem z_if_ge {x : Int32} {tgt : Nat} (hd : zbr y pc pc2 tgt (.ifCond .ge)) (kt : 0 ≤ x → zR G y E tgt ls st N u g r N' u' g') (kf : ¬ 0 ≤ x → zR G y E pc2 ls st N u g r N' u' g') : zR G y E pc ls (.int x :: st) N u g r N' u' g' := by
  obtain ⟨off, hd, ht, rfl⟩ := hd
  unfold zR
  refine ⟨?_, fun p e s m args below meth c H locs Q lsA C h1 h2 hR hl hS hF => lv_if_ge C.1 C.2.1 hd ht (fun q => (kt q).run C h1 h2 hR hl hS hF) (fun q => (kf q).run C h1 h2 hR hl hS hF)⟩
  by_cases q : 0 ≤ x
  · exact (kt q).le
  · exact (kf q).le
theorem z_if_gt {x : Int32} {tgt : Nat} (hd : zbr y pc pc2 tgt (.ifCond .gt)) (kt : 0 < x → zR G y E tgt ls st N u g r N' u' g') (kf : ¬ 0 < x → zR G y E pc2 ls st N u g r N' u' g') : zR G y E pc ls (.int x :: st) N u g r N' u' g' := by
  obtain ⟨off, hd, ht, rfl⟩ := hd
  unfold zR
  refine ⟨?_, fun p e s m args below meth c H locs Q lsA C h1 h2 hR hl hS hF => lv_if_gt C.1 C.2.1 hd ht (fun q => (kt q).run C h1 h2 hR hl hS hF) (fun q => (kf q).run C h1 h2 hR hl hS hF)⟩
  by_cases q : 0 < x
  · exact (kt q).le
  · exact (kf q).le
theorem z_if_le {x : Int32} {tgt : Nat} (hd : zbr y pc pc2 tgt (.ifCond .le)) (kt : x ≤ 0 → zR G y E tgt ls st N u g r N' u' g') (kf : ¬ x ≤ 0 → zR G y E pc2 ls st N u g r N' u' g') : zR G y E pc ls (.int x :: st) N u g r N' u' g' := by
  obtain ⟨off, hd, ht, rfl⟩ := hd
  unfold zR
  refine ⟨?_, fun p e s m args below meth c H locs Q lsA C h1 h2 hR hl hS hF => lv_if_le C.1 C.2.1 hd ht (fun q => (kt q).run C h1 h2 hR hl hS hF) (fun q => (kf q).run C h1 h2 hR hl hS hF)⟩
  by_cases q : x ≤ 0
  · exact (kt q).le
  · exact (kf q).le
theorem z_goto {tgt : Nat} (hd : zbr y pc pc2 tgt .goto) (k : zR G y E tgt ls st N u g r N' u' g') : zR G y E pc ls st N u g r N' u' g' := by
  obtain ⟨off, hd, ht, rfl⟩ := hd
  unfold zR
  exact ⟨k.le, fun p e s m args below meth c H locs Q lsA C h1 h2 hR hl hS hF => lv_goto C.1 C.2.1 hd ht (k.run C h1 h2 hR hl hS hF)⟩
theorem z_tabIn {n : Nat} {dflt lo hi off : Int} {offs : Array Int} {x : Int32} {tgt : Nat} (hd : zat y pc n pc2 (.tableswitch dflt lo hi offs)) (a1 : ¬ x.toInt < lo) (a2 : ¬ hi < x.toInt) (ho : offs[(x.toInt - lo).toNat]? = some off) (ht : (pc : Int) + off = (tgt : Int)) (k : zR G y E tgt ls st N u g r N' u' g') : zR G y E pc ls (.int x :: st) N u g r N' u' g' := by
  obtain ⟨hd, -⟩ := hd
  unfold zR
  exact ⟨k.le, fun p e s m args below meth c H locs Q lsA C h1 h2 hR hl hS hF => lv_tableIn C.1 C.2.1 hd a1 a2 ho ht (k.run C h1 h2 hR hl hS hF)⟩
theorem z_tabOut {n : Nat} {dflt lo hi : Int} {offs : Array Int} {x : Int32} {tgt : Nat} (hd : zat y pc n pc2 (.tableswitch dflt lo hi offs)) (a1 : x.toInt < lo ∨ hi < x.toInt) (ht : (pc : Int) + dflt = (tgt : Int)) (k : zR G y E tgt ls st N u g r N' u' g') : zR G y E pc ls (.int x :: st) N u g r N' u' g' := by
  obtain ⟨hd, -⟩ := hd
  unfold zR
  exact ⟨k.le, fun p e s m args below meth c H locs Q lsA C h1 h2 hR hl hS hF => lv_tableOut C.1 C.2.1 hd a1 ht (k.run C h1 h2 hR hl hS hF)⟩
theorem z_lookup {n : Nat} {dflt off : Int} {ps : Array (Int × Int)} {x : Int32} {tgt : Nat} (hd : zat y pc n pc2 (.lookupswitch dflt ps)) (hp : (ps.toList.zip (ps.toList.drop 1)).all (fun (a, next) => a.1 < next.1) = true) (ho : Op.lookupswitch.offset ps.toList dflt x.toInt = off) (ht : (pc : Int) + off = (tgt : Int)) (k : zR G y E tgt ls st N u g r N' u' g') : zR G y E pc ls (.int x :: st) N u g r N' u' g' := by
  obtain ⟨hd, -⟩ := hd
  unfold zR
  exact ⟨k.le, fun p e s m args below meth c H locs Q lsA C h1 h2 hR hl hS hF => lv_lookup C.1 C.2.1 hd hp ho ht (k.run C h1 h2 hR hl hS hF)⟩
theorem z_return (hd : zat y pc 1 pc2 .return_) (hg : g = g') : zR G y E pc ls [] N u g none N u g' := by
  subst hg
  obtain ⟨hd, -⟩ := hd
  unfold zR
  exact ⟨⟨Nat.le_refl _, Nat.le_refl _⟩, fun p e s m args below meth c H locs Q lsA C h1 h2 hR hl hS hF => hF pc lsA H locs ⟨fun _ => hd, fun x q => (by cases q), fun x q => (by cases q)⟩ hR hS⟩
theorem z_ireturn {x v : Int32} (hd : zat y pc 1 pc2 .ireturn) (hv : x = v) (hg : g = g') : zR G y E pc ls [.int x] N u g (some (.int v)) N u g' := by
  subst hg
  subst hv
  obtain ⟨hd, -⟩ := hd
  unfold zR
  exact ⟨⟨Nat.le_refl _, Nat.le_refl _⟩, fun p e s m args below meth c H locs Q lsA C h1 h2 hR hl hS hF => hF pc lsA H locs ⟨fun q => (by cases q), fun _ _ => hd, fun x q => (by cases q)⟩ hR hS⟩
theorem z_lreturn {x v : Int64} (hd : zat y pc 1 pc2 .lreturn) (hv : x = v) (hg : g = g') : zR G y E pc ls [.long x] N u g (some (.long v)) N u g' := by
  subst hg
  subst hv
  obtain ⟨hd, -⟩ := hd
  unfold zR
  exact ⟨⟨Nat.le_refl _, Nat.le_refl _⟩, fun p e s m args below meth c H locs Q lsA C h1 h2 hR hl hS hF => hF pc lsA H locs ⟨fun q => (by cases q), fun x q => (by cases q), fun _ _ => hd⟩ hR hS⟩
/-- fewer named values -/
theorem z_weak {ls2 : List (Option Value)} (h : ∀ (i : Nat) (v : Value), ls2[i]? = some (some v) → ls[i]? = some (some v)) (k : zR G y E pc ls2 st N u g r N' u' g') : zR G y E pc ls st N u g r N' u' g' := by
  unfold zR
  exact ⟨k.le, fun p e s m args below meth c H locs Q lsA C h1 h2 hR hl hS hF => k.run C h1 h2 hR (zLoc_of hl (fun i v hv => zAs_mem.mpr ⟨i, v, h i v hv, rfl⟩)) hS hF⟩
theorem z_eq {ls2 : List (Option Value)} {st2 : List Value} {g2 : zh} (h1 : ls = ls2) (h2 : st = st2) (h3 : g = g2) (k : zR G y E pc ls2 st2 N u g2 r N' u' g') : zR G y E pc ls st N u g r N' u' g' := by
  subst h1
  subst h2
  subst h3
  exact k
theorem z_getf {idx ci kf a : Nat} {fin : Bool} {ty : FieldType} {fs : List Value} {v : Value} (hd : zat y pc 3 pc2 (.getfield idx)) (hf : zfl y.1.cls idx ci kf fin ty) (ha : g a = zO ci fs) (hv : fs[kf]? = some v) (hk1 : a ≠ 1000) (k : zR G y E pc2 ls (v :: st) N u g r N' u' g') : zR G y E pc ls (.ref a :: st) N u g r N' u' g' := by
  obtain ⟨hd, rfl⟩ := hd
  obtain ⟨C0, T0, n0, hc, hkn, hT, -, -, hlk⟩ := hf
  unfold zR
  refine ⟨k.le, fun p e s m args below meth c H locs Q lsA C h1 h2 hR hl hS hF => ?_⟩
  have he := hR.get ha (zO_nd hc)
  have e1 : zv G (.ref a) = .ref (zbase G + a) := by simp [zv, hk1]
  show W _ _ _ _ _ _ _ _ _ _ _ _ _ _ _ (F0 m pc lsA (zv G (.ref a) :: st.map (zv G)))
  rw [e1]
  refine va_get (v := zv G v) C.1 C.2.1 C.2.2.2.2.1 (zcls_in _ _ hc) C.2.2.2.1 C.2.2.2.2.2.1 hR.1 a he hc kf hkn (C.2.2.2.2.1 _ hlk) (fun x q => by rw [hT] at q; exact q) ?_ hd (k.run C h1 h2 hR hl hS hF)
  rw [List.getElem?_map, hv]
  rfl
theorem z_putf {idx ci kf a : Nat} {ty : FieldType} {fs : List Value} {v : Value} (hd : zat y pc 3 pc2 (.putfield idx)) (hf : zfl y.1.cls idx ci kf false ty) (ha : g a = zO ci fs) (hn : narrow ty (zv G v) = zv G v) (hfit : fits ty (zv G v) = true) (hkl : kf < fs.length) (hk1 : a ≠ 1000) (k : zR G y E pc2 ls st N u (zup g a (zO ci (fs.set kf v))) r N' u' g') : zR G y E pc ls (v :: .ref a :: st) N u g r N' u' g' := by
  obtain ⟨hd, rfl⟩ := hd
  obtain ⟨C0, T0, n0, hc, hkn, hT, hfin, hty, hlk⟩ := hf
  obtain ⟨ty0, hty0, hnm⟩ := zcls_ty _ _ hc
  unfold zR
  refine ⟨k.le, fun p e s m args below meth c H locs Q lsA C h1 h2 hR hl hS hF => ?_⟩
  have he := hR.get ha (zO_nd hc)
  have e1 : zv G (.ref a) = .ref (zbase G + a) := by simp [zv, hk1]
  show W _ _ _ _ _ _ _ _ _ _ _ _ _ _ _ (F0 m pc lsA (zv G v :: zv G (.ref a) :: st.map (zv G)))
  rw [e1]
  have hts := C.2.2.2.2.1
  have hK := C.2.2.2.2.2.1
  have hap := va_apart (own := y.1.cls) hts (zcls_in _ _ hc) ty0 hty0 hnm hK hc
  obtain ⟨rr, g1, cell, q1, q2, q3, q4⟩ := hR.1 a _ he
  have hr : rr = (C0, T0, n0) := Option.some.inj (g1.symm.trans hc)
  subst hr
  obtain ⟨hSl, hfc, kC, hkC, hkind⟩ := hK.1 ci _ hc
  obtain ⟨cf, kff, fi, f, hi, hsl⟩ := hSl kf hkn
  have hlay := hts _ (zcls_in _ _ hc _ (u_in_lay hkn))
  unfold u_lay at hlay
  rw [if_neg (by rw [hfin]; decide)] at hlay
  have hst := (u_facts hfc hkC (u_lays hts (zcls_in _ _ hc) hkn) hi).1
  have h6 := u_store hfc hkC hkind hlay hi hty hn hfit
  refine W.putK C.1 C.2.1 (f := f) ⟨C.2.2.2.1, hts _ hlk, ⟨_, _, _, (by rw [hT] at hi; exact hi)⟩, hst⟩ (by rw [q2]; exact h6) q1 q3 (by rw [hsl]; exact k2_hasslot (q4 kf hkn)) rfl rfl hd fun H' e1 e2 e3 => ?_
  rw [hsl] at e1 ⊢
  refine k.run C h1 h2 (hR.put ha (zO_nd hc) (c := zO ci (fs.set kf v)) (hR.1.set zW_D he ⟨_, hc, t_OB.to (V := updV (vp_V (fs.map (zv G))) kf (zv G v)) ⟨_, e1, q2, q3, t_set q4 hap hkn (zv G v)⟩ (fun j _ => ?_)⟩ e3) (fun _ => e2)) hl (hS.put e2 e3 (Nat.le_add_right _ _)) hF
  rw [vp_updV_set (by simpa using hkl) (zv G v) j, List.map_set]
theorem z_putF {idx ci kf a : Nat} {ty : FieldType} {fs : List Value} {v : Value} (hd : zat y pc 3 pc2 (.putfield idx)) (hf : zfl y.1.cls idx ci kf true ty) (hy : y.1.name = "<init>") (hci : ∀ q, zcls[ci]? = some q → q.1 = y.1.cls) (ha : g a = zO ci fs) (hn : narrow ty (zv G v) = zv G v) (hfit : fits ty (zv G v) = true) (hkl : kf < fs.length) (hk1 : a ≠ 1000) (k : zR G y E pc2 ls st N u (zup g a (zO ci (fs.set kf v))) r N' u' g') : zR G y E pc ls (v :: .ref a :: st) N u g r N' u' g' := by
  obtain ⟨hd, rfl⟩ := hd
  obtain ⟨C0, T0, n0, hc, hkn, hT, hfin, hty, hlk⟩ := hf
  obtain ⟨ty0, hty0, hnm⟩ := zcls_ty _ _ hc
  have hC0 : C0 = y.1.cls := hci _ hc
  unfold zR
  refine ⟨k.le, fun p e s m args below meth c H locs Q lsA C h1 h2 hR hl hS hF => ?_⟩
  have he := hR.get ha (zO_nd hc)
  have e1 : zv G (.ref a) = .ref (zbase G + a) := by simp [zv, hk1]
  show W _ _ _ _ _ _ _ _ _ _ _ _ _ _ _ (F0 m pc lsA (zv G v :: zv G (.ref a) :: st.map (zv G)))
  rw [e1]
  have hts := C.2.2.2.2.1
  have hK := C.2.2.2.2.2.1
  have hap := va_apart (own := y.1.cls) hts (zcls_in _ _ hc) ty0 hty0 hnm hK hc
  obtain ⟨rr, g1, cell, q1, q2, q3, q4⟩ := hR.1 a _ he
  have hr : rr = (C0, T0, n0) := Option.some.inj (g1.symm.trans hc)
  subst hr
  obtain ⟨hSl, hfc, kC, hkC, hkind⟩ := hK.1 ci _ hc
  obtain ⟨cf, kff, fi, f, hi, hsl⟩ := hSl kf hkn
  have hlay := hts _ (zcls_in _ _ hc _ (u_in_lay hkn))
  unfold u_lay at hlay
  rw [if_pos hfin] at hlay
  have hst := (u_facts hfc hkC (u_lays hts (zcls_in _ _ hc) hkn) hi).1
  have hcf : m.cls = cf := by
    obtain ⟨_, _, c', _, _, _, -, -, hf', -, -, -, hown2, -⟩ := Cond.laysFinal_spec hlay
    have e1 : c' = cf := by have := hi.symm.trans hf'; simp at this; exact this.1.symm
    rw [hT, hC0] at hown2
    rw [← e1]; exact Option.some.inj (C.2.2.2.1.symm.trans hown2)
  have h6 := u_fits hfc hkC hkind (Or.inr hlay) hi hty hn hfit
  refine W.putFinK C.1 C.2.1 C.2.2.2.1 (hts _ hlk) (by rw [hT] at hi; exact hi) hst hcf (C.2.2.2.2.2.2.2.1 hy) (by rw [q2]; exact h6) q1 q3 (by rw [hsl]; exact k2_hasslot (q4 kf hkn)) rfl rfl hd fun H' e1 e2 e3 => ?_
  rw [hsl] at e1 ⊢
  refine k.run C h1 h2 (hR.put ha (zO_nd hc) (c := zO ci (fs.set kf v)) (hR.1.set zW_D he ⟨_, hc, t_OB.to (V := updV (vp_V (fs.map (zv G))) kf (zv G v)) ⟨_, e1, q2, q3, t_set q4 hap hkn (zv G v)⟩ (fun j _ => ?_)⟩ e3) (fun _ => e2)) hl (hS.put e2 e3 (Nat.le_add_right _ _)) hF
  rw [vp_updV_set (by simpa using hkl) (zv G v) j, List.map_set]
theorem zref {a : Nat} (h : a ≠ 1000) : zv G (.ref a) = .ref (zbase G + a) := by simp [zv, h]
theorem z_iaload {a n j : Nat} {f : Nat → Int32} {i : Int32} (hd : zat y pc 1 pc2 .iaload) (ha : g a = zI n f) (hi : i = nI j) (hj : j < n) (hn : n < 2 ^ 31) (hk1 : a ≠ 1000) (k : zR G y E pc2 ls (.int (f j) :: st) N u g r N' u' g') : zR G y E pc ls (.int i :: .ref a :: st) N u g r N' u' g' := by
  obtain ⟨hd, rfl⟩ := hd
  subst hi
  unfold zR
  refine ⟨k.le, fun p e s m args below meth c H locs Q lsA C h1 h2 hR hl hS hF => ?_⟩
  have he := hR.get ha (by simp)
  show W _ _ _ _ _ _ _ _ _ _ _ _ _ _ _ (F0 m pc lsA (.int (nI j) :: zv G (.ref a) :: st.map (zv G)))
  rw [zref hk1]
  refine va_iald C.1 C.2.1 C.2.2.2.2.2.1 hR.1 a 0 he rfl (vp_in_nI hj hn) hd ?_
  rw [nI_clamp (by omega)]
  exact k.run C h1 h2 hR hl hS hF
theorem z_laload {a n j : Nat} {f : Nat → Int64} {i : Int32} (hd : zat y pc 1 pc2 .laload) (ha : g a = zJ n f) (hi : i = nI j) (hj : j < n) (hn : n < 2 ^ 31) (hk1 : a ≠ 1000) (k : zR G y E pc2 ls (.long (f j) :: st) N u g r N' u' g') : zR G y E pc ls (.int i :: .ref a :: st) N u g r N' u' g' := by
  obtain ⟨hd, rfl⟩ := hd
  subst hi
  unfold zR
  refine ⟨k.le, fun p e s m args below meth c H locs Q lsA C h1 h2 hR hl hS hF => ?_⟩
  have he := hR.get ha (by simp)
  show W _ _ _ _ _ _ _ _ _ _ _ _ _ _ _ (F0 m pc lsA (.int (nI j) :: zv G (.ref a) :: st.map (zv G)))
  rw [zref hk1]
  refine va_lald C.1 C.2.1 C.2.2.2.2.2.1 hR.1 a 1 he rfl (vp_in_nI hj hn) hd ?_
  rw [nI_clamp (by omega)]
  exact k.run C h1 h2 hR hl hS hF
theorem z_iastore {a n j : Nat} {f : Nat → Int32} {i x : Int32} (hd : zat y pc 1 pc2 .iastore) (ha : g a = zI n f) (hi : i = nI j) (hj : j < n) (hn : n < 2 ^ 31) (hk1 : a ≠ 1000) (hN : 71 ≤ N) (k : zR G y E pc2 ls st N u (zup g a (zI n (upd f j x))) r N' u' g') : zR G y E pc ls (.int x :: .int i :: .ref a :: st) N u g r N' u' g' := by
  obtain ⟨hd, rfl⟩ := hd
  subst hi
  unfold zR
  refine ⟨k.le, fun p e s m args below meth c H locs Q lsA C h1 h2 hR hl hS hF => ?_⟩
  have he := hR.get ha (by simp)
  show W _ _ _ _ _ _ _ _ _ _ _ _ _ _ _ (F0 m pc lsA (.int x :: .int (nI j) :: zv G (.ref a) :: st.map (zv G)))
  rw [zref hk1]
  refine va_iast C.1 C.2.1 C.2.2.2.2.2.1 hR.1 zW_D hS a 0 he rfl (vp_in_nI hj hn) hd (fun H1 locs1 hP1 hD1 hS1 => ?_)
  rw [nI_clamp (by omega)] at hP1
  exact k.run C h1 h2 (hR.put ha (by simp) (c := zI n (upd f j x)) hP1 (fun q => absurd q (by omega))) hl hS1 hF
theorem z_lastore {a n j : Nat} {f : Nat → Int64} {i : Int32} {x : Int64} (hd : zat y pc 1 pc2 .lastore) (ha : g a = zJ n f) (hi : i = nI j) (hj : j < n) (hn : n < 2 ^ 31) (hk1 : a ≠ 1000) (hN : 71 ≤ N) (k : zR G y E pc2 ls st N u (zup g a (zJ n (vp_updL f j x))) r N' u' g') : zR G y E pc ls (.long x :: .int i :: .ref a :: st) N u g r N' u' g' := by
  obtain ⟨hd, rfl⟩ := hd
  subst hi
  unfold zR
  refine ⟨k.le, fun p e s m args below meth c H locs Q lsA C h1 h2 hR hl hS hF => ?_⟩
  have he := hR.get ha (by simp)
  show W _ _ _ _ _ _ _ _ _ _ _ _ _ _ _ (F0 m pc lsA (.long x :: .int (nI j) :: zv G (.ref a) :: st.map (zv G)))
  rw [zref hk1]
  refine va_last C.1 C.2.1 C.2.2.2.2.2.1 hR.1 zW_D hS a 1 he rfl (vp_in_nI hj hn) hd (fun H1 locs1 hP1 hD1 hS1 => ?_)
  rw [nI_clamp (by omega)] at hP1
  exact k.run C h1 h2 (hR.put ha (by simp) (c := zJ n (vp_updL f j x)) hP1 (fun q => absurd q (by omega))) hl hS1 hF
theorem z_alen {a n : Nat} {f : Nat → Int32} (hd : zat y pc 1 pc2 .arraylength) (ha : g a = zI n f) (hk1 : a ≠ 1000) (k : zR G y E pc2 ls (.int (nI n) :: st) N u g r N' u' g') : zR G y E pc ls (.ref a :: st) N u g r N' u' g' := by
  obtain ⟨hd, rfl⟩ := hd
  unfold zR
  refine ⟨k.le, fun p e s m args below meth c H locs Q lsA C h1 h2 hR hl hS hF => ?_⟩
  have he := hR.get ha (by simp)
  show W _ _ _ _ _ _ _ _ _ _ _ _ _ _ _ (F0 m pc lsA (zv G (.ref a) :: st.map (zv G)))
  rw [zref hk1]
  exact va_alen C.1 C.2.1 C.2.2.2.2.2.1 hR.1 a 0 he (ty := .int) rfl rfl hd (k.run C h1 h2 hR hl hS hF)
theorem z_sld {j : Nat} {i : Int32} (hd : zat y pc 1 pc2 .iaload) (hy : y.1.name = "law") (hi : i = nI j) (hj : j < zL G) (hn : zL G < 2 ^ 31) (k : zR G y E pc2 ls (.int (zxs G j) :: st) N u g r N' u' g') : zR G y E pc ls (.int i :: .ref 1000 :: st) N u g r N' u' g' := by
  obtain ⟨hd, rfl⟩ := hd
  subst hi
  unfold zR
  refine ⟨k.le, fun p e s m args below meth c H locs Q lsA C h1 h2 hR hl hS hF => ?_⟩
  obtain ⟨hX, hbl, hbA⟩ := C.2.2.2.2.2.2.2.2.1 hy
  show W _ _ _ _ _ _ _ _ _ _ _ _ _ _ _ (F0 m pc lsA (.int (nI j) :: .ref (zb G) :: st.map (zv G)))
  refine va_sld C.1 C.2.1 hX hbl hbA hS (vp_in_nI hj hn) hd ?_
  rw [nI_clamp (by omega)]
  exact k.run C h1 h2 hR hl hS hF
theorem z_slen (hd : zat y pc 1 pc2 .arraylength) (hy : y.1.name = "law") (k : zR G y E pc2 ls (.int (nI (zL G)) :: st) N u g r N' u' g') : zR G y E pc ls (.ref 1000 :: st) N u g r N' u' g' := by
  obtain ⟨hd, rfl⟩ := hd
  unfold zR
  refine ⟨k.le, fun p e s m args below meth c H locs Q lsA C h1 h2 hR hl hS hF => ?_⟩
  obtain ⟨hX, hbl, hbA⟩ := C.2.2.2.2.2.2.2.2.1 hy
  show W _ _ _ _ _ _ _ _ _ _ _ _ _ _ _ (F0 m pc lsA (.ref (zb G) :: st.map (zv G)))
  exact va_slen C.1 C.2.1 hX hbl hbA hS hd (k.run C h1 h2 hR hl hS hF)
theorem z_new {idx ci n : Nat} {fs : List Value} (hd : zat y pc 3 pc2 (.new idx)) (hw : znw y.1.cls idx ci n fs) (hfs : fs.map (zv G) = fs) (hN : N < 71) (k : zR G y E pc2 ls (.ref N :: st) (N + 1) (u + n) (zup g N (zO ci fs)) r N' u' g') : zR G y E pc ls st N u g r N' u' g' := by
  obtain ⟨hd, rfl⟩ := hd
  obtain ⟨C0, T0, hcl, hinst, hini, hc, ty, hty, hdf⟩ := hw
  have hle := k.le
  unfold zR
  refine ⟨⟨by omega, by omega⟩, fun p e s m args below meth c H locs Q lsA C h1 h2 hR hl hS hF => ?_⟩
  have hts := C.2.2.2.2.1
  have hKn := C.2.2.2.2.2.1.1 ci _ hc
  have hsz := hR.2.1 hN
  refine W.newcK C.1 C.2.1 C.2.2.2.1 (hts _ hcl) (hts _ hinst) (hts _ hini) rfl hd (by show _ ≤ N' - E.1; omega) (by show _ ≤ u' - E.2; omega) hKn.2.1 hsz fun H1 kC hkC e1 z1 o1 => ?_
  have hat : va_at (zD G) zcls (zbase G + N, zconv G (zO ci fs)) H1 := by
    show ∃ r : vw_C, zcls[ci]? = some r ∧ _
    refine ⟨_, hc, (u_born ty hts (zcls_in _ _ hc) hKn hkC e1 hty).to ?_⟩
    intro j hj
    rw [hdf j hj]
    show _ = vp_V (fs.map (zv G)) j
    rw [hfs]
  have hR1 : zRel G (N + 1) (zup g N (zO ci fs)) H1 := by
    refine ⟨fun i q hq => ?_, fun _ => by rw [z1]; omega, by have := hR.2.2.1; omega, fun j hj => by rw [zup_n _ _ (by omega)]; exact hR.2.2.2 j (by omega)⟩
    obtain ⟨hi, rfl⟩ := zW_of hq
    by_cases hik : i = N
    · subst hik
      rw [zup_s]
      exact hat
    · rw [zup_n _ _ hik]
      have h5 := hR.1 i _ (zW_get (by omega))
      exact h5.kept (o1 _ (by show zbase G + i < zbase G + N; omega))
  have hS1 : va_S (zA G) s.heap H1 locs := ⟨Nat.le_trans hS.1 (by rw [z1]; omega), fun x g1 g2 => (o1 x (by have := hS.1; omega)).trans (hS.2.1 x g1 g2), hS.2.2⟩
  have h7 := k.run C (by omega) (by omega) hR1 hl hS1 hF
  have e7 : N + 1 - E.1 = N - E.1 + 1 := by omega
  have e8 : u + n - E.2 = u - E.2 + n := by omega
  rw [e7, e8] at h7
  have e9 : zv G (.ref N) = .ref (zbase G + N) := zref (by omega)
  rw [List.map_cons, e9] at h7
  exact h7
theorem z_newai {n : Nat} {i : Int32} (hd : zat y pc 2 pc2 (.newarray .int)) (hi : i = nI n) (hn : n < 1000) (hN : N < 71) (k : zR G y E pc2 ls (.ref N :: st) (N + 1) (u + n) (zup g N (zI n (fun _ => 0))) r N' u' g') : zR G y E pc ls (.int i :: st) N u g r N' u' g' := by
  obtain ⟨hd, rfl⟩ := hd
  subst hi
  have hle := k.le
  unfold zR
  refine ⟨⟨by omega, by omega⟩, fun p e s m args below meth c H locs Q lsA C h1 h2 hR hl hS hF => ?_⟩
  have hts := C.2.2.2.2.1
  have hK := C.2.2.2.2.2.1
  have hsz := hR.2.1 hN
  refine va_newaK (atype := .int) C.1 C.2.1 (hts _ zw_int) rfl hd rfl (nI_pos (by omega)) (nI_clamp (by omega)) (by show n * 4 ≤ _; omega) (by show _ ≤ N' - E.1; omega) (by show _ ≤ u' - E.2; omega) hsz fun H1 cA e1 z1 o1 hAr hNm => ?_
  have hcA : cA = zcI G := by
    have h3 : va_RA s (zcI G) .int := (hK.2 0 (zcI G, .int) rfl).2
    exact Option.some.inj (hNm.symm.trans h3)
  subst hcA
  have hR1 : zRel G (N + 1) (zup g N (zI n (fun _ => 0))) H1 := by
    refine ⟨fun i q hq => ?_, fun _ => by rw [z1]; omega, by have := hR.2.2.1; omega, fun j hj => by rw [zup_n _ _ (by omega)]; exact hR.2.2.2 j (by omega)⟩
    obtain ⟨hi, rfl⟩ := zW_of hq
    by_cases hik : i = N
    · subst hik
      rw [zup_s]
      exact e1
    · rw [zup_n _ _ hik]
      have h5 := hR.1 i _ (zW_get (by omega))
      exact h5.kept (o1 _ (by show zbase G + i < zbase G + N; omega))
  have hS1 : va_S (zA G) s.heap H1 locs := ⟨Nat.le_trans hS.1 (by rw [z1]; omega), fun x g1 g2 => (o1 x (by have := hS.1; omega)).trans (hS.2.1 x g1 g2), hS.2.2⟩
  have h7 := k.run C (by omega) (by omega) hR1 hl hS1 hF
  have e7 : N + 1 - E.1 = N - E.1 + 1 := by omega
  have e8 : u + n - E.2 = u - E.2 + n := by omega
  rw [e7, e8] at h7
  have e9 : zv G (.ref N) = .ref (zbase G + N) := zref (by omega)
  rw [List.map_cons, e9] at h7
  exact h7
theorem z_newal {n : Nat} {i : Int32} (hd : zat y pc 2 pc2 (.newarray .long)) (hi : i = nI n) (hn : n < 1000) (hN : N < 71) (k : zR G y E pc2 ls (.ref N :: st) (N + 1) (u + n) (zup g N (zJ n (fun _ => 0))) r N' u' g') : zR G y E pc ls (.int i :: st) N u g r N' u' g' := by
  obtain ⟨hd, rfl⟩ := hd
  subst hi
  have hle := k.le
  unfold zR
  refine ⟨⟨by omega, by omega⟩, fun p e s m args below meth c H locs Q lsA C h1 h2 hR hl hS hF => ?_⟩
  have hts := C.2.2.2.2.1
  have hK := C.2.2.2.2.2.1
  have hsz := hR.2.1 hN
  refine va_newaK (atype := .long) C.1 C.2.1 (hts _ zw_long) rfl hd rfl (nI_pos (by omega)) (nI_clamp (by omega)) (by show n * 8 ≤ _; omega) (by show _ ≤ N' - E.1; omega) (by show _ ≤ u' - E.2; omega) hsz fun H1 cA e1 z1 o1 hAr hNm => ?_
  have hcA : cA = zcJ G := by
    have h3 : va_RA s (zcJ G) .long := (hK.2 1 (zcJ G, .long) rfl).2
    exact Option.some.inj (hNm.symm.trans h3)
  subst hcA
  have hR1 : zRel G (N + 1) (zup g N (zJ n (fun _ => 0))) H1 := by
    refine ⟨fun i q hq => ?_, fun _ => by rw [z1]; omega, by have := hR.2.2.1; omega, fun j hj => by rw [zup_n _ _ (by omega)]; exact hR.2.2.2 j (by omega)⟩
    obtain ⟨hi, rfl⟩ := zW_of hq
    by_cases hik : i = N
    · subst hik
      rw [zup_s]
      exact e1
    · rw [zup_n _ _ hik]
      have h5 := hR.1 i _ (zW_get (by omega))
      exact h5.kept (o1 _ (by show zbase G + i < zbase G + N; omega))
  have hS1 : va_S (zA G) s.heap H1 locs := ⟨Nat.le_trans hS.1 (by rw [z1]; omega), fun x g1 g2 => (o1 x (by have := hS.1; omega)).trans (hS.2.1 x g1 g2), hS.2.2⟩
  have h7 := k.run C (by omega) (by omega) hR1 hl hS1 hF
  have e7 : N + 1 - E.1 = N - E.1 + 1 := by omega
  have e8 : u + n - E.2 = u - E.2 + n := by omega
  rw [e7, e8] at h7
  have e9 : zv G (.ref N) = .ref (zbase G + N) := zref (by omega)
  rw [List.map_cons, e9] at h7
  exact h7
theorem z_catmap (G : zG) (st : List Value) : ((st.map (zv G)).map fun v => v.category).sum = (st.map fun v => v.category).sum := by
  rw [List.map_map]
  congr 1
  apply List.map_congr_left
  intro v _
  exact zv_cat G v
theorem z_objinit {idx a : Nat} (hd : zat y pc 3 pc2 (.invokespecial idx)) (hL : Cond.methodLink y.1.cls idx Lib.objectInit ∈ zT) (hf : 1 ≤ y.2.2.2.2.1) (hlo : (st.map fun v => v.category).sum + 12 ≤ y.2.2.2.2.2) (k : zR G y E pc2 ls st N u g r N' u' g') : zR G y E pc ls (.ref a :: st) N u g r N' u' g' := by
  obtain ⟨hd, rfl⟩ := hd
  unfold zR
  refine ⟨k.le, fun p e s m args below meth c H locs Q lsA C h1 h2 hR hl hS hF => ?_⟩
  have hts := C.2.2.2.2.1
  exact W.objInit C.1 C.2.1 C.2.2.2.1 (hts _ hL) (hts _ zw_oi) (hts _ zw_oc) rfl (hl.1.trans C.2.2.1.symm) rfl hd hf (by rw [z_catmap]; show 2 * 0 + _ + 12 ≤ y.2.2.2.2.2; omega) (k.run C h1 h2 hR hl hS hF)
theorem z_mmin {idx : Nat} {x v : Int32} (hd : zat y pc 3 pc2 (.invokestatic idx)) (hL : Cond.methodLink y.1.cls idx Lib.Math.min.name ∈ zT) (hf : 1 ≤ y.2.2.2.2.1) (hlo : (st.map fun v => v.category).sum + 13 ≤ y.2.2.2.2.2) (k : zR G y E pc2 ls (.int (if v < x then v else x) :: st) N u g r N' u' g') : zR G y E pc ls (.int v :: .int x :: st) N u g r N' u' g' := by
  obtain ⟨hd, rfl⟩ := hd
  have hle := k.le
  unfold zR
  refine ⟨k.le, fun p e s m args below meth c H locs Q lsA C h1 h2 hR hl hS hF => ?_⟩
  have hts := C.2.2.2.2.1
  exact va_mmin C.1 C.2.1 (C.2.2.1.trans hl.1.symm) C.2.2.2.1 (hts _ hL) (hts _ zw_min.1) (hts _ zw_math) (hts _ zw_min.2) hf (by rw [z_catmap]; exact hlo) (by show _ ≤ N' - E.1; omega) (by show _ ≤ u' - E.2; omega) hd (k.run C h1 h2 hR hl hS hF)
theorem z_mmax {idx : Nat} {x v : Int32} (hd : zat y pc 3 pc2 (.invokestatic idx)) (hL : Cond.methodLink y.1.cls idx Lib.Math.max.name ∈ zT) (hf : 1 ≤ y.2.2.2.2.1) (hlo : (st.map fun v => v.category).sum + 13 ≤ y.2.2.2.2.2) (k : zR G y E pc2 ls (.int (if x < v then v else x) :: st) N u g r N' u' g') : zR G y E pc ls (.int v :: .int x :: st) N u g r N' u' g' := by
  obtain ⟨hd, rfl⟩ := hd
  have hle := k.le
  unfold zR
  refine ⟨k.le, fun p e s m args below meth c H locs Q lsA C h1 h2 hR hl hS hF => ?_⟩
  have hts := C.2.2.2.2.1
  exact va_mmax C.1 C.2.1 (C.2.2.1.trans hl.1.symm) C.2.2.2.1 (hts _ hL) (hts _ zw_max.1) (hts _ zw_math) (hts _ zw_max.2) hf (by rw [z_catmap]; exact hlo) (by show _ ≤ N' - E.1; omega) (by show _ ≤ u' - E.2; omega) hd (k.run C h1 h2 hR hl hS hF)
/-- a whole row copied onto another of its length -/
theorem z_acopy {idx a b n : Nat} {f f2 : Nat → Int32} {i1 i2 i3 : Int32} (hd : zat y pc 3 pc2 (.invokestatic idx)) (hL : Cond.methodLink y.1.cls idx arraycopyName ∈ zT) (ha : g a = zI n f) (hb : g b = zI n f2) (e1 : i1 = nI n) (e2 : i2 = nI 0) (e3 : i3 = nI 0) (hn : n < 1000) (hka : a ≠ 1000) (hkb : b ≠ 1000) (hN : 71 ≤ N) (hf : 1 ≤ y.2.2.2.2.1) (hlo : (st.map fun v => v.category).sum + (nativeFrameWords "java/lang/System" "arraycopy" 5 + 11) ≤ y.2.2.2.2.2)
    (k : zR G y E pc2 ls st N u (zup g b (zI n f)) r N' u' g') : zR G y E pc ls (.int i1 :: .int i2 :: .ref b :: .int i3 :: .ref a :: st) N u g r N' u' g' := by
  obtain ⟨hd, rfl⟩ := hd
  subst e1
  subst e2
  subst e3
  unfold zR
  refine ⟨k.le, fun p e s m args below meth c H locs Q lsA C h1 h2 hR hl hS hF => ?_⟩
  have hts := C.2.2.2.2.1
  show W _ _ _ _ _ _ _ _ _ _ _ _ _ _ _ (F0 m pc lsA (.int (nI n) :: .int (nI 0) :: zv G (.ref b) :: .int (nI 0) :: zv G (.ref a) :: st.map (zv G)))
  rw [zref hka, zref hkb]
  refine va_copyi (ty := .int) C.1 C.2.1 (C.2.2.1.trans hl.1.symm) C.2.2.2.1 (hts _ hL) (hts _ zw_ac.2.1) (hts _ zw_ac.1) (hts _ zw_ac.2.2) C.2.2.2.2.2.1 hR.1 zW_D hS a b 0 0 (hR.get ha (by simp)) (hR.get hb (by simp)) rfl rfl rfl (nI_pos (by omega)) (nI_pos (by omega)) (nI_pos (by omega)) (by rw [nI_clamp (by omega), nI_clamp (by omega)]; omega) (by rw [nI_clamp (by omega), nI_clamp (by omega)]; omega) (fun _ _ => rfl) hf (by rw [z_catmap]; exact hlo) hd (fun H1 locs1 hP1 hD1 hS1 => ?_)
  rw [nI_clamp (by omega), nI_clamp (by omega)] at hP1
  have hR1 := hR.put hb (by simp) (c := zI n (va_cpy f f2 0 0 n)) hP1 (fun q => absurd q (by omega))
  refine k.run C h1 h2 (hR1.same (fun j hj => ?_)) hl hS1 hF
  rw [pk_cpy_in (by omega) (by omega)]
  congr 1
  omega
/-! contracts -/
def zwd (y : zY) : List Cond := Cond.code y.1 y.2.1 y.2.2.1 y.2.2.2.1 :: zT
def zPc (G : zG) (as : List Value) (N : Nat) (g : zh) : Array Value → State → Prop := fun v U => v = (as.map (zv G)).toArray ∧ zRel G N g U.heap ∧ va_K (zD G) zcls (ztys G) U ∧ zbase G ≤ U.heap.size ∧ (∀ w ∈ zNest, va_Nw w U)
def zQc (G : zG) (r : Option Value) (N : Nat) (g : zh) : Array Value → State → Outcome → State → Prop := fun _ st o t => o = .returned (r.map (zv G)) ∧ zRel G N g t.heap ∧ va_F (zA G) st t
def zC (G : zG) (y : zY) (as : List Value) (N u : Nat) (g : zh) (r : Option Value) (N' u' : Nat) (g' : zh) : Prop := (N ≤ N' ∧ u ≤ u') ∧ Met (zl G) y.1 (zwd y) (zrm y (N, u) N' u') (zPc G as N g) (zQc G r N' g') (N' - N) (u' - u) (zA G)
theorem zPc_blind {as : List Value} : FrameBlind (zPc G as N g) := fun a U g mk q => ⟨q.1, q.2.1, va_K.moved (u := U) (U := U.calling g mk a) (Vm.Alike.refl U.vm) q.2.2.1, q.2.2.2.1, fun w hw => by
  have h := q.2.2.2.2 w hw
  exact va_Nw.same (u := U) (U := U.calling g mk a) (zNest_tab w hw) rfl h⟩
theorem zgood {w : Cond} (h : w ∈ zT) : (w.onTables && w.keeps) = true ∨ ∃ ty, w = .arrayClass ty := good_of_word (List.mem_filter.mp h).2
theorem zGoodIn {ws : List Cond} (h : ∀ w ∈ ws, w ∈ zT) : GoodIn zT ws := fun w hw => ⟨h w hw, zgood (h w hw)⟩
theorem zwd_in {y1 : zY} (h : Cond.code y1.1 y1.2.1 y1.2.2.1 y1.2.2.2.1 ∈ zT) : ∀ w ∈ zwd y1, w ∈ zT := fun w hw => (List.mem_cons.mp hw).elim (fun e => e ▸ h) (fun q => q)
/-- what a return's kind asks -/
def zro (ret : Option FieldType) (r : Option Value) : Prop := match ret, r with
  | none, none => True
  | some .int, some (.int _) => True
  | some .long, some (.long _) => True
  | some .boolean, some (.int v) => narrow .boolean (.int v) = .int v
  | _, _ => False
theorem zC_of {as : List Value} (hy : plainName y.1.cls = true) (hnl : y.1.name ≠ "law") (hro : zro y.2.2.2.1 r) (hlen : (lg_sl (as.map (zv G))).length ≤ y.2.2.1) (hls : ∀ i v, ls[i]? = some (some v) → (i, v) ∈ lv_args 0 as) (k : zR G y (N, u) 0 ls [] N u g r N' u' g') : zC G y as N u g r N' u' g' := by
  refine ⟨k.le, Met.ofW (cc := y.2.1) (maxL := y.2.2.1) (ret := y.2.2.2.1) hy rfl ?_⟩
  intro p e s m args below meth c s₁ B hml hv
  obtain ⟨rfl, hR, hK, hbs, hNw⟩ := hv
  have hts := atoms_spec (ws := zwd y) B.pre
  have hown : s.vm.findClass y.1.cls = some m.cls := findClass_of_methodNamed B.named
  have hlocks := B.notSynchronized
  have hl0 := lv_entry (as.map (zv G)) (n := y.2.2.1) hlen
  rw [lg_entry_eq]
  generalize (lg_sl (as.map (zv G)) ++ List.replicate (y.2.2.1 - (lg_sl (as.map (zv G))).length) Slot.unset).toArray = lsA at hl0 ⊢
  have hl : zLoc G lsA y.2.2.1 ls := zLoc_of hl0 (fun i v hv => zargs_map (hls i v hv))
  have C : zCtx G y p s m (as.map (zv G)).toArray meth c := ⟨B.exec, B.bytes, hml, hown, fun w hw => hts w (List.mem_cons_of_mem _ hw), hK, hbs, fun q => (name_of_methodNamed B.named B.method).1.trans q, fun q => absurd q hnl, hNw⟩
  have hres := k.run (below := below) (e := e) (locs := []) (Q := MQ below (zQc G r N' g') (as.map (zv G)).toArray s (N' - N) (u' - u) (zA G)) C (Nat.le_refl _) (Nat.le_refl _) hR hl va_S.rf (fun pc' lsA' H' locs' hd hR' hS' => by
    obtain ⟨d1, d2, d3⟩ := hd
    have hq : ∀ t : State, t.heap = H' → s.WarmedH t.vm → zQc G r N' g' (as.map (zv G)).toArray s (.returned (r.map (zv G))) t := fun t ht _ => ⟨rfl, by rw [ht]; exact hR', hS'.F ht⟩
    have hret := B.returns
    revert hro d1 d2 d3 hq
    cases hrr : y.2.2.2.1 with
    | none =>
      cases r with
      | none =>
        intro hro d1 d2 d3 hq
        exact W.vret C.1 C.2.1 (hret.trans hrr) hq hS'.2.2 (d1 rfl)
      | some v => intro hro; exact False.elim hro
    | some rt =>
      cases r with
      | none => intro hro; cases rt <;> exact False.elim hro
      | some v =>
        intro hro d1 d2 d3 hq
        cases rt <;> cases v <;> first
          | exact False.elim hro
          | exact W.iret C.1 C.2.1 (hret.trans hrr) hq hS'.2.2 (d2 _ rfl)
          | exact W.lret C.1 C.2.1 (hret.trans hrr) hq hS'.2.2 (d3 _ rfl)
          | exact W.zret C.1 C.2.1 (hret.trans hrr) hro hq hS'.2.2 (d2 _ rfl))
  have e1 : (N, u).1 = N := rfl
  have e2 : (N, u).2 = u := rfl
  rw [e1, e2, Nat.sub_self, Nat.sub_self] at hres
  exact hres
/-- behind a call's run -/
theorem z_after {p : Program} {e : Env} {s : State} {m : MethodId} {args : Array Value} {below : List Frame} {meth : Method} {c : Code} {H : Heap} {locs : List Loc} {Q : State → Prop} {lsA : Array Slot} {R : Room} {st0 : List Value} {r1 : Option Value} {N1 u1 : Nat} {g1 : zh} {a1 : Array Value}
    (hS : va_S (zA G) s.heap H locs) (hrun : va_Run p (zl G) e R s m args below meth c H locs (N - E.1) (u - E.2) (N1 - N) (u1 - u) (F0 m pc lsA st0) (st.map (zv G)) (zQc G r1 N1 g1 a1) (zA G)) (h1 : E.1 ≤ N) (h2 : E.2 ≤ u) (hle : N ≤ N1 ∧ u ≤ u1)
    (kk : ∀ (H1 : Heap) (locs1 : List Loc), zRel G N1 g1 H1 → va_S (zA G) s.heap H1 locs1 → W p (zl G) e R s m args below meth c H1 locs1 (N1 - E.1) (u1 - E.2) Q (F0 m (pc + 3) lsA ((r1.toList ++ st).map (zv G)))) : W p (zl G) e R s m args below meth c H locs (N - E.1) (u - E.2) Q (F0 m pc lsA st0) := by
  intro T hT X
  obtain ⟨v, st₀, t, T', L, h0, X', hL, e1, e2, ⟨hv, hRel, hz, hk⟩, stp⟩ := hrun T hT X
  have hv1 : v = r1.map (zv G) := Outcome.returned.inj hv
  subst hv1
  rw [h0] at hz hk
  have e3 : N - E.1 + (N1 - N) = N1 - E.1 := by omega
  have e4 : u - E.2 + (u1 - u) = u1 - E.2 := by omega
  rw [e3, e4] at X'
  obtain ⟨t2, b1, b2⟩ := kk T'.heap (locs ++ L) (by rw [e1]; exact hRel) ⟨Nat.le_trans hS.1 (by rw [e1]; exact hz), fun q q1 q2 => by rw [e1, hk q (Nat.lt_of_lt_of_le q1 hS.1) q2]; exact hS.2.1 q q1 q2, fun q hq => by
      rcases List.mem_append.mp hq with h | h
      · exact hS.2.2 q h
      · exact hL q h⟩ T' rfl X'
  refine ⟨t2, stp t2 ?_, b2⟩
  have e5 : (r1.toList ++ st).map (zv G) = (r1.map (zv G)).toList ++ st.map (zv G) := by cases r1 <;> simp
  rw [e5] at b1
  exact b1
def zfit (y y1 : zY) : Bool := Nat.ble (y1.2.2.2.2.1 + 1) y.2.2.2.2.1 && Nat.ble (8 + (y1.2.2.1 + 11) + y1.2.2.2.2.2) y.2.2.2.2.2
theorem zfit_s {y1 : zY} (h : zfit y y1 = true) : y1.2.2.2.2.1 + 1 ≤ y.2.2.2.2.1 ∧ 8 + (y1.2.2.1 + 11) + y1.2.2.2.2.2 ≤ y.2.2.2.2.2 := by
  rw [zfit, Bool.and_eq_true] at h
  exact ⟨Nat.le_of_ble_eq_true h.1, Nat.le_of_ble_eq_true h.2⟩
theorem z_callV {y1 : zY} {idx n a ci : Nat} {as : List Value} {fs : List Value} {st0 : List Value} {r1 : Option Value} {N1 u1 : Nat} {g1 : zh} (hd : zat y pc 3 pc2 (.invokevirtual idx)) (hL : Cond.methodLink y.1.cls idx y1.1 ∈ zT) (hm : zmV y1 n) (hfit : zfit y y1 = true) (hc : zC G y1 (.ref a :: as) N u g r1 N1 u1 g1) (ha : g a = zO ci fs) (hci : (zcls[ci]?).map (fun q => q.1) = some y1.1.cls) (hn : as.length = n) (hst : st0 = as.reverse ++ .ref a :: st) (hcat : (st.map fun v => v.category).sum ≤ 8) (hk1 : a ≠ 1000)
    (k : zR G y E pc2 ls (r1.toList ++ st) N1 u1 g1 r N' u' g') : zR G y E pc ls st0 N u g r N' u' g' := by
  obtain ⟨hd, rfl⟩ := hd
  subst hst
  have hle := k.le
  unfold zR
  refine ⟨⟨by have := hc.1; omega, by have := hc.1; omega⟩, fun p e s m args below meth c H locs Q lsA C h1 h2 hR hl hS hF => ?_⟩
  have hts := C.2.2.2.2.1
  have hK := C.2.2.2.2.2.1
  obtain ⟨q, hq, hq1⟩ : ∃ q, zcls[ci]? = some q ∧ q.1 = y1.1.cls := by
    cases h : zcls[ci]? with
    | none => rw [h] at hci; simp at hci
    | some q => rw [h] at hci; exact ⟨q, rfl, by simpa using hci⟩
  have he := hR.get ha (zO_nd hq)
  obtain ⟨⟨w1, w2, w3, w4, w5⟩, w6, w7⟩ := hm
  have hrecv := va_recv hK hR.1 hq he
  rw [hq1] at hrecv
  have hGI : GoodIn zT (wsV y.1.cls idx y1.1.cls y1.1 (zwd y1)) := zGoodIn (fun w hw => by
    rcases List.mem_append.mp hw with h | h
    · simp only [List.mem_cons, List.not_mem_nil, or_false] at h
      rcases h with rfl | rfl | rfl | rfl
      · exact hL
      · exact w6
      · exact w7
      · exact w2
    · exact zwd_in w1 w h)
  have cw : CallW (zrm y E N' u') s args y.1.cls y1.1.cls idx y1.1 y1.2.1 y1.2.2.1 y1.2.2.2.1 (zwd y1) (zrm y1 (N, u) N1 u1) (N1 - N) (u1 - u) n := cwV n hts hGI rfl rfl rfl ⟨rfl, w3, w4, w5⟩ (zfit_s hfit)
  refine z_after (st := st) hS (va_runV (As := as.map (zv G)) (C := y1.1.cls) ⟨C.1, C.2.1, C.2.2.1, C.2.2.2.1, hts⟩ hc.2 cw ⟨zPc_blind, hrecv, fun U hU hW => ⟨by rw [List.map_cons, zref hk1], by rw [hU]; exact hR, va_K.moved hW.alike hK, by rw [hU]; exact Nat.le_trans C.2.2.2.2.2.2.1 hS.1, fun w hw => zNest_warm hW w hw (C.2.2.2.2.2.2.2.2.2 w hw)⟩⟩ rfl (by simpa using hn) hl.1 (by
    show List.map (zv G) _ = _
    rw [List.map_append, List.map_reverse, List.map_cons, zref hk1]) (lv_room (by rw [z_catmap]; exact hcat)) hd ⟨by show _ ≤ N' - E.1; have := hc.1; omega, by show _ ≤ u' - E.2; have := hc.1; omega⟩) h1 h2 hc.1 (fun H1 locs1 hR1 hS1 => k.run C (by have := hc.1; omega) (by have := hc.1; omega) hR1 hl hS1 hF)
theorem z_callS {y1 : zY} {idx n : Nat} {as : List Value} {st0 : List Value} {r1 : Option Value} {N1 u1 : Nat} {g1 : zh} (hd : zat y pc 3 pc2 (.invokestatic idx)) (hL : Cond.methodLink y.1.cls idx y1.1 ∈ zT) (hm : zmS y1 n) (hfit : zfit y y1 = true) (hc : zC G y1 as N u g r1 N1 u1 g1) (hn : as.length = n) (hst : st0 = as.reverse ++ st) (hcat : (st.map fun v => v.category).sum ≤ 8)
    (k : zR G y E pc2 ls (r1.toList ++ st) N1 u1 g1 r N' u' g') : zR G y E pc ls st0 N u g r N' u' g' := by
  obtain ⟨hd, rfl⟩ := hd
  subst hst
  have hle := k.le
  unfold zR
  refine ⟨⟨by have := hc.1; omega, by have := hc.1; omega⟩, fun p e s m args below meth c H locs Q lsA C h1 h2 hR hl hS hF => ?_⟩
  have hts := C.2.2.2.2.1
  have hK := C.2.2.2.2.2.1
  obtain ⟨⟨w1, w2, w3, w4, w5⟩, w6⟩ := hm
  have cw : CallB (zrm y E N' u') s args y.1.cls idx y1.1 y1.2.1 y1.2.2.1 y1.2.2.2.1 (zwd y1) (zrm y1 (N, u) N1 u1) (N1 - N) (u1 - u) n ∧ (Cond.static y1.1).before args s = true := ⟨callB_of n hts (zGoodIn (zwd_in w1)) rfl rfl rfl (hts _ w2) (hts _ hL) ⟨w3, w4, w5⟩ (zfit_s hfit), hts _ w6⟩
  refine z_after (st := st) hS (va_runS (As := as.map (zv G)) ⟨C.1, C.2.1, C.2.2.1, C.2.2.2.1, hts⟩ hc.2 cw ⟨zPc_blind, fun U hU hW => ⟨rfl, by rw [hU]; exact hR, va_K.moved hW.alike hK, by rw [hU]; exact Nat.le_trans C.2.2.2.2.2.2.1 hS.1, fun w hw => zNest_warm hW w hw (C.2.2.2.2.2.2.2.2.2 w hw)⟩⟩ rfl (by simpa using hn) hl.1 (by
    show List.map (zv G) _ = _
    rw [List.map_append, List.map_reverse]) (lv_room (by rw [z_catmap]; exact hcat)) hd ⟨by show _ ≤ N' - E.1; have := hc.1; omega, by show _ ≤ u' - E.2; have := hc.1; omega⟩) h1 h2 hc.1 (fun H1 locs1 hR1 hS1 => k.run C (by have := hc.1; omega) (by have := hc.1; omega) hR1 hl hS1 hF)
theorem z_callI {y1 : zY} {idx n a : Nat} {as : List Value} {st0 : List Value} {N1 u1 : Nat} {g1 : zh} (hd : zat y pc 3 pc2 (.invokespecial idx)) (hL : Cond.methodLink y.1.cls idx y1.1 ∈ zT) (hm : zmI y1 n) (hret : y1.2.2.2.1 = none) (hfit : zfit y y1 = true) (hc : zC G y1 (.ref a :: as) N u g none N1 u1 g1) (hn : as.length = n) (hst : st0 = as.reverse ++ .ref a :: st) (hcat : (st.map fun v => v.category).sum ≤ 8) (hk1 : a ≠ 1000)
    (k : zR G y E pc2 ls st N1 u1 g1 r N' u' g') : zR G y E pc ls st0 N u g r N' u' g' := by
  obtain ⟨hd, rfl⟩ := hd
  subst hst
  have hle := k.le
  unfold zR
  refine ⟨⟨by have := hc.1; omega, by have := hc.1; omega⟩, fun p e s m args below meth c H locs Q lsA C h1 h2 hR hl hS hF => ?_⟩
  have hts := C.2.2.2.2.1
  have hK := C.2.2.2.2.2.1
  obtain ⟨⟨w1, w2, w3, w4, w5⟩, w6, w7⟩ := hm
  have hw1 := w1
  rw [hret] at w1
  have cw : CallB (zrm y E N' u') s args y.1.cls idx y1.1 y1.2.1 y1.2.2.1 none (zwd y1) (zrm y1 (N, u) N1 u1) (N1 - N) (u1 - u) n ∧ y1.1.name = "<init>" ∧ (Cond.instanceMethod y1.1).before args s = true := ⟨callB_of n hts (zGoodIn (zwd_in hw1)) (by show zwd y1 = _; rw [zwd, hret]) rfl rfl (hts _ w2) (hts _ hL) ⟨w3, w4, w5⟩ (zfit_s hfit), w6, hts _ w7⟩
  refine z_after (r1 := none) (st := st) hS (va_runI (As := as.map (zv G)) ⟨C.1, C.2.1, C.2.2.1, C.2.2.2.1, hts⟩ hc.2 cw ⟨zPc_blind, fun U hU hW => ⟨by rw [List.map_cons, zref hk1], by rw [hU]; exact hR, va_K.moved hW.alike hK, by rw [hU]; exact Nat.le_trans C.2.2.2.2.2.2.1 hS.1, fun w hw => zNest_warm hW w hw (C.2.2.2.2.2.2.2.2.2 w hw)⟩⟩ rfl (by simpa using hn) hl.1 (by
    show List.map (zv G) _ = _
    rw [List.map_append, List.map_reverse, List.map_cons, zref hk1]) (lv_room (by rw [z_catmap]; exact hcat)) hd ⟨by show _ ≤ N' - E.1; have := hc.1; omega, by show _ ≤ u' - E.2; have := hc.1; omega⟩) h1 h2 hc.1 (fun H1 locs1 hR1 hS1 => k.run C (by have := hc.1; omega) (by have := hc.1; omega) hR1 hl hS1 hF)
theorem z_callN {y1 : zY} {idx n a : Nat} {host : String} {as : List Value} {st0 : List Value} {N1 u1 : Nat} {g1 : zh} (hd : zat y pc 3 pc2 (.invokespecial idx)) (hL : Cond.methodLinkNest y.1.cls idx y1.1 host ∈ zNest) (hm : zmI y1 n) (hret : y1.2.2.2.1 = none) (hfit : zfit y y1 = true) (hc : zC G y1 (.ref a :: as) N u g none N1 u1 g1) (hn : as.length = n) (hst : st0 = as.reverse ++ .ref a :: st) (hcat : (st.map fun v => v.category).sum ≤ 8) (hk1 : a ≠ 1000)
    (k : zR G y E pc2 ls st N1 u1 g1 r N' u' g') : zR G y E pc ls st0 N u g r N' u' g' := by
  obtain ⟨hd, rfl⟩ := hd
  subst hst
  have hle := k.le
  unfold zR
  refine ⟨⟨by have := hc.1; omega, by have := hc.1; omega⟩, fun p e s m args below meth c H locs Q lsA C h1 h2 hR hl hS hF => ?_⟩
  have hts := C.2.2.2.2.1
  have hK := C.2.2.2.2.2.1
  obtain ⟨⟨w1, w2, w3, w4, w5⟩, w6, w7⟩ := hm
  have cw : va_CN (zrm y E N' u') s args y.1.cls idx y1.1 host y1.2.1 y1.2.2.1 none (zwd y1) (zrm y1 (N, u) N1 u1) (N1 - N) (u1 - u) n ∧ y1.1.name = "<init>" ∧ (Cond.instanceMethod y1.1).before args s = true := ⟨va_cnB n hts (zGoodIn (zwd_in w1)) (by show zwd y1 = _; rw [zwd, hret]) rfl rfl (C.2.2.2.2.2.2.2.2.2 _ hL) (hts _ w2) ⟨w3, w4, w5⟩ (zfit_s hfit), w6, hts _ w7⟩
  refine z_after (r1 := none) (st := st) hS (va_runIN (As := as.map (zv G)) ⟨C.1, C.2.1, C.2.2.1, C.2.2.2.1, hts⟩ hc.2 cw ⟨zPc_blind, fun U hU hW => ⟨by rw [List.map_cons, zref hk1], by rw [hU]; exact hR, va_K.moved hW.alike hK, by rw [hU]; exact Nat.le_trans C.2.2.2.2.2.2.1 hS.1, fun w hw => zNest_warm hW w hw (C.2.2.2.2.2.2.2.2.2 w hw)⟩⟩ rfl (by simpa using hn) hl.1 (by
    show List.map (zv G) _ = _
    rw [List.map_append, List.map_reverse, List.map_cons, zref hk1]) (lv_room (by rw [z_catmap]; exact hcat)) hd ⟨by show _ ≤ N' - E.1; have := hc.1; omega, by show _ ≤ u' - E.2; have := hc.1; omega⟩) h1 h2 hc.1 (fun H1 locs1 hR1 hS1 => k.run C (by have := hc.1; omega) (by have := hc.1; omega) hR1 hl hS1 hF)
theorem z_top {x v : Int32} (h : x = v) (k : zR G y E pc ls (.int v :: st) N u g r N' u' g') : zR G y E pc ls (.int x :: st) N u g r N' u' g' := h ▸ k
theorem z_topl {x v : Int64} (h : x = v) (k : zR G y E pc ls (.long v :: st) N u g r N' u' g') : zR G y E pc ls (.long x :: st) N u g r N' u' g' := h ▸ k
theorem z_top2 {x v : Int32} {w : Value} (h : x = v) (k : zR G y E pc ls (w :: .int v :: st) N u g r N' u' g') : zR G y E pc ls (w :: .int x :: st) N u g r N' u' g' := h ▸ k
theorem z_heap {g2 : zh} (h : g = g2) (k : zR G y E pc ls st N u g2 r N' u' g') : zR G y E pc ls st N u g r N' u' g' := h ▸ k
theorem z_same {a n : Nat} {f f2 : Nat → Int32} (he : ∀ j, j < n → f j = f2 j) (k : zR G y E pc ls st N u (zup g a (zI n f2)) r N' u' g') : zR G y E pc ls st N u (zup g a (zI n f)) r N' u' g' := by
  unfold zR
  exact ⟨k.le, fun p e s m args below meth c H locs Q lsA C h1 h2 hR hl hS hF => k.run C h1 h2 (hR.same he) hl hS hF⟩
end ZRULES
/-! numbers on the stack -/
theorem nix_add {a b : Nat} : nI a + nI b = nI (a + b) := nI_add a b
theorem nix_mul {a b : Nat} : nI a * nI b = nI (a * b) := pk_mul a b
theorem nix_sub {a b : Nat} (h : b ≤ a) : nI a - nI b = nI (a - b) := pk_sub h
theorem nix_div {a d : Nat} (ha : a < 2 ^ 31) (h0 : 0 < d) (hd : d < 2 ^ 31) : nI a / nI d = nI (a / d) := pk_div ha h0 hd
theorem nix_rem {a d : Nat} (ha : a < 2 ^ 31) (h0 : 0 < d) (hd : d < 2 ^ 31) : nI a - nI a / nI d * nI d = nI (a % d) := pk_rem ha h0 hd
theorem nix_inc {a : Nat} : nI a + Int32.ofInt 1 = nI (a + 1) := nI_1 a
theorem nix_dec {a : Nat} (h : 1 ≤ a) : nI a + Int32.ofInt (-1) = nI (a - 1) := by
  obtain ⟨b, rfl⟩ : ∃ b, a = b + 1 := ⟨a - 1, by omega⟩
  exact pk_m1 b
theorem nix_ne {a : Nat} (h : 0 < a) (h2 : a < 2 ^ 31) : ¬ nI a = 0 := nI_ne0 h h2
def zbo (b : Bool) : Int32 := if b then 1 else 0
theorem zbo_n (b : Bool) : narrow .boolean (.int (zbo b)) = .int (zbo b) := by cases b <;> decide +kernel
theorem zbo_0 {b : Bool} (h : zbo b = 0) : b = false := by cases b with
  | false => rfl
  | true => exact absurd h (by decide +kernel)
theorem zbo_1 {b : Bool} (h : ¬ zbo b = 0) : b = true := by cases b with
  | true => rfl
  | false => exact absurd rfl h
theorem zbo_t {b : Bool} (h : b = true) : nI 1 = zbo b := by subst h; decide +kernel
theorem zbo_f {b : Bool} (h : b = false) : nI 0 = zbo b := by subst h; decide +kernel
abbrev zK (G : zG) (y : zY) (as : List Value) (g : zh) (r : Option Value) (g' : zh) : Prop := zC G y as 71 2425 g r 71 2425 g'
abbrev zS (G : zG) (y : zY) (pc : Nat) (ls : List (Option Value)) (st : List Value) (g : zh) (r : Option Value) (g' : zh) : Prop := zR G y (71, 2425) pc ls st 71 2425 g r 71 2425 g'
def zls : List Value → List (Option Value)
  | [] => []
  | v :: t => cond (Nat.beq v.category 2) (some v :: none :: zls t) (some v :: zls t)
theorem zls_in : ∀ (as : List Value) (n i : Nat) (v : Value), (zls as)[i]? = some (some v) → (n + i, v) ∈ lv_args n as
  | [], n, i, v, h => by simp [zls] at h
  | a :: t, n, i, v, h => by
    rw [zls] at h
    rcases lv_cat a with hc | hc
    · rw [hc] at h
      have h : (some a :: zls t)[i]? = some (some v) := h
      simp only [lv_args, hc]
      cases i with
      | zero =>
        simp at h
        subst h
        exact List.mem_cons_self
      | succ i =>
        simp at h
        refine List.mem_cons_of_mem _ ?_
        have := zls_in t (n + 1) i v h
        simpa [Nat.add_assoc, Nat.add_comm 1 i] using this
    · rw [hc] at h
      have h : (some a :: none :: zls t)[i]? = some (some v) := h
      simp only [lv_args, hc]
      match i, h with
      | 0, h =>
        simp at h
        subst h
        exact List.mem_cons_self
      | 1, h => simp at h
      | i + 2, h =>
        simp at h
        refine List.mem_cons_of_mem _ ?_
        have := zls_in t (n + 2) i v h
        simpa [Nat.add_assoc, Nat.add_comm 2 i] using this
theorem zls_len (G : zG) : ∀ as : List Value, (lg_sl (as.map (zv G))).length = (zls as).length
  | [] => rfl
  | a :: t => by
    have ih := zls_len G t
    rw [zls, List.map_cons, lg_sl, List.flatMap_cons, List.length_append, zv_cat]
    rw [lg_sl] at ih
    rcases lv_cat a with hc | hc <;> rw [hc] <;> simp [ih, Nat.beq] <;> omega
/-- a contract out of its walk: the arguments, then k unset places -/
theorem zK_of {G : zG} {y : zY} {N u N' u' : Nat} {g g' : zh} {r : Option Value} {as : List Value} {ls : List (Option Value)} (k : Nat) (hy : plainName y.1.cls = true) (hnl : y.1.name ≠ "law") (hro : zro y.2.2.2.1 r) (hlen : (zls as).length ≤ y.2.2.1) (hls : zls as ++ List.replicate k none = ls) (h : zR G y (N, u) 0 ls [] N u g r N' u' g') : zC G y as N u g r N' u' g' := by
  refine zC_of hy hnl hro (by rw [zls_len]; exact hlen) (fun i v hv => ?_) h
  rw [← hls] at hv
  by_cases hi : i < (zls as).length
  · rw [List.getElem?_append_left hi] at hv
    have := zls_in as 0 i v hv
    rwa [Nat.zero_add] at this
  · rw [List.getElem?_append_right (by omega)] at hv
    have := List.mem_of_getElem? hv
    rw [List.mem_replicate] at this
    exact absurd this.2 (by simp)
section ZNUM
variable {G : zG} {y : zY} {E : Nat × Nat} {pc pc2 : Nat} {ls : List (Option Value)} {st : List Value} {N u : Nat} {g : zh} {r : Option Value} {N' u' : Nat} {g' : zh}
theorem zn_eq {a b tgt : Nat} (hd : zbr y pc pc2 tgt (.if_icmp .eq)) (ha : a < 2 ^ 31) (hb : b < 2 ^ 31) (kt : a = b → zR G y E tgt ls st N u g r N' u' g') (kf : ¬ a = b → zR G y E pc2 ls st N u g r N' u' g') : zR G y E pc ls (.int (nI b) :: .int (nI a) :: st) N u g r N' u' g' := z_icmp_eq hd (fun q => kt ((nI_eq ha hb).mp q)) (fun q => kf (fun z => q ((nI_eq ha hb).mpr z)))
theorem zn_ne {a b tgt : Nat} (hd : zbr y pc pc2 tgt (.if_icmp .ne)) (ha : a < 2 ^ 31) (hb : b < 2 ^ 31) (kt : ¬ a = b → zR G y E tgt ls st N u g r N' u' g') (kf : a = b → zR G y E pc2 ls st N u g r N' u' g') : zR G y E pc ls (.int (nI b) :: .int (nI a) :: st) N u g r N' u' g' := z_icmp_ne hd (fun q => kt (fun z => q ((nI_eq ha hb).mpr z))) (fun q => kf ((nI_eq ha hb).mp q))
theorem zn_lt {a b tgt : Nat} (hd : zbr y pc pc2 tgt (.if_icmp .lt)) (ha : a < 2 ^ 31) (hb : b < 2 ^ 31) (kt : a < b → zR G y E tgt ls st N u g r N' u' g') (kf : b ≤ a → zR G y E pc2 ls st N u g r N' u' g') : zR G y E pc ls (.int (nI b) :: .int (nI a) :: st) N u g r N' u' g' := z_icmp_lt hd (fun q => kt ((nI_ltI ha hb).mp q)) (fun q => kf (Nat.not_lt.mp fun z => q ((nI_ltI ha hb).mpr z)))
theorem zn_ge {a b tgt : Nat} (hd : zbr y pc pc2 tgt (.if_icmp .ge)) (ha : a < 2 ^ 31) (hb : b < 2 ^ 31) (kt : b ≤ a → zR G y E tgt ls st N u g r N' u' g') (kf : a < b → zR G y E pc2 ls st N u g r N' u' g') : zR G y E pc ls (.int (nI b) :: .int (nI a) :: st) N u g r N' u' g' := z_icmp_ge hd (fun q => kt ((nI_leI hb ha).mp q)) (fun q => kf (Nat.not_le.mp fun z => q ((nI_leI hb ha).mpr z)))
theorem zn_gt {a b tgt : Nat} (hd : zbr y pc pc2 tgt (.if_icmp .gt)) (ha : a < 2 ^ 31) (hb : b < 2 ^ 31) (kt : b < a → zR G y E tgt ls st N u g r N' u' g') (kf : a ≤ b → zR G y E pc2 ls st N u g r N' u' g') : zR G y E pc ls (.int (nI b) :: .int (nI a) :: st) N u g r N' u' g' := z_icmp_gt hd (fun q => kt ((nI_ltI hb ha).mp q)) (fun q => kf (Nat.not_lt.mp fun z => q ((nI_ltI hb ha).mpr z)))
theorem zn_le {a b tgt : Nat} (hd : zbr y pc pc2 tgt (.if_icmp .le)) (ha : a < 2 ^ 31) (hb : b < 2 ^ 31) (kt : a ≤ b → zR G y E tgt ls st N u g r N' u' g') (kf : b < a → zR G y E pc2 ls st N u g r N' u' g') : zR G y E pc ls (.int (nI b) :: .int (nI a) :: st) N u g r N' u' g' := z_icmp_le hd (fun q => kt ((nI_leI ha hb).mp q)) (fun q => kf (Nat.not_le.mp fun z => q ((nI_leI ha hb).mpr z)))
theorem zn_if_eq {a tgt : Nat} (hd : zbr y pc pc2 tgt (.ifCond .eq)) (ha : a < 2 ^ 31) (kt : a = 0 → zR G y E tgt ls st N u g r N' u' g') (kf : ¬ a = 0 → zR G y E pc2 ls st N u g r N' u' g') : zR G y E pc ls (.int (nI a) :: st) N u g r N' u' g' := z_if_eq hd (fun q => kt ((nI_eq ha (by decide)).mp (q.trans nI_0.symm))) (fun q => kf (fun z => q (by rw [z, nI_0])))
theorem zn_if_ne {a tgt : Nat} (hd : zbr y pc pc2 tgt (.ifCond .ne)) (ha : a < 2 ^ 31) (kt : ¬ a = 0 → zR G y E tgt ls st N u g r N' u' g') (kf : a = 0 → zR G y E pc2 ls st N u g r N' u' g') : zR G y E pc ls (.int (nI a) :: st) N u g r N' u' g' := z_if_ne hd (fun q => kt (fun z => q (by rw [z, nI_0]))) (fun q => kf ((nI_eq ha (by decide)).mp (q.trans nI_0.symm)))
theorem zn_if_lt {a tgt : Nat} (hd : zbr y pc pc2 tgt (.ifCond .lt)) (ha : a < 2 ^ 31) (kf : zR G y E pc2 ls st N u g r N' u' g') : zR G y E pc ls (.int (nI a) :: st) N u g r N' u' g' := z_if_lt hd (fun q => absurd q (nI_pos ha)) (fun q => kf)
theorem zn_if_ge {a tgt : Nat} (hd : zbr y pc pc2 tgt (.ifCond .ge)) (ha : a < 2 ^ 31) (kt : zR G y E tgt ls st N u g r N' u' g') : zR G y E pc ls (.int (nI a) :: st) N u g r N' u' g' := z_if_ge hd (fun q => kt) (fun q => absurd (nI_pos' ha) q)
theorem zn_if_le {a tgt : Nat} (hd : zbr y pc pc2 tgt (.ifCond .le)) (ha : a < 2 ^ 31) (kt : a = 0 → zR G y E tgt ls st N u g r N' u' g') (kf : 0 < a → zR G y E pc2 ls st N u g r N' u' g') : zR G y E pc ls (.int (nI a) :: st) N u g r N' u' g' := z_if_le hd (fun q => kt ((Nat.eq_zero_or_pos a).resolve_right (fun z => nI_nle z ha q))) (fun q => kf (Nat.pos_of_ne_zero (fun z => q (by rw [z, nI_0]; exact Int32.le_refl 0))))
theorem zn_if_gt {a tgt : Nat} (hd : zbr y pc pc2 tgt (.ifCond .gt)) (ha : a < 2 ^ 31) (kt : 0 < a → zR G y E tgt ls st N u g r N' u' g') (kf : a = 0 → zR G y E pc2 ls st N u g r N' u' g') : zR G y E pc ls (.int (nI a) :: st) N u g r N' u' g' := z_if_gt hd (fun q => kt (Nat.pos_of_ne_zero (fun z => by rw [z, nI_0] at q; exact absurd q (by decide)))) (fun q => kf ((Nat.eq_zero_or_pos a).resolve_right (fun z => q (by rw [← nI_0]; exact nI_lt z ha))))
theorem zb_if_eq {b : Bool} {tgt : Nat} (hd : zbr y pc pc2 tgt (.ifCond .eq)) (kt : b = false → zR G y E tgt ls st N u g r N' u' g') (kf : b = true → zR G y E pc2 ls st N u g r N' u' g') : zR G y E pc ls (.int (zbo b) :: st) N u g r N' u' g' := z_if_eq hd (fun q => kt (zbo_0 q)) (fun q => kf (zbo_1 q))
theorem zb_if_ne {b : Bool} {tgt : Nat} (hd : zbr y pc pc2 tgt (.ifCond .ne)) (kt : b = true → zR G y E tgt ls st N u g r N' u' g') (kf : b = false → zR G y E pc2 ls st N u g r N' u' g') : zR G y E pc ls (.int (zbo b) :: st) N u g r N' u' g' := z_if_ne hd (fun q => kt (zbo_1 q)) (fun q => kf (zbo_0 q))
theorem z_cvi {y1 : zY} {idx n a ci : Nat} {as : List Value} {fs : List Value} {st0 : List Value} {v : Int32} {N1 u1 : Nat} {g1 : zh} (hd : zat y pc 3 pc2 (.invokevirtual idx)) (hL : Cond.methodLink y.1.cls idx y1.1 ∈ zT) (hm : zmV y1 n) (hfit : zfit y y1 = true) (hc : zC G y1 (.ref a :: as) N u g (some (.int v)) N1 u1 g1) (ha : g a = zO ci fs) (hci : (zcls[ci]?).map (fun q => q.1) = some y1.1.cls) (hn : as.length = n) (hst : st0 = as.reverse ++ .ref a :: st) (hcat : (st.map fun v => v.category).sum ≤ 8) (hk1 : a ≠ 1000) (k : zR G y E pc2 ls (.int v :: st) N1 u1 g1 r N' u' g') : zR G y E pc ls st0 N u g r N' u' g' := z_callV hd hL hm hfit hc ha hci hn hst hcat hk1 k
theorem z_cvv {y1 : zY} {idx n a ci : Nat} {as : List Value} {fs : List Value} {st0 : List Value} {N1 u1 : Nat} {g1 : zh} (hd : zat y pc 3 pc2 (.invokevirtual idx)) (hL : Cond.methodLink y.1.cls idx y1.1 ∈ zT) (hm : zmV y1 n) (hfit : zfit y y1 = true) (hc : zC G y1 (.ref a :: as) N u g none N1 u1 g1) (ha : g a = zO ci fs) (hci : (zcls[ci]?).map (fun q => q.1) = some y1.1.cls) (hn : as.length = n) (hst : st0 = as.reverse ++ .ref a :: st) (hcat : (st.map fun v => v.category).sum ≤ 8) (hk1 : a ≠ 1000) (k : zR G y E pc2 ls st N1 u1 g1 r N' u' g') : zR G y E pc ls st0 N u g r N' u' g' := z_callV hd hL hm hfit hc ha hci hn hst hcat hk1 k
theorem z_cvl {y1 : zY} {idx n a ci : Nat} {as : List Value} {fs : List Value} {st0 : List Value} {v : Int64} {N1 u1 : Nat} {g1 : zh} (hd : zat y pc 3 pc2 (.invokevirtual idx)) (hL : Cond.methodLink y.1.cls idx y1.1 ∈ zT) (hm : zmV y1 n) (hfit : zfit y y1 = true) (hc : zC G y1 (.ref a :: as) N u g (some (.long v)) N1 u1 g1) (ha : g a = zO ci fs) (hci : (zcls[ci]?).map (fun q => q.1) = some y1.1.cls) (hn : as.length = n) (hst : st0 = as.reverse ++ .ref a :: st) (hcat : (st.map fun v => v.category).sum ≤ 8) (hk1 : a ≠ 1000) (k : zR G y E pc2 ls (.long v :: st) N1 u1 g1 r N' u' g') : zR G y E pc ls st0 N u g r N' u' g' := z_callV hd hL hm hfit hc ha hci hn hst hcat hk1 k
theorem z_csi {y1 : zY} {idx n : Nat} {as : List Value} {st0 : List Value} {v : Int32} {N1 u1 : Nat} {g1 : zh} (hd : zat y pc 3 pc2 (.invokestatic idx)) (hL : Cond.methodLink y.1.cls idx y1.1 ∈ zT) (hm : zmS y1 n) (hfit : zfit y y1 = true) (hc : zC G y1 as N u g (some (.int v)) N1 u1 g1) (hn : as.length = n) (hst : st0 = as.reverse ++ st) (hcat : (st.map fun v => v.category).sum ≤ 8) (k : zR G y E pc2 ls (.int v :: st) N1 u1 g1 r N' u' g') : zR G y E pc ls st0 N u g r N' u' g' := z_callS hd hL hm hfit hc hn hst hcat k
theorem z_csv {y1 : zY} {idx n : Nat} {as : List Value} {st0 : List Value} {N1 u1 : Nat} {g1 : zh} (hd : zat y pc 3 pc2 (.invokestatic idx)) (hL : Cond.methodLink y.1.cls idx y1.1 ∈ zT) (hm : zmS y1 n) (hfit : zfit y y1 = true) (hc : zC G y1 as N u g none N1 u1 g1) (hn : as.length = n) (hst : st0 = as.reverse ++ st) (hcat : (st.map fun v => v.category).sum ≤ 8) (k : zR G y E pc2 ls st N1 u1 g1 r N' u' g') : zR G y E pc ls st0 N u g r N' u' g' := z_callS hd hL hm hfit hc hn hst hcat k
theorem z_csl {y1 : zY} {idx n : Nat} {as : List Value} {st0 : List Value} {v : Int64} {N1 u1 : Nat} {g1 : zh} (hd : zat y pc 3 pc2 (.invokestatic idx)) (hL : Cond.methodLink y.1.cls idx y1.1 ∈ zT) (hm : zmS y1 n) (hfit : zfit y y1 = true) (hc : zC G y1 as N u g (some (.long v)) N1 u1 g1) (hn : as.length = n) (hst : st0 = as.reverse ++ st) (hcat : (st.map fun v => v.category).sum ≤ 8) (k : zR G y E pc2 ls (.long v :: st) N1 u1 g1 r N' u' g') : zR G y E pc ls st0 N u g r N' u' g' := z_callS hd hL hm hfit hc hn hst hcat k
end ZNUM
theorem zk_m1 : Int32.ofInt (-1) = (-1) := by decide +kernel
theorem zk_0 : Int32.ofInt (0) = nI 0 := by decide +kernel
theorem zk_1 : Int32.ofInt (1) = nI 1 := by decide +kernel
theorem zk_2 : Int32.ofInt (2) = nI 2 := by decide +kernel
theorem zk_3 : Int32.ofInt (3) = nI 3 := by decide +kernel
theorem zk_4 : Int32.ofInt (4) = nI 4 := by decide +kernel
theorem zk_5 : Int32.ofInt (5) = nI 5 := by decide +kernel
theorem zb_m104 : (Int8.ofInt (-104)).toInt32 = (-104) := by decide +kernel
theorem zb_m103 : (Int8.ofInt (-103)).toInt32 = (-103) := by decide +kernel
theorem zb_m102 : (Int8.ofInt (-102)).toInt32 = (-102) := by decide +kernel
theorem zb_m101 : (Int8.ofInt (-101)).toInt32 = (-101) := by decide +kernel
theorem zb_6 : (Int8.ofInt (6)).toInt32 = nI 6 := by decide +kernel
theorem zb_9 : (Int8.ofInt (9)).toInt32 = nI 9 := by decide +kernel
theorem zb_10 : (Int8.ofInt (10)).toInt32 = nI 10 := by decide +kernel
theorem zb_11 : (Int8.ofInt (11)).toInt32 = nI 11 := by decide +kernel
theorem zb_12 : (Int8.ofInt (12)).toInt32 = nI 12 := by decide +kernel
theorem zb_13 : (Int8.ofInt (13)).toInt32 = nI 13 := by decide +kernel
theorem zb_14 : (Int8.ofInt (14)).toInt32 = nI 14 := by decide +kernel
theorem zb_16 : (Int8.ofInt (16)).toInt32 = nI 16 := by decide +kernel
theorem zb_18 : (Int8.ofInt (18)).toInt32 = nI 18 := by decide +kernel
theorem zb_20 : (Int8.ofInt (20)).toInt32 = nI 20 := by decide +kernel
theorem zb_27 : (Int8.ofInt (27)).toInt32 = nI 27 := by decide +kernel
theorem zb_28 : (Int8.ofInt (28)).toInt32 = nI 28 := by decide +kernel
theorem zb_30 : (Int8.ofInt (30)).toInt32 = nI 30 := by decide +kernel
theorem zb_31 : (Int8.ofInt (31)).toInt32 = nI 31 := by decide +kernel
theorem zb_38 : (Int8.ofInt (38)).toInt32 = nI 38 := by decide +kernel
theorem zb_44 : (Int8.ofInt (44)).toInt32 = nI 44 := by decide +kernel
theorem zb_48 : (Int8.ofInt (48)).toInt32 = nI 48 := by decide +kernel
theorem zb_49 : (Int8.ofInt (49)).toInt32 = nI 49 := by decide +kernel
theorem zb_57 : (Int8.ofInt (57)).toInt32 = nI 57 := by decide +kernel
theorem zb_59 : (Int8.ofInt (59)).toInt32 = nI 59 := by decide +kernel
theorem zb_60 : (Int8.ofInt (60)).toInt32 = nI 60 := by decide +kernel
theorem zb_81 : (Int8.ofInt (81)).toInt32 = nI 81 := by decide +kernel
theorem zb_90 : (Int8.ofInt (90)).toInt32 = nI 90 := by decide +kernel
theorem zb_100 : (Int8.ofInt (100)).toInt32 = nI 100 := by decide +kernel
theorem zb_126 : (Int8.ofInt (126)).toInt32 = nI 126 := by decide +kernel
theorem zs_512 : (Int16.ofInt (512)).toInt32 = nI 512 := by decide +kernel
theorem zs_999 : (Int16.ofInt (999)).toInt32 = nI 999 := by decide +kernel
theorem zs_9000 : (Int16.ofInt (9000)).toInt32 = nI 9000 := by decide +kernel
end
section
abbrev zs : Type := (Nat → Nat) × (Nat → Int32) × (Nat → Nat → Nat) × (Nat → Nat → Int32)
def fU {α : Type} (f : Nat → α) (k : Nat) (v : α) : Nat → α := fun j => cond (Nat.beq j k) v (f j)
theorem fU_eq {α : Type} (f : Nat → α) (k : Nat) (v : α) (j : Nat) : fU f k v j = if j = k then v else f j := by
  unfold fU
  cases h : Nat.beq j k with
  | true => rw [if_pos (Nat.eq_of_beq_eq_true h)]; rfl
  | false => rw [if_neg (Nat.ne_of_beq_eq_false h)]; rfl
def rN (s : zs) (k : Nat) : Nat := s.1 k
def rI (s : zs) (k : Nat) : Int32 := s.2.1 k
def rA (s : zs) (k : Nat) : Nat → Nat := s.2.2.1 k
def rF (s : zs) (k : Nat) : Nat → Int32 := s.2.2.2 k
def uN (s : zs) (k : Nat) (v : Nat) : zs := (fU s.1 k v, s.2)
def uI (s : zs) (k : Nat) (v : Int32) : zs := (s.1, fU s.2.1 k v, s.2.2)
def uA (s : zs) (k : Nat) (f : Nat → Nat) : zs := (s.1, s.2.1, fU s.2.2.1 k f, s.2.2.2)
def uF (s : zs) (k : Nat) (f : Nat → Int32) : zs := (s.1, s.2.1, s.2.2.1, fU s.2.2.2 k f)
theorem rN_uN (s : zs) (k j : Nat) (v : Nat) : rN (uN s k v) j = if j = k then v else rN s j := fU_eq _ _ _ _
theorem rN_uI (s : zs) (k j : Nat) (v : Int32) : rN (uI s k v) j = rN s j := rfl
theorem rN_uA (s : zs) (k j : Nat) (v : Nat → Nat) : rN (uA s k v) j = rN s j := rfl
theorem rN_uF (s : zs) (k j : Nat) (v : Nat → Int32) : rN (uF s k v) j = rN s j := rfl
theorem rI_uN (s : zs) (k j : Nat) (v : Nat) : rI (uN s k v) j = rI s j := rfl
theorem rI_uI (s : zs) (k j : Nat) (v : Int32) : rI (uI s k v) j = if j = k then v else rI s j := fU_eq _ _ _ _
theorem rI_uA (s : zs) (k j : Nat) (v : Nat → Nat) : rI (uA s k v) j = rI s j := rfl
theorem rI_uF (s : zs) (k j : Nat) (v : Nat → Int32) : rI (uF s k v) j = rI s j := rfl
theorem rA_uN (s : zs) (k j : Nat) (v : Nat) : rA (uN s k v) j = rA s j := rfl
theorem rA_uI (s : zs) (k j : Nat) (v : Int32) : rA (uI s k v) j = rA s j := rfl
theorem rA_uA (s : zs) (k j : Nat) (v : Nat → Nat) : rA (uA s k v) j = if j = k then v else rA s j := fU_eq _ _ _ _
theorem rA_uF (s : zs) (k j : Nat) (v : Nat → Int32) : rA (uF s k v) j = rA s j := rfl
theorem rF_uN (s : zs) (k j : Nat) (v : Nat) : rF (uN s k v) j = rF s j := rfl
theorem rF_uI (s : zs) (k j : Nat) (v : Int32) : rF (uI s k v) j = rF s j := rfl
theorem rF_uA (s : zs) (k j : Nat) (v : Nat → Nat) : rF (uA s k v) j = rF s j := rfl
theorem rF_uF (s : zs) (k j : Nat) (v : Nat → Int32) : rF (uF s k v) j = if j = k then v else rF s j := fU_eq _ _ _ _
def updN (f : Nat → Nat) (k x : Nat) : Nat → Nat := fun j => if j = k then x else f j
theorem updN_s (f : Nat → Nat) (k x : Nat) : updN f k x k = x := by simp [updN]
theorem updN_n (f : Nat → Nat) {k j : Nat} (x : Nat) (h : j ≠ k) : updN f k x j = f j := by simp [updN, h]
theorem upd_nI (f : Nat → Nat) (k x : Nat) : upd (fun j => nI (f j)) k (nI x) = fun j => nI (updN f k x j) := by
  funext j
  unfold upd updN
  split <;> rfl
/-! a run of cells laid over a heap -/
def sL (g : zh) (a : Nat) (cs : List zc) : zh := fun j => if a ≤ j then (match cs[j - a]? with
  | some c => c
  | none => g j) else g j
theorem sL_get {g : zh} {a k : Nat} {cs : List zc} {c : zc} (h : cs[k]? = some c) : sL g a cs (a + k) = c := by
  simp [sL, h]
theorem sL_out {g : zh} {a j : Nat} {cs : List zc} (h : j < a ∨ a + cs.length ≤ j) : sL g a cs j = g j := by
  unfold sL
  split
  · rw [List.getElem?_eq_none (by omega)]
  · rfl
theorem sL_set {g : zh} {a k : Nat} {cs cs2 : List zc} {c : zc} (h : k < cs.length) (h2 : cs.set k c = cs2) : zup (sL g a cs) (a + k) c = sL g a cs2 := by
  subst h2
  funext j
  by_cases e : j = a + k
  · subst e
    rw [zup_s, sL_get (List.getElem?_set_self h)]
  · rw [zup_n _ _ e]
    unfold sL
    split
    · rw [List.getElem?_set_ne (by omega)]
    · rfl
theorem sL_get0 {g : zh} {k : Nat} {cs : List zc} {c : zc} (h : cs[k]? = some c) : sL g 0 cs k = c := by simp [sL, h]
theorem sL_set0 {g : zh} {k : Nat} {cs cs2 : List zc} {c : zc} (h : k < cs.length) (h2 : cs.set k c = cs2) : zup (sL g 0 cs) k c = sL g 0 cs2 := by
  have := sL_set (g := g) (a := 0) h h2
  rwa [Nat.zero_add] at this
theorem sL_sL {g : zh} {a : Nat} {L cs L2 : List zc} (h : a + cs.length ≤ L.length) (h2 : L.take a ++ (cs ++ L.drop (a + cs.length)) = L2) : sL (sL g 0 L) a cs = sL g 0 L2 := by
  subst h2
  funext j
  by_cases h1 : j < a
  · rw [sL_out (Or.inl h1)]
    unfold sL
    simp only [Nat.zero_le, if_true, Nat.sub_zero]
    rw [List.getElem?_append_left (by simp; omega), List.getElem?_take_of_lt h1]
  · by_cases h3 : j < a + cs.length
    · have e : sL (sL g 0 L) a cs j = cs[j - a]'(by omega) := by
        unfold sL
        rw [if_pos (by omega), List.getElem?_eq_getElem (by omega)]
      rw [e]
      unfold sL
      simp only [Nat.zero_le, if_true, Nat.sub_zero]
      rw [List.getElem?_append_right (by simp; omega)]
      have e2 : (List.take a L).length = a := by simp; omega
      rw [e2, List.getElem?_append_left (by omega), List.getElem?_eq_getElem (by omega)]
    · rw [sL_out (Or.inr (by omega))]
      unfold sL
      simp only [Nat.zero_le, if_true, Nat.sub_zero]
      rw [List.getElem?_append_right (by simp; omega)]
      have e2 : (List.take a L).length = a := by simp; omega
      rw [e2, List.getElem?_append_right (by omega), List.getElem?_drop]
      congr 2
      omega
theorem sL_same {g : zh} {a : Nat} {cs : List zc} {cs2 : List zc} : sL (sL g a cs) a cs2 = sL g a (cs2 ++ cs.drop cs2.length) := by
  funext j
  by_cases h1 : j < a
  · rw [sL_out (Or.inl h1), sL_out (Or.inl h1), sL_out (Or.inl h1)]
  · by_cases h3 : j < a + cs2.length
    · have e : ∀ (g : zh) (cs : List zc), sL g a (cs2 ++ cs) j = cs2[j - a]'(by omega) := by
        intro g cs
        unfold sL
        rw [if_pos (by omega), List.getElem?_append_left (by omega), List.getElem?_eq_getElem (by omega)]
      rw [e]
      have := e (sL g a cs) []
      rwa [List.append_nil] at this
    · rw [sL_out (cs := cs2) (Or.inr (by omega))]
      unfold sL
      rw [if_pos (by omega), if_pos (by omega), List.getElem?_append_right (by omega), List.getElem?_drop]
      congr 2
      omega
def BFs (a : Nat) (s : zs) : List Value := [.int (nI (rN s 0)), .int (nI (rN s 1)), .int (nI (rN s 2)), .int (rI s 3), .int (rI s 4), .ref (a + 1), .ref (a + 2), .ref (a + 3), .ref (a + 4), .ref (a + 5), .ref (a + 6), .ref (a + 7)]
def BCs (a : Nat) (s : zs) : List zc := zO 0 (BFs a s) :: [zI 9 (fun j => nI (rA s 5 j)), zI 9 (fun j => nI (rA s 6 j)), zI 9 (rF s 7), zI 9 (rF s 8), zI 9 (rF s 9), zI 3 (fun j => nI (rA s 10 j)), zI 9 (fun j => nI (rA s 11 j))]
def sB (g : zh) (a : Nat) (s : zs) : zh := sL g a (BCs a s)
theorem sB_o (g : zh) (a : Nat) (s : zs) : sB g a s a = zO 0 (BFs a s) := sL_get (k := 0) rfl
theorem BF_0 (a : Nat) (s : zs) : (BFs a s)[0]? = some (.int (nI (rN s 0))) := rfl
theorem sB_w0 (g : zh) (a : Nat) (s : zs) (v : Nat) : zup (sB g a s) a (zO 0 ((BFs a s).set 0 (.int (nI v)))) = sB g a (uN s 0 v) := sL_set (k := 0) (Nat.succ_pos _) rfl
theorem BF_1 (a : Nat) (s : zs) : (BFs a s)[1]? = some (.int (nI (rN s 1))) := rfl
theorem sB_w1 (g : zh) (a : Nat) (s : zs) (v : Nat) : zup (sB g a s) a (zO 0 ((BFs a s).set 1 (.int (nI v)))) = sB g a (uN s 1 v) := sL_set (k := 0) (Nat.succ_pos _) rfl
theorem BF_2 (a : Nat) (s : zs) : (BFs a s)[2]? = some (.int (nI (rN s 2))) := rfl
theorem sB_w2 (g : zh) (a : Nat) (s : zs) (v : Nat) : zup (sB g a s) a (zO 0 ((BFs a s).set 2 (.int (nI v)))) = sB g a (uN s 2 v) := sL_set (k := 0) (Nat.succ_pos _) rfl
theorem BF_3 (a : Nat) (s : zs) : (BFs a s)[3]? = some (.int (rI s 3)) := rfl
theorem sB_w3 (g : zh) (a : Nat) (s : zs) (v : Int32) : zup (sB g a s) a (zO 0 ((BFs a s).set 3 (.int (v)))) = sB g a (uI s 3 v) := sL_set (k := 0) (Nat.succ_pos _) rfl
theorem BF_4 (a : Nat) (s : zs) : (BFs a s)[4]? = some (.int (rI s 4)) := rfl
theorem sB_w4 (g : zh) (a : Nat) (s : zs) (v : Int32) : zup (sB g a s) a (zO 0 ((BFs a s).set 4 (.int (v)))) = sB g a (uI s 4 v) := sL_set (k := 0) (Nat.succ_pos _) rfl
theorem BF_5 (a : Nat) (s : zs) : (BFs a s)[5]? = some (.ref (a + 1)) := rfl
theorem sB_5 (g : zh) (a : Nat) (s : zs) : sB g a s (a + 1) = zI 9 (fun j => nI (rA s 5 j)) := sL_get rfl
theorem sB_w5 (g : zh) (a : Nat) (s : zs) (f : Nat → Nat) : zup (sB g a s) (a + 1) (zI 9 (fun j => nI (f j))) = sB g a (uA s 5 f) := sL_set (k := 1) (Nat.lt_of_lt_of_le (Nat.lt_succ_self _) (Nat.le_of_ble_eq_true rfl)) rfl
theorem BF_6 (a : Nat) (s : zs) : (BFs a s)[6]? = some (.ref (a + 2)) := rfl
theorem sB_6 (g : zh) (a : Nat) (s : zs) : sB g a s (a + 2) = zI 9 (fun j => nI (rA s 6 j)) := sL_get rfl
theorem sB_w6 (g : zh) (a : Nat) (s : zs) (f : Nat → Nat) : zup (sB g a s) (a + 2) (zI 9 (fun j => nI (f j))) = sB g a (uA s 6 f) := sL_set (k := 2) (Nat.lt_of_lt_of_le (Nat.lt_succ_self _) (Nat.le_of_ble_eq_true rfl)) rfl
theorem BF_7 (a : Nat) (s : zs) : (BFs a s)[7]? = some (.ref (a + 3)) := rfl
theorem sB_7 (g : zh) (a : Nat) (s : zs) : sB g a s (a + 3) = zI 9 (rF s 7) := sL_get rfl
theorem sB_w7 (g : zh) (a : Nat) (s : zs) (f : Nat → Int32) : zup (sB g a s) (a + 3) (zI 9 f) = sB g a (uF s 7 f) := sL_set (k := 3) (Nat.lt_of_lt_of_le (Nat.lt_succ_self _) (Nat.le_of_ble_eq_true rfl)) rfl
theorem BF_8 (a : Nat) (s : zs) : (BFs a s)[8]? = some (.ref (a + 4)) := rfl
theorem sB_8 (g : zh) (a : Nat) (s : zs) : sB g a s (a + 4) = zI 9 (rF s 8) := sL_get rfl
theorem sB_w8 (g : zh) (a : Nat) (s : zs) (f : Nat → Int32) : zup (sB g a s) (a + 4) (zI 9 f) = sB g a (uF s 8 f) := sL_set (k := 4) (Nat.lt_of_lt_of_le (Nat.lt_succ_self _) (Nat.le_of_ble_eq_true rfl)) rfl
theorem BF_9 (a : Nat) (s : zs) : (BFs a s)[9]? = some (.ref (a + 5)) := rfl
theorem sB_9 (g : zh) (a : Nat) (s : zs) : sB g a s (a + 5) = zI 9 (rF s 9) := sL_get rfl
theorem sB_w9 (g : zh) (a : Nat) (s : zs) (f : Nat → Int32) : zup (sB g a s) (a + 5) (zI 9 f) = sB g a (uF s 9 f) := sL_set (k := 5) (Nat.lt_of_lt_of_le (Nat.lt_succ_self _) (Nat.le_of_ble_eq_true rfl)) rfl
theorem BF_10 (a : Nat) (s : zs) : (BFs a s)[10]? = some (.ref (a + 6)) := rfl
theorem sB_10 (g : zh) (a : Nat) (s : zs) : sB g a s (a + 6) = zI 3 (fun j => nI (rA s 10 j)) := sL_get rfl
theorem sB_w10 (g : zh) (a : Nat) (s : zs) (f : Nat → Nat) : zup (sB g a s) (a + 6) (zI 3 (fun j => nI (f j))) = sB g a (uA s 10 f) := sL_set (k := 6) (Nat.lt_of_lt_of_le (Nat.lt_succ_self _) (Nat.le_of_ble_eq_true rfl)) rfl
theorem BF_11 (a : Nat) (s : zs) : (BFs a s)[11]? = some (.ref (a + 7)) := rfl
theorem sB_11 (g : zh) (a : Nat) (s : zs) : sB g a s (a + 7) = zI 9 (fun j => nI (rA s 11 j)) := sL_get rfl
theorem sB_w11 (g : zh) (a : Nat) (s : zs) (f : Nat → Nat) : zup (sB g a s) (a + 7) (zI 9 (fun j => nI (f j))) = sB g a (uA s 11 f) := sL_set (k := 7) (Nat.lt_of_lt_of_le (Nat.lt_succ_self _) (Nat.le_of_ble_eq_true rfl)) rfl
theorem sB_same (g : zh) (a : Nat) (s t : zs) : sB (sB g a s) a t = sB g a t := sL_same
def PFs (a : Nat) (s : zs) : List Value := [.ref (a + 1), .int (nI (rN s 1))]
def PCs (a : Nat) (s : zs) : List zc := zO 3 (PFs a s) :: [zI 38 (rF s 0)]
def sP (g : zh) (a : Nat) (s : zs) : zh := sL g a (PCs a s)
theorem sP_o (g : zh) (a : Nat) (s : zs) : sP g a s a = zO 3 (PFs a s) := sL_get (k := 0) rfl
theorem PF_0 (a : Nat) (s : zs) : (PFs a s)[0]? = some (.ref (a + 1)) := rfl
theorem sP_0 (g : zh) (a : Nat) (s : zs) : sP g a s (a + 1) = zI 38 (rF s 0) := sL_get rfl
theorem sP_w0 (g : zh) (a : Nat) (s : zs) (f : Nat → Int32) : zup (sP g a s) (a + 1) (zI 38 f) = sP g a (uF s 0 f) := sL_set (k := 1) (Nat.lt_of_lt_of_le (Nat.lt_succ_self _) (Nat.le_of_ble_eq_true rfl)) rfl
theorem PF_1 (a : Nat) (s : zs) : (PFs a s)[1]? = some (.int (nI (rN s 1))) := rfl
theorem sP_w1 (g : zh) (a : Nat) (s : zs) (v : Nat) : zup (sP g a s) a (zO 3 ((PFs a s).set 1 (.int (nI v)))) = sP g a (uN s 1 v) := sL_set (k := 0) (Nat.succ_pos _) rfl
theorem sP_same (g : zh) (a : Nat) (s t : zs) : sP (sP g a s) a t = sP g a t := sL_same
def SFs (a : Nat) (s : zs) : List Value := [.ref (a + 1), .ref (a + 2), .ref (a + 3), .int (nI (rN s 3))]
def SCs (a : Nat) (s : zs) : List zc := zO 4 (SFs a s) :: [zI 6 (fun j => nI (rA s 0 j)), zI 6 (fun j => nI (rA s 1 j)), zI 6 (rF s 2)]
def sS (g : zh) (a : Nat) (s : zs) : zh := sL g a (SCs a s)
theorem sS_o (g : zh) (a : Nat) (s : zs) : sS g a s a = zO 4 (SFs a s) := sL_get (k := 0) rfl
theorem SF_0 (a : Nat) (s : zs) : (SFs a s)[0]? = some (.ref (a + 1)) := rfl
theorem sS_0 (g : zh) (a : Nat) (s : zs) : sS g a s (a + 1) = zI 6 (fun j => nI (rA s 0 j)) := sL_get rfl
theorem sS_w0 (g : zh) (a : Nat) (s : zs) (f : Nat → Nat) : zup (sS g a s) (a + 1) (zI 6 (fun j => nI (f j))) = sS g a (uA s 0 f) := sL_set (k := 1) (Nat.lt_of_lt_of_le (Nat.lt_succ_self _) (Nat.le_of_ble_eq_true rfl)) rfl
theorem SF_1 (a : Nat) (s : zs) : (SFs a s)[1]? = some (.ref (a + 2)) := rfl
theorem sS_1 (g : zh) (a : Nat) (s : zs) : sS g a s (a + 2) = zI 6 (fun j => nI (rA s 1 j)) := sL_get rfl
theorem sS_w1 (g : zh) (a : Nat) (s : zs) (f : Nat → Nat) : zup (sS g a s) (a + 2) (zI 6 (fun j => nI (f j))) = sS g a (uA s 1 f) := sL_set (k := 2) (Nat.lt_of_lt_of_le (Nat.lt_succ_self _) (Nat.le_of_ble_eq_true rfl)) rfl
theorem SF_2 (a : Nat) (s : zs) : (SFs a s)[2]? = some (.ref (a + 3)) := rfl
theorem sS_2 (g : zh) (a : Nat) (s : zs) : sS g a s (a + 3) = zI 6 (rF s 2) := sL_get rfl
theorem sS_w2 (g : zh) (a : Nat) (s : zs) (f : Nat → Int32) : zup (sS g a s) (a + 3) (zI 6 f) = sS g a (uF s 2 f) := sL_set (k := 3) (Nat.lt_of_lt_of_le (Nat.lt_succ_self _) (Nat.le_of_ble_eq_true rfl)) rfl
theorem SF_3 (a : Nat) (s : zs) : (SFs a s)[3]? = some (.int (nI (rN s 3))) := rfl
theorem sS_w3 (g : zh) (a : Nat) (s : zs) (v : Nat) : zup (sS g a s) a (zO 4 ((SFs a s).set 3 (.int (nI v)))) = sS g a (uN s 3 v) := sL_set (k := 0) (Nat.succ_pos _) rfl
theorem sS_same (g : zh) (a : Nat) (s t : zs) : sS (sS g a s) a t = sS g a t := sL_same
end
section
def mFs (m : zs) (hh : Int64) : List Value := [.ref 50, .int (nI (rN m 1)), .int (nI (rN m 2)), .int (nI (rN m 3)), .int (nI (rN m 4)), .int (nI (rN m 5)), .int (nI (rN m 6)), .int (rI m 7), .int (rI m 8), .int (nI (rN m 9)), .ref 51, .ref 52, .ref 53, .ref 54, .ref 55, .ref 56, .ref 57, .ref 58, .ref 59, .ref 60, .int (nI (rN m 20)), .ref 61, .ref 62, .ref 63, .int (nI (rN m 24)), .ref 64, .ref 65, .int (rI m 27), .int (rI m 28), .int (nI (rN m 29)), .int (rI m 30), .int (rI m 31), .int (nI (rN m 32)), .ref 66, .ref 67, .ref 68, .ref 69, .ref 70, .long hh]
def mCs (m : zs) (hh : Int64) : List zc := zO 7 (mFs m hh) :: [zI 38 (rF m 0), zI 12 (fun j => nI (rA m 10 j)), zI 12 (fun j => nI (rA m 11 j)), zI 3 (fun j => nI (rA m 12 j)), zI 12 (fun j => nI (rA m 13 j)), zI 12 (rF m 14), zI 12 (rF m 15), zI 12 (rF m 16), zI 12 (rF m 17), zI 12 (rF m 18), zI 12 (rF m 19), zI 512 (rF m 21), zI 512 (rF m 22), zI 512 (rF m 23), zI 18 (rF m 25), zI 90 (rF m 26), zI 12 (fun j => nI (rA m 33 j)), zI 12 (rF m 34), zI 12 (rF m 35), zI 12 (rF m 36), zI 18 (rF m 37)]
def xFs (mx : zs) : List Value := [.ref 1, .ref 3, .ref 11, .ref 19, .ref 23, .ref 27, .ref 36, .ref 47, .int (nI (rN mx 8)), .int (nI (rN mx 9)), .int (nI (rN mx 10))]
def fFs (fo : zs) : List Value := [.ref 28, .int (rI fo 1), .int (nI (rN fo 2))]
def wCs (pg nw kp sn ks fo ft fe gt mx : zs) (re : Nat → Int64) (m : zs) (hh : Int64) : List zc := [zO 6 (xFs mx)] ++ (PCs 1 pg ++ (BCs 3 nw ++ (BCs 11 kp ++ (SCs 19 sn ++ (SCs 23 ks ++ ([zO 2 (fFs fo)] ++ (BCs 28 ft ++ ([zO 1 [.ref 37, .ref 45, .ref 46]] ++ (BCs 37 gt ++ ([zI 90 (fun j => nI (rA fe 1 j)), zI 31 (rF fe 2), zO 5 [.ref 48], zJ 28 re] ++ mCs m hh))))))))))
def wW (pg nw kp sn ks fo ft fe gt mx : zs) (re : Nat → Int64) (m : zs) (hh : Int64) : zh := sL (fun _ => zdead) 0 (wCs pg nw kp sn ks fo ft fe gt mx re m hh)
theorem wW_B3 {pg nw kp sn ks fo ft fe gt mx : zs} {re : Nat → Int64} {m : zs} {hh : Int64} (t : zs) : sB (wW pg nw kp sn ks fo ft fe gt mx re m hh) 3 t = wW pg t kp sn ks fo ft fe gt mx re m hh := sL_sL (Nat.le_of_ble_eq_true rfl) rfl
theorem wW_B11 {pg nw kp sn ks fo ft fe gt mx : zs} {re : Nat → Int64} {m : zs} {hh : Int64} (t : zs) : sB (wW pg nw kp sn ks fo ft fe gt mx re m hh) 11 t = wW pg nw t sn ks fo ft fe gt mx re m hh := sL_sL (Nat.le_of_ble_eq_true rfl) rfl
theorem wW_B28 {pg nw kp sn ks fo ft fe gt mx : zs} {re : Nat → Int64} {m : zs} {hh : Int64} (t : zs) : sB (wW pg nw kp sn ks fo ft fe gt mx re m hh) 28 t = wW pg nw kp sn ks fo t fe gt mx re m hh := sL_sL (Nat.le_of_ble_eq_true rfl) rfl
theorem wW_B37 {pg nw kp sn ks fo ft fe gt mx : zs} {re : Nat → Int64} {m : zs} {hh : Int64} (t : zs) : sB (wW pg nw kp sn ks fo ft fe gt mx re m hh) 37 t = wW pg nw kp sn ks fo ft fe t mx re m hh := sL_sL (Nat.le_of_ble_eq_true rfl) rfl
theorem wW_S19 {pg nw kp sn ks fo ft fe gt mx : zs} {re : Nat → Int64} {m : zs} {hh : Int64} (t : zs) : sS (wW pg nw kp sn ks fo ft fe gt mx re m hh) 19 t = wW pg nw kp t ks fo ft fe gt mx re m hh := sL_sL (Nat.le_of_ble_eq_true rfl) rfl
theorem wW_S23 {pg nw kp sn ks fo ft fe gt mx : zs} {re : Nat → Int64} {m : zs} {hh : Int64} (t : zs) : sS (wW pg nw kp sn ks fo ft fe gt mx re m hh) 23 t = wW pg nw kp sn t fo ft fe gt mx re m hh := sL_sL (Nat.le_of_ble_eq_true rfl) rfl
theorem wW_P1 {pg nw kp sn ks fo ft fe gt mx : zs} {re : Nat → Int64} {m : zs} {hh : Int64} (t : zs) : sP (wW pg nw kp sn ks fo ft fe gt mx re m hh) 1 t = wW t nw kp sn ks fo ft fe gt mx re m hh := sL_sL (Nat.le_of_ble_eq_true rfl) rfl
theorem wx {pg nw kp sn ks fo ft fe gt mx : zs} {re : Nat → Int64} {m : zs} {hh : Int64} : wW pg nw kp sn ks fo ft fe gt mx re m hh 0 = zO 6 (xFs mx) := sL_get0 rfl
theorem wf {pg nw kp sn ks fo ft fe gt mx : zs} {re : Nat → Int64} {m : zs} {hh : Int64} : wW pg nw kp sn ks fo ft fe gt mx re m hh 27 = zO 2 (fFs fo) := sL_get0 rfl
theorem we {pg nw kp sn ks fo ft fe gt mx : zs} {re : Nat → Int64} {m : zs} {hh : Int64} : wW pg nw kp sn ks fo ft fe gt mx re m hh 36 = zO 1 [.ref 37, .ref 45, .ref 46] := sL_get0 rfl
theorem we1 {pg nw kp sn ks fo ft fe gt mx : zs} {re : Nat → Int64} {m : zs} {hh : Int64} : wW pg nw kp sn ks fo ft fe gt mx re m hh 45 = zI 90 (fun j => nI (rA fe 1 j)) := sL_get0 rfl
theorem we2 {pg nw kp sn ks fo ft fe gt mx : zs} {re : Nat → Int64} {m : zs} {hh : Int64} : wW pg nw kp sn ks fo ft fe gt mx re m hh 46 = zI 31 (rF fe 2) := sL_get0 rfl
theorem wr {pg nw kp sn ks fo ft fe gt mx : zs} {re : Nat → Int64} {m : zs} {hh : Int64} : wW pg nw kp sn ks fo ft fe gt mx re m hh 47 = zO 5 [.ref 48] := sL_get0 rfl
theorem wr1 {pg nw kp sn ks fo ft fe gt mx : zs} {re : Nat → Int64} {m : zs} {hh : Int64} : wW pg nw kp sn ks fo ft fe gt mx re m hh 48 = zJ 28 re := sL_get0 rfl
theorem wm {pg nw kp sn ks fo ft fe gt mx : zs} {re : Nat → Int64} {m : zs} {hh : Int64} : wW pg nw kp sn ks fo ft fe gt mx re m hh 49 = zO 7 (mFs m hh) := sL_get0 rfl
theorem w3_o {pg nw kp sn ks fo ft fe gt mx : zs} {re : Nat → Int64} {m : zs} {hh : Int64} : wW pg nw kp sn ks fo ft fe gt mx re m hh 3 = zO 0 (BFs 3 nw) := sL_get0 rfl
theorem w3_5 {pg nw kp sn ks fo ft fe gt mx : zs} {re : Nat → Int64} {m : zs} {hh : Int64} : wW pg nw kp sn ks fo ft fe gt mx re m hh (3 + 1) = zI 9 (fun j => nI (rA nw 5 j)) := sL_get0 rfl
theorem w3_6 {pg nw kp sn ks fo ft fe gt mx : zs} {re : Nat → Int64} {m : zs} {hh : Int64} : wW pg nw kp sn ks fo ft fe gt mx re m hh (3 + 2) = zI 9 (fun j => nI (rA nw 6 j)) := sL_get0 rfl
theorem w3_7 {pg nw kp sn ks fo ft fe gt mx : zs} {re : Nat → Int64} {m : zs} {hh : Int64} : wW pg nw kp sn ks fo ft fe gt mx re m hh (3 + 3) = zI 9 (rF nw 7) := sL_get0 rfl
theorem w3_8 {pg nw kp sn ks fo ft fe gt mx : zs} {re : Nat → Int64} {m : zs} {hh : Int64} : wW pg nw kp sn ks fo ft fe gt mx re m hh (3 + 4) = zI 9 (rF nw 8) := sL_get0 rfl
theorem w3_9 {pg nw kp sn ks fo ft fe gt mx : zs} {re : Nat → Int64} {m : zs} {hh : Int64} : wW pg nw kp sn ks fo ft fe gt mx re m hh (3 + 5) = zI 9 (rF nw 9) := sL_get0 rfl
theorem w3_10 {pg nw kp sn ks fo ft fe gt mx : zs} {re : Nat → Int64} {m : zs} {hh : Int64} : wW pg nw kp sn ks fo ft fe gt mx re m hh (3 + 6) = zI 3 (fun j => nI (rA nw 10 j)) := sL_get0 rfl
theorem w3_11 {pg nw kp sn ks fo ft fe gt mx : zs} {re : Nat → Int64} {m : zs} {hh : Int64} : wW pg nw kp sn ks fo ft fe gt mx re m hh (3 + 7) = zI 9 (fun j => nI (rA nw 11 j)) := sL_get0 rfl
theorem w11_o {pg nw kp sn ks fo ft fe gt mx : zs} {re : Nat → Int64} {m : zs} {hh : Int64} : wW pg nw kp sn ks fo ft fe gt mx re m hh 11 = zO 0 (BFs 11 kp) := sL_get0 rfl
theorem w11_5 {pg nw kp sn ks fo ft fe gt mx : zs} {re : Nat → Int64} {m : zs} {hh : Int64} : wW pg nw kp sn ks fo ft fe gt mx re m hh (11 + 1) = zI 9 (fun j => nI (rA kp 5 j)) := sL_get0 rfl
theorem w11_6 {pg nw kp sn ks fo ft fe gt mx : zs} {re : Nat → Int64} {m : zs} {hh : Int64} : wW pg nw kp sn ks fo ft fe gt mx re m hh (11 + 2) = zI 9 (fun j => nI (rA kp 6 j)) := sL_get0 rfl
theorem w11_7 {pg nw kp sn ks fo ft fe gt mx : zs} {re : Nat → Int64} {m : zs} {hh : Int64} : wW pg nw kp sn ks fo ft fe gt mx re m hh (11 + 3) = zI 9 (rF kp 7) := sL_get0 rfl
theorem w11_8 {pg nw kp sn ks fo ft fe gt mx : zs} {re : Nat → Int64} {m : zs} {hh : Int64} : wW pg nw kp sn ks fo ft fe gt mx re m hh (11 + 4) = zI 9 (rF kp 8) := sL_get0 rfl
theorem w11_9 {pg nw kp sn ks fo ft fe gt mx : zs} {re : Nat → Int64} {m : zs} {hh : Int64} : wW pg nw kp sn ks fo ft fe gt mx re m hh (11 + 5) = zI 9 (rF kp 9) := sL_get0 rfl
theorem w11_10 {pg nw kp sn ks fo ft fe gt mx : zs} {re : Nat → Int64} {m : zs} {hh : Int64} : wW pg nw kp sn ks fo ft fe gt mx re m hh (11 + 6) = zI 3 (fun j => nI (rA kp 10 j)) := sL_get0 rfl
theorem w11_11 {pg nw kp sn ks fo ft fe gt mx : zs} {re : Nat → Int64} {m : zs} {hh : Int64} : wW pg nw kp sn ks fo ft fe gt mx re m hh (11 + 7) = zI 9 (fun j => nI (rA kp 11 j)) := sL_get0 rfl
theorem w28_o {pg nw kp sn ks fo ft fe gt mx : zs} {re : Nat → Int64} {m : zs} {hh : Int64} : wW pg nw kp sn ks fo ft fe gt mx re m hh 28 = zO 0 (BFs 28 ft) := sL_get0 rfl
theorem w28_5 {pg nw kp sn ks fo ft fe gt mx : zs} {re : Nat → Int64} {m : zs} {hh : Int64} : wW pg nw kp sn ks fo ft fe gt mx re m hh (28 + 1) = zI 9 (fun j => nI (rA ft 5 j)) := sL_get0 rfl
theorem w28_6 {pg nw kp sn ks fo ft fe gt mx : zs} {re : Nat → Int64} {m : zs} {hh : Int64} : wW pg nw kp sn ks fo ft fe gt mx re m hh (28 + 2) = zI 9 (fun j => nI (rA ft 6 j)) := sL_get0 rfl
theorem w28_7 {pg nw kp sn ks fo ft fe gt mx : zs} {re : Nat → Int64} {m : zs} {hh : Int64} : wW pg nw kp sn ks fo ft fe gt mx re m hh (28 + 3) = zI 9 (rF ft 7) := sL_get0 rfl
theorem w28_8 {pg nw kp sn ks fo ft fe gt mx : zs} {re : Nat → Int64} {m : zs} {hh : Int64} : wW pg nw kp sn ks fo ft fe gt mx re m hh (28 + 4) = zI 9 (rF ft 8) := sL_get0 rfl
theorem w28_9 {pg nw kp sn ks fo ft fe gt mx : zs} {re : Nat → Int64} {m : zs} {hh : Int64} : wW pg nw kp sn ks fo ft fe gt mx re m hh (28 + 5) = zI 9 (rF ft 9) := sL_get0 rfl
theorem w28_10 {pg nw kp sn ks fo ft fe gt mx : zs} {re : Nat → Int64} {m : zs} {hh : Int64} : wW pg nw kp sn ks fo ft fe gt mx re m hh (28 + 6) = zI 3 (fun j => nI (rA ft 10 j)) := sL_get0 rfl
theorem w28_11 {pg nw kp sn ks fo ft fe gt mx : zs} {re : Nat → Int64} {m : zs} {hh : Int64} : wW pg nw kp sn ks fo ft fe gt mx re m hh (28 + 7) = zI 9 (fun j => nI (rA ft 11 j)) := sL_get0 rfl
theorem w37_o {pg nw kp sn ks fo ft fe gt mx : zs} {re : Nat → Int64} {m : zs} {hh : Int64} : wW pg nw kp sn ks fo ft fe gt mx re m hh 37 = zO 0 (BFs 37 gt) := sL_get0 rfl
theorem w37_5 {pg nw kp sn ks fo ft fe gt mx : zs} {re : Nat → Int64} {m : zs} {hh : Int64} : wW pg nw kp sn ks fo ft fe gt mx re m hh (37 + 1) = zI 9 (fun j => nI (rA gt 5 j)) := sL_get0 rfl
theorem w37_6 {pg nw kp sn ks fo ft fe gt mx : zs} {re : Nat → Int64} {m : zs} {hh : Int64} : wW pg nw kp sn ks fo ft fe gt mx re m hh (37 + 2) = zI 9 (fun j => nI (rA gt 6 j)) := sL_get0 rfl
theorem w37_7 {pg nw kp sn ks fo ft fe gt mx : zs} {re : Nat → Int64} {m : zs} {hh : Int64} : wW pg nw kp sn ks fo ft fe gt mx re m hh (37 + 3) = zI 9 (rF gt 7) := sL_get0 rfl
theorem w37_8 {pg nw kp sn ks fo ft fe gt mx : zs} {re : Nat → Int64} {m : zs} {hh : Int64} : wW pg nw kp sn ks fo ft fe gt mx re m hh (37 + 4) = zI 9 (rF gt 8) := sL_get0 rfl
theorem w37_9 {pg nw kp sn ks fo ft fe gt mx : zs} {re : Nat → Int64} {m : zs} {hh : Int64} : wW pg nw kp sn ks fo ft fe gt mx re m hh (37 + 5) = zI 9 (rF gt 9) := sL_get0 rfl
theorem w37_10 {pg nw kp sn ks fo ft fe gt mx : zs} {re : Nat → Int64} {m : zs} {hh : Int64} : wW pg nw kp sn ks fo ft fe gt mx re m hh (37 + 6) = zI 3 (fun j => nI (rA gt 10 j)) := sL_get0 rfl
theorem w37_11 {pg nw kp sn ks fo ft fe gt mx : zs} {re : Nat → Int64} {m : zs} {hh : Int64} : wW pg nw kp sn ks fo ft fe gt mx re m hh (37 + 7) = zI 9 (fun j => nI (rA gt 11 j)) := sL_get0 rfl
theorem w19_o {pg nw kp sn ks fo ft fe gt mx : zs} {re : Nat → Int64} {m : zs} {hh : Int64} : wW pg nw kp sn ks fo ft fe gt mx re m hh 19 = zO 4 (SFs 19 sn) := sL_get0 rfl
theorem w19_0 {pg nw kp sn ks fo ft fe gt mx : zs} {re : Nat → Int64} {m : zs} {hh : Int64} : wW pg nw kp sn ks fo ft fe gt mx re m hh (19 + 1) = zI 6 (fun j => nI (rA sn 0 j)) := sL_get0 rfl
theorem w19_1 {pg nw kp sn ks fo ft fe gt mx : zs} {re : Nat → Int64} {m : zs} {hh : Int64} : wW pg nw kp sn ks fo ft fe gt mx re m hh (19 + 2) = zI 6 (fun j => nI (rA sn 1 j)) := sL_get0 rfl
theorem w19_2 {pg nw kp sn ks fo ft fe gt mx : zs} {re : Nat → Int64} {m : zs} {hh : Int64} : wW pg nw kp sn ks fo ft fe gt mx re m hh (19 + 3) = zI 6 (rF sn 2) := sL_get0 rfl
theorem w23_o {pg nw kp sn ks fo ft fe gt mx : zs} {re : Nat → Int64} {m : zs} {hh : Int64} : wW pg nw kp sn ks fo ft fe gt mx re m hh 23 = zO 4 (SFs 23 ks) := sL_get0 rfl
theorem w23_0 {pg nw kp sn ks fo ft fe gt mx : zs} {re : Nat → Int64} {m : zs} {hh : Int64} : wW pg nw kp sn ks fo ft fe gt mx re m hh (23 + 1) = zI 6 (fun j => nI (rA ks 0 j)) := sL_get0 rfl
theorem w23_1 {pg nw kp sn ks fo ft fe gt mx : zs} {re : Nat → Int64} {m : zs} {hh : Int64} : wW pg nw kp sn ks fo ft fe gt mx re m hh (23 + 2) = zI 6 (fun j => nI (rA ks 1 j)) := sL_get0 rfl
theorem w23_2 {pg nw kp sn ks fo ft fe gt mx : zs} {re : Nat → Int64} {m : zs} {hh : Int64} : wW pg nw kp sn ks fo ft fe gt mx re m hh (23 + 3) = zI 6 (rF ks 2) := sL_get0 rfl
theorem w1_o {pg nw kp sn ks fo ft fe gt mx : zs} {re : Nat → Int64} {m : zs} {hh : Int64} : wW pg nw kp sn ks fo ft fe gt mx re m hh 1 = zO 3 (PFs 1 pg) := sL_get0 rfl
theorem w1_0 {pg nw kp sn ks fo ft fe gt mx : zs} {re : Nat → Int64} {m : zs} {hh : Int64} : wW pg nw kp sn ks fo ft fe gt mx re m hh (1 + 1) = zI 38 (rF pg 0) := sL_get0 rfl
theorem xF_0 (mx : zs) : (xFs mx)[0]? = some (.ref 1) := rfl
theorem xF_1 (mx : zs) : (xFs mx)[1]? = some (.ref 3) := rfl
theorem xF_2 (mx : zs) : (xFs mx)[2]? = some (.ref 11) := rfl
theorem xF_3 (mx : zs) : (xFs mx)[3]? = some (.ref 19) := rfl
theorem xF_4 (mx : zs) : (xFs mx)[4]? = some (.ref 23) := rfl
theorem xF_5 (mx : zs) : (xFs mx)[5]? = some (.ref 27) := rfl
theorem xF_6 (mx : zs) : (xFs mx)[6]? = some (.ref 36) := rfl
theorem xF_7 (mx : zs) : (xFs mx)[7]? = some (.ref 47) := rfl
theorem xF_8 (mx : zs) : (xFs mx)[8]? = some (.int (nI (rN mx 8))) := rfl
theorem wx_8 {pg nw kp sn ks fo ft fe gt mx : zs} {re : Nat → Int64} {m : zs} {hh : Int64} (v : Nat) : zup (wW pg nw kp sn ks fo ft fe gt mx re m hh) 0 (zO 6 ((xFs mx).set 8 (.int (nI v)))) = wW pg nw kp sn ks fo ft fe gt (uN mx 8 v) re m hh := sL_set0 (Nat.le_of_ble_eq_true rfl) rfl
theorem xF_9 (mx : zs) : (xFs mx)[9]? = some (.int (nI (rN mx 9))) := rfl
theorem wx_9 {pg nw kp sn ks fo ft fe gt mx : zs} {re : Nat → Int64} {m : zs} {hh : Int64} (v : Nat) : zup (wW pg nw kp sn ks fo ft fe gt mx re m hh) 0 (zO 6 ((xFs mx).set 9 (.int (nI v)))) = wW pg nw kp sn ks fo ft fe gt (uN mx 9 v) re m hh := sL_set0 (Nat.le_of_ble_eq_true rfl) rfl
theorem xF_10 (mx : zs) : (xFs mx)[10]? = some (.int (nI (rN mx 10))) := rfl
theorem wx_10 {pg nw kp sn ks fo ft fe gt mx : zs} {re : Nat → Int64} {m : zs} {hh : Int64} (v : Nat) : zup (wW pg nw kp sn ks fo ft fe gt mx re m hh) 0 (zO 6 ((xFs mx).set 10 (.int (nI v)))) = wW pg nw kp sn ks fo ft fe gt (uN mx 10 v) re m hh := sL_set0 (Nat.le_of_ble_eq_true rfl) rfl
theorem fF_0 (fo : zs) : (fFs fo)[0]? = some (.ref 28) := rfl
theorem fF_1 (fo : zs) : (fFs fo)[1]? = some (.int (rI fo 1)) := rfl
theorem fF_2 (fo : zs) : (fFs fo)[2]? = some (.int (nI (rN fo 2))) := rfl
theorem wf_1 {pg nw kp sn ks fo ft fe gt mx : zs} {re : Nat → Int64} {m : zs} {hh : Int64} (v : Int32) : zup (wW pg nw kp sn ks fo ft fe gt mx re m hh) 27 (zO 2 ((fFs fo).set 1 (.int v))) = wW pg nw kp sn ks (uI fo 1 v) ft fe gt mx re m hh := sL_set0 (Nat.le_of_ble_eq_true rfl) rfl
theorem wf_2 {pg nw kp sn ks fo ft fe gt mx : zs} {re : Nat → Int64} {m : zs} {hh : Int64} (v : Nat) : zup (wW pg nw kp sn ks fo ft fe gt mx re m hh) 27 (zO 2 ((fFs fo).set 2 (.int (nI v)))) = wW pg nw kp sn ks (uN fo 2 v) ft fe gt mx re m hh := sL_set0 (Nat.le_of_ble_eq_true rfl) rfl
theorem we_1 {pg nw kp sn ks fo ft fe gt mx : zs} {re : Nat → Int64} {m : zs} {hh : Int64} (f : Nat → Nat) : zup (wW pg nw kp sn ks fo ft fe gt mx re m hh) 45 (zI 90 (fun j => nI (f j))) = wW pg nw kp sn ks fo ft (uA fe 1 f) gt mx re m hh := sL_set0 (Nat.le_of_ble_eq_true rfl) rfl
theorem we_2 {pg nw kp sn ks fo ft fe gt mx : zs} {re : Nat → Int64} {m : zs} {hh : Int64} (f : Nat → Int32) : zup (wW pg nw kp sn ks fo ft fe gt mx re m hh) 46 (zI 31 f) = wW pg nw kp sn ks fo ft (uF fe 2 f) gt mx re m hh := sL_set0 (Nat.le_of_ble_eq_true rfl) rfl
theorem wr_1 {pg nw kp sn ks fo ft fe gt mx : zs} {re : Nat → Int64} {m : zs} {hh : Int64} (f : Nat → Int64) : zup (wW pg nw kp sn ks fo ft fe gt mx re m hh) 48 (zJ 28 f) = wW pg nw kp sn ks fo ft fe gt mx f m hh := sL_set0 (Nat.le_of_ble_eq_true rfl) rfl
theorem mF_0 (m : zs) (hh : Int64) : (mFs m hh)[0]? = some (.ref 50) := rfl
theorem wm0 {pg nw kp sn ks fo ft fe gt mx : zs} {re : Nat → Int64} {m : zs} {hh : Int64} : wW pg nw kp sn ks fo ft fe gt mx re m hh 50 = zI 38 (rF m 0) := sL_get0 rfl
theorem wm_0 {pg nw kp sn ks fo ft fe gt mx : zs} {re : Nat → Int64} {m : zs} {hh : Int64} (f : Nat → Int32) : zup (wW pg nw kp sn ks fo ft fe gt mx re m hh) 50 (zI 38 f) = wW pg nw kp sn ks fo ft fe gt mx re (uF m 0 f) hh := sL_set0 (Nat.le_of_ble_eq_true rfl) rfl
theorem mF_1 (m : zs) (hh : Int64) : (mFs m hh)[1]? = some (.int (nI (rN m 1))) := rfl
theorem wm_1 {pg nw kp sn ks fo ft fe gt mx : zs} {re : Nat → Int64} {m : zs} {hh : Int64} (v : Nat) : zup (wW pg nw kp sn ks fo ft fe gt mx re m hh) 49 (zO 7 ((mFs m hh).set 1 (.int (nI v)))) = wW pg nw kp sn ks fo ft fe gt mx re (uN m 1 v) hh := sL_set0 (Nat.le_of_ble_eq_true rfl) rfl
theorem mF_2 (m : zs) (hh : Int64) : (mFs m hh)[2]? = some (.int (nI (rN m 2))) := rfl
theorem wm_2 {pg nw kp sn ks fo ft fe gt mx : zs} {re : Nat → Int64} {m : zs} {hh : Int64} (v : Nat) : zup (wW pg nw kp sn ks fo ft fe gt mx re m hh) 49 (zO 7 ((mFs m hh).set 2 (.int (nI v)))) = wW pg nw kp sn ks fo ft fe gt mx re (uN m 2 v) hh := sL_set0 (Nat.le_of_ble_eq_true rfl) rfl
theorem mF_3 (m : zs) (hh : Int64) : (mFs m hh)[3]? = some (.int (nI (rN m 3))) := rfl
theorem wm_3 {pg nw kp sn ks fo ft fe gt mx : zs} {re : Nat → Int64} {m : zs} {hh : Int64} (v : Nat) : zup (wW pg nw kp sn ks fo ft fe gt mx re m hh) 49 (zO 7 ((mFs m hh).set 3 (.int (nI v)))) = wW pg nw kp sn ks fo ft fe gt mx re (uN m 3 v) hh := sL_set0 (Nat.le_of_ble_eq_true rfl) rfl
theorem mF_4 (m : zs) (hh : Int64) : (mFs m hh)[4]? = some (.int (nI (rN m 4))) := rfl
theorem wm_4 {pg nw kp sn ks fo ft fe gt mx : zs} {re : Nat → Int64} {m : zs} {hh : Int64} (v : Nat) : zup (wW pg nw kp sn ks fo ft fe gt mx re m hh) 49 (zO 7 ((mFs m hh).set 4 (.int (nI v)))) = wW pg nw kp sn ks fo ft fe gt mx re (uN m 4 v) hh := sL_set0 (Nat.le_of_ble_eq_true rfl) rfl
theorem mF_5 (m : zs) (hh : Int64) : (mFs m hh)[5]? = some (.int (nI (rN m 5))) := rfl
theorem wm_5 {pg nw kp sn ks fo ft fe gt mx : zs} {re : Nat → Int64} {m : zs} {hh : Int64} (v : Nat) : zup (wW pg nw kp sn ks fo ft fe gt mx re m hh) 49 (zO 7 ((mFs m hh).set 5 (.int (nI v)))) = wW pg nw kp sn ks fo ft fe gt mx re (uN m 5 v) hh := sL_set0 (Nat.le_of_ble_eq_true rfl) rfl
theorem mF_6 (m : zs) (hh : Int64) : (mFs m hh)[6]? = some (.int (nI (rN m 6))) := rfl
theorem wm_6 {pg nw kp sn ks fo ft fe gt mx : zs} {re : Nat → Int64} {m : zs} {hh : Int64} (v : Nat) : zup (wW pg nw kp sn ks fo ft fe gt mx re m hh) 49 (zO 7 ((mFs m hh).set 6 (.int (nI v)))) = wW pg nw kp sn ks fo ft fe gt mx re (uN m 6 v) hh := sL_set0 (Nat.le_of_ble_eq_true rfl) rfl
theorem mF_7 (m : zs) (hh : Int64) : (mFs m hh)[7]? = some (.int (rI m 7)) := rfl
theorem wm_7 {pg nw kp sn ks fo ft fe gt mx : zs} {re : Nat → Int64} {m : zs} {hh : Int64} (v : Int32) : zup (wW pg nw kp sn ks fo ft fe gt mx re m hh) 49 (zO 7 ((mFs m hh).set 7 (.int v))) = wW pg nw kp sn ks fo ft fe gt mx re (uI m 7 v) hh := sL_set0 (Nat.le_of_ble_eq_true rfl) rfl
theorem mF_8 (m : zs) (hh : Int64) : (mFs m hh)[8]? = some (.int (rI m 8)) := rfl
theorem wm_8 {pg nw kp sn ks fo ft fe gt mx : zs} {re : Nat → Int64} {m : zs} {hh : Int64} (v : Int32) : zup (wW pg nw kp sn ks fo ft fe gt mx re m hh) 49 (zO 7 ((mFs m hh).set 8 (.int v))) = wW pg nw kp sn ks fo ft fe gt mx re (uI m 8 v) hh := sL_set0 (Nat.le_of_ble_eq_true rfl) rfl
theorem mF_9 (m : zs) (hh : Int64) : (mFs m hh)[9]? = some (.int (nI (rN m 9))) := rfl
theorem wm_9 {pg nw kp sn ks fo ft fe gt mx : zs} {re : Nat → Int64} {m : zs} {hh : Int64} (v : Nat) : zup (wW pg nw kp sn ks fo ft fe gt mx re m hh) 49 (zO 7 ((mFs m hh).set 9 (.int (nI v)))) = wW pg nw kp sn ks fo ft fe gt mx re (uN m 9 v) hh := sL_set0 (Nat.le_of_ble_eq_true rfl) rfl
theorem mF_10 (m : zs) (hh : Int64) : (mFs m hh)[10]? = some (.ref 51) := rfl
theorem wm10 {pg nw kp sn ks fo ft fe gt mx : zs} {re : Nat → Int64} {m : zs} {hh : Int64} : wW pg nw kp sn ks fo ft fe gt mx re m hh 51 = zI 12 (fun j => nI (rA m 10 j)) := sL_get0 rfl
theorem wm_10 {pg nw kp sn ks fo ft fe gt mx : zs} {re : Nat → Int64} {m : zs} {hh : Int64} (f : Nat → Nat) : zup (wW pg nw kp sn ks fo ft fe gt mx re m hh) 51 (zI 12 (fun j => nI (f j))) = wW pg nw kp sn ks fo ft fe gt mx re (uA m 10 f) hh := sL_set0 (Nat.le_of_ble_eq_true rfl) rfl
theorem mF_11 (m : zs) (hh : Int64) : (mFs m hh)[11]? = some (.ref 52) := rfl
theorem wm11 {pg nw kp sn ks fo ft fe gt mx : zs} {re : Nat → Int64} {m : zs} {hh : Int64} : wW pg nw kp sn ks fo ft fe gt mx re m hh 52 = zI 12 (fun j => nI (rA m 11 j)) := sL_get0 rfl
theorem wm_11 {pg nw kp sn ks fo ft fe gt mx : zs} {re : Nat → Int64} {m : zs} {hh : Int64} (f : Nat → Nat) : zup (wW pg nw kp sn ks fo ft fe gt mx re m hh) 52 (zI 12 (fun j => nI (f j))) = wW pg nw kp sn ks fo ft fe gt mx re (uA m 11 f) hh := sL_set0 (Nat.le_of_ble_eq_true rfl) rfl
theorem mF_12 (m : zs) (hh : Int64) : (mFs m hh)[12]? = some (.ref 53) := rfl
theorem wm12 {pg nw kp sn ks fo ft fe gt mx : zs} {re : Nat → Int64} {m : zs} {hh : Int64} : wW pg nw kp sn ks fo ft fe gt mx re m hh 53 = zI 3 (fun j => nI (rA m 12 j)) := sL_get0 rfl
theorem wm_12 {pg nw kp sn ks fo ft fe gt mx : zs} {re : Nat → Int64} {m : zs} {hh : Int64} (f : Nat → Nat) : zup (wW pg nw kp sn ks fo ft fe gt mx re m hh) 53 (zI 3 (fun j => nI (f j))) = wW pg nw kp sn ks fo ft fe gt mx re (uA m 12 f) hh := sL_set0 (Nat.le_of_ble_eq_true rfl) rfl
theorem mF_13 (m : zs) (hh : Int64) : (mFs m hh)[13]? = some (.ref 54) := rfl
theorem wm13 {pg nw kp sn ks fo ft fe gt mx : zs} {re : Nat → Int64} {m : zs} {hh : Int64} : wW pg nw kp sn ks fo ft fe gt mx re m hh 54 = zI 12 (fun j => nI (rA m 13 j)) := sL_get0 rfl
theorem wm_13 {pg nw kp sn ks fo ft fe gt mx : zs} {re : Nat → Int64} {m : zs} {hh : Int64} (f : Nat → Nat) : zup (wW pg nw kp sn ks fo ft fe gt mx re m hh) 54 (zI 12 (fun j => nI (f j))) = wW pg nw kp sn ks fo ft fe gt mx re (uA m 13 f) hh := sL_set0 (Nat.le_of_ble_eq_true rfl) rfl
theorem mF_14 (m : zs) (hh : Int64) : (mFs m hh)[14]? = some (.ref 55) := rfl
theorem wm14 {pg nw kp sn ks fo ft fe gt mx : zs} {re : Nat → Int64} {m : zs} {hh : Int64} : wW pg nw kp sn ks fo ft fe gt mx re m hh 55 = zI 12 (rF m 14) := sL_get0 rfl
theorem wm_14 {pg nw kp sn ks fo ft fe gt mx : zs} {re : Nat → Int64} {m : zs} {hh : Int64} (f : Nat → Int32) : zup (wW pg nw kp sn ks fo ft fe gt mx re m hh) 55 (zI 12 f) = wW pg nw kp sn ks fo ft fe gt mx re (uF m 14 f) hh := sL_set0 (Nat.le_of_ble_eq_true rfl) rfl
theorem mF_15 (m : zs) (hh : Int64) : (mFs m hh)[15]? = some (.ref 56) := rfl
theorem wm15 {pg nw kp sn ks fo ft fe gt mx : zs} {re : Nat → Int64} {m : zs} {hh : Int64} : wW pg nw kp sn ks fo ft fe gt mx re m hh 56 = zI 12 (rF m 15) := sL_get0 rfl
theorem wm_15 {pg nw kp sn ks fo ft fe gt mx : zs} {re : Nat → Int64} {m : zs} {hh : Int64} (f : Nat → Int32) : zup (wW pg nw kp sn ks fo ft fe gt mx re m hh) 56 (zI 12 f) = wW pg nw kp sn ks fo ft fe gt mx re (uF m 15 f) hh := sL_set0 (Nat.le_of_ble_eq_true rfl) rfl
theorem mF_16 (m : zs) (hh : Int64) : (mFs m hh)[16]? = some (.ref 57) := rfl
theorem wm16 {pg nw kp sn ks fo ft fe gt mx : zs} {re : Nat → Int64} {m : zs} {hh : Int64} : wW pg nw kp sn ks fo ft fe gt mx re m hh 57 = zI 12 (rF m 16) := sL_get0 rfl
theorem wm_16 {pg nw kp sn ks fo ft fe gt mx : zs} {re : Nat → Int64} {m : zs} {hh : Int64} (f : Nat → Int32) : zup (wW pg nw kp sn ks fo ft fe gt mx re m hh) 57 (zI 12 f) = wW pg nw kp sn ks fo ft fe gt mx re (uF m 16 f) hh := sL_set0 (Nat.le_of_ble_eq_true rfl) rfl
theorem mF_17 (m : zs) (hh : Int64) : (mFs m hh)[17]? = some (.ref 58) := rfl
theorem wm17 {pg nw kp sn ks fo ft fe gt mx : zs} {re : Nat → Int64} {m : zs} {hh : Int64} : wW pg nw kp sn ks fo ft fe gt mx re m hh 58 = zI 12 (rF m 17) := sL_get0 rfl
theorem wm_17 {pg nw kp sn ks fo ft fe gt mx : zs} {re : Nat → Int64} {m : zs} {hh : Int64} (f : Nat → Int32) : zup (wW pg nw kp sn ks fo ft fe gt mx re m hh) 58 (zI 12 f) = wW pg nw kp sn ks fo ft fe gt mx re (uF m 17 f) hh := sL_set0 (Nat.le_of_ble_eq_true rfl) rfl
theorem mF_18 (m : zs) (hh : Int64) : (mFs m hh)[18]? = some (.ref 59) := rfl
theorem wm18 {pg nw kp sn ks fo ft fe gt mx : zs} {re : Nat → Int64} {m : zs} {hh : Int64} : wW pg nw kp sn ks fo ft fe gt mx re m hh 59 = zI 12 (rF m 18) := sL_get0 rfl
theorem wm_18 {pg nw kp sn ks fo ft fe gt mx : zs} {re : Nat → Int64} {m : zs} {hh : Int64} (f : Nat → Int32) : zup (wW pg nw kp sn ks fo ft fe gt mx re m hh) 59 (zI 12 f) = wW pg nw kp sn ks fo ft fe gt mx re (uF m 18 f) hh := sL_set0 (Nat.le_of_ble_eq_true rfl) rfl
theorem mF_19 (m : zs) (hh : Int64) : (mFs m hh)[19]? = some (.ref 60) := rfl
theorem wm19 {pg nw kp sn ks fo ft fe gt mx : zs} {re : Nat → Int64} {m : zs} {hh : Int64} : wW pg nw kp sn ks fo ft fe gt mx re m hh 60 = zI 12 (rF m 19) := sL_get0 rfl
theorem wm_19 {pg nw kp sn ks fo ft fe gt mx : zs} {re : Nat → Int64} {m : zs} {hh : Int64} (f : Nat → Int32) : zup (wW pg nw kp sn ks fo ft fe gt mx re m hh) 60 (zI 12 f) = wW pg nw kp sn ks fo ft fe gt mx re (uF m 19 f) hh := sL_set0 (Nat.le_of_ble_eq_true rfl) rfl
theorem mF_20 (m : zs) (hh : Int64) : (mFs m hh)[20]? = some (.int (nI (rN m 20))) := rfl
theorem wm_20 {pg nw kp sn ks fo ft fe gt mx : zs} {re : Nat → Int64} {m : zs} {hh : Int64} (v : Nat) : zup (wW pg nw kp sn ks fo ft fe gt mx re m hh) 49 (zO 7 ((mFs m hh).set 20 (.int (nI v)))) = wW pg nw kp sn ks fo ft fe gt mx re (uN m 20 v) hh := sL_set0 (Nat.le_of_ble_eq_true rfl) rfl
theorem mF_21 (m : zs) (hh : Int64) : (mFs m hh)[21]? = some (.ref 61) := rfl
theorem wm21 {pg nw kp sn ks fo ft fe gt mx : zs} {re : Nat → Int64} {m : zs} {hh : Int64} : wW pg nw kp sn ks fo ft fe gt mx re m hh 61 = zI 512 (rF m 21) := sL_get0 rfl
theorem wm_21 {pg nw kp sn ks fo ft fe gt mx : zs} {re : Nat → Int64} {m : zs} {hh : Int64} (f : Nat → Int32) : zup (wW pg nw kp sn ks fo ft fe gt mx re m hh) 61 (zI 512 f) = wW pg nw kp sn ks fo ft fe gt mx re (uF m 21 f) hh := sL_set0 (Nat.le_of_ble_eq_true rfl) rfl
theorem mF_22 (m : zs) (hh : Int64) : (mFs m hh)[22]? = some (.ref 62) := rfl
theorem wm22 {pg nw kp sn ks fo ft fe gt mx : zs} {re : Nat → Int64} {m : zs} {hh : Int64} : wW pg nw kp sn ks fo ft fe gt mx re m hh 62 = zI 512 (rF m 22) := sL_get0 rfl
theorem wm_22 {pg nw kp sn ks fo ft fe gt mx : zs} {re : Nat → Int64} {m : zs} {hh : Int64} (f : Nat → Int32) : zup (wW pg nw kp sn ks fo ft fe gt mx re m hh) 62 (zI 512 f) = wW pg nw kp sn ks fo ft fe gt mx re (uF m 22 f) hh := sL_set0 (Nat.le_of_ble_eq_true rfl) rfl
theorem mF_23 (m : zs) (hh : Int64) : (mFs m hh)[23]? = some (.ref 63) := rfl
theorem wm23 {pg nw kp sn ks fo ft fe gt mx : zs} {re : Nat → Int64} {m : zs} {hh : Int64} : wW pg nw kp sn ks fo ft fe gt mx re m hh 63 = zI 512 (rF m 23) := sL_get0 rfl
theorem wm_23 {pg nw kp sn ks fo ft fe gt mx : zs} {re : Nat → Int64} {m : zs} {hh : Int64} (f : Nat → Int32) : zup (wW pg nw kp sn ks fo ft fe gt mx re m hh) 63 (zI 512 f) = wW pg nw kp sn ks fo ft fe gt mx re (uF m 23 f) hh := sL_set0 (Nat.le_of_ble_eq_true rfl) rfl
theorem mF_24 (m : zs) (hh : Int64) : (mFs m hh)[24]? = some (.int (nI (rN m 24))) := rfl
theorem wm_24 {pg nw kp sn ks fo ft fe gt mx : zs} {re : Nat → Int64} {m : zs} {hh : Int64} (v : Nat) : zup (wW pg nw kp sn ks fo ft fe gt mx re m hh) 49 (zO 7 ((mFs m hh).set 24 (.int (nI v)))) = wW pg nw kp sn ks fo ft fe gt mx re (uN m 24 v) hh := sL_set0 (Nat.le_of_ble_eq_true rfl) rfl
theorem mF_25 (m : zs) (hh : Int64) : (mFs m hh)[25]? = some (.ref 64) := rfl
theorem wm25 {pg nw kp sn ks fo ft fe gt mx : zs} {re : Nat → Int64} {m : zs} {hh : Int64} : wW pg nw kp sn ks fo ft fe gt mx re m hh 64 = zI 18 (rF m 25) := sL_get0 rfl
theorem wm_25 {pg nw kp sn ks fo ft fe gt mx : zs} {re : Nat → Int64} {m : zs} {hh : Int64} (f : Nat → Int32) : zup (wW pg nw kp sn ks fo ft fe gt mx re m hh) 64 (zI 18 f) = wW pg nw kp sn ks fo ft fe gt mx re (uF m 25 f) hh := sL_set0 (Nat.le_of_ble_eq_true rfl) rfl
theorem mF_26 (m : zs) (hh : Int64) : (mFs m hh)[26]? = some (.ref 65) := rfl
theorem wm26 {pg nw kp sn ks fo ft fe gt mx : zs} {re : Nat → Int64} {m : zs} {hh : Int64} : wW pg nw kp sn ks fo ft fe gt mx re m hh 65 = zI 90 (rF m 26) := sL_get0 rfl
theorem wm_26 {pg nw kp sn ks fo ft fe gt mx : zs} {re : Nat → Int64} {m : zs} {hh : Int64} (f : Nat → Int32) : zup (wW pg nw kp sn ks fo ft fe gt mx re m hh) 65 (zI 90 f) = wW pg nw kp sn ks fo ft fe gt mx re (uF m 26 f) hh := sL_set0 (Nat.le_of_ble_eq_true rfl) rfl
theorem mF_27 (m : zs) (hh : Int64) : (mFs m hh)[27]? = some (.int (rI m 27)) := rfl
theorem wm_27 {pg nw kp sn ks fo ft fe gt mx : zs} {re : Nat → Int64} {m : zs} {hh : Int64} (v : Int32) : zup (wW pg nw kp sn ks fo ft fe gt mx re m hh) 49 (zO 7 ((mFs m hh).set 27 (.int v))) = wW pg nw kp sn ks fo ft fe gt mx re (uI m 27 v) hh := sL_set0 (Nat.le_of_ble_eq_true rfl) rfl
theorem mF_28 (m : zs) (hh : Int64) : (mFs m hh)[28]? = some (.int (rI m 28)) := rfl
theorem wm_28 {pg nw kp sn ks fo ft fe gt mx : zs} {re : Nat → Int64} {m : zs} {hh : Int64} (v : Int32) : zup (wW pg nw kp sn ks fo ft fe gt mx re m hh) 49 (zO 7 ((mFs m hh).set 28 (.int v))) = wW pg nw kp sn ks fo ft fe gt mx re (uI m 28 v) hh := sL_set0 (Nat.le_of_ble_eq_true rfl) rfl
theorem mF_29 (m : zs) (hh : Int64) : (mFs m hh)[29]? = some (.int (nI (rN m 29))) := rfl
theorem wm_29 {pg nw kp sn ks fo ft fe gt mx : zs} {re : Nat → Int64} {m : zs} {hh : Int64} (v : Nat) : zup (wW pg nw kp sn ks fo ft fe gt mx re m hh) 49 (zO 7 ((mFs m hh).set 29 (.int (nI v)))) = wW pg nw kp sn ks fo ft fe gt mx re (uN m 29 v) hh := sL_set0 (Nat.le_of_ble_eq_true rfl) rfl
theorem mF_30 (m : zs) (hh : Int64) : (mFs m hh)[30]? = some (.int (rI m 30)) := rfl
theorem wm_30 {pg nw kp sn ks fo ft fe gt mx : zs} {re : Nat → Int64} {m : zs} {hh : Int64} (v : Int32) : zup (wW pg nw kp sn ks fo ft fe gt mx re m hh) 49 (zO 7 ((mFs m hh).set 30 (.int v))) = wW pg nw kp sn ks fo ft fe gt mx re (uI m 30 v) hh := sL_set0 (Nat.le_of_ble_eq_true rfl) rfl
theorem mF_31 (m : zs) (hh : Int64) : (mFs m hh)[31]? = some (.int (rI m 31)) := rfl
theorem wm_31 {pg nw kp sn ks fo ft fe gt mx : zs} {re : Nat → Int64} {m : zs} {hh : Int64} (v : Int32) : zup (wW pg nw kp sn ks fo ft fe gt mx re m hh) 49 (zO 7 ((mFs m hh).set 31 (.int v))) = wW pg nw kp sn ks fo ft fe gt mx re (uI m 31 v) hh := sL_set0 (Nat.le_of_ble_eq_true rfl) rfl
theorem mF_32 (m : zs) (hh : Int64) : (mFs m hh)[32]? = some (.int (nI (rN m 32))) := rfl
theorem wm_32 {pg nw kp sn ks fo ft fe gt mx : zs} {re : Nat → Int64} {m : zs} {hh : Int64} (v : Nat) : zup (wW pg nw kp sn ks fo ft fe gt mx re m hh) 49 (zO 7 ((mFs m hh).set 32 (.int (nI v)))) = wW pg nw kp sn ks fo ft fe gt mx re (uN m 32 v) hh := sL_set0 (Nat.le_of_ble_eq_true rfl) rfl
theorem mF_33 (m : zs) (hh : Int64) : (mFs m hh)[33]? = some (.ref 66) := rfl
theorem wm33 {pg nw kp sn ks fo ft fe gt mx : zs} {re : Nat → Int64} {m : zs} {hh : Int64} : wW pg nw kp sn ks fo ft fe gt mx re m hh 66 = zI 12 (fun j => nI (rA m 33 j)) := sL_get0 rfl
theorem wm_33 {pg nw kp sn ks fo ft fe gt mx : zs} {re : Nat → Int64} {m : zs} {hh : Int64} (f : Nat → Nat) : zup (wW pg nw kp sn ks fo ft fe gt mx re m hh) 66 (zI 12 (fun j => nI (f j))) = wW pg nw kp sn ks fo ft fe gt mx re (uA m 33 f) hh := sL_set0 (Nat.le_of_ble_eq_true rfl) rfl
theorem mF_34 (m : zs) (hh : Int64) : (mFs m hh)[34]? = some (.ref 67) := rfl
theorem wm34 {pg nw kp sn ks fo ft fe gt mx : zs} {re : Nat → Int64} {m : zs} {hh : Int64} : wW pg nw kp sn ks fo ft fe gt mx re m hh 67 = zI 12 (rF m 34) := sL_get0 rfl
theorem wm_34 {pg nw kp sn ks fo ft fe gt mx : zs} {re : Nat → Int64} {m : zs} {hh : Int64} (f : Nat → Int32) : zup (wW pg nw kp sn ks fo ft fe gt mx re m hh) 67 (zI 12 f) = wW pg nw kp sn ks fo ft fe gt mx re (uF m 34 f) hh := sL_set0 (Nat.le_of_ble_eq_true rfl) rfl
theorem mF_35 (m : zs) (hh : Int64) : (mFs m hh)[35]? = some (.ref 68) := rfl
theorem wm35 {pg nw kp sn ks fo ft fe gt mx : zs} {re : Nat → Int64} {m : zs} {hh : Int64} : wW pg nw kp sn ks fo ft fe gt mx re m hh 68 = zI 12 (rF m 35) := sL_get0 rfl
theorem wm_35 {pg nw kp sn ks fo ft fe gt mx : zs} {re : Nat → Int64} {m : zs} {hh : Int64} (f : Nat → Int32) : zup (wW pg nw kp sn ks fo ft fe gt mx re m hh) 68 (zI 12 f) = wW pg nw kp sn ks fo ft fe gt mx re (uF m 35 f) hh := sL_set0 (Nat.le_of_ble_eq_true rfl) rfl
theorem mF_36 (m : zs) (hh : Int64) : (mFs m hh)[36]? = some (.ref 69) := rfl
theorem wm36 {pg nw kp sn ks fo ft fe gt mx : zs} {re : Nat → Int64} {m : zs} {hh : Int64} : wW pg nw kp sn ks fo ft fe gt mx re m hh 69 = zI 12 (rF m 36) := sL_get0 rfl
theorem wm_36 {pg nw kp sn ks fo ft fe gt mx : zs} {re : Nat → Int64} {m : zs} {hh : Int64} (f : Nat → Int32) : zup (wW pg nw kp sn ks fo ft fe gt mx re m hh) 69 (zI 12 f) = wW pg nw kp sn ks fo ft fe gt mx re (uF m 36 f) hh := sL_set0 (Nat.le_of_ble_eq_true rfl) rfl
theorem mF_37 (m : zs) (hh : Int64) : (mFs m hh)[37]? = some (.ref 70) := rfl
theorem wm37 {pg nw kp sn ks fo ft fe gt mx : zs} {re : Nat → Int64} {m : zs} {hh : Int64} : wW pg nw kp sn ks fo ft fe gt mx re m hh 70 = zI 18 (rF m 37) := sL_get0 rfl
theorem wm_37 {pg nw kp sn ks fo ft fe gt mx : zs} {re : Nat → Int64} {m : zs} {hh : Int64} (f : Nat → Int32) : zup (wW pg nw kp sn ks fo ft fe gt mx re m hh) 70 (zI 18 f) = wW pg nw kp sn ks fo ft fe gt mx re (uF m 37 f) hh := sL_set0 (Nat.le_of_ble_eq_true rfl) rfl
theorem mF_38 (m : zs) (hh : Int64) : (mFs m hh)[38]? = some (.long hh) := rfl
theorem wm_38 {pg nw kp sn ks fo ft fe gt mx : zs} {re : Nat → Int64} {m : zs} {hh : Int64} (v : Int64) : zup (wW pg nw kp sn ks fo ft fe gt mx re m hh) 49 (zO 7 ((mFs m hh).set 38 (.long v))) = wW pg nw kp sn ks fo ft fe gt mx re m v := sL_set0 (Nat.le_of_ble_eq_true rfl) rfl
theorem wW_ok {pg nw kp sn ks fo ft fe gt mx : zs} {re : Nat → Int64} {m : zs} {hh : Int64} : (wCs pg nw kp sn ks fo ft fe gt mx re m hh).length = 71 := rfl
end
section
theorem zinc_i {x : Int32} : x + Int32.ofInt 1 = x + nI 1 := by rw [zk_1]
theorem nix_incs {a : Nat} (d : Nat) {e : Int} (h : Int32.ofInt e = nI d) : nI a + Int32.ofInt e = nI (a + d) := by rw [h, nI_add]
theorem z31 : ∀ k, k < 32 → ((nI k &&& 31).toBitVec.smod 32).toNat = k := by decide +kernel
theorem nix_shr {a k : Nat} (ha : a < 2 ^ 31) (hk : k < 32) : nI a >>> (nI k &&& 31) = nI (a / 2 ^ k) := pk_shrN ha _ k (z31 k hk)
theorem nix_shl {a k : Nat} (hk : k < 32) (h : a * 2 ^ k < 2 ^ 32) : nI a <<< (nI k &&& 31) = nI (a * 2 ^ k) := pk_shlN _ k (z31 k hk) h
theorem nix_and1 {a : Nat} : nI a &&& nI 1 = nI (a % 2) := by
  apply Int32.toBitVec_inj.mp
  show BitVec.ofNat 32 a &&& BitVec.ofNat 32 1 = BitVec.ofNat 32 (a % 2)
  apply BitVec.eq_of_toNat_eq
  simp only [BitVec.toNat_and, BitVec.toNat_ofNat]
  rw [show (1 % 2 ^ 32) = 2 ^ 1 - 1 from rfl, Nat.and_two_pow_sub_one_eq_mod]
  omega
theorem nix_or {a b : Nat} : nI a ||| nI b = nI (a ||| b) := by
  apply Int32.toBitVec_inj.mp
  show BitVec.ofNat 32 a ||| BitVec.ofNat 32 b = BitVec.ofNat 32 (a ||| b)
  apply BitVec.eq_of_toNat_eq
  simp only [BitVec.toNat_or, BitVec.toNat_ofNat]
  rw [Nat.or_mod_two_pow]
theorem zsw_out (lo hi : Nat) {x : Int32} (h : ∀ j, lo ≤ j → j ≤ hi → ¬ x = nI j) (hh : hi < 2 ^ 31 := by decide) : x.toInt < (lo : Int) ∨ (hi : Int) < x.toInt := by
  rcases Int.lt_or_le x.toInt lo with q | q
  · exact Or.inl q
  · rcases Int.lt_or_le (hi : Int) x.toInt with q2 | q2
    · exact Or.inr q2
    · obtain ⟨j, hj⟩ := Int.eq_ofNat_of_zero_le (show 0 ≤ x.toInt by omega)
      refine absurd ?_ (h j (by omega) (by omega))
      apply Int32.toInt_inj.mp
      rw [nI_toInt (by omega), hj]
def zfw {α : Type} (F : Nat → α → α) : Nat → Nat → α → α
  | _, 0, x => x
  | i, n + 1, x => zfw F (i + 1) n (F i x)
end
section
def kGives (k : Nat) (l : Int32) : Int32 := if k = 1 then nI 2 * l else if k = 2 then l + nI 1 else if k = 3 then nI 0 else if k = 4 then nI 2 * l + nI 1 else l
def kWarms (k : Nat) (d : Int32) : Int32 := if k = 1 then d / nI 2 else if k = 2 then nI 2 * d else if k = 3 then nI 0 else if k = 4 then d / nI 2 / nI 2 else d
set_option maxRecDepth 20000 in
set_option maxHeartbeats 1000000 in
theorem c_gives (G : zG) (g : zh) (k : Nat) (l : Int32) (hk : k < 2 ^ 31) : zK G mX3_gives [.int (nI k), .int l] g (some (.int (kGives k l))) g := by
  refine zK_of 0 rfl (by decide) trivial (Nat.le_of_ble_eq_true rfl) rfl ?_
  refine z_iload_n iX3_gives_0 rfl ?_
  by_cases c1_1 : k = 1
  · refine z_tabIn (off := 31) (tgt := 32) iX3_gives_1 (by rw [c1_1]; decide +kernel) (by rw [c1_1]; decide +kernel) (by rw [c1_1]; decide +kernel) (by decide) ?_
    refine z_iconst iX3_gives_32 zk_2 ?_
    refine z_iload_n iX3_gives_33 rfl ?_
    refine z_imul iX3_gives_34 ?_
    exact z_ireturn iX3_gives_35 (by simp only [kGives]; simp [*]) (rfl)
  by_cases c1_2 : k = 2
  · refine z_tabIn (off := 35) (tgt := 36) iX3_gives_1 (by rw [c1_2]; decide +kernel) (by rw [c1_2]; decide +kernel) (by rw [c1_2]; decide +kernel) (by decide) ?_
    refine z_iload_n iX3_gives_36 rfl ?_
    refine z_iconst iX3_gives_37 zk_1 ?_
    refine z_iadd iX3_gives_38 ?_
    exact z_ireturn iX3_gives_39 (by simp only [kGives]; simp [*]) (rfl)
  by_cases c1_3 : k = 3
  · refine z_tabIn (off := 39) (tgt := 40) iX3_gives_1 (by rw [c1_3]; decide +kernel) (by rw [c1_3]; decide +kernel) (by rw [c1_3]; decide +kernel) (by decide) ?_
    refine z_iconst iX3_gives_40 zk_0 ?_
    exact z_ireturn iX3_gives_41 (by simp only [kGives]; simp [*]) (rfl)
  by_cases c1_4 : k = 4
  · refine z_tabIn (off := 41) (tgt := 42) iX3_gives_1 (by rw [c1_4]; decide +kernel) (by rw [c1_4]; decide +kernel) (by rw [c1_4]; decide +kernel) (by decide) ?_
    refine z_iconst iX3_gives_42 zk_2 ?_
    refine z_iload_n iX3_gives_43 rfl ?_
    refine z_imul iX3_gives_44 ?_
    refine z_iconst iX3_gives_45 zk_1 ?_
    refine z_iadd iX3_gives_46 ?_
    exact z_ireturn iX3_gives_47 (by simp only [kGives]; simp [*]) (rfl)
  refine z_tabOut (tgt := 48) iX3_gives_1 (by rw [nI_toInt (by omega)]; omega) (by decide) ?_
  refine z_iload_n iX3_gives_48 rfl ?_
  exact z_ireturn iX3_gives_49 (by simp only [kGives]; simp [*]) (rfl)
set_option maxRecDepth 20000 in
set_option maxHeartbeats 1000000 in
theorem c_warms (G : zG) (g : zh) (k : Nat) (l : Int32) (hk : k < 2 ^ 31) : zK G mX3_warms [.int (nI k), .int l] g (some (.int (kWarms k l))) g := by
  refine zK_of 0 rfl (by decide) trivial (Nat.le_of_ble_eq_true rfl) rfl ?_
  refine z_iload_n iX3_warms_0 rfl ?_
  by_cases c1_1 : k = 1
  · refine z_tabIn (off := 31) (tgt := 32) iX3_warms_1 (by rw [c1_1]; decide +kernel) (by rw [c1_1]; decide +kernel) (by rw [c1_1]; decide +kernel) (by decide) ?_
    refine z_iload_n iX3_warms_32 rfl ?_
    refine z_iconst iX3_warms_33 zk_2 ?_
    refine z_idiv iX3_warms_34 (by decide +kernel) ?_
    exact z_ireturn iX3_warms_35 (by simp only [kWarms]; simp [*]) (rfl)
  by_cases c1_2 : k = 2
  · refine z_tabIn (off := 35) (tgt := 36) iX3_warms_1 (by rw [c1_2]; decide +kernel) (by rw [c1_2]; decide +kernel) (by rw [c1_2]; decide +kernel) (by decide) ?_
    refine z_iconst iX3_warms_36 zk_2 ?_
    refine z_iload_n iX3_warms_37 rfl ?_
    refine z_imul iX3_warms_38 ?_
    exact z_ireturn iX3_warms_39 (by simp only [kWarms]; simp [*]) (rfl)
  by_cases c1_3 : k = 3
  · refine z_tabIn (off := 39) (tgt := 40) iX3_warms_1 (by rw [c1_3]; decide +kernel) (by rw [c1_3]; decide +kernel) (by rw [c1_3]; decide +kernel) (by decide) ?_
    refine z_iconst iX3_warms_40 zk_0 ?_
    exact z_ireturn iX3_warms_41 (by simp only [kWarms]; simp [*]) (rfl)
  by_cases c1_4 : k = 4
  · refine z_tabIn (off := 41) (tgt := 42) iX3_warms_1 (by rw [c1_4]; decide +kernel) (by rw [c1_4]; decide +kernel) (by rw [c1_4]; decide +kernel) (by decide) ?_
    refine z_iload_n iX3_warms_42 rfl ?_
    refine z_iconst iX3_warms_43 zk_2 ?_
    refine z_idiv iX3_warms_44 (by decide +kernel) ?_
    refine z_iconst iX3_warms_45 zk_2 ?_
    refine z_idiv iX3_warms_46 (by decide +kernel) ?_
    exact z_ireturn iX3_warms_47 (by simp only [kWarms]; simp [*]) (rfl)
  refine z_tabOut (tgt := 48) iX3_warms_1 (by rw [nI_toInt (by omega)]; omega) (by decide) ?_
  refine z_iload_n iX3_warms_48 rfl ?_
  exact z_ireturn iX3_warms_49 (by simp only [kWarms]; simp [*]) (rfl)
def bOK (s : zs) : Prop := (∀ j, rA s 11 j < 9) ∧ (∀ j, rA s 10 j ≤ 3) ∧ (∀ j, rA s 6 j < 3) ∧ (∀ j, rA s 5 j ≤ 4) ∧ rN s 0 ≤ 3 ∧ rN s 1 ≤ 9
def bTop (s : zs) (b : Nat) : Int32 := if rA s 10 b = 0 then -1 else nI (rA s 11 (b * 3 + rA s 10 b - 1))
def bAt (s : zs) (b p : Nat) : Int32 := if p < rA s 10 b then nI (rA s 11 (b * 3 + p)) else -1
def bLightOf (s : zs) (b : Nat) : Int32 := zfw (fun p x => x + rF s 7 (rA s 11 (b * 3 + p))) 0 (rA s 10 b) (nI 0)
def bGainAt (s : zs) (b p : Nat) : Int32 := if rA s 10 b ≤ p then nI 0 else kWarms (rA s 5 (rA s 11 (b * 3 + p))) (zfw (fun q d => if rF s 8 (rA s 11 (b * 3 + q)) ≤ 0 then d else d + nI 1) (p + 1) (rA s 10 b - (p + 1)) (rF s 8 (rA s 11 (b * 3 + p))))
def bLose (s : zs) (c : Nat) : zs := uF (uF (uF s 7 (upd (rF s 7) c (nI 0))) 8 (upd (rF s 8) c (nI 0))) 9 (upd (rF s 9) c (nI 0))
set_option maxRecDepth 20000 in
set_option maxHeartbeats 1000000 in
theorem c_top (G : zG) (g : zh) (a : Nat) (ha : a < 900) (s : zs) (hs : bOK s) (b : Nat) (hb : b < 3) : zK G mX0_top [.ref a, .int (nI b)] (sB g a s) (some (.int (bTop s b))) (sB g a s) := by
  obtain ⟨h11, h10, h6, h5, h0, h1⟩ := id hs
  have hh := h10 b
  refine zK_of 0 rfl (by decide) trivial (Nat.le_of_ble_eq_true rfl) rfl ?_
  refine z_aload_n iX0_top_0 rfl ?_
  refine z_getf iX0_top_1 fX0_27 (sB_o _ _ _) (BF_10 _ _) (by omega) ?_
  refine z_iload_n iX0_top_4 rfl ?_
  refine z_iaload iX0_top_5 (sB_10 _ _ _) rfl (by omega) (by decide) (by omega) ?_
  refine zn_if_ne iX0_top_6 (by omega) (fun q6 => ?_) (fun q6 => ?_)
  · refine z_aload_n iX0_top_13 rfl ?_
    refine z_getf iX0_top_14 fX0_30 (sB_o _ _ _) (BF_11 _ _) (by omega) ?_
    refine z_iload_n iX0_top_17 rfl ?_
    refine z_iconst iX0_top_18 zk_3 ?_
    refine z_imul iX0_top_19 ?_
    refine z_top nix_mul ?_
    refine z_aload_n iX0_top_20 rfl ?_
    refine z_getf iX0_top_21 fX0_27 (sB_o _ _ _) (BF_10 _ _) (by omega) ?_
    refine z_iload_n iX0_top_24 rfl ?_
    refine z_iaload iX0_top_25 (sB_10 _ _ _) rfl (by omega) (by decide) (by omega) ?_
    refine z_iadd iX0_top_26 ?_
    refine z_top nix_add ?_
    refine z_iconst iX0_top_27 zk_1 ?_
    refine z_isub iX0_top_28 ?_
    refine z_top (nix_sub (by omega)) ?_
    refine z_iaload iX0_top_29 (sB_11 _ _ _) rfl (by omega) (by decide) (by omega) ?_
    exact z_ireturn iX0_top_30 (by simp [bTop, *]) (rfl)
  · refine z_iconst iX0_top_9 zk_m1 ?_
    refine z_goto iX0_top_10 ?_
    exact z_ireturn iX0_top_30 (by simp [bTop, *]) (rfl)
set_option maxRecDepth 20000 in
set_option maxHeartbeats 1000000 in
theorem c_at (G : zG) (g : zh) (a : Nat) (ha : a < 900) (s : zs) (hs : bOK s) (b p : Nat) (hb : b < 3) (hp : p < 3) : zK G mX0_at [.ref a, .int (nI b), .int (nI p)] (sB g a s) (some (.int (bAt s b p))) (sB g a s) := by
  obtain ⟨h11, h10, h6, h5, h0, h1⟩ := id hs
  have hh := h10 b
  refine zK_of 0 rfl (by decide) trivial (Nat.le_of_ble_eq_true rfl) rfl ?_
  refine z_iload_n iX0_at_0 rfl ?_
  refine zn_if_lt iX0_at_1 (by omega) ?_
  refine z_iload_n iX0_at_4 rfl ?_
  refine z_aload_n iX0_at_5 rfl ?_
  refine z_getf iX0_at_6 fX0_27 (sB_o _ _ _) (BF_10 _ _) (by omega) ?_
  refine z_iload_n iX0_at_9 rfl ?_
  refine z_iaload iX0_at_10 (sB_10 _ _ _) rfl (by omega) (by decide) (by omega) ?_
  refine zn_lt iX0_at_11 (by omega) (by omega) (fun q11 => ?_) (fun q11 => ?_)
  · refine z_aload_n iX0_at_18 rfl ?_
    refine z_getf iX0_at_19 fX0_30 (sB_o _ _ _) (BF_11 _ _) (by omega) ?_
    refine z_iload_n iX0_at_22 rfl ?_
    refine z_iconst iX0_at_23 zk_3 ?_
    refine z_imul iX0_at_24 ?_
    refine z_top nix_mul ?_
    refine z_iload_n iX0_at_25 rfl ?_
    refine z_iadd iX0_at_26 ?_
    refine z_top nix_add ?_
    refine z_iaload iX0_at_27 (sB_11 _ _ _) rfl (by omega) (by decide) (by omega) ?_
    exact z_ireturn iX0_at_28 (by rw [bAt]; split <;> first | rfl | omega) (rfl)
  · refine z_iconst iX0_at_14 zk_m1 ?_
    refine z_goto iX0_at_15 ?_
    exact z_ireturn iX0_at_28 (by rw [bAt]; split <;> first | rfl | omega) (rfl)
set_option maxRecDepth 20000 in
set_option maxHeartbeats 1000000 in
theorem c_isGone (G : zG) (g : zh) (a : Nat) (ha : a < 900) (s : zs) (hs : bOK s) (c : Nat) (hc : c < 9) : zK G mX0_isGone [.ref a, .int (nI c)] (sB g a s) (some (.int (zbo (decide (rF s 7 c = 0))))) (sB g a s) := by
  refine zK_of 0 rfl (by decide) (zbo_n _) (Nat.le_of_ble_eq_true rfl) rfl ?_
  refine z_aload_n iX0_isGone_0 rfl ?_
  refine z_getf iX0_isGone_1 fX0_18 (sB_o _ _ _) (BF_7 _ _) (by omega) ?_
  refine z_iload_n iX0_isGone_4 rfl ?_
  refine z_iaload iX0_isGone_5 (sB_7 _ _ _) rfl (by omega) (by decide) (by omega) ?_
  refine z_if_ne iX0_isGone_6 (fun q6 => ?_) (fun q6 => ?_)
  · refine z_iconst iX0_isGone_13 zk_0 ?_
    exact z_ireturn iX0_isGone_14 (by simp [zbo, *] <;> decide +kernel) (rfl)
  · refine z_iconst iX0_isGone_9 zk_1 ?_
    refine z_goto iX0_isGone_10 ?_
    exact z_ireturn iX0_isGone_14 (by simp [zbo, *] <;> decide +kernel) (rfl)
set_option maxRecDepth 20000 in
set_option maxHeartbeats 1000000 in
theorem c_lose (G : zG) (g : zh) (a : Nat) (ha : a < 900) (s : zs) (hs : bOK s) (c : Nat) (hc : c < 9) : zK G mX0_lose [.ref a, .int (nI c)] (sB g a s) none (sB g a (bLose s c)) := by
  refine zK_of 0 rfl (by decide) trivial (Nat.le_of_ble_eq_true rfl) rfl ?_
  refine z_aload_n iX0_lose_0 rfl ?_
  refine z_getf iX0_lose_1 fX0_18 (sB_o _ _ _) (BF_7 _ _) (by omega) ?_
  refine z_iload_n iX0_lose_4 rfl ?_
  refine z_iconst iX0_lose_5 zk_0 ?_
  refine z_iastore iX0_lose_6 (sB_7 _ _ _) rfl (by omega) (by decide) (by omega) (by decide) ?_
  rw [sB_w7]
  refine z_aload_n iX0_lose_7 rfl ?_
  refine z_getf iX0_lose_8 fX0_21 (sB_o _ _ _) (BF_8 _ _) (by omega) ?_
  refine z_iload_n iX0_lose_11 rfl ?_
  refine z_iconst iX0_lose_12 zk_0 ?_
  refine z_iastore iX0_lose_13 (sB_8 _ _ _) rfl (by omega) (by decide) (by omega) (by decide) ?_
  rw [sB_w8]
  refine z_aload_n iX0_lose_14 rfl ?_
  refine z_getf iX0_lose_15 fX0_24 (sB_o _ _ _) (BF_9 _ _) (by omega) ?_
  refine z_iload_n iX0_lose_18 rfl ?_
  refine z_iconst iX0_lose_19 zk_0 ?_
  refine z_iastore iX0_lose_20 (sB_9 _ _ _) rfl (by omega) (by decide) (by omega) (by decide) ?_
  rw [sB_w9]
  exact z_return iX0_lose_21 (rfl)
set_option maxRecDepth 20000 in
set_option maxHeartbeats 1000000 in
theorem lp_lightOf (G : zG) (g : zh) (a : Nat) (ha : a < 900) (s : zs) (hs : bOK s) (b : Nat) (hb : b < 3) : ∀ (n i : Nat) (x : Int32), i + n = rA s 10 b → zS G mX0_lightOf 4 [some (.ref a), some (.int (nI b)), some (.int x), some (.int (nI i))] [] (sB g a s) (some (.int (zfw (fun p x => x + rF s 7 (rA s 11 (b * 3 + p))) i n x))) (sB g a s) := by
  obtain ⟨h11, h10, h6, h5, h0, h1⟩ := id hs
  have hh := h10 b
  intro n
  induction n with
  | zero =>
    intro i x hi
    refine z_iload_n iX0_lightOf_4 rfl ?_
    refine z_aload_n iX0_lightOf_5 rfl ?_
    refine z_getf iX0_lightOf_6 fX0_27 (sB_o _ _ _) (BF_10 _ _) (by omega) ?_
    refine z_iload_n iX0_lightOf_9 rfl ?_
    refine z_iaload iX0_lightOf_10 (sB_10 _ _ _) rfl (by omega) (by decide) (by omega) ?_
    refine zn_ge iX0_lightOf_11 (by omega) (by omega) (fun q11 => ?_) (fun q11 => absurd q11 (by omega))
    refine z_iload_n iX0_lightOf_38 rfl ?_
    exact z_ireturn iX0_lightOf_39 (rfl) (rfl)
  | succ n ih =>
    intro i x hi
    refine z_iload_n iX0_lightOf_4 rfl ?_
    refine z_aload_n iX0_lightOf_5 rfl ?_
    refine z_getf iX0_lightOf_6 fX0_27 (sB_o _ _ _) (BF_10 _ _) (by omega) ?_
    refine z_iload_n iX0_lightOf_9 rfl ?_
    refine z_iaload iX0_lightOf_10 (sB_10 _ _ _) rfl (by omega) (by decide) (by omega) ?_
    refine zn_ge iX0_lightOf_11 (by omega) (by omega) (fun q11 => absurd q11 (by omega)) (fun q11 => ?_)
    refine z_iload_n iX0_lightOf_14 rfl ?_
    refine z_aload_n iX0_lightOf_15 rfl ?_
    refine z_getf iX0_lightOf_16 fX0_18 (sB_o _ _ _) (BF_7 _ _) (by omega) ?_
    refine z_aload_n iX0_lightOf_19 rfl ?_
    refine z_getf iX0_lightOf_20 fX0_30 (sB_o _ _ _) (BF_11 _ _) (by omega) ?_
    refine z_iload_n iX0_lightOf_23 rfl ?_
    refine z_iconst iX0_lightOf_24 zk_3 ?_
    refine z_imul iX0_lightOf_25 ?_
    refine z_top nix_mul ?_
    refine z_iload_n iX0_lightOf_26 rfl ?_
    refine z_iadd iX0_lightOf_27 ?_
    refine z_top nix_add ?_
    refine z_iaload iX0_lightOf_28 (sB_11 _ _ _) rfl (by omega) (by decide) (by omega) ?_
    refine z_iaload iX0_lightOf_29 (sB_7 _ _ _) rfl (h11 _) (by decide) (by omega) ?_
    refine z_iadd iX0_lightOf_30 ?_
    refine z_istore_n iX0_lightOf_31 rfl (by decide) ?_
    refine z_iinc iX0_lightOf_32 rfl nix_inc rfl (by decide) ?_
    refine z_goto iX0_lightOf_35 ?_
    exact ih (i + 1) _ (by omega)
set_option maxRecDepth 20000 in
set_option maxHeartbeats 1000000 in
theorem c_lightOf (G : zG) (g : zh) (a : Nat) (ha : a < 900) (s : zs) (hs : bOK s) (b : Nat) (hb : b < 3) : zK G mX0_lightOf [.ref a, .int (nI b)] (sB g a s) (some (.int (bLightOf s b))) (sB g a s) := by
  refine zK_of 2 rfl (by decide) trivial (Nat.le_of_ble_eq_true rfl) rfl ?_
  refine z_iconst iX0_lightOf_0 zk_0 ?_
  refine z_istore_n iX0_lightOf_1 rfl (by decide) ?_
  refine z_iconst iX0_lightOf_2 zk_0 ?_
  refine z_istore_n iX0_lightOf_3 rfl (by decide) ?_
  exact lp_lightOf G g a ha s hs b hb _ 0 _ (Nat.zero_add _)
set_option maxRecDepth 20000 in
set_option maxHeartbeats 1000000 in
theorem lp_gainAt (G : zG) (g : zh) (a : Nat) (ha : a < 900) (s : zs) (hs : bOK s) (b : Nat) (hb : b < 3) (c p : Nat) (hc : c < 9) : ∀ (n i : Nat) (d : Int32), i + n = rA s 10 b → zS G mX0_gainAt 40 [some (.ref a), some (.int (nI b)), some (.int (nI p)), some (.int (nI c)), some (.int d), some (.int (nI i))] [] (sB g a s) (some (.int (kWarms (rA s 5 c) (zfw (fun q d => if rF s 8 (rA s 11 (b * 3 + q)) ≤ 0 then d else d + nI 1) i n d)))) (sB g a s) := by
  obtain ⟨h11, h10, h6, h5, h0, h1⟩ := id hs
  have hh := h10 b
  have hk := h5 c
  intro n
  induction n with
  | zero =>
    intro i d hi
    refine z_iload iX0_gainAt_40 rfl ?_
    refine z_aload_n iX0_gainAt_42 rfl ?_
    refine z_getf iX0_gainAt_43 fX0_27 (sB_o _ _ _) (BF_10 _ _) (by omega) ?_
    refine z_iload_n iX0_gainAt_46 rfl ?_
    refine z_iaload iX0_gainAt_47 (sB_10 _ _ _) rfl (by omega) (by decide) (by omega) ?_
    refine zn_ge iX0_gainAt_48 (by omega) (by omega) (fun q48 => ?_) (fun q48 => absurd q48 (by omega))
    refine z_aload_n iX0_gainAt_79 rfl ?_
    refine z_getf iX0_gainAt_80 fX0_9 (sB_o _ _ _) (BF_5 _ _) (by omega) ?_
    refine z_iload_n iX0_gainAt_83 rfl ?_
    refine z_iaload iX0_gainAt_84 (sB_5 _ _ _) rfl (by omega) (by decide) (by omega) ?_
    refine z_iload iX0_gainAt_85 rfl ?_
    refine z_csi (y1 := mX3_warms) iX0_gainAt_87 lX0_68 kX3_warms rfl (c_warms G _ _ _ (by omega)) rfl rfl (Nat.le_of_ble_eq_true rfl) ?_
    exact z_ireturn iX0_gainAt_90 (rfl) (rfl)
  | succ n ih =>
    intro i d hi
    refine z_iload iX0_gainAt_40 rfl ?_
    refine z_aload_n iX0_gainAt_42 rfl ?_
    refine z_getf iX0_gainAt_43 fX0_27 (sB_o _ _ _) (BF_10 _ _) (by omega) ?_
    refine z_iload_n iX0_gainAt_46 rfl ?_
    refine z_iaload iX0_gainAt_47 (sB_10 _ _ _) rfl (by omega) (by decide) (by omega) ?_
    refine zn_ge iX0_gainAt_48 (by omega) (by omega) (fun q48 => absurd q48 (by omega)) (fun q48 => ?_)
    refine z_aload_n iX0_gainAt_51 rfl ?_
    refine z_getf iX0_gainAt_52 fX0_21 (sB_o _ _ _) (BF_8 _ _) (by omega) ?_
    refine z_aload_n iX0_gainAt_55 rfl ?_
    refine z_getf iX0_gainAt_56 fX0_30 (sB_o _ _ _) (BF_11 _ _) (by omega) ?_
    refine z_iload_n iX0_gainAt_59 rfl ?_
    refine z_iconst iX0_gainAt_60 zk_3 ?_
    refine z_imul iX0_gainAt_61 ?_
    refine z_top nix_mul ?_
    refine z_iload iX0_gainAt_62 rfl ?_
    refine z_iadd iX0_gainAt_64 ?_
    refine z_top nix_add ?_
    refine z_iaload iX0_gainAt_65 (sB_11 _ _ _) rfl (by omega) (by decide) (by omega) ?_
    refine z_iaload iX0_gainAt_66 (sB_8 _ _ _) rfl (h11 _) (by decide) (by omega) ?_
    refine z_if_le iX0_gainAt_67 (fun q67 => ?_) (fun q67 => ?_)
    · refine z_iinc iX0_gainAt_73 rfl nix_inc rfl (by decide) ?_
      refine z_goto iX0_gainAt_76 ?_
      first
        | (simp only [zfw, if_pos q67]; exact ih (i + 1) _ (by omega))
        | (simp only [zfw, if_neg q67]; exact ih (i + 1) _ (by omega))
    · refine z_iinc iX0_gainAt_70 rfl zinc_i rfl (by decide) ?_
      refine z_iinc iX0_gainAt_73 rfl nix_inc rfl (by decide) ?_
      refine z_goto iX0_gainAt_76 ?_
      first
        | (simp only [zfw, if_pos q67]; exact ih (i + 1) _ (by omega))
        | (simp only [zfw, if_neg q67]; exact ih (i + 1) _ (by omega))
set_option maxRecDepth 20000 in
set_option maxHeartbeats 1000000 in
theorem c_gainAt (G : zG) (g : zh) (a : Nat) (ha : a < 900) (s : zs) (hs : bOK s) (b p : Nat) (hb : b < 3) (hp : p < 2 ^ 30) : zK G mX0_gainAt [.ref a, .int (nI b), .int (nI p)] (sB g a s) (some (.int (bGainAt s b p))) (sB g a s) := by
  obtain ⟨h11, h10, h6, h5, h0, h1⟩ := id hs
  have hh := h10 b
  refine zK_of 3 rfl (by decide) trivial (Nat.le_of_ble_eq_true rfl) rfl ?_
  refine z_iload_n iX0_gainAt_0 rfl ?_
  refine zn_if_lt iX0_gainAt_1 (by omega) ?_
  refine z_iload_n iX0_gainAt_4 rfl ?_
  refine z_aload_n iX0_gainAt_5 rfl ?_
  refine z_getf iX0_gainAt_6 fX0_27 (sB_o _ _ _) (BF_10 _ _) (by omega) ?_
  refine z_iload_n iX0_gainAt_9 rfl ?_
  refine z_iaload iX0_gainAt_10 (sB_10 _ _ _) rfl (by omega) (by decide) (by omega) ?_
  refine zn_lt iX0_gainAt_11 (by omega) (by omega) (fun q11 => ?_) (fun q11 => ?_)
  · refine z_aload_n iX0_gainAt_16 rfl ?_
    refine z_getf iX0_gainAt_17 fX0_30 (sB_o _ _ _) (BF_11 _ _) (by omega) ?_
    refine z_iload_n iX0_gainAt_20 rfl ?_
    refine z_iconst iX0_gainAt_21 zk_3 ?_
    refine z_imul iX0_gainAt_22 ?_
    refine z_top nix_mul ?_
    refine z_iload_n iX0_gainAt_23 rfl ?_
    refine z_iadd iX0_gainAt_24 ?_
    refine z_top nix_add ?_
    refine z_iaload iX0_gainAt_25 (sB_11 _ _ _) rfl (by omega) (by decide) (by omega) ?_
    refine z_istore_n iX0_gainAt_26 rfl (by decide) ?_
    refine z_aload_n iX0_gainAt_27 rfl ?_
    refine z_getf iX0_gainAt_28 fX0_21 (sB_o _ _ _) (BF_8 _ _) (by omega) ?_
    refine z_iload_n iX0_gainAt_31 rfl ?_
    refine z_iaload iX0_gainAt_32 (sB_8 _ _ _) rfl (h11 _) (by decide) (by omega) ?_
    refine z_istore iX0_gainAt_33 rfl (by decide) ?_
    refine z_iload_n iX0_gainAt_35 rfl ?_
    refine z_iconst iX0_gainAt_36 zk_1 ?_
    refine z_iadd iX0_gainAt_37 ?_
    refine z_top nix_add ?_
    refine z_istore iX0_gainAt_38 rfl (by decide) ?_
    rw [bGainAt, if_neg (by omega)]
    exact lp_gainAt G g a ha s hs b hb _ _ (h11 _) _ (p + 1) _ (by omega)
  · refine z_iconst iX0_gainAt_14 zk_0 ?_
    exact z_ireturn iX0_gainAt_15 (by simp [bGainAt, *]) (rfl)
def zfind (P : Nat → Bool) : Nat → Nat → Option Nat
  | _, 0 => none
  | i, n + 1 => if P i = true then some i else zfind P (i + 1) n
theorem zfind_lt {P : Nat → Bool} : ∀ (n i p : Nat), zfind P i n = some p → i ≤ p ∧ p < i + n ∧ P p = true ∧ ∀ j, i ≤ j → j < p → P j = false
  | 0, i, p, h => by simp [zfind] at h
  | n + 1, i, p, h => by
    unfold zfind at h
    split at h
    · cases h
      exact ⟨Nat.le_refl _, by omega, by assumption, fun j h1 h2 => by omega⟩
    · obtain ⟨a, b, c, d⟩ := zfind_lt n (i + 1) p h
      refine ⟨by omega, by omega, c, fun j h1 h2 => ?_⟩
      by_cases e : j = i
      · subst e
        simpa using (by assumption : ¬ P j = true)
      · exact d j (by omega) h2
def bFind (s : zs) (c : Nat) : Option Nat := zfind (fun p => Nat.beq (rA s 11 (rA s 6 c * 3 + p)) c) 0 (rA s 10 (rA s 6 c))
theorem nI_m1 {c : Nat} (h : c < 2 ^ 31) : ¬ nI c = -1 := by
  intro e
  have h1 := congrArg Int32.toInt e
  rw [nI_toInt h] at h1
  have h2 : (-1 : Int32).toInt = -1 := by decide +kernel
  omega
set_option maxRecDepth 20000 in
set_option maxHeartbeats 1000000 in
theorem lp_placeOf (G : zG) (g : zh) (a : Nat) (ha : a < 900) (s : zs) (hs : bOK s) (c : Nat) (hc : c < 9) (p : Nat) : ∀ (n i : Nat) , i + n = rA s 10 (rA s 6 c) → zfind (fun p => Nat.beq (rA s 11 (rA s 6 c * 3 + p)) c) i n = some p → zS G mX0_placeOf 9 [some (.ref a), some (.int (nI c)), some (.int (nI (rA s 6 c))), some (.int (nI i))] [] (sB g a s) (some (.int (nI p))) (sB g a s) := by
  obtain ⟨h11, h10, h6, h5, h0, h1⟩ := id hs
  have hb := h6 c
  have hh := h10 (rA s 6 c)
  intro n
  induction n with
  | zero =>
    intro i hi hf
    exact absurd hf (by simp [zfind])
  | succ n ih =>
    intro i hi hf
    refine z_iload_n iX0_placeOf_9 rfl ?_
    refine z_aload_n iX0_placeOf_10 rfl ?_
    refine z_getf iX0_placeOf_11 fX0_27 (sB_o _ _ _) (BF_10 _ _) (by omega) ?_
    refine z_iload_n iX0_placeOf_14 rfl ?_
    refine z_iaload iX0_placeOf_15 (sB_10 _ _ _) rfl (by omega) (by decide) (by omega) ?_
    refine zn_ge iX0_placeOf_16 (by omega) (by omega) (fun q16 => absurd q16 (by omega)) (fun q16 => ?_)
    refine z_aload_n iX0_placeOf_19 rfl ?_
    refine z_getf iX0_placeOf_20 fX0_30 (sB_o _ _ _) (BF_11 _ _) (by omega) ?_
    refine z_iload_n iX0_placeOf_23 rfl ?_
    refine z_iconst iX0_placeOf_24 zk_3 ?_
    refine z_imul iX0_placeOf_25 ?_
    refine z_top nix_mul ?_
    refine z_iload_n iX0_placeOf_26 rfl ?_
    refine z_iadd iX0_placeOf_27 ?_
    refine z_top nix_add ?_
    refine z_iaload iX0_placeOf_28 (sB_11 _ _ _) rfl (by omega) (by decide) (by omega) ?_
    refine z_iload_n iX0_placeOf_29 rfl ?_
    have hlt := h11 (rA s 6 c * 3 + i)
    refine zn_ne iX0_placeOf_30 (by omega) (by omega) (fun q30 => ?_) (fun q30 => ?_)
    · refine z_iinc iX0_placeOf_35 rfl nix_inc rfl (by decide) ?_
      refine z_goto iX0_placeOf_38 ?_
      refine ih (i + 1) (by omega) ?_
      unfold zfind at hf
      rw [if_neg (by intro z; exact q30 (Nat.eq_of_beq_eq_true z))] at hf
      exact hf
    · refine z_iload_n iX0_placeOf_33 rfl ?_
      exact z_ireturn iX0_placeOf_34 (by
      unfold zfind at hf
      rw [if_pos (by rw [q30]; exact Nat.beq_refl c)] at hf
      cases hf; rfl) (rfl)
set_option maxRecDepth 20000 in
set_option maxHeartbeats 1000000 in
theorem c_placeOf (G : zG) (g : zh) (a : Nat) (ha : a < 900) (s : zs) (hs : bOK s) (c : Nat) (hc : c < 9) (p : Nat) (hf : bFind s c = some p) : zK G mX0_placeOf [.ref a, .int (nI c)] (sB g a s) (some (.int (nI p))) (sB g a s) := by
  obtain ⟨h11, h10, h6, h5, h0, h1⟩ := id hs
  refine zK_of 2 rfl (by decide) trivial (Nat.le_of_ble_eq_true rfl) rfl ?_
  refine z_aload_n iX0_placeOf_0 rfl ?_
  refine z_getf iX0_placeOf_1 fX0_15 (sB_o _ _ _) (BF_6 _ _) (by omega) ?_
  refine z_iload_n iX0_placeOf_4 rfl ?_
  refine z_iaload iX0_placeOf_5 (sB_6 _ _ _) rfl (by omega) (by decide) (by omega) ?_
  refine z_istore_n iX0_placeOf_6 rfl (by decide) ?_
  refine z_iconst iX0_placeOf_7 zk_0 ?_
  refine z_istore_n iX0_placeOf_8 rfl (by decide) ?_
  exact lp_placeOf G g a ha s hs c hc p _ 0 (Nat.zero_add _) hf
set_option maxRecDepth 20000 in
set_option maxHeartbeats 1000000 in
theorem c_howManyOn (G : zG) (g : zh) (a : Nat) (ha : a < 900) (s : zs) (hs : bOK s) (c : Nat) (hc : c < 9) (p : Nat) (hf : bFind s c = some p) : zK G mX0_howManyOn [.ref a, .int (nI c)] (sB g a s) (some (.int (nI (rA s 10 (rA s 6 c) - 1 - p)))) (sB g a s) := by
  obtain ⟨h11, h10, h6, h5, h0, h1⟩ := id hs
  obtain ⟨z1, z2, -, -⟩ := zfind_lt _ _ _ hf
  have hb := h6 c
  refine zK_of 0 rfl (by decide) trivial (Nat.le_of_ble_eq_true rfl) rfl ?_
  refine z_aload_n iX0_howManyOn_0 rfl ?_
  refine z_getf iX0_howManyOn_1 fX0_27 (sB_o _ _ _) (BF_10 _ _) (by omega) ?_
  refine z_aload_n iX0_howManyOn_4 rfl ?_
  refine z_getf iX0_howManyOn_5 fX0_15 (sB_o _ _ _) (BF_6 _ _) (by omega) ?_
  refine z_iload_n iX0_howManyOn_8 rfl ?_
  refine z_iaload iX0_howManyOn_9 (sB_6 _ _ _) rfl (by omega) (by decide) (by omega) ?_
  refine z_iaload iX0_howManyOn_10 (sB_10 _ _ _) rfl (by omega) (by decide) (by omega) ?_
  refine z_iconst iX0_howManyOn_11 zk_1 ?_
  refine z_isub iX0_howManyOn_12 ?_
  refine z_top (nix_sub (by omega)) ?_
  refine z_aload_n iX0_howManyOn_13 rfl ?_
  refine z_iload_n iX0_howManyOn_14 rfl ?_
  refine z_cvi (y1 := mX0_placeOf) iX0_howManyOn_15 lX0_55 kX0_placeOf rfl (c_placeOf G g a ha s hs c hc p hf) (sB_o _ _ _) rfl rfl rfl (Nat.le_of_ble_eq_true rfl) (by omega) ?_
  refine z_isub iX0_howManyOn_18 ?_
  refine z_top (nix_sub (by omega)) ?_
  exact z_ireturn iX0_howManyOn_19 (rfl) (rfl)
set_option maxRecDepth 20000 in
set_option maxHeartbeats 1000000 in
theorem c_gain (G : zG) (g : zh) (a : Nat) (ha : a < 900) (s : zs) (hs : bOK s) (c : Nat) (hc : c < 9) (p : Nat) (hf : bFind s c = some p) : zK G mX0_gain [.ref a, .int (nI c)] (sB g a s) (some (.int (bGainAt s (rA s 6 c) p))) (sB g a s) := by
  obtain ⟨h11, h10, h6, h5, h0, h1⟩ := id hs
  obtain ⟨z1, z2, -, -⟩ := zfind_lt _ _ _ hf
  have hb := h6 c
  have hh := h10 (rA s 6 c)
  refine zK_of 0 rfl (by decide) trivial (Nat.le_of_ble_eq_true rfl) rfl ?_
  refine z_aload_n iX0_gain_0 rfl ?_
  refine z_aload_n iX0_gain_1 rfl ?_
  refine z_getf iX0_gain_2 fX0_15 (sB_o _ _ _) (BF_6 _ _) (by omega) ?_
  refine z_iload_n iX0_gain_5 rfl ?_
  refine z_iaload iX0_gain_6 (sB_6 _ _ _) rfl (by omega) (by decide) (by omega) ?_
  refine z_aload_n iX0_gain_7 rfl ?_
  refine z_iload_n iX0_gain_8 rfl ?_
  refine z_cvi (y1 := mX0_placeOf) iX0_gain_9 lX0_55 kX0_placeOf rfl (c_placeOf G g a ha s hs c hc p hf) (sB_o _ _ _) rfl rfl rfl (Nat.le_of_ble_eq_true rfl) (by omega) ?_
  refine z_cvi (y1 := mX0_gainAt) iX0_gain_12 lX0_65 kX0_gainAt rfl (c_gainAt G g a ha s hs _ p hb (by omega)) (sB_o _ _ _) rfl rfl rfl (Nat.le_of_ble_eq_true rfl) (by omega) ?_
  exact z_ireturn iX0_gain_15 (rfl) (rfl)
def bLightSome (s : zs) (b t : Nat) : Int32 := zfw (fun p x => if t / 2 ^ p % 2 = 1 then x + rF s 7 (rA s 11 (b * 3 + p)) else x) 0 (rA s 10 b) (nI 0)
set_option maxRecDepth 20000 in
set_option maxHeartbeats 1000000 in
theorem lp_lightSome (G : zG) (g : zh) (a : Nat) (ha : a < 900) (s : zs) (hs : bOK s) (b t : Nat) (hb : b < 3) (ht : t < 2 ^ 30) : ∀ (n i : Nat) (x : Int32), i + n = rA s 10 b → zS G mX0_lightOfSome 5 [some (.ref a), some (.int (nI b)), some (.int (nI t)), some (.int x), some (.int (nI i))] [] (sB g a s) (some (.int (zfw (fun p x => if t / 2 ^ p % 2 = 1 then x + rF s 7 (rA s 11 (b * 3 + p)) else x) i n x))) (sB g a s) := by
  obtain ⟨h11, h10, h6, h5, h0, h1⟩ := id hs
  have hh := h10 b
  intro n
  induction n with
  | zero =>
    intro i x hi
    refine z_iload iX0_lightOfSome_5 rfl ?_
    refine z_aload_n iX0_lightOfSome_7 rfl ?_
    refine z_getf iX0_lightOfSome_8 fX0_27 (sB_o _ _ _) (BF_10 _ _) (by omega) ?_
    refine z_iload_n iX0_lightOfSome_11 rfl ?_
    refine z_iaload iX0_lightOfSome_12 (sB_10 _ _ _) rfl (by omega) (by decide) (by omega) ?_
    refine zn_ge iX0_lightOfSome_13 (by omega) (by omega) (fun q13 => ?_) (fun q13 => absurd q13 (by omega))
    refine z_iload_n iX0_lightOfSome_51 rfl ?_
    exact z_ireturn iX0_lightOfSome_52 (rfl) (rfl)
  | succ n ih =>
    intro i x hi
    refine z_iload iX0_lightOfSome_5 rfl ?_
    refine z_aload_n iX0_lightOfSome_7 rfl ?_
    refine z_getf iX0_lightOfSome_8 fX0_27 (sB_o _ _ _) (BF_10 _ _) (by omega) ?_
    refine z_iload_n iX0_lightOfSome_11 rfl ?_
    refine z_iaload iX0_lightOfSome_12 (sB_10 _ _ _) rfl (by omega) (by decide) (by omega) ?_
    refine zn_ge iX0_lightOfSome_13 (by omega) (by omega) (fun q13 => absurd q13 (by omega)) (fun q13 => ?_)
    refine z_iload_n iX0_lightOfSome_16 rfl ?_
    refine z_iload iX0_lightOfSome_17 rfl ?_
    refine z_ishr iX0_lightOfSome_19 ?_
    refine z_top (nix_shr (by omega) (by omega)) ?_
    refine z_iconst iX0_lightOfSome_20 zk_1 ?_
    refine z_iand iX0_lightOfSome_21 ?_
    refine z_top nix_and1 ?_
    refine z_iconst iX0_lightOfSome_22 zk_1 ?_
    refine zn_ne iX0_lightOfSome_23 (by omega) (by omega) (fun q23 => ?_) (fun q23 => ?_)
    · refine z_iinc iX0_lightOfSome_45 rfl nix_inc rfl (by decide) ?_
      refine z_goto iX0_lightOfSome_48 ?_
      first
        | (simp only [zfw, if_pos q23]; exact ih (i + 1) _ (by omega))
        | (simp only [zfw, if_neg q23]; exact ih (i + 1) _ (by omega))
    · refine z_iload_n iX0_lightOfSome_26 rfl ?_
      refine z_aload_n iX0_lightOfSome_27 rfl ?_
      refine z_getf iX0_lightOfSome_28 fX0_18 (sB_o _ _ _) (BF_7 _ _) (by omega) ?_
      refine z_aload_n iX0_lightOfSome_31 rfl ?_
      refine z_getf iX0_lightOfSome_32 fX0_30 (sB_o _ _ _) (BF_11 _ _) (by omega) ?_
      refine z_iload_n iX0_lightOfSome_35 rfl ?_
      refine z_iconst iX0_lightOfSome_36 zk_3 ?_
      refine z_imul iX0_lightOfSome_37 ?_
      refine z_top nix_mul ?_
      refine z_iload iX0_lightOfSome_38 rfl ?_
      refine z_iadd iX0_lightOfSome_40 ?_
      refine z_top nix_add ?_
      refine z_iaload iX0_lightOfSome_41 (sB_11 _ _ _) rfl (by omega) (by decide) (by omega) ?_
      refine z_iaload iX0_lightOfSome_42 (sB_7 _ _ _) rfl (h11 _) (by decide) (by omega) ?_
      refine z_iadd iX0_lightOfSome_43 ?_
      refine z_istore_n iX0_lightOfSome_44 rfl (by decide) ?_
      refine z_iinc iX0_lightOfSome_45 rfl nix_inc rfl (by decide) ?_
      refine z_goto iX0_lightOfSome_48 ?_
      first
        | (simp only [zfw, if_pos q23]; exact ih (i + 1) _ (by omega))
        | (simp only [zfw, if_neg q23]; exact ih (i + 1) _ (by omega))
set_option maxRecDepth 20000 in
set_option maxHeartbeats 1000000 in
theorem c_lightSome (G : zG) (g : zh) (a : Nat) (ha : a < 900) (s : zs) (hs : bOK s) (b t : Nat) (hb : b < 3) (ht : t < 2 ^ 30) : zK G mX0_lightOfSome [.ref a, .int (nI b), .int (nI t)] (sB g a s) (some (.int (bLightSome s b t))) (sB g a s) := by
  refine zK_of 2 rfl (by decide) trivial (Nat.le_of_ble_eq_true rfl) rfl ?_
  refine z_iconst iX0_lightOfSome_0 zk_0 ?_
  refine z_istore_n iX0_lightOfSome_1 rfl (by decide) ?_
  refine z_iconst iX0_lightOfSome_2 zk_0 ?_
  refine z_istore iX0_lightOfSome_3 rfl (by decide) ?_
  exact lp_lightSome G g a ha s hs b t hb ht _ 0 _ (Nat.zero_add _)
def bLightAll (s : zs) : Int32 := zfw (fun c x => x + rF s 7 c) 0 (rN s 1) (nI 0)
set_option maxRecDepth 20000 in
set_option maxHeartbeats 1000000 in
theorem lp_LightAll (G : zG) (g : zh) (a : Nat) (ha : a < 900) (s : zs) (hs : bOK s) : ∀ (n i : Nat) (x : Int32), i + n = rN s 1 → zS G mX0_lightOfAll 4 [some (.ref a), some (.int x), some (.int (nI i))] [] (sB g a s) (some (.int (zfw (fun c x => x + rF s 7 c) i n x))) (sB g a s) := by
  obtain ⟨h11, h10, h6, h5, h0, h1⟩ := id hs
  intro n
  induction n with
  | zero =>
    intro i x hi
    refine z_iload_n iX0_lightOfAll_4 rfl ?_
    refine z_aload_n iX0_lightOfAll_5 rfl ?_
    refine z_getf iX0_lightOfAll_6 fX0_37 (sB_o _ _ _) (BF_1 _ _) (by omega) ?_
    refine zn_ge iX0_lightOfAll_9 (by omega) (by omega) (fun q9 => ?_) (fun q9 => absurd q9 (by omega))
    refine z_iload_n iX0_lightOfAll_27 rfl ?_
    exact z_ireturn iX0_lightOfAll_28 (rfl) (rfl)
  | succ n ih =>
    intro i x hi
    refine z_iload_n iX0_lightOfAll_4 rfl ?_
    refine z_aload_n iX0_lightOfAll_5 rfl ?_
    refine z_getf iX0_lightOfAll_6 fX0_37 (sB_o _ _ _) (BF_1 _ _) (by omega) ?_
    refine zn_ge iX0_lightOfAll_9 (by omega) (by omega) (fun q9 => absurd q9 (by omega)) (fun q9 => ?_)
    refine z_iload_n iX0_lightOfAll_12 rfl ?_
    refine z_aload_n iX0_lightOfAll_13 rfl ?_
    refine z_getf iX0_lightOfAll_14 fX0_18 (sB_o _ _ _) (BF_7 _ _) (by omega) ?_
    refine z_iload_n iX0_lightOfAll_17 rfl ?_
    refine z_iaload iX0_lightOfAll_18 (sB_7 _ _ _) rfl (by omega) (by decide) (by omega) ?_
    refine z_iadd iX0_lightOfAll_19 ?_
    refine z_istore_n iX0_lightOfAll_20 rfl (by decide) ?_
    refine z_iinc iX0_lightOfAll_21 rfl nix_inc rfl (by decide) ?_
    refine z_goto iX0_lightOfAll_24 ?_
    exact ih (i + 1) _ (by omega)
set_option maxRecDepth 20000 in
set_option maxHeartbeats 1000000 in
theorem c_LightAll (G : zG) (g : zh) (a : Nat) (ha : a < 900) (s : zs) (hs : bOK s) : zK G mX0_lightOfAll [.ref a] (sB g a s) (some (.int (bLightAll s))) (sB g a s) := by
  refine zK_of 2 rfl (by decide) trivial (Nat.le_of_ble_eq_true rfl) rfl ?_
  refine z_iconst iX0_lightOfAll_0 zk_0 ?_
  refine z_istore_n iX0_lightOfAll_1 rfl (by decide) ?_
  refine z_iconst iX0_lightOfAll_2 zk_0 ?_
  refine z_istore_n iX0_lightOfAll_3 rfl (by decide) ?_
  exact lp_LightAll G g a ha s hs _ 0 _ (Nat.zero_add _)
def bWetAll (s : zs) : Int32 := zfw (fun c x => x + rF s 8 c) 0 (rN s 1) (nI 0)
set_option maxRecDepth 20000 in
set_option maxHeartbeats 1000000 in
theorem lp_WetAll (G : zG) (g : zh) (a : Nat) (ha : a < 900) (s : zs) (hs : bOK s) : ∀ (n i : Nat) (x : Int32), i + n = rN s 1 → zS G mX0_wetOfAll 4 [some (.ref a), some (.int x), some (.int (nI i))] [] (sB g a s) (some (.int (zfw (fun c x => x + rF s 8 c) i n x))) (sB g a s) := by
  obtain ⟨h11, h10, h6, h5, h0, h1⟩ := id hs
  intro n
  induction n with
  | zero =>
    intro i x hi
    refine z_iload_n iX0_wetOfAll_4 rfl ?_
    refine z_aload_n iX0_wetOfAll_5 rfl ?_
    refine z_getf iX0_wetOfAll_6 fX0_37 (sB_o _ _ _) (BF_1 _ _) (by omega) ?_
    refine zn_ge iX0_wetOfAll_9 (by omega) (by omega) (fun q9 => ?_) (fun q9 => absurd q9 (by omega))
    refine z_iload_n iX0_wetOfAll_27 rfl ?_
    exact z_ireturn iX0_wetOfAll_28 (rfl) (rfl)
  | succ n ih =>
    intro i x hi
    refine z_iload_n iX0_wetOfAll_4 rfl ?_
    refine z_aload_n iX0_wetOfAll_5 rfl ?_
    refine z_getf iX0_wetOfAll_6 fX0_37 (sB_o _ _ _) (BF_1 _ _) (by omega) ?_
    refine zn_ge iX0_wetOfAll_9 (by omega) (by omega) (fun q9 => absurd q9 (by omega)) (fun q9 => ?_)
    refine z_iload_n iX0_wetOfAll_12 rfl ?_
    refine z_aload_n iX0_wetOfAll_13 rfl ?_
    refine z_getf iX0_wetOfAll_14 fX0_21 (sB_o _ _ _) (BF_8 _ _) (by omega) ?_
    refine z_iload_n iX0_wetOfAll_17 rfl ?_
    refine z_iaload iX0_wetOfAll_18 (sB_8 _ _ _) rfl (by omega) (by decide) (by omega) ?_
    refine z_iadd iX0_wetOfAll_19 ?_
    refine z_istore_n iX0_wetOfAll_20 rfl (by decide) ?_
    refine z_iinc iX0_wetOfAll_21 rfl nix_inc rfl (by decide) ?_
    refine z_goto iX0_wetOfAll_24 ?_
    exact ih (i + 1) _ (by omega)
set_option maxRecDepth 20000 in
set_option maxHeartbeats 1000000 in
theorem c_WetAll (G : zG) (g : zh) (a : Nat) (ha : a < 900) (s : zs) (hs : bOK s) : zK G mX0_wetOfAll [.ref a] (sB g a s) (some (.int (bWetAll s))) (sB g a s) := by
  refine zK_of 2 rfl (by decide) trivial (Nat.le_of_ble_eq_true rfl) rfl ?_
  refine z_iconst iX0_wetOfAll_0 zk_0 ?_
  refine z_istore_n iX0_wetOfAll_1 rfl (by decide) ?_
  refine z_iconst iX0_wetOfAll_2 zk_0 ?_
  refine z_istore_n iX0_wetOfAll_3 rfl (by decide) ?_
  exact lp_WetAll G g a ha s hs _ 0 _ (Nat.zero_add _)
def bMostWarm (s : zs) : Int32 := zfw (fun c x => if x < rF s 9 c then rF s 9 c else x) 0 (rN s 1) (nI 0)
set_option maxRecDepth 20000 in
set_option maxHeartbeats 1000000 in
theorem lp_MostWarm (G : zG) (g : zh) (a : Nat) (ha : a < 900) (s : zs) (hs : bOK s) : ∀ (n i : Nat) (x : Int32), i + n = rN s 1 → zS G mX0_mostWarm 4 [some (.ref a), some (.int x), some (.int (nI i))] [] (sB g a s) (some (.int (zfw (fun c x => if x < rF s 9 c then rF s 9 c else x) i n x))) (sB g a s) := by
  obtain ⟨h11, h10, h6, h5, h0, h1⟩ := id hs
  intro n
  induction n with
  | zero =>
    intro i x hi
    refine z_iload_n iX0_mostWarm_4 rfl ?_
    refine z_aload_n iX0_mostWarm_5 rfl ?_
    refine z_getf iX0_mostWarm_6 fX0_37 (sB_o _ _ _) (BF_1 _ _) (by omega) ?_
    refine zn_ge iX0_mostWarm_9 (by omega) (by omega) (fun q9 => ?_) (fun q9 => absurd q9 (by omega))
    refine z_iload_n iX0_mostWarm_29 rfl ?_
    exact z_ireturn iX0_mostWarm_30 (rfl) (rfl)
  | succ n ih =>
    intro i x hi
    refine z_iload_n iX0_mostWarm_4 rfl ?_
    refine z_aload_n iX0_mostWarm_5 rfl ?_
    refine z_getf iX0_mostWarm_6 fX0_37 (sB_o _ _ _) (BF_1 _ _) (by omega) ?_
    refine zn_ge iX0_mostWarm_9 (by omega) (by omega) (fun q9 => absurd q9 (by omega)) (fun q9 => ?_)
    refine z_iload_n iX0_mostWarm_12 rfl ?_
    refine z_aload_n iX0_mostWarm_13 rfl ?_
    refine z_getf iX0_mostWarm_14 fX0_24 (sB_o _ _ _) (BF_9 _ _) (by omega) ?_
    refine z_iload_n iX0_mostWarm_17 rfl ?_
    refine z_iaload iX0_mostWarm_18 (sB_9 _ _ _) rfl (by omega) (by decide) (by omega) ?_
    refine z_mmax iX0_mostWarm_19 lX0_59 (by decide) (Nat.le_of_ble_eq_true rfl) ?_
    refine z_istore_n iX0_mostWarm_22 rfl (by decide) ?_
    refine z_iinc iX0_mostWarm_23 rfl nix_inc rfl (by decide) ?_
    refine z_goto iX0_mostWarm_26 ?_
    exact ih (i + 1) _ (by omega)
set_option maxRecDepth 20000 in
set_option maxHeartbeats 1000000 in
theorem c_MostWarm (G : zG) (g : zh) (a : Nat) (ha : a < 900) (s : zs) (hs : bOK s) : zK G mX0_mostWarm [.ref a] (sB g a s) (some (.int (bMostWarm s))) (sB g a s) := by
  refine zK_of 2 rfl (by decide) trivial (Nat.le_of_ble_eq_true rfl) rfl ?_
  refine z_iconst iX0_mostWarm_0 zk_0 ?_
  refine z_istore_n iX0_mostWarm_1 rfl (by decide) ?_
  refine z_iconst iX0_mostWarm_2 zk_0 ?_
  refine z_istore_n iX0_mostWarm_3 rfl (by decide) ?_
  exact lp_MostWarm G g a ha s hs _ 0 _ (Nat.zero_add _)
def bLie (s : zs) : Nat := zfw (fun b x => x + rA s 10 b) 0 (rN s 0) 0
set_option maxRecDepth 20000 in
set_option maxHeartbeats 1000000 in
theorem lp_Lie (G : zG) (g : zh) (a : Nat) (ha : a < 900) (s : zs) (hs : bOK s) : ∀ (n i : Nat) (x : Nat), i + n = rN s 0 → zS G mX0_howManyLie 4 [some (.ref a), some (.int (nI x)), some (.int (nI i))] [] (sB g a s) (some (.int (nI (zfw (fun b x => x + rA s 10 b) i n x)))) (sB g a s) := by
  obtain ⟨h11, h10, h6, h5, h0, h1⟩ := id hs
  intro n
  induction n with
  | zero =>
    intro i x hi
    refine z_iload_n iX0_howManyLie_4 rfl ?_
    refine z_aload_n iX0_howManyLie_5 rfl ?_
    refine z_getf iX0_howManyLie_6 fX0_33 (sB_o _ _ _) (BF_0 _ _) (by omega) ?_
    refine zn_ge iX0_howManyLie_9 (by omega) (by omega) (fun q9 => ?_) (fun q9 => absurd q9 (by omega))
    refine z_iload_n iX0_howManyLie_27 rfl ?_
    exact z_ireturn iX0_howManyLie_28 (rfl) (rfl)
  | succ n ih =>
    intro i x hi
    refine z_iload_n iX0_howManyLie_4 rfl ?_
    refine z_aload_n iX0_howManyLie_5 rfl ?_
    refine z_getf iX0_howManyLie_6 fX0_33 (sB_o _ _ _) (BF_0 _ _) (by omega) ?_
    refine zn_ge iX0_howManyLie_9 (by omega) (by omega) (fun q9 => absurd q9 (by omega)) (fun q9 => ?_)
    refine z_iload_n iX0_howManyLie_12 rfl ?_
    refine z_aload_n iX0_howManyLie_13 rfl ?_
    refine z_getf iX0_howManyLie_14 fX0_27 (sB_o _ _ _) (BF_10 _ _) (by omega) ?_
    refine z_iload_n iX0_howManyLie_17 rfl ?_
    refine z_iaload iX0_howManyLie_18 (sB_10 _ _ _) rfl (by omega) (by decide) (by omega) ?_
    refine z_iadd iX0_howManyLie_19 ?_
    refine z_top nix_add ?_
    refine z_istore_n iX0_howManyLie_20 rfl (by decide) ?_
    refine z_iinc iX0_howManyLie_21 rfl nix_inc rfl (by decide) ?_
    refine z_goto iX0_howManyLie_24 ?_
    exact ih (i + 1) _ (by omega)
set_option maxRecDepth 20000 in
set_option maxHeartbeats 1000000 in
theorem c_Lie (G : zG) (g : zh) (a : Nat) (ha : a < 900) (s : zs) (hs : bOK s) : zK G mX0_howManyLie [.ref a] (sB g a s) (some (.int (nI (bLie s)))) (sB g a s) := by
  refine zK_of 2 rfl (by decide) trivial (Nat.le_of_ble_eq_true rfl) rfl ?_
  refine z_iconst iX0_howManyLie_0 zk_0 ?_
  refine z_istore_n iX0_howManyLie_1 rfl (by decide) ?_
  refine z_iconst iX0_howManyLie_2 zk_0 ?_
  refine z_istore_n iX0_howManyLie_3 rfl (by decide) ?_
  exact lp_Lie G g a ha s hs _ 0 _ (Nat.zero_add _)
def bWarm (s : zs) (b : Nat) : zs := zfw (fun p x => uF x 9 (upd (rF x 9) (rA x 11 (b * 3 + p)) (rF x 9 (rA x 11 (b * 3 + p)) + bGainAt x b p))) 0 (rA s 10 b) s
set_option maxRecDepth 20000 in
set_option maxHeartbeats 1000000 in
theorem lp_warm (G : zG) (g : zh) (a : Nat) (ha : a < 900) (b : Nat) (hb : b < 3) : ∀ (n i : Nat) (x : zs), bOK x → i + n = rA x 10 b → zS G mX0_warmBay 2 [some (.ref a), some (.int (nI b)), some (.int (nI i))] [] (sB g a x) none (sB g a (zfw (fun p x => uF x 9 (upd (rF x 9) (rA x 11 (b * 3 + p)) (rF x 9 (rA x 11 (b * 3 + p)) + bGainAt x b p))) i n x)) := by
  intro n
  induction n with
  | zero =>
    intro i x hs hi
    obtain ⟨h11, h10, h6, h5, h0, h1⟩ := id hs
    have hh := h10 b
    refine z_iload_n iX0_warmBay_2 rfl ?_
    refine z_aload_n iX0_warmBay_3 rfl ?_
    refine z_getf iX0_warmBay_4 fX0_27 (sB_o _ _ _) (BF_10 _ _) (by omega) ?_
    refine z_iload_n iX0_warmBay_7 rfl ?_
    refine z_iaload iX0_warmBay_8 (sB_10 _ _ _) rfl (by omega) (by decide) (by omega) ?_
    refine zn_ge iX0_warmBay_9 (by omega) (by omega) (fun q9 => ?_) (fun q9 => absurd q9 (by omega))
    exact z_return iX0_warmBay_42 (rfl)
  | succ n ih =>
    intro i x hs hi
    obtain ⟨h11, h10, h6, h5, h0, h1⟩ := id hs
    have hh := h10 b
    refine z_iload_n iX0_warmBay_2 rfl ?_
    refine z_aload_n iX0_warmBay_3 rfl ?_
    refine z_getf iX0_warmBay_4 fX0_27 (sB_o _ _ _) (BF_10 _ _) (by omega) ?_
    refine z_iload_n iX0_warmBay_7 rfl ?_
    refine z_iaload iX0_warmBay_8 (sB_10 _ _ _) rfl (by omega) (by decide) (by omega) ?_
    refine zn_ge iX0_warmBay_9 (by omega) (by omega) (fun q9 => absurd q9 (by omega)) (fun q9 => ?_)
    refine z_aload_n iX0_warmBay_12 rfl ?_
    refine z_getf iX0_warmBay_13 fX0_24 (sB_o _ _ _) (BF_9 _ _) (by omega) ?_
    refine z_aload_n iX0_warmBay_16 rfl ?_
    refine z_getf iX0_warmBay_17 fX0_30 (sB_o _ _ _) (BF_11 _ _) (by omega) ?_
    refine z_iload_n iX0_warmBay_20 rfl ?_
    refine z_iconst iX0_warmBay_21 zk_3 ?_
    refine z_imul iX0_warmBay_22 ?_
    refine z_top nix_mul ?_
    refine z_iload_n iX0_warmBay_23 rfl ?_
    refine z_iadd iX0_warmBay_24 ?_
    refine z_top nix_add ?_
    refine z_iaload iX0_warmBay_25 (sB_11 _ _ _) rfl (by omega) (by decide) (by omega) ?_
    refine z_dup2 iX0_warmBay_26 rfl rfl ?_
    refine z_iaload iX0_warmBay_27 (sB_9 _ _ _) rfl (h11 _) (by decide) (by omega) ?_
    refine z_aload_n iX0_warmBay_28 rfl ?_
    refine z_iload_n iX0_warmBay_29 rfl ?_
    refine z_iload_n iX0_warmBay_30 rfl ?_
    refine z_cvi (y1 := mX0_gainAt) iX0_warmBay_31 lX0_65 kX0_gainAt rfl (c_gainAt G g a ha _ hs b i hb (by omega)) (sB_o _ _ _) rfl rfl rfl (Nat.le_of_ble_eq_true rfl) (by omega) ?_
    refine z_iadd iX0_warmBay_34 ?_
    refine z_iastore iX0_warmBay_35 (sB_9 _ _ _) rfl (h11 _) (by decide) (by omega) (by decide) ?_
    rw [sB_w9]
    refine z_iinc iX0_warmBay_36 rfl nix_inc rfl (by decide) ?_
    refine z_goto iX0_warmBay_39 ?_
    exact ih (i + 1) _ hs (by show _ = rA x 10 b; omega)
set_option maxRecDepth 20000 in
set_option maxHeartbeats 1000000 in
theorem c_warmBay (G : zG) (g : zh) (a : Nat) (ha : a < 900) (s : zs) (hs : bOK s) (b : Nat) (hb : b < 3) : zK G mX0_warmBay [.ref a, .int (nI b)] (sB g a s) none (sB g a (bWarm s b)) := by
  refine zK_of 1 rfl (by decide) trivial (Nat.le_of_ble_eq_true rfl) rfl ?_
  refine z_iconst iX0_warmBay_0 zk_0 ?_
  refine z_istore_n iX0_warmBay_1 rfl (by decide) ?_
  exact lp_warm G g a ha b hb _ 0 s hs (Nat.zero_add _)
def bLF (b : Nat) : Nat → zs → zs := fun p x => bLose x (rA x 11 (b * 3 + p))
theorem bLF_A (b : Nat) : ∀ (n i : Nat) (x : zs) (k : Nat), rA (zfw (bLF b) i n x) k = rA x k
  | 0, _, _, _ => rfl
  | n + 1, i, x, k => (bLF_A b n (i + 1) _ k).trans rfl
theorem bLF_N (b : Nat) : ∀ (n i : Nat) (x : zs) (k : Nat), rN (zfw (bLF b) i n x) k = rN x k
  | 0, _, _, _ => rfl
  | n + 1, i, x, k => (bLF_N b n (i + 1) _ k).trans rfl
theorem bOK_of {s t : zs} (h : bOK s) (hA : ∀ k, rA t k = rA s k) (hN : ∀ k, rN t k = rN s k) : bOK t := by
  unfold bOK
  simp only [hA, hN]
  exact h
def bLoseFrom (s : zs) (b q : Nat) : zs := uA (zfw (bLF b) q (rA s 10 b - q) s) 10 (updN (rA s 10) b q)
theorem bLoseFrom_ok {s : zs} (h : bOK s) (b q : Nat) (hq : q ≤ 3) : bOK (bLoseFrom s b q) := by
  obtain ⟨h11, h10, h6, h5, h0, h1⟩ := bOK_of h (bLF_A b (rA s 10 b - q) q s) (bLF_N b (rA s 10 b - q) q s)
  refine ⟨h11, fun j => ?_, h6, h5, h0, h1⟩
  show updN (rA s 10) b q j ≤ 3
  unfold updN
  split
  · exact hq
  · exact h.2.1 j
set_option maxRecDepth 20000 in
set_option maxHeartbeats 1000000 in
theorem lp_loseFrom (G : zG) (g : zh) (a : Nat) (ha : a < 900) (b q : Nat) (l : Nat) (hb : b < 3) (hq : q ≤ 3) (f : Nat → Nat) : ∀ (n i : Nat) (x : zs), bOK x → rA x 10 = f → i + n = rA x 10 b → zS G mX0_loseFrom 12 [some (.ref a), some (.int (nI b)), some (.int (nI q)), some (.int (nI l)), some (.int (nI i))] [] (sB g a x) (some (.int (nI l))) (sB g a (uA (zfw (bLF b) i n x) 10 (updN f b q))) := by
  intro n
  induction n with
  | zero =>
    intro i x hs hf hi
    obtain ⟨h11, h10, h6, h5, h0, h1⟩ := id hs
    have hh := h10 b
    refine z_iload iX0_loseFrom_12 rfl ?_
    refine z_aload_n iX0_loseFrom_14 rfl ?_
    refine z_getf iX0_loseFrom_15 fX0_27 (sB_o _ _ _) (BF_10 _ _) (by omega) ?_
    refine z_iload_n iX0_loseFrom_18 rfl ?_
    refine z_iaload iX0_loseFrom_19 (sB_10 _ _ _) rfl (by omega) (by decide) (by omega) ?_
    refine zn_ge iX0_loseFrom_20 (by omega) (by omega) (fun q20 => ?_) (fun q20 => absurd q20 (by omega))
    refine z_aload_n iX0_loseFrom_44 rfl ?_
    refine z_getf iX0_loseFrom_45 fX0_27 (sB_o _ _ _) (BF_10 _ _) (by omega) ?_
    refine z_iload_n iX0_loseFrom_48 rfl ?_
    refine z_iload_n iX0_loseFrom_49 rfl ?_
    refine z_iastore iX0_loseFrom_50 (sB_10 _ _ _) rfl (by omega) (by decide) (by omega) (by decide) ?_
    rw [upd_nI, sB_w10]
    refine z_iload_n iX0_loseFrom_51 rfl ?_
    exact z_ireturn iX0_loseFrom_52 (rfl) (by subst hf; rfl)
  | succ n ih =>
    intro i x hs hf hi
    obtain ⟨h11, h10, h6, h5, h0, h1⟩ := id hs
    have hh := h10 b
    refine z_iload iX0_loseFrom_12 rfl ?_
    refine z_aload_n iX0_loseFrom_14 rfl ?_
    refine z_getf iX0_loseFrom_15 fX0_27 (sB_o _ _ _) (BF_10 _ _) (by omega) ?_
    refine z_iload_n iX0_loseFrom_18 rfl ?_
    refine z_iaload iX0_loseFrom_19 (sB_10 _ _ _) rfl (by omega) (by decide) (by omega) ?_
    refine zn_ge iX0_loseFrom_20 (by omega) (by omega) (fun q20 => absurd q20 (by omega)) (fun q20 => ?_)
    refine z_aload_n iX0_loseFrom_23 rfl ?_
    refine z_aload_n iX0_loseFrom_24 rfl ?_
    refine z_getf iX0_loseFrom_25 fX0_30 (sB_o _ _ _) (BF_11 _ _) (by omega) ?_
    refine z_iload_n iX0_loseFrom_28 rfl ?_
    refine z_iconst iX0_loseFrom_29 zk_3 ?_
    refine z_imul iX0_loseFrom_30 ?_
    refine z_top nix_mul ?_
    refine z_iload iX0_loseFrom_31 rfl ?_
    refine z_iadd iX0_loseFrom_33 ?_
    refine z_top nix_add ?_
    refine z_iaload iX0_loseFrom_34 (sB_11 _ _ _) rfl (by omega) (by decide) (by omega) ?_
    refine z_cvv (y1 := mX0_lose) iX0_loseFrom_35 lX0_76 kX0_lose rfl (c_lose G g a ha _ hs _ (h11 _)) (sB_o _ _ _) rfl rfl rfl (Nat.le_of_ble_eq_true rfl) (by omega) ?_
    refine z_iinc iX0_loseFrom_38 rfl nix_inc rfl (by decide) ?_
    refine z_goto iX0_loseFrom_41 ?_
    exact ih (i + 1) _ hs hf (by show _ = rA x 10 b; omega)
set_option maxRecDepth 20000 in
set_option maxHeartbeats 1000000 in
theorem c_loseFrom (G : zG) (g : zh) (a : Nat) (ha : a < 900) (s : zs) (hs : bOK s) (b q : Nat) (hb : b < 3) (hq : q ≤ rA s 10 b) : zK G mX0_loseFrom [.ref a, .int (nI b), .int (nI q)] (sB g a s) (some (.int (nI (rA s 10 b - q)))) (sB g a (bLoseFrom s b q)) := by
  obtain ⟨h11, h10, h6, h5, h0, h1⟩ := id hs
  have hh := h10 b
  refine zK_of 2 rfl (by decide) trivial (Nat.le_of_ble_eq_true rfl) rfl ?_
  refine z_aload_n iX0_loseFrom_0 rfl ?_
  refine z_getf iX0_loseFrom_1 fX0_27 (sB_o _ _ _) (BF_10 _ _) (by omega) ?_
  refine z_iload_n iX0_loseFrom_4 rfl ?_
  refine z_iaload iX0_loseFrom_5 (sB_10 _ _ _) rfl (by omega) (by decide) (by omega) ?_
  refine z_iload_n iX0_loseFrom_6 rfl ?_
  refine z_isub iX0_loseFrom_7 ?_
  refine z_top (nix_sub (by omega)) ?_
  refine z_istore_n iX0_loseFrom_8 rfl (by decide) ?_
  refine z_iload_n iX0_loseFrom_9 rfl ?_
  refine z_istore iX0_loseFrom_10 rfl (by decide) ?_
  exact lp_loseFrom G g a ha b q _ hb (by omega) _ _ q s hs rfl (by omega)
def bBurnP (s : zs) (b : Nat) : Nat → Bool := fun p => decide (¬ rF s 9 (rA s 11 (b * 3 + p)) < nI 30)
def bBurnN (s : zs) (b : Nat) : Nat := match zfind (bBurnP s b) 0 (rA s 10 b) with
  | some p => rA s 10 b - p
  | none => 0
def bBurnS (s : zs) (b : Nat) : zs := match zfind (bBurnP s b) 0 (rA s 10 b) with
  | some p => bLoseFrom s b p
  | none => s
set_option maxRecDepth 20000 in
set_option maxHeartbeats 1000000 in
theorem lp_burn (G : zG) (g : zh) (a : Nat) (ha : a < 900) (s : zs) (hs : bOK s) (b : Nat) (hb : b < 3) : ∀ (n i : Nat) (z : Option Nat), i + n = rA s 10 b → zfind (bBurnP s b) i n = z → zS G mX0_burnBay 2 [some (.ref a), some (.int (nI b)), some (.int (nI i))] [] (sB g a s) (some (.int (nI (match z with | some p => rA s 10 b - p | none => 0)))) (sB g a (match z with | some p => bLoseFrom s b p | none => s)) := by
  obtain ⟨h11, h10, h6, h5, h0, h1⟩ := id hs
  have hh := h10 b
  intro n
  induction n with
  | zero =>
    intro i z hi hz
    cases hz
    refine z_iload_n iX0_burnBay_2 rfl ?_
    refine z_aload_n iX0_burnBay_3 rfl ?_
    refine z_getf iX0_burnBay_4 fX0_27 (sB_o _ _ _) (BF_10 _ _) (by omega) ?_
    refine z_iload_n iX0_burnBay_7 rfl ?_
    refine z_iaload iX0_burnBay_8 (sB_10 _ _ _) rfl (by omega) (by decide) (by omega) ?_
    refine zn_ge iX0_burnBay_9 (by omega) (by omega) (fun q9 => ?_) (fun q9 => absurd q9 (by omega))
    refine z_iconst iX0_burnBay_45 zk_0 ?_
    exact z_ireturn iX0_burnBay_46 (rfl) (rfl)
  | succ n ih =>
    intro i z hi hz
    refine z_iload_n iX0_burnBay_2 rfl ?_
    refine z_aload_n iX0_burnBay_3 rfl ?_
    refine z_getf iX0_burnBay_4 fX0_27 (sB_o _ _ _) (BF_10 _ _) (by omega) ?_
    refine z_iload_n iX0_burnBay_7 rfl ?_
    refine z_iaload iX0_burnBay_8 (sB_10 _ _ _) rfl (by omega) (by decide) (by omega) ?_
    refine zn_ge iX0_burnBay_9 (by omega) (by omega) (fun q9 => absurd q9 (by omega)) (fun q9 => ?_)
    refine z_aload_n iX0_burnBay_12 rfl ?_
    refine z_getf iX0_burnBay_13 fX0_24 (sB_o _ _ _) (BF_9 _ _) (by omega) ?_
    refine z_aload_n iX0_burnBay_16 rfl ?_
    refine z_getf iX0_burnBay_17 fX0_30 (sB_o _ _ _) (BF_11 _ _) (by omega) ?_
    refine z_iload_n iX0_burnBay_20 rfl ?_
    refine z_iconst iX0_burnBay_21 zk_3 ?_
    refine z_imul iX0_burnBay_22 ?_
    refine z_top nix_mul ?_
    refine z_iload_n iX0_burnBay_23 rfl ?_
    refine z_iadd iX0_burnBay_24 ?_
    refine z_top nix_add ?_
    refine z_iaload iX0_burnBay_25 (sB_11 _ _ _) rfl (by omega) (by decide) (by omega) ?_
    refine z_iaload iX0_burnBay_26 (sB_9 _ _ _) rfl (h11 _) (by decide) (by omega) ?_
    refine z_bipush iX0_burnBay_27 zb_30 ?_
    refine z_icmp_lt iX0_burnBay_29 (fun q29 => ?_) (fun q29 => ?_)
    · refine z_iinc iX0_burnBay_39 rfl nix_inc rfl (by decide) ?_
      refine z_goto iX0_burnBay_42 ?_
      unfold zfind at hz
      rw [if_neg (by simp [bBurnP, *])] at hz
      exact ih (i + 1) z (by omega) hz
    · unfold zfind at hz
      rw [if_pos (by simp [bBurnP, *])] at hz
      subst hz
      refine z_aload_n iX0_burnBay_32 rfl ?_
      refine z_iload_n iX0_burnBay_33 rfl ?_
      refine z_iload_n iX0_burnBay_34 rfl ?_
      refine z_cvi (y1 := mX0_loseFrom) iX0_burnBay_35 lX0_73 kX0_loseFrom rfl (c_loseFrom G g a ha s hs b i hb (by omega)) (sB_o _ _ _) rfl rfl rfl (Nat.le_of_ble_eq_true rfl) (by omega) ?_
      exact z_ireturn iX0_burnBay_38 (rfl) (rfl)
set_option maxRecDepth 20000 in
set_option maxHeartbeats 1000000 in
theorem c_burnBay (G : zG) (g : zh) (a : Nat) (ha : a < 900) (s : zs) (hs : bOK s) (b : Nat) (hb : b < 3) : zK G mX0_burnBay [.ref a, .int (nI b)] (sB g a s) (some (.int (nI (bBurnN s b)))) (sB g a (bBurnS s b)) := by
  refine zK_of 1 rfl (by decide) trivial (Nat.le_of_ble_eq_true rfl) rfl ?_
  refine z_iconst iX0_burnBay_0 zk_0 ?_
  refine z_istore_n iX0_burnBay_1 rfl (by decide) ?_
  exact lp_burn G g a ha s hs b hb _ 0 _ (Nat.zero_add _) rfl
def bDry (s : zs) (b : Nat) : zs := if rA s 10 b = 0 then s else if rF s 8 (rA s 11 (b * 3 + rA s 10 b - 1)) ≤ 0 then s else uF s 8 (upd (rF s 8) (rA s 11 (b * 3 + rA s 10 b - 1)) (rF s 8 (rA s 11 (b * 3 + rA s 10 b - 1)) - nI 1))
theorem bTop_0 {s : zs} {b : Nat} (h : rA s 10 b = 0) : bTop s b = -1 := if_pos h
theorem bTop_1 {s : zs} {b : Nat} (h : ¬ rA s 10 b = 0) : bTop s b = nI (rA s 11 (b * 3 + rA s 10 b - 1)) := if_neg h
theorem bDry_A (s : zs) (b k : Nat) : rA (bDry s b) k = rA s k := by unfold bDry; split; rfl; split <;> rfl
theorem bDry_N (s : zs) (b k : Nat) : rN (bDry s b) k = rN s k := by unfold bDry; split; rfl; split <;> rfl
theorem bDry_ok {s : zs} (h : bOK s) (b : Nat) : bOK (bDry s b) := bOK_of h (bDry_A s b) (bDry_N s b)
theorem bWarm_A (b : Nat) : ∀ (n i : Nat) (x : zs) (k : Nat), rA (zfw (fun p x => uF x 9 (upd (rF x 9) (rA x 11 (b * 3 + p)) (rF x 9 (rA x 11 (b * 3 + p)) + bGainAt x b p))) i n x) k = rA x k
  | 0, _, _, _ => rfl
  | n + 1, i, x, k => (bWarm_A b n (i + 1) _ k).trans rfl
theorem bWarm_N (b : Nat) : ∀ (n i : Nat) (x : zs) (k : Nat), rN (zfw (fun p x => uF x 9 (upd (rF x 9) (rA x 11 (b * 3 + p)) (rF x 9 (rA x 11 (b * 3 + p)) + bGainAt x b p))) i n x) k = rN x k
  | 0, _, _, _ => rfl
  | n + 1, i, x, k => (bWarm_N b n (i + 1) _ k).trans rfl
theorem bWarm_ok {s : zs} (h : bOK s) (b : Nat) : bOK (bWarm s b) := bOK_of h (bWarm_A b _ 0 s) (bWarm_N b _ 0 s)
theorem bLoseFrom_N (s : zs) (b q k : Nat) : rN (bLoseFrom s b q) k = rN s k := bLF_N b _ q s k
theorem bBurnS_N (s : zs) (b k : Nat) : rN (bBurnS s b) k = rN s k := by
  unfold bBurnS
  split
  · exact bLoseFrom_N _ _ _ _
  · rfl
theorem bBurnS_ok {s : zs} (h : bOK s) (b : Nat) : bOK (bBurnS s b) := by
  unfold bBurnS
  split
  · rename_i p hp
    obtain ⟨z1, z2, -, -⟩ := zfind_lt _ _ _ hp
    exact bLoseFrom_ok h b p (by have := h.2.1 b; omega)
  · exact h
set_option maxRecDepth 20000 in
set_option maxHeartbeats 1000000 in
theorem c_dryTop (G : zG) (g : zh) (a : Nat) (ha : a < 900) (s : zs) (hs : bOK s) (b : Nat) (hb : b < 3) : zK G mX0_dryTop [.ref a, .int (nI b)] (sB g a s) none (sB g a (bDry s b)) := by
  obtain ⟨h11, h10, h6, h5, h0, h1⟩ := id hs
  have hh := h10 b
  have h12 := h11 (b * 3 + rA s 10 b - 1)
  refine zK_of 1 rfl (by decide) trivial (Nat.le_of_ble_eq_true rfl) rfl ?_
  by_cases h : rA s 10 b = 0
  · skip
    refine z_aload_n iX0_dryTop_0 rfl ?_
    refine z_iload_n iX0_dryTop_1 rfl ?_
    refine z_cvi (y1 := mX0_top) iX0_dryTop_2 lX0_80 kX0_top rfl (c_top G g a ha s hs b hb) (sB_o _ _ _) rfl rfl rfl (Nat.le_of_ble_eq_true rfl) (by omega) ?_
    rw [bTop_0 h]
    refine z_istore_n iX0_dryTop_5 rfl (by decide) ?_
    refine z_iload_n iX0_dryTop_6 rfl ?_
    refine z_iconst iX0_dryTop_7 zk_m1 ?_
    refine z_icmp_eq iX0_dryTop_8 (fun q8 => ?_) (fun q8 => absurd rfl q8)
    exact z_return iX0_dryTop_30 (by rw [bDry, if_pos h])
  · skip
    refine z_aload_n iX0_dryTop_0 rfl ?_
    refine z_iload_n iX0_dryTop_1 rfl ?_
    refine z_cvi (y1 := mX0_top) iX0_dryTop_2 lX0_80 kX0_top rfl (c_top G g a ha s hs b hb) (sB_o _ _ _) rfl rfl rfl (Nat.le_of_ble_eq_true rfl) (by omega) ?_
    rw [bTop_1 h]
    refine z_istore_n iX0_dryTop_5 rfl (by decide) ?_
    refine z_iload_n iX0_dryTop_6 rfl ?_
    refine z_iconst iX0_dryTop_7 zk_m1 ?_
    refine z_icmp_eq iX0_dryTop_8 (fun q8 => absurd q8 (nI_m1 (by omega))) (fun q8 => ?_)
    refine z_aload_n iX0_dryTop_11 rfl ?_
    refine z_getf iX0_dryTop_12 fX0_21 (sB_o _ _ _) (BF_8 _ _) (by omega) ?_
    refine z_iload_n iX0_dryTop_15 rfl ?_
    refine z_iaload iX0_dryTop_16 (sB_8 _ _ _) rfl (h11 _) (by decide) (by omega) ?_
    refine z_if_le iX0_dryTop_17 (fun q17 => ?_) (fun q17 => ?_)
    · exact z_return iX0_dryTop_30 (by first | (rw [bDry, if_neg h, if_pos q17]; done) | (rw [bDry, if_neg h, if_neg q17]; done))
    · refine z_aload_n iX0_dryTop_20 rfl ?_
      refine z_getf iX0_dryTop_21 fX0_21 (sB_o _ _ _) (BF_8 _ _) (by omega) ?_
      refine z_iload_n iX0_dryTop_24 rfl ?_
      refine z_dup2 iX0_dryTop_25 rfl rfl ?_
      refine z_iaload iX0_dryTop_26 (sB_8 _ _ _) rfl (h11 _) (by decide) (by omega) ?_
      refine z_iconst iX0_dryTop_27 zk_1 ?_
      refine z_isub iX0_dryTop_28 ?_
      refine z_iastore iX0_dryTop_29 (sB_8 _ _ _) rfl (h11 _) (by decide) (by omega) (by decide) ?_
      rw [sB_w8]
      exact z_return iX0_dryTop_30 (by first | (rw [bDry, if_neg h, if_pos q17]; done) | (rw [bDry, if_neg h, if_neg q17]; done))
def bDayStep (b : Nat) (x : Nat × zs) : Nat × zs := (x.1 + bBurnN (bWarm x.2 b) b, bDry (bBurnS (bWarm x.2 b) b) b)
def bDayEnd (x : Nat × zs) : zs := uI (uN x.2 2 (rN x.2 2 + 1)) 4 (rI x.2 4 + nI x.1)
def bDay (s : zs) : Nat × zs := zfw bDayStep 0 (rN s 0) (0, s)
set_option maxRecDepth 20000 in
set_option maxHeartbeats 1000000 in
theorem lp_day (G : zG) (g : zh) (a : Nat) (ha : a < 900) : ∀ (n i : Nat) (x : Nat × zs), bOK x.2 → i + n = rN x.2 0 → zS G mX0_passDay 4 [some (.ref a), some (.int (nI x.1)), some (.int (nI i))] [] (sB g a x.2) (some (.int (nI (zfw bDayStep i n x).1))) (sB g a (bDayEnd (zfw bDayStep i n x))) := by
  intro n
  induction n with
  | zero =>
    intro i x hs hi
    obtain ⟨h11, h10, h6, h5, h0, h1⟩ := id hs
    refine z_iload_n iX0_passDay_4 rfl ?_
    refine z_aload_n iX0_passDay_5 rfl ?_
    refine z_getf iX0_passDay_6 fX0_33 (sB_o _ _ _) (BF_0 _ _) (by omega) ?_
    refine zn_ge iX0_passDay_9 (by omega) (by omega) (fun q9 => ?_) (fun q9 => absurd q9 (by omega))
    refine z_aload_n iX0_passDay_36 rfl ?_
    refine z_dup iX0_passDay_37 rfl ?_
    refine z_getf iX0_passDay_38 fX0_40 (sB_o _ _ _) (BF_2 _ _) (by omega) ?_
    refine z_iconst iX0_passDay_41 zk_1 ?_
    refine z_iadd iX0_passDay_42 ?_
    refine z_top nix_add ?_
    refine z_putf iX0_passDay_43 fX0_40 (sB_o _ _ _) rfl rfl (Nat.le_of_ble_eq_true rfl) (by omega) ?_
    rw [sB_w2]
    refine z_aload_n iX0_passDay_46 rfl ?_
    refine z_dup iX0_passDay_47 rfl ?_
    refine z_getf iX0_passDay_48 fX0_46 (sB_o _ _ _) (BF_4 _ _) (by omega) ?_
    refine z_iload_n iX0_passDay_51 rfl ?_
    refine z_iadd iX0_passDay_52 ?_
    refine z_putf iX0_passDay_53 fX0_46 (sB_o _ _ _) rfl rfl (Nat.le_of_ble_eq_true rfl) (by omega) ?_
    rw [sB_w4]
    refine z_iload_n iX0_passDay_56 rfl ?_
    exact z_ireturn iX0_passDay_57 (rfl) (rfl)
  | succ n ih =>
    intro i x hs hi
    obtain ⟨h11, h10, h6, h5, h0, h1⟩ := id hs
    have k1 := bWarm_ok hs i
    have k2 := bBurnS_ok k1 i
    have e0 : rN (bDry (bBurnS (bWarm x.2 i) i) i) 0 = rN x.2 0 := (bDry_N _ _ _).trans ((bBurnS_N _ _ _).trans (bWarm_N _ _ _ _ _))
    refine z_iload_n iX0_passDay_4 rfl ?_
    refine z_aload_n iX0_passDay_5 rfl ?_
    refine z_getf iX0_passDay_6 fX0_33 (sB_o _ _ _) (BF_0 _ _) (by omega) ?_
    refine zn_ge iX0_passDay_9 (by omega) (by omega) (fun q9 => absurd q9 (by omega)) (fun q9 => ?_)
    refine z_aload_n iX0_passDay_12 rfl ?_
    refine z_iload_n iX0_passDay_13 rfl ?_
    refine z_cvv (y1 := mX0_warmBay) iX0_passDay_14 lX0_83 kX0_warmBay rfl (c_warmBay G g a ha _ hs i (by omega)) (sB_o _ _ _) rfl rfl rfl (Nat.le_of_ble_eq_true rfl) (by omega) ?_
    refine z_iload_n iX0_passDay_17 rfl ?_
    refine z_aload_n iX0_passDay_18 rfl ?_
    refine z_iload_n iX0_passDay_19 rfl ?_
    refine z_cvi (y1 := mX0_burnBay) iX0_passDay_20 lX0_86 kX0_burnBay rfl (c_burnBay G g a ha _ k1 i (by omega)) (sB_o _ _ _) rfl rfl rfl (Nat.le_of_ble_eq_true rfl) (by omega) ?_
    refine z_iadd iX0_passDay_23 ?_
    refine z_top nix_add ?_
    refine z_istore_n iX0_passDay_24 rfl (by decide) ?_
    refine z_aload_n iX0_passDay_25 rfl ?_
    refine z_iload_n iX0_passDay_26 rfl ?_
    refine z_cvv (y1 := mX0_dryTop) iX0_passDay_27 lX0_89 kX0_dryTop rfl (c_dryTop G g a ha _ k2 i (by omega)) (sB_o _ _ _) rfl rfl rfl (Nat.le_of_ble_eq_true rfl) (by omega) ?_
    refine z_iinc iX0_passDay_30 rfl nix_inc rfl (by decide) ?_
    refine z_goto iX0_passDay_33 ?_
    exact ih (i + 1) (bDayStep i x) (bDry_ok k2 i) (by show _ = rN (bDry (bBurnS (bWarm x.2 i) i) i) 0; omega)
set_option maxRecDepth 20000 in
set_option maxHeartbeats 1000000 in
theorem c_passDay (G : zG) (g : zh) (a : Nat) (ha : a < 900) (s : zs) (hs : bOK s) : zK G mX0_passDay [.ref a] (sB g a s) (some (.int (nI (bDay s).1))) (sB g a (bDayEnd (bDay s))) := by
  refine zK_of 2 rfl (by decide) trivial (Nat.le_of_ble_eq_true rfl) rfl ?_
  refine z_iconst iX0_passDay_0 zk_0 ?_
  refine z_istore_n iX0_passDay_1 rfl (by decide) ?_
  refine z_iconst iX0_passDay_2 zk_0 ?_
  refine z_istore_n iX0_passDay_3 rfl (by decide) ?_
  exact lp_day G g a ha _ 0 (0, s) hs (Nat.zero_add _)
def bDryBut (s : zs) (b : Nat) : zs := zfw (fun j x => if j = b then x else bDry x j) 0 (rN s 0) s
theorem bDryBut_A (b : Nat) : ∀ (n i : Nat) (x : zs) (k : Nat), rA (zfw (fun j x => if j = b then x else bDry x j) i n x) k = rA x k
  | 0, _, _, _ => rfl
  | n + 1, i, x, k => (bDryBut_A b n (i + 1) _ k).trans (by dsimp only; split; rfl; exact bDry_A _ _ _)
theorem bDryBut_N (b : Nat) : ∀ (n i : Nat) (x : zs) (k : Nat), rN (zfw (fun j x => if j = b then x else bDry x j) i n x) k = rN x k
  | 0, _, _, _ => rfl
  | n + 1, i, x, k => (bDryBut_N b n (i + 1) _ k).trans (by dsimp only; split; rfl; exact bDry_N _ _ _)
set_option maxRecDepth 20000 in
set_option maxHeartbeats 1000000 in
theorem lp_dryBut (G : zG) (g : zh) (a : Nat) (ha : a < 900) (b : Nat) (hb : b < 3) : ∀ (n i : Nat) (x : zs), bOK x → i + n = rN x 0 → zS G mX0_dryTopsBut 2 [some (.ref a), some (.int (nI b)), some (.int (nI i))] [] (sB g a x) none (sB g a (zfw (fun j x => if j = b then x else bDry x j) i n x)) := by
  intro n
  induction n with
  | zero =>
    intro i x hs hi
    obtain ⟨h11, h10, h6, h5, h0, h1⟩ := id hs
    refine z_iload_n iX0_dryTopsBut_2 rfl ?_
    refine z_aload_n iX0_dryTopsBut_3 rfl ?_
    refine z_getf iX0_dryTopsBut_4 fX0_33 (sB_o _ _ _) (BF_0 _ _) (by omega) ?_
    refine zn_ge iX0_dryTopsBut_7 (by omega) (by omega) (fun q7 => ?_) (fun q7 => absurd q7 (by omega))
    exact z_return iX0_dryTopsBut_26 (rfl)
  | succ n ih =>
    intro i x hs hi
    obtain ⟨h11, h10, h6, h5, h0, h1⟩ := id hs
    refine z_iload_n iX0_dryTopsBut_2 rfl ?_
    refine z_aload_n iX0_dryTopsBut_3 rfl ?_
    refine z_getf iX0_dryTopsBut_4 fX0_33 (sB_o _ _ _) (BF_0 _ _) (by omega) ?_
    refine zn_ge iX0_dryTopsBut_7 (by omega) (by omega) (fun q7 => absurd q7 (by omega)) (fun q7 => ?_)
    refine z_iload_n iX0_dryTopsBut_10 rfl ?_
    refine z_iload_n iX0_dryTopsBut_11 rfl ?_
    refine zn_eq iX0_dryTopsBut_12 (by omega) (by omega) (fun q12 => ?_) (fun q12 => ?_)
    · refine z_iinc iX0_dryTopsBut_20 rfl nix_inc rfl (by decide) ?_
      refine z_goto iX0_dryTopsBut_23 ?_
      first
        | (simp only [zfw, if_pos q12]; exact ih (i + 1) _ (by first | exact hs | exact bDry_ok hs i) (by first | omega | (rw [bDry_N]; omega)))
        | (simp only [zfw, if_neg q12]; exact ih (i + 1) _ (by first | exact hs | exact bDry_ok hs i) (by first | omega | (rw [bDry_N]; omega)))
    · refine z_aload_n iX0_dryTopsBut_15 rfl ?_
      refine z_iload_n iX0_dryTopsBut_16 rfl ?_
      refine z_cvv (y1 := mX0_dryTop) iX0_dryTopsBut_17 lX0_89 kX0_dryTop rfl (c_dryTop G g a ha _ hs i (by omega)) (sB_o _ _ _) rfl rfl rfl (Nat.le_of_ble_eq_true rfl) (by omega) ?_
      refine z_iinc iX0_dryTopsBut_20 rfl nix_inc rfl (by decide) ?_
      refine z_goto iX0_dryTopsBut_23 ?_
      first
        | (simp only [zfw, if_pos q12]; exact ih (i + 1) _ (by first | exact hs | exact bDry_ok hs i) (by first | omega | (rw [bDry_N]; omega)))
        | (simp only [zfw, if_neg q12]; exact ih (i + 1) _ (by first | exact hs | exact bDry_ok hs i) (by first | omega | (rw [bDry_N]; omega)))
set_option maxRecDepth 20000 in
set_option maxHeartbeats 1000000 in
theorem c_dryTopsBut (G : zG) (g : zh) (a : Nat) (ha : a < 900) (s : zs) (hs : bOK s) (b : Nat) (hb : b < 3) : zK G mX0_dryTopsBut [.ref a, .int (nI b)] (sB g a s) none (sB g a (bDryBut s b)) := by
  refine zK_of 1 rfl (by decide) trivial (Nat.le_of_ble_eq_true rfl) rfl ?_
  refine z_iconst iX0_dryTopsBut_0 zk_0 ?_
  refine z_istore_n iX0_dryTopsBut_1 rfl (by decide) ?_
  exact lp_dryBut G g a ha b hb _ 0 s hs (Nat.zero_add _)
def bLess (s : zs) (b : Nat) (much : Int32) : Int32 := if rF s 7 (rA s 11 (b * 3 + rA s 10 b - 1)) < much then rF s 7 (rA s 11 (b * 3 + rA s 10 b - 1)) else much
def bGive (s : zs) (b : Nat) (much : Int32) : Int32 := if rA s 10 b = 0 then nI 0 else kGives (rA s 5 (rA s 11 (b * 3 + rA s 10 b - 1))) (bLess s b much)
def bSl1 (s : zs) (b : Nat) (much : Int32) : zs := uF s 7 (upd (rF s 7) (rA s 11 (b * 3 + rA s 10 b - 1)) (rF s 7 (rA s 11 (b * 3 + rA s 10 b - 1)) - bLess s b much))
def bSl2 (s : zs) (b : Nat) (much : Int32) : zs := if rF (bSl1 s b much) 7 (rA s 11 (b * 3 + rA s 10 b - 1)) = 0 then bLoseFrom (bSl1 s b much) b (rA s 10 b - 1) else bSl1 s b much
def bSl3 (s : zs) (b : Nat) (much : Int32) : zs := if rA s 5 (rA s 11 (b * 3 + rA s 10 b - 1)) = 3 then bDryBut (bSl2 s b much) b else bSl2 s b much
def bSlice (s : zs) (b : Nat) (much : Int32) : zs := if rA s 10 b = 0 then s else uI (bSl3 s b much) 3 (rI (bSl3 s b much) 3 + bGive s b much)
theorem bSl2_ok {s : zs} (h : bOK s) (b : Nat) (much : Int32) : bOK (bSl2 s b much) := by
  unfold bSl2
  have hh := h.2.1 b
  split
  · exact bLoseFrom_ok (s := bSl1 s b much) h b _ (by omega)
  · exact h
theorem bSl2_N (s : zs) (b : Nat) (much : Int32) (k : Nat) : rN (bSl2 s b much) k = rN s k := by
  unfold bSl2
  split
  · exact (bLoseFrom_N _ _ _ _).trans rfl
  · rfl
theorem bLoseFrom_5 (s : zs) (b q : Nat) : rA (bLoseFrom s b q) 5 = rA s 5 := bLF_A b _ q s 5
theorem bLoseFrom_11 (s : zs) (b q : Nat) : rA (bLoseFrom s b q) 11 = rA s 11 := bLF_A b _ q s 11
theorem bLoseFrom_6 (s : zs) (b q : Nat) : rA (bLoseFrom s b q) 6 = rA s 6 := bLF_A b _ q s 6
theorem bSl2_5 (s : zs) (b : Nat) (much : Int32) : rA (bSl2 s b much) 5 = rA s 5 := by
  unfold bSl2
  split
  · exact (bLoseFrom_5 _ _ _).trans rfl
  · rfl
set_option maxRecDepth 20000 in
set_option maxHeartbeats 1000000 in
theorem c_slice3 (G : zG) (g : zh) (a : Nat) (ha : a < 900) (s : zs) (hs : bOK s) (b : Nat) (hb : b < 3) (much : Int32) (h : ¬ rA s 10 b = 0) : zS G mX0_slice 87 [some (.ref a), some (.int (nI b)), some (.int much), some (.int (nI (rA s 11 (b * 3 + rA s 10 b - 1)))), some (.int (bLess s b much)), some (.int (bGive s b much))] [] (sB g a (bSl3 s b much)) (some (.int (bGive s b much))) (sB g a (bSlice s b much)) := by
  refine z_aload_n iX0_slice_87 rfl ?_
  refine z_dup iX0_slice_88 rfl ?_
  refine z_getf iX0_slice_89 fX0_43 (sB_o _ _ _) (BF_3 _ _) (by omega) ?_
  refine z_iload iX0_slice_92 rfl ?_
  refine z_iadd iX0_slice_94 ?_
  refine z_putf iX0_slice_95 fX0_43 (sB_o _ _ _) rfl rfl (Nat.le_of_ble_eq_true rfl) (by omega) ?_
  rw [sB_w3]
  refine z_iload iX0_slice_98 rfl ?_
  exact z_ireturn iX0_slice_100 (rfl) (by rw [bSlice, if_neg h])
set_option maxRecDepth 20000 in
set_option maxHeartbeats 1000000 in
theorem c_slice2 (G : zG) (g : zh) (a : Nat) (ha : a < 900) (s : zs) (hs : bOK s) (b : Nat) (hb : b < 3) (much : Int32) (h : ¬ rA s 10 b = 0) : zS G mX0_slice 72 [some (.ref a), some (.int (nI b)), some (.int much), some (.int (nI (rA s 11 (b * 3 + rA s 10 b - 1)))), some (.int (bLess s b much)), some (.int (bGive s b much))] [] (sB g a (bSl2 s b much)) (some (.int (bGive s b much))) (sB g a (bSlice s b much)) := by
  obtain ⟨h11, h10, h6, h5, h0, h1⟩ := id hs
  have hh := h10 b
  have h12 := h11 (b * 3 + rA s 10 b - 1)
  have k2 := bSl2_ok hs b much
  have k5 := h5 (rA s 11 (b * 3 + rA s 10 b - 1))
  have e3 : ∀ (t : zs), t = bSl3 s b much → zS G mX0_slice 87 [some (.ref a), some (.int (nI b)), some (.int much), some (.int (nI (rA s 11 (b * 3 + rA s 10 b - 1)))), some (.int (bLess s b much)), some (.int (bGive s b much))] [] (sB g a t) (some (.int (bGive s b much))) (sB g a (bSlice s b much)) := fun t e => by subst e; exact c_slice3 G g a ha s hs b hb much h
  refine z_aload_n iX0_slice_72 rfl ?_
  refine z_getf iX0_slice_73 fX0_9 (sB_o _ _ _) (BF_5 _ _) (by omega) ?_
  refine z_iload_n iX0_slice_76 rfl ?_
  refine z_iaload iX0_slice_77 (sB_5 _ _ _) rfl (by omega) (by decide) (by omega) ?_
  rw [bSl2_5]
  refine z_iconst iX0_slice_78 zk_3 ?_
  refine zn_ne iX0_slice_79 (by omega) (by omega) (fun q79 => ?_) (fun q79 => ?_)
  · exact e3 _ (by first | (rw [bSl3, if_pos q79]; done) | (rw [bSl3, if_neg q79]; done))
  · refine z_aload_n iX0_slice_82 rfl ?_
    refine z_iload_n iX0_slice_83 rfl ?_
    refine z_cvv (y1 := mX0_dryTopsBut) iX0_slice_84 lX0_98 kX0_dryTopsBut rfl (c_dryTopsBut G g a ha _ k2 b hb) (sB_o _ _ _) rfl rfl rfl (Nat.le_of_ble_eq_true rfl) (by omega) ?_
    exact e3 _ (by first | (rw [bSl3, if_pos q79]; done) | (rw [bSl3, if_neg q79]; done))
set_option maxRecDepth 20000 in
set_option maxHeartbeats 1000000 in
theorem c_slice1 (G : zG) (g : zh) (a : Nat) (ha : a < 900) (s : zs) (hs : bOK s) (b : Nat) (hb : b < 3) (much : Int32) (h : ¬ rA s 10 b = 0) : zS G mX0_slice 13 [some (.ref a), some (.int (nI b)), some (.int much), some (.int (nI (rA s 11 (b * 3 + rA s 10 b - 1)))), none, none] [] (sB g a s) (some (.int (bGive s b much))) (sB g a (bSlice s b much)) := by
  obtain ⟨h11, h10, h6, h5, h0, h1⟩ := id hs
  have hh := h10 b
  have h12 := h11 (b * 3 + rA s 10 b - 1)
  have k5 := h5 (rA s 11 (b * 3 + rA s 10 b - 1))
  have eg : bGive s b much = kGives (rA s 5 (rA s 11 (b * 3 + rA s 10 b - 1))) (bLess s b much) := if_neg h
  have e2 : ∀ (t : zs), t = bSl2 s b much → zS G mX0_slice 72 [some (.ref a), some (.int (nI b)), some (.int much), some (.int (nI (rA s 11 (b * 3 + rA s 10 b - 1)))), some (.int (bLess s b much)), some (.int (bGive s b much))] [] (sB g a t) (some (.int (bGive s b much))) (sB g a (bSlice s b much)) := fun t e => by subst e; exact c_slice2 G g a ha s hs b hb much h
  refine z_iload_n iX0_slice_13 rfl ?_
  refine z_aload_n iX0_slice_14 rfl ?_
  refine z_getf iX0_slice_15 fX0_18 (sB_o _ _ _) (BF_7 _ _) (by omega) ?_
  refine z_iload_n iX0_slice_18 rfl ?_
  refine z_iaload iX0_slice_19 (sB_7 _ _ _) rfl (by omega) (by decide) (by omega) ?_
  refine z_mmin iX0_slice_20 lX0_92 (by decide) (Nat.le_of_ble_eq_true rfl) ?_
  refine z_istore iX0_slice_23 rfl (by decide) ?_
  refine z_aload_n iX0_slice_25 rfl ?_
  refine z_getf iX0_slice_26 fX0_9 (sB_o _ _ _) (BF_5 _ _) (by omega) ?_
  refine z_iload_n iX0_slice_29 rfl ?_
  refine z_iaload iX0_slice_30 (sB_5 _ _ _) rfl (by omega) (by decide) (by omega) ?_
  refine z_iload iX0_slice_31 rfl ?_
  refine z_csi (y1 := mX3_gives) iX0_slice_33 lX0_95 kX3_gives rfl (c_gives G _ _ _ (by omega)) rfl rfl (Nat.le_of_ble_eq_true rfl) ?_
  refine z_istore iX0_slice_36 rfl (by decide) ?_
  refine z_aload_n iX0_slice_38 rfl ?_
  refine z_getf iX0_slice_39 fX0_18 (sB_o _ _ _) (BF_7 _ _) (by omega) ?_
  refine z_iload_n iX0_slice_42 rfl ?_
  refine z_dup2 iX0_slice_43 rfl rfl ?_
  refine z_iaload iX0_slice_44 (sB_7 _ _ _) rfl (by omega) (by decide) (by omega) ?_
  refine z_iload iX0_slice_45 rfl ?_
  refine z_isub iX0_slice_47 ?_
  refine z_iastore iX0_slice_48 (sB_7 _ _ _) rfl (by omega) (by decide) (by omega) (by decide) ?_
  rw [sB_w7]
  refine z_heap (g2 := sB g a (bSl1 s b much)) rfl ?_
  have e10 : rA (bSl1 s b much) 10 b = rA s 10 b := rfl
  refine z_aload_n iX0_slice_49 rfl ?_
  refine z_getf iX0_slice_50 fX0_18 (sB_o _ _ _) (BF_7 _ _) (by omega) ?_
  refine z_iload_n iX0_slice_53 rfl ?_
  refine z_iaload iX0_slice_54 (sB_7 _ _ _) rfl (by omega) (by decide) (by omega) ?_
  refine z_if_ne iX0_slice_55 (fun q55 => ?_) (fun q55 => ?_)
  · rw [eg] at e2
    rw [eg]
    first
      | exact e2 _ (if_pos q55).symm
      | exact e2 _ (if_neg q55).symm
  · refine z_aload_n iX0_slice_58 rfl ?_
    refine z_iload_n iX0_slice_59 rfl ?_
    refine z_aload_n iX0_slice_60 rfl ?_
    refine z_getf iX0_slice_61 fX0_27 (sB_o _ _ _) (BF_10 _ _) (by omega) ?_
    refine z_iload_n iX0_slice_64 rfl ?_
    refine z_iaload iX0_slice_65 (sB_10 _ _ _) rfl (by omega) (by decide) (by omega) ?_
    refine z_iconst iX0_slice_66 zk_1 ?_
    refine z_isub iX0_slice_67 ?_
    refine z_top (nix_sub (by omega)) ?_
    refine z_cvi (y1 := mX0_loseFrom) iX0_slice_68 lX0_73 kX0_loseFrom rfl (c_loseFrom G g a ha (bSl1 s b much) hs b _ hb (by omega)) (sB_o _ _ _) rfl rfl rfl (Nat.le_of_ble_eq_true rfl) (by omega) ?_
    refine z_pop iX0_slice_71 rfl ?_
    rw [eg] at e2
    rw [eg]
    first
      | exact e2 _ (if_pos q55).symm
      | exact e2 _ (if_neg q55).symm
set_option maxRecDepth 20000 in
set_option maxHeartbeats 1000000 in
theorem c_slice (G : zG) (g : zh) (a : Nat) (ha : a < 900) (s : zs) (hs : bOK s) (b : Nat) (hb : b < 3) (much : Int32) : zK G mX0_slice [.ref a, .int (nI b), .int much] (sB g a s) (some (.int (bGive s b much))) (sB g a (bSlice s b much)) := by
  obtain ⟨h11, h10, h6, h5, h0, h1⟩ := id hs
  have hh := h10 b
  have h12 := h11 (b * 3 + rA s 10 b - 1)
  refine zK_of 3 rfl (by decide) trivial (Nat.le_of_ble_eq_true rfl) rfl ?_
  by_cases h : rA s 10 b = 0
  · skip
    refine z_aload_n iX0_slice_0 rfl ?_
    refine z_iload_n iX0_slice_1 rfl ?_
    refine z_cvi (y1 := mX0_top) iX0_slice_2 lX0_80 kX0_top rfl (c_top G g a ha s hs b hb) (sB_o _ _ _) rfl rfl rfl (Nat.le_of_ble_eq_true rfl) (by omega) ?_
    rw [bTop_0 h]
    refine z_istore_n iX0_slice_5 rfl (by decide) ?_
    refine z_iload_n iX0_slice_6 rfl ?_
    refine z_iconst iX0_slice_7 zk_m1 ?_
    refine z_icmp_ne iX0_slice_8 (fun q8 => absurd rfl q8) (fun q8 => ?_)
    refine z_iconst iX0_slice_11 zk_0 ?_
    exact z_ireturn iX0_slice_12 (by rw [bGive, if_pos h]) (by rw [bSlice, if_pos h])
  · skip
    refine z_aload_n iX0_slice_0 rfl ?_
    refine z_iload_n iX0_slice_1 rfl ?_
    refine z_cvi (y1 := mX0_top) iX0_slice_2 lX0_80 kX0_top rfl (c_top G g a ha s hs b hb) (sB_o _ _ _) rfl rfl rfl (Nat.le_of_ble_eq_true rfl) (by omega) ?_
    rw [bTop_1 h]
    refine z_istore_n iX0_slice_5 rfl (by decide) ?_
    refine z_iload_n iX0_slice_6 rfl ?_
    refine z_iconst iX0_slice_7 zk_m1 ?_
    refine z_icmp_ne iX0_slice_8 (fun q8 => ?_) (fun q8 => absurd q8 (nI_m1 (by omega)))
    exact c_slice1 G g a ha s hs b hb much h
def bLeastStep (s : zs) (b : Nat) (x : Int32 × Int32) : Int32 × Int32 := if rA s 10 b = 0 then x else if x.2 ≤ rF s 7 (rA s 11 (b * 3 + rA s 10 b - 1)) then x else (nI b, rF s 7 (rA s 11 (b * 3 + rA s 10 b - 1)))
def bLeast (s : zs) : Int32 := (zfw (bLeastStep s) 0 (rN s 0) (-1, nI 10)).1
def zle : List (Option Value) → List (Option Value) → Prop
  | [], _ => True
  | _ :: _, [] => False
  | a :: t, b :: u => (a = none ∨ a = b) ∧ zle t u
theorem zle_w : ∀ {l2 l : List (Option Value)}, zle l2 l → ∀ (i : Nat) (v : Value), l2[i]? = some (some v) → l[i]? = some (some v)
  | [], _, _, i, v, h => by simp at h
  | _ :: _, [], hz, _, _, _ => False.elim hz
  | a :: t, b :: u, hz, 0, v, h => by
    rcases hz.1 with e | e
    · subst e; simp at h
    · subst e; exact h
  | a :: t, b :: u, hz, i + 1, v, h => by
    have := zle_w hz.2 i v (by simpa using h)
    simpa using this
set_option maxRecDepth 20000 in
set_option maxHeartbeats 1000000 in
theorem lp_least (G : zG) (g : zh) (a : Nat) (ha : a < 900) (s : zs) (hs : bOK s) : ∀ (n i : Nat) (x : Int32 × Int32), i + n = rN s 0 → zS G mX0_bayOfLeastLight 7 [some (.ref a), some (.int x.1), some (.int x.2), some (.int (nI i)), none] [] (sB g a s) (some (.int (zfw (bLeastStep s) i n x).1)) (sB g a s) := by
  obtain ⟨h11, h10, h6, h5, h0, h1⟩ := id hs
  intro n
  induction n with
  | zero =>
    intro i x hi
    refine z_iload_n iX0_bayOfLeastLight_7 rfl ?_
    refine z_aload_n iX0_bayOfLeastLight_8 rfl ?_
    refine z_getf iX0_bayOfLeastLight_9 fX0_33 (sB_o _ _ _) (BF_0 _ _) (by omega) ?_
    refine zn_ge iX0_bayOfLeastLight_12 (by omega) (by omega) (fun q12 => ?_) (fun q12 => absurd q12 (by omega))
    refine z_iload_n iX0_bayOfLeastLight_55 rfl ?_
    exact z_ireturn iX0_bayOfLeastLight_56 (rfl) (rfl)
  | succ n ih =>
    intro i x hi
    have hh := h10 i
    have h12 := h11 (i * 3 + rA s 10 i - 1)
    by_cases h : rA s 10 i = 0
    · skip
      refine z_iload_n iX0_bayOfLeastLight_7 rfl ?_
      refine z_aload_n iX0_bayOfLeastLight_8 rfl ?_
      refine z_getf iX0_bayOfLeastLight_9 fX0_33 (sB_o _ _ _) (BF_0 _ _) (by omega) ?_
      refine zn_ge iX0_bayOfLeastLight_12 (by omega) (by omega) (fun q12 => absurd q12 (by omega)) (fun q12 => ?_)
      refine z_aload_n iX0_bayOfLeastLight_15 rfl ?_
      refine z_iload_n iX0_bayOfLeastLight_16 rfl ?_
      refine z_cvi (y1 := mX0_top) iX0_bayOfLeastLight_17 lX0_80 kX0_top rfl (c_top G g a ha s hs i (by omega)) (sB_o _ _ _) rfl rfl rfl (Nat.le_of_ble_eq_true rfl) (by omega) ?_
      rw [bTop_0 h]
      refine z_istore iX0_bayOfLeastLight_20 rfl (by decide) ?_
      refine z_iload iX0_bayOfLeastLight_22 rfl ?_
      refine z_iconst iX0_bayOfLeastLight_24 zk_m1 ?_
      refine z_icmp_eq iX0_bayOfLeastLight_25 (fun q25 => ?_) (fun q25 => absurd rfl q25)
      have e1 : bLeastStep s i x = x := if_pos h
      refine z_iinc iX0_bayOfLeastLight_49 rfl nix_inc rfl (by decide) ?_
      refine z_goto iX0_bayOfLeastLight_52 ?_
      simp only [zfw, e1]
      refine z_weak ?_ (ih (i + 1) _ (by omega))
      exact zle_w (by simp [zle])
    · skip
      refine z_iload_n iX0_bayOfLeastLight_7 rfl ?_
      refine z_aload_n iX0_bayOfLeastLight_8 rfl ?_
      refine z_getf iX0_bayOfLeastLight_9 fX0_33 (sB_o _ _ _) (BF_0 _ _) (by omega) ?_
      refine zn_ge iX0_bayOfLeastLight_12 (by omega) (by omega) (fun q12 => absurd q12 (by omega)) (fun q12 => ?_)
      refine z_aload_n iX0_bayOfLeastLight_15 rfl ?_
      refine z_iload_n iX0_bayOfLeastLight_16 rfl ?_
      refine z_cvi (y1 := mX0_top) iX0_bayOfLeastLight_17 lX0_80 kX0_top rfl (c_top G g a ha s hs i (by omega)) (sB_o _ _ _) rfl rfl rfl (Nat.le_of_ble_eq_true rfl) (by omega) ?_
      rw [bTop_1 h]
      refine z_istore iX0_bayOfLeastLight_20 rfl (by decide) ?_
      refine z_iload iX0_bayOfLeastLight_22 rfl ?_
      refine z_iconst iX0_bayOfLeastLight_24 zk_m1 ?_
      refine z_icmp_eq iX0_bayOfLeastLight_25 (fun q25 => absurd q25 (nI_m1 (by omega))) (fun q25 => ?_)
      refine z_aload_n iX0_bayOfLeastLight_28 rfl ?_
      refine z_getf iX0_bayOfLeastLight_29 fX0_18 (sB_o _ _ _) (BF_7 _ _) (by omega) ?_
      refine z_iload iX0_bayOfLeastLight_32 rfl ?_
      refine z_iaload iX0_bayOfLeastLight_34 (sB_7 _ _ _) rfl (by omega) (by decide) (by omega) ?_
      refine z_iload_n iX0_bayOfLeastLight_35 rfl ?_
      refine z_icmp_ge iX0_bayOfLeastLight_36 (fun q36 => ?_) (fun q36 => ?_)
      · first
          | (have e1 : bLeastStep s i x = x := by rw [bLeastStep, if_neg h, if_pos q36]
             skip
             refine z_iinc iX0_bayOfLeastLight_49 rfl nix_inc rfl (by decide) ?_
             refine z_goto iX0_bayOfLeastLight_52 ?_
             simp only [zfw, e1]
             refine z_weak ?_ (ih (i + 1) _ (by omega))
             exact zle_w (by simp [zle]))
          | (have e1 : bLeastStep s i x = (nI i, rF s 7 (rA s 11 (i * 3 + rA s 10 i - 1))) := by rw [bLeastStep, if_neg h, if_neg q36]
             skip
             refine z_iinc iX0_bayOfLeastLight_49 rfl nix_inc rfl (by decide) ?_
             refine z_goto iX0_bayOfLeastLight_52 ?_
             simp only [zfw, e1]
             refine z_weak ?_ (ih (i + 1) _ (by omega))
             exact zle_w (by simp [zle]))
      · refine z_aload_n iX0_bayOfLeastLight_39 rfl ?_
        refine z_getf iX0_bayOfLeastLight_40 fX0_18 (sB_o _ _ _) (BF_7 _ _) (by omega) ?_
        refine z_iload iX0_bayOfLeastLight_43 rfl ?_
        refine z_iaload iX0_bayOfLeastLight_45 (sB_7 _ _ _) rfl (by omega) (by decide) (by omega) ?_
        refine z_istore_n iX0_bayOfLeastLight_46 rfl (by decide) ?_
        refine z_iload_n iX0_bayOfLeastLight_47 rfl ?_
        refine z_istore_n iX0_bayOfLeastLight_48 rfl (by decide) ?_
        first
          | (have e1 : bLeastStep s i x = x := by rw [bLeastStep, if_neg h, if_pos q36]
             skip
             refine z_iinc iX0_bayOfLeastLight_49 rfl nix_inc rfl (by decide) ?_
             refine z_goto iX0_bayOfLeastLight_52 ?_
             simp only [zfw, e1]
             refine z_weak ?_ (ih (i + 1) _ (by omega))
             exact zle_w (by simp [zle]))
          | (have e1 : bLeastStep s i x = (nI i, rF s 7 (rA s 11 (i * 3 + rA s 10 i - 1))) := by rw [bLeastStep, if_neg h, if_neg q36]
             skip
             refine z_iinc iX0_bayOfLeastLight_49 rfl nix_inc rfl (by decide) ?_
             refine z_goto iX0_bayOfLeastLight_52 ?_
             simp only [zfw, e1]
             refine z_weak ?_ (ih (i + 1) _ (by omega))
             exact zle_w (by simp [zle]))
set_option maxRecDepth 20000 in
set_option maxHeartbeats 1000000 in
theorem c_least (G : zG) (g : zh) (a : Nat) (ha : a < 900) (s : zs) (hs : bOK s) : zK G mX0_bayOfLeastLight [.ref a] (sB g a s) (some (.int (bLeast s))) (sB g a s) := by
  refine zK_of 4 rfl (by decide) trivial (Nat.le_of_ble_eq_true rfl) rfl ?_
  refine z_iconst iX0_bayOfLeastLight_0 zk_m1 ?_
  refine z_istore_n iX0_bayOfLeastLight_1 rfl (by decide) ?_
  refine z_bipush iX0_bayOfLeastLight_2 zb_10 ?_
  refine z_istore_n iX0_bayOfLeastLight_4 rfl (by decide) ?_
  refine z_iconst iX0_bayOfLeastLight_5 zk_0 ?_
  refine z_istore_n iX0_bayOfLeastLight_6 rfl (by decide) ?_
  exact lp_least G g a ha s hs _ 0 (-1, nI 10) (Nat.zero_add _)
def bTakeStep (b t p : Nat) (x : Nat × zs) : Nat × zs := if t / 2 ^ p % 2 = 1 then (x.1, bLose x.2 (rA x.2 11 (b * 3 + p))) else (x.1 + 1, uA x.2 11 (updN (rA x.2 11) (b * 3 + x.1) (rA x.2 11 (b * 3 + p))))
def bTakeEnd (b : Nat) (x : Nat × zs) : zs := uA x.2 10 (updN (rA x.2 10) b x.1)
def bTake (s : zs) (b t : Nat) : zs := bTakeEnd b (zfw (bTakeStep b t) 0 (rA s 10 b) (0, s))
theorem bTakeStep_ok {b t p : Nat} {x : Nat × zs} (h : bOK x.2) : bOK (bTakeStep b t p x).2 := by
  unfold bTakeStep
  split
  · exact h
  · obtain ⟨h11, h10, h6, h5, h0, h1⟩ := id h
    refine ⟨fun j => ?_, h10, h6, h5, h0, h1⟩
    show updN (rA x.2 11) _ _ j < 9
    unfold updN
    split
    · exact h11 _
    · exact h11 _
theorem bTakeStep_le {b t p : Nat} {x : Nat × zs} : (bTakeStep b t p x).1 ≤ x.1 + 1 := by
  unfold bTakeStep
  split
  · exact Nat.le_succ _
  · exact Nat.le_refl _
theorem bTakeStep_10 {b t p : Nat} {x : Nat × zs} : rA (bTakeStep b t p x).2 10 = rA x.2 10 := by
  unfold bTakeStep
  split <;> rfl
set_option maxRecDepth 20000 in
set_option maxHeartbeats 1000000 in
theorem lp_take (G : zG) (g : zh) (a : Nat) (ha : a < 900) (b t : Nat) (hb : b < 3) (ht : t < 2 ^ 30) : ∀ (n i : Nat) (x : Nat × zs), bOK x.2 → x.1 ≤ i → i + n = rA x.2 10 b → zS G mX0_takeOut 5 [some (.ref a), some (.int (nI b)), some (.int (nI t)), some (.int (nI x.1)), some (.int (nI i)), none] [] (sB g a x.2) none (sB g a (bTakeEnd b (zfw (bTakeStep b t) i n x))) := by
  intro n
  induction n with
  | zero =>
    intro i x hs hl hi
    obtain ⟨h11, h10, h6, h5, h0, h1⟩ := id hs
    have hh := h10 b
    refine z_iload iX0_takeOut_5 rfl ?_
    refine z_aload_n iX0_takeOut_7 rfl ?_
    refine z_getf iX0_takeOut_8 fX0_27 (sB_o _ _ _) (BF_10 _ _) (by omega) ?_
    refine z_iload_n iX0_takeOut_11 rfl ?_
    refine z_iaload iX0_takeOut_12 (sB_10 _ _ _) rfl (by omega) (by decide) (by omega) ?_
    refine zn_ge iX0_takeOut_13 (by omega) (by omega) (fun q13 => ?_) (fun q13 => absurd q13 (by omega))
    refine z_aload_n iX0_takeOut_69 rfl ?_
    refine z_getf iX0_takeOut_70 fX0_27 (sB_o _ _ _) (BF_10 _ _) (by omega) ?_
    refine z_iload_n iX0_takeOut_73 rfl ?_
    refine z_iload_n iX0_takeOut_74 rfl ?_
    refine z_iastore iX0_takeOut_75 (sB_10 _ _ _) rfl (by omega) (by decide) (by omega) (by decide) ?_
    rw [upd_nI, sB_w10]
    exact z_return iX0_takeOut_76 (rfl)
  | succ n ih =>
    intro i x hs hl hi
    obtain ⟨h11, h10, h6, h5, h0, h1⟩ := id hs
    have hh := h10 b
    refine z_iload iX0_takeOut_5 rfl ?_
    refine z_aload_n iX0_takeOut_7 rfl ?_
    refine z_getf iX0_takeOut_8 fX0_27 (sB_o _ _ _) (BF_10 _ _) (by omega) ?_
    refine z_iload_n iX0_takeOut_11 rfl ?_
    refine z_iaload iX0_takeOut_12 (sB_10 _ _ _) rfl (by omega) (by decide) (by omega) ?_
    refine zn_ge iX0_takeOut_13 (by omega) (by omega) (fun q13 => absurd q13 (by omega)) (fun q13 => ?_)
    refine z_aload_n iX0_takeOut_16 rfl ?_
    refine z_getf iX0_takeOut_17 fX0_30 (sB_o _ _ _) (BF_11 _ _) (by omega) ?_
    refine z_iload_n iX0_takeOut_20 rfl ?_
    refine z_iconst iX0_takeOut_21 zk_3 ?_
    refine z_imul iX0_takeOut_22 ?_
    refine z_top nix_mul ?_
    refine z_iload iX0_takeOut_23 rfl ?_
    refine z_iadd iX0_takeOut_25 ?_
    refine z_top nix_add ?_
    refine z_iaload iX0_takeOut_26 (sB_11 _ _ _) rfl (by omega) (by decide) (by omega) ?_
    refine z_istore iX0_takeOut_27 rfl (by decide) ?_
    refine z_iload_n iX0_takeOut_29 rfl ?_
    refine z_iload iX0_takeOut_30 rfl ?_
    refine z_ishr iX0_takeOut_32 ?_
    refine z_top (nix_shr (by omega) (by omega)) ?_
    refine z_iconst iX0_takeOut_33 zk_1 ?_
    refine z_iand iX0_takeOut_34 ?_
    refine z_top nix_and1 ?_
    refine z_iconst iX0_takeOut_35 zk_1 ?_
    refine zn_ne iX0_takeOut_36 (by omega) (by omega) (fun q36 => ?_) (fun q36 => ?_)
    · refine z_aload_n iX0_takeOut_48 rfl ?_
      refine z_getf iX0_takeOut_49 fX0_30 (sB_o _ _ _) (BF_11 _ _) (by omega) ?_
      refine z_iload_n iX0_takeOut_52 rfl ?_
      refine z_iconst iX0_takeOut_53 zk_3 ?_
      refine z_imul iX0_takeOut_54 ?_
      refine z_top nix_mul ?_
      refine z_iload_n iX0_takeOut_55 rfl ?_
      refine z_iadd iX0_takeOut_56 ?_
      refine z_top nix_add ?_
      refine z_iload iX0_takeOut_57 rfl ?_
      refine z_iastore iX0_takeOut_59 (sB_11 _ _ _) rfl (by omega) (by decide) (by omega) (by decide) ?_
      rw [upd_nI, sB_w11]
      refine z_iinc iX0_takeOut_60 rfl nix_inc rfl (by decide) ?_
      refine z_iinc iX0_takeOut_63 rfl nix_inc rfl (by decide) ?_
      refine z_goto iX0_takeOut_66 ?_
      first
        | (have e1 : bTakeStep b t i x = (x.1, bLose x.2 (rA x.2 11 (b * 3 + i))) := if_pos q36
           have k1 := ih (i + 1) (bTakeStep b t i x) (bTakeStep_ok hs) (Nat.le_trans bTakeStep_le (by omega)) (by rw [bTakeStep_10]; omega)
           simp only [zfw]
           rw [e1] at k1 ⊢
           refine z_weak ?_ k1
           exact zle_w (by simp [zle]))
        | (have e1 : bTakeStep b t i x = (x.1 + 1, uA x.2 11 (updN (rA x.2 11) (b * 3 + x.1) (rA x.2 11 (b * 3 + i)))) := if_neg q36
           have k1 := ih (i + 1) (bTakeStep b t i x) (bTakeStep_ok hs) (Nat.le_trans bTakeStep_le (by omega)) (by rw [bTakeStep_10]; omega)
           simp only [zfw]
           rw [e1] at k1 ⊢
           refine z_weak ?_ k1
           exact zle_w (by simp [zle]))
    · refine z_aload_n iX0_takeOut_39 rfl ?_
      refine z_iload iX0_takeOut_40 rfl ?_
      refine z_cvv (y1 := mX0_lose) iX0_takeOut_42 lX0_76 kX0_lose rfl (c_lose G g a ha _ hs _ (h11 _)) (sB_o _ _ _) rfl rfl rfl (Nat.le_of_ble_eq_true rfl) (by omega) ?_
      refine z_goto iX0_takeOut_45 ?_
      refine z_iinc iX0_takeOut_63 rfl nix_inc rfl (by decide) ?_
      refine z_goto iX0_takeOut_66 ?_
      first
        | (have e1 : bTakeStep b t i x = (x.1, bLose x.2 (rA x.2 11 (b * 3 + i))) := if_pos q36
           have k1 := ih (i + 1) (bTakeStep b t i x) (bTakeStep_ok hs) (Nat.le_trans bTakeStep_le (by omega)) (by rw [bTakeStep_10]; omega)
           simp only [zfw]
           rw [e1] at k1 ⊢
           refine z_weak ?_ k1
           exact zle_w (by simp [zle]))
        | (have e1 : bTakeStep b t i x = (x.1 + 1, uA x.2 11 (updN (rA x.2 11) (b * 3 + x.1) (rA x.2 11 (b * 3 + i)))) := if_neg q36
           have k1 := ih (i + 1) (bTakeStep b t i x) (bTakeStep_ok hs) (Nat.le_trans bTakeStep_le (by omega)) (by rw [bTakeStep_10]; omega)
           simp only [zfw]
           rw [e1] at k1 ⊢
           refine z_weak ?_ k1
           exact zle_w (by simp [zle]))
set_option maxRecDepth 20000 in
set_option maxHeartbeats 1000000 in
theorem c_takeOut (G : zG) (g : zh) (a : Nat) (ha : a < 900) (s : zs) (hs : bOK s) (b t : Nat) (hb : b < 3) (ht : t < 2 ^ 30) : zK G mX0_takeOut [.ref a, .int (nI b), .int (nI t)] (sB g a s) none (sB g a (bTake s b t)) := by
  refine zK_of 3 rfl (by decide) trivial (Nat.le_of_ble_eq_true rfl) rfl ?_
  refine z_iconst iX0_takeOut_0 zk_0 ?_
  refine z_istore_n iX0_takeOut_1 rfl (by decide) ?_
  refine z_iconst iX0_takeOut_2 zk_0 ?_
  refine z_istore iX0_takeOut_3 rfl (by decide) ?_
  exact lp_take G g a ha b t hb ht _ 0 (0, s) hs (Nat.le_refl _) (Nat.zero_add _)
def bCool : Nat → zs → zs := fun p x => uF x 9 (upd (rF x 9) (rA x 11 p) (nI 0))
theorem bCool_A : ∀ (n i : Nat) (x : zs) (k : Nat), rA (zfw bCool i n x) k = rA x k
  | 0, _, _, _ => rfl
  | n + 1, i, x, k => (bCool_A n (i + 1) _ k).trans rfl
theorem bCool_N : ∀ (n i : Nat) (x : zs) (k : Nat), rN (zfw bCool i n x) k = rN x k
  | 0, _, _, _ => rfl
  | n + 1, i, x, k => (bCool_N n (i + 1) _ k).trans rfl
def bSwap (x : zs) (i j : Nat) : zs := uA x 11 (updN (updN (rA x 11) i (rA x 11 j)) j (rA x 11 i))
def bTurn (s : zs) (b : Nat) : zs := if rA s 10 b < 2 then zfw bCool (b * 3) (rA s 10 b) s else bSwap (zfw bCool (b * 3) (rA s 10 b) s) (b * 3) (b * 3 + rA s 10 b - 1)
set_option maxRecDepth 20000 in
set_option maxHeartbeats 1000000 in
theorem lp_swap0 (G : zG) (g : zh) (a : Nat) (ha : a < 900) (s : zs) (b lo up : Nat) (lo0 up0 : Nat) (j : Option Value) (hl : lo0 < 20) (hu : up0 < 20) (h : up0 ≤ lo0) : zS G mX0_turnOver 49 [some (.ref a), some (.int (nI b)), some (.int (nI lo)), some (.int (nI up)), some (.int (nI lo0)), some (.int (nI up0)), j] [] (sB g a s) none (sB g a s) := by
  refine z_iload iX0_turnOver_49 rfl ?_
  refine z_iload iX0_turnOver_51 rfl ?_
  refine zn_ge iX0_turnOver_53 (by omega) (by omega) (fun q53 => ?_) (fun q53 => absurd q53 (by omega))
  exact z_return iX0_turnOver_97 (rfl)
set_option maxRecDepth 20000 in
set_option maxHeartbeats 1000000 in
theorem lp_swap1 (G : zG) (g : zh) (a : Nat) (ha : a < 900) (s : zs) (b lo up : Nat) (lo0 up0 : Nat) (hl : lo0 < 9) (hu : up0 < 9) (h : lo0 < up0) (h2 : up0 ≤ lo0 + 2) : zS G mX0_turnOver 49 [some (.ref a), some (.int (nI b)), some (.int (nI lo)), some (.int (nI up)), some (.int (nI lo0)), some (.int (nI up0)), none] [] (sB g a s) none (sB g a (bSwap s lo0 up0)) := by
  refine z_iload iX0_turnOver_49 rfl ?_
  refine z_iload iX0_turnOver_51 rfl ?_
  refine zn_ge iX0_turnOver_53 (by omega) (by omega) (fun q53 => absurd q53 (by omega)) (fun q53 => ?_)
  refine z_aload_n iX0_turnOver_56 rfl ?_
  refine z_getf iX0_turnOver_57 fX0_30 (sB_o _ _ _) (BF_11 _ _) (by omega) ?_
  refine z_iload iX0_turnOver_60 rfl ?_
  refine z_iaload iX0_turnOver_62 (sB_11 _ _ _) rfl (by omega) (by decide) (by omega) ?_
  refine z_istore iX0_turnOver_63 rfl (by decide) ?_
  refine z_aload_n iX0_turnOver_65 rfl ?_
  refine z_getf iX0_turnOver_66 fX0_30 (sB_o _ _ _) (BF_11 _ _) (by omega) ?_
  refine z_iload iX0_turnOver_69 rfl ?_
  refine z_aload_n iX0_turnOver_71 rfl ?_
  refine z_getf iX0_turnOver_72 fX0_30 (sB_o _ _ _) (BF_11 _ _) (by omega) ?_
  refine z_iload iX0_turnOver_75 rfl ?_
  refine z_iaload iX0_turnOver_77 (sB_11 _ _ _) rfl (by omega) (by decide) (by omega) ?_
  refine z_iastore iX0_turnOver_78 (sB_11 _ _ _) rfl (by omega) (by decide) (by omega) (by decide) ?_
  rw [upd_nI, sB_w11]
  refine z_aload_n iX0_turnOver_79 rfl ?_
  refine z_getf iX0_turnOver_80 fX0_30 (sB_o _ _ _) (BF_11 _ _) (by omega) ?_
  refine z_iload iX0_turnOver_83 rfl ?_
  refine z_iload iX0_turnOver_85 rfl ?_
  refine z_iastore iX0_turnOver_87 (sB_11 _ _ _) rfl (by omega) (by decide) (by omega) (by decide) ?_
  rw [upd_nI, sB_w11]
  refine z_iinc iX0_turnOver_88 rfl nix_inc rfl (by decide) ?_
  refine z_iinc iX0_turnOver_91 rfl (nix_dec (by omega)) rfl (by decide) ?_
  refine z_goto iX0_turnOver_94 ?_
  exact lp_swap0 G g a ha _ b lo up _ _ _ (by omega) (by omega) (by omega)
set_option maxRecDepth 20000 in
set_option maxHeartbeats 1000000 in
theorem lp_cool (G : zG) (g : zh) (a : Nat) (ha : a < 900) (b up : Nat) (hup : up < 9) (f : zs) : ∀ (n i : Nat) (x : zs), bOK x → i + n = up + 1 → (∀ x1, x1 = zfw bCool i n x → zS G mX0_turnOver 43 [some (.ref a), some (.int (nI b)), some (.int (nI (b * 3))), some (.int (nI up)), none, none, none] [] (sB g a x1) none (sB g a f)) → zS G mX0_turnOver 18 [some (.ref a), some (.int (nI b)), some (.int (nI (b * 3))), some (.int (nI up)), some (.int (nI i)), none, none] [] (sB g a x) none (sB g a f) := by
  intro n
  induction n with
  | zero =>
    intro i x hs hi hk
    refine z_iload iX0_turnOver_18 rfl ?_
    refine z_iload_n iX0_turnOver_20 rfl ?_
    refine zn_gt iX0_turnOver_21 (by omega) (by omega) (fun q21 => ?_) (fun q21 => absurd q21 (by omega))
    refine z_weak ?_ (hk _ rfl)
    exact zle_w (by simp [zle])
  | succ n ih =>
    intro i x hs hi hk
    obtain ⟨h11, h10, h6, h5, h0, h1⟩ := id hs
    refine z_iload iX0_turnOver_18 rfl ?_
    refine z_iload_n iX0_turnOver_20 rfl ?_
    refine zn_gt iX0_turnOver_21 (by omega) (by omega) (fun q21 => absurd q21 (by omega)) (fun q21 => ?_)
    refine z_aload_n iX0_turnOver_24 rfl ?_
    refine z_getf iX0_turnOver_25 fX0_24 (sB_o _ _ _) (BF_9 _ _) (by omega) ?_
    refine z_aload_n iX0_turnOver_28 rfl ?_
    refine z_getf iX0_turnOver_29 fX0_30 (sB_o _ _ _) (BF_11 _ _) (by omega) ?_
    refine z_iload iX0_turnOver_32 rfl ?_
    refine z_iaload iX0_turnOver_34 (sB_11 _ _ _) rfl (by omega) (by decide) (by omega) ?_
    refine z_iconst iX0_turnOver_35 zk_0 ?_
    refine z_iastore iX0_turnOver_36 (sB_9 _ _ _) rfl (h11 _) (by decide) (by omega) (by decide) ?_
    rw [sB_w9]
    refine z_iinc iX0_turnOver_37 rfl nix_inc rfl (by decide) ?_
    refine z_goto iX0_turnOver_40 ?_
    exact ih (i + 1) _ hs (by omega) (fun x1 e => hk x1 e)
set_option maxRecDepth 20000 in
set_option maxHeartbeats 1000000 in
theorem c_turnOver (G : zG) (g : zh) (a : Nat) (ha : a < 900) (s : zs) (hs : bOK s) (b : Nat) (hb : b < 3) (h : 1 ≤ rA s 10 b) : zK G mX0_turnOver [.ref a, .int (nI b)] (sB g a s) none (sB g a (bTurn s b)) := by
  obtain ⟨h11, h10, h6, h5, h0, h1⟩ := id hs
  have hh := h10 b
  refine zK_of 5 rfl (by decide) trivial (Nat.le_of_ble_eq_true rfl) rfl ?_
  refine z_iload_n iX0_turnOver_0 rfl ?_
  refine z_iconst iX0_turnOver_1 zk_3 ?_
  refine z_imul iX0_turnOver_2 ?_
  refine z_top nix_mul ?_
  refine z_istore_n iX0_turnOver_3 rfl (by decide) ?_
  refine z_iload_n iX0_turnOver_4 rfl ?_
  refine z_aload_n iX0_turnOver_5 rfl ?_
  refine z_getf iX0_turnOver_6 fX0_27 (sB_o _ _ _) (BF_10 _ _) (by omega) ?_
  refine z_iload_n iX0_turnOver_9 rfl ?_
  refine z_iaload iX0_turnOver_10 (sB_10 _ _ _) rfl (by omega) (by decide) (by omega) ?_
  refine z_iadd iX0_turnOver_11 ?_
  refine z_top nix_add ?_
  refine z_iconst iX0_turnOver_12 zk_1 ?_
  refine z_isub iX0_turnOver_13 ?_
  refine z_top (nix_sub (by omega)) ?_
  refine z_istore_n iX0_turnOver_14 rfl (by decide) ?_
  refine z_iload_n iX0_turnOver_15 rfl ?_
  refine z_istore iX0_turnOver_16 rfl (by decide) ?_
  refine lp_cool G g a ha b _ (by omega) (bTurn s b) (rA s 10 b) (b * 3) s hs (by omega) (fun x1 e => ?_)
  subst e
  refine z_iload_n iX0_turnOver_43 rfl ?_
  refine z_istore iX0_turnOver_44 rfl (by decide) ?_
  refine z_iload_n iX0_turnOver_46 rfl ?_
  refine z_istore iX0_turnOver_47 rfl (by decide) ?_
  by_cases h2 : rA s 10 b < 2
  · rw [bTurn, if_pos h2]
    exact lp_swap0 G g a ha _ b _ _ _ _ _ (by omega) (by omega) (by omega)
  · rw [bTurn, if_neg h2]
    exact lp_swap1 G g a ha _ b _ _ _ _ (by omega) (by omega) (by omega) (by omega)
def bEmpty0 (s : zs) : zs := uI (uI (uN (uN (uN s 0 0) 1 0) 2 0) 3 (nI 0)) 4 (nI 0)
def bEmpty (s : zs) : zs := zfw (fun b x => uA x 10 (updN (rA x 10) b 0)) 0 3 (bEmpty0 s)
def bLay (s : zs) (b k : Nat) (l w : Int32) : zs := uN (uN (uA (uA (uF (uF (uF (uA (uA s 5 (updN (rA s 5) (rN s 1) k)) 6 (updN (rA s 6) (rN s 1) b)) 7 (upd (rF s 7) (rN s 1) l)) 8 (upd (rF s 8) (rN s 1) w)) 9 (upd (rF s 9) (rN s 1) (nI 0))) 11 (updN (rA s 11) (b * 3 + rA s 10 b) (rN s 1))) 10 (updN (rA s 10) b (rA s 10 b + 1))) 1 (rN s 1 + 1)) 0 (b + 1)
set_option maxRecDepth 20000 in
set_option maxHeartbeats 1000000 in
theorem lp_empty (G : zG) (g : zh) (a : Nat) (ha : a < 900) : ∀ (n i : Nat) (x : zs), i + n = 3 → zS G mX0_empty 27 [some (.ref a), some (.int (nI i))] [] (sB g a x) none (sB g a (zfw (fun b x => uA x 10 (updN (rA x 10) b 0)) i n x)) := by
  intro n
  induction n with
  | zero =>
    intro i x hi
    refine z_iload_n iX0_empty_27 rfl ?_
    refine z_iconst iX0_empty_28 zk_3 ?_
    refine zn_ge iX0_empty_29 (by omega) (by omega) (fun q29 => ?_) (fun q29 => absurd q29 (by omega))
    exact z_return iX0_empty_45 (rfl)
  | succ n ih =>
    intro i x hi
    refine z_iload_n iX0_empty_27 rfl ?_
    refine z_iconst iX0_empty_28 zk_3 ?_
    refine zn_ge iX0_empty_29 (by omega) (by omega) (fun q29 => absurd q29 (by omega)) (fun q29 => ?_)
    refine z_aload_n iX0_empty_32 rfl ?_
    refine z_getf iX0_empty_33 fX0_27 (sB_o _ _ _) (BF_10 _ _) (by omega) ?_
    refine z_iload_n iX0_empty_36 rfl ?_
    refine z_iconst iX0_empty_37 zk_0 ?_
    refine z_iastore iX0_empty_38 (sB_10 _ _ _) rfl (by omega) (by decide) (by omega) (by decide) ?_
    rw [upd_nI, sB_w10]
    refine z_iinc iX0_empty_39 rfl nix_inc rfl (by decide) ?_
    refine z_goto iX0_empty_42 ?_
    exact ih (i + 1) _ (by omega)
set_option maxRecDepth 20000 in
set_option maxHeartbeats 1000000 in
theorem c_empty (G : zG) (g : zh) (a : Nat) (ha : a < 900) (s : zs) : zK G mX0_empty [.ref a] (sB g a s) none (sB g a (bEmpty s)) := by
  refine zK_of 1 rfl (by decide) trivial (Nat.le_of_ble_eq_true rfl) rfl ?_
  refine z_aload_n iX0_empty_0 rfl ?_
  refine z_iconst iX0_empty_1 zk_0 ?_
  refine z_putf iX0_empty_2 fX0_33 (sB_o _ _ _) rfl rfl (Nat.le_of_ble_eq_true rfl) (by omega) ?_
  rw [sB_w0]
  refine z_aload_n iX0_empty_5 rfl ?_
  refine z_iconst iX0_empty_6 zk_0 ?_
  refine z_putf iX0_empty_7 fX0_37 (sB_o _ _ _) rfl rfl (Nat.le_of_ble_eq_true rfl) (by omega) ?_
  rw [sB_w1]
  refine z_aload_n iX0_empty_10 rfl ?_
  refine z_iconst iX0_empty_11 zk_0 ?_
  refine z_putf iX0_empty_12 fX0_40 (sB_o _ _ _) rfl rfl (Nat.le_of_ble_eq_true rfl) (by omega) ?_
  rw [sB_w2]
  refine z_aload_n iX0_empty_15 rfl ?_
  refine z_iconst iX0_empty_16 zk_0 ?_
  refine z_putf iX0_empty_17 fX0_43 (sB_o _ _ _) rfl rfl (Nat.le_of_ble_eq_true rfl) (by omega) ?_
  rw [sB_w3]
  refine z_aload_n iX0_empty_20 rfl ?_
  refine z_iconst iX0_empty_21 zk_0 ?_
  refine z_putf iX0_empty_22 fX0_46 (sB_o _ _ _) rfl rfl (Nat.le_of_ble_eq_true rfl) (by omega) ?_
  rw [sB_w4]
  refine z_iconst iX0_empty_25 zk_0 ?_
  refine z_istore_n iX0_empty_26 rfl (by decide) ?_
  exact lp_empty G g a ha 3 0 (bEmpty0 s) rfl
set_option maxRecDepth 20000 in
set_option maxHeartbeats 1000000 in
theorem c_lay (G : zG) (g : zh) (a : Nat) (ha : a < 900) (s : zs) (b k : Nat) (l w : Int32) (hb : b < 3) (hh : rA s 10 b < 3) (hc : rN s 1 < 9) : zK G mX0_lay [.ref a, .int (nI b), .int (nI k), .int l, .int w] (sB g a s) none (sB g a (bLay s b k l w)) := by
  refine zK_of 0 rfl (by decide) trivial (Nat.le_of_ble_eq_true rfl) rfl ?_
  refine z_iload_n iX0_lay_0 rfl ?_
  refine z_iconst iX0_lay_1 zk_3 ?_
  refine zn_ge iX0_lay_2 (by omega) (by omega) (fun q2 => absurd q2 (by omega)) (fun q2 => ?_)
  refine z_aload_n iX0_lay_5 rfl ?_
  refine z_getf iX0_lay_6 fX0_27 (sB_o _ _ _) (BF_10 _ _) (by omega) ?_
  refine z_iload_n iX0_lay_9 rfl ?_
  refine z_iaload iX0_lay_10 (sB_10 _ _ _) rfl (by omega) (by decide) (by omega) ?_
  refine z_iconst iX0_lay_11 zk_3 ?_
  refine zn_ge iX0_lay_12 (by omega) (by omega) (fun q12 => absurd q12 (by omega)) (fun q12 => ?_)
  refine z_aload_n iX0_lay_15 rfl ?_
  refine z_getf iX0_lay_16 fX0_37 (sB_o _ _ _) (BF_1 _ _) (by omega) ?_
  refine z_bipush iX0_lay_19 zb_9 ?_
  refine zn_lt iX0_lay_21 (by omega) (by omega) (fun q21 => ?_) (fun q21 => absurd q21 (by omega))
  refine z_aload_n iX0_lay_25 rfl ?_
  refine z_getf iX0_lay_26 fX0_9 (sB_o _ _ _) (BF_5 _ _) (by omega) ?_
  refine z_aload_n iX0_lay_29 rfl ?_
  refine z_getf iX0_lay_30 fX0_37 (sB_o _ _ _) (BF_1 _ _) (by omega) ?_
  refine z_iload_n iX0_lay_33 rfl ?_
  refine z_iastore iX0_lay_34 (sB_5 _ _ _) rfl hc (by decide) (by omega) (by decide) ?_
  rw [upd_nI, sB_w5]
  refine z_aload_n iX0_lay_35 rfl ?_
  refine z_getf iX0_lay_36 fX0_15 (sB_o _ _ _) (BF_6 _ _) (by omega) ?_
  refine z_aload_n iX0_lay_39 rfl ?_
  refine z_getf iX0_lay_40 fX0_37 (sB_o _ _ _) (BF_1 _ _) (by omega) ?_
  refine z_iload_n iX0_lay_43 rfl ?_
  refine z_iastore iX0_lay_44 (sB_6 _ _ _) rfl hc (by decide) (by omega) (by decide) ?_
  rw [upd_nI, sB_w6]
  refine z_aload_n iX0_lay_45 rfl ?_
  refine z_getf iX0_lay_46 fX0_18 (sB_o _ _ _) (BF_7 _ _) (by omega) ?_
  refine z_aload_n iX0_lay_49 rfl ?_
  refine z_getf iX0_lay_50 fX0_37 (sB_o _ _ _) (BF_1 _ _) (by omega) ?_
  refine z_iload_n iX0_lay_53 rfl ?_
  refine z_iastore iX0_lay_54 (sB_7 _ _ _) rfl hc (by decide) (by omega) (by decide) ?_
  rw [sB_w7]
  refine z_aload_n iX0_lay_55 rfl ?_
  refine z_getf iX0_lay_56 fX0_21 (sB_o _ _ _) (BF_8 _ _) (by omega) ?_
  refine z_aload_n iX0_lay_59 rfl ?_
  refine z_getf iX0_lay_60 fX0_37 (sB_o _ _ _) (BF_1 _ _) (by omega) ?_
  refine z_iload iX0_lay_63 rfl ?_
  refine z_iastore iX0_lay_65 (sB_8 _ _ _) rfl hc (by decide) (by omega) (by decide) ?_
  rw [sB_w8]
  refine z_aload_n iX0_lay_66 rfl ?_
  refine z_getf iX0_lay_67 fX0_24 (sB_o _ _ _) (BF_9 _ _) (by omega) ?_
  refine z_aload_n iX0_lay_70 rfl ?_
  refine z_getf iX0_lay_71 fX0_37 (sB_o _ _ _) (BF_1 _ _) (by omega) ?_
  refine z_iconst iX0_lay_74 zk_0 ?_
  refine z_iastore iX0_lay_75 (sB_9 _ _ _) rfl hc (by decide) (by omega) (by decide) ?_
  rw [sB_w9]
  refine z_aload_n iX0_lay_76 rfl ?_
  refine z_getf iX0_lay_77 fX0_30 (sB_o _ _ _) (BF_11 _ _) (by omega) ?_
  refine z_iload_n iX0_lay_80 rfl ?_
  refine z_iconst iX0_lay_81 zk_3 ?_
  refine z_imul iX0_lay_82 ?_
  refine z_top nix_mul ?_
  refine z_aload_n iX0_lay_83 rfl ?_
  refine z_getf iX0_lay_84 fX0_27 (sB_o _ _ _) (BF_10 _ _) (by omega) ?_
  refine z_iload_n iX0_lay_87 rfl ?_
  refine z_iaload iX0_lay_88 (sB_10 _ _ _) rfl hb (by decide) (by omega) ?_
  refine z_iadd iX0_lay_89 ?_
  refine z_top nix_add ?_
  refine z_aload_n iX0_lay_90 rfl ?_
  refine z_getf iX0_lay_91 fX0_37 (sB_o _ _ _) (BF_1 _ _) (by omega) ?_
  refine z_iastore iX0_lay_94 (sB_11 _ _ _) rfl (show b * 3 + rA s 10 b < 9 by omega) (by decide) (by omega) (by decide) ?_
  rw [upd_nI, sB_w11]
  refine z_aload_n iX0_lay_95 rfl ?_
  refine z_getf iX0_lay_96 fX0_27 (sB_o _ _ _) (BF_10 _ _) (by omega) ?_
  refine z_iload_n iX0_lay_99 rfl ?_
  refine z_dup2 iX0_lay_100 rfl rfl ?_
  refine z_iaload iX0_lay_101 (sB_10 _ _ _) rfl (by omega) (by decide) (by omega) ?_
  refine z_iconst iX0_lay_102 zk_1 ?_
  refine z_iadd iX0_lay_103 ?_
  refine z_top nix_add ?_
  refine z_iastore iX0_lay_104 (sB_10 _ _ _) rfl (by omega) (by decide) (by omega) (by decide) ?_
  rw [upd_nI, sB_w10]
  refine z_aload_n iX0_lay_105 rfl ?_
  refine z_dup iX0_lay_106 rfl ?_
  refine z_getf iX0_lay_107 fX0_37 (sB_o _ _ _) (BF_1 _ _) (by omega) ?_
  refine z_iconst iX0_lay_110 zk_1 ?_
  refine z_iadd iX0_lay_111 ?_
  refine z_top nix_add ?_
  refine z_putf iX0_lay_112 fX0_37 (sB_o _ _ _) rfl rfl (Nat.le_of_ble_eq_true rfl) (by omega) ?_
  rw [sB_w1]
  refine z_aload_n iX0_lay_115 rfl ?_
  refine z_iload_n iX0_lay_116 rfl ?_
  refine z_iconst iX0_lay_117 zk_1 ?_
  refine z_iadd iX0_lay_118 ?_
  refine z_top nix_add ?_
  refine z_putf iX0_lay_119 fX0_33 (sB_o _ _ _) rfl rfl (Nat.le_of_ble_eq_true rfl) (by omega) ?_
  rw [sB_w0]
  exact z_return iX0_lay_122 (rfl)
end
