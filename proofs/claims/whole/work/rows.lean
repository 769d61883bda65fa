section
-- ===== PART A: goes FIRST, ahead of the names: the tables' words, and 'selects' of the private methods out of them =====
/-- a private method of a class that the tables say can be made, by its rows of tables_1 -/
def lw_okq (q : MethodName × Nat) : Prop := (q.1.cls ≠ "java/lang/invoke/MethodHandle" ∧ q.1.cls ≠ "java/lang/invoke/VarHandle") ∧ Cond.instantiable q.1.cls q.2 ∈ tables_1 ∧ Cond.privateMethod q.1 ∈ tables_1 ∧ Cond.instanceMethod q.1 ∈ tables_1
theorem lw_p0 : lw_okq (⟨"ParcelMap$Points", "putOne", "(IJ)V"⟩, 5) := ⟨⟨by decide +kernel, by decide +kernel⟩, List.mem_of_getElem? (i := 21) (by decide +kernel), List.mem_of_getElem? (i := 258) (by decide +kernel), List.mem_of_getElem? (i := 259) (by decide +kernel)⟩
theorem lw_p1 : lw_okq (⟨"ParcelMap$Points", "exactTurn", "(III)I"⟩, 5) := ⟨⟨by decide +kernel, by decide +kernel⟩, List.mem_of_getElem? (i := 21) (by decide +kernel), List.mem_of_getElem? (i := 313) (by decide +kernel), List.mem_of_getElem? (i := 314) (by decide +kernel)⟩
theorem lw_p2 : lw_okq (⟨"ParcelMap$Points", "meetingInLine", "(IIII)I"⟩, 5) := ⟨⟨by decide +kernel, by decide +kernel⟩, List.mem_of_getElem? (i := 21) (by decide +kernel), List.mem_of_getElem? (i := 342) (by decide +kernel), List.mem_of_getElem? (i := 343) (by decide +kernel)⟩
theorem lw_p3 : lw_okq (⟨"ParcelMap$Points", "isNearer", "(II)Z"⟩, 5) := ⟨⟨by decide +kernel, by decide +kernel⟩, List.mem_of_getElem? (i := 21) (by decide +kernel), List.mem_of_getElem? (i := 359) (by decide +kernel), List.mem_of_getElem? (i := 360) (by decide +kernel)⟩
theorem lw_p4 : lw_okq (⟨"ParcelMap", "faultIn", "(LParcelMap$Ring;II)I"⟩, 11) := ⟨⟨by decide +kernel, by decide +kernel⟩, List.mem_of_getElem? (i := 13) (by decide +kernel), List.mem_of_getElem? (i := 390) (by decide +kernel), List.mem_of_getElem? (i := 391) (by decide +kernel)⟩
theorem lw_p5 : lw_okq (⟨"ParcelMap$Shapes", "findsTwins", "(LParcelMap$Ring;)Z"⟩, 2) := ⟨⟨by decide +kernel, by decide +kernel⟩, List.mem_of_getElem? (i := 59) (by decide +kernel), List.mem_of_getElem? (i := 398) (by decide +kernel), List.mem_of_getElem? (i := 399) (by decide +kernel)⟩
theorem lw_p6 : lw_okq (⟨"ParcelMap$Shapes", "findsCrossing", "(LParcelMap$Ring;)Z"⟩, 2) := ⟨⟨by decide +kernel, by decide +kernel⟩, List.mem_of_getElem? (i := 59) (by decide +kernel), List.mem_of_getElem? (i := 402) (by decide +kernel), List.mem_of_getElem? (i := 403) (by decide +kernel)⟩
theorem lw_p7 : lw_okq (⟨"ParcelMap$Shapes", "farthest", "(LParcelMap$Ring;II)D"⟩, 2) := ⟨⟨by decide +kernel, by decide +kernel⟩, List.mem_of_getElem? (i := 59) (by decide +kernel), List.mem_of_getElem? (i := 431) (by decide +kernel), List.mem_of_getElem? (i := 432) (by decide +kernel)⟩
theorem lw_p8 : lw_okq (⟨"ParcelMap$Shapes", "cutsInto", "(IILParcelMap$Ring;)Z"⟩, 2) := ⟨⟨by decide +kernel, by decide +kernel⟩, List.mem_of_getElem? (i := 59) (by decide +kernel), List.mem_of_getElem? (i := 439) (by decide +kernel), List.mem_of_getElem? (i := 440) (by decide +kernel)⟩
theorem lw_p9 : lw_okq (⟨"ParcelMap$Shapes", "opensTo", "(LParcelMap$Ring;II)Z"⟩, 2) := ⟨⟨by decide +kernel, by decide +kernel⟩, List.mem_of_getElem? (i := 59) (by decide +kernel), List.mem_of_getElem? (i := 447) (by decide +kernel), List.mem_of_getElem? (i := 448) (by decide +kernel)⟩
theorem lw_p10 : lw_okq (⟨"ParcelMap$Shapes", "startsInto", "(LParcelMap$Ring;III)Z"⟩, 2) := ⟨⟨by decide +kernel, by decide +kernel⟩, List.mem_of_getElem? (i := 59) (by decide +kernel), List.mem_of_getElem? (i := 456) (by decide +kernel), List.mem_of_getElem? (i := 457) (by decide +kernel)⟩
theorem lw_p11 : lw_okq (⟨"ParcelMap$Shapes", "common", "(LParcelMap$Ring;ILParcelMap$Ring;I)I"⟩, 2) := ⟨⟨by decide +kernel, by decide +kernel⟩, List.mem_of_getElem? (i := 59) (by decide +kernel), List.mem_of_getElem? (i := 464) (by decide +kernel), List.mem_of_getElem? (i := 465) (by decide +kernel)⟩
theorem lw_p12 : lw_okq (⟨"ParcelMap$Ring", "isShared", "(ILParcelMap$Ring;)Z"⟩, 2) := ⟨⟨by decide +kernel, by decide +kernel⟩, List.mem_of_getElem? (i := 86) (by decide +kernel), List.mem_of_getElem? (i := 533) (by decide +kernel), List.mem_of_getElem? (i := 534) (by decide +kernel)⟩
theorem lw_p13 : lw_okq (⟨"ParcelMap$Hull", "take", "(LParcelMap$Ring;)V"⟩, 5) := ⟨⟨by decide +kernel, by decide +kernel⟩, List.mem_of_getElem? (i := 183) (by decide +kernel), List.mem_of_getElem? (i := 589) (by decide +kernel), List.mem_of_getElem? (i := 590) (by decide +kernel)⟩
theorem lw_p14 : lw_okq (⟨"ParcelMap$Hull", "append", "(LParcelMap$Points;II)V"⟩, 5) := ⟨⟨by decide +kernel, by decide +kernel⟩, List.mem_of_getElem? (i := 183) (by decide +kernel), List.mem_of_getElem? (i := 602) (by decide +kernel), List.mem_of_getElem? (i := 603) (by decide +kernel)⟩
theorem lw_p15 : lw_okq (⟨"ParcelMap$Shares", "cutShare", "(LParcelMap$Wide;I)I"⟩, 4) := ⟨⟨by decide +kernel, by decide +kernel⟩, List.mem_of_getElem? (i := 159) (by decide +kernel), List.mem_of_getElem? (i := 656) (by decide +kernel), List.mem_of_getElem? (i := 657) (by decide +kernel)⟩
def lw_privs_1 : List (MethodName × Nat) := [(⟨"ParcelMap$Points", "putOne", "(IJ)V"⟩, 5), (⟨"ParcelMap$Points", "exactTurn", "(III)I"⟩, 5), (⟨"ParcelMap$Points", "meetingInLine", "(IIII)I"⟩, 5), (⟨"ParcelMap$Points", "isNearer", "(II)Z"⟩, 5), (⟨"ParcelMap", "faultIn", "(LParcelMap$Ring;II)I"⟩, 11), (⟨"ParcelMap$Shapes", "findsTwins", "(LParcelMap$Ring;)Z"⟩, 2), (⟨"ParcelMap$Shapes", "findsCrossing", "(LParcelMap$Ring;)Z"⟩, 2), (⟨"ParcelMap$Shapes", "farthest", "(LParcelMap$Ring;II)D"⟩, 2), (⟨"ParcelMap$Shapes", "cutsInto", "(IILParcelMap$Ring;)Z"⟩, 2), (⟨"ParcelMap$Shapes", "opensTo", "(LParcelMap$Ring;II)Z"⟩, 2), (⟨"ParcelMap$Shapes", "startsInto", "(LParcelMap$Ring;III)Z"⟩, 2), (⟨"ParcelMap$Shapes", "common", "(LParcelMap$Ring;ILParcelMap$Ring;I)I"⟩, 2), (⟨"ParcelMap$Ring", "isShared", "(ILParcelMap$Ring;)Z"⟩, 2), (⟨"ParcelMap$Hull", "take", "(LParcelMap$Ring;)V"⟩, 5), (⟨"ParcelMap$Hull", "append", "(LParcelMap$Points;II)V"⟩, 5), (⟨"ParcelMap$Shares", "cutShare", "(LParcelMap$Wide;I)I"⟩, 4)]
theorem lw_r1 : ∀ q ∈ lw_privs_1, lw_okq q := List.forall_mem_cons.mpr ⟨lw_p0, List.forall_mem_cons.mpr ⟨lw_p1, List.forall_mem_cons.mpr ⟨lw_p2, List.forall_mem_cons.mpr ⟨lw_p3, List.forall_mem_cons.mpr ⟨lw_p4, List.forall_mem_cons.mpr ⟨lw_p5, List.forall_mem_cons.mpr ⟨lw_p6, List.forall_mem_cons.mpr ⟨lw_p7, List.forall_mem_cons.mpr ⟨lw_p8, List.forall_mem_cons.mpr ⟨lw_p9, List.forall_mem_cons.mpr ⟨lw_p10, List.forall_mem_cons.mpr ⟨lw_p11, List.forall_mem_cons.mpr ⟨lw_p12, List.forall_mem_cons.mpr ⟨lw_p13, List.forall_mem_cons.mpr ⟨lw_p14, List.forall_mem_cons.mpr ⟨lw_p15, fun _ h => absurd h List.not_mem_nil⟩⟩⟩⟩⟩⟩⟩⟩⟩⟩⟩⟩⟩⟩⟩⟩
theorem lw_p16 : lw_okq (⟨"ParcelMapModel", "lay", "(IJJ)V"⟩, 43) := ⟨⟨by decide +kernel, by decide +kernel⟩, List.mem_of_getElem? (i := 684) (by decide +kernel), List.mem_of_getElem? (i := 833) (by decide +kernel), List.mem_of_getElem? (i := 834) (by decide +kernel)⟩
theorem lw_p17 : lw_okq (⟨"ParcelMapModel", "isCorner", "(I)Z"⟩, 43) := ⟨⟨by decide +kernel, by decide +kernel⟩, List.mem_of_getElem? (i := 684) (by decide +kernel), List.mem_of_getElem? (i := 852) (by decide +kernel), List.mem_of_getElem? (i := 853) (by decide +kernel)⟩
theorem lw_p18 : lw_okq (⟨"ParcelMapModel", "turn", "(III)I"⟩, 43) := ⟨⟨by decide +kernel, by decide +kernel⟩, List.mem_of_getElem? (i := 684) (by decide +kernel), List.mem_of_getElem? (i := 872) (by decide +kernel), List.mem_of_getElem? (i := 873) (by decide +kernel)⟩
theorem lw_p19 : lw_okq (⟨"ParcelMapModel", "times", "([JII[JII[JIJ)V"⟩, 43) := ⟨⟨by decide +kernel, by decide +kernel⟩, List.mem_of_getElem? (i := 684) (by decide +kernel), List.mem_of_getElem? (i := 879) (by decide +kernel), List.mem_of_getElem? (i := 880) (by decide +kernel)⟩
theorem lw_p20 : lw_okq (⟨"ParcelMapModel", "common", "(IIII)I"⟩, 43) := ⟨⟨by decide +kernel, by decide +kernel⟩, List.mem_of_getElem? (i := 684) (by decide +kernel), List.mem_of_getElem? (i := 894) (by decide +kernel), List.mem_of_getElem? (i := 895) (by decide +kernel)⟩
theorem lw_p21 : lw_okq (⟨"ParcelMapModel", "ahead", "(II)I"⟩, 43) := ⟨⟨by decide +kernel, by decide +kernel⟩, List.mem_of_getElem? (i := 684) (by decide +kernel), List.mem_of_getElem? (i := 898) (by decide +kernel), List.mem_of_getElem? (i := 899) (by decide +kernel)⟩
theorem lw_p22 : lw_okq (⟨"ParcelMapModel", "isBetween", "(III)Z"⟩, 43) := ⟨⟨by decide +kernel, by decide +kernel⟩, List.mem_of_getElem? (i := 684) (by decide +kernel), List.mem_of_getElem? (i := 905) (by decide +kernel), List.mem_of_getElem? (i := 906) (by decide +kernel)⟩
theorem lw_p23 : lw_okq (⟨"ParcelMapModel", "faultOf", "()I"⟩, 43) := ⟨⟨by decide +kernel, by decide +kernel⟩, List.mem_of_getElem? (i := 684) (by decide +kernel), List.mem_of_getElem? (i := 928) (by decide +kernel), List.mem_of_getElem? (i := 929) (by decide +kernel)⟩
theorem lw_p24 : lw_okq (⟨"ParcelMapModel", "fault", "(II)I"⟩, 43) := ⟨⟨by decide +kernel, by decide +kernel⟩, List.mem_of_getElem? (i := 684) (by decide +kernel), List.mem_of_getElem? (i := 932) (by decide +kernel), List.mem_of_getElem? (i := 933) (by decide +kernel)⟩
theorem lw_p25 : lw_okq (⟨"ParcelMapModel", "turnLeft", "()V"⟩, 43) := ⟨⟨by decide +kernel, by decide +kernel⟩, List.mem_of_getElem? (i := 684) (by decide +kernel), List.mem_of_getElem? (i := 936) (by decide +kernel), List.mem_of_getElem? (i := 937) (by decide +kernel)⟩
theorem lw_p26 : lw_okq (⟨"ParcelMapModel", "store", "(I)V"⟩, 43) := ⟨⟨by decide +kernel, by decide +kernel⟩, List.mem_of_getElem? (i := 684) (by decide +kernel), List.mem_of_getElem? (i := 940) (by decide +kernel), List.mem_of_getElem? (i := 941) (by decide +kernel)⟩
theorem lw_p27 : lw_okq (⟨"ParcelMapModel", "overOf", "(III)I"⟩, 43) := ⟨⟨by decide +kernel, by decide +kernel⟩, List.mem_of_getElem? (i := 684) (by decide +kernel), List.mem_of_getElem? (i := 944) (by decide +kernel), List.mem_of_getElem? (i := 945) (by decide +kernel)⟩
theorem lw_p28 : lw_okq (⟨"ParcelMapModel", "lieOver", "(II)Z"⟩, 43) := ⟨⟨by decide +kernel, by decide +kernel⟩, List.mem_of_getElem? (i := 684) (by decide +kernel), List.mem_of_getElem? (i := 948) (by decide +kernel), List.mem_of_getElem? (i := 949) (by decide +kernel)⟩
theorem lw_p29 : lw_okq (⟨"ParcelMapModel", "of", "(II)I"⟩, 43) := ⟨⟨by decide +kernel, by decide +kernel⟩, List.mem_of_getElem? (i := 684) (by decide +kernel), List.mem_of_getElem? (i := 952) (by decide +kernel), List.mem_of_getElem? (i := 953) (by decide +kernel)⟩
theorem lw_p30 : lw_okq (⟨"ParcelMapModel", "passes", "(III)V"⟩, 43) := ⟨⟨by decide +kernel, by decide +kernel⟩, List.mem_of_getElem? (i := 684) (by decide +kernel), List.mem_of_getElem? (i := 956) (by decide +kernel), List.mem_of_getElem? (i := 957) (by decide +kernel)⟩
theorem lw_p31 : lw_okq (⟨"ParcelMapModel", "isOn", "(III)Z"⟩, 43) := ⟨⟨by decide +kernel, by decide +kernel⟩, List.mem_of_getElem? (i := 684) (by decide +kernel), List.mem_of_getElem? (i := 960) (by decide +kernel), List.mem_of_getElem? (i := 961) (by decide +kernel)⟩
def lw_privs_2 : List (MethodName × Nat) := [(⟨"ParcelMapModel", "lay", "(IJJ)V"⟩, 43), (⟨"ParcelMapModel", "isCorner", "(I)Z"⟩, 43), (⟨"ParcelMapModel", "turn", "(III)I"⟩, 43), (⟨"ParcelMapModel", "times", "([JII[JII[JIJ)V"⟩, 43), (⟨"ParcelMapModel", "common", "(IIII)I"⟩, 43), (⟨"ParcelMapModel", "ahead", "(II)I"⟩, 43), (⟨"ParcelMapModel", "isBetween", "(III)Z"⟩, 43), (⟨"ParcelMapModel", "faultOf", "()I"⟩, 43), (⟨"ParcelMapModel", "fault", "(II)I"⟩, 43), (⟨"ParcelMapModel", "turnLeft", "()V"⟩, 43), (⟨"ParcelMapModel", "store", "(I)V"⟩, 43), (⟨"ParcelMapModel", "overOf", "(III)I"⟩, 43), (⟨"ParcelMapModel", "lieOver", "(II)Z"⟩, 43), (⟨"ParcelMapModel", "of", "(II)I"⟩, 43), (⟨"ParcelMapModel", "passes", "(III)V"⟩, 43), (⟨"ParcelMapModel", "isOn", "(III)Z"⟩, 43)]
theorem lw_r2 : ∀ q ∈ lw_privs_2, lw_okq q := List.forall_mem_cons.mpr ⟨lw_p16, List.forall_mem_cons.mpr ⟨lw_p17, List.forall_mem_cons.mpr ⟨lw_p18, List.forall_mem_cons.mpr ⟨lw_p19, List.forall_mem_cons.mpr ⟨lw_p20, List.forall_mem_cons.mpr ⟨lw_p21, List.forall_mem_cons.mpr ⟨lw_p22, List.forall_mem_cons.mpr ⟨lw_p23, List.forall_mem_cons.mpr ⟨lw_p24, List.forall_mem_cons.mpr ⟨lw_p25, List.forall_mem_cons.mpr ⟨lw_p26, List.forall_mem_cons.mpr ⟨lw_p27, List.forall_mem_cons.mpr ⟨lw_p28, List.forall_mem_cons.mpr ⟨lw_p29, List.forall_mem_cons.mpr ⟨lw_p30, List.forall_mem_cons.mpr ⟨lw_p31, fun _ h => absurd h List.not_mem_nil⟩⟩⟩⟩⟩⟩⟩⟩⟩⟩⟩⟩⟩⟩⟩⟩
theorem lw_p32 : lw_okq (⟨"ParcelMapModel", "middle", "(II)V"⟩, 43) := ⟨⟨by decide +kernel, by decide +kernel⟩, List.mem_of_getElem? (i := 684) (by decide +kernel), List.mem_of_getElem? (i := 964) (by decide +kernel), List.mem_of_getElem? (i := 965) (by decide +kernel)⟩
theorem lw_p33 : lw_okq (⟨"ParcelMapModel", "lies", "(II)I"⟩, 43) := ⟨⟨by decide +kernel, by decide +kernel⟩, List.mem_of_getElem? (i := 684) (by decide +kernel), List.mem_of_getElem? (i := 971) (by decide +kernel), List.mem_of_getElem? (i := 972) (by decide +kernel)⟩
theorem lw_p34 : lw_okq (⟨"ParcelMapModel", "keep", "()V"⟩, 43) := ⟨⟨by decide +kernel, by decide +kernel⟩, List.mem_of_getElem? (i := 684) (by decide +kernel), List.mem_of_getElem? (i := 975) (by decide +kernel), List.mem_of_getElem? (i := 976) (by decide +kernel)⟩
theorem lw_p35 : lw_okq (⟨"ParcelMapModel", "made", "(II)I"⟩, 43) := ⟨⟨by decide +kernel, by decide +kernel⟩, List.mem_of_getElem? (i := 684) (by decide +kernel), List.mem_of_getElem? (i := 979) (by decide +kernel), List.mem_of_getElem? (i := 980) (by decide +kernel)⟩
theorem lw_p36 : lw_okq (⟨"ParcelMapModel", "isParcel", "(I)Z"⟩, 43) := ⟨⟨by decide +kernel, by decide +kernel⟩, List.mem_of_getElem? (i := 684) (by decide +kernel), List.mem_of_getElem? (i := 991) (by decide +kernel), List.mem_of_getElem? (i := 992) (by decide +kernel)⟩
theorem lw_p37 : lw_okq (⟨"ParcelMapModel", "there", "(I)I"⟩, 43) := ⟨⟨by decide +kernel, by decide +kernel⟩, List.mem_of_getElem? (i := 684) (by decide +kernel), List.mem_of_getElem? (i := 1003) (by decide +kernel), List.mem_of_getElem? (i := 1004) (by decide +kernel)⟩
theorem lw_p38 : lw_okq (⟨"ParcelMapModel", "isInside", "(III)Z"⟩, 43) := ⟨⟨by decide +kernel, by decide +kernel⟩, List.mem_of_getElem? (i := 684) (by decide +kernel), List.mem_of_getElem? (i := 1011) (by decide +kernel), List.mem_of_getElem? (i := 1012) (by decide +kernel)⟩
theorem lw_p39 : lw_okq (⟨"ParcelMapModel", "reverse", "(III)I"⟩, 43) := ⟨⟨by decide +kernel, by decide +kernel⟩, List.mem_of_getElem? (i := 684) (by decide +kernel), List.mem_of_getElem? (i := 1019) (by decide +kernel), List.mem_of_getElem? (i := 1020) (by decide +kernel)⟩
theorem lw_p40 : lw_okq (⟨"ParcelMapModel", "load", "(I)V"⟩, 43) := ⟨⟨by decide +kernel, by decide +kernel⟩, List.mem_of_getElem? (i := 684) (by decide +kernel), List.mem_of_getElem? (i := 1027) (by decide +kernel), List.mem_of_getElem? (i := 1028) (by decide +kernel)⟩
theorem lw_p41 : lw_okq (⟨"ParcelMapModel", "borders", "(II)I"⟩, 43) := ⟨⟨by decide +kernel, by decide +kernel⟩, List.mem_of_getElem? (i := 684) (by decide +kernel), List.mem_of_getElem? (i := 1035) (by decide +kernel), List.mem_of_getElem? (i := 1036) (by decide +kernel)⟩
theorem lw_p42 : lw_okq (⟨"ParcelMapModel", "comes", "(II)V"⟩, 43) := ⟨⟨by decide +kernel, by decide +kernel⟩, List.mem_of_getElem? (i := 684) (by decide +kernel), List.mem_of_getElem? (i := 1059) (by decide +kernel), List.mem_of_getElem? (i := 1060) (by decide +kernel)⟩
theorem lw_p43 : lw_okq (⟨"ParcelMapModel", "weigh", "(I)V"⟩, 43) := ⟨⟨by decide +kernel, by decide +kernel⟩, List.mem_of_getElem? (i := 684) (by decide +kernel), List.mem_of_getElem? (i := 1071) (by decide +kernel), List.mem_of_getElem? (i := 1072) (by decide +kernel)⟩
theorem lw_p44 : lw_okq (⟨"ParcelMapModel", "shareOf", "(II)I"⟩, 43) := ⟨⟨by decide +kernel, by decide +kernel⟩, List.mem_of_getElem? (i := 684) (by decide +kernel), List.mem_of_getElem? (i := 1083) (by decide +kernel), List.mem_of_getElem? (i := 1084) (by decide +kernel)⟩
def lw_privs_3 : List (MethodName × Nat) := [(⟨"ParcelMapModel", "middle", "(II)V"⟩, 43), (⟨"ParcelMapModel", "lies", "(II)I"⟩, 43), (⟨"ParcelMapModel", "keep", "()V"⟩, 43), (⟨"ParcelMapModel", "made", "(II)I"⟩, 43), (⟨"ParcelMapModel", "isParcel", "(I)Z"⟩, 43), (⟨"ParcelMapModel", "there", "(I)I"⟩, 43), (⟨"ParcelMapModel", "isInside", "(III)Z"⟩, 43), (⟨"ParcelMapModel", "reverse", "(III)I"⟩, 43), (⟨"ParcelMapModel", "load", "(I)V"⟩, 43), (⟨"ParcelMapModel", "borders", "(II)I"⟩, 43), (⟨"ParcelMapModel", "comes", "(II)V"⟩, 43), (⟨"ParcelMapModel", "weigh", "(I)V"⟩, 43), (⟨"ParcelMapModel", "shareOf", "(II)I"⟩, 43)]
theorem lw_r3 : ∀ q ∈ lw_privs_3, lw_okq q := List.forall_mem_cons.mpr ⟨lw_p32, List.forall_mem_cons.mpr ⟨lw_p33, List.forall_mem_cons.mpr ⟨lw_p34, List.forall_mem_cons.mpr ⟨lw_p35, List.forall_mem_cons.mpr ⟨lw_p36, List.forall_mem_cons.mpr ⟨lw_p37, List.forall_mem_cons.mpr ⟨lw_p38, List.forall_mem_cons.mpr ⟨lw_p39, List.forall_mem_cons.mpr ⟨lw_p40, List.forall_mem_cons.mpr ⟨lw_p41, List.forall_mem_cons.mpr ⟨lw_p42, List.forall_mem_cons.mpr ⟨lw_p43, List.forall_mem_cons.mpr ⟨lw_p44, fun _ h => absurd h List.not_mem_nil⟩⟩⟩⟩⟩⟩⟩⟩⟩⟩⟩⟩⟩
def lw_privs : List (MethodName × Nat) := lw_privs_1 ++ (lw_privs_2 ++ (lw_privs_3))
def lw_tbl : List Cond := k2_sels lw_privs ++ tables_1
theorem lw_privs_ok : ∀ q ∈ lw_privs, lw_okq q := by
  show ∀ q ∈ lw_privs_1 ++ (lw_privs_2 ++ (lw_privs_3)), lw_okq q
  exact List.forall_mem_append.mpr ⟨lw_r1, List.forall_mem_append.mpr ⟨lw_r2, lw_r3⟩⟩
/-- the streams that the claim lets the run draw from -/
abbrev lw_cs : List Choice := [Jvm.Choice.named "NaN.bits", Jvm.Choice.named "NaN.copy"]
theorem lw_bits : nanBits ∈ lw_cs := by first | decide | exact List.mem_cons_self | simp [lw_cs, nanBits]
end
section
def RX0 : String := "ParcelMap$Hull"
def TX0 : u_T := fun k => match k with
  | 0 => ("ParcelMap$Hull", "sorted", "[I", true)
  | 1 => ("ParcelMap$Hull", "taken", "[Z", true)
  | 2 => ("ParcelMap$Hull", "chain", "[I", true)
  | 3 => ("ParcelMap$Hull", "many", "I", false)
  | _ => ("ParcelMap$Hull", "size", "I", false)
def tyX0 : Nat → FieldType := fun k => match k with
  | 0 => .array .int
  | 1 => .array .boolean
  | 2 => .array .int
  | 3 => .int
  | _ => .int
theorem nmX0 : ∀ a, a < 5 → ∀ b, b < 5 → a ≠ b → (TX0 a).2.1 ≠ (TX0 b).2.1 := by decide +kernel
theorem tyX0_ok : ∀ k, k < 5 → parseFieldDescriptor (TX0 k).2.2.1 = some (tyX0 k) := by decide +kernel
abbrev cX0_init : ByteArray := prog_2_method_1_code
def yX0_init : MethodName := ⟨RX0, "<init>", "()V"⟩
abbrev cX0_gather : ByteArray := prog_2_method_2_code
def yX0_gather : MethodName := ⟨RX0, "gather", "(LParcelMap$Register;I)V"⟩
abbrev cX0_take : ByteArray := prog_2_method_3_code
def yX0_take : MethodName := ⟨RX0, "take", "(LParcelMap$Ring;)V"⟩
abbrev cX0_sort : ByteArray := prog_2_method_4_code
def yX0_sort : MethodName := ⟨RX0, "sort", "(LParcelMap$Points;)V"⟩
abbrev cX0_wrap : ByteArray := prog_2_method_5_code
def yX0_wrap : MethodName := ⟨RX0, "wrap", "(LParcelMap$Points;)V"⟩
abbrev cX0_append : ByteArray := prog_2_method_6_code
def yX0_append : MethodName := ⟨RX0, "append", "(LParcelMap$Points;II)V"⟩
def RX1 : String := "ParcelMap$Parcel"
def TX1 : u_T := fun k => match k with
  | 0 => ("ParcelMap$Parcel", "ring", "LParcelMap$Ring;", true)
  | 1 => ("ParcelMap$Parcel", "there", "Z", false)
  | 2 => ("ParcelMap$Parcel", "layer", "I", false)
  | _ => ("ParcelMap$Parcel", "owner", "I", false)
def tyX1 : Nat → FieldType := fun k => match k with
  | 0 => .object "ParcelMap$Ring"
  | 1 => .boolean
  | 2 => .int
  | _ => .int
theorem nmX1 : ∀ a, a < 4 → ∀ b, b < 4 → a ≠ b → (TX1 a).2.1 ≠ (TX1 b).2.1 := by decide +kernel
theorem tyX1_ok : ∀ k, k < 4 → parseFieldDescriptor (TX1 k).2.2.1 = some (tyX1 k) := by decide +kernel
abbrev cX1_init : ByteArray := prog_3_method_1_code
def yX1_init : MethodName := ⟨RX1, "<init>", "()V"⟩
abbrev cX1_copy : ByteArray := prog_3_method_2_code
def yX1_copy : MethodName := ⟨RX1, "copy", "(LParcelMap$Parcel;)V"⟩
def RX2 : String := "ParcelMap$Points"
def TX2 : u_T := fun k => match k with
  | 0 => ("ParcelMap$Points", "bits", "[J", true)
  | 1 => ("ParcelMap$Points", "value", "[D", true)
  | 2 => ("ParcelMap$Points", "limb", "[J", true)
  | 3 => ("ParcelMap$Points", "total", "LParcelMap$Wide;", true)
  | _ => ("ParcelMap$Points", "made", "I", false)
def tyX2 : Nat → FieldType := fun k => match k with
  | 0 => .array .long
  | 1 => .array .double
  | 2 => .array .long
  | 3 => .object "ParcelMap$Wide"
  | _ => .int
theorem nmX2 : ∀ a, a < 5 → ∀ b, b < 5 → a ≠ b → (TX2 a).2.1 ≠ (TX2 b).2.1 := by decide +kernel
theorem tyX2_ok : ∀ k, k < 5 → parseFieldDescriptor (TX2 k).2.2.1 = some (tyX2 k) := by decide +kernel
abbrev cX2_init : ByteArray := prog_4_method_1_code
def yX2_init : MethodName := ⟨RX2, "<init>", "()V"⟩
abbrev cX2_has : ByteArray := prog_4_method_2_code
def yX2_has : MethodName := ⟨RX2, "has", "(I)Z"⟩
abbrev cX2_make : ByteArray := prog_4_method_3_code
def yX2_make : MethodName := ⟨RX2, "make", "(JJ)I"⟩
abbrev cX2_put : ByteArray := prog_4_method_4_code
def yX2_put : MethodName := ⟨RX2, "put", "(IJJ)V"⟩
abbrev cX2_putOne : ByteArray := prog_4_method_5_code
def yX2_putOne : MethodName := ⟨RX2, "putOne", "(IJ)V"⟩
abbrev cX2_limbOf : ByteArray := prog_4_method_6_code
def yX2_limbOf : MethodName := ⟨RX2, "limbOf", "(JI)J"⟩
abbrev cX2_sameAsLoose : ByteArray := prog_4_method_7_code
def yX2_sameAsLoose : MethodName := ⟨RX2, "sameAsLoose", "()I"⟩
abbrev cX2_x : ByteArray := prog_4_method_8_code
def yX2_x : MethodName := ⟨RX2, "x", "(I)D"⟩
abbrev cX2_y : ByteArray := prog_4_method_9_code
def yX2_y : MethodName := ⟨RX2, "y", "(I)D"⟩
abbrev cX2_isAhead : ByteArray := prog_4_method_10_code
def yX2_isAhead : MethodName := ⟨RX2, "isAhead", "(II)Z"⟩
abbrev cX2_isSure : ByteArray := prog_4_method_11_code
def yX2_isSure : MethodName := ⟨RX2, "isSure", "(III)Z"⟩
abbrev cX2_isSureOf : ByteArray := prog_4_method_12_code
def yX2_isSureOf : MethodName := ⟨RX2, "isSureOf", "(DD)Z"⟩
abbrev cX2_turn : ByteArray := prog_4_method_13_code
def yX2_turn : MethodName := ⟨RX2, "turn", "(III)I"⟩
abbrev cX2_exactTurn : ByteArray := prog_4_method_14_code
def yX2_exactTurn : MethodName := ⟨RX2, "exactTurn", "(III)I"⟩
abbrev cX2_meeting : ByteArray := prog_4_method_15_code
def yX2_meeting : MethodName := ⟨RX2, "meeting", "(IIII)I"⟩
abbrev cX2_spansMeet : ByteArray := prog_4_method_16_code
def yX2_spansMeet : MethodName := ⟨RX2, "spansMeet", "(DDDD)Z"⟩
abbrev cX2_meetingInLine : ByteArray := prog_4_method_17_code
def yX2_meetingInLine : MethodName := ⟨RX2, "meetingInLine", "(IIII)I"⟩
abbrev cX2_isOn : ByteArray := prog_4_method_18_code
def yX2_isOn : MethodName := ⟨RX2, "isOn", "(III)Z"⟩
abbrev cX2_nearestToLoose : ByteArray := prog_4_method_19_code
def yX2_nearestToLoose : MethodName := ⟨RX2, "nearestToLoose", "()I"⟩
abbrev cX2_isNearer : ByteArray := prog_4_method_20_code
def yX2_isNearer : MethodName := ⟨RX2, "isNearer", "(II)Z"⟩
abbrev cX2_measure : ByteArray := prog_4_method_21_code
def yX2_measure : MethodName := ⟨RX2, "measure", "(LParcelMap$Ring;LParcelMap$Wide;)V"⟩
def RX3 : String := "ParcelMap$Register"
def TX3 : u_T := fun k => match k with
  | 0 => ("ParcelMap$Register", "parcels", "[LParcelMap$Parcel;", true)
  | 1 => ("ParcelMap$Register", "firstKept", "LParcelMap$Parcel;", true)
  | 2 => ("ParcelMap$Register", "secondKept", "LParcelMap$Parcel;", true)
  | 3 => ("ParcelMap$Register", "first", "I", false)
  | 4 => ("ParcelMap$Register", "second", "I", false)
  | 5 => ("ParcelMap$Register", "kept", "Z", false)
  | _ => ("ParcelMap$Register", "made", "I", false)
def tyX3 : Nat → FieldType := fun k => match k with
  | 0 => .array (.object "ParcelMap$Parcel")
  | 1 => .object "ParcelMap$Parcel"
  | 2 => .object "ParcelMap$Parcel"
  | 3 => .int
  | 4 => .int
  | 5 => .boolean
  | _ => .int
theorem nmX3 : ∀ a, a < 7 → ∀ b, b < 7 → a ≠ b → (TX3 a).2.1 ≠ (TX3 b).2.1 := by decide +kernel
theorem tyX3_ok : ∀ k, k < 7 → parseFieldDescriptor (TX3 k).2.2.1 = some (tyX3 k) := by decide +kernel
abbrev cX3_init : ByteArray := prog_5_method_1_code
def yX3_init : MethodName := ⟨RX3, "<init>", "()V"⟩
abbrev cX3_has : ByteArray := prog_5_method_2_code
def yX3_has : MethodName := ⟨RX3, "has", "(I)Z"⟩
abbrev cX3_isOf : ByteArray := prog_5_method_3_code
def yX3_isOf : MethodName := ⟨RX3, "isOf", "(II)Z"⟩
abbrev cX3_hasRoom : ByteArray := prog_5_method_4_code
def yX3_hasRoom : MethodName := ⟨RX3, "hasRoom", "()Z"⟩
abbrev cX3_thereNow : ByteArray := prog_5_method_5_code
def yX3_thereNow : MethodName := ⟨RX3, "thereNow", "()I"⟩
abbrev cX3_thereIn : ByteArray := prog_5_method_6_code
def yX3_thereIn : MethodName := ⟨RX3, "thereIn", "(I)I"⟩
abbrev cX3_make : ByteArray := prog_5_method_7_code
def yX3_make : MethodName := ⟨RX3, "make", "(IILParcelMap$Ring;)V"⟩
abbrev cX3_keep : ByteArray := prog_5_method_8_code
def yX3_keep : MethodName := ⟨RX3, "keep", "(II)V"⟩
abbrev cX3_restore : ByteArray := prog_5_method_9_code
def yX3_restore : MethodName := ⟨RX3, "restore", "()V"⟩
abbrev cX3_isEntry : ByteArray := prog_5_method_10_code
def yX3_isEntry : MethodName := ⟨RX3, "isEntry", "(I)Z"⟩
def RX4 : String := "ParcelMap$Ring"
def TX4 : u_T := fun k => match k with
  | 0 => ("ParcelMap$Ring", "corner", "[I", true)
  | _ => ("ParcelMap$Ring", "size", "I", false)
def tyX4 : Nat → FieldType := fun k => match k with
  | 0 => .array .int
  | _ => .int
theorem nmX4 : ∀ a, a < 2 → ∀ b, b < 2 → a ≠ b → (TX4 a).2.1 ≠ (TX4 b).2.1 := by decide +kernel
theorem tyX4_ok : ∀ k, k < 2 → parseFieldDescriptor (TX4 k).2.2.1 = some (tyX4 k) := by decide +kernel
abbrev cX4_init : ByteArray := prog_6_method_1_code
def yX4_init : MethodName := ⟨RX4, "<init>", "()V"⟩
abbrev cX4_empty : ByteArray := prog_6_method_2_code
def yX4_empty : MethodName := ⟨RX4, "empty", "()V"⟩
abbrev cX4_push : ByteArray := prog_6_method_3_code
def yX4_push : MethodName := ⟨RX4, "push", "(I)V"⟩
abbrev cX4_copy : ByteArray := prog_6_method_4_code
def yX4_copy : MethodName := ⟨RX4, "copy", "(LParcelMap$Ring;)V"⟩
abbrev cX4_pushRun : ByteArray := prog_6_method_5_code
def yX4_pushRun : MethodName := ⟨RX4, "pushRun", "(LParcelMap$Ring;II)V"⟩
abbrev cX4_around : ByteArray := prog_6_method_6_code
def yX4_around : MethodName := ⟨RX4, "around", "(I)I"⟩
abbrev cX4_isShared : ByteArray := prog_6_method_7_code
def yX4_isShared : MethodName := ⟨RX4, "isShared", "(ILParcelMap$Ring;)Z"⟩
abbrev cX4_sharedWith : ByteArray := prog_6_method_8_code
def yX4_sharedWith : MethodName := ⟨RX4, "sharedWith", "(LParcelMap$Ring;)I"⟩
abbrev cX4_startOfShared : ByteArray := prog_6_method_9_code
def yX4_startOfShared : MethodName := ⟨RX4, "startOfShared", "(LParcelMap$Ring;)I"⟩
def RX5 : String := "ParcelMap$Shapes"
def TX5 : u_T := fun k => match k with
  | 0 => ("ParcelMap$Shapes", "points", "LParcelMap$Points;", true)
  | _ => ("ParcelMap$Shapes", "place", "I", false)
def tyX5 : Nat → FieldType := fun k => match k with
  | 0 => .object "ParcelMap$Points"
  | _ => .int
theorem nmX5 : ∀ a, a < 2 → ∀ b, b < 2 → a ≠ b → (TX5 a).2.1 ≠ (TX5 b).2.1 := by decide +kernel
theorem tyX5_ok : ∀ k, k < 2 → parseFieldDescriptor (TX5 k).2.2.1 = some (tyX5 k) := by decide +kernel
abbrev cX5_init : ByteArray := prog_7_method_1_code
def yX5_init : MethodName := ⟨RX5, "<init>", "(LParcelMap$Points;)V"⟩
abbrev cX5_faultOf : ByteArray := prog_7_method_2_code
def yX5_faultOf : MethodName := ⟨RX5, "faultOf", "(LParcelMap$Ring;)I"⟩
abbrev cX5_findsTwins : ByteArray := prog_7_method_3_code
def yX5_findsTwins : MethodName := ⟨RX5, "findsTwins", "(LParcelMap$Ring;)Z"⟩
abbrev cX5_findsCrossing : ByteArray := prog_7_method_4_code
def yX5_findsCrossing : MethodName := ⟨RX5, "findsCrossing", "(LParcelMap$Ring;)Z"⟩
abbrev cX5_common : ByteArray := prog_7_method_5_code
def yX5_common : MethodName := ⟨RX5, "common", "(LParcelMap$Ring;ILParcelMap$Ring;I)I"⟩
abbrev cX5_settle : ByteArray := prog_7_method_6_code
def yX5_settle : MethodName := ⟨RX5, "settle", "(LParcelMap$Ring;LParcelMap$Ring;)V"⟩
abbrev cX5_placeOf : ByteArray := prog_7_method_7_code
def yX5_placeOf : MethodName := ⟨RX5, "placeOf", "(ILParcelMap$Ring;)I"⟩
abbrev cX5_opensTo : ByteArray := prog_7_method_8_code
def yX5_opensTo : MethodName := ⟨RX5, "opensTo", "(LParcelMap$Ring;II)Z"⟩
abbrev cX5_startsInto : ByteArray := prog_7_method_9_code
def yX5_startsInto : MethodName := ⟨RX5, "startsInto", "(LParcelMap$Ring;III)Z"⟩
abbrev cX5_cutsInto : ByteArray := prog_7_method_10_code
def yX5_cutsInto : MethodName := ⟨RX5, "cutsInto", "(IILParcelMap$Ring;)Z"⟩
abbrev cX5_goesThrough : ByteArray := prog_7_method_11_code
def yX5_goesThrough : MethodName := ⟨RX5, "goesThrough", "(IILParcelMap$Ring;)Z"⟩
abbrev cX5_reachesInto : ByteArray := prog_7_method_12_code
def yX5_reachesInto : MethodName := ⟨RX5, "reachesInto", "(LParcelMap$Ring;LParcelMap$Ring;)Z"⟩
abbrev cX5_haveLikeLand : ByteArray := prog_7_method_13_code
def yX5_haveLikeLand : MethodName := ⟨RX5, "haveLikeLand", "(LParcelMap$Ring;LParcelMap$Ring;)Z"⟩
abbrev cX5_stretches : ByteArray := prog_7_method_14_code
def yX5_stretches : MethodName := ⟨RX5, "stretches", "(LParcelMap$Ring;LParcelMap$Ring;)I"⟩
abbrev cX5_framesMeet : ByteArray := prog_7_method_15_code
def yX5_framesMeet : MethodName := ⟨RX5, "framesMeet", "(LParcelMap$Ring;LParcelMap$Ring;)Z"⟩
abbrev cX5_farthest : ByteArray := prog_7_method_16_code
def yX5_farthest : MethodName := ⟨RX5, "farthest", "(LParcelMap$Ring;II)D"⟩
abbrev cX5_isCut : ByteArray := prog_7_method_17_code
def yX5_isCut : MethodName := ⟨RX5, "isCut", "(LParcelMap$Ring;II)Z"⟩
def RX6 : String := "ParcelMap$Shares"
def TX6 : u_T := fun k => match k with
  | 0 => ("ParcelMap$Shares", "rest", "[LParcelMap$Wide;", true)
  | 1 => ("ParcelMap$Shares", "whole", "LParcelMap$Wide;", true)
  | 2 => ("ParcelMap$Shares", "mine", "LParcelMap$Wide;", true)
  | _ => ("ParcelMap$Shares", "yours", "LParcelMap$Wide;", true)
def tyX6 : Nat → FieldType := fun k => match k with
  | 0 => .array (.object "ParcelMap$Wide")
  | 1 => .object "ParcelMap$Wide"
  | 2 => .object "ParcelMap$Wide"
  | _ => .object "ParcelMap$Wide"
theorem nmX6 : ∀ a, a < 4 → ∀ b, b < 4 → a ≠ b → (TX6 a).2.1 ≠ (TX6 b).2.1 := by decide +kernel
theorem tyX6_ok : ∀ k, k < 4 → parseFieldDescriptor (TX6 k).2.2.1 = some (tyX6 k) := by decide +kernel
abbrev cX6_init : ByteArray := prog_8_method_1_code
def yX6_init : MethodName := ⟨RX6, "<init>", "()V"⟩
abbrev cX6_weigh : ByteArray := prog_8_method_2_code
def yX6_weigh : MethodName := ⟨RX6, "weigh", "(LParcelMap$Register;LParcelMap$Points;I)V"⟩
abbrev cX6_shareOf : ByteArray := prog_8_method_3_code
def yX6_shareOf : MethodName := ⟨RX6, "shareOf", "(LParcelMap$Register;III)I"⟩
abbrev cX6_cutShare : ByteArray := prog_8_method_4_code
def yX6_cutShare : MethodName := ⟨RX6, "cutShare", "(LParcelMap$Wide;I)I"⟩
def RX7 : String := "ParcelMap$Wide"
def TX7 : u_T := fun k => match k with
  | _ => ("ParcelMap$Wide", "column", "[J", true)
def tyX7 : Nat → FieldType := fun k => match k with
  | _ => .array .long
theorem nmX7 : ∀ a, a < 1 → ∀ b, b < 1 → a ≠ b → (TX7 a).2.1 ≠ (TX7 b).2.1 := by decide +kernel
theorem tyX7_ok : ∀ k, k < 1 → parseFieldDescriptor (TX7 k).2.2.1 = some (tyX7 k) := by decide +kernel
abbrev cX7_init : ByteArray := prog_9_method_1_code
def yX7_init : MethodName := ⟨RX7, "<init>", "()V"⟩
abbrev cX7_clear : ByteArray := prog_9_method_2_code
def yX7_clear : MethodName := ⟨RX7, "clear", "()V"⟩
abbrev cX7_copy : ByteArray := prog_9_method_3_code
def yX7_copy : MethodName := ⟨RX7, "copy", "(LParcelMap$Wide;)V"⟩
abbrev cX7_plus : ByteArray := prog_9_method_4_code
def yX7_plus : MethodName := ⟨RX7, "plus", "(LParcelMap$Wide;J)V"⟩
abbrev cX7_carry : ByteArray := prog_9_method_5_code
def yX7_carry : MethodName := ⟨RX7, "carry", "()V"⟩
abbrev cX7_sign : ByteArray := prog_9_method_6_code
def yX7_sign : MethodName := ⟨RX7, "sign", "()I"⟩
abbrev cX7_against : ByteArray := prog_9_method_7_code
def yX7_against : MethodName := ⟨RX7, "against", "(LParcelMap$Wide;)I"⟩
abbrev cX7_wholePart : ByteArray := prog_9_method_8_code
def yX7_wholePart : MethodName := ⟨RX7, "wholePart", "()J"⟩
def RX8 : String := "ParcelMap"
def TX8 : u_T := fun k => match k with
  | 0 => ("ParcelMap", "points", "LParcelMap$Points;", true)
  | 1 => ("ParcelMap", "shapes", "LParcelMap$Shapes;", true)
  | 2 => ("ParcelMap", "register", "LParcelMap$Register;", true)
  | 3 => ("ParcelMap", "shares", "LParcelMap$Shares;", true)
  | 4 => ("ParcelMap", "outline", "LParcelMap$Hull;", true)
  | 5 => ("ParcelMap", "drawn", "LParcelMap$Ring;", true)
  | 6 => ("ParcelMap", "tried", "LParcelMap$Ring;", true)
  | 7 => ("ParcelMap", "settled", "LParcelMap$Ring;", true)
  | 8 => ("ParcelMap", "where", "I", false)
  | 9 => ("ParcelMap", "sureness", "I", false)
  | _ => ("ParcelMap", "foundEdge", "I", false)
def tyX8 : Nat → FieldType := fun k => match k with
  | 0 => .object "ParcelMap$Points"
  | 1 => .object "ParcelMap$Shapes"
  | 2 => .object "ParcelMap$Register"
  | 3 => .object "ParcelMap$Shares"
  | 4 => .object "ParcelMap$Hull"
  | 5 => .object "ParcelMap$Ring"
  | 6 => .object "ParcelMap$Ring"
  | 7 => .object "ParcelMap$Ring"
  | 8 => .int
  | 9 => .int
  | _ => .int
theorem nmX8 : ∀ a, a < 11 → ∀ b, b < 11 → a ≠ b → (TX8 a).2.1 ≠ (TX8 b).2.1 := by decide +kernel
theorem tyX8_ok : ∀ k, k < 11 → parseFieldDescriptor (TX8 k).2.2.1 = some (tyX8 k) := by decide +kernel
abbrev cX8_init : ByteArray := prog_1_method_1_code
def yX8_init : MethodName := ⟨RX8, "<init>", "()V"⟩
abbrev cX8_corner : ByteArray := prog_1_method_2_code
def yX8_corner : MethodName := ⟨RX8, "corner", "(JJ)I"⟩
abbrev cX8_at : ByteArray := prog_1_method_3_code
def yX8_at : MethodName := ⟨RX8, "at", "(II)J"⟩
abbrev cX8_side : ByteArray := prog_1_method_4_code
def yX8_side : MethodName := ⟨RX8, "side", "(III)I"⟩
abbrev cX8_sure : ByteArray := prog_1_method_5_code
def yX8_sure : MethodName := ⟨RX8, "sure", "()I"⟩
abbrev cX8_cross : ByteArray := prog_1_method_6_code
def yX8_cross : MethodName := ⟨RX8, "cross", "(IIII)I"⟩
abbrev cX8_nearest : ByteArray := prog_1_method_7_code
def yX8_nearest : MethodName := ⟨RX8, "nearest", "(JJ)I"⟩
abbrev cX8_draw : ByteArray := prog_1_method_8_code
def yX8_draw : MethodName := ⟨RX8, "draw", "()I"⟩
abbrev cX8_add : ByteArray := prog_1_method_9_code
def yX8_add : MethodName := ⟨RX8, "add", "(I)I"⟩
abbrev cX8_close : ByteArray := prog_1_method_10_code
def yX8_close : MethodName := ⟨RX8, "close", "(II)I"⟩
abbrev cX8_where : ByteArray := prog_1_method_11_code
def yX8_where : MethodName := ⟨RX8, "where", "()I"⟩
abbrev cX8_told : ByteArray := prog_1_method_12_code
def yX8_told : MethodName := ⟨RX8, "told", "(II)I"⟩
abbrev cX8_give : ByteArray := prog_1_method_13_code
def yX8_give : MethodName := ⟨RX8, "give", "(II)I"⟩
abbrev cX8_drop : ByteArray := prog_1_method_14_code
def yX8_drop : MethodName := ⟨RX8, "drop", "(I)I"⟩
abbrev cX8_split : ByteArray := prog_1_method_15_code
def yX8_split : MethodName := ⟨RX8, "split", "(IIII)I"⟩
abbrev cX8_join : ByteArray := prog_1_method_16_code
def yX8_join : MethodName := ⟨RX8, "join", "(II)I"⟩
abbrev cX8_move : ByteArray := prog_1_method_17_code
def yX8_move : MethodName := ⟨RX8, "move", "(III)I"⟩
abbrev cX8_border : ByteArray := prog_1_method_18_code
def yX8_border : MethodName := ⟨RX8, "border", "(II)I"⟩
abbrev cX8_neighbour : ByteArray := prog_1_method_19_code
def yX8_neighbour : MethodName := ⟨RX8, "neighbour", "(II)I"⟩
abbrev cX8_locate : ByteArray := prog_1_method_20_code
def yX8_locate : MethodName := ⟨RX8, "locate", "(IJJ)I"⟩
abbrev cX8_edge : ByteArray := prog_1_method_21_code
def yX8_edge : MethodName := ⟨RX8, "edge", "()I"⟩
abbrev cX8_walk : ByteArray := prog_1_method_22_code
def yX8_walk : MethodName := ⟨RX8, "walk", "(IIII)I"⟩
abbrev cX8_hull : ByteArray := prog_1_method_23_code
def yX8_hull : MethodName := ⟨RX8, "hull", "(I)I"⟩
abbrev cX8_hullAt : ByteArray := prog_1_method_24_code
def yX8_hullAt : MethodName := ⟨RX8, "hullAt", "(I)I"⟩
abbrev cX8_twice : ByteArray := prog_1_method_25_code
def yX8_twice : MethodName := ⟨RX8, "twice", "(I)J"⟩
abbrev cX8_compare : ByteArray := prog_1_method_26_code
def yX8_compare : MethodName := ⟨RX8, "compare", "(II)I"⟩
abbrev cX8_quota : ByteArray := prog_1_method_27_code
def yX8_quota : MethodName := ⟨RX8, "quota", "(II)I"⟩
abbrev cX8_undo : ByteArray := prog_1_method_28_code
def yX8_undo : MethodName := ⟨RX8, "undo", "()I"⟩
abbrev cX8_count : ByteArray := prog_1_method_29_code
def yX8_count : MethodName := ⟨RX8, "count", "(I)I"⟩
abbrev cX8_digest : ByteArray := prog_1_method_30_code
def yX8_digest : MethodName := ⟨RX8, "digest", "()J"⟩
abbrev cX8_isNumber : ByteArray := prog_1_method_31_code
def yX8_isNumber : MethodName := ⟨RX8, "isNumber", "(J)Z"⟩
abbrev cX8_isLayer : ByteArray := prog_1_method_32_code
def yX8_isLayer : MethodName := ⟨RX8, "isLayer", "(I)Z"⟩
abbrev cX8_faultIn : ByteArray := prog_1_method_33_code
def yX8_faultIn : MethodName := ⟨RX8, "faultIn", "(LParcelMap$Ring;II)I"⟩
def RX9 : String := "ParcelMapModel"
def TX9 : u_T := fun k => match k with
  | 0 => ("ParcelMapModel", "bitsX", "[J", true)
  | 1 => ("ParcelMapModel", "bitsY", "[J", true)
  | 2 => ("ParcelMapModel", "limbX", "[J", true)
  | 3 => ("ParcelMapModel", "limbY", "[J", true)
  | 4 => ("ParcelMapModel", "corners", "I", false)
  | 5 => ("ParcelMapModel", "one", "[J", true)
  | 6 => ("ParcelMapModel", "two", "[J", true)
  | 7 => ("ParcelMapModel", "sum", "[J", true)
  | 8 => ("ParcelMapModel", "sure", "I", false)
  | 9 => ("ParcelMapModel", "best", "[J", true)
  | 10 => ("ParcelMapModel", "drawn", "[I", true)
  | 11 => ("ParcelMapModel", "draws", "I", false)
  | 12 => ("ParcelMapModel", "where", "I", false)
  | 13 => ("ParcelMapModel", "ring", "[I", true)
  | 14 => ("ParcelMapModel", "rings", "I", false)
  | 15 => ("ParcelMapModel", "held", "[I", true)
  | 16 => ("ParcelMapModel", "parcels", "I", false)
  | 17 => ("ParcelMapModel", "isThere", "[Z", true)
  | 18 => ("ParcelMapModel", "layerOf", "[I", true)
  | 19 => ("ParcelMapModel", "ownerOf", "[I", true)
  | 20 => ("ParcelMapModel", "sizeOf", "[I", true)
  | 21 => ("ParcelMapModel", "rowOf", "[I", true)
  | 22 => ("ParcelMapModel", "canUndo", "Z", false)
  | 23 => ("ParcelMapModel", "wereParcels", "I", false)
  | 24 => ("ParcelMapModel", "wasThere", "[Z", true)
  | 25 => ("ParcelMapModel", "wasLayer", "[I", true)
  | 26 => ("ParcelMapModel", "wasOwner", "[I", true)
  | 27 => ("ParcelMapModel", "wasSize", "[I", true)
  | 28 => ("ParcelMapModel", "wasRow", "[I", true)
  | 29 => ("ParcelMapModel", "goesIn", "Z", false)
  | 30 => ("ParcelMapModel", "isOff", "Z", false)
  | 31 => ("ParcelMapModel", "stops", "[I", true)
  | 32 => ("ParcelMapModel", "onEdge", "I", false)
  | 33 => ("ParcelMapModel", "before", "[I", true)
  | 34 => ("ParcelMapModel", "edge", "I", false)
  | 35 => ("ParcelMapModel", "hulled", "I", false)
  | 36 => ("ParcelMapModel", "hullRow", "[I", true)
  | 37 => ("ParcelMapModel", "sorted", "[I", true)
  | 38 => ("ParcelMapModel", "isIn", "[Z", true)
  | 39 => ("ParcelMapModel", "area", "[J", true)
  | 40 => ("ParcelMapModel", "all", "[J", true)
  | 41 => ("ParcelMapModel", "left", "[J", true)
  | _ => ("ParcelMapModel", "rest", "[J", true)
def tyX9 : Nat → FieldType := fun k => match k with
  | 0 => .array .long
  | 1 => .array .long
  | 2 => .array .long
  | 3 => .array .long
  | 4 => .int
  | 5 => .array .long
  | 6 => .array .long
  | 7 => .array .long
  | 8 => .int
  | 9 => .array .long
  | 10 => .array .int
  | 11 => .int
  | 12 => .int
  | 13 => .array .int
  | 14 => .int
  | 15 => .array .int
  | 16 => .int
  | 17 => .array .boolean
  | 18 => .array .int
  | 19 => .array .int
  | 20 => .array .int
  | 21 => .array .int
  | 22 => .boolean
  | 23 => .int
  | 24 => .array .boolean
  | 25 => .array .int
  | 26 => .array .int
  | 27 => .array .int
  | 28 => .array .int
  | 29 => .boolean
  | 30 => .boolean
  | 31 => .array .int
  | 32 => .int
  | 33 => .array .int
  | 34 => .int
  | 35 => .int
  | 36 => .array .int
  | 37 => .array .int
  | 38 => .array .boolean
  | 39 => .array .long
  | 40 => .array .long
  | 41 => .array .long
  | _ => .array .long
theorem nmX9 : ∀ a, a < 43 → ∀ b, b < 43 → a ≠ b → (TX9 a).2.1 ≠ (TX9 b).2.1 := by decide +kernel
theorem tyX9_ok : ∀ k, k < 43 → parseFieldDescriptor (TX9 k).2.2.1 = some (tyX9 k) := by decide +kernel
abbrev cX9_init : ByteArray := prog_11_method_1_code
def yX9_init : MethodName := ⟨RX9, "<init>", "()V"⟩
abbrev cX9_in : ByteArray := prog_11_method_2_code
def yX9_in : MethodName := ⟨RX9, "in", "(III)Z"⟩
abbrev cX9_carry : ByteArray := prog_11_method_3_code
def yX9_carry : MethodName := ⟨RX9, "carry", "([JII)V"⟩
abbrev cX9_signOf : ByteArray := prog_11_method_4_code
def yX9_signOf : MethodName := ⟨RX9, "signOf", "([JII)I"⟩
abbrev cX9_isNumber : ByteArray := prog_11_method_5_code
def yX9_isNumber : MethodName := ⟨RX9, "isNumber", "(J)Z"⟩
abbrev cX9_plain : ByteArray := prog_11_method_6_code
def yX9_plain : MethodName := ⟨RX9, "plain", "(J)J"⟩
abbrev cX9_whole : ByteArray := prog_11_method_7_code
def yX9_whole : MethodName := ⟨RX9, "whole", "(J[JI)V"⟩
abbrev cX9_lay : ByteArray := prog_11_method_8_code
def yX9_lay : MethodName := ⟨RX9, "lay", "(IJJ)V"⟩
abbrev cX9_middle : ByteArray := prog_11_method_9_code
def yX9_middle : MethodName := ⟨RX9, "middle", "(II)V"⟩
abbrev cX9_halve : ByteArray := prog_11_method_10_code
def yX9_halve : MethodName := ⟨RX9, "halve", "([J)V"⟩
abbrev cX9_times : ByteArray := prog_11_method_11_code
def yX9_times : MethodName := ⟨RX9, "times", "([JII[JII[JIJ)V"⟩
abbrev cX9_clear : ByteArray := prog_11_method_12_code
def yX9_clear : MethodName := ⟨RX9, "clear", "([JII)V"⟩
abbrev cX9_turn : ByteArray := prog_11_method_13_code
def yX9_turn : MethodName := ⟨RX9, "turn", "(III)I"⟩
abbrev cX9_order : ByteArray := prog_11_method_14_code
def yX9_order : MethodName := ⟨RX9, "order", "([JII)I"⟩
abbrev cX9_ahead : ByteArray := prog_11_method_15_code
def yX9_ahead : MethodName := ⟨RX9, "ahead", "(II)I"⟩
abbrev cX9_isBetween : ByteArray := prog_11_method_16_code
def yX9_isBetween : MethodName := ⟨RX9, "isBetween", "(III)Z"⟩
abbrev cX9_isOn : ByteArray := prog_11_method_17_code
def yX9_isOn : MethodName := ⟨RX9, "isOn", "(III)Z"⟩
abbrev cX9_isCorner : ByteArray := prog_11_method_18_code
def yX9_isCorner : MethodName := ⟨RX9, "isCorner", "(I)Z"⟩
abbrev cX9_corner : ByteArray := prog_11_method_19_code
def yX9_corner : MethodName := ⟨RX9, "corner", "(JJ)I"⟩
abbrev cX9_at : ByteArray := prog_11_method_20_code
def yX9_at : MethodName := ⟨RX9, "at", "(II)J"⟩
abbrev cX9_size : ByteArray := prog_11_method_21_code
def yX9_size : MethodName := ⟨RX9, "size", "(D)D"⟩
abbrev cX9_side : ByteArray := prog_11_method_22_code
def yX9_side : MethodName := ⟨RX9, "side", "(III)I"⟩
abbrev cX9_sure : ByteArray := prog_11_method_23_code
def yX9_sure : MethodName := ⟨RX9, "sure", "()I"⟩
abbrev cX9_common : ByteArray := prog_11_method_24_code
def yX9_common : MethodName := ⟨RX9, "common", "(IIII)I"⟩
abbrev cX9_cross : ByteArray := prog_11_method_25_code
def yX9_cross : MethodName := ⟨RX9, "cross", "(IIII)I"⟩
abbrev cX9_nearest : ByteArray := prog_11_method_26_code
def yX9_nearest : MethodName := ⟨RX9, "nearest", "(JJ)I"⟩
abbrev cX9_less : ByteArray := prog_11_method_27_code
def yX9_less : MethodName := ⟨RX9, "less", "([JI[JI)Z"⟩
abbrev cX9_draw : ByteArray := prog_11_method_28_code
def yX9_draw : MethodName := ⟨RX9, "draw", "()I"⟩
abbrev cX9_add : ByteArray := prog_11_method_29_code
def yX9_add : MethodName := ⟨RX9, "add", "(I)I"⟩
abbrev cX9_fault : ByteArray := prog_11_method_30_code
def yX9_fault : MethodName := ⟨RX9, "fault", "(II)I"⟩
abbrev cX9_faultOf : ByteArray := prog_11_method_31_code
def yX9_faultOf : MethodName := ⟨RX9, "faultOf", "()I"⟩
abbrev cX9_turnLeft : ByteArray := prog_11_method_32_code
def yX9_turnLeft : MethodName := ⟨RX9, "turnLeft", "()V"⟩
abbrev cX9_isParcel : ByteArray := prog_11_method_33_code
def yX9_isParcel : MethodName := ⟨RX9, "isParcel", "(I)Z"⟩
abbrev cX9_keep : ByteArray := prog_11_method_34_code
def yX9_keep : MethodName := ⟨RX9, "keep", "()V"⟩
abbrev cX9_store : ByteArray := prog_11_method_35_code
def yX9_store : MethodName := ⟨RX9, "store", "(I)V"⟩
abbrev cX9_load : ByteArray := prog_11_method_36_code
def yX9_load : MethodName := ⟨RX9, "load", "(I)V"⟩
abbrev cX9_of : ByteArray := prog_11_method_37_code
def yX9_of : MethodName := ⟨RX9, "of", "(II)I"⟩
abbrev cX9_made : ByteArray := prog_11_method_38_code
def yX9_made : MethodName := ⟨RX9, "made", "(II)I"⟩
abbrev cX9_lies : ByteArray := prog_11_method_39_code
def yX9_lies : MethodName := ⟨RX9, "lies", "(II)I"⟩
abbrev cX9_passes : ByteArray := prog_11_method_40_code
def yX9_passes : MethodName := ⟨RX9, "passes", "(III)V"⟩
abbrev cX9_lieOver : ByteArray := prog_11_method_41_code
def yX9_lieOver : MethodName := ⟨RX9, "lieOver", "(II)Z"⟩
abbrev cX9_overOf : ByteArray := prog_11_method_42_code
def yX9_overOf : MethodName := ⟨RX9, "overOf", "(III)I"⟩
abbrev cX9_close : ByteArray := prog_11_method_43_code
def yX9_close : MethodName := ⟨RX9, "close", "(II)I"⟩
abbrev cX9_where : ByteArray := prog_11_method_44_code
def yX9_where : MethodName := ⟨RX9, "where", "()I"⟩
abbrev cX9_told : ByteArray := prog_11_method_45_code
def yX9_told : MethodName := ⟨RX9, "told", "(II)I"⟩
abbrev cX9_give : ByteArray := prog_11_method_46_code
def yX9_give : MethodName := ⟨RX9, "give", "(II)I"⟩
abbrev cX9_there : ByteArray := prog_11_method_47_code
def yX9_there : MethodName := ⟨RX9, "there", "(I)I"⟩
abbrev cX9_drop : ByteArray := prog_11_method_48_code
def yX9_drop : MethodName := ⟨RX9, "drop", "(I)I"⟩
abbrev cX9_isInside : ByteArray := prog_11_method_49_code
def yX9_isInside : MethodName := ⟨RX9, "isInside", "(III)Z"⟩
abbrev cX9_split : ByteArray := prog_11_method_50_code
def yX9_split : MethodName := ⟨RX9, "split", "(IIII)I"⟩
abbrev cX9_reverse : ByteArray := prog_11_method_51_code
def yX9_reverse : MethodName := ⟨RX9, "reverse", "(III)I"⟩
abbrev cX9_join : ByteArray := prog_11_method_52_code
def yX9_join : MethodName := ⟨RX9, "join", "(II)I"⟩
abbrev cX9_move : ByteArray := prog_11_method_53_code
def yX9_move : MethodName := ⟨RX9, "move", "(III)I"⟩
abbrev cX9_borders : ByteArray := prog_11_method_54_code
def yX9_borders : MethodName := ⟨RX9, "borders", "(II)I"⟩
abbrev cX9_border : ByteArray := prog_11_method_55_code
def yX9_border : MethodName := ⟨RX9, "border", "(II)I"⟩
abbrev cX9_neighbour : ByteArray := prog_11_method_56_code
def yX9_neighbour : MethodName := ⟨RX9, "neighbour", "(II)I"⟩
abbrev cX9_locate : ByteArray := prog_11_method_57_code
def yX9_locate : MethodName := ⟨RX9, "locate", "(IJJ)I"⟩
abbrev cX9_edge : ByteArray := prog_11_method_58_code
def yX9_edge : MethodName := ⟨RX9, "edge", "()I"⟩
abbrev cX9_walk : ByteArray := prog_11_method_59_code
def yX9_walk : MethodName := ⟨RX9, "walk", "(IIII)I"⟩
abbrev cX9_hull : ByteArray := prog_11_method_60_code
def yX9_hull : MethodName := ⟨RX9, "hull", "(I)I"⟩
abbrev cX9_comes : ByteArray := prog_11_method_61_code
def yX9_comes : MethodName := ⟨RX9, "comes", "(II)V"⟩
abbrev cX9_hullAt : ByteArray := prog_11_method_62_code
def yX9_hullAt : MethodName := ⟨RX9, "hullAt", "(I)I"⟩
abbrev cX9_weigh : ByteArray := prog_11_method_63_code
def yX9_weigh : MethodName := ⟨RX9, "weigh", "(I)V"⟩
abbrev cX9_twice : ByteArray := prog_11_method_64_code
def yX9_twice : MethodName := ⟨RX9, "twice", "(I)J"⟩
abbrev cX9_compare : ByteArray := prog_11_method_65_code
def yX9_compare : MethodName := ⟨RX9, "compare", "(II)I"⟩
abbrev cX9_quota : ByteArray := prog_11_method_66_code
def yX9_quota : MethodName := ⟨RX9, "quota", "(II)I"⟩
abbrev cX9_shareOf : ByteArray := prog_11_method_67_code
def yX9_shareOf : MethodName := ⟨RX9, "shareOf", "(II)I"⟩
abbrev cX9_undo : ByteArray := prog_11_method_68_code
def yX9_undo : MethodName := ⟨RX9, "undo", "()I"⟩
abbrev cX9_count : ByteArray := prog_11_method_69_code
def yX9_count : MethodName := ⟨RX9, "count", "(I)I"⟩
abbrev cX9_digest : ByteArray := prog_11_method_70_code
def yX9_digest : MethodName := ⟨RX9, "digest", "()J"⟩
def RL : String := "ParcelMapLaw"
abbrev cL_law : ByteArray := code
def yL_law : MethodName := ⟨RL, "law", "([I)Z"⟩
abbrev vwCl : List vw_C := [(RX0, TX0, 5), (RX1, TX1, 4), (RX2, TX2, 5), (RX3, TX3, 7), (RX4, TX4, 2), (RX5, TX5, 2), (RX6, TX6, 4), (RX7, TX7, 1), (RX8, TX8, 11), (RX9, TX9, 43)]
end
section
/-! ===== worlds by places: a method's judgement XP with its surroundings hidden ===== -/
/-- a method: its name, its code, its locals, its answer's type, how deep its calls go -/
abbrev xM : Type := MethodName × ByteArray × Nat × Option FieldType × Nat
/-- a world: what stands at each place (references are places, an array's kind a number) -/
abbrev xW : Type := Nat → va_E
def xTs : List Cond := lw_tbl.filter goodWord
def xWs (M : xM) : List Cond := .code M.1 M.2.1 M.2.2.1 M.2.2.2.1 :: xTs
def xRm (d : Nat) : Room := { frames := d, cells := 0, slots := 0, locals := 45 * d }
abbrev xN : Nat := 365
def xv (ad : Nat → Nat) : Value → Value
  | .ref k => .ref (ad k)
  | v => v
def xA (ad : Nat → Nat) (a : vp_A) : vp_A := (a.1, match a.2 with
  | .inr (.inr (.inr (.inr f))) => .inr (.inr (.inr (.inr (fun j => (f j).map ad))))
  | x => x)
def xE (tc ad : Nat → Nat) : va_E → va_E
  | .inl q => .inl (tc q.1, xA ad q.2)
  | .inr q => .inr (q.1, q.2.map (xv ad))
def xws (tc ad : Nat → Nat) (w : xW) : va_W := (List.range xN).map (fun k => (ad k, xE tc ad (w k)))
def xup (w : xW) (k : Nat) (e : va_E) : xW := fun j => if j = k then e else w j
def xD (ad : Nat → Nat) (A : Nat → Prop) : Prop := (∀ i j, i < xN → j < xN → ad i = ad j → i = j) ∧ ∀ k, k < xN → A (ad k)
abbrev xtys (tc : Nat → Nat) : List (ClassId × FieldType) := [(tc 0, .int), (tc 1, .long), (tc 2, .double), (tc 3, .boolean), (tc 4, .object "ParcelMap$Parcel"), (tc 5, .object "ParcelMap$Wide")]
def xlv (ad : Nat → Nat) (lv : List (Nat × Value)) : List (Nat × Value) := lv.map (fun q => (q.1, xv ad q.2))
def xget (lv : List (Nat × Value)) (i : Nat) : Option Value := match lv with
  | [] => none
  | q :: t => if q.1 = i then some q.2 else xget t i
def xs1 (lv : List (Nat × Value)) (i : Nat) (v : Value) : List (Nat × Value) := (i, v) :: lv.filter (fun q => !(q.1 == i) && !(q.1 + 1 == i && q.2.category == 2))
def xs2 (lv : List (Nat × Value)) (i : Nat) (v : Value) : List (Nat × Value) := (i, v) :: lv.filter (fun q => !(q.1 == i) && (!(q.1 == i + 1) && !(q.1 + 1 == i && q.2.category == 2)))
/-- links of fields of a nest mate, out of the tables -/
def xNb : Cond → Bool
  | .fieldLinkNest .. => true
  | _ => false
def xNs : List Cond := lw_tbl.filter xNb
def xNw (U : State) : Prop := ∀ q ∈ xNs, va_Nw q U
def xC (M : xM) (p : Program) (R : Room) (s : State) (m : MethodId) (args : Array Value) (c : Code) (D : va_G) (tc : Nat → Nat) : Prop :=
  p.tables.exec = Jvm.exec ∧ c.code = M.2.1 ∧ c.maxLocals = M.2.2.1 ∧ s.vm.findClass M.1.cls = some m.cls ∧ (∀ w ∈ xTs, w.before args s = true) ∧ xNw s ∧ va_K D vwCl (xtys tc) s ∧ M.2.2.2.2 ≤ R.frames ∧ 45 * M.2.2.2.2 ≤ R.locals
def xRet (M : xM) (r : Option Value) (pc : Nat) : Prop := match r with
  | none => M.2.2.2.1 = none ∧ decode M.2.1 pc = .ok (.return_, 1)
  | some (.int x) => (∃ ty, M.2.2.2.1 = some ty ∧ narrow ty (.int x) = .int x) ∧ decode M.2.1 pc = .ok (.ireturn, 1)
  | some (.long _) => M.2.2.2.1 = some .long ∧ decode M.2.1 pc = .ok (.lreturn, 1)
  | some (.double _) => M.2.2.2.1 = some .double ∧ decode M.2.1 pc = .ok (.dreturn, 1)
  | _ => False
/-- THE JUDGEMENT: from pc, with these locals, this stack and this world, the method comes to its return with Q -/
def XP (M : xM) (pc : Nat) (lv : List (Nat × Value)) (st : List Value) (w : xW) (Q : Option Value → xW → Prop) : Prop :=
  ∀ (p : Program) (l : Launch) (e : Env) (R : Room) (s : State) (m : MethodId) (args : Array Value) (below : List Frame) (meth : Method) (c : Code) (D : va_G) (tc ad : Nat → Nat) (A : Nat → Prop) (H0 H : Heap) (locs : List Loc) (cells slots : Nat) (Z : State → Prop) (ls : Array Slot),
    xC M p R s m args c D tc → cells ≤ R.cells → slots ≤ R.slots → (∀ q, H0.size ≤ q → A q) → va_P D vwCl (xws tc ad w) H → xD ad A → va_S A H0 H locs → lv_has ls M.2.2.1 (xlv ad lv) →
    (∀ (r : Option Value) (w' : xW) (H' : Heap) (locs' : List Loc) (pc' : Nat) (ls' : Array Slot), Q r w' → va_P D vwCl (xws tc ad w') H' → va_S A H0 H' locs' → xRet M r pc' → W p l e R s m args below meth c H' locs' cells slots Z (F0 m pc' ls' (r.toList.map (xv ad)))) →
    W p l e R s m args below meth c H locs cells slots Z (F0 m pc ls (st.map (xv ad)))
def xAt (M : xM) (pc : Nat) (i : Instr) (n pc' : Nat) : Prop := decode M.2.1 pc = .ok (i, n) ∧ pc' = pc + n
def xBr (M : xM) (pc : Nat) (f : Int → Instr) (off : Int) (pc' tgt : Nat) : Prop := decode M.2.1 pc = .ok (f off, 3) ∧ pc' = pc + 3 ∧ (pc : Int) + off = (tgt : Int)
theorem xv_cat (ad : Nat → Nat) (v : Value) : (xv ad v).category = v.category := by cases v <;> rfl
theorem xlv_filter (ad : Nat → Nat) (lv : List (Nat × Value)) (f : Nat → Nat → Bool) : (xlv ad lv).filter (fun q => f q.1 q.2.category) = xlv ad (lv.filter (fun q => f q.1 q.2.category)) := by
  unfold xlv
  rw [List.filter_map]
  congr 1
  apply List.filter_congr
  intro q _
  simp only [Function.comp, xv_cat]
theorem xs1_lv (ad : Nat → Nat) (lv : List (Nat × Value)) (i : Nat) (v : Value) : (i, xv ad v) :: (xlv ad lv).filter (fun q => !(q.1 == i) && !(q.1 + 1 == i && q.2.category == 2)) = xlv ad (xs1 lv i v) := by
  rw [xlv_filter ad lv (fun a b => !(a == i) && !(a + 1 == i && b == 2))]
  rfl
theorem xs2_lv (ad : Nat → Nat) (lv : List (Nat × Value)) (i : Nat) (v : Value) : (i, xv ad v) :: (xlv ad lv).filter (fun q => !(q.1 == i) && (!(q.1 == i + 1) && !(q.1 + 1 == i && q.2.category == 2))) = xlv ad (xs2 lv i v) := by
  rw [xlv_filter ad lv (fun a b => !(a == i) && (!(a == i + 1) && !(a + 1 == i && b == 2)))]
  rfl
theorem xget_mem {lv : List (Nat × Value)} {i : Nat} {v : Value} (h : xget lv i = some v) : (i, v) ∈ lv := by
  induction lv with
  | nil => simp [xget] at h
  | cons q t ih =>
    unfold xget at h
    split at h
    · rename_i h1
      obtain ⟨a, b⟩ := q
      simp only [Option.some.injEq] at h
      simp only at h1
      subst h1; subst h
      exact List.mem_cons_self
    · exact List.mem_cons_of_mem _ (ih h)
theorem xget_at {ad : Nat → Nat} {ls : Array Slot} {n : Nat} {lv : List (Nat × Value)} {i : Nat} {v : Value} (hl : lv_has ls n (xlv ad lv)) (h : xget lv i = some v) : ls[i]? = some (.val (xv ad v)) :=
  hl.2.2 (i, xv ad v) (List.mem_map.mpr ⟨(i, v), xget_mem h, rfl⟩)
theorem xws_at {tc ad : Nat → Nat} {w : xW} {k : Nat} (h : k < xN) : (xws tc ad w)[k]? = some (ad k, xE tc ad (w k)) := by
  unfold xws
  rw [List.getElem?_map, List.getElem?_range h]
  rfl
theorem xws_len {tc ad : Nat → Nat} {w : xW} : (xws tc ad w).length = xN := by simp [xws]
theorem xws_set {tc ad : Nat → Nat} {w : xW} {k : Nat} {e : va_E} (_ : k < xN) : (xws tc ad w).set k (ad k, xE tc ad e) = xws tc ad (xup w k e) := by
  apply List.ext_getElem?
  intro j
  rw [List.getElem?_set]
  by_cases hj : j < xN
  · rw [xws_at hj, xws_at hj, xws_len]
    by_cases hk : k = j
    · subst hk; simp [hj, xup]
    · simp only [hk, if_false]
      have : ¬ j = k := fun h => hk h.symm
      simp [xup, this]
  · have h1 : (xws tc ad w)[j]? = none := List.getElem?_eq_none (by rw [xws_len]; omega)
    have h2 : (xws tc ad (xup w k e))[j]? = none := List.getElem?_eq_none (by rw [xws_len]; omega)
    rw [h1, h2]
    by_cases hk : k = j
    · subst hk; rw [xws_len]; simp [hj]
    · simp [hk]
theorem xws_lt {tc ad : Nat → Nat} {w : xW} {k : Nat} {q : Nat × va_E} (h : (xws tc ad w)[k]? = some q) : k < xN ∧ q = (ad k, xE tc ad (w k)) := by
  have h1 : k < xN := by
    have := (List.getElem?_eq_some_iff.mp h).1
    rwa [xws_len] at this
  rw [xws_at h1] at h
  exact ⟨h1, (Option.some.inj h).symm⟩
theorem xD.d {tc ad : Nat → Nat} {A : Nat → Prop} (h : xD ad A) (w : xW) : va_D A (xws tc ad w) := by
  refine ⟨fun i j p q hi hj he => ?_, fun k q hk => ?_⟩
  · obtain ⟨h1, rfl⟩ := xws_lt hi
    obtain ⟨h2, rfl⟩ := xws_lt hj
    exact h.1 i j h1 h2 he
  · obtain ⟨h1, rfl⟩ := xws_lt hk
    exact h.2 k h1
theorem xup_same {w : xW} {k : Nat} {e : va_E} : xup w k e k = e := by simp [xup]
theorem xup_ne {w : xW} {k j : Nat} {e : va_E} (h : j ≠ k) : xup w k e j = w j := by simp [xup, h]
theorem xTs_good : GoodIn xTs xTs := fun w hw => ⟨hw, good_of_word (List.mem_filter.mp hw).2⟩
section XR
variable {M : xM} {pc pc' tgt : Nat} {off : Int} {lv lv' : List (Nat × Value)} {st : List Value} {w : xW} {Q : Option Value → xW → Prop}
theorem XP.mono {Q' : Option Value → xW → Prop} (h : XP M pc lv st w Q') (hq : ∀ r w', Q' r w' → Q r w') : XP M pc lv st w Q := by
  intro p l e R s m args below meth c D tc ad A H0 H locs cells slots Z ls C hc hsl hA hP hD hS hl hE
  exact h p l e R s m args below meth c D tc ad A H0 H locs cells slots Z ls C hc hsl hA hP hD hS hl (fun r w' H' locs' pc' ls' h1 h2 h3 h4 => hE r w' H' locs' pc' ls' (hq r w' h1) h2 h3 h4)
theorem x_iconst {n : Int} {v : Int32} (hd : xAt M pc (.iconst n) 1 pc') (hv : Int32.ofInt n = v) (k : XP M pc' lv (.int v :: st) w Q) : XP M pc lv (st) w Q := by
  intro p l e R s m args below meth c D tc ad A H0 H locs cells slots Z ls C hc hsl hA hP hD hS hl hE
  obtain ⟨hd, rfl⟩ := hd
  refine lv_iconst C.1 C.2.1 hd hv ?_
  exact k p l e R s m args below meth c D tc ad A H0 H locs cells slots Z ls C hc hsl hA hP hD hS hl hE
theorem x_bipush {n : Int} {v : Int32} (hd : xAt M pc (.bipush n) 2 pc') (hv : (Int8.ofInt n).toInt32 = v) (k : XP M pc' lv (.int v :: st) w Q) : XP M pc lv (st) w Q := by
  intro p l e R s m args below meth c D tc ad A H0 H locs cells slots Z ls C hc hsl hA hP hD hS hl hE
  obtain ⟨hd, rfl⟩ := hd
  refine lv_bipush C.1 C.2.1 hd hv ?_
  exact k p l e R s m args below meth c D tc ad A H0 H locs cells slots Z ls C hc hsl hA hP hD hS hl hE
theorem x_sipush {n : Int} {v : Int32} (hd : xAt M pc (.sipush n) 3 pc') (hv : (Int16.ofInt n).toInt32 = v) (k : XP M pc' lv (.int v :: st) w Q) : XP M pc lv (st) w Q := by
  intro p l e R s m args below meth c D tc ad A H0 H locs cells slots Z ls C hc hsl hA hP hD hS hl hE
  obtain ⟨hd, rfl⟩ := hd
  refine lv_sipush C.1 C.2.1 hd hv ?_
  exact k p l e R s m args below meth c D tc ad A H0 H locs cells slots Z ls C hc hsl hA hP hD hS hl hE
theorem x_lconst {n : Fin 2} {v : Int64} (hd : xAt M pc (.lconst n) 1 pc') (hv : Int64.ofNat (n : Nat) = v) (k : XP M pc' lv (.long v :: st) w Q) : XP M pc lv (st) w Q := by
  intro p l e R s m args below meth c D tc ad A H0 H locs cells slots Z ls C hc hsl hA hP hD hS hl hE
  obtain ⟨hd, rfl⟩ := hd
  refine lv_lconst C.1 C.2.1 hd hv ?_
  exact k p l e R s m args below meth c D tc ad A H0 H locs cells slots Z ls C hc hsl hA hP hD hS hl hE
theorem x_dconst0 (hd : xAt M pc (.dconst 0) 1 pc') (k : XP M pc' lv (.double FP.dconst0 :: st) w Q) : XP M pc lv (st) w Q := by
  intro p l e R s m args below meth c D tc ad A H0 H locs cells slots Z ls C hc hsl hA hP hD hS hl hE
  obtain ⟨hd, rfl⟩ := hd
  refine lv_dconst0 C.1 C.2.1 hd ?_
  exact k p l e R s m args below meth c D tc ad A H0 H locs cells slots Z ls C hc hsl hA hP hD hS hl hE
theorem x_iload_n {i : Fin 4} {x : Int32} (hd : xAt M pc (.iload_n i) 1 pc') (h : xget lv i = some (.int x)) (k : XP M pc' lv (.int x :: st) w Q) : XP M pc lv (st) w Q := by
  intro p l e R s m args below meth c D tc ad A H0 H locs cells slots Z ls C hc hsl hA hP hD hS hl hE
  obtain ⟨hd, rfl⟩ := hd
  refine lv_iload_n C.1 C.2.1 hd rfl (xget_at hl h) ?_
  exact k p l e R s m args below meth c D tc ad A H0 H locs cells slots Z ls C hc hsl hA hP hD hS hl hE
theorem x_iload {i : Nat} {x : Int32} (hd : xAt M pc (.iload i) 2 pc') (h : xget lv i = some (.int x)) (k : XP M pc' lv (.int x :: st) w Q) : XP M pc lv (st) w Q := by
  intro p l e R s m args below meth c D tc ad A H0 H locs cells slots Z ls C hc hsl hA hP hD hS hl hE
  obtain ⟨hd, rfl⟩ := hd
  refine lv_iload C.1 C.2.1 hd (xget_at hl h) ?_
  exact k p l e R s m args below meth c D tc ad A H0 H locs cells slots Z ls C hc hsl hA hP hD hS hl hE
theorem x_istore_n {i : Fin 4} {x : Int32} (hd : xAt M pc (.istore_n i) 1 pc') (hn : (i : Nat) < M.2.2.1) (hs : xs1 lv i (.int x) = lv') (k : XP M pc' lv' st w Q) : XP M pc lv (.int x :: st) w Q := by
  intro p l e R s m args below meth c D tc ad A H0 H locs cells slots Z ls C hc hsl hA hP hD hS hl hE
  obtain ⟨hd, rfl⟩ := hd
  subst hs
  refine lv_istore_n C.1 C.2.1 hd rfl hl hn (xs1_lv ad lv i (.int x)) (fun ls hl => ?_)
  exact k p l e R s m args below meth c D tc ad A H0 H locs cells slots Z ls C hc hsl hA hP hD hS hl hE
theorem x_istore {i : Nat} {x : Int32} (hd : xAt M pc (.istore i) 2 pc') (hn : i < M.2.2.1) (hs : xs1 lv i (.int x) = lv') (k : XP M pc' lv' st w Q) : XP M pc lv (.int x :: st) w Q := by
  intro p l e R s m args below meth c D tc ad A H0 H locs cells slots Z ls C hc hsl hA hP hD hS hl hE
  obtain ⟨hd, rfl⟩ := hd
  subst hs
  refine lv_istore C.1 C.2.1 hd hl hn (xs1_lv ad lv i (.int x)) (fun ls hl => ?_)
  exact k p l e R s m args below meth c D tc ad A H0 H locs cells slots Z ls C hc hsl hA hP hD hS hl hE
theorem x_lload_n {i : Fin 4} {x : Int64} (hd : xAt M pc (.lload_n i) 1 pc') (h : xget lv i = some (.long x)) (k : XP M pc' lv (.long x :: st) w Q) : XP M pc lv (st) w Q := by
  intro p l e R s m args below meth c D tc ad A H0 H locs cells slots Z ls C hc hsl hA hP hD hS hl hE
  obtain ⟨hd, rfl⟩ := hd
  refine lv_lload_n C.1 C.2.1 hd rfl (xget_at hl h) ?_
  exact k p l e R s m args below meth c D tc ad A H0 H locs cells slots Z ls C hc hsl hA hP hD hS hl hE
theorem x_lload {i : Nat} {x : Int64} (hd : xAt M pc (.lload i) 2 pc') (h : xget lv i = some (.long x)) (k : XP M pc' lv (.long x :: st) w Q) : XP M pc lv (st) w Q := by
  intro p l e R s m args below meth c D tc ad A H0 H locs cells slots Z ls C hc hsl hA hP hD hS hl hE
  obtain ⟨hd, rfl⟩ := hd
  refine lv_lload C.1 C.2.1 hd (xget_at hl h) ?_
  exact k p l e R s m args below meth c D tc ad A H0 H locs cells slots Z ls C hc hsl hA hP hD hS hl hE
theorem x_lstore_n {i : Fin 4} {x : Int64} (hd : xAt M pc (.lstore_n i) 1 pc') (hn : (i : Nat) + 1 < M.2.2.1) (hs : xs2 lv i (.long x) = lv') (k : XP M pc' lv' st w Q) : XP M pc lv (.long x :: st) w Q := by
  intro p l e R s m args below meth c D tc ad A H0 H locs cells slots Z ls C hc hsl hA hP hD hS hl hE
  obtain ⟨hd, rfl⟩ := hd
  subst hs
  refine lv_lstore_n C.1 C.2.1 hd rfl hl hn (xs2_lv ad lv i (.long x)) (fun ls hl => ?_)
  exact k p l e R s m args below meth c D tc ad A H0 H locs cells slots Z ls C hc hsl hA hP hD hS hl hE
theorem x_lstore {i : Nat} {x : Int64} (hd : xAt M pc (.lstore i) 2 pc') (hn : i + 1 < M.2.2.1) (hs : xs2 lv i (.long x) = lv') (k : XP M pc' lv' st w Q) : XP M pc lv (.long x :: st) w Q := by
  intro p l e R s m args below meth c D tc ad A H0 H locs cells slots Z ls C hc hsl hA hP hD hS hl hE
  obtain ⟨hd, rfl⟩ := hd
  subst hs
  refine lv_lstore C.1 C.2.1 hd hl hn (xs2_lv ad lv i (.long x)) (fun ls hl => ?_)
  exact k p l e R s m args below meth c D tc ad A H0 H locs cells slots Z ls C hc hsl hA hP hD hS hl hE
theorem x_dload_n {i : Fin 4} {x : UInt64} (hd : xAt M pc (.dload_n i) 1 pc') (h : xget lv i = some (.double x)) (k : XP M pc' lv (.double x :: st) w Q) : XP M pc lv (st) w Q := by
  intro p l e R s m args below meth c D tc ad A H0 H locs cells slots Z ls C hc hsl hA hP hD hS hl hE
  obtain ⟨hd, rfl⟩ := hd
  refine lv_dload_n C.1 C.2.1 hd rfl (xget_at hl h) ?_
  exact k p l e R s m args below meth c D tc ad A H0 H locs cells slots Z ls C hc hsl hA hP hD hS hl hE
theorem x_dload {i : Nat} {x : UInt64} (hd : xAt M pc (.dload i) 2 pc') (h : xget lv i = some (.double x)) (k : XP M pc' lv (.double x :: st) w Q) : XP M pc lv (st) w Q := by
  intro p l e R s m args below meth c D tc ad A H0 H locs cells slots Z ls C hc hsl hA hP hD hS hl hE
  obtain ⟨hd, rfl⟩ := hd
  refine lv_dload C.1 C.2.1 hd (xget_at hl h) ?_
  exact k p l e R s m args below meth c D tc ad A H0 H locs cells slots Z ls C hc hsl hA hP hD hS hl hE
theorem x_dstore_n {i : Fin 4} {x : UInt64} (hd : xAt M pc (.dstore_n i) 1 pc') (hn : (i : Nat) + 1 < M.2.2.1) (hs : xs2 lv i (.double x) = lv') (k : XP M pc' lv' st w Q) : XP M pc lv (.double x :: st) w Q := by
  intro p l e R s m args below meth c D tc ad A H0 H locs cells slots Z ls C hc hsl hA hP hD hS hl hE
  obtain ⟨hd, rfl⟩ := hd
  subst hs
  refine lv_dstore_n C.1 C.2.1 hd rfl hl hn (xs2_lv ad lv i (.double x)) (fun ls hl => ?_)
  exact k p l e R s m args below meth c D tc ad A H0 H locs cells slots Z ls C hc hsl hA hP hD hS hl hE
theorem x_dstore {i : Nat} {x : UInt64} (hd : xAt M pc (.dstore i) 2 pc') (hn : i + 1 < M.2.2.1) (hs : xs2 lv i (.double x) = lv') (k : XP M pc' lv' st w Q) : XP M pc lv (.double x :: st) w Q := by
  intro p l e R s m args below meth c D tc ad A H0 H locs cells slots Z ls C hc hsl hA hP hD hS hl hE
  obtain ⟨hd, rfl⟩ := hd
  subst hs
  refine lv_dstore C.1 C.2.1 hd hl hn (xs2_lv ad lv i (.double x)) (fun ls hl => ?_)
  exact k p l e R s m args below meth c D tc ad A H0 H locs cells slots Z ls C hc hsl hA hP hD hS hl hE
theorem x_aload_n {i : Fin 4} {x : Nat} (hd : xAt M pc (.aload_n i) 1 pc') (h : xget lv i = some (.ref x)) (k : XP M pc' lv (.ref x :: st) w Q) : XP M pc lv (st) w Q := by
  intro p l e R s m args below meth c D tc ad A H0 H locs cells slots Z ls C hc hsl hA hP hD hS hl hE
  obtain ⟨hd, rfl⟩ := hd
  refine lv_aload_n C.1 C.2.1 hd rfl (xget_at hl h) ?_
  exact k p l e R s m args below meth c D tc ad A H0 H locs cells slots Z ls C hc hsl hA hP hD hS hl hE
theorem x_aload {i : Nat} {x : Nat} (hd : xAt M pc (.aload i) 2 pc') (h : xget lv i = some (.ref x)) (k : XP M pc' lv (.ref x :: st) w Q) : XP M pc lv (st) w Q := by
  intro p l e R s m args below meth c D tc ad A H0 H locs cells slots Z ls C hc hsl hA hP hD hS hl hE
  obtain ⟨hd, rfl⟩ := hd
  refine lv_aload C.1 C.2.1 hd (xget_at hl h) ?_
  exact k p l e R s m args below meth c D tc ad A H0 H locs cells slots Z ls C hc hsl hA hP hD hS hl hE
theorem x_astore_n {i : Fin 4} {x : Nat} (hd : xAt M pc (.astore_n i) 1 pc') (hn : (i : Nat) < M.2.2.1) (hs : xs1 lv i (.ref x) = lv') (k : XP M pc' lv' st w Q) : XP M pc lv (.ref x :: st) w Q := by
  intro p l e R s m args below meth c D tc ad A H0 H locs cells slots Z ls C hc hsl hA hP hD hS hl hE
  obtain ⟨hd, rfl⟩ := hd
  subst hs
  refine lv_astore_n C.1 C.2.1 hd rfl hl hn (xs1_lv ad lv i (.ref x)) (fun ls hl => ?_)
  exact k p l e R s m args below meth c D tc ad A H0 H locs cells slots Z ls C hc hsl hA hP hD hS hl hE
theorem x_astore {i : Nat} {x : Nat} (hd : xAt M pc (.astore i) 2 pc') (hn : i < M.2.2.1) (hs : xs1 lv i (.ref x) = lv') (k : XP M pc' lv' st w Q) : XP M pc lv (.ref x :: st) w Q := by
  intro p l e R s m args below meth c D tc ad A H0 H locs cells slots Z ls C hc hsl hA hP hD hS hl hE
  obtain ⟨hd, rfl⟩ := hd
  subst hs
  refine lv_astore C.1 C.2.1 hd hl hn (xs1_lv ad lv i (.ref x)) (fun ls hl => ?_)
  exact k p l e R s m args below meth c D tc ad A H0 H locs cells slots Z ls C hc hsl hA hP hD hS hl hE
theorem x_iinc {i : Nat} {n : Int} {x v : Int32} (hd : xAt M pc (.iinc i n) 3 pc') (h : xget lv i = some (.int x)) (hv : x + Int32.ofInt n = v) (hn : i < M.2.2.1) (hs : xs1 lv i (.int v) = lv') (k : XP M pc' lv' st w Q) : XP M pc lv st w Q := by
  intro p l e R s m args below meth c D tc ad A H0 H locs cells slots Z ls C hc hsl hA hP hD hS hl hE
  obtain ⟨hd, rfl⟩ := hd
  subst hs
  obtain ⟨j, hj⟩ := List.getElem?_of_mem (List.mem_map.mpr ⟨(i, .int x), xget_mem h, rfl⟩ : (i, Value.int x) ∈ xlv ad lv)
  refine lv_iinc C.1 C.2.1 hd hl hj hv hn (xs1_lv ad lv i (.int v)) (fun ls hl => ?_)
  exact k p l e R s m args below meth c D tc ad A H0 H locs cells slots Z ls C hc hsl hA hP hD hS hl hE
theorem x_iadd {x y : Int32} (hd : xAt M pc (.iadd) 1 pc') (k : XP M pc' lv (.int (x + y) :: st) w Q) : XP M pc lv (.int y :: .int x :: st) w Q := by
  intro p l e R s m args below meth c D tc ad A H0 H locs cells slots Z ls C hc hsl hA hP hD hS hl hE
  obtain ⟨hd, rfl⟩ := hd
  refine lv_iadd C.1 C.2.1 hd ?_
  exact k p l e R s m args below meth c D tc ad A H0 H locs cells slots Z ls C hc hsl hA hP hD hS hl hE
theorem x_isub {x y : Int32} (hd : xAt M pc (.isub) 1 pc') (k : XP M pc' lv (.int (x - y) :: st) w Q) : XP M pc lv (.int y :: .int x :: st) w Q := by
  intro p l e R s m args below meth c D tc ad A H0 H locs cells slots Z ls C hc hsl hA hP hD hS hl hE
  obtain ⟨hd, rfl⟩ := hd
  refine lv_isub C.1 C.2.1 hd ?_
  exact k p l e R s m args below meth c D tc ad A H0 H locs cells slots Z ls C hc hsl hA hP hD hS hl hE
theorem x_imul {x y : Int32} (hd : xAt M pc (.imul) 1 pc') (k : XP M pc' lv (.int (x * y) :: st) w Q) : XP M pc lv (.int y :: .int x :: st) w Q := by
  intro p l e R s m args below meth c D tc ad A H0 H locs cells slots Z ls C hc hsl hA hP hD hS hl hE
  obtain ⟨hd, rfl⟩ := hd
  refine lv_imul C.1 C.2.1 hd ?_
  exact k p l e R s m args below meth c D tc ad A H0 H locs cells slots Z ls C hc hsl hA hP hD hS hl hE
theorem x_iand {x y : Int32} (hd : xAt M pc (.iand) 1 pc') (k : XP M pc' lv (.int (x &&& y) :: st) w Q) : XP M pc lv (.int y :: .int x :: st) w Q := by
  intro p l e R s m args below meth c D tc ad A H0 H locs cells slots Z ls C hc hsl hA hP hD hS hl hE
  obtain ⟨hd, rfl⟩ := hd
  refine lv_iand C.1 C.2.1 hd ?_
  exact k p l e R s m args below meth c D tc ad A H0 H locs cells slots Z ls C hc hsl hA hP hD hS hl hE
theorem x_idiv {x y : Int32} (hd : xAt M pc (.idiv) 1 pc') (hne : ¬ y = 0) (k : XP M pc' lv (.int (x / y) :: st) w Q) : XP M pc lv (.int y :: .int x :: st) w Q := by
  intro p l e R s m args below meth c D tc ad A H0 H locs cells slots Z ls C hc hsl hA hP hD hS hl hE
  obtain ⟨hd, rfl⟩ := hd
  refine lv_idiv C.1 C.2.1 hd hne ?_
  exact k p l e R s m args below meth c D tc ad A H0 H locs cells slots Z ls C hc hsl hA hP hD hS hl hE
theorem x_irem {x y : Int32} (hd : xAt M pc (.irem) 1 pc') (hne : ¬ y = 0) (k : XP M pc' lv (.int (x - x / y * y) :: st) w Q) : XP M pc lv (.int y :: .int x :: st) w Q := by
  intro p l e R s m args below meth c D tc ad A H0 H locs cells slots Z ls C hc hsl hA hP hD hS hl hE
  obtain ⟨hd, rfl⟩ := hd
  refine lv_irem C.1 C.2.1 hd hne ?_
  exact k p l e R s m args below meth c D tc ad A H0 H locs cells slots Z ls C hc hsl hA hP hD hS hl hE
theorem x_ineg {x : Int32} (hd : xAt M pc (.ineg) 1 pc') (k : XP M pc' lv (.int (-x) :: st) w Q) : XP M pc lv (.int x :: st) w Q := by
  intro p l e R s m args below meth c D tc ad A H0 H locs cells slots Z ls C hc hsl hA hP hD hS hl hE
  obtain ⟨hd, rfl⟩ := hd
  refine lv_ineg C.1 C.2.1 hd ?_
  exact k p l e R s m args below meth c D tc ad A H0 H locs cells slots Z ls C hc hsl hA hP hD hS hl hE
theorem x_ishr {x y : Int32} (hd : xAt M pc (.ishr) 1 pc') (k : XP M pc' lv (.int (x >>> (y &&& 31)) :: st) w Q) : XP M pc lv (.int y :: .int x :: st) w Q := by
  intro p l e R s m args below meth c D tc ad A H0 H locs cells slots Z ls C hc hsl hA hP hD hS hl hE
  obtain ⟨hd, rfl⟩ := hd
  refine lv_ishr C.1 C.2.1 hd ?_
  exact k p l e R s m args below meth c D tc ad A H0 H locs cells slots Z ls C hc hsl hA hP hD hS hl hE
theorem x_ladd {x y : Int64} (hd : xAt M pc (.ladd) 1 pc') (k : XP M pc' lv (.long (x + y) :: st) w Q) : XP M pc lv (.long y :: .long x :: st) w Q := by
  intro p l e R s m args below meth c D tc ad A H0 H locs cells slots Z ls C hc hsl hA hP hD hS hl hE
  obtain ⟨hd, rfl⟩ := hd
  refine lv_ladd C.1 C.2.1 hd ?_
  exact k p l e R s m args below meth c D tc ad A H0 H locs cells slots Z ls C hc hsl hA hP hD hS hl hE
theorem x_lsub {x y : Int64} (hd : xAt M pc (.lsub) 1 pc') (k : XP M pc' lv (.long (x - y) :: st) w Q) : XP M pc lv (.long y :: .long x :: st) w Q := by
  intro p l e R s m args below meth c D tc ad A H0 H locs cells slots Z ls C hc hsl hA hP hD hS hl hE
  obtain ⟨hd, rfl⟩ := hd
  refine lv_lsub C.1 C.2.1 hd ?_
  exact k p l e R s m args below meth c D tc ad A H0 H locs cells slots Z ls C hc hsl hA hP hD hS hl hE
theorem x_lmul {x y : Int64} (hd : xAt M pc (.lmul) 1 pc') (k : XP M pc' lv (.long (x * y) :: st) w Q) : XP M pc lv (.long y :: .long x :: st) w Q := by
  intro p l e R s m args below meth c D tc ad A H0 H locs cells slots Z ls C hc hsl hA hP hD hS hl hE
  obtain ⟨hd, rfl⟩ := hd
  refine lv_lmul C.1 C.2.1 hd ?_
  exact k p l e R s m args below meth c D tc ad A H0 H locs cells slots Z ls C hc hsl hA hP hD hS hl hE
theorem x_land {x y : Int64} (hd : xAt M pc (.land) 1 pc') (k : XP M pc' lv (.long (x &&& y) :: st) w Q) : XP M pc lv (.long y :: .long x :: st) w Q := by
  intro p l e R s m args below meth c D tc ad A H0 H locs cells slots Z ls C hc hsl hA hP hD hS hl hE
  obtain ⟨hd, rfl⟩ := hd
  refine lv_land C.1 C.2.1 hd ?_
  exact k p l e R s m args below meth c D tc ad A H0 H locs cells slots Z ls C hc hsl hA hP hD hS hl hE
theorem x_lor {x y : Int64} (hd : xAt M pc (.lor) 1 pc') (k : XP M pc' lv (.long (x ||| y) :: st) w Q) : XP M pc lv (.long y :: .long x :: st) w Q := by
  intro p l e R s m args below meth c D tc ad A H0 H locs cells slots Z ls C hc hsl hA hP hD hS hl hE
  obtain ⟨hd, rfl⟩ := hd
  refine lv_lor C.1 C.2.1 hd ?_
  exact k p l e R s m args below meth c D tc ad A H0 H locs cells slots Z ls C hc hsl hA hP hD hS hl hE
theorem x_i2l {x : Int32} (hd : xAt M pc (.i2l) 1 pc') (k : XP M pc' lv (.long x.toInt64 :: st) w Q) : XP M pc lv (.int x :: st) w Q := by
  intro p l e R s m args below meth c D tc ad A H0 H locs cells slots Z ls C hc hsl hA hP hD hS hl hE
  obtain ⟨hd, rfl⟩ := hd
  refine lv_i2l C.1 C.2.1 hd rfl ?_
  exact k p l e R s m args below meth c D tc ad A H0 H locs cells slots Z ls C hc hsl hA hP hD hS hl hE
theorem x_l2i {x : Int64} (hd : xAt M pc (.l2i) 1 pc') (k : XP M pc' lv (.int x.toInt32 :: st) w Q) : XP M pc lv (.long x :: st) w Q := by
  intro p l e R s m args below meth c D tc ad A H0 H locs cells slots Z ls C hc hsl hA hP hD hS hl hE
  obtain ⟨hd, rfl⟩ := hd
  refine lv_l2i C.1 C.2.1 hd rfl ?_
  exact k p l e R s m args below meth c D tc ad A H0 H locs cells slots Z ls C hc hsl hA hP hD hS hl hE
theorem x_lushr {x v : Int64} {y : Int32} (hd : xAt M pc (.lushr) 1 pc') (hv : (x.toUInt64 >>> (y.toInt64.toUInt64 &&& Int64.toUInt64 63)).toInt64 = v) (k : XP M pc' lv (.long v :: st) w Q) : XP M pc lv (.int y :: .long x :: st) w Q := by
  intro p l e R s m args below meth c D tc ad A H0 H locs cells slots Z ls C hc hsl hA hP hD hS hl hE
  obtain ⟨hd, rfl⟩ := hd
  refine lv_lushr C.1 C.2.1 hd hv ?_
  exact k p l e R s m args below meth c D tc ad A H0 H locs cells slots Z ls C hc hsl hA hP hD hS hl hE
theorem x_lshl {x v : Int64} {y : Int32} (hd : xAt M pc (.lshl) 1 pc') (hv : x <<< (y.toInt64 &&& 63) = v) (k : XP M pc' lv (.long v :: st) w Q) : XP M pc lv (.int y :: .long x :: st) w Q := by
  intro p l e R s m args below meth c D tc ad A H0 H locs cells slots Z ls C hc hsl hA hP hD hS hl hE
  obtain ⟨hd, rfl⟩ := hd
  refine lv_lshl C.1 C.2.1 hd hv ?_
  exact k p l e R s m args below meth c D tc ad A H0 H locs cells slots Z ls C hc hsl hA hP hD hS hl hE
theorem x_lshr {x v : Int64} {y : Int32} (hd : xAt M pc (.lshr) 1 pc') (hv : x >>> (y.toInt64 &&& 63) = v) (k : XP M pc' lv (.long v :: st) w Q) : XP M pc lv (.int y :: .long x :: st) w Q := by
  intro p l e R s m args below meth c D tc ad A H0 H locs cells slots Z ls C hc hsl hA hP hD hS hl hE
  obtain ⟨hd, rfl⟩ := hd
  refine lv_lshr C.1 C.2.1 hd hv ?_
  exact k p l e R s m args below meth c D tc ad A H0 H locs cells slots Z ls C hc hsl hA hP hD hS hl hE
theorem x_lcmp {x y : Int64} (hd : xAt M pc (.lcmp) 1 pc') (k : XP M pc' lv (.int (lg_cmp x y) :: st) w Q) : XP M pc lv (.long y :: .long x :: st) w Q := by
  intro p l e R s m args below meth c D tc ad A H0 H locs cells slots Z ls C hc hsl hA hP hD hS hl hE
  obtain ⟨hd, rfl⟩ := hd
  refine W.lcmp C.1 C.2.1 hd ?_
  exact k p l e R s m args below meth c D tc ad A H0 H locs cells slots Z ls C hc hsl hA hP hD hS hl hE
theorem x_dup {v : Value} (hd : xAt M pc (.dup) 1 pc') (hv : v.category = 1) (k : XP M pc' lv (v :: v :: st) w Q) : XP M pc lv (v :: st) w Q := by
  intro p l e R s m args below meth c D tc ad A H0 H locs cells slots Z ls C hc hsl hA hP hD hS hl hE
  obtain ⟨hd, rfl⟩ := hd
  refine lv_dup C.1 C.2.1 hd (by rw [xv_cat]; exact hv) ?_
  exact k p l e R s m args below meth c D tc ad A H0 H locs cells slots Z ls C hc hsl hA hP hD hS hl hE
theorem x_dup2_11 {v u : Value} (hd : xAt M pc (.dup2) 1 pc') (hv : v.category = 1) (hu : u.category = 1) (k : XP M pc' lv (v :: u :: v :: u :: st) w Q) : XP M pc lv (v :: u :: st) w Q := by
  intro p l e R s m args below meth c D tc ad A H0 H locs cells slots Z ls C hc hsl hA hP hD hS hl hE
  obtain ⟨hd, rfl⟩ := hd
  refine lv_dup2_11 C.1 C.2.1 hd (by rw [xv_cat]; exact hv) (by rw [xv_cat]; exact hu) ?_
  exact k p l e R s m args below meth c D tc ad A H0 H locs cells slots Z ls C hc hsl hA hP hD hS hl hE
theorem x_dadd {x y : UInt64} (hd : xAt M pc (.dadd) 1 pc') (hne : vf_n64 (FP.dadd x y)) (k : XP M pc' lv (.double (FP.dadd x y) :: st) w Q) : XP M pc lv (.double y :: .double x :: st) w Q := by
  intro p l e R s m args below meth c D tc ad A H0 H locs cells slots Z ls C hc hsl hA hP hD hS hl hE
  obtain ⟨hd, rfl⟩ := hd
  refine lv_dadd C.1 C.2.1 hd hne ?_
  exact k p l e R s m args below meth c D tc ad A H0 H locs cells slots Z ls C hc hsl hA hP hD hS hl hE
theorem x_dsub {x y : UInt64} (hd : xAt M pc (.dsub) 1 pc') (hne : vf_n64 (FP.dsub x y)) (k : XP M pc' lv (.double (FP.dsub x y) :: st) w Q) : XP M pc lv (.double y :: .double x :: st) w Q := by
  intro p l e R s m args below meth c D tc ad A H0 H locs cells slots Z ls C hc hsl hA hP hD hS hl hE
  obtain ⟨hd, rfl⟩ := hd
  refine lv_dsub C.1 C.2.1 hd hne ?_
  exact k p l e R s m args below meth c D tc ad A H0 H locs cells slots Z ls C hc hsl hA hP hD hS hl hE
theorem x_dmul {x y : UInt64} (hd : xAt M pc (.dmul) 1 pc') (hne : vf_n64 (FP.dmul x y)) (k : XP M pc' lv (.double (FP.dmul x y) :: st) w Q) : XP M pc lv (.double y :: .double x :: st) w Q := by
  intro p l e R s m args below meth c D tc ad A H0 H locs cells slots Z ls C hc hsl hA hP hD hS hl hE
  obtain ⟨hd, rfl⟩ := hd
  refine lv_dmul C.1 C.2.1 hd hne ?_
  exact k p l e R s m args below meth c D tc ad A H0 H locs cells slots Z ls C hc hsl hA hP hD hS hl hE
theorem x_ddiv {x y : UInt64} (hd : xAt M pc (.ddiv) 1 pc') (hne : vf_n64 (FP.ddiv x y)) (k : XP M pc' lv (.double (FP.ddiv x y) :: st) w Q) : XP M pc lv (.double y :: .double x :: st) w Q := by
  intro p l e R s m args below meth c D tc ad A H0 H locs cells slots Z ls C hc hsl hA hP hD hS hl hE
  obtain ⟨hd, rfl⟩ := hd
  refine lv_ddiv C.1 C.2.1 hd hne ?_
  exact k p l e R s m args below meth c D tc ad A H0 H locs cells slots Z ls C hc hsl hA hP hD hS hl hE
theorem x_dneg {x : UInt64} (hd : xAt M pc (.dneg) 1 pc') (k : XP M pc' lv (.double (FP.dneg x) :: st) w Q) : XP M pc lv (.double x :: st) w Q := by
  intro p l e R s m args below meth c D tc ad A H0 H locs cells slots Z ls C hc hsl hA hP hD hS hl hE
  obtain ⟨hd, rfl⟩ := hd
  refine lv_dneg C.1 C.2.1 hd ?_
  exact k p l e R s m args below meth c D tc ad A H0 H locs cells slots Z ls C hc hsl hA hP hD hS hl hE
theorem x_dcmp {x y : UInt64} {op : CmpOp} (hd : xAt M pc (.dcmp op) 1 pc') (k : XP M pc' lv (.int (Op.cmpValue (FP.dcmp x y) op) :: st) w Q) : XP M pc lv (.double y :: .double x :: st) w Q := by
  intro p l e R s m args below meth c D tc ad A H0 H locs cells slots Z ls C hc hsl hA hP hD hS hl hE
  obtain ⟨hd, rfl⟩ := hd
  refine lv_dcmp C.1 C.2.1 hd ?_
  exact k p l e R s m args below meth c D tc ad A H0 H locs cells slots Z ls C hc hsl hA hP hD hS hl hE
theorem x_i2d {x : Int32} (hd : xAt M pc (.i2d) 1 pc') (k : XP M pc' lv (.double (FP.i2d x) :: st) w Q) : XP M pc lv (.int x :: st) w Q := by
  intro p l e R s m args below meth c D tc ad A H0 H locs cells slots Z ls C hc hsl hA hP hD hS hl hE
  obtain ⟨hd, rfl⟩ := hd
  refine lv_i2d C.1 C.2.1 hd ?_
  exact k p l e R s m args below meth c D tc ad A H0 H locs cells slots Z ls C hc hsl hA hP hD hS hl hE
theorem x_l2d {x : Int64} (hd : xAt M pc (.l2d) 1 pc') (k : XP M pc' lv (.double (FP.l2d x) :: st) w Q) : XP M pc lv (.long x :: st) w Q := by
  intro p l e R s m args below meth c D tc ad A H0 H locs cells slots Z ls C hc hsl hA hP hD hS hl hE
  obtain ⟨hd, rfl⟩ := hd
  refine lv_l2d C.1 C.2.1 hd ?_
  exact k p l e R s m args below meth c D tc ad A H0 H locs cells slots Z ls C hc hsl hA hP hD hS hl hE
theorem x_ldc2 {i : Nat} {v : Int64} (hd : xAt M pc (.ldc2_w i) 3 pc') (hm : Cond.constantLong M.1.cls i v ∈ xTs) (k : XP M pc' lv (.long v :: st) w Q) : XP M pc lv (st) w Q := by
  intro p l e R s m args below meth c D tc ad A H0 H locs cells slots Z ls C hc hsl hA hP hD hS hl hE
  obtain ⟨hd, rfl⟩ := hd
  refine lv_ldc2 C.1 C.2.1 C.2.2.2.1 (C.2.2.2.2.1 _ hm) hd ?_
  exact k p l e R s m args below meth c D tc ad A H0 H locs cells slots Z ls C hc hsl hA hP hD hS hl hE
theorem x_ldc2d {i : Nat} {v : UInt64} (hd : xAt M pc (.ldc2_w i) 3 pc') (hm : Cond.constantDouble M.1.cls i v ∈ xTs) (k : XP M pc' lv (.double v :: st) w Q) : XP M pc lv (st) w Q := by
  intro p l e R s m args below meth c D tc ad A H0 H locs cells slots Z ls C hc hsl hA hP hD hS hl hE
  obtain ⟨hd, rfl⟩ := hd
  refine lv_ldc2d C.1 C.2.1 C.2.2.2.1 (C.2.2.2.2.1 _ hm) hd ?_
  exact k p l e R s m args below meth c D tc ad A H0 H locs cells slots Z ls C hc hsl hA hP hD hS hl hE
theorem x_if_eq {x : Int32} (hd : xBr M pc (.ifCond .eq) off pc' tgt) (kt : x = 0 → XP M tgt lv st w Q) (kf : ¬ x = 0 → XP M pc' lv st w Q) : XP M pc lv (.int x :: st) w Q := by
  intro p l e R s m args below meth c D tc ad A H0 H locs cells slots Z ls C hc hsl hA hP hD hS hl hE
  obtain ⟨hd, rfl, ht⟩ := hd
  refine lv_if_eq C.1 C.2.1 hd ht (fun h => ?_) (fun h => ?_)
  · exact kt h p l e R s m args below meth c D tc ad A H0 H locs cells slots Z ls C hc hsl hA hP hD hS hl hE
  · exact kf h p l e R s m args below meth c D tc ad A H0 H locs cells slots Z ls C hc hsl hA hP hD hS hl hE
theorem x_icmp_eq {x y : Int32} (hd : xBr M pc (.if_icmp .eq) off pc' tgt) (kt : x = y → XP M tgt lv st w Q) (kf : ¬ x = y → XP M pc' lv st w Q) : XP M pc lv (.int y :: .int x :: st) w Q := by
  intro p l e R s m args below meth c D tc ad A H0 H locs cells slots Z ls C hc hsl hA hP hD hS hl hE
  obtain ⟨hd, rfl, ht⟩ := hd
  refine lv_icmp_eq C.1 C.2.1 hd ht (fun h => ?_) (fun h => ?_)
  · exact kt h p l e R s m args below meth c D tc ad A H0 H locs cells slots Z ls C hc hsl hA hP hD hS hl hE
  · exact kf h p l e R s m args below meth c D tc ad A H0 H locs cells slots Z ls C hc hsl hA hP hD hS hl hE
theorem x_if_ne {x : Int32} (hd : xBr M pc (.ifCond .ne) off pc' tgt) (kt : ¬ x = 0 → XP M tgt lv st w Q) (kf : x = 0 → XP M pc' lv st w Q) : XP M pc lv (.int x :: st) w Q := by
  intro p l e R s m args below meth c D tc ad A H0 H locs cells slots Z ls C hc hsl hA hP hD hS hl hE
  obtain ⟨hd, rfl, ht⟩ := hd
  refine lv_if_ne C.1 C.2.1 hd ht (fun h => ?_) (fun h => ?_)
  · exact kt h p l e R s m args below meth c D tc ad A H0 H locs cells slots Z ls C hc hsl hA hP hD hS hl hE
  · exact kf h p l e R s m args below meth c D tc ad A H0 H locs cells slots Z ls C hc hsl hA hP hD hS hl hE
theorem x_icmp_ne {x y : Int32} (hd : xBr M pc (.if_icmp .ne) off pc' tgt) (kt : ¬ x = y → XP M tgt lv st w Q) (kf : x = y → XP M pc' lv st w Q) : XP M pc lv (.int y :: .int x :: st) w Q := by
  intro p l e R s m args below meth c D tc ad A H0 H locs cells slots Z ls C hc hsl hA hP hD hS hl hE
  obtain ⟨hd, rfl, ht⟩ := hd
  refine lv_icmp_ne C.1 C.2.1 hd ht (fun h => ?_) (fun h => ?_)
  · exact kt h p l e R s m args below meth c D tc ad A H0 H locs cells slots Z ls C hc hsl hA hP hD hS hl hE
  · exact kf h p l e R s m args below meth c D tc ad A H0 H locs cells slots Z ls C hc hsl hA hP hD hS hl hE
theorem x_if_lt {x : Int32} (hd : xBr M pc (.ifCond .lt) off pc' tgt) (kt : x < 0 → XP M tgt lv st w Q) (kf : ¬ x < 0 → XP M pc' lv st w Q) : XP M pc lv (.int x :: st) w Q := by
  intro p l e R s m args below meth c D tc ad A H0 H locs cells slots Z ls C hc hsl hA hP hD hS hl hE
  obtain ⟨hd, rfl, ht⟩ := hd
  refine lv_if_lt C.1 C.2.1 hd ht (fun h => ?_) (fun h => ?_)
  · exact kt h p l e R s m args below meth c D tc ad A H0 H locs cells slots Z ls C hc hsl hA hP hD hS hl hE
  · exact kf h p l e R s m args below meth c D tc ad A H0 H locs cells slots Z ls C hc hsl hA hP hD hS hl hE
theorem x_icmp_lt {x y : Int32} (hd : xBr M pc (.if_icmp .lt) off pc' tgt) (kt : x < y → XP M tgt lv st w Q) (kf : ¬ x < y → XP M pc' lv st w Q) : XP M pc lv (.int y :: .int x :: st) w Q := by
  intro p l e R s m args below meth c D tc ad A H0 H locs cells slots Z ls C hc hsl hA hP hD hS hl hE
  obtain ⟨hd, rfl, ht⟩ := hd
  refine lv_icmp_lt C.1 C.2.1 hd ht (fun h => ?_) (fun h => ?_)
  · exact kt h p l e R s m args below meth c D tc ad A H0 H locs cells slots Z ls C hc hsl hA hP hD hS hl hE
  · exact kf h p l e R s m args below meth c D tc ad A H0 H locs cells slots Z ls C hc hsl hA hP hD hS hl hE
theorem x_if_ge {x : Int32} (hd : xBr M pc (.ifCond .ge) off pc' tgt) (kt : 0 ≤ x → XP M tgt lv st w Q) (kf : ¬ 0 ≤ x → XP M pc' lv st w Q) : XP M pc lv (.int x :: st) w Q := by
  intro p l e R s m args below meth c D tc ad A H0 H locs cells slots Z ls C hc hsl hA hP hD hS hl hE
  obtain ⟨hd, rfl, ht⟩ := hd
  refine lv_if_ge C.1 C.2.1 hd ht (fun h => ?_) (fun h => ?_)
  · exact kt h p l e R s m args below meth c D tc ad A H0 H locs cells slots Z ls C hc hsl hA hP hD hS hl hE
  · exact kf h p l e R s m args below meth c D tc ad A H0 H locs cells slots Z ls C hc hsl hA hP hD hS hl hE
theorem x_icmp_ge {x y : Int32} (hd : xBr M pc (.if_icmp .ge) off pc' tgt) (kt : y ≤ x → XP M tgt lv st w Q) (kf : ¬ y ≤ x → XP M pc' lv st w Q) : XP M pc lv (.int y :: .int x :: st) w Q := by
  intro p l e R s m args below meth c D tc ad A H0 H locs cells slots Z ls C hc hsl hA hP hD hS hl hE
  obtain ⟨hd, rfl, ht⟩ := hd
  refine lv_icmp_ge C.1 C.2.1 hd ht (fun h => ?_) (fun h => ?_)
  · exact kt h p l e R s m args below meth c D tc ad A H0 H locs cells slots Z ls C hc hsl hA hP hD hS hl hE
  · exact kf h p l e R s m args below meth c D tc ad A H0 H locs cells slots Z ls C hc hsl hA hP hD hS hl hE
theorem x_if_gt {x : Int32} (hd : xBr M pc (.ifCond .gt) off pc' tgt) (kt : 0 < x → XP M tgt lv st w Q) (kf : ¬ 0 < x → XP M pc' lv st w Q) : XP M pc lv (.int x :: st) w Q := by
  intro p l e R s m args below meth c D tc ad A H0 H locs cells slots Z ls C hc hsl hA hP hD hS hl hE
  obtain ⟨hd, rfl, ht⟩ := hd
  refine lv_if_gt C.1 C.2.1 hd ht (fun h => ?_) (fun h => ?_)
  · exact kt h p l e R s m args below meth c D tc ad A H0 H locs cells slots Z ls C hc hsl hA hP hD hS hl hE
  · exact kf h p l e R s m args below meth c D tc ad A H0 H locs cells slots Z ls C hc hsl hA hP hD hS hl hE
theorem x_icmp_gt {x y : Int32} (hd : xBr M pc (.if_icmp .gt) off pc' tgt) (kt : y < x → XP M tgt lv st w Q) (kf : ¬ y < x → XP M pc' lv st w Q) : XP M pc lv (.int y :: .int x :: st) w Q := by
  intro p l e R s m args below meth c D tc ad A H0 H locs cells slots Z ls C hc hsl hA hP hD hS hl hE
  obtain ⟨hd, rfl, ht⟩ := hd
  refine lv_icmp_gt C.1 C.2.1 hd ht (fun h => ?_) (fun h => ?_)
  · exact kt h p l e R s m args below meth c D tc ad A H0 H locs cells slots Z ls C hc hsl hA hP hD hS hl hE
  · exact kf h p l e R s m args below meth c D tc ad A H0 H locs cells slots Z ls C hc hsl hA hP hD hS hl hE
theorem x_if_le {x : Int32} (hd : xBr M pc (.ifCond .le) off pc' tgt) (kt : x ≤ 0 → XP M tgt lv st w Q) (kf : ¬ x ≤ 0 → XP M pc' lv st w Q) : XP M pc lv (.int x :: st) w Q := by
  intro p l e R s m args below meth c D tc ad A H0 H locs cells slots Z ls C hc hsl hA hP hD hS hl hE
  obtain ⟨hd, rfl, ht⟩ := hd
  refine lv_if_le C.1 C.2.1 hd ht (fun h => ?_) (fun h => ?_)
  · exact kt h p l e R s m args below meth c D tc ad A H0 H locs cells slots Z ls C hc hsl hA hP hD hS hl hE
  · exact kf h p l e R s m args below meth c D tc ad A H0 H locs cells slots Z ls C hc hsl hA hP hD hS hl hE
theorem x_icmp_le {x y : Int32} (hd : xBr M pc (.if_icmp .le) off pc' tgt) (kt : x ≤ y → XP M tgt lv st w Q) (kf : ¬ x ≤ y → XP M pc' lv st w Q) : XP M pc lv (.int y :: .int x :: st) w Q := by
  intro p l e R s m args below meth c D tc ad A H0 H locs cells slots Z ls C hc hsl hA hP hD hS hl hE
  obtain ⟨hd, rfl, ht⟩ := hd
  refine lv_icmp_le C.1 C.2.1 hd ht (fun h => ?_) (fun h => ?_)
  · exact kt h p l e R s m args below meth c D tc ad A H0 H locs cells slots Z ls C hc hsl hA hP hD hS hl hE
  · exact kf h p l e R s m args below meth c D tc ad A H0 H locs cells slots Z ls C hc hsl hA hP hD hS hl hE
theorem x_goto (hd : xBr M pc .goto off pc' tgt) (k : XP M tgt lv st w Q) : XP M pc lv st w Q := by
  intro p l e R s m args below meth c D tc ad A H0 H locs cells slots Z ls C hc hsl hA hP hD hS hl hE
  obtain ⟨hd, -, ht⟩ := hd
  refine lv_goto C.1 C.2.1 hd ht ?_
  exact k p l e R s m args below meth c D tc ad A H0 H locs cells slots Z ls C hc hsl hA hP hD hS hl hE
theorem x_vret (hd : xAt M pc .return_ 1 pc') (hr : M.2.2.2.1 = none) (hq : Q none w) : XP M pc lv [] w Q := by
  intro p l e R s m args below meth c D tc ad A H0 H locs cells slots Z ls C hc hsl hA hP hD hS hl hE
  exact hE none w H locs pc ls hq hP hS ⟨hr, hd.1⟩
theorem x_iret {x : Int32} {ty : FieldType} (hd : xAt M pc .ireturn 1 pc') (hr : M.2.2.2.1 = some ty) (hn : narrow ty (.int x) = .int x) (hq : Q (some (.int x)) w) : XP M pc lv [.int x] w Q := by
  intro p l e R s m args below meth c D tc ad A H0 H locs cells slots Z ls C hc hsl hA hP hD hS hl hE
  exact hE (some (.int x)) w H locs pc ls hq hP hS ⟨⟨ty, hr, hn⟩, hd.1⟩
theorem x_lret {x : Int64} (hd : xAt M pc .lreturn 1 pc') (hr : M.2.2.2.1 = some .long) (hq : Q (some (.long x)) w) : XP M pc lv [.long x] w Q := by
  intro p l e R s m args below meth c D tc ad A H0 H locs cells slots Z ls C hc hsl hA hP hD hS hl hE
  exact hE (some (.long x)) w H locs pc ls hq hP hS ⟨hr, hd.1⟩
theorem x_dret {x : UInt64} (hd : xAt M pc .dreturn 1 pc') (hr : M.2.2.2.1 = some .double) (hq : Q (some (.double x)) w) : XP M pc lv [.double x] w Q := by
  intro p l e R s m args below meth c D tc ad A H0 H locs cells slots Z ls C hc hsl hA hP hD hS hl hE
  exact hE (some (.double x)) w H locs pc ls hq hP hS ⟨hr, hd.1⟩
theorem x_topi {x : Int32} (k : ∀ y : Int32, y = x → XP M pc lv (.int y :: st) w Q) : XP M pc lv (.int x :: st) w Q := k x rfl
theorem x_topl {x : Int64} (k : ∀ y : Int64, y = x → XP M pc lv (.long y :: st) w Q) : XP M pc lv (.long x :: st) w Q := k x rfl
theorem x_topd {x : UInt64} (k : ∀ y : UInt64, y = x → XP M pc lv (.double y :: st) w Q) : XP M pc lv (.double x :: st) w Q := k x rfl
/-- the link (own, index) is slot f of kind ci -/
def xFld (own : String) (index ci f : Nat) : Prop := ∃ (C : String) (T : u_T) (N : Nat), vwCl[ci]? = some (C, T, N) ∧ f < N ∧ (∀ w ∈ u_ws C T N, w ∈ xTs) ∧ (T f).1 = C ∧ (Cond.fieldLink own index C (T f).2.1 (T f).2.2.1 ∈ xTs ∨ ∃ host, Cond.fieldLinkNest own index C (T f).2.1 (T f).2.2.1 host ∈ xNs)
/-- and may be written with values of type ty -/
def xFldW (ci f : Nat) (ty : FieldType) : Prop := ∃ (C : String) (T : u_T) (N : Nat) (t : Nat → FieldType), vwCl[ci]? = some (C, T, N) ∧ (∀ k, k < N → parseFieldDescriptor (T k).2.2.1 = some (t k)) ∧ (∀ a, a < N → ∀ b, b < N → a ≠ b → (T a).2.1 ≠ (T b).2.1) ∧ (T f).2.2.2 = false ∧ parseFieldDescriptor (T f).2.2.1 = some ty
theorem xE_obj {tc ad : Nat → Nat} {w : xW} {k ci : Nat} {fs : List Value} (hk : k < xN) (hw : w k = .inr (ci, fs)) : (xws tc ad w)[k]? = some (ad k, .inr (ci, fs.map (xv ad))) := by rw [xws_at hk, hw]; rfl
theorem x_getf {k ci i f : Nat} {fs : List Value} {v : Value} (hd : xAt M pc (.getfield i) 3 pc') (hF : xFld M.1.cls i ci f) (hw : w k = .inr (ci, fs)) (hk : k < xN) (hv : fs[f]? = some v) (kk : XP M pc' lv (v :: st) w Q) : XP M pc lv (.ref k :: st) w Q := by
  intro p l e R s m args below meth c D tc ad A H0 H locs cells slots Z ls C hc hsl hA hP hD hS hl hE
  obtain ⟨hd, rfl⟩ := hd
  obtain ⟨CN, T, N, h1, h2, h3, h4, h5⟩ := hF
  have hv' : (fs.map (xv ad))[f]? = some (xv ad v) := by rw [List.getElem?_map, hv]; rfl
  rcases h5 with h5 | ⟨host, h5⟩
  · refine va_get C.1 C.2.1 C.2.2.2.2.1 h3 C.2.2.2.1 C.2.2.2.2.2.2.1 hP k (xE_obj hk hw) h1 f h2 (C.2.2.2.2.1 _ h5) (fun x h => by rw [h4] at h; exact h) hv' hd ?_
    exact kk p l e R s m args below meth c D tc ad A H0 H locs cells slots Z ls C hc hsl hA hP hD hS hl hE
  · refine va_getN C.1 C.2.1 C.2.2.2.2.1 h3 C.2.2.2.1 C.2.2.2.2.2.2.1 hP k (xE_obj hk hw) h1 f h2 (va_Nw.use rfl (C.2.2.2.2.2.1 _ h5)) (fun x h => by rw [h4] at h; exact h) hv' hd ?_
    exact kk p l e R s m args below meth c D tc ad A H0 H locs cells slots Z ls C hc hsl hA hP hD hS hl hE
theorem x_putf {k ci i f : Nat} {fs : List Value} {x : Int32} {ty : FieldType} (hd : xAt M pc (.putfield i) 3 pc') (hF : xFld M.1.cls i ci f) (hFW : xFldW ci f ty) (hw : w k = .inr (ci, fs)) (hk : k < xN) (hn : narrow ty (.int x) = .int x) (hf : fits ty (.int x) = true) (hfl : f < fs.length) (kk : XP M pc' lv st (xup w k (.inr (ci, fs.set f (.int x)))) Q) : XP M pc lv (.int x :: .ref k :: st) w Q := by
  intro p l e R s m args below meth c D tc ad A H0 H locs cells slots Z ls C hc hsl hA hP hD hS hl hE
  obtain ⟨hd, rfl⟩ := hd
  obtain ⟨CN, T, N, h1, h2, h3, h4, h5⟩ := hF
  obtain ⟨CN', T', N', t, g1, g2, g3, g4, g5⟩ := hFW
  rw [h1] at g1
  obtain ⟨rfl, rfl, rfl⟩ : CN = CN' ∧ T = T' ∧ N = N' := by
    have := Option.some.inj g1
    exact ⟨congrArg Prod.fst this, congrArg (fun q => q.2.1) this, congrArg (fun q => q.2.2) this⟩
  have hset : (xws tc ad w).set k (ad k, .inr (ci, (fs.map (xv ad)).set f (.int x))) = xws tc ad (xup w k (.inr (ci, fs.set f (.int x)))) := by
    rw [← xws_set hk]
    show _ = (xws tc ad w).set k (ad k, .inr (ci, (fs.set f (.int x)).map (xv ad)))
    rw [List.map_set]; rfl
  have hfl' : f < (fs.map (xv ad)).length := by rw [List.length_map]; exact hfl
  rcases h5 with h5 | ⟨host, h5⟩
  · refine va_put C.1 C.2.1 C.2.2.2.2.1 h3 t g2 g3 C.2.2.2.1 C.2.2.2.2.2.2.1 hP (hD.d w) hS k (xE_obj hk hw) h1 f h2 (C.2.2.2.2.1 _ h5) (fun x h => by rw [h4] at h; exact h) g4 g5 hn hf hfl' hd (fun H locs hP _ hS => ?_)
    have hP : va_P D vwCl ((xws tc ad w).set k (ad k, .inr (ci, (fs.map (xv ad)).set f (.int x)))) H := hP
    rw [hset] at hP
    exact kk p l e R s m args below meth c D tc ad A H0 H locs cells slots Z ls C hc hsl hA hP hD hS hl hE
  · refine va_putN C.1 C.2.1 C.2.2.2.2.1 h3 t g2 g3 C.2.2.2.1 C.2.2.2.2.2.2.1 hP (hD.d w) hS k (xE_obj hk hw) h1 f h2 (va_Nw.use rfl (C.2.2.2.2.2.1 _ h5)) (fun x h => by rw [h4] at h; exact h) g4 g5 hn hf hfl' hd (fun H locs hP _ hS => ?_)
    have hP : va_P D vwCl ((xws tc ad w).set k (ad k, .inr (ci, (fs.map (xv ad)).set f (.int x)))) H := hP
    rw [hset] at hP
    exact kk p l e R s m args below meth c D tc ad A H0 H locs cells slots Z ls C hc hsl hA hP hD hS hl hE
theorem x_iald {a n j : Nat} {f : Nat → Int32} {i : Int32} (hd : xAt M pc .iaload 1 pc') (hw : w a = .inl (0, n, .inl f)) (ha : a < xN) (hi : i = nI j) (hj : j < n) (hn : n < 2 ^ 31) (kk : XP M pc' lv (.int (f j) :: st) w Q) : XP M pc lv (.int i :: .ref a :: st) w Q := by
  intro p l e R s m args below meth c D tc ad A H0 H locs cells slots Z ls C hc hsl hA hP hD hS hl hE
  obtain ⟨hd, rfl⟩ := hd
  subst hi
  have he : (xws tc ad w)[a]? = some (ad a, .inl (tc 0, n, .inl f)) := by rw [xws_at ha, hw]; rfl
  refine va_iald C.1 C.2.1 C.2.2.2.2.2.2.1 hP a 0 he rfl (vp_in_nI hj hn) hd ?_
  rw [nI_clamp (by omega)]
  exact kk p l e R s m args below meth c D tc ad A H0 H locs cells slots Z ls C hc hsl hA hP hD hS hl hE
theorem x_iast {a n j : Nat} {f : Nat → Int32} {i : Int32} {x : Int32} (hd : xAt M pc .iastore 1 pc') (hw : w a = .inl (0, n, .inl f)) (ha : a < xN) (hi : i = nI j) (hj : j < n) (hn : n < 2 ^ 31) (kk : XP M pc' lv st (xup w a (.inl (0, n, .inl (upd f j x)))) Q) : XP M pc lv (.int x :: .int i :: .ref a :: st) w Q := by
  intro p l e R s m args below meth c D tc ad A H0 H locs cells slots Z ls C hc hsl hA hP hD hS hl hE
  obtain ⟨hd, rfl⟩ := hd
  subst hi
  have he : (xws tc ad w)[a]? = some (ad a, .inl (tc 0, n, .inl f)) := by rw [xws_at ha, hw]; rfl
  refine va_iast C.1 C.2.1 C.2.2.2.2.2.2.1 hP (hD.d w) hS a 0 he rfl (vp_in_nI hj hn) hd (fun H locs hP _ hS => ?_)
  rw [nI_clamp (by omega)] at hP
  have hP := (xws_set (tc := tc) (ad := ad) (w := w) (e := .inl (0, n, .inl (upd f j x))) ha) ▸ hP
  exact kk p l e R s m args below meth c D tc ad A H0 H locs cells slots Z ls C hc hsl hA hP hD hS hl hE
theorem x_zald {a n j : Nat} {f : Nat → Int32} {i : Int32} (hd : xAt M pc .baload 1 pc') (hw : w a = .inl (3, n, .inl f)) (ha : a < xN) (hi : i = nI j) (hj : j < n) (hn : n < 2 ^ 31) (kk : XP M pc' lv (.int (f j) :: st) w Q) : XP M pc lv (.int i :: .ref a :: st) w Q := by
  intro p l e R s m args below meth c D tc ad A H0 H locs cells slots Z ls C hc hsl hA hP hD hS hl hE
  obtain ⟨hd, rfl⟩ := hd
  subst hi
  have he : (xws tc ad w)[a]? = some (ad a, .inl (tc 3, n, .inl f)) := by rw [xws_at ha, hw]; rfl
  refine va_zald C.1 C.2.1 C.2.2.2.2.2.2.1 hP a 3 he rfl (vp_in_nI hj hn) hd ?_
  rw [nI_clamp (by omega)]
  exact kk p l e R s m args below meth c D tc ad A H0 H locs cells slots Z ls C hc hsl hA hP hD hS hl hE
theorem x_zast {a n j : Nat} {f : Nat → Int32} {i : Int32} {x : Int32} (hd : xAt M pc .bastore 1 pc') (hw : w a = .inl (3, n, .inl f)) (ha : a < xN) (hi : i = nI j) (hj : j < n) (hn : n < 2 ^ 31) (kk : XP M pc' lv st (xup w a (.inl (3, n, .inl (upd f j (vp_nar .boolean x))))) Q) : XP M pc lv (.int x :: .int i :: .ref a :: st) w Q := by
  intro p l e R s m args below meth c D tc ad A H0 H locs cells slots Z ls C hc hsl hA hP hD hS hl hE
  obtain ⟨hd, rfl⟩ := hd
  subst hi
  have he : (xws tc ad w)[a]? = some (ad a, .inl (tc 3, n, .inl f)) := by rw [xws_at ha, hw]; rfl
  refine va_zast C.1 C.2.1 C.2.2.2.2.2.2.1 hP (hD.d w) hS a 3 he rfl (vp_in_nI hj hn) hd (fun H locs hP _ hS => ?_)
  rw [nI_clamp (by omega)] at hP
  have hP := (xws_set (tc := tc) (ad := ad) (w := w) (e := .inl (3, n, .inl (upd f j (vp_nar .boolean x)))) ha) ▸ hP
  exact kk p l e R s m args below meth c D tc ad A H0 H locs cells slots Z ls C hc hsl hA hP hD hS hl hE
theorem x_lald {a n j : Nat} {f : Nat → Int64} {i : Int32} (hd : xAt M pc .laload 1 pc') (hw : w a = .inl (1, n, .inr (.inl f))) (ha : a < xN) (hi : i = nI j) (hj : j < n) (hn : n < 2 ^ 31) (kk : XP M pc' lv (.long (f j) :: st) w Q) : XP M pc lv (.int i :: .ref a :: st) w Q := by
  intro p l e R s m args below meth c D tc ad A H0 H locs cells slots Z ls C hc hsl hA hP hD hS hl hE
  obtain ⟨hd, rfl⟩ := hd
  subst hi
  have he : (xws tc ad w)[a]? = some (ad a, .inl (tc 1, n, .inr (.inl f))) := by rw [xws_at ha, hw]; rfl
  refine va_lald C.1 C.2.1 C.2.2.2.2.2.2.1 hP a 1 he rfl (vp_in_nI hj hn) hd ?_
  rw [nI_clamp (by omega)]
  exact kk p l e R s m args below meth c D tc ad A H0 H locs cells slots Z ls C hc hsl hA hP hD hS hl hE
theorem x_last {a n j : Nat} {f : Nat → Int64} {i : Int32} {x : Int64} (hd : xAt M pc .lastore 1 pc') (hw : w a = .inl (1, n, .inr (.inl f))) (ha : a < xN) (hi : i = nI j) (hj : j < n) (hn : n < 2 ^ 31) (kk : XP M pc' lv st (xup w a (.inl (1, n, .inr (.inl (vp_updL f j x))))) Q) : XP M pc lv (.long x :: .int i :: .ref a :: st) w Q := by
  intro p l e R s m args below meth c D tc ad A H0 H locs cells slots Z ls C hc hsl hA hP hD hS hl hE
  obtain ⟨hd, rfl⟩ := hd
  subst hi
  have he : (xws tc ad w)[a]? = some (ad a, .inl (tc 1, n, .inr (.inl f))) := by rw [xws_at ha, hw]; rfl
  refine va_last C.1 C.2.1 C.2.2.2.2.2.2.1 hP (hD.d w) hS a 1 he rfl (vp_in_nI hj hn) hd (fun H locs hP _ hS => ?_)
  rw [nI_clamp (by omega)] at hP
  have hP := (xws_set (tc := tc) (ad := ad) (w := w) (e := .inl (1, n, .inr (.inl (vp_updL f j x)))) ha) ▸ hP
  exact kk p l e R s m args below meth c D tc ad A H0 H locs cells slots Z ls C hc hsl hA hP hD hS hl hE
theorem x_dald {a n j : Nat} {f : Nat → UInt64} {i : Int32} (hd : xAt M pc .daload 1 pc') (hw : w a = .inl (2, n, .inr (.inr (.inr (.inl f))))) (ha : a < xN) (hi : i = nI j) (hj : j < n) (hn : n < 2 ^ 31) (kk : XP M pc' lv (.double (f j) :: st) w Q) : XP M pc lv (.int i :: .ref a :: st) w Q := by
  intro p l e R s m args below meth c D tc ad A H0 H locs cells slots Z ls C hc hsl hA hP hD hS hl hE
  obtain ⟨hd, rfl⟩ := hd
  subst hi
  have he : (xws tc ad w)[a]? = some (ad a, .inl (tc 2, n, .inr (.inr (.inr (.inl f))))) := by rw [xws_at ha, hw]; rfl
  refine va_dald C.1 C.2.1 C.2.2.2.2.2.2.1 hP a 2 he rfl (vp_in_nI hj hn) hd ?_
  rw [nI_clamp (by omega)]
  exact kk p l e R s m args below meth c D tc ad A H0 H locs cells slots Z ls C hc hsl hA hP hD hS hl hE
theorem x_dast {a n j : Nat} {f : Nat → UInt64} {i : Int32} {x : UInt64} (hd : xAt M pc .dastore 1 pc') (hw : w a = .inl (2, n, .inr (.inr (.inr (.inl f))))) (ha : a < xN) (hi : i = nI j) (hj : j < n) (hn : n < 2 ^ 31) (kk : XP M pc' lv st (xup w a (.inl (2, n, .inr (.inr (.inr (.inl (vf_upd f j x))))))) Q) : XP M pc lv (.double x :: .int i :: .ref a :: st) w Q := by
  intro p l e R s m args below meth c D tc ad A H0 H locs cells slots Z ls C hc hsl hA hP hD hS hl hE
  obtain ⟨hd, rfl⟩ := hd
  subst hi
  have he : (xws tc ad w)[a]? = some (ad a, .inl (tc 2, n, .inr (.inr (.inr (.inl f))))) := by rw [xws_at ha, hw]; rfl
  refine va_dast C.1 C.2.1 C.2.2.2.2.2.2.1 hP (hD.d w) hS a 2 he rfl (vp_in_nI hj hn) hd (fun H locs hP _ hS => ?_)
  rw [nI_clamp (by omega)] at hP
  have hP := (xws_set (tc := tc) (ad := ad) (w := w) (e := .inl (2, n, .inr (.inr (.inr (.inl (vf_upd f j x)))))) ha) ▸ hP
  exact kk p l e R s m args below meth c D tc ad A H0 H locs cells slots Z ls C hc hsl hA hP hD hS hl hE
theorem x_rald {t a n j k : Nat} {C9 : String} {f : Nat → Option Nat} {i : Int32} (hd : xAt M pc .aaload 1 pc') (hw : w a = .inl (t, n, .inr (.inr (.inr (.inr f))))) (ht : (t = 4 ∧ C9 = "ParcelMap$Parcel") ∨ (t = 5 ∧ C9 = "ParcelMap$Wide")) (ha : a < xN) (hi : i = nI j) (hj : j < n) (hn : n < 2 ^ 31) (hf : f j = some k) (kk : XP M pc' lv (.ref k :: st) w Q) : XP M pc lv (.int i :: .ref a :: st) w Q := by
  intro p l e R s m args below meth c D tc ad A H0 H locs cells slots Z ls C hc hsl hA hP hD hS hl hE
  obtain ⟨hd, rfl⟩ := hd
  subst hi
  have he : (xws tc ad w)[a]? = some (ad a, .inl (tc t, n, .inr (.inr (.inr (.inr (fun j => (f j).map ad)))))) := by rw [xws_at ha, hw]; rfl
  have ht' : (xtys tc)[t]? = some (tc t, .object C9) := by rcases ht with ⟨rfl, rfl⟩ | ⟨rfl, rfl⟩ <;> rfl
  refine va_aldq C.1 C.2.1 C.2.2.2.2.2.2.1 hP a t he ht' (vp_in_nI hj hn) hd ?_
  rw [nI_clamp (by omega)]
  simp only [hf, Option.map_some, va_rf]
  exact kk p l e R s m args below meth c D tc ad A H0 H locs cells slots Z ls C hc hsl hA hP hD hS hl hE
end XR
end
section
theorem xlv_args (ad : Nat → Nat) : ∀ (av : List Value) (i : Nat), lv_args i (av.map (xv ad)) = xlv ad (lv_args i av) := by
  intro av
  induction av with
  | nil => intro i; rfl
  | cons v t ih =>
    intro i
    show (i, xv ad v) :: lv_args (if (xv ad v).category = 2 then i + 2 else i + 1) (t.map (xv ad)) = _
    rw [xv_cat, ih]
    rfl
theorem lg_sl_len (ad : Nat → Nat) (av : List Value) : (lg_sl (av.map (xv ad))).length = (lg_sl av).length := by
  unfold lg_sl
  induction av with
  | nil => rfl
  | cons v t ih =>
    simp only [List.map_cons, List.flatMap_cons, List.length_append, xv_cat, ih]
    split <;> rfl
theorem xcat_sum (ad : Nat → Nat) (st : List Value) : ((st.map (xv ad)).map fun v => v.category).sum = (st.map fun v => v.category).sum := by
  rw [List.map_map]
  congr 2
  funext v
  exact xv_cat ad v
theorem xNw.moved {s U : State} (hW : s.WarmedH U.vm) (h : xNw s) : xNw U := by
  intro q hq
  have hb : xNb q = true := (List.mem_filter.mp hq).2
  have h1 := h q hq
  cases q with
  | fieldLinkNest a i b n d h0 => exact va_Nw.warmF hW h1
  | _ => simp [xNb] at hb
theorem xNw.same {s U : State} (hW : s.vm = U.vm) (h : xNw s) : xNw U := by
  intro q hq
  have hb : xNb q = true := (List.mem_filter.mp hq).2
  have h1 := h q hq
  cases q with
  | fieldLinkNest a i b n d h0 => exact va_Nw.same rfl hW h1
  | _ => simp [xNb] at hb
/-- a method's start, in a world w at places ad -/
def xPre (D : va_G) (tc ad : Nat → Nat) (sz : Nat) (w : xW) (U : State) : Prop := U.heap.size = sz ∧ va_P D vwCl (xws tc ad w) U.heap ∧ va_K D vwCl (xtys tc) U ∧ xNw U ∧ ∀ i j, i < xN → j < xN → ad i = ad j → i = j
def xPost (D : va_G) (tc ad : Nat → Nat) (A : Nat → Prop) (Q : Option Value → xW → Prop) : Array Value → State → Outcome → State → Prop := fun _ st oc t => (∃ (r : Option Value) (w' : xW), oc = .returned (r.map (xv ad)) ∧ Q r w' ∧ va_P D vwCl (xws tc ad w') t.heap) ∧ va_F A st t
theorem x_met {M : xM} {av : List Value} {w : xW} {Q : Option Value → xW → Prop} (hS : XP M 0 (lv_args 0 av) [] w Q) (hav : (lg_sl av).length ≤ M.2.2.1) (hy : plainName M.1.cls = true) (l : Launch) (D : va_G) (tc ad : Nat → Nat) (sz : Nat) :
    Met l M.1 (xWs M) (xRm M.2.2.2.2) (va_Pc (av.map (xv ad)) (xPre D tc ad sz w)) (xPost D tc ad (va_A (xws tc ad w) sz) Q) 0 0 (va_A (xws tc ad w) sz) := by
  refine Met.ofW (cc := M.2.1) (maxL := M.2.2.1) (ret := M.2.2.2.1) hy rfl ?_
  intro p e s m args below meth c s₁ B hml hv
  obtain ⟨rfl, hsz, hP, hK, hNw, hinj⟩ := hv
  have hx := B.exec
  have hb := B.bytes
  have hr := B.returns
  have hts := atoms_spec (ws := xWs M) B.pre
  have hown : s.vm.findClass M.1.cls = some m.cls := findClass_of_methodNamed B.named
  have hlocks := B.notSynchronized
  subst hsz
  have hD : xD ad (va_A (xws tc ad w) s.heap.size) := ⟨hinj, fun k hk => va_A.in (xws_at hk)⟩
  have hl := lv_entry (av.map (xv ad)) (n := M.2.2.1) (by rw [lg_sl_len]; exact hav)
  rw [lg_entry_eq]
  rw [xlv_args] at hl
  refine hS p l e _ s m _ below meth c D tc ad (va_A (xws tc ad w) s.heap.size) s.heap s.heap [] 0 0 _ _ ⟨hx, hb, hml, hown, fun w h => hts w (List.mem_cons_of_mem _ h), hNw, hK, Nat.le_refl _, Nat.le_refl _⟩ (Nat.zero_le _) (Nat.zero_le _) (fun q h => Or.inr h) hP hD va_S.rf hl ?_
  intro r w' H' locs' pc' ls' hq hP' hS' hR
  cases r with
  | none => exact W.vret hx hb (hr.trans hR.1) (fun t ht hW => ⟨⟨none, w', rfl, hq, by rw [ht]; exact hP'⟩, hS'.F ht⟩) hS'.2.2 hR.2 (hlocks := hlocks)
  | some v =>
    cases v with
    | int x =>
      obtain ⟨⟨ty, h1, h2⟩, h3⟩ := hR
      exact W.zret hx hb (hr.trans h1) h2 (fun t ht hW => ⟨⟨some (.int x), w', rfl, hq, by rw [ht]; exact hP'⟩, hS'.F ht⟩) hS'.2.2 h3 (hlocks := hlocks)
    | long x => exact W.lret hx hb (hr.trans hR.1) (fun t ht hW => ⟨⟨some (.long x), w', rfl, hq, by rw [ht]; exact hP'⟩, hS'.F ht⟩) hS'.2.2 hR.2 (hlocks := hlocks)
    | double x => exact W.dret hx hb (hr.trans hR.1) (fun t ht hW => ⟨⟨some (.double x), w', rfl, hq, by rw [ht]; exact hP'⟩, hS'.F ht⟩) hS'.2.2 hR.2 (hlocks := hlocks)
    | float x => exact absurd hR id
    | null => exact absurd hR id
    | ref x => exact absurd hR id
    | retAddr x => exact absurd hR id
/-- what the tables say of a call's link -/
def xLnk (own : String) (index : Nat) (M : xM) (n : Nat) : Prop := Cond.methodLink own index M.1 ∈ xTs ∧ Cond.initialized M.1.cls ∈ xTs ∧ Cond.code M.1 M.2.1 M.2.2.1 M.2.2.2.1 ∈ xTs ∧ plainName M.1.cls = true ∧ M.1.cls ≠ "java/lang/invoke/MethodHandle" ∧ M.1.cls ≠ "java/lang/invoke/VarHandle" ∧ (parseMethodDescriptor M.1.desc).map (fun d => d.parameters.length) = some n
def xLnkV (own : String) (index : Nat) (M : xM) (ci n : Nat) : Prop := xLnk own index M n ∧ Cond.instanceMethod M.1 ∈ xTs ∧ Cond.selects M.1.cls M.1 M.1 ∈ xTs ∧ vwCl[ci]?.map Prod.fst = some M.1.cls
def xLnkS (own : String) (index : Nat) (M : xM) (n : Nat) : Prop := xLnk own index M n ∧ Cond.static M.1 ∈ xTs
def xFit (M M' : xM) : Prop := M'.2.2.2.2 + 1 ≤ M.2.2.2.2 ∧ M'.2.2.1 ≤ 26
theorem xWs_good {M : xM} (h : Cond.code M.1 M.2.1 M.2.2.1 M.2.2.2.1 ∈ xTs) : GoodIn xTs (xWs M) := by
  intro w hw
  rcases List.mem_cons.mp hw with rfl | hw
  · exact xTs_good _ h
  · exact xTs_good _ hw
theorem x_callB {M M' : xM} {own : String} {index n : Nat} {R : Room} {s : State} {args : Array Value} (hts : ∀ w ∈ xTs, w.before args s = true) (hL : xLnk own index M' n) (hF : xFit M M') (h1 : M.2.2.2.2 ≤ R.frames) (h2 : 45 * M.2.2.2.2 ≤ R.locals) : CallB R s args own index M'.1 M'.2.1 M'.2.2.1 M'.2.2.2.1 (xWs M') (xRm M'.2.2.2.2) 0 0 n := by
  obtain ⟨a1, a2, a3, a4, a5, a6, a7⟩ := hL
  obtain ⟨f1, f2⟩ := hF
  refine callB_of n hts (xWs_good a3) rfl rfl rfl (hts _ a2) (hts _ a1) ⟨a5, a6, a7⟩ ⟨?_, ?_⟩
  · show M'.2.2.2.2 + 1 ≤ R.frames
    omega
  · show 8 + (M'.2.2.1 + 11) + 45 * M'.2.2.2.2 ≤ R.locals
    omega
theorem x_frameblind {D : va_G} {tc ad : Nat → Nat} {sz : Nat} {w : xW} {av : List Value} : FrameBlind (va_Pc av (xPre D tc ad sz w)) := by
  intro a U g mk q
  obtain ⟨q0, q1, qP, qK, qN, qi⟩ := q
  exact ⟨q0, q1, qP, va_K.moved (u := U) (U := U.calling g mk a) (Vm.Alike.refl U.vm) qK, xNw.same (s := U) (U := U.calling g mk a) rfl qN, qi⟩
section XCALL
variable {M M' : xM} {pc pc' index n : Nat} {lv : List (Nat × Value)} {rest st As : List Value} {w : xW} {Q Q' : Option Value → xW → Prop}
/-- behind a call: the world that came back, nothing else changed -/
theorem x_back {p : Program} {l : Launch} {e : Env} {R : Room} {s : State} {m : MethodId} {args : Array Value} {below : List Frame} {meth : Method} {c : Code} {D : va_G} {tc ad : Nat → Nat} {A : Nat → Prop} {H0 H : Heap} {locs : List Loc} {cells slots : Nat} {Z : State → Prop} {ls : Array Slot} {a : Array Value} {st0 rest0 : List Value}
    (hr : va_Run p l e R s m args below meth c H locs cells slots 0 0 (F0 m pc ls st0) rest0 (xPost D tc ad (va_A (xws tc ad w) H.size) Q' a) (va_A (xws tc ad w) H.size)) (hA : ∀ q, H0.size ≤ q → A q) (hD : xD ad A) (hS : va_S A H0 H locs)
    (kk : ∀ (r : Option Value) (w' : xW) (H1 : Heap) (locs1 : List Loc), Q' r w' → va_P D vwCl (xws tc ad w') H1 → va_S A H0 H1 locs1 → W p l e R s m args below meth c H1 locs1 cells slots Z (F0 m (pc + 3) ls ((r.map (xv ad)).toList ++ rest0))) : W p l e R s m args below meth c H locs cells slots Z (F0 m pc ls st0) := by
  have hF : ∀ q, va_A (xws tc ad w) H.size q → A q := by
    intro q h
    rcases h with ⟨k, e, h⟩ | h
    · obtain ⟨h1, h2⟩ := xws_lt h
      have : q = ad k := congrArg Prod.fst h2
      rw [this]
      exact hD.2 k h1
    · exact hA q (Nat.le_trans hS.1 h)
  intro T hT X
  obtain ⟨v, st₀, t, T', L, h0, X', hL, e1, e2, ⟨⟨r, w', hv, hq, hP'⟩, hz, hk⟩, st⟩ := hr T hT X
  cases hv
  rw [h0] at hz hk
  have hS' : va_S A H0 T'.heap (locs ++ L) := ⟨Nat.le_trans hS.1 (by rw [e1]; exact hz), fun q h1 h2 => by rw [e1, hk q (Nat.lt_of_lt_of_le h1 hS.1) (fun z => h2 (hF q z))]; exact hS.2.1 q h1 h2, fun q hq => by
      rcases List.mem_append.mp hq with h | h
      · exact hS.2.2 q h
      · exact hF _ (hL q h)⟩
  obtain ⟨t2, a1, b1⟩ := kk r w' T'.heap (locs ++ L) hq (by rw [e1]; exact hP') hS' T' rfl X'
  exact ⟨t2, st t2 a1, b1⟩
theorem x_callV {b ci : Nat} {fs : List Value} (hd : xAt M pc (.invokevirtual index) 3 pc') (hL : xLnkV M.1.cls index M' ci n) (hF : xFit M M') (hw : w b = .inr (ci, fs)) (hb : b < xN) (hn : As.length = n) (hst : st = As.reverse ++ .ref b :: rest) (hr : (rest.map fun v => v.category).sum ≤ 8) (hav : (lg_sl (.ref b :: As)).length ≤ M'.2.2.1)
    (hS' : XP M' 0 (lv_args 0 (.ref b :: As)) [] w Q') (kk : ∀ r w', Q' r w' → XP M pc' lv (r.toList ++ rest) w' Q) : XP M pc lv st w Q := by
  intro p l e R s m args below meth c D tc ad A H0 H locs cells slots Z ls C hc hsl hA hP hD hS hl hE
  obtain ⟨hd, rfl⟩ := hd
  subst hst
  obtain ⟨hL, hi, hse, hcl⟩ := hL
  have hmet := x_met hS' hav hL.2.2.2.1 l D tc ad H.size
  have hcb := x_callB (M := M) C.2.2.2.2.1 hL hF C.2.2.2.2.2.2.2.1 C.2.2.2.2.2.2.2.2
  obtain ⟨⟨CN, T, N⟩, hcl, hcn⟩ : ∃ q : vw_C, vwCl[ci]? = some q ∧ q.1 = M'.1.cls := by
    cases h : vwCl[ci]? with
    | none => rw [h] at hcl; cases hcl
    | some q => rw [h] at hcl; exact ⟨q, rfl, Option.some.inj hcl⟩
  have hrecv := va_recv C.2.2.2.2.2.2.1 hP hcl (xE_obj hb hw)
  rw [hcn] at hrecv
  refine x_back (w := w) (Q' := Q') (va_runV (As := As.map (xv ad)) (rest := rest.map (xv ad)) (b := ad b) (C := M'.1.cls) ⟨C.1, C.2.1, C.2.2.1, C.2.2.2.1, C.2.2.2.2.1⟩ hmet ⟨hcb, C.2.2.2.2.1 _ hi, C.2.2.2.2.1 _ hse⟩ ⟨x_frameblind, hrecv, fun U hU hW => ⟨rfl, by rw [hU], by rw [hU]; exact hP, va_K.moved hW.alike C.2.2.2.2.2.2.1, xNw.moved hW C.2.2.2.2.2.1, hD.1⟩⟩ rfl (by rw [List.length_map]; exact hn) hl.1 (by show List.map (xv ad) (As.reverse ++ .ref b :: rest) = _; rw [List.map_append, List.map_reverse]; rfl) (by show 2 * 0 + _ ≤ 8; rw [xcat_sum]; omega) hd ⟨hc, hsl⟩) hA hD hS (fun r w' H locs hq hP hS => ?_)
  have h9 := kk r w' hq p l e R s m args below meth c D tc ad A H0 H locs cells slots Z ls C hc hsl hA hP hD hS hl hE
  rw [List.map_append] at h9
  cases r <;> exact h9
theorem x_callS (hd : xAt M pc (.invokestatic index) 3 pc') (hL : xLnkS M.1.cls index M' n) (hF : xFit M M') (hn : As.length = n) (hst : st = As.reverse ++ rest) (hr : (rest.map fun v => v.category).sum ≤ 8) (hav : (lg_sl As).length ≤ M'.2.2.1)
    (hS' : XP M' 0 (lv_args 0 As) [] w Q') (kk : ∀ r w', Q' r w' → XP M pc' lv (r.toList ++ rest) w' Q) : XP M pc lv st w Q := by
  intro p l e R s m args below meth c D tc ad A H0 H locs cells slots Z ls C hc hsl hA hP hD hS hl hE
  obtain ⟨hd, rfl⟩ := hd
  subst hst
  obtain ⟨hL, hi⟩ := hL
  have hmet := x_met hS' hav hL.2.2.2.1 l D tc ad H.size
  have hcb := x_callB (M := M) C.2.2.2.2.1 hL hF C.2.2.2.2.2.2.2.1 C.2.2.2.2.2.2.2.2
  refine x_back (w := w) (Q' := Q') (va_runS (As := As.map (xv ad)) (rest := rest.map (xv ad)) ⟨C.1, C.2.1, C.2.2.1, C.2.2.2.1, C.2.2.2.2.1⟩ hmet ⟨hcb, C.2.2.2.2.1 _ hi⟩ ⟨x_frameblind, fun U hU hW => ⟨rfl, by rw [hU], by rw [hU]; exact hP, va_K.moved hW.alike C.2.2.2.2.2.2.1, xNw.moved hW C.2.2.2.2.2.1, hD.1⟩⟩ rfl (by rw [List.length_map]; exact hn) hl.1 (by show List.map (xv ad) (As.reverse ++ rest) = _; rw [List.map_append, List.map_reverse]) (by show 2 * 0 + _ ≤ 8; rw [xcat_sum]; omega) hd ⟨hc, hsl⟩) hA hD hS (fun r w' H locs hq hP hS => ?_)
  have h9 := kk r w' hq p l e R s m args below meth c D tc ad A H0 H locs cells slots Z ls C hc hsl hA hP hD hS hl hE
  rw [List.map_append] at h9
  cases r <;> exact h9
theorem x_l2dbits {x : Int64} (hd : xAt M pc (.invokestatic index) 3 pc') (hlink : Cond.methodLink M.1.cls index ⟨"java/lang/Double", "longBitsToDouble", "(J)D"⟩ ∈ xTs) (hnat : Cond.native ⟨"java/lang/Double", "longBitsToDouble", "(J)D"⟩ ∈ xTs) (hstat : Cond.static ⟨"java/lang/Double", "longBitsToDouble", "(J)D"⟩ ∈ xTs) (hinit : Cond.initialized "java/lang/Double" ∈ xTs) (hv : vn_snl2d x = false) (hf : 1 ≤ M.2.2.2.2) (hr : (rest.map fun v => v.category).sum ≤ 8) (kk : XP M pc' lv (.double x.toUInt64 :: rest) w Q) : XP M pc lv (.long x :: rest) w Q := by
  intro p l e R s m args below meth c D tc ad A H0 H locs cells slots Z ls C hc hsl hA hP hD hS hl hE
  obtain ⟨hd, rfl⟩ := hd
  have h1 := C.2.2.2.2.2.2.2.1
  have h2 := C.2.2.2.2.2.2.2.2
  refine vn_l2d C.1 C.2.1 (C.2.2.1.trans hl.1.symm) C.2.2.2.1 (C.2.2.2.2.1 _ hlink) (C.2.2.2.2.1 _ hnat) (C.2.2.2.2.1 _ hstat) (C.2.2.2.2.1 _ hinit) hv (by omega) (by rw [xcat_sum]; omega) hd ?_
  exact kk p l e R s m args below meth c D tc ad A H0 H locs cells slots Z ls C hc hsl hA hP hD hS hl hE
theorem x_tableIn {dflt lo hi : Int} {offs : Array Int} {len : Nat} {x : Int32} {off : Int} {tgt : Nat} (hd : decode M.2.1 pc = .ok (.tableswitch dflt lo hi offs, len)) (h1 : ¬ x.toInt < lo) (h2 : ¬ hi < x.toInt) (ho : offs[(x.toInt - lo).toNat]? = some off) (ht : (pc : Int) + off = (tgt : Int)) (kk : XP M tgt lv st w Q) : XP M pc lv (.int x :: st) w Q := by
  intro p l e R s m args below meth c D tc ad A H0 H locs cells slots Z ls C hc hsl hA hP hD hS hl hE
  refine lv_tableIn C.1 C.2.1 hd h1 h2 ho ht ?_
  exact kk p l e R s m args below meth c D tc ad A H0 H locs cells slots Z ls C hc hsl hA hP hD hS hl hE
theorem x_tableOut {dflt lo hi : Int} {offs : Array Int} {len : Nat} {x : Int32} {tgt : Nat} (hd : decode M.2.1 pc = .ok (.tableswitch dflt lo hi offs, len)) (h : x.toInt < lo ∨ hi < x.toInt) (ht : (pc : Int) + dflt = (tgt : Int)) (kk : XP M tgt lv st w Q) : XP M pc lv (.int x :: st) w Q := by
  intro p l e R s m args below meth c D tc ad A H0 H locs cells slots Z ls C hc hsl hA hP hD hS hl hE
  refine lv_tableOut C.1 C.2.1 hd h ht ?_
  exact kk p l e R s m args below meth c D tc ad A H0 H locs cells slots Z ls C hc hsl hA hP hD hS hl hE
end XCALL
end
