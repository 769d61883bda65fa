section
-- ===== PART A: goes FIRST, ahead of the names: the tables' words, and 'selects' of the private methods out of them =====
/-- a private method of a class that the tables say can be made, by its rows of tables_1 -/
def lw_okq (q : MethodName × Nat) : Prop := (q.1.cls ≠ "java/lang/invoke/MethodHandle" ∧ q.1.cls ≠ "java/lang/invoke/VarHandle") ∧ Cond.instantiable q.1.cls q.2 ∈ tables_1 ∧ Cond.privateMethod q.1 ∈ tables_1 ∧ Cond.instanceMethod q.1 ∈ tables_1
theorem lw_p0 : lw_okq (⟨"ParcelMap$Points", "putOne", "(IJ)V"⟩, 5) := ⟨⟨by decide +kernel, by decide +kernel⟩, List.mem_of_getElem? (i := 21) (by decide +kernel), List.mem_of_getElem? (i := 258) (by decide +kernel), List.mem_of_getElem? (i := 259) (by decide +kernel)⟩
theorem lw_p1 : lw_okq (⟨"ParcelMap$Points", "exactTurn", "(III)I"⟩, 5) := ⟨⟨by decide +kernel, by decide +kernel⟩, List.mem_of_getElem? (i := 21) (by decide +kernel), List.mem_of_getElem? (i := 313) (by decide +kernel), List.mem_of_getElem? (i := 314) (by decide +kernel)⟩
theorem lw_p2 : lw_okq (⟨"ParcelMap$Points", "meetingInLine", "(IIII)I"⟩, 5) := ⟨⟨by decide +kernel, by decide +kernel⟩, List.mem_of_getElem? (i := 21) (by decide +kernel), List.mem_of_getElem? (i := 342) (by decide +kernel), List.mem_of_getElem? (i := 343) (by decide +kernel)⟩
theorem lw_p3 : lw_okq (⟨"ParcelMap$Points", "isNearer", "(II)Z"⟩, 5) := ⟨⟨by decide +kernel, by decide +kernel⟩, List.mem_of_getElem? (i := 21) (by decide +kernel), List.mem_of_getElem? (i := 359) (by decide +kernel), List.mem_of_getElem? (i := 360) (by decide +kernel)⟩
theorem lw_p4 : lw_okq (⟨"ParcelMap", "faultIn", "(LParcelMap$Ring;II)I"⟩, 11) := ⟨⟨by decide +kernel, by decide +kernel⟩, List.mem_of_getElem? (i := 13) (by decide +kernel), List.mem_of_getElem? (i := 390) (by decide +kernel), List.mem_of_getElem? (i := 391) (by decide +kernel)⟩
theorem lw_p5 : lw_okq (⟨"ParcelMap$Shapes", "findsTwins", "(LParcelMap$Ring;)Z"⟩, 2) := ⟨⟨by decide +kernel, by decide +kernel⟩, List.mem_of_getElem? (i := 59) (by decide +kernel), List.mem_of_getElem? (i := 398) (by decide +kernel), List.mem_of_getElem? (i := 399) (by decide +kernel)⟩
theorem lw_p6 : lw_okq (⟨"ParcelMap$Shapes", "findsCrossing", "(LParcelMap$Ring;)Z"⟩, 2) := ⟨⟨by decide +kernel, by decide +kernel⟩, List.mem_of_getElem? (i := 59) (by decide +kernel), List.mem_of_getElem? (i := 402) (by decide +kernel), List.mem_of_getElem? (i := 403) (by decide +kernel)⟩
theorem lw_p7 : lw_okq (⟨"ParcelMap$Shapes", "farthest", "(LParcelMap$Ring;II)D"⟩, 2) := ⟨⟨by decide +kernel, by decide +kernel⟩, List.mem_of_getElem? (i := 59) (by decide +kernel), List.mem_of_getElem? (i := 431) (by decide +kernel), List.mem_of_getElem? (i := 432) (by decide +kernel)⟩
theorem lw_p8 : lw_okq (⟨"ParcelMap$Shapes", "cutsInto", "(IILParcelMap$Ring;)Z"⟩, 2) := ⟨⟨by decide +kernel, by decide +kernel⟩, List.mem_of_getElem? (i := 59) (by decide +kernel), List.mem_of_getElem? (i := 439) (by decide +kernel), List.mem_of_getElem? (i := 440) (by decide +kernel)⟩
theorem lw_p9 : lw_okq (⟨"ParcelMap$Shapes", "opensTo", "(LParcelMap$Ring;II)Z"⟩, 2) := ⟨⟨by decide +kernel, by decide +kernel⟩, List.mem_of_getElem? (i := 59) (by decide +kernel), List.mem_of_getElem? (i := 447) (by decide +kernel), List.mem_of_getElem? (i := 448) (by decide +kernel)⟩
theorem lw_p10 : lw_okq (⟨"ParcelMap$Shapes", "startsInto", "(LParcelMap$Ring;III)Z"⟩, 2) := ⟨⟨by decide +kernel, by decide +kernel⟩, List.mem_of_getElem? (i := 59) (by decide +kernel), List.mem_of_getElem? (i := 456) (by decide +kernel), List.mem_of_getElem? (i := 457) (by decide +kernel)⟩
theorem lw_p11 : lw_okq (⟨"ParcelMap$Shapes", "common", "(LParcelMap$Ring;ILParcelMap$Ring;I)I"⟩, 2) := ⟨⟨by decide +kernel, by decide +kernel⟩, List.mem_of_getElem? (i := 59) (by decide +kernel), List.mem_of_getElem? (i := 464) (by decide +kernel), List.mem_of_getElem? (i := 465) (by decide +kernel)⟩
theorem lw_p12 : lw_okq (⟨"ParcelMap$Ring", "isShared", "(ILParcelMap$Ring;)Z"⟩, 2) := ⟨⟨by decide +kernel, by decide +kernel⟩, List.mem_of_getElem? (i := 86) (by decide +kernel), List.mem_of_getElem? (i := 533) (by decide +kernel), List.mem_of_getElem? (i := 534) (by decide +kernel)⟩
theorem lw_p13 : lw_okq (⟨"ParcelMap$Hull", "take", "(LParcelMap$Ring;)V"⟩, 5) := ⟨⟨by decide +kernel, by decide +kernel⟩, List.mem_of_getElem? (i := 183) (by decide +kernel), List.mem_of_getElem? (i := 589) (by decide +kernel), List.mem_of_getElem? (i := 590) (by decide +kernel)⟩
theorem lw_p14 : lw_okq (⟨"ParcelMap$Hull", "append", "(LParcelMap$Points;II)V"⟩, 5) := ⟨⟨by decide +kernel, by decide +kernel⟩, List.mem_of_getElem? (i := 183) (by decide +kernel), List.mem_of_getElem? (i := 602) (by decide +kernel), List.mem_of_getElem? (i := 603) (by decide +kernel)⟩
theorem lw_p15 : lw_okq (⟨"ParcelMap$Shares", "cutShare", "(LParcelMap$Wide;I)I"⟩, 4) := ⟨⟨by decide +kernel, by decide +kernel⟩, List.mem_of_getElem? (i := 159) (by decide +kernel), List.mem_of_getElem? (i := 656) (by decide +kernel), List.mem_of_getElem? (i := 657) (by decide +kernel)⟩
def lw_privs_1 : List (MethodName × Nat) := [(⟨"ParcelMap$Points", "putOne", "(IJ)V"⟩, 5), (⟨"ParcelMap$Points", "exactTurn", "(III)I"⟩, 5), (⟨"ParcelMap$Points", "meetingInLine", "(IIII)I"⟩, 5), (⟨"ParcelMap$Points", "isNearer", "(II)Z"⟩, 5), (⟨"ParcelMap", "faultIn", "(LParcelMap$Ring;II)I"⟩, 11), (⟨"ParcelMap$Shapes", "findsTwins", "(LParcelMap$Ring;)Z"⟩, 2), (⟨"ParcelMap$Shapes", "findsCrossing", "(LParcelMap$Ring;)Z"⟩, 2), (⟨"ParcelMap$Shapes", "farthest", "(LParcelMap$Ring;II)D"⟩, 2), (⟨"ParcelMap$Shapes", "cutsInto", "(IILParcelMap$Ring;)Z"⟩, 2), (⟨"ParcelMap$Shapes", "opensTo", "(LParcelMap$Ring;II)Z"⟩, 2), (⟨"ParcelMap$Shapes", "startsInto", "(LParcelMap$Ring;III)Z"⟩, 2), (⟨"ParcelMap$Shapes", "common", "(LParcelMap$Ring;ILParcelMap$Ring;I)I"⟩, 2), (⟨"ParcelMap$Ring", "isShared", "(ILParcelMap$Ring;)Z"⟩, 2), (⟨"ParcelMap$Hull", "take", "(LParcelMap$Ring;)V"⟩, 5), (⟨"ParcelMap$Hull", "append", "(LParcelMap$Points;II)V"⟩, 5), (⟨"ParcelMap$Shares", "cutShare", "(LParcelMap$Wide;I)I"⟩, 4)]
theorem lw_r1 : ∀ q ∈ lw_privs_1, lw_okq q := List.forall_mem_cons.mpr ⟨lw_p0, List.forall_mem_cons.mpr ⟨lw_p1, List.forall_mem_cons.mpr ⟨lw_p2, List.forall_mem_cons.mpr ⟨lw_p3, List.forall_mem_cons.mpr ⟨lw_p4, List.forall_mem_cons.mpr ⟨lw_p5, List.forall_mem_cons.mpr ⟨lw_p6, List.forall_mem_cons.mpr ⟨lw_p7, List.forall_mem_cons.mpr ⟨lw_p8, List.forall_mem_cons.mpr ⟨lw_p9, List.forall_mem_cons.mpr ⟨lw_p10, List.forall_mem_cons.mpr ⟨lw_p11, List.forall_mem_cons.mpr ⟨lw_p12, List.forall_mem_cons.mpr ⟨lw_p13, List.forall_mem_cons.mpr ⟨lw_p14, List.forall_mem_cons.mpr ⟨lw_p15, fun _ h => absurd h List.not_mem_nil⟩⟩⟩⟩⟩⟩⟩⟩⟩⟩⟩⟩⟩⟩⟩⟩
theorem lw_p16 : lw_okq (⟨"ParcelMapModel", "lay", "(IJJ)V"⟩, 43) := ⟨⟨by decide +kernel, by decide +kernel⟩, List.mem_of_getElem? (i := 684) (by decide +kernel), List.mem_of_getElem? (i := 833) (by decide +kernel), List.mem_of_getElem? (i := 834) (by decide +kernel)⟩
theorem lw_p17 : lw_okq (⟨"ParcelMapModel", "isCorner", "(I)Z"⟩, 43) := ⟨⟨by decide +kernel, by decide +kernel⟩, List.mem_of_getElem? (i := 684) (by decide +kernel), List.mem_of_getElem? (i := 852) (by decide +kernel), List.mem_of_getElem? (i := 853) (by decide +kernel)⟩
theorem lw_p18 : lw_okq (⟨"ParcelMapModel", "turn", "(III)I"⟩, 43) := ⟨⟨by decide +kernel, by decide +kernel⟩, List.mem_of_getElem? (i := 684) (by decide +kernel), List.mem_of_getElem? (i := 872) (by decide +kernel), List.mem_of_getElem? (i := 873) (by decide +kernel)⟩
theorem lw_p19 : lw_okq (⟨"ParcelMapModel", "times", "([JII[JII[JIJ)V"⟩, 43) := ⟨⟨by decide +kernel, by decide +kernel⟩, List.mem_of_getElem? (i := 684) (by decide +kernel), List.mem_of_getElem? (i := 879) (by decide +kernel), List.mem_of_getElem? (i := 880) (by decide +kernel)⟩
theorem lw_p20 : lw_okq (⟨"ParcelMapModel", "common", "(IIII)I"⟩, 43) := ⟨⟨by decide +kernel, by decide +kernel⟩, List.mem_of_getElem? (i := 684) (by decide +kernel), List.mem_of_getElem? (i := 894) (by decide +kernel), List.mem_of_getElem? (i := 895) (by decide +kernel)⟩
theorem lw_p21 : lw_okq (⟨"ParcelMapModel", "ahead", "(II)I"⟩, 43) := ⟨⟨by decide +kernel, by decide +kernel⟩, List.mem_of_getElem? (i := 684) (by decide +kernel), List.mem_of_getElem? (i := 898) (by decide +kernel), List.mem_of_getElem? (i := 899) (by decide +kernel)⟩
theorem lw_p22 : lw_okq (⟨"ParcelMapModel", "isBetween", "(III)Z"⟩, 43) := ⟨⟨by decide +kernel, by decide +kernel⟩, List.mem_of_getElem? (i := 684) (by decide +kernel), List.mem_of_getElem? (i := 905) (by decide +kernel), List.mem_of_getElem? (i := 906) (by decide +kernel)⟩
theorem lw_p23 : lw_okq (⟨"ParcelMapModel", "faultOf", "()I"⟩, 43) := ⟨⟨by decide +kernel, by decide +kernel⟩, List.mem_of_getElem? (i := 684) (by decide +kernel), List.mem_of_getElem? (i := 928) (by decide +kernel), List.mem_of_getElem? (i := 929) (by decide +kernel)⟩
theorem lw_p24 : lw_okq (⟨"ParcelMapModel", "fault", "(II)I"⟩, 43) := ⟨⟨by decide +kernel, by decide +kernel⟩, List.mem_of_getElem? (i := 684) (by decide +kernel), List.mem_of_getElem? (i := 932) (by decide +kernel), List.mem_of_getElem? (i := 933) (by decide +kernel)⟩
theorem lw_p25 : lw_okq (⟨"ParcelMapModel", "turnLeft", "()V"⟩, 43) := ⟨⟨by decide +kernel, by decide +kernel⟩, List.mem_of_getElem? (i := 684) (by decide +kernel), List.mem_of_getElem? (i := 936) (by decide +kernel), List.mem_of_getElem? (i := 937) (by decide +kernel)⟩
theorem lw_p26 : lw_okq (⟨"ParcelMapModel", "store", "(I)V"⟩, 43) := ⟨⟨by decide +kernel, by decide +kernel⟩, List.mem_of_getElem? (i := 684) (by decide +kernel), List.mem_of_getElem? (i := 940) (by decide +kernel), List.mem_of_getElem? (i := 941) (by decide +kernel)⟩
theorem lw_p27 : lw_okq (⟨"ParcelMapModel", "overOf", "(III)I"⟩, 43) := ⟨⟨by decide +kernel, by decide +kernel⟩, List.mem_of_getElem? (i := 684) (by decide +kernel), List.mem_of_getElem? (i := 944) (by decide +kernel), List.mem_of_getElem? (i := 945) (by decide +kernel)⟩
theorem lw_p28 : lw_okq (⟨"ParcelMapModel", "lieOver", "(II)Z"⟩, 43) := ⟨⟨by decide +kernel, by decide +kernel⟩, List.mem_of_getElem? (i := 684) (by decide +kernel), List.mem_of_getElem? (i := 948) (by decide +kernel), List.mem_of_getElem? (i := 949) (by decide +kernel)⟩
theorem lw_p29 : lw_okq (⟨"ParcelMapModel", "of", "(II)I"⟩, 43) := ⟨⟨by decide +kernel, by decide +kernel⟩, List.mem_of_getElem? (i := 684) (by decide +kernel), List.mem_of_getElem? (i := 952) (by decide +kernel), List.mem_of_getElem? (i := 953) (by decide +kernel)⟩
theorem lw_p30 : lw_okq (⟨"ParcelMapModel", "passes", "(III)V"⟩, 43) := ⟨⟨by decide +kernel, by decide +kernel⟩, List.mem_of_getElem? (i := 684) (by decide +kernel), List.mem_of_getElem? (i := 956) (by decide +kernel), List.mem_of_getElem? (i := 957) (by decide +kernel)⟩
theorem lw_p31 : lw_okq (⟨"ParcelMapModel", "isOn", "(III)Z"⟩, 43) := ⟨⟨by decide +kernel, by decide +kernel⟩, List.mem_of_getElem? (i := 684) (by decide +kernel), List.mem_of_getElem? (i := 960) (by decide +kernel), List.mem_of_getElem? (i := 961) (by decide +kernel)⟩
def lw_privs_2 : List (MethodName × Nat) := [(⟨"ParcelMapModel", "lay", "(IJJ)V"⟩, 43), (⟨"ParcelMapModel", "isCorner", "(I)Z"⟩, 43), (⟨"ParcelMapModel", "turn", "(III)I"⟩, 43), (⟨"ParcelMapModel", "times", "([JII[JII[JIJ)V"⟩, 43), (⟨"ParcelMapModel", "common", "(IIII)I"⟩, 43), (⟨"ParcelMapModel", "ahead", "(II)I"⟩, 43), (⟨"ParcelMapModel", "isBetween", "(III)Z"⟩, 43), (⟨"ParcelMapModel", "faultOf", "()I"⟩, 43), (⟨"ParcelMapModel", "fault", "(II)I"⟩, 43), (⟨"ParcelMapModel", "turnLeft", "()V"⟩, 43), (⟨"ParcelMapModel", "store", "(I)V"⟩, 43), (⟨"ParcelMapModel", "overOf", "(III)I"⟩, 43), (⟨"ParcelMapModel", "lieOver", "(II)Z"⟩, 43), (⟨"ParcelMapModel", "of", "(II)I"⟩, 43), (⟨"ParcelMapModel", "passes", "(III)V"⟩, 43), (⟨"ParcelMapModel", "isOn", "(III)Z"⟩, 43)]
theorem lw_r2 : ∀ q ∈ lw_privs_2, lw_okq q := List.forall_mem_cons.mpr ⟨lw_p16, List.forall_mem_cons.mpr ⟨lw_p17, List.forall_mem_cons.mpr ⟨lw_p18, List.forall_mem_cons.mpr ⟨lw_p19, List.forall_mem_cons.mpr ⟨lw_p20, List.forall_mem_cons.mpr ⟨lw_p21, List.forall_mem_cons.mpr ⟨lw_p22, List.forall_mem_cons.mpr ⟨lw_p23, List.forall_mem_cons.mpr ⟨lw_p24, List.forall_mem_cons.mpr ⟨lw_p25, List.forall_mem_cons.mpr ⟨lw_p26, List.forall_mem_cons.mpr ⟨lw_p27, List.forall_mem_cons.mpr ⟨lw_p28, List.forall_mem_cons.mpr ⟨lw_p29, List.forall_mem_cons.mpr ⟨lw_p30, List.forall_mem_cons.mpr ⟨lw_p31, fun _ h => absurd h List.not_mem_nil⟩⟩⟩⟩⟩⟩⟩⟩⟩⟩⟩⟩⟩⟩⟩⟩
theorem lw_p32 : lw_okq (⟨"ParcelMapModel", "middle", "(II)V"⟩, 43) := ⟨⟨by decide +kernel, by decide +kernel⟩, List.mem_of_getElem? (i := 684) (by decide +kernel), List.mem_of_getElem? (i := 964) (by decide +kernel), List.mem_of_getElem? (i := 965) (by decide +kernel)⟩
theorem lw_p33 : lw_okq (⟨"ParcelMapModel", "lies", "(II)I"⟩, 43) := ⟨⟨by decide +kernel, by decide +kernel⟩, List.mem_of_getElem? (i := 684) (by decide +kernel), List.mem_of_getElem? (i := 971) (by decide +kernel), List.mem_of_getElem? (i := 972) (by decide +kernel)⟩
theorem lw_p34 : lw_okq (⟨"ParcelMapModel", "keep", "()V"⟩, 43) := ⟨⟨by decide +kernel, by decide +kernel⟩, List.mem_of_getElem? (i := 684) (by decide +kernel), List.mem_of_getElem? (i := 975) (by decide +kernel), List.mem_of_getElem? (i := 976) (by decide +kernel)⟩
theorem lw_p35 : lw_okq (⟨"ParcelMapModel", "made", "(II)I"⟩, 43) := ⟨⟨by decide +kernel, by decide +kernel⟩, List.mem_of_getElem? (i := 684) (by decide +kernel), List.mem_of_getElem? (i := 979) (by decide +kernel), List.mem_of_getElem? (i := 980) (by decide +kernel)⟩
theorem lw_p36 : lw_okq (⟨"ParcelMapModel", "isParcel", "(I)Z"⟩, 43) := ⟨⟨by decide +kernel, by decide +kernel⟩, List.mem_of_getElem? (i := 684) (by decide +kernel), List.mem_of_getElem? (i := 991) (by decide +kernel), List.mem_of_getElem? (i := 992) (by decide +kernel)⟩
theorem lw_p37 : lw_okq (⟨"ParcelMapModel", "there", "(I)I"⟩, 43) := ⟨⟨by decide +kernel, by decide +kernel⟩, List.mem_of_getElem? (i := 684) (by decide +kernel), List.mem_of_getElem? (i := 1003) (by decide +kernel), List.mem_of_getElem? (i := 1004) (by decide +kernel)⟩
theorem lw_p38 : lw_okq (⟨"ParcelMapModel", "isInside", "(III)Z"⟩, 43) := ⟨⟨by decide +kernel, by decide +kernel⟩, List.mem_of_getElem? (i := 684) (by decide +kernel), List.mem_of_getElem? (i := 1011) (by decide +kernel), List.mem_of_getElem? (i := 1012) (by decide +kernel)⟩
theorem lw_p39 : lw_okq (⟨"ParcelMapModel", "reverse", "(III)I"⟩, 43) := ⟨⟨by decide +kernel, by decide +kernel⟩, List.mem_of_getElem? (i := 684) (by decide +kernel), List.mem_of_getElem? (i := 1019) (by decide +kernel), List.mem_of_getElem? (i := 1020) (by decide +kernel)⟩
theorem lw_p40 : lw_okq (⟨"ParcelMapModel", "load", "(I)V"⟩, 43) := ⟨⟨by decide +kernel, by decide +kernel⟩, List.mem_of_getElem? (i := 684) (by decide +kernel), List.mem_of_getElem? (i := 1027) (by decide +kernel), List.mem_of_getElem? (i := 1028) (by decide +kernel)⟩
theorem lw_p41 : lw_okq (⟨"ParcelMapModel", "borders", "(II)I"⟩, 43) := ⟨⟨by decide +kernel, by decide +kernel⟩, List.mem_of_getElem? (i := 684) (by decide +kernel), List.mem_of_getElem? (i := 1035) (by decide +kernel), List.mem_of_getElem? (i := 1036) (by decide +kernel)⟩
theorem lw_p42 : lw_okq (⟨"ParcelMapModel", "comes", "(II)V"⟩, 43) := ⟨⟨by decide +kernel, by decide +kernel⟩, List.mem_of_getElem? (i := 684) (by decide +kernel), List.mem_of_getElem? (i := 1059) (by decide +kernel), List.mem_of_getElem? (i := 1060) (by decide +kernel)⟩
theorem lw_p43 : lw_okq (⟨"ParcelMapModel", "weigh", "(I)V"⟩, 43) := ⟨⟨by decide +kernel, by decide +kernel⟩, List.mem_of_getElem? (i := 684) (by decide +kernel), List.mem_of_getElem? (i := 1071) (by decide +kernel), List.mem_of_getElem? (i := 1072) (by decide +kernel)⟩
theorem lw_p44 : lw_okq (⟨"ParcelMapModel", "shareOf", "(II)I"⟩, 43) := ⟨⟨by decide +kernel, by decide +kernel⟩, List.mem_of_getElem? (i := 684) (by decide +kernel), List.mem_of_getElem? (i := 1083) (by decide +kernel), List.mem_of_getElem? (i := 1084) (by decide +kernel)⟩
def lw_privs_3 : List (MethodName × Nat) := [(⟨"ParcelMapModel", "middle", "(II)V"⟩, 43), (⟨"ParcelMapModel", "lies", "(II)I"⟩, 43), (⟨"ParcelMapModel", "keep", "()V"⟩, 43), (⟨"ParcelMapModel", "made", "(II)I"⟩, 43), (⟨"ParcelMapModel", "isParcel", "(I)Z"⟩, 43), (⟨"ParcelMapModel", "there", "(I)I"⟩, 43), (⟨"ParcelMapModel", "isInside", "(III)Z"⟩, 43), (⟨"ParcelMapModel", "reverse", "(III)I"⟩, 43), (⟨"ParcelMapModel", "load", "(I)V"⟩, 43), (⟨"ParcelMapModel", "borders", "(II)I"⟩, 43), (⟨"ParcelMapModel", "comes", "(II)V"⟩, 43), (⟨"ParcelMapModel", "weigh", "(I)V"⟩, 43), (⟨"ParcelMapModel", "shareOf", "(II)I"⟩, 43)]
theorem lw_r3 : ∀ q ∈ lw_privs_3, lw_okq q := List.forall_mem_cons.mpr ⟨lw_p32, List.forall_mem_cons.mpr ⟨lw_p33, List.forall_mem_cons.mpr ⟨lw_p34, List.forall_mem_cons.mpr ⟨lw_p35, List.forall_mem_cons.mpr ⟨lw_p36, List.forall_mem_cons.mpr ⟨lw_p37, List.forall_mem_cons.mpr ⟨lw_p38, List.forall_mem_cons.mpr ⟨lw_p39, List.forall_mem_cons.mpr ⟨lw_p40, List.forall_mem_cons.mpr ⟨lw_p41, List.forall_mem_cons.mpr ⟨lw_p42, List.forall_mem_cons.mpr ⟨lw_p43, List.forall_mem_cons.mpr ⟨lw_p44, fun _ h => absurd h List.not_mem_nil⟩⟩⟩⟩⟩⟩⟩⟩⟩⟩⟩⟩⟩
def lw_privs : List (MethodName × Nat) := lw_privs_1 ++ (lw_privs_2 ++ (lw_privs_3))
def lw_tbl : List Cond := k2_sels lw_privs ++ tables_1
theorem lw_privs_ok : ∀ q ∈ lw_privs, lw_okq q := by
  show ∀ q ∈ lw_privs_1 ++ (lw_privs_2 ++ (lw_privs_3)), lw_okq q
  exact List.forall_mem_append.mpr ⟨lw_r1, List.forall_mem_append.mpr ⟨lw_r2, lw_r3⟩⟩
/-- the streams that the claim lets the run draw from -/
abbrev lw_cs : List Choice := [Jvm.Choice.named "NaN.bits", Jvm.Choice.named "NaN.copy"]
theorem lw_bits : nanBits ∈ lw_cs := by first | decide | exact List.mem_cons_self | simp [lw_cs, nanBits]
end
section
def RX0 : String := "ParcelMap$Hull"
def TX0 : u_T := fun k => match k with
  | 0 => ("ParcelMap$Hull", "sorted", "[I", true)
  | 1 => ("ParcelMap$Hull", "taken", "[Z", true)
  | 2 => ("ParcelMap$Hull", "chain", "[I", true)
  | 3 => ("ParcelMap$Hull", "many", "I", false)
  | _ => ("ParcelMap$Hull", "size", "I", false)
def tyX0 : Nat → FieldType := fun k => match k with
  | 0 => .array .int
  | 1 => .array .boolean
  | 2 => .array .int
  | 3 => .int
  | _ => .int
theorem nmX0 : ∀ a, a < 5 → ∀ b, b < 5 → a ≠ b → (TX0 a).2.1 ≠ (TX0 b).2.1 := by decide +kernel
theorem tyX0_ok : ∀ k, k < 5 → parseFieldDescriptor (TX0 k).2.2.1 = some (tyX0 k) := by decide +kernel
abbrev cX0_init : ByteArray := prog_2_method_1_code
def yX0_init : MethodName := ⟨RX0, "<init>", "()V"⟩
abbrev cX0_gather : ByteArray := prog_2_method_2_code
def yX0_gather : MethodName := ⟨RX0, "gather", "(LParcelMap$Register;I)V"⟩
abbrev cX0_take : ByteArray := prog_2_method_3_code
def yX0_take : MethodName := ⟨RX0, "take", "(LParcelMap$Ring;)V"⟩
abbrev cX0_sort : ByteArray := prog_2_method_4_code
def yX0_sort : MethodName := ⟨RX0, "sort", "(LParcelMap$Points;)V"⟩
abbrev cX0_wrap : ByteArray := prog_2_method_5_code
def yX0_wrap : MethodName := ⟨RX0, "wrap", "(LParcelMap$Points;)V"⟩
abbrev cX0_append : ByteArray := prog_2_method_6_code
def yX0_append : MethodName := ⟨RX0, "append", "(LParcelMap$Points;II)V"⟩
def RX1 : String := "ParcelMap$Parcel"
def TX1 : u_T := fun k => match k with
  | 0 => ("ParcelMap$Parcel", "ring", "LParcelMap$Ring;", true)
  | 1 => ("ParcelMap$Parcel", "there", "Z", false)
  | 2 => ("ParcelMap$Parcel", "layer", "I", false)
  | _ => ("ParcelMap$Parcel", "owner", "I", false)
def tyX1 : Nat → FieldType := fun k => match k with
  | 0 => .object "ParcelMap$Ring"
  | 1 => .boolean
  | 2 => .int
  | _ => .int
theorem nmX1 : ∀ a, a < 4 → ∀ b, b < 4 → a ≠ b → (TX1 a).2.1 ≠ (TX1 b).2.1 := by decide +kernel
theorem tyX1_ok : ∀ k, k < 4 → parseFieldDescriptor (TX1 k).2.2.1 = some (tyX1 k) := by decide +kernel
abbrev cX1_init : ByteArray := prog_3_method_1_code
def yX1_init : MethodName := ⟨RX1, "<init>", "()V"⟩
abbrev cX1_copy : ByteArray := prog_3_method_2_code
def yX1_copy : MethodName := ⟨RX1, "copy", "(LParcelMap$Parcel;)V"⟩
def RX2 : String := "ParcelMap$Points"
def TX2 : u_T := fun k => match k with
  | 0 => ("ParcelMap$Points", "bits", "[J", true)
  | 1 => ("ParcelMap$Points", "value", "[D", true)
  | 2 => ("ParcelMap$Points", "limb", "[J", true)
  | 3 => ("ParcelMap$Points", "total", "LParcelMap$Wide;", true)
  | _ => ("ParcelMap$Points", "made", "I", false)
def tyX2 : Nat → FieldType := fun k => match k with
  | 0 => .array .long
  | 1 => .array .double
  | 2 => .array .long
  | 3 => .object "ParcelMap$Wide"
  | _ => .int
theorem nmX2 : ∀ a, a < 5 → ∀ b, b < 5 → a ≠ b → (TX2 a).2.1 ≠ (TX2 b).2.1 := by decide +kernel
theorem tyX2_ok : ∀ k, k < 5 → parseFieldDescriptor (TX2 k).2.2.1 = some (tyX2 k) := by decide +kernel
abbrev cX2_init : ByteArray := prog_4_method_1_code
def yX2_init : MethodName := ⟨RX2, "<init>", "()V"⟩
abbrev cX2_has : ByteArray := prog_4_method_2_code
def yX2_has : MethodName := ⟨RX2, "has", "(I)Z"⟩
abbrev cX2_make : ByteArray := prog_4_method_3_code
def yX2_make : MethodName := ⟨RX2, "make", "(JJ)I"⟩
abbrev cX2_put : ByteArray := prog_4_method_4_code
def yX2_put : MethodName := ⟨RX2, "put", "(IJJ)V"⟩
abbrev cX2_putOne : ByteArray := prog_4_method_5_code
def yX2_putOne : MethodName := ⟨RX2, "putOne", "(IJ)V"⟩
abbrev cX2_limbOf : ByteArray := prog_4_method_6_code
def yX2_limbOf : MethodName := ⟨RX2, "limbOf", "(JI)J"⟩
abbrev cX2_sameAsLoose : ByteArray := prog_4_method_7_code
def yX2_sameAsLoose : MethodName := ⟨RX2, "sameAsLoose", "()I"⟩
abbrev cX2_x : ByteArray := prog_4_method_8_code
def yX2_x : MethodName := ⟨RX2, "x", "(I)D"⟩
abbrev cX2_y : ByteArray := prog_4_method_9_code
def yX2_y : MethodName := ⟨RX2, "y", "(I)D"⟩
abbrev cX2_isAhead : ByteArray := prog_4_method_10_code
def yX2_isAhead : MethodName := ⟨RX2, "isAhead", "(II)Z"⟩
abbrev cX2_isSure : ByteArray := prog_4_method_11_code
def yX2_isSure : MethodName := ⟨RX2, "isSure", "(III)Z"⟩
abbrev cX2_isSureOf : ByteArray := prog_4_method_12_code
def yX2_isSureOf : MethodName := ⟨RX2, "isSureOf", "(DD)Z"⟩
abbrev cX2_turn : ByteArray := prog_4_method_13_code
def yX2_turn : MethodName := ⟨RX2, "turn", "(III)I"⟩
abbrev cX2_exactTurn : ByteArray := prog_4_method_14_code
def yX2_exactTurn : MethodName := ⟨RX2, "exactTurn", "(III)I"⟩
abbrev cX2_meeting : ByteArray := prog_4_method_15_code
def yX2_meeting : MethodName := ⟨RX2, "meeting", "(IIII)I"⟩
abbrev cX2_spansMeet : ByteArray := prog_4_method_16_code
def yX2_spansMeet : MethodName := ⟨RX2, "spansMeet", "(DDDD)Z"⟩
abbrev cX2_meetingInLine : ByteArray := prog_4_method_17_code
def yX2_meetingInLine : MethodName := ⟨RX2, "meetingInLine", "(IIII)I"⟩
abbrev cX2_isOn : ByteArray := prog_4_method_18_code
def yX2_isOn : MethodName := ⟨RX2, "isOn", "(III)Z"⟩
abbrev cX2_nearestToLoose : ByteArray := prog_4_method_19_code
def yX2_nearestToLoose : MethodName := ⟨RX2, "nearestToLoose", "()I"⟩
abbrev cX2_isNearer : ByteArray := prog_4_method_20_code
def yX2_isNearer : MethodName := ⟨RX2, "isNearer", "(II)Z"⟩
abbrev cX2_measure : ByteArray := prog_4_method_21_code
def yX2_measure : MethodName := ⟨RX2, "measure", "(LParcelMap$Ring;LParcelMap$Wide;)V"⟩
def RX3 : String := "ParcelMap$Register"
def TX3 : u_T := fun k => match k with
  | 0 => ("ParcelMap$Register", "parcels", "[LParcelMap$Parcel;", true)
  | 1 => ("ParcelMap$Register", "firstKept", "LParcelMap$Parcel;", true)
  | 2 => ("ParcelMap$Register", "secondKept", "LParcelMap$Parcel;", true)
  | 3 => ("ParcelMap$Register", "first", "I", false)
  | 4 => ("ParcelMap$Register", "second", "I", false)
  | 5 => ("ParcelMap$Register", "kept", "Z", false)
  | _ => ("ParcelMap$Register", "made", "I", false)
def tyX3 : Nat → FieldType := fun k => match k with
  | 0 => .array (.object "ParcelMap$Parcel")
  | 1 => .object "ParcelMap$Parcel"
  | 2 => .object "ParcelMap$Parcel"
  | 3 => .int
  | 4 => .int
  | 5 => .boolean
  | _ => .int
theorem nmX3 : ∀ a, a < 7 → ∀ b, b < 7 → a ≠ b → (TX3 a).2.1 ≠ (TX3 b).2.1 := by decide +kernel
theorem tyX3_ok : ∀ k, k < 7 → parseFieldDescriptor (TX3 k).2.2.1 = some (tyX3 k) := by decide +kernel
abbrev cX3_init : ByteArray := prog_5_method_1_code
def yX3_init : MethodName := ⟨RX3, "<init>", "()V"⟩
abbrev cX3_has : ByteArray := prog_5_method_2_code
def yX3_has : MethodName := ⟨RX3, "has", "(I)Z"⟩
abbrev cX3_isOf : ByteArray := prog_5_method_3_code
def yX3_isOf : MethodName := ⟨RX3, "isOf", "(II)Z"⟩
abbrev cX3_hasRoom : ByteArray := prog_5_method_4_code
def yX3_hasRoom : MethodName := ⟨RX3, "hasRoom", "()Z"⟩
abbrev cX3_thereNow : ByteArray := prog_5_method_5_code
def yX3_thereNow : MethodName := ⟨RX3, "thereNow", "()I"⟩
abbrev cX3_thereIn : ByteArray := prog_5_method_6_code
def yX3_thereIn : MethodName := ⟨RX3, "thereIn", "(I)I"⟩
abbrev cX3_make : ByteArray := prog_5_method_7_code
def yX3_make : MethodName := ⟨RX3, "make", "(IILParcelMap$Ring;)V"⟩
abbrev cX3_keep : ByteArray := prog_5_method_8_code
def yX3_keep : MethodName := ⟨RX3, "keep", "(II)V"⟩
abbrev cX3_restore : ByteArray := prog_5_method_9_code
def yX3_restore : MethodName := ⟨RX3, "restore", "()V"⟩
abbrev cX3_isEntry : ByteArray := prog_5_method_10_code
def yX3_isEntry : MethodName := ⟨RX3, "isEntry", "(I)Z"⟩
def RX4 : String := "ParcelMap$Ring"
def TX4 : u_T := fun k => match k with
  | 0 => ("ParcelMap$Ring", "corner", "[I", true)
  | _ => ("ParcelMap$Ring", "size", "I", false)
def tyX4 : Nat → FieldType := fun k => match k with
  | 0 => .array .int
  | _ => .int
theorem nmX4 : ∀ a, a < 2 → ∀ b, b < 2 → a ≠ b → (TX4 a).2.1 ≠ (TX4 b).2.1 := by decide +kernel
theorem tyX4_ok : ∀ k, k < 2 → parseFieldDescriptor (TX4 k).2.2.1 = some (tyX4 k) := by decide +kernel
abbrev cX4_init : ByteArray := prog_6_method_1_code
def yX4_init : MethodName := ⟨RX4, "<init>", "()V"⟩
abbrev cX4_empty : ByteArray := prog_6_method_2_code
def yX4_empty : MethodName := ⟨RX4, "empty", "()V"⟩
abbrev cX4_push : ByteArray := prog_6_method_3_code
def yX4_push : MethodName := ⟨RX4, "push", "(I)V"⟩
abbrev cX4_copy : ByteArray := prog_6_method_4_code
def yX4_copy : MethodName := ⟨RX4, "copy", "(LParcelMap$Ring;)V"⟩
abbrev cX4_pushRun : ByteArray := prog_6_method_5_code
def yX4_pushRun : MethodName := ⟨RX4, "pushRun", "(LParcelMap$Ring;II)V"⟩
abbrev cX4_around : ByteArray := prog_6_method_6_code
def yX4_around : MethodName := ⟨RX4, "around", "(I)I"⟩
abbrev cX4_isShared : ByteArray := prog_6_method_7_code
def yX4_isShared : MethodName := ⟨RX4, "isShared", "(ILParcelMap$Ring;)Z"⟩
abbrev cX4_sharedWith : ByteArray := prog_6_method_8_code
def yX4_sharedWith : MethodName := ⟨RX4, "sharedWith", "(LParcelMap$Ring;)I"⟩
abbrev cX4_startOfShared : ByteArray := prog_6_method_9_code
def yX4_startOfShared : MethodName := ⟨RX4, "startOfShared", "(LParcelMap$Ring;)I"⟩
def RX5 : String := "ParcelMap$Shapes"
def TX5 : u_T := fun k => match k with
  | 0 => ("ParcelMap$Shapes", "points", "LParcelMap$Points;", true)
  | _ => ("ParcelMap$Shapes", "place", "I", false)
def tyX5 : Nat → FieldType := fun k => match k with
  | 0 => .object "ParcelMap$Points"
  | _ => .int
theorem nmX5 : ∀ a, a < 2 → ∀ b, b < 2 → a ≠ b → (TX5 a).2.1 ≠ (TX5 b).2.1 := by decide +kernel
theorem tyX5_ok : ∀ k, k < 2 → parseFieldDescriptor (TX5 k).2.2.1 = some (tyX5 k) := by decide +kernel
abbrev cX5_init : ByteArray := prog_7_method_1_code
def yX5_init : MethodName := ⟨RX5, "<init>", "(LParcelMap$Points;)V"⟩
abbrev cX5_faultOf : ByteArray := prog_7_method_2_code
def yX5_faultOf : MethodName := ⟨RX5, "faultOf", "(LParcelMap$Ring;)I"⟩
abbrev cX5_findsTwins : ByteArray := prog_7_method_3_code
def yX5_findsTwins : MethodName := ⟨RX5, "findsTwins", "(LParcelMap$Ring;)Z"⟩
abbrev cX5_findsCrossing : ByteArray := prog_7_method_4_code
def yX5_findsCrossing : MethodName := ⟨RX5, "findsCrossing", "(LParcelMap$Ring;)Z"⟩
abbrev cX5_common : ByteArray := prog_7_method_5_code
def yX5_common : MethodName := ⟨RX5, "common", "(LParcelMap$Ring;ILParcelMap$Ring;I)I"⟩
abbrev cX5_settle : ByteArray := prog_7_method_6_code
def yX5_settle : MethodName := ⟨RX5, "settle", "(LParcelMap$Ring;LParcelMap$Ring;)V"⟩
abbrev cX5_placeOf : ByteArray := prog_7_method_7_code
def yX5_placeOf : MethodName := ⟨RX5, "placeOf", "(ILParcelMap$Ring;)I"⟩
abbrev cX5_opensTo : ByteArray := prog_7_method_8_code
def yX5_opensTo : MethodName := ⟨RX5, "opensTo", "(LParcelMap$Ring;II)Z"⟩
abbrev cX5_startsInto : ByteArray := prog_7_method_9_code
def yX5_startsInto : MethodName := ⟨RX5, "startsInto", "(LParcelMap$Ring;III)Z"⟩
abbrev cX5_cutsInto : ByteArray := prog_7_method_10_code
def yX5_cutsInto : MethodName := ⟨RX5, "cutsInto", "(IILParcelMap$Ring;)Z"⟩
abbrev cX5_goesThrough : ByteArray := prog_7_method_11_code
def yX5_goesThrough : MethodName := ⟨RX5, "goesThrough", "(IILParcelMap$Ring;)Z"⟩
abbrev cX5_reachesInto : ByteArray := prog_7_method_12_code
def yX5_reachesInto : MethodName := ⟨RX5, "reachesInto", "(LParcelMap$Ring;LParcelMap$Ring;)Z"⟩
abbrev cX5_haveLikeLand : ByteArray := prog_7_method_13_code
def yX5_haveLikeLand : MethodName := ⟨RX5, "haveLikeLand", "(LParcelMap$Ring;LParcelMap$Ring;)Z"⟩
abbrev cX5_stretches : ByteArray := prog_7_method_14_code
def yX5_stretches : MethodName := ⟨RX5, "stretches", "(LParcelMap$Ring;LParcelMap$Ring;)I"⟩
abbrev cX5_framesMeet : ByteArray := prog_7_method_15_code
def yX5_framesMeet : MethodName := ⟨RX5, "framesMeet", "(LParcelMap$Ring;LParcelMap$Ring;)Z"⟩
abbrev cX5_farthest : ByteArray := prog_7_method_16_code
def yX5_farthest : MethodName := ⟨RX5, "farthest", "(LParcelMap$Ring;II)D"⟩
abbrev cX5_isCut : ByteArray := prog_7_method_17_code
def yX5_isCut : MethodName := ⟨RX5, "isCut", "(LParcelMap$Ring;II)Z"⟩
def RX6 : String := "ParcelMap$Shares"
def TX6 : u_T := fun k => match k with
  | 0 => ("ParcelMap$Shares", "rest", "[LParcelMap$Wide;", true)
  | 1 => ("ParcelMap$Shares", "whole", "LParcelMap$Wide;", true)
  | 2 => ("ParcelMap$Shares", "mine", "LParcelMap$Wide;", true)
  | _ => ("ParcelMap$Shares", "yours", "LParcelMap$Wide;", true)
def tyX6 : Nat → FieldType := fun k => match k with
  | 0 => .array (.object "ParcelMap$Wide")
  | 1 => .object "ParcelMap$Wide"
  | 2 => .object "ParcelMap$Wide"
  | _ => .object "ParcelMap$Wide"
theorem nmX6 : ∀ a, a < 4 → ∀ b, b < 4 → a ≠ b → (TX6 a).2.1 ≠ (TX6 b).2.1 := by decide +kernel
theorem tyX6_ok : ∀ k, k < 4 → parseFieldDescriptor (TX6 k).2.2.1 = some (tyX6 k) := by decide +kernel
abbrev cX6_init : ByteArray := prog_8_method_1_code
def yX6_init : MethodName := ⟨RX6, "<init>", "()V"⟩
abbrev cX6_weigh : ByteArray := prog_8_method_2_code
def yX6_weigh : MethodName := ⟨RX6, "weigh", "(LParcelMap$Register;LParcelMap$Points;I)V"⟩
abbrev cX6_shareOf : ByteArray := prog_8_method_3_code
def yX6_shareOf : MethodName := ⟨RX6, "shareOf", "(LParcelMap$Register;III)I"⟩
abbrev cX6_cutShare : ByteArray := prog_8_method_4_code
def yX6_cutShare : MethodName := ⟨RX6, "cutShare", "(LParcelMap$Wide;I)I"⟩
def RX7 : String := "ParcelMap$Wide"
def TX7 : u_T := fun k => match k with
  | _ => ("ParcelMap$Wide", "column", "[J", true)
def tyX7 : Nat → FieldType := fun k => match k with
  | _ => .array .long
theorem nmX7 : ∀ a, a < 1 → ∀ b, b < 1 → a ≠ b → (TX7 a).2.1 ≠ (TX7 b).2.1 := by decide +kernel
theorem tyX7_ok : ∀ k, k < 1 → parseFieldDescriptor (TX7 k).2.2.1 = some (tyX7 k) := by decide +kernel
abbrev cX7_init : ByteArray := prog_9_method_1_code
def yX7_init : MethodName := ⟨RX7, "<init>", "()V"⟩
abbrev cX7_clear : ByteArray := prog_9_method_2_code
def yX7_clear : MethodName := ⟨RX7, "clear", "()V"⟩
abbrev cX7_copy : ByteArray := prog_9_method_3_code
def yX7_copy : MethodName := ⟨RX7, "copy", "(LParcelMap$Wide;)V"⟩
abbrev cX7_plus : ByteArray := prog_9_method_4_code
def yX7_plus : MethodName := ⟨RX7, "plus", "(LParcelMap$Wide;J)V"⟩
abbrev cX7_carry : ByteArray := prog_9_method_5_code
def yX7_carry : MethodName := ⟨RX7, "carry", "()V"⟩
abbrev cX7_sign : ByteArray := prog_9_method_6_code
def yX7_sign : MethodName := ⟨RX7, "sign", "()I"⟩
abbrev cX7_against : ByteArray := prog_9_method_7_code
def yX7_against : MethodName := ⟨RX7, "against", "(LParcelMap$Wide;)I"⟩
abbrev cX7_wholePart : ByteArray := prog_9_method_8_code
def yX7_wholePart : MethodName := ⟨RX7, "wholePart", "()J"⟩
def RX8 : String := "ParcelMap"
def TX8 : u_T := fun k => match k with
  | 0 => ("ParcelMap", "points", "LParcelMap$Points;", true)
  | 1 => ("ParcelMap", "shapes", "LParcelMap$Shapes;", true)
  | 2 => ("ParcelMap", "register", "LParcelMap$Register;", true)
  | 3 => ("ParcelMap", "shares", "LParcelMap$Shares;", true)
  | 4 => ("ParcelMap", "outline", "LParcelMap$Hull;", true)
  | 5 => ("ParcelMap", "drawn", "LParcelMap$Ring;", true)
  | 6 => ("ParcelMap", "tried", "LParcelMap$Ring;", true)
  | 7 => ("ParcelMap", "settled", "LParcelMap$Ring;", true)
  | 8 => ("ParcelMap", "where", "I", false)
  | 9 => ("ParcelMap", "sureness", "I", false)
  | _ => ("ParcelMap", "foundEdge", "I", false)
def tyX8 : Nat → FieldType := fun k => match k with
  | 0 => .object "ParcelMap$Points"
  | 1 => .object "ParcelMap$Shapes"
  | 2 => .object "ParcelMap$Register"
  | 3 => .object "ParcelMap$Shares"
  | 4 => .object "ParcelMap$Hull"
  | 5 => .object "ParcelMap$Ring"
  | 6 => .object "ParcelMap$Ring"
  | 7 => .object "ParcelMap$Ring"
  | 8 => .int
  | 9 => .int
  | _ => .int
theorem nmX8 : ∀ a, a < 11 → ∀ b, b < 11 → a ≠ b → (TX8 a).2.1 ≠ (TX8 b).2.1 := by decide +kernel
theorem tyX8_ok : ∀ k, k < 11 → parseFieldDescriptor (TX8 k).2.2.1 = some (tyX8 k) := by decide +kernel
abbrev cX8_init : ByteArray := prog_1_method_1_code
def yX8_init : MethodName := ⟨RX8, "<init>", "()V"⟩
abbrev cX8_corner : ByteArray := prog_1_method_2_code
def yX8_corner : MethodName := ⟨RX8, "corner", "(JJ)I"⟩
abbrev cX8_at : ByteArray := prog_1_method_3_code
def yX8_at : MethodName := ⟨RX8, "at", "(II)J"⟩
abbrev cX8_side : ByteArray := prog_1_method_4_code
def yX8_side : MethodName := ⟨RX8, "side", "(III)I"⟩
abbrev cX8_sure : ByteArray := prog_1_method_5_code
def yX8_sure : MethodName := ⟨RX8, "sure", "()I"⟩
abbrev cX8_cross : ByteArray := prog_1_method_6_code
def yX8_cross : MethodName := ⟨RX8, "cross", "(IIII)I"⟩
abbrev cX8_nearest : ByteArray := prog_1_method_7_code
def yX8_nearest : MethodName := ⟨RX8, "nearest", "(JJ)I"⟩
abbrev cX8_draw : ByteArray := prog_1_method_8_code
def yX8_draw : MethodName := ⟨RX8, "draw", "()I"⟩
abbrev cX8_add : ByteArray := prog_1_method_9_code
def yX8_add : MethodName := ⟨RX8, "add", "(I)I"⟩
abbrev cX8_close : ByteArray := prog_1_method_10_code
def yX8_close : MethodName := ⟨RX8, "close", "(II)I"⟩
abbrev cX8_where : ByteArray := prog_1_method_11_code
def yX8_where : MethodName := ⟨RX8, "where", "()I"⟩
abbrev cX8_told : ByteArray := prog_1_method_12_code
def yX8_told : MethodName := ⟨RX8, "told", "(II)I"⟩
abbrev cX8_give : ByteArray := prog_1_method_13_code
def yX8_give : MethodName := ⟨RX8, "give", "(II)I"⟩
abbrev cX8_drop : ByteArray := prog_1_method_14_code
def yX8_drop : MethodName := ⟨RX8, "drop", "(I)I"⟩
abbrev cX8_split : ByteArray := prog_1_method_15_code
def yX8_split : MethodName := ⟨RX8, "split", "(IIII)I"⟩
abbrev cX8_join : ByteArray := prog_1_method_16_code
def yX8_join : MethodName := ⟨RX8, "join", "(II)I"⟩
abbrev cX8_move : ByteArray := prog_1_method_17_code
def yX8_move : MethodName := ⟨RX8, "move", "(III)I"⟩
abbrev cX8_border : ByteArray := prog_1_method_18_code
def yX8_border : MethodName := ⟨RX8, "border", "(II)I"⟩
abbrev cX8_neighbour : ByteArray := prog_1_method_19_code
def yX8_neighbour : MethodName := ⟨RX8, "neighbour", "(II)I"⟩
abbrev cX8_locate : ByteArray := prog_1_method_20_code
def yX8_locate : MethodName := ⟨RX8, "locate", "(IJJ)I"⟩
abbrev cX8_edge : ByteArray := prog_1_method_21_code
def yX8_edge : MethodName := ⟨RX8, "edge", "()I"⟩
abbrev cX8_walk : ByteArray := prog_1_method_22_code
def yX8_walk : MethodName := ⟨RX8, "walk", "(IIII)I"⟩
abbrev cX8_hull : ByteArray := prog_1_method_23_code
def yX8_hull : MethodName := ⟨RX8, "hull", "(I)I"⟩
abbrev cX8_hullAt : ByteArray := prog_1_method_24_code
def yX8_hullAt : MethodName := ⟨RX8, "hullAt", "(I)I"⟩
abbrev cX8_twice : ByteArray := prog_1_method_25_code
def yX8_twice : MethodName := ⟨RX8, "twice", "(I)J"⟩
abbrev cX8_compare : ByteArray := prog_1_method_26_code
def yX8_compare : MethodName := ⟨RX8, "compare", "(II)I"⟩
abbrev cX8_quota : ByteArray := prog_1_method_27_code
def yX8_quota : MethodName := ⟨RX8, "quota", "(II)I"⟩
abbrev cX8_undo : ByteArray := prog_1_method_28_code
def yX8_undo : MethodName := ⟨RX8, "undo", "()I"⟩
abbrev cX8_count : ByteArray := prog_1_method_29_code
def yX8_count : MethodName := ⟨RX8, "count", "(I)I"⟩
abbrev cX8_digest : ByteArray := prog_1_method_30_code
def yX8_digest : MethodName := ⟨RX8, "digest", "()J"⟩
abbrev cX8_isNumber : ByteArray := prog_1_method_31_code
def yX8_isNumber : MethodName := ⟨RX8, "isNumber", "(J)Z"⟩
abbrev cX8_isLayer : ByteArray := prog_1_method_32_code
def yX8_isLayer : MethodName := ⟨RX8, "isLayer", "(I)Z"⟩
abbrev cX8_faultIn : ByteArray := prog_1_method_33_code
def yX8_faultIn : MethodName := ⟨RX8, "faultIn", "(LParcelMap$Ring;II)I"⟩
def RX9 : String := "ParcelMapModel"
def TX9 : u_T := fun k => match k with
  | 0 => ("ParcelMapModel", "bitsX", "[J", true)
  | 1 => ("ParcelMapModel", "bitsY", "[J", true)
  | 2 => ("ParcelMapModel", "limbX", "[J", true)
  | 3 => ("ParcelMapModel", "limbY", "[J", true)
  | 4 => ("ParcelMapModel", "corners", "I", false)
  | 5 => ("ParcelMapModel", "one", "[J", true)
  | 6 => ("ParcelMapModel", "two", "[J", true)
  | 7 => ("ParcelMapModel", "sum", "[J", true)
  | 8 => ("ParcelMapModel", "sure", "I", false)
  | 9 => ("ParcelMapModel", "best", "[J", true)
  | 10 => ("ParcelMapModel", "drawn", "[I", true)
  | 11 => ("ParcelMapModel", "draws", "I", false)
  | 12 => ("ParcelMapModel", "where", "I", false)
  | 13 => ("ParcelMapModel", "ring", "[I", true)
  | 14 => ("ParcelMapModel", "rings", "I", false)
  | 15 => ("ParcelMapModel", "held", "[I", true)
  | 16 => ("ParcelMapModel", "parcels", "I", false)
  | 17 => ("ParcelMapModel", "isThere", "[Z", true)
  | 18 => ("ParcelMapModel", "layerOf", "[I", true)
  | 19 => ("ParcelMapModel", "ownerOf", "[I", true)
  | 20 => ("ParcelMapModel", "sizeOf", "[I", true)
  | 21 => ("ParcelMapModel", "rowOf", "[I", true)
  | 22 => ("ParcelMapModel", "canUndo", "Z", false)
  | 23 => ("ParcelMapModel", "wereParcels", "I", false)
  | 24 => ("ParcelMapModel", "wasThere", "[Z", true)
  | 25 => ("ParcelMapModel", "wasLayer", "[I", true)
  | 26 => ("ParcelMapModel", "wasOwner", "[I", true)
  | 27 => ("ParcelMapModel", "wasSize", "[I", true)
  | 28 => ("ParcelMapModel", "wasRow", "[I", true)
  | 29 => ("ParcelMapModel", "goesIn", "Z", false)
  | 30 => ("ParcelMapModel", "isOff", "Z", false)
  | 31 => ("ParcelMapModel", "stops", "[I", true)
  | 32 => ("ParcelMapModel", "onEdge", "I", false)
  | 33 => ("ParcelMapModel", "before", "[I", true)
  | 34 => ("ParcelMapModel", "edge", "I", false)
  | 35 => ("ParcelMapModel", "hulled", "I", false)
  | 36 => ("ParcelMapModel", "hullRow", "[I", true)
  | 37 => ("ParcelMapModel", "sorted", "[I", true)
  | 38 => ("ParcelMapModel", "isIn", "[Z", true)
  | 39 => ("ParcelMapModel", "area", "[J", true)
  | 40 => ("ParcelMapModel", "all", "[J", true)
  | 41 => ("ParcelMapModel", "left", "[J", true)
  | _ => ("ParcelMapModel", "rest", "[J", true)
def tyX9 : Nat → FieldType := fun k => match k with
  | 0 => .array .long
  | 1 => .array .long
  | 2 => .array .long
  | 3 => .array .long
  | 4 => .int
  | 5 => .array .long
  | 6 => .array .long
  | 7 => .array .long
  | 8 => .int
  | 9 => .array .long
  | 10 => .array .int
  | 11 => .int
  | 12 => .int
  | 13 => .array .int
  | 14 => .int
  | 15 => .array .int
  | 16 => .int
  | 17 => .array .boolean
  | 18 => .array .int
  | 19 => .array .int
  | 20 => .array .int
  | 21 => .array .int
  | 22 => .boolean
  | 23 => .int
  | 24 => .array .boolean
  | 25 => .array .int
  | 26 => .array .int
  | 27 => .array .int
  | 28 => .array .int
  | 29 => .boolean
  | 30 => .boolean
  | 31 => .array .int
  | 32 => .int
  | 33 => .array .int
  | 34 => .int
  | 35 => .int
  | 36 => .array .int
  | 37 => .array .int
  | 38 => .array .boolean
  | 39 => .array .long
  | 40 => .array .long
  | 41 => .array .long
  | _ => .array .long
theorem nmX9 : ∀ a, a < 43 → ∀ b, b < 43 → a ≠ b → (TX9 a).2.1 ≠ (TX9 b).2.1 := by decide +kernel
theorem tyX9_ok : ∀ k, k < 43 → parseFieldDescriptor (TX9 k).2.2.1 = some (tyX9 k) := by decide +kernel
abbrev cX9_init : ByteArray := prog_11_method_1_code
def yX9_init : MethodName := ⟨RX9, "<init>", "()V"⟩
abbrev cX9_in : ByteArray := prog_11_method_2_code
def yX9_in : MethodName := ⟨RX9, "in", "(III)Z"⟩
abbrev cX9_carry : ByteArray := prog_11_method_3_code
def yX9_carry : MethodName := ⟨RX9, "carry", "([JII)V"⟩
abbrev cX9_signOf : ByteArray := prog_11_method_4_code
def yX9_signOf : MethodName := ⟨RX9, "signOf", "([JII)I"⟩
abbrev cX9_isNumber : ByteArray := prog_11_method_5_code
def yX9_isNumber : MethodName := ⟨RX9, "isNumber", "(J)Z"⟩
abbrev cX9_plain : ByteArray := prog_11_method_6_code
def yX9_plain : MethodName := ⟨RX9, "plain", "(J)J"⟩
abbrev cX9_whole : ByteArray := prog_11_method_7_code
def yX9_whole : MethodName := ⟨RX9, "whole", "(J[JI)V"⟩
abbrev cX9_lay : ByteArray := prog_11_method_8_code
def yX9_lay : MethodName := ⟨RX9, "lay", "(IJJ)V"⟩
abbrev cX9_middle : ByteArray := prog_11_method_9_code
def yX9_middle : MethodName := ⟨RX9, "middle", "(II)V"⟩
abbrev cX9_halve : ByteArray := prog_11_method_10_code
def yX9_halve : MethodName := ⟨RX9, "halve", "([J)V"⟩
abbrev cX9_times : ByteArray := prog_11_method_11_code
def yX9_times : MethodName := ⟨RX9, "times", "([JII[JII[JIJ)V"⟩
abbrev cX9_clear : ByteArray := prog_11_method_12_code
def yX9_clear : MethodName := ⟨RX9, "clear", "([JII)V"⟩
abbrev cX9_turn : ByteArray := prog_11_method_13_code
def yX9_turn : MethodName := ⟨RX9, "turn", "(III)I"⟩
abbrev cX9_order : ByteArray := prog_11_method_14_code
def yX9_order : MethodName := ⟨RX9, "order", "([JII)I"⟩
abbrev cX9_ahead : ByteArray := prog_11_method_15_code
def yX9_ahead : MethodName := ⟨RX9, "ahead", "(II)I"⟩
abbrev cX9_isBetween : ByteArray := prog_11_method_16_code
def yX9_isBetween : MethodName := ⟨RX9, "isBetween", "(III)Z"⟩
abbrev cX9_isOn : ByteArray := prog_11_method_17_code
def yX9_isOn : MethodName := ⟨RX9, "isOn", "(III)Z"⟩
abbrev cX9_isCorner : ByteArray := prog_11_method_18_code
def yX9_isCorner : MethodName := ⟨RX9, "isCorner", "(I)Z"⟩
abbrev cX9_corner : ByteArray := prog_11_method_19_code
def yX9_corner : MethodName := ⟨RX9, "corner", "(JJ)I"⟩
abbrev cX9_at : ByteArray := prog_11_method_20_code
def yX9_at : MethodName := ⟨RX9, "at", "(II)J"⟩
abbrev cX9_size : ByteArray := prog_11_method_21_code
def yX9_size : MethodName := ⟨RX9, "size", "(D)D"⟩
abbrev cX9_side : ByteArray := prog_11_method_22_code
def yX9_side : MethodName := ⟨RX9, "side", "(III)I"⟩
abbrev cX9_sure : ByteArray := prog_11_method_23_code
def yX9_sure : MethodName := ⟨RX9, "sure", "()I"⟩
abbrev cX9_common : ByteArray := prog_11_method_24_code
def yX9_common : MethodName := ⟨RX9, "common", "(IIII)I"⟩
abbrev cX9_cross : ByteArray := prog_11_method_25_code
def yX9_cross : MethodName := ⟨RX9, "cross", "(IIII)I"⟩
abbrev cX9_nearest : ByteArray := prog_11_method_26_code
def yX9_nearest : MethodName := ⟨RX9, "nearest", "(JJ)I"⟩
abbrev cX9_less : ByteArray := prog_11_method_27_code
def yX9_less : MethodName := ⟨RX9, "less", "([JI[JI)Z"⟩
abbrev cX9_draw : ByteArray := prog_11_method_28_code
def yX9_draw : MethodName := ⟨RX9, "draw", "()I"⟩
abbrev cX9_add : ByteArray := prog_11_method_29_code
def yX9_add : MethodName := ⟨RX9, "add", "(I)I"⟩
abbrev cX9_fault : ByteArray := prog_11_method_30_code
def yX9_fault : MethodName := ⟨RX9, "fault", "(II)I"⟩
abbrev cX9_faultOf : ByteArray := prog_11_method_31_code
def yX9_faultOf : MethodName := ⟨RX9, "faultOf", "()I"⟩
abbrev cX9_turnLeft : ByteArray := prog_11_method_32_code
def yX9_turnLeft : MethodName := ⟨RX9, "turnLeft", "()V"⟩
abbrev cX9_isParcel : ByteArray := prog_11_method_33_code
def yX9_isParcel : MethodName := ⟨RX9, "isParcel", "(I)Z"⟩
abbrev cX9_keep : ByteArray := prog_11_method_34_code
def yX9_keep : MethodName := ⟨RX9, "keep", "()V"⟩
abbrev cX9_store : ByteArray := prog_11_method_35_code
def yX9_store : MethodName := ⟨RX9, "store", "(I)V"⟩
abbrev cX9_load : ByteArray := prog_11_method_36_code
def yX9_load : MethodName := ⟨RX9, "load", "(I)V"⟩
abbrev cX9_of : ByteArray := prog_11_method_37_code
def yX9_of : MethodName := ⟨RX9, "of", "(II)I"⟩
abbrev cX9_made : ByteArray := prog_11_method_38_code
def yX9_made : MethodName := ⟨RX9, "made", "(II)I"⟩
abbrev cX9_lies : ByteArray := prog_11_method_39_code
def yX9_lies : MethodName := ⟨RX9, "lies", "(II)I"⟩
abbrev cX9_passes : ByteArray := prog_11_method_40_code
def yX9_passes : MethodName := ⟨RX9, "passes", "(III)V"⟩
abbrev cX9_lieOver : ByteArray := prog_11_method_41_code
def yX9_lieOver : MethodName := ⟨RX9, "lieOver", "(II)Z"⟩
abbrev cX9_overOf : ByteArray := prog_11_method_42_code
def yX9_overOf : MethodName := ⟨RX9, "overOf", "(III)I"⟩
abbrev cX9_close : ByteArray := prog_11_method_43_code
def yX9_close : MethodName := ⟨RX9, "close", "(II)I"⟩
abbrev cX9_where : ByteArray := prog_11_method_44_code
def yX9_where : MethodName := ⟨RX9, "where", "()I"⟩
abbrev cX9_told : ByteArray := prog_11_method_45_code
def yX9_told : MethodName := ⟨RX9, "told", "(II)I"⟩
abbrev cX9_give : ByteArray := prog_11_method_46_code
def yX9_give : MethodName := ⟨RX9, "give", "(II)I"⟩
abbrev cX9_there : ByteArray := prog_11_method_47_code
def yX9_there : MethodName := ⟨RX9, "there", "(I)I"⟩
abbrev cX9_drop : ByteArray := prog_11_method_48_code
def yX9_drop : MethodName := ⟨RX9, "drop", "(I)I"⟩
abbrev cX9_isInside : ByteArray := prog_11_method_49_code
def yX9_isInside : MethodName := ⟨RX9, "isInside", "(III)Z"⟩
abbrev cX9_split : ByteArray := prog_11_method_50_code
def yX9_split : MethodName := ⟨RX9, "split", "(IIII)I"⟩
abbrev cX9_reverse : ByteArray := prog_11_method_51_code
def yX9_reverse : MethodName := ⟨RX9, "reverse", "(III)I"⟩
abbrev cX9_join : ByteArray := prog_11_method_52_code
def yX9_join : MethodName := ⟨RX9, "join", "(II)I"⟩
abbrev cX9_move : ByteArray := prog_11_method_53_code
def yX9_move : MethodName := ⟨RX9, "move", "(III)I"⟩
abbrev cX9_borders : ByteArray := prog_11_method_54_code
def yX9_borders : MethodName := ⟨RX9, "borders", "(II)I"⟩
abbrev cX9_border : ByteArray := prog_11_method_55_code
def yX9_border : MethodName := ⟨RX9, "border", "(II)I"⟩
abbrev cX9_neighbour : ByteArray := prog_11_method_56_code
def yX9_neighbour : MethodName := ⟨RX9, "neighbour", "(II)I"⟩
abbrev cX9_locate : ByteArray := prog_11_method_57_code
def yX9_locate : MethodName := ⟨RX9, "locate", "(IJJ)I"⟩
abbrev cX9_edge : ByteArray := prog_11_method_58_code
def yX9_edge : MethodName := ⟨RX9, "edge", "()I"⟩
abbrev cX9_walk : ByteArray := prog_11_method_59_code
def yX9_walk : MethodName := ⟨RX9, "walk", "(IIII)I"⟩
abbrev cX9_hull : ByteArray := prog_11_method_60_code
def yX9_hull : MethodName := ⟨RX9, "hull", "(I)I"⟩
abbrev cX9_comes : ByteArray := prog_11_method_61_code
def yX9_comes : MethodName := ⟨RX9, "comes", "(II)V"⟩
abbrev cX9_hullAt : ByteArray := prog_11_method_62_code
def yX9_hullAt : MethodName := ⟨RX9, "hullAt", "(I)I"⟩
abbrev cX9_weigh : ByteArray := prog_11_method_63_code
def yX9_weigh : MethodName := ⟨RX9, "weigh", "(I)V"⟩
abbrev cX9_twice : ByteArray := prog_11_method_64_code
def yX9_twice : MethodName := ⟨RX9, "twice", "(I)J"⟩
abbrev cX9_compare : ByteArray := prog_11_method_65_code
def yX9_compare : MethodName := ⟨RX9, "compare", "(II)I"⟩
abbrev cX9_quota : ByteArray := prog_11_method_66_code
def yX9_quota : MethodName := ⟨RX9, "quota", "(II)I"⟩
abbrev cX9_shareOf : ByteArray := prog_11_method_67_code
def yX9_shareOf : MethodName := ⟨RX9, "shareOf", "(II)I"⟩
abbrev cX9_undo : ByteArray := prog_11_method_68_code
def yX9_undo : MethodName := ⟨RX9, "undo", "()I"⟩
abbrev cX9_count : ByteArray := prog_11_method_69_code
def yX9_count : MethodName := ⟨RX9, "count", "(I)I"⟩
abbrev cX9_digest : ByteArray := prog_11_method_70_code
def yX9_digest : MethodName := ⟨RX9, "digest", "()J"⟩
def RL : String := "ParcelMapLaw"
abbrev cL_law : ByteArray := code
def yL_law : MethodName := ⟨RL, "law", "([I)Z"⟩
abbrev vwCl : List vw_C := [(RX0, TX0, 5), (RX1, TX1, 4), (RX2, TX2, 5), (RX3, TX3, 7), (RX4, TX4, 2), (RX5, TX5, 2), (RX6, TX6, 4), (RX7, TX7, 1), (RX8, TX8, 11), (RX9, TX9, 43)]
end
section
/-! ===== worlds by places: a method's judgement XP with its surroundings hidden ===== -/
/-- a method: its name, its code, its locals, its answer's type, how deep its calls go -/
abbrev xM : Type := MethodName × ByteArray × Nat × Option FieldType × Nat
/-- a world: what stands at each place (references are places, an array's kind a number) -/
abbrev xW : Type := Nat → va_E
def xTs : List Cond := lw_tbl.filter goodWord
def xWs (M : xM) : List Cond := .code M.1 M.2.1 M.2.2.1 M.2.2.2.1 :: xTs
def xRm (d : Nat) : Room := { frames := d, cells := 0, slots := 0, locals := 45 * d }
abbrev xN : Nat := 365
def xv (ad : Nat → Nat) : Value → Value
  | .ref k => .ref (ad k)
  | v => v
def xA (ad : Nat → Nat) (a : vp_A) : vp_A := (a.1, match a.2 with
  | .inr (.inr (.inr (.inr f))) => .inr (.inr (.inr (.inr (fun j => (f j).map ad))))
  | x => x)
def xE (tc ad : Nat → Nat) : va_E → va_E
  | .inl q => .inl (tc q.1, xA ad q.2)
  | .inr q => .inr (q.1, q.2.map (xv ad))
def xws (tc ad : Nat → Nat) (w : xW) : va_W := (List.range xN).map (fun k => (ad k, xE tc ad (w k)))
def xup (w : xW) (k : Nat) (e : va_E) : xW := fun j => if j = k then e else w j
def xD (ad : Nat → Nat) (A : Nat → Prop) : Prop := (∀ i j, i < xN → j < xN → ad i = ad j → i = j) ∧ ∀ k, k < xN → A (ad k)
abbrev xtys (tc : Nat → Nat) : List (ClassId × FieldType) := [(tc 0, .int), (tc 1, .long), (tc 2, .double), (tc 3, .boolean), (tc 4, .object "ParcelMap$Parcel"), (tc 5, .object "ParcelMap$Wide")]
def xlv (ad : Nat → Nat) (lv : List (Nat × Value)) : List (Nat × Value) := lv.map (fun q => (q.1, xv ad q.2))
def xget (lv : List (Nat × Value)) (i : Nat) : Option Value := match lv with
  | [] => none
  | q :: t => if q.1 = i then some q.2 else xget t i
def xs1 (lv : List (Nat × Value)) (i : Nat) (v : Value) : List (Nat × Value) := (i, v) :: lv.filter (fun q => !(q.1 == i) && !(q.1 + 1 == i && q.2.category == 2))
def xs2 (lv : List (Nat × Value)) (i : Nat) (v : Value) : List (Nat × Value) := (i, v) :: lv.filter (fun q => !(q.1 == i) && (!(q.1 == i + 1) && !(q.1 + 1 == i && q.2.category == 2)))
/-- links of fields of a nest mate, out of the tables -/
def xNb : Cond → Bool
  | .fieldLinkNest .. => true
  | _ => false
def xNs : List Cond := lw_tbl.filter xNb
def xNw (U : State) : Prop := ∀ q ∈ xNs, va_Nw q U
def xC (M : xM) (p : Program) (R : Room) (s : State) (m : MethodId) (args : Array Value) (c : Code) (D : va_G) (tc : Nat → Nat) : Prop :=
  p.tables.exec = Jvm.exec ∧ c.code = M.2.1 ∧ c.maxLocals = M.2.2.1 ∧ s.vm.findClass M.1.cls = some m.cls ∧ (∀ w ∈ xTs, w.before args s = true) ∧ xNw s ∧ va_K D vwCl (xtys tc) s ∧ M.2.2.2.2 ≤ R.frames ∧ 45 * M.2.2.2.2 ≤ R.locals
def xRet (M : xM) (r : Option Value) (pc : Nat) : Prop := match r with
  | none => M.2.2.2.1 = none ∧ decode M.2.1 pc = .ok (.return_, 1)
  | some (.int x) => (∃ ty, M.2.2.2.1 = some ty ∧ narrow ty (.int x) = .int x) ∧ decode M.2.1 pc = .ok (.ireturn, 1)
  | some (.long _) => M.2.2.2.1 = some .long ∧ decode M.2.1 pc = .ok (.lreturn, 1)
  | some (.double _) => M.2.2.2.1 = some .double ∧ decode M.2.1 pc = .ok (.dreturn, 1)
  | _ => False
/-- THE JUDGEMENT: from pc, with these locals, this stack and this world, the method comes to its return with Q -/
def XP (M : xM) (pc : Nat) (lv : List (Nat × Value)) (st : List Value) (w : xW) (Q : Option Value → xW → Prop) : Prop :=
  ∀ (p : Program) (l : Launch) (e : Env) (R : Room) (s : State) (m : MethodId) (args : Array Value) (below : List Frame) (meth : Method) (c : Code) (D : va_G) (tc ad : Nat → Nat) (A : Nat → Prop) (H0 H : Heap) (locs : List Loc) (cells slots : Nat) (Z : State → Prop) (ls : Array Slot),
    xC M p R s m args c D tc → cells ≤ R.cells → slots ≤ R.slots → (∀ q, H0.size ≤ q → A q) → va_P D vwCl (xws tc ad w) H → xD ad A → va_S A H0 H locs → lv_has ls M.2.2.1 (xlv ad lv) →
    (∀ (r : Option Value) (w' : xW) (H' : Heap) (locs' : List Loc) (pc' : Nat) (ls' : Array Slot), Q r w' → va_P D vwCl (xws tc ad w') H' → va_S A H0 H' locs' → xRet M r pc' → W p l e R s m args below meth c H' locs' cells slots Z (F0 m pc' ls' (r.toList.map (xv ad)))) →
    W p l e R s m args below meth c H locs cells slots Z (F0 m pc ls (st.map (xv ad)))
def xAt (M : xM) (pc : Nat) (i : Instr) (n pc' : Nat) : Prop := decode M.2.1 pc = .ok (i, n) ∧ pc' = pc + n
def xBr (M : xM) (pc : Nat) (f : Int → Instr) (off : Int) (pc' tgt : Nat) : Prop := decode M.2.1 pc = .ok (f off, 3) ∧ pc' = pc + 3 ∧ (pc : Int) + off = (tgt : Int)
theorem xv_cat (ad : Nat → Nat) (v : Value) : (xv ad v).category = v.category := by cases v <;> rfl
theorem xlv_filter (ad : Nat → Nat) (lv : List (Nat × Value)) (f : Nat → Nat → Bool) : (xlv ad lv).filter (fun q => f q.1 q.2.category) = xlv ad (lv.filter (fun q => f q.1 q.2.category)) := by
  unfold xlv
  rw [List.filter_map]
  congr 1
  apply List.filter_congr
  intro q _
  simp only [Function.comp, xv_cat]
theorem xs1_lv (ad : Nat → Nat) (lv : List (Nat × Value)) (i : Nat) (v : Value) : (i, xv ad v) :: (xlv ad lv).filter (fun q => !(q.1 == i) && !(q.1 + 1 == i && q.2.category == 2)) = xlv ad (xs1 lv i v) := by
  rw [xlv_filter ad lv (fun a b => !(a == i) && !(a + 1 == i && b == 2))]
  rfl
theorem xs2_lv (ad : Nat → Nat) (lv : List (Nat × Value)) (i : Nat) (v : Value) : (i, xv ad v) :: (xlv ad lv).filter (fun q => !(q.1 == i) && (!(q.1 == i + 1) && !(q.1 + 1 == i && q.2.category == 2))) = xlv ad (xs2 lv i v) := by
  rw [xlv_filter ad lv (fun a b => !(a == i) && (!(a == i + 1) && !(a + 1 == i && b == 2)))]
  rfl
theorem xget_mem {lv : List (Nat × Value)} {i : Nat} {v : Value} (h : xget lv i = some v) : (i, v) ∈ lv := by
  induction lv with
  | nil => simp [xget] at h
  | cons q t ih =>
    unfold xget at h
    split at h
    · rename_i h1
      obtain ⟨a, b⟩ := q
      simp only [Option.some.injEq] at h
      simp only at h1
      subst h1; subst h
      exact List.mem_cons_self
    · exact List.mem_cons_of_mem _ (ih h)
theorem xget_at {ad : Nat → Nat} {ls : Array Slot} {n : Nat} {lv : List (Nat × Value)} {i : Nat} {v : Value} (hl : lv_has ls n (xlv ad lv)) (h : xget lv i = some v) : ls[i]? = some (.val (xv ad v)) :=
  hl.2.2 (i, xv ad v) (List.mem_map.mpr ⟨(i, v), xget_mem h, rfl⟩)
theorem xws_at {tc ad : Nat → Nat} {w : xW} {k : Nat} (h : k < xN) : (xws tc ad w)[k]? = some (ad k, xE tc ad (w k)) := by
  unfold xws
  rw [List.getElem?_map, List.getElem?_range h]
  rfl
theorem xws_len {tc ad : Nat → Nat} {w : xW} : (xws tc ad w).length = xN := by simp [xws]
theorem xws_set {tc ad : Nat → Nat} {w : xW} {k : Nat} {e : va_E} (_ : k < xN) : (xws tc ad w).set k (ad k, xE tc ad e) = xws tc ad (xup w k e) := by
  apply List.ext_getElem?
  intro j
  rw [List.getElem?_set]
  by_cases hj : j < xN
  · rw [xws_at hj, xws_at hj, xws_len]
    by_cases hk : k = j
    · subst hk; simp [hj, xup]
    · simp only [hk, if_false]
      have : ¬ j = k := fun h => hk h.symm
      simp [xup, this]
  · have h1 : (xws tc ad w)[j]? = none := List.getElem?_eq_none (by rw [xws_len]; omega)
    have h2 : (xws tc ad (xup w k e))[j]? = none := List.getElem?_eq_none (by rw [xws_len]; omega)
    rw [h1, h2]
    by_cases hk : k = j
    · subst hk; rw [xws_len]; simp [hj]
    · simp [hk]
theorem xws_lt {tc ad : Nat → Nat} {w : xW} {k : Nat} {q : Nat × va_E} (h : (xws tc ad w)[k]? = some q) : k < xN ∧ q = (ad k, xE tc ad (w k)) := by
  have h1 : k < xN := by
    have := (List.getElem?_eq_some_iff.mp h).1
    rwa [xws_len] at this
  rw [xws_at h1] at h
  exact ⟨h1, (Option.some.inj h).symm⟩
theorem xD.d {tc ad : Nat → Nat} {A : Nat → Prop} (h : xD ad A) (w : xW) : va_D A (xws tc ad w) := by
  refine ⟨fun i j p q hi hj he => ?_, fun k q hk => ?_⟩
  · obtain ⟨h1, rfl⟩ := xws_lt hi
    obtain ⟨h2, rfl⟩ := xws_lt hj
    exact h.1 i j h1 h2 he
  · obtain ⟨h1, rfl⟩ := xws_lt hk
    exact h.2 k h1
theorem xup_same {w : xW} {k : Nat} {e : va_E} : xup w k e k = e := by simp [xup]
theorem xup_ne {w : xW} {k j : Nat} {e : va_E} (h : j ≠ k) : xup w k e j = w j := by simp [xup, h]
theorem xTs_good : GoodIn xTs xTs := fun w hw => ⟨hw, good_of_word (List.mem_filter.mp hw).2⟩
section XR
variable {M : xM} {pc pc' tgt : Nat} {off : Int} {lv lv' : List (Nat × Value)} {st : List Value} {w : xW} {Q : Option Value → xW → Prop}
theorem XP.mono {Q' : Option Value → xW → Prop} (h : XP M pc lv st w Q') (hq : ∀ r w', Q' r w' → Q r w') : XP M pc lv st w Q := by
  intro p l e R s m args below meth c D tc ad A H0 H locs cells slots Z ls C hc hsl hA hP hD hS hl hE
  exact h p l e R s m args below meth c D tc ad A H0 H locs cells slots Z ls C hc hsl hA hP hD hS hl (fun r w' H' locs' pc' ls' h1 h2 h3 h4 => hE r w' H' locs' pc' ls' (hq r w' h1) h2 h3 h4)
theorem x_iconst {n : Int} {v : Int32} (hd : xAt M pc (.iconst n) 1 pc') (hv : Int32.ofInt n = v) (k : XP M pc' lv (.int v :: st) w Q) : XP M pc lv (st) w Q := by
  intro p l e R s m args below meth c D tc ad A H0 H locs cells slots Z ls C hc hsl hA hP hD hS hl hE
  obtain ⟨hd, rfl⟩ := hd
  refine lv_iconst C.1 C.2.1 hd hv ?_
  exact k p l e R s m args below meth c D tc ad A H0 H locs cells slots Z ls C hc hsl hA hP hD hS hl hE
theorem x_bipush {n : Int} {v : Int32} (hd : xAt M pc (.bipush n) 2 pc') (hv : (Int8.ofInt n).toInt32 = v) (k : XP M pc' lv (.int v :: st) w Q) : XP M pc lv (st) w Q := by
  intro p l e R s m args below meth c D tc ad A H0 H locs cells slots Z ls C hc hsl hA hP hD hS hl hE
  obtain ⟨hd, rfl⟩ := hd
  refine lv_bipush C.1 C.2.1 hd hv ?_
  exact k p l e R s m args below meth c D tc ad A H0 H locs cells slots Z ls C hc hsl hA hP hD hS hl hE
theorem x_sipush {n : Int} {v : Int32} (hd : xAt M pc (.sipush n) 3 pc') (hv : (Int16.ofInt n).toInt32 = v) (k : XP M pc' lv (.int v :: st) w Q) : XP M pc lv (st) w Q := by
  intro p l e R s m args below meth c D tc ad A H0 H locs cells slots Z ls C hc hsl hA hP hD hS hl hE
  obtain ⟨hd, rfl⟩ := hd
  refine lv_sipush C.1 C.2.1 hd hv ?_
  exact k p l e R s m args below meth c D tc ad A H0 H locs cells slots Z ls C hc hsl hA hP hD hS hl hE
theorem x_lconst {n : Fin 2} {v : Int64} (hd : xAt M pc (.lconst n) 1 pc') (hv : Int64.ofNat (n : Nat) = v) (k : XP M pc' lv (.long v :: st) w Q) : XP M pc lv (st) w Q := by
  intro p l e R s m args below meth c D tc ad A H0 H locs cells slots Z ls C hc hsl hA hP hD hS hl hE
  obtain ⟨hd, rfl⟩ := hd
  refine lv_lconst C.1 C.2.1 hd hv ?_
  exact k p l e R s m args below meth c D tc ad A H0 H locs cells slots Z ls C hc hsl hA hP hD hS hl hE
theorem x_dconst0 (hd : xAt M pc (.dconst 0) 1 pc') (k : XP M pc' lv (.double FP.dconst0 :: st) w Q) : XP M pc lv (st) w Q := by
  intro p l e R s m args below meth c D tc ad A H0 H locs cells slots Z ls C hc hsl hA hP hD hS hl hE
  obtain ⟨hd, rfl⟩ := hd
  refine lv_dconst0 C.1 C.2.1 hd ?_
  exact k p l e R s m args below meth c D tc ad A H0 H locs cells slots Z ls C hc hsl hA hP hD hS hl hE
theorem x_iload_n {i : Fin 4} {x : Int32} (hd : xAt M pc (.iload_n i) 1 pc') (h : xget lv i = some (.int x)) (k : XP M pc' lv (.int x :: st) w Q) : XP M pc lv (st) w Q := by
  intro p l e R s m args below meth c D tc ad A H0 H locs cells slots Z ls C hc hsl hA hP hD hS hl hE
  obtain ⟨hd, rfl⟩ := hd
  refine lv_iload_n C.1 C.2.1 hd rfl (xget_at hl h) ?_
  exact k p l e R s m args below meth c D tc ad A H0 H locs cells slots Z ls C hc hsl hA hP hD hS hl hE
theorem x_iload {i : Nat} {x : Int32} (hd : xAt M pc (.iload i) 2 pc') (h : xget lv i = some (.int x)) (k : XP M pc' lv (.int x :: st) w Q) : XP M pc lv (st) w Q := by
  intro p l e R s m args below meth c D tc ad A H0 H locs cells slots Z ls C hc hsl hA hP hD hS hl hE
  obtain ⟨hd, rfl⟩ := hd
  refine lv_iload C.1 C.2.1 hd (xget_at hl h) ?_
  exact k p l e R s m args below meth c D tc ad A H0 H locs cells slots Z ls C hc hsl hA hP hD hS hl hE
theorem x_istore_n {i : Fin 4} {x : Int32} (hd : xAt M pc (.istore_n i) 1 pc') (hn : (i : Nat) < M.2.2.1) (hs : xs1 lv i (.int x) = lv') (k : XP M pc' lv' st w Q) : XP M pc lv (.int x :: st) w Q := by
  intro p l e R s m args below meth c D tc ad A H0 H locs cells slots Z ls C hc hsl hA hP hD hS hl hE
  obtain ⟨hd, rfl⟩ := hd
  subst hs
  refine lv_istore_n C.1 C.2.1 hd rfl hl hn (xs1_lv ad lv i (.int x)) (fun ls hl => ?_)
  exact k p l e R s m args below meth c D tc ad A H0 H locs cells slots Z ls C hc hsl hA hP hD hS hl hE
theorem x_istore {i : Nat} {x : Int32} (hd : xAt M pc (.istore i) 2 pc') (hn : i < M.2.2.1) (hs : xs1 lv i (.int x) = lv') (k : XP M pc' lv' st w Q) : XP M pc lv (.int x :: st) w Q := by
  intro p l e R s m args below meth c D tc ad A H0 H locs cells slots Z ls C hc hsl hA hP hD hS hl hE
  obtain ⟨hd, rfl⟩ := hd
  subst hs
  refine lv_istore C.1 C.2.1 hd hl hn (xs1_lv ad lv i (.int x)) (fun ls hl => ?_)
  exact k p l e R s m args below meth c D tc ad A H0 H locs cells slots Z ls C hc hsl hA hP hD hS hl hE
theorem x_lload_n {i : Fin 4} {x : Int64} (hd : xAt M pc (.lload_n i) 1 pc') (h : xget lv i = some (.long x)) (k : XP M pc' lv (.long x :: st) w Q) : XP M pc lv (st) w Q := by
  intro p l e R s m args below meth c D tc ad A H0 H locs cells slots Z ls C hc hsl hA hP hD hS hl hE
  obtain ⟨hd, rfl⟩ := hd
  refine lv_lload_n C.1 C.2.1 hd rfl (xget_at hl h) ?_
  exact k p l e R s m args below meth c D tc ad A H0 H locs cells slots Z ls C hc hsl hA hP hD hS hl hE
theorem x_lload {i : Nat} {x : Int64} (hd : xAt M pc (.lload i) 2 pc') (h : xget lv i = some (.long x)) (k : XP M pc' lv (.long x :: st) w Q) : XP M pc lv (st) w Q := by
  intro p l e R s m args below meth c D tc ad A H0 H locs cells slots Z ls C hc hsl hA hP hD hS hl hE
  obtain ⟨hd, rfl⟩ := hd
  refine lv_lload C.1 C.2.1 hd (xget_at hl h) ?_
  exact k p l e R s m args below meth c D tc ad A H0 H locs cells slots Z ls C hc hsl hA hP hD hS hl hE
theorem x_lstore_n {i : Fin 4} {x : Int64} (hd : xAt M pc (.lstore_n i) 1 pc') (hn : (i : Nat) + 1 < M.2.2.1) (hs : xs2 lv i (.long x) = lv') (k : XP M pc' lv' st w Q) : XP M pc lv (.long x :: st) w Q := by
  intro p l e R s m args below meth c D tc ad A H0 H locs cells slots Z ls C hc hsl hA hP hD hS hl hE
  obtain ⟨hd, rfl⟩ := hd
  subst hs
  refine lv_lstore_n C.1 C.2.1 hd rfl hl hn (xs2_lv ad lv i (.long x)) (fun ls hl => ?_)
  exact k p l e R s m args below meth c D tc ad A H0 H locs cells slots Z ls C hc hsl hA hP hD hS hl hE
theorem x_lstore {i : Nat} {x : Int64} (hd : xAt M pc (.lstore i) 2 pc') (hn : i + 1 < M.2.2.1) (hs : xs2 lv i (.long x) = lv') (k : XP M pc' lv' st w Q) : XP M pc lv (.long x :: st) w Q := by
  intro p l e R s m args below meth c D tc ad A H0 H locs cells slots Z ls C hc hsl hA hP hD hS hl hE
  obtain ⟨hd, rfl⟩ := hd
  subst hs
  refine lv_lstore C.1 C.2.1 hd hl hn (xs2_lv ad lv i (.long x)) (fun ls hl => ?_)
  exact k p l e R s m args below meth c D tc ad A H0 H locs cells slots Z ls C hc hsl hA hP hD hS hl hE
theorem x_dload_n {i : Fin 4} {x : UInt64} (hd : xAt M pc (.dload_n i) 1 pc') (h : xget lv i = some (.double x)) (k : XP M pc' lv (.double x :: st) w Q) : XP M pc lv (st) w Q := by
  intro p l e R s m args below meth c D tc ad A H0 H locs cells slots Z ls C hc hsl hA hP hD hS hl hE
  obtain ⟨hd, rfl⟩ := hd
  refine lv_dload_n C.1 C.2.1 hd rfl (xget_at hl h) ?_
  exact k p l e R s m args below meth c D tc ad A H0 H locs cells slots Z ls C hc hsl hA hP hD hS hl hE
theorem x_dload {i : Nat} {x : UInt64} (hd : xAt M pc (.dload i) 2 pc') (h : xget lv i = some (.double x)) (k : XP M pc' lv (.double x :: st) w Q) : XP M pc lv (st) w Q := by
  intro p l e R s m args below meth c D tc ad A H0 H locs cells slots Z ls C hc hsl hA hP hD hS hl hE
  obtain ⟨hd, rfl⟩ := hd
  refine lv_dload C.1 C.2.1 hd (xget_at hl h) ?_
  exact k p l e R s m args below meth c D tc ad A H0 H locs cells slots Z ls C hc hsl hA hP hD hS hl hE
theorem x_dstore_n {i : Fin 4} {x : UInt64} (hd : xAt M pc (.dstore_n i) 1 pc') (hn : (i : Nat) + 1 < M.2.2.1) (hs : xs2 lv i (.double x) = lv') (k : XP M pc' lv' st w Q) : XP M pc lv (.double x :: st) w Q := by
  intro p l e R s m args below meth c D tc ad A H0 H locs cells slots Z ls C hc hsl hA hP hD hS hl hE
  obtain ⟨hd, rfl⟩ := hd
  subst hs
  refine lv_dstore_n C.1 C.2.1 hd rfl hl hn (xs2_lv ad lv i (.double x)) (fun ls hl => ?_)
  exact k p l e R s m args below meth c D tc ad A H0 H locs cells slots Z ls C hc hsl hA hP hD hS hl hE
theorem x_dstore {i : Nat} {x : UInt64} (hd : xAt M pc (.dstore i) 2 pc') (hn : i + 1 < M.2.2.1) (hs : xs2 lv i (.double x) = lv') (k : XP M pc' lv' st w Q) : XP M pc lv (.double x :: st) w Q := by
  intro p l e R s m args below meth c D tc ad A H0 H locs cells slots Z ls C hc hsl hA hP hD hS hl hE
  obtain ⟨hd, rfl⟩ := hd
  subst hs
  refine lv_dstore C.1 C.2.1 hd hl hn (xs2_lv ad lv i (.double x)) (fun ls hl => ?_)
  exact k p l e R s m args below meth c D tc ad A H0 H locs cells slots Z ls C hc hsl hA hP hD hS hl hE
theorem x_aload_n {i : Fin 4} {x : Nat} (hd : xAt M pc (.aload_n i) 1 pc') (h : xget lv i = some (.ref x)) (k : XP M pc' lv (.ref x :: st) w Q) : XP M pc lv (st) w Q := by
  intro p l e R s m args below meth c D tc ad A H0 H locs cells slots Z ls C hc hsl hA hP hD hS hl hE
  obtain ⟨hd, rfl⟩ := hd
  refine lv_aload_n C.1 C.2.1 hd rfl (xget_at hl h) ?_
  exact k p l e R s m args below meth c D tc ad A H0 H locs cells slots Z ls C hc hsl hA hP hD hS hl hE
theorem x_aload {i : Nat} {x : Nat} (hd : xAt M pc (.aload i) 2 pc') (h : xget lv i = some (.ref x)) (k : XP M pc' lv (.ref x :: st) w Q) : XP M pc lv (st) w Q := by
  intro p l e R s m args below meth c D tc ad A H0 H locs cells slots Z ls C hc hsl hA hP hD hS hl hE
  obtain ⟨hd, rfl⟩ := hd
  refine lv_aload C.1 C.2.1 hd (xget_at hl h) ?_
  exact k p l e R s m args below meth c D tc ad A H0 H locs cells slots Z ls C hc hsl hA hP hD hS hl hE
theorem x_astore_n {i : Fin 4} {x : Nat} (hd : xAt M pc (.astore_n i) 1 pc') (hn : (i : Nat) < M.2.2.1) (hs : xs1 lv i (.ref x) = lv') (k : XP M pc' lv' st w Q) : XP M pc lv (.ref x :: st) w Q := by
  intro p l e R s m args below meth c D tc ad A H0 H locs cells slots Z ls C hc hsl hA hP hD hS hl hE
  obtain ⟨hd, rfl⟩ := hd
  subst hs
  refine lv_astore_n C.1 C.2.1 hd rfl hl hn (xs1_lv ad lv i (.ref x)) (fun ls hl => ?_)
  exact k p l e R s m args below meth c D tc ad A H0 H locs cells slots Z ls C hc hsl hA hP hD hS hl hE
theorem x_astore {i : Nat} {x : Nat} (hd : xAt M pc (.astore i) 2 pc') (hn : i < M.2.2.1) (hs : xs1 lv i (.ref x) = lv') (k : XP M pc' lv' st w Q) : XP M pc lv (.ref x :: st) w Q := by
  intro p l e R s m args below meth c D tc ad A H0 H locs cells slots Z ls C hc hsl hA hP hD hS hl hE
  obtain ⟨hd, rfl⟩ := hd
  subst hs
  refine lv_astore C.1 C.2.1 hd hl hn (xs1_lv ad lv i (.ref x)) (fun ls hl => ?_)
  exact k p l e R s m args below meth c D tc ad A H0 H locs cells slots Z ls C hc hsl hA hP hD hS hl hE
theorem x_iinc {i : Nat} {n : Int} {x v : Int32} (hd : xAt M pc (.iinc i n) 3 pc') (h : xget lv i = some (.int x)) (hv : x + Int32.ofInt n = v) (hn : i < M.2.2.1) (hs : xs1 lv i (.int v) = lv') (k : XP M pc' lv' st w Q) : XP M pc lv st w Q := by
  intro p l e R s m args below meth c D tc ad A H0 H locs cells slots Z ls C hc hsl hA hP hD hS hl hE
  obtain ⟨hd, rfl⟩ := hd
  subst hs
  obtain ⟨j, hj⟩ := List.getElem?_of_mem (List.mem_map.mpr ⟨(i, .int x), xget_mem h, rfl⟩ : (i, Value.int x) ∈ xlv ad lv)
  refine lv_iinc C.1 C.2.1 hd hl hj hv hn (xs1_lv ad lv i (.int v)) (fun ls hl => ?_)
  exact k p l e R s m args below meth c D tc ad A H0 H locs cells slots Z ls C hc hsl hA hP hD hS hl hE
theorem x_iadd {x y : Int32} (hd : xAt M pc (.iadd) 1 pc') (k : XP M pc' lv (.int (x + y) :: st) w Q) : XP M pc lv (.int y :: .int x :: st) w Q := by
  intro p l e R s m args below meth c D tc ad A H0 H locs cells slots Z ls C hc hsl hA hP hD hS hl hE
  obtain ⟨hd, rfl⟩ := hd
  refine lv_iadd C.1 C.2.1 hd ?_
  exact k p l e R s m args below meth c D tc ad A H0 H locs cells slots Z ls C hc hsl hA hP hD hS hl hE
theorem x_isub {x y : Int32} (hd : xAt M pc (.isub) 1 pc') (k : XP M pc' lv (.int (x - y) :: st) w Q) : XP M pc lv (.int y :: .int x :: st) w Q := by
  intro p l e R s m args below meth c D tc ad A H0 H locs cells slots Z ls C hc hsl hA hP hD hS hl hE
  obtain ⟨hd, rfl⟩ := hd
  refine lv_isub C.1 C.2.1 hd ?_
  exact k p l e R s m args below meth c D tc ad A H0 H locs cells slots Z ls C hc hsl hA hP hD hS hl hE
theorem x_imul {x y : Int32} (hd : xAt M pc (.imul) 1 pc') (k : XP M pc' lv (.int (x * y) :: st) w Q) : XP M pc lv (.int y :: .int x :: st) w Q := by
  intro p l e R s m args below meth c D tc ad A H0 H locs cells slots Z ls C hc hsl hA hP hD hS hl hE
  obtain ⟨hd, rfl⟩ := hd
  refine lv_imul C.1 C.2.1 hd ?_
  exact k p l e R s m args below meth c D tc ad A H0 H locs cells slots Z ls C hc hsl hA hP hD hS hl hE
theorem x_iand {x y : Int32} (hd : xAt M pc (.iand) 1 pc') (k : XP M pc' lv (.int (x &&& y) :: st) w Q) : XP M pc lv (.int y :: .int x :: st) w Q := by
  intro p l e R s m args below meth c D tc ad A H0 H locs cells slots Z ls C hc hsl hA hP hD hS hl hE
  obtain ⟨hd, rfl⟩ := hd
  refine lv_iand C.1 C.2.1 hd ?_
  exact k p l e R s m args below meth c D tc ad A H0 H locs cells slots Z ls C hc hsl hA hP hD hS hl hE
theorem x_idiv {x y : Int32} (hd : xAt M pc (.idiv) 1 pc') (hne : ¬ y = 0) (k : XP M pc' lv (.int (x / y) :: st) w Q) : XP M pc lv (.int y :: .int x :: st) w Q := by
  intro p l e R s m args below meth c D tc ad A H0 H locs cells slots Z ls C hc hsl hA hP hD hS hl hE
  obtain ⟨hd, rfl⟩ := hd
  refine lv_idiv C.1 C.2.1 hd hne ?_
  exact k p l e R s m args below meth c D tc ad A H0 H locs cells slots Z ls C hc hsl hA hP hD hS hl hE
theorem x_irem {x y : Int32} (hd : xAt M pc (.irem) 1 pc') (hne : ¬ y = 0) (k : XP M pc' lv (.int (x - x / y * y) :: st) w Q) : XP M pc lv (.int y :: .int x :: st) w Q := by
  intro p l e R s m args below meth c D tc ad A H0 H locs cells slots Z ls C hc hsl hA hP hD hS hl hE
  obtain ⟨hd, rfl⟩ := hd
  refine lv_irem C.1 C.2.1 hd hne ?_
  exact k p l e R s m args below meth c D tc ad A H0 H locs cells slots Z ls C hc hsl hA hP hD hS hl hE
theorem x_ineg {x : Int32} (hd : xAt M pc (.ineg) 1 pc') (k : XP M pc' lv (.int (-x) :: st) w Q) : XP M pc lv (.int x :: st) w Q := by
  intro p l e R s m args below meth c D tc ad A H0 H locs cells slots Z ls C hc hsl hA hP hD hS hl hE
  obtain ⟨hd, rfl⟩ := hd
  refine lv_ineg C.1 C.2.1 hd ?_
  exact k p l e R s m args below meth c D tc ad A H0 H locs cells slots Z ls C hc hsl hA hP hD hS hl hE
theorem x_ishr {x y : Int32} (hd : xAt M pc (.ishr) 1 pc') (k : XP M pc' lv (.int (x >>> (y &&& 31)) :: st) w Q) : XP M pc lv (.int y :: .int x :: st) w Q := by
  intro p l e R s m args below meth c D tc ad A H0 H locs cells slots Z ls C hc hsl hA hP hD hS hl hE
  obtain ⟨hd, rfl⟩ := hd
  refine lv_ishr C.1 C.2.1 hd ?_
  exact k p l e R s m args below meth c D tc ad A H0 H locs cells slots Z ls C hc hsl hA hP hD hS hl hE
theorem x_ladd {x y : Int64} (hd : xAt M pc (.ladd) 1 pc') (k : XP M pc' lv (.long (x + y) :: st) w Q) : XP M pc lv (.long y :: .long x :: st) w Q := by
  intro p l e R s m args below meth c D tc ad A H0 H locs cells slots Z ls C hc hsl hA hP hD hS hl hE
  obtain ⟨hd, rfl⟩ := hd
  refine lv_ladd C.1 C.2.1 hd ?_
  exact k p l e R s m args below meth c D tc ad A H0 H locs cells slots Z ls C hc hsl hA hP hD hS hl hE
theorem x_lsub {x y : Int64} (hd : xAt M pc (.lsub) 1 pc') (k : XP M pc' lv (.long (x - y) :: st) w Q) : XP M pc lv (.long y :: .long x :: st) w Q := by
  intro p l e R s m args below meth c D tc ad A H0 H locs cells slots Z ls C hc hsl hA hP hD hS hl hE
  obtain ⟨hd, rfl⟩ := hd
  refine lv_lsub C.1 C.2.1 hd ?_
  exact k p l e R s m args below meth c D tc ad A H0 H locs cells slots Z ls C hc hsl hA hP hD hS hl hE
theorem x_lmul {x y : Int64} (hd : xAt M pc (.lmul) 1 pc') (k : XP M pc' lv (.long (x * y) :: st) w Q) : XP M pc lv (.long y :: .long x :: st) w Q := by
  intro p l e R s m args below meth c D tc ad A H0 H locs cells slots Z ls C hc hsl hA hP hD hS hl hE
  obtain ⟨hd, rfl⟩ := hd
  refine lv_lmul C.1 C.2.1 hd ?_
  exact k p l e R s m args below meth c D tc ad A H0 H locs cells slots Z ls C hc hsl hA hP hD hS hl hE
theorem x_land {x y : Int64} (hd : xAt M pc (.land) 1 pc') (k : XP M pc' lv (.long (x &&& y) :: st) w Q) : XP M pc lv (.long y :: .long x :: st) w Q := by
  intro p l e R s m args below meth c D tc ad A H0 H locs cells slots Z ls C hc hsl hA hP hD hS hl hE
  obtain ⟨hd, rfl⟩ := hd
  refine lv_land C.1 C.2.1 hd ?_
  exact k p l e R s m args below meth c D tc ad A H0 H locs cells slots Z ls C hc hsl hA hP hD hS hl hE
theorem x_lor {x y : Int64} (hd : xAt M pc (.lor) 1 pc') (k : XP M pc' lv (.long (x ||| y) :: st) w Q) : XP M pc lv (.long y :: .long x :: st) w Q := by
  intro p l e R s m args below meth c D tc ad A H0 H locs cells slots Z ls C hc hsl hA hP hD hS hl hE
  obtain ⟨hd, rfl⟩ := hd
  refine lv_lor C.1 C.2.1 hd ?_
  exact k p l e R s m args below meth c D tc ad A H0 H locs cells slots Z ls C hc hsl hA hP hD hS hl hE
theorem x_i2l {x : Int32} (hd : xAt M pc (.i2l) 1 pc') (k : XP M pc' lv (.long x.toInt64 :: st) w Q) : XP M pc lv (.int x :: st) w Q := by
  intro p l e R s m args below meth c D tc ad A H0 H locs cells slots Z ls C hc hsl hA hP hD hS hl hE
  obtain ⟨hd, rfl⟩ := hd
  refine lv_i2l C.1 C.2.1 hd rfl ?_
  exact k p l e R s m args below meth c D tc ad A H0 H locs cells slots Z ls C hc hsl hA hP hD hS hl hE
theorem x_l2i {x : Int64} (hd : xAt M pc (.l2i) 1 pc') (k : XP M pc' lv (.int x.toInt32 :: st) w Q) : XP M pc lv (.long x :: st) w Q := by
  intro p l e R s m args below meth c D tc ad A H0 H locs cells slots Z ls C hc hsl hA hP hD hS hl hE
  obtain ⟨hd, rfl⟩ := hd
  refine lv_l2i C.1 C.2.1 hd rfl ?_
  exact k p l e R s m args below meth c D tc ad A H0 H locs cells slots Z ls C hc hsl hA hP hD hS hl hE
theorem x_lushr {x v : Int64} {y : Int32} (hd : xAt M pc (.lushr) 1 pc') (hv : (x.toUInt64 >>> (y.toInt64.toUInt64 &&& Int64.toUInt64 63)).toInt64 = v) (k : XP M pc' lv (.long v :: st) w Q) : XP M pc lv (.int y :: .long x :: st) w Q := by
  intro p l e R s m args below meth c D tc ad A H0 H locs cells slots Z ls C hc hsl hA hP hD hS hl hE
  obtain ⟨hd, rfl⟩ := hd
  refine lv_lushr C.1 C.2.1 hd hv ?_
  exact k p l e R s m args below meth c D tc ad A H0 H locs cells slots Z ls C hc hsl hA hP hD hS hl hE
theorem x_lshl {x v : Int64} {y : Int32} (hd : xAt M pc (.lshl) 1 pc') (hv : x <<< (y.toInt64 &&& 63) = v) (k : XP M pc' lv (.long v :: st) w Q) : XP M pc lv (.int y :: .long x :: st) w Q := by
  intro p l e R s m args below meth c D tc ad A H0 H locs cells slots Z ls C hc hsl hA hP hD hS hl hE
  obtain ⟨hd, rfl⟩ := hd
  refine lv_lshl C.1 C.2.1 hd hv ?_
  exact k p l e R s m args below meth c D tc ad A H0 H locs cells slots Z ls C hc hsl hA hP hD hS hl hE
theorem x_lshr {x v : Int64} {y : Int32} (hd : xAt M pc (.lshr) 1 pc') (hv : x >>> (y.toInt64 &&& 63) = v) (k : XP M pc' lv (.long v :: st) w Q) : XP M pc lv (.int y :: .long x :: st) w Q := by
  intro p l e R s m args below meth c D tc ad A H0 H locs cells slots Z ls C hc hsl hA hP hD hS hl hE
  obtain ⟨hd, rfl⟩ := hd
  refine lv_lshr C.1 C.2.1 hd hv ?_
  exact k p l e R s m args below meth c D tc ad A H0 H locs cells slots Z ls C hc hsl hA hP hD hS hl hE
theorem x_lcmp {x y : Int64} (hd : xAt M pc (.lcmp) 1 pc') (k : XP M pc' lv (.int (lg_cmp x y) :: st) w Q) : XP M pc lv (.long y :: .long x :: st) w Q := by
  intro p l e R s m args below meth c D tc ad A H0 H locs cells slots Z ls C hc hsl hA hP hD hS hl hE
  obtain ⟨hd, rfl⟩ := hd
  refine W.lcmp C.1 C.2.1 hd ?_
  exact k p l e R s m args below meth c D tc ad A H0 H locs cells slots Z ls C hc hsl hA hP hD hS hl hE
theorem x_dup {v : Value} (hd : xAt M pc (.dup) 1 pc') (hv : v.category = 1) (k : XP M pc' lv (v :: v :: st) w Q) : XP M pc lv (v :: st) w Q := by
  intro p l e R s m args below meth c D tc ad A H0 H locs cells slots Z ls C hc hsl hA hP hD hS hl hE
  obtain ⟨hd, rfl⟩ := hd
  refine lv_dup C.1 C.2.1 hd (by rw [xv_cat]; exact hv) ?_
  exact k p l e R s m args below meth c D tc ad A H0 H locs cells slots Z ls C hc hsl hA hP hD hS hl hE
theorem x_dup2_11 {v u : Value} (hd : xAt M pc (.dup2) 1 pc') (hv : v.category = 1) (hu : u.category = 1) (k : XP M pc' lv (v :: u :: v :: u :: st) w Q) : XP M pc lv (v :: u :: st) w Q := by
  intro p l e R s m args below meth c D tc ad A H0 H locs cells slots Z ls C hc hsl hA hP hD hS hl hE
  obtain ⟨hd, rfl⟩ := hd
  refine lv_dup2_11 C.1 C.2.1 hd (by rw [xv_cat]; exact hv) (by rw [xv_cat]; exact hu) ?_
  exact k p l e R s m args below meth c D tc ad A H0 H locs cells slots Z ls C hc hsl hA hP hD hS hl hE
theorem x_dadd {x y : UInt64} (hd : xAt M pc (.dadd) 1 pc') (hne : vf_n64 (FP.dadd x y)) (k : XP M pc' lv (.double (FP.dadd x y) :: st) w Q) : XP M pc lv (.double y :: .double x :: st) w Q := by
  intro p l e R s m args below meth c D tc ad A H0 H locs cells slots Z ls C hc hsl hA hP hD hS hl hE
  obtain ⟨hd, rfl⟩ := hd
  refine lv_dadd C.1 C.2.1 hd hne ?_
  exact k p l e R s m args below meth c D tc ad A H0 H locs cells slots Z ls C hc hsl hA hP hD hS hl hE
theorem x_dsub {x y : UInt64} (hd : xAt M pc (.dsub) 1 pc') (hne : vf_n64 (FP.dsub x y)) (k : XP M pc' lv (.double (FP.dsub x y) :: st) w Q) : XP M pc lv (.double y :: .double x :: st) w Q := by
  intro p l e R s m args below meth c D tc ad A H0 H locs cells slots Z ls C hc hsl hA hP hD hS hl hE
  obtain ⟨hd, rfl⟩ := hd
  refine lv_dsub C.1 C.2.1 hd hne ?_
  exact k p l e R s m args below meth c D tc ad A H0 H locs cells slots Z ls C hc hsl hA hP hD hS hl hE
theorem x_dmul {x y : UInt64} (hd : xAt M pc (.dmul) 1 pc') (hne : vf_n64 (FP.dmul x y)) (k : XP M pc' lv (.double (FP.dmul x y) :: st) w Q) : XP M pc lv (.double y :: .double x :: st) w Q := by
  intro p l e R s m args below meth c D tc ad A H0 H locs cells slots Z ls C hc hsl hA hP hD hS hl hE
  obtain ⟨hd, rfl⟩ := hd
  refine lv_dmul C.1 C.2.1 hd hne ?_
  exact k p l e R s m args below meth c D tc ad A H0 H locs cells slots Z ls C hc hsl hA hP hD hS hl hE
theorem x_ddiv {x y : UInt64} (hd : xAt M pc (.ddiv) 1 pc') (hne : vf_n64 (FP.ddiv x y)) (k : XP M pc' lv (.double (FP.ddiv x y) :: st) w Q) : XP M pc lv (.double y :: .double x :: st) w Q := by
  intro p l e R s m args below meth c D tc ad A H0 H locs cells slots Z ls C hc hsl hA hP hD hS hl hE
  obtain ⟨hd, rfl⟩ := hd
  refine lv_ddiv C.1 C.2.1 hd hne ?_
  exact k p l e R s m args below meth c D tc ad A H0 H locs cells slots Z ls C hc hsl hA hP hD hS hl hE
theorem x_dneg {x : UInt64} (hd : xAt M pc (.dneg) 1 pc') (k : XP M pc' lv (.double (FP.dneg x) :: st) w Q) : XP M pc lv (.double x :: st) w Q := by
  intro p l e R s m args below meth c D tc ad A H0 H locs cells slots Z ls C hc hsl hA hP hD hS hl hE
  obtain ⟨hd, rfl⟩ := hd
  refine lv_dneg C.1 C.2.1 hd ?_
  exact k p l e R s m args below meth c D tc ad A H0 H locs cells slots Z ls C hc hsl hA hP hD hS hl hE
theorem x_dcmp {x y : UInt64} {op : CmpOp} (hd : xAt M pc (.dcmp op) 1 pc') (k : XP M pc' lv (.int (Op.cmpValue (FP.dcmp x y) op) :: st) w Q) : XP M pc lv (.double y :: .double x :: st) w Q := by
  intro p l e R s m args below meth c D tc ad A H0 H locs cells slots Z ls C hc hsl hA hP hD hS hl hE
  obtain ⟨hd, rfl⟩ := hd
  refine lv_dcmp C.1 C.2.1 hd ?_
  exact k p l e R s m args below meth c D tc ad A H0 H locs cells slots Z ls C hc hsl hA hP hD hS hl hE
theorem x_i2d {x : Int32} (hd : xAt M pc (.i2d) 1 pc') (k : XP M pc' lv (.double (FP.i2d x) :: st) w Q) : XP M pc lv (.int x :: st) w Q := by
  intro p l e R s m args below meth c D tc ad A H0 H locs cells slots Z ls C hc hsl hA hP hD hS hl hE
  obtain ⟨hd, rfl⟩ := hd
  refine lv_i2d C.1 C.2.1 hd ?_
  exact k p l e R s m args below meth c D tc ad A H0 H locs cells slots Z ls C hc hsl hA hP hD hS hl hE
theorem x_l2d {x : Int64} (hd : xAt M pc (.l2d) 1 pc') (k : XP M pc' lv (.double (FP.l2d x) :: st) w Q) : XP M pc lv (.long x :: st) w Q := by
  intro p l e R s m args below meth c D tc ad A H0 H locs cells slots Z ls C hc hsl hA hP hD hS hl hE
  obtain ⟨hd, rfl⟩ := hd
  refine lv_l2d C.1 C.2.1 hd ?_
  exact k p l e R s m args below meth c D tc ad A H0 H locs cells slots Z ls C hc hsl hA hP hD hS hl hE
theorem x_ldc2 {i : Nat} {v : Int64} (hd : xAt M pc (.ldc2_w i) 3 pc') (hm : Cond.constantLong M.1.cls i v ∈ xTs) (k : XP M pc' lv (.long v :: st) w Q) : XP M pc lv (st) w Q := by
  intro p l e R s m args below meth c D tc ad A H0 H locs cells slots Z ls C hc hsl hA hP hD hS hl hE
  obtain ⟨hd, rfl⟩ := hd
  refine lv_ldc2 C.1 C.2.1 C.2.2.2.1 (C.2.2.2.2.1 _ hm) hd ?_
  exact k p l e R s m args below meth c D tc ad A H0 H locs cells slots Z ls C hc hsl hA hP hD hS hl hE
theorem x_ldc2d {i : Nat} {v : UInt64} (hd : xAt M pc (.ldc2_w i) 3 pc') (hm : Cond.constantDouble M.1.cls i v ∈ xTs) (k : XP M pc' lv (.double v :: st) w Q) : XP M pc lv (st) w Q := by
  intro p l e R s m args below meth c D tc ad A H0 H locs cells slots Z ls C hc hsl hA hP hD hS hl hE
  obtain ⟨hd, rfl⟩ := hd
  refine lv_ldc2d C.1 C.2.1 C.2.2.2.1 (C.2.2.2.2.1 _ hm) hd ?_
  exact k p l e R s m args below meth c D tc ad A H0 H locs cells slots Z ls C hc hsl hA hP hD hS hl hE
theorem x_if_eq {x : Int32} (hd : xBr M pc (.ifCond .eq) off pc' tgt) (kt : x = 0 → XP M tgt lv st w Q) (kf : ¬ x = 0 → XP M pc' lv st w Q) : XP M pc lv (.int x :: st) w Q := by
  intro p l e R s m args below meth c D tc ad A H0 H locs cells slots Z ls C hc hsl hA hP hD hS hl hE
  obtain ⟨hd, rfl, ht⟩ := hd
  refine lv_if_eq C.1 C.2.1 hd ht (fun h => ?_) (fun h => ?_)
  · exact kt h p l e R s m args below meth c D tc ad A H0 H locs cells slots Z ls C hc hsl hA hP hD hS hl hE
  · exact kf h p l e R s m args below meth c D tc ad A H0 H locs cells slots Z ls C hc hsl hA hP hD hS hl hE
theorem x_icmp_eq {x y : Int32} (hd : xBr M pc (.if_icmp .eq) off pc' tgt) (kt : x = y → XP M tgt lv st w Q) (kf : ¬ x = y → XP M pc' lv st w Q) : XP M pc lv (.int y :: .int x :: st) w Q := by
  intro p l e R s m args below meth c D tc ad A H0 H locs cells slots Z ls C hc hsl hA hP hD hS hl hE
  obtain ⟨hd, rfl, ht⟩ := hd
  refine lv_icmp_eq C.1 C.2.1 hd ht (fun h => ?_) (fun h => ?_)
  · exact kt h p l e R s m args below meth c D tc ad A H0 H locs cells slots Z ls C hc hsl hA hP hD hS hl hE
  · exact kf h p l e R s m args below meth c D tc ad A H0 H locs cells slots Z ls C hc hsl hA hP hD hS hl hE
theorem x_if_ne {x : Int32} (hd : xBr M pc (.ifCond .ne) off pc' tgt) (kt : ¬ x = 0 → XP M tgt lv st w Q) (kf : x = 0 → XP M pc' lv st w Q) : XP M pc lv (.int x :: st) w Q := by
  intro p l e R s m args below meth c D tc ad A H0 H locs cells slots Z ls C hc hsl hA hP hD hS hl hE
  obtain ⟨hd, rfl, ht⟩ := hd
  refine lv_if_ne C.1 C.2.1 hd ht (fun h => ?_) (fun h => ?_)
  · exact kt h p l e R s m args below meth c D tc ad A H0 H locs cells slots Z ls C hc hsl hA hP hD hS hl hE
  · exact kf h p l e R s m args below meth c D tc ad A H0 H locs cells slots Z ls C hc hsl hA hP hD hS hl hE
theorem x_icmp_ne {x y : Int32} (hd : xBr M pc (.if_icmp .ne) off pc' tgt) (kt : ¬ x = y → XP M tgt lv st w Q) (kf : x = y → XP M pc' lv st w Q) : XP M pc lv (.int y :: .int x :: st) w Q := by
  intro p l e R s m args below meth c D tc ad A H0 H locs cells slots Z ls C hc hsl hA hP hD hS hl hE
  obtain ⟨hd, rfl, ht⟩ := hd
  refine lv_icmp_ne C.1 C.2.1 hd ht (fun h => ?_) (fun h => ?_)
  · exact kt h p l e R s m args below meth c D tc ad A H0 H locs cells slots Z ls C hc hsl hA hP hD hS hl hE
  · exact kf h p l e R s m args below meth c D tc ad A H0 H locs cells slots Z ls C hc hsl hA hP hD hS hl hE
theorem x_if_lt {x : Int32} (hd : xBr M pc (.ifCond .lt) off pc' tgt) (kt : x < 0 → XP M tgt lv st w Q) (kf : ¬ x < 0 → XP M pc' lv st w Q) : XP M pc lv (.int x :: st) w Q := by
  intro p l e R s m args below meth c D tc ad A H0 H locs cells slots Z ls C hc hsl hA hP hD hS hl hE
  obtain ⟨hd, rfl, ht⟩ := hd
  refine lv_if_lt C.1 C.2.1 hd ht (fun h => ?_) (fun h => ?_)
  · exact kt h p l e R s m args below meth c D tc ad A H0 H locs cells slots Z ls C hc hsl hA hP hD hS hl hE
  · exact kf h p l e R s m args below meth c D tc ad A H0 H locs cells slots Z ls C hc hsl hA hP hD hS hl hE
theorem x_icmp_lt {x y : Int32} (hd : xBr M pc (.if_icmp .lt) off pc' tgt) (kt : x < y → XP M tgt lv st w Q) (kf : ¬ x < y → XP M pc' lv st w Q) : XP M pc lv (.int y :: .int x :: st) w Q := by
  intro p l e R s m args below meth c D tc ad A H0 H locs cells slots Z ls C hc hsl hA hP hD hS hl hE
  obtain ⟨hd, rfl, ht⟩ := hd
  refine lv_icmp_lt C.1 C.2.1 hd ht (fun h => ?_) (fun h => ?_)
  · exact kt h p l e R s m args below meth c D tc ad A H0 H locs cells slots Z ls C hc hsl hA hP hD hS hl hE
  · exact kf h p l e R s m args below meth c D tc ad A H0 H locs cells slots Z ls C hc hsl hA hP hD hS hl hE
theorem x_if_ge {x : Int32} (hd : xBr M pc (.ifCond .ge) off pc' tgt) (kt : 0 ≤ x → XP M tgt lv st w Q) (kf : ¬ 0 ≤ x → XP M pc' lv st w Q) : XP M pc lv (.int x :: st) w Q := by
  intro p l e R s m args below meth c D tc ad A H0 H locs cells slots Z ls C hc hsl hA hP hD hS hl hE
  obtain ⟨hd, rfl, ht⟩ := hd
  refine lv_if_ge C.1 C.2.1 hd ht (fun h => ?_) (fun h => ?_)
  · exact kt h p l e R s m args below meth c D tc ad A H0 H locs cells slots Z ls C hc hsl hA hP hD hS hl hE
  · exact kf h p l e R s m args below meth c D tc ad A H0 H locs cells slots Z ls C hc hsl hA hP hD hS hl hE
theorem x_icmp_ge {x y : Int32} (hd : xBr M pc (.if_icmp .ge) off pc' tgt) (kt : y ≤ x → XP M tgt lv st w Q) (kf : ¬ y ≤ x → XP M pc' lv st w Q) : XP M pc lv (.int y :: .int x :: st) w Q := by
  intro p l e R s m args below meth c D tc ad A H0 H locs cells slots Z ls C hc hsl hA hP hD hS hl hE
  obtain ⟨hd, rfl, ht⟩ := hd
  refine lv_icmp_ge C.1 C.2.1 hd ht (fun h => ?_) (fun h => ?_)
  · exact kt h p l e R s m args below meth c D tc ad A H0 H locs cells slots Z ls C hc hsl hA hP hD hS hl hE
  · exact kf h p l e R s m args below meth c D tc ad A H0 H locs cells slots Z ls C hc hsl hA hP hD hS hl hE
theorem x_if_gt {x : Int32} (hd : xBr M pc (.ifCond .gt) off pc' tgt) (kt : 0 < x → XP M tgt lv st w Q) (kf : ¬ 0 < x → XP M pc' lv st w Q) : XP M pc lv (.int x :: st) w Q := by
  intro p l e R s m args below meth c D tc ad A H0 H locs cells slots Z ls C hc hsl hA hP hD hS hl hE
  obtain ⟨hd, rfl, ht⟩ := hd
  refine lv_if_gt C.1 C.2.1 hd ht (fun h => ?_) (fun h => ?_)
  · exact kt h p l e R s m args below meth c D tc ad A H0 H locs cells slots Z ls C hc hsl hA hP hD hS hl hE
  · exact kf h p l e R s m args below meth c D tc ad A H0 H locs cells slots Z ls C hc hsl hA hP hD hS hl hE
theorem x_icmp_gt {x y : Int32} (hd : xBr M pc (.if_icmp .gt) off pc' tgt) (kt : y < x → XP M tgt lv st w Q) (kf : ¬ y < x → XP M pc' lv st w Q) : XP M pc lv (.int y :: .int x :: st) w Q := by
  intro p l e R s m args below meth c D tc ad A H0 H locs cells slots Z ls C hc hsl hA hP hD hS hl hE
  obtain ⟨hd, rfl, ht⟩ := hd
  refine lv_icmp_gt C.1 C.2.1 hd ht (fun h => ?_) (fun h => ?_)
  · exact kt h p l e R s m args below meth c D tc ad A H0 H locs cells slots Z ls C hc hsl hA hP hD hS hl hE
  · exact kf h p l e R s m args below meth c D tc ad A H0 H locs cells slots Z ls C hc hsl hA hP hD hS hl hE
theorem x_if_le {x : Int32} (hd : xBr M pc (.ifCond .le) off pc' tgt) (kt : x ≤ 0 → XP M tgt lv st w Q) (kf : ¬ x ≤ 0 → XP M pc' lv st w Q) : XP M pc lv (.int x :: st) w Q := by
  intro p l e R s m args below meth c D tc ad A H0 H locs cells slots Z ls C hc hsl hA hP hD hS hl hE
  obtain ⟨hd, rfl, ht⟩ := hd
  refine lv_if_le C.1 C.2.1 hd ht (fun h => ?_) (fun h => ?_)
  · exact kt h p l e R s m args below meth c D tc ad A H0 H locs cells slots Z ls C hc hsl hA hP hD hS hl hE
  · exact kf h p l e R s m args below meth c D tc ad A H0 H locs cells slots Z ls C hc hsl hA hP hD hS hl hE
theorem x_icmp_le {x y : Int32} (hd : xBr M pc (.if_icmp .le) off pc' tgt) (kt : x ≤ y → XP M tgt lv st w Q) (kf : ¬ x ≤ y → XP M pc' lv st w Q) : XP M pc lv (.int y :: .int x :: st) w Q := by
  intro p l e R s m args below meth c D tc ad A H0 H locs cells slots Z ls C hc hsl hA hP hD hS hl hE
  obtain ⟨hd, rfl, ht⟩ := hd
  refine lv_icmp_le C.1 C.2.1 hd ht (fun h => ?_) (fun h => ?_)
  · exact kt h p l e R s m args below meth c D tc ad A H0 H locs cells slots Z ls C hc hsl hA hP hD hS hl hE
  · exact kf h p l e R s m args below meth c D tc ad A H0 H locs cells slots Z ls C hc hsl hA hP hD hS hl hE
theorem x_goto (hd : xBr M pc .goto off pc' tgt) (k : XP M tgt lv st w Q) : XP M pc lv st w Q := by
  intro p l e R s m args below meth c D tc ad A H0 H locs cells slots Z ls C hc hsl hA hP hD hS hl hE
  obtain ⟨hd, -, ht⟩ := hd
  refine lv_goto C.1 C.2.1 hd ht ?_
  exact k p l e R s m args below meth c D tc ad A H0 H locs cells slots Z ls C hc hsl hA hP hD hS hl hE
theorem x_vret (hd : xAt M pc .return_ 1 pc') (hr : M.2.2.2.1 = none) (hq : Q none w) : XP M pc lv [] w Q := by
  intro p l e R s m args below meth c D tc ad A H0 H locs cells slots Z ls C hc hsl hA hP hD hS hl hE
  exact hE none w H locs pc ls hq hP hS ⟨hr, hd.1⟩
theorem x_iret {x : Int32} {ty : FieldType} (hd : xAt M pc .ireturn 1 pc') (hr : M.2.2.2.1 = some ty) (hn : narrow ty (.int x) = .int x) (hq : Q (some (.int x)) w) : XP M pc lv [.int x] w Q := by
  intro p l e R s m args below meth c D tc ad A H0 H locs cells slots Z ls C hc hsl hA hP hD hS hl hE
  exact hE (some (.int x)) w H locs pc ls hq hP hS ⟨⟨ty, hr, hn⟩, hd.1⟩
theorem x_lret {x : Int64} (hd : xAt M pc .lreturn 1 pc') (hr : M.2.2.2.1 = some .long) (hq : Q (some (.long x)) w) : XP M pc lv [.long x] w Q := by
  intro p l e R s m args below meth c D tc ad A H0 H locs cells slots Z ls C hc hsl hA hP hD hS hl hE
  exact hE (some (.long x)) w H locs pc ls hq hP hS ⟨hr, hd.1⟩
theorem x_dret {x : UInt64} (hd : xAt M pc .dreturn 1 pc') (hr : M.2.2.2.1 = some .double) (hq : Q (some (.double x)) w) : XP M pc lv [.double x] w Q := by
  intro p l e R s m args below meth c D tc ad A H0 H locs cells slots Z ls C hc hsl hA hP hD hS hl hE
  exact hE (some (.double x)) w H locs pc ls hq hP hS ⟨hr, hd.1⟩
theorem x_topi {x : Int32} (k : ∀ y : Int32, y = x → XP M pc lv (.int y :: st) w Q) : XP M pc lv (.int x :: st) w Q := k x rfl
theorem x_topl {x : Int64} (k : ∀ y : Int64, y = x → XP M pc lv (.long y :: st) w Q) : XP M pc lv (.long x :: st) w Q := k x rfl
theorem x_topd {x : UInt64} (k : ∀ y : UInt64, y = x → XP M pc lv (.double y :: st) w Q) : XP M pc lv (.double x :: st) w Q := k x rfl
/-- the link (own, index) is slot f of kind ci -/
def xFld (own : String) (index ci f : Nat) : Prop := ∃ (C : String) (T : u_T) (N : Nat), vwCl[ci]? = some (C, T, N) ∧ f < N ∧ (∀ w ∈ u_ws C T N, w ∈ xTs) ∧ (T f).1 = C ∧ (Cond.fieldLink own index C (T f).2.1 (T f).2.2.1 ∈ xTs ∨ ∃ host, Cond.fieldLinkNest own index C (T f).2.1 (T f).2.2.1 host ∈ xNs)
/-- and may be written with values of type ty -/
def xFldW (ci f : Nat) (ty : FieldType) : Prop := ∃ (C : String) (T : u_T) (N : Nat) (t : Nat → FieldType), vwCl[ci]? = some (C, T, N) ∧ (∀ k, k < N → parseFieldDescriptor (T k).2.2.1 = some (t k)) ∧ (∀ a, a < N → ∀ b, b < N → a ≠ b → (T a).2.1 ≠ (T b).2.1) ∧ (T f).2.2.2 = false ∧ parseFieldDescriptor (T f).2.2.1 = some ty
theorem xE_obj {tc ad : Nat → Nat} {w : xW} {k ci : Nat} {fs : List Value} (hk : k < xN) (hw : w k = .inr (ci, fs)) : (xws tc ad w)[k]? = some (ad k, .inr (ci, fs.map (xv ad))) := by rw [xws_at hk, hw]; rfl
theorem x_getf {k ci i f : Nat} {fs : List Value} {v : Value} (hd : xAt M pc (.getfield i) 3 pc') (hF : xFld M.1.cls i ci f) (hw : w k = .inr (ci, fs)) (hk : k < xN) (hv : fs[f]? = some v) (kk : XP M pc' lv (v :: st) w Q) : XP M pc lv (.ref k :: st) w Q := by
  intro p l e R s m args below meth c D tc ad A H0 H locs cells slots Z ls C hc hsl hA hP hD hS hl hE
  obtain ⟨hd, rfl⟩ := hd
  obtain ⟨CN, T, N, h1, h2, h3, h4, h5⟩ := hF
  have hv' : (fs.map (xv ad))[f]? = some (xv ad v) := by rw [List.getElem?_map, hv]; rfl
  rcases h5 with h5 | ⟨host, h5⟩
  · refine va_get C.1 C.2.1 C.2.2.2.2.1 h3 C.2.2.2.1 C.2.2.2.2.2.2.1 hP k (xE_obj hk hw) h1 f h2 (C.2.2.2.2.1 _ h5) (fun x h => by rw [h4] at h; exact h) hv' hd ?_
    exact kk p l e R s m args below meth c D tc ad A H0 H locs cells slots Z ls C hc hsl hA hP hD hS hl hE
  · refine va_getN C.1 C.2.1 C.2.2.2.2.1 h3 C.2.2.2.1 C.2.2.2.2.2.2.1 hP k (xE_obj hk hw) h1 f h2 (va_Nw.use rfl (C.2.2.2.2.2.1 _ h5)) (fun x h => by rw [h4] at h; exact h) hv' hd ?_
    exact kk p l e R s m args below meth c D tc ad A H0 H locs cells slots Z ls C hc hsl hA hP hD hS hl hE
theorem x_putf {k ci i f : Nat} {fs : List Value} {x : Int32} {ty : FieldType} (hd : xAt M pc (.putfield i) 3 pc') (hF : xFld M.1.cls i ci f) (hFW : xFldW ci f ty) (hw : w k = .inr (ci, fs)) (hk : k < xN) (hn : narrow ty (.int x) = .int x) (hf : fits ty (.int x) = true) (hfl : f < fs.length) (kk : XP M pc' lv st (xup w k (.inr (ci, fs.set f (.int x)))) Q) : XP M pc lv (.int x :: .ref k :: st) w Q := by
  intro p l e R s m args below meth c D tc ad A H0 H locs cells slots Z ls C hc hsl hA hP hD hS hl hE
  obtain ⟨hd, rfl⟩ := hd
  obtain ⟨CN, T, N, h1, h2, h3, h4, h5⟩ := hF
  obtain ⟨CN', T', N', t, g1, g2, g3, g4, g5⟩ := hFW
  rw [h1] at g1
  obtain ⟨rfl, rfl, rfl⟩ : CN = CN' ∧ T = T' ∧ N = N' := by
    have := Option.some.inj g1
    exact ⟨congrArg Prod.fst this, congrArg (fun q => q.2.1) this, congrArg (fun q => q.2.2) this⟩
  have hset : (xws tc ad w).set k (ad k, .inr (ci, (fs.map (xv ad)).set f (.int x))) = xws tc ad (xup w k (.inr (ci, fs.set f (.int x)))) := by
    rw [← xws_set hk]
    show _ = (xws tc ad w).set k (ad k, .inr (ci, (fs.set f (.int x)).map (xv ad)))
    rw [List.map_set]; rfl
  have hfl' : f < (fs.map (xv ad)).length := by rw [List.length_map]; exact hfl
  rcases h5 with h5 | ⟨host, h5⟩
  · refine va_put C.1 C.2.1 C.2.2.2.2.1 h3 t g2 g3 C.2.2.2.1 C.2.2.2.2.2.2.1 hP (hD.d w) hS k (xE_obj hk hw) h1 f h2 (C.2.2.2.2.1 _ h5) (fun x h => by rw [h4] at h; exact h) g4 g5 hn hf hfl' hd (fun H locs hP _ hS => ?_)
    have hP : va_P D vwCl ((xws tc ad w).set k (ad k, .inr (ci, (fs.map (xv ad)).set f (.int x)))) H := hP
    rw [hset] at hP
    exact kk p l e R s m args below meth c D tc ad A H0 H locs cells slots Z ls C hc hsl hA hP hD hS hl hE
  · refine va_putN C.1 C.2.1 C.2.2.2.2.1 h3 t g2 g3 C.2.2.2.1 C.2.2.2.2.2.2.1 hP (hD.d w) hS k (xE_obj hk hw) h1 f h2 (va_Nw.use rfl (C.2.2.2.2.2.1 _ h5)) (fun x h => by rw [h4] at h; exact h) g4 g5 hn hf hfl' hd (fun H locs hP _ hS => ?_)
    have hP : va_P D vwCl ((xws tc ad w).set k (ad k, .inr (ci, (fs.map (xv ad)).set f (.int x)))) H := hP
    rw [hset] at hP
    exact kk p l e R s m args below meth c D tc ad A H0 H locs cells slots Z ls C hc hsl hA hP hD hS hl hE
theorem x_iald {a n j : Nat} {f : Nat → Int32} {i : Int32} (hd : xAt M pc .iaload 1 pc') (hw : w a = .inl (0, n, .inl f)) (ha : a < xN) (hi : i = nI j) (hj : j < n) (hn : n < 2 ^ 31) (kk : XP M pc' lv (.int (f j) :: st) w Q) : XP M pc lv (.int i :: .ref a :: st) w Q := by
  intro p l e R s m args below meth c D tc ad A H0 H locs cells slots Z ls C hc hsl hA hP hD hS hl hE
  obtain ⟨hd, rfl⟩ := hd
  subst hi
  have he : (xws tc ad w)[a]? = some (ad a, .inl (tc 0, n, .inl f)) := by rw [xws_at ha, hw]; rfl
  refine va_iald C.1 C.2.1 C.2.2.2.2.2.2.1 hP a 0 he rfl (vp_in_nI hj hn) hd ?_
  rw [nI_clamp (by omega)]
  exact kk p l e R s m args below meth c D tc ad A H0 H locs cells slots Z ls C hc hsl hA hP hD hS hl hE
theorem x_iast {a n j : Nat} {f : Nat → Int32} {i : Int32} {x : Int32} (hd : xAt M pc .iastore 1 pc') (hw : w a = .inl (0, n, .inl f)) (ha : a < xN) (hi : i = nI j) (hj : j < n) (hn : n < 2 ^ 31) (kk : XP M pc' lv st (xup w a (.inl (0, n, .inl (upd f j x)))) Q) : XP M pc lv (.int x :: .int i :: .ref a :: st) w Q := by
  intro p l e R s m args below meth c D tc ad A H0 H locs cells slots Z ls C hc hsl hA hP hD hS hl hE
  obtain ⟨hd, rfl⟩ := hd
  subst hi
  have he : (xws tc ad w)[a]? = some (ad a, .inl (tc 0, n, .inl f)) := by rw [xws_at ha, hw]; rfl
  refine va_iast C.1 C.2.1 C.2.2.2.2.2.2.1 hP (hD.d w) hS a 0 he rfl (vp_in_nI hj hn) hd (fun H locs hP _ hS => ?_)
  rw [nI_clamp (by omega)] at hP
  have hP := (xws_set (tc := tc) (ad := ad) (w := w) (e := .inl (0, n, .inl (upd f j x))) ha) ▸ hP
  exact kk p l e R s m args below meth c D tc ad A H0 H locs cells slots Z ls C hc hsl hA hP hD hS hl hE
theorem x_zald {a n j : Nat} {f : Nat → Int32} {i : Int32} (hd : xAt M pc .baload 1 pc') (hw : w a = .inl (3, n, .inl f)) (ha : a < xN) (hi : i = nI j) (hj : j < n) (hn : n < 2 ^ 31) (kk : XP M pc' lv (.int (f j) :: st) w Q) : XP M pc lv (.int i :: .ref a :: st) w Q := by
  intro p l e R s m args below meth c D tc ad A H0 H locs cells slots Z ls C hc hsl hA hP hD hS hl hE
  obtain ⟨hd, rfl⟩ := hd
  subst hi
  have he : (xws tc ad w)[a]? = some (ad a, .inl (tc 3, n, .inl f)) := by rw [xws_at ha, hw]; rfl
  refine va_zald C.1 C.2.1 C.2.2.2.2.2.2.1 hP a 3 he rfl (vp_in_nI hj hn) hd ?_
  rw [nI_clamp (by omega)]
  exact kk p l e R s m args below meth c D tc ad A H0 H locs cells slots Z ls C hc hsl hA hP hD hS hl hE
theorem x_zast {a n j : Nat} {f : Nat → Int32} {i : Int32} {x : Int32} (hd : xAt M pc .bastore 1 pc') (hw : w a = .inl (3, n, .inl f)) (ha : a < xN) (hi : i = nI j) (hj : j < n) (hn : n < 2 ^ 31) (kk : XP M pc' lv st (xup w a (.inl (3, n, .inl (upd f j (vp_nar .boolean x))))) Q) : XP M pc lv (.int x :: .int i :: .ref a :: st) w Q := by
  intro p l e R s m args below meth c D tc ad A H0 H locs cells slots Z ls C hc hsl hA hP hD hS hl hE
  obtain ⟨hd, rfl⟩ := hd
  subst hi
  have he : (xws tc ad w)[a]? = some (ad a, .inl (tc 3, n, .inl f)) := by rw [xws_at ha, hw]; rfl
  refine va_zast C.1 C.2.1 C.2.2.2.2.2.2.1 hP (hD.d w) hS a 3 he rfl (vp_in_nI hj hn) hd (fun H locs hP _ hS => ?_)
  rw [nI_clamp (by omega)] at hP
  have hP := (xws_set (tc := tc) (ad := ad) (w := w) (e := .inl (3, n, .inl (upd f j (vp_nar .boolean x)))) ha) ▸ hP
  exact kk p l e R s m args below meth c D tc ad A H0 H locs cells slots Z ls C hc hsl hA hP hD hS hl hE
theorem x_lald {a n j : Nat} {f : Nat → Int64} {i : Int32} (hd : xAt M pc .laload 1 pc') (hw : w a = .inl (1, n, .inr (.inl f))) (ha : a < xN) (hi : i = nI j) (hj : j < n) (hn : n < 2 ^ 31) (kk : XP M pc' lv (.long (f j) :: st) w Q) : XP M pc lv (.int i :: .ref a :: st) w Q := by
  intro p l e R s m args below meth c D tc ad A H0 H locs cells slots Z ls C hc hsl hA hP hD hS hl hE
  obtain ⟨hd, rfl⟩ := hd
  subst hi
  have he : (xws tc ad w)[a]? = some (ad a, .inl (tc 1, n, .inr (.inl f))) := by rw [xws_at ha, hw]; rfl
  refine va_lald C.1 C.2.1 C.2.2.2.2.2.2.1 hP a 1 he rfl (vp_in_nI hj hn) hd ?_
  rw [nI_clamp (by omega)]
  exact kk p l e R s m args below meth c D tc ad A H0 H locs cells slots Z ls C hc hsl hA hP hD hS hl hE
theorem x_last {a n j : Nat} {f : Nat → Int64} {i : Int32} {x : Int64} (hd : xAt M pc .lastore 1 pc') (hw : w a = .inl (1, n, .inr (.inl f))) (ha : a < xN) (hi : i = nI j) (hj : j < n) (hn : n < 2 ^ 31) (kk : XP M pc' lv st (xup w a (.inl (1, n, .inr (.inl (vp_updL f j x))))) Q) : XP M pc lv (.long x :: .int i :: .ref a :: st) w Q := by
  intro p l e R s m args below meth c D tc ad A H0 H locs cells slots Z ls C hc hsl hA hP hD hS hl hE
  obtain ⟨hd, rfl⟩ := hd
  subst hi
  have he : (xws tc ad w)[a]? = some (ad a, .inl (tc 1, n, .inr (.inl f))) := by rw [xws_at ha, hw]; rfl
  refine va_last C.1 C.2.1 C.2.2.2.2.2.2.1 hP (hD.d w) hS a 1 he rfl (vp_in_nI hj hn) hd (fun H locs hP _ hS => ?_)
  rw [nI_clamp (by omega)] at hP
  have hP := (xws_set (tc := tc) (ad := ad) (w := w) (e := .inl (1, n, .inr (.inl (vp_updL f j x)))) ha) ▸ hP
  exact kk p l e R s m args below meth c D tc ad A H0 H locs cells slots Z ls C hc hsl hA hP hD hS hl hE
theorem x_dald {a n j : Nat} {f : Nat → UInt64} {i : Int32} (hd : xAt M pc .daload 1 pc') (hw : w a = .inl (2, n, .inr (.inr (.inr (.inl f))))) (ha : a < xN) (hi : i = nI j) (hj : j < n) (hn : n < 2 ^ 31) (kk : XP M pc' lv (.double (f j) :: st) w Q) : XP M pc lv (.int i :: .ref a :: st) w Q := by
  intro p l e R s m args below meth c D tc ad A H0 H locs cells slots Z ls C hc hsl hA hP hD hS hl hE
  obtain ⟨hd, rfl⟩ := hd
  subst hi
  have he : (xws tc ad w)[a]? = some (ad a, .inl (tc 2, n, .inr (.inr (.inr (.inl f))))) := by rw [xws_at ha, hw]; rfl
  refine va_dald C.1 C.2.1 C.2.2.2.2.2.2.1 hP a 2 he rfl (vp_in_nI hj hn) hd ?_
  rw [nI_clamp (by omega)]
  exact kk p l e R s m args below meth c D tc ad A H0 H locs cells slots Z ls C hc hsl hA hP hD hS hl hE
theorem x_dast {a n j : Nat} {f : Nat → UInt64} {i : Int32} {x : UInt64} (hd : xAt M pc .dastore 1 pc') (hw : w a = .inl (2, n, .inr (.inr (.inr (.inl f))))) (ha : a < xN) (hi : i = nI j) (hj : j < n) (hn : n < 2 ^ 31) (kk : XP M pc' lv st (xup w a (.inl (2, n, .inr (.inr (.inr (.inl (vf_upd f j x))))))) Q) : XP M pc lv (.double x :: .int i :: .ref a :: st) w Q := by
  intro p l e R s m args below meth c D tc ad A H0 H locs cells slots Z ls C hc hsl hA hP hD hS hl hE
  obtain ⟨hd, rfl⟩ := hd
  subst hi
  have he : (xws tc ad w)[a]? = some (ad a, .inl (tc 2, n, .inr (.inr (.inr (.inl f))))) := by rw [xws_at ha, hw]; rfl
  refine va_dast C.1 C.2.1 C.2.2.2.2.2.2.1 hP (hD.d w) hS a 2 he rfl (vp_in_nI hj hn) hd (fun H locs hP _ hS => ?_)
  rw [nI_clamp (by omega)] at hP
  have hP := (xws_set (tc := tc) (ad := ad) (w := w) (e := .inl (2, n, .inr (.inr (.inr (.inl (vf_upd f j x)))))) ha) ▸ hP
  exact kk p l e R s m args below meth c D tc ad A H0 H locs cells slots Z ls C hc hsl hA hP hD hS hl hE
theorem x_rald {t a n j k : Nat} {C9 : String} {f : Nat → Option Nat} {i : Int32} (hd : xAt M pc .aaload 1 pc') (hw : w a = .inl (t, n, .inr (.inr (.inr (.inr f))))) (ht : (t = 4 ∧ C9 = "ParcelMap$Parcel") ∨ (t = 5 ∧ C9 = "ParcelMap$Wide")) (ha : a < xN) (hi : i = nI j) (hj : j < n) (hn : n < 2 ^ 31) (hf : f j = some k) (kk : XP M pc' lv (.ref k :: st) w Q) : XP M pc lv (.int i :: .ref a :: st) w Q := by
  intro p l e R s m args below meth c D tc ad A H0 H locs cells slots Z ls C hc hsl hA hP hD hS hl hE
  obtain ⟨hd, rfl⟩ := hd
  subst hi
  have he : (xws tc ad w)[a]? = some (ad a, .inl (tc t, n, .inr (.inr (.inr (.inr (fun j => (f j).map ad)))))) := by rw [xws_at ha, hw]; rfl
  have ht' : (xtys tc)[t]? = some (tc t, .object C9) := by rcases ht with ⟨rfl, rfl⟩ | ⟨rfl, rfl⟩ <;> rfl
  refine va_aldq C.1 C.2.1 C.2.2.2.2.2.2.1 hP a t he ht' (vp_in_nI hj hn) hd ?_
  rw [nI_clamp (by omega)]
  simp only [hf, Option.map_some, va_rf]
  exact kk p l e R s m args below meth c D tc ad A H0 H locs cells slots Z ls C hc hsl hA hP hD hS hl hE
end XR
end
section
theorem xlv_args (ad : Nat → Nat) : ∀ (av : List Value) (i : Nat), lv_args i (av.map (xv ad)) = xlv ad (lv_args i av) := by
  intro av
  induction av with
  | nil => intro i; rfl
  | cons v t ih =>
    intro i
    show (i, xv ad v) :: lv_args (if (xv ad v).category = 2 then i + 2 else i + 1) (t.map (xv ad)) = _
    rw [xv_cat, ih]
    rfl
theorem lg_sl_len (ad : Nat → Nat) (av : List Value) : (lg_sl (av.map (xv ad))).length = (lg_sl av).length := by
  unfold lg_sl
  induction av with
  | nil => rfl
  | cons v t ih =>
    simp only [List.map_cons, List.flatMap_cons, List.length_append, xv_cat, ih]
    split <;> rfl
theorem xcat_sum (ad : Nat → Nat) (st : List Value) : ((st.map (xv ad)).map fun v => v.category).sum = (st.map fun v => v.category).sum := by
  rw [List.map_map]
  congr 2
  funext v
  exact xv_cat ad v
theorem xNw.moved {s U : State} (hW : s.WarmedH U.vm) (h : xNw s) : xNw U := by
  intro q hq
  have hb : xNb q = true := (List.mem_filter.mp hq).2
  have h1 := h q hq
  cases q with
  | fieldLinkNest a i b n d h0 => exact va_Nw.warmF hW h1
  | _ => simp [xNb] at hb
theorem xNw.same {s U : State} (hW : s.vm = U.vm) (h : xNw s) : xNw U := by
  intro q hq
  have hb : xNb q = true := (List.mem_filter.mp hq).2
  have h1 := h q hq
  cases q with
  | fieldLinkNest a i b n d h0 => exact va_Nw.same rfl hW h1
  | _ => simp [xNb] at hb
/-- a method's start, in a world w at places ad -/
def xPre (D : va_G) (tc ad : Nat → Nat) (sz : Nat) (w : xW) (U : State) : Prop := U.heap.size = sz ∧ va_P D vwCl (xws tc ad w) U.heap ∧ va_K D vwCl (xtys tc) U ∧ xNw U ∧ ∀ i j, i < xN → j < xN → ad i = ad j → i = j
def xPost (D : va_G) (tc ad : Nat → Nat) (A : Nat → Prop) (Q : Option Value → xW → Prop) : Array Value → State → Outcome → State → Prop := fun _ st oc t => (∃ (r : Option Value) (w' : xW), oc = .returned (r.map (xv ad)) ∧ Q r w' ∧ va_P D vwCl (xws tc ad w') t.heap) ∧ va_F A st t
theorem x_met {M : xM} {av : List Value} {w : xW} {Q : Option Value → xW → Prop} (hS : XP M 0 (lv_args 0 av) [] w Q) (hav : (lg_sl av).length ≤ M.2.2.1) (hy : plainName M.1.cls = true) (l : Launch) (D : va_G) (tc ad : Nat → Nat) (sz : Nat) :
    Met l M.1 (xWs M) (xRm M.2.2.2.2) (va_Pc (av.map (xv ad)) (xPre D tc ad sz w)) (xPost D tc ad (va_A (xws tc ad w) sz) Q) 0 0 (va_A (xws tc ad w) sz) := by
  refine Met.ofW (cc := M.2.1) (maxL := M.2.2.1) (ret := M.2.2.2.1) hy rfl ?_
  intro p e s m args below meth c s₁ B hml hv
  obtain ⟨rfl, hsz, hP, hK, hNw, hinj⟩ := hv
  have hx := B.exec
  have hb := B.bytes
  have hr := B.returns
  have hts := atoms_spec (ws := xWs M) B.pre
  have hown : s.vm.findClass M.1.cls = some m.cls := findClass_of_methodNamed B.named
  have hlocks := B.notSynchronized
  subst hsz
  have hD : xD ad (va_A (xws tc ad w) s.heap.size) := ⟨hinj, fun k hk => va_A.in (xws_at hk)⟩
  have hl := lv_entry (av.map (xv ad)) (n := M.2.2.1) (by rw [lg_sl_len]; exact hav)
  rw [lg_entry_eq]
  rw [xlv_args] at hl
  refine hS p l e _ s m _ below meth c D tc ad (va_A (xws tc ad w) s.heap.size) s.heap s.heap [] 0 0 _ _ ⟨hx, hb, hml, hown, fun w h => hts w (List.mem_cons_of_mem _ h), hNw, hK, Nat.le_refl _, Nat.le_refl _⟩ (Nat.zero_le _) (Nat.zero_le _) (fun q h => Or.inr h) hP hD va_S.rf hl ?_
  intro r w' H' locs' pc' ls' hq hP' hS' hR
  cases r with
  | none => exact W.vret hx hb (hr.trans hR.1) (fun t ht hW => ⟨⟨none, w', rfl, hq, by rw [ht]; exact hP'⟩, hS'.F ht⟩) hS'.2.2 hR.2 (hlocks := hlocks)
  | some v =>
    cases v with
    | int x =>
      obtain ⟨⟨ty, h1, h2⟩, h3⟩ := hR
      exact W.zret hx hb (hr.trans h1) h2 (fun t ht hW => ⟨⟨some (.int x), w', rfl, hq, by rw [ht]; exact hP'⟩, hS'.F ht⟩) hS'.2.2 h3 (hlocks := hlocks)
    | long x => exact W.lret hx hb (hr.trans hR.1) (fun t ht hW => ⟨⟨some (.long x), w', rfl, hq, by rw [ht]; exact hP'⟩, hS'.F ht⟩) hS'.2.2 hR.2 (hlocks := hlocks)
    | double x => exact W.dret hx hb (hr.trans hR.1) (fun t ht hW => ⟨⟨some (.double x), w', rfl, hq, by rw [ht]; exact hP'⟩, hS'.F ht⟩) hS'.2.2 hR.2 (hlocks := hlocks)
    | float x => exact absurd hR id
    | null => exact absurd hR id
    | ref x => exact absurd hR id
    | retAddr x => exact absurd hR id
/-- what the tables say of a call's link -/
def xLnk (own : String) (index : Nat) (M : xM) (n : Nat) : Prop := Cond.methodLink own index M.1 ∈ xTs ∧ Cond.initialized M.1.cls ∈ xTs ∧ Cond.code M.1 M.2.1 M.2.2.1 M.2.2.2.1 ∈ xTs ∧ plainName M.1.cls = true ∧ M.1.cls ≠ "java/lang/invoke/MethodHandle" ∧ M.1.cls ≠ "java/lang/invoke/VarHandle" ∧ (parseMethodDescriptor M.1.desc).map (fun d => d.parameters.length) = some n
def xLnkV (own : String) (index : Nat) (M : xM) (ci n : Nat) : Prop := xLnk own index M n ∧ Cond.instanceMethod M.1 ∈ xTs ∧ Cond.selects M.1.cls M.1 M.1 ∈ xTs ∧ vwCl[ci]?.map Prod.fst = some M.1.cls
def xLnkS (own : String) (index : Nat) (M : xM) (n : Nat) : Prop := xLnk own index M n ∧ Cond.static M.1 ∈ xTs
def xFit (M M' : xM) : Prop := M'.2.2.2.2 + 1 ≤ M.2.2.2.2 ∧ M'.2.2.1 ≤ 26
theorem xWs_good {M : xM} (h : Cond.code M.1 M.2.1 M.2.2.1 M.2.2.2.1 ∈ xTs) : GoodIn xTs (xWs M) := by
  intro w hw
  rcases List.mem_cons.mp hw with rfl | hw
  · exact xTs_good _ h
  · exact xTs_good _ hw
theorem x_callB {M M' : xM} {own : String} {index n : Nat} {R : Room} {s : State} {args : Array Value} (hts : ∀ w ∈ xTs, w.before args s = true) (hL : xLnk own index M' n) (hF : xFit M M') (h1 : M.2.2.2.2 ≤ R.frames) (h2 : 45 * M.2.2.2.2 ≤ R.locals) : CallB R s args own index M'.1 M'.2.1 M'.2.2.1 M'.2.2.2.1 (xWs M') (xRm M'.2.2.2.2) 0 0 n := by
  obtain ⟨a1, a2, a3, a4, a5, a6, a7⟩ := hL
  obtain ⟨f1, f2⟩ := hF
  refine callB_of n hts (xWs_good a3) rfl rfl rfl (hts _ a2) (hts _ a1) ⟨a5, a6, a7⟩ ⟨?_, ?_⟩
  · show M'.2.2.2.2 + 1 ≤ R.frames
    omega
  · show 8 + (M'.2.2.1 + 11) + 45 * M'.2.2.2.2 ≤ R.locals
    omega
theorem x_frameblind {D : va_G} {tc ad : Nat → Nat} {sz : Nat} {w : xW} {av : List Value} : FrameBlind (va_Pc av (xPre D tc ad sz w)) := by
  intro a U g mk q
  obtain ⟨q0, q1, qP, qK, qN, qi⟩ := q
  exact ⟨q0, q1, qP, va_K.moved (u := U) (U := U.calling g mk a) (Vm.Alike.refl U.vm) qK, xNw.same (s := U) (U := U.calling g mk a) rfl qN, qi⟩
section XCALL
variable {M M' : xM} {pc pc' index n : Nat} {lv : List (Nat × Value)} {rest st As : List Value} {w : xW} {Q Q' : Option Value → xW → Prop}
/-- behind a call: the world that came back, nothing else changed -/
theorem x_back {p : Program} {l : Launch} {e : Env} {R : Room} {s : State} {m : MethodId} {args : Array Value} {below : List Frame} {meth : Method} {c : Code} {D : va_G} {tc ad : Nat → Nat} {A : Nat → Prop} {H0 H : Heap} {locs : List Loc} {cells slots : Nat} {Z : State → Prop} {ls : Array Slot} {a : Array Value} {st0 rest0 : List Value}
    (hr : va_Run p l e R s m args below meth c H locs cells slots 0 0 (F0 m pc ls st0) rest0 (xPost D tc ad (va_A (xws tc ad w) H.size) Q' a) (va_A (xws tc ad w) H.size)) (hA : ∀ q, H0.size ≤ q → A q) (hD : xD ad A) (hS : va_S A H0 H locs)
    (kk : ∀ (r : Option Value) (w' : xW) (H1 : Heap) (locs1 : List Loc), Q' r w' → va_P D vwCl (xws tc ad w') H1 → va_S A H0 H1 locs1 → W p l e R s m args below meth c H1 locs1 cells slots Z (F0 m (pc + 3) ls ((r.map (xv ad)).toList ++ rest0))) : W p l e R s m args below meth c H locs cells slots Z (F0 m pc ls st0) := by
  have hF : ∀ q, va_A (xws tc ad w) H.size q → A q := by
    intro q h
    rcases h with ⟨k, e, h⟩ | h
    · obtain ⟨h1, h2⟩ := xws_lt h
      have : q = ad k := congrArg Prod.fst h2
      rw [this]
      exact hD.2 k h1
    · exact hA q (Nat.le_trans hS.1 h)
  intro T hT X
  obtain ⟨v, st₀, t, T', L, h0, X', hL, e1, e2, ⟨⟨r, w', hv, hq, hP'⟩, hz, hk⟩, st⟩ := hr T hT X
  cases hv
  rw [h0] at hz hk
  have hS' : va_S A H0 T'.heap (locs ++ L) := ⟨Nat.le_trans hS.1 (by rw [e1]; exact hz), fun q h1 h2 => by rw [e1, hk q (Nat.lt_of_lt_of_le h1 hS.1) (fun z => h2 (hF q z))]; exact hS.2.1 q h1 h2, fun q hq => by
      rcases List.mem_append.mp hq with h | h
      · exact hS.2.2 q h
      · exact hF _ (hL q h)⟩
  obtain ⟨t2, a1, b1⟩ := kk r w' T'.heap (locs ++ L) hq (by rw [e1]; exact hP') hS' T' rfl X'
  exact ⟨t2, st t2 a1, b1⟩
theorem x_callV {b ci : Nat} {fs : List Value} (hd : xAt M pc (.invokevirtual index) 3 pc') (hL : xLnkV M.1.cls index M' ci n) (hF : xFit M M') (hw : w b = .inr (ci, fs)) (hb : b < xN) (hn : As.length = n) (hst : st = As.reverse ++ .ref b :: rest) (hr : (rest.map fun v => v.category).sum ≤ 8) (hav : (lg_sl (.ref b :: As)).length ≤ M'.2.2.1)
    (hS' : XP M' 0 (lv_args 0 (.ref b :: As)) [] w Q') (kk : ∀ r w', Q' r w' → XP M pc' lv (r.toList ++ rest) w' Q) : XP M pc lv st w Q := by
  intro p l e R s m args below meth c D tc ad A H0 H locs cells slots Z ls C hc hsl hA hP hD hS hl hE
  obtain ⟨hd, rfl⟩ := hd
  subst hst
  obtain ⟨hL, hi, hse, hcl⟩ := hL
  have hmet := x_met hS' hav hL.2.2.2.1 l D tc ad H.size
  have hcb := x_callB (M := M) C.2.2.2.2.1 hL hF C.2.2.2.2.2.2.2.1 C.2.2.2.2.2.2.2.2
  obtain ⟨⟨CN, T, N⟩, hcl, hcn⟩ : ∃ q : vw_C, vwCl[ci]? = some q ∧ q.1 = M'.1.cls := by
    cases h : vwCl[ci]? with
    | none => rw [h] at hcl; cases hcl
    | some q => rw [h] at hcl; exact ⟨q, rfl, Option.some.inj hcl⟩
  have hrecv := va_recv C.2.2.2.2.2.2.1 hP hcl (xE_obj hb hw)
  rw [hcn] at hrecv
  refine x_back (w := w) (Q' := Q') (va_runV (As := As.map (xv ad)) (rest := rest.map (xv ad)) (b := ad b) (C := M'.1.cls) ⟨C.1, C.2.1, C.2.2.1, C.2.2.2.1, C.2.2.2.2.1⟩ hmet ⟨hcb, C.2.2.2.2.1 _ hi, C.2.2.2.2.1 _ hse⟩ ⟨x_frameblind, hrecv, fun U hU hW => ⟨rfl, by rw [hU], by rw [hU]; exact hP, va_K.moved hW.alike C.2.2.2.2.2.2.1, xNw.moved hW C.2.2.2.2.2.1, hD.1⟩⟩ rfl (by rw [List.length_map]; exact hn) hl.1 (by show List.map (xv ad) (As.reverse ++ .ref b :: rest) = _; rw [List.map_append, List.map_reverse]; rfl) (by show 2 * 0 + _ ≤ 8; rw [xcat_sum]; omega) hd ⟨hc, hsl⟩) hA hD hS (fun r w' H locs hq hP hS => ?_)
  have h9 := kk r w' hq p l e R s m args below meth c D tc ad A H0 H locs cells slots Z ls C hc hsl hA hP hD hS hl hE
  rw [List.map_append] at h9
  cases r <;> exact h9
theorem x_callS (hd : xAt M pc (.invokestatic index) 3 pc') (hL : xLnkS M.1.cls index M' n) (hF : xFit M M') (hn : As.length = n) (hst : st = As.reverse ++ rest) (hr : (rest.map fun v => v.category).sum ≤ 8) (hav : (lg_sl As).length ≤ M'.2.2.1)
    (hS' : XP M' 0 (lv_args 0 As) [] w Q') (kk : ∀ r w', Q' r w' → XP M pc' lv (r.toList ++ rest) w' Q) : XP M pc lv st w Q := by
  intro p l e R s m args below meth c D tc ad A H0 H locs cells slots Z ls C hc hsl hA hP hD hS hl hE
  obtain ⟨hd, rfl⟩ := hd
  subst hst
  obtain ⟨hL, hi⟩ := hL
  have hmet := x_met hS' hav hL.2.2.2.1 l D tc ad H.size
  have hcb := x_callB (M := M) C.2.2.2.2.1 hL hF C.2.2.2.2.2.2.2.1 C.2.2.2.2.2.2.2.2
  refine x_back (w := w) (Q' := Q') (va_runS (As := As.map (xv ad)) (rest := rest.map (xv ad)) ⟨C.1, C.2.1, C.2.2.1, C.2.2.2.1, C.2.2.2.2.1⟩ hmet ⟨hcb, C.2.2.2.2.1 _ hi⟩ ⟨x_frameblind, fun U hU hW => ⟨rfl, by rw [hU], by rw [hU]; exact hP, va_K.moved hW.alike C.2.2.2.2.2.2.1, xNw.moved hW C.2.2.2.2.2.1, hD.1⟩⟩ rfl (by rw [List.length_map]; exact hn) hl.1 (by show List.map (xv ad) (As.reverse ++ rest) = _; rw [List.map_append, List.map_reverse]) (by show 2 * 0 + _ ≤ 8; rw [xcat_sum]; omega) hd ⟨hc, hsl⟩) hA hD hS (fun r w' H locs hq hP hS => ?_)
  have h9 := kk r w' hq p l e R s m args below meth c D tc ad A H0 H locs cells slots Z ls C hc hsl hA hP hD hS hl hE
  rw [List.map_append] at h9
  cases r <;> exact h9
theorem x_l2dbits {x : Int64} (hd : xAt M pc (.invokestatic index) 3 pc') (hlink : Cond.methodLink M.1.cls index ⟨"java/lang/Double", "longBitsToDouble", "(J)D"⟩ ∈ xTs) (hnat : Cond.native ⟨"java/lang/Double", "longBitsToDouble", "(J)D"⟩ ∈ xTs) (hstat : Cond.static ⟨"java/lang/Double", "longBitsToDouble", "(J)D"⟩ ∈ xTs) (hinit : Cond.initialized "java/lang/Double" ∈ xTs) (hv : vn_snl2d x = false) (hf : 1 ≤ M.2.2.2.2) (hr : (rest.map fun v => v.category).sum ≤ 8) (kk : XP M pc' lv (.double x.toUInt64 :: rest) w Q) : XP M pc lv (.long x :: rest) w Q := by
  intro p l e R s m args below meth c D tc ad A H0 H locs cells slots Z ls C hc hsl hA hP hD hS hl hE
  obtain ⟨hd, rfl⟩ := hd
  have h1 := C.2.2.2.2.2.2.2.1
  have h2 := C.2.2.2.2.2.2.2.2
  refine vn_l2d C.1 C.2.1 (C.2.2.1.trans hl.1.symm) C.2.2.2.1 (C.2.2.2.2.1 _ hlink) (C.2.2.2.2.1 _ hnat) (C.2.2.2.2.1 _ hstat) (C.2.2.2.2.1 _ hinit) hv (by omega) (by rw [xcat_sum]; omega) hd ?_
  exact kk p l e R s m args below meth c D tc ad A H0 H locs cells slots Z ls C hc hsl hA hP hD hS hl hE
theorem x_tableIn {dflt lo hi : Int} {offs : Array Int} {len : Nat} {x : Int32} {off : Int} {tgt : Nat} (hd : decode M.2.1 pc = .ok (.tableswitch dflt lo hi offs, len)) (h1 : ¬ x.toInt < lo) (h2 : ¬ hi < x.toInt) (ho : offs[(x.toInt - lo).toNat]? = some off) (ht : (pc : Int) + off = (tgt : Int)) (kk : XP M tgt lv st w Q) : XP M pc lv (.int x :: st) w Q := by
  intro p l e R s m args below meth c D tc ad A H0 H locs cells slots Z ls C hc hsl hA hP hD hS hl hE
  refine lv_tableIn C.1 C.2.1 hd h1 h2 ho ht ?_
  exact kk p l e R s m args below meth c D tc ad A H0 H locs cells slots Z ls C hc hsl hA hP hD hS hl hE
theorem x_tableOut {dflt lo hi : Int} {offs : Array Int} {len : Nat} {x : Int32} {tgt : Nat} (hd : decode M.2.1 pc = .ok (.tableswitch dflt lo hi offs, len)) (h : x.toInt < lo ∨ hi < x.toInt) (ht : (pc : Int) + dflt = (tgt : Int)) (kk : XP M tgt lv st w Q) : XP M pc lv (.int x :: st) w Q := by
  intro p l e R s m args below meth c D tc ad A H0 H locs cells slots Z ls C hc hsl hA hP hD hS hl hE
  refine lv_tableOut C.1 C.2.1 hd h ht ?_
  exact kk p l e R s m args below meth c D tc ad A H0 H locs cells slots Z ls C hc hsl hA hP hD hS hl hE
end XCALL
end
section
theorem xT (i : Nat) {w : Cond} (h : tables_1[i]? = some w) (hg : goodWord w = true) : w ∈ xTs := List.mem_filter.mpr ⟨List.mem_append_right _ (List.mem_of_getElem? h), hg⟩
theorem xTn (i : Nat) {w : Cond} (h : tables_1[i]? = some w) (hg : xNb w = true) : w ∈ xNs := List.mem_filter.mpr ⟨List.mem_append_right _ (List.mem_of_getElem? h), hg⟩
theorem xTp (i : Nat) {y : MethodName} {n : Nat} (h : lw_privs[i]? = some (y, n)) : Cond.selects y.cls y y ∈ xTs := List.mem_filter.mpr ⟨List.mem_append_left _ (List.mem_map.mpr ⟨(y, n), List.mem_of_getElem? h, rfl⟩), rfl⟩
theorem xTl (ws : List Cond) (ps : List Nat) (h : ws = ps.filterMap (fun i => tables_1[i]?)) (hg : ws.all goodWord = true) : ∀ w ∈ ws, w ∈ xTs := by
  intro w hw
  have h1 := List.all_eq_true.mp hg w hw
  rw [h] at hw
  obtain ⟨i, -, hi⟩ := List.mem_filterMap.mp hw
  exact xT i hi h1
/-! methods: name, code, locals, answer, depth -/
abbrev mX0_gather : xM := (yX0_gather, cX0_gather, 4, none, 2)
abbrev mX0_take : xM := (yX0_take, cX0_take, 4, none, 0)
abbrev mX0_sort : xM := (yX0_sort, cX0_sort, 5, none, 2)
abbrev mX0_wrap : xM := (yX0_wrap, cX0_wrap, 4, none, 4)
abbrev mX0_append : xM := (yX0_append, cX0_append, 4, none, 3)
abbrev mX1_copy : xM := (yX1_copy, cX1_copy, 2, none, 1)
abbrev mX2_has : xM := (yX2_has, cX2_has, 2, some .boolean, 0)
abbrev mX2_make : xM := (yX2_make, cX2_make, 5, some .int, 3)
abbrev mX2_put : xM := (yX2_put, cX2_put, 6, none, 2)
abbrev mX2_putOne : xM := (yX2_putOne, cX2_putOne, 13, none, 1)
abbrev mX2_limbOf : xM := (yX2_limbOf, cX2_limbOf, 3, some .long, 0)
abbrev mX2_sameAsLoose : xM := (yX2_sameAsLoose, cX2_sameAsLoose, 2, some .int, 0)
abbrev mX2_x : xM := (yX2_x, cX2_x, 2, some .double, 0)
abbrev mX2_y : xM := (yX2_y, cX2_y, 2, some .double, 0)
abbrev mX2_isAhead : xM := (yX2_isAhead, cX2_isAhead, 3, some .boolean, 1)
abbrev mX2_isSure : xM := (yX2_isSure, cX2_isSure, 8, some .boolean, 1)
abbrev mX2_isSureOf : xM := (yX2_isSureOf, cX2_isSureOf, 8, some .boolean, 0)
abbrev mX2_turn : xM := (yX2_turn, cX2_turn, 8, some .int, 2)
abbrev mX2_exactTurn : xM := (yX2_exactTurn, cX2_exactTurn, 17, some .int, 1)
abbrev mX2_meeting : xM := (yX2_meeting, cX2_meeting, 9, some .int, 3)
abbrev mX2_spansMeet : xM := (yX2_spansMeet, cX2_spansMeet, 16, some .boolean, 0)
abbrev mX2_meetingInLine : xM := (yX2_meetingInLine, cX2_meetingInLine, 11, some .int, 2)
abbrev mX2_isOn : xM := (yX2_isOn, cX2_isOn, 4, some .boolean, 3)
abbrev mX2_nearestToLoose : xM := (yX2_nearestToLoose, cX2_nearestToLoose, 12, some .int, 2)
abbrev mX2_isNearer : xM := (yX2_isNearer, cX2_isNearer, 13, some .boolean, 1)
abbrev mX2_measure : xM := (yX2_measure, cX2_measure, 8, none, 1)
abbrev mX3_has : xM := (yX3_has, cX3_has, 2, some .boolean, 0)
abbrev mX3_isOf : xM := (yX3_isOf, cX3_isOf, 3, some .boolean, 1)
abbrev mX3_hasRoom : xM := (yX3_hasRoom, cX3_hasRoom, 1, some .boolean, 0)
abbrev mX3_thereNow : xM := (yX3_thereNow, cX3_thereNow, 3, some .int, 0)
abbrev mX3_thereIn : xM := (yX3_thereIn, cX3_thereIn, 4, some .int, 2)
abbrev mX3_make : xM := (yX3_make, cX3_make, 5, none, 1)
abbrev mX3_keep : xM := (yX3_keep, cX3_keep, 3, none, 2)
abbrev mX3_restore : xM := (yX3_restore, cX3_restore, 1, none, 2)
abbrev mX3_isEntry : xM := (yX3_isEntry, cX3_isEntry, 1, some .boolean, 0)
abbrev mX4_empty : xM := (yX4_empty, cX4_empty, 1, none, 0)
abbrev mX4_push : xM := (yX4_push, cX4_push, 2, none, 0)
abbrev mX4_copy : xM := (yX4_copy, cX4_copy, 3, none, 0)
abbrev mX4_pushRun : xM := (yX4_pushRun, cX4_pushRun, 5, none, 1)
abbrev mX4_around : xM := (yX4_around, cX4_around, 3, some .int, 0)
abbrev mX4_isShared : xM := (yX4_isShared, cX4_isShared, 4, some .boolean, 1)
abbrev mX4_sharedWith : xM := (yX4_sharedWith, cX4_sharedWith, 4, some .int, 2)
abbrev mX4_startOfShared : xM := (yX4_startOfShared, cX4_startOfShared, 4, some .int, 2)
abbrev mX5_faultOf : xM := (yX5_faultOf, cX5_faultOf, 2, some .int, 5)
abbrev mX5_findsTwins : xM := (yX5_findsTwins, cX5_findsTwins, 4, some .boolean, 0)
abbrev mX5_findsCrossing : xM := (yX5_findsCrossing, cX5_findsCrossing, 6, some .boolean, 4)
abbrev mX5_common : xM := (yX5_common, cX5_common, 5, some .int, 4)
abbrev mX5_settle : xM := (yX5_settle, cX5_settle, 7, none, 3)
abbrev mX5_placeOf : xM := (yX5_placeOf, cX5_placeOf, 9, some .int, 4)
abbrev mX5_opensTo : xM := (yX5_opensTo, cX5_opensTo, 9, some .boolean, 3)
abbrev mX5_startsInto : xM := (yX5_startsInto, cX5_startsInto, 7, some .boolean, 4)
abbrev mX5_cutsInto : xM := (yX5_cutsInto, cX5_cutsInto, 6, some .boolean, 4)
abbrev mX5_goesThrough : xM := (yX5_goesThrough, cX5_goesThrough, 4, some .boolean, 5)
abbrev mX5_reachesInto : xM := (yX5_reachesInto, cX5_reachesInto, 6, some .boolean, 5)
abbrev mX5_haveLikeLand : xM := (yX5_haveLikeLand, cX5_haveLikeLand, 4, some .boolean, 5)
abbrev mX5_stretches : xM := (yX5_stretches, cX5_stretches, 6, some .int, 5)
abbrev mX5_framesMeet : xM := (yX5_framesMeet, cX5_framesMeet, 4, some .boolean, 1)
abbrev mX5_farthest : xM := (yX5_farthest, cX5_farthest, 9, some .double, 0)
abbrev mX5_isCut : xM := (yX5_isCut, cX5_isCut, 9, some .boolean, 4)
abbrev mX6_weigh : xM := (yX6_weigh, cX6_weigh, 5, none, 2)
abbrev mX6_shareOf : xM := (yX6_shareOf, cX6_shareOf, 10, some .int, 2)
abbrev mX6_cutShare : xM := (yX6_cutShare, cX6_cutShare, 5, some .int, 1)
abbrev mX7_clear : xM := (yX7_clear, cX7_clear, 2, none, 0)
abbrev mX7_copy : xM := (yX7_copy, cX7_copy, 3, none, 0)
abbrev mX7_plus : xM := (yX7_plus, cX7_plus, 5, none, 0)
abbrev mX7_carry : xM := (yX7_carry, cX7_carry, 4, none, 0)
abbrev mX7_sign : xM := (yX7_sign, cX7_sign, 7, some .int, 0)
abbrev mX7_against : xM := (yX7_against, cX7_against, 3, some .int, 0)
abbrev mX7_wholePart : xM := (yX7_wholePart, cX7_wholePart, 1, some .long, 0)
abbrev mX8_corner : xM := (yX8_corner, cX8_corner, 6, some .int, 4)
abbrev mX8_at : xM := (yX8_at, cX8_at, 3, some .long, 1)
abbrev mX8_side : xM := (yX8_side, cX8_side, 4, some .int, 3)
abbrev mX8_sure : xM := (yX8_sure, cX8_sure, 1, some .int, 0)
abbrev mX8_cross : xM := (yX8_cross, cX8_cross, 5, some .int, 4)
abbrev mX8_nearest : xM := (yX8_nearest, cX8_nearest, 5, some .int, 3)
abbrev mX8_draw : xM := (yX8_draw, cX8_draw, 2, some .int, 1)
abbrev mX8_add : xM := (yX8_add, cX8_add, 2, some .int, 1)
abbrev mX8_close : xM := (yX8_close, cX8_close, 5, some .int, 7)
abbrev mX8_where : xM := (yX8_where, cX8_where, 1, some .int, 0)
abbrev mX8_told : xM := (yX8_told, cX8_told, 4, some .int, 1)
abbrev mX8_give : xM := (yX8_give, cX8_give, 4, some .int, 3)
abbrev mX8_drop : xM := (yX8_drop, cX8_drop, 2, some .int, 3)
abbrev mX8_split : xM := (yX8_split, cX8_split, 7, some .int, 5)
abbrev mX8_join : xM := (yX8_join, cX8_join, 9, some .int, 6)
abbrev mX8_move : xM := (yX8_move, cX8_move, 7, some .int, 7)
abbrev mX8_border : xM := (yX8_border, cX8_border, 3, some .int, 6)
abbrev mX8_neighbour : xM := (yX8_neighbour, cX8_neighbour, 6, some .int, 6)
abbrev mX8_locate : xM := (yX8_locate, cX8_locate, 8, some .int, 5)
abbrev mX8_edge : xM := (yX8_edge, cX8_edge, 1, some .int, 0)
abbrev mX8_walk : xM := (yX8_walk, cX8_walk, 7, some .int, 6)
abbrev mX8_hull : xM := (yX8_hull, cX8_hull, 2, some .int, 5)
abbrev mX8_hullAt : xM := (yX8_hullAt, cX8_hullAt, 2, some .int, 0)
abbrev mX8_twice : xM := (yX8_twice, cX8_twice, 2, some .long, 2)
abbrev mX8_compare : xM := (yX8_compare, cX8_compare, 3, some .int, 2)
abbrev mX8_quota : xM := (yX8_quota, cX8_quota, 4, some .int, 3)
abbrev mX8_undo : xM := (yX8_undo, cX8_undo, 1, some .int, 3)
abbrev mX8_count : xM := (yX8_count, cX8_count, 2, some .int, 3)
abbrev mX8_digest : xM := (yX8_digest, cX8_digest, 6, some .long, 1)
abbrev mX8_isNumber : xM := (yX8_isNumber, cX8_isNumber, 4, some .boolean, 0)
abbrev mX8_isLayer : xM := (yX8_isLayer, cX8_isLayer, 1, some .boolean, 0)
abbrev mX8_faultIn : xM := (yX8_faultIn, cX8_faultIn, 7, some .int, 6)
abbrev mX9_in : xM := (yX9_in, cX9_in, 3, some .boolean, 0)
abbrev mX9_carry : xM := (yX9_carry, cX9_carry, 6, none, 0)
abbrev mX9_signOf : xM := (yX9_signOf, cX9_signOf, 4, some .int, 0)
abbrev mX9_isNumber : xM := (yX9_isNumber, cX9_isNumber, 4, some .boolean, 0)
abbrev mX9_plain : xM := (yX9_plain, cX9_plain, 2, some .long, 0)
abbrev mX9_whole : xM := (yX9_whole, cX9_whole, 12, none, 1)
abbrev mX9_lay : xM := (yX9_lay, cX9_lay, 6, none, 2)
abbrev mX9_middle : xM := (yX9_middle, cX9_middle, 4, none, 1)
abbrev mX9_halve : xM := (yX9_halve, cX9_halve, 5, none, 0)
abbrev mX9_times : xM := (yX9_times, cX9_times, 13, none, 1)
abbrev mX9_clear : xM := (yX9_clear, cX9_clear, 4, none, 0)
abbrev mX9_turn : xM := (yX9_turn, cX9_turn, 4, some .int, 2)
abbrev mX9_order : xM := (yX9_order, cX9_order, 8, some .int, 0)
abbrev mX9_ahead : xM := (yX9_ahead, cX9_ahead, 4, some .int, 1)
abbrev mX9_isBetween : xM := (yX9_isBetween, cX9_isBetween, 6, some .boolean, 2)
abbrev mX9_isOn : xM := (yX9_isOn, cX9_isOn, 4, some .boolean, 3)
abbrev mX9_isCorner : xM := (yX9_isCorner, cX9_isCorner, 2, some .boolean, 1)
abbrev mX9_corner : xM := (yX9_corner, cX9_corner, 6, some .int, 3)
abbrev mX9_at : xM := (yX9_at, cX9_at, 3, some .long, 2)
abbrev mX9_size : xM := (yX9_size, cX9_size, 2, some .double, 0)
abbrev mX9_side : xM := (yX9_side, cX9_side, 12, some .int, 3)
abbrev mX9_sure : xM := (yX9_sure, cX9_sure, 1, some .int, 0)
abbrev mX9_common : xM := (yX9_common, cX9_common, 14, some .int, 3)
abbrev mX9_cross : xM := (yX9_cross, cX9_cross, 5, some .int, 4)
abbrev mX9_nearest : xM := (yX9_nearest, cX9_nearest, 8, some .int, 3)
abbrev mX9_less : xM := (yX9_less, cX9_less, 5, some .boolean, 0)
abbrev mX9_draw : xM := (yX9_draw, cX9_draw, 2, some .int, 0)
abbrev mX9_add : xM := (yX9_add, cX9_add, 2, some .int, 2)
abbrev mX9_fault : xM := (yX9_fault, cX9_fault, 3, some .int, 0)
abbrev mX9_faultOf : xM := (yX9_faultOf, cX9_faultOf, 4, some .int, 4)
abbrev mX9_turnLeft : xM := (yX9_turnLeft, cX9_turnLeft, 4, none, 2)
abbrev mX9_isParcel : xM := (yX9_isParcel, cX9_isParcel, 2, some .boolean, 1)
abbrev mX9_keep : xM := (yX9_keep, cX9_keep, 2, none, 0)
abbrev mX9_store : xM := (yX9_store, cX9_store, 3, none, 0)
abbrev mX9_load : xM := (yX9_load, cX9_load, 3, none, 0)
abbrev mX9_of : xM := (yX9_of, cX9_of, 3, some .int, 0)
abbrev mX9_made : xM := (yX9_made, cX9_made, 4, some .int, 1)
abbrev mX9_lies : xM := (yX9_lies, cX9_lies, 11, some .int, 3)
abbrev mX9_passes : xM := (yX9_passes, cX9_passes, 10, none, 4)
abbrev mX9_lieOver : xM := (yX9_lieOver, cX9_lieOver, 5, some .boolean, 5)
abbrev mX9_overOf : xM := (yX9_overOf, cX9_overOf, 5, some .int, 6)
abbrev mX9_close : xM := (yX9_close, cX9_close, 5, some .int, 7)
abbrev mX9_where : xM := (yX9_where, cX9_where, 1, some .int, 0)
abbrev mX9_told : xM := (yX9_told, cX9_told, 3, some .int, 2)
abbrev mX9_give : xM := (yX9_give, cX9_give, 4, some .int, 2)
abbrev mX9_there : xM := (yX9_there, cX9_there, 4, some .int, 0)
abbrev mX9_drop : xM := (yX9_drop, cX9_drop, 2, some .int, 2)
abbrev mX9_isInside : xM := (yX9_isInside, cX9_isInside, 10, some .boolean, 4)
abbrev mX9_split : xM := (yX9_split, cX9_split, 8, some .int, 5)
abbrev mX9_reverse : xM := (yX9_reverse, cX9_reverse, 6, some .int, 1)
abbrev mX9_join : xM := (yX9_join, cX9_join, 9, some .int, 5)
abbrev mX9_move : xM := (yX9_move, cX9_move, 8, some .int, 7)
abbrev mX9_borders : xM := (yX9_borders, cX9_borders, 6, some .int, 4)
abbrev mX9_border : xM := (yX9_border, cX9_border, 3, some .int, 5)
abbrev mX9_neighbour : xM := (yX9_neighbour, cX9_neighbour, 5, some .int, 5)
abbrev mX9_locate : xM := (yX9_locate, cX9_locate, 7, some .int, 4)
abbrev mX9_edge : xM := (yX9_edge, cX9_edge, 1, some .int, 0)
abbrev mX9_walk : xM := (yX9_walk, cX9_walk, 7, some .int, 5)
abbrev mX9_hull : xM := (yX9_hull, cX9_hull, 5, some .int, 4)
abbrev mX9_comes : xM := (yX9_comes, cX9_comes, 3, none, 3)
abbrev mX9_hullAt : xM := (yX9_hullAt, cX9_hullAt, 2, some .int, 1)
abbrev mX9_weigh : xM := (yX9_weigh, cX9_weigh, 3, none, 2)
abbrev mX9_twice : xM := (yX9_twice, cX9_twice, 5, some .long, 3)
abbrev mX9_compare : xM := (yX9_compare, cX9_compare, 3, some .int, 3)
abbrev mX9_quota : xM := (yX9_quota, cX9_quota, 9, some .int, 3)
abbrev mX9_shareOf : xM := (yX9_shareOf, cX9_shareOf, 6, some .int, 1)
abbrev mX9_undo : xM := (yX9_undo, cX9_undo, 2, some .int, 0)
abbrev mX9_count : xM := (yX9_count, cX9_count, 2, some .int, 1)
abbrev mX9_digest : xM := (yX9_digest, cX9_digest, 5, some .long, 0)
theorem iX0 : ∀ w ∈ u_ws RX0 TX0 5, w ∈ xTs := xTl _ [195, 197, 199, 201, 203] (by decide +kernel) (by decide +kernel)
theorem iX1 : ∀ w ∈ u_ws RX1 TX1 4, w ∈ xTs := xTl _ [120, 122, 124, 126] (by decide +kernel) (by decide +kernel)
theorem iX2 : ∀ w ∈ u_ws RX2 TX2 5, w ∈ xTs := xTl _ [47, 49, 51, 53, 55] (by decide +kernel) (by decide +kernel)
theorem iX3 : ∀ w ∈ u_ws RX3 TX3 7, w ∈ xTs := xTl _ [143, 145, 147, 149, 151, 153, 155] (by decide +kernel) (by decide +kernel)
theorem iX4 : ∀ w ∈ u_ws RX4 TX4 2, w ∈ xTs := xTl _ [100, 102] (by decide +kernel) (by decide +kernel)
theorem iX5 : ∀ w ∈ u_ws RX5 TX5 2, w ∈ xTs := xTl _ [67, 69] (by decide +kernel) (by decide +kernel)
theorem iX6 : ∀ w ∈ u_ws RX6 TX6 4, w ∈ xTs := xTl _ [173, 175, 177, 179] (by decide +kernel) (by decide +kernel)
theorem iX7 : ∀ w ∈ u_ws RX7 TX7 1, w ∈ xTs := xTl _ [34] (by decide +kernel) (by decide +kernel)
theorem iX8 : ∀ w ∈ u_ws RX8 TX8 11, w ∈ xTs := xTl _ [220, 222, 224, 226, 228, 230, 232, 234, 236, 238, 240] (by decide +kernel) (by decide +kernel)
theorem iX9 : ∀ w ∈ u_ws RX9 TX9 43, w ∈ xTs := xTl _ [732, 734, 736, 738, 740, 742, 744, 746, 748, 750, 752, 754, 756, 758, 760, 762, 764, 766, 768, 770, 772, 774, 776, 778, 780, 782, 784, 786, 788, 790, 792, 794, 796, 798, 800, 802, 804, 806, 808, 810, 812, 814, 816] (by decide +kernel) (by decide +kernel)
theorem wX0_3 : xFldW 0 3 .int := ⟨RX0, TX0, 5, tyX0, rfl, tyX0_ok, nmX0, rfl, by decide +kernel⟩
theorem wX0_4 : xFldW 0 4 .int := ⟨RX0, TX0, 5, tyX0, rfl, tyX0_ok, nmX0, rfl, by decide +kernel⟩
theorem wX1_1 : xFldW 1 1 .boolean := ⟨RX1, TX1, 4, tyX1, rfl, tyX1_ok, nmX1, rfl, by decide +kernel⟩
theorem wX1_2 : xFldW 1 2 .int := ⟨RX1, TX1, 4, tyX1, rfl, tyX1_ok, nmX1, rfl, by decide +kernel⟩
theorem wX1_3 : xFldW 1 3 .int := ⟨RX1, TX1, 4, tyX1, rfl, tyX1_ok, nmX1, rfl, by decide +kernel⟩
theorem wX2_4 : xFldW 2 4 .int := ⟨RX2, TX2, 5, tyX2, rfl, tyX2_ok, nmX2, rfl, by decide +kernel⟩
theorem wX3_3 : xFldW 3 3 .int := ⟨RX3, TX3, 7, tyX3, rfl, tyX3_ok, nmX3, rfl, by decide +kernel⟩
theorem wX3_4 : xFldW 3 4 .int := ⟨RX3, TX3, 7, tyX3, rfl, tyX3_ok, nmX3, rfl, by decide +kernel⟩
theorem wX3_5 : xFldW 3 5 .boolean := ⟨RX3, TX3, 7, tyX3, rfl, tyX3_ok, nmX3, rfl, by decide +kernel⟩
theorem wX3_6 : xFldW 3 6 .int := ⟨RX3, TX3, 7, tyX3, rfl, tyX3_ok, nmX3, rfl, by decide +kernel⟩
theorem wX4_1 : xFldW 4 1 .int := ⟨RX4, TX4, 2, tyX4, rfl, tyX4_ok, nmX4, rfl, by decide +kernel⟩
theorem wX5_1 : xFldW 5 1 .int := ⟨RX5, TX5, 2, tyX5, rfl, tyX5_ok, nmX5, rfl, by decide +kernel⟩
theorem wX8_8 : xFldW 8 8 .int := ⟨RX8, TX8, 11, tyX8, rfl, tyX8_ok, nmX8, rfl, by decide +kernel⟩
theorem wX8_9 : xFldW 8 9 .int := ⟨RX8, TX8, 11, tyX8, rfl, tyX8_ok, nmX8, rfl, by decide +kernel⟩
theorem wX8_10 : xFldW 8 10 .int := ⟨RX8, TX8, 11, tyX8, rfl, tyX8_ok, nmX8, rfl, by decide +kernel⟩
theorem wX9_4 : xFldW 9 4 .int := ⟨RX9, TX9, 43, tyX9, rfl, tyX9_ok, nmX9, rfl, by decide +kernel⟩
theorem wX9_8 : xFldW 9 8 .int := ⟨RX9, TX9, 43, tyX9, rfl, tyX9_ok, nmX9, rfl, by decide +kernel⟩
theorem wX9_11 : xFldW 9 11 .int := ⟨RX9, TX9, 43, tyX9, rfl, tyX9_ok, nmX9, rfl, by decide +kernel⟩
theorem wX9_12 : xFldW 9 12 .int := ⟨RX9, TX9, 43, tyX9, rfl, tyX9_ok, nmX9, rfl, by decide +kernel⟩
theorem wX9_14 : xFldW 9 14 .int := ⟨RX9, TX9, 43, tyX9, rfl, tyX9_ok, nmX9, rfl, by decide +kernel⟩
theorem wX9_16 : xFldW 9 16 .int := ⟨RX9, TX9, 43, tyX9, rfl, tyX9_ok, nmX9, rfl, by decide +kernel⟩
theorem wX9_22 : xFldW 9 22 .boolean := ⟨RX9, TX9, 43, tyX9, rfl, tyX9_ok, nmX9, rfl, by decide +kernel⟩
theorem wX9_23 : xFldW 9 23 .int := ⟨RX9, TX9, 43, tyX9, rfl, tyX9_ok, nmX9, rfl, by decide +kernel⟩
theorem wX9_29 : xFldW 9 29 .boolean := ⟨RX9, TX9, 43, tyX9, rfl, tyX9_ok, nmX9, rfl, by decide +kernel⟩
theorem wX9_30 : xFldW 9 30 .boolean := ⟨RX9, TX9, 43, tyX9, rfl, tyX9_ok, nmX9, rfl, by decide +kernel⟩
theorem wX9_32 : xFldW 9 32 .int := ⟨RX9, TX9, 43, tyX9, rfl, tyX9_ok, nmX9, rfl, by decide +kernel⟩
theorem wX9_34 : xFldW 9 34 .int := ⟨RX9, TX9, 43, tyX9, rfl, tyX9_ok, nmX9, rfl, by decide +kernel⟩
theorem wX9_35 : xFldW 9 35 .int := ⟨RX9, TX9, 43, tyX9, rfl, tyX9_ok, nmX9, rfl, by decide +kernel⟩
theorem fX7_9 : xFld RX7 9 7 0 := ⟨RX7, TX7, 1, rfl, by decide, iX7, rfl, Or.inl (xT 32 (by decide +kernel) rfl)⟩
theorem fX2_9 : xFld RX2 9 2 0 := ⟨RX2, TX2, 5, rfl, by decide, iX2, rfl, Or.inl (xT 39 (by decide +kernel) rfl)⟩
theorem fX2_15 : xFld RX2 15 2 1 := ⟨RX2, TX2, 5, rfl, by decide, iX2, rfl, Or.inl (xT 41 (by decide +kernel) rfl)⟩
theorem fX2_19 : xFld RX2 19 2 2 := ⟨RX2, TX2, 5, rfl, by decide, iX2, rfl, Or.inl (xT 43 (by decide +kernel) rfl)⟩
theorem fX2_25 : xFld RX2 25 2 3 := ⟨RX2, TX2, 5, rfl, by decide, iX2, rfl, Or.inl (xT 44 (by decide +kernel) rfl)⟩
theorem fX2_29 : xFld RX2 29 2 4 := ⟨RX2, TX2, 5, rfl, by decide, iX2, rfl, Or.inl (xT 45 (by decide +kernel) rfl)⟩
theorem fX5_15 : xFld RX5 15 5 0 := ⟨RX5, TX5, 2, rfl, by decide, iX5, rfl, Or.inl (xT 64 (by decide +kernel) rfl)⟩
theorem fX5_9 : xFld RX5 9 5 1 := ⟨RX5, TX5, 2, rfl, by decide, iX5, rfl, Or.inl (xT 65 (by decide +kernel) rfl)⟩
theorem fX4_9 : xFld RX4 9 4 0 := ⟨RX4, TX4, 2, rfl, by decide, iX4, rfl, Or.inl (xT 91 (by decide +kernel) rfl)⟩
theorem fX4_15 : xFld RX4 15 4 1 := ⟨RX4, TX4, 2, rfl, by decide, iX4, rfl, Or.inl (xT 95 (by decide +kernel) rfl)⟩
theorem fX1_10 : xFld RX1 10 1 0 := ⟨RX1, TX1, 4, rfl, by decide, iX1, rfl, Or.inl (xT 106 (by decide +kernel) rfl)⟩
theorem fX1_16 : xFld RX1 16 1 1 := ⟨RX1, TX1, 4, rfl, by decide, iX1, rfl, Or.inl (xT 111 (by decide +kernel) rfl)⟩
theorem fX1_20 : xFld RX1 20 1 2 := ⟨RX1, TX1, 4, rfl, by decide, iX1, rfl, Or.inl (xT 114 (by decide +kernel) rfl)⟩
theorem fX1_24 : xFld RX1 24 1 3 := ⟨RX1, TX1, 4, rfl, by decide, iX1, rfl, Or.inl (xT 117 (by decide +kernel) rfl)⟩
theorem fX3_11 : xFld RX3 11 3 0 := ⟨RX3, TX3, 7, rfl, by decide, iX3, rfl, Or.inl (xT 129 (by decide +kernel) rfl)⟩
theorem fX3_18 : xFld RX3 18 3 1 := ⟨RX3, TX3, 7, rfl, by decide, iX3, rfl, Or.inl (xT 133 (by decide +kernel) rfl)⟩
theorem fX3_22 : xFld RX3 22 3 2 := ⟨RX3, TX3, 7, rfl, by decide, iX3, rfl, Or.inl (xT 134 (by decide +kernel) rfl)⟩
theorem fX3_25 : xFld RX3 25 3 3 := ⟨RX3, TX3, 7, rfl, by decide, iX3, rfl, Or.inl (xT 135 (by decide +kernel) rfl)⟩
theorem fX3_29 : xFld RX3 29 3 4 := ⟨RX3, TX3, 7, rfl, by decide, iX3, rfl, Or.inl (xT 136 (by decide +kernel) rfl)⟩
theorem fX3_32 : xFld RX3 32 3 5 := ⟨RX3, TX3, 7, rfl, by decide, iX3, rfl, Or.inl (xT 137 (by decide +kernel) rfl)⟩
theorem fX3_36 : xFld RX3 36 3 6 := ⟨RX3, TX3, 7, rfl, by decide, iX3, rfl, Or.inl (xT 139 (by decide +kernel) rfl)⟩
theorem fX6_11 : xFld RX6 11 6 0 := ⟨RX6, TX6, 4, rfl, by decide, iX6, rfl, Or.inl (xT 167 (by decide +kernel) rfl)⟩
theorem fX6_18 : xFld RX6 18 6 1 := ⟨RX6, TX6, 4, rfl, by decide, iX6, rfl, Or.inl (xT 168 (by decide +kernel) rfl)⟩
theorem fX6_22 : xFld RX6 22 6 2 := ⟨RX6, TX6, 4, rfl, by decide, iX6, rfl, Or.inl (xT 169 (by decide +kernel) rfl)⟩
theorem fX6_25 : xFld RX6 25 6 3 := ⟨RX6, TX6, 4, rfl, by decide, iX6, rfl, Or.inl (xT 171 (by decide +kernel) rfl)⟩
theorem fX0_9 : xFld RX0 9 0 0 := ⟨RX0, TX0, 5, rfl, by decide, iX0, rfl, Or.inl (xT 188 (by decide +kernel) rfl)⟩
theorem fX0_15 : xFld RX0 15 0 1 := ⟨RX0, TX0, 5, rfl, by decide, iX0, rfl, Or.inl (xT 189 (by decide +kernel) rfl)⟩
theorem fX0_19 : xFld RX0 19 0 2 := ⟨RX0, TX0, 5, rfl, by decide, iX0, rfl, Or.inl (xT 190 (by decide +kernel) rfl)⟩
theorem fX0_22 : xFld RX0 22 0 3 := ⟨RX0, TX0, 5, rfl, by decide, iX0, rfl, Or.inl (xT 192 (by decide +kernel) rfl)⟩
theorem fX0_26 : xFld RX0 26 0 4 := ⟨RX0, TX0, 5, rfl, by decide, iX0, rfl, Or.inl (xT 193 (by decide +kernel) rfl)⟩
theorem fX8_12 : xFld RX8 12 8 0 := ⟨RX8, TX8, 11, rfl, by decide, iX8, rfl, Or.inl (xT 209 (by decide +kernel) rfl)⟩
theorem fX8_21 : xFld RX8 21 8 1 := ⟨RX8, TX8, 11, rfl, by decide, iX8, rfl, Or.inl (xT 210 (by decide +kernel) rfl)⟩
theorem fX8_28 : xFld RX8 28 8 2 := ⟨RX8, TX8, 11, rfl, by decide, iX8, rfl, Or.inl (xT 211 (by decide +kernel) rfl)⟩
theorem fX8_35 : xFld RX8 35 8 3 := ⟨RX8, TX8, 11, rfl, by decide, iX8, rfl, Or.inl (xT 212 (by decide +kernel) rfl)⟩
theorem fX8_42 : xFld RX8 42 8 4 := ⟨RX8, TX8, 11, rfl, by decide, iX8, rfl, Or.inl (xT 213 (by decide +kernel) rfl)⟩
theorem fX8_49 : xFld RX8 49 8 5 := ⟨RX8, TX8, 11, rfl, by decide, iX8, rfl, Or.inl (xT 214 (by decide +kernel) rfl)⟩
theorem fX8_53 : xFld RX8 53 8 6 := ⟨RX8, TX8, 11, rfl, by decide, iX8, rfl, Or.inl (xT 215 (by decide +kernel) rfl)⟩
theorem fX8_56 : xFld RX8 56 8 7 := ⟨RX8, TX8, 11, rfl, by decide, iX8, rfl, Or.inl (xT 216 (by decide +kernel) rfl)⟩
theorem fX8_59 : xFld RX8 59 8 8 := ⟨RX8, TX8, 11, rfl, by decide, iX8, rfl, Or.inl (xT 217 (by decide +kernel) rfl)⟩
theorem fX8_63 : xFld RX8 63 8 9 := ⟨RX8, TX8, 11, rfl, by decide, iX8, rfl, Or.inl (xT 218 (by decide +kernel) rfl)⟩
theorem fX8_66 : xFld RX8 66 8 10 := ⟨RX8, TX8, 11, rfl, by decide, iX8, rfl, Or.inl (xT 219 (by decide +kernel) rfl)⟩
theorem fX9_7 : xFld RX9 7 9 0 := ⟨RX9, TX9, 43, rfl, by decide, iX9, rfl, Or.inl (xT 689 (by decide +kernel) rfl)⟩
theorem fX9_13 : xFld RX9 13 9 1 := ⟨RX9, TX9, 43, rfl, by decide, iX9, rfl, Or.inl (xT 690 (by decide +kernel) rfl)⟩
theorem fX9_16 : xFld RX9 16 9 2 := ⟨RX9, TX9, 43, rfl, by decide, iX9, rfl, Or.inl (xT 691 (by decide +kernel) rfl)⟩
theorem fX9_19 : xFld RX9 19 9 3 := ⟨RX9, TX9, 43, rfl, by decide, iX9, rfl, Or.inl (xT 692 (by decide +kernel) rfl)⟩
theorem fX9_170 : xFld RX9 170 9 4 := ⟨RX9, TX9, 43, rfl, by decide, iX9, rfl, Or.inl (xT 693 (by decide +kernel) rfl)⟩
theorem fX9_22 : xFld RX9 22 9 5 := ⟨RX9, TX9, 43, rfl, by decide, iX9, rfl, Or.inl (xT 694 (by decide +kernel) rfl)⟩
theorem fX9_25 : xFld RX9 25 9 6 := ⟨RX9, TX9, 43, rfl, by decide, iX9, rfl, Or.inl (xT 695 (by decide +kernel) rfl)⟩
theorem fX9_28 : xFld RX9 28 9 7 := ⟨RX9, TX9, 43, rfl, by decide, iX9, rfl, Or.inl (xT 696 (by decide +kernel) rfl)⟩
theorem fX9_31 : xFld RX9 31 9 8 := ⟨RX9, TX9, 43, rfl, by decide, iX9, rfl, Or.inl (xT 697 (by decide +kernel) rfl)⟩
theorem fX9_35 : xFld RX9 35 9 9 := ⟨RX9, TX9, 43, rfl, by decide, iX9, rfl, Or.inl (xT 698 (by decide +kernel) rfl)⟩
theorem fX9_38 : xFld RX9 38 9 10 := ⟨RX9, TX9, 43, rfl, by decide, iX9, rfl, Or.inl (xT 699 (by decide +kernel) rfl)⟩
theorem fX9_212 : xFld RX9 212 9 11 := ⟨RX9, TX9, 43, rfl, by decide, iX9, rfl, Or.inl (xT 700 (by decide +kernel) rfl)⟩
theorem fX9_215 : xFld RX9 215 9 12 := ⟨RX9, TX9, 43, rfl, by decide, iX9, rfl, Or.inl (xT 701 (by decide +kernel) rfl)⟩
theorem fX9_42 : xFld RX9 42 9 13 := ⟨RX9, TX9, 43, rfl, by decide, iX9, rfl, Or.inl (xT 702 (by decide +kernel) rfl)⟩
theorem fX9_218 : xFld RX9 218 9 14 := ⟨RX9, TX9, 43, rfl, by decide, iX9, rfl, Or.inl (xT 703 (by decide +kernel) rfl)⟩
theorem fX9_45 : xFld RX9 45 9 15 := ⟨RX9, TX9, 43, rfl, by decide, iX9, rfl, Or.inl (xT 704 (by decide +kernel) rfl)⟩
theorem fX9_224 : xFld RX9 224 9 16 := ⟨RX9, TX9, 43, rfl, by decide, iX9, rfl, Or.inl (xT 705 (by decide +kernel) rfl)⟩
theorem fX9_48 : xFld RX9 48 9 17 := ⟨RX9, TX9, 43, rfl, by decide, iX9, rfl, Or.inl (xT 706 (by decide +kernel) rfl)⟩
theorem fX9_52 : xFld RX9 52 9 18 := ⟨RX9, TX9, 43, rfl, by decide, iX9, rfl, Or.inl (xT 707 (by decide +kernel) rfl)⟩
theorem fX9_55 : xFld RX9 55 9 19 := ⟨RX9, TX9, 43, rfl, by decide, iX9, rfl, Or.inl (xT 708 (by decide +kernel) rfl)⟩
theorem fX9_58 : xFld RX9 58 9 20 := ⟨RX9, TX9, 43, rfl, by decide, iX9, rfl, Or.inl (xT 709 (by decide +kernel) rfl)⟩
theorem fX9_61 : xFld RX9 61 9 21 := ⟨RX9, TX9, 43, rfl, by decide, iX9, rfl, Or.inl (xT 710 (by decide +kernel) rfl)⟩
theorem fX9_227 : xFld RX9 227 9 22 := ⟨RX9, TX9, 43, rfl, by decide, iX9, rfl, Or.inl (xT 711 (by decide +kernel) rfl)⟩
theorem fX9_231 : xFld RX9 231 9 23 := ⟨RX9, TX9, 43, rfl, by decide, iX9, rfl, Or.inl (xT 712 (by decide +kernel) rfl)⟩
theorem fX9_64 : xFld RX9 64 9 24 := ⟨RX9, TX9, 43, rfl, by decide, iX9, rfl, Or.inl (xT 713 (by decide +kernel) rfl)⟩
theorem fX9_67 : xFld RX9 67 9 25 := ⟨RX9, TX9, 43, rfl, by decide, iX9, rfl, Or.inl (xT 714 (by decide +kernel) rfl)⟩
theorem fX9_70 : xFld RX9 70 9 26 := ⟨RX9, TX9, 43, rfl, by decide, iX9, rfl, Or.inl (xT 715 (by decide +kernel) rfl)⟩
theorem fX9_73 : xFld RX9 73 9 27 := ⟨RX9, TX9, 43, rfl, by decide, iX9, rfl, Or.inl (xT 716 (by decide +kernel) rfl)⟩
theorem fX9_76 : xFld RX9 76 9 28 := ⟨RX9, TX9, 43, rfl, by decide, iX9, rfl, Or.inl (xT 717 (by decide +kernel) rfl)⟩
theorem fX9_244 : xFld RX9 244 9 29 := ⟨RX9, TX9, 43, rfl, by decide, iX9, rfl, Or.inl (xT 718 (by decide +kernel) rfl)⟩
theorem fX9_247 : xFld RX9 247 9 30 := ⟨RX9, TX9, 43, rfl, by decide, iX9, rfl, Or.inl (xT 719 (by decide +kernel) rfl)⟩
theorem fX9_79 : xFld RX9 79 9 31 := ⟨RX9, TX9, 43, rfl, by decide, iX9, rfl, Or.inl (xT 720 (by decide +kernel) rfl)⟩
theorem fX9_238 : xFld RX9 238 9 32 := ⟨RX9, TX9, 43, rfl, by decide, iX9, rfl, Or.inl (xT 721 (by decide +kernel) rfl)⟩
theorem fX9_82 : xFld RX9 82 9 33 := ⟨RX9, TX9, 43, rfl, by decide, iX9, rfl, Or.inl (xT 722 (by decide +kernel) rfl)⟩
theorem fX9_85 : xFld RX9 85 9 34 := ⟨RX9, TX9, 43, rfl, by decide, iX9, rfl, Or.inl (xT 723 (by decide +kernel) rfl)⟩
theorem fX9_109 : xFld RX9 109 9 35 := ⟨RX9, TX9, 43, rfl, by decide, iX9, rfl, Or.inl (xT 724 (by decide +kernel) rfl)⟩
theorem fX9_88 : xFld RX9 88 9 36 := ⟨RX9, TX9, 43, rfl, by decide, iX9, rfl, Or.inl (xT 725 (by decide +kernel) rfl)⟩
theorem fX9_91 : xFld RX9 91 9 37 := ⟨RX9, TX9, 43, rfl, by decide, iX9, rfl, Or.inl (xT 726 (by decide +kernel) rfl)⟩
theorem fX9_94 : xFld RX9 94 9 38 := ⟨RX9, TX9, 43, rfl, by decide, iX9, rfl, Or.inl (xT 727 (by decide +kernel) rfl)⟩
theorem fX9_97 : xFld RX9 97 9 39 := ⟨RX9, TX9, 43, rfl, by decide, iX9, rfl, Or.inl (xT 728 (by decide +kernel) rfl)⟩
theorem fX9_100 : xFld RX9 100 9 40 := ⟨RX9, TX9, 43, rfl, by decide, iX9, rfl, Or.inl (xT 729 (by decide +kernel) rfl)⟩
theorem fX9_103 : xFld RX9 103 9 41 := ⟨RX9, TX9, 43, rfl, by decide, iX9, rfl, Or.inl (xT 730 (by decide +kernel) rfl)⟩
theorem fX9_106 : xFld RX9 106 9 42 := ⟨RX9, TX9, 43, rfl, by decide, iX9, rfl, Or.inl (xT 731 (by decide +kernel) rfl)⟩
theorem fX2_75 : xFld RX2 75 7 0 := ⟨RX7, TX7, 1, rfl, by decide, iX7, rfl, Or.inr ⟨"ParcelMap", xTn 33 (by decide +kernel) rfl⟩⟩
theorem fX8_96 : xFld RX8 96 2 0 := ⟨RX2, TX2, 5, rfl, by decide, iX2, rfl, Or.inr ⟨"ParcelMap", xTn 40 (by decide +kernel) rfl⟩⟩
theorem fX5_92 : xFld RX5 92 2 1 := ⟨RX2, TX2, 5, rfl, by decide, iX2, rfl, Or.inr ⟨"ParcelMap", xTn 42 (by decide +kernel) rfl⟩⟩
theorem fX8_81 : xFld RX8 81 2 4 := ⟨RX2, TX2, 5, rfl, by decide, iX2, rfl, Or.inr ⟨"ParcelMap", xTn 46 (by decide +kernel) rfl⟩⟩
theorem fX8_193 : xFld RX8 193 5 1 := ⟨RX5, TX5, 2, rfl, by decide, iX5, rfl, Or.inr ⟨"ParcelMap", xTn 66 (by decide +kernel) rfl⟩⟩
theorem fX0_55 : xFld RX0 55 4 0 := ⟨RX4, TX4, 2, rfl, by decide, iX4, rfl, Or.inr ⟨"ParcelMap", xTn 92 (by decide +kernel) rfl⟩⟩
theorem fX5_31 : xFld RX5 31 4 0 := ⟨RX4, TX4, 2, rfl, by decide, iX4, rfl, Or.inr ⟨"ParcelMap", xTn 93 (by decide +kernel) rfl⟩⟩
theorem fX8_200 : xFld RX8 200 4 0 := ⟨RX4, TX4, 2, rfl, by decide, iX4, rfl, Or.inr ⟨"ParcelMap", xTn 94 (by decide +kernel) rfl⟩⟩
theorem fX5_19 : xFld RX5 19 4 1 := ⟨RX4, TX4, 2, rfl, by decide, iX4, rfl, Or.inr ⟨"ParcelMap", xTn 96 (by decide +kernel) rfl⟩⟩
theorem fX0_52 : xFld RX0 52 4 1 := ⟨RX4, TX4, 2, rfl, by decide, iX4, rfl, Or.inr ⟨"ParcelMap", xTn 97 (by decide +kernel) rfl⟩⟩
theorem fX8_115 : xFld RX8 115 4 1 := ⟨RX4, TX4, 2, rfl, by decide, iX4, rfl, Or.inr ⟨"ParcelMap", xTn 98 (by decide +kernel) rfl⟩⟩
theorem fX2_102 : xFld RX2 102 4 1 := ⟨RX4, TX4, 2, rfl, by decide, iX4, rfl, Or.inr ⟨"ParcelMap", xTn 99 (by decide +kernel) rfl⟩⟩
theorem fX6_45 : xFld RX6 45 1 0 := ⟨RX1, TX1, 4, rfl, by decide, iX1, rfl, Or.inr ⟨"ParcelMap", xTn 107 (by decide +kernel) rfl⟩⟩
theorem fX0_42 : xFld RX0 42 1 0 := ⟨RX1, TX1, 4, rfl, by decide, iX1, rfl, Or.inr ⟨"ParcelMap", xTn 108 (by decide +kernel) rfl⟩⟩
theorem fX3_60 : xFld RX3 60 1 0 := ⟨RX1, TX1, 4, rfl, by decide, iX1, rfl, Or.inr ⟨"ParcelMap", xTn 109 (by decide +kernel) rfl⟩⟩
theorem fX8_157 : xFld RX8 157 1 0 := ⟨RX1, TX1, 4, rfl, by decide, iX1, rfl, Or.inr ⟨"ParcelMap", xTn 110 (by decide +kernel) rfl⟩⟩
theorem fX3_39 : xFld RX3 39 1 1 := ⟨RX1, TX1, 4, rfl, by decide, iX1, rfl, Or.inr ⟨"ParcelMap", xTn 112 (by decide +kernel) rfl⟩⟩
theorem fX8_164 : xFld RX8 164 1 1 := ⟨RX1, TX1, 4, rfl, by decide, iX1, rfl, Or.inr ⟨"ParcelMap", xTn 113 (by decide +kernel) rfl⟩⟩
theorem fX3_46 : xFld RX3 46 1 2 := ⟨RX1, TX1, 4, rfl, by decide, iX1, rfl, Or.inr ⟨"ParcelMap", xTn 115 (by decide +kernel) rfl⟩⟩
theorem fX8_149 : xFld RX8 149 1 2 := ⟨RX1, TX1, 4, rfl, by decide, iX1, rfl, Or.inr ⟨"ParcelMap", xTn 116 (by decide +kernel) rfl⟩⟩
theorem fX3_57 : xFld RX3 57 1 3 := ⟨RX1, TX1, 4, rfl, by decide, iX1, rfl, Or.inr ⟨"ParcelMap", xTn 118 (by decide +kernel) rfl⟩⟩
theorem fX8_154 : xFld RX8 154 1 3 := ⟨RX1, TX1, 4, rfl, by decide, iX1, rfl, Or.inr ⟨"ParcelMap", xTn 119 (by decide +kernel) rfl⟩⟩
theorem fX6_41 : xFld RX6 41 3 0 := ⟨RX3, TX3, 7, rfl, by decide, iX3, rfl, Or.inr ⟨"ParcelMap", xTn 130 (by decide +kernel) rfl⟩⟩
theorem fX0_38 : xFld RX0 38 3 0 := ⟨RX3, TX3, 7, rfl, by decide, iX3, rfl, Or.inr ⟨"ParcelMap", xTn 131 (by decide +kernel) rfl⟩⟩
theorem fX8_145 : xFld RX8 145 3 0 := ⟨RX3, TX3, 7, rfl, by decide, iX3, rfl, Or.inr ⟨"ParcelMap", xTn 132 (by decide +kernel) rfl⟩⟩
theorem fX8_266 : xFld RX8 266 3 5 := ⟨RX3, TX3, 7, rfl, by decide, iX3, rfl, Or.inr ⟨"ParcelMap", xTn 138 (by decide +kernel) rfl⟩⟩
theorem fX6_31 : xFld RX6 31 3 6 := ⟨RX3, TX3, 7, rfl, by decide, iX3, rfl, Or.inr ⟨"ParcelMap", xTn 140 (by decide +kernel) rfl⟩⟩
theorem fX0_29 : xFld RX0 29 3 6 := ⟨RX3, TX3, 7, rfl, by decide, iX3, rfl, Or.inr ⟨"ParcelMap", xTn 141 (by decide +kernel) rfl⟩⟩
theorem fX8_136 : xFld RX8 136 3 6 := ⟨RX3, TX3, 7, rfl, by decide, iX3, rfl, Or.inr ⟨"ParcelMap", xTn 142 (by decide +kernel) rfl⟩⟩
theorem fX8_237 : xFld RX8 237 6 2 := ⟨RX6, TX6, 4, rfl, by decide, iX6, rfl, Or.inr ⟨"ParcelMap", xTn 170 (by decide +kernel) rfl⟩⟩
theorem fX8_251 : xFld RX8 251 6 3 := ⟨RX6, TX6, 4, rfl, by decide, iX6, rfl, Or.inr ⟨"ParcelMap", xTn 172 (by decide +kernel) rfl⟩⟩
theorem fX8_234 : xFld RX8 234 0 2 := ⟨RX0, TX0, 5, rfl, by decide, iX0, rfl, Or.inr ⟨"ParcelMap", xTn 191 (by decide +kernel) rfl⟩⟩
theorem fX8_233 : xFld RX8 233 0 4 := ⟨RX0, TX0, 5, rfl, by decide, iX0, rfl, Or.inr ⟨"ParcelMap", xTn 194 (by decide +kernel) rfl⟩⟩
theorem kX8_69 : xLnkS RX8 69 mX8_isNumber 1 := ⟨⟨xT 247 (by decide +kernel) rfl, xT 1 (by decide +kernel) rfl, xT 249 (by decide +kernel) rfl, by decide +kernel, by decide +kernel, by decide +kernel, by decide +kernel⟩, xT 248 (by decide +kernel) rfl⟩
theorem kX8_73 : xLnkV RX8 73 mX2_put 2 3 := ⟨⟨xT 253 (by decide +kernel) rfl, xT 2 (by decide +kernel) rfl, xT 256 (by decide +kernel) rfl, by decide +kernel, by decide +kernel, by decide +kernel, by decide +kernel⟩, xT 254 (by decide +kernel) rfl, xT 255 (by decide +kernel) rfl, rfl⟩
theorem kX2_37 : xLnkV RX2 37 mX2_putOne 2 2 := ⟨⟨xT 257 (by decide +kernel) rfl, xT 2 (by decide +kernel) rfl, xT 260 (by decide +kernel) rfl, by decide +kernel, by decide +kernel, by decide +kernel, by decide +kernel⟩, xT 259 (by decide +kernel) rfl, xTp 0 (n := 5) (by decide +kernel), rfl⟩
theorem kX2_49 : xLnkS RX2 49 mX2_limbOf 2 := ⟨⟨xT 265 (by decide +kernel) rfl, xT 2 (by decide +kernel) rfl, xT 267 (by decide +kernel) rfl, by decide +kernel, by decide +kernel, by decide +kernel, by decide +kernel⟩, xT 266 (by decide +kernel) rfl⟩
theorem kX8_77 : xLnkV RX8 77 mX2_sameAsLoose 2 0 := ⟨⟨xT 269 (by decide +kernel) rfl, xT 2 (by decide +kernel) rfl, xT 272 (by decide +kernel) rfl, by decide +kernel, by decide +kernel, by decide +kernel, by decide +kernel⟩, xT 270 (by decide +kernel) rfl, xT 271 (by decide +kernel) rfl, rfl⟩
theorem kX8_84 : xLnkV RX8 84 mX2_make 2 2 := ⟨⟨xT 273 (by decide +kernel) rfl, xT 2 (by decide +kernel) rfl, xT 276 (by decide +kernel) rfl, by decide +kernel, by decide +kernel, by decide +kernel, by decide +kernel⟩, xT 274 (by decide +kernel) rfl, xT 275 (by decide +kernel) rfl, rfl⟩
theorem kX2_33 : xLnkV RX2 33 mX2_put 2 3 := ⟨⟨xT 277 (by decide +kernel) rfl, xT 2 (by decide +kernel) rfl, xT 256 (by decide +kernel) rfl, by decide +kernel, by decide +kernel, by decide +kernel, by decide +kernel⟩, xT 254 (by decide +kernel) rfl, xT 255 (by decide +kernel) rfl, rfl⟩
theorem kX8_88 : xLnkV RX8 88 mX2_has 2 1 := ⟨⟨xT 282 (by decide +kernel) rfl, xT 2 (by decide +kernel) rfl, xT 285 (by decide +kernel) rfl, by decide +kernel, by decide +kernel, by decide +kernel, by decide +kernel⟩, xT 283 (by decide +kernel) rfl, xT 284 (by decide +kernel) rfl, rfl⟩
theorem kX8_100 : xLnkV RX8 100 mX2_isSure 2 3 := ⟨⟨xT 292 (by decide +kernel) rfl, xT 2 (by decide +kernel) rfl, xT 295 (by decide +kernel) rfl, by decide +kernel, by decide +kernel, by decide +kernel, by decide +kernel⟩, xT 293 (by decide +kernel) rfl, xT 294 (by decide +kernel) rfl, rfl⟩
theorem kX2_55 : xLnkV RX2 55 mX2_x 2 1 := ⟨⟨xT 296 (by decide +kernel) rfl, xT 2 (by decide +kernel) rfl, xT 299 (by decide +kernel) rfl, by decide +kernel, by decide +kernel, by decide +kernel, by decide +kernel⟩, xT 297 (by decide +kernel) rfl, xT 298 (by decide +kernel) rfl, rfl⟩
theorem kX2_59 : xLnkV RX2 59 mX2_y 2 1 := ⟨⟨xT 300 (by decide +kernel) rfl, xT 2 (by decide +kernel) rfl, xT 303 (by decide +kernel) rfl, by decide +kernel, by decide +kernel, by decide +kernel, by decide +kernel⟩, xT 301 (by decide +kernel) rfl, xT 302 (by decide +kernel) rfl, rfl⟩
theorem kX2_62 : xLnkS RX2 62 mX2_isSureOf 2 := ⟨⟨xT 304 (by decide +kernel) rfl, xT 2 (by decide +kernel) rfl, xT 306 (by decide +kernel) rfl, by decide +kernel, by decide +kernel, by decide +kernel, by decide +kernel⟩, xT 305 (by decide +kernel) rfl⟩
theorem kX8_104 : xLnkV RX8 104 mX2_turn 2 3 := ⟨⟨xT 308 (by decide +kernel) rfl, xT 2 (by decide +kernel) rfl, xT 311 (by decide +kernel) rfl, by decide +kernel, by decide +kernel, by decide +kernel, by decide +kernel⟩, xT 309 (by decide +kernel) rfl, xT 310 (by decide +kernel) rfl, rfl⟩
theorem kX2_68 : xLnkV RX2 68 mX2_exactTurn 2 3 := ⟨⟨xT 312 (by decide +kernel) rfl, xT 2 (by decide +kernel) rfl, xT 315 (by decide +kernel) rfl, by decide +kernel, by decide +kernel, by decide +kernel, by decide +kernel⟩, xT 314 (by decide +kernel) rfl, xTp 1 (n := 5) (by decide +kernel), rfl⟩
theorem kX2_72 : xLnkV RX2 72 mX7_clear 7 0 := ⟨⟨xT 316 (by decide +kernel) rfl, xT 3 (by decide +kernel) rfl, xT 319 (by decide +kernel) rfl, by decide +kernel, by decide +kernel, by decide +kernel, by decide +kernel⟩, xT 317 (by decide +kernel) rfl, xT 318 (by decide +kernel) rfl, rfl⟩
theorem kX2_78 : xLnkV RX2 78 mX7_sign 7 0 := ⟨⟨xT 320 (by decide +kernel) rfl, xT 3 (by decide +kernel) rfl, xT 323 (by decide +kernel) rfl, by decide +kernel, by decide +kernel, by decide +kernel, by decide +kernel⟩, xT 321 (by decide +kernel) rfl, xT 322 (by decide +kernel) rfl, rfl⟩
theorem kX8_108 : xLnkV RX8 108 mX2_meeting 2 4 := ⟨⟨xT 333 (by decide +kernel) rfl, xT 2 (by decide +kernel) rfl, xT 336 (by decide +kernel) rfl, by decide +kernel, by decide +kernel, by decide +kernel, by decide +kernel⟩, xT 334 (by decide +kernel) rfl, xT 335 (by decide +kernel) rfl, rfl⟩
theorem kX2_82 : xLnkS RX2 82 mX2_spansMeet 4 := ⟨⟨xT 337 (by decide +kernel) rfl, xT 2 (by decide +kernel) rfl, xT 339 (by decide +kernel) rfl, by decide +kernel, by decide +kernel, by decide +kernel, by decide +kernel⟩, xT 338 (by decide +kernel) rfl⟩
theorem kX2_86 : xLnkV RX2 86 mX2_turn 2 3 := ⟨⟨xT 340 (by decide +kernel) rfl, xT 2 (by decide +kernel) rfl, xT 311 (by decide +kernel) rfl, by decide +kernel, by decide +kernel, by decide +kernel, by decide +kernel⟩, xT 309 (by decide +kernel) rfl, xT 310 (by decide +kernel) rfl, rfl⟩
theorem kX2_89 : xLnkV RX2 89 mX2_meetingInLine 2 4 := ⟨⟨xT 341 (by decide +kernel) rfl, xT 2 (by decide +kernel) rfl, xT 344 (by decide +kernel) rfl, by decide +kernel, by decide +kernel, by decide +kernel, by decide +kernel⟩, xT 343 (by decide +kernel) rfl, xTp 2 (n := 5) (by decide +kernel), rfl⟩
theorem kX2_93 : xLnkV RX2 93 mX2_isAhead 2 2 := ⟨⟨xT 345 (by decide +kernel) rfl, xT 2 (by decide +kernel) rfl, xT 348 (by decide +kernel) rfl, by decide +kernel, by decide +kernel, by decide +kernel, by decide +kernel⟩, xT 346 (by decide +kernel) rfl, xT 347 (by decide +kernel) rfl, rfl⟩
theorem kX8_112 : xLnkV RX8 112 mX2_nearestToLoose 2 0 := ⟨⟨xT 353 (by decide +kernel) rfl, xT 2 (by decide +kernel) rfl, xT 356 (by decide +kernel) rfl, by decide +kernel, by decide +kernel, by decide +kernel, by decide +kernel⟩, xT 354 (by decide +kernel) rfl, xT 355 (by decide +kernel) rfl, rfl⟩
theorem kX2_99 : xLnkV RX2 99 mX2_isNearer 2 2 := ⟨⟨xT 358 (by decide +kernel) rfl, xT 2 (by decide +kernel) rfl, xT 361 (by decide +kernel) rfl, by decide +kernel, by decide +kernel, by decide +kernel, by decide +kernel⟩, xT 360 (by decide +kernel) rfl, xTp 3 (n := 5) (by decide +kernel), rfl⟩
theorem kX8_118 : xLnkV RX8 118 mX4_empty 4 0 := ⟨⟨xT 366 (by decide +kernel) rfl, xT 7 (by decide +kernel) rfl, xT 369 (by decide +kernel) rfl, by decide +kernel, by decide +kernel, by decide +kernel, by decide +kernel⟩, xT 367 (by decide +kernel) rfl, xT 368 (by decide +kernel) rfl, rfl⟩
theorem kX8_121 : xLnkV RX8 121 mX4_push 4 1 := ⟨⟨xT 374 (by decide +kernel) rfl, xT 7 (by decide +kernel) rfl, xT 377 (by decide +kernel) rfl, by decide +kernel, by decide +kernel, by decide +kernel, by decide +kernel⟩, xT 375 (by decide +kernel) rfl, xT 376 (by decide +kernel) rfl, rfl⟩
theorem kX8_125 : xLnkS RX8 125 mX8_isLayer 1 := ⟨⟨xT 382 (by decide +kernel) rfl, xT 1 (by decide +kernel) rfl, xT 384 (by decide +kernel) rfl, by decide +kernel, by decide +kernel, by decide +kernel, by decide +kernel⟩, xT 383 (by decide +kernel) rfl⟩
theorem kX8_128 : xLnkV RX8 128 mX3_hasRoom 3 0 := ⟨⟨xT 385 (by decide +kernel) rfl, xT 5 (by decide +kernel) rfl, xT 388 (by decide +kernel) rfl, by decide +kernel, by decide +kernel, by decide +kernel, by decide +kernel⟩, xT 386 (by decide +kernel) rfl, xT 387 (by decide +kernel) rfl, rfl⟩
theorem kX8_132 : xLnkV RX8 132 mX8_faultIn 8 3 := ⟨⟨xT 389 (by decide +kernel) rfl, xT 1 (by decide +kernel) rfl, xT 392 (by decide +kernel) rfl, by decide +kernel, by decide +kernel, by decide +kernel, by decide +kernel⟩, xT 391 (by decide +kernel) rfl, xTp 4 (n := 11) (by decide +kernel), rfl⟩
theorem kX8_190 : xLnkV RX8 190 mX5_faultOf 5 1 := ⟨⟨xT 393 (by decide +kernel) rfl, xT 4 (by decide +kernel) rfl, xT 396 (by decide +kernel) rfl, by decide +kernel, by decide +kernel, by decide +kernel, by decide +kernel⟩, xT 394 (by decide +kernel) rfl, xT 395 (by decide +kernel) rfl, rfl⟩
theorem kX5_24 : xLnkV RX5 24 mX5_findsTwins 5 1 := ⟨⟨xT 397 (by decide +kernel) rfl, xT 4 (by decide +kernel) rfl, xT 400 (by decide +kernel) rfl, by decide +kernel, by decide +kernel, by decide +kernel, by decide +kernel⟩, xT 399 (by decide +kernel) rfl, xTp 5 (n := 2) (by decide +kernel), rfl⟩
theorem kX5_28 : xLnkV RX5 28 mX5_findsCrossing 5 1 := ⟨⟨xT 401 (by decide +kernel) rfl, xT 4 (by decide +kernel) rfl, xT 404 (by decide +kernel) rfl, by decide +kernel, by decide +kernel, by decide +kernel, by decide +kernel⟩, xT 403 (by decide +kernel) rfl, xTp 6 (n := 2) (by decide +kernel), rfl⟩
theorem kX5_35 : xLnkV RX5 35 mX4_around 4 1 := ⟨⟨xT 405 (by decide +kernel) rfl, xT 7 (by decide +kernel) rfl, xT 408 (by decide +kernel) rfl, by decide +kernel, by decide +kernel, by decide +kernel, by decide +kernel⟩, xT 406 (by decide +kernel) rfl, xT 407 (by decide +kernel) rfl, rfl⟩
theorem kX5_39 : xLnkV RX5 39 mX2_meeting 2 4 := ⟨⟨xT 409 (by decide +kernel) rfl, xT 2 (by decide +kernel) rfl, xT 336 (by decide +kernel) rfl, by decide +kernel, by decide +kernel, by decide +kernel, by decide +kernel⟩, xT 334 (by decide +kernel) rfl, xT 335 (by decide +kernel) rfl, rfl⟩
theorem kX8_179 : xLnkV RX8 179 mX5_settle 5 2 := ⟨⟨xT 410 (by decide +kernel) rfl, xT 4 (by decide +kernel) rfl, xT 413 (by decide +kernel) rfl, by decide +kernel, by decide +kernel, by decide +kernel, by decide +kernel⟩, xT 411 (by decide +kernel) rfl, xT 412 (by decide +kernel) rfl, rfl⟩
theorem kX5_45 : xLnkV RX5 45 mX2_isAhead 2 2 := ⟨⟨xT 414 (by decide +kernel) rfl, xT 2 (by decide +kernel) rfl, xT 348 (by decide +kernel) rfl, by decide +kernel, by decide +kernel, by decide +kernel, by decide +kernel⟩, xT 346 (by decide +kernel) rfl, xT 347 (by decide +kernel) rfl, rfl⟩
theorem kX5_49 : xLnkV RX5 49 mX2_turn 2 3 := ⟨⟨xT 415 (by decide +kernel) rfl, xT 2 (by decide +kernel) rfl, xT 311 (by decide +kernel) rfl, by decide +kernel, by decide +kernel, by decide +kernel, by decide +kernel⟩, xT 309 (by decide +kernel) rfl, xT 310 (by decide +kernel) rfl, rfl⟩
theorem kX5_53 : xLnkV RX5 53 mX4_empty 4 0 := ⟨⟨xT 416 (by decide +kernel) rfl, xT 7 (by decide +kernel) rfl, xT 369 (by decide +kernel) rfl, by decide +kernel, by decide +kernel, by decide +kernel, by decide +kernel⟩, xT 367 (by decide +kernel) rfl, xT 368 (by decide +kernel) rfl, rfl⟩
theorem kX5_56 : xLnkV RX5 56 mX4_push 4 1 := ⟨⟨xT 417 (by decide +kernel) rfl, xT 7 (by decide +kernel) rfl, xT 377 (by decide +kernel) rfl, by decide +kernel, by decide +kernel, by decide +kernel, by decide +kernel⟩, xT 375 (by decide +kernel) rfl, xT 376 (by decide +kernel) rfl, rfl⟩
theorem kX8_208 : xLnkV RX8 208 mX3_isOf 3 2 := ⟨⟨xT 418 (by decide +kernel) rfl, xT 5 (by decide +kernel) rfl, xT 421 (by decide +kernel) rfl, by decide +kernel, by decide +kernel, by decide +kernel, by decide +kernel⟩, xT 419 (by decide +kernel) rfl, xT 420 (by decide +kernel) rfl, rfl⟩
theorem kX3_42 : xLnkV RX3 42 mX3_has 3 1 := ⟨⟨xT 422 (by decide +kernel) rfl, xT 5 (by decide +kernel) rfl, xT 425 (by decide +kernel) rfl, by decide +kernel, by decide +kernel, by decide +kernel, by decide +kernel⟩, xT 423 (by decide +kernel) rfl, xT 424 (by decide +kernel) rfl, rfl⟩
theorem kX8_282 : xLnkV RX8 282 mX5_framesMeet 5 2 := ⟨⟨xT 426 (by decide +kernel) rfl, xT 4 (by decide +kernel) rfl, xT 429 (by decide +kernel) rfl, by decide +kernel, by decide +kernel, by decide +kernel, by decide +kernel⟩, xT 427 (by decide +kernel) rfl, xT 428 (by decide +kernel) rfl, rfl⟩
theorem kX5_88 : xLnkV RX5 88 mX5_farthest 5 3 := ⟨⟨xT 430 (by decide +kernel) rfl, xT 4 (by decide +kernel) rfl, xT 433 (by decide +kernel) rfl, by decide +kernel, by decide +kernel, by decide +kernel, by decide +kernel⟩, xT 432 (by decide +kernel) rfl, xTp 7 (n := 2) (by decide +kernel), rfl⟩
theorem kX8_286 : xLnkV RX8 286 mX5_reachesInto 5 2 := ⟨⟨xT 434 (by decide +kernel) rfl, xT 4 (by decide +kernel) rfl, xT 437 (by decide +kernel) rfl, by decide +kernel, by decide +kernel, by decide +kernel, by decide +kernel⟩, xT 435 (by decide +kernel) rfl, xT 436 (by decide +kernel) rfl, rfl⟩
theorem kX5_72 : xLnkV RX5 72 mX5_cutsInto 5 3 := ⟨⟨xT 438 (by decide +kernel) rfl, xT 4 (by decide +kernel) rfl, xT 441 (by decide +kernel) rfl, by decide +kernel, by decide +kernel, by decide +kernel, by decide +kernel⟩, xT 440 (by decide +kernel) rfl, xTp 8 (n := 2) (by decide +kernel), rfl⟩
theorem kX5_60 : xLnkV RX5 60 mX2_isOn 2 3 := ⟨⟨xT 442 (by decide +kernel) rfl, xT 2 (by decide +kernel) rfl, xT 445 (by decide +kernel) rfl, by decide +kernel, by decide +kernel, by decide +kernel, by decide +kernel⟩, xT 443 (by decide +kernel) rfl, xT 444 (by decide +kernel) rfl, rfl⟩
theorem kX5_68 : xLnkV RX5 68 mX5_opensTo 5 3 := ⟨⟨xT 446 (by decide +kernel) rfl, xT 4 (by decide +kernel) rfl, xT 449 (by decide +kernel) rfl, by decide +kernel, by decide +kernel, by decide +kernel, by decide +kernel⟩, xT 448 (by decide +kernel) rfl, xTp 9 (n := 2) (by decide +kernel), rfl⟩
theorem kX5_76 : xLnkV RX5 76 mX5_placeOf 5 2 := ⟨⟨xT 450 (by decide +kernel) rfl, xT 4 (by decide +kernel) rfl, xT 453 (by decide +kernel) rfl, by decide +kernel, by decide +kernel, by decide +kernel, by decide +kernel⟩, xT 451 (by decide +kernel) rfl, xT 452 (by decide +kernel) rfl, rfl⟩
theorem kX5_64 : xLnkV RX5 64 mX2_y 2 1 := ⟨⟨xT 454 (by decide +kernel) rfl, xT 2 (by decide +kernel) rfl, xT 303 (by decide +kernel) rfl, by decide +kernel, by decide +kernel, by decide +kernel, by decide +kernel⟩, xT 301 (by decide +kernel) rfl, xT 302 (by decide +kernel) rfl, rfl⟩
theorem kX5_80 : xLnkV RX5 80 mX5_startsInto 5 4 := ⟨⟨xT 455 (by decide +kernel) rfl, xT 4 (by decide +kernel) rfl, xT 458 (by decide +kernel) rfl, by decide +kernel, by decide +kernel, by decide +kernel, by decide +kernel⟩, xT 457 (by decide +kernel) rfl, xTp 10 (n := 2) (by decide +kernel), rfl⟩
theorem kX8_289 : xLnkV RX8 289 mX5_haveLikeLand 5 2 := ⟨⟨xT 459 (by decide +kernel) rfl, xT 4 (by decide +kernel) rfl, xT 462 (by decide +kernel) rfl, by decide +kernel, by decide +kernel, by decide +kernel, by decide +kernel⟩, xT 460 (by decide +kernel) rfl, xT 461 (by decide +kernel) rfl, rfl⟩
theorem kX5_84 : xLnkV RX5 84 mX5_common 5 4 := ⟨⟨xT 463 (by decide +kernel) rfl, xT 4 (by decide +kernel) rfl, xT 466 (by decide +kernel) rfl, by decide +kernel, by decide +kernel, by decide +kernel, by decide +kernel⟩, xT 465 (by decide +kernel) rfl, xTp 11 (n := 2) (by decide +kernel), rfl⟩
theorem kX8_137 : xLnkV RX8 137 mX3_keep 3 2 := ⟨⟨xT 467 (by decide +kernel) rfl, xT 5 (by decide +kernel) rfl, xT 470 (by decide +kernel) rfl, by decide +kernel, by decide +kernel, by decide +kernel, by decide +kernel⟩, xT 468 (by decide +kernel) rfl, xT 469 (by decide +kernel) rfl, rfl⟩
theorem kX3_70 : xLnkS RX3 70 mX3_isEntry 1 := ⟨⟨xT 471 (by decide +kernel) rfl, xT 5 (by decide +kernel) rfl, xT 473 (by decide +kernel) rfl, by decide +kernel, by decide +kernel, by decide +kernel, by decide +kernel⟩, xT 472 (by decide +kernel) rfl⟩
theorem kX3_73 : xLnkV RX3 73 mX1_copy 1 1 := ⟨⟨xT 474 (by decide +kernel) rfl, xT 6 (by decide +kernel) rfl, xT 477 (by decide +kernel) rfl, by decide +kernel, by decide +kernel, by decide +kernel, by decide +kernel⟩, xT 475 (by decide +kernel) rfl, xT 476 (by decide +kernel) rfl, rfl⟩
theorem kX1_27 : xLnkV RX1 27 mX4_copy 4 1 := ⟨⟨xT 478 (by decide +kernel) rfl, xT 7 (by decide +kernel) rfl, xT 481 (by decide +kernel) rfl, by decide +kernel, by decide +kernel, by decide +kernel, by decide +kernel⟩, xT 479 (by decide +kernel) rfl, xT 480 (by decide +kernel) rfl, rfl⟩
theorem kX8_141 : xLnkV RX8 141 mX3_make 3 3 := ⟨⟨xT 482 (by decide +kernel) rfl, xT 5 (by decide +kernel) rfl, xT 485 (by decide +kernel) rfl, by decide +kernel, by decide +kernel, by decide +kernel, by decide +kernel⟩, xT 483 (by decide +kernel) rfl, xT 484 (by decide +kernel) rfl, rfl⟩
theorem kX3_53 : xLnkV RX3 53 mX3_hasRoom 3 0 := ⟨⟨xT 486 (by decide +kernel) rfl, xT 5 (by decide +kernel) rfl, xT 388 (by decide +kernel) rfl, by decide +kernel, by decide +kernel, by decide +kernel, by decide +kernel⟩, xT 386 (by decide +kernel) rfl, xT 387 (by decide +kernel) rfl, rfl⟩
theorem kX3_64 : xLnkV RX3 64 mX4_copy 4 1 := ⟨⟨xT 487 (by decide +kernel) rfl, xT 7 (by decide +kernel) rfl, xT 481 (by decide +kernel) rfl, by decide +kernel, by decide +kernel, by decide +kernel, by decide +kernel⟩, xT 479 (by decide +kernel) rfl, xT 480 (by decide +kernel) rfl, rfl⟩
theorem kX8_144 : xLnkV RX8 144 mX3_has 3 1 := ⟨⟨xT 496 (by decide +kernel) rfl, xT 5 (by decide +kernel) rfl, xT 425 (by decide +kernel) rfl, by decide +kernel, by decide +kernel, by decide +kernel, by decide +kernel⟩, xT 423 (by decide +kernel) rfl, xT 424 (by decide +kernel) rfl, rfl⟩
theorem kX8_160 : xLnkV RX8 160 mX4_around 4 1 := ⟨⟨xT 497 (by decide +kernel) rfl, xT 7 (by decide +kernel) rfl, xT 408 (by decide +kernel) rfl, by decide +kernel, by decide +kernel, by decide +kernel, by decide +kernel⟩, xT 406 (by decide +kernel) rfl, xT 407 (by decide +kernel) rfl, rfl⟩
theorem kX8_168 : xLnkV RX8 168 mX3_thereNow 3 0 := ⟨⟨xT 506 (by decide +kernel) rfl, xT 5 (by decide +kernel) rfl, xT 509 (by decide +kernel) rfl, by decide +kernel, by decide +kernel, by decide +kernel, by decide +kernel⟩, xT 507 (by decide +kernel) rfl, xT 508 (by decide +kernel) rfl, rfl⟩
theorem kX8_171 : xLnkV RX8 171 mX5_isCut 5 3 := ⟨⟨xT 514 (by decide +kernel) rfl, xT 4 (by decide +kernel) rfl, xT 517 (by decide +kernel) rfl, by decide +kernel, by decide +kernel, by decide +kernel, by decide +kernel⟩, xT 515 (by decide +kernel) rfl, xT 516 (by decide +kernel) rfl, rfl⟩
theorem kX8_175 : xLnkV RX8 175 mX4_pushRun 4 3 := ⟨⟨xT 518 (by decide +kernel) rfl, xT 7 (by decide +kernel) rfl, xT 521 (by decide +kernel) rfl, by decide +kernel, by decide +kernel, by decide +kernel, by decide +kernel⟩, xT 519 (by decide +kernel) rfl, xT 520 (by decide +kernel) rfl, rfl⟩
theorem kX4_19 : xLnkV RX4 19 mX4_around 4 1 := ⟨⟨xT 522 (by decide +kernel) rfl, xT 7 (by decide +kernel) rfl, xT 408 (by decide +kernel) rfl, by decide +kernel, by decide +kernel, by decide +kernel, by decide +kernel⟩, xT 406 (by decide +kernel) rfl, xT 407 (by decide +kernel) rfl, rfl⟩
theorem kX4_23 : xLnkV RX4 23 mX4_push 4 1 := ⟨⟨xT 523 (by decide +kernel) rfl, xT 7 (by decide +kernel) rfl, xT 377 (by decide +kernel) rfl, by decide +kernel, by decide +kernel, by decide +kernel, by decide +kernel⟩, xT 375 (by decide +kernel) rfl, xT 376 (by decide +kernel) rfl, rfl⟩
theorem kX8_183 : xLnkV RX8 183 mX4_startOfShared 4 1 := ⟨⟨xT 528 (by decide +kernel) rfl, xT 7 (by decide +kernel) rfl, xT 531 (by decide +kernel) rfl, by decide +kernel, by decide +kernel, by decide +kernel, by decide +kernel⟩, xT 529 (by decide +kernel) rfl, xT 530 (by decide +kernel) rfl, rfl⟩
theorem kX4_27 : xLnkV RX4 27 mX4_isShared 4 2 := ⟨⟨xT 532 (by decide +kernel) rfl, xT 7 (by decide +kernel) rfl, xT 535 (by decide +kernel) rfl, by decide +kernel, by decide +kernel, by decide +kernel, by decide +kernel⟩, xT 534 (by decide +kernel) rfl, xTp 12 (n := 2) (by decide +kernel), rfl⟩
theorem kX8_187 : xLnkV RX8 187 mX4_sharedWith 4 1 := ⟨⟨xT 536 (by decide +kernel) rfl, xT 7 (by decide +kernel) rfl, xT 539 (by decide +kernel) rfl, by decide +kernel, by decide +kernel, by decide +kernel, by decide +kernel⟩, xT 537 (by decide +kernel) rfl, xT 538 (by decide +kernel) rfl, rfl⟩
theorem kX8_196 : xLnkV RX8 196 mX4_copy 4 1 := ⟨⟨xT 544 (by decide +kernel) rfl, xT 7 (by decide +kernel) rfl, xT 481 (by decide +kernel) rfl, by decide +kernel, by decide +kernel, by decide +kernel, by decide +kernel⟩, xT 479 (by decide +kernel) rfl, xT 480 (by decide +kernel) rfl, rfl⟩
theorem kX8_204 : xLnkV RX8 204 mX5_stretches 5 2 := ⟨⟨xT 549 (by decide +kernel) rfl, xT 4 (by decide +kernel) rfl, xT 552 (by decide +kernel) rfl, by decide +kernel, by decide +kernel, by decide +kernel, by decide +kernel⟩, xT 550 (by decide +kernel) rfl, xT 551 (by decide +kernel) rfl, rfl⟩
theorem kX8_212 : xLnkV RX8 212 mX5_placeOf 5 2 := ⟨⟨xT 561 (by decide +kernel) rfl, xT 4 (by decide +kernel) rfl, xT 453 (by decide +kernel) rfl, by decide +kernel, by decide +kernel, by decide +kernel, by decide +kernel⟩, xT 451 (by decide +kernel) rfl, xT 452 (by decide +kernel) rfl, rfl⟩
theorem kX8_216 : xLnkV RX8 216 mX5_goesThrough 5 3 := ⟨⟨xT 570 (by decide +kernel) rfl, xT 4 (by decide +kernel) rfl, xT 573 (by decide +kernel) rfl, by decide +kernel, by decide +kernel, by decide +kernel, by decide +kernel⟩, xT 571 (by decide +kernel) rfl, xT 572 (by decide +kernel) rfl, rfl⟩
theorem kX8_220 : xLnkV RX8 220 mX3_thereIn 3 1 := ⟨⟨xT 578 (by decide +kernel) rfl, xT 5 (by decide +kernel) rfl, xT 581 (by decide +kernel) rfl, by decide +kernel, by decide +kernel, by decide +kernel, by decide +kernel⟩, xT 579 (by decide +kernel) rfl, xT 580 (by decide +kernel) rfl, rfl⟩
theorem kX3_49 : xLnkV RX3 49 mX3_isOf 3 2 := ⟨⟨xT 582 (by decide +kernel) rfl, xT 5 (by decide +kernel) rfl, xT 421 (by decide +kernel) rfl, by decide +kernel, by decide +kernel, by decide +kernel, by decide +kernel⟩, xT 419 (by decide +kernel) rfl, xT 420 (by decide +kernel) rfl, rfl⟩
theorem kX8_223 : xLnkV RX8 223 mX0_gather 0 2 := ⟨⟨xT 583 (by decide +kernel) rfl, xT 9 (by decide +kernel) rfl, xT 586 (by decide +kernel) rfl, by decide +kernel, by decide +kernel, by decide +kernel, by decide +kernel⟩, xT 584 (by decide +kernel) rfl, xT 585 (by decide +kernel) rfl, rfl⟩
theorem kX0_34 : xLnkV RX0 34 mX3_isOf 3 2 := ⟨⟨xT 587 (by decide +kernel) rfl, xT 5 (by decide +kernel) rfl, xT 421 (by decide +kernel) rfl, by decide +kernel, by decide +kernel, by decide +kernel, by decide +kernel⟩, xT 419 (by decide +kernel) rfl, xT 420 (by decide +kernel) rfl, rfl⟩
theorem kX0_48 : xLnkV RX0 48 mX0_take 0 1 := ⟨⟨xT 588 (by decide +kernel) rfl, xT 9 (by decide +kernel) rfl, xT 591 (by decide +kernel) rfl, by decide +kernel, by decide +kernel, by decide +kernel, by decide +kernel⟩, xT 590 (by decide +kernel) rfl, xTp 13 (n := 5) (by decide +kernel), rfl⟩
theorem kX8_227 : xLnkV RX8 227 mX0_sort 0 1 := ⟨⟨xT 592 (by decide +kernel) rfl, xT 9 (by decide +kernel) rfl, xT 595 (by decide +kernel) rfl, by decide +kernel, by decide +kernel, by decide +kernel, by decide +kernel⟩, xT 593 (by decide +kernel) rfl, xT 594 (by decide +kernel) rfl, rfl⟩
theorem kX0_58 : xLnkV RX0 58 mX2_isAhead 2 2 := ⟨⟨xT 596 (by decide +kernel) rfl, xT 2 (by decide +kernel) rfl, xT 348 (by decide +kernel) rfl, by decide +kernel, by decide +kernel, by decide +kernel, by decide +kernel⟩, xT 346 (by decide +kernel) rfl, xT 347 (by decide +kernel) rfl, rfl⟩
theorem kX8_230 : xLnkV RX8 230 mX0_wrap 0 1 := ⟨⟨xT 597 (by decide +kernel) rfl, xT 9 (by decide +kernel) rfl, xT 600 (by decide +kernel) rfl, by decide +kernel, by decide +kernel, by decide +kernel, by decide +kernel⟩, xT 598 (by decide +kernel) rfl, xT 599 (by decide +kernel) rfl, rfl⟩
theorem kX0_63 : xLnkV RX0 63 mX0_append 0 3 := ⟨⟨xT 601 (by decide +kernel) rfl, xT 9 (by decide +kernel) rfl, xT 604 (by decide +kernel) rfl, by decide +kernel, by decide +kernel, by decide +kernel, by decide +kernel⟩, xT 603 (by decide +kernel) rfl, xTp 14 (n := 5) (by decide +kernel), rfl⟩
theorem kX0_67 : xLnkV RX0 67 mX2_turn 2 3 := ⟨⟨xT 605 (by decide +kernel) rfl, xT 2 (by decide +kernel) rfl, xT 311 (by decide +kernel) rfl, by decide +kernel, by decide +kernel, by decide +kernel, by decide +kernel⟩, xT 309 (by decide +kernel) rfl, xT 310 (by decide +kernel) rfl, rfl⟩
theorem kX8_241 : xLnkV RX8 241 mX2_measure 2 2 := ⟨⟨xT 614 (by decide +kernel) rfl, xT 2 (by decide +kernel) rfl, xT 617 (by decide +kernel) rfl, by decide +kernel, by decide +kernel, by decide +kernel, by decide +kernel⟩, xT 615 (by decide +kernel) rfl, xT 616 (by decide +kernel) rfl, rfl⟩
theorem kX2_107 : xLnkV RX2 107 mX4_around 4 1 := ⟨⟨xT 618 (by decide +kernel) rfl, xT 7 (by decide +kernel) rfl, xT 408 (by decide +kernel) rfl, by decide +kernel, by decide +kernel, by decide +kernel, by decide +kernel⟩, xT 406 (by decide +kernel) rfl, xT 407 (by decide +kernel) rfl, rfl⟩
theorem kX2_111 : xLnkV RX2 111 mX7_carry 7 0 := ⟨⟨xT 619 (by decide +kernel) rfl, xT 3 (by decide +kernel) rfl, xT 622 (by decide +kernel) rfl, by decide +kernel, by decide +kernel, by decide +kernel, by decide +kernel⟩, xT 620 (by decide +kernel) rfl, xT 621 (by decide +kernel) rfl, rfl⟩
theorem kX8_245 : xLnkV RX8 245 mX7_wholePart 7 0 := ⟨⟨xT 623 (by decide +kernel) rfl, xT 3 (by decide +kernel) rfl, xT 626 (by decide +kernel) rfl, by decide +kernel, by decide +kernel, by decide +kernel, by decide +kernel⟩, xT 624 (by decide +kernel) rfl, xT 625 (by decide +kernel) rfl, rfl⟩
theorem kX8_254 : xLnkV RX8 254 mX7_against 7 1 := ⟨⟨xT 631 (by decide +kernel) rfl, xT 3 (by decide +kernel) rfl, xT 634 (by decide +kernel) rfl, by decide +kernel, by decide +kernel, by decide +kernel, by decide +kernel⟩, xT 632 (by decide +kernel) rfl, xT 633 (by decide +kernel) rfl, rfl⟩
theorem kX8_258 : xLnkV RX8 258 mX6_weigh 6 3 := ⟨⟨xT 639 (by decide +kernel) rfl, xT 8 (by decide +kernel) rfl, xT 642 (by decide +kernel) rfl, by decide +kernel, by decide +kernel, by decide +kernel, by decide +kernel⟩, xT 640 (by decide +kernel) rfl, xT 641 (by decide +kernel) rfl, rfl⟩
theorem kX6_28 : xLnkV RX6 28 mX7_clear 7 0 := ⟨⟨xT 643 (by decide +kernel) rfl, xT 3 (by decide +kernel) rfl, xT 319 (by decide +kernel) rfl, by decide +kernel, by decide +kernel, by decide +kernel, by decide +kernel⟩, xT 317 (by decide +kernel) rfl, xT 318 (by decide +kernel) rfl, rfl⟩
theorem kX6_37 : xLnkV RX6 37 mX3_isOf 3 2 := ⟨⟨xT 644 (by decide +kernel) rfl, xT 5 (by decide +kernel) rfl, xT 421 (by decide +kernel) rfl, by decide +kernel, by decide +kernel, by decide +kernel, by decide +kernel⟩, xT 419 (by decide +kernel) rfl, xT 420 (by decide +kernel) rfl, rfl⟩
theorem kX6_51 : xLnkV RX6 51 mX2_measure 2 2 := ⟨⟨xT 645 (by decide +kernel) rfl, xT 2 (by decide +kernel) rfl, xT 617 (by decide +kernel) rfl, by decide +kernel, by decide +kernel, by decide +kernel, by decide +kernel⟩, xT 615 (by decide +kernel) rfl, xT 616 (by decide +kernel) rfl, rfl⟩
theorem kX6_57 : xLnkV RX6 57 mX7_plus 7 2 := ⟨⟨xT 646 (by decide +kernel) rfl, xT 3 (by decide +kernel) rfl, xT 649 (by decide +kernel) rfl, by decide +kernel, by decide +kernel, by decide +kernel, by decide +kernel⟩, xT 647 (by decide +kernel) rfl, xT 648 (by decide +kernel) rfl, rfl⟩
theorem kX6_61 : xLnkV RX6 61 mX7_carry 7 0 := ⟨⟨xT 650 (by decide +kernel) rfl, xT 3 (by decide +kernel) rfl, xT 622 (by decide +kernel) rfl, by decide +kernel, by decide +kernel, by decide +kernel, by decide +kernel⟩, xT 620 (by decide +kernel) rfl, xT 621 (by decide +kernel) rfl, rfl⟩
theorem kX8_262 : xLnkV RX8 262 mX6_shareOf 6 4 := ⟨⟨xT 651 (by decide +kernel) rfl, xT 8 (by decide +kernel) rfl, xT 654 (by decide +kernel) rfl, by decide +kernel, by decide +kernel, by decide +kernel, by decide +kernel⟩, xT 652 (by decide +kernel) rfl, xT 653 (by decide +kernel) rfl, rfl⟩
theorem kX6_64 : xLnkV RX6 64 mX6_cutShare 6 2 := ⟨⟨xT 655 (by decide +kernel) rfl, xT 8 (by decide +kernel) rfl, xT 658 (by decide +kernel) rfl, by decide +kernel, by decide +kernel, by decide +kernel, by decide +kernel⟩, xT 657 (by decide +kernel) rfl, xTp 15 (n := 4) (by decide +kernel), rfl⟩
theorem kX6_72 : xLnkV RX6 72 mX7_copy 7 1 := ⟨⟨xT 659 (by decide +kernel) rfl, xT 3 (by decide +kernel) rfl, xT 662 (by decide +kernel) rfl, by decide +kernel, by decide +kernel, by decide +kernel, by decide +kernel⟩, xT 660 (by decide +kernel) rfl, xT 661 (by decide +kernel) rfl, rfl⟩
theorem kX6_76 : xLnkV RX6 76 mX7_sign 7 0 := ⟨⟨xT 663 (by decide +kernel) rfl, xT 3 (by decide +kernel) rfl, xT 323 (by decide +kernel) rfl, by decide +kernel, by decide +kernel, by decide +kernel, by decide +kernel⟩, xT 321 (by decide +kernel) rfl, xT 322 (by decide +kernel) rfl, rfl⟩
theorem kX6_68 : xLnkV RX6 68 mX7_against 7 1 := ⟨⟨xT 664 (by decide +kernel) rfl, xT 3 (by decide +kernel) rfl, xT 634 (by decide +kernel) rfl, by decide +kernel, by decide +kernel, by decide +kernel, by decide +kernel⟩, xT 632 (by decide +kernel) rfl, xT 633 (by decide +kernel) rfl, rfl⟩
theorem kX8_269 : xLnkV RX8 269 mX3_restore 3 0 := ⟨⟨xT 669 (by decide +kernel) rfl, xT 5 (by decide +kernel) rfl, xT 672 (by decide +kernel) rfl, by decide +kernel, by decide +kernel, by decide +kernel, by decide +kernel⟩, xT 670 (by decide +kernel) rfl, xT 671 (by decide +kernel) rfl, rfl⟩
theorem kX9_176 : xLnkS RX9 176 mX9_isNumber 1 := ⟨⟨xT 823 (by decide +kernel) rfl, xT 10 (by decide +kernel) rfl, xT 825 (by decide +kernel) rfl, by decide +kernel, by decide +kernel, by decide +kernel, by decide +kernel⟩, xT 824 (by decide +kernel) rfl⟩
theorem kX9_132 : xLnkS RX9 132 mX9_plain 1 := ⟨⟨xT 829 (by decide +kernel) rfl, xT 10 (by decide +kernel) rfl, xT 831 (by decide +kernel) rfl, by decide +kernel, by decide +kernel, by decide +kernel, by decide +kernel⟩, xT 830 (by decide +kernel) rfl⟩
theorem kX9_180 : xLnkV RX9 180 mX9_lay 9 3 := ⟨⟨xT 832 (by decide +kernel) rfl, xT 10 (by decide +kernel) rfl, xT 835 (by decide +kernel) rfl, by decide +kernel, by decide +kernel, by decide +kernel, by decide +kernel⟩, xT 834 (by decide +kernel) rfl, xTp 16 (n := 43) (by decide +kernel), rfl⟩
theorem kX9_136 : xLnkS RX9 136 mX9_whole 3 := ⟨⟨xT 836 (by decide +kernel) rfl, xT 10 (by decide +kernel) rfl, xT 838 (by decide +kernel) rfl, by decide +kernel, by decide +kernel, by decide +kernel, by decide +kernel⟩, xT 837 (by decide +kernel) rfl⟩
theorem kX9_128 : xLnkS RX9 128 mX9_carry 3 := ⟨⟨xT 844 (by decide +kernel) rfl, xT 10 (by decide +kernel) rfl, xT 846 (by decide +kernel) rfl, by decide +kernel, by decide +kernel, by decide +kernel, by decide +kernel⟩, xT 845 (by decide +kernel) rfl⟩
theorem kX9_184 : xLnkV RX9 184 mX9_isCorner 9 1 := ⟨⟨xT 851 (by decide +kernel) rfl, xT 10 (by decide +kernel) rfl, xT 854 (by decide +kernel) rfl, by decide +kernel, by decide +kernel, by decide +kernel, by decide +kernel⟩, xT 853 (by decide +kernel) rfl, xTp 17 (n := 43) (by decide +kernel), rfl⟩
theorem kX9_173 : xLnkS RX9 173 mX9_in 3 := ⟨⟨xT 855 (by decide +kernel) rfl, xT 10 (by decide +kernel) rfl, xT 857 (by decide +kernel) rfl, by decide +kernel, by decide +kernel, by decide +kernel, by decide +kernel⟩, xT 856 (by decide +kernel) rfl⟩
theorem kX9_198 : xLnkS RX9 198 mX9_size 1 := ⟨⟨xT 867 (by decide +kernel) rfl, xT 10 (by decide +kernel) rfl, xT 869 (by decide +kernel) rfl, by decide +kernel, by decide +kernel, by decide +kernel, by decide +kernel⟩, xT 868 (by decide +kernel) rfl⟩
theorem kX9_162 : xLnkV RX9 162 mX9_turn 9 3 := ⟨⟨xT 871 (by decide +kernel) rfl, xT 10 (by decide +kernel) rfl, xT 874 (by decide +kernel) rfl, by decide +kernel, by decide +kernel, by decide +kernel, by decide +kernel⟩, xT 873 (by decide +kernel) rfl, xTp 18 (n := 43) (by decide +kernel), rfl⟩
theorem kX9_144 : xLnkS RX9 144 mX9_clear 3 := ⟨⟨xT 875 (by decide +kernel) rfl, xT 10 (by decide +kernel) rfl, xT 877 (by decide +kernel) rfl, by decide +kernel, by decide +kernel, by decide +kernel, by decide +kernel⟩, xT 876 (by decide +kernel) rfl⟩
theorem kX9_147 : xLnkV RX9 147 mX9_times 9 9 := ⟨⟨xT 878 (by decide +kernel) rfl, xT 10 (by decide +kernel) rfl, xT 881 (by decide +kernel) rfl, by decide +kernel, by decide +kernel, by decide +kernel, by decide +kernel⟩, xT 880 (by decide +kernel) rfl, xTp 19 (n := 43) (by decide +kernel), rfl⟩
theorem kX9_151 : xLnkS RX9 151 mX9_signOf 3 := ⟨⟨xT 882 (by decide +kernel) rfl, xT 10 (by decide +kernel) rfl, xT 884 (by decide +kernel) rfl, by decide +kernel, by decide +kernel, by decide +kernel, by decide +kernel⟩, xT 883 (by decide +kernel) rfl⟩
theorem kX9_204 : xLnkV RX9 204 mX9_common 9 4 := ⟨⟨xT 893 (by decide +kernel) rfl, xT 10 (by decide +kernel) rfl, xT 896 (by decide +kernel) rfl, by decide +kernel, by decide +kernel, by decide +kernel, by decide +kernel⟩, xT 895 (by decide +kernel) rfl, xTp 20 (n := 43) (by decide +kernel), rfl⟩
theorem kX9_158 : xLnkV RX9 158 mX9_ahead 9 2 := ⟨⟨xT 897 (by decide +kernel) rfl, xT 10 (by decide +kernel) rfl, xT 900 (by decide +kernel) rfl, by decide +kernel, by decide +kernel, by decide +kernel, by decide +kernel⟩, xT 899 (by decide +kernel) rfl, xTp 21 (n := 43) (by decide +kernel), rfl⟩
theorem kX9_155 : xLnkS RX9 155 mX9_order 3 := ⟨⟨xT 901 (by decide +kernel) rfl, xT 10 (by decide +kernel) rfl, xT 903 (by decide +kernel) rfl, by decide +kernel, by decide +kernel, by decide +kernel, by decide +kernel⟩, xT 902 (by decide +kernel) rfl⟩
theorem kX9_166 : xLnkV RX9 166 mX9_isBetween 9 3 := ⟨⟨xT 904 (by decide +kernel) rfl, xT 10 (by decide +kernel) rfl, xT 907 (by decide +kernel) rfl, by decide +kernel, by decide +kernel, by decide +kernel, by decide +kernel⟩, xT 906 (by decide +kernel) rfl, xTp 22 (n := 43) (by decide +kernel), rfl⟩
theorem kX9_208 : xLnkS RX9 208 mX9_less 4 := ⟨⟨xT 912 (by decide +kernel) rfl, xT 10 (by decide +kernel) rfl, xT 914 (by decide +kernel) rfl, by decide +kernel, by decide +kernel, by decide +kernel, by decide +kernel⟩, xT 913 (by decide +kernel) rfl⟩
theorem kX9_268 : xLnkV RX9 268 mX9_faultOf 9 0 := ⟨⟨xT 927 (by decide +kernel) rfl, xT 10 (by decide +kernel) rfl, xT 930 (by decide +kernel) rfl, by decide +kernel, by decide +kernel, by decide +kernel, by decide +kernel⟩, xT 929 (by decide +kernel) rfl, xTp 23 (n := 43) (by decide +kernel), rfl⟩
theorem kX9_221 : xLnkV RX9 221 mX9_fault 9 2 := ⟨⟨xT 931 (by decide +kernel) rfl, xT 10 (by decide +kernel) rfl, xT 934 (by decide +kernel) rfl, by decide +kernel, by decide +kernel, by decide +kernel, by decide +kernel⟩, xT 933 (by decide +kernel) rfl, xTp 24 (n := 43) (by decide +kernel), rfl⟩
theorem kX9_272 : xLnkV RX9 272 mX9_turnLeft 9 0 := ⟨⟨xT 935 (by decide +kernel) rfl, xT 10 (by decide +kernel) rfl, xT 938 (by decide +kernel) rfl, by decide +kernel, by decide +kernel, by decide +kernel, by decide +kernel⟩, xT 937 (by decide +kernel) rfl, xTp 25 (n := 43) (by decide +kernel), rfl⟩
theorem kX9_234 : xLnkV RX9 234 mX9_store 9 1 := ⟨⟨xT 939 (by decide +kernel) rfl, xT 10 (by decide +kernel) rfl, xT 942 (by decide +kernel) rfl, by decide +kernel, by decide +kernel, by decide +kernel, by decide +kernel⟩, xT 941 (by decide +kernel) rfl, xTp 26 (n := 43) (by decide +kernel), rfl⟩
theorem kX9_275 : xLnkV RX9 275 mX9_overOf 9 3 := ⟨⟨xT 943 (by decide +kernel) rfl, xT 10 (by decide +kernel) rfl, xT 946 (by decide +kernel) rfl, by decide +kernel, by decide +kernel, by decide +kernel, by decide +kernel⟩, xT 945 (by decide +kernel) rfl, xTp 27 (n := 43) (by decide +kernel), rfl⟩
theorem kX9_264 : xLnkV RX9 264 mX9_lieOver 9 2 := ⟨⟨xT 947 (by decide +kernel) rfl, xT 10 (by decide +kernel) rfl, xT 950 (by decide +kernel) rfl, by decide +kernel, by decide +kernel, by decide +kernel, by decide +kernel⟩, xT 949 (by decide +kernel) rfl, xTp 28 (n := 43) (by decide +kernel), rfl⟩
theorem kX9_241 : xLnkV RX9 241 mX9_of 9 2 := ⟨⟨xT 951 (by decide +kernel) rfl, xT 10 (by decide +kernel) rfl, xT 954 (by decide +kernel) rfl, by decide +kernel, by decide +kernel, by decide +kernel, by decide +kernel⟩, xT 953 (by decide +kernel) rfl, xTp 29 (n := 43) (by decide +kernel), rfl⟩
theorem kX9_260 : xLnkV RX9 260 mX9_passes 9 3 := ⟨⟨xT 955 (by decide +kernel) rfl, xT 10 (by decide +kernel) rfl, xT 958 (by decide +kernel) rfl, by decide +kernel, by decide +kernel, by decide +kernel, by decide +kernel⟩, xT 957 (by decide +kernel) rfl, xTp 30 (n := 43) (by decide +kernel), rfl⟩
theorem kX9_250 : xLnkV RX9 250 mX9_isOn 9 3 := ⟨⟨xT 959 (by decide +kernel) rfl, xT 10 (by decide +kernel) rfl, xT 962 (by decide +kernel) rfl, by decide +kernel, by decide +kernel, by decide +kernel, by decide +kernel⟩, xT 961 (by decide +kernel) rfl, xTp 31 (n := 43) (by decide +kernel), rfl⟩
theorem kX9_253 : xLnkV RX9 253 mX9_middle 9 2 := ⟨⟨xT 963 (by decide +kernel) rfl, xT 10 (by decide +kernel) rfl, xT 966 (by decide +kernel) rfl, by decide +kernel, by decide +kernel, by decide +kernel, by decide +kernel⟩, xT 965 (by decide +kernel) rfl, xTp 32 (n := 43) (by decide +kernel), rfl⟩
theorem kX9_140 : xLnkS RX9 140 mX9_halve 1 := ⟨⟨xT 967 (by decide +kernel) rfl, xT 10 (by decide +kernel) rfl, xT 969 (by decide +kernel) rfl, by decide +kernel, by decide +kernel, by decide +kernel, by decide +kernel⟩, xT 968 (by decide +kernel) rfl⟩
theorem kX9_257 : xLnkV RX9 257 mX9_lies 9 2 := ⟨⟨xT 970 (by decide +kernel) rfl, xT 10 (by decide +kernel) rfl, xT 973 (by decide +kernel) rfl, by decide +kernel, by decide +kernel, by decide +kernel, by decide +kernel⟩, xT 972 (by decide +kernel) rfl, xTp 33 (n := 43) (by decide +kernel), rfl⟩
theorem kX9_278 : xLnkV RX9 278 mX9_keep 9 0 := ⟨⟨xT 974 (by decide +kernel) rfl, xT 10 (by decide +kernel) rfl, xT 977 (by decide +kernel) rfl, by decide +kernel, by decide +kernel, by decide +kernel, by decide +kernel⟩, xT 976 (by decide +kernel) rfl, xTp 34 (n := 43) (by decide +kernel), rfl⟩
theorem kX9_281 : xLnkV RX9 281 mX9_made 9 2 := ⟨⟨xT 978 (by decide +kernel) rfl, xT 10 (by decide +kernel) rfl, xT 981 (by decide +kernel) rfl, by decide +kernel, by decide +kernel, by decide +kernel, by decide +kernel⟩, xT 980 (by decide +kernel) rfl, xTp 35 (n := 43) (by decide +kernel), rfl⟩
theorem kX9_284 : xLnkV RX9 284 mX9_isParcel 9 1 := ⟨⟨xT 990 (by decide +kernel) rfl, xT 10 (by decide +kernel) rfl, xT 993 (by decide +kernel) rfl, by decide +kernel, by decide +kernel, by decide +kernel, by decide +kernel⟩, xT 992 (by decide +kernel) rfl, xTp 36 (n := 43) (by decide +kernel), rfl⟩
theorem kX9_287 : xLnkV RX9 287 mX9_there 9 1 := ⟨⟨xT 1002 (by decide +kernel) rfl, xT 10 (by decide +kernel) rfl, xT 1005 (by decide +kernel) rfl, by decide +kernel, by decide +kernel, by decide +kernel, by decide +kernel⟩, xT 1004 (by decide +kernel) rfl, xTp 37 (n := 43) (by decide +kernel), rfl⟩
theorem kX9_291 : xLnkV RX9 291 mX9_isInside 9 3 := ⟨⟨xT 1010 (by decide +kernel) rfl, xT 10 (by decide +kernel) rfl, xT 1013 (by decide +kernel) rfl, by decide +kernel, by decide +kernel, by decide +kernel, by decide +kernel⟩, xT 1012 (by decide +kernel) rfl, xTp 38 (n := 43) (by decide +kernel), rfl⟩
theorem kX9_294 : xLnkV RX9 294 mX9_reverse 9 3 := ⟨⟨xT 1018 (by decide +kernel) rfl, xT 10 (by decide +kernel) rfl, xT 1021 (by decide +kernel) rfl, by decide +kernel, by decide +kernel, by decide +kernel, by decide +kernel⟩, xT 1020 (by decide +kernel) rfl, xTp 39 (n := 43) (by decide +kernel), rfl⟩
theorem kX9_297 : xLnkV RX9 297 mX9_load 9 1 := ⟨⟨xT 1026 (by decide +kernel) rfl, xT 10 (by decide +kernel) rfl, xT 1029 (by decide +kernel) rfl, by decide +kernel, by decide +kernel, by decide +kernel, by decide +kernel⟩, xT 1028 (by decide +kernel) rfl, xTp 40 (n := 43) (by decide +kernel), rfl⟩
theorem kX9_300 : xLnkV RX9 300 mX9_borders 9 2 := ⟨⟨xT 1034 (by decide +kernel) rfl, xT 10 (by decide +kernel) rfl, xT 1037 (by decide +kernel) rfl, by decide +kernel, by decide +kernel, by decide +kernel, by decide +kernel⟩, xT 1036 (by decide +kernel) rfl, xTp 41 (n := 43) (by decide +kernel), rfl⟩
theorem kX9_303 : xLnkV RX9 303 mX9_comes 9 2 := ⟨⟨xT 1058 (by decide +kernel) rfl, xT 10 (by decide +kernel) rfl, xT 1061 (by decide +kernel) rfl, by decide +kernel, by decide +kernel, by decide +kernel, by decide +kernel⟩, xT 1060 (by decide +kernel) rfl, xTp 42 (n := 43) (by decide +kernel), rfl⟩
theorem kX9_306 : xLnkV RX9 306 mX9_weigh 9 1 := ⟨⟨xT 1070 (by decide +kernel) rfl, xT 10 (by decide +kernel) rfl, xT 1073 (by decide +kernel) rfl, by decide +kernel, by decide +kernel, by decide +kernel, by decide +kernel⟩, xT 1072 (by decide +kernel) rfl, xTp 43 (n := 43) (by decide +kernel), rfl⟩
theorem kX9_309 : xLnkV RX9 309 mX9_shareOf 9 2 := ⟨⟨xT 1082 (by decide +kernel) rfl, xT 10 (by decide +kernel) rfl, xT 1085 (by decide +kernel) rfl, by decide +kernel, by decide +kernel, by decide +kernel, by decide +kernel⟩, xT 1084 (by decide +kernel) rfl, xTp 44 (n := 43) (by decide +kernel), rfl⟩
end
section
theorem eX0_gather_0 : xAt mX0_gather 0 (.iconst 0) 1 1 := ⟨by decide +kernel, rfl⟩
theorem eX0_gather_1 : xAt mX0_gather 1 (.istore_n 3) 1 2 := ⟨by decide +kernel, rfl⟩
theorem eX0_gather_2 : xAt mX0_gather 2 (.iload_n 3) 1 3 := ⟨by decide +kernel, rfl⟩
theorem eX0_gather_3 : xAt mX0_gather 3 (.sipush 200) 3 6 := ⟨by decide +kernel, rfl⟩
theorem eX0_gather_6 : xBr mX0_gather 6 (.if_icmp .ge) (16) 9 22 := ⟨by decide +kernel, rfl, by decide⟩
theorem eX0_gather_9 : xAt mX0_gather 9 (.aload_n 0) 1 10 := ⟨by decide +kernel, rfl⟩
theorem eX0_gather_10 : xAt mX0_gather 10 (.getfield 15) 3 13 := ⟨by decide +kernel, rfl⟩
theorem eX0_gather_13 : xAt mX0_gather 13 (.iload_n 3) 1 14 := ⟨by decide +kernel, rfl⟩
theorem eX0_gather_14 : xAt mX0_gather 14 (.iconst 0) 1 15 := ⟨by decide +kernel, rfl⟩
theorem eX0_gather_15 : xAt mX0_gather 15 (.bastore) 1 16 := ⟨by decide +kernel, rfl⟩
theorem eX0_gather_16 : xAt mX0_gather 16 (.iinc 3 1) 3 19 := ⟨by decide +kernel, rfl⟩
theorem eX0_gather_19 : xBr mX0_gather 19 .goto (-17) 22 2 := ⟨by decide +kernel, rfl, by decide⟩
theorem eX0_gather_22 : xAt mX0_gather 22 (.aload_n 0) 1 23 := ⟨by decide +kernel, rfl⟩
theorem eX0_gather_23 : xAt mX0_gather 23 (.iconst 0) 1 24 := ⟨by decide +kernel, rfl⟩
theorem eX0_gather_24 : xAt mX0_gather 24 (.putfield 22) 3 27 := ⟨by decide +kernel, rfl⟩
theorem eX0_gather_27 : xAt mX0_gather 27 (.iconst 0) 1 28 := ⟨by decide +kernel, rfl⟩
theorem eX0_gather_28 : xAt mX0_gather 28 (.istore_n 3) 1 29 := ⟨by decide +kernel, rfl⟩
theorem eX0_gather_29 : xAt mX0_gather 29 (.iload_n 3) 1 30 := ⟨by decide +kernel, rfl⟩
theorem eX0_gather_30 : xAt mX0_gather 30 (.aload_n 1) 1 31 := ⟨by decide +kernel, rfl⟩
theorem eX0_gather_31 : xAt mX0_gather 31 (.getfield 29) 3 34 := ⟨by decide +kernel, rfl⟩
theorem eX0_gather_34 : xBr mX0_gather 34 (.if_icmp .ge) (31) 37 65 := ⟨by decide +kernel, rfl, by decide⟩
theorem eX0_gather_37 : xAt mX0_gather 37 (.aload_n 1) 1 38 := ⟨by decide +kernel, rfl⟩
theorem eX0_gather_38 : xAt mX0_gather 38 (.iload_n 3) 1 39 := ⟨by decide +kernel, rfl⟩
theorem eX0_gather_39 : xAt mX0_gather 39 (.iload_n 2) 1 40 := ⟨by decide +kernel, rfl⟩
theorem eX0_gather_40 : xAt mX0_gather 40 (.invokevirtual 34) 3 43 := ⟨by decide +kernel, rfl⟩
theorem eX0_gather_43 : xBr mX0_gather 43 (.ifCond .eq) (16) 46 59 := ⟨by decide +kernel, rfl, by decide⟩
theorem eX0_gather_46 : xAt mX0_gather 46 (.aload_n 0) 1 47 := ⟨by decide +kernel, rfl⟩
theorem eX0_gather_47 : xAt mX0_gather 47 (.aload_n 1) 1 48 := ⟨by decide +kernel, rfl⟩
theorem eX0_gather_48 : xAt mX0_gather 48 (.getfield 38) 3 51 := ⟨by decide +kernel, rfl⟩
theorem eX0_gather_51 : xAt mX0_gather 51 (.iload_n 3) 1 52 := ⟨by decide +kernel, rfl⟩
theorem eX0_gather_52 : xAt mX0_gather 52 (.aaload) 1 53 := ⟨by decide +kernel, rfl⟩
theorem eX0_gather_53 : xAt mX0_gather 53 (.getfield 42) 3 56 := ⟨by decide +kernel, rfl⟩
theorem eX0_gather_56 : xAt mX0_gather 56 (.invokevirtual 48) 3 59 := ⟨by decide +kernel, rfl⟩
theorem eX0_gather_59 : xAt mX0_gather 59 (.iinc 3 1) 3 62 := ⟨by decide +kernel, rfl⟩
theorem eX0_gather_62 : xBr mX0_gather 62 .goto (-33) 65 29 := ⟨by decide +kernel, rfl, by decide⟩
theorem eX0_gather_65 : xAt mX0_gather 65 (.return_) 1 66 := ⟨by decide +kernel, rfl⟩
theorem eX0_take_0 : xAt mX0_take 0 (.iconst 0) 1 1 := ⟨by decide +kernel, rfl⟩
theorem eX0_take_1 : xAt mX0_take 1 (.istore_n 2) 1 2 := ⟨by decide +kernel, rfl⟩
theorem eX0_take_2 : xAt mX0_take 2 (.iload_n 2) 1 3 := ⟨by decide +kernel, rfl⟩
theorem eX0_take_3 : xAt mX0_take 3 (.aload_n 1) 1 4 := ⟨by decide +kernel, rfl⟩
theorem eX0_take_4 : xAt mX0_take 4 (.getfield 52) 3 7 := ⟨by decide +kernel, rfl⟩
theorem eX0_take_7 : xBr mX0_take 7 (.if_icmp .ge) (63) 10 70 := ⟨by decide +kernel, rfl, by decide⟩
theorem eX0_take_10 : xAt mX0_take 10 (.aload_n 1) 1 11 := ⟨by decide +kernel, rfl⟩
theorem eX0_take_11 : xAt mX0_take 11 (.getfield 55) 3 14 := ⟨by decide +kernel, rfl⟩
theorem eX0_take_14 : xAt mX0_take 14 (.iload_n 2) 1 15 := ⟨by decide +kernel, rfl⟩
theorem eX0_take_15 : xAt mX0_take 15 (.iaload) 1 16 := ⟨by decide +kernel, rfl⟩
theorem eX0_take_16 : xAt mX0_take 16 (.istore_n 3) 1 17 := ⟨by decide +kernel, rfl⟩
theorem eX0_take_17 : xAt mX0_take 17 (.iload_n 3) 1 18 := ⟨by decide +kernel, rfl⟩
theorem eX0_take_18 : xBr mX0_take 18 (.ifCond .lt) (46) 21 64 := ⟨by decide +kernel, rfl, by decide⟩
theorem eX0_take_21 : xAt mX0_take 21 (.iload_n 3) 1 22 := ⟨by decide +kernel, rfl⟩
theorem eX0_take_22 : xAt mX0_take 22 (.sipush 200) 3 25 := ⟨by decide +kernel, rfl⟩
theorem eX0_take_25 : xBr mX0_take 25 (.if_icmp .ge) (39) 28 64 := ⟨by decide +kernel, rfl, by decide⟩
theorem eX0_take_28 : xAt mX0_take 28 (.aload_n 0) 1 29 := ⟨by decide +kernel, rfl⟩
theorem eX0_take_29 : xAt mX0_take 29 (.getfield 15) 3 32 := ⟨by decide +kernel, rfl⟩
theorem eX0_take_32 : xAt mX0_take 32 (.iload_n 3) 1 33 := ⟨by decide +kernel, rfl⟩
theorem eX0_take_33 : xAt mX0_take 33 (.baload) 1 34 := ⟨by decide +kernel, rfl⟩
theorem eX0_take_34 : xBr mX0_take 34 (.ifCond .ne) (30) 37 64 := ⟨by decide +kernel, rfl, by decide⟩
theorem eX0_take_37 : xAt mX0_take 37 (.aload_n 0) 1 38 := ⟨by decide +kernel, rfl⟩
theorem eX0_take_38 : xAt mX0_take 38 (.getfield 15) 3 41 := ⟨by decide +kernel, rfl⟩
theorem eX0_take_41 : xAt mX0_take 41 (.iload_n 3) 1 42 := ⟨by decide +kernel, rfl⟩
theorem eX0_take_42 : xAt mX0_take 42 (.iconst 1) 1 43 := ⟨by decide +kernel, rfl⟩
theorem eX0_take_43 : xAt mX0_take 43 (.bastore) 1 44 := ⟨by decide +kernel, rfl⟩
theorem eX0_take_44 : xAt mX0_take 44 (.aload_n 0) 1 45 := ⟨by decide +kernel, rfl⟩
theorem eX0_take_45 : xAt mX0_take 45 (.getfield 9) 3 48 := ⟨by decide +kernel, rfl⟩
theorem eX0_take_48 : xAt mX0_take 48 (.aload_n 0) 1 49 := ⟨by decide +kernel, rfl⟩
theorem eX0_take_49 : xAt mX0_take 49 (.getfield 22) 3 52 := ⟨by decide +kernel, rfl⟩
theorem eX0_take_52 : xAt mX0_take 52 (.iload_n 3) 1 53 := ⟨by decide +kernel, rfl⟩
theorem eX0_take_53 : xAt mX0_take 53 (.iastore) 1 54 := ⟨by decide +kernel, rfl⟩
theorem eX0_take_54 : xAt mX0_take 54 (.aload_n 0) 1 55 := ⟨by decide +kernel, rfl⟩
theorem eX0_take_55 : xAt mX0_take 55 (.dup) 1 56 := ⟨by decide +kernel, rfl⟩
theorem eX0_take_56 : xAt mX0_take 56 (.getfield 22) 3 59 := ⟨by decide +kernel, rfl⟩
theorem eX0_take_59 : xAt mX0_take 59 (.iconst 1) 1 60 := ⟨by decide +kernel, rfl⟩
theorem eX0_take_60 : xAt mX0_take 60 (.iadd) 1 61 := ⟨by decide +kernel, rfl⟩
theorem eX0_take_61 : xAt mX0_take 61 (.putfield 22) 3 64 := ⟨by decide +kernel, rfl⟩
theorem eX0_take_64 : xAt mX0_take 64 (.iinc 2 1) 3 67 := ⟨by decide +kernel, rfl⟩
theorem eX0_take_67 : xBr mX0_take 67 .goto (-65) 70 2 := ⟨by decide +kernel, rfl, by decide⟩
theorem eX0_take_70 : xAt mX0_take 70 (.return_) 1 71 := ⟨by decide +kernel, rfl⟩
theorem eX0_sort_0 : xAt mX0_sort 0 (.iconst 1) 1 1 := ⟨by decide +kernel, rfl⟩
theorem eX0_sort_1 : xAt mX0_sort 1 (.istore_n 2) 1 2 := ⟨by decide +kernel, rfl⟩
theorem eX0_sort_2 : xAt mX0_sort 2 (.iload_n 2) 1 3 := ⟨by decide +kernel, rfl⟩
theorem eX0_sort_3 : xAt mX0_sort 3 (.aload_n 0) 1 4 := ⟨by decide +kernel, rfl⟩
theorem eX0_sort_4 : xAt mX0_sort 4 (.getfield 22) 3 7 := ⟨by decide +kernel, rfl⟩
theorem eX0_sort_7 : xBr mX0_sort 7 (.if_icmp .ge) (71) 10 78 := ⟨by decide +kernel, rfl, by decide⟩
theorem eX0_sort_10 : xAt mX0_sort 10 (.aload_n 0) 1 11 := ⟨by decide +kernel, rfl⟩
theorem eX0_sort_11 : xAt mX0_sort 11 (.getfield 9) 3 14 := ⟨by decide +kernel, rfl⟩
theorem eX0_sort_14 : xAt mX0_sort 14 (.iload_n 2) 1 15 := ⟨by decide +kernel, rfl⟩
theorem eX0_sort_15 : xAt mX0_sort 15 (.iaload) 1 16 := ⟨by decide +kernel, rfl⟩
theorem eX0_sort_16 : xAt mX0_sort 16 (.istore_n 3) 1 17 := ⟨by decide +kernel, rfl⟩
theorem eX0_sort_17 : xAt mX0_sort 17 (.iload_n 2) 1 18 := ⟨by decide +kernel, rfl⟩
theorem eX0_sort_18 : xAt mX0_sort 18 (.istore 4) 2 20 := ⟨by decide +kernel, rfl⟩
theorem eX0_sort_20 : xAt mX0_sort 20 (.iload 4) 2 22 := ⟨by decide +kernel, rfl⟩
theorem eX0_sort_22 : xBr mX0_sort 22 (.ifCond .le) (42) 25 64 := ⟨by decide +kernel, rfl, by decide⟩
theorem eX0_sort_25 : xAt mX0_sort 25 (.aload_n 1) 1 26 := ⟨by decide +kernel, rfl⟩
theorem eX0_sort_26 : xAt mX0_sort 26 (.iload_n 3) 1 27 := ⟨by decide +kernel, rfl⟩
theorem eX0_sort_27 : xAt mX0_sort 27 (.aload_n 0) 1 28 := ⟨by decide +kernel, rfl⟩
theorem eX0_sort_28 : xAt mX0_sort 28 (.getfield 9) 3 31 := ⟨by decide +kernel, rfl⟩
theorem eX0_sort_31 : xAt mX0_sort 31 (.iload 4) 2 33 := ⟨by decide +kernel, rfl⟩
theorem eX0_sort_33 : xAt mX0_sort 33 (.iconst 1) 1 34 := ⟨by decide +kernel, rfl⟩
theorem eX0_sort_34 : xAt mX0_sort 34 (.isub) 1 35 := ⟨by decide +kernel, rfl⟩
theorem eX0_sort_35 : xAt mX0_sort 35 (.iaload) 1 36 := ⟨by decide +kernel, rfl⟩
theorem eX0_sort_36 : xAt mX0_sort 36 (.invokevirtual 58) 3 39 := ⟨by decide +kernel, rfl⟩
theorem eX0_sort_39 : xBr mX0_sort 39 (.ifCond .eq) (25) 42 64 := ⟨by decide +kernel, rfl, by decide⟩
theorem eX0_sort_42 : xAt mX0_sort 42 (.aload_n 0) 1 43 := ⟨by decide +kernel, rfl⟩
theorem eX0_sort_43 : xAt mX0_sort 43 (.getfield 9) 3 46 := ⟨by decide +kernel, rfl⟩
theorem eX0_sort_46 : xAt mX0_sort 46 (.iload 4) 2 48 := ⟨by decide +kernel, rfl⟩
theorem eX0_sort_48 : xAt mX0_sort 48 (.aload_n 0) 1 49 := ⟨by decide +kernel, rfl⟩
theorem eX0_sort_49 : xAt mX0_sort 49 (.getfield 9) 3 52 := ⟨by decide +kernel, rfl⟩
theorem eX0_sort_52 : xAt mX0_sort 52 (.iload 4) 2 54 := ⟨by decide +kernel, rfl⟩
theorem eX0_sort_54 : xAt mX0_sort 54 (.iconst 1) 1 55 := ⟨by decide +kernel, rfl⟩
theorem eX0_sort_55 : xAt mX0_sort 55 (.isub) 1 56 := ⟨by decide +kernel, rfl⟩
theorem eX0_sort_56 : xAt mX0_sort 56 (.iaload) 1 57 := ⟨by decide +kernel, rfl⟩
theorem eX0_sort_57 : xAt mX0_sort 57 (.iastore) 1 58 := ⟨by decide +kernel, rfl⟩
theorem eX0_sort_58 : xAt mX0_sort 58 (.iinc 4 (-1)) 3 61 := ⟨by decide +kernel, rfl⟩
theorem eX0_sort_61 : xBr mX0_sort 61 .goto (-41) 64 20 := ⟨by decide +kernel, rfl, by decide⟩
theorem eX0_sort_64 : xAt mX0_sort 64 (.aload_n 0) 1 65 := ⟨by decide +kernel, rfl⟩
theorem eX0_sort_65 : xAt mX0_sort 65 (.getfield 9) 3 68 := ⟨by decide +kernel, rfl⟩
theorem eX0_sort_68 : xAt mX0_sort 68 (.iload 4) 2 70 := ⟨by decide +kernel, rfl⟩
theorem eX0_sort_70 : xAt mX0_sort 70 (.iload_n 3) 1 71 := ⟨by decide +kernel, rfl⟩
theorem eX0_sort_71 : xAt mX0_sort 71 (.iastore) 1 72 := ⟨by decide +kernel, rfl⟩
theorem eX0_sort_72 : xAt mX0_sort 72 (.iinc 2 1) 3 75 := ⟨by decide +kernel, rfl⟩
theorem eX0_sort_75 : xBr mX0_sort 75 .goto (-73) 78 2 := ⟨by decide +kernel, rfl, by decide⟩
theorem eX0_sort_78 : xAt mX0_sort 78 (.return_) 1 79 := ⟨by decide +kernel, rfl⟩
theorem eX0_wrap_0 : xAt mX0_wrap 0 (.aload_n 0) 1 1 := ⟨by decide +kernel, rfl⟩
theorem eX0_wrap_1 : xAt mX0_wrap 1 (.iconst 0) 1 2 := ⟨by decide +kernel, rfl⟩
theorem eX0_wrap_2 : xAt mX0_wrap 2 (.putfield 26) 3 5 := ⟨by decide +kernel, rfl⟩
theorem eX0_wrap_5 : xAt mX0_wrap 5 (.iconst 0) 1 6 := ⟨by decide +kernel, rfl⟩
theorem eX0_wrap_6 : xAt mX0_wrap 6 (.istore_n 2) 1 7 := ⟨by decide +kernel, rfl⟩
theorem eX0_wrap_7 : xAt mX0_wrap 7 (.iload_n 2) 1 8 := ⟨by decide +kernel, rfl⟩
theorem eX0_wrap_8 : xAt mX0_wrap 8 (.aload_n 0) 1 9 := ⟨by decide +kernel, rfl⟩
theorem eX0_wrap_9 : xAt mX0_wrap 9 (.getfield 22) 3 12 := ⟨by decide +kernel, rfl⟩
theorem eX0_wrap_12 : xBr mX0_wrap 12 (.if_icmp .ge) (21) 15 33 := ⟨by decide +kernel, rfl, by decide⟩
theorem eX0_wrap_15 : xAt mX0_wrap 15 (.aload_n 0) 1 16 := ⟨by decide +kernel, rfl⟩
theorem eX0_wrap_16 : xAt mX0_wrap 16 (.aload_n 1) 1 17 := ⟨by decide +kernel, rfl⟩
theorem eX0_wrap_17 : xAt mX0_wrap 17 (.aload_n 0) 1 18 := ⟨by decide +kernel, rfl⟩
theorem eX0_wrap_18 : xAt mX0_wrap 18 (.getfield 9) 3 21 := ⟨by decide +kernel, rfl⟩
theorem eX0_wrap_21 : xAt mX0_wrap 21 (.iload_n 2) 1 22 := ⟨by decide +kernel, rfl⟩
theorem eX0_wrap_22 : xAt mX0_wrap 22 (.iaload) 1 23 := ⟨by decide +kernel, rfl⟩
theorem eX0_wrap_23 : xAt mX0_wrap 23 (.iconst 1) 1 24 := ⟨by decide +kernel, rfl⟩
theorem eX0_wrap_24 : xAt mX0_wrap 24 (.invokevirtual 63) 3 27 := ⟨by decide +kernel, rfl⟩
theorem eX0_wrap_27 : xAt mX0_wrap 27 (.iinc 2 1) 3 30 := ⟨by decide +kernel, rfl⟩
theorem eX0_wrap_30 : xBr mX0_wrap 30 .goto (-23) 33 7 := ⟨by decide +kernel, rfl, by decide⟩
theorem eX0_wrap_33 : xAt mX0_wrap 33 (.aload_n 0) 1 34 := ⟨by decide +kernel, rfl⟩
theorem eX0_wrap_34 : xAt mX0_wrap 34 (.getfield 26) 3 37 := ⟨by decide +kernel, rfl⟩
theorem eX0_wrap_37 : xAt mX0_wrap 37 (.istore_n 2) 1 38 := ⟨by decide +kernel, rfl⟩
theorem eX0_wrap_38 : xAt mX0_wrap 38 (.aload_n 0) 1 39 := ⟨by decide +kernel, rfl⟩
theorem eX0_wrap_39 : xAt mX0_wrap 39 (.getfield 22) 3 42 := ⟨by decide +kernel, rfl⟩
theorem eX0_wrap_42 : xAt mX0_wrap 42 (.iconst 2) 1 43 := ⟨by decide +kernel, rfl⟩
theorem eX0_wrap_43 : xAt mX0_wrap 43 (.isub) 1 44 := ⟨by decide +kernel, rfl⟩
theorem eX0_wrap_44 : xAt mX0_wrap 44 (.istore_n 3) 1 45 := ⟨by decide +kernel, rfl⟩
theorem eX0_wrap_45 : xAt mX0_wrap 45 (.iload_n 3) 1 46 := ⟨by decide +kernel, rfl⟩
theorem eX0_wrap_46 : xBr mX0_wrap 46 (.ifCond .lt) (21) 49 67 := ⟨by decide +kernel, rfl, by decide⟩
theorem eX0_wrap_49 : xAt mX0_wrap 49 (.aload_n 0) 1 50 := ⟨by decide +kernel, rfl⟩
theorem eX0_wrap_50 : xAt mX0_wrap 50 (.aload_n 1) 1 51 := ⟨by decide +kernel, rfl⟩
theorem eX0_wrap_51 : xAt mX0_wrap 51 (.aload_n 0) 1 52 := ⟨by decide +kernel, rfl⟩
theorem eX0_wrap_52 : xAt mX0_wrap 52 (.getfield 9) 3 55 := ⟨by decide +kernel, rfl⟩
theorem eX0_wrap_55 : xAt mX0_wrap 55 (.iload_n 3) 1 56 := ⟨by decide +kernel, rfl⟩
theorem eX0_wrap_56 : xAt mX0_wrap 56 (.iaload) 1 57 := ⟨by decide +kernel, rfl⟩
theorem eX0_wrap_57 : xAt mX0_wrap 57 (.iload_n 2) 1 58 := ⟨by decide +kernel, rfl⟩
theorem eX0_wrap_58 : xAt mX0_wrap 58 (.invokevirtual 63) 3 61 := ⟨by decide +kernel, rfl⟩
theorem eX0_wrap_61 : xAt mX0_wrap 61 (.iinc 3 (-1)) 3 64 := ⟨by decide +kernel, rfl⟩
theorem eX0_wrap_64 : xBr mX0_wrap 64 .goto (-19) 67 45 := ⟨by decide +kernel, rfl, by decide⟩
theorem eX0_wrap_67 : xAt mX0_wrap 67 (.aload_n 0) 1 68 := ⟨by decide +kernel, rfl⟩
theorem eX0_wrap_68 : xAt mX0_wrap 68 (.dup) 1 69 := ⟨by decide +kernel, rfl⟩
theorem eX0_wrap_69 : xAt mX0_wrap 69 (.getfield 26) 3 72 := ⟨by decide +kernel, rfl⟩
theorem eX0_wrap_72 : xAt mX0_wrap 72 (.iconst 1) 1 73 := ⟨by decide +kernel, rfl⟩
theorem eX0_wrap_73 : xAt mX0_wrap 73 (.isub) 1 74 := ⟨by decide +kernel, rfl⟩
theorem eX0_wrap_74 : xAt mX0_wrap 74 (.putfield 26) 3 77 := ⟨by decide +kernel, rfl⟩
theorem eX0_wrap_77 : xAt mX0_wrap 77 (.return_) 1 78 := ⟨by decide +kernel, rfl⟩
theorem eX0_append_0 : xAt mX0_append 0 (.aload_n 0) 1 1 := ⟨by decide +kernel, rfl⟩
theorem eX0_append_1 : xAt mX0_append 1 (.getfield 26) 3 4 := ⟨by decide +kernel, rfl⟩
theorem eX0_append_4 : xAt mX0_append 4 (.iload_n 3) 1 5 := ⟨by decide +kernel, rfl⟩
theorem eX0_append_5 : xBr mX0_append 5 (.if_icmp .le) (46) 8 51 := ⟨by decide +kernel, rfl, by decide⟩
theorem eX0_append_8 : xAt mX0_append 8 (.aload_n 1) 1 9 := ⟨by decide +kernel, rfl⟩
theorem eX0_append_9 : xAt mX0_append 9 (.aload_n 0) 1 10 := ⟨by decide +kernel, rfl⟩
theorem eX0_append_10 : xAt mX0_append 10 (.getfield 19) 3 13 := ⟨by decide +kernel, rfl⟩
theorem eX0_append_13 : xAt mX0_append 13 (.aload_n 0) 1 14 := ⟨by decide +kernel, rfl⟩
theorem eX0_append_14 : xAt mX0_append 14 (.getfield 26) 3 17 := ⟨by decide +kernel, rfl⟩
theorem eX0_append_17 : xAt mX0_append 17 (.iconst 2) 1 18 := ⟨by decide +kernel, rfl⟩
theorem eX0_append_18 : xAt mX0_append 18 (.isub) 1 19 := ⟨by decide +kernel, rfl⟩
theorem eX0_append_19 : xAt mX0_append 19 (.iaload) 1 20 := ⟨by decide +kernel, rfl⟩
theorem eX0_append_20 : xAt mX0_append 20 (.aload_n 0) 1 21 := ⟨by decide +kernel, rfl⟩
theorem eX0_append_21 : xAt mX0_append 21 (.getfield 19) 3 24 := ⟨by decide +kernel, rfl⟩
theorem eX0_append_24 : xAt mX0_append 24 (.aload_n 0) 1 25 := ⟨by decide +kernel, rfl⟩
theorem eX0_append_25 : xAt mX0_append 25 (.getfield 26) 3 28 := ⟨by decide +kernel, rfl⟩
theorem eX0_append_28 : xAt mX0_append 28 (.iconst 1) 1 29 := ⟨by decide +kernel, rfl⟩
theorem eX0_append_29 : xAt mX0_append 29 (.isub) 1 30 := ⟨by decide +kernel, rfl⟩
theorem eX0_append_30 : xAt mX0_append 30 (.iaload) 1 31 := ⟨by decide +kernel, rfl⟩
theorem eX0_append_31 : xAt mX0_append 31 (.iload_n 2) 1 32 := ⟨by decide +kernel, rfl⟩
theorem eX0_append_32 : xAt mX0_append 32 (.invokevirtual 67) 3 35 := ⟨by decide +kernel, rfl⟩
theorem eX0_append_35 : xBr mX0_append 35 (.ifCond .gt) (16) 38 51 := ⟨by decide +kernel, rfl, by decide⟩
theorem eX0_append_38 : xAt mX0_append 38 (.aload_n 0) 1 39 := ⟨by decide +kernel, rfl⟩
theorem eX0_append_39 : xAt mX0_append 39 (.dup) 1 40 := ⟨by decide +kernel, rfl⟩
theorem eX0_append_40 : xAt mX0_append 40 (.getfield 26) 3 43 := ⟨by decide +kernel, rfl⟩
theorem eX0_append_43 : xAt mX0_append 43 (.iconst 1) 1 44 := ⟨by decide +kernel, rfl⟩
theorem eX0_append_44 : xAt mX0_append 44 (.isub) 1 45 := ⟨by decide +kernel, rfl⟩
theorem eX0_append_45 : xAt mX0_append 45 (.putfield 26) 3 48 := ⟨by decide +kernel, rfl⟩
theorem eX0_append_48 : xBr mX0_append 48 .goto (-48) 51 0 := ⟨by decide +kernel, rfl, by decide⟩
theorem eX0_append_51 : xAt mX0_append 51 (.aload_n 0) 1 52 := ⟨by decide +kernel, rfl⟩
theorem eX0_append_52 : xAt mX0_append 52 (.getfield 26) 3 55 := ⟨by decide +kernel, rfl⟩
theorem eX0_append_55 : xAt mX0_append 55 (.sipush 200) 3 58 := ⟨by decide +kernel, rfl⟩
theorem eX0_append_58 : xBr mX0_append 58 (.if_icmp .gt) (23) 61 81 := ⟨by decide +kernel, rfl, by decide⟩
theorem eX0_append_61 : xAt mX0_append 61 (.aload_n 0) 1 62 := ⟨by decide +kernel, rfl⟩
theorem eX0_append_62 : xAt mX0_append 62 (.getfield 19) 3 65 := ⟨by decide +kernel, rfl⟩
theorem eX0_append_65 : xAt mX0_append 65 (.aload_n 0) 1 66 := ⟨by decide +kernel, rfl⟩
theorem eX0_append_66 : xAt mX0_append 66 (.getfield 26) 3 69 := ⟨by decide +kernel, rfl⟩
theorem eX0_append_69 : xAt mX0_append 69 (.iload_n 2) 1 70 := ⟨by decide +kernel, rfl⟩
theorem eX0_append_70 : xAt mX0_append 70 (.iastore) 1 71 := ⟨by decide +kernel, rfl⟩
theorem eX0_append_71 : xAt mX0_append 71 (.aload_n 0) 1 72 := ⟨by decide +kernel, rfl⟩
theorem eX0_append_72 : xAt mX0_append 72 (.dup) 1 73 := ⟨by decide +kernel, rfl⟩
theorem eX0_append_73 : xAt mX0_append 73 (.getfield 26) 3 76 := ⟨by decide +kernel, rfl⟩
theorem eX0_append_76 : xAt mX0_append 76 (.iconst 1) 1 77 := ⟨by decide +kernel, rfl⟩
theorem eX0_append_77 : xAt mX0_append 77 (.iadd) 1 78 := ⟨by decide +kernel, rfl⟩
theorem eX0_append_78 : xAt mX0_append 78 (.putfield 26) 3 81 := ⟨by decide +kernel, rfl⟩
theorem eX0_append_81 : xAt mX0_append 81 (.return_) 1 82 := ⟨by decide +kernel, rfl⟩
theorem eX1_copy_0 : xAt mX1_copy 0 (.aload_n 0) 1 1 := ⟨by decide +kernel, rfl⟩
theorem eX1_copy_1 : xAt mX1_copy 1 (.getfield 10) 3 4 := ⟨by decide +kernel, rfl⟩
theorem eX1_copy_4 : xAt mX1_copy 4 (.aload_n 1) 1 5 := ⟨by decide +kernel, rfl⟩
theorem eX1_copy_5 : xAt mX1_copy 5 (.getfield 10) 3 8 := ⟨by decide +kernel, rfl⟩
theorem eX1_copy_8 : xAt mX1_copy 8 (.invokevirtual 27) 3 11 := ⟨by decide +kernel, rfl⟩
theorem eX1_copy_11 : xAt mX1_copy 11 (.aload_n 0) 1 12 := ⟨by decide +kernel, rfl⟩
theorem eX1_copy_12 : xAt mX1_copy 12 (.aload_n 1) 1 13 := ⟨by decide +kernel, rfl⟩
theorem eX1_copy_13 : xAt mX1_copy 13 (.getfield 16) 3 16 := ⟨by decide +kernel, rfl⟩
theorem eX1_copy_16 : xAt mX1_copy 16 (.putfield 16) 3 19 := ⟨by decide +kernel, rfl⟩
theorem eX1_copy_19 : xAt mX1_copy 19 (.aload_n 0) 1 20 := ⟨by decide +kernel, rfl⟩
theorem eX1_copy_20 : xAt mX1_copy 20 (.aload_n 1) 1 21 := ⟨by decide +kernel, rfl⟩
theorem eX1_copy_21 : xAt mX1_copy 21 (.getfield 20) 3 24 := ⟨by decide +kernel, rfl⟩
theorem eX1_copy_24 : xAt mX1_copy 24 (.putfield 20) 3 27 := ⟨by decide +kernel, rfl⟩
theorem eX1_copy_27 : xAt mX1_copy 27 (.aload_n 0) 1 28 := ⟨by decide +kernel, rfl⟩
theorem eX1_copy_28 : xAt mX1_copy 28 (.aload_n 1) 1 29 := ⟨by decide +kernel, rfl⟩
theorem eX1_copy_29 : xAt mX1_copy 29 (.getfield 24) 3 32 := ⟨by decide +kernel, rfl⟩
theorem eX1_copy_32 : xAt mX1_copy 32 (.putfield 24) 3 35 := ⟨by decide +kernel, rfl⟩
theorem eX1_copy_35 : xAt mX1_copy 35 (.return_) 1 36 := ⟨by decide +kernel, rfl⟩
theorem eX2_has_0 : xAt mX2_has 0 (.iload_n 1) 1 1 := ⟨by decide +kernel, rfl⟩
theorem eX2_has_1 : xBr mX2_has 1 (.ifCond .lt) (15) 4 16 := ⟨by decide +kernel, rfl, by decide⟩
theorem eX2_has_4 : xAt mX2_has 4 (.iload_n 1) 1 5 := ⟨by decide +kernel, rfl⟩
theorem eX2_has_5 : xAt mX2_has 5 (.aload_n 0) 1 6 := ⟨by decide +kernel, rfl⟩
theorem eX2_has_6 : xAt mX2_has 6 (.getfield 29) 3 9 := ⟨by decide +kernel, rfl⟩
theorem eX2_has_9 : xBr mX2_has 9 (.if_icmp .ge) (7) 12 16 := ⟨by decide +kernel, rfl, by decide⟩
theorem eX2_has_12 : xAt mX2_has 12 (.iconst 1) 1 13 := ⟨by decide +kernel, rfl⟩
theorem eX2_has_13 : xBr mX2_has 13 .goto (4) 16 17 := ⟨by decide +kernel, rfl, by decide⟩
theorem eX2_has_16 : xAt mX2_has 16 (.iconst 0) 1 17 := ⟨by decide +kernel, rfl⟩
theorem eX2_has_17 : xAt mX2_has 17 (.ireturn) 1 18 := ⟨by decide +kernel, rfl⟩
theorem eX2_make_0 : xAt mX2_make 0 (.aload_n 0) 1 1 := ⟨by decide +kernel, rfl⟩
theorem eX2_make_1 : xAt mX2_make 1 (.aload_n 0) 1 2 := ⟨by decide +kernel, rfl⟩
theorem eX2_make_2 : xAt mX2_make 2 (.getfield 29) 3 5 := ⟨by decide +kernel, rfl⟩
theorem eX2_make_5 : xAt mX2_make 5 (.lload_n 1) 1 6 := ⟨by decide +kernel, rfl⟩
theorem eX2_make_6 : xAt mX2_make 6 (.lload_n 3) 1 7 := ⟨by decide +kernel, rfl⟩
theorem eX2_make_7 : xAt mX2_make 7 (.invokevirtual 33) 3 10 := ⟨by decide +kernel, rfl⟩
theorem eX2_make_10 : xAt mX2_make 10 (.aload_n 0) 1 11 := ⟨by decide +kernel, rfl⟩
theorem eX2_make_11 : xAt mX2_make 11 (.dup) 1 12 := ⟨by decide +kernel, rfl⟩
theorem eX2_make_12 : xAt mX2_make 12 (.getfield 29) 3 15 := ⟨by decide +kernel, rfl⟩
theorem eX2_make_15 : xAt mX2_make 15 (.iconst 1) 1 16 := ⟨by decide +kernel, rfl⟩
theorem eX2_make_16 : xAt mX2_make 16 (.iadd) 1 17 := ⟨by decide +kernel, rfl⟩
theorem eX2_make_17 : xAt mX2_make 17 (.putfield 29) 3 20 := ⟨by decide +kernel, rfl⟩
theorem eX2_make_20 : xAt mX2_make 20 (.aload_n 0) 1 21 := ⟨by decide +kernel, rfl⟩
theorem eX2_make_21 : xAt mX2_make 21 (.getfield 29) 3 24 := ⟨by decide +kernel, rfl⟩
theorem eX2_make_24 : xAt mX2_make 24 (.iconst 1) 1 25 := ⟨by decide +kernel, rfl⟩
theorem eX2_make_25 : xAt mX2_make 25 (.isub) 1 26 := ⟨by decide +kernel, rfl⟩
theorem eX2_make_26 : xAt mX2_make 26 (.ireturn) 1 27 := ⟨by decide +kernel, rfl⟩
theorem eX2_put_0 : xAt mX2_put 0 (.aload_n 0) 1 1 := ⟨by decide +kernel, rfl⟩
theorem eX2_put_1 : xAt mX2_put 1 (.iconst 2) 1 2 := ⟨by decide +kernel, rfl⟩
theorem eX2_put_2 : xAt mX2_put 2 (.iload_n 1) 1 3 := ⟨by decide +kernel, rfl⟩
theorem eX2_put_3 : xAt mX2_put 3 (.imul) 1 4 := ⟨by decide +kernel, rfl⟩
theorem eX2_put_4 : xAt mX2_put 4 (.lload_n 2) 1 5 := ⟨by decide +kernel, rfl⟩
theorem eX2_put_5 : xAt mX2_put 5 (.invokevirtual 37) 3 8 := ⟨by decide +kernel, rfl⟩
theorem eX2_put_8 : xAt mX2_put 8 (.aload_n 0) 1 9 := ⟨by decide +kernel, rfl⟩
theorem eX2_put_9 : xAt mX2_put 9 (.iconst 2) 1 10 := ⟨by decide +kernel, rfl⟩
theorem eX2_put_10 : xAt mX2_put 10 (.iload_n 1) 1 11 := ⟨by decide +kernel, rfl⟩
theorem eX2_put_11 : xAt mX2_put 11 (.imul) 1 12 := ⟨by decide +kernel, rfl⟩
theorem eX2_put_12 : xAt mX2_put 12 (.iconst 1) 1 13 := ⟨by decide +kernel, rfl⟩
theorem eX2_put_13 : xAt mX2_put 13 (.iadd) 1 14 := ⟨by decide +kernel, rfl⟩
theorem eX2_put_14 : xAt mX2_put 14 (.lload 4) 2 16 := ⟨by decide +kernel, rfl⟩
theorem eX2_put_16 : xAt mX2_put 16 (.invokevirtual 37) 3 19 := ⟨by decide +kernel, rfl⟩
theorem eX2_put_19 : xAt mX2_put 19 (.return_) 1 20 := ⟨by decide +kernel, rfl⟩
theorem eX2_putOne_0 : xAt mX2_putOne 0 (.lload_n 2) 1 1 := ⟨by decide +kernel, rfl⟩
theorem eX2_putOne_1 : xAt mX2_putOne 1 (.ldc2_w 41) 3 4 := ⟨by decide +kernel, rfl⟩
theorem eX2_putOne_4 : xAt mX2_putOne 4 (.land) 1 5 := ⟨by decide +kernel, rfl⟩
theorem eX2_putOne_5 : xAt mX2_putOne 5 (.lstore 4) 2 7 := ⟨by decide +kernel, rfl⟩
theorem eX2_putOne_7 : xAt mX2_putOne 7 (.lload_n 2) 1 8 := ⟨by decide +kernel, rfl⟩
theorem eX2_putOne_8 : xAt mX2_putOne 8 (.lconst 0) 1 9 := ⟨by decide +kernel, rfl⟩
theorem eX2_putOne_9 : xAt mX2_putOne 9 (.lcmp) 1 10 := ⟨by decide +kernel, rfl⟩
theorem eX2_putOne_10 : xBr mX2_putOne 10 (.ifCond .ge) (9) 13 19 := ⟨by decide +kernel, rfl, by decide⟩
theorem eX2_putOne_13 : xAt mX2_putOne 13 (.ldc2_w 43) 3 16 := ⟨by decide +kernel, rfl⟩
theorem eX2_putOne_16 : xBr mX2_putOne 16 .goto (4) 19 20 := ⟨by decide +kernel, rfl, by decide⟩
theorem eX2_putOne_19 : xAt mX2_putOne 19 (.lconst 1) 1 20 := ⟨by decide +kernel, rfl⟩
theorem eX2_putOne_20 : xAt mX2_putOne 20 (.lstore 6) 2 22 := ⟨by decide +kernel, rfl⟩
theorem eX2_putOne_22 : xAt mX2_putOne 22 (.lload 4) 2 24 := ⟨by decide +kernel, rfl⟩
theorem eX2_putOne_24 : xAt mX2_putOne 24 (.lconst 0) 1 25 := ⟨by decide +kernel, rfl⟩
theorem eX2_putOne_25 : xAt mX2_putOne 25 (.lcmp) 1 26 := ⟨by decide +kernel, rfl⟩
theorem eX2_putOne_26 : xBr mX2_putOne 26 (.ifCond .ne) (7) 29 33 := ⟨by decide +kernel, rfl, by decide⟩
theorem eX2_putOne_29 : xAt mX2_putOne 29 (.lconst 0) 1 30 := ⟨by decide +kernel, rfl⟩
theorem eX2_putOne_30 : xBr mX2_putOne 30 .goto (13) 33 43 := ⟨by decide +kernel, rfl, by decide⟩
theorem eX2_putOne_33 : xAt mX2_putOne 33 (.lload 4) 2 35 := ⟨by decide +kernel, rfl⟩
theorem eX2_putOne_35 : xAt mX2_putOne 35 (.ldc2_w 45) 3 38 := ⟨by decide +kernel, rfl⟩
theorem eX2_putOne_38 : xAt mX2_putOne 38 (.land) 1 39 := ⟨by decide +kernel, rfl⟩
theorem eX2_putOne_39 : xAt mX2_putOne 39 (.ldc2_w 47) 3 42 := ⟨by decide +kernel, rfl⟩
theorem eX2_putOne_42 : xAt mX2_putOne 42 (.ladd) 1 43 := ⟨by decide +kernel, rfl⟩
theorem eX2_putOne_43 : xAt mX2_putOne 43 (.lstore 8) 2 45 := ⟨by decide +kernel, rfl⟩
theorem eX2_putOne_45 : xAt mX2_putOne 45 (.lload 4) 2 47 := ⟨by decide +kernel, rfl⟩
theorem eX2_putOne_47 : xAt mX2_putOne 47 (.lconst 0) 1 48 := ⟨by decide +kernel, rfl⟩
theorem eX2_putOne_48 : xAt mX2_putOne 48 (.lcmp) 1 49 := ⟨by decide +kernel, rfl⟩
theorem eX2_putOne_49 : xBr mX2_putOne 49 (.ifCond .ne) (7) 52 56 := ⟨by decide +kernel, rfl, by decide⟩
theorem eX2_putOne_52 : xAt mX2_putOne 52 (.iconst 0) 1 53 := ⟨by decide +kernel, rfl⟩
theorem eX2_putOne_53 : xBr mX2_putOne 53 .goto (13) 56 66 := ⟨by decide +kernel, rfl, by decide⟩
theorem eX2_putOne_56 : xAt mX2_putOne 56 (.lload 4) 2 58 := ⟨by decide +kernel, rfl⟩
theorem eX2_putOne_58 : xAt mX2_putOne 58 (.bipush 52) 2 60 := ⟨by decide +kernel, rfl⟩
theorem eX2_putOne_60 : xAt mX2_putOne 60 (.lushr) 1 61 := ⟨by decide +kernel, rfl⟩
theorem eX2_putOne_61 : xAt mX2_putOne 61 (.l2i) 1 62 := ⟨by decide +kernel, rfl⟩
theorem eX2_putOne_62 : xAt mX2_putOne 62 (.sipush 1003) 3 65 := ⟨by decide +kernel, rfl⟩
theorem eX2_putOne_65 : xAt mX2_putOne 65 (.isub) 1 66 := ⟨by decide +kernel, rfl⟩
theorem eX2_putOne_66 : xAt mX2_putOne 66 (.istore 10) 2 68 := ⟨by decide +kernel, rfl⟩
theorem eX2_putOne_68 : xAt mX2_putOne 68 (.bipush 72) 2 70 := ⟨by decide +kernel, rfl⟩
theorem eX2_putOne_70 : xAt mX2_putOne 70 (.iload 10) 2 72 := ⟨by decide +kernel, rfl⟩
theorem eX2_putOne_72 : xAt mX2_putOne 72 (.isub) 1 73 := ⟨by decide +kernel, rfl⟩
theorem eX2_putOne_73 : xAt mX2_putOne 73 (.iconst 2) 1 74 := ⟨by decide +kernel, rfl⟩
theorem eX2_putOne_74 : xAt mX2_putOne 74 (.idiv) 1 75 := ⟨by decide +kernel, rfl⟩
theorem eX2_putOne_75 : xAt mX2_putOne 75 (.istore 11) 2 77 := ⟨by decide +kernel, rfl⟩
theorem eX2_putOne_77 : xAt mX2_putOne 77 (.aload_n 0) 1 78 := ⟨by decide +kernel, rfl⟩
theorem eX2_putOne_78 : xAt mX2_putOne 78 (.getfield 9) 3 81 := ⟨by decide +kernel, rfl⟩
theorem eX2_putOne_81 : xAt mX2_putOne 81 (.iload_n 1) 1 82 := ⟨by decide +kernel, rfl⟩
theorem eX2_putOne_82 : xAt mX2_putOne 82 (.lload 4) 2 84 := ⟨by decide +kernel, rfl⟩
theorem eX2_putOne_84 : xAt mX2_putOne 84 (.lconst 0) 1 85 := ⟨by decide +kernel, rfl⟩
theorem eX2_putOne_85 : xAt mX2_putOne 85 (.lcmp) 1 86 := ⟨by decide +kernel, rfl⟩
theorem eX2_putOne_86 : xBr mX2_putOne 86 (.ifCond .ne) (7) 89 93 := ⟨by decide +kernel, rfl, by decide⟩
theorem eX2_putOne_89 : xAt mX2_putOne 89 (.lconst 0) 1 90 := ⟨by decide +kernel, rfl⟩
theorem eX2_putOne_90 : xBr mX2_putOne 90 .goto (4) 93 94 := ⟨by decide +kernel, rfl, by decide⟩
theorem eX2_putOne_93 : xAt mX2_putOne 93 (.lload_n 2) 1 94 := ⟨by decide +kernel, rfl⟩
theorem eX2_putOne_94 : xAt mX2_putOne 94 (.lastore) 1 95 := ⟨by decide +kernel, rfl⟩
theorem eX2_putOne_95 : xAt mX2_putOne 95 (.aload_n 0) 1 96 := ⟨by decide +kernel, rfl⟩
theorem eX2_putOne_96 : xAt mX2_putOne 96 (.getfield 15) 3 99 := ⟨by decide +kernel, rfl⟩
theorem eX2_putOne_99 : xAt mX2_putOne 99 (.iload_n 1) 1 100 := ⟨by decide +kernel, rfl⟩
theorem eX2_putOne_100 : xAt mX2_putOne 100 (.lload 6) 2 102 := ⟨by decide +kernel, rfl⟩
theorem eX2_putOne_102 : xAt mX2_putOne 102 (.lload 8) 2 104 := ⟨by decide +kernel, rfl⟩
theorem eX2_putOne_104 : xAt mX2_putOne 104 (.lmul) 1 105 := ⟨by decide +kernel, rfl⟩
theorem eX2_putOne_105 : xAt mX2_putOne 105 (.l2d) 1 106 := ⟨by decide +kernel, rfl⟩
theorem eX2_putOne_106 : xAt mX2_putOne 106 (.lconst 1) 1 107 := ⟨by decide +kernel, rfl⟩
theorem eX2_putOne_107 : xAt mX2_putOne 107 (.iload 11) 2 109 := ⟨by decide +kernel, rfl⟩
theorem eX2_putOne_109 : xAt mX2_putOne 109 (.lshl) 1 110 := ⟨by decide +kernel, rfl⟩
theorem eX2_putOne_110 : xAt mX2_putOne 110 (.l2d) 1 111 := ⟨by decide +kernel, rfl⟩
theorem eX2_putOne_111 : xAt mX2_putOne 111 (.ddiv) 1 112 := ⟨by decide +kernel, rfl⟩
theorem eX2_putOne_112 : xAt mX2_putOne 112 (.lconst 1) 1 113 := ⟨by decide +kernel, rfl⟩
theorem eX2_putOne_113 : xAt mX2_putOne 113 (.bipush 72) 2 115 := ⟨by decide +kernel, rfl⟩
theorem eX2_putOne_115 : xAt mX2_putOne 115 (.iload 10) 2 117 := ⟨by decide +kernel, rfl⟩
theorem eX2_putOne_117 : xAt mX2_putOne 117 (.isub) 1 118 := ⟨by decide +kernel, rfl⟩
theorem eX2_putOne_118 : xAt mX2_putOne 118 (.iload 11) 2 120 := ⟨by decide +kernel, rfl⟩
theorem eX2_putOne_120 : xAt mX2_putOne 120 (.isub) 1 121 := ⟨by decide +kernel, rfl⟩
theorem eX2_putOne_121 : xAt mX2_putOne 121 (.lshl) 1 122 := ⟨by decide +kernel, rfl⟩
theorem eX2_putOne_122 : xAt mX2_putOne 122 (.l2d) 1 123 := ⟨by decide +kernel, rfl⟩
theorem eX2_putOne_123 : xAt mX2_putOne 123 (.ddiv) 1 124 := ⟨by decide +kernel, rfl⟩
theorem eX2_putOne_124 : xAt mX2_putOne 124 (.dastore) 1 125 := ⟨by decide +kernel, rfl⟩
theorem eX2_putOne_125 : xAt mX2_putOne 125 (.iconst 0) 1 126 := ⟨by decide +kernel, rfl⟩
theorem eX2_putOne_126 : xAt mX2_putOne 126 (.istore 12) 2 128 := ⟨by decide +kernel, rfl⟩
theorem eX2_putOne_128 : xAt mX2_putOne 128 (.iload 12) 2 130 := ⟨by decide +kernel, rfl⟩
theorem eX2_putOne_130 : xAt mX2_putOne 130 (.iconst 4) 1 131 := ⟨by decide +kernel, rfl⟩
theorem eX2_putOne_131 : xBr mX2_putOne 131 (.if_icmp .ge) (36) 134 167 := ⟨by decide +kernel, rfl, by decide⟩
theorem eX2_putOne_134 : xAt mX2_putOne 134 (.aload_n 0) 1 135 := ⟨by decide +kernel, rfl⟩
theorem eX2_putOne_135 : xAt mX2_putOne 135 (.getfield 19) 3 138 := ⟨by decide +kernel, rfl⟩
theorem eX2_putOne_138 : xAt mX2_putOne 138 (.iload_n 1) 1 139 := ⟨by decide +kernel, rfl⟩
theorem eX2_putOne_139 : xAt mX2_putOne 139 (.iconst 4) 1 140 := ⟨by decide +kernel, rfl⟩
theorem eX2_putOne_140 : xAt mX2_putOne 140 (.imul) 1 141 := ⟨by decide +kernel, rfl⟩
theorem eX2_putOne_141 : xAt mX2_putOne 141 (.iload 12) 2 143 := ⟨by decide +kernel, rfl⟩
theorem eX2_putOne_143 : xAt mX2_putOne 143 (.iadd) 1 144 := ⟨by decide +kernel, rfl⟩
theorem eX2_putOne_144 : xAt mX2_putOne 144 (.lload 6) 2 146 := ⟨by decide +kernel, rfl⟩
theorem eX2_putOne_146 : xAt mX2_putOne 146 (.lload 8) 2 148 := ⟨by decide +kernel, rfl⟩
theorem eX2_putOne_148 : xAt mX2_putOne 148 (.iload 12) 2 150 := ⟨by decide +kernel, rfl⟩
theorem eX2_putOne_150 : xAt mX2_putOne 150 (.bipush 26) 2 152 := ⟨by decide +kernel, rfl⟩
theorem eX2_putOne_152 : xAt mX2_putOne 152 (.imul) 1 153 := ⟨by decide +kernel, rfl⟩
theorem eX2_putOne_153 : xAt mX2_putOne 153 (.iload 10) 2 155 := ⟨by decide +kernel, rfl⟩
theorem eX2_putOne_155 : xAt mX2_putOne 155 (.isub) 1 156 := ⟨by decide +kernel, rfl⟩
theorem eX2_putOne_156 : xAt mX2_putOne 156 (.invokestatic 49) 3 159 := ⟨by decide +kernel, rfl⟩
theorem eX2_putOne_159 : xAt mX2_putOne 159 (.lmul) 1 160 := ⟨by decide +kernel, rfl⟩
theorem eX2_putOne_160 : xAt mX2_putOne 160 (.lastore) 1 161 := ⟨by decide +kernel, rfl⟩
theorem eX2_putOne_161 : xAt mX2_putOne 161 (.iinc 12 1) 3 164 := ⟨by decide +kernel, rfl⟩
theorem eX2_putOne_164 : xBr mX2_putOne 164 .goto (-36) 167 128 := ⟨by decide +kernel, rfl, by decide⟩
theorem eX2_putOne_167 : xAt mX2_putOne 167 (.return_) 1 168 := ⟨by decide +kernel, rfl⟩
theorem eX2_limbOf_0 : xAt mX2_limbOf 0 (.iload_n 2) 1 1 := ⟨by decide +kernel, rfl⟩
theorem eX2_limbOf_1 : xAt mX2_limbOf 1 (.bipush 53) 2 3 := ⟨by decide +kernel, rfl⟩
theorem eX2_limbOf_3 : xBr mX2_limbOf 3 (.if_icmp .ge) (9) 6 12 := ⟨by decide +kernel, rfl, by decide⟩
theorem eX2_limbOf_6 : xAt mX2_limbOf 6 (.iload_n 2) 1 7 := ⟨by decide +kernel, rfl⟩
theorem eX2_limbOf_7 : xAt mX2_limbOf 7 (.bipush (-26)) 2 9 := ⟨by decide +kernel, rfl⟩
theorem eX2_limbOf_9 : xBr mX2_limbOf 9 (.if_icmp .gt) (5) 12 14 := ⟨by decide +kernel, rfl, by decide⟩
theorem eX2_limbOf_12 : xAt mX2_limbOf 12 (.lconst 0) 1 13 := ⟨by decide +kernel, rfl⟩
theorem eX2_limbOf_13 : xAt mX2_limbOf 13 (.lreturn) 1 14 := ⟨by decide +kernel, rfl⟩
theorem eX2_limbOf_14 : xAt mX2_limbOf 14 (.iload_n 2) 1 15 := ⟨by decide +kernel, rfl⟩
theorem eX2_limbOf_15 : xBr mX2_limbOf 15 (.ifCond .lt) (9) 18 24 := ⟨by decide +kernel, rfl, by decide⟩
theorem eX2_limbOf_18 : xAt mX2_limbOf 18 (.lload_n 0) 1 19 := ⟨by decide +kernel, rfl⟩
theorem eX2_limbOf_19 : xAt mX2_limbOf 19 (.iload_n 2) 1 20 := ⟨by decide +kernel, rfl⟩
theorem eX2_limbOf_20 : xAt mX2_limbOf 20 (.lushr) 1 21 := ⟨by decide +kernel, rfl⟩
theorem eX2_limbOf_21 : xBr mX2_limbOf 21 .goto (7) 24 28 := ⟨by decide +kernel, rfl, by decide⟩
theorem eX2_limbOf_24 : xAt mX2_limbOf 24 (.lload_n 0) 1 25 := ⟨by decide +kernel, rfl⟩
theorem eX2_limbOf_25 : xAt mX2_limbOf 25 (.iload_n 2) 1 26 := ⟨by decide +kernel, rfl⟩
theorem eX2_limbOf_26 : xAt mX2_limbOf 26 (.ineg) 1 27 := ⟨by decide +kernel, rfl⟩
theorem eX2_limbOf_27 : xAt mX2_limbOf 27 (.lshl) 1 28 := ⟨by decide +kernel, rfl⟩
theorem eX2_limbOf_28 : xAt mX2_limbOf 28 (.ldc2_w 53) 3 31 := ⟨by decide +kernel, rfl⟩
theorem eX2_limbOf_31 : xAt mX2_limbOf 31 (.land) 1 32 := ⟨by decide +kernel, rfl⟩
theorem eX2_limbOf_32 : xAt mX2_limbOf 32 (.lreturn) 1 33 := ⟨by decide +kernel, rfl⟩
theorem eX2_sameAsLoose_0 : xAt mX2_sameAsLoose 0 (.iconst 0) 1 1 := ⟨by decide +kernel, rfl⟩
theorem eX2_sameAsLoose_1 : xAt mX2_sameAsLoose 1 (.istore_n 1) 1 2 := ⟨by decide +kernel, rfl⟩
theorem eX2_sameAsLoose_2 : xAt mX2_sameAsLoose 2 (.iload_n 1) 1 3 := ⟨by decide +kernel, rfl⟩
theorem eX2_sameAsLoose_3 : xAt mX2_sameAsLoose 3 (.aload_n 0) 1 4 := ⟨by decide +kernel, rfl⟩
theorem eX2_sameAsLoose_4 : xAt mX2_sameAsLoose 4 (.getfield 29) 3 7 := ⟨by decide +kernel, rfl⟩
theorem eX2_sameAsLoose_7 : xBr mX2_sameAsLoose 7 (.if_icmp .ge) (53) 10 60 := ⟨by decide +kernel, rfl, by decide⟩
theorem eX2_sameAsLoose_10 : xAt mX2_sameAsLoose 10 (.aload_n 0) 1 11 := ⟨by decide +kernel, rfl⟩
theorem eX2_sameAsLoose_11 : xAt mX2_sameAsLoose 11 (.getfield 9) 3 14 := ⟨by decide +kernel, rfl⟩
theorem eX2_sameAsLoose_14 : xAt mX2_sameAsLoose 14 (.iconst 2) 1 15 := ⟨by decide +kernel, rfl⟩
theorem eX2_sameAsLoose_15 : xAt mX2_sameAsLoose 15 (.iload_n 1) 1 16 := ⟨by decide +kernel, rfl⟩
theorem eX2_sameAsLoose_16 : xAt mX2_sameAsLoose 16 (.imul) 1 17 := ⟨by decide +kernel, rfl⟩
theorem eX2_sameAsLoose_17 : xAt mX2_sameAsLoose 17 (.laload) 1 18 := ⟨by decide +kernel, rfl⟩
theorem eX2_sameAsLoose_18 : xAt mX2_sameAsLoose 18 (.aload_n 0) 1 19 := ⟨by decide +kernel, rfl⟩
theorem eX2_sameAsLoose_19 : xAt mX2_sameAsLoose 19 (.getfield 9) 3 22 := ⟨by decide +kernel, rfl⟩
theorem eX2_sameAsLoose_22 : xAt mX2_sameAsLoose 22 (.sipush 400) 3 25 := ⟨by decide +kernel, rfl⟩
theorem eX2_sameAsLoose_25 : xAt mX2_sameAsLoose 25 (.laload) 1 26 := ⟨by decide +kernel, rfl⟩
theorem eX2_sameAsLoose_26 : xAt mX2_sameAsLoose 26 (.lcmp) 1 27 := ⟨by decide +kernel, rfl⟩
theorem eX2_sameAsLoose_27 : xBr mX2_sameAsLoose 27 (.ifCond .ne) (27) 30 54 := ⟨by decide +kernel, rfl, by decide⟩
theorem eX2_sameAsLoose_30 : xAt mX2_sameAsLoose 30 (.aload_n 0) 1 31 := ⟨by decide +kernel, rfl⟩
theorem eX2_sameAsLoose_31 : xAt mX2_sameAsLoose 31 (.getfield 9) 3 34 := ⟨by decide +kernel, rfl⟩
theorem eX2_sameAsLoose_34 : xAt mX2_sameAsLoose 34 (.iconst 2) 1 35 := ⟨by decide +kernel, rfl⟩
theorem eX2_sameAsLoose_35 : xAt mX2_sameAsLoose 35 (.iload_n 1) 1 36 := ⟨by decide +kernel, rfl⟩
theorem eX2_sameAsLoose_36 : xAt mX2_sameAsLoose 36 (.imul) 1 37 := ⟨by decide +kernel, rfl⟩
theorem eX2_sameAsLoose_37 : xAt mX2_sameAsLoose 37 (.iconst 1) 1 38 := ⟨by decide +kernel, rfl⟩
theorem eX2_sameAsLoose_38 : xAt mX2_sameAsLoose 38 (.iadd) 1 39 := ⟨by decide +kernel, rfl⟩
theorem eX2_sameAsLoose_39 : xAt mX2_sameAsLoose 39 (.laload) 1 40 := ⟨by decide +kernel, rfl⟩
theorem eX2_sameAsLoose_40 : xAt mX2_sameAsLoose 40 (.aload_n 0) 1 41 := ⟨by decide +kernel, rfl⟩
theorem eX2_sameAsLoose_41 : xAt mX2_sameAsLoose 41 (.getfield 9) 3 44 := ⟨by decide +kernel, rfl⟩
theorem eX2_sameAsLoose_44 : xAt mX2_sameAsLoose 44 (.sipush 401) 3 47 := ⟨by decide +kernel, rfl⟩
theorem eX2_sameAsLoose_47 : xAt mX2_sameAsLoose 47 (.laload) 1 48 := ⟨by decide +kernel, rfl⟩
theorem eX2_sameAsLoose_48 : xAt mX2_sameAsLoose 48 (.lcmp) 1 49 := ⟨by decide +kernel, rfl⟩
theorem eX2_sameAsLoose_49 : xBr mX2_sameAsLoose 49 (.ifCond .ne) (5) 52 54 := ⟨by decide +kernel, rfl, by decide⟩
theorem eX2_sameAsLoose_52 : xAt mX2_sameAsLoose 52 (.iload_n 1) 1 53 := ⟨by decide +kernel, rfl⟩
theorem eX2_sameAsLoose_53 : xAt mX2_sameAsLoose 53 (.ireturn) 1 54 := ⟨by decide +kernel, rfl⟩
theorem eX2_sameAsLoose_54 : xAt mX2_sameAsLoose 54 (.iinc 1 1) 3 57 := ⟨by decide +kernel, rfl⟩
theorem eX2_sameAsLoose_57 : xBr mX2_sameAsLoose 57 .goto (-55) 60 2 := ⟨by decide +kernel, rfl, by decide⟩
theorem eX2_sameAsLoose_60 : xAt mX2_sameAsLoose 60 (.iconst (-1)) 1 61 := ⟨by decide +kernel, rfl⟩
theorem eX2_sameAsLoose_61 : xAt mX2_sameAsLoose 61 (.ireturn) 1 62 := ⟨by decide +kernel, rfl⟩
theorem eX2_x_0 : xAt mX2_x 0 (.aload_n 0) 1 1 := ⟨by decide +kernel, rfl⟩
theorem eX2_x_1 : xAt mX2_x 1 (.getfield 15) 3 4 := ⟨by decide +kernel, rfl⟩
theorem eX2_x_4 : xAt mX2_x 4 (.iconst 2) 1 5 := ⟨by decide +kernel, rfl⟩
theorem eX2_x_5 : xAt mX2_x 5 (.iload_n 1) 1 6 := ⟨by decide +kernel, rfl⟩
theorem eX2_x_6 : xAt mX2_x 6 (.imul) 1 7 := ⟨by decide +kernel, rfl⟩
theorem eX2_x_7 : xAt mX2_x 7 (.daload) 1 8 := ⟨by decide +kernel, rfl⟩
theorem eX2_x_8 : xAt mX2_x 8 (.dreturn) 1 9 := ⟨by decide +kernel, rfl⟩
theorem eX2_y_0 : xAt mX2_y 0 (.aload_n 0) 1 1 := ⟨by decide +kernel, rfl⟩
theorem eX2_y_1 : xAt mX2_y 1 (.getfield 15) 3 4 := ⟨by decide +kernel, rfl⟩
theorem eX2_y_4 : xAt mX2_y 4 (.iconst 2) 1 5 := ⟨by decide +kernel, rfl⟩
theorem eX2_y_5 : xAt mX2_y 5 (.iload_n 1) 1 6 := ⟨by decide +kernel, rfl⟩
theorem eX2_y_6 : xAt mX2_y 6 (.imul) 1 7 := ⟨by decide +kernel, rfl⟩
theorem eX2_y_7 : xAt mX2_y 7 (.iconst 1) 1 8 := ⟨by decide +kernel, rfl⟩
theorem eX2_y_8 : xAt mX2_y 8 (.iadd) 1 9 := ⟨by decide +kernel, rfl⟩
theorem eX2_y_9 : xAt mX2_y 9 (.daload) 1 10 := ⟨by decide +kernel, rfl⟩
theorem eX2_y_10 : xAt mX2_y 10 (.dreturn) 1 11 := ⟨by decide +kernel, rfl⟩
theorem eX2_isAhead_0 : xAt mX2_isAhead 0 (.aload_n 0) 1 1 := ⟨by decide +kernel, rfl⟩
theorem eX2_isAhead_1 : xAt mX2_isAhead 1 (.iload_n 1) 1 2 := ⟨by decide +kernel, rfl⟩
theorem eX2_isAhead_2 : xAt mX2_isAhead 2 (.invokevirtual 55) 3 5 := ⟨by decide +kernel, rfl⟩
theorem eX2_isAhead_5 : xAt mX2_isAhead 5 (.aload_n 0) 1 6 := ⟨by decide +kernel, rfl⟩
theorem eX2_isAhead_6 : xAt mX2_isAhead 6 (.iload_n 2) 1 7 := ⟨by decide +kernel, rfl⟩
theorem eX2_isAhead_7 : xAt mX2_isAhead 7 (.invokevirtual 55) 3 10 := ⟨by decide +kernel, rfl⟩
theorem eX2_isAhead_10 : xAt mX2_isAhead 10 (.dcmp .g) 1 11 := ⟨by decide +kernel, rfl⟩
theorem eX2_isAhead_11 : xBr mX2_isAhead 11 (.ifCond .lt) (31) 14 42 := ⟨by decide +kernel, rfl, by decide⟩
theorem eX2_isAhead_14 : xAt mX2_isAhead 14 (.aload_n 0) 1 15 := ⟨by decide +kernel, rfl⟩
theorem eX2_isAhead_15 : xAt mX2_isAhead 15 (.iload_n 1) 1 16 := ⟨by decide +kernel, rfl⟩
theorem eX2_isAhead_16 : xAt mX2_isAhead 16 (.invokevirtual 55) 3 19 := ⟨by decide +kernel, rfl⟩
theorem eX2_isAhead_19 : xAt mX2_isAhead 19 (.aload_n 0) 1 20 := ⟨by decide +kernel, rfl⟩
theorem eX2_isAhead_20 : xAt mX2_isAhead 20 (.iload_n 2) 1 21 := ⟨by decide +kernel, rfl⟩
theorem eX2_isAhead_21 : xAt mX2_isAhead 21 (.invokevirtual 55) 3 24 := ⟨by decide +kernel, rfl⟩
theorem eX2_isAhead_24 : xAt mX2_isAhead 24 (.dcmp .l) 1 25 := ⟨by decide +kernel, rfl⟩
theorem eX2_isAhead_25 : xBr mX2_isAhead 25 (.ifCond .ne) (21) 28 46 := ⟨by decide +kernel, rfl, by decide⟩
theorem eX2_isAhead_28 : xAt mX2_isAhead 28 (.aload_n 0) 1 29 := ⟨by decide +kernel, rfl⟩
theorem eX2_isAhead_29 : xAt mX2_isAhead 29 (.iload_n 1) 1 30 := ⟨by decide +kernel, rfl⟩
theorem eX2_isAhead_30 : xAt mX2_isAhead 30 (.invokevirtual 59) 3 33 := ⟨by decide +kernel, rfl⟩
theorem eX2_isAhead_33 : xAt mX2_isAhead 33 (.aload_n 0) 1 34 := ⟨by decide +kernel, rfl⟩
theorem eX2_isAhead_34 : xAt mX2_isAhead 34 (.iload_n 2) 1 35 := ⟨by decide +kernel, rfl⟩
theorem eX2_isAhead_35 : xAt mX2_isAhead 35 (.invokevirtual 59) 3 38 := ⟨by decide +kernel, rfl⟩
theorem eX2_isAhead_38 : xAt mX2_isAhead 38 (.dcmp .g) 1 39 := ⟨by decide +kernel, rfl⟩
theorem eX2_isAhead_39 : xBr mX2_isAhead 39 (.ifCond .ge) (7) 42 46 := ⟨by decide +kernel, rfl, by decide⟩
theorem eX2_isAhead_42 : xAt mX2_isAhead 42 (.iconst 1) 1 43 := ⟨by decide +kernel, rfl⟩
theorem eX2_isAhead_43 : xBr mX2_isAhead 43 .goto (4) 46 47 := ⟨by decide +kernel, rfl, by decide⟩
theorem eX2_isAhead_46 : xAt mX2_isAhead 46 (.iconst 0) 1 47 := ⟨by decide +kernel, rfl⟩
theorem eX2_isAhead_47 : xAt mX2_isAhead 47 (.ireturn) 1 48 := ⟨by decide +kernel, rfl⟩
theorem eX2_isSure_0 : xAt mX2_isSure 0 (.aload_n 0) 1 1 := ⟨by decide +kernel, rfl⟩
theorem eX2_isSure_1 : xAt mX2_isSure 1 (.iload_n 1) 1 2 := ⟨by decide +kernel, rfl⟩
theorem eX2_isSure_2 : xAt mX2_isSure 2 (.invokevirtual 55) 3 5 := ⟨by decide +kernel, rfl⟩
theorem eX2_isSure_5 : xAt mX2_isSure 5 (.aload_n 0) 1 6 := ⟨by decide +kernel, rfl⟩
theorem eX2_isSure_6 : xAt mX2_isSure 6 (.iload_n 3) 1 7 := ⟨by decide +kernel, rfl⟩
theorem eX2_isSure_7 : xAt mX2_isSure 7 (.invokevirtual 55) 3 10 := ⟨by decide +kernel, rfl⟩
theorem eX2_isSure_10 : xAt mX2_isSure 10 (.dsub) 1 11 := ⟨by decide +kernel, rfl⟩
theorem eX2_isSure_11 : xAt mX2_isSure 11 (.aload_n 0) 1 12 := ⟨by decide +kernel, rfl⟩
theorem eX2_isSure_12 : xAt mX2_isSure 12 (.iload_n 2) 1 13 := ⟨by decide +kernel, rfl⟩
theorem eX2_isSure_13 : xAt mX2_isSure 13 (.invokevirtual 59) 3 16 := ⟨by decide +kernel, rfl⟩
theorem eX2_isSure_16 : xAt mX2_isSure 16 (.aload_n 0) 1 17 := ⟨by decide +kernel, rfl⟩
theorem eX2_isSure_17 : xAt mX2_isSure 17 (.iload_n 3) 1 18 := ⟨by decide +kernel, rfl⟩
theorem eX2_isSure_18 : xAt mX2_isSure 18 (.invokevirtual 59) 3 21 := ⟨by decide +kernel, rfl⟩
theorem eX2_isSure_21 : xAt mX2_isSure 21 (.dsub) 1 22 := ⟨by decide +kernel, rfl⟩
theorem eX2_isSure_22 : xAt mX2_isSure 22 (.dmul) 1 23 := ⟨by decide +kernel, rfl⟩
theorem eX2_isSure_23 : xAt mX2_isSure 23 (.dstore 4) 2 25 := ⟨by decide +kernel, rfl⟩
theorem eX2_isSure_25 : xAt mX2_isSure 25 (.aload_n 0) 1 26 := ⟨by decide +kernel, rfl⟩
theorem eX2_isSure_26 : xAt mX2_isSure 26 (.iload_n 1) 1 27 := ⟨by decide +kernel, rfl⟩
theorem eX2_isSure_27 : xAt mX2_isSure 27 (.invokevirtual 59) 3 30 := ⟨by decide +kernel, rfl⟩
theorem eX2_isSure_30 : xAt mX2_isSure 30 (.aload_n 0) 1 31 := ⟨by decide +kernel, rfl⟩
theorem eX2_isSure_31 : xAt mX2_isSure 31 (.iload_n 3) 1 32 := ⟨by decide +kernel, rfl⟩
theorem eX2_isSure_32 : xAt mX2_isSure 32 (.invokevirtual 59) 3 35 := ⟨by decide +kernel, rfl⟩
theorem eX2_isSure_35 : xAt mX2_isSure 35 (.dsub) 1 36 := ⟨by decide +kernel, rfl⟩
theorem eX2_isSure_36 : xAt mX2_isSure 36 (.aload_n 0) 1 37 := ⟨by decide +kernel, rfl⟩
theorem eX2_isSure_37 : xAt mX2_isSure 37 (.iload_n 2) 1 38 := ⟨by decide +kernel, rfl⟩
theorem eX2_isSure_38 : xAt mX2_isSure 38 (.invokevirtual 55) 3 41 := ⟨by decide +kernel, rfl⟩
theorem eX2_isSure_41 : xAt mX2_isSure 41 (.aload_n 0) 1 42 := ⟨by decide +kernel, rfl⟩
theorem eX2_isSure_42 : xAt mX2_isSure 42 (.iload_n 3) 1 43 := ⟨by decide +kernel, rfl⟩
theorem eX2_isSure_43 : xAt mX2_isSure 43 (.invokevirtual 55) 3 46 := ⟨by decide +kernel, rfl⟩
theorem eX2_isSure_46 : xAt mX2_isSure 46 (.dsub) 1 47 := ⟨by decide +kernel, rfl⟩
theorem eX2_isSure_47 : xAt mX2_isSure 47 (.dmul) 1 48 := ⟨by decide +kernel, rfl⟩
theorem eX2_isSure_48 : xAt mX2_isSure 48 (.dstore 6) 2 50 := ⟨by decide +kernel, rfl⟩
theorem eX2_isSure_50 : xAt mX2_isSure 50 (.dload 4) 2 52 := ⟨by decide +kernel, rfl⟩
theorem eX2_isSure_52 : xAt mX2_isSure 52 (.dload 6) 2 54 := ⟨by decide +kernel, rfl⟩
theorem eX2_isSure_54 : xAt mX2_isSure 54 (.invokestatic 62) 3 57 := ⟨by decide +kernel, rfl⟩
theorem eX2_isSure_57 : xAt mX2_isSure 57 (.ireturn) 1 58 := ⟨by decide +kernel, rfl⟩
theorem eX2_isSureOf_0 : xAt mX2_isSureOf 0 (.dload_n 0) 1 1 := ⟨by decide +kernel, rfl⟩
theorem eX2_isSureOf_1 : xAt mX2_isSureOf 1 (.dconst 0) 1 2 := ⟨by decide +kernel, rfl⟩
theorem eX2_isSureOf_2 : xAt mX2_isSureOf 2 (.dcmp .g) 1 3 := ⟨by decide +kernel, rfl⟩
theorem eX2_isSureOf_3 : xBr mX2_isSureOf 3 (.ifCond .ge) (8) 6 11 := ⟨by decide +kernel, rfl, by decide⟩
theorem eX2_isSureOf_6 : xAt mX2_isSureOf 6 (.dload_n 0) 1 7 := ⟨by decide +kernel, rfl⟩
theorem eX2_isSureOf_7 : xAt mX2_isSureOf 7 (.dneg) 1 8 := ⟨by decide +kernel, rfl⟩
theorem eX2_isSureOf_8 : xBr mX2_isSureOf 8 .goto (4) 11 12 := ⟨by decide +kernel, rfl, by decide⟩
theorem eX2_isSureOf_11 : xAt mX2_isSureOf 11 (.dload_n 0) 1 12 := ⟨by decide +kernel, rfl⟩
theorem eX2_isSureOf_12 : xAt mX2_isSureOf 12 (.dload_n 2) 1 13 := ⟨by decide +kernel, rfl⟩
theorem eX2_isSureOf_13 : xAt mX2_isSureOf 13 (.dconst 0) 1 14 := ⟨by decide +kernel, rfl⟩
theorem eX2_isSureOf_14 : xAt mX2_isSureOf 14 (.dcmp .g) 1 15 := ⟨by decide +kernel, rfl⟩
theorem eX2_isSureOf_15 : xBr mX2_isSureOf 15 (.ifCond .ge) (8) 18 23 := ⟨by decide +kernel, rfl, by decide⟩
theorem eX2_isSureOf_18 : xAt mX2_isSureOf 18 (.dload_n 2) 1 19 := ⟨by decide +kernel, rfl⟩
theorem eX2_isSureOf_19 : xAt mX2_isSureOf 19 (.dneg) 1 20 := ⟨by decide +kernel, rfl⟩
theorem eX2_isSureOf_20 : xBr mX2_isSureOf 20 .goto (4) 23 24 := ⟨by decide +kernel, rfl, by decide⟩
theorem eX2_isSureOf_23 : xAt mX2_isSureOf 23 (.dload_n 2) 1 24 := ⟨by decide +kernel, rfl⟩
theorem eX2_isSureOf_24 : xAt mX2_isSureOf 24 (.dadd) 1 25 := ⟨by decide +kernel, rfl⟩
theorem eX2_isSureOf_25 : xAt mX2_isSureOf 25 (.dstore 4) 2 27 := ⟨by decide +kernel, rfl⟩
theorem eX2_isSureOf_27 : xAt mX2_isSureOf 27 (.dload_n 0) 1 28 := ⟨by decide +kernel, rfl⟩
theorem eX2_isSureOf_28 : xAt mX2_isSureOf 28 (.dload_n 2) 1 29 := ⟨by decide +kernel, rfl⟩
theorem eX2_isSureOf_29 : xAt mX2_isSureOf 29 (.dcmp .g) 1 30 := ⟨by decide +kernel, rfl⟩
theorem eX2_isSureOf_30 : xBr mX2_isSureOf 30 (.ifCond .ge) (9) 33 39 := ⟨by decide +kernel, rfl, by decide⟩
theorem eX2_isSureOf_33 : xAt mX2_isSureOf 33 (.dload_n 2) 1 34 := ⟨by decide +kernel, rfl⟩
theorem eX2_isSureOf_34 : xAt mX2_isSureOf 34 (.dload_n 0) 1 35 := ⟨by decide +kernel, rfl⟩
theorem eX2_isSureOf_35 : xAt mX2_isSureOf 35 (.dsub) 1 36 := ⟨by decide +kernel, rfl⟩
theorem eX2_isSureOf_36 : xBr mX2_isSureOf 36 .goto (6) 39 42 := ⟨by decide +kernel, rfl, by decide⟩
theorem eX2_isSureOf_39 : xAt mX2_isSureOf 39 (.dload_n 0) 1 40 := ⟨by decide +kernel, rfl⟩
theorem eX2_isSureOf_40 : xAt mX2_isSureOf 40 (.dload_n 2) 1 41 := ⟨by decide +kernel, rfl⟩
theorem eX2_isSureOf_41 : xAt mX2_isSureOf 41 (.dsub) 1 42 := ⟨by decide +kernel, rfl⟩
theorem eX2_isSureOf_42 : xAt mX2_isSureOf 42 (.dstore 6) 2 44 := ⟨by decide +kernel, rfl⟩
theorem eX2_isSureOf_44 : xAt mX2_isSureOf 44 (.dload 6) 2 46 := ⟨by decide +kernel, rfl⟩
theorem eX2_isSureOf_46 : xAt mX2_isSureOf 46 (.dload 4) 2 48 := ⟨by decide +kernel, rfl⟩
theorem eX2_isSureOf_48 : xAt mX2_isSureOf 48 (.ldc2_w 66) 3 51 := ⟨by decide +kernel, rfl⟩
theorem eX2_isSureOf_51 : xAt mX2_isSureOf 51 (.ddiv) 1 52 := ⟨by decide +kernel, rfl⟩
theorem eX2_isSureOf_52 : xAt mX2_isSureOf 52 (.dcmp .l) 1 53 := ⟨by decide +kernel, rfl⟩
theorem eX2_isSureOf_53 : xBr mX2_isSureOf 53 (.ifCond .le) (7) 56 60 := ⟨by decide +kernel, rfl, by decide⟩
theorem eX2_isSureOf_56 : xAt mX2_isSureOf 56 (.iconst 1) 1 57 := ⟨by decide +kernel, rfl⟩
theorem eX2_isSureOf_57 : xBr mX2_isSureOf 57 .goto (4) 60 61 := ⟨by decide +kernel, rfl, by decide⟩
theorem eX2_isSureOf_60 : xAt mX2_isSureOf 60 (.iconst 0) 1 61 := ⟨by decide +kernel, rfl⟩
theorem eX2_isSureOf_61 : xAt mX2_isSureOf 61 (.ireturn) 1 62 := ⟨by decide +kernel, rfl⟩
theorem eX2_turn_0 : xAt mX2_turn 0 (.aload_n 0) 1 1 := ⟨by decide +kernel, rfl⟩
theorem eX2_turn_1 : xAt mX2_turn 1 (.iload_n 1) 1 2 := ⟨by decide +kernel, rfl⟩
theorem eX2_turn_2 : xAt mX2_turn 2 (.invokevirtual 55) 3 5 := ⟨by decide +kernel, rfl⟩
theorem eX2_turn_5 : xAt mX2_turn 5 (.aload_n 0) 1 6 := ⟨by decide +kernel, rfl⟩
theorem eX2_turn_6 : xAt mX2_turn 6 (.iload_n 3) 1 7 := ⟨by decide +kernel, rfl⟩
theorem eX2_turn_7 : xAt mX2_turn 7 (.invokevirtual 55) 3 10 := ⟨by decide +kernel, rfl⟩
theorem eX2_turn_10 : xAt mX2_turn 10 (.dsub) 1 11 := ⟨by decide +kernel, rfl⟩
theorem eX2_turn_11 : xAt mX2_turn 11 (.aload_n 0) 1 12 := ⟨by decide +kernel, rfl⟩
theorem eX2_turn_12 : xAt mX2_turn 12 (.iload_n 2) 1 13 := ⟨by decide +kernel, rfl⟩
theorem eX2_turn_13 : xAt mX2_turn 13 (.invokevirtual 59) 3 16 := ⟨by decide +kernel, rfl⟩
theorem eX2_turn_16 : xAt mX2_turn 16 (.aload_n 0) 1 17 := ⟨by decide +kernel, rfl⟩
theorem eX2_turn_17 : xAt mX2_turn 17 (.iload_n 3) 1 18 := ⟨by decide +kernel, rfl⟩
theorem eX2_turn_18 : xAt mX2_turn 18 (.invokevirtual 59) 3 21 := ⟨by decide +kernel, rfl⟩
theorem eX2_turn_21 : xAt mX2_turn 21 (.dsub) 1 22 := ⟨by decide +kernel, rfl⟩
theorem eX2_turn_22 : xAt mX2_turn 22 (.dmul) 1 23 := ⟨by decide +kernel, rfl⟩
theorem eX2_turn_23 : xAt mX2_turn 23 (.dstore 4) 2 25 := ⟨by decide +kernel, rfl⟩
theorem eX2_turn_25 : xAt mX2_turn 25 (.aload_n 0) 1 26 := ⟨by decide +kernel, rfl⟩
theorem eX2_turn_26 : xAt mX2_turn 26 (.iload_n 1) 1 27 := ⟨by decide +kernel, rfl⟩
theorem eX2_turn_27 : xAt mX2_turn 27 (.invokevirtual 59) 3 30 := ⟨by decide +kernel, rfl⟩
theorem eX2_turn_30 : xAt mX2_turn 30 (.aload_n 0) 1 31 := ⟨by decide +kernel, rfl⟩
theorem eX2_turn_31 : xAt mX2_turn 31 (.iload_n 3) 1 32 := ⟨by decide +kernel, rfl⟩
theorem eX2_turn_32 : xAt mX2_turn 32 (.invokevirtual 59) 3 35 := ⟨by decide +kernel, rfl⟩
theorem eX2_turn_35 : xAt mX2_turn 35 (.dsub) 1 36 := ⟨by decide +kernel, rfl⟩
theorem eX2_turn_36 : xAt mX2_turn 36 (.aload_n 0) 1 37 := ⟨by decide +kernel, rfl⟩
theorem eX2_turn_37 : xAt mX2_turn 37 (.iload_n 2) 1 38 := ⟨by decide +kernel, rfl⟩
theorem eX2_turn_38 : xAt mX2_turn 38 (.invokevirtual 55) 3 41 := ⟨by decide +kernel, rfl⟩
theorem eX2_turn_41 : xAt mX2_turn 41 (.aload_n 0) 1 42 := ⟨by decide +kernel, rfl⟩
theorem eX2_turn_42 : xAt mX2_turn 42 (.iload_n 3) 1 43 := ⟨by decide +kernel, rfl⟩
theorem eX2_turn_43 : xAt mX2_turn 43 (.invokevirtual 55) 3 46 := ⟨by decide +kernel, rfl⟩
theorem eX2_turn_46 : xAt mX2_turn 46 (.dsub) 1 47 := ⟨by decide +kernel, rfl⟩
theorem eX2_turn_47 : xAt mX2_turn 47 (.dmul) 1 48 := ⟨by decide +kernel, rfl⟩
theorem eX2_turn_48 : xAt mX2_turn 48 (.dstore 6) 2 50 := ⟨by decide +kernel, rfl⟩
theorem eX2_turn_50 : xAt mX2_turn 50 (.dload 4) 2 52 := ⟨by decide +kernel, rfl⟩
theorem eX2_turn_52 : xAt mX2_turn 52 (.dload 6) 2 54 := ⟨by decide +kernel, rfl⟩
theorem eX2_turn_54 : xAt mX2_turn 54 (.invokestatic 62) 3 57 := ⟨by decide +kernel, rfl⟩
theorem eX2_turn_57 : xBr mX2_turn 57 (.ifCond .eq) (17) 60 74 := ⟨by decide +kernel, rfl, by decide⟩
theorem eX2_turn_60 : xAt mX2_turn 60 (.dload 4) 2 62 := ⟨by decide +kernel, rfl⟩
theorem eX2_turn_62 : xAt mX2_turn 62 (.dload 6) 2 64 := ⟨by decide +kernel, rfl⟩
theorem eX2_turn_64 : xAt mX2_turn 64 (.dcmp .l) 1 65 := ⟨by decide +kernel, rfl⟩
theorem eX2_turn_65 : xBr mX2_turn 65 (.ifCond .le) (7) 68 72 := ⟨by decide +kernel, rfl, by decide⟩
theorem eX2_turn_68 : xAt mX2_turn 68 (.iconst 1) 1 69 := ⟨by decide +kernel, rfl⟩
theorem eX2_turn_69 : xBr mX2_turn 69 .goto (4) 72 73 := ⟨by decide +kernel, rfl, by decide⟩
theorem eX2_turn_72 : xAt mX2_turn 72 (.iconst (-1)) 1 73 := ⟨by decide +kernel, rfl⟩
theorem eX2_turn_73 : xAt mX2_turn 73 (.ireturn) 1 74 := ⟨by decide +kernel, rfl⟩
theorem eX2_turn_74 : xAt mX2_turn 74 (.dload 4) 2 76 := ⟨by decide +kernel, rfl⟩
theorem eX2_turn_76 : xAt mX2_turn 76 (.dconst 0) 1 77 := ⟨by decide +kernel, rfl⟩
theorem eX2_turn_77 : xAt mX2_turn 77 (.dcmp .l) 1 78 := ⟨by decide +kernel, rfl⟩
theorem eX2_turn_78 : xBr mX2_turn 78 (.ifCond .ne) (12) 81 90 := ⟨by decide +kernel, rfl, by decide⟩
theorem eX2_turn_81 : xAt mX2_turn 81 (.dload 6) 2 83 := ⟨by decide +kernel, rfl⟩
theorem eX2_turn_83 : xAt mX2_turn 83 (.dconst 0) 1 84 := ⟨by decide +kernel, rfl⟩
theorem eX2_turn_84 : xAt mX2_turn 84 (.dcmp .l) 1 85 := ⟨by decide +kernel, rfl⟩
theorem eX2_turn_85 : xBr mX2_turn 85 (.ifCond .ne) (5) 88 90 := ⟨by decide +kernel, rfl, by decide⟩
theorem eX2_turn_88 : xAt mX2_turn 88 (.iconst 0) 1 89 := ⟨by decide +kernel, rfl⟩
theorem eX2_turn_89 : xAt mX2_turn 89 (.ireturn) 1 90 := ⟨by decide +kernel, rfl⟩
theorem eX2_turn_90 : xAt mX2_turn 90 (.aload_n 0) 1 91 := ⟨by decide +kernel, rfl⟩
theorem eX2_turn_91 : xAt mX2_turn 91 (.iload_n 1) 1 92 := ⟨by decide +kernel, rfl⟩
theorem eX2_turn_92 : xAt mX2_turn 92 (.iload_n 2) 1 93 := ⟨by decide +kernel, rfl⟩
theorem eX2_turn_93 : xAt mX2_turn 93 (.iload_n 3) 1 94 := ⟨by decide +kernel, rfl⟩
theorem eX2_turn_94 : xAt mX2_turn 94 (.invokevirtual 68) 3 97 := ⟨by decide +kernel, rfl⟩
theorem eX2_turn_97 : xAt mX2_turn 97 (.ireturn) 1 98 := ⟨by decide +kernel, rfl⟩
theorem eX2_exactTurn_0 : xAt mX2_exactTurn 0 (.iconst 2) 1 1 := ⟨by decide +kernel, rfl⟩
theorem eX2_exactTurn_1 : xAt mX2_exactTurn 1 (.iload_n 1) 1 2 := ⟨by decide +kernel, rfl⟩
theorem eX2_exactTurn_2 : xAt mX2_exactTurn 2 (.imul) 1 3 := ⟨by decide +kernel, rfl⟩
theorem eX2_exactTurn_3 : xAt mX2_exactTurn 3 (.iconst 4) 1 4 := ⟨by decide +kernel, rfl⟩
theorem eX2_exactTurn_4 : xAt mX2_exactTurn 4 (.imul) 1 5 := ⟨by decide +kernel, rfl⟩
theorem eX2_exactTurn_5 : xAt mX2_exactTurn 5 (.istore 4) 2 7 := ⟨by decide +kernel, rfl⟩
theorem eX2_exactTurn_7 : xAt mX2_exactTurn 7 (.iconst 2) 1 8 := ⟨by decide +kernel, rfl⟩
theorem eX2_exactTurn_8 : xAt mX2_exactTurn 8 (.iload_n 2) 1 9 := ⟨by decide +kernel, rfl⟩
theorem eX2_exactTurn_9 : xAt mX2_exactTurn 9 (.imul) 1 10 := ⟨by decide +kernel, rfl⟩
theorem eX2_exactTurn_10 : xAt mX2_exactTurn 10 (.iconst 4) 1 11 := ⟨by decide +kernel, rfl⟩
theorem eX2_exactTurn_11 : xAt mX2_exactTurn 11 (.imul) 1 12 := ⟨by decide +kernel, rfl⟩
theorem eX2_exactTurn_12 : xAt mX2_exactTurn 12 (.istore 5) 2 14 := ⟨by decide +kernel, rfl⟩
theorem eX2_exactTurn_14 : xAt mX2_exactTurn 14 (.iconst 2) 1 15 := ⟨by decide +kernel, rfl⟩
theorem eX2_exactTurn_15 : xAt mX2_exactTurn 15 (.iload_n 3) 1 16 := ⟨by decide +kernel, rfl⟩
theorem eX2_exactTurn_16 : xAt mX2_exactTurn 16 (.imul) 1 17 := ⟨by decide +kernel, rfl⟩
theorem eX2_exactTurn_17 : xAt mX2_exactTurn 17 (.iconst 4) 1 18 := ⟨by decide +kernel, rfl⟩
theorem eX2_exactTurn_18 : xAt mX2_exactTurn 18 (.imul) 1 19 := ⟨by decide +kernel, rfl⟩
theorem eX2_exactTurn_19 : xAt mX2_exactTurn 19 (.istore 6) 2 21 := ⟨by decide +kernel, rfl⟩
theorem eX2_exactTurn_21 : xAt mX2_exactTurn 21 (.aload_n 0) 1 22 := ⟨by decide +kernel, rfl⟩
theorem eX2_exactTurn_22 : xAt mX2_exactTurn 22 (.getfield 25) 3 25 := ⟨by decide +kernel, rfl⟩
theorem eX2_exactTurn_25 : xAt mX2_exactTurn 25 (.invokevirtual 72) 3 28 := ⟨by decide +kernel, rfl⟩
theorem eX2_exactTurn_28 : xAt mX2_exactTurn 28 (.iconst 0) 1 29 := ⟨by decide +kernel, rfl⟩
theorem eX2_exactTurn_29 : xAt mX2_exactTurn 29 (.istore 7) 2 31 := ⟨by decide +kernel, rfl⟩
theorem eX2_exactTurn_31 : xAt mX2_exactTurn 31 (.iload 7) 2 33 := ⟨by decide +kernel, rfl⟩
theorem eX2_exactTurn_33 : xAt mX2_exactTurn 33 (.iconst 4) 1 34 := ⟨by decide +kernel, rfl⟩
theorem eX2_exactTurn_34 : xBr mX2_exactTurn 34 (.if_icmp .ge) (151) 37 185 := ⟨by decide +kernel, rfl, by decide⟩
theorem eX2_exactTurn_37 : xAt mX2_exactTurn 37 (.aload_n 0) 1 38 := ⟨by decide +kernel, rfl⟩
theorem eX2_exactTurn_38 : xAt mX2_exactTurn 38 (.getfield 19) 3 41 := ⟨by decide +kernel, rfl⟩
theorem eX2_exactTurn_41 : xAt mX2_exactTurn 41 (.iload 4) 2 43 := ⟨by decide +kernel, rfl⟩
theorem eX2_exactTurn_43 : xAt mX2_exactTurn 43 (.iload 7) 2 45 := ⟨by decide +kernel, rfl⟩
theorem eX2_exactTurn_45 : xAt mX2_exactTurn 45 (.iadd) 1 46 := ⟨by decide +kernel, rfl⟩
theorem eX2_exactTurn_46 : xAt mX2_exactTurn 46 (.laload) 1 47 := ⟨by decide +kernel, rfl⟩
theorem eX2_exactTurn_47 : xAt mX2_exactTurn 47 (.aload_n 0) 1 48 := ⟨by decide +kernel, rfl⟩
theorem eX2_exactTurn_48 : xAt mX2_exactTurn 48 (.getfield 19) 3 51 := ⟨by decide +kernel, rfl⟩
theorem eX2_exactTurn_51 : xAt mX2_exactTurn 51 (.iload 6) 2 53 := ⟨by decide +kernel, rfl⟩
theorem eX2_exactTurn_53 : xAt mX2_exactTurn 53 (.iload 7) 2 55 := ⟨by decide +kernel, rfl⟩
theorem eX2_exactTurn_55 : xAt mX2_exactTurn 55 (.iadd) 1 56 := ⟨by decide +kernel, rfl⟩
theorem eX2_exactTurn_56 : xAt mX2_exactTurn 56 (.laload) 1 57 := ⟨by decide +kernel, rfl⟩
theorem eX2_exactTurn_57 : xAt mX2_exactTurn 57 (.lsub) 1 58 := ⟨by decide +kernel, rfl⟩
theorem eX2_exactTurn_58 : xAt mX2_exactTurn 58 (.lstore 8) 2 60 := ⟨by decide +kernel, rfl⟩
theorem eX2_exactTurn_60 : xAt mX2_exactTurn 60 (.aload_n 0) 1 61 := ⟨by decide +kernel, rfl⟩
theorem eX2_exactTurn_61 : xAt mX2_exactTurn 61 (.getfield 19) 3 64 := ⟨by decide +kernel, rfl⟩
theorem eX2_exactTurn_64 : xAt mX2_exactTurn 64 (.iload 4) 2 66 := ⟨by decide +kernel, rfl⟩
theorem eX2_exactTurn_66 : xAt mX2_exactTurn 66 (.iconst 4) 1 67 := ⟨by decide +kernel, rfl⟩
theorem eX2_exactTurn_67 : xAt mX2_exactTurn 67 (.iadd) 1 68 := ⟨by decide +kernel, rfl⟩
theorem eX2_exactTurn_68 : xAt mX2_exactTurn 68 (.iload 7) 2 70 := ⟨by decide +kernel, rfl⟩
theorem eX2_exactTurn_70 : xAt mX2_exactTurn 70 (.iadd) 1 71 := ⟨by decide +kernel, rfl⟩
theorem eX2_exactTurn_71 : xAt mX2_exactTurn 71 (.laload) 1 72 := ⟨by decide +kernel, rfl⟩
theorem eX2_exactTurn_72 : xAt mX2_exactTurn 72 (.aload_n 0) 1 73 := ⟨by decide +kernel, rfl⟩
theorem eX2_exactTurn_73 : xAt mX2_exactTurn 73 (.getfield 19) 3 76 := ⟨by decide +kernel, rfl⟩
theorem eX2_exactTurn_76 : xAt mX2_exactTurn 76 (.iload 6) 2 78 := ⟨by decide +kernel, rfl⟩
theorem eX2_exactTurn_78 : xAt mX2_exactTurn 78 (.iconst 4) 1 79 := ⟨by decide +kernel, rfl⟩
theorem eX2_exactTurn_79 : xAt mX2_exactTurn 79 (.iadd) 1 80 := ⟨by decide +kernel, rfl⟩
theorem eX2_exactTurn_80 : xAt mX2_exactTurn 80 (.iload 7) 2 82 := ⟨by decide +kernel, rfl⟩
theorem eX2_exactTurn_82 : xAt mX2_exactTurn 82 (.iadd) 1 83 := ⟨by decide +kernel, rfl⟩
theorem eX2_exactTurn_83 : xAt mX2_exactTurn 83 (.laload) 1 84 := ⟨by decide +kernel, rfl⟩
theorem eX2_exactTurn_84 : xAt mX2_exactTurn 84 (.lsub) 1 85 := ⟨by decide +kernel, rfl⟩
theorem eX2_exactTurn_85 : xAt mX2_exactTurn 85 (.lstore 10) 2 87 := ⟨by decide +kernel, rfl⟩
theorem eX2_exactTurn_87 : xAt mX2_exactTurn 87 (.iconst 0) 1 88 := ⟨by decide +kernel, rfl⟩
theorem eX2_exactTurn_88 : xAt mX2_exactTurn 88 (.istore 12) 2 90 := ⟨by decide +kernel, rfl⟩
theorem eX2_exactTurn_90 : xAt mX2_exactTurn 90 (.iload 12) 2 92 := ⟨by decide +kernel, rfl⟩
theorem eX2_exactTurn_92 : xAt mX2_exactTurn 92 (.iconst 4) 1 93 := ⟨by decide +kernel, rfl⟩
theorem eX2_exactTurn_93 : xBr mX2_exactTurn 93 (.if_icmp .ge) (86) 96 179 := ⟨by decide +kernel, rfl, by decide⟩
theorem eX2_exactTurn_96 : xAt mX2_exactTurn 96 (.aload_n 0) 1 97 := ⟨by decide +kernel, rfl⟩
theorem eX2_exactTurn_97 : xAt mX2_exactTurn 97 (.getfield 19) 3 100 := ⟨by decide +kernel, rfl⟩
theorem eX2_exactTurn_100 : xAt mX2_exactTurn 100 (.iload 5) 2 102 := ⟨by decide +kernel, rfl⟩
theorem eX2_exactTurn_102 : xAt mX2_exactTurn 102 (.iload 12) 2 104 := ⟨by decide +kernel, rfl⟩
theorem eX2_exactTurn_104 : xAt mX2_exactTurn 104 (.iadd) 1 105 := ⟨by decide +kernel, rfl⟩
theorem eX2_exactTurn_105 : xAt mX2_exactTurn 105 (.laload) 1 106 := ⟨by decide +kernel, rfl⟩
theorem eX2_exactTurn_106 : xAt mX2_exactTurn 106 (.aload_n 0) 1 107 := ⟨by decide +kernel, rfl⟩
theorem eX2_exactTurn_107 : xAt mX2_exactTurn 107 (.getfield 19) 3 110 := ⟨by decide +kernel, rfl⟩
theorem eX2_exactTurn_110 : xAt mX2_exactTurn 110 (.iload 6) 2 112 := ⟨by decide +kernel, rfl⟩
theorem eX2_exactTurn_112 : xAt mX2_exactTurn 112 (.iload 12) 2 114 := ⟨by decide +kernel, rfl⟩
theorem eX2_exactTurn_114 : xAt mX2_exactTurn 114 (.iadd) 1 115 := ⟨by decide +kernel, rfl⟩
theorem eX2_exactTurn_115 : xAt mX2_exactTurn 115 (.laload) 1 116 := ⟨by decide +kernel, rfl⟩
theorem eX2_exactTurn_116 : xAt mX2_exactTurn 116 (.lsub) 1 117 := ⟨by decide +kernel, rfl⟩
theorem eX2_exactTurn_117 : xAt mX2_exactTurn 117 (.lstore 13) 2 119 := ⟨by decide +kernel, rfl⟩
theorem eX2_exactTurn_119 : xAt mX2_exactTurn 119 (.aload_n 0) 1 120 := ⟨by decide +kernel, rfl⟩
theorem eX2_exactTurn_120 : xAt mX2_exactTurn 120 (.getfield 19) 3 123 := ⟨by decide +kernel, rfl⟩
theorem eX2_exactTurn_123 : xAt mX2_exactTurn 123 (.iload 5) 2 125 := ⟨by decide +kernel, rfl⟩
theorem eX2_exactTurn_125 : xAt mX2_exactTurn 125 (.iconst 4) 1 126 := ⟨by decide +kernel, rfl⟩
theorem eX2_exactTurn_126 : xAt mX2_exactTurn 126 (.iadd) 1 127 := ⟨by decide +kernel, rfl⟩
theorem eX2_exactTurn_127 : xAt mX2_exactTurn 127 (.iload 12) 2 129 := ⟨by decide +kernel, rfl⟩
theorem eX2_exactTurn_129 : xAt mX2_exactTurn 129 (.iadd) 1 130 := ⟨by decide +kernel, rfl⟩
theorem eX2_exactTurn_130 : xAt mX2_exactTurn 130 (.laload) 1 131 := ⟨by decide +kernel, rfl⟩
theorem eX2_exactTurn_131 : xAt mX2_exactTurn 131 (.aload_n 0) 1 132 := ⟨by decide +kernel, rfl⟩
theorem eX2_exactTurn_132 : xAt mX2_exactTurn 132 (.getfield 19) 3 135 := ⟨by decide +kernel, rfl⟩
theorem eX2_exactTurn_135 : xAt mX2_exactTurn 135 (.iload 6) 2 137 := ⟨by decide +kernel, rfl⟩
theorem eX2_exactTurn_137 : xAt mX2_exactTurn 137 (.iconst 4) 1 138 := ⟨by decide +kernel, rfl⟩
theorem eX2_exactTurn_138 : xAt mX2_exactTurn 138 (.iadd) 1 139 := ⟨by decide +kernel, rfl⟩
theorem eX2_exactTurn_139 : xAt mX2_exactTurn 139 (.iload 12) 2 141 := ⟨by decide +kernel, rfl⟩
theorem eX2_exactTurn_141 : xAt mX2_exactTurn 141 (.iadd) 1 142 := ⟨by decide +kernel, rfl⟩
theorem eX2_exactTurn_142 : xAt mX2_exactTurn 142 (.laload) 1 143 := ⟨by decide +kernel, rfl⟩
theorem eX2_exactTurn_143 : xAt mX2_exactTurn 143 (.lsub) 1 144 := ⟨by decide +kernel, rfl⟩
theorem eX2_exactTurn_144 : xAt mX2_exactTurn 144 (.lstore 15) 2 146 := ⟨by decide +kernel, rfl⟩
theorem eX2_exactTurn_146 : xAt mX2_exactTurn 146 (.aload_n 0) 1 147 := ⟨by decide +kernel, rfl⟩
theorem eX2_exactTurn_147 : xAt mX2_exactTurn 147 (.getfield 25) 3 150 := ⟨by decide +kernel, rfl⟩
theorem eX2_exactTurn_150 : xAt mX2_exactTurn 150 (.getfield 75) 3 153 := ⟨by decide +kernel, rfl⟩
theorem eX2_exactTurn_153 : xAt mX2_exactTurn 153 (.iload 7) 2 155 := ⟨by decide +kernel, rfl⟩
theorem eX2_exactTurn_155 : xAt mX2_exactTurn 155 (.iload 12) 2 157 := ⟨by decide +kernel, rfl⟩
theorem eX2_exactTurn_157 : xAt mX2_exactTurn 157 (.iadd) 1 158 := ⟨by decide +kernel, rfl⟩
theorem eX2_exactTurn_158 : xAt mX2_exactTurn 158 (.dup2) 1 159 := ⟨by decide +kernel, rfl⟩
theorem eX2_exactTurn_159 : xAt mX2_exactTurn 159 (.laload) 1 160 := ⟨by decide +kernel, rfl⟩
theorem eX2_exactTurn_160 : xAt mX2_exactTurn 160 (.lload 8) 2 162 := ⟨by decide +kernel, rfl⟩
theorem eX2_exactTurn_162 : xAt mX2_exactTurn 162 (.lload 15) 2 164 := ⟨by decide +kernel, rfl⟩
theorem eX2_exactTurn_164 : xAt mX2_exactTurn 164 (.lmul) 1 165 := ⟨by decide +kernel, rfl⟩
theorem eX2_exactTurn_165 : xAt mX2_exactTurn 165 (.lload 10) 2 167 := ⟨by decide +kernel, rfl⟩
theorem eX2_exactTurn_167 : xAt mX2_exactTurn 167 (.lload 13) 2 169 := ⟨by decide +kernel, rfl⟩
theorem eX2_exactTurn_169 : xAt mX2_exactTurn 169 (.lmul) 1 170 := ⟨by decide +kernel, rfl⟩
theorem eX2_exactTurn_170 : xAt mX2_exactTurn 170 (.lsub) 1 171 := ⟨by decide +kernel, rfl⟩
theorem eX2_exactTurn_171 : xAt mX2_exactTurn 171 (.ladd) 1 172 := ⟨by decide +kernel, rfl⟩
theorem eX2_exactTurn_172 : xAt mX2_exactTurn 172 (.lastore) 1 173 := ⟨by decide +kernel, rfl⟩
theorem eX2_exactTurn_173 : xAt mX2_exactTurn 173 (.iinc 12 1) 3 176 := ⟨by decide +kernel, rfl⟩
theorem eX2_exactTurn_176 : xBr mX2_exactTurn 176 .goto (-86) 179 90 := ⟨by decide +kernel, rfl, by decide⟩
theorem eX2_exactTurn_179 : xAt mX2_exactTurn 179 (.iinc 7 1) 3 182 := ⟨by decide +kernel, rfl⟩
theorem eX2_exactTurn_182 : xBr mX2_exactTurn 182 .goto (-151) 185 31 := ⟨by decide +kernel, rfl, by decide⟩
theorem eX2_exactTurn_185 : xAt mX2_exactTurn 185 (.aload_n 0) 1 186 := ⟨by decide +kernel, rfl⟩
theorem eX2_exactTurn_186 : xAt mX2_exactTurn 186 (.getfield 25) 3 189 := ⟨by decide +kernel, rfl⟩
theorem eX2_exactTurn_189 : xAt mX2_exactTurn 189 (.invokevirtual 78) 3 192 := ⟨by decide +kernel, rfl⟩
theorem eX2_exactTurn_192 : xAt mX2_exactTurn 192 (.ireturn) 1 193 := ⟨by decide +kernel, rfl⟩
end
section
theorem eX2_meeting_0 : xAt mX2_meeting 0 (.aload_n 0) 1 1 := ⟨by decide +kernel, rfl⟩
theorem eX2_meeting_1 : xAt mX2_meeting 1 (.iload_n 1) 1 2 := ⟨by decide +kernel, rfl⟩
theorem eX2_meeting_2 : xAt mX2_meeting 2 (.invokevirtual 55) 3 5 := ⟨by decide +kernel, rfl⟩
theorem eX2_meeting_5 : xAt mX2_meeting 5 (.aload_n 0) 1 6 := ⟨by decide +kernel, rfl⟩
theorem eX2_meeting_6 : xAt mX2_meeting 6 (.iload_n 2) 1 7 := ⟨by decide +kernel, rfl⟩
theorem eX2_meeting_7 : xAt mX2_meeting 7 (.invokevirtual 55) 3 10 := ⟨by decide +kernel, rfl⟩
theorem eX2_meeting_10 : xAt mX2_meeting 10 (.aload_n 0) 1 11 := ⟨by decide +kernel, rfl⟩
theorem eX2_meeting_11 : xAt mX2_meeting 11 (.iload_n 3) 1 12 := ⟨by decide +kernel, rfl⟩
theorem eX2_meeting_12 : xAt mX2_meeting 12 (.invokevirtual 55) 3 15 := ⟨by decide +kernel, rfl⟩
theorem eX2_meeting_15 : xAt mX2_meeting 15 (.aload_n 0) 1 16 := ⟨by decide +kernel, rfl⟩
theorem eX2_meeting_16 : xAt mX2_meeting 16 (.iload 4) 2 18 := ⟨by decide +kernel, rfl⟩
theorem eX2_meeting_18 : xAt mX2_meeting 18 (.invokevirtual 55) 3 21 := ⟨by decide +kernel, rfl⟩
theorem eX2_meeting_21 : xAt mX2_meeting 21 (.invokestatic 82) 3 24 := ⟨by decide +kernel, rfl⟩
theorem eX2_meeting_24 : xBr mX2_meeting 24 (.ifCond .eq) (30) 27 54 := ⟨by decide +kernel, rfl, by decide⟩
theorem eX2_meeting_27 : xAt mX2_meeting 27 (.aload_n 0) 1 28 := ⟨by decide +kernel, rfl⟩
theorem eX2_meeting_28 : xAt mX2_meeting 28 (.iload_n 1) 1 29 := ⟨by decide +kernel, rfl⟩
theorem eX2_meeting_29 : xAt mX2_meeting 29 (.invokevirtual 59) 3 32 := ⟨by decide +kernel, rfl⟩
theorem eX2_meeting_32 : xAt mX2_meeting 32 (.aload_n 0) 1 33 := ⟨by decide +kernel, rfl⟩
theorem eX2_meeting_33 : xAt mX2_meeting 33 (.iload_n 2) 1 34 := ⟨by decide +kernel, rfl⟩
theorem eX2_meeting_34 : xAt mX2_meeting 34 (.invokevirtual 59) 3 37 := ⟨by decide +kernel, rfl⟩
theorem eX2_meeting_37 : xAt mX2_meeting 37 (.aload_n 0) 1 38 := ⟨by decide +kernel, rfl⟩
theorem eX2_meeting_38 : xAt mX2_meeting 38 (.iload_n 3) 1 39 := ⟨by decide +kernel, rfl⟩
theorem eX2_meeting_39 : xAt mX2_meeting 39 (.invokevirtual 59) 3 42 := ⟨by decide +kernel, rfl⟩
theorem eX2_meeting_42 : xAt mX2_meeting 42 (.aload_n 0) 1 43 := ⟨by decide +kernel, rfl⟩
theorem eX2_meeting_43 : xAt mX2_meeting 43 (.iload 4) 2 45 := ⟨by decide +kernel, rfl⟩
theorem eX2_meeting_45 : xAt mX2_meeting 45 (.invokevirtual 59) 3 48 := ⟨by decide +kernel, rfl⟩
theorem eX2_meeting_48 : xAt mX2_meeting 48 (.invokestatic 82) 3 51 := ⟨by decide +kernel, rfl⟩
theorem eX2_meeting_51 : xBr mX2_meeting 51 (.ifCond .ne) (5) 54 56 := ⟨by decide +kernel, rfl, by decide⟩
theorem eX2_meeting_54 : xAt mX2_meeting 54 (.iconst 0) 1 55 := ⟨by decide +kernel, rfl⟩
theorem eX2_meeting_55 : xAt mX2_meeting 55 (.ireturn) 1 56 := ⟨by decide +kernel, rfl⟩
theorem eX2_meeting_56 : xAt mX2_meeting 56 (.aload_n 0) 1 57 := ⟨by decide +kernel, rfl⟩
theorem eX2_meeting_57 : xAt mX2_meeting 57 (.iload_n 1) 1 58 := ⟨by decide +kernel, rfl⟩
theorem eX2_meeting_58 : xAt mX2_meeting 58 (.iload_n 2) 1 59 := ⟨by decide +kernel, rfl⟩
theorem eX2_meeting_59 : xAt mX2_meeting 59 (.iload_n 3) 1 60 := ⟨by decide +kernel, rfl⟩
theorem eX2_meeting_60 : xAt mX2_meeting 60 (.invokevirtual 86) 3 63 := ⟨by decide +kernel, rfl⟩
theorem eX2_meeting_63 : xAt mX2_meeting 63 (.istore 5) 2 65 := ⟨by decide +kernel, rfl⟩
theorem eX2_meeting_65 : xAt mX2_meeting 65 (.aload_n 0) 1 66 := ⟨by decide +kernel, rfl⟩
theorem eX2_meeting_66 : xAt mX2_meeting 66 (.iload_n 1) 1 67 := ⟨by decide +kernel, rfl⟩
theorem eX2_meeting_67 : xAt mX2_meeting 67 (.iload_n 2) 1 68 := ⟨by decide +kernel, rfl⟩
theorem eX2_meeting_68 : xAt mX2_meeting 68 (.iload 4) 2 70 := ⟨by decide +kernel, rfl⟩
theorem eX2_meeting_70 : xAt mX2_meeting 70 (.invokevirtual 86) 3 73 := ⟨by decide +kernel, rfl⟩
theorem eX2_meeting_73 : xAt mX2_meeting 73 (.istore 6) 2 75 := ⟨by decide +kernel, rfl⟩
theorem eX2_meeting_75 : xAt mX2_meeting 75 (.iload 5) 2 77 := ⟨by decide +kernel, rfl⟩
theorem eX2_meeting_77 : xBr mX2_meeting 77 (.ifCond .ne) (18) 80 95 := ⟨by decide +kernel, rfl, by decide⟩
theorem eX2_meeting_80 : xAt mX2_meeting 80 (.iload 6) 2 82 := ⟨by decide +kernel, rfl⟩
theorem eX2_meeting_82 : xBr mX2_meeting 82 (.ifCond .ne) (13) 85 95 := ⟨by decide +kernel, rfl, by decide⟩
theorem eX2_meeting_85 : xAt mX2_meeting 85 (.aload_n 0) 1 86 := ⟨by decide +kernel, rfl⟩
theorem eX2_meeting_86 : xAt mX2_meeting 86 (.iload_n 1) 1 87 := ⟨by decide +kernel, rfl⟩
theorem eX2_meeting_87 : xAt mX2_meeting 87 (.iload_n 2) 1 88 := ⟨by decide +kernel, rfl⟩
theorem eX2_meeting_88 : xAt mX2_meeting 88 (.iload_n 3) 1 89 := ⟨by decide +kernel, rfl⟩
theorem eX2_meeting_89 : xAt mX2_meeting 89 (.iload 4) 2 91 := ⟨by decide +kernel, rfl⟩
theorem eX2_meeting_91 : xAt mX2_meeting 91 (.invokevirtual 89) 3 94 := ⟨by decide +kernel, rfl⟩
theorem eX2_meeting_94 : xAt mX2_meeting 94 (.ireturn) 1 95 := ⟨by decide +kernel, rfl⟩
theorem eX2_meeting_95 : xAt mX2_meeting 95 (.iload 5) 2 97 := ⟨by decide +kernel, rfl⟩
theorem eX2_meeting_97 : xAt mX2_meeting 97 (.iload 6) 2 99 := ⟨by decide +kernel, rfl⟩
theorem eX2_meeting_99 : xAt mX2_meeting 99 (.imul) 1 100 := ⟨by decide +kernel, rfl⟩
theorem eX2_meeting_100 : xBr mX2_meeting 100 (.ifCond .le) (5) 103 105 := ⟨by decide +kernel, rfl, by decide⟩
theorem eX2_meeting_103 : xAt mX2_meeting 103 (.iconst 0) 1 104 := ⟨by decide +kernel, rfl⟩
theorem eX2_meeting_104 : xAt mX2_meeting 104 (.ireturn) 1 105 := ⟨by decide +kernel, rfl⟩
theorem eX2_meeting_105 : xAt mX2_meeting 105 (.aload_n 0) 1 106 := ⟨by decide +kernel, rfl⟩
theorem eX2_meeting_106 : xAt mX2_meeting 106 (.iload_n 3) 1 107 := ⟨by decide +kernel, rfl⟩
theorem eX2_meeting_107 : xAt mX2_meeting 107 (.iload 4) 2 109 := ⟨by decide +kernel, rfl⟩
theorem eX2_meeting_109 : xAt mX2_meeting 109 (.iload_n 1) 1 110 := ⟨by decide +kernel, rfl⟩
theorem eX2_meeting_110 : xAt mX2_meeting 110 (.invokevirtual 86) 3 113 := ⟨by decide +kernel, rfl⟩
theorem eX2_meeting_113 : xAt mX2_meeting 113 (.istore 7) 2 115 := ⟨by decide +kernel, rfl⟩
theorem eX2_meeting_115 : xAt mX2_meeting 115 (.aload_n 0) 1 116 := ⟨by decide +kernel, rfl⟩
theorem eX2_meeting_116 : xAt mX2_meeting 116 (.iload_n 3) 1 117 := ⟨by decide +kernel, rfl⟩
theorem eX2_meeting_117 : xAt mX2_meeting 117 (.iload 4) 2 119 := ⟨by decide +kernel, rfl⟩
theorem eX2_meeting_119 : xAt mX2_meeting 119 (.iload_n 2) 1 120 := ⟨by decide +kernel, rfl⟩
theorem eX2_meeting_120 : xAt mX2_meeting 120 (.invokevirtual 86) 3 123 := ⟨by decide +kernel, rfl⟩
theorem eX2_meeting_123 : xAt mX2_meeting 123 (.istore 8) 2 125 := ⟨by decide +kernel, rfl⟩
theorem eX2_meeting_125 : xAt mX2_meeting 125 (.iload 7) 2 127 := ⟨by decide +kernel, rfl⟩
theorem eX2_meeting_127 : xAt mX2_meeting 127 (.iload 8) 2 129 := ⟨by decide +kernel, rfl⟩
theorem eX2_meeting_129 : xAt mX2_meeting 129 (.imul) 1 130 := ⟨by decide +kernel, rfl⟩
theorem eX2_meeting_130 : xBr mX2_meeting 130 (.ifCond .le) (5) 133 135 := ⟨by decide +kernel, rfl, by decide⟩
theorem eX2_meeting_133 : xAt mX2_meeting 133 (.iconst 0) 1 134 := ⟨by decide +kernel, rfl⟩
theorem eX2_meeting_134 : xAt mX2_meeting 134 (.ireturn) 1 135 := ⟨by decide +kernel, rfl⟩
theorem eX2_meeting_135 : xAt mX2_meeting 135 (.iload 5) 2 137 := ⟨by decide +kernel, rfl⟩
theorem eX2_meeting_137 : xAt mX2_meeting 137 (.iload 6) 2 139 := ⟨by decide +kernel, rfl⟩
theorem eX2_meeting_139 : xAt mX2_meeting 139 (.imul) 1 140 := ⟨by decide +kernel, rfl⟩
theorem eX2_meeting_140 : xBr mX2_meeting 140 (.ifCond .ge) (15) 143 155 := ⟨by decide +kernel, rfl, by decide⟩
theorem eX2_meeting_143 : xAt mX2_meeting 143 (.iload 7) 2 145 := ⟨by decide +kernel, rfl⟩
theorem eX2_meeting_145 : xAt mX2_meeting 145 (.iload 8) 2 147 := ⟨by decide +kernel, rfl⟩
theorem eX2_meeting_147 : xAt mX2_meeting 147 (.imul) 1 148 := ⟨by decide +kernel, rfl⟩
theorem eX2_meeting_148 : xBr mX2_meeting 148 (.ifCond .ge) (7) 151 155 := ⟨by decide +kernel, rfl, by decide⟩
theorem eX2_meeting_151 : xAt mX2_meeting 151 (.iconst 1) 1 152 := ⟨by decide +kernel, rfl⟩
theorem eX2_meeting_152 : xBr mX2_meeting 152 .goto (4) 155 156 := ⟨by decide +kernel, rfl, by decide⟩
theorem eX2_meeting_155 : xAt mX2_meeting 155 (.iconst 2) 1 156 := ⟨by decide +kernel, rfl⟩
theorem eX2_meeting_156 : xAt mX2_meeting 156 (.ireturn) 1 157 := ⟨by decide +kernel, rfl⟩
theorem eX2_spansMeet_0 : xAt mX2_spansMeet 0 (.dload_n 0) 1 1 := ⟨by decide +kernel, rfl⟩
theorem eX2_spansMeet_1 : xAt mX2_spansMeet 1 (.dload_n 2) 1 2 := ⟨by decide +kernel, rfl⟩
theorem eX2_spansMeet_2 : xAt mX2_spansMeet 2 (.dcmp .g) 1 3 := ⟨by decide +kernel, rfl⟩
theorem eX2_spansMeet_3 : xBr mX2_spansMeet 3 (.ifCond .ge) (7) 6 10 := ⟨by decide +kernel, rfl, by decide⟩
theorem eX2_spansMeet_6 : xAt mX2_spansMeet 6 (.dload_n 0) 1 7 := ⟨by decide +kernel, rfl⟩
theorem eX2_spansMeet_7 : xBr mX2_spansMeet 7 .goto (4) 10 11 := ⟨by decide +kernel, rfl, by decide⟩
theorem eX2_spansMeet_10 : xAt mX2_spansMeet 10 (.dload_n 2) 1 11 := ⟨by decide +kernel, rfl⟩
theorem eX2_spansMeet_11 : xAt mX2_spansMeet 11 (.dstore 8) 2 13 := ⟨by decide +kernel, rfl⟩
theorem eX2_spansMeet_13 : xAt mX2_spansMeet 13 (.dload_n 0) 1 14 := ⟨by decide +kernel, rfl⟩
theorem eX2_spansMeet_14 : xAt mX2_spansMeet 14 (.dload_n 2) 1 15 := ⟨by decide +kernel, rfl⟩
theorem eX2_spansMeet_15 : xAt mX2_spansMeet 15 (.dcmp .g) 1 16 := ⟨by decide +kernel, rfl⟩
theorem eX2_spansMeet_16 : xBr mX2_spansMeet 16 (.ifCond .ge) (7) 19 23 := ⟨by decide +kernel, rfl, by decide⟩
theorem eX2_spansMeet_19 : xAt mX2_spansMeet 19 (.dload_n 2) 1 20 := ⟨by decide +kernel, rfl⟩
theorem eX2_spansMeet_20 : xBr mX2_spansMeet 20 .goto (4) 23 24 := ⟨by decide +kernel, rfl, by decide⟩
theorem eX2_spansMeet_23 : xAt mX2_spansMeet 23 (.dload_n 0) 1 24 := ⟨by decide +kernel, rfl⟩
theorem eX2_spansMeet_24 : xAt mX2_spansMeet 24 (.dstore 10) 2 26 := ⟨by decide +kernel, rfl⟩
theorem eX2_spansMeet_26 : xAt mX2_spansMeet 26 (.dload 4) 2 28 := ⟨by decide +kernel, rfl⟩
theorem eX2_spansMeet_28 : xAt mX2_spansMeet 28 (.dload 6) 2 30 := ⟨by decide +kernel, rfl⟩
theorem eX2_spansMeet_30 : xAt mX2_spansMeet 30 (.dcmp .g) 1 31 := ⟨by decide +kernel, rfl⟩
theorem eX2_spansMeet_31 : xBr mX2_spansMeet 31 (.ifCond .ge) (8) 34 39 := ⟨by decide +kernel, rfl, by decide⟩
theorem eX2_spansMeet_34 : xAt mX2_spansMeet 34 (.dload 4) 2 36 := ⟨by decide +kernel, rfl⟩
theorem eX2_spansMeet_36 : xBr mX2_spansMeet 36 .goto (5) 39 41 := ⟨by decide +kernel, rfl, by decide⟩
theorem eX2_spansMeet_39 : xAt mX2_spansMeet 39 (.dload 6) 2 41 := ⟨by decide +kernel, rfl⟩
theorem eX2_spansMeet_41 : xAt mX2_spansMeet 41 (.dstore 12) 2 43 := ⟨by decide +kernel, rfl⟩
theorem eX2_spansMeet_43 : xAt mX2_spansMeet 43 (.dload 4) 2 45 := ⟨by decide +kernel, rfl⟩
theorem eX2_spansMeet_45 : xAt mX2_spansMeet 45 (.dload 6) 2 47 := ⟨by decide +kernel, rfl⟩
theorem eX2_spansMeet_47 : xAt mX2_spansMeet 47 (.dcmp .g) 1 48 := ⟨by decide +kernel, rfl⟩
theorem eX2_spansMeet_48 : xBr mX2_spansMeet 48 (.ifCond .ge) (8) 51 56 := ⟨by decide +kernel, rfl, by decide⟩
theorem eX2_spansMeet_51 : xAt mX2_spansMeet 51 (.dload 6) 2 53 := ⟨by decide +kernel, rfl⟩
theorem eX2_spansMeet_53 : xBr mX2_spansMeet 53 .goto (5) 56 58 := ⟨by decide +kernel, rfl, by decide⟩
theorem eX2_spansMeet_56 : xAt mX2_spansMeet 56 (.dload 4) 2 58 := ⟨by decide +kernel, rfl⟩
theorem eX2_spansMeet_58 : xAt mX2_spansMeet 58 (.dstore 14) 2 60 := ⟨by decide +kernel, rfl⟩
theorem eX2_spansMeet_60 : xAt mX2_spansMeet 60 (.dload 8) 2 62 := ⟨by decide +kernel, rfl⟩
theorem eX2_spansMeet_62 : xAt mX2_spansMeet 62 (.dload 14) 2 64 := ⟨by decide +kernel, rfl⟩
theorem eX2_spansMeet_64 : xAt mX2_spansMeet 64 (.dcmp .g) 1 65 := ⟨by decide +kernel, rfl⟩
theorem eX2_spansMeet_65 : xBr mX2_spansMeet 65 (.ifCond .gt) (15) 68 80 := ⟨by decide +kernel, rfl, by decide⟩
theorem eX2_spansMeet_68 : xAt mX2_spansMeet 68 (.dload 12) 2 70 := ⟨by decide +kernel, rfl⟩
theorem eX2_spansMeet_70 : xAt mX2_spansMeet 70 (.dload 10) 2 72 := ⟨by decide +kernel, rfl⟩
theorem eX2_spansMeet_72 : xAt mX2_spansMeet 72 (.dcmp .g) 1 73 := ⟨by decide +kernel, rfl⟩
theorem eX2_spansMeet_73 : xBr mX2_spansMeet 73 (.ifCond .gt) (7) 76 80 := ⟨by decide +kernel, rfl, by decide⟩
theorem eX2_spansMeet_76 : xAt mX2_spansMeet 76 (.iconst 1) 1 77 := ⟨by decide +kernel, rfl⟩
theorem eX2_spansMeet_77 : xBr mX2_spansMeet 77 .goto (4) 80 81 := ⟨by decide +kernel, rfl, by decide⟩
theorem eX2_spansMeet_80 : xAt mX2_spansMeet 80 (.iconst 0) 1 81 := ⟨by decide +kernel, rfl⟩
theorem eX2_spansMeet_81 : xAt mX2_spansMeet 81 (.ireturn) 1 82 := ⟨by decide +kernel, rfl⟩
theorem eX2_meetingInLine_0 : xAt mX2_meetingInLine 0 (.aload_n 0) 1 1 := ⟨by decide +kernel, rfl⟩
theorem eX2_meetingInLine_1 : xAt mX2_meetingInLine 1 (.iload_n 1) 1 2 := ⟨by decide +kernel, rfl⟩
theorem eX2_meetingInLine_2 : xAt mX2_meetingInLine 2 (.iload_n 2) 1 3 := ⟨by decide +kernel, rfl⟩
theorem eX2_meetingInLine_3 : xAt mX2_meetingInLine 3 (.invokevirtual 93) 3 6 := ⟨by decide +kernel, rfl⟩
theorem eX2_meetingInLine_6 : xBr mX2_meetingInLine 6 (.ifCond .eq) (7) 9 13 := ⟨by decide +kernel, rfl, by decide⟩
theorem eX2_meetingInLine_9 : xAt mX2_meetingInLine 9 (.iload_n 1) 1 10 := ⟨by decide +kernel, rfl⟩
theorem eX2_meetingInLine_10 : xBr mX2_meetingInLine 10 .goto (4) 13 14 := ⟨by decide +kernel, rfl, by decide⟩
theorem eX2_meetingInLine_13 : xAt mX2_meetingInLine 13 (.iload_n 2) 1 14 := ⟨by decide +kernel, rfl⟩
theorem eX2_meetingInLine_14 : xAt mX2_meetingInLine 14 (.istore 5) 2 16 := ⟨by decide +kernel, rfl⟩
theorem eX2_meetingInLine_16 : xAt mX2_meetingInLine 16 (.aload_n 0) 1 17 := ⟨by decide +kernel, rfl⟩
theorem eX2_meetingInLine_17 : xAt mX2_meetingInLine 17 (.iload_n 1) 1 18 := ⟨by decide +kernel, rfl⟩
theorem eX2_meetingInLine_18 : xAt mX2_meetingInLine 18 (.iload_n 2) 1 19 := ⟨by decide +kernel, rfl⟩
theorem eX2_meetingInLine_19 : xAt mX2_meetingInLine 19 (.invokevirtual 93) 3 22 := ⟨by decide +kernel, rfl⟩
theorem eX2_meetingInLine_22 : xBr mX2_meetingInLine 22 (.ifCond .eq) (7) 25 29 := ⟨by decide +kernel, rfl, by decide⟩
theorem eX2_meetingInLine_25 : xAt mX2_meetingInLine 25 (.iload_n 2) 1 26 := ⟨by decide +kernel, rfl⟩
theorem eX2_meetingInLine_26 : xBr mX2_meetingInLine 26 .goto (4) 29 30 := ⟨by decide +kernel, rfl, by decide⟩
theorem eX2_meetingInLine_29 : xAt mX2_meetingInLine 29 (.iload_n 1) 1 30 := ⟨by decide +kernel, rfl⟩
theorem eX2_meetingInLine_30 : xAt mX2_meetingInLine 30 (.istore 6) 2 32 := ⟨by decide +kernel, rfl⟩
theorem eX2_meetingInLine_32 : xAt mX2_meetingInLine 32 (.aload_n 0) 1 33 := ⟨by decide +kernel, rfl⟩
theorem eX2_meetingInLine_33 : xAt mX2_meetingInLine 33 (.iload_n 3) 1 34 := ⟨by decide +kernel, rfl⟩
theorem eX2_meetingInLine_34 : xAt mX2_meetingInLine 34 (.iload 4) 2 36 := ⟨by decide +kernel, rfl⟩
theorem eX2_meetingInLine_36 : xAt mX2_meetingInLine 36 (.invokevirtual 93) 3 39 := ⟨by decide +kernel, rfl⟩
theorem eX2_meetingInLine_39 : xBr mX2_meetingInLine 39 (.ifCond .eq) (7) 42 46 := ⟨by decide +kernel, rfl, by decide⟩
theorem eX2_meetingInLine_42 : xAt mX2_meetingInLine 42 (.iload_n 3) 1 43 := ⟨by decide +kernel, rfl⟩
theorem eX2_meetingInLine_43 : xBr mX2_meetingInLine 43 .goto (5) 46 48 := ⟨by decide +kernel, rfl, by decide⟩
theorem eX2_meetingInLine_46 : xAt mX2_meetingInLine 46 (.iload 4) 2 48 := ⟨by decide +kernel, rfl⟩
theorem eX2_meetingInLine_48 : xAt mX2_meetingInLine 48 (.istore 7) 2 50 := ⟨by decide +kernel, rfl⟩
theorem eX2_meetingInLine_50 : xAt mX2_meetingInLine 50 (.aload_n 0) 1 51 := ⟨by decide +kernel, rfl⟩
theorem eX2_meetingInLine_51 : xAt mX2_meetingInLine 51 (.iload_n 3) 1 52 := ⟨by decide +kernel, rfl⟩
theorem eX2_meetingInLine_52 : xAt mX2_meetingInLine 52 (.iload 4) 2 54 := ⟨by decide +kernel, rfl⟩
theorem eX2_meetingInLine_54 : xAt mX2_meetingInLine 54 (.invokevirtual 93) 3 57 := ⟨by decide +kernel, rfl⟩
theorem eX2_meetingInLine_57 : xBr mX2_meetingInLine 57 (.ifCond .eq) (8) 60 65 := ⟨by decide +kernel, rfl, by decide⟩
theorem eX2_meetingInLine_60 : xAt mX2_meetingInLine 60 (.iload 4) 2 62 := ⟨by decide +kernel, rfl⟩
theorem eX2_meetingInLine_62 : xBr mX2_meetingInLine 62 .goto (4) 65 66 := ⟨by decide +kernel, rfl, by decide⟩
theorem eX2_meetingInLine_65 : xAt mX2_meetingInLine 65 (.iload_n 3) 1 66 := ⟨by decide +kernel, rfl⟩
theorem eX2_meetingInLine_66 : xAt mX2_meetingInLine 66 (.istore 8) 2 68 := ⟨by decide +kernel, rfl⟩
theorem eX2_meetingInLine_68 : xAt mX2_meetingInLine 68 (.aload_n 0) 1 69 := ⟨by decide +kernel, rfl⟩
theorem eX2_meetingInLine_69 : xAt mX2_meetingInLine 69 (.iload 5) 2 71 := ⟨by decide +kernel, rfl⟩
theorem eX2_meetingInLine_71 : xAt mX2_meetingInLine 71 (.iload 7) 2 73 := ⟨by decide +kernel, rfl⟩
theorem eX2_meetingInLine_73 : xAt mX2_meetingInLine 73 (.invokevirtual 93) 3 76 := ⟨by decide +kernel, rfl⟩
theorem eX2_meetingInLine_76 : xBr mX2_meetingInLine 76 (.ifCond .eq) (8) 79 84 := ⟨by decide +kernel, rfl, by decide⟩
theorem eX2_meetingInLine_79 : xAt mX2_meetingInLine 79 (.iload 7) 2 81 := ⟨by decide +kernel, rfl⟩
theorem eX2_meetingInLine_81 : xBr mX2_meetingInLine 81 .goto (5) 84 86 := ⟨by decide +kernel, rfl, by decide⟩
theorem eX2_meetingInLine_84 : xAt mX2_meetingInLine 84 (.iload 5) 2 86 := ⟨by decide +kernel, rfl⟩
theorem eX2_meetingInLine_86 : xAt mX2_meetingInLine 86 (.istore 9) 2 88 := ⟨by decide +kernel, rfl⟩
theorem eX2_meetingInLine_88 : xAt mX2_meetingInLine 88 (.aload_n 0) 1 89 := ⟨by decide +kernel, rfl⟩
theorem eX2_meetingInLine_89 : xAt mX2_meetingInLine 89 (.iload 6) 2 91 := ⟨by decide +kernel, rfl⟩
theorem eX2_meetingInLine_91 : xAt mX2_meetingInLine 91 (.iload 8) 2 93 := ⟨by decide +kernel, rfl⟩
theorem eX2_meetingInLine_93 : xAt mX2_meetingInLine 93 (.invokevirtual 93) 3 96 := ⟨by decide +kernel, rfl⟩
theorem eX2_meetingInLine_96 : xBr mX2_meetingInLine 96 (.ifCond .eq) (8) 99 104 := ⟨by decide +kernel, rfl, by decide⟩
theorem eX2_meetingInLine_99 : xAt mX2_meetingInLine 99 (.iload 6) 2 101 := ⟨by decide +kernel, rfl⟩
theorem eX2_meetingInLine_101 : xBr mX2_meetingInLine 101 .goto (5) 104 106 := ⟨by decide +kernel, rfl, by decide⟩
theorem eX2_meetingInLine_104 : xAt mX2_meetingInLine 104 (.iload 8) 2 106 := ⟨by decide +kernel, rfl⟩
theorem eX2_meetingInLine_106 : xAt mX2_meetingInLine 106 (.istore 10) 2 108 := ⟨by decide +kernel, rfl⟩
theorem eX2_meetingInLine_108 : xAt mX2_meetingInLine 108 (.aload_n 0) 1 109 := ⟨by decide +kernel, rfl⟩
theorem eX2_meetingInLine_109 : xAt mX2_meetingInLine 109 (.iload 9) 2 111 := ⟨by decide +kernel, rfl⟩
theorem eX2_meetingInLine_111 : xAt mX2_meetingInLine 111 (.iload 10) 2 113 := ⟨by decide +kernel, rfl⟩
theorem eX2_meetingInLine_113 : xAt mX2_meetingInLine 113 (.invokevirtual 93) 3 116 := ⟨by decide +kernel, rfl⟩
theorem eX2_meetingInLine_116 : xBr mX2_meetingInLine 116 (.ifCond .eq) (5) 119 121 := ⟨by decide +kernel, rfl, by decide⟩
theorem eX2_meetingInLine_119 : xAt mX2_meetingInLine 119 (.iconst 3) 1 120 := ⟨by decide +kernel, rfl⟩
theorem eX2_meetingInLine_120 : xAt mX2_meetingInLine 120 (.ireturn) 1 121 := ⟨by decide +kernel, rfl⟩
theorem eX2_meetingInLine_121 : xAt mX2_meetingInLine 121 (.aload_n 0) 1 122 := ⟨by decide +kernel, rfl⟩
theorem eX2_meetingInLine_122 : xAt mX2_meetingInLine 122 (.iload 10) 2 124 := ⟨by decide +kernel, rfl⟩
theorem eX2_meetingInLine_124 : xAt mX2_meetingInLine 124 (.iload 9) 2 126 := ⟨by decide +kernel, rfl⟩
theorem eX2_meetingInLine_126 : xAt mX2_meetingInLine 126 (.invokevirtual 93) 3 129 := ⟨by decide +kernel, rfl⟩
theorem eX2_meetingInLine_129 : xBr mX2_meetingInLine 129 (.ifCond .eq) (7) 132 136 := ⟨by decide +kernel, rfl, by decide⟩
theorem eX2_meetingInLine_132 : xAt mX2_meetingInLine 132 (.iconst 0) 1 133 := ⟨by decide +kernel, rfl⟩
theorem eX2_meetingInLine_133 : xBr mX2_meetingInLine 133 .goto (4) 136 137 := ⟨by decide +kernel, rfl, by decide⟩
theorem eX2_meetingInLine_136 : xAt mX2_meetingInLine 136 (.iconst 2) 1 137 := ⟨by decide +kernel, rfl⟩
theorem eX2_meetingInLine_137 : xAt mX2_meetingInLine 137 (.ireturn) 1 138 := ⟨by decide +kernel, rfl⟩
theorem eX2_isOn_0 : xAt mX2_isOn 0 (.aload_n 0) 1 1 := ⟨by decide +kernel, rfl⟩
theorem eX2_isOn_1 : xAt mX2_isOn 1 (.iload_n 1) 1 2 := ⟨by decide +kernel, rfl⟩
theorem eX2_isOn_2 : xAt mX2_isOn 2 (.invokevirtual 55) 3 5 := ⟨by decide +kernel, rfl⟩
theorem eX2_isOn_5 : xAt mX2_isOn 5 (.aload_n 0) 1 6 := ⟨by decide +kernel, rfl⟩
theorem eX2_isOn_6 : xAt mX2_isOn 6 (.iload_n 1) 1 7 := ⟨by decide +kernel, rfl⟩
theorem eX2_isOn_7 : xAt mX2_isOn 7 (.invokevirtual 55) 3 10 := ⟨by decide +kernel, rfl⟩
theorem eX2_isOn_10 : xAt mX2_isOn 10 (.aload_n 0) 1 11 := ⟨by decide +kernel, rfl⟩
theorem eX2_isOn_11 : xAt mX2_isOn 11 (.iload_n 2) 1 12 := ⟨by decide +kernel, rfl⟩
theorem eX2_isOn_12 : xAt mX2_isOn 12 (.invokevirtual 55) 3 15 := ⟨by decide +kernel, rfl⟩
theorem eX2_isOn_15 : xAt mX2_isOn 15 (.aload_n 0) 1 16 := ⟨by decide +kernel, rfl⟩
theorem eX2_isOn_16 : xAt mX2_isOn 16 (.iload_n 3) 1 17 := ⟨by decide +kernel, rfl⟩
theorem eX2_isOn_17 : xAt mX2_isOn 17 (.invokevirtual 55) 3 20 := ⟨by decide +kernel, rfl⟩
theorem eX2_isOn_20 : xAt mX2_isOn 20 (.invokestatic 82) 3 23 := ⟨by decide +kernel, rfl⟩
theorem eX2_isOn_23 : xBr mX2_isOn 23 (.ifCond .eq) (43) 26 66 := ⟨by decide +kernel, rfl, by decide⟩
theorem eX2_isOn_26 : xAt mX2_isOn 26 (.aload_n 0) 1 27 := ⟨by decide +kernel, rfl⟩
theorem eX2_isOn_27 : xAt mX2_isOn 27 (.iload_n 1) 1 28 := ⟨by decide +kernel, rfl⟩
theorem eX2_isOn_28 : xAt mX2_isOn 28 (.invokevirtual 59) 3 31 := ⟨by decide +kernel, rfl⟩
theorem eX2_isOn_31 : xAt mX2_isOn 31 (.aload_n 0) 1 32 := ⟨by decide +kernel, rfl⟩
theorem eX2_isOn_32 : xAt mX2_isOn 32 (.iload_n 1) 1 33 := ⟨by decide +kernel, rfl⟩
theorem eX2_isOn_33 : xAt mX2_isOn 33 (.invokevirtual 59) 3 36 := ⟨by decide +kernel, rfl⟩
theorem eX2_isOn_36 : xAt mX2_isOn 36 (.aload_n 0) 1 37 := ⟨by decide +kernel, rfl⟩
theorem eX2_isOn_37 : xAt mX2_isOn 37 (.iload_n 2) 1 38 := ⟨by decide +kernel, rfl⟩
theorem eX2_isOn_38 : xAt mX2_isOn 38 (.invokevirtual 59) 3 41 := ⟨by decide +kernel, rfl⟩
theorem eX2_isOn_41 : xAt mX2_isOn 41 (.aload_n 0) 1 42 := ⟨by decide +kernel, rfl⟩
theorem eX2_isOn_42 : xAt mX2_isOn 42 (.iload_n 3) 1 43 := ⟨by decide +kernel, rfl⟩
theorem eX2_isOn_43 : xAt mX2_isOn 43 (.invokevirtual 59) 3 46 := ⟨by decide +kernel, rfl⟩
theorem eX2_isOn_46 : xAt mX2_isOn 46 (.invokestatic 82) 3 49 := ⟨by decide +kernel, rfl⟩
theorem eX2_isOn_49 : xBr mX2_isOn 49 (.ifCond .eq) (17) 52 66 := ⟨by decide +kernel, rfl, by decide⟩
theorem eX2_isOn_52 : xAt mX2_isOn 52 (.aload_n 0) 1 53 := ⟨by decide +kernel, rfl⟩
theorem eX2_isOn_53 : xAt mX2_isOn 53 (.iload_n 2) 1 54 := ⟨by decide +kernel, rfl⟩
theorem eX2_isOn_54 : xAt mX2_isOn 54 (.iload_n 3) 1 55 := ⟨by decide +kernel, rfl⟩
theorem eX2_isOn_55 : xAt mX2_isOn 55 (.iload_n 1) 1 56 := ⟨by decide +kernel, rfl⟩
theorem eX2_isOn_56 : xAt mX2_isOn 56 (.invokevirtual 86) 3 59 := ⟨by decide +kernel, rfl⟩
theorem eX2_isOn_59 : xBr mX2_isOn 59 (.ifCond .ne) (7) 62 66 := ⟨by decide +kernel, rfl, by decide⟩
theorem eX2_isOn_62 : xAt mX2_isOn 62 (.iconst 1) 1 63 := ⟨by decide +kernel, rfl⟩
theorem eX2_isOn_63 : xBr mX2_isOn 63 .goto (4) 66 67 := ⟨by decide +kernel, rfl, by decide⟩
theorem eX2_isOn_66 : xAt mX2_isOn 66 (.iconst 0) 1 67 := ⟨by decide +kernel, rfl⟩
theorem eX2_isOn_67 : xAt mX2_isOn 67 (.ireturn) 1 68 := ⟨by decide +kernel, rfl⟩
theorem eX2_nearestToLoose_0 : xAt mX2_nearestToLoose 0 (.iconst (-1)) 1 1 := ⟨by decide +kernel, rfl⟩
theorem eX2_nearestToLoose_1 : xAt mX2_nearestToLoose 1 (.istore_n 1) 1 2 := ⟨by decide +kernel, rfl⟩
theorem eX2_nearestToLoose_2 : xAt mX2_nearestToLoose 2 (.dconst 0) 1 3 := ⟨by decide +kernel, rfl⟩
theorem eX2_nearestToLoose_3 : xAt mX2_nearestToLoose 3 (.dstore_n 2) 1 4 := ⟨by decide +kernel, rfl⟩
theorem eX2_nearestToLoose_4 : xAt mX2_nearestToLoose 4 (.iconst 0) 1 5 := ⟨by decide +kernel, rfl⟩
theorem eX2_nearestToLoose_5 : xAt mX2_nearestToLoose 5 (.istore 4) 2 7 := ⟨by decide +kernel, rfl⟩
theorem eX2_nearestToLoose_7 : xAt mX2_nearestToLoose 7 (.iload 4) 2 9 := ⟨by decide +kernel, rfl⟩
theorem eX2_nearestToLoose_9 : xAt mX2_nearestToLoose 9 (.aload_n 0) 1 10 := ⟨by decide +kernel, rfl⟩
theorem eX2_nearestToLoose_10 : xAt mX2_nearestToLoose 10 (.getfield 29) 3 13 := ⟨by decide +kernel, rfl⟩
theorem eX2_nearestToLoose_13 : xBr mX2_nearestToLoose 13 (.if_icmp .ge) (105) 16 118 := ⟨by decide +kernel, rfl, by decide⟩
theorem eX2_nearestToLoose_16 : xAt mX2_nearestToLoose 16 (.aload_n 0) 1 17 := ⟨by decide +kernel, rfl⟩
theorem eX2_nearestToLoose_17 : xAt mX2_nearestToLoose 17 (.iload 4) 2 19 := ⟨by decide +kernel, rfl⟩
theorem eX2_nearestToLoose_19 : xAt mX2_nearestToLoose 19 (.invokevirtual 55) 3 22 := ⟨by decide +kernel, rfl⟩
theorem eX2_nearestToLoose_22 : xAt mX2_nearestToLoose 22 (.aload_n 0) 1 23 := ⟨by decide +kernel, rfl⟩
theorem eX2_nearestToLoose_23 : xAt mX2_nearestToLoose 23 (.sipush 200) 3 26 := ⟨by decide +kernel, rfl⟩
theorem eX2_nearestToLoose_26 : xAt mX2_nearestToLoose 26 (.invokevirtual 55) 3 29 := ⟨by decide +kernel, rfl⟩
theorem eX2_nearestToLoose_29 : xAt mX2_nearestToLoose 29 (.dsub) 1 30 := ⟨by decide +kernel, rfl⟩
theorem eX2_nearestToLoose_30 : xAt mX2_nearestToLoose 30 (.dstore 5) 2 32 := ⟨by decide +kernel, rfl⟩
theorem eX2_nearestToLoose_32 : xAt mX2_nearestToLoose 32 (.aload_n 0) 1 33 := ⟨by decide +kernel, rfl⟩
theorem eX2_nearestToLoose_33 : xAt mX2_nearestToLoose 33 (.iload 4) 2 35 := ⟨by decide +kernel, rfl⟩
theorem eX2_nearestToLoose_35 : xAt mX2_nearestToLoose 35 (.invokevirtual 59) 3 38 := ⟨by decide +kernel, rfl⟩
theorem eX2_nearestToLoose_38 : xAt mX2_nearestToLoose 38 (.aload_n 0) 1 39 := ⟨by decide +kernel, rfl⟩
theorem eX2_nearestToLoose_39 : xAt mX2_nearestToLoose 39 (.sipush 200) 3 42 := ⟨by decide +kernel, rfl⟩
theorem eX2_nearestToLoose_42 : xAt mX2_nearestToLoose 42 (.invokevirtual 59) 3 45 := ⟨by decide +kernel, rfl⟩
theorem eX2_nearestToLoose_45 : xAt mX2_nearestToLoose 45 (.dsub) 1 46 := ⟨by decide +kernel, rfl⟩
theorem eX2_nearestToLoose_46 : xAt mX2_nearestToLoose 46 (.dstore 7) 2 48 := ⟨by decide +kernel, rfl⟩
theorem eX2_nearestToLoose_48 : xAt mX2_nearestToLoose 48 (.dload 5) 2 50 := ⟨by decide +kernel, rfl⟩
theorem eX2_nearestToLoose_50 : xAt mX2_nearestToLoose 50 (.dload 5) 2 52 := ⟨by decide +kernel, rfl⟩
theorem eX2_nearestToLoose_52 : xAt mX2_nearestToLoose 52 (.dmul) 1 53 := ⟨by decide +kernel, rfl⟩
theorem eX2_nearestToLoose_53 : xAt mX2_nearestToLoose 53 (.dload 7) 2 55 := ⟨by decide +kernel, rfl⟩
theorem eX2_nearestToLoose_55 : xAt mX2_nearestToLoose 55 (.dload 7) 2 57 := ⟨by decide +kernel, rfl⟩
theorem eX2_nearestToLoose_57 : xAt mX2_nearestToLoose 57 (.dmul) 1 58 := ⟨by decide +kernel, rfl⟩
theorem eX2_nearestToLoose_58 : xAt mX2_nearestToLoose 58 (.dadd) 1 59 := ⟨by decide +kernel, rfl⟩
theorem eX2_nearestToLoose_59 : xAt mX2_nearestToLoose 59 (.dstore 9) 2 61 := ⟨by decide +kernel, rfl⟩
theorem eX2_nearestToLoose_61 : xAt mX2_nearestToLoose 61 (.iload_n 1) 1 62 := ⟨by decide +kernel, rfl⟩
theorem eX2_nearestToLoose_62 : xAt mX2_nearestToLoose 62 (.iconst (-1)) 1 63 := ⟨by decide +kernel, rfl⟩
theorem eX2_nearestToLoose_63 : xBr mX2_nearestToLoose 63 (.if_icmp .eq) (20) 66 83 := ⟨by decide +kernel, rfl, by decide⟩
theorem eX2_nearestToLoose_66 : xAt mX2_nearestToLoose 66 (.dload 9) 2 68 := ⟨by decide +kernel, rfl⟩
theorem eX2_nearestToLoose_68 : xAt mX2_nearestToLoose 68 (.dload_n 2) 1 69 := ⟨by decide +kernel, rfl⟩
theorem eX2_nearestToLoose_69 : xAt mX2_nearestToLoose 69 (.dsub) 1 70 := ⟨by decide +kernel, rfl⟩
theorem eX2_nearestToLoose_70 : xAt mX2_nearestToLoose 70 (.dload_n 2) 1 71 := ⟨by decide +kernel, rfl⟩
theorem eX2_nearestToLoose_71 : xAt mX2_nearestToLoose 71 (.ldc2_w 97) 3 74 := ⟨by decide +kernel, rfl⟩
theorem eX2_nearestToLoose_74 : xAt mX2_nearestToLoose 74 (.ddiv) 1 75 := ⟨by decide +kernel, rfl⟩
theorem eX2_nearestToLoose_75 : xAt mX2_nearestToLoose 75 (.dcmp .l) 1 76 := ⟨by decide +kernel, rfl⟩
theorem eX2_nearestToLoose_76 : xBr mX2_nearestToLoose 76 (.ifCond .le) (7) 79 83 := ⟨by decide +kernel, rfl, by decide⟩
theorem eX2_nearestToLoose_79 : xAt mX2_nearestToLoose 79 (.iconst 1) 1 80 := ⟨by decide +kernel, rfl⟩
theorem eX2_nearestToLoose_80 : xBr mX2_nearestToLoose 80 .goto (4) 83 84 := ⟨by decide +kernel, rfl, by decide⟩
theorem eX2_nearestToLoose_83 : xAt mX2_nearestToLoose 83 (.iconst 0) 1 84 := ⟨by decide +kernel, rfl⟩
theorem eX2_nearestToLoose_84 : xAt mX2_nearestToLoose 84 (.istore 11) 2 86 := ⟨by decide +kernel, rfl⟩
theorem eX2_nearestToLoose_86 : xAt mX2_nearestToLoose 86 (.iload_n 1) 1 87 := ⟨by decide +kernel, rfl⟩
theorem eX2_nearestToLoose_87 : xAt mX2_nearestToLoose 87 (.iconst (-1)) 1 88 := ⟨by decide +kernel, rfl⟩
theorem eX2_nearestToLoose_88 : xBr mX2_nearestToLoose 88 (.if_icmp .eq) (18) 91 106 := ⟨by decide +kernel, rfl, by decide⟩
theorem eX2_nearestToLoose_91 : xAt mX2_nearestToLoose 91 (.iload 11) 2 93 := ⟨by decide +kernel, rfl⟩
theorem eX2_nearestToLoose_93 : xBr mX2_nearestToLoose 93 (.ifCond .ne) (19) 96 112 := ⟨by decide +kernel, rfl, by decide⟩
theorem eX2_nearestToLoose_96 : xAt mX2_nearestToLoose 96 (.aload_n 0) 1 97 := ⟨by decide +kernel, rfl⟩
theorem eX2_nearestToLoose_97 : xAt mX2_nearestToLoose 97 (.iload 4) 2 99 := ⟨by decide +kernel, rfl⟩
theorem eX2_nearestToLoose_99 : xAt mX2_nearestToLoose 99 (.iload_n 1) 1 100 := ⟨by decide +kernel, rfl⟩
theorem eX2_nearestToLoose_100 : xAt mX2_nearestToLoose 100 (.invokevirtual 99) 3 103 := ⟨by decide +kernel, rfl⟩
theorem eX2_nearestToLoose_103 : xBr mX2_nearestToLoose 103 (.ifCond .eq) (9) 106 112 := ⟨by decide +kernel, rfl, by decide⟩
theorem eX2_nearestToLoose_106 : xAt mX2_nearestToLoose 106 (.iload 4) 2 108 := ⟨by decide +kernel, rfl⟩
theorem eX2_nearestToLoose_108 : xAt mX2_nearestToLoose 108 (.istore_n 1) 1 109 := ⟨by decide +kernel, rfl⟩
theorem eX2_nearestToLoose_109 : xAt mX2_nearestToLoose 109 (.dload 9) 2 111 := ⟨by decide +kernel, rfl⟩
theorem eX2_nearestToLoose_111 : xAt mX2_nearestToLoose 111 (.dstore_n 2) 1 112 := ⟨by decide +kernel, rfl⟩
theorem eX2_nearestToLoose_112 : xAt mX2_nearestToLoose 112 (.iinc 4 1) 3 115 := ⟨by decide +kernel, rfl⟩
theorem eX2_nearestToLoose_115 : xBr mX2_nearestToLoose 115 .goto (-108) 118 7 := ⟨by decide +kernel, rfl, by decide⟩
theorem eX2_nearestToLoose_118 : xAt mX2_nearestToLoose 118 (.iload_n 1) 1 119 := ⟨by decide +kernel, rfl⟩
theorem eX2_nearestToLoose_119 : xAt mX2_nearestToLoose 119 (.ireturn) 1 120 := ⟨by decide +kernel, rfl⟩
theorem eX2_isNearer_0 : xAt mX2_isNearer 0 (.aload_n 0) 1 1 := ⟨by decide +kernel, rfl⟩
theorem eX2_isNearer_1 : xAt mX2_isNearer 1 (.getfield 25) 3 4 := ⟨by decide +kernel, rfl⟩
theorem eX2_isNearer_4 : xAt mX2_isNearer 4 (.invokevirtual 72) 3 7 := ⟨by decide +kernel, rfl⟩
theorem eX2_isNearer_7 : xAt mX2_isNearer 7 (.iconst 0) 1 8 := ⟨by decide +kernel, rfl⟩
theorem eX2_isNearer_8 : xAt mX2_isNearer 8 (.istore_n 3) 1 9 := ⟨by decide +kernel, rfl⟩
theorem eX2_isNearer_9 : xAt mX2_isNearer 9 (.iload_n 3) 1 10 := ⟨by decide +kernel, rfl⟩
theorem eX2_isNearer_10 : xAt mX2_isNearer 10 (.iconst 2) 1 11 := ⟨by decide +kernel, rfl⟩
theorem eX2_isNearer_11 : xBr mX2_isNearer 11 (.if_icmp .ge) (177) 14 188 := ⟨by decide +kernel, rfl, by decide⟩
theorem eX2_isNearer_14 : xAt mX2_isNearer 14 (.iconst 2) 1 15 := ⟨by decide +kernel, rfl⟩
theorem eX2_isNearer_15 : xAt mX2_isNearer 15 (.iload_n 1) 1 16 := ⟨by decide +kernel, rfl⟩
theorem eX2_isNearer_16 : xAt mX2_isNearer 16 (.imul) 1 17 := ⟨by decide +kernel, rfl⟩
theorem eX2_isNearer_17 : xAt mX2_isNearer 17 (.iload_n 3) 1 18 := ⟨by decide +kernel, rfl⟩
theorem eX2_isNearer_18 : xAt mX2_isNearer 18 (.iadd) 1 19 := ⟨by decide +kernel, rfl⟩
theorem eX2_isNearer_19 : xAt mX2_isNearer 19 (.iconst 4) 1 20 := ⟨by decide +kernel, rfl⟩
theorem eX2_isNearer_20 : xAt mX2_isNearer 20 (.imul) 1 21 := ⟨by decide +kernel, rfl⟩
theorem eX2_isNearer_21 : xAt mX2_isNearer 21 (.istore 4) 2 23 := ⟨by decide +kernel, rfl⟩
theorem eX2_isNearer_23 : xAt mX2_isNearer 23 (.iconst 2) 1 24 := ⟨by decide +kernel, rfl⟩
theorem eX2_isNearer_24 : xAt mX2_isNearer 24 (.iload_n 2) 1 25 := ⟨by decide +kernel, rfl⟩
theorem eX2_isNearer_25 : xAt mX2_isNearer 25 (.imul) 1 26 := ⟨by decide +kernel, rfl⟩
theorem eX2_isNearer_26 : xAt mX2_isNearer 26 (.iload_n 3) 1 27 := ⟨by decide +kernel, rfl⟩
theorem eX2_isNearer_27 : xAt mX2_isNearer 27 (.iadd) 1 28 := ⟨by decide +kernel, rfl⟩
theorem eX2_isNearer_28 : xAt mX2_isNearer 28 (.iconst 4) 1 29 := ⟨by decide +kernel, rfl⟩
theorem eX2_isNearer_29 : xAt mX2_isNearer 29 (.imul) 1 30 := ⟨by decide +kernel, rfl⟩
theorem eX2_isNearer_30 : xAt mX2_isNearer 30 (.istore 5) 2 32 := ⟨by decide +kernel, rfl⟩
theorem eX2_isNearer_32 : xAt mX2_isNearer 32 (.sipush 400) 3 35 := ⟨by decide +kernel, rfl⟩
theorem eX2_isNearer_35 : xAt mX2_isNearer 35 (.iload_n 3) 1 36 := ⟨by decide +kernel, rfl⟩
theorem eX2_isNearer_36 : xAt mX2_isNearer 36 (.iadd) 1 37 := ⟨by decide +kernel, rfl⟩
theorem eX2_isNearer_37 : xAt mX2_isNearer 37 (.iconst 4) 1 38 := ⟨by decide +kernel, rfl⟩
theorem eX2_isNearer_38 : xAt mX2_isNearer 38 (.imul) 1 39 := ⟨by decide +kernel, rfl⟩
theorem eX2_isNearer_39 : xAt mX2_isNearer 39 (.istore 6) 2 41 := ⟨by decide +kernel, rfl⟩
theorem eX2_isNearer_41 : xAt mX2_isNearer 41 (.iconst 0) 1 42 := ⟨by decide +kernel, rfl⟩
theorem eX2_isNearer_42 : xAt mX2_isNearer 42 (.istore 7) 2 44 := ⟨by decide +kernel, rfl⟩
theorem eX2_isNearer_44 : xAt mX2_isNearer 44 (.iload 7) 2 46 := ⟨by decide +kernel, rfl⟩
theorem eX2_isNearer_46 : xAt mX2_isNearer 46 (.iconst 4) 1 47 := ⟨by decide +kernel, rfl⟩
theorem eX2_isNearer_47 : xBr mX2_isNearer 47 (.if_icmp .ge) (135) 50 182 := ⟨by decide +kernel, rfl, by decide⟩
theorem eX2_isNearer_50 : xAt mX2_isNearer 50 (.aload_n 0) 1 51 := ⟨by decide +kernel, rfl⟩
theorem eX2_isNearer_51 : xAt mX2_isNearer 51 (.getfield 19) 3 54 := ⟨by decide +kernel, rfl⟩
theorem eX2_isNearer_54 : xAt mX2_isNearer 54 (.iload 4) 2 56 := ⟨by decide +kernel, rfl⟩
theorem eX2_isNearer_56 : xAt mX2_isNearer 56 (.iload 7) 2 58 := ⟨by decide +kernel, rfl⟩
theorem eX2_isNearer_58 : xAt mX2_isNearer 58 (.iadd) 1 59 := ⟨by decide +kernel, rfl⟩
theorem eX2_isNearer_59 : xAt mX2_isNearer 59 (.laload) 1 60 := ⟨by decide +kernel, rfl⟩
theorem eX2_isNearer_60 : xAt mX2_isNearer 60 (.aload_n 0) 1 61 := ⟨by decide +kernel, rfl⟩
theorem eX2_isNearer_61 : xAt mX2_isNearer 61 (.getfield 19) 3 64 := ⟨by decide +kernel, rfl⟩
theorem eX2_isNearer_64 : xAt mX2_isNearer 64 (.iload 6) 2 66 := ⟨by decide +kernel, rfl⟩
theorem eX2_isNearer_66 : xAt mX2_isNearer 66 (.iload 7) 2 68 := ⟨by decide +kernel, rfl⟩
theorem eX2_isNearer_68 : xAt mX2_isNearer 68 (.iadd) 1 69 := ⟨by decide +kernel, rfl⟩
theorem eX2_isNearer_69 : xAt mX2_isNearer 69 (.laload) 1 70 := ⟨by decide +kernel, rfl⟩
theorem eX2_isNearer_70 : xAt mX2_isNearer 70 (.lsub) 1 71 := ⟨by decide +kernel, rfl⟩
theorem eX2_isNearer_71 : xAt mX2_isNearer 71 (.lstore 8) 2 73 := ⟨by decide +kernel, rfl⟩
theorem eX2_isNearer_73 : xAt mX2_isNearer 73 (.aload_n 0) 1 74 := ⟨by decide +kernel, rfl⟩
theorem eX2_isNearer_74 : xAt mX2_isNearer 74 (.getfield 19) 3 77 := ⟨by decide +kernel, rfl⟩
theorem eX2_isNearer_77 : xAt mX2_isNearer 77 (.iload 5) 2 79 := ⟨by decide +kernel, rfl⟩
theorem eX2_isNearer_79 : xAt mX2_isNearer 79 (.iload 7) 2 81 := ⟨by decide +kernel, rfl⟩
theorem eX2_isNearer_81 : xAt mX2_isNearer 81 (.iadd) 1 82 := ⟨by decide +kernel, rfl⟩
theorem eX2_isNearer_82 : xAt mX2_isNearer 82 (.laload) 1 83 := ⟨by decide +kernel, rfl⟩
theorem eX2_isNearer_83 : xAt mX2_isNearer 83 (.aload_n 0) 1 84 := ⟨by decide +kernel, rfl⟩
theorem eX2_isNearer_84 : xAt mX2_isNearer 84 (.getfield 19) 3 87 := ⟨by decide +kernel, rfl⟩
theorem eX2_isNearer_87 : xAt mX2_isNearer 87 (.iload 6) 2 89 := ⟨by decide +kernel, rfl⟩
theorem eX2_isNearer_89 : xAt mX2_isNearer 89 (.iload 7) 2 91 := ⟨by decide +kernel, rfl⟩
theorem eX2_isNearer_91 : xAt mX2_isNearer 91 (.iadd) 1 92 := ⟨by decide +kernel, rfl⟩
theorem eX2_isNearer_92 : xAt mX2_isNearer 92 (.laload) 1 93 := ⟨by decide +kernel, rfl⟩
theorem eX2_isNearer_93 : xAt mX2_isNearer 93 (.lsub) 1 94 := ⟨by decide +kernel, rfl⟩
theorem eX2_isNearer_94 : xAt mX2_isNearer 94 (.lstore 10) 2 96 := ⟨by decide +kernel, rfl⟩
theorem eX2_isNearer_96 : xAt mX2_isNearer 96 (.iconst 0) 1 97 := ⟨by decide +kernel, rfl⟩
theorem eX2_isNearer_97 : xAt mX2_isNearer 97 (.istore 12) 2 99 := ⟨by decide +kernel, rfl⟩
theorem eX2_isNearer_99 : xAt mX2_isNearer 99 (.iload 12) 2 101 := ⟨by decide +kernel, rfl⟩
theorem eX2_isNearer_101 : xAt mX2_isNearer 101 (.iconst 4) 1 102 := ⟨by decide +kernel, rfl⟩
theorem eX2_isNearer_102 : xBr mX2_isNearer 102 (.if_icmp .ge) (74) 105 176 := ⟨by decide +kernel, rfl, by decide⟩
theorem eX2_isNearer_105 : xAt mX2_isNearer 105 (.aload_n 0) 1 106 := ⟨by decide +kernel, rfl⟩
theorem eX2_isNearer_106 : xAt mX2_isNearer 106 (.getfield 25) 3 109 := ⟨by decide +kernel, rfl⟩
theorem eX2_isNearer_109 : xAt mX2_isNearer 109 (.getfield 75) 3 112 := ⟨by decide +kernel, rfl⟩
theorem eX2_isNearer_112 : xAt mX2_isNearer 112 (.iload 7) 2 114 := ⟨by decide +kernel, rfl⟩
theorem eX2_isNearer_114 : xAt mX2_isNearer 114 (.iload 12) 2 116 := ⟨by decide +kernel, rfl⟩
theorem eX2_isNearer_116 : xAt mX2_isNearer 116 (.iadd) 1 117 := ⟨by decide +kernel, rfl⟩
theorem eX2_isNearer_117 : xAt mX2_isNearer 117 (.dup2) 1 118 := ⟨by decide +kernel, rfl⟩
theorem eX2_isNearer_118 : xAt mX2_isNearer 118 (.laload) 1 119 := ⟨by decide +kernel, rfl⟩
theorem eX2_isNearer_119 : xAt mX2_isNearer 119 (.lload 8) 2 121 := ⟨by decide +kernel, rfl⟩
theorem eX2_isNearer_121 : xAt mX2_isNearer 121 (.aload_n 0) 1 122 := ⟨by decide +kernel, rfl⟩
theorem eX2_isNearer_122 : xAt mX2_isNearer 122 (.getfield 19) 3 125 := ⟨by decide +kernel, rfl⟩
theorem eX2_isNearer_125 : xAt mX2_isNearer 125 (.iload 4) 2 127 := ⟨by decide +kernel, rfl⟩
theorem eX2_isNearer_127 : xAt mX2_isNearer 127 (.iload 12) 2 129 := ⟨by decide +kernel, rfl⟩
theorem eX2_isNearer_129 : xAt mX2_isNearer 129 (.iadd) 1 130 := ⟨by decide +kernel, rfl⟩
theorem eX2_isNearer_130 : xAt mX2_isNearer 130 (.laload) 1 131 := ⟨by decide +kernel, rfl⟩
theorem eX2_isNearer_131 : xAt mX2_isNearer 131 (.aload_n 0) 1 132 := ⟨by decide +kernel, rfl⟩
theorem eX2_isNearer_132 : xAt mX2_isNearer 132 (.getfield 19) 3 135 := ⟨by decide +kernel, rfl⟩
theorem eX2_isNearer_135 : xAt mX2_isNearer 135 (.iload 6) 2 137 := ⟨by decide +kernel, rfl⟩
theorem eX2_isNearer_137 : xAt mX2_isNearer 137 (.iload 12) 2 139 := ⟨by decide +kernel, rfl⟩
theorem eX2_isNearer_139 : xAt mX2_isNearer 139 (.iadd) 1 140 := ⟨by decide +kernel, rfl⟩
theorem eX2_isNearer_140 : xAt mX2_isNearer 140 (.laload) 1 141 := ⟨by decide +kernel, rfl⟩
theorem eX2_isNearer_141 : xAt mX2_isNearer 141 (.lsub) 1 142 := ⟨by decide +kernel, rfl⟩
theorem eX2_isNearer_142 : xAt mX2_isNearer 142 (.lmul) 1 143 := ⟨by decide +kernel, rfl⟩
theorem eX2_isNearer_143 : xAt mX2_isNearer 143 (.lload 10) 2 145 := ⟨by decide +kernel, rfl⟩
theorem eX2_isNearer_145 : xAt mX2_isNearer 145 (.aload_n 0) 1 146 := ⟨by decide +kernel, rfl⟩
theorem eX2_isNearer_146 : xAt mX2_isNearer 146 (.getfield 19) 3 149 := ⟨by decide +kernel, rfl⟩
theorem eX2_isNearer_149 : xAt mX2_isNearer 149 (.iload 5) 2 151 := ⟨by decide +kernel, rfl⟩
theorem eX2_isNearer_151 : xAt mX2_isNearer 151 (.iload 12) 2 153 := ⟨by decide +kernel, rfl⟩
theorem eX2_isNearer_153 : xAt mX2_isNearer 153 (.iadd) 1 154 := ⟨by decide +kernel, rfl⟩
theorem eX2_isNearer_154 : xAt mX2_isNearer 154 (.laload) 1 155 := ⟨by decide +kernel, rfl⟩
theorem eX2_isNearer_155 : xAt mX2_isNearer 155 (.aload_n 0) 1 156 := ⟨by decide +kernel, rfl⟩
theorem eX2_isNearer_156 : xAt mX2_isNearer 156 (.getfield 19) 3 159 := ⟨by decide +kernel, rfl⟩
theorem eX2_isNearer_159 : xAt mX2_isNearer 159 (.iload 6) 2 161 := ⟨by decide +kernel, rfl⟩
theorem eX2_isNearer_161 : xAt mX2_isNearer 161 (.iload 12) 2 163 := ⟨by decide +kernel, rfl⟩
theorem eX2_isNearer_163 : xAt mX2_isNearer 163 (.iadd) 1 164 := ⟨by decide +kernel, rfl⟩
theorem eX2_isNearer_164 : xAt mX2_isNearer 164 (.laload) 1 165 := ⟨by decide +kernel, rfl⟩
theorem eX2_isNearer_165 : xAt mX2_isNearer 165 (.lsub) 1 166 := ⟨by decide +kernel, rfl⟩
theorem eX2_isNearer_166 : xAt mX2_isNearer 166 (.lmul) 1 167 := ⟨by decide +kernel, rfl⟩
theorem eX2_isNearer_167 : xAt mX2_isNearer 167 (.lsub) 1 168 := ⟨by decide +kernel, rfl⟩
theorem eX2_isNearer_168 : xAt mX2_isNearer 168 (.ladd) 1 169 := ⟨by decide +kernel, rfl⟩
theorem eX2_isNearer_169 : xAt mX2_isNearer 169 (.lastore) 1 170 := ⟨by decide +kernel, rfl⟩
theorem eX2_isNearer_170 : xAt mX2_isNearer 170 (.iinc 12 1) 3 173 := ⟨by decide +kernel, rfl⟩
theorem eX2_isNearer_173 : xBr mX2_isNearer 173 .goto (-74) 176 99 := ⟨by decide +kernel, rfl, by decide⟩
theorem eX2_isNearer_176 : xAt mX2_isNearer 176 (.iinc 7 1) 3 179 := ⟨by decide +kernel, rfl⟩
theorem eX2_isNearer_179 : xBr mX2_isNearer 179 .goto (-135) 182 44 := ⟨by decide +kernel, rfl, by decide⟩
theorem eX2_isNearer_182 : xAt mX2_isNearer 182 (.iinc 3 1) 3 185 := ⟨by decide +kernel, rfl⟩
theorem eX2_isNearer_185 : xBr mX2_isNearer 185 .goto (-176) 188 9 := ⟨by decide +kernel, rfl, by decide⟩
theorem eX2_isNearer_188 : xAt mX2_isNearer 188 (.aload_n 0) 1 189 := ⟨by decide +kernel, rfl⟩
theorem eX2_isNearer_189 : xAt mX2_isNearer 189 (.getfield 25) 3 192 := ⟨by decide +kernel, rfl⟩
theorem eX2_isNearer_192 : xAt mX2_isNearer 192 (.invokevirtual 78) 3 195 := ⟨by decide +kernel, rfl⟩
theorem eX2_isNearer_195 : xBr mX2_isNearer 195 (.ifCond .ge) (7) 198 202 := ⟨by decide +kernel, rfl, by decide⟩
theorem eX2_isNearer_198 : xAt mX2_isNearer 198 (.iconst 1) 1 199 := ⟨by decide +kernel, rfl⟩
theorem eX2_isNearer_199 : xBr mX2_isNearer 199 .goto (4) 202 203 := ⟨by decide +kernel, rfl, by decide⟩
theorem eX2_isNearer_202 : xAt mX2_isNearer 202 (.iconst 0) 1 203 := ⟨by decide +kernel, rfl⟩
theorem eX2_isNearer_203 : xAt mX2_isNearer 203 (.ireturn) 1 204 := ⟨by decide +kernel, rfl⟩
theorem eX2_measure_0 : xAt mX2_measure 0 (.aload_n 2) 1 1 := ⟨by decide +kernel, rfl⟩
theorem eX2_measure_1 : xAt mX2_measure 1 (.invokevirtual 72) 3 4 := ⟨by decide +kernel, rfl⟩
theorem eX2_measure_4 : xAt mX2_measure 4 (.iconst 0) 1 5 := ⟨by decide +kernel, rfl⟩
theorem eX2_measure_5 : xAt mX2_measure 5 (.istore_n 3) 1 6 := ⟨by decide +kernel, rfl⟩
theorem eX2_measure_6 : xAt mX2_measure 6 (.iload_n 3) 1 7 := ⟨by decide +kernel, rfl⟩
theorem eX2_measure_7 : xAt mX2_measure 7 (.aload_n 1) 1 8 := ⟨by decide +kernel, rfl⟩
theorem eX2_measure_8 : xAt mX2_measure 8 (.getfield 102) 3 11 := ⟨by decide +kernel, rfl⟩
theorem eX2_measure_11 : xBr mX2_measure 11 (.if_icmp .ge) (123) 14 134 := ⟨by decide +kernel, rfl, by decide⟩
theorem eX2_measure_14 : xAt mX2_measure 14 (.iconst 2) 1 15 := ⟨by decide +kernel, rfl⟩
theorem eX2_measure_15 : xAt mX2_measure 15 (.aload_n 1) 1 16 := ⟨by decide +kernel, rfl⟩
theorem eX2_measure_16 : xAt mX2_measure 16 (.iload_n 3) 1 17 := ⟨by decide +kernel, rfl⟩
theorem eX2_measure_17 : xAt mX2_measure 17 (.invokevirtual 107) 3 20 := ⟨by decide +kernel, rfl⟩
theorem eX2_measure_20 : xAt mX2_measure 20 (.imul) 1 21 := ⟨by decide +kernel, rfl⟩
theorem eX2_measure_21 : xAt mX2_measure 21 (.iconst 4) 1 22 := ⟨by decide +kernel, rfl⟩
theorem eX2_measure_22 : xAt mX2_measure 22 (.imul) 1 23 := ⟨by decide +kernel, rfl⟩
theorem eX2_measure_23 : xAt mX2_measure 23 (.istore 4) 2 25 := ⟨by decide +kernel, rfl⟩
theorem eX2_measure_25 : xAt mX2_measure 25 (.iconst 2) 1 26 := ⟨by decide +kernel, rfl⟩
theorem eX2_measure_26 : xAt mX2_measure 26 (.aload_n 1) 1 27 := ⟨by decide +kernel, rfl⟩
theorem eX2_measure_27 : xAt mX2_measure 27 (.iload_n 3) 1 28 := ⟨by decide +kernel, rfl⟩
theorem eX2_measure_28 : xAt mX2_measure 28 (.iconst 1) 1 29 := ⟨by decide +kernel, rfl⟩
theorem eX2_measure_29 : xAt mX2_measure 29 (.iadd) 1 30 := ⟨by decide +kernel, rfl⟩
theorem eX2_measure_30 : xAt mX2_measure 30 (.invokevirtual 107) 3 33 := ⟨by decide +kernel, rfl⟩
theorem eX2_measure_33 : xAt mX2_measure 33 (.imul) 1 34 := ⟨by decide +kernel, rfl⟩
theorem eX2_measure_34 : xAt mX2_measure 34 (.iconst 4) 1 35 := ⟨by decide +kernel, rfl⟩
theorem eX2_measure_35 : xAt mX2_measure 35 (.imul) 1 36 := ⟨by decide +kernel, rfl⟩
theorem eX2_measure_36 : xAt mX2_measure 36 (.istore 5) 2 38 := ⟨by decide +kernel, rfl⟩
theorem eX2_measure_38 : xAt mX2_measure 38 (.iconst 0) 1 39 := ⟨by decide +kernel, rfl⟩
theorem eX2_measure_39 : xAt mX2_measure 39 (.istore 6) 2 41 := ⟨by decide +kernel, rfl⟩
theorem eX2_measure_41 : xAt mX2_measure 41 (.iload 6) 2 43 := ⟨by decide +kernel, rfl⟩
theorem eX2_measure_43 : xAt mX2_measure 43 (.iconst 4) 1 44 := ⟨by decide +kernel, rfl⟩
theorem eX2_measure_44 : xBr mX2_measure 44 (.if_icmp .ge) (84) 47 128 := ⟨by decide +kernel, rfl, by decide⟩
theorem eX2_measure_47 : xAt mX2_measure 47 (.iconst 0) 1 48 := ⟨by decide +kernel, rfl⟩
theorem eX2_measure_48 : xAt mX2_measure 48 (.istore 7) 2 50 := ⟨by decide +kernel, rfl⟩
theorem eX2_measure_50 : xAt mX2_measure 50 (.iload 7) 2 52 := ⟨by decide +kernel, rfl⟩
theorem eX2_measure_52 : xAt mX2_measure 52 (.iconst 4) 1 53 := ⟨by decide +kernel, rfl⟩
theorem eX2_measure_53 : xBr mX2_measure 53 (.if_icmp .ge) (69) 56 122 := ⟨by decide +kernel, rfl, by decide⟩
theorem eX2_measure_56 : xAt mX2_measure 56 (.aload_n 2) 1 57 := ⟨by decide +kernel, rfl⟩
theorem eX2_measure_57 : xAt mX2_measure 57 (.getfield 75) 3 60 := ⟨by decide +kernel, rfl⟩
theorem eX2_measure_60 : xAt mX2_measure 60 (.iload 6) 2 62 := ⟨by decide +kernel, rfl⟩
theorem eX2_measure_62 : xAt mX2_measure 62 (.iload 7) 2 64 := ⟨by decide +kernel, rfl⟩
theorem eX2_measure_64 : xAt mX2_measure 64 (.iadd) 1 65 := ⟨by decide +kernel, rfl⟩
theorem eX2_measure_65 : xAt mX2_measure 65 (.dup2) 1 66 := ⟨by decide +kernel, rfl⟩
theorem eX2_measure_66 : xAt mX2_measure 66 (.laload) 1 67 := ⟨by decide +kernel, rfl⟩
theorem eX2_measure_67 : xAt mX2_measure 67 (.aload_n 0) 1 68 := ⟨by decide +kernel, rfl⟩
theorem eX2_measure_68 : xAt mX2_measure 68 (.getfield 19) 3 71 := ⟨by decide +kernel, rfl⟩
theorem eX2_measure_71 : xAt mX2_measure 71 (.iload 4) 2 73 := ⟨by decide +kernel, rfl⟩
theorem eX2_measure_73 : xAt mX2_measure 73 (.iload 6) 2 75 := ⟨by decide +kernel, rfl⟩
theorem eX2_measure_75 : xAt mX2_measure 75 (.iadd) 1 76 := ⟨by decide +kernel, rfl⟩
theorem eX2_measure_76 : xAt mX2_measure 76 (.laload) 1 77 := ⟨by decide +kernel, rfl⟩
theorem eX2_measure_77 : xAt mX2_measure 77 (.aload_n 0) 1 78 := ⟨by decide +kernel, rfl⟩
theorem eX2_measure_78 : xAt mX2_measure 78 (.getfield 19) 3 81 := ⟨by decide +kernel, rfl⟩
theorem eX2_measure_81 : xAt mX2_measure 81 (.iload 5) 2 83 := ⟨by decide +kernel, rfl⟩
theorem eX2_measure_83 : xAt mX2_measure 83 (.iconst 4) 1 84 := ⟨by decide +kernel, rfl⟩
theorem eX2_measure_84 : xAt mX2_measure 84 (.iadd) 1 85 := ⟨by decide +kernel, rfl⟩
theorem eX2_measure_85 : xAt mX2_measure 85 (.iload 7) 2 87 := ⟨by decide +kernel, rfl⟩
theorem eX2_measure_87 : xAt mX2_measure 87 (.iadd) 1 88 := ⟨by decide +kernel, rfl⟩
theorem eX2_measure_88 : xAt mX2_measure 88 (.laload) 1 89 := ⟨by decide +kernel, rfl⟩
theorem eX2_measure_89 : xAt mX2_measure 89 (.lmul) 1 90 := ⟨by decide +kernel, rfl⟩
theorem eX2_measure_90 : xAt mX2_measure 90 (.aload_n 0) 1 91 := ⟨by decide +kernel, rfl⟩
theorem eX2_measure_91 : xAt mX2_measure 91 (.getfield 19) 3 94 := ⟨by decide +kernel, rfl⟩
theorem eX2_measure_94 : xAt mX2_measure 94 (.iload 5) 2 96 := ⟨by decide +kernel, rfl⟩
theorem eX2_measure_96 : xAt mX2_measure 96 (.iload 6) 2 98 := ⟨by decide +kernel, rfl⟩
theorem eX2_measure_98 : xAt mX2_measure 98 (.iadd) 1 99 := ⟨by decide +kernel, rfl⟩
theorem eX2_measure_99 : xAt mX2_measure 99 (.laload) 1 100 := ⟨by decide +kernel, rfl⟩
theorem eX2_measure_100 : xAt mX2_measure 100 (.aload_n 0) 1 101 := ⟨by decide +kernel, rfl⟩
theorem eX2_measure_101 : xAt mX2_measure 101 (.getfield 19) 3 104 := ⟨by decide +kernel, rfl⟩
theorem eX2_measure_104 : xAt mX2_measure 104 (.iload 4) 2 106 := ⟨by decide +kernel, rfl⟩
theorem eX2_measure_106 : xAt mX2_measure 106 (.iconst 4) 1 107 := ⟨by decide +kernel, rfl⟩
theorem eX2_measure_107 : xAt mX2_measure 107 (.iadd) 1 108 := ⟨by decide +kernel, rfl⟩
theorem eX2_measure_108 : xAt mX2_measure 108 (.iload 7) 2 110 := ⟨by decide +kernel, rfl⟩
theorem eX2_measure_110 : xAt mX2_measure 110 (.iadd) 1 111 := ⟨by decide +kernel, rfl⟩
theorem eX2_measure_111 : xAt mX2_measure 111 (.laload) 1 112 := ⟨by decide +kernel, rfl⟩
theorem eX2_measure_112 : xAt mX2_measure 112 (.lmul) 1 113 := ⟨by decide +kernel, rfl⟩
theorem eX2_measure_113 : xAt mX2_measure 113 (.lsub) 1 114 := ⟨by decide +kernel, rfl⟩
theorem eX2_measure_114 : xAt mX2_measure 114 (.ladd) 1 115 := ⟨by decide +kernel, rfl⟩
theorem eX2_measure_115 : xAt mX2_measure 115 (.lastore) 1 116 := ⟨by decide +kernel, rfl⟩
theorem eX2_measure_116 : xAt mX2_measure 116 (.iinc 7 1) 3 119 := ⟨by decide +kernel, rfl⟩
theorem eX2_measure_119 : xBr mX2_measure 119 .goto (-69) 122 50 := ⟨by decide +kernel, rfl, by decide⟩
theorem eX2_measure_122 : xAt mX2_measure 122 (.iinc 6 1) 3 125 := ⟨by decide +kernel, rfl⟩
theorem eX2_measure_125 : xBr mX2_measure 125 .goto (-84) 128 41 := ⟨by decide +kernel, rfl, by decide⟩
theorem eX2_measure_128 : xAt mX2_measure 128 (.iinc 3 1) 3 131 := ⟨by decide +kernel, rfl⟩
theorem eX2_measure_131 : xBr mX2_measure 131 .goto (-125) 134 6 := ⟨by decide +kernel, rfl, by decide⟩
theorem eX2_measure_134 : xAt mX2_measure 134 (.aload_n 2) 1 135 := ⟨by decide +kernel, rfl⟩
theorem eX2_measure_135 : xAt mX2_measure 135 (.invokevirtual 111) 3 138 := ⟨by decide +kernel, rfl⟩
theorem eX2_measure_138 : xAt mX2_measure 138 (.return_) 1 139 := ⟨by decide +kernel, rfl⟩
theorem eX3_has_0 : xAt mX3_has 0 (.iload_n 1) 1 1 := ⟨by decide +kernel, rfl⟩
theorem eX3_has_1 : xBr mX3_has 1 (.ifCond .lt) (27) 4 28 := ⟨by decide +kernel, rfl, by decide⟩
theorem eX3_has_4 : xAt mX3_has 4 (.iload_n 1) 1 5 := ⟨by decide +kernel, rfl⟩
theorem eX3_has_5 : xAt mX3_has 5 (.aload_n 0) 1 6 := ⟨by decide +kernel, rfl⟩
theorem eX3_has_6 : xAt mX3_has 6 (.getfield 36) 3 9 := ⟨by decide +kernel, rfl⟩
theorem eX3_has_9 : xBr mX3_has 9 (.if_icmp .ge) (19) 12 28 := ⟨by decide +kernel, rfl, by decide⟩
theorem eX3_has_12 : xAt mX3_has 12 (.aload_n 0) 1 13 := ⟨by decide +kernel, rfl⟩
theorem eX3_has_13 : xAt mX3_has 13 (.getfield 11) 3 16 := ⟨by decide +kernel, rfl⟩
theorem eX3_has_16 : xAt mX3_has 16 (.iload_n 1) 1 17 := ⟨by decide +kernel, rfl⟩
theorem eX3_has_17 : xAt mX3_has 17 (.aaload) 1 18 := ⟨by decide +kernel, rfl⟩
theorem eX3_has_18 : xAt mX3_has 18 (.getfield 39) 3 21 := ⟨by decide +kernel, rfl⟩
theorem eX3_has_21 : xBr mX3_has 21 (.ifCond .eq) (7) 24 28 := ⟨by decide +kernel, rfl, by decide⟩
theorem eX3_has_24 : xAt mX3_has 24 (.iconst 1) 1 25 := ⟨by decide +kernel, rfl⟩
theorem eX3_has_25 : xBr mX3_has 25 .goto (4) 28 29 := ⟨by decide +kernel, rfl, by decide⟩
theorem eX3_has_28 : xAt mX3_has 28 (.iconst 0) 1 29 := ⟨by decide +kernel, rfl⟩
theorem eX3_has_29 : xAt mX3_has 29 (.ireturn) 1 30 := ⟨by decide +kernel, rfl⟩
theorem eX3_isOf_0 : xAt mX3_isOf 0 (.aload_n 0) 1 1 := ⟨by decide +kernel, rfl⟩
theorem eX3_isOf_1 : xAt mX3_isOf 1 (.iload_n 1) 1 2 := ⟨by decide +kernel, rfl⟩
theorem eX3_isOf_2 : xAt mX3_isOf 2 (.invokevirtual 42) 3 5 := ⟨by decide +kernel, rfl⟩
theorem eX3_isOf_5 : xBr mX3_isOf 5 (.ifCond .eq) (20) 8 25 := ⟨by decide +kernel, rfl, by decide⟩
theorem eX3_isOf_8 : xAt mX3_isOf 8 (.aload_n 0) 1 9 := ⟨by decide +kernel, rfl⟩
theorem eX3_isOf_9 : xAt mX3_isOf 9 (.getfield 11) 3 12 := ⟨by decide +kernel, rfl⟩
theorem eX3_isOf_12 : xAt mX3_isOf 12 (.iload_n 1) 1 13 := ⟨by decide +kernel, rfl⟩
theorem eX3_isOf_13 : xAt mX3_isOf 13 (.aaload) 1 14 := ⟨by decide +kernel, rfl⟩
theorem eX3_isOf_14 : xAt mX3_isOf 14 (.getfield 46) 3 17 := ⟨by decide +kernel, rfl⟩
theorem eX3_isOf_17 : xAt mX3_isOf 17 (.iload_n 2) 1 18 := ⟨by decide +kernel, rfl⟩
theorem eX3_isOf_18 : xBr mX3_isOf 18 (.if_icmp .ne) (7) 21 25 := ⟨by decide +kernel, rfl, by decide⟩
theorem eX3_isOf_21 : xAt mX3_isOf 21 (.iconst 1) 1 22 := ⟨by decide +kernel, rfl⟩
theorem eX3_isOf_22 : xBr mX3_isOf 22 .goto (4) 25 26 := ⟨by decide +kernel, rfl, by decide⟩
theorem eX3_isOf_25 : xAt mX3_isOf 25 (.iconst 0) 1 26 := ⟨by decide +kernel, rfl⟩
theorem eX3_isOf_26 : xAt mX3_isOf 26 (.ireturn) 1 27 := ⟨by decide +kernel, rfl⟩
theorem eX3_hasRoom_0 : xAt mX3_hasRoom 0 (.aload_n 0) 1 1 := ⟨by decide +kernel, rfl⟩
theorem eX3_hasRoom_1 : xAt mX3_hasRoom 1 (.getfield 36) 3 4 := ⟨by decide +kernel, rfl⟩
theorem eX3_hasRoom_4 : xAt mX3_hasRoom 4 (.bipush 60) 2 6 := ⟨by decide +kernel, rfl⟩
theorem eX3_hasRoom_6 : xBr mX3_hasRoom 6 (.if_icmp .ge) (7) 9 13 := ⟨by decide +kernel, rfl, by decide⟩
theorem eX3_hasRoom_9 : xAt mX3_hasRoom 9 (.iconst 1) 1 10 := ⟨by decide +kernel, rfl⟩
theorem eX3_hasRoom_10 : xBr mX3_hasRoom 10 .goto (4) 13 14 := ⟨by decide +kernel, rfl, by decide⟩
theorem eX3_hasRoom_13 : xAt mX3_hasRoom 13 (.iconst 0) 1 14 := ⟨by decide +kernel, rfl⟩
theorem eX3_hasRoom_14 : xAt mX3_hasRoom 14 (.ireturn) 1 15 := ⟨by decide +kernel, rfl⟩
theorem eX3_thereNow_0 : xAt mX3_thereNow 0 (.iconst 0) 1 1 := ⟨by decide +kernel, rfl⟩
theorem eX3_thereNow_1 : xAt mX3_thereNow 1 (.istore_n 1) 1 2 := ⟨by decide +kernel, rfl⟩
theorem eX3_thereNow_2 : xAt mX3_thereNow 2 (.iconst 0) 1 3 := ⟨by decide +kernel, rfl⟩
theorem eX3_thereNow_3 : xAt mX3_thereNow 3 (.istore_n 2) 1 4 := ⟨by decide +kernel, rfl⟩
theorem eX3_thereNow_4 : xAt mX3_thereNow 4 (.iload_n 2) 1 5 := ⟨by decide +kernel, rfl⟩
theorem eX3_thereNow_5 : xAt mX3_thereNow 5 (.aload_n 0) 1 6 := ⟨by decide +kernel, rfl⟩
theorem eX3_thereNow_6 : xAt mX3_thereNow 6 (.getfield 36) 3 9 := ⟨by decide +kernel, rfl⟩
theorem eX3_thereNow_9 : xBr mX3_thereNow 9 (.if_icmp .ge) (24) 12 33 := ⟨by decide +kernel, rfl, by decide⟩
theorem eX3_thereNow_12 : xAt mX3_thereNow 12 (.aload_n 0) 1 13 := ⟨by decide +kernel, rfl⟩
theorem eX3_thereNow_13 : xAt mX3_thereNow 13 (.getfield 11) 3 16 := ⟨by decide +kernel, rfl⟩
theorem eX3_thereNow_16 : xAt mX3_thereNow 16 (.iload_n 2) 1 17 := ⟨by decide +kernel, rfl⟩
theorem eX3_thereNow_17 : xAt mX3_thereNow 17 (.aaload) 1 18 := ⟨by decide +kernel, rfl⟩
theorem eX3_thereNow_18 : xAt mX3_thereNow 18 (.getfield 39) 3 21 := ⟨by decide +kernel, rfl⟩
theorem eX3_thereNow_21 : xBr mX3_thereNow 21 (.ifCond .eq) (6) 24 27 := ⟨by decide +kernel, rfl, by decide⟩
theorem eX3_thereNow_24 : xAt mX3_thereNow 24 (.iinc 1 1) 3 27 := ⟨by decide +kernel, rfl⟩
theorem eX3_thereNow_27 : xAt mX3_thereNow 27 (.iinc 2 1) 3 30 := ⟨by decide +kernel, rfl⟩
theorem eX3_thereNow_30 : xBr mX3_thereNow 30 .goto (-26) 33 4 := ⟨by decide +kernel, rfl, by decide⟩
theorem eX3_thereNow_33 : xAt mX3_thereNow 33 (.iload_n 1) 1 34 := ⟨by decide +kernel, rfl⟩
theorem eX3_thereNow_34 : xAt mX3_thereNow 34 (.ireturn) 1 35 := ⟨by decide +kernel, rfl⟩
theorem eX3_thereIn_0 : xAt mX3_thereIn 0 (.iconst 0) 1 1 := ⟨by decide +kernel, rfl⟩
theorem eX3_thereIn_1 : xAt mX3_thereIn 1 (.istore_n 2) 1 2 := ⟨by decide +kernel, rfl⟩
theorem eX3_thereIn_2 : xAt mX3_thereIn 2 (.iconst 0) 1 3 := ⟨by decide +kernel, rfl⟩
theorem eX3_thereIn_3 : xAt mX3_thereIn 3 (.istore_n 3) 1 4 := ⟨by decide +kernel, rfl⟩
theorem eX3_thereIn_4 : xAt mX3_thereIn 4 (.iload_n 3) 1 5 := ⟨by decide +kernel, rfl⟩
theorem eX3_thereIn_5 : xAt mX3_thereIn 5 (.aload_n 0) 1 6 := ⟨by decide +kernel, rfl⟩
theorem eX3_thereIn_6 : xAt mX3_thereIn 6 (.getfield 36) 3 9 := ⟨by decide +kernel, rfl⟩
theorem eX3_thereIn_9 : xBr mX3_thereIn 9 (.if_icmp .ge) (21) 12 30 := ⟨by decide +kernel, rfl, by decide⟩
theorem eX3_thereIn_12 : xAt mX3_thereIn 12 (.aload_n 0) 1 13 := ⟨by decide +kernel, rfl⟩
theorem eX3_thereIn_13 : xAt mX3_thereIn 13 (.iload_n 3) 1 14 := ⟨by decide +kernel, rfl⟩
theorem eX3_thereIn_14 : xAt mX3_thereIn 14 (.iload_n 1) 1 15 := ⟨by decide +kernel, rfl⟩
theorem eX3_thereIn_15 : xAt mX3_thereIn 15 (.invokevirtual 49) 3 18 := ⟨by decide +kernel, rfl⟩
theorem eX3_thereIn_18 : xBr mX3_thereIn 18 (.ifCond .eq) (6) 21 24 := ⟨by decide +kernel, rfl, by decide⟩
theorem eX3_thereIn_21 : xAt mX3_thereIn 21 (.iinc 2 1) 3 24 := ⟨by decide +kernel, rfl⟩
theorem eX3_thereIn_24 : xAt mX3_thereIn 24 (.iinc 3 1) 3 27 := ⟨by decide +kernel, rfl⟩
theorem eX3_thereIn_27 : xBr mX3_thereIn 27 .goto (-23) 30 4 := ⟨by decide +kernel, rfl, by decide⟩
theorem eX3_thereIn_30 : xAt mX3_thereIn 30 (.iload_n 2) 1 31 := ⟨by decide +kernel, rfl⟩
theorem eX3_thereIn_31 : xAt mX3_thereIn 31 (.ireturn) 1 32 := ⟨by decide +kernel, rfl⟩
theorem eX3_make_0 : xAt mX3_make 0 (.aload_n 0) 1 1 := ⟨by decide +kernel, rfl⟩
theorem eX3_make_1 : xAt mX3_make 1 (.invokevirtual 53) 3 4 := ⟨by decide +kernel, rfl⟩
theorem eX3_make_4 : xBr mX3_make 4 (.ifCond .eq) (51) 7 55 := ⟨by decide +kernel, rfl, by decide⟩
theorem eX3_make_7 : xAt mX3_make 7 (.aload_n 0) 1 8 := ⟨by decide +kernel, rfl⟩
theorem eX3_make_8 : xAt mX3_make 8 (.getfield 11) 3 11 := ⟨by decide +kernel, rfl⟩
theorem eX3_make_11 : xAt mX3_make 11 (.aload_n 0) 1 12 := ⟨by decide +kernel, rfl⟩
theorem eX3_make_12 : xAt mX3_make 12 (.getfield 36) 3 15 := ⟨by decide +kernel, rfl⟩
theorem eX3_make_15 : xAt mX3_make 15 (.aaload) 1 16 := ⟨by decide +kernel, rfl⟩
theorem eX3_make_16 : xAt mX3_make 16 (.astore 4) 2 18 := ⟨by decide +kernel, rfl⟩
theorem eX3_make_18 : xAt mX3_make 18 (.aload 4) 2 20 := ⟨by decide +kernel, rfl⟩
theorem eX3_make_20 : xAt mX3_make 20 (.iconst 1) 1 21 := ⟨by decide +kernel, rfl⟩
theorem eX3_make_21 : xAt mX3_make 21 (.putfield 39) 3 24 := ⟨by decide +kernel, rfl⟩
theorem eX3_make_24 : xAt mX3_make 24 (.aload 4) 2 26 := ⟨by decide +kernel, rfl⟩
theorem eX3_make_26 : xAt mX3_make 26 (.iload_n 1) 1 27 := ⟨by decide +kernel, rfl⟩
theorem eX3_make_27 : xAt mX3_make 27 (.putfield 46) 3 30 := ⟨by decide +kernel, rfl⟩
theorem eX3_make_30 : xAt mX3_make 30 (.aload 4) 2 32 := ⟨by decide +kernel, rfl⟩
theorem eX3_make_32 : xAt mX3_make 32 (.iload_n 2) 1 33 := ⟨by decide +kernel, rfl⟩
theorem eX3_make_33 : xAt mX3_make 33 (.putfield 57) 3 36 := ⟨by decide +kernel, rfl⟩
theorem eX3_make_36 : xAt mX3_make 36 (.aload 4) 2 38 := ⟨by decide +kernel, rfl⟩
theorem eX3_make_38 : xAt mX3_make 38 (.getfield 60) 3 41 := ⟨by decide +kernel, rfl⟩
theorem eX3_make_41 : xAt mX3_make 41 (.aload_n 3) 1 42 := ⟨by decide +kernel, rfl⟩
theorem eX3_make_42 : xAt mX3_make 42 (.invokevirtual 64) 3 45 := ⟨by decide +kernel, rfl⟩
theorem eX3_make_45 : xAt mX3_make 45 (.aload_n 0) 1 46 := ⟨by decide +kernel, rfl⟩
theorem eX3_make_46 : xAt mX3_make 46 (.dup) 1 47 := ⟨by decide +kernel, rfl⟩
theorem eX3_make_47 : xAt mX3_make 47 (.getfield 36) 3 50 := ⟨by decide +kernel, rfl⟩
theorem eX3_make_50 : xAt mX3_make 50 (.iconst 1) 1 51 := ⟨by decide +kernel, rfl⟩
theorem eX3_make_51 : xAt mX3_make 51 (.iadd) 1 52 := ⟨by decide +kernel, rfl⟩
theorem eX3_make_52 : xAt mX3_make 52 (.putfield 36) 3 55 := ⟨by decide +kernel, rfl⟩
theorem eX3_make_55 : xAt mX3_make 55 (.return_) 1 56 := ⟨by decide +kernel, rfl⟩
theorem eX3_keep_0 : xAt mX3_keep 0 (.aload_n 0) 1 1 := ⟨by decide +kernel, rfl⟩
theorem eX3_keep_1 : xAt mX3_keep 1 (.iload_n 1) 1 2 := ⟨by decide +kernel, rfl⟩
theorem eX3_keep_2 : xAt mX3_keep 2 (.putfield 25) 3 5 := ⟨by decide +kernel, rfl⟩
theorem eX3_keep_5 : xAt mX3_keep 5 (.aload_n 0) 1 6 := ⟨by decide +kernel, rfl⟩
theorem eX3_keep_6 : xAt mX3_keep 6 (.iload_n 2) 1 7 := ⟨by decide +kernel, rfl⟩
theorem eX3_keep_7 : xAt mX3_keep 7 (.putfield 29) 3 10 := ⟨by decide +kernel, rfl⟩
theorem eX3_keep_10 : xAt mX3_keep 10 (.aload_n 0) 1 11 := ⟨by decide +kernel, rfl⟩
theorem eX3_keep_11 : xAt mX3_keep 11 (.iconst 1) 1 12 := ⟨by decide +kernel, rfl⟩
theorem eX3_keep_12 : xAt mX3_keep 12 (.putfield 32) 3 15 := ⟨by decide +kernel, rfl⟩
theorem eX3_keep_15 : xAt mX3_keep 15 (.iload_n 1) 1 16 := ⟨by decide +kernel, rfl⟩
theorem eX3_keep_16 : xAt mX3_keep 16 (.invokestatic 70) 3 19 := ⟨by decide +kernel, rfl⟩
theorem eX3_keep_19 : xBr mX3_keep 19 (.ifCond .eq) (16) 22 35 := ⟨by decide +kernel, rfl, by decide⟩
theorem eX3_keep_22 : xAt mX3_keep 22 (.aload_n 0) 1 23 := ⟨by decide +kernel, rfl⟩
theorem eX3_keep_23 : xAt mX3_keep 23 (.getfield 18) 3 26 := ⟨by decide +kernel, rfl⟩
theorem eX3_keep_26 : xAt mX3_keep 26 (.aload_n 0) 1 27 := ⟨by decide +kernel, rfl⟩
theorem eX3_keep_27 : xAt mX3_keep 27 (.getfield 11) 3 30 := ⟨by decide +kernel, rfl⟩
theorem eX3_keep_30 : xAt mX3_keep 30 (.iload_n 1) 1 31 := ⟨by decide +kernel, rfl⟩
theorem eX3_keep_31 : xAt mX3_keep 31 (.aaload) 1 32 := ⟨by decide +kernel, rfl⟩
theorem eX3_keep_32 : xAt mX3_keep 32 (.invokevirtual 73) 3 35 := ⟨by decide +kernel, rfl⟩
theorem eX3_keep_35 : xAt mX3_keep 35 (.iload_n 2) 1 36 := ⟨by decide +kernel, rfl⟩
theorem eX3_keep_36 : xAt mX3_keep 36 (.invokestatic 70) 3 39 := ⟨by decide +kernel, rfl⟩
theorem eX3_keep_39 : xBr mX3_keep 39 (.ifCond .eq) (16) 42 55 := ⟨by decide +kernel, rfl, by decide⟩
theorem eX3_keep_42 : xAt mX3_keep 42 (.aload_n 0) 1 43 := ⟨by decide +kernel, rfl⟩
theorem eX3_keep_43 : xAt mX3_keep 43 (.getfield 22) 3 46 := ⟨by decide +kernel, rfl⟩
theorem eX3_keep_46 : xAt mX3_keep 46 (.aload_n 0) 1 47 := ⟨by decide +kernel, rfl⟩
theorem eX3_keep_47 : xAt mX3_keep 47 (.getfield 11) 3 50 := ⟨by decide +kernel, rfl⟩
theorem eX3_keep_50 : xAt mX3_keep 50 (.iload_n 2) 1 51 := ⟨by decide +kernel, rfl⟩
theorem eX3_keep_51 : xAt mX3_keep 51 (.aaload) 1 52 := ⟨by decide +kernel, rfl⟩
theorem eX3_keep_52 : xAt mX3_keep 52 (.invokevirtual 73) 3 55 := ⟨by decide +kernel, rfl⟩
theorem eX3_keep_55 : xAt mX3_keep 55 (.return_) 1 56 := ⟨by decide +kernel, rfl⟩
theorem eX3_restore_0 : xAt mX3_restore 0 (.aload_n 0) 1 1 := ⟨by decide +kernel, rfl⟩
theorem eX3_restore_1 : xAt mX3_restore 1 (.iconst 0) 1 2 := ⟨by decide +kernel, rfl⟩
theorem eX3_restore_2 : xAt mX3_restore 2 (.putfield 32) 3 5 := ⟨by decide +kernel, rfl⟩
theorem eX3_restore_5 : xAt mX3_restore 5 (.aload_n 0) 1 6 := ⟨by decide +kernel, rfl⟩
theorem eX3_restore_6 : xAt mX3_restore 6 (.getfield 25) 3 9 := ⟨by decide +kernel, rfl⟩
theorem eX3_restore_9 : xAt mX3_restore 9 (.invokestatic 70) 3 12 := ⟨by decide +kernel, rfl⟩
theorem eX3_restore_12 : xBr mX3_restore 12 (.ifCond .eq) (19) 15 31 := ⟨by decide +kernel, rfl, by decide⟩
theorem eX3_restore_15 : xAt mX3_restore 15 (.aload_n 0) 1 16 := ⟨by decide +kernel, rfl⟩
theorem eX3_restore_16 : xAt mX3_restore 16 (.getfield 11) 3 19 := ⟨by decide +kernel, rfl⟩
theorem eX3_restore_19 : xAt mX3_restore 19 (.aload_n 0) 1 20 := ⟨by decide +kernel, rfl⟩
theorem eX3_restore_20 : xAt mX3_restore 20 (.getfield 25) 3 23 := ⟨by decide +kernel, rfl⟩
theorem eX3_restore_23 : xAt mX3_restore 23 (.aaload) 1 24 := ⟨by decide +kernel, rfl⟩
theorem eX3_restore_24 : xAt mX3_restore 24 (.aload_n 0) 1 25 := ⟨by decide +kernel, rfl⟩
theorem eX3_restore_25 : xAt mX3_restore 25 (.getfield 18) 3 28 := ⟨by decide +kernel, rfl⟩
theorem eX3_restore_28 : xAt mX3_restore 28 (.invokevirtual 73) 3 31 := ⟨by decide +kernel, rfl⟩
theorem eX3_restore_31 : xAt mX3_restore 31 (.aload_n 0) 1 32 := ⟨by decide +kernel, rfl⟩
theorem eX3_restore_32 : xAt mX3_restore 32 (.getfield 29) 3 35 := ⟨by decide +kernel, rfl⟩
theorem eX3_restore_35 : xAt mX3_restore 35 (.invokestatic 70) 3 38 := ⟨by decide +kernel, rfl⟩
theorem eX3_restore_38 : xBr mX3_restore 38 (.ifCond .eq) (19) 41 57 := ⟨by decide +kernel, rfl, by decide⟩
theorem eX3_restore_41 : xAt mX3_restore 41 (.aload_n 0) 1 42 := ⟨by decide +kernel, rfl⟩
theorem eX3_restore_42 : xAt mX3_restore 42 (.getfield 11) 3 45 := ⟨by decide +kernel, rfl⟩
theorem eX3_restore_45 : xAt mX3_restore 45 (.aload_n 0) 1 46 := ⟨by decide +kernel, rfl⟩
theorem eX3_restore_46 : xAt mX3_restore 46 (.getfield 29) 3 49 := ⟨by decide +kernel, rfl⟩
theorem eX3_restore_49 : xAt mX3_restore 49 (.aaload) 1 50 := ⟨by decide +kernel, rfl⟩
theorem eX3_restore_50 : xAt mX3_restore 50 (.aload_n 0) 1 51 := ⟨by decide +kernel, rfl⟩
theorem eX3_restore_51 : xAt mX3_restore 51 (.getfield 22) 3 54 := ⟨by decide +kernel, rfl⟩
theorem eX3_restore_54 : xAt mX3_restore 54 (.invokevirtual 73) 3 57 := ⟨by decide +kernel, rfl⟩
theorem eX3_restore_57 : xAt mX3_restore 57 (.return_) 1 58 := ⟨by decide +kernel, rfl⟩
theorem eX3_isEntry_0 : xAt mX3_isEntry 0 (.iload_n 0) 1 1 := ⟨by decide +kernel, rfl⟩
theorem eX3_isEntry_1 : xBr mX3_isEntry 1 (.ifCond .lt) (13) 4 14 := ⟨by decide +kernel, rfl, by decide⟩
theorem eX3_isEntry_4 : xAt mX3_isEntry 4 (.iload_n 0) 1 5 := ⟨by decide +kernel, rfl⟩
theorem eX3_isEntry_5 : xAt mX3_isEntry 5 (.bipush 60) 2 7 := ⟨by decide +kernel, rfl⟩
theorem eX3_isEntry_7 : xBr mX3_isEntry 7 (.if_icmp .ge) (7) 10 14 := ⟨by decide +kernel, rfl, by decide⟩
theorem eX3_isEntry_10 : xAt mX3_isEntry 10 (.iconst 1) 1 11 := ⟨by decide +kernel, rfl⟩
theorem eX3_isEntry_11 : xBr mX3_isEntry 11 .goto (4) 14 15 := ⟨by decide +kernel, rfl, by decide⟩
theorem eX3_isEntry_14 : xAt mX3_isEntry 14 (.iconst 0) 1 15 := ⟨by decide +kernel, rfl⟩
theorem eX3_isEntry_15 : xAt mX3_isEntry 15 (.ireturn) 1 16 := ⟨by decide +kernel, rfl⟩
theorem eX4_empty_0 : xAt mX4_empty 0 (.aload_n 0) 1 1 := ⟨by decide +kernel, rfl⟩
theorem eX4_empty_1 : xAt mX4_empty 1 (.iconst 0) 1 2 := ⟨by decide +kernel, rfl⟩
theorem eX4_empty_2 : xAt mX4_empty 2 (.putfield 15) 3 5 := ⟨by decide +kernel, rfl⟩
theorem eX4_empty_5 : xAt mX4_empty 5 (.return_) 1 6 := ⟨by decide +kernel, rfl⟩
theorem eX4_push_0 : xAt mX4_push 0 (.aload_n 0) 1 1 := ⟨by decide +kernel, rfl⟩
theorem eX4_push_1 : xAt mX4_push 1 (.getfield 15) 3 4 := ⟨by decide +kernel, rfl⟩
theorem eX4_push_4 : xAt mX4_push 4 (.bipush 24) 2 6 := ⟨by decide +kernel, rfl⟩
theorem eX4_push_6 : xBr mX4_push 6 (.if_icmp .ge) (23) 9 29 := ⟨by decide +kernel, rfl, by decide⟩
theorem eX4_push_9 : xAt mX4_push 9 (.aload_n 0) 1 10 := ⟨by decide +kernel, rfl⟩
theorem eX4_push_10 : xAt mX4_push 10 (.getfield 9) 3 13 := ⟨by decide +kernel, rfl⟩
theorem eX4_push_13 : xAt mX4_push 13 (.aload_n 0) 1 14 := ⟨by decide +kernel, rfl⟩
theorem eX4_push_14 : xAt mX4_push 14 (.getfield 15) 3 17 := ⟨by decide +kernel, rfl⟩
theorem eX4_push_17 : xAt mX4_push 17 (.iload_n 1) 1 18 := ⟨by decide +kernel, rfl⟩
theorem eX4_push_18 : xAt mX4_push 18 (.iastore) 1 19 := ⟨by decide +kernel, rfl⟩
theorem eX4_push_19 : xAt mX4_push 19 (.aload_n 0) 1 20 := ⟨by decide +kernel, rfl⟩
theorem eX4_push_20 : xAt mX4_push 20 (.dup) 1 21 := ⟨by decide +kernel, rfl⟩
theorem eX4_push_21 : xAt mX4_push 21 (.getfield 15) 3 24 := ⟨by decide +kernel, rfl⟩
theorem eX4_push_24 : xAt mX4_push 24 (.iconst 1) 1 25 := ⟨by decide +kernel, rfl⟩
theorem eX4_push_25 : xAt mX4_push 25 (.iadd) 1 26 := ⟨by decide +kernel, rfl⟩
theorem eX4_push_26 : xAt mX4_push 26 (.putfield 15) 3 29 := ⟨by decide +kernel, rfl⟩
theorem eX4_push_29 : xAt mX4_push 29 (.return_) 1 30 := ⟨by decide +kernel, rfl⟩
end
section
theorem eX4_copy_0 : xAt mX4_copy 0 (.aload_n 0) 1 1 := ⟨by decide +kernel, rfl⟩
theorem eX4_copy_1 : xAt mX4_copy 1 (.aload_n 1) 1 2 := ⟨by decide +kernel, rfl⟩
theorem eX4_copy_2 : xAt mX4_copy 2 (.getfield 15) 3 5 := ⟨by decide +kernel, rfl⟩
theorem eX4_copy_5 : xAt mX4_copy 5 (.putfield 15) 3 8 := ⟨by decide +kernel, rfl⟩
theorem eX4_copy_8 : xAt mX4_copy 8 (.iconst 0) 1 9 := ⟨by decide +kernel, rfl⟩
theorem eX4_copy_9 : xAt mX4_copy 9 (.istore_n 2) 1 10 := ⟨by decide +kernel, rfl⟩
theorem eX4_copy_10 : xAt mX4_copy 10 (.iload_n 2) 1 11 := ⟨by decide +kernel, rfl⟩
theorem eX4_copy_11 : xAt mX4_copy 11 (.bipush 24) 2 13 := ⟨by decide +kernel, rfl⟩
theorem eX4_copy_13 : xBr mX4_copy 13 (.if_icmp .ge) (21) 16 34 := ⟨by decide +kernel, rfl, by decide⟩
theorem eX4_copy_16 : xAt mX4_copy 16 (.aload_n 0) 1 17 := ⟨by decide +kernel, rfl⟩
theorem eX4_copy_17 : xAt mX4_copy 17 (.getfield 9) 3 20 := ⟨by decide +kernel, rfl⟩
theorem eX4_copy_20 : xAt mX4_copy 20 (.iload_n 2) 1 21 := ⟨by decide +kernel, rfl⟩
theorem eX4_copy_21 : xAt mX4_copy 21 (.aload_n 1) 1 22 := ⟨by decide +kernel, rfl⟩
theorem eX4_copy_22 : xAt mX4_copy 22 (.getfield 9) 3 25 := ⟨by decide +kernel, rfl⟩
theorem eX4_copy_25 : xAt mX4_copy 25 (.iload_n 2) 1 26 := ⟨by decide +kernel, rfl⟩
theorem eX4_copy_26 : xAt mX4_copy 26 (.iaload) 1 27 := ⟨by decide +kernel, rfl⟩
theorem eX4_copy_27 : xAt mX4_copy 27 (.iastore) 1 28 := ⟨by decide +kernel, rfl⟩
theorem eX4_copy_28 : xAt mX4_copy 28 (.iinc 2 1) 3 31 := ⟨by decide +kernel, rfl⟩
theorem eX4_copy_31 : xBr mX4_copy 31 .goto (-21) 34 10 := ⟨by decide +kernel, rfl, by decide⟩
theorem eX4_copy_34 : xAt mX4_copy 34 (.return_) 1 35 := ⟨by decide +kernel, rfl⟩
theorem eX4_pushRun_0 : xAt mX4_pushRun 0 (.iconst 0) 1 1 := ⟨by decide +kernel, rfl⟩
theorem eX4_pushRun_1 : xAt mX4_pushRun 1 (.istore 4) 2 3 := ⟨by decide +kernel, rfl⟩
theorem eX4_pushRun_3 : xAt mX4_pushRun 3 (.iload 4) 2 5 := ⟨by decide +kernel, rfl⟩
theorem eX4_pushRun_5 : xAt mX4_pushRun 5 (.iload_n 3) 1 6 := ⟨by decide +kernel, rfl⟩
theorem eX4_pushRun_6 : xBr mX4_pushRun 6 (.if_icmp .ge) (21) 9 27 := ⟨by decide +kernel, rfl, by decide⟩
theorem eX4_pushRun_9 : xAt mX4_pushRun 9 (.aload_n 0) 1 10 := ⟨by decide +kernel, rfl⟩
theorem eX4_pushRun_10 : xAt mX4_pushRun 10 (.aload_n 1) 1 11 := ⟨by decide +kernel, rfl⟩
theorem eX4_pushRun_11 : xAt mX4_pushRun 11 (.iload_n 2) 1 12 := ⟨by decide +kernel, rfl⟩
theorem eX4_pushRun_12 : xAt mX4_pushRun 12 (.iload 4) 2 14 := ⟨by decide +kernel, rfl⟩
theorem eX4_pushRun_14 : xAt mX4_pushRun 14 (.iadd) 1 15 := ⟨by decide +kernel, rfl⟩
theorem eX4_pushRun_15 : xAt mX4_pushRun 15 (.invokevirtual 19) 3 18 := ⟨by decide +kernel, rfl⟩
theorem eX4_pushRun_18 : xAt mX4_pushRun 18 (.invokevirtual 23) 3 21 := ⟨by decide +kernel, rfl⟩
theorem eX4_pushRun_21 : xAt mX4_pushRun 21 (.iinc 4 1) 3 24 := ⟨by decide +kernel, rfl⟩
theorem eX4_pushRun_24 : xBr mX4_pushRun 24 .goto (-21) 27 3 := ⟨by decide +kernel, rfl, by decide⟩
theorem eX4_pushRun_27 : xAt mX4_pushRun 27 (.return_) 1 28 := ⟨by decide +kernel, rfl⟩
theorem eX4_around_0 : xAt mX4_around 0 (.aload_n 0) 1 1 := ⟨by decide +kernel, rfl⟩
theorem eX4_around_1 : xAt mX4_around 1 (.getfield 15) 3 4 := ⟨by decide +kernel, rfl⟩
theorem eX4_around_4 : xBr mX4_around 4 (.ifCond .gt) (5) 7 9 := ⟨by decide +kernel, rfl, by decide⟩
theorem eX4_around_7 : xAt mX4_around 7 (.iconst (-1)) 1 8 := ⟨by decide +kernel, rfl⟩
theorem eX4_around_8 : xAt mX4_around 8 (.ireturn) 1 9 := ⟨by decide +kernel, rfl⟩
theorem eX4_around_9 : xAt mX4_around 9 (.iload_n 1) 1 10 := ⟨by decide +kernel, rfl⟩
theorem eX4_around_10 : xAt mX4_around 10 (.aload_n 0) 1 11 := ⟨by decide +kernel, rfl⟩
theorem eX4_around_11 : xAt mX4_around 11 (.getfield 15) 3 14 := ⟨by decide +kernel, rfl⟩
theorem eX4_around_14 : xAt mX4_around 14 (.irem) 1 15 := ⟨by decide +kernel, rfl⟩
theorem eX4_around_15 : xAt mX4_around 15 (.istore_n 2) 1 16 := ⟨by decide +kernel, rfl⟩
theorem eX4_around_16 : xAt mX4_around 16 (.aload_n 0) 1 17 := ⟨by decide +kernel, rfl⟩
theorem eX4_around_17 : xAt mX4_around 17 (.getfield 9) 3 20 := ⟨by decide +kernel, rfl⟩
theorem eX4_around_20 : xAt mX4_around 20 (.iload_n 2) 1 21 := ⟨by decide +kernel, rfl⟩
theorem eX4_around_21 : xBr mX4_around 21 (.ifCond .ge) (12) 24 33 := ⟨by decide +kernel, rfl, by decide⟩
theorem eX4_around_24 : xAt mX4_around 24 (.iload_n 2) 1 25 := ⟨by decide +kernel, rfl⟩
theorem eX4_around_25 : xAt mX4_around 25 (.aload_n 0) 1 26 := ⟨by decide +kernel, rfl⟩
theorem eX4_around_26 : xAt mX4_around 26 (.getfield 15) 3 29 := ⟨by decide +kernel, rfl⟩
theorem eX4_around_29 : xAt mX4_around 29 (.iadd) 1 30 := ⟨by decide +kernel, rfl⟩
theorem eX4_around_30 : xBr mX4_around 30 .goto (4) 33 34 := ⟨by decide +kernel, rfl, by decide⟩
theorem eX4_around_33 : xAt mX4_around 33 (.iload_n 2) 1 34 := ⟨by decide +kernel, rfl⟩
theorem eX4_around_34 : xAt mX4_around 34 (.iaload) 1 35 := ⟨by decide +kernel, rfl⟩
theorem eX4_around_35 : xAt mX4_around 35 (.ireturn) 1 36 := ⟨by decide +kernel, rfl⟩
theorem eX4_isShared_0 : xAt mX4_isShared 0 (.iconst 0) 1 1 := ⟨by decide +kernel, rfl⟩
theorem eX4_isShared_1 : xAt mX4_isShared 1 (.istore_n 3) 1 2 := ⟨by decide +kernel, rfl⟩
theorem eX4_isShared_2 : xAt mX4_isShared 2 (.iload_n 3) 1 3 := ⟨by decide +kernel, rfl⟩
theorem eX4_isShared_3 : xAt mX4_isShared 3 (.aload_n 2) 1 4 := ⟨by decide +kernel, rfl⟩
theorem eX4_isShared_4 : xAt mX4_isShared 4 (.getfield 15) 3 7 := ⟨by decide +kernel, rfl⟩
theorem eX4_isShared_7 : xBr mX4_isShared 7 (.if_icmp .ge) (42) 10 49 := ⟨by decide +kernel, rfl, by decide⟩
theorem eX4_isShared_10 : xAt mX4_isShared 10 (.aload_n 2) 1 11 := ⟨by decide +kernel, rfl⟩
theorem eX4_isShared_11 : xAt mX4_isShared 11 (.getfield 9) 3 14 := ⟨by decide +kernel, rfl⟩
theorem eX4_isShared_14 : xAt mX4_isShared 14 (.iload_n 3) 1 15 := ⟨by decide +kernel, rfl⟩
theorem eX4_isShared_15 : xAt mX4_isShared 15 (.iaload) 1 16 := ⟨by decide +kernel, rfl⟩
theorem eX4_isShared_16 : xAt mX4_isShared 16 (.aload_n 0) 1 17 := ⟨by decide +kernel, rfl⟩
theorem eX4_isShared_17 : xAt mX4_isShared 17 (.iload_n 1) 1 18 := ⟨by decide +kernel, rfl⟩
theorem eX4_isShared_18 : xAt mX4_isShared 18 (.iconst 1) 1 19 := ⟨by decide +kernel, rfl⟩
theorem eX4_isShared_19 : xAt mX4_isShared 19 (.iadd) 1 20 := ⟨by decide +kernel, rfl⟩
theorem eX4_isShared_20 : xAt mX4_isShared 20 (.invokevirtual 19) 3 23 := ⟨by decide +kernel, rfl⟩
theorem eX4_isShared_23 : xBr mX4_isShared 23 (.if_icmp .ne) (20) 26 43 := ⟨by decide +kernel, rfl, by decide⟩
theorem eX4_isShared_26 : xAt mX4_isShared 26 (.aload_n 2) 1 27 := ⟨by decide +kernel, rfl⟩
theorem eX4_isShared_27 : xAt mX4_isShared 27 (.iload_n 3) 1 28 := ⟨by decide +kernel, rfl⟩
theorem eX4_isShared_28 : xAt mX4_isShared 28 (.iconst 1) 1 29 := ⟨by decide +kernel, rfl⟩
theorem eX4_isShared_29 : xAt mX4_isShared 29 (.iadd) 1 30 := ⟨by decide +kernel, rfl⟩
theorem eX4_isShared_30 : xAt mX4_isShared 30 (.invokevirtual 19) 3 33 := ⟨by decide +kernel, rfl⟩
theorem eX4_isShared_33 : xAt mX4_isShared 33 (.aload_n 0) 1 34 := ⟨by decide +kernel, rfl⟩
theorem eX4_isShared_34 : xAt mX4_isShared 34 (.iload_n 1) 1 35 := ⟨by decide +kernel, rfl⟩
theorem eX4_isShared_35 : xAt mX4_isShared 35 (.invokevirtual 19) 3 38 := ⟨by decide +kernel, rfl⟩
theorem eX4_isShared_38 : xBr mX4_isShared 38 (.if_icmp .ne) (5) 41 43 := ⟨by decide +kernel, rfl, by decide⟩
theorem eX4_isShared_41 : xAt mX4_isShared 41 (.iconst 1) 1 42 := ⟨by decide +kernel, rfl⟩
theorem eX4_isShared_42 : xAt mX4_isShared 42 (.ireturn) 1 43 := ⟨by decide +kernel, rfl⟩
theorem eX4_isShared_43 : xAt mX4_isShared 43 (.iinc 3 1) 3 46 := ⟨by decide +kernel, rfl⟩
theorem eX4_isShared_46 : xBr mX4_isShared 46 .goto (-44) 49 2 := ⟨by decide +kernel, rfl, by decide⟩
theorem eX4_isShared_49 : xAt mX4_isShared 49 (.iconst 0) 1 50 := ⟨by decide +kernel, rfl⟩
theorem eX4_isShared_50 : xAt mX4_isShared 50 (.ireturn) 1 51 := ⟨by decide +kernel, rfl⟩
theorem eX4_sharedWith_0 : xAt mX4_sharedWith 0 (.iconst 0) 1 1 := ⟨by decide +kernel, rfl⟩
theorem eX4_sharedWith_1 : xAt mX4_sharedWith 1 (.istore_n 2) 1 2 := ⟨by decide +kernel, rfl⟩
theorem eX4_sharedWith_2 : xAt mX4_sharedWith 2 (.iconst 0) 1 3 := ⟨by decide +kernel, rfl⟩
theorem eX4_sharedWith_3 : xAt mX4_sharedWith 3 (.istore_n 3) 1 4 := ⟨by decide +kernel, rfl⟩
theorem eX4_sharedWith_4 : xAt mX4_sharedWith 4 (.iload_n 3) 1 5 := ⟨by decide +kernel, rfl⟩
theorem eX4_sharedWith_5 : xAt mX4_sharedWith 5 (.aload_n 0) 1 6 := ⟨by decide +kernel, rfl⟩
theorem eX4_sharedWith_6 : xAt mX4_sharedWith 6 (.getfield 15) 3 9 := ⟨by decide +kernel, rfl⟩
theorem eX4_sharedWith_9 : xBr mX4_sharedWith 9 (.if_icmp .ge) (21) 12 30 := ⟨by decide +kernel, rfl, by decide⟩
theorem eX4_sharedWith_12 : xAt mX4_sharedWith 12 (.aload_n 0) 1 13 := ⟨by decide +kernel, rfl⟩
theorem eX4_sharedWith_13 : xAt mX4_sharedWith 13 (.iload_n 3) 1 14 := ⟨by decide +kernel, rfl⟩
theorem eX4_sharedWith_14 : xAt mX4_sharedWith 14 (.aload_n 1) 1 15 := ⟨by decide +kernel, rfl⟩
theorem eX4_sharedWith_15 : xAt mX4_sharedWith 15 (.invokevirtual 27) 3 18 := ⟨by decide +kernel, rfl⟩
theorem eX4_sharedWith_18 : xBr mX4_sharedWith 18 (.ifCond .eq) (6) 21 24 := ⟨by decide +kernel, rfl, by decide⟩
theorem eX4_sharedWith_21 : xAt mX4_sharedWith 21 (.iinc 2 1) 3 24 := ⟨by decide +kernel, rfl⟩
theorem eX4_sharedWith_24 : xAt mX4_sharedWith 24 (.iinc 3 1) 3 27 := ⟨by decide +kernel, rfl⟩
theorem eX4_sharedWith_27 : xBr mX4_sharedWith 27 .goto (-23) 30 4 := ⟨by decide +kernel, rfl, by decide⟩
theorem eX4_sharedWith_30 : xAt mX4_sharedWith 30 (.iload_n 2) 1 31 := ⟨by decide +kernel, rfl⟩
theorem eX4_sharedWith_31 : xAt mX4_sharedWith 31 (.ireturn) 1 32 := ⟨by decide +kernel, rfl⟩
theorem eX4_startOfShared_0 : xAt mX4_startOfShared 0 (.iconst (-1)) 1 1 := ⟨by decide +kernel, rfl⟩
theorem eX4_startOfShared_1 : xAt mX4_startOfShared 1 (.istore_n 2) 1 2 := ⟨by decide +kernel, rfl⟩
theorem eX4_startOfShared_2 : xAt mX4_startOfShared 2 (.iconst 0) 1 3 := ⟨by decide +kernel, rfl⟩
theorem eX4_startOfShared_3 : xAt mX4_startOfShared 3 (.istore_n 3) 1 4 := ⟨by decide +kernel, rfl⟩
theorem eX4_startOfShared_4 : xAt mX4_startOfShared 4 (.iload_n 3) 1 5 := ⟨by decide +kernel, rfl⟩
theorem eX4_startOfShared_5 : xAt mX4_startOfShared 5 (.aload_n 0) 1 6 := ⟨by decide +kernel, rfl⟩
theorem eX4_startOfShared_6 : xAt mX4_startOfShared 6 (.getfield 15) 3 9 := ⟨by decide +kernel, rfl⟩
theorem eX4_startOfShared_9 : xBr mX4_startOfShared 9 (.if_icmp .ge) (38) 12 47 := ⟨by decide +kernel, rfl, by decide⟩
theorem eX4_startOfShared_12 : xAt mX4_startOfShared 12 (.aload_n 0) 1 13 := ⟨by decide +kernel, rfl⟩
theorem eX4_startOfShared_13 : xAt mX4_startOfShared 13 (.iload_n 3) 1 14 := ⟨by decide +kernel, rfl⟩
theorem eX4_startOfShared_14 : xAt mX4_startOfShared 14 (.aload_n 1) 1 15 := ⟨by decide +kernel, rfl⟩
theorem eX4_startOfShared_15 : xAt mX4_startOfShared 15 (.invokevirtual 27) 3 18 := ⟨by decide +kernel, rfl⟩
theorem eX4_startOfShared_18 : xBr mX4_startOfShared 18 (.ifCond .eq) (23) 21 41 := ⟨by decide +kernel, rfl, by decide⟩
theorem eX4_startOfShared_21 : xAt mX4_startOfShared 21 (.aload_n 0) 1 22 := ⟨by decide +kernel, rfl⟩
theorem eX4_startOfShared_22 : xAt mX4_startOfShared 22 (.iload_n 3) 1 23 := ⟨by decide +kernel, rfl⟩
theorem eX4_startOfShared_23 : xAt mX4_startOfShared 23 (.iconst 1) 1 24 := ⟨by decide +kernel, rfl⟩
theorem eX4_startOfShared_24 : xAt mX4_startOfShared 24 (.isub) 1 25 := ⟨by decide +kernel, rfl⟩
theorem eX4_startOfShared_25 : xAt mX4_startOfShared 25 (.aload_n 1) 1 26 := ⟨by decide +kernel, rfl⟩
theorem eX4_startOfShared_26 : xAt mX4_startOfShared 26 (.invokevirtual 27) 3 29 := ⟨by decide +kernel, rfl⟩
theorem eX4_startOfShared_29 : xBr mX4_startOfShared 29 (.ifCond .ne) (12) 32 41 := ⟨by decide +kernel, rfl, by decide⟩
theorem eX4_startOfShared_32 : xAt mX4_startOfShared 32 (.iload_n 2) 1 33 := ⟨by decide +kernel, rfl⟩
theorem eX4_startOfShared_33 : xAt mX4_startOfShared 33 (.iconst (-1)) 1 34 := ⟨by decide +kernel, rfl⟩
theorem eX4_startOfShared_34 : xBr mX4_startOfShared 34 (.if_icmp .eq) (5) 37 39 := ⟨by decide +kernel, rfl, by decide⟩
theorem eX4_startOfShared_37 : xAt mX4_startOfShared 37 (.iconst (-1)) 1 38 := ⟨by decide +kernel, rfl⟩
theorem eX4_startOfShared_38 : xAt mX4_startOfShared 38 (.ireturn) 1 39 := ⟨by decide +kernel, rfl⟩
theorem eX4_startOfShared_39 : xAt mX4_startOfShared 39 (.iload_n 3) 1 40 := ⟨by decide +kernel, rfl⟩
theorem eX4_startOfShared_40 : xAt mX4_startOfShared 40 (.istore_n 2) 1 41 := ⟨by decide +kernel, rfl⟩
theorem eX4_startOfShared_41 : xAt mX4_startOfShared 41 (.iinc 3 1) 3 44 := ⟨by decide +kernel, rfl⟩
theorem eX4_startOfShared_44 : xBr mX4_startOfShared 44 .goto (-40) 47 4 := ⟨by decide +kernel, rfl, by decide⟩
theorem eX4_startOfShared_47 : xAt mX4_startOfShared 47 (.iload_n 2) 1 48 := ⟨by decide +kernel, rfl⟩
theorem eX4_startOfShared_48 : xAt mX4_startOfShared 48 (.ireturn) 1 49 := ⟨by decide +kernel, rfl⟩
theorem eX5_faultOf_0 : xAt mX5_faultOf 0 (.aload_n 1) 1 1 := ⟨by decide +kernel, rfl⟩
theorem eX5_faultOf_1 : xAt mX5_faultOf 1 (.getfield 19) 3 4 := ⟨by decide +kernel, rfl⟩
theorem eX5_faultOf_4 : xAt mX5_faultOf 4 (.iconst 3) 1 5 := ⟨by decide +kernel, rfl⟩
theorem eX5_faultOf_5 : xBr mX5_faultOf 5 (.if_icmp .lt) (12) 8 17 := ⟨by decide +kernel, rfl, by decide⟩
theorem eX5_faultOf_8 : xAt mX5_faultOf 8 (.aload_n 1) 1 9 := ⟨by decide +kernel, rfl⟩
theorem eX5_faultOf_9 : xAt mX5_faultOf 9 (.getfield 19) 3 12 := ⟨by decide +kernel, rfl⟩
theorem eX5_faultOf_12 : xAt mX5_faultOf 12 (.bipush 12) 2 14 := ⟨by decide +kernel, rfl⟩
theorem eX5_faultOf_14 : xBr mX5_faultOf 14 (.if_icmp .le) (15) 17 29 := ⟨by decide +kernel, rfl, by decide⟩
theorem eX5_faultOf_17 : xAt mX5_faultOf 17 (.aload_n 0) 1 18 := ⟨by decide +kernel, rfl⟩
theorem eX5_faultOf_18 : xAt mX5_faultOf 18 (.aload_n 1) 1 19 := ⟨by decide +kernel, rfl⟩
theorem eX5_faultOf_19 : xAt mX5_faultOf 19 (.getfield 19) 3 22 := ⟨by decide +kernel, rfl⟩
theorem eX5_faultOf_22 : xAt mX5_faultOf 22 (.putfield 9) 3 25 := ⟨by decide +kernel, rfl⟩
theorem eX5_faultOf_25 : xAt mX5_faultOf 25 (.sipush (-201)) 3 28 := ⟨by decide +kernel, rfl⟩
theorem eX5_faultOf_28 : xAt mX5_faultOf 28 (.ireturn) 1 29 := ⟨by decide +kernel, rfl⟩
theorem eX5_faultOf_29 : xAt mX5_faultOf 29 (.aload_n 0) 1 30 := ⟨by decide +kernel, rfl⟩
theorem eX5_faultOf_30 : xAt mX5_faultOf 30 (.aload_n 1) 1 31 := ⟨by decide +kernel, rfl⟩
theorem eX5_faultOf_31 : xAt mX5_faultOf 31 (.invokevirtual 24) 3 34 := ⟨by decide +kernel, rfl⟩
theorem eX5_faultOf_34 : xBr mX5_faultOf 34 (.ifCond .eq) (9) 37 43 := ⟨by decide +kernel, rfl, by decide⟩
theorem eX5_faultOf_37 : xAt mX5_faultOf 37 (.sipush (-202)) 3 40 := ⟨by decide +kernel, rfl⟩
theorem eX5_faultOf_40 : xBr mX5_faultOf 40 .goto (18) 43 58 := ⟨by decide +kernel, rfl, by decide⟩
theorem eX5_faultOf_43 : xAt mX5_faultOf 43 (.aload_n 0) 1 44 := ⟨by decide +kernel, rfl⟩
theorem eX5_faultOf_44 : xAt mX5_faultOf 44 (.aload_n 1) 1 45 := ⟨by decide +kernel, rfl⟩
theorem eX5_faultOf_45 : xAt mX5_faultOf 45 (.invokevirtual 28) 3 48 := ⟨by decide +kernel, rfl⟩
theorem eX5_faultOf_48 : xBr mX5_faultOf 48 (.ifCond .eq) (9) 51 57 := ⟨by decide +kernel, rfl, by decide⟩
theorem eX5_faultOf_51 : xAt mX5_faultOf 51 (.sipush (-203)) 3 54 := ⟨by decide +kernel, rfl⟩
theorem eX5_faultOf_54 : xBr mX5_faultOf 54 .goto (4) 57 58 := ⟨by decide +kernel, rfl, by decide⟩
theorem eX5_faultOf_57 : xAt mX5_faultOf 57 (.iconst 0) 1 58 := ⟨by decide +kernel, rfl⟩
theorem eX5_faultOf_58 : xAt mX5_faultOf 58 (.ireturn) 1 59 := ⟨by decide +kernel, rfl⟩
theorem eX5_findsTwins_0 : xAt mX5_findsTwins 0 (.iconst 0) 1 1 := ⟨by decide +kernel, rfl⟩
theorem eX5_findsTwins_1 : xAt mX5_findsTwins 1 (.istore_n 2) 1 2 := ⟨by decide +kernel, rfl⟩
theorem eX5_findsTwins_2 : xAt mX5_findsTwins 2 (.iload_n 2) 1 3 := ⟨by decide +kernel, rfl⟩
theorem eX5_findsTwins_3 : xAt mX5_findsTwins 3 (.aload_n 1) 1 4 := ⟨by decide +kernel, rfl⟩
theorem eX5_findsTwins_4 : xAt mX5_findsTwins 4 (.getfield 19) 3 7 := ⟨by decide +kernel, rfl⟩
theorem eX5_findsTwins_7 : xBr mX5_findsTwins 7 (.if_icmp .ge) (49) 10 56 := ⟨by decide +kernel, rfl, by decide⟩
theorem eX5_findsTwins_10 : xAt mX5_findsTwins 10 (.iload_n 2) 1 11 := ⟨by decide +kernel, rfl⟩
theorem eX5_findsTwins_11 : xAt mX5_findsTwins 11 (.iconst 1) 1 12 := ⟨by decide +kernel, rfl⟩
theorem eX5_findsTwins_12 : xAt mX5_findsTwins 12 (.iadd) 1 13 := ⟨by decide +kernel, rfl⟩
theorem eX5_findsTwins_13 : xAt mX5_findsTwins 13 (.istore_n 3) 1 14 := ⟨by decide +kernel, rfl⟩
theorem eX5_findsTwins_14 : xAt mX5_findsTwins 14 (.iload_n 3) 1 15 := ⟨by decide +kernel, rfl⟩
theorem eX5_findsTwins_15 : xAt mX5_findsTwins 15 (.aload_n 1) 1 16 := ⟨by decide +kernel, rfl⟩
theorem eX5_findsTwins_16 : xAt mX5_findsTwins 16 (.getfield 19) 3 19 := ⟨by decide +kernel, rfl⟩
theorem eX5_findsTwins_19 : xBr mX5_findsTwins 19 (.if_icmp .ge) (31) 22 50 := ⟨by decide +kernel, rfl, by decide⟩
theorem eX5_findsTwins_22 : xAt mX5_findsTwins 22 (.aload_n 1) 1 23 := ⟨by decide +kernel, rfl⟩
theorem eX5_findsTwins_23 : xAt mX5_findsTwins 23 (.getfield 31) 3 26 := ⟨by decide +kernel, rfl⟩
theorem eX5_findsTwins_26 : xAt mX5_findsTwins 26 (.iload_n 2) 1 27 := ⟨by decide +kernel, rfl⟩
theorem eX5_findsTwins_27 : xAt mX5_findsTwins 27 (.iaload) 1 28 := ⟨by decide +kernel, rfl⟩
theorem eX5_findsTwins_28 : xAt mX5_findsTwins 28 (.aload_n 1) 1 29 := ⟨by decide +kernel, rfl⟩
theorem eX5_findsTwins_29 : xAt mX5_findsTwins 29 (.getfield 31) 3 32 := ⟨by decide +kernel, rfl⟩
theorem eX5_findsTwins_32 : xAt mX5_findsTwins 32 (.iload_n 3) 1 33 := ⟨by decide +kernel, rfl⟩
theorem eX5_findsTwins_33 : xAt mX5_findsTwins 33 (.iaload) 1 34 := ⟨by decide +kernel, rfl⟩
theorem eX5_findsTwins_34 : xBr mX5_findsTwins 34 (.if_icmp .ne) (10) 37 44 := ⟨by decide +kernel, rfl, by decide⟩
theorem eX5_findsTwins_37 : xAt mX5_findsTwins 37 (.aload_n 0) 1 38 := ⟨by decide +kernel, rfl⟩
theorem eX5_findsTwins_38 : xAt mX5_findsTwins 38 (.iload_n 3) 1 39 := ⟨by decide +kernel, rfl⟩
theorem eX5_findsTwins_39 : xAt mX5_findsTwins 39 (.putfield 9) 3 42 := ⟨by decide +kernel, rfl⟩
theorem eX5_findsTwins_42 : xAt mX5_findsTwins 42 (.iconst 1) 1 43 := ⟨by decide +kernel, rfl⟩
theorem eX5_findsTwins_43 : xAt mX5_findsTwins 43 (.ireturn) 1 44 := ⟨by decide +kernel, rfl⟩
theorem eX5_findsTwins_44 : xAt mX5_findsTwins 44 (.iinc 3 1) 3 47 := ⟨by decide +kernel, rfl⟩
theorem eX5_findsTwins_47 : xBr mX5_findsTwins 47 .goto (-33) 50 14 := ⟨by decide +kernel, rfl, by decide⟩
theorem eX5_findsTwins_50 : xAt mX5_findsTwins 50 (.iinc 2 1) 3 53 := ⟨by decide +kernel, rfl⟩
theorem eX5_findsTwins_53 : xBr mX5_findsTwins 53 .goto (-51) 56 2 := ⟨by decide +kernel, rfl, by decide⟩
theorem eX5_findsTwins_56 : xAt mX5_findsTwins 56 (.iconst 0) 1 57 := ⟨by decide +kernel, rfl⟩
theorem eX5_findsTwins_57 : xAt mX5_findsTwins 57 (.ireturn) 1 58 := ⟨by decide +kernel, rfl⟩
theorem eX5_findsCrossing_0 : xAt mX5_findsCrossing 0 (.iconst 0) 1 1 := ⟨by decide +kernel, rfl⟩
theorem eX5_findsCrossing_1 : xAt mX5_findsCrossing 1 (.istore_n 2) 1 2 := ⟨by decide +kernel, rfl⟩
theorem eX5_findsCrossing_2 : xAt mX5_findsCrossing 2 (.iload_n 2) 1 3 := ⟨by decide +kernel, rfl⟩
theorem eX5_findsCrossing_3 : xAt mX5_findsCrossing 3 (.aload_n 1) 1 4 := ⟨by decide +kernel, rfl⟩
theorem eX5_findsCrossing_4 : xAt mX5_findsCrossing 4 (.getfield 19) 3 7 := ⟨by decide +kernel, rfl⟩
theorem eX5_findsCrossing_7 : xBr mX5_findsCrossing 7 (.if_icmp .ge) (115) 10 122 := ⟨by decide +kernel, rfl, by decide⟩
theorem eX5_findsCrossing_10 : xAt mX5_findsCrossing 10 (.iload_n 2) 1 11 := ⟨by decide +kernel, rfl⟩
theorem eX5_findsCrossing_11 : xAt mX5_findsCrossing 11 (.iconst 1) 1 12 := ⟨by decide +kernel, rfl⟩
theorem eX5_findsCrossing_12 : xAt mX5_findsCrossing 12 (.iadd) 1 13 := ⟨by decide +kernel, rfl⟩
theorem eX5_findsCrossing_13 : xAt mX5_findsCrossing 13 (.istore_n 3) 1 14 := ⟨by decide +kernel, rfl⟩
theorem eX5_findsCrossing_14 : xAt mX5_findsCrossing 14 (.iload_n 3) 1 15 := ⟨by decide +kernel, rfl⟩
theorem eX5_findsCrossing_15 : xAt mX5_findsCrossing 15 (.aload_n 1) 1 16 := ⟨by decide +kernel, rfl⟩
theorem eX5_findsCrossing_16 : xAt mX5_findsCrossing 16 (.getfield 19) 3 19 := ⟨by decide +kernel, rfl⟩
theorem eX5_findsCrossing_19 : xBr mX5_findsCrossing 19 (.if_icmp .ge) (97) 22 116 := ⟨by decide +kernel, rfl, by decide⟩
theorem eX5_findsCrossing_22 : xAt mX5_findsCrossing 22 (.iload_n 3) 1 23 := ⟨by decide +kernel, rfl⟩
theorem eX5_findsCrossing_23 : xAt mX5_findsCrossing 23 (.iload_n 2) 1 24 := ⟨by decide +kernel, rfl⟩
theorem eX5_findsCrossing_24 : xAt mX5_findsCrossing 24 (.iconst 1) 1 25 := ⟨by decide +kernel, rfl⟩
theorem eX5_findsCrossing_25 : xAt mX5_findsCrossing 25 (.iadd) 1 26 := ⟨by decide +kernel, rfl⟩
theorem eX5_findsCrossing_26 : xBr mX5_findsCrossing 26 (.if_icmp .eq) (17) 29 43 := ⟨by decide +kernel, rfl, by decide⟩
theorem eX5_findsCrossing_29 : xAt mX5_findsCrossing 29 (.iload_n 2) 1 30 := ⟨by decide +kernel, rfl⟩
theorem eX5_findsCrossing_30 : xBr mX5_findsCrossing 30 (.ifCond .ne) (17) 33 47 := ⟨by decide +kernel, rfl, by decide⟩
theorem eX5_findsCrossing_33 : xAt mX5_findsCrossing 33 (.iload_n 3) 1 34 := ⟨by decide +kernel, rfl⟩
theorem eX5_findsCrossing_34 : xAt mX5_findsCrossing 34 (.aload_n 1) 1 35 := ⟨by decide +kernel, rfl⟩
theorem eX5_findsCrossing_35 : xAt mX5_findsCrossing 35 (.getfield 19) 3 38 := ⟨by decide +kernel, rfl⟩
theorem eX5_findsCrossing_38 : xAt mX5_findsCrossing 38 (.iconst 1) 1 39 := ⟨by decide +kernel, rfl⟩
theorem eX5_findsCrossing_39 : xAt mX5_findsCrossing 39 (.isub) 1 40 := ⟨by decide +kernel, rfl⟩
theorem eX5_findsCrossing_40 : xBr mX5_findsCrossing 40 (.if_icmp .ne) (7) 43 47 := ⟨by decide +kernel, rfl, by decide⟩
theorem eX5_findsCrossing_43 : xAt mX5_findsCrossing 43 (.iconst 1) 1 44 := ⟨by decide +kernel, rfl⟩
theorem eX5_findsCrossing_44 : xBr mX5_findsCrossing 44 .goto (4) 47 48 := ⟨by decide +kernel, rfl, by decide⟩
theorem eX5_findsCrossing_47 : xAt mX5_findsCrossing 47 (.iconst 0) 1 48 := ⟨by decide +kernel, rfl⟩
theorem eX5_findsCrossing_48 : xAt mX5_findsCrossing 48 (.istore 4) 2 50 := ⟨by decide +kernel, rfl⟩
theorem eX5_findsCrossing_50 : xAt mX5_findsCrossing 50 (.aload_n 0) 1 51 := ⟨by decide +kernel, rfl⟩
theorem eX5_findsCrossing_51 : xAt mX5_findsCrossing 51 (.getfield 15) 3 54 := ⟨by decide +kernel, rfl⟩
theorem eX5_findsCrossing_54 : xAt mX5_findsCrossing 54 (.aload_n 1) 1 55 := ⟨by decide +kernel, rfl⟩
theorem eX5_findsCrossing_55 : xAt mX5_findsCrossing 55 (.iload_n 2) 1 56 := ⟨by decide +kernel, rfl⟩
theorem eX5_findsCrossing_56 : xAt mX5_findsCrossing 56 (.invokevirtual 35) 3 59 := ⟨by decide +kernel, rfl⟩
theorem eX5_findsCrossing_59 : xAt mX5_findsCrossing 59 (.aload_n 1) 1 60 := ⟨by decide +kernel, rfl⟩
theorem eX5_findsCrossing_60 : xAt mX5_findsCrossing 60 (.iload_n 2) 1 61 := ⟨by decide +kernel, rfl⟩
theorem eX5_findsCrossing_61 : xAt mX5_findsCrossing 61 (.iconst 1) 1 62 := ⟨by decide +kernel, rfl⟩
theorem eX5_findsCrossing_62 : xAt mX5_findsCrossing 62 (.iadd) 1 63 := ⟨by decide +kernel, rfl⟩
theorem eX5_findsCrossing_63 : xAt mX5_findsCrossing 63 (.invokevirtual 35) 3 66 := ⟨by decide +kernel, rfl⟩
theorem eX5_findsCrossing_66 : xAt mX5_findsCrossing 66 (.aload_n 1) 1 67 := ⟨by decide +kernel, rfl⟩
theorem eX5_findsCrossing_67 : xAt mX5_findsCrossing 67 (.iload_n 3) 1 68 := ⟨by decide +kernel, rfl⟩
theorem eX5_findsCrossing_68 : xAt mX5_findsCrossing 68 (.invokevirtual 35) 3 71 := ⟨by decide +kernel, rfl⟩
theorem eX5_findsCrossing_71 : xAt mX5_findsCrossing 71 (.aload_n 1) 1 72 := ⟨by decide +kernel, rfl⟩
theorem eX5_findsCrossing_72 : xAt mX5_findsCrossing 72 (.iload_n 3) 1 73 := ⟨by decide +kernel, rfl⟩
theorem eX5_findsCrossing_73 : xAt mX5_findsCrossing 73 (.iconst 1) 1 74 := ⟨by decide +kernel, rfl⟩
theorem eX5_findsCrossing_74 : xAt mX5_findsCrossing 74 (.iadd) 1 75 := ⟨by decide +kernel, rfl⟩
theorem eX5_findsCrossing_75 : xAt mX5_findsCrossing 75 (.invokevirtual 35) 3 78 := ⟨by decide +kernel, rfl⟩
theorem eX5_findsCrossing_78 : xAt mX5_findsCrossing 78 (.invokevirtual 39) 3 81 := ⟨by decide +kernel, rfl⟩
theorem eX5_findsCrossing_81 : xAt mX5_findsCrossing 81 (.istore 5) 2 83 := ⟨by decide +kernel, rfl⟩
theorem eX5_findsCrossing_83 : xAt mX5_findsCrossing 83 (.iload 5) 2 85 := ⟨by decide +kernel, rfl⟩
theorem eX5_findsCrossing_85 : xAt mX5_findsCrossing 85 (.iload 4) 2 87 := ⟨by decide +kernel, rfl⟩
theorem eX5_findsCrossing_87 : xBr mX5_findsCrossing 87 (.ifCond .eq) (7) 90 94 := ⟨by decide +kernel, rfl, by decide⟩
theorem eX5_findsCrossing_90 : xAt mX5_findsCrossing 90 (.iconst 2) 1 91 := ⟨by decide +kernel, rfl⟩
theorem eX5_findsCrossing_91 : xBr mX5_findsCrossing 91 .goto (4) 94 95 := ⟨by decide +kernel, rfl, by decide⟩
theorem eX5_findsCrossing_94 : xAt mX5_findsCrossing 94 (.iconst 0) 1 95 := ⟨by decide +kernel, rfl⟩
theorem eX5_findsCrossing_95 : xBr mX5_findsCrossing 95 (.if_icmp .eq) (15) 98 110 := ⟨by decide +kernel, rfl, by decide⟩
theorem eX5_findsCrossing_98 : xAt mX5_findsCrossing 98 (.aload_n 0) 1 99 := ⟨by decide +kernel, rfl⟩
theorem eX5_findsCrossing_99 : xAt mX5_findsCrossing 99 (.bipush 100) 2 101 := ⟨by decide +kernel, rfl⟩
theorem eX5_findsCrossing_101 : xAt mX5_findsCrossing 101 (.iload_n 2) 1 102 := ⟨by decide +kernel, rfl⟩
theorem eX5_findsCrossing_102 : xAt mX5_findsCrossing 102 (.imul) 1 103 := ⟨by decide +kernel, rfl⟩
theorem eX5_findsCrossing_103 : xAt mX5_findsCrossing 103 (.iload_n 3) 1 104 := ⟨by decide +kernel, rfl⟩
theorem eX5_findsCrossing_104 : xAt mX5_findsCrossing 104 (.iadd) 1 105 := ⟨by decide +kernel, rfl⟩
theorem eX5_findsCrossing_105 : xAt mX5_findsCrossing 105 (.putfield 9) 3 108 := ⟨by decide +kernel, rfl⟩
theorem eX5_findsCrossing_108 : xAt mX5_findsCrossing 108 (.iconst 1) 1 109 := ⟨by decide +kernel, rfl⟩
theorem eX5_findsCrossing_109 : xAt mX5_findsCrossing 109 (.ireturn) 1 110 := ⟨by decide +kernel, rfl⟩
theorem eX5_findsCrossing_110 : xAt mX5_findsCrossing 110 (.iinc 3 1) 3 113 := ⟨by decide +kernel, rfl⟩
theorem eX5_findsCrossing_113 : xBr mX5_findsCrossing 113 .goto (-99) 116 14 := ⟨by decide +kernel, rfl, by decide⟩
theorem eX5_findsCrossing_116 : xAt mX5_findsCrossing 116 (.iinc 2 1) 3 119 := ⟨by decide +kernel, rfl⟩
theorem eX5_findsCrossing_119 : xBr mX5_findsCrossing 119 .goto (-117) 122 2 := ⟨by decide +kernel, rfl, by decide⟩
theorem eX5_findsCrossing_122 : xAt mX5_findsCrossing 122 (.iconst 0) 1 123 := ⟨by decide +kernel, rfl⟩
theorem eX5_findsCrossing_123 : xAt mX5_findsCrossing 123 (.ireturn) 1 124 := ⟨by decide +kernel, rfl⟩
theorem eX5_common_0 : xAt mX5_common 0 (.aload_n 0) 1 1 := ⟨by decide +kernel, rfl⟩
theorem eX5_common_1 : xAt mX5_common 1 (.getfield 15) 3 4 := ⟨by decide +kernel, rfl⟩
theorem eX5_common_4 : xAt mX5_common 4 (.aload_n 1) 1 5 := ⟨by decide +kernel, rfl⟩
theorem eX5_common_5 : xAt mX5_common 5 (.iload_n 2) 1 6 := ⟨by decide +kernel, rfl⟩
theorem eX5_common_6 : xAt mX5_common 6 (.invokevirtual 35) 3 9 := ⟨by decide +kernel, rfl⟩
theorem eX5_common_9 : xAt mX5_common 9 (.aload_n 1) 1 10 := ⟨by decide +kernel, rfl⟩
theorem eX5_common_10 : xAt mX5_common 10 (.iload_n 2) 1 11 := ⟨by decide +kernel, rfl⟩
theorem eX5_common_11 : xAt mX5_common 11 (.iconst 1) 1 12 := ⟨by decide +kernel, rfl⟩
theorem eX5_common_12 : xAt mX5_common 12 (.iadd) 1 13 := ⟨by decide +kernel, rfl⟩
theorem eX5_common_13 : xAt mX5_common 13 (.invokevirtual 35) 3 16 := ⟨by decide +kernel, rfl⟩
theorem eX5_common_16 : xAt mX5_common 16 (.aload_n 3) 1 17 := ⟨by decide +kernel, rfl⟩
theorem eX5_common_17 : xAt mX5_common 17 (.iload 4) 2 19 := ⟨by decide +kernel, rfl⟩
theorem eX5_common_19 : xAt mX5_common 19 (.invokevirtual 35) 3 22 := ⟨by decide +kernel, rfl⟩
theorem eX5_common_22 : xAt mX5_common 22 (.aload_n 3) 1 23 := ⟨by decide +kernel, rfl⟩
theorem eX5_common_23 : xAt mX5_common 23 (.iload 4) 2 25 := ⟨by decide +kernel, rfl⟩
theorem eX5_common_25 : xAt mX5_common 25 (.iconst 1) 1 26 := ⟨by decide +kernel, rfl⟩
theorem eX5_common_26 : xAt mX5_common 26 (.iadd) 1 27 := ⟨by decide +kernel, rfl⟩
theorem eX5_common_27 : xAt mX5_common 27 (.invokevirtual 35) 3 30 := ⟨by decide +kernel, rfl⟩
theorem eX5_common_30 : xAt mX5_common 30 (.invokevirtual 39) 3 33 := ⟨by decide +kernel, rfl⟩
theorem eX5_common_33 : xAt mX5_common 33 (.ireturn) 1 34 := ⟨by decide +kernel, rfl⟩
theorem eX5_settle_0 : xAt mX5_settle 0 (.iconst 0) 1 1 := ⟨by decide +kernel, rfl⟩
theorem eX5_settle_1 : xAt mX5_settle 1 (.istore_n 3) 1 2 := ⟨by decide +kernel, rfl⟩
theorem eX5_settle_2 : xAt mX5_settle 2 (.iconst 1) 1 3 := ⟨by decide +kernel, rfl⟩
theorem eX5_settle_3 : xAt mX5_settle 3 (.istore 4) 2 5 := ⟨by decide +kernel, rfl⟩
theorem eX5_settle_5 : xAt mX5_settle 5 (.iload 4) 2 7 := ⟨by decide +kernel, rfl⟩
theorem eX5_settle_7 : xAt mX5_settle 7 (.aload_n 1) 1 8 := ⟨by decide +kernel, rfl⟩
theorem eX5_settle_8 : xAt mX5_settle 8 (.getfield 19) 3 11 := ⟨by decide +kernel, rfl⟩
theorem eX5_settle_11 : xBr mX5_settle 11 (.if_icmp .ge) (33) 14 44 := ⟨by decide +kernel, rfl, by decide⟩
theorem eX5_settle_14 : xAt mX5_settle 14 (.aload_n 0) 1 15 := ⟨by decide +kernel, rfl⟩
theorem eX5_settle_15 : xAt mX5_settle 15 (.getfield 15) 3 18 := ⟨by decide +kernel, rfl⟩
theorem eX5_settle_18 : xAt mX5_settle 18 (.aload_n 1) 1 19 := ⟨by decide +kernel, rfl⟩
theorem eX5_settle_19 : xAt mX5_settle 19 (.iload 4) 2 21 := ⟨by decide +kernel, rfl⟩
theorem eX5_settle_21 : xAt mX5_settle 21 (.invokevirtual 35) 3 24 := ⟨by decide +kernel, rfl⟩
theorem eX5_settle_24 : xAt mX5_settle 24 (.aload_n 1) 1 25 := ⟨by decide +kernel, rfl⟩
theorem eX5_settle_25 : xAt mX5_settle 25 (.iload_n 3) 1 26 := ⟨by decide +kernel, rfl⟩
theorem eX5_settle_26 : xAt mX5_settle 26 (.invokevirtual 35) 3 29 := ⟨by decide +kernel, rfl⟩
theorem eX5_settle_29 : xAt mX5_settle 29 (.invokevirtual 45) 3 32 := ⟨by decide +kernel, rfl⟩
theorem eX5_settle_32 : xBr mX5_settle 32 (.ifCond .eq) (6) 35 38 := ⟨by decide +kernel, rfl, by decide⟩
theorem eX5_settle_35 : xAt mX5_settle 35 (.iload 4) 2 37 := ⟨by decide +kernel, rfl⟩
theorem eX5_settle_37 : xAt mX5_settle 37 (.istore_n 3) 1 38 := ⟨by decide +kernel, rfl⟩
theorem eX5_settle_38 : xAt mX5_settle 38 (.iinc 4 1) 3 41 := ⟨by decide +kernel, rfl⟩
theorem eX5_settle_41 : xBr mX5_settle 41 .goto (-36) 44 5 := ⟨by decide +kernel, rfl, by decide⟩
theorem eX5_settle_44 : xAt mX5_settle 44 (.aload_n 0) 1 45 := ⟨by decide +kernel, rfl⟩
theorem eX5_settle_45 : xAt mX5_settle 45 (.getfield 15) 3 48 := ⟨by decide +kernel, rfl⟩
theorem eX5_settle_48 : xAt mX5_settle 48 (.aload_n 1) 1 49 := ⟨by decide +kernel, rfl⟩
theorem eX5_settle_49 : xAt mX5_settle 49 (.iload_n 3) 1 50 := ⟨by decide +kernel, rfl⟩
theorem eX5_settle_50 : xAt mX5_settle 50 (.iconst 1) 1 51 := ⟨by decide +kernel, rfl⟩
theorem eX5_settle_51 : xAt mX5_settle 51 (.isub) 1 52 := ⟨by decide +kernel, rfl⟩
theorem eX5_settle_52 : xAt mX5_settle 52 (.invokevirtual 35) 3 55 := ⟨by decide +kernel, rfl⟩
theorem eX5_settle_55 : xAt mX5_settle 55 (.aload_n 1) 1 56 := ⟨by decide +kernel, rfl⟩
theorem eX5_settle_56 : xAt mX5_settle 56 (.iload_n 3) 1 57 := ⟨by decide +kernel, rfl⟩
theorem eX5_settle_57 : xAt mX5_settle 57 (.invokevirtual 35) 3 60 := ⟨by decide +kernel, rfl⟩
theorem eX5_settle_60 : xAt mX5_settle 60 (.aload_n 1) 1 61 := ⟨by decide +kernel, rfl⟩
theorem eX5_settle_61 : xAt mX5_settle 61 (.iload_n 3) 1 62 := ⟨by decide +kernel, rfl⟩
theorem eX5_settle_62 : xAt mX5_settle 62 (.iconst 1) 1 63 := ⟨by decide +kernel, rfl⟩
theorem eX5_settle_63 : xAt mX5_settle 63 (.iadd) 1 64 := ⟨by decide +kernel, rfl⟩
theorem eX5_settle_64 : xAt mX5_settle 64 (.invokevirtual 35) 3 67 := ⟨by decide +kernel, rfl⟩
theorem eX5_settle_67 : xAt mX5_settle 67 (.invokevirtual 49) 3 70 := ⟨by decide +kernel, rfl⟩
theorem eX5_settle_70 : xAt mX5_settle 70 (.istore 4) 2 72 := ⟨by decide +kernel, rfl⟩
theorem eX5_settle_72 : xAt mX5_settle 72 (.iload 4) 2 74 := ⟨by decide +kernel, rfl⟩
theorem eX5_settle_74 : xBr mX5_settle 74 (.ifCond .ge) (7) 77 81 := ⟨by decide +kernel, rfl, by decide⟩
theorem eX5_settle_77 : xAt mX5_settle 77 (.iconst (-1)) 1 78 := ⟨by decide +kernel, rfl⟩
theorem eX5_settle_78 : xBr mX5_settle 78 .goto (4) 81 82 := ⟨by decide +kernel, rfl, by decide⟩
theorem eX5_settle_81 : xAt mX5_settle 81 (.iconst 1) 1 82 := ⟨by decide +kernel, rfl⟩
theorem eX5_settle_82 : xAt mX5_settle 82 (.istore 5) 2 84 := ⟨by decide +kernel, rfl⟩
theorem eX5_settle_84 : xAt mX5_settle 84 (.aload_n 2) 1 85 := ⟨by decide +kernel, rfl⟩
theorem eX5_settle_85 : xAt mX5_settle 85 (.invokevirtual 53) 3 88 := ⟨by decide +kernel, rfl⟩
theorem eX5_settle_88 : xAt mX5_settle 88 (.iconst 0) 1 89 := ⟨by decide +kernel, rfl⟩
theorem eX5_settle_89 : xAt mX5_settle 89 (.istore 6) 2 91 := ⟨by decide +kernel, rfl⟩
theorem eX5_settle_91 : xAt mX5_settle 91 (.iload 6) 2 93 := ⟨by decide +kernel, rfl⟩
theorem eX5_settle_93 : xAt mX5_settle 93 (.aload_n 1) 1 94 := ⟨by decide +kernel, rfl⟩
theorem eX5_settle_94 : xAt mX5_settle 94 (.getfield 19) 3 97 := ⟨by decide +kernel, rfl⟩
theorem eX5_settle_97 : xBr mX5_settle 97 (.if_icmp .ge) (24) 100 121 := ⟨by decide +kernel, rfl, by decide⟩
theorem eX5_settle_100 : xAt mX5_settle 100 (.aload_n 2) 1 101 := ⟨by decide +kernel, rfl⟩
theorem eX5_settle_101 : xAt mX5_settle 101 (.aload_n 1) 1 102 := ⟨by decide +kernel, rfl⟩
theorem eX5_settle_102 : xAt mX5_settle 102 (.iload_n 3) 1 103 := ⟨by decide +kernel, rfl⟩
theorem eX5_settle_103 : xAt mX5_settle 103 (.iload 5) 2 105 := ⟨by decide +kernel, rfl⟩
theorem eX5_settle_105 : xAt mX5_settle 105 (.iload 6) 2 107 := ⟨by decide +kernel, rfl⟩
theorem eX5_settle_107 : xAt mX5_settle 107 (.imul) 1 108 := ⟨by decide +kernel, rfl⟩
theorem eX5_settle_108 : xAt mX5_settle 108 (.iadd) 1 109 := ⟨by decide +kernel, rfl⟩
theorem eX5_settle_109 : xAt mX5_settle 109 (.invokevirtual 35) 3 112 := ⟨by decide +kernel, rfl⟩
theorem eX5_settle_112 : xAt mX5_settle 112 (.invokevirtual 56) 3 115 := ⟨by decide +kernel, rfl⟩
theorem eX5_settle_115 : xAt mX5_settle 115 (.iinc 6 1) 3 118 := ⟨by decide +kernel, rfl⟩
theorem eX5_settle_118 : xBr mX5_settle 118 .goto (-27) 121 91 := ⟨by decide +kernel, rfl, by decide⟩
theorem eX5_settle_121 : xAt mX5_settle 121 (.return_) 1 122 := ⟨by decide +kernel, rfl⟩
theorem eX5_placeOf_0 : xAt mX5_placeOf 0 (.iconst 0) 1 1 := ⟨by decide +kernel, rfl⟩
theorem eX5_placeOf_1 : xAt mX5_placeOf 1 (.istore_n 3) 1 2 := ⟨by decide +kernel, rfl⟩
theorem eX5_placeOf_2 : xAt mX5_placeOf 2 (.iconst 0) 1 3 := ⟨by decide +kernel, rfl⟩
theorem eX5_placeOf_3 : xAt mX5_placeOf 3 (.istore 4) 2 5 := ⟨by decide +kernel, rfl⟩
theorem eX5_placeOf_5 : xAt mX5_placeOf 5 (.iload 4) 2 7 := ⟨by decide +kernel, rfl⟩
theorem eX5_placeOf_7 : xAt mX5_placeOf 7 (.aload_n 2) 1 8 := ⟨by decide +kernel, rfl⟩
theorem eX5_placeOf_8 : xAt mX5_placeOf 8 (.getfield 19) 3 11 := ⟨by decide +kernel, rfl⟩
theorem eX5_placeOf_11 : xBr mX5_placeOf 11 (.if_icmp .ge) (193) 14 204 := ⟨by decide +kernel, rfl, by decide⟩
theorem eX5_placeOf_14 : xAt mX5_placeOf 14 (.aload_n 2) 1 15 := ⟨by decide +kernel, rfl⟩
theorem eX5_placeOf_15 : xAt mX5_placeOf 15 (.iload 4) 2 17 := ⟨by decide +kernel, rfl⟩
theorem eX5_placeOf_17 : xAt mX5_placeOf 17 (.invokevirtual 35) 3 20 := ⟨by decide +kernel, rfl⟩
theorem eX5_placeOf_20 : xAt mX5_placeOf 20 (.istore 5) 2 22 := ⟨by decide +kernel, rfl⟩
theorem eX5_placeOf_22 : xAt mX5_placeOf 22 (.aload_n 2) 1 23 := ⟨by decide +kernel, rfl⟩
theorem eX5_placeOf_23 : xAt mX5_placeOf 23 (.iload 4) 2 25 := ⟨by decide +kernel, rfl⟩
theorem eX5_placeOf_25 : xAt mX5_placeOf 25 (.iconst 1) 1 26 := ⟨by decide +kernel, rfl⟩
theorem eX5_placeOf_26 : xAt mX5_placeOf 26 (.iadd) 1 27 := ⟨by decide +kernel, rfl⟩
theorem eX5_placeOf_27 : xAt mX5_placeOf 27 (.invokevirtual 35) 3 30 := ⟨by decide +kernel, rfl⟩
theorem eX5_placeOf_30 : xAt mX5_placeOf 30 (.istore 6) 2 32 := ⟨by decide +kernel, rfl⟩
theorem eX5_placeOf_32 : xAt mX5_placeOf 32 (.aload_n 0) 1 33 := ⟨by decide +kernel, rfl⟩
theorem eX5_placeOf_33 : xAt mX5_placeOf 33 (.getfield 15) 3 36 := ⟨by decide +kernel, rfl⟩
theorem eX5_placeOf_36 : xAt mX5_placeOf 36 (.iload_n 1) 1 37 := ⟨by decide +kernel, rfl⟩
theorem eX5_placeOf_37 : xAt mX5_placeOf 37 (.iload 5) 2 39 := ⟨by decide +kernel, rfl⟩
theorem eX5_placeOf_39 : xAt mX5_placeOf 39 (.iload 6) 2 41 := ⟨by decide +kernel, rfl⟩
theorem eX5_placeOf_41 : xAt mX5_placeOf 41 (.invokevirtual 60) 3 44 := ⟨by decide +kernel, rfl⟩
theorem eX5_placeOf_44 : xBr mX5_placeOf 44 (.ifCond .eq) (6) 47 50 := ⟨by decide +kernel, rfl, by decide⟩
theorem eX5_placeOf_47 : xAt mX5_placeOf 47 (.iload 4) 2 49 := ⟨by decide +kernel, rfl⟩
theorem eX5_placeOf_49 : xAt mX5_placeOf 49 (.ireturn) 1 50 := ⟨by decide +kernel, rfl⟩
theorem eX5_placeOf_50 : xAt mX5_placeOf 50 (.aload_n 0) 1 51 := ⟨by decide +kernel, rfl⟩
theorem eX5_placeOf_51 : xAt mX5_placeOf 51 (.getfield 15) 3 54 := ⟨by decide +kernel, rfl⟩
theorem eX5_placeOf_54 : xAt mX5_placeOf 54 (.iload 5) 2 56 := ⟨by decide +kernel, rfl⟩
theorem eX5_placeOf_56 : xAt mX5_placeOf 56 (.invokevirtual 64) 3 59 := ⟨by decide +kernel, rfl⟩
theorem eX5_placeOf_59 : xAt mX5_placeOf 59 (.aload_n 0) 1 60 := ⟨by decide +kernel, rfl⟩
theorem eX5_placeOf_60 : xAt mX5_placeOf 60 (.getfield 15) 3 63 := ⟨by decide +kernel, rfl⟩
theorem eX5_placeOf_63 : xAt mX5_placeOf 63 (.iload_n 1) 1 64 := ⟨by decide +kernel, rfl⟩
theorem eX5_placeOf_64 : xAt mX5_placeOf 64 (.invokevirtual 64) 3 67 := ⟨by decide +kernel, rfl⟩
theorem eX5_placeOf_67 : xAt mX5_placeOf 67 (.dcmp .g) 1 68 := ⟨by decide +kernel, rfl⟩
theorem eX5_placeOf_68 : xBr mX5_placeOf 68 (.ifCond .gt) (28) 71 96 := ⟨by decide +kernel, rfl, by decide⟩
theorem eX5_placeOf_71 : xAt mX5_placeOf 71 (.aload_n 0) 1 72 := ⟨by decide +kernel, rfl⟩
theorem eX5_placeOf_72 : xAt mX5_placeOf 72 (.getfield 15) 3 75 := ⟨by decide +kernel, rfl⟩
theorem eX5_placeOf_75 : xAt mX5_placeOf 75 (.iload_n 1) 1 76 := ⟨by decide +kernel, rfl⟩
theorem eX5_placeOf_76 : xAt mX5_placeOf 76 (.invokevirtual 64) 3 79 := ⟨by decide +kernel, rfl⟩
theorem eX5_placeOf_79 : xAt mX5_placeOf 79 (.aload_n 0) 1 80 := ⟨by decide +kernel, rfl⟩
theorem eX5_placeOf_80 : xAt mX5_placeOf 80 (.getfield 15) 3 83 := ⟨by decide +kernel, rfl⟩
theorem eX5_placeOf_83 : xAt mX5_placeOf 83 (.iload 6) 2 85 := ⟨by decide +kernel, rfl⟩
theorem eX5_placeOf_85 : xAt mX5_placeOf 85 (.invokevirtual 64) 3 88 := ⟨by decide +kernel, rfl⟩
theorem eX5_placeOf_88 : xAt mX5_placeOf 88 (.dcmp .g) 1 89 := ⟨by decide +kernel, rfl⟩
theorem eX5_placeOf_89 : xBr mX5_placeOf 89 (.ifCond .ge) (7) 92 96 := ⟨by decide +kernel, rfl, by decide⟩
theorem eX5_placeOf_92 : xAt mX5_placeOf 92 (.iconst 1) 1 93 := ⟨by decide +kernel, rfl⟩
theorem eX5_placeOf_93 : xBr mX5_placeOf 93 .goto (4) 96 97 := ⟨by decide +kernel, rfl, by decide⟩
theorem eX5_placeOf_96 : xAt mX5_placeOf 96 (.iconst 0) 1 97 := ⟨by decide +kernel, rfl⟩
theorem eX5_placeOf_97 : xAt mX5_placeOf 97 (.istore 7) 2 99 := ⟨by decide +kernel, rfl⟩
theorem eX5_placeOf_99 : xAt mX5_placeOf 99 (.aload_n 0) 1 100 := ⟨by decide +kernel, rfl⟩
theorem eX5_placeOf_100 : xAt mX5_placeOf 100 (.getfield 15) 3 103 := ⟨by decide +kernel, rfl⟩
theorem eX5_placeOf_103 : xAt mX5_placeOf 103 (.iload 6) 2 105 := ⟨by decide +kernel, rfl⟩
theorem eX5_placeOf_105 : xAt mX5_placeOf 105 (.invokevirtual 64) 3 108 := ⟨by decide +kernel, rfl⟩
theorem eX5_placeOf_108 : xAt mX5_placeOf 108 (.aload_n 0) 1 109 := ⟨by decide +kernel, rfl⟩
theorem eX5_placeOf_109 : xAt mX5_placeOf 109 (.getfield 15) 3 112 := ⟨by decide +kernel, rfl⟩
theorem eX5_placeOf_112 : xAt mX5_placeOf 112 (.iload_n 1) 1 113 := ⟨by decide +kernel, rfl⟩
theorem eX5_placeOf_113 : xAt mX5_placeOf 113 (.invokevirtual 64) 3 116 := ⟨by decide +kernel, rfl⟩
theorem eX5_placeOf_116 : xAt mX5_placeOf 116 (.dcmp .g) 1 117 := ⟨by decide +kernel, rfl⟩
theorem eX5_placeOf_117 : xBr mX5_placeOf 117 (.ifCond .gt) (28) 120 145 := ⟨by decide +kernel, rfl, by decide⟩
theorem eX5_placeOf_120 : xAt mX5_placeOf 120 (.aload_n 0) 1 121 := ⟨by decide +kernel, rfl⟩
theorem eX5_placeOf_121 : xAt mX5_placeOf 121 (.getfield 15) 3 124 := ⟨by decide +kernel, rfl⟩
theorem eX5_placeOf_124 : xAt mX5_placeOf 124 (.iload_n 1) 1 125 := ⟨by decide +kernel, rfl⟩
theorem eX5_placeOf_125 : xAt mX5_placeOf 125 (.invokevirtual 64) 3 128 := ⟨by decide +kernel, rfl⟩
theorem eX5_placeOf_128 : xAt mX5_placeOf 128 (.aload_n 0) 1 129 := ⟨by decide +kernel, rfl⟩
theorem eX5_placeOf_129 : xAt mX5_placeOf 129 (.getfield 15) 3 132 := ⟨by decide +kernel, rfl⟩
theorem eX5_placeOf_132 : xAt mX5_placeOf 132 (.iload 5) 2 134 := ⟨by decide +kernel, rfl⟩
theorem eX5_placeOf_134 : xAt mX5_placeOf 134 (.invokevirtual 64) 3 137 := ⟨by decide +kernel, rfl⟩
theorem eX5_placeOf_137 : xAt mX5_placeOf 137 (.dcmp .g) 1 138 := ⟨by decide +kernel, rfl⟩
theorem eX5_placeOf_138 : xBr mX5_placeOf 138 (.ifCond .ge) (7) 141 145 := ⟨by decide +kernel, rfl, by decide⟩
theorem eX5_placeOf_141 : xAt mX5_placeOf 141 (.iconst 1) 1 142 := ⟨by decide +kernel, rfl⟩
theorem eX5_placeOf_142 : xBr mX5_placeOf 142 .goto (4) 145 146 := ⟨by decide +kernel, rfl, by decide⟩
theorem eX5_placeOf_145 : xAt mX5_placeOf 145 (.iconst 0) 1 146 := ⟨by decide +kernel, rfl⟩
theorem eX5_placeOf_146 : xAt mX5_placeOf 146 (.istore 8) 2 148 := ⟨by decide +kernel, rfl⟩
theorem eX5_placeOf_148 : xAt mX5_placeOf 148 (.iload 7) 2 150 := ⟨by decide +kernel, rfl⟩
theorem eX5_placeOf_150 : xBr mX5_placeOf 150 (.ifCond .eq) (18) 153 168 := ⟨by decide +kernel, rfl, by decide⟩
theorem eX5_placeOf_153 : xAt mX5_placeOf 153 (.aload_n 0) 1 154 := ⟨by decide +kernel, rfl⟩
theorem eX5_placeOf_154 : xAt mX5_placeOf 154 (.getfield 15) 3 157 := ⟨by decide +kernel, rfl⟩
theorem eX5_placeOf_157 : xAt mX5_placeOf 157 (.iload 5) 2 159 := ⟨by decide +kernel, rfl⟩
theorem eX5_placeOf_159 : xAt mX5_placeOf 159 (.iload 6) 2 161 := ⟨by decide +kernel, rfl⟩
theorem eX5_placeOf_161 : xAt mX5_placeOf 161 (.iload_n 1) 1 162 := ⟨by decide +kernel, rfl⟩
theorem eX5_placeOf_162 : xAt mX5_placeOf 162 (.invokevirtual 49) 3 165 := ⟨by decide +kernel, rfl⟩
theorem eX5_placeOf_165 : xBr mX5_placeOf 165 (.ifCond .gt) (23) 168 188 := ⟨by decide +kernel, rfl, by decide⟩
theorem eX5_placeOf_168 : xAt mX5_placeOf 168 (.iload 8) 2 170 := ⟨by decide +kernel, rfl⟩
theorem eX5_placeOf_170 : xBr mX5_placeOf 170 (.ifCond .eq) (28) 173 198 := ⟨by decide +kernel, rfl, by decide⟩
theorem eX5_placeOf_173 : xAt mX5_placeOf 173 (.aload_n 0) 1 174 := ⟨by decide +kernel, rfl⟩
theorem eX5_placeOf_174 : xAt mX5_placeOf 174 (.getfield 15) 3 177 := ⟨by decide +kernel, rfl⟩
theorem eX5_placeOf_177 : xAt mX5_placeOf 177 (.iload 5) 2 179 := ⟨by decide +kernel, rfl⟩
theorem eX5_placeOf_179 : xAt mX5_placeOf 179 (.iload 6) 2 181 := ⟨by decide +kernel, rfl⟩
theorem eX5_placeOf_181 : xAt mX5_placeOf 181 (.iload_n 1) 1 182 := ⟨by decide +kernel, rfl⟩
theorem eX5_placeOf_182 : xAt mX5_placeOf 182 (.invokevirtual 49) 3 185 := ⟨by decide +kernel, rfl⟩
theorem eX5_placeOf_185 : xBr mX5_placeOf 185 (.ifCond .ge) (13) 188 198 := ⟨by decide +kernel, rfl, by decide⟩
theorem eX5_placeOf_188 : xAt mX5_placeOf 188 (.iload_n 3) 1 189 := ⟨by decide +kernel, rfl⟩
theorem eX5_placeOf_189 : xBr mX5_placeOf 189 (.ifCond .ne) (7) 192 196 := ⟨by decide +kernel, rfl, by decide⟩
theorem eX5_placeOf_192 : xAt mX5_placeOf 192 (.iconst 1) 1 193 := ⟨by decide +kernel, rfl⟩
theorem eX5_placeOf_193 : xBr mX5_placeOf 193 .goto (4) 196 197 := ⟨by decide +kernel, rfl, by decide⟩
theorem eX5_placeOf_196 : xAt mX5_placeOf 196 (.iconst 0) 1 197 := ⟨by decide +kernel, rfl⟩
theorem eX5_placeOf_197 : xAt mX5_placeOf 197 (.istore_n 3) 1 198 := ⟨by decide +kernel, rfl⟩
theorem eX5_placeOf_198 : xAt mX5_placeOf 198 (.iinc 4 1) 3 201 := ⟨by decide +kernel, rfl⟩
theorem eX5_placeOf_201 : xBr mX5_placeOf 201 .goto (-196) 204 5 := ⟨by decide +kernel, rfl, by decide⟩
theorem eX5_placeOf_204 : xAt mX5_placeOf 204 (.iload_n 3) 1 205 := ⟨by decide +kernel, rfl⟩
theorem eX5_placeOf_205 : xBr mX5_placeOf 205 (.ifCond .eq) (8) 208 213 := ⟨by decide +kernel, rfl, by decide⟩
theorem eX5_placeOf_208 : xAt mX5_placeOf 208 (.bipush (-2)) 2 210 := ⟨by decide +kernel, rfl⟩
theorem eX5_placeOf_210 : xBr mX5_placeOf 210 .goto (5) 213 215 := ⟨by decide +kernel, rfl, by decide⟩
theorem eX5_placeOf_213 : xAt mX5_placeOf 213 (.bipush (-3)) 2 215 := ⟨by decide +kernel, rfl⟩
theorem eX5_placeOf_215 : xAt mX5_placeOf 215 (.ireturn) 1 216 := ⟨by decide +kernel, rfl⟩
theorem eX5_opensTo_0 : xAt mX5_opensTo 0 (.aload_n 1) 1 1 := ⟨by decide +kernel, rfl⟩
theorem eX5_opensTo_1 : xAt mX5_opensTo 1 (.iload_n 2) 1 2 := ⟨by decide +kernel, rfl⟩
theorem eX5_opensTo_2 : xAt mX5_opensTo 2 (.iconst 1) 1 3 := ⟨by decide +kernel, rfl⟩
theorem eX5_opensTo_3 : xAt mX5_opensTo 3 (.isub) 1 4 := ⟨by decide +kernel, rfl⟩
theorem eX5_opensTo_4 : xAt mX5_opensTo 4 (.invokevirtual 35) 3 7 := ⟨by decide +kernel, rfl⟩
theorem eX5_opensTo_7 : xAt mX5_opensTo 7 (.istore 4) 2 9 := ⟨by decide +kernel, rfl⟩
theorem eX5_opensTo_9 : xAt mX5_opensTo 9 (.aload_n 1) 1 10 := ⟨by decide +kernel, rfl⟩
theorem eX5_opensTo_10 : xAt mX5_opensTo 10 (.iload_n 2) 1 11 := ⟨by decide +kernel, rfl⟩
theorem eX5_opensTo_11 : xAt mX5_opensTo 11 (.invokevirtual 35) 3 14 := ⟨by decide +kernel, rfl⟩
theorem eX5_opensTo_14 : xAt mX5_opensTo 14 (.istore 5) 2 16 := ⟨by decide +kernel, rfl⟩
theorem eX5_opensTo_16 : xAt mX5_opensTo 16 (.aload_n 1) 1 17 := ⟨by decide +kernel, rfl⟩
theorem eX5_opensTo_17 : xAt mX5_opensTo 17 (.iload_n 2) 1 18 := ⟨by decide +kernel, rfl⟩
theorem eX5_opensTo_18 : xAt mX5_opensTo 18 (.iconst 1) 1 19 := ⟨by decide +kernel, rfl⟩
theorem eX5_opensTo_19 : xAt mX5_opensTo 19 (.iadd) 1 20 := ⟨by decide +kernel, rfl⟩
theorem eX5_opensTo_20 : xAt mX5_opensTo 20 (.invokevirtual 35) 3 23 := ⟨by decide +kernel, rfl⟩
theorem eX5_opensTo_23 : xAt mX5_opensTo 23 (.istore 6) 2 25 := ⟨by decide +kernel, rfl⟩
theorem eX5_opensTo_25 : xAt mX5_opensTo 25 (.aload_n 0) 1 26 := ⟨by decide +kernel, rfl⟩
theorem eX5_opensTo_26 : xAt mX5_opensTo 26 (.getfield 15) 3 29 := ⟨by decide +kernel, rfl⟩
theorem eX5_opensTo_29 : xAt mX5_opensTo 29 (.iload 4) 2 31 := ⟨by decide +kernel, rfl⟩
theorem eX5_opensTo_31 : xAt mX5_opensTo 31 (.iload 5) 2 33 := ⟨by decide +kernel, rfl⟩
theorem eX5_opensTo_33 : xAt mX5_opensTo 33 (.iload_n 3) 1 34 := ⟨by decide +kernel, rfl⟩
theorem eX5_opensTo_34 : xAt mX5_opensTo 34 (.invokevirtual 49) 3 37 := ⟨by decide +kernel, rfl⟩
theorem eX5_opensTo_37 : xBr mX5_opensTo 37 (.ifCond .le) (7) 40 44 := ⟨by decide +kernel, rfl, by decide⟩
theorem eX5_opensTo_40 : xAt mX5_opensTo 40 (.iconst 1) 1 41 := ⟨by decide +kernel, rfl⟩
theorem eX5_opensTo_41 : xBr mX5_opensTo 41 .goto (4) 44 45 := ⟨by decide +kernel, rfl, by decide⟩
theorem eX5_opensTo_44 : xAt mX5_opensTo 44 (.iconst 0) 1 45 := ⟨by decide +kernel, rfl⟩
theorem eX5_opensTo_45 : xAt mX5_opensTo 45 (.istore 7) 2 47 := ⟨by decide +kernel, rfl⟩
theorem eX5_opensTo_47 : xAt mX5_opensTo 47 (.aload_n 0) 1 48 := ⟨by decide +kernel, rfl⟩
theorem eX5_opensTo_48 : xAt mX5_opensTo 48 (.getfield 15) 3 51 := ⟨by decide +kernel, rfl⟩
theorem eX5_opensTo_51 : xAt mX5_opensTo 51 (.iload 5) 2 53 := ⟨by decide +kernel, rfl⟩
theorem eX5_opensTo_53 : xAt mX5_opensTo 53 (.iload 6) 2 55 := ⟨by decide +kernel, rfl⟩
theorem eX5_opensTo_55 : xAt mX5_opensTo 55 (.iload_n 3) 1 56 := ⟨by decide +kernel, rfl⟩
theorem eX5_opensTo_56 : xAt mX5_opensTo 56 (.invokevirtual 49) 3 59 := ⟨by decide +kernel, rfl⟩
theorem eX5_opensTo_59 : xBr mX5_opensTo 59 (.ifCond .le) (7) 62 66 := ⟨by decide +kernel, rfl, by decide⟩
theorem eX5_opensTo_62 : xAt mX5_opensTo 62 (.iconst 1) 1 63 := ⟨by decide +kernel, rfl⟩
theorem eX5_opensTo_63 : xBr mX5_opensTo 63 .goto (4) 66 67 := ⟨by decide +kernel, rfl, by decide⟩
theorem eX5_opensTo_66 : xAt mX5_opensTo 66 (.iconst 0) 1 67 := ⟨by decide +kernel, rfl⟩
theorem eX5_opensTo_67 : xAt mX5_opensTo 67 (.istore 8) 2 69 := ⟨by decide +kernel, rfl⟩
theorem eX5_opensTo_69 : xAt mX5_opensTo 69 (.aload_n 0) 1 70 := ⟨by decide +kernel, rfl⟩
theorem eX5_opensTo_70 : xAt mX5_opensTo 70 (.getfield 15) 3 73 := ⟨by decide +kernel, rfl⟩
theorem eX5_opensTo_73 : xAt mX5_opensTo 73 (.iload 4) 2 75 := ⟨by decide +kernel, rfl⟩
theorem eX5_opensTo_75 : xAt mX5_opensTo 75 (.iload 5) 2 77 := ⟨by decide +kernel, rfl⟩
theorem eX5_opensTo_77 : xAt mX5_opensTo 77 (.iload 6) 2 79 := ⟨by decide +kernel, rfl⟩
theorem eX5_opensTo_79 : xAt mX5_opensTo 79 (.invokevirtual 49) 3 82 := ⟨by decide +kernel, rfl⟩
theorem eX5_opensTo_82 : xBr mX5_opensTo 82 (.ifCond .le) (21) 85 103 := ⟨by decide +kernel, rfl, by decide⟩
theorem eX5_opensTo_85 : xAt mX5_opensTo 85 (.iload 7) 2 87 := ⟨by decide +kernel, rfl⟩
theorem eX5_opensTo_87 : xBr mX5_opensTo 87 (.ifCond .eq) (12) 90 99 := ⟨by decide +kernel, rfl, by decide⟩
theorem eX5_opensTo_90 : xAt mX5_opensTo 90 (.iload 8) 2 92 := ⟨by decide +kernel, rfl⟩
theorem eX5_opensTo_92 : xBr mX5_opensTo 92 (.ifCond .eq) (7) 95 99 := ⟨by decide +kernel, rfl, by decide⟩
theorem eX5_opensTo_95 : xAt mX5_opensTo 95 (.iconst 1) 1 96 := ⟨by decide +kernel, rfl⟩
theorem eX5_opensTo_96 : xBr mX5_opensTo 96 .goto (22) 99 118 := ⟨by decide +kernel, rfl, by decide⟩
theorem eX5_opensTo_99 : xAt mX5_opensTo 99 (.iconst 0) 1 100 := ⟨by decide +kernel, rfl⟩
theorem eX5_opensTo_100 : xBr mX5_opensTo 100 .goto (18) 103 118 := ⟨by decide +kernel, rfl, by decide⟩
theorem eX5_opensTo_103 : xAt mX5_opensTo 103 (.iload 7) 2 105 := ⟨by decide +kernel, rfl⟩
theorem eX5_opensTo_105 : xBr mX5_opensTo 105 (.ifCond .ne) (8) 108 113 := ⟨by decide +kernel, rfl, by decide⟩
theorem eX5_opensTo_108 : xAt mX5_opensTo 108 (.iload 8) 2 110 := ⟨by decide +kernel, rfl⟩
theorem eX5_opensTo_110 : xBr mX5_opensTo 110 (.ifCond .eq) (7) 113 117 := ⟨by decide +kernel, rfl, by decide⟩
theorem eX5_opensTo_113 : xAt mX5_opensTo 113 (.iconst 1) 1 114 := ⟨by decide +kernel, rfl⟩
theorem eX5_opensTo_114 : xBr mX5_opensTo 114 .goto (4) 117 118 := ⟨by decide +kernel, rfl, by decide⟩
theorem eX5_opensTo_117 : xAt mX5_opensTo 117 (.iconst 0) 1 118 := ⟨by decide +kernel, rfl⟩
theorem eX5_opensTo_118 : xAt mX5_opensTo 118 (.ireturn) 1 119 := ⟨by decide +kernel, rfl⟩
theorem eX5_startsInto_0 : xAt mX5_startsInto 0 (.iload_n 2) 1 1 := ⟨by decide +kernel, rfl⟩
theorem eX5_startsInto_1 : xAt mX5_startsInto 1 (.bipush (-2)) 2 3 := ⟨by decide +kernel, rfl⟩
theorem eX5_startsInto_3 : xBr mX5_startsInto 3 (.if_icmp .eq) (9) 6 12 := ⟨by decide +kernel, rfl, by decide⟩
theorem eX5_startsInto_6 : xAt mX5_startsInto 6 (.iload_n 2) 1 7 := ⟨by decide +kernel, rfl⟩
theorem eX5_startsInto_7 : xAt mX5_startsInto 7 (.bipush (-3)) 2 9 := ⟨by decide +kernel, rfl⟩
theorem eX5_startsInto_9 : xBr mX5_startsInto 9 (.if_icmp .ne) (15) 12 24 := ⟨by decide +kernel, rfl, by decide⟩
theorem eX5_startsInto_12 : xAt mX5_startsInto 12 (.iload_n 2) 1 13 := ⟨by decide +kernel, rfl⟩
theorem eX5_startsInto_13 : xAt mX5_startsInto 13 (.bipush (-2)) 2 15 := ⟨by decide +kernel, rfl⟩
theorem eX5_startsInto_15 : xBr mX5_startsInto 15 (.if_icmp .ne) (7) 18 22 := ⟨by decide +kernel, rfl, by decide⟩
theorem eX5_startsInto_18 : xAt mX5_startsInto 18 (.iconst 1) 1 19 := ⟨by decide +kernel, rfl⟩
theorem eX5_startsInto_19 : xBr mX5_startsInto 19 .goto (4) 22 23 := ⟨by decide +kernel, rfl, by decide⟩
theorem eX5_startsInto_22 : xAt mX5_startsInto 22 (.iconst 0) 1 23 := ⟨by decide +kernel, rfl⟩
theorem eX5_startsInto_23 : xAt mX5_startsInto 23 (.ireturn) 1 24 := ⟨by decide +kernel, rfl⟩
theorem eX5_startsInto_24 : xAt mX5_startsInto 24 (.aload_n 1) 1 25 := ⟨by decide +kernel, rfl⟩
theorem eX5_startsInto_25 : xAt mX5_startsInto 25 (.iload_n 2) 1 26 := ⟨by decide +kernel, rfl⟩
theorem eX5_startsInto_26 : xAt mX5_startsInto 26 (.invokevirtual 35) 3 29 := ⟨by decide +kernel, rfl⟩
theorem eX5_startsInto_29 : xAt mX5_startsInto 29 (.istore 5) 2 31 := ⟨by decide +kernel, rfl⟩
theorem eX5_startsInto_31 : xAt mX5_startsInto 31 (.aload_n 1) 1 32 := ⟨by decide +kernel, rfl⟩
theorem eX5_startsInto_32 : xAt mX5_startsInto 32 (.iload_n 2) 1 33 := ⟨by decide +kernel, rfl⟩
theorem eX5_startsInto_33 : xAt mX5_startsInto 33 (.iconst 1) 1 34 := ⟨by decide +kernel, rfl⟩
theorem eX5_startsInto_34 : xAt mX5_startsInto 34 (.iadd) 1 35 := ⟨by decide +kernel, rfl⟩
theorem eX5_startsInto_35 : xAt mX5_startsInto 35 (.invokevirtual 35) 3 38 := ⟨by decide +kernel, rfl⟩
theorem eX5_startsInto_38 : xAt mX5_startsInto 38 (.istore 6) 2 40 := ⟨by decide +kernel, rfl⟩
theorem eX5_startsInto_40 : xAt mX5_startsInto 40 (.iload_n 3) 1 41 := ⟨by decide +kernel, rfl⟩
theorem eX5_startsInto_41 : xAt mX5_startsInto 41 (.iload 5) 2 43 := ⟨by decide +kernel, rfl⟩
theorem eX5_startsInto_43 : xBr mX5_startsInto 43 (.if_icmp .eq) (9) 46 52 := ⟨by decide +kernel, rfl, by decide⟩
theorem eX5_startsInto_46 : xAt mX5_startsInto 46 (.iload_n 3) 1 47 := ⟨by decide +kernel, rfl⟩
theorem eX5_startsInto_47 : xAt mX5_startsInto 47 (.iload 6) 2 49 := ⟨by decide +kernel, rfl⟩
theorem eX5_startsInto_49 : xBr mX5_startsInto 49 (.if_icmp .ne) (24) 52 73 := ⟨by decide +kernel, rfl, by decide⟩
theorem eX5_startsInto_52 : xAt mX5_startsInto 52 (.aload_n 0) 1 53 := ⟨by decide +kernel, rfl⟩
theorem eX5_startsInto_53 : xAt mX5_startsInto 53 (.aload_n 1) 1 54 := ⟨by decide +kernel, rfl⟩
theorem eX5_startsInto_54 : xAt mX5_startsInto 54 (.iload_n 3) 1 55 := ⟨by decide +kernel, rfl⟩
theorem eX5_startsInto_55 : xAt mX5_startsInto 55 (.iload 5) 2 57 := ⟨by decide +kernel, rfl⟩
theorem eX5_startsInto_57 : xBr mX5_startsInto 57 (.if_icmp .ne) (7) 60 64 := ⟨by decide +kernel, rfl, by decide⟩
theorem eX5_startsInto_60 : xAt mX5_startsInto 60 (.iload_n 2) 1 61 := ⟨by decide +kernel, rfl⟩
theorem eX5_startsInto_61 : xBr mX5_startsInto 61 .goto (6) 64 67 := ⟨by decide +kernel, rfl, by decide⟩
theorem eX5_startsInto_64 : xAt mX5_startsInto 64 (.iload_n 2) 1 65 := ⟨by decide +kernel, rfl⟩
theorem eX5_startsInto_65 : xAt mX5_startsInto 65 (.iconst 1) 1 66 := ⟨by decide +kernel, rfl⟩
theorem eX5_startsInto_66 : xAt mX5_startsInto 66 (.iadd) 1 67 := ⟨by decide +kernel, rfl⟩
theorem eX5_startsInto_67 : xAt mX5_startsInto 67 (.iload 4) 2 69 := ⟨by decide +kernel, rfl⟩
theorem eX5_startsInto_69 : xAt mX5_startsInto 69 (.invokevirtual 68) 3 72 := ⟨by decide +kernel, rfl⟩
theorem eX5_startsInto_72 : xAt mX5_startsInto 72 (.ireturn) 1 73 := ⟨by decide +kernel, rfl⟩
theorem eX5_startsInto_73 : xAt mX5_startsInto 73 (.aload_n 0) 1 74 := ⟨by decide +kernel, rfl⟩
theorem eX5_startsInto_74 : xAt mX5_startsInto 74 (.getfield 15) 3 77 := ⟨by decide +kernel, rfl⟩
theorem eX5_startsInto_77 : xAt mX5_startsInto 77 (.iload 5) 2 79 := ⟨by decide +kernel, rfl⟩
theorem eX5_startsInto_79 : xAt mX5_startsInto 79 (.iload 6) 2 81 := ⟨by decide +kernel, rfl⟩
theorem eX5_startsInto_81 : xAt mX5_startsInto 81 (.iload 4) 2 83 := ⟨by decide +kernel, rfl⟩
theorem eX5_startsInto_83 : xAt mX5_startsInto 83 (.invokevirtual 49) 3 86 := ⟨by decide +kernel, rfl⟩
theorem eX5_startsInto_86 : xBr mX5_startsInto 86 (.ifCond .le) (7) 89 93 := ⟨by decide +kernel, rfl, by decide⟩
theorem eX5_startsInto_89 : xAt mX5_startsInto 89 (.iconst 1) 1 90 := ⟨by decide +kernel, rfl⟩
theorem eX5_startsInto_90 : xBr mX5_startsInto 90 .goto (4) 93 94 := ⟨by decide +kernel, rfl, by decide⟩
theorem eX5_startsInto_93 : xAt mX5_startsInto 93 (.iconst 0) 1 94 := ⟨by decide +kernel, rfl⟩
theorem eX5_startsInto_94 : xAt mX5_startsInto 94 (.ireturn) 1 95 := ⟨by decide +kernel, rfl⟩
theorem eX5_cutsInto_0 : xAt mX5_cutsInto 0 (.iconst 0) 1 1 := ⟨by decide +kernel, rfl⟩
theorem eX5_cutsInto_1 : xAt mX5_cutsInto 1 (.istore 4) 2 3 := ⟨by decide +kernel, rfl⟩
theorem eX5_cutsInto_3 : xAt mX5_cutsInto 3 (.iload 4) 2 5 := ⟨by decide +kernel, rfl⟩
theorem eX5_cutsInto_5 : xAt mX5_cutsInto 5 (.aload_n 3) 1 6 := ⟨by decide +kernel, rfl⟩
theorem eX5_cutsInto_6 : xAt mX5_cutsInto 6 (.getfield 19) 3 9 := ⟨by decide +kernel, rfl⟩
theorem eX5_cutsInto_9 : xBr mX5_cutsInto 9 (.if_icmp .ge) (92) 12 101 := ⟨by decide +kernel, rfl, by decide⟩
theorem eX5_cutsInto_12 : xAt mX5_cutsInto 12 (.aload_n 3) 1 13 := ⟨by decide +kernel, rfl⟩
theorem eX5_cutsInto_13 : xAt mX5_cutsInto 13 (.iload 4) 2 15 := ⟨by decide +kernel, rfl⟩
theorem eX5_cutsInto_15 : xAt mX5_cutsInto 15 (.invokevirtual 35) 3 18 := ⟨by decide +kernel, rfl⟩
theorem eX5_cutsInto_18 : xAt mX5_cutsInto 18 (.istore 5) 2 20 := ⟨by decide +kernel, rfl⟩
theorem eX5_cutsInto_20 : xAt mX5_cutsInto 20 (.aload_n 0) 1 21 := ⟨by decide +kernel, rfl⟩
theorem eX5_cutsInto_21 : xAt mX5_cutsInto 21 (.getfield 15) 3 24 := ⟨by decide +kernel, rfl⟩
theorem eX5_cutsInto_24 : xAt mX5_cutsInto 24 (.iload_n 1) 1 25 := ⟨by decide +kernel, rfl⟩
theorem eX5_cutsInto_25 : xAt mX5_cutsInto 25 (.iload_n 2) 1 26 := ⟨by decide +kernel, rfl⟩
theorem eX5_cutsInto_26 : xAt mX5_cutsInto 26 (.iload 5) 2 28 := ⟨by decide +kernel, rfl⟩
theorem eX5_cutsInto_28 : xAt mX5_cutsInto 28 (.aload_n 3) 1 29 := ⟨by decide +kernel, rfl⟩
theorem eX5_cutsInto_29 : xAt mX5_cutsInto 29 (.iload 4) 2 31 := ⟨by decide +kernel, rfl⟩
theorem eX5_cutsInto_31 : xAt mX5_cutsInto 31 (.iconst 1) 1 32 := ⟨by decide +kernel, rfl⟩
theorem eX5_cutsInto_32 : xAt mX5_cutsInto 32 (.iadd) 1 33 := ⟨by decide +kernel, rfl⟩
theorem eX5_cutsInto_33 : xAt mX5_cutsInto 33 (.invokevirtual 35) 3 36 := ⟨by decide +kernel, rfl⟩
theorem eX5_cutsInto_36 : xAt mX5_cutsInto 36 (.invokevirtual 39) 3 39 := ⟨by decide +kernel, rfl⟩
theorem eX5_cutsInto_39 : xAt mX5_cutsInto 39 (.iconst 1) 1 40 := ⟨by decide +kernel, rfl⟩
theorem eX5_cutsInto_40 : xBr mX5_cutsInto 40 (.if_icmp .ne) (5) 43 45 := ⟨by decide +kernel, rfl, by decide⟩
theorem eX5_cutsInto_43 : xAt mX5_cutsInto 43 (.iconst 1) 1 44 := ⟨by decide +kernel, rfl⟩
theorem eX5_cutsInto_44 : xAt mX5_cutsInto 44 (.ireturn) 1 45 := ⟨by decide +kernel, rfl⟩
theorem eX5_cutsInto_45 : xAt mX5_cutsInto 45 (.iload 5) 2 47 := ⟨by decide +kernel, rfl⟩
theorem eX5_cutsInto_47 : xAt mX5_cutsInto 47 (.iload_n 1) 1 48 := ⟨by decide +kernel, rfl⟩
theorem eX5_cutsInto_48 : xBr mX5_cutsInto 48 (.if_icmp .eq) (47) 51 95 := ⟨by decide +kernel, rfl, by decide⟩
theorem eX5_cutsInto_51 : xAt mX5_cutsInto 51 (.iload 5) 2 53 := ⟨by decide +kernel, rfl⟩
theorem eX5_cutsInto_53 : xAt mX5_cutsInto 53 (.iload_n 2) 1 54 := ⟨by decide +kernel, rfl⟩
theorem eX5_cutsInto_54 : xBr mX5_cutsInto 54 (.if_icmp .eq) (41) 57 95 := ⟨by decide +kernel, rfl, by decide⟩
theorem eX5_cutsInto_57 : xAt mX5_cutsInto 57 (.aload_n 0) 1 58 := ⟨by decide +kernel, rfl⟩
theorem eX5_cutsInto_58 : xAt mX5_cutsInto 58 (.getfield 15) 3 61 := ⟨by decide +kernel, rfl⟩
theorem eX5_cutsInto_61 : xAt mX5_cutsInto 61 (.iload 5) 2 63 := ⟨by decide +kernel, rfl⟩
theorem eX5_cutsInto_63 : xAt mX5_cutsInto 63 (.iload_n 1) 1 64 := ⟨by decide +kernel, rfl⟩
theorem eX5_cutsInto_64 : xAt mX5_cutsInto 64 (.iload_n 2) 1 65 := ⟨by decide +kernel, rfl⟩
theorem eX5_cutsInto_65 : xAt mX5_cutsInto 65 (.invokevirtual 60) 3 68 := ⟨by decide +kernel, rfl⟩
theorem eX5_cutsInto_68 : xBr mX5_cutsInto 68 (.ifCond .eq) (27) 71 95 := ⟨by decide +kernel, rfl, by decide⟩
theorem eX5_cutsInto_71 : xAt mX5_cutsInto 71 (.aload_n 0) 1 72 := ⟨by decide +kernel, rfl⟩
theorem eX5_cutsInto_72 : xAt mX5_cutsInto 72 (.aload_n 3) 1 73 := ⟨by decide +kernel, rfl⟩
theorem eX5_cutsInto_73 : xAt mX5_cutsInto 73 (.iload 4) 2 75 := ⟨by decide +kernel, rfl⟩
theorem eX5_cutsInto_75 : xAt mX5_cutsInto 75 (.iload_n 1) 1 76 := ⟨by decide +kernel, rfl⟩
theorem eX5_cutsInto_76 : xAt mX5_cutsInto 76 (.invokevirtual 68) 3 79 := ⟨by decide +kernel, rfl⟩
theorem eX5_cutsInto_79 : xBr mX5_cutsInto 79 (.ifCond .ne) (14) 82 93 := ⟨by decide +kernel, rfl, by decide⟩
theorem eX5_cutsInto_82 : xAt mX5_cutsInto 82 (.aload_n 0) 1 83 := ⟨by decide +kernel, rfl⟩
theorem eX5_cutsInto_83 : xAt mX5_cutsInto 83 (.aload_n 3) 1 84 := ⟨by decide +kernel, rfl⟩
theorem eX5_cutsInto_84 : xAt mX5_cutsInto 84 (.iload 4) 2 86 := ⟨by decide +kernel, rfl⟩
theorem eX5_cutsInto_86 : xAt mX5_cutsInto 86 (.iload_n 2) 1 87 := ⟨by decide +kernel, rfl⟩
theorem eX5_cutsInto_87 : xAt mX5_cutsInto 87 (.invokevirtual 68) 3 90 := ⟨by decide +kernel, rfl⟩
theorem eX5_cutsInto_90 : xBr mX5_cutsInto 90 (.ifCond .eq) (5) 93 95 := ⟨by decide +kernel, rfl, by decide⟩
theorem eX5_cutsInto_93 : xAt mX5_cutsInto 93 (.iconst 1) 1 94 := ⟨by decide +kernel, rfl⟩
theorem eX5_cutsInto_94 : xAt mX5_cutsInto 94 (.ireturn) 1 95 := ⟨by decide +kernel, rfl⟩
theorem eX5_cutsInto_95 : xAt mX5_cutsInto 95 (.iinc 4 1) 3 98 := ⟨by decide +kernel, rfl⟩
theorem eX5_cutsInto_98 : xBr mX5_cutsInto 98 .goto (-95) 101 3 := ⟨by decide +kernel, rfl, by decide⟩
theorem eX5_cutsInto_101 : xAt mX5_cutsInto 101 (.iconst 0) 1 102 := ⟨by decide +kernel, rfl⟩
theorem eX5_cutsInto_102 : xAt mX5_cutsInto 102 (.ireturn) 1 103 := ⟨by decide +kernel, rfl⟩
theorem eX5_goesThrough_0 : xAt mX5_goesThrough 0 (.aload_n 0) 1 1 := ⟨by decide +kernel, rfl⟩
theorem eX5_goesThrough_1 : xAt mX5_goesThrough 1 (.iload_n 1) 1 2 := ⟨by decide +kernel, rfl⟩
theorem eX5_goesThrough_2 : xAt mX5_goesThrough 2 (.iload_n 2) 1 3 := ⟨by decide +kernel, rfl⟩
theorem eX5_goesThrough_3 : xAt mX5_goesThrough 3 (.aload_n 3) 1 4 := ⟨by decide +kernel, rfl⟩
theorem eX5_goesThrough_4 : xAt mX5_goesThrough 4 (.invokevirtual 72) 3 7 := ⟨by decide +kernel, rfl⟩
theorem eX5_goesThrough_7 : xBr mX5_goesThrough 7 (.ifCond .ne) (19) 10 26 := ⟨by decide +kernel, rfl, by decide⟩
theorem eX5_goesThrough_10 : xAt mX5_goesThrough 10 (.aload_n 0) 1 11 := ⟨by decide +kernel, rfl⟩
theorem eX5_goesThrough_11 : xAt mX5_goesThrough 11 (.aload_n 3) 1 12 := ⟨by decide +kernel, rfl⟩
theorem eX5_goesThrough_12 : xAt mX5_goesThrough 12 (.aload_n 0) 1 13 := ⟨by decide +kernel, rfl⟩
theorem eX5_goesThrough_13 : xAt mX5_goesThrough 13 (.iload_n 1) 1 14 := ⟨by decide +kernel, rfl⟩
theorem eX5_goesThrough_14 : xAt mX5_goesThrough 14 (.aload_n 3) 1 15 := ⟨by decide +kernel, rfl⟩
theorem eX5_goesThrough_15 : xAt mX5_goesThrough 15 (.invokevirtual 76) 3 18 := ⟨by decide +kernel, rfl⟩
theorem eX5_goesThrough_18 : xAt mX5_goesThrough 18 (.iload_n 1) 1 19 := ⟨by decide +kernel, rfl⟩
theorem eX5_goesThrough_19 : xAt mX5_goesThrough 19 (.iload_n 2) 1 20 := ⟨by decide +kernel, rfl⟩
theorem eX5_goesThrough_20 : xAt mX5_goesThrough 20 (.invokevirtual 80) 3 23 := ⟨by decide +kernel, rfl⟩
theorem eX5_goesThrough_23 : xBr mX5_goesThrough 23 (.ifCond .eq) (7) 26 30 := ⟨by decide +kernel, rfl, by decide⟩
theorem eX5_goesThrough_26 : xAt mX5_goesThrough 26 (.iconst 1) 1 27 := ⟨by decide +kernel, rfl⟩
theorem eX5_goesThrough_27 : xBr mX5_goesThrough 27 .goto (4) 30 31 := ⟨by decide +kernel, rfl, by decide⟩
theorem eX5_goesThrough_30 : xAt mX5_goesThrough 30 (.iconst 0) 1 31 := ⟨by decide +kernel, rfl⟩
theorem eX5_goesThrough_31 : xAt mX5_goesThrough 31 (.ireturn) 1 32 := ⟨by decide +kernel, rfl⟩
theorem eX5_reachesInto_0 : xAt mX5_reachesInto 0 (.iconst 0) 1 1 := ⟨by decide +kernel, rfl⟩
theorem eX5_reachesInto_1 : xAt mX5_reachesInto 1 (.istore_n 3) 1 2 := ⟨by decide +kernel, rfl⟩
theorem eX5_reachesInto_2 : xAt mX5_reachesInto 2 (.iload_n 3) 1 3 := ⟨by decide +kernel, rfl⟩
theorem eX5_reachesInto_3 : xAt mX5_reachesInto 3 (.aload_n 1) 1 4 := ⟨by decide +kernel, rfl⟩
theorem eX5_reachesInto_4 : xAt mX5_reachesInto 4 (.getfield 19) 3 7 := ⟨by decide +kernel, rfl⟩
theorem eX5_reachesInto_7 : xBr mX5_reachesInto 7 (.if_icmp .ge) (58) 10 65 := ⟨by decide +kernel, rfl, by decide⟩
theorem eX5_reachesInto_10 : xAt mX5_reachesInto 10 (.aload_n 1) 1 11 := ⟨by decide +kernel, rfl⟩
theorem eX5_reachesInto_11 : xAt mX5_reachesInto 11 (.iload_n 3) 1 12 := ⟨by decide +kernel, rfl⟩
theorem eX5_reachesInto_12 : xAt mX5_reachesInto 12 (.invokevirtual 35) 3 15 := ⟨by decide +kernel, rfl⟩
theorem eX5_reachesInto_15 : xAt mX5_reachesInto 15 (.istore 4) 2 17 := ⟨by decide +kernel, rfl⟩
theorem eX5_reachesInto_17 : xAt mX5_reachesInto 17 (.aload_n 1) 1 18 := ⟨by decide +kernel, rfl⟩
theorem eX5_reachesInto_18 : xAt mX5_reachesInto 18 (.iload_n 3) 1 19 := ⟨by decide +kernel, rfl⟩
theorem eX5_reachesInto_19 : xAt mX5_reachesInto 19 (.iconst 1) 1 20 := ⟨by decide +kernel, rfl⟩
theorem eX5_reachesInto_20 : xAt mX5_reachesInto 20 (.iadd) 1 21 := ⟨by decide +kernel, rfl⟩
theorem eX5_reachesInto_21 : xAt mX5_reachesInto 21 (.invokevirtual 35) 3 24 := ⟨by decide +kernel, rfl⟩
theorem eX5_reachesInto_24 : xAt mX5_reachesInto 24 (.istore 5) 2 26 := ⟨by decide +kernel, rfl⟩
theorem eX5_reachesInto_26 : xAt mX5_reachesInto 26 (.aload_n 0) 1 27 := ⟨by decide +kernel, rfl⟩
theorem eX5_reachesInto_27 : xAt mX5_reachesInto 27 (.iload 4) 2 29 := ⟨by decide +kernel, rfl⟩
theorem eX5_reachesInto_29 : xAt mX5_reachesInto 29 (.iload 5) 2 31 := ⟨by decide +kernel, rfl⟩
theorem eX5_reachesInto_31 : xAt mX5_reachesInto 31 (.aload_n 2) 1 32 := ⟨by decide +kernel, rfl⟩
theorem eX5_reachesInto_32 : xAt mX5_reachesInto 32 (.invokevirtual 72) 3 35 := ⟨by decide +kernel, rfl⟩
theorem eX5_reachesInto_35 : xBr mX5_reachesInto 35 (.ifCond .ne) (22) 38 57 := ⟨by decide +kernel, rfl, by decide⟩
theorem eX5_reachesInto_38 : xAt mX5_reachesInto 38 (.aload_n 0) 1 39 := ⟨by decide +kernel, rfl⟩
theorem eX5_reachesInto_39 : xAt mX5_reachesInto 39 (.aload_n 2) 1 40 := ⟨by decide +kernel, rfl⟩
theorem eX5_reachesInto_40 : xAt mX5_reachesInto 40 (.aload_n 0) 1 41 := ⟨by decide +kernel, rfl⟩
theorem eX5_reachesInto_41 : xAt mX5_reachesInto 41 (.iload 4) 2 43 := ⟨by decide +kernel, rfl⟩
theorem eX5_reachesInto_43 : xAt mX5_reachesInto 43 (.aload_n 2) 1 44 := ⟨by decide +kernel, rfl⟩
theorem eX5_reachesInto_44 : xAt mX5_reachesInto 44 (.invokevirtual 76) 3 47 := ⟨by decide +kernel, rfl⟩
theorem eX5_reachesInto_47 : xAt mX5_reachesInto 47 (.iload 4) 2 49 := ⟨by decide +kernel, rfl⟩
theorem eX5_reachesInto_49 : xAt mX5_reachesInto 49 (.iload 5) 2 51 := ⟨by decide +kernel, rfl⟩
theorem eX5_reachesInto_51 : xAt mX5_reachesInto 51 (.invokevirtual 80) 3 54 := ⟨by decide +kernel, rfl⟩
theorem eX5_reachesInto_54 : xBr mX5_reachesInto 54 (.ifCond .eq) (5) 57 59 := ⟨by decide +kernel, rfl, by decide⟩
theorem eX5_reachesInto_57 : xAt mX5_reachesInto 57 (.iconst 1) 1 58 := ⟨by decide +kernel, rfl⟩
theorem eX5_reachesInto_58 : xAt mX5_reachesInto 58 (.ireturn) 1 59 := ⟨by decide +kernel, rfl⟩
theorem eX5_reachesInto_59 : xAt mX5_reachesInto 59 (.iinc 3 1) 3 62 := ⟨by decide +kernel, rfl⟩
theorem eX5_reachesInto_62 : xBr mX5_reachesInto 62 .goto (-60) 65 2 := ⟨by decide +kernel, rfl, by decide⟩
theorem eX5_reachesInto_65 : xAt mX5_reachesInto 65 (.iconst 0) 1 66 := ⟨by decide +kernel, rfl⟩
theorem eX5_reachesInto_66 : xAt mX5_reachesInto 66 (.ireturn) 1 67 := ⟨by decide +kernel, rfl⟩
theorem eX5_haveLikeLand_0 : xAt mX5_haveLikeLand 0 (.iconst 0) 1 1 := ⟨by decide +kernel, rfl⟩
theorem eX5_haveLikeLand_1 : xAt mX5_haveLikeLand 1 (.istore_n 3) 1 2 := ⟨by decide +kernel, rfl⟩
theorem eX5_haveLikeLand_2 : xAt mX5_haveLikeLand 2 (.iload_n 3) 1 3 := ⟨by decide +kernel, rfl⟩
theorem eX5_haveLikeLand_3 : xAt mX5_haveLikeLand 3 (.aload_n 2) 1 4 := ⟨by decide +kernel, rfl⟩
theorem eX5_haveLikeLand_4 : xAt mX5_haveLikeLand 4 (.getfield 19) 3 7 := ⟨by decide +kernel, rfl⟩
theorem eX5_haveLikeLand_7 : xBr mX5_haveLikeLand 7 (.if_icmp .ge) (45) 10 52 := ⟨by decide +kernel, rfl, by decide⟩
theorem eX5_haveLikeLand_10 : xAt mX5_haveLikeLand 10 (.aload_n 0) 1 11 := ⟨by decide +kernel, rfl⟩
theorem eX5_haveLikeLand_11 : xAt mX5_haveLikeLand 11 (.getfield 15) 3 14 := ⟨by decide +kernel, rfl⟩
theorem eX5_haveLikeLand_14 : xAt mX5_haveLikeLand 14 (.aload_n 2) 1 15 := ⟨by decide +kernel, rfl⟩
theorem eX5_haveLikeLand_15 : xAt mX5_haveLikeLand 15 (.iload_n 3) 1 16 := ⟨by decide +kernel, rfl⟩
theorem eX5_haveLikeLand_16 : xAt mX5_haveLikeLand 16 (.invokevirtual 35) 3 19 := ⟨by decide +kernel, rfl⟩
theorem eX5_haveLikeLand_19 : xAt mX5_haveLikeLand 19 (.aload_n 2) 1 20 := ⟨by decide +kernel, rfl⟩
theorem eX5_haveLikeLand_20 : xAt mX5_haveLikeLand 20 (.iload_n 3) 1 21 := ⟨by decide +kernel, rfl⟩
theorem eX5_haveLikeLand_21 : xAt mX5_haveLikeLand 21 (.iconst 1) 1 22 := ⟨by decide +kernel, rfl⟩
theorem eX5_haveLikeLand_22 : xAt mX5_haveLikeLand 22 (.iadd) 1 23 := ⟨by decide +kernel, rfl⟩
theorem eX5_haveLikeLand_23 : xAt mX5_haveLikeLand 23 (.invokevirtual 35) 3 26 := ⟨by decide +kernel, rfl⟩
theorem eX5_haveLikeLand_26 : xAt mX5_haveLikeLand 26 (.invokevirtual 45) 3 29 := ⟨by decide +kernel, rfl⟩
theorem eX5_haveLikeLand_29 : xBr mX5_haveLikeLand 29 (.ifCond .eq) (17) 32 46 := ⟨by decide +kernel, rfl, by decide⟩
theorem eX5_haveLikeLand_32 : xAt mX5_haveLikeLand 32 (.aload_n 0) 1 33 := ⟨by decide +kernel, rfl⟩
theorem eX5_haveLikeLand_33 : xAt mX5_haveLikeLand 33 (.aload_n 1) 1 34 := ⟨by decide +kernel, rfl⟩
theorem eX5_haveLikeLand_34 : xAt mX5_haveLikeLand 34 (.iconst 0) 1 35 := ⟨by decide +kernel, rfl⟩
theorem eX5_haveLikeLand_35 : xAt mX5_haveLikeLand 35 (.aload_n 2) 1 36 := ⟨by decide +kernel, rfl⟩
theorem eX5_haveLikeLand_36 : xAt mX5_haveLikeLand 36 (.iload_n 3) 1 37 := ⟨by decide +kernel, rfl⟩
theorem eX5_haveLikeLand_37 : xAt mX5_haveLikeLand 37 (.invokevirtual 84) 3 40 := ⟨by decide +kernel, rfl⟩
theorem eX5_haveLikeLand_40 : xAt mX5_haveLikeLand 40 (.iconst 3) 1 41 := ⟨by decide +kernel, rfl⟩
theorem eX5_haveLikeLand_41 : xBr mX5_haveLikeLand 41 (.if_icmp .ne) (5) 44 46 := ⟨by decide +kernel, rfl, by decide⟩
theorem eX5_haveLikeLand_44 : xAt mX5_haveLikeLand 44 (.iconst 1) 1 45 := ⟨by decide +kernel, rfl⟩
theorem eX5_haveLikeLand_45 : xAt mX5_haveLikeLand 45 (.ireturn) 1 46 := ⟨by decide +kernel, rfl⟩
theorem eX5_haveLikeLand_46 : xAt mX5_haveLikeLand 46 (.iinc 3 1) 3 49 := ⟨by decide +kernel, rfl⟩
theorem eX5_haveLikeLand_49 : xBr mX5_haveLikeLand 49 .goto (-47) 52 2 := ⟨by decide +kernel, rfl, by decide⟩
theorem eX5_haveLikeLand_52 : xAt mX5_haveLikeLand 52 (.iconst 0) 1 53 := ⟨by decide +kernel, rfl⟩
theorem eX5_haveLikeLand_53 : xAt mX5_haveLikeLand 53 (.ireturn) 1 54 := ⟨by decide +kernel, rfl⟩
end
section
theorem eX5_stretches_0 : xAt mX5_stretches 0 (.iconst 0) 1 1 := ⟨by decide +kernel, rfl⟩
theorem eX5_stretches_1 : xAt mX5_stretches 1 (.istore_n 3) 1 2 := ⟨by decide +kernel, rfl⟩
theorem eX5_stretches_2 : xAt mX5_stretches 2 (.iconst 0) 1 3 := ⟨by decide +kernel, rfl⟩
theorem eX5_stretches_3 : xAt mX5_stretches 3 (.istore 4) 2 5 := ⟨by decide +kernel, rfl⟩
theorem eX5_stretches_5 : xAt mX5_stretches 5 (.iload 4) 2 7 := ⟨by decide +kernel, rfl⟩
theorem eX5_stretches_7 : xAt mX5_stretches 7 (.aload_n 1) 1 8 := ⟨by decide +kernel, rfl⟩
theorem eX5_stretches_8 : xAt mX5_stretches 8 (.getfield 19) 3 11 := ⟨by decide +kernel, rfl⟩
theorem eX5_stretches_11 : xBr mX5_stretches 11 (.if_icmp .ge) (44) 14 55 := ⟨by decide +kernel, rfl, by decide⟩
theorem eX5_stretches_14 : xAt mX5_stretches 14 (.iconst 0) 1 15 := ⟨by decide +kernel, rfl⟩
theorem eX5_stretches_15 : xAt mX5_stretches 15 (.istore 5) 2 17 := ⟨by decide +kernel, rfl⟩
theorem eX5_stretches_17 : xAt mX5_stretches 17 (.iload 5) 2 19 := ⟨by decide +kernel, rfl⟩
theorem eX5_stretches_19 : xAt mX5_stretches 19 (.aload_n 2) 1 20 := ⟨by decide +kernel, rfl⟩
theorem eX5_stretches_20 : xAt mX5_stretches 20 (.getfield 19) 3 23 := ⟨by decide +kernel, rfl⟩
theorem eX5_stretches_23 : xBr mX5_stretches 23 (.if_icmp .ge) (26) 26 49 := ⟨by decide +kernel, rfl, by decide⟩
theorem eX5_stretches_26 : xAt mX5_stretches 26 (.aload_n 0) 1 27 := ⟨by decide +kernel, rfl⟩
theorem eX5_stretches_27 : xAt mX5_stretches 27 (.aload_n 1) 1 28 := ⟨by decide +kernel, rfl⟩
theorem eX5_stretches_28 : xAt mX5_stretches 28 (.iload 4) 2 30 := ⟨by decide +kernel, rfl⟩
theorem eX5_stretches_30 : xAt mX5_stretches 30 (.aload_n 2) 1 31 := ⟨by decide +kernel, rfl⟩
theorem eX5_stretches_31 : xAt mX5_stretches 31 (.iload 5) 2 33 := ⟨by decide +kernel, rfl⟩
theorem eX5_stretches_33 : xAt mX5_stretches 33 (.invokevirtual 84) 3 36 := ⟨by decide +kernel, rfl⟩
theorem eX5_stretches_36 : xAt mX5_stretches 36 (.iconst 3) 1 37 := ⟨by decide +kernel, rfl⟩
theorem eX5_stretches_37 : xBr mX5_stretches 37 (.if_icmp .ne) (6) 40 43 := ⟨by decide +kernel, rfl, by decide⟩
theorem eX5_stretches_40 : xAt mX5_stretches 40 (.iinc 3 1) 3 43 := ⟨by decide +kernel, rfl⟩
theorem eX5_stretches_43 : xAt mX5_stretches 43 (.iinc 5 1) 3 46 := ⟨by decide +kernel, rfl⟩
theorem eX5_stretches_46 : xBr mX5_stretches 46 .goto (-29) 49 17 := ⟨by decide +kernel, rfl, by decide⟩
theorem eX5_stretches_49 : xAt mX5_stretches 49 (.iinc 4 1) 3 52 := ⟨by decide +kernel, rfl⟩
theorem eX5_stretches_52 : xBr mX5_stretches 52 .goto (-47) 55 5 := ⟨by decide +kernel, rfl, by decide⟩
theorem eX5_stretches_55 : xAt mX5_stretches 55 (.iload_n 3) 1 56 := ⟨by decide +kernel, rfl⟩
theorem eX5_stretches_56 : xAt mX5_stretches 56 (.ireturn) 1 57 := ⟨by decide +kernel, rfl⟩
theorem eX5_framesMeet_0 : xAt mX5_framesMeet 0 (.iconst 0) 1 1 := ⟨by decide +kernel, rfl⟩
theorem eX5_framesMeet_1 : xAt mX5_framesMeet 1 (.istore_n 3) 1 2 := ⟨by decide +kernel, rfl⟩
theorem eX5_framesMeet_2 : xAt mX5_framesMeet 2 (.iload_n 3) 1 3 := ⟨by decide +kernel, rfl⟩
theorem eX5_framesMeet_3 : xAt mX5_framesMeet 3 (.iconst 2) 1 4 := ⟨by decide +kernel, rfl⟩
theorem eX5_framesMeet_4 : xBr mX5_framesMeet 4 (.if_icmp .ge) (49) 7 53 := ⟨by decide +kernel, rfl, by decide⟩
theorem eX5_framesMeet_7 : xAt mX5_framesMeet 7 (.aload_n 0) 1 8 := ⟨by decide +kernel, rfl⟩
theorem eX5_framesMeet_8 : xAt mX5_framesMeet 8 (.aload_n 1) 1 9 := ⟨by decide +kernel, rfl⟩
theorem eX5_framesMeet_9 : xAt mX5_framesMeet 9 (.iload_n 3) 1 10 := ⟨by decide +kernel, rfl⟩
theorem eX5_framesMeet_10 : xAt mX5_framesMeet 10 (.iconst 1) 1 11 := ⟨by decide +kernel, rfl⟩
theorem eX5_framesMeet_11 : xAt mX5_framesMeet 11 (.invokevirtual 88) 3 14 := ⟨by decide +kernel, rfl⟩
theorem eX5_framesMeet_14 : xAt mX5_framesMeet 14 (.aload_n 0) 1 15 := ⟨by decide +kernel, rfl⟩
theorem eX5_framesMeet_15 : xAt mX5_framesMeet 15 (.aload_n 2) 1 16 := ⟨by decide +kernel, rfl⟩
theorem eX5_framesMeet_16 : xAt mX5_framesMeet 16 (.iload_n 3) 1 17 := ⟨by decide +kernel, rfl⟩
theorem eX5_framesMeet_17 : xAt mX5_framesMeet 17 (.iconst (-1)) 1 18 := ⟨by decide +kernel, rfl⟩
theorem eX5_framesMeet_18 : xAt mX5_framesMeet 18 (.invokevirtual 88) 3 21 := ⟨by decide +kernel, rfl⟩
theorem eX5_framesMeet_21 : xAt mX5_framesMeet 21 (.dneg) 1 22 := ⟨by decide +kernel, rfl⟩
theorem eX5_framesMeet_22 : xAt mX5_framesMeet 22 (.dcmp .g) 1 23 := ⟨by decide +kernel, rfl⟩
theorem eX5_framesMeet_23 : xBr mX5_framesMeet 23 (.ifCond .le) (22) 26 45 := ⟨by decide +kernel, rfl, by decide⟩
theorem eX5_framesMeet_26 : xAt mX5_framesMeet 26 (.aload_n 0) 1 27 := ⟨by decide +kernel, rfl⟩
theorem eX5_framesMeet_27 : xAt mX5_framesMeet 27 (.aload_n 2) 1 28 := ⟨by decide +kernel, rfl⟩
theorem eX5_framesMeet_28 : xAt mX5_framesMeet 28 (.iload_n 3) 1 29 := ⟨by decide +kernel, rfl⟩
theorem eX5_framesMeet_29 : xAt mX5_framesMeet 29 (.iconst 1) 1 30 := ⟨by decide +kernel, rfl⟩
theorem eX5_framesMeet_30 : xAt mX5_framesMeet 30 (.invokevirtual 88) 3 33 := ⟨by decide +kernel, rfl⟩
theorem eX5_framesMeet_33 : xAt mX5_framesMeet 33 (.aload_n 0) 1 34 := ⟨by decide +kernel, rfl⟩
theorem eX5_framesMeet_34 : xAt mX5_framesMeet 34 (.aload_n 1) 1 35 := ⟨by decide +kernel, rfl⟩
theorem eX5_framesMeet_35 : xAt mX5_framesMeet 35 (.iload_n 3) 1 36 := ⟨by decide +kernel, rfl⟩
theorem eX5_framesMeet_36 : xAt mX5_framesMeet 36 (.iconst (-1)) 1 37 := ⟨by decide +kernel, rfl⟩
theorem eX5_framesMeet_37 : xAt mX5_framesMeet 37 (.invokevirtual 88) 3 40 := ⟨by decide +kernel, rfl⟩
theorem eX5_framesMeet_40 : xAt mX5_framesMeet 40 (.dneg) 1 41 := ⟨by decide +kernel, rfl⟩
theorem eX5_framesMeet_41 : xAt mX5_framesMeet 41 (.dcmp .g) 1 42 := ⟨by decide +kernel, rfl⟩
theorem eX5_framesMeet_42 : xBr mX5_framesMeet 42 (.ifCond .gt) (5) 45 47 := ⟨by decide +kernel, rfl, by decide⟩
theorem eX5_framesMeet_45 : xAt mX5_framesMeet 45 (.iconst 0) 1 46 := ⟨by decide +kernel, rfl⟩
theorem eX5_framesMeet_46 : xAt mX5_framesMeet 46 (.ireturn) 1 47 := ⟨by decide +kernel, rfl⟩
theorem eX5_framesMeet_47 : xAt mX5_framesMeet 47 (.iinc 3 1) 3 50 := ⟨by decide +kernel, rfl⟩
theorem eX5_framesMeet_50 : xBr mX5_framesMeet 50 .goto (-48) 53 2 := ⟨by decide +kernel, rfl, by decide⟩
theorem eX5_framesMeet_53 : xAt mX5_framesMeet 53 (.iconst 1) 1 54 := ⟨by decide +kernel, rfl⟩
theorem eX5_framesMeet_54 : xAt mX5_framesMeet 54 (.ireturn) 1 55 := ⟨by decide +kernel, rfl⟩
theorem eX5_farthest_0 : xAt mX5_farthest 0 (.iload_n 3) 1 1 := ⟨by decide +kernel, rfl⟩
theorem eX5_farthest_1 : xAt mX5_farthest 1 (.i2d) 1 2 := ⟨by decide +kernel, rfl⟩
theorem eX5_farthest_2 : xAt mX5_farthest 2 (.aload_n 0) 1 3 := ⟨by decide +kernel, rfl⟩
theorem eX5_farthest_3 : xAt mX5_farthest 3 (.getfield 15) 3 6 := ⟨by decide +kernel, rfl⟩
theorem eX5_farthest_6 : xAt mX5_farthest 6 (.getfield 92) 3 9 := ⟨by decide +kernel, rfl⟩
theorem eX5_farthest_9 : xAt mX5_farthest 9 (.iconst 2) 1 10 := ⟨by decide +kernel, rfl⟩
theorem eX5_farthest_10 : xAt mX5_farthest 10 (.aload_n 1) 1 11 := ⟨by decide +kernel, rfl⟩
theorem eX5_farthest_11 : xAt mX5_farthest 11 (.getfield 31) 3 14 := ⟨by decide +kernel, rfl⟩
theorem eX5_farthest_14 : xAt mX5_farthest 14 (.iconst 0) 1 15 := ⟨by decide +kernel, rfl⟩
theorem eX5_farthest_15 : xAt mX5_farthest 15 (.iaload) 1 16 := ⟨by decide +kernel, rfl⟩
theorem eX5_farthest_16 : xAt mX5_farthest 16 (.imul) 1 17 := ⟨by decide +kernel, rfl⟩
theorem eX5_farthest_17 : xAt mX5_farthest 17 (.iload_n 2) 1 18 := ⟨by decide +kernel, rfl⟩
theorem eX5_farthest_18 : xAt mX5_farthest 18 (.iadd) 1 19 := ⟨by decide +kernel, rfl⟩
theorem eX5_farthest_19 : xAt mX5_farthest 19 (.daload) 1 20 := ⟨by decide +kernel, rfl⟩
theorem eX5_farthest_20 : xAt mX5_farthest 20 (.dmul) 1 21 := ⟨by decide +kernel, rfl⟩
theorem eX5_farthest_21 : xAt mX5_farthest 21 (.dstore 4) 2 23 := ⟨by decide +kernel, rfl⟩
theorem eX5_farthest_23 : xAt mX5_farthest 23 (.iconst 1) 1 24 := ⟨by decide +kernel, rfl⟩
theorem eX5_farthest_24 : xAt mX5_farthest 24 (.istore 6) 2 26 := ⟨by decide +kernel, rfl⟩
theorem eX5_farthest_26 : xAt mX5_farthest 26 (.iload 6) 2 28 := ⟨by decide +kernel, rfl⟩
theorem eX5_farthest_28 : xAt mX5_farthest 28 (.aload_n 1) 1 29 := ⟨by decide +kernel, rfl⟩
theorem eX5_farthest_29 : xAt mX5_farthest 29 (.getfield 19) 3 32 := ⟨by decide +kernel, rfl⟩
theorem eX5_farthest_32 : xBr mX5_farthest 32 (.if_icmp .ge) (50) 35 82 := ⟨by decide +kernel, rfl, by decide⟩
theorem eX5_farthest_35 : xAt mX5_farthest 35 (.iload_n 3) 1 36 := ⟨by decide +kernel, rfl⟩
theorem eX5_farthest_36 : xAt mX5_farthest 36 (.i2d) 1 37 := ⟨by decide +kernel, rfl⟩
theorem eX5_farthest_37 : xAt mX5_farthest 37 (.aload_n 0) 1 38 := ⟨by decide +kernel, rfl⟩
theorem eX5_farthest_38 : xAt mX5_farthest 38 (.getfield 15) 3 41 := ⟨by decide +kernel, rfl⟩
theorem eX5_farthest_41 : xAt mX5_farthest 41 (.getfield 92) 3 44 := ⟨by decide +kernel, rfl⟩
theorem eX5_farthest_44 : xAt mX5_farthest 44 (.iconst 2) 1 45 := ⟨by decide +kernel, rfl⟩
theorem eX5_farthest_45 : xAt mX5_farthest 45 (.aload_n 1) 1 46 := ⟨by decide +kernel, rfl⟩
theorem eX5_farthest_46 : xAt mX5_farthest 46 (.getfield 31) 3 49 := ⟨by decide +kernel, rfl⟩
theorem eX5_farthest_49 : xAt mX5_farthest 49 (.iload 6) 2 51 := ⟨by decide +kernel, rfl⟩
theorem eX5_farthest_51 : xAt mX5_farthest 51 (.iaload) 1 52 := ⟨by decide +kernel, rfl⟩
theorem eX5_farthest_52 : xAt mX5_farthest 52 (.imul) 1 53 := ⟨by decide +kernel, rfl⟩
theorem eX5_farthest_53 : xAt mX5_farthest 53 (.iload_n 2) 1 54 := ⟨by decide +kernel, rfl⟩
theorem eX5_farthest_54 : xAt mX5_farthest 54 (.iadd) 1 55 := ⟨by decide +kernel, rfl⟩
theorem eX5_farthest_55 : xAt mX5_farthest 55 (.daload) 1 56 := ⟨by decide +kernel, rfl⟩
theorem eX5_farthest_56 : xAt mX5_farthest 56 (.dmul) 1 57 := ⟨by decide +kernel, rfl⟩
theorem eX5_farthest_57 : xAt mX5_farthest 57 (.dstore 7) 2 59 := ⟨by decide +kernel, rfl⟩
theorem eX5_farthest_59 : xAt mX5_farthest 59 (.dload 7) 2 61 := ⟨by decide +kernel, rfl⟩
theorem eX5_farthest_61 : xAt mX5_farthest 61 (.dload 4) 2 63 := ⟨by decide +kernel, rfl⟩
theorem eX5_farthest_63 : xAt mX5_farthest 63 (.dcmp .l) 1 64 := ⟨by decide +kernel, rfl⟩
theorem eX5_farthest_64 : xBr mX5_farthest 64 (.ifCond .le) (8) 67 72 := ⟨by decide +kernel, rfl, by decide⟩
theorem eX5_farthest_67 : xAt mX5_farthest 67 (.dload 7) 2 69 := ⟨by decide +kernel, rfl⟩
theorem eX5_farthest_69 : xBr mX5_farthest 69 .goto (5) 72 74 := ⟨by decide +kernel, rfl, by decide⟩
theorem eX5_farthest_72 : xAt mX5_farthest 72 (.dload 4) 2 74 := ⟨by decide +kernel, rfl⟩
theorem eX5_farthest_74 : xAt mX5_farthest 74 (.dstore 4) 2 76 := ⟨by decide +kernel, rfl⟩
theorem eX5_farthest_76 : xAt mX5_farthest 76 (.iinc 6 1) 3 79 := ⟨by decide +kernel, rfl⟩
theorem eX5_farthest_79 : xBr mX5_farthest 79 .goto (-53) 82 26 := ⟨by decide +kernel, rfl, by decide⟩
theorem eX5_farthest_82 : xAt mX5_farthest 82 (.dload 4) 2 84 := ⟨by decide +kernel, rfl⟩
theorem eX5_farthest_84 : xAt mX5_farthest 84 (.dreturn) 1 85 := ⟨by decide +kernel, rfl⟩
theorem eX5_isCut_0 : xAt mX5_isCut 0 (.iconst 0) 1 1 := ⟨by decide +kernel, rfl⟩
theorem eX5_isCut_1 : xAt mX5_isCut 1 (.istore 4) 2 3 := ⟨by decide +kernel, rfl⟩
theorem eX5_isCut_3 : xAt mX5_isCut 3 (.iload 4) 2 5 := ⟨by decide +kernel, rfl⟩
theorem eX5_isCut_5 : xAt mX5_isCut 5 (.aload_n 1) 1 6 := ⟨by decide +kernel, rfl⟩
theorem eX5_isCut_6 : xAt mX5_isCut 6 (.getfield 19) 3 9 := ⟨by decide +kernel, rfl⟩
theorem eX5_isCut_9 : xBr mX5_isCut 9 (.if_icmp .ge) (120) 12 129 := ⟨by decide +kernel, rfl, by decide⟩
theorem eX5_isCut_12 : xAt mX5_isCut 12 (.aload_n 1) 1 13 := ⟨by decide +kernel, rfl⟩
theorem eX5_isCut_13 : xAt mX5_isCut 13 (.iload 4) 2 15 := ⟨by decide +kernel, rfl⟩
theorem eX5_isCut_15 : xAt mX5_isCut 15 (.invokevirtual 35) 3 18 := ⟨by decide +kernel, rfl⟩
theorem eX5_isCut_18 : xAt mX5_isCut 18 (.istore 5) 2 20 := ⟨by decide +kernel, rfl⟩
theorem eX5_isCut_20 : xAt mX5_isCut 20 (.aload_n 1) 1 21 := ⟨by decide +kernel, rfl⟩
theorem eX5_isCut_21 : xAt mX5_isCut 21 (.iload 4) 2 23 := ⟨by decide +kernel, rfl⟩
theorem eX5_isCut_23 : xAt mX5_isCut 23 (.iconst 1) 1 24 := ⟨by decide +kernel, rfl⟩
theorem eX5_isCut_24 : xAt mX5_isCut 24 (.iadd) 1 25 := ⟨by decide +kernel, rfl⟩
theorem eX5_isCut_25 : xAt mX5_isCut 25 (.invokevirtual 35) 3 28 := ⟨by decide +kernel, rfl⟩
theorem eX5_isCut_28 : xAt mX5_isCut 28 (.istore 6) 2 30 := ⟨by decide +kernel, rfl⟩
theorem eX5_isCut_30 : xAt mX5_isCut 30 (.iload 5) 2 32 := ⟨by decide +kernel, rfl⟩
theorem eX5_isCut_32 : xAt mX5_isCut 32 (.aload_n 1) 1 33 := ⟨by decide +kernel, rfl⟩
theorem eX5_isCut_33 : xAt mX5_isCut 33 (.getfield 31) 3 36 := ⟨by decide +kernel, rfl⟩
theorem eX5_isCut_36 : xAt mX5_isCut 36 (.iload_n 2) 1 37 := ⟨by decide +kernel, rfl⟩
theorem eX5_isCut_37 : xAt mX5_isCut 37 (.iaload) 1 38 := ⟨by decide +kernel, rfl⟩
theorem eX5_isCut_38 : xBr mX5_isCut 38 (.if_icmp .eq) (36) 41 74 := ⟨by decide +kernel, rfl, by decide⟩
theorem eX5_isCut_41 : xAt mX5_isCut 41 (.iload 5) 2 43 := ⟨by decide +kernel, rfl⟩
theorem eX5_isCut_43 : xAt mX5_isCut 43 (.aload_n 1) 1 44 := ⟨by decide +kernel, rfl⟩
theorem eX5_isCut_44 : xAt mX5_isCut 44 (.getfield 31) 3 47 := ⟨by decide +kernel, rfl⟩
theorem eX5_isCut_47 : xAt mX5_isCut 47 (.iload_n 3) 1 48 := ⟨by decide +kernel, rfl⟩
theorem eX5_isCut_48 : xAt mX5_isCut 48 (.iaload) 1 49 := ⟨by decide +kernel, rfl⟩
theorem eX5_isCut_49 : xBr mX5_isCut 49 (.if_icmp .eq) (25) 52 74 := ⟨by decide +kernel, rfl, by decide⟩
theorem eX5_isCut_52 : xAt mX5_isCut 52 (.iload 6) 2 54 := ⟨by decide +kernel, rfl⟩
theorem eX5_isCut_54 : xAt mX5_isCut 54 (.aload_n 1) 1 55 := ⟨by decide +kernel, rfl⟩
theorem eX5_isCut_55 : xAt mX5_isCut 55 (.getfield 31) 3 58 := ⟨by decide +kernel, rfl⟩
theorem eX5_isCut_58 : xAt mX5_isCut 58 (.iload_n 2) 1 59 := ⟨by decide +kernel, rfl⟩
theorem eX5_isCut_59 : xAt mX5_isCut 59 (.iaload) 1 60 := ⟨by decide +kernel, rfl⟩
theorem eX5_isCut_60 : xBr mX5_isCut 60 (.if_icmp .eq) (14) 63 74 := ⟨by decide +kernel, rfl, by decide⟩
theorem eX5_isCut_63 : xAt mX5_isCut 63 (.iload 6) 2 65 := ⟨by decide +kernel, rfl⟩
theorem eX5_isCut_65 : xAt mX5_isCut 65 (.aload_n 1) 1 66 := ⟨by decide +kernel, rfl⟩
theorem eX5_isCut_66 : xAt mX5_isCut 66 (.getfield 31) 3 69 := ⟨by decide +kernel, rfl⟩
theorem eX5_isCut_69 : xAt mX5_isCut 69 (.iload_n 3) 1 70 := ⟨by decide +kernel, rfl⟩
theorem eX5_isCut_70 : xAt mX5_isCut 70 (.iaload) 1 71 := ⟨by decide +kernel, rfl⟩
theorem eX5_isCut_71 : xBr mX5_isCut 71 (.if_icmp .ne) (7) 74 78 := ⟨by decide +kernel, rfl, by decide⟩
theorem eX5_isCut_74 : xAt mX5_isCut 74 (.iconst 1) 1 75 := ⟨by decide +kernel, rfl⟩
theorem eX5_isCut_75 : xBr mX5_isCut 75 .goto (4) 78 79 := ⟨by decide +kernel, rfl, by decide⟩
theorem eX5_isCut_78 : xAt mX5_isCut 78 (.iconst 0) 1 79 := ⟨by decide +kernel, rfl⟩
theorem eX5_isCut_79 : xAt mX5_isCut 79 (.istore 7) 2 81 := ⟨by decide +kernel, rfl⟩
theorem eX5_isCut_81 : xAt mX5_isCut 81 (.aload_n 0) 1 82 := ⟨by decide +kernel, rfl⟩
theorem eX5_isCut_82 : xAt mX5_isCut 82 (.getfield 15) 3 85 := ⟨by decide +kernel, rfl⟩
theorem eX5_isCut_85 : xAt mX5_isCut 85 (.aload_n 1) 1 86 := ⟨by decide +kernel, rfl⟩
theorem eX5_isCut_86 : xAt mX5_isCut 86 (.getfield 31) 3 89 := ⟨by decide +kernel, rfl⟩
theorem eX5_isCut_89 : xAt mX5_isCut 89 (.iload_n 2) 1 90 := ⟨by decide +kernel, rfl⟩
theorem eX5_isCut_90 : xAt mX5_isCut 90 (.iaload) 1 91 := ⟨by decide +kernel, rfl⟩
theorem eX5_isCut_91 : xAt mX5_isCut 91 (.aload_n 1) 1 92 := ⟨by decide +kernel, rfl⟩
theorem eX5_isCut_92 : xAt mX5_isCut 92 (.getfield 31) 3 95 := ⟨by decide +kernel, rfl⟩
theorem eX5_isCut_95 : xAt mX5_isCut 95 (.iload_n 3) 1 96 := ⟨by decide +kernel, rfl⟩
theorem eX5_isCut_96 : xAt mX5_isCut 96 (.iaload) 1 97 := ⟨by decide +kernel, rfl⟩
theorem eX5_isCut_97 : xAt mX5_isCut 97 (.iload 5) 2 99 := ⟨by decide +kernel, rfl⟩
theorem eX5_isCut_99 : xAt mX5_isCut 99 (.iload 6) 2 101 := ⟨by decide +kernel, rfl⟩
theorem eX5_isCut_101 : xAt mX5_isCut 101 (.invokevirtual 39) 3 104 := ⟨by decide +kernel, rfl⟩
theorem eX5_isCut_104 : xAt mX5_isCut 104 (.istore 8) 2 106 := ⟨by decide +kernel, rfl⟩
theorem eX5_isCut_106 : xAt mX5_isCut 106 (.iload 8) 2 108 := ⟨by decide +kernel, rfl⟩
theorem eX5_isCut_108 : xAt mX5_isCut 108 (.iload 7) 2 110 := ⟨by decide +kernel, rfl⟩
theorem eX5_isCut_110 : xBr mX5_isCut 110 (.ifCond .eq) (7) 113 117 := ⟨by decide +kernel, rfl, by decide⟩
theorem eX5_isCut_113 : xAt mX5_isCut 113 (.iconst 2) 1 114 := ⟨by decide +kernel, rfl⟩
theorem eX5_isCut_114 : xBr mX5_isCut 114 .goto (4) 117 118 := ⟨by decide +kernel, rfl, by decide⟩
theorem eX5_isCut_117 : xAt mX5_isCut 117 (.iconst 0) 1 118 := ⟨by decide +kernel, rfl⟩
theorem eX5_isCut_118 : xBr mX5_isCut 118 (.if_icmp .eq) (5) 121 123 := ⟨by decide +kernel, rfl, by decide⟩
theorem eX5_isCut_121 : xAt mX5_isCut 121 (.iconst 0) 1 122 := ⟨by decide +kernel, rfl⟩
theorem eX5_isCut_122 : xAt mX5_isCut 122 (.ireturn) 1 123 := ⟨by decide +kernel, rfl⟩
theorem eX5_isCut_123 : xAt mX5_isCut 123 (.iinc 4 1) 3 126 := ⟨by decide +kernel, rfl⟩
theorem eX5_isCut_126 : xBr mX5_isCut 126 .goto (-123) 129 3 := ⟨by decide +kernel, rfl, by decide⟩
theorem eX5_isCut_129 : xAt mX5_isCut 129 (.aload_n 0) 1 130 := ⟨by decide +kernel, rfl⟩
theorem eX5_isCut_130 : xAt mX5_isCut 130 (.aload_n 1) 1 131 := ⟨by decide +kernel, rfl⟩
theorem eX5_isCut_131 : xAt mX5_isCut 131 (.iload_n 2) 1 132 := ⟨by decide +kernel, rfl⟩
theorem eX5_isCut_132 : xAt mX5_isCut 132 (.aload_n 1) 1 133 := ⟨by decide +kernel, rfl⟩
theorem eX5_isCut_133 : xAt mX5_isCut 133 (.getfield 31) 3 136 := ⟨by decide +kernel, rfl⟩
theorem eX5_isCut_136 : xAt mX5_isCut 136 (.iload_n 3) 1 137 := ⟨by decide +kernel, rfl⟩
theorem eX5_isCut_137 : xAt mX5_isCut 137 (.iaload) 1 138 := ⟨by decide +kernel, rfl⟩
theorem eX5_isCut_138 : xAt mX5_isCut 138 (.invokevirtual 68) 3 141 := ⟨by decide +kernel, rfl⟩
theorem eX5_isCut_141 : xAt mX5_isCut 141 (.ireturn) 1 142 := ⟨by decide +kernel, rfl⟩
theorem eX6_weigh_0 : xAt mX6_weigh 0 (.aload_n 0) 1 1 := ⟨by decide +kernel, rfl⟩
theorem eX6_weigh_1 : xAt mX6_weigh 1 (.getfield 18) 3 4 := ⟨by decide +kernel, rfl⟩
theorem eX6_weigh_4 : xAt mX6_weigh 4 (.invokevirtual 28) 3 7 := ⟨by decide +kernel, rfl⟩
theorem eX6_weigh_7 : xAt mX6_weigh 7 (.iconst 0) 1 8 := ⟨by decide +kernel, rfl⟩
theorem eX6_weigh_8 : xAt mX6_weigh 8 (.istore 4) 2 10 := ⟨by decide +kernel, rfl⟩
theorem eX6_weigh_10 : xAt mX6_weigh 10 (.iload 4) 2 12 := ⟨by decide +kernel, rfl⟩
theorem eX6_weigh_12 : xAt mX6_weigh 12 (.aload_n 1) 1 13 := ⟨by decide +kernel, rfl⟩
theorem eX6_weigh_13 : xAt mX6_weigh 13 (.getfield 31) 3 16 := ⟨by decide +kernel, rfl⟩
theorem eX6_weigh_16 : xBr mX6_weigh 16 (.if_icmp .ge) (55) 19 71 := ⟨by decide +kernel, rfl, by decide⟩
theorem eX6_weigh_19 : xAt mX6_weigh 19 (.aload_n 1) 1 20 := ⟨by decide +kernel, rfl⟩
theorem eX6_weigh_20 : xAt mX6_weigh 20 (.iload 4) 2 22 := ⟨by decide +kernel, rfl⟩
theorem eX6_weigh_22 : xAt mX6_weigh 22 (.iload_n 3) 1 23 := ⟨by decide +kernel, rfl⟩
theorem eX6_weigh_23 : xAt mX6_weigh 23 (.invokevirtual 37) 3 26 := ⟨by decide +kernel, rfl⟩
theorem eX6_weigh_26 : xBr mX6_weigh 26 (.ifCond .eq) (39) 29 65 := ⟨by decide +kernel, rfl, by decide⟩
theorem eX6_weigh_29 : xAt mX6_weigh 29 (.aload_n 2) 1 30 := ⟨by decide +kernel, rfl⟩
theorem eX6_weigh_30 : xAt mX6_weigh 30 (.aload_n 1) 1 31 := ⟨by decide +kernel, rfl⟩
theorem eX6_weigh_31 : xAt mX6_weigh 31 (.getfield 41) 3 34 := ⟨by decide +kernel, rfl⟩
theorem eX6_weigh_34 : xAt mX6_weigh 34 (.iload 4) 2 36 := ⟨by decide +kernel, rfl⟩
theorem eX6_weigh_36 : xAt mX6_weigh 36 (.aaload) 1 37 := ⟨by decide +kernel, rfl⟩
theorem eX6_weigh_37 : xAt mX6_weigh 37 (.getfield 45) 3 40 := ⟨by decide +kernel, rfl⟩
theorem eX6_weigh_40 : xAt mX6_weigh 40 (.aload_n 0) 1 41 := ⟨by decide +kernel, rfl⟩
theorem eX6_weigh_41 : xAt mX6_weigh 41 (.getfield 11) 3 44 := ⟨by decide +kernel, rfl⟩
theorem eX6_weigh_44 : xAt mX6_weigh 44 (.iload 4) 2 46 := ⟨by decide +kernel, rfl⟩
theorem eX6_weigh_46 : xAt mX6_weigh 46 (.aaload) 1 47 := ⟨by decide +kernel, rfl⟩
theorem eX6_weigh_47 : xAt mX6_weigh 47 (.invokevirtual 51) 3 50 := ⟨by decide +kernel, rfl⟩
theorem eX6_weigh_50 : xAt mX6_weigh 50 (.aload_n 0) 1 51 := ⟨by decide +kernel, rfl⟩
theorem eX6_weigh_51 : xAt mX6_weigh 51 (.getfield 18) 3 54 := ⟨by decide +kernel, rfl⟩
theorem eX6_weigh_54 : xAt mX6_weigh 54 (.aload_n 0) 1 55 := ⟨by decide +kernel, rfl⟩
theorem eX6_weigh_55 : xAt mX6_weigh 55 (.getfield 11) 3 58 := ⟨by decide +kernel, rfl⟩
theorem eX6_weigh_58 : xAt mX6_weigh 58 (.iload 4) 2 60 := ⟨by decide +kernel, rfl⟩
theorem eX6_weigh_60 : xAt mX6_weigh 60 (.aaload) 1 61 := ⟨by decide +kernel, rfl⟩
theorem eX6_weigh_61 : xAt mX6_weigh 61 (.lconst 1) 1 62 := ⟨by decide +kernel, rfl⟩
theorem eX6_weigh_62 : xAt mX6_weigh 62 (.invokevirtual 57) 3 65 := ⟨by decide +kernel, rfl⟩
theorem eX6_weigh_65 : xAt mX6_weigh 65 (.iinc 4 1) 3 68 := ⟨by decide +kernel, rfl⟩
theorem eX6_weigh_68 : xBr mX6_weigh 68 .goto (-58) 71 10 := ⟨by decide +kernel, rfl, by decide⟩
theorem eX6_weigh_71 : xAt mX6_weigh 71 (.aload_n 0) 1 72 := ⟨by decide +kernel, rfl⟩
theorem eX6_weigh_72 : xAt mX6_weigh 72 (.getfield 18) 3 75 := ⟨by decide +kernel, rfl⟩
theorem eX6_weigh_75 : xAt mX6_weigh 75 (.invokevirtual 61) 3 78 := ⟨by decide +kernel, rfl⟩
theorem eX6_weigh_78 : xAt mX6_weigh 78 (.return_) 1 79 := ⟨by decide +kernel, rfl⟩
theorem eX6_shareOf_0 : xAt mX6_shareOf 0 (.iload 4) 2 2 := ⟨by decide +kernel, rfl⟩
theorem eX6_shareOf_2 : xAt mX6_shareOf 2 (.istore 5) 2 4 := ⟨by decide +kernel, rfl⟩
theorem eX6_shareOf_4 : xAt mX6_shareOf 4 (.iconst 0) 1 5 := ⟨by decide +kernel, rfl⟩
theorem eX6_shareOf_5 : xAt mX6_shareOf 5 (.istore 6) 2 7 := ⟨by decide +kernel, rfl⟩
theorem eX6_shareOf_7 : xAt mX6_shareOf 7 (.iconst 0) 1 8 := ⟨by decide +kernel, rfl⟩
theorem eX6_shareOf_8 : xAt mX6_shareOf 8 (.istore 7) 2 10 := ⟨by decide +kernel, rfl⟩
theorem eX6_shareOf_10 : xAt mX6_shareOf 10 (.iload 7) 2 12 := ⟨by decide +kernel, rfl⟩
theorem eX6_shareOf_12 : xAt mX6_shareOf 12 (.aload_n 1) 1 13 := ⟨by decide +kernel, rfl⟩
theorem eX6_shareOf_13 : xAt mX6_shareOf 13 (.getfield 31) 3 16 := ⟨by decide +kernel, rfl⟩
theorem eX6_shareOf_16 : xBr mX6_shareOf 16 (.if_icmp .ge) (56) 19 72 := ⟨by decide +kernel, rfl, by decide⟩
theorem eX6_shareOf_19 : xAt mX6_shareOf 19 (.aload_n 1) 1 20 := ⟨by decide +kernel, rfl⟩
theorem eX6_shareOf_20 : xAt mX6_shareOf 20 (.iload 7) 2 22 := ⟨by decide +kernel, rfl⟩
theorem eX6_shareOf_22 : xAt mX6_shareOf 22 (.iload_n 2) 1 23 := ⟨by decide +kernel, rfl⟩
theorem eX6_shareOf_23 : xAt mX6_shareOf 23 (.invokevirtual 37) 3 26 := ⟨by decide +kernel, rfl⟩
theorem eX6_shareOf_26 : xBr mX6_shareOf 26 (.ifCond .eq) (40) 29 66 := ⟨by decide +kernel, rfl, by decide⟩
theorem eX6_shareOf_29 : xAt mX6_shareOf 29 (.aload_n 0) 1 30 := ⟨by decide +kernel, rfl⟩
theorem eX6_shareOf_30 : xAt mX6_shareOf 30 (.aload_n 0) 1 31 := ⟨by decide +kernel, rfl⟩
theorem eX6_shareOf_31 : xAt mX6_shareOf 31 (.getfield 11) 3 34 := ⟨by decide +kernel, rfl⟩
theorem eX6_shareOf_34 : xAt mX6_shareOf 34 (.iload 7) 2 36 := ⟨by decide +kernel, rfl⟩
theorem eX6_shareOf_36 : xAt mX6_shareOf 36 (.aaload) 1 37 := ⟨by decide +kernel, rfl⟩
theorem eX6_shareOf_37 : xAt mX6_shareOf 37 (.iload 4) 2 39 := ⟨by decide +kernel, rfl⟩
theorem eX6_shareOf_39 : xAt mX6_shareOf 39 (.invokevirtual 64) 3 42 := ⟨by decide +kernel, rfl⟩
theorem eX6_shareOf_42 : xAt mX6_shareOf 42 (.istore 8) 2 44 := ⟨by decide +kernel, rfl⟩
theorem eX6_shareOf_44 : xAt mX6_shareOf 44 (.iload 5) 2 46 := ⟨by decide +kernel, rfl⟩
theorem eX6_shareOf_46 : xAt mX6_shareOf 46 (.iload 8) 2 48 := ⟨by decide +kernel, rfl⟩
theorem eX6_shareOf_48 : xAt mX6_shareOf 48 (.isub) 1 49 := ⟨by decide +kernel, rfl⟩
theorem eX6_shareOf_49 : xAt mX6_shareOf 49 (.istore 5) 2 51 := ⟨by decide +kernel, rfl⟩
theorem eX6_shareOf_51 : xAt mX6_shareOf 51 (.iload 7) 2 53 := ⟨by decide +kernel, rfl⟩
theorem eX6_shareOf_53 : xAt mX6_shareOf 53 (.iload_n 3) 1 54 := ⟨by decide +kernel, rfl⟩
theorem eX6_shareOf_54 : xBr mX6_shareOf 54 (.if_icmp .ne) (8) 57 62 := ⟨by decide +kernel, rfl, by decide⟩
theorem eX6_shareOf_57 : xAt mX6_shareOf 57 (.iload 8) 2 59 := ⟨by decide +kernel, rfl⟩
theorem eX6_shareOf_59 : xBr mX6_shareOf 59 .goto (5) 62 64 := ⟨by decide +kernel, rfl, by decide⟩
theorem eX6_shareOf_62 : xAt mX6_shareOf 62 (.iload 6) 2 64 := ⟨by decide +kernel, rfl⟩
theorem eX6_shareOf_64 : xAt mX6_shareOf 64 (.istore 6) 2 66 := ⟨by decide +kernel, rfl⟩
theorem eX6_shareOf_66 : xAt mX6_shareOf 66 (.iinc 7 1) 3 69 := ⟨by decide +kernel, rfl⟩
theorem eX6_shareOf_69 : xBr mX6_shareOf 69 .goto (-59) 72 10 := ⟨by decide +kernel, rfl, by decide⟩
theorem eX6_shareOf_72 : xAt mX6_shareOf 72 (.iconst 0) 1 73 := ⟨by decide +kernel, rfl⟩
theorem eX6_shareOf_73 : xAt mX6_shareOf 73 (.istore 7) 2 75 := ⟨by decide +kernel, rfl⟩
theorem eX6_shareOf_75 : xAt mX6_shareOf 75 (.iconst 0) 1 76 := ⟨by decide +kernel, rfl⟩
theorem eX6_shareOf_76 : xAt mX6_shareOf 76 (.istore 8) 2 78 := ⟨by decide +kernel, rfl⟩
theorem eX6_shareOf_78 : xAt mX6_shareOf 78 (.iload 8) 2 80 := ⟨by decide +kernel, rfl⟩
theorem eX6_shareOf_80 : xAt mX6_shareOf 80 (.aload_n 1) 1 81 := ⟨by decide +kernel, rfl⟩
theorem eX6_shareOf_81 : xAt mX6_shareOf 81 (.getfield 31) 3 84 := ⟨by decide +kernel, rfl⟩
theorem eX6_shareOf_84 : xBr mX6_shareOf 84 (.if_icmp .ge) (69) 87 153 := ⟨by decide +kernel, rfl, by decide⟩
theorem eX6_shareOf_87 : xAt mX6_shareOf 87 (.iload 8) 2 89 := ⟨by decide +kernel, rfl⟩
theorem eX6_shareOf_89 : xAt mX6_shareOf 89 (.iload_n 3) 1 90 := ⟨by decide +kernel, rfl⟩
theorem eX6_shareOf_90 : xBr mX6_shareOf 90 (.if_icmp .eq) (57) 93 147 := ⟨by decide +kernel, rfl, by decide⟩
theorem eX6_shareOf_93 : xAt mX6_shareOf 93 (.aload_n 1) 1 94 := ⟨by decide +kernel, rfl⟩
theorem eX6_shareOf_94 : xAt mX6_shareOf 94 (.iload 8) 2 96 := ⟨by decide +kernel, rfl⟩
theorem eX6_shareOf_96 : xAt mX6_shareOf 96 (.iload_n 2) 1 97 := ⟨by decide +kernel, rfl⟩
theorem eX6_shareOf_97 : xAt mX6_shareOf 97 (.invokevirtual 37) 3 100 := ⟨by decide +kernel, rfl⟩
theorem eX6_shareOf_100 : xBr mX6_shareOf 100 (.ifCond .eq) (47) 103 147 := ⟨by decide +kernel, rfl, by decide⟩
theorem eX6_shareOf_103 : xAt mX6_shareOf 103 (.aload_n 0) 1 104 := ⟨by decide +kernel, rfl⟩
theorem eX6_shareOf_104 : xAt mX6_shareOf 104 (.getfield 11) 3 107 := ⟨by decide +kernel, rfl⟩
theorem eX6_shareOf_107 : xAt mX6_shareOf 107 (.iload 8) 2 109 := ⟨by decide +kernel, rfl⟩
theorem eX6_shareOf_109 : xAt mX6_shareOf 109 (.aaload) 1 110 := ⟨by decide +kernel, rfl⟩
theorem eX6_shareOf_110 : xAt mX6_shareOf 110 (.aload_n 0) 1 111 := ⟨by decide +kernel, rfl⟩
theorem eX6_shareOf_111 : xAt mX6_shareOf 111 (.getfield 11) 3 114 := ⟨by decide +kernel, rfl⟩
theorem eX6_shareOf_114 : xAt mX6_shareOf 114 (.iload_n 3) 1 115 := ⟨by decide +kernel, rfl⟩
theorem eX6_shareOf_115 : xAt mX6_shareOf 115 (.aaload) 1 116 := ⟨by decide +kernel, rfl⟩
theorem eX6_shareOf_116 : xAt mX6_shareOf 116 (.invokevirtual 68) 3 119 := ⟨by decide +kernel, rfl⟩
theorem eX6_shareOf_119 : xAt mX6_shareOf 119 (.istore 9) 2 121 := ⟨by decide +kernel, rfl⟩
theorem eX6_shareOf_121 : xAt mX6_shareOf 121 (.iload 7) 2 123 := ⟨by decide +kernel, rfl⟩
theorem eX6_shareOf_123 : xAt mX6_shareOf 123 (.iload 9) 2 125 := ⟨by decide +kernel, rfl⟩
theorem eX6_shareOf_125 : xBr mX6_shareOf 125 (.ifCond .gt) (14) 128 139 := ⟨by decide +kernel, rfl, by decide⟩
theorem eX6_shareOf_128 : xAt mX6_shareOf 128 (.iload 9) 2 130 := ⟨by decide +kernel, rfl⟩
theorem eX6_shareOf_130 : xBr mX6_shareOf 130 (.ifCond .ne) (13) 133 143 := ⟨by decide +kernel, rfl, by decide⟩
theorem eX6_shareOf_133 : xAt mX6_shareOf 133 (.iload 8) 2 135 := ⟨by decide +kernel, rfl⟩
theorem eX6_shareOf_135 : xAt mX6_shareOf 135 (.iload_n 3) 1 136 := ⟨by decide +kernel, rfl⟩
theorem eX6_shareOf_136 : xBr mX6_shareOf 136 (.if_icmp .ge) (7) 139 143 := ⟨by decide +kernel, rfl, by decide⟩
theorem eX6_shareOf_139 : xAt mX6_shareOf 139 (.iconst 1) 1 140 := ⟨by decide +kernel, rfl⟩
theorem eX6_shareOf_140 : xBr mX6_shareOf 140 .goto (4) 143 144 := ⟨by decide +kernel, rfl, by decide⟩
theorem eX6_shareOf_143 : xAt mX6_shareOf 143 (.iconst 0) 1 144 := ⟨by decide +kernel, rfl⟩
theorem eX6_shareOf_144 : xAt mX6_shareOf 144 (.iadd) 1 145 := ⟨by decide +kernel, rfl⟩
theorem eX6_shareOf_145 : xAt mX6_shareOf 145 (.istore 7) 2 147 := ⟨by decide +kernel, rfl⟩
theorem eX6_shareOf_147 : xAt mX6_shareOf 147 (.iinc 8 1) 3 150 := ⟨by decide +kernel, rfl⟩
theorem eX6_shareOf_150 : xBr mX6_shareOf 150 .goto (-72) 153 78 := ⟨by decide +kernel, rfl, by decide⟩
theorem eX6_shareOf_153 : xAt mX6_shareOf 153 (.iload 7) 2 155 := ⟨by decide +kernel, rfl⟩
theorem eX6_shareOf_155 : xAt mX6_shareOf 155 (.iload 5) 2 157 := ⟨by decide +kernel, rfl⟩
theorem eX6_shareOf_157 : xBr mX6_shareOf 157 (.if_icmp .ge) (10) 160 167 := ⟨by decide +kernel, rfl, by decide⟩
theorem eX6_shareOf_160 : xAt mX6_shareOf 160 (.iload 6) 2 162 := ⟨by decide +kernel, rfl⟩
theorem eX6_shareOf_162 : xAt mX6_shareOf 162 (.iconst 1) 1 163 := ⟨by decide +kernel, rfl⟩
theorem eX6_shareOf_163 : xAt mX6_shareOf 163 (.iadd) 1 164 := ⟨by decide +kernel, rfl⟩
theorem eX6_shareOf_164 : xBr mX6_shareOf 164 .goto (5) 167 169 := ⟨by decide +kernel, rfl, by decide⟩
theorem eX6_shareOf_167 : xAt mX6_shareOf 167 (.iload 6) 2 169 := ⟨by decide +kernel, rfl⟩
theorem eX6_shareOf_169 : xAt mX6_shareOf 169 (.ireturn) 1 170 := ⟨by decide +kernel, rfl⟩
theorem eX6_cutShare_0 : xAt mX6_cutShare 0 (.aload_n 0) 1 1 := ⟨by decide +kernel, rfl⟩
theorem eX6_cutShare_1 : xAt mX6_cutShare 1 (.getfield 22) 3 4 := ⟨by decide +kernel, rfl⟩
theorem eX6_cutShare_4 : xAt mX6_cutShare 4 (.aload_n 1) 1 5 := ⟨by decide +kernel, rfl⟩
theorem eX6_cutShare_5 : xAt mX6_cutShare 5 (.invokevirtual 72) 3 8 := ⟨by decide +kernel, rfl⟩
theorem eX6_cutShare_8 : xAt mX6_cutShare 8 (.aload_n 1) 1 9 := ⟨by decide +kernel, rfl⟩
theorem eX6_cutShare_9 : xAt mX6_cutShare 9 (.invokevirtual 28) 3 12 := ⟨by decide +kernel, rfl⟩
theorem eX6_cutShare_12 : xAt mX6_cutShare 12 (.aload_n 1) 1 13 := ⟨by decide +kernel, rfl⟩
theorem eX6_cutShare_13 : xAt mX6_cutShare 13 (.aload_n 0) 1 14 := ⟨by decide +kernel, rfl⟩
theorem eX6_cutShare_14 : xAt mX6_cutShare 14 (.getfield 22) 3 17 := ⟨by decide +kernel, rfl⟩
theorem eX6_cutShare_17 : xAt mX6_cutShare 17 (.iload_n 2) 1 18 := ⟨by decide +kernel, rfl⟩
theorem eX6_cutShare_18 : xAt mX6_cutShare 18 (.i2l) 1 19 := ⟨by decide +kernel, rfl⟩
theorem eX6_cutShare_19 : xAt mX6_cutShare 19 (.invokevirtual 57) 3 22 := ⟨by decide +kernel, rfl⟩
theorem eX6_cutShare_22 : xAt mX6_cutShare 22 (.aload_n 1) 1 23 := ⟨by decide +kernel, rfl⟩
theorem eX6_cutShare_23 : xAt mX6_cutShare 23 (.invokevirtual 61) 3 26 := ⟨by decide +kernel, rfl⟩
theorem eX6_cutShare_26 : xAt mX6_cutShare 26 (.iconst 0) 1 27 := ⟨by decide +kernel, rfl⟩
theorem eX6_cutShare_27 : xAt mX6_cutShare 27 (.istore_n 3) 1 28 := ⟨by decide +kernel, rfl⟩
theorem eX6_cutShare_28 : xAt mX6_cutShare 28 (.sipush 512) 3 31 := ⟨by decide +kernel, rfl⟩
theorem eX6_cutShare_31 : xAt mX6_cutShare 31 (.istore 4) 2 33 := ⟨by decide +kernel, rfl⟩
theorem eX6_cutShare_33 : xAt mX6_cutShare 33 (.iload 4) 2 35 := ⟨by decide +kernel, rfl⟩
theorem eX6_cutShare_35 : xBr mX6_cutShare 35 (.ifCond .le) (65) 38 100 := ⟨by decide +kernel, rfl, by decide⟩
theorem eX6_cutShare_38 : xAt mX6_cutShare 38 (.aload_n 0) 1 39 := ⟨by decide +kernel, rfl⟩
theorem eX6_cutShare_39 : xAt mX6_cutShare 39 (.getfield 22) 3 42 := ⟨by decide +kernel, rfl⟩
theorem eX6_cutShare_42 : xAt mX6_cutShare 42 (.aload_n 1) 1 43 := ⟨by decide +kernel, rfl⟩
theorem eX6_cutShare_43 : xAt mX6_cutShare 43 (.invokevirtual 72) 3 46 := ⟨by decide +kernel, rfl⟩
theorem eX6_cutShare_46 : xAt mX6_cutShare 46 (.aload_n 0) 1 47 := ⟨by decide +kernel, rfl⟩
theorem eX6_cutShare_47 : xAt mX6_cutShare 47 (.getfield 22) 3 50 := ⟨by decide +kernel, rfl⟩
theorem eX6_cutShare_50 : xAt mX6_cutShare 50 (.aload_n 0) 1 51 := ⟨by decide +kernel, rfl⟩
theorem eX6_cutShare_51 : xAt mX6_cutShare 51 (.getfield 18) 3 54 := ⟨by decide +kernel, rfl⟩
theorem eX6_cutShare_54 : xAt mX6_cutShare 54 (.iload 4) 2 56 := ⟨by decide +kernel, rfl⟩
theorem eX6_cutShare_56 : xAt mX6_cutShare 56 (.ineg) 1 57 := ⟨by decide +kernel, rfl⟩
theorem eX6_cutShare_57 : xAt mX6_cutShare 57 (.i2l) 1 58 := ⟨by decide +kernel, rfl⟩
theorem eX6_cutShare_58 : xAt mX6_cutShare 58 (.invokevirtual 57) 3 61 := ⟨by decide +kernel, rfl⟩
theorem eX6_cutShare_61 : xAt mX6_cutShare 61 (.aload_n 0) 1 62 := ⟨by decide +kernel, rfl⟩
theorem eX6_cutShare_62 : xAt mX6_cutShare 62 (.getfield 22) 3 65 := ⟨by decide +kernel, rfl⟩
theorem eX6_cutShare_65 : xAt mX6_cutShare 65 (.invokevirtual 61) 3 68 := ⟨by decide +kernel, rfl⟩
theorem eX6_cutShare_68 : xAt mX6_cutShare 68 (.aload_n 0) 1 69 := ⟨by decide +kernel, rfl⟩
theorem eX6_cutShare_69 : xAt mX6_cutShare 69 (.getfield 22) 3 72 := ⟨by decide +kernel, rfl⟩
theorem eX6_cutShare_72 : xAt mX6_cutShare 72 (.invokevirtual 76) 3 75 := ⟨by decide +kernel, rfl⟩
theorem eX6_cutShare_75 : xBr mX6_cutShare 75 (.ifCond .lt) (16) 78 91 := ⟨by decide +kernel, rfl, by decide⟩
theorem eX6_cutShare_78 : xAt mX6_cutShare 78 (.aload_n 1) 1 79 := ⟨by decide +kernel, rfl⟩
theorem eX6_cutShare_79 : xAt mX6_cutShare 79 (.aload_n 0) 1 80 := ⟨by decide +kernel, rfl⟩
theorem eX6_cutShare_80 : xAt mX6_cutShare 80 (.getfield 22) 3 83 := ⟨by decide +kernel, rfl⟩
theorem eX6_cutShare_83 : xAt mX6_cutShare 83 (.invokevirtual 72) 3 86 := ⟨by decide +kernel, rfl⟩
theorem eX6_cutShare_86 : xAt mX6_cutShare 86 (.iload_n 3) 1 87 := ⟨by decide +kernel, rfl⟩
theorem eX6_cutShare_87 : xAt mX6_cutShare 87 (.iload 4) 2 89 := ⟨by decide +kernel, rfl⟩
theorem eX6_cutShare_89 : xAt mX6_cutShare 89 (.iadd) 1 90 := ⟨by decide +kernel, rfl⟩
theorem eX6_cutShare_90 : xAt mX6_cutShare 90 (.istore_n 3) 1 91 := ⟨by decide +kernel, rfl⟩
theorem eX6_cutShare_91 : xAt mX6_cutShare 91 (.iload 4) 2 93 := ⟨by decide +kernel, rfl⟩
theorem eX6_cutShare_93 : xAt mX6_cutShare 93 (.iconst 2) 1 94 := ⟨by decide +kernel, rfl⟩
theorem eX6_cutShare_94 : xAt mX6_cutShare 94 (.idiv) 1 95 := ⟨by decide +kernel, rfl⟩
theorem eX6_cutShare_95 : xAt mX6_cutShare 95 (.istore 4) 2 97 := ⟨by decide +kernel, rfl⟩
theorem eX6_cutShare_97 : xBr mX6_cutShare 97 .goto (-64) 100 33 := ⟨by decide +kernel, rfl, by decide⟩
theorem eX6_cutShare_100 : xAt mX6_cutShare 100 (.iload_n 3) 1 101 := ⟨by decide +kernel, rfl⟩
theorem eX6_cutShare_101 : xAt mX6_cutShare 101 (.ireturn) 1 102 := ⟨by decide +kernel, rfl⟩
theorem eX7_clear_0 : xAt mX7_clear 0 (.iconst 0) 1 1 := ⟨by decide +kernel, rfl⟩
theorem eX7_clear_1 : xAt mX7_clear 1 (.istore_n 1) 1 2 := ⟨by decide +kernel, rfl⟩
theorem eX7_clear_2 : xAt mX7_clear 2 (.iload_n 1) 1 3 := ⟨by decide +kernel, rfl⟩
theorem eX7_clear_3 : xAt mX7_clear 3 (.bipush 8) 2 5 := ⟨by decide +kernel, rfl⟩
theorem eX7_clear_5 : xBr mX7_clear 5 (.if_icmp .ge) (16) 8 21 := ⟨by decide +kernel, rfl, by decide⟩
theorem eX7_clear_8 : xAt mX7_clear 8 (.aload_n 0) 1 9 := ⟨by decide +kernel, rfl⟩
theorem eX7_clear_9 : xAt mX7_clear 9 (.getfield 9) 3 12 := ⟨by decide +kernel, rfl⟩
theorem eX7_clear_12 : xAt mX7_clear 12 (.iload_n 1) 1 13 := ⟨by decide +kernel, rfl⟩
theorem eX7_clear_13 : xAt mX7_clear 13 (.lconst 0) 1 14 := ⟨by decide +kernel, rfl⟩
theorem eX7_clear_14 : xAt mX7_clear 14 (.lastore) 1 15 := ⟨by decide +kernel, rfl⟩
theorem eX7_clear_15 : xAt mX7_clear 15 (.iinc 1 1) 3 18 := ⟨by decide +kernel, rfl⟩
theorem eX7_clear_18 : xBr mX7_clear 18 .goto (-16) 21 2 := ⟨by decide +kernel, rfl, by decide⟩
theorem eX7_clear_21 : xAt mX7_clear 21 (.return_) 1 22 := ⟨by decide +kernel, rfl⟩
theorem eX7_copy_0 : xAt mX7_copy 0 (.iconst 0) 1 1 := ⟨by decide +kernel, rfl⟩
theorem eX7_copy_1 : xAt mX7_copy 1 (.istore_n 2) 1 2 := ⟨by decide +kernel, rfl⟩
theorem eX7_copy_2 : xAt mX7_copy 2 (.iload_n 2) 1 3 := ⟨by decide +kernel, rfl⟩
theorem eX7_copy_3 : xAt mX7_copy 3 (.bipush 8) 2 5 := ⟨by decide +kernel, rfl⟩
theorem eX7_copy_5 : xBr mX7_copy 5 (.if_icmp .ge) (21) 8 26 := ⟨by decide +kernel, rfl, by decide⟩
theorem eX7_copy_8 : xAt mX7_copy 8 (.aload_n 0) 1 9 := ⟨by decide +kernel, rfl⟩
theorem eX7_copy_9 : xAt mX7_copy 9 (.getfield 9) 3 12 := ⟨by decide +kernel, rfl⟩
theorem eX7_copy_12 : xAt mX7_copy 12 (.iload_n 2) 1 13 := ⟨by decide +kernel, rfl⟩
theorem eX7_copy_13 : xAt mX7_copy 13 (.aload_n 1) 1 14 := ⟨by decide +kernel, rfl⟩
theorem eX7_copy_14 : xAt mX7_copy 14 (.getfield 9) 3 17 := ⟨by decide +kernel, rfl⟩
theorem eX7_copy_17 : xAt mX7_copy 17 (.iload_n 2) 1 18 := ⟨by decide +kernel, rfl⟩
theorem eX7_copy_18 : xAt mX7_copy 18 (.laload) 1 19 := ⟨by decide +kernel, rfl⟩
theorem eX7_copy_19 : xAt mX7_copy 19 (.lastore) 1 20 := ⟨by decide +kernel, rfl⟩
theorem eX7_copy_20 : xAt mX7_copy 20 (.iinc 2 1) 3 23 := ⟨by decide +kernel, rfl⟩
theorem eX7_copy_23 : xBr mX7_copy 23 .goto (-21) 26 2 := ⟨by decide +kernel, rfl, by decide⟩
theorem eX7_copy_26 : xAt mX7_copy 26 (.return_) 1 27 := ⟨by decide +kernel, rfl⟩
theorem eX7_plus_0 : xAt mX7_plus 0 (.iconst 0) 1 1 := ⟨by decide +kernel, rfl⟩
theorem eX7_plus_1 : xAt mX7_plus 1 (.istore 4) 2 3 := ⟨by decide +kernel, rfl⟩
theorem eX7_plus_3 : xAt mX7_plus 3 (.iload 4) 2 5 := ⟨by decide +kernel, rfl⟩
theorem eX7_plus_5 : xAt mX7_plus 5 (.bipush 8) 2 7 := ⟨by decide +kernel, rfl⟩
theorem eX7_plus_7 : xBr mX7_plus 7 (.if_icmp .ge) (28) 10 35 := ⟨by decide +kernel, rfl, by decide⟩
theorem eX7_plus_10 : xAt mX7_plus 10 (.aload_n 0) 1 11 := ⟨by decide +kernel, rfl⟩
theorem eX7_plus_11 : xAt mX7_plus 11 (.getfield 9) 3 14 := ⟨by decide +kernel, rfl⟩
theorem eX7_plus_14 : xAt mX7_plus 14 (.iload 4) 2 16 := ⟨by decide +kernel, rfl⟩
theorem eX7_plus_16 : xAt mX7_plus 16 (.dup2) 1 17 := ⟨by decide +kernel, rfl⟩
theorem eX7_plus_17 : xAt mX7_plus 17 (.laload) 1 18 := ⟨by decide +kernel, rfl⟩
theorem eX7_plus_18 : xAt mX7_plus 18 (.lload_n 2) 1 19 := ⟨by decide +kernel, rfl⟩
theorem eX7_plus_19 : xAt mX7_plus 19 (.aload_n 1) 1 20 := ⟨by decide +kernel, rfl⟩
theorem eX7_plus_20 : xAt mX7_plus 20 (.getfield 9) 3 23 := ⟨by decide +kernel, rfl⟩
theorem eX7_plus_23 : xAt mX7_plus 23 (.iload 4) 2 25 := ⟨by decide +kernel, rfl⟩
theorem eX7_plus_25 : xAt mX7_plus 25 (.laload) 1 26 := ⟨by decide +kernel, rfl⟩
theorem eX7_plus_26 : xAt mX7_plus 26 (.lmul) 1 27 := ⟨by decide +kernel, rfl⟩
theorem eX7_plus_27 : xAt mX7_plus 27 (.ladd) 1 28 := ⟨by decide +kernel, rfl⟩
theorem eX7_plus_28 : xAt mX7_plus 28 (.lastore) 1 29 := ⟨by decide +kernel, rfl⟩
theorem eX7_plus_29 : xAt mX7_plus 29 (.iinc 4 1) 3 32 := ⟨by decide +kernel, rfl⟩
theorem eX7_plus_32 : xBr mX7_plus 32 .goto (-29) 35 3 := ⟨by decide +kernel, rfl, by decide⟩
theorem eX7_plus_35 : xAt mX7_plus 35 (.return_) 1 36 := ⟨by decide +kernel, rfl⟩
theorem eX7_carry_0 : xAt mX7_carry 0 (.iconst 0) 1 1 := ⟨by decide +kernel, rfl⟩
theorem eX7_carry_1 : xAt mX7_carry 1 (.istore_n 1) 1 2 := ⟨by decide +kernel, rfl⟩
theorem eX7_carry_2 : xAt mX7_carry 2 (.iload_n 1) 1 3 := ⟨by decide +kernel, rfl⟩
theorem eX7_carry_3 : xAt mX7_carry 3 (.bipush 7) 2 5 := ⟨by decide +kernel, rfl⟩
theorem eX7_carry_5 : xBr mX7_carry 5 (.if_icmp .ge) (44) 8 49 := ⟨by decide +kernel, rfl, by decide⟩
theorem eX7_carry_8 : xAt mX7_carry 8 (.aload_n 0) 1 9 := ⟨by decide +kernel, rfl⟩
theorem eX7_carry_9 : xAt mX7_carry 9 (.getfield 9) 3 12 := ⟨by decide +kernel, rfl⟩
theorem eX7_carry_12 : xAt mX7_carry 12 (.iload_n 1) 1 13 := ⟨by decide +kernel, rfl⟩
theorem eX7_carry_13 : xAt mX7_carry 13 (.laload) 1 14 := ⟨by decide +kernel, rfl⟩
theorem eX7_carry_14 : xAt mX7_carry 14 (.bipush 26) 2 16 := ⟨by decide +kernel, rfl⟩
theorem eX7_carry_16 : xAt mX7_carry 16 (.lshr) 1 17 := ⟨by decide +kernel, rfl⟩
theorem eX7_carry_17 : xAt mX7_carry 17 (.lstore_n 2) 1 18 := ⟨by decide +kernel, rfl⟩
theorem eX7_carry_18 : xAt mX7_carry 18 (.aload_n 0) 1 19 := ⟨by decide +kernel, rfl⟩
theorem eX7_carry_19 : xAt mX7_carry 19 (.getfield 9) 3 22 := ⟨by decide +kernel, rfl⟩
theorem eX7_carry_22 : xAt mX7_carry 22 (.iload_n 1) 1 23 := ⟨by decide +kernel, rfl⟩
theorem eX7_carry_23 : xAt mX7_carry 23 (.dup2) 1 24 := ⟨by decide +kernel, rfl⟩
theorem eX7_carry_24 : xAt mX7_carry 24 (.laload) 1 25 := ⟨by decide +kernel, rfl⟩
theorem eX7_carry_25 : xAt mX7_carry 25 (.lload_n 2) 1 26 := ⟨by decide +kernel, rfl⟩
theorem eX7_carry_26 : xAt mX7_carry 26 (.bipush 26) 2 28 := ⟨by decide +kernel, rfl⟩
theorem eX7_carry_28 : xAt mX7_carry 28 (.lshl) 1 29 := ⟨by decide +kernel, rfl⟩
theorem eX7_carry_29 : xAt mX7_carry 29 (.lsub) 1 30 := ⟨by decide +kernel, rfl⟩
theorem eX7_carry_30 : xAt mX7_carry 30 (.lastore) 1 31 := ⟨by decide +kernel, rfl⟩
theorem eX7_carry_31 : xAt mX7_carry 31 (.aload_n 0) 1 32 := ⟨by decide +kernel, rfl⟩
theorem eX7_carry_32 : xAt mX7_carry 32 (.getfield 9) 3 35 := ⟨by decide +kernel, rfl⟩
theorem eX7_carry_35 : xAt mX7_carry 35 (.iload_n 1) 1 36 := ⟨by decide +kernel, rfl⟩
theorem eX7_carry_36 : xAt mX7_carry 36 (.iconst 1) 1 37 := ⟨by decide +kernel, rfl⟩
theorem eX7_carry_37 : xAt mX7_carry 37 (.iadd) 1 38 := ⟨by decide +kernel, rfl⟩
theorem eX7_carry_38 : xAt mX7_carry 38 (.dup2) 1 39 := ⟨by decide +kernel, rfl⟩
theorem eX7_carry_39 : xAt mX7_carry 39 (.laload) 1 40 := ⟨by decide +kernel, rfl⟩
theorem eX7_carry_40 : xAt mX7_carry 40 (.lload_n 2) 1 41 := ⟨by decide +kernel, rfl⟩
theorem eX7_carry_41 : xAt mX7_carry 41 (.ladd) 1 42 := ⟨by decide +kernel, rfl⟩
theorem eX7_carry_42 : xAt mX7_carry 42 (.lastore) 1 43 := ⟨by decide +kernel, rfl⟩
theorem eX7_carry_43 : xAt mX7_carry 43 (.iinc 1 1) 3 46 := ⟨by decide +kernel, rfl⟩
theorem eX7_carry_46 : xBr mX7_carry 46 .goto (-44) 49 2 := ⟨by decide +kernel, rfl, by decide⟩
theorem eX7_carry_49 : xAt mX7_carry 49 (.return_) 1 50 := ⟨by decide +kernel, rfl⟩
theorem eX7_sign_0 : xAt mX7_sign 0 (.lconst 0) 1 1 := ⟨by decide +kernel, rfl⟩
theorem eX7_sign_1 : xAt mX7_sign 1 (.lstore_n 1) 1 2 := ⟨by decide +kernel, rfl⟩
theorem eX7_sign_2 : xAt mX7_sign 2 (.iconst 0) 1 3 := ⟨by decide +kernel, rfl⟩
theorem eX7_sign_3 : xAt mX7_sign 3 (.istore_n 3) 1 4 := ⟨by decide +kernel, rfl⟩
theorem eX7_sign_4 : xAt mX7_sign 4 (.iconst 0) 1 5 := ⟨by decide +kernel, rfl⟩
theorem eX7_sign_5 : xAt mX7_sign 5 (.istore 4) 2 7 := ⟨by decide +kernel, rfl⟩
theorem eX7_sign_7 : xAt mX7_sign 7 (.iload 4) 2 9 := ⟨by decide +kernel, rfl⟩
theorem eX7_sign_9 : xAt mX7_sign 9 (.bipush 8) 2 11 := ⟨by decide +kernel, rfl⟩
theorem eX7_sign_11 : xBr mX7_sign 11 (.if_icmp .ge) (47) 14 58 := ⟨by decide +kernel, rfl, by decide⟩
theorem eX7_sign_14 : xAt mX7_sign 14 (.aload_n 0) 1 15 := ⟨by decide +kernel, rfl⟩
theorem eX7_sign_15 : xAt mX7_sign 15 (.getfield 9) 3 18 := ⟨by decide +kernel, rfl⟩
theorem eX7_sign_18 : xAt mX7_sign 18 (.iload 4) 2 20 := ⟨by decide +kernel, rfl⟩
theorem eX7_sign_20 : xAt mX7_sign 20 (.laload) 1 21 := ⟨by decide +kernel, rfl⟩
theorem eX7_sign_21 : xAt mX7_sign 21 (.lload_n 1) 1 22 := ⟨by decide +kernel, rfl⟩
theorem eX7_sign_22 : xAt mX7_sign 22 (.ladd) 1 23 := ⟨by decide +kernel, rfl⟩
theorem eX7_sign_23 : xAt mX7_sign 23 (.lstore 5) 2 25 := ⟨by decide +kernel, rfl⟩
theorem eX7_sign_25 : xAt mX7_sign 25 (.iload_n 3) 1 26 := ⟨by decide +kernel, rfl⟩
theorem eX7_sign_26 : xBr mX7_sign 26 (.ifCond .ne) (14) 29 40 := ⟨by decide +kernel, rfl, by decide⟩
theorem eX7_sign_29 : xAt mX7_sign 29 (.lload 5) 2 31 := ⟨by decide +kernel, rfl⟩
theorem eX7_sign_31 : xAt mX7_sign 31 (.ldc2_w 15) 3 34 := ⟨by decide +kernel, rfl⟩
theorem eX7_sign_34 : xAt mX7_sign 34 (.land) 1 35 := ⟨by decide +kernel, rfl⟩
theorem eX7_sign_35 : xAt mX7_sign 35 (.lconst 0) 1 36 := ⟨by decide +kernel, rfl⟩
theorem eX7_sign_36 : xAt mX7_sign 36 (.lcmp) 1 37 := ⟨by decide +kernel, rfl⟩
theorem eX7_sign_37 : xBr mX7_sign 37 (.ifCond .eq) (7) 40 44 := ⟨by decide +kernel, rfl, by decide⟩
theorem eX7_sign_40 : xAt mX7_sign 40 (.iconst 1) 1 41 := ⟨by decide +kernel, rfl⟩
theorem eX7_sign_41 : xBr mX7_sign 41 .goto (4) 44 45 := ⟨by decide +kernel, rfl, by decide⟩
theorem eX7_sign_44 : xAt mX7_sign 44 (.iconst 0) 1 45 := ⟨by decide +kernel, rfl⟩
theorem eX7_sign_45 : xAt mX7_sign 45 (.istore_n 3) 1 46 := ⟨by decide +kernel, rfl⟩
theorem eX7_sign_46 : xAt mX7_sign 46 (.lload 5) 2 48 := ⟨by decide +kernel, rfl⟩
theorem eX7_sign_48 : xAt mX7_sign 48 (.bipush 26) 2 50 := ⟨by decide +kernel, rfl⟩
theorem eX7_sign_50 : xAt mX7_sign 50 (.lshr) 1 51 := ⟨by decide +kernel, rfl⟩
theorem eX7_sign_51 : xAt mX7_sign 51 (.lstore_n 1) 1 52 := ⟨by decide +kernel, rfl⟩
theorem eX7_sign_52 : xAt mX7_sign 52 (.iinc 4 1) 3 55 := ⟨by decide +kernel, rfl⟩
theorem eX7_sign_55 : xBr mX7_sign 55 .goto (-48) 58 7 := ⟨by decide +kernel, rfl, by decide⟩
theorem eX7_sign_58 : xAt mX7_sign 58 (.lload_n 1) 1 59 := ⟨by decide +kernel, rfl⟩
theorem eX7_sign_59 : xAt mX7_sign 59 (.lconst 0) 1 60 := ⟨by decide +kernel, rfl⟩
theorem eX7_sign_60 : xAt mX7_sign 60 (.lcmp) 1 61 := ⟨by decide +kernel, rfl⟩
theorem eX7_sign_61 : xBr mX7_sign 61 (.ifCond .ge) (7) 64 68 := ⟨by decide +kernel, rfl, by decide⟩
theorem eX7_sign_64 : xAt mX7_sign 64 (.iconst (-1)) 1 65 := ⟨by decide +kernel, rfl⟩
theorem eX7_sign_65 : xBr mX7_sign 65 .goto (18) 68 83 := ⟨by decide +kernel, rfl, by decide⟩
theorem eX7_sign_68 : xAt mX7_sign 68 (.lload_n 1) 1 69 := ⟨by decide +kernel, rfl⟩
theorem eX7_sign_69 : xAt mX7_sign 69 (.lconst 0) 1 70 := ⟨by decide +kernel, rfl⟩
theorem eX7_sign_70 : xAt mX7_sign 70 (.lcmp) 1 71 := ⟨by decide +kernel, rfl⟩
theorem eX7_sign_71 : xBr mX7_sign 71 (.ifCond .gt) (7) 74 78 := ⟨by decide +kernel, rfl, by decide⟩
theorem eX7_sign_74 : xAt mX7_sign 74 (.iload_n 3) 1 75 := ⟨by decide +kernel, rfl⟩
theorem eX7_sign_75 : xBr mX7_sign 75 (.ifCond .eq) (7) 78 82 := ⟨by decide +kernel, rfl, by decide⟩
theorem eX7_sign_78 : xAt mX7_sign 78 (.iconst 1) 1 79 := ⟨by decide +kernel, rfl⟩
theorem eX7_sign_79 : xBr mX7_sign 79 .goto (4) 82 83 := ⟨by decide +kernel, rfl, by decide⟩
theorem eX7_sign_82 : xAt mX7_sign 82 (.iconst 0) 1 83 := ⟨by decide +kernel, rfl⟩
theorem eX7_sign_83 : xAt mX7_sign 83 (.ireturn) 1 84 := ⟨by decide +kernel, rfl⟩
theorem eX7_against_0 : xAt mX7_against 0 (.bipush 7) 2 2 := ⟨by decide +kernel, rfl⟩
theorem eX7_against_2 : xAt mX7_against 2 (.istore_n 2) 1 3 := ⟨by decide +kernel, rfl⟩
theorem eX7_against_3 : xAt mX7_against 3 (.iload_n 2) 1 4 := ⟨by decide +kernel, rfl⟩
theorem eX7_against_4 : xBr mX7_against 4 (.ifCond .lt) (47) 7 51 := ⟨by decide +kernel, rfl, by decide⟩
theorem eX7_against_7 : xAt mX7_against 7 (.aload_n 0) 1 8 := ⟨by decide +kernel, rfl⟩
theorem eX7_against_8 : xAt mX7_against 8 (.getfield 9) 3 11 := ⟨by decide +kernel, rfl⟩
theorem eX7_against_11 : xAt mX7_against 11 (.iload_n 2) 1 12 := ⟨by decide +kernel, rfl⟩
theorem eX7_against_12 : xAt mX7_against 12 (.laload) 1 13 := ⟨by decide +kernel, rfl⟩
theorem eX7_against_13 : xAt mX7_against 13 (.aload_n 1) 1 14 := ⟨by decide +kernel, rfl⟩
theorem eX7_against_14 : xAt mX7_against 14 (.getfield 9) 3 17 := ⟨by decide +kernel, rfl⟩
theorem eX7_against_17 : xAt mX7_against 17 (.iload_n 2) 1 18 := ⟨by decide +kernel, rfl⟩
theorem eX7_against_18 : xAt mX7_against 18 (.laload) 1 19 := ⟨by decide +kernel, rfl⟩
theorem eX7_against_19 : xAt mX7_against 19 (.lcmp) 1 20 := ⟨by decide +kernel, rfl⟩
theorem eX7_against_20 : xBr mX7_against 20 (.ifCond .eq) (25) 23 45 := ⟨by decide +kernel, rfl, by decide⟩
theorem eX7_against_23 : xAt mX7_against 23 (.aload_n 0) 1 24 := ⟨by decide +kernel, rfl⟩
theorem eX7_against_24 : xAt mX7_against 24 (.getfield 9) 3 27 := ⟨by decide +kernel, rfl⟩
theorem eX7_against_27 : xAt mX7_against 27 (.iload_n 2) 1 28 := ⟨by decide +kernel, rfl⟩
theorem eX7_against_28 : xAt mX7_against 28 (.laload) 1 29 := ⟨by decide +kernel, rfl⟩
theorem eX7_against_29 : xAt mX7_against 29 (.aload_n 1) 1 30 := ⟨by decide +kernel, rfl⟩
theorem eX7_against_30 : xAt mX7_against 30 (.getfield 9) 3 33 := ⟨by decide +kernel, rfl⟩
theorem eX7_against_33 : xAt mX7_against 33 (.iload_n 2) 1 34 := ⟨by decide +kernel, rfl⟩
theorem eX7_against_34 : xAt mX7_against 34 (.laload) 1 35 := ⟨by decide +kernel, rfl⟩
theorem eX7_against_35 : xAt mX7_against 35 (.lcmp) 1 36 := ⟨by decide +kernel, rfl⟩
theorem eX7_against_36 : xBr mX7_against 36 (.ifCond .ge) (7) 39 43 := ⟨by decide +kernel, rfl, by decide⟩
theorem eX7_against_39 : xAt mX7_against 39 (.iconst (-1)) 1 40 := ⟨by decide +kernel, rfl⟩
theorem eX7_against_40 : xBr mX7_against 40 .goto (4) 43 44 := ⟨by decide +kernel, rfl, by decide⟩
theorem eX7_against_43 : xAt mX7_against 43 (.iconst 1) 1 44 := ⟨by decide +kernel, rfl⟩
theorem eX7_against_44 : xAt mX7_against 44 (.ireturn) 1 45 := ⟨by decide +kernel, rfl⟩
theorem eX7_against_45 : xAt mX7_against 45 (.iinc 2 (-1)) 3 48 := ⟨by decide +kernel, rfl⟩
theorem eX7_against_48 : xBr mX7_against 48 .goto (-45) 51 3 := ⟨by decide +kernel, rfl, by decide⟩
theorem eX7_against_51 : xAt mX7_against 51 (.iconst 0) 1 52 := ⟨by decide +kernel, rfl⟩
theorem eX7_against_52 : xAt mX7_against 52 (.ireturn) 1 53 := ⟨by decide +kernel, rfl⟩
theorem eX7_wholePart_0 : xAt mX7_wholePart 0 (.aload_n 0) 1 1 := ⟨by decide +kernel, rfl⟩
theorem eX7_wholePart_1 : xAt mX7_wholePart 1 (.getfield 9) 3 4 := ⟨by decide +kernel, rfl⟩
theorem eX7_wholePart_4 : xAt mX7_wholePart 4 (.iconst 5) 1 5 := ⟨by decide +kernel, rfl⟩
theorem eX7_wholePart_5 : xAt mX7_wholePart 5 (.laload) 1 6 := ⟨by decide +kernel, rfl⟩
theorem eX7_wholePart_6 : xAt mX7_wholePart 6 (.bipush 14) 2 8 := ⟨by decide +kernel, rfl⟩
theorem eX7_wholePart_8 : xAt mX7_wholePart 8 (.lshr) 1 9 := ⟨by decide +kernel, rfl⟩
theorem eX7_wholePart_9 : xAt mX7_wholePart 9 (.aload_n 0) 1 10 := ⟨by decide +kernel, rfl⟩
theorem eX7_wholePart_10 : xAt mX7_wholePart 10 (.getfield 9) 3 13 := ⟨by decide +kernel, rfl⟩
theorem eX7_wholePart_13 : xAt mX7_wholePart 13 (.bipush 6) 2 15 := ⟨by decide +kernel, rfl⟩
theorem eX7_wholePart_15 : xAt mX7_wholePart 15 (.laload) 1 16 := ⟨by decide +kernel, rfl⟩
theorem eX7_wholePart_16 : xAt mX7_wholePart 16 (.bipush 12) 2 18 := ⟨by decide +kernel, rfl⟩
theorem eX7_wholePart_18 : xAt mX7_wholePart 18 (.lshl) 1 19 := ⟨by decide +kernel, rfl⟩
theorem eX7_wholePart_19 : xAt mX7_wholePart 19 (.ladd) 1 20 := ⟨by decide +kernel, rfl⟩
theorem eX7_wholePart_20 : xAt mX7_wholePart 20 (.aload_n 0) 1 21 := ⟨by decide +kernel, rfl⟩
theorem eX7_wholePart_21 : xAt mX7_wholePart 21 (.getfield 9) 3 24 := ⟨by decide +kernel, rfl⟩
theorem eX7_wholePart_24 : xAt mX7_wholePart 24 (.bipush 7) 2 26 := ⟨by decide +kernel, rfl⟩
theorem eX7_wholePart_26 : xAt mX7_wholePart 26 (.laload) 1 27 := ⟨by decide +kernel, rfl⟩
theorem eX7_wholePart_27 : xAt mX7_wholePart 27 (.bipush 38) 2 29 := ⟨by decide +kernel, rfl⟩
theorem eX7_wholePart_29 : xAt mX7_wholePart 29 (.lshl) 1 30 := ⟨by decide +kernel, rfl⟩
theorem eX7_wholePart_30 : xAt mX7_wholePart 30 (.ladd) 1 31 := ⟨by decide +kernel, rfl⟩
theorem eX7_wholePart_31 : xAt mX7_wholePart 31 (.lreturn) 1 32 := ⟨by decide +kernel, rfl⟩
theorem eX8_corner_0 : xAt mX8_corner 0 (.lload_n 1) 1 1 := ⟨by decide +kernel, rfl⟩
theorem eX8_corner_1 : xAt mX8_corner 1 (.invokestatic 69) 3 4 := ⟨by decide +kernel, rfl⟩
theorem eX8_corner_4 : xBr mX8_corner 4 (.ifCond .eq) (10) 7 14 := ⟨by decide +kernel, rfl, by decide⟩
theorem eX8_corner_7 : xAt mX8_corner 7 (.lload_n 3) 1 8 := ⟨by decide +kernel, rfl⟩
theorem eX8_corner_8 : xAt mX8_corner 8 (.invokestatic 69) 3 11 := ⟨by decide +kernel, rfl⟩
theorem eX8_corner_11 : xBr mX8_corner 11 (.ifCond .ne) (6) 14 17 := ⟨by decide +kernel, rfl, by decide⟩
theorem eX8_corner_14 : xAt mX8_corner 14 (.bipush (-102)) 2 16 := ⟨by decide +kernel, rfl⟩
theorem eX8_corner_16 : xAt mX8_corner 16 (.ireturn) 1 17 := ⟨by decide +kernel, rfl⟩
theorem eX8_corner_17 : xAt mX8_corner 17 (.aload_n 0) 1 18 := ⟨by decide +kernel, rfl⟩
theorem eX8_corner_18 : xAt mX8_corner 18 (.getfield 12) 3 21 := ⟨by decide +kernel, rfl⟩
theorem eX8_corner_21 : xAt mX8_corner 21 (.sipush 200) 3 24 := ⟨by decide +kernel, rfl⟩
theorem eX8_corner_24 : xAt mX8_corner 24 (.lload_n 1) 1 25 := ⟨by decide +kernel, rfl⟩
theorem eX8_corner_25 : xAt mX8_corner 25 (.lload_n 3) 1 26 := ⟨by decide +kernel, rfl⟩
theorem eX8_corner_26 : xAt mX8_corner 26 (.invokevirtual 73) 3 29 := ⟨by decide +kernel, rfl⟩
theorem eX8_corner_29 : xAt mX8_corner 29 (.aload_n 0) 1 30 := ⟨by decide +kernel, rfl⟩
theorem eX8_corner_30 : xAt mX8_corner 30 (.getfield 12) 3 33 := ⟨by decide +kernel, rfl⟩
theorem eX8_corner_33 : xAt mX8_corner 33 (.invokevirtual 77) 3 36 := ⟨by decide +kernel, rfl⟩
theorem eX8_corner_36 : xAt mX8_corner 36 (.istore 5) 2 38 := ⟨by decide +kernel, rfl⟩
theorem eX8_corner_38 : xAt mX8_corner 38 (.iload 5) 2 40 := ⟨by decide +kernel, rfl⟩
theorem eX8_corner_40 : xAt mX8_corner 40 (.iconst (-1)) 1 41 := ⟨by decide +kernel, rfl⟩
theorem eX8_corner_41 : xBr mX8_corner 41 (.if_icmp .eq) (6) 44 47 := ⟨by decide +kernel, rfl, by decide⟩
theorem eX8_corner_44 : xAt mX8_corner 44 (.iload 5) 2 46 := ⟨by decide +kernel, rfl⟩
theorem eX8_corner_46 : xAt mX8_corner 46 (.ireturn) 1 47 := ⟨by decide +kernel, rfl⟩
theorem eX8_corner_47 : xAt mX8_corner 47 (.aload_n 0) 1 48 := ⟨by decide +kernel, rfl⟩
theorem eX8_corner_48 : xAt mX8_corner 48 (.getfield 12) 3 51 := ⟨by decide +kernel, rfl⟩
theorem eX8_corner_51 : xAt mX8_corner 51 (.getfield 81) 3 54 := ⟨by decide +kernel, rfl⟩
theorem eX8_corner_54 : xAt mX8_corner 54 (.sipush 200) 3 57 := ⟨by decide +kernel, rfl⟩
theorem eX8_corner_57 : xBr mX8_corner 57 (.if_icmp .ge) (15) 60 72 := ⟨by decide +kernel, rfl, by decide⟩
theorem eX8_corner_60 : xAt mX8_corner 60 (.aload_n 0) 1 61 := ⟨by decide +kernel, rfl⟩
theorem eX8_corner_61 : xAt mX8_corner 61 (.getfield 12) 3 64 := ⟨by decide +kernel, rfl⟩
theorem eX8_corner_64 : xAt mX8_corner 64 (.lload_n 1) 1 65 := ⟨by decide +kernel, rfl⟩
theorem eX8_corner_65 : xAt mX8_corner 65 (.lload_n 3) 1 66 := ⟨by decide +kernel, rfl⟩
theorem eX8_corner_66 : xAt mX8_corner 66 (.invokevirtual 84) 3 69 := ⟨by decide +kernel, rfl⟩
theorem eX8_corner_69 : xBr mX8_corner 69 .goto (5) 72 74 := ⟨by decide +kernel, rfl, by decide⟩
theorem eX8_corner_72 : xAt mX8_corner 72 (.bipush (-104)) 2 74 := ⟨by decide +kernel, rfl⟩
theorem eX8_corner_74 : xAt mX8_corner 74 (.ireturn) 1 75 := ⟨by decide +kernel, rfl⟩
theorem eX8_at_0 : xAt mX8_at 0 (.aload_n 0) 1 1 := ⟨by decide +kernel, rfl⟩
theorem eX8_at_1 : xAt mX8_at 1 (.getfield 12) 3 4 := ⟨by decide +kernel, rfl⟩
theorem eX8_at_4 : xAt mX8_at 4 (.iload_n 1) 1 5 := ⟨by decide +kernel, rfl⟩
theorem eX8_at_5 : xAt mX8_at 5 (.invokevirtual 88) 3 8 := ⟨by decide +kernel, rfl⟩
theorem eX8_at_8 : xBr mX8_at 8 (.ifCond .ne) (7) 11 15 := ⟨by decide +kernel, rfl, by decide⟩
theorem eX8_at_11 : xAt mX8_at 11 (.ldc2_w 92) 3 14 := ⟨by decide +kernel, rfl⟩
theorem eX8_at_14 : xAt mX8_at 14 (.lreturn) 1 15 := ⟨by decide +kernel, rfl⟩
theorem eX8_at_15 : xAt mX8_at 15 (.iload_n 2) 1 16 := ⟨by decide +kernel, rfl⟩
theorem eX8_at_16 : xBr mX8_at 16 (.ifCond .eq) (12) 19 28 := ⟨by decide +kernel, rfl, by decide⟩
theorem eX8_at_19 : xAt mX8_at 19 (.iload_n 2) 1 20 := ⟨by decide +kernel, rfl⟩
theorem eX8_at_20 : xAt mX8_at 20 (.iconst 1) 1 21 := ⟨by decide +kernel, rfl⟩
theorem eX8_at_21 : xBr mX8_at 21 (.if_icmp .eq) (7) 24 28 := ⟨by decide +kernel, rfl, by decide⟩
theorem eX8_at_24 : xAt mX8_at 24 (.ldc2_w 94) 3 27 := ⟨by decide +kernel, rfl⟩
theorem eX8_at_27 : xAt mX8_at 27 (.lreturn) 1 28 := ⟨by decide +kernel, rfl⟩
theorem eX8_at_28 : xAt mX8_at 28 (.aload_n 0) 1 29 := ⟨by decide +kernel, rfl⟩
theorem eX8_at_29 : xAt mX8_at 29 (.getfield 12) 3 32 := ⟨by decide +kernel, rfl⟩
theorem eX8_at_32 : xAt mX8_at 32 (.getfield 96) 3 35 := ⟨by decide +kernel, rfl⟩
theorem eX8_at_35 : xAt mX8_at 35 (.iconst 2) 1 36 := ⟨by decide +kernel, rfl⟩
theorem eX8_at_36 : xAt mX8_at 36 (.iload_n 1) 1 37 := ⟨by decide +kernel, rfl⟩
theorem eX8_at_37 : xAt mX8_at 37 (.imul) 1 38 := ⟨by decide +kernel, rfl⟩
theorem eX8_at_38 : xAt mX8_at 38 (.iload_n 2) 1 39 := ⟨by decide +kernel, rfl⟩
theorem eX8_at_39 : xAt mX8_at 39 (.iadd) 1 40 := ⟨by decide +kernel, rfl⟩
theorem eX8_at_40 : xAt mX8_at 40 (.laload) 1 41 := ⟨by decide +kernel, rfl⟩
theorem eX8_at_41 : xAt mX8_at 41 (.lreturn) 1 42 := ⟨by decide +kernel, rfl⟩
theorem eX8_side_0 : xAt mX8_side 0 (.aload_n 0) 1 1 := ⟨by decide +kernel, rfl⟩
theorem eX8_side_1 : xAt mX8_side 1 (.getfield 12) 3 4 := ⟨by decide +kernel, rfl⟩
theorem eX8_side_4 : xAt mX8_side 4 (.iload_n 1) 1 5 := ⟨by decide +kernel, rfl⟩
theorem eX8_side_5 : xAt mX8_side 5 (.invokevirtual 88) 3 8 := ⟨by decide +kernel, rfl⟩
theorem eX8_side_8 : xBr mX8_side 8 (.ifCond .eq) (25) 11 33 := ⟨by decide +kernel, rfl, by decide⟩
theorem eX8_side_11 : xAt mX8_side 11 (.aload_n 0) 1 12 := ⟨by decide +kernel, rfl⟩
theorem eX8_side_12 : xAt mX8_side 12 (.getfield 12) 3 15 := ⟨by decide +kernel, rfl⟩
theorem eX8_side_15 : xAt mX8_side 15 (.iload_n 2) 1 16 := ⟨by decide +kernel, rfl⟩
theorem eX8_side_16 : xAt mX8_side 16 (.invokevirtual 88) 3 19 := ⟨by decide +kernel, rfl⟩
theorem eX8_side_19 : xBr mX8_side 19 (.ifCond .eq) (14) 22 33 := ⟨by decide +kernel, rfl, by decide⟩
theorem eX8_side_22 : xAt mX8_side 22 (.aload_n 0) 1 23 := ⟨by decide +kernel, rfl⟩
theorem eX8_side_23 : xAt mX8_side 23 (.getfield 12) 3 26 := ⟨by decide +kernel, rfl⟩
theorem eX8_side_26 : xAt mX8_side 26 (.iload_n 3) 1 27 := ⟨by decide +kernel, rfl⟩
theorem eX8_side_27 : xAt mX8_side 27 (.invokevirtual 88) 3 30 := ⟨by decide +kernel, rfl⟩
theorem eX8_side_30 : xBr mX8_side 30 (.ifCond .ne) (6) 33 36 := ⟨by decide +kernel, rfl, by decide⟩
theorem eX8_side_33 : xAt mX8_side 33 (.bipush (-101)) 2 35 := ⟨by decide +kernel, rfl⟩
theorem eX8_side_35 : xAt mX8_side 35 (.ireturn) 1 36 := ⟨by decide +kernel, rfl⟩
theorem eX8_side_36 : xAt mX8_side 36 (.aload_n 0) 1 37 := ⟨by decide +kernel, rfl⟩
theorem eX8_side_37 : xAt mX8_side 37 (.aload_n 0) 1 38 := ⟨by decide +kernel, rfl⟩
theorem eX8_side_38 : xAt mX8_side 38 (.getfield 12) 3 41 := ⟨by decide +kernel, rfl⟩
theorem eX8_side_41 : xAt mX8_side 41 (.iload_n 1) 1 42 := ⟨by decide +kernel, rfl⟩
theorem eX8_side_42 : xAt mX8_side 42 (.iload_n 2) 1 43 := ⟨by decide +kernel, rfl⟩
theorem eX8_side_43 : xAt mX8_side 43 (.iload_n 3) 1 44 := ⟨by decide +kernel, rfl⟩
theorem eX8_side_44 : xAt mX8_side 44 (.invokevirtual 100) 3 47 := ⟨by decide +kernel, rfl⟩
theorem eX8_side_47 : xBr mX8_side 47 (.ifCond .eq) (7) 50 54 := ⟨by decide +kernel, rfl, by decide⟩
theorem eX8_side_50 : xAt mX8_side 50 (.iconst 1) 1 51 := ⟨by decide +kernel, rfl⟩
theorem eX8_side_51 : xBr mX8_side 51 .goto (4) 54 55 := ⟨by decide +kernel, rfl, by decide⟩
theorem eX8_side_54 : xAt mX8_side 54 (.iconst 0) 1 55 := ⟨by decide +kernel, rfl⟩
theorem eX8_side_55 : xAt mX8_side 55 (.putfield 63) 3 58 := ⟨by decide +kernel, rfl⟩
theorem eX8_side_58 : xAt mX8_side 58 (.aload_n 0) 1 59 := ⟨by decide +kernel, rfl⟩
theorem eX8_side_59 : xAt mX8_side 59 (.getfield 12) 3 62 := ⟨by decide +kernel, rfl⟩
theorem eX8_side_62 : xAt mX8_side 62 (.iload_n 1) 1 63 := ⟨by decide +kernel, rfl⟩
theorem eX8_side_63 : xAt mX8_side 63 (.iload_n 2) 1 64 := ⟨by decide +kernel, rfl⟩
theorem eX8_side_64 : xAt mX8_side 64 (.iload_n 3) 1 65 := ⟨by decide +kernel, rfl⟩
theorem eX8_side_65 : xAt mX8_side 65 (.invokevirtual 104) 3 68 := ⟨by decide +kernel, rfl⟩
theorem eX8_side_68 : xAt mX8_side 68 (.ireturn) 1 69 := ⟨by decide +kernel, rfl⟩
theorem eX8_sure_0 : xAt mX8_sure 0 (.aload_n 0) 1 1 := ⟨by decide +kernel, rfl⟩
theorem eX8_sure_1 : xAt mX8_sure 1 (.getfield 63) 3 4 := ⟨by decide +kernel, rfl⟩
theorem eX8_sure_4 : xAt mX8_sure 4 (.ireturn) 1 5 := ⟨by decide +kernel, rfl⟩
theorem eX8_cross_0 : xAt mX8_cross 0 (.aload_n 0) 1 1 := ⟨by decide +kernel, rfl⟩
theorem eX8_cross_1 : xAt mX8_cross 1 (.getfield 12) 3 4 := ⟨by decide +kernel, rfl⟩
theorem eX8_cross_4 : xAt mX8_cross 4 (.iload_n 1) 1 5 := ⟨by decide +kernel, rfl⟩
theorem eX8_cross_5 : xAt mX8_cross 5 (.invokevirtual 88) 3 8 := ⟨by decide +kernel, rfl⟩
theorem eX8_cross_8 : xBr mX8_cross 8 (.ifCond .eq) (37) 11 45 := ⟨by decide +kernel, rfl, by decide⟩
theorem eX8_cross_11 : xAt mX8_cross 11 (.aload_n 0) 1 12 := ⟨by decide +kernel, rfl⟩
theorem eX8_cross_12 : xAt mX8_cross 12 (.getfield 12) 3 15 := ⟨by decide +kernel, rfl⟩
theorem eX8_cross_15 : xAt mX8_cross 15 (.iload_n 2) 1 16 := ⟨by decide +kernel, rfl⟩
theorem eX8_cross_16 : xAt mX8_cross 16 (.invokevirtual 88) 3 19 := ⟨by decide +kernel, rfl⟩
theorem eX8_cross_19 : xBr mX8_cross 19 (.ifCond .eq) (26) 22 45 := ⟨by decide +kernel, rfl, by decide⟩
theorem eX8_cross_22 : xAt mX8_cross 22 (.aload_n 0) 1 23 := ⟨by decide +kernel, rfl⟩
theorem eX8_cross_23 : xAt mX8_cross 23 (.getfield 12) 3 26 := ⟨by decide +kernel, rfl⟩
theorem eX8_cross_26 : xAt mX8_cross 26 (.iload_n 3) 1 27 := ⟨by decide +kernel, rfl⟩
theorem eX8_cross_27 : xAt mX8_cross 27 (.invokevirtual 88) 3 30 := ⟨by decide +kernel, rfl⟩
theorem eX8_cross_30 : xBr mX8_cross 30 (.ifCond .eq) (15) 33 45 := ⟨by decide +kernel, rfl, by decide⟩
theorem eX8_cross_33 : xAt mX8_cross 33 (.aload_n 0) 1 34 := ⟨by decide +kernel, rfl⟩
theorem eX8_cross_34 : xAt mX8_cross 34 (.getfield 12) 3 37 := ⟨by decide +kernel, rfl⟩
theorem eX8_cross_37 : xAt mX8_cross 37 (.iload 4) 2 39 := ⟨by decide +kernel, rfl⟩
theorem eX8_cross_39 : xAt mX8_cross 39 (.invokevirtual 88) 3 42 := ⟨by decide +kernel, rfl⟩
theorem eX8_cross_42 : xBr mX8_cross 42 (.ifCond .ne) (6) 45 48 := ⟨by decide +kernel, rfl, by decide⟩
theorem eX8_cross_45 : xAt mX8_cross 45 (.bipush (-101)) 2 47 := ⟨by decide +kernel, rfl⟩
theorem eX8_cross_47 : xAt mX8_cross 47 (.ireturn) 1 48 := ⟨by decide +kernel, rfl⟩
theorem eX8_cross_48 : xAt mX8_cross 48 (.iload_n 1) 1 49 := ⟨by decide +kernel, rfl⟩
theorem eX8_cross_49 : xAt mX8_cross 49 (.iload_n 2) 1 50 := ⟨by decide +kernel, rfl⟩
theorem eX8_cross_50 : xBr mX8_cross 50 (.if_icmp .eq) (9) 53 59 := ⟨by decide +kernel, rfl, by decide⟩
theorem eX8_cross_53 : xAt mX8_cross 53 (.iload_n 3) 1 54 := ⟨by decide +kernel, rfl⟩
theorem eX8_cross_54 : xAt mX8_cross 54 (.iload 4) 2 56 := ⟨by decide +kernel, rfl⟩
theorem eX8_cross_56 : xBr mX8_cross 56 (.if_icmp .ne) (6) 59 62 := ⟨by decide +kernel, rfl, by decide⟩
theorem eX8_cross_59 : xAt mX8_cross 59 (.bipush (-102)) 2 61 := ⟨by decide +kernel, rfl⟩
theorem eX8_cross_61 : xAt mX8_cross 61 (.ireturn) 1 62 := ⟨by decide +kernel, rfl⟩
theorem eX8_cross_62 : xAt mX8_cross 62 (.aload_n 0) 1 63 := ⟨by decide +kernel, rfl⟩
theorem eX8_cross_63 : xAt mX8_cross 63 (.getfield 12) 3 66 := ⟨by decide +kernel, rfl⟩
theorem eX8_cross_66 : xAt mX8_cross 66 (.iload_n 1) 1 67 := ⟨by decide +kernel, rfl⟩
theorem eX8_cross_67 : xAt mX8_cross 67 (.iload_n 2) 1 68 := ⟨by decide +kernel, rfl⟩
theorem eX8_cross_68 : xAt mX8_cross 68 (.iload_n 3) 1 69 := ⟨by decide +kernel, rfl⟩
theorem eX8_cross_69 : xAt mX8_cross 69 (.iload 4) 2 71 := ⟨by decide +kernel, rfl⟩
theorem eX8_cross_71 : xAt mX8_cross 71 (.invokevirtual 108) 3 74 := ⟨by decide +kernel, rfl⟩
theorem eX8_cross_74 : xAt mX8_cross 74 (.ireturn) 1 75 := ⟨by decide +kernel, rfl⟩
theorem eX8_nearest_0 : xAt mX8_nearest 0 (.lload_n 1) 1 1 := ⟨by decide +kernel, rfl⟩
theorem eX8_nearest_1 : xAt mX8_nearest 1 (.invokestatic 69) 3 4 := ⟨by decide +kernel, rfl⟩
theorem eX8_nearest_4 : xBr mX8_nearest 4 (.ifCond .eq) (10) 7 14 := ⟨by decide +kernel, rfl, by decide⟩
theorem eX8_nearest_7 : xAt mX8_nearest 7 (.lload_n 3) 1 8 := ⟨by decide +kernel, rfl⟩
theorem eX8_nearest_8 : xAt mX8_nearest 8 (.invokestatic 69) 3 11 := ⟨by decide +kernel, rfl⟩
theorem eX8_nearest_11 : xBr mX8_nearest 11 (.ifCond .ne) (6) 14 17 := ⟨by decide +kernel, rfl, by decide⟩
theorem eX8_nearest_14 : xAt mX8_nearest 14 (.bipush (-102)) 2 16 := ⟨by decide +kernel, rfl⟩
theorem eX8_nearest_16 : xAt mX8_nearest 16 (.ireturn) 1 17 := ⟨by decide +kernel, rfl⟩
theorem eX8_nearest_17 : xAt mX8_nearest 17 (.aload_n 0) 1 18 := ⟨by decide +kernel, rfl⟩
theorem eX8_nearest_18 : xAt mX8_nearest 18 (.getfield 12) 3 21 := ⟨by decide +kernel, rfl⟩
theorem eX8_nearest_21 : xAt mX8_nearest 21 (.sipush 200) 3 24 := ⟨by decide +kernel, rfl⟩
theorem eX8_nearest_24 : xAt mX8_nearest 24 (.lload_n 1) 1 25 := ⟨by decide +kernel, rfl⟩
theorem eX8_nearest_25 : xAt mX8_nearest 25 (.lload_n 3) 1 26 := ⟨by decide +kernel, rfl⟩
theorem eX8_nearest_26 : xAt mX8_nearest 26 (.invokevirtual 73) 3 29 := ⟨by decide +kernel, rfl⟩
theorem eX8_nearest_29 : xAt mX8_nearest 29 (.aload_n 0) 1 30 := ⟨by decide +kernel, rfl⟩
theorem eX8_nearest_30 : xAt mX8_nearest 30 (.getfield 12) 3 33 := ⟨by decide +kernel, rfl⟩
theorem eX8_nearest_33 : xAt mX8_nearest 33 (.invokevirtual 112) 3 36 := ⟨by decide +kernel, rfl⟩
theorem eX8_nearest_36 : xAt mX8_nearest 36 (.ireturn) 1 37 := ⟨by decide +kernel, rfl⟩
end
section
theorem eX8_draw_0 : xAt mX8_draw 0 (.aload_n 0) 1 1 := ⟨by decide +kernel, rfl⟩
theorem eX8_draw_1 : xAt mX8_draw 1 (.getfield 49) 3 4 := ⟨by decide +kernel, rfl⟩
theorem eX8_draw_4 : xAt mX8_draw 4 (.getfield 115) 3 7 := ⟨by decide +kernel, rfl⟩
theorem eX8_draw_7 : xAt mX8_draw 7 (.istore_n 1) 1 8 := ⟨by decide +kernel, rfl⟩
theorem eX8_draw_8 : xAt mX8_draw 8 (.aload_n 0) 1 9 := ⟨by decide +kernel, rfl⟩
theorem eX8_draw_9 : xAt mX8_draw 9 (.getfield 49) 3 12 := ⟨by decide +kernel, rfl⟩
theorem eX8_draw_12 : xAt mX8_draw 12 (.invokevirtual 118) 3 15 := ⟨by decide +kernel, rfl⟩
theorem eX8_draw_15 : xAt mX8_draw 15 (.iload_n 1) 1 16 := ⟨by decide +kernel, rfl⟩
theorem eX8_draw_16 : xAt mX8_draw 16 (.ireturn) 1 17 := ⟨by decide +kernel, rfl⟩
theorem eX8_add_0 : xAt mX8_add 0 (.aload_n 0) 1 1 := ⟨by decide +kernel, rfl⟩
theorem eX8_add_1 : xAt mX8_add 1 (.getfield 12) 3 4 := ⟨by decide +kernel, rfl⟩
theorem eX8_add_4 : xAt mX8_add 4 (.iload_n 1) 1 5 := ⟨by decide +kernel, rfl⟩
theorem eX8_add_5 : xAt mX8_add 5 (.invokevirtual 88) 3 8 := ⟨by decide +kernel, rfl⟩
theorem eX8_add_8 : xBr mX8_add 8 (.ifCond .ne) (6) 11 14 := ⟨by decide +kernel, rfl, by decide⟩
theorem eX8_add_11 : xAt mX8_add 11 (.bipush (-101)) 2 13 := ⟨by decide +kernel, rfl⟩
theorem eX8_add_13 : xAt mX8_add 13 (.ireturn) 1 14 := ⟨by decide +kernel, rfl⟩
theorem eX8_add_14 : xAt mX8_add 14 (.aload_n 0) 1 15 := ⟨by decide +kernel, rfl⟩
theorem eX8_add_15 : xAt mX8_add 15 (.getfield 49) 3 18 := ⟨by decide +kernel, rfl⟩
theorem eX8_add_18 : xAt mX8_add 18 (.getfield 115) 3 21 := ⟨by decide +kernel, rfl⟩
theorem eX8_add_21 : xAt mX8_add 21 (.bipush 20) 2 23 := ⟨by decide +kernel, rfl⟩
theorem eX8_add_23 : xBr mX8_add 23 (.if_icmp .lt) (6) 26 29 := ⟨by decide +kernel, rfl, by decide⟩
theorem eX8_add_26 : xAt mX8_add 26 (.bipush (-104)) 2 28 := ⟨by decide +kernel, rfl⟩
theorem eX8_add_28 : xAt mX8_add 28 (.ireturn) 1 29 := ⟨by decide +kernel, rfl⟩
theorem eX8_add_29 : xAt mX8_add 29 (.aload_n 0) 1 30 := ⟨by decide +kernel, rfl⟩
theorem eX8_add_30 : xAt mX8_add 30 (.getfield 49) 3 33 := ⟨by decide +kernel, rfl⟩
theorem eX8_add_33 : xAt mX8_add 33 (.iload_n 1) 1 34 := ⟨by decide +kernel, rfl⟩
theorem eX8_add_34 : xAt mX8_add 34 (.invokevirtual 121) 3 37 := ⟨by decide +kernel, rfl⟩
theorem eX8_add_37 : xAt mX8_add 37 (.aload_n 0) 1 38 := ⟨by decide +kernel, rfl⟩
theorem eX8_add_38 : xAt mX8_add 38 (.getfield 49) 3 41 := ⟨by decide +kernel, rfl⟩
theorem eX8_add_41 : xAt mX8_add 41 (.getfield 115) 3 44 := ⟨by decide +kernel, rfl⟩
theorem eX8_add_44 : xAt mX8_add 44 (.ireturn) 1 45 := ⟨by decide +kernel, rfl⟩
theorem eX8_close_0 : xAt mX8_close 0 (.iload_n 1) 1 1 := ⟨by decide +kernel, rfl⟩
theorem eX8_close_1 : xAt mX8_close 1 (.invokestatic 125) 3 4 := ⟨by decide +kernel, rfl⟩
theorem eX8_close_4 : xBr mX8_close 4 (.ifCond .ne) (6) 7 10 := ⟨by decide +kernel, rfl, by decide⟩
theorem eX8_close_7 : xAt mX8_close 7 (.bipush (-102)) 2 9 := ⟨by decide +kernel, rfl⟩
theorem eX8_close_9 : xAt mX8_close 9 (.ireturn) 1 10 := ⟨by decide +kernel, rfl⟩
theorem eX8_close_10 : xAt mX8_close 10 (.aload_n 0) 1 11 := ⟨by decide +kernel, rfl⟩
theorem eX8_close_11 : xAt mX8_close 11 (.getfield 28) 3 14 := ⟨by decide +kernel, rfl⟩
theorem eX8_close_14 : xAt mX8_close 14 (.invokevirtual 128) 3 17 := ⟨by decide +kernel, rfl⟩
theorem eX8_close_17 : xBr mX8_close 17 (.ifCond .ne) (6) 20 23 := ⟨by decide +kernel, rfl, by decide⟩
theorem eX8_close_20 : xAt mX8_close 20 (.bipush (-104)) 2 22 := ⟨by decide +kernel, rfl⟩
theorem eX8_close_22 : xAt mX8_close 22 (.ireturn) 1 23 := ⟨by decide +kernel, rfl⟩
theorem eX8_close_23 : xAt mX8_close 23 (.aload_n 0) 1 24 := ⟨by decide +kernel, rfl⟩
theorem eX8_close_24 : xAt mX8_close 24 (.aload_n 0) 1 25 := ⟨by decide +kernel, rfl⟩
theorem eX8_close_25 : xAt mX8_close 25 (.getfield 49) 3 28 := ⟨by decide +kernel, rfl⟩
theorem eX8_close_28 : xAt mX8_close 28 (.iload_n 1) 1 29 := ⟨by decide +kernel, rfl⟩
theorem eX8_close_29 : xAt mX8_close 29 (.iconst (-1)) 1 30 := ⟨by decide +kernel, rfl⟩
theorem eX8_close_30 : xAt mX8_close 30 (.invokevirtual 132) 3 33 := ⟨by decide +kernel, rfl⟩
theorem eX8_close_33 : xAt mX8_close 33 (.istore_n 3) 1 34 := ⟨by decide +kernel, rfl⟩
theorem eX8_close_34 : xAt mX8_close 34 (.iload_n 3) 1 35 := ⟨by decide +kernel, rfl⟩
theorem eX8_close_35 : xBr mX8_close 35 (.ifCond .eq) (5) 38 40 := ⟨by decide +kernel, rfl, by decide⟩
theorem eX8_close_38 : xAt mX8_close 38 (.iload_n 3) 1 39 := ⟨by decide +kernel, rfl⟩
theorem eX8_close_39 : xAt mX8_close 39 (.ireturn) 1 40 := ⟨by decide +kernel, rfl⟩
theorem eX8_close_40 : xAt mX8_close 40 (.aload_n 0) 1 41 := ⟨by decide +kernel, rfl⟩
theorem eX8_close_41 : xAt mX8_close 41 (.getfield 28) 3 44 := ⟨by decide +kernel, rfl⟩
theorem eX8_close_44 : xAt mX8_close 44 (.getfield 136) 3 47 := ⟨by decide +kernel, rfl⟩
theorem eX8_close_47 : xAt mX8_close 47 (.istore 4) 2 49 := ⟨by decide +kernel, rfl⟩
theorem eX8_close_49 : xAt mX8_close 49 (.aload_n 0) 1 50 := ⟨by decide +kernel, rfl⟩
theorem eX8_close_50 : xAt mX8_close 50 (.getfield 28) 3 53 := ⟨by decide +kernel, rfl⟩
theorem eX8_close_53 : xAt mX8_close 53 (.iload 4) 2 55 := ⟨by decide +kernel, rfl⟩
theorem eX8_close_55 : xAt mX8_close 55 (.iconst (-1)) 1 56 := ⟨by decide +kernel, rfl⟩
theorem eX8_close_56 : xAt mX8_close 56 (.invokevirtual 137) 3 59 := ⟨by decide +kernel, rfl⟩
theorem eX8_close_59 : xAt mX8_close 59 (.aload_n 0) 1 60 := ⟨by decide +kernel, rfl⟩
theorem eX8_close_60 : xAt mX8_close 60 (.getfield 28) 3 63 := ⟨by decide +kernel, rfl⟩
theorem eX8_close_63 : xAt mX8_close 63 (.iload_n 1) 1 64 := ⟨by decide +kernel, rfl⟩
theorem eX8_close_64 : xAt mX8_close 64 (.iload_n 2) 1 65 := ⟨by decide +kernel, rfl⟩
theorem eX8_close_65 : xAt mX8_close 65 (.aload_n 0) 1 66 := ⟨by decide +kernel, rfl⟩
theorem eX8_close_66 : xAt mX8_close 66 (.getfield 56) 3 69 := ⟨by decide +kernel, rfl⟩
theorem eX8_close_69 : xAt mX8_close 69 (.invokevirtual 141) 3 72 := ⟨by decide +kernel, rfl⟩
theorem eX8_close_72 : xAt mX8_close 72 (.aload_n 0) 1 73 := ⟨by decide +kernel, rfl⟩
theorem eX8_close_73 : xAt mX8_close 73 (.getfield 49) 3 76 := ⟨by decide +kernel, rfl⟩
theorem eX8_close_76 : xAt mX8_close 76 (.invokevirtual 118) 3 79 := ⟨by decide +kernel, rfl⟩
theorem eX8_close_79 : xAt mX8_close 79 (.iload 4) 2 81 := ⟨by decide +kernel, rfl⟩
theorem eX8_close_81 : xAt mX8_close 81 (.ireturn) 1 82 := ⟨by decide +kernel, rfl⟩
theorem eX8_where_0 : xAt mX8_where 0 (.aload_n 0) 1 1 := ⟨by decide +kernel, rfl⟩
theorem eX8_where_1 : xAt mX8_where 1 (.getfield 59) 3 4 := ⟨by decide +kernel, rfl⟩
theorem eX8_where_4 : xAt mX8_where 4 (.ireturn) 1 5 := ⟨by decide +kernel, rfl⟩
theorem eX8_told_0 : xAt mX8_told 0 (.aload_n 0) 1 1 := ⟨by decide +kernel, rfl⟩
theorem eX8_told_1 : xAt mX8_told 1 (.getfield 28) 3 4 := ⟨by decide +kernel, rfl⟩
theorem eX8_told_4 : xAt mX8_told 4 (.iload_n 1) 1 5 := ⟨by decide +kernel, rfl⟩
theorem eX8_told_5 : xAt mX8_told 5 (.invokevirtual 144) 3 8 := ⟨by decide +kernel, rfl⟩
theorem eX8_told_8 : xBr mX8_told 8 (.ifCond .ne) (6) 11 14 := ⟨by decide +kernel, rfl, by decide⟩
theorem eX8_told_11 : xAt mX8_told 11 (.bipush (-101)) 2 13 := ⟨by decide +kernel, rfl⟩
theorem eX8_told_13 : xAt mX8_told 13 (.ireturn) 1 14 := ⟨by decide +kernel, rfl⟩
theorem eX8_told_14 : xAt mX8_told 14 (.iload_n 2) 1 15 := ⟨by decide +kernel, rfl⟩
theorem eX8_told_15 : xBr mX8_told 15 (.ifCond .lt) (9) 18 24 := ⟨by decide +kernel, rfl, by decide⟩
theorem eX8_told_18 : xAt mX8_told 18 (.iload_n 2) 1 19 := ⟨by decide +kernel, rfl⟩
theorem eX8_told_19 : xAt mX8_told 19 (.bipush 15) 2 21 := ⟨by decide +kernel, rfl⟩
theorem eX8_told_21 : xBr mX8_told 21 (.if_icmp .lt) (6) 24 27 := ⟨by decide +kernel, rfl, by decide⟩
theorem eX8_told_24 : xAt mX8_told 24 (.bipush (-102)) 2 26 := ⟨by decide +kernel, rfl⟩
theorem eX8_told_26 : xAt mX8_told 26 (.ireturn) 1 27 := ⟨by decide +kernel, rfl⟩
theorem eX8_told_27 : xAt mX8_told 27 (.aload_n 0) 1 28 := ⟨by decide +kernel, rfl⟩
theorem eX8_told_28 : xAt mX8_told 28 (.getfield 28) 3 31 := ⟨by decide +kernel, rfl⟩
theorem eX8_told_31 : xAt mX8_told 31 (.getfield 145) 3 34 := ⟨by decide +kernel, rfl⟩
theorem eX8_told_34 : xAt mX8_told 34 (.iload_n 1) 1 35 := ⟨by decide +kernel, rfl⟩
theorem eX8_told_35 : xAt mX8_told 35 (.aaload) 1 36 := ⟨by decide +kernel, rfl⟩
theorem eX8_told_36 : xAt mX8_told 36 (.astore_n 3) 1 37 := ⟨by decide +kernel, rfl⟩
theorem eX8_told_37 : xAt mX8_told 37 (.iload_n 2) 1 38 := ⟨by decide +kernel, rfl⟩
theorem eX8_told_38 : decode mX8_told.2.1 38 = .ok (.tableswitch 44 0 2 #[26, 31, 36], 26) := by decide +kernel
theorem eX8_told_64 : xAt mX8_told 64 (.aload_n 3) 1 65 := ⟨by decide +kernel, rfl⟩
theorem eX8_told_65 : xAt mX8_told 65 (.getfield 149) 3 68 := ⟨by decide +kernel, rfl⟩
theorem eX8_told_68 : xAt mX8_told 68 (.ireturn) 1 69 := ⟨by decide +kernel, rfl⟩
theorem eX8_told_69 : xAt mX8_told 69 (.aload_n 3) 1 70 := ⟨by decide +kernel, rfl⟩
theorem eX8_told_70 : xAt mX8_told 70 (.getfield 154) 3 73 := ⟨by decide +kernel, rfl⟩
theorem eX8_told_73 : xAt mX8_told 73 (.ireturn) 1 74 := ⟨by decide +kernel, rfl⟩
theorem eX8_told_74 : xAt mX8_told 74 (.aload_n 3) 1 75 := ⟨by decide +kernel, rfl⟩
theorem eX8_told_75 : xAt mX8_told 75 (.getfield 157) 3 78 := ⟨by decide +kernel, rfl⟩
theorem eX8_told_78 : xAt mX8_told 78 (.getfield 115) 3 81 := ⟨by decide +kernel, rfl⟩
theorem eX8_told_81 : xAt mX8_told 81 (.ireturn) 1 82 := ⟨by decide +kernel, rfl⟩
theorem eX8_told_82 : xAt mX8_told 82 (.iload_n 2) 1 83 := ⟨by decide +kernel, rfl⟩
theorem eX8_told_83 : xAt mX8_told 83 (.iconst 3) 1 84 := ⟨by decide +kernel, rfl⟩
theorem eX8_told_84 : xAt mX8_told 84 (.isub) 1 85 := ⟨by decide +kernel, rfl⟩
theorem eX8_told_85 : xAt mX8_told 85 (.aload_n 3) 1 86 := ⟨by decide +kernel, rfl⟩
theorem eX8_told_86 : xAt mX8_told 86 (.getfield 157) 3 89 := ⟨by decide +kernel, rfl⟩
theorem eX8_told_89 : xAt mX8_told 89 (.getfield 115) 3 92 := ⟨by decide +kernel, rfl⟩
theorem eX8_told_92 : xBr mX8_told 92 (.if_icmp .ge) (16) 95 108 := ⟨by decide +kernel, rfl, by decide⟩
theorem eX8_told_95 : xAt mX8_told 95 (.aload_n 3) 1 96 := ⟨by decide +kernel, rfl⟩
theorem eX8_told_96 : xAt mX8_told 96 (.getfield 157) 3 99 := ⟨by decide +kernel, rfl⟩
theorem eX8_told_99 : xAt mX8_told 99 (.iload_n 2) 1 100 := ⟨by decide +kernel, rfl⟩
theorem eX8_told_100 : xAt mX8_told 100 (.iconst 3) 1 101 := ⟨by decide +kernel, rfl⟩
theorem eX8_told_101 : xAt mX8_told 101 (.isub) 1 102 := ⟨by decide +kernel, rfl⟩
theorem eX8_told_102 : xAt mX8_told 102 (.invokevirtual 160) 3 105 := ⟨by decide +kernel, rfl⟩
theorem eX8_told_105 : xBr mX8_told 105 .goto (4) 108 109 := ⟨by decide +kernel, rfl, by decide⟩
theorem eX8_told_108 : xAt mX8_told 108 (.iconst (-1)) 1 109 := ⟨by decide +kernel, rfl⟩
theorem eX8_told_109 : xAt mX8_told 109 (.ireturn) 1 110 := ⟨by decide +kernel, rfl⟩
theorem eX8_give_0 : xAt mX8_give 0 (.aload_n 0) 1 1 := ⟨by decide +kernel, rfl⟩
theorem eX8_give_1 : xAt mX8_give 1 (.getfield 28) 3 4 := ⟨by decide +kernel, rfl⟩
theorem eX8_give_4 : xAt mX8_give 4 (.iload_n 1) 1 5 := ⟨by decide +kernel, rfl⟩
theorem eX8_give_5 : xAt mX8_give 5 (.invokevirtual 144) 3 8 := ⟨by decide +kernel, rfl⟩
theorem eX8_give_8 : xBr mX8_give 8 (.ifCond .ne) (6) 11 14 := ⟨by decide +kernel, rfl, by decide⟩
theorem eX8_give_11 : xAt mX8_give 11 (.bipush (-101)) 2 13 := ⟨by decide +kernel, rfl⟩
theorem eX8_give_13 : xAt mX8_give 13 (.ireturn) 1 14 := ⟨by decide +kernel, rfl⟩
theorem eX8_give_14 : xAt mX8_give 14 (.aload_n 0) 1 15 := ⟨by decide +kernel, rfl⟩
theorem eX8_give_15 : xAt mX8_give 15 (.getfield 28) 3 18 := ⟨by decide +kernel, rfl⟩
theorem eX8_give_18 : xAt mX8_give 18 (.iload_n 1) 1 19 := ⟨by decide +kernel, rfl⟩
theorem eX8_give_19 : xAt mX8_give 19 (.iconst (-1)) 1 20 := ⟨by decide +kernel, rfl⟩
theorem eX8_give_20 : xAt mX8_give 20 (.invokevirtual 137) 3 23 := ⟨by decide +kernel, rfl⟩
theorem eX8_give_23 : xAt mX8_give 23 (.aload_n 0) 1 24 := ⟨by decide +kernel, rfl⟩
theorem eX8_give_24 : xAt mX8_give 24 (.getfield 28) 3 27 := ⟨by decide +kernel, rfl⟩
theorem eX8_give_27 : xAt mX8_give 27 (.getfield 145) 3 30 := ⟨by decide +kernel, rfl⟩
theorem eX8_give_30 : xAt mX8_give 30 (.iload_n 1) 1 31 := ⟨by decide +kernel, rfl⟩
theorem eX8_give_31 : xAt mX8_give 31 (.aaload) 1 32 := ⟨by decide +kernel, rfl⟩
theorem eX8_give_32 : xAt mX8_give 32 (.getfield 154) 3 35 := ⟨by decide +kernel, rfl⟩
theorem eX8_give_35 : xAt mX8_give 35 (.istore_n 3) 1 36 := ⟨by decide +kernel, rfl⟩
theorem eX8_give_36 : xAt mX8_give 36 (.aload_n 0) 1 37 := ⟨by decide +kernel, rfl⟩
theorem eX8_give_37 : xAt mX8_give 37 (.getfield 28) 3 40 := ⟨by decide +kernel, rfl⟩
theorem eX8_give_40 : xAt mX8_give 40 (.getfield 145) 3 43 := ⟨by decide +kernel, rfl⟩
theorem eX8_give_43 : xAt mX8_give 43 (.iload_n 1) 1 44 := ⟨by decide +kernel, rfl⟩
theorem eX8_give_44 : xAt mX8_give 44 (.aaload) 1 45 := ⟨by decide +kernel, rfl⟩
theorem eX8_give_45 : xAt mX8_give 45 (.iload_n 2) 1 46 := ⟨by decide +kernel, rfl⟩
theorem eX8_give_46 : xAt mX8_give 46 (.putfield 154) 3 49 := ⟨by decide +kernel, rfl⟩
theorem eX8_give_49 : xAt mX8_give 49 (.iload_n 3) 1 50 := ⟨by decide +kernel, rfl⟩
theorem eX8_give_50 : xAt mX8_give 50 (.ireturn) 1 51 := ⟨by decide +kernel, rfl⟩
theorem eX8_drop_0 : xAt mX8_drop 0 (.aload_n 0) 1 1 := ⟨by decide +kernel, rfl⟩
theorem eX8_drop_1 : xAt mX8_drop 1 (.getfield 28) 3 4 := ⟨by decide +kernel, rfl⟩
theorem eX8_drop_4 : xAt mX8_drop 4 (.iload_n 1) 1 5 := ⟨by decide +kernel, rfl⟩
theorem eX8_drop_5 : xAt mX8_drop 5 (.invokevirtual 144) 3 8 := ⟨by decide +kernel, rfl⟩
theorem eX8_drop_8 : xBr mX8_drop 8 (.ifCond .ne) (6) 11 14 := ⟨by decide +kernel, rfl, by decide⟩
theorem eX8_drop_11 : xAt mX8_drop 11 (.bipush (-101)) 2 13 := ⟨by decide +kernel, rfl⟩
theorem eX8_drop_13 : xAt mX8_drop 13 (.ireturn) 1 14 := ⟨by decide +kernel, rfl⟩
theorem eX8_drop_14 : xAt mX8_drop 14 (.aload_n 0) 1 15 := ⟨by decide +kernel, rfl⟩
theorem eX8_drop_15 : xAt mX8_drop 15 (.getfield 28) 3 18 := ⟨by decide +kernel, rfl⟩
theorem eX8_drop_18 : xAt mX8_drop 18 (.iload_n 1) 1 19 := ⟨by decide +kernel, rfl⟩
theorem eX8_drop_19 : xAt mX8_drop 19 (.iconst (-1)) 1 20 := ⟨by decide +kernel, rfl⟩
theorem eX8_drop_20 : xAt mX8_drop 20 (.invokevirtual 137) 3 23 := ⟨by decide +kernel, rfl⟩
theorem eX8_drop_23 : xAt mX8_drop 23 (.aload_n 0) 1 24 := ⟨by decide +kernel, rfl⟩
theorem eX8_drop_24 : xAt mX8_drop 24 (.getfield 28) 3 27 := ⟨by decide +kernel, rfl⟩
theorem eX8_drop_27 : xAt mX8_drop 27 (.getfield 145) 3 30 := ⟨by decide +kernel, rfl⟩
theorem eX8_drop_30 : xAt mX8_drop 30 (.iload_n 1) 1 31 := ⟨by decide +kernel, rfl⟩
theorem eX8_drop_31 : xAt mX8_drop 31 (.aaload) 1 32 := ⟨by decide +kernel, rfl⟩
theorem eX8_drop_32 : xAt mX8_drop 32 (.iconst 0) 1 33 := ⟨by decide +kernel, rfl⟩
theorem eX8_drop_33 : xAt mX8_drop 33 (.putfield 164) 3 36 := ⟨by decide +kernel, rfl⟩
theorem eX8_drop_36 : xAt mX8_drop 36 (.aload_n 0) 1 37 := ⟨by decide +kernel, rfl⟩
theorem eX8_drop_37 : xAt mX8_drop 37 (.getfield 28) 3 40 := ⟨by decide +kernel, rfl⟩
theorem eX8_drop_40 : xAt mX8_drop 40 (.invokevirtual 168) 3 43 := ⟨by decide +kernel, rfl⟩
theorem eX8_drop_43 : xAt mX8_drop 43 (.ireturn) 1 44 := ⟨by decide +kernel, rfl⟩
theorem eX8_split_0 : xAt mX8_split 0 (.aload_n 0) 1 1 := ⟨by decide +kernel, rfl⟩
theorem eX8_split_1 : xAt mX8_split 1 (.getfield 28) 3 4 := ⟨by decide +kernel, rfl⟩
theorem eX8_split_4 : xAt mX8_split 4 (.iload_n 1) 1 5 := ⟨by decide +kernel, rfl⟩
theorem eX8_split_5 : xAt mX8_split 5 (.invokevirtual 144) 3 8 := ⟨by decide +kernel, rfl⟩
theorem eX8_split_8 : xBr mX8_split 8 (.ifCond .ne) (6) 11 14 := ⟨by decide +kernel, rfl, by decide⟩
theorem eX8_split_11 : xAt mX8_split 11 (.bipush (-101)) 2 13 := ⟨by decide +kernel, rfl⟩
theorem eX8_split_13 : xAt mX8_split 13 (.ireturn) 1 14 := ⟨by decide +kernel, rfl⟩
theorem eX8_split_14 : xAt mX8_split 14 (.aload_n 0) 1 15 := ⟨by decide +kernel, rfl⟩
theorem eX8_split_15 : xAt mX8_split 15 (.getfield 28) 3 18 := ⟨by decide +kernel, rfl⟩
theorem eX8_split_18 : xAt mX8_split 18 (.getfield 145) 3 21 := ⟨by decide +kernel, rfl⟩
theorem eX8_split_21 : xAt mX8_split 21 (.iload_n 1) 1 22 := ⟨by decide +kernel, rfl⟩
theorem eX8_split_22 : xAt mX8_split 22 (.aaload) 1 23 := ⟨by decide +kernel, rfl⟩
theorem eX8_split_23 : xAt mX8_split 23 (.astore 5) 2 25 := ⟨by decide +kernel, rfl⟩
theorem eX8_split_25 : xAt mX8_split 25 (.iload_n 2) 1 26 := ⟨by decide +kernel, rfl⟩
theorem eX8_split_26 : xBr mX8_split 26 (.ifCond .lt) (20) 29 46 := ⟨by decide +kernel, rfl, by decide⟩
theorem eX8_split_29 : xAt mX8_split 29 (.iload_n 2) 1 30 := ⟨by decide +kernel, rfl⟩
theorem eX8_split_30 : xAt mX8_split 30 (.iload_n 3) 1 31 := ⟨by decide +kernel, rfl⟩
theorem eX8_split_31 : xBr mX8_split 31 (.if_icmp .ge) (15) 34 46 := ⟨by decide +kernel, rfl, by decide⟩
theorem eX8_split_34 : xAt mX8_split 34 (.iload_n 3) 1 35 := ⟨by decide +kernel, rfl⟩
theorem eX8_split_35 : xAt mX8_split 35 (.aload 5) 2 37 := ⟨by decide +kernel, rfl⟩
theorem eX8_split_37 : xAt mX8_split 37 (.getfield 157) 3 40 := ⟨by decide +kernel, rfl⟩
theorem eX8_split_40 : xAt mX8_split 40 (.getfield 115) 3 43 := ⟨by decide +kernel, rfl⟩
theorem eX8_split_43 : xBr mX8_split 43 (.if_icmp .lt) (6) 46 49 := ⟨by decide +kernel, rfl, by decide⟩
theorem eX8_split_46 : xAt mX8_split 46 (.bipush (-102)) 2 48 := ⟨by decide +kernel, rfl⟩
theorem eX8_split_48 : xAt mX8_split 48 (.ireturn) 1 49 := ⟨by decide +kernel, rfl⟩
theorem eX8_split_49 : xAt mX8_split 49 (.aload_n 0) 1 50 := ⟨by decide +kernel, rfl⟩
theorem eX8_split_50 : xAt mX8_split 50 (.getfield 21) 3 53 := ⟨by decide +kernel, rfl⟩
theorem eX8_split_53 : xAt mX8_split 53 (.aload 5) 2 55 := ⟨by decide +kernel, rfl⟩
theorem eX8_split_55 : xAt mX8_split 55 (.getfield 157) 3 58 := ⟨by decide +kernel, rfl⟩
theorem eX8_split_58 : xAt mX8_split 58 (.iload_n 2) 1 59 := ⟨by decide +kernel, rfl⟩
theorem eX8_split_59 : xAt mX8_split 59 (.iload_n 3) 1 60 := ⟨by decide +kernel, rfl⟩
theorem eX8_split_60 : xAt mX8_split 60 (.invokevirtual 171) 3 63 := ⟨by decide +kernel, rfl⟩
theorem eX8_split_63 : xBr mX8_split 63 (.ifCond .ne) (7) 66 70 := ⟨by decide +kernel, rfl, by decide⟩
theorem eX8_split_66 : xAt mX8_split 66 (.sipush (-205)) 3 69 := ⟨by decide +kernel, rfl⟩
theorem eX8_split_69 : xAt mX8_split 69 (.ireturn) 1 70 := ⟨by decide +kernel, rfl⟩
theorem eX8_split_70 : xAt mX8_split 70 (.aload_n 0) 1 71 := ⟨by decide +kernel, rfl⟩
theorem eX8_split_71 : xAt mX8_split 71 (.getfield 28) 3 74 := ⟨by decide +kernel, rfl⟩
theorem eX8_split_74 : xAt mX8_split 74 (.invokevirtual 128) 3 77 := ⟨by decide +kernel, rfl⟩
theorem eX8_split_77 : xBr mX8_split 77 (.ifCond .ne) (6) 80 83 := ⟨by decide +kernel, rfl, by decide⟩
theorem eX8_split_80 : xAt mX8_split 80 (.bipush (-104)) 2 82 := ⟨by decide +kernel, rfl⟩
theorem eX8_split_82 : xAt mX8_split 82 (.ireturn) 1 83 := ⟨by decide +kernel, rfl⟩
theorem eX8_split_83 : xAt mX8_split 83 (.aload_n 0) 1 84 := ⟨by decide +kernel, rfl⟩
theorem eX8_split_84 : xAt mX8_split 84 (.getfield 28) 3 87 := ⟨by decide +kernel, rfl⟩
theorem eX8_split_87 : xAt mX8_split 87 (.getfield 136) 3 90 := ⟨by decide +kernel, rfl⟩
theorem eX8_split_90 : xAt mX8_split 90 (.istore 6) 2 92 := ⟨by decide +kernel, rfl⟩
theorem eX8_split_92 : xAt mX8_split 92 (.aload_n 0) 1 93 := ⟨by decide +kernel, rfl⟩
theorem eX8_split_93 : xAt mX8_split 93 (.getfield 28) 3 96 := ⟨by decide +kernel, rfl⟩
theorem eX8_split_96 : xAt mX8_split 96 (.iload_n 1) 1 97 := ⟨by decide +kernel, rfl⟩
theorem eX8_split_97 : xAt mX8_split 97 (.iload 6) 2 99 := ⟨by decide +kernel, rfl⟩
theorem eX8_split_99 : xAt mX8_split 99 (.invokevirtual 137) 3 102 := ⟨by decide +kernel, rfl⟩
theorem eX8_split_102 : xAt mX8_split 102 (.aload_n 0) 1 103 := ⟨by decide +kernel, rfl⟩
theorem eX8_split_103 : xAt mX8_split 103 (.getfield 53) 3 106 := ⟨by decide +kernel, rfl⟩
theorem eX8_split_106 : xAt mX8_split 106 (.invokevirtual 118) 3 109 := ⟨by decide +kernel, rfl⟩
theorem eX8_split_109 : xAt mX8_split 109 (.aload_n 0) 1 110 := ⟨by decide +kernel, rfl⟩
theorem eX8_split_110 : xAt mX8_split 110 (.getfield 53) 3 113 := ⟨by decide +kernel, rfl⟩
theorem eX8_split_113 : xAt mX8_split 113 (.aload 5) 2 115 := ⟨by decide +kernel, rfl⟩
theorem eX8_split_115 : xAt mX8_split 115 (.getfield 157) 3 118 := ⟨by decide +kernel, rfl⟩
theorem eX8_split_118 : xAt mX8_split 118 (.iload_n 2) 1 119 := ⟨by decide +kernel, rfl⟩
theorem eX8_split_119 : xAt mX8_split 119 (.iload_n 3) 1 120 := ⟨by decide +kernel, rfl⟩
theorem eX8_split_120 : xAt mX8_split 120 (.iload_n 2) 1 121 := ⟨by decide +kernel, rfl⟩
theorem eX8_split_121 : xAt mX8_split 121 (.isub) 1 122 := ⟨by decide +kernel, rfl⟩
theorem eX8_split_122 : xAt mX8_split 122 (.iconst 1) 1 123 := ⟨by decide +kernel, rfl⟩
theorem eX8_split_123 : xAt mX8_split 123 (.iadd) 1 124 := ⟨by decide +kernel, rfl⟩
theorem eX8_split_124 : xAt mX8_split 124 (.invokevirtual 175) 3 127 := ⟨by decide +kernel, rfl⟩
theorem eX8_split_127 : xAt mX8_split 127 (.aload_n 0) 1 128 := ⟨by decide +kernel, rfl⟩
theorem eX8_split_128 : xAt mX8_split 128 (.getfield 21) 3 131 := ⟨by decide +kernel, rfl⟩
theorem eX8_split_131 : xAt mX8_split 131 (.aload_n 0) 1 132 := ⟨by decide +kernel, rfl⟩
theorem eX8_split_132 : xAt mX8_split 132 (.getfield 53) 3 135 := ⟨by decide +kernel, rfl⟩
theorem eX8_split_135 : xAt mX8_split 135 (.aload_n 0) 1 136 := ⟨by decide +kernel, rfl⟩
theorem eX8_split_136 : xAt mX8_split 136 (.getfield 56) 3 139 := ⟨by decide +kernel, rfl⟩
theorem eX8_split_139 : xAt mX8_split 139 (.invokevirtual 179) 3 142 := ⟨by decide +kernel, rfl⟩
theorem eX8_split_142 : xAt mX8_split 142 (.aload_n 0) 1 143 := ⟨by decide +kernel, rfl⟩
theorem eX8_split_143 : xAt mX8_split 143 (.getfield 28) 3 146 := ⟨by decide +kernel, rfl⟩
theorem eX8_split_146 : xAt mX8_split 146 (.aload 5) 2 148 := ⟨by decide +kernel, rfl⟩
theorem eX8_split_148 : xAt mX8_split 148 (.getfield 149) 3 151 := ⟨by decide +kernel, rfl⟩
theorem eX8_split_151 : xAt mX8_split 151 (.iload 4) 2 153 := ⟨by decide +kernel, rfl⟩
theorem eX8_split_153 : xAt mX8_split 153 (.aload_n 0) 1 154 := ⟨by decide +kernel, rfl⟩
theorem eX8_split_154 : xAt mX8_split 154 (.getfield 56) 3 157 := ⟨by decide +kernel, rfl⟩
theorem eX8_split_157 : xAt mX8_split 157 (.invokevirtual 141) 3 160 := ⟨by decide +kernel, rfl⟩
theorem eX8_split_160 : xAt mX8_split 160 (.aload_n 0) 1 161 := ⟨by decide +kernel, rfl⟩
theorem eX8_split_161 : xAt mX8_split 161 (.getfield 53) 3 164 := ⟨by decide +kernel, rfl⟩
theorem eX8_split_164 : xAt mX8_split 164 (.invokevirtual 118) 3 167 := ⟨by decide +kernel, rfl⟩
theorem eX8_split_167 : xAt mX8_split 167 (.aload_n 0) 1 168 := ⟨by decide +kernel, rfl⟩
theorem eX8_split_168 : xAt mX8_split 168 (.getfield 53) 3 171 := ⟨by decide +kernel, rfl⟩
theorem eX8_split_171 : xAt mX8_split 171 (.aload 5) 2 173 := ⟨by decide +kernel, rfl⟩
theorem eX8_split_173 : xAt mX8_split 173 (.getfield 157) 3 176 := ⟨by decide +kernel, rfl⟩
theorem eX8_split_176 : xAt mX8_split 176 (.iload_n 3) 1 177 := ⟨by decide +kernel, rfl⟩
theorem eX8_split_177 : xAt mX8_split 177 (.aload 5) 2 179 := ⟨by decide +kernel, rfl⟩
theorem eX8_split_179 : xAt mX8_split 179 (.getfield 157) 3 182 := ⟨by decide +kernel, rfl⟩
theorem eX8_split_182 : xAt mX8_split 182 (.getfield 115) 3 185 := ⟨by decide +kernel, rfl⟩
theorem eX8_split_185 : xAt mX8_split 185 (.iload_n 3) 1 186 := ⟨by decide +kernel, rfl⟩
theorem eX8_split_186 : xAt mX8_split 186 (.isub) 1 187 := ⟨by decide +kernel, rfl⟩
theorem eX8_split_187 : xAt mX8_split 187 (.iload_n 2) 1 188 := ⟨by decide +kernel, rfl⟩
theorem eX8_split_188 : xAt mX8_split 188 (.iadd) 1 189 := ⟨by decide +kernel, rfl⟩
theorem eX8_split_189 : xAt mX8_split 189 (.iconst 1) 1 190 := ⟨by decide +kernel, rfl⟩
theorem eX8_split_190 : xAt mX8_split 190 (.iadd) 1 191 := ⟨by decide +kernel, rfl⟩
theorem eX8_split_191 : xAt mX8_split 191 (.invokevirtual 175) 3 194 := ⟨by decide +kernel, rfl⟩
theorem eX8_split_194 : xAt mX8_split 194 (.aload_n 0) 1 195 := ⟨by decide +kernel, rfl⟩
theorem eX8_split_195 : xAt mX8_split 195 (.getfield 21) 3 198 := ⟨by decide +kernel, rfl⟩
theorem eX8_split_198 : xAt mX8_split 198 (.aload_n 0) 1 199 := ⟨by decide +kernel, rfl⟩
theorem eX8_split_199 : xAt mX8_split 199 (.getfield 53) 3 202 := ⟨by decide +kernel, rfl⟩
theorem eX8_split_202 : xAt mX8_split 202 (.aload 5) 2 204 := ⟨by decide +kernel, rfl⟩
theorem eX8_split_204 : xAt mX8_split 204 (.getfield 157) 3 207 := ⟨by decide +kernel, rfl⟩
theorem eX8_split_207 : xAt mX8_split 207 (.invokevirtual 179) 3 210 := ⟨by decide +kernel, rfl⟩
theorem eX8_split_210 : xAt mX8_split 210 (.iload 6) 2 212 := ⟨by decide +kernel, rfl⟩
theorem eX8_split_212 : xAt mX8_split 212 (.ireturn) 1 213 := ⟨by decide +kernel, rfl⟩
theorem eX8_join_0 : xAt mX8_join 0 (.aload_n 0) 1 1 := ⟨by decide +kernel, rfl⟩
theorem eX8_join_1 : xAt mX8_join 1 (.getfield 28) 3 4 := ⟨by decide +kernel, rfl⟩
theorem eX8_join_4 : xAt mX8_join 4 (.iload_n 1) 1 5 := ⟨by decide +kernel, rfl⟩
theorem eX8_join_5 : xAt mX8_join 5 (.invokevirtual 144) 3 8 := ⟨by decide +kernel, rfl⟩
theorem eX8_join_8 : xBr mX8_join 8 (.ifCond .eq) (14) 11 22 := ⟨by decide +kernel, rfl, by decide⟩
theorem eX8_join_11 : xAt mX8_join 11 (.aload_n 0) 1 12 := ⟨by decide +kernel, rfl⟩
theorem eX8_join_12 : xAt mX8_join 12 (.getfield 28) 3 15 := ⟨by decide +kernel, rfl⟩
theorem eX8_join_15 : xAt mX8_join 15 (.iload_n 2) 1 16 := ⟨by decide +kernel, rfl⟩
theorem eX8_join_16 : xAt mX8_join 16 (.invokevirtual 144) 3 19 := ⟨by decide +kernel, rfl⟩
theorem eX8_join_19 : xBr mX8_join 19 (.ifCond .ne) (6) 22 25 := ⟨by decide +kernel, rfl, by decide⟩
theorem eX8_join_22 : xAt mX8_join 22 (.bipush (-101)) 2 24 := ⟨by decide +kernel, rfl⟩
theorem eX8_join_24 : xAt mX8_join 24 (.ireturn) 1 25 := ⟨by decide +kernel, rfl⟩
theorem eX8_join_25 : xAt mX8_join 25 (.iload_n 1) 1 26 := ⟨by decide +kernel, rfl⟩
theorem eX8_join_26 : xAt mX8_join 26 (.iload_n 2) 1 27 := ⟨by decide +kernel, rfl⟩
theorem eX8_join_27 : xBr mX8_join 27 (.if_icmp .eq) (30) 30 57 := ⟨by decide +kernel, rfl, by decide⟩
theorem eX8_join_30 : xAt mX8_join 30 (.aload_n 0) 1 31 := ⟨by decide +kernel, rfl⟩
theorem eX8_join_31 : xAt mX8_join 31 (.getfield 28) 3 34 := ⟨by decide +kernel, rfl⟩
theorem eX8_join_34 : xAt mX8_join 34 (.getfield 145) 3 37 := ⟨by decide +kernel, rfl⟩
theorem eX8_join_37 : xAt mX8_join 37 (.iload_n 1) 1 38 := ⟨by decide +kernel, rfl⟩
theorem eX8_join_38 : xAt mX8_join 38 (.aaload) 1 39 := ⟨by decide +kernel, rfl⟩
theorem eX8_join_39 : xAt mX8_join 39 (.getfield 149) 3 42 := ⟨by decide +kernel, rfl⟩
theorem eX8_join_42 : xAt mX8_join 42 (.aload_n 0) 1 43 := ⟨by decide +kernel, rfl⟩
theorem eX8_join_43 : xAt mX8_join 43 (.getfield 28) 3 46 := ⟨by decide +kernel, rfl⟩
theorem eX8_join_46 : xAt mX8_join 46 (.getfield 145) 3 49 := ⟨by decide +kernel, rfl⟩
theorem eX8_join_49 : xAt mX8_join 49 (.iload_n 2) 1 50 := ⟨by decide +kernel, rfl⟩
theorem eX8_join_50 : xAt mX8_join 50 (.aaload) 1 51 := ⟨by decide +kernel, rfl⟩
theorem eX8_join_51 : xAt mX8_join 51 (.getfield 149) 3 54 := ⟨by decide +kernel, rfl⟩
theorem eX8_join_54 : xBr mX8_join 54 (.if_icmp .eq) (6) 57 60 := ⟨by decide +kernel, rfl, by decide⟩
theorem eX8_join_57 : xAt mX8_join 57 (.bipush (-102)) 2 59 := ⟨by decide +kernel, rfl⟩
theorem eX8_join_59 : xAt mX8_join 59 (.ireturn) 1 60 := ⟨by decide +kernel, rfl⟩
theorem eX8_join_60 : xAt mX8_join 60 (.aload_n 0) 1 61 := ⟨by decide +kernel, rfl⟩
theorem eX8_join_61 : xAt mX8_join 61 (.getfield 28) 3 64 := ⟨by decide +kernel, rfl⟩
theorem eX8_join_64 : xAt mX8_join 64 (.getfield 145) 3 67 := ⟨by decide +kernel, rfl⟩
theorem eX8_join_67 : xAt mX8_join 67 (.iload_n 1) 1 68 := ⟨by decide +kernel, rfl⟩
theorem eX8_join_68 : xAt mX8_join 68 (.aaload) 1 69 := ⟨by decide +kernel, rfl⟩
theorem eX8_join_69 : xAt mX8_join 69 (.getfield 157) 3 72 := ⟨by decide +kernel, rfl⟩
theorem eX8_join_72 : xAt mX8_join 72 (.astore_n 3) 1 73 := ⟨by decide +kernel, rfl⟩
theorem eX8_join_73 : xAt mX8_join 73 (.aload_n 0) 1 74 := ⟨by decide +kernel, rfl⟩
theorem eX8_join_74 : xAt mX8_join 74 (.getfield 28) 3 77 := ⟨by decide +kernel, rfl⟩
theorem eX8_join_77 : xAt mX8_join 77 (.getfield 145) 3 80 := ⟨by decide +kernel, rfl⟩
theorem eX8_join_80 : xAt mX8_join 80 (.iload_n 2) 1 81 := ⟨by decide +kernel, rfl⟩
theorem eX8_join_81 : xAt mX8_join 81 (.aaload) 1 82 := ⟨by decide +kernel, rfl⟩
theorem eX8_join_82 : xAt mX8_join 82 (.getfield 157) 3 85 := ⟨by decide +kernel, rfl⟩
theorem eX8_join_85 : xAt mX8_join 85 (.astore 4) 2 87 := ⟨by decide +kernel, rfl⟩
theorem eX8_join_87 : xAt mX8_join 87 (.aload_n 3) 1 88 := ⟨by decide +kernel, rfl⟩
theorem eX8_join_88 : xAt mX8_join 88 (.aload 4) 2 90 := ⟨by decide +kernel, rfl⟩
theorem eX8_join_90 : xAt mX8_join 90 (.invokevirtual 183) 3 93 := ⟨by decide +kernel, rfl⟩
theorem eX8_join_93 : xAt mX8_join 93 (.istore 5) 2 95 := ⟨by decide +kernel, rfl⟩
theorem eX8_join_95 : xAt mX8_join 95 (.aload 4) 2 97 := ⟨by decide +kernel, rfl⟩
theorem eX8_join_97 : xAt mX8_join 97 (.aload_n 3) 1 98 := ⟨by decide +kernel, rfl⟩
theorem eX8_join_98 : xAt mX8_join 98 (.invokevirtual 183) 3 101 := ⟨by decide +kernel, rfl⟩
theorem eX8_join_101 : xAt mX8_join 101 (.istore 6) 2 103 := ⟨by decide +kernel, rfl⟩
theorem eX8_join_103 : xAt mX8_join 103 (.iload 5) 2 105 := ⟨by decide +kernel, rfl⟩
theorem eX8_join_105 : xAt mX8_join 105 (.iconst (-1)) 1 106 := ⟨by decide +kernel, rfl⟩
theorem eX8_join_106 : xBr mX8_join 106 (.if_icmp .eq) (9) 109 115 := ⟨by decide +kernel, rfl, by decide⟩
theorem eX8_join_109 : xAt mX8_join 109 (.iload 6) 2 111 := ⟨by decide +kernel, rfl⟩
theorem eX8_join_111 : xAt mX8_join 111 (.iconst (-1)) 1 112 := ⟨by decide +kernel, rfl⟩
theorem eX8_join_112 : xBr mX8_join 112 (.if_icmp .ne) (7) 115 119 := ⟨by decide +kernel, rfl, by decide⟩
theorem eX8_join_115 : xAt mX8_join 115 (.sipush (-205)) 3 118 := ⟨by decide +kernel, rfl⟩
theorem eX8_join_118 : xAt mX8_join 118 (.ireturn) 1 119 := ⟨by decide +kernel, rfl⟩
theorem eX8_join_119 : xAt mX8_join 119 (.aload_n 3) 1 120 := ⟨by decide +kernel, rfl⟩
theorem eX8_join_120 : xAt mX8_join 120 (.aload 4) 2 122 := ⟨by decide +kernel, rfl⟩
theorem eX8_join_122 : xAt mX8_join 122 (.invokevirtual 187) 3 125 := ⟨by decide +kernel, rfl⟩
theorem eX8_join_125 : xAt mX8_join 125 (.istore 7) 2 127 := ⟨by decide +kernel, rfl⟩
theorem eX8_join_127 : xAt mX8_join 127 (.aload_n 0) 1 128 := ⟨by decide +kernel, rfl⟩
theorem eX8_join_128 : xAt mX8_join 128 (.getfield 53) 3 131 := ⟨by decide +kernel, rfl⟩
theorem eX8_join_131 : xAt mX8_join 131 (.invokevirtual 118) 3 134 := ⟨by decide +kernel, rfl⟩
theorem eX8_join_134 : xAt mX8_join 134 (.aload_n 0) 1 135 := ⟨by decide +kernel, rfl⟩
theorem eX8_join_135 : xAt mX8_join 135 (.getfield 53) 3 138 := ⟨by decide +kernel, rfl⟩
theorem eX8_join_138 : xAt mX8_join 138 (.aload_n 3) 1 139 := ⟨by decide +kernel, rfl⟩
theorem eX8_join_139 : xAt mX8_join 139 (.iload 5) 2 141 := ⟨by decide +kernel, rfl⟩
theorem eX8_join_141 : xAt mX8_join 141 (.iload 7) 2 143 := ⟨by decide +kernel, rfl⟩
theorem eX8_join_143 : xAt mX8_join 143 (.iadd) 1 144 := ⟨by decide +kernel, rfl⟩
theorem eX8_join_144 : xAt mX8_join 144 (.aload_n 3) 1 145 := ⟨by decide +kernel, rfl⟩
theorem eX8_join_145 : xAt mX8_join 145 (.getfield 115) 3 148 := ⟨by decide +kernel, rfl⟩
theorem eX8_join_148 : xAt mX8_join 148 (.iload 7) 2 150 := ⟨by decide +kernel, rfl⟩
theorem eX8_join_150 : xAt mX8_join 150 (.isub) 1 151 := ⟨by decide +kernel, rfl⟩
theorem eX8_join_151 : xAt mX8_join 151 (.iconst 1) 1 152 := ⟨by decide +kernel, rfl⟩
theorem eX8_join_152 : xAt mX8_join 152 (.iadd) 1 153 := ⟨by decide +kernel, rfl⟩
theorem eX8_join_153 : xAt mX8_join 153 (.invokevirtual 175) 3 156 := ⟨by decide +kernel, rfl⟩
theorem eX8_join_156 : xAt mX8_join 156 (.aload_n 0) 1 157 := ⟨by decide +kernel, rfl⟩
theorem eX8_join_157 : xAt mX8_join 157 (.getfield 53) 3 160 := ⟨by decide +kernel, rfl⟩
theorem eX8_join_160 : xAt mX8_join 160 (.aload 4) 2 162 := ⟨by decide +kernel, rfl⟩
theorem eX8_join_162 : xAt mX8_join 162 (.iload 6) 2 164 := ⟨by decide +kernel, rfl⟩
theorem eX8_join_164 : xAt mX8_join 164 (.iload 7) 2 166 := ⟨by decide +kernel, rfl⟩
theorem eX8_join_166 : xAt mX8_join 166 (.iadd) 1 167 := ⟨by decide +kernel, rfl⟩
theorem eX8_join_167 : xAt mX8_join 167 (.iconst 1) 1 168 := ⟨by decide +kernel, rfl⟩
theorem eX8_join_168 : xAt mX8_join 168 (.iadd) 1 169 := ⟨by decide +kernel, rfl⟩
theorem eX8_join_169 : xAt mX8_join 169 (.aload 4) 2 171 := ⟨by decide +kernel, rfl⟩
theorem eX8_join_171 : xAt mX8_join 171 (.getfield 115) 3 174 := ⟨by decide +kernel, rfl⟩
theorem eX8_join_174 : xAt mX8_join 174 (.iload 7) 2 176 := ⟨by decide +kernel, rfl⟩
theorem eX8_join_176 : xAt mX8_join 176 (.isub) 1 177 := ⟨by decide +kernel, rfl⟩
theorem eX8_join_177 : xAt mX8_join 177 (.iconst 1) 1 178 := ⟨by decide +kernel, rfl⟩
theorem eX8_join_178 : xAt mX8_join 178 (.isub) 1 179 := ⟨by decide +kernel, rfl⟩
theorem eX8_join_179 : xAt mX8_join 179 (.invokevirtual 175) 3 182 := ⟨by decide +kernel, rfl⟩
theorem eX8_join_182 : xAt mX8_join 182 (.aload_n 0) 1 183 := ⟨by decide +kernel, rfl⟩
theorem eX8_join_183 : xAt mX8_join 183 (.getfield 21) 3 186 := ⟨by decide +kernel, rfl⟩
theorem eX8_join_186 : xAt mX8_join 186 (.aload_n 0) 1 187 := ⟨by decide +kernel, rfl⟩
theorem eX8_join_187 : xAt mX8_join 187 (.getfield 53) 3 190 := ⟨by decide +kernel, rfl⟩
theorem eX8_join_190 : xAt mX8_join 190 (.invokevirtual 190) 3 193 := ⟨by decide +kernel, rfl⟩
theorem eX8_join_193 : xAt mX8_join 193 (.istore 8) 2 195 := ⟨by decide +kernel, rfl⟩
theorem eX8_join_195 : xAt mX8_join 195 (.iload 8) 2 197 := ⟨by decide +kernel, rfl⟩
theorem eX8_join_197 : xBr mX8_join 197 (.ifCond .eq) (17) 200 214 := ⟨by decide +kernel, rfl, by decide⟩
theorem eX8_join_200 : xAt mX8_join 200 (.aload_n 0) 1 201 := ⟨by decide +kernel, rfl⟩
theorem eX8_join_201 : xAt mX8_join 201 (.aload_n 0) 1 202 := ⟨by decide +kernel, rfl⟩
theorem eX8_join_202 : xAt mX8_join 202 (.getfield 21) 3 205 := ⟨by decide +kernel, rfl⟩
theorem eX8_join_205 : xAt mX8_join 205 (.getfield 193) 3 208 := ⟨by decide +kernel, rfl⟩
theorem eX8_join_208 : xAt mX8_join 208 (.putfield 59) 3 211 := ⟨by decide +kernel, rfl⟩
theorem eX8_join_211 : xAt mX8_join 211 (.iload 8) 2 213 := ⟨by decide +kernel, rfl⟩
theorem eX8_join_213 : xAt mX8_join 213 (.ireturn) 1 214 := ⟨by decide +kernel, rfl⟩
theorem eX8_join_214 : xAt mX8_join 214 (.aload_n 0) 1 215 := ⟨by decide +kernel, rfl⟩
theorem eX8_join_215 : xAt mX8_join 215 (.getfield 28) 3 218 := ⟨by decide +kernel, rfl⟩
theorem eX8_join_218 : xAt mX8_join 218 (.iload_n 1) 1 219 := ⟨by decide +kernel, rfl⟩
theorem eX8_join_219 : xAt mX8_join 219 (.iload_n 2) 1 220 := ⟨by decide +kernel, rfl⟩
theorem eX8_join_220 : xAt mX8_join 220 (.invokevirtual 137) 3 223 := ⟨by decide +kernel, rfl⟩
theorem eX8_join_223 : xAt mX8_join 223 (.aload_n 0) 1 224 := ⟨by decide +kernel, rfl⟩
theorem eX8_join_224 : xAt mX8_join 224 (.getfield 21) 3 227 := ⟨by decide +kernel, rfl⟩
theorem eX8_join_227 : xAt mX8_join 227 (.aload_n 0) 1 228 := ⟨by decide +kernel, rfl⟩
theorem eX8_join_228 : xAt mX8_join 228 (.getfield 53) 3 231 := ⟨by decide +kernel, rfl⟩
theorem eX8_join_231 : xAt mX8_join 231 (.aload_n 3) 1 232 := ⟨by decide +kernel, rfl⟩
theorem eX8_join_232 : xAt mX8_join 232 (.invokevirtual 179) 3 235 := ⟨by decide +kernel, rfl⟩
theorem eX8_join_235 : xAt mX8_join 235 (.aload_n 0) 1 236 := ⟨by decide +kernel, rfl⟩
theorem eX8_join_236 : xAt mX8_join 236 (.getfield 28) 3 239 := ⟨by decide +kernel, rfl⟩
theorem eX8_join_239 : xAt mX8_join 239 (.getfield 145) 3 242 := ⟨by decide +kernel, rfl⟩
theorem eX8_join_242 : xAt mX8_join 242 (.iload_n 2) 1 243 := ⟨by decide +kernel, rfl⟩
theorem eX8_join_243 : xAt mX8_join 243 (.aaload) 1 244 := ⟨by decide +kernel, rfl⟩
theorem eX8_join_244 : xAt mX8_join 244 (.iconst 0) 1 245 := ⟨by decide +kernel, rfl⟩
theorem eX8_join_245 : xAt mX8_join 245 (.putfield 164) 3 248 := ⟨by decide +kernel, rfl⟩
theorem eX8_join_248 : xAt mX8_join 248 (.aload_n 3) 1 249 := ⟨by decide +kernel, rfl⟩
theorem eX8_join_249 : xAt mX8_join 249 (.getfield 115) 3 252 := ⟨by decide +kernel, rfl⟩
theorem eX8_join_252 : xAt mX8_join 252 (.ireturn) 1 253 := ⟨by decide +kernel, rfl⟩
theorem eX8_move_0 : xAt mX8_move 0 (.aload_n 0) 1 1 := ⟨by decide +kernel, rfl⟩
theorem eX8_move_1 : xAt mX8_move 1 (.getfield 28) 3 4 := ⟨by decide +kernel, rfl⟩
theorem eX8_move_4 : xAt mX8_move 4 (.iload_n 1) 1 5 := ⟨by decide +kernel, rfl⟩
theorem eX8_move_5 : xAt mX8_move 5 (.invokevirtual 144) 3 8 := ⟨by decide +kernel, rfl⟩
theorem eX8_move_8 : xBr mX8_move 8 (.ifCond .eq) (14) 11 22 := ⟨by decide +kernel, rfl, by decide⟩
theorem eX8_move_11 : xAt mX8_move 11 (.aload_n 0) 1 12 := ⟨by decide +kernel, rfl⟩
theorem eX8_move_12 : xAt mX8_move 12 (.getfield 12) 3 15 := ⟨by decide +kernel, rfl⟩
theorem eX8_move_15 : xAt mX8_move 15 (.iload_n 3) 1 16 := ⟨by decide +kernel, rfl⟩
theorem eX8_move_16 : xAt mX8_move 16 (.invokevirtual 88) 3 19 := ⟨by decide +kernel, rfl⟩
theorem eX8_move_19 : xBr mX8_move 19 (.ifCond .ne) (6) 22 25 := ⟨by decide +kernel, rfl, by decide⟩
theorem eX8_move_22 : xAt mX8_move 22 (.bipush (-101)) 2 24 := ⟨by decide +kernel, rfl⟩
theorem eX8_move_24 : xAt mX8_move 24 (.ireturn) 1 25 := ⟨by decide +kernel, rfl⟩
theorem eX8_move_25 : xAt mX8_move 25 (.aload_n 0) 1 26 := ⟨by decide +kernel, rfl⟩
theorem eX8_move_26 : xAt mX8_move 26 (.getfield 28) 3 29 := ⟨by decide +kernel, rfl⟩
theorem eX8_move_29 : xAt mX8_move 29 (.getfield 145) 3 32 := ⟨by decide +kernel, rfl⟩
theorem eX8_move_32 : xAt mX8_move 32 (.iload_n 1) 1 33 := ⟨by decide +kernel, rfl⟩
theorem eX8_move_33 : xAt mX8_move 33 (.aaload) 1 34 := ⟨by decide +kernel, rfl⟩
theorem eX8_move_34 : xAt mX8_move 34 (.astore 4) 2 36 := ⟨by decide +kernel, rfl⟩
theorem eX8_move_36 : xAt mX8_move 36 (.iload_n 2) 1 37 := ⟨by decide +kernel, rfl⟩
theorem eX8_move_37 : xBr mX8_move 37 (.ifCond .lt) (15) 40 52 := ⟨by decide +kernel, rfl, by decide⟩
theorem eX8_move_40 : xAt mX8_move 40 (.iload_n 2) 1 41 := ⟨by decide +kernel, rfl⟩
theorem eX8_move_41 : xAt mX8_move 41 (.aload 4) 2 43 := ⟨by decide +kernel, rfl⟩
theorem eX8_move_43 : xAt mX8_move 43 (.getfield 157) 3 46 := ⟨by decide +kernel, rfl⟩
theorem eX8_move_46 : xAt mX8_move 46 (.getfield 115) 3 49 := ⟨by decide +kernel, rfl⟩
theorem eX8_move_49 : xBr mX8_move 49 (.if_icmp .lt) (6) 52 55 := ⟨by decide +kernel, rfl, by decide⟩
theorem eX8_move_52 : xAt mX8_move 52 (.bipush (-102)) 2 54 := ⟨by decide +kernel, rfl⟩
theorem eX8_move_54 : xAt mX8_move 54 (.ireturn) 1 55 := ⟨by decide +kernel, rfl⟩
theorem eX8_move_55 : xAt mX8_move 55 (.aload 4) 2 57 := ⟨by decide +kernel, rfl⟩
theorem eX8_move_57 : xAt mX8_move 57 (.getfield 157) 3 60 := ⟨by decide +kernel, rfl⟩
theorem eX8_move_60 : xAt mX8_move 60 (.iload_n 2) 1 61 := ⟨by decide +kernel, rfl⟩
theorem eX8_move_61 : xAt mX8_move 61 (.invokevirtual 160) 3 64 := ⟨by decide +kernel, rfl⟩
theorem eX8_move_64 : xAt mX8_move 64 (.istore 5) 2 66 := ⟨by decide +kernel, rfl⟩
theorem eX8_move_66 : xAt mX8_move 66 (.aload_n 0) 1 67 := ⟨by decide +kernel, rfl⟩
theorem eX8_move_67 : xAt mX8_move 67 (.getfield 53) 3 70 := ⟨by decide +kernel, rfl⟩
theorem eX8_move_70 : xAt mX8_move 70 (.aload 4) 2 72 := ⟨by decide +kernel, rfl⟩
theorem eX8_move_72 : xAt mX8_move 72 (.getfield 157) 3 75 := ⟨by decide +kernel, rfl⟩
theorem eX8_move_75 : xAt mX8_move 75 (.invokevirtual 196) 3 78 := ⟨by decide +kernel, rfl⟩
theorem eX8_move_78 : xAt mX8_move 78 (.aload_n 0) 1 79 := ⟨by decide +kernel, rfl⟩
theorem eX8_move_79 : xAt mX8_move 79 (.getfield 53) 3 82 := ⟨by decide +kernel, rfl⟩
theorem eX8_move_82 : xAt mX8_move 82 (.getfield 200) 3 85 := ⟨by decide +kernel, rfl⟩
theorem eX8_move_85 : xAt mX8_move 85 (.iload_n 2) 1 86 := ⟨by decide +kernel, rfl⟩
theorem eX8_move_86 : xAt mX8_move 86 (.iload_n 3) 1 87 := ⟨by decide +kernel, rfl⟩
theorem eX8_move_87 : xAt mX8_move 87 (.iastore) 1 88 := ⟨by decide +kernel, rfl⟩
theorem eX8_move_88 : xAt mX8_move 88 (.aload_n 0) 1 89 := ⟨by decide +kernel, rfl⟩
theorem eX8_move_89 : xAt mX8_move 89 (.aload_n 0) 1 90 := ⟨by decide +kernel, rfl⟩
theorem eX8_move_90 : xAt mX8_move 90 (.getfield 53) 3 93 := ⟨by decide +kernel, rfl⟩
theorem eX8_move_93 : xAt mX8_move 93 (.aload 4) 2 95 := ⟨by decide +kernel, rfl⟩
theorem eX8_move_95 : xAt mX8_move 95 (.getfield 149) 3 98 := ⟨by decide +kernel, rfl⟩
theorem eX8_move_98 : xAt mX8_move 98 (.iload_n 1) 1 99 := ⟨by decide +kernel, rfl⟩
theorem eX8_move_99 : xAt mX8_move 99 (.invokevirtual 132) 3 102 := ⟨by decide +kernel, rfl⟩
theorem eX8_move_102 : xAt mX8_move 102 (.istore 6) 2 104 := ⟨by decide +kernel, rfl⟩
theorem eX8_move_104 : xAt mX8_move 104 (.iload 6) 2 106 := ⟨by decide +kernel, rfl⟩
theorem eX8_move_106 : xBr mX8_move 106 (.ifCond .eq) (6) 109 112 := ⟨by decide +kernel, rfl, by decide⟩
theorem eX8_move_109 : xAt mX8_move 109 (.iload 6) 2 111 := ⟨by decide +kernel, rfl⟩
theorem eX8_move_111 : xAt mX8_move 111 (.ireturn) 1 112 := ⟨by decide +kernel, rfl⟩
theorem eX8_move_112 : xAt mX8_move 112 (.aload_n 0) 1 113 := ⟨by decide +kernel, rfl⟩
theorem eX8_move_113 : xAt mX8_move 113 (.getfield 28) 3 116 := ⟨by decide +kernel, rfl⟩
theorem eX8_move_116 : xAt mX8_move 116 (.iload_n 1) 1 117 := ⟨by decide +kernel, rfl⟩
theorem eX8_move_117 : xAt mX8_move 117 (.iconst (-1)) 1 118 := ⟨by decide +kernel, rfl⟩
theorem eX8_move_118 : xAt mX8_move 118 (.invokevirtual 137) 3 121 := ⟨by decide +kernel, rfl⟩
theorem eX8_move_121 : xAt mX8_move 121 (.aload 4) 2 123 := ⟨by decide +kernel, rfl⟩
theorem eX8_move_123 : xAt mX8_move 123 (.getfield 157) 3 126 := ⟨by decide +kernel, rfl⟩
theorem eX8_move_126 : xAt mX8_move 126 (.aload_n 0) 1 127 := ⟨by decide +kernel, rfl⟩
theorem eX8_move_127 : xAt mX8_move 127 (.getfield 56) 3 130 := ⟨by decide +kernel, rfl⟩
theorem eX8_move_130 : xAt mX8_move 130 (.invokevirtual 196) 3 133 := ⟨by decide +kernel, rfl⟩
theorem eX8_move_133 : xAt mX8_move 133 (.iload 5) 2 135 := ⟨by decide +kernel, rfl⟩
theorem eX8_move_135 : xAt mX8_move 135 (.ireturn) 1 136 := ⟨by decide +kernel, rfl⟩
theorem eX8_border_0 : xAt mX8_border 0 (.aload_n 0) 1 1 := ⟨by decide +kernel, rfl⟩
theorem eX8_border_1 : xAt mX8_border 1 (.getfield 28) 3 4 := ⟨by decide +kernel, rfl⟩
theorem eX8_border_4 : xAt mX8_border 4 (.iload_n 1) 1 5 := ⟨by decide +kernel, rfl⟩
theorem eX8_border_5 : xAt mX8_border 5 (.invokevirtual 144) 3 8 := ⟨by decide +kernel, rfl⟩
theorem eX8_border_8 : xBr mX8_border 8 (.ifCond .eq) (14) 11 22 := ⟨by decide +kernel, rfl, by decide⟩
theorem eX8_border_11 : xAt mX8_border 11 (.aload_n 0) 1 12 := ⟨by decide +kernel, rfl⟩
theorem eX8_border_12 : xAt mX8_border 12 (.getfield 28) 3 15 := ⟨by decide +kernel, rfl⟩
theorem eX8_border_15 : xAt mX8_border 15 (.iload_n 2) 1 16 := ⟨by decide +kernel, rfl⟩
theorem eX8_border_16 : xAt mX8_border 16 (.invokevirtual 144) 3 19 := ⟨by decide +kernel, rfl⟩
theorem eX8_border_19 : xBr mX8_border 19 (.ifCond .ne) (6) 22 25 := ⟨by decide +kernel, rfl, by decide⟩
theorem eX8_border_22 : xAt mX8_border 22 (.bipush (-101)) 2 24 := ⟨by decide +kernel, rfl⟩
theorem eX8_border_24 : xAt mX8_border 24 (.ireturn) 1 25 := ⟨by decide +kernel, rfl⟩
theorem eX8_border_25 : xAt mX8_border 25 (.iload_n 1) 1 26 := ⟨by decide +kernel, rfl⟩
theorem eX8_border_26 : xAt mX8_border 26 (.iload_n 2) 1 27 := ⟨by decide +kernel, rfl⟩
theorem eX8_border_27 : xBr mX8_border 27 (.if_icmp .ne) (6) 30 33 := ⟨by decide +kernel, rfl, by decide⟩
theorem eX8_border_30 : xAt mX8_border 30 (.bipush (-102)) 2 32 := ⟨by decide +kernel, rfl⟩
theorem eX8_border_32 : xAt mX8_border 32 (.ireturn) 1 33 := ⟨by decide +kernel, rfl⟩
theorem eX8_border_33 : xAt mX8_border 33 (.aload_n 0) 1 34 := ⟨by decide +kernel, rfl⟩
theorem eX8_border_34 : xAt mX8_border 34 (.getfield 21) 3 37 := ⟨by decide +kernel, rfl⟩
theorem eX8_border_37 : xAt mX8_border 37 (.aload_n 0) 1 38 := ⟨by decide +kernel, rfl⟩
theorem eX8_border_38 : xAt mX8_border 38 (.getfield 28) 3 41 := ⟨by decide +kernel, rfl⟩
theorem eX8_border_41 : xAt mX8_border 41 (.getfield 145) 3 44 := ⟨by decide +kernel, rfl⟩
theorem eX8_border_44 : xAt mX8_border 44 (.iload_n 1) 1 45 := ⟨by decide +kernel, rfl⟩
theorem eX8_border_45 : xAt mX8_border 45 (.aaload) 1 46 := ⟨by decide +kernel, rfl⟩
theorem eX8_border_46 : xAt mX8_border 46 (.getfield 157) 3 49 := ⟨by decide +kernel, rfl⟩
theorem eX8_border_49 : xAt mX8_border 49 (.aload_n 0) 1 50 := ⟨by decide +kernel, rfl⟩
theorem eX8_border_50 : xAt mX8_border 50 (.getfield 28) 3 53 := ⟨by decide +kernel, rfl⟩
theorem eX8_border_53 : xAt mX8_border 53 (.getfield 145) 3 56 := ⟨by decide +kernel, rfl⟩
theorem eX8_border_56 : xAt mX8_border 56 (.iload_n 2) 1 57 := ⟨by decide +kernel, rfl⟩
theorem eX8_border_57 : xAt mX8_border 57 (.aaload) 1 58 := ⟨by decide +kernel, rfl⟩
theorem eX8_border_58 : xAt mX8_border 58 (.getfield 157) 3 61 := ⟨by decide +kernel, rfl⟩
theorem eX8_border_61 : xAt mX8_border 61 (.invokevirtual 204) 3 64 := ⟨by decide +kernel, rfl⟩
theorem eX8_border_64 : xAt mX8_border 64 (.ireturn) 1 65 := ⟨by decide +kernel, rfl⟩
theorem eX8_neighbour_0 : xAt mX8_neighbour 0 (.aload_n 0) 1 1 := ⟨by decide +kernel, rfl⟩
theorem eX8_neighbour_1 : xAt mX8_neighbour 1 (.getfield 28) 3 4 := ⟨by decide +kernel, rfl⟩
theorem eX8_neighbour_4 : xAt mX8_neighbour 4 (.iload_n 1) 1 5 := ⟨by decide +kernel, rfl⟩
theorem eX8_neighbour_5 : xAt mX8_neighbour 5 (.invokevirtual 144) 3 8 := ⟨by decide +kernel, rfl⟩
theorem eX8_neighbour_8 : xBr mX8_neighbour 8 (.ifCond .ne) (6) 11 14 := ⟨by decide +kernel, rfl, by decide⟩
theorem eX8_neighbour_11 : xAt mX8_neighbour 11 (.bipush (-101)) 2 13 := ⟨by decide +kernel, rfl⟩
theorem eX8_neighbour_13 : xAt mX8_neighbour 13 (.ireturn) 1 14 := ⟨by decide +kernel, rfl⟩
theorem eX8_neighbour_14 : xAt mX8_neighbour 14 (.aload_n 0) 1 15 := ⟨by decide +kernel, rfl⟩
theorem eX8_neighbour_15 : xAt mX8_neighbour 15 (.getfield 28) 3 18 := ⟨by decide +kernel, rfl⟩
theorem eX8_neighbour_18 : xAt mX8_neighbour 18 (.getfield 145) 3 21 := ⟨by decide +kernel, rfl⟩
theorem eX8_neighbour_21 : xAt mX8_neighbour 21 (.iload_n 1) 1 22 := ⟨by decide +kernel, rfl⟩
theorem eX8_neighbour_22 : xAt mX8_neighbour 22 (.aaload) 1 23 := ⟨by decide +kernel, rfl⟩
theorem eX8_neighbour_23 : xAt mX8_neighbour 23 (.astore_n 3) 1 24 := ⟨by decide +kernel, rfl⟩
theorem eX8_neighbour_24 : xAt mX8_neighbour 24 (.iconst 0) 1 25 := ⟨by decide +kernel, rfl⟩
theorem eX8_neighbour_25 : xAt mX8_neighbour 25 (.istore 4) 2 27 := ⟨by decide +kernel, rfl⟩
theorem eX8_neighbour_27 : xAt mX8_neighbour 27 (.iconst 0) 1 28 := ⟨by decide +kernel, rfl⟩
theorem eX8_neighbour_28 : xAt mX8_neighbour 28 (.istore 5) 2 30 := ⟨by decide +kernel, rfl⟩
theorem eX8_neighbour_30 : xAt mX8_neighbour 30 (.iload 5) 2 32 := ⟨by decide +kernel, rfl⟩
theorem eX8_neighbour_32 : xAt mX8_neighbour 32 (.aload_n 0) 1 33 := ⟨by decide +kernel, rfl⟩
theorem eX8_neighbour_33 : xAt mX8_neighbour 33 (.getfield 28) 3 36 := ⟨by decide +kernel, rfl⟩
theorem eX8_neighbour_36 : xAt mX8_neighbour 36 (.getfield 136) 3 39 := ⟨by decide +kernel, rfl⟩
theorem eX8_neighbour_39 : xBr mX8_neighbour 39 (.if_icmp .ge) (70) 42 109 := ⟨by decide +kernel, rfl, by decide⟩
theorem eX8_neighbour_42 : xAt mX8_neighbour 42 (.iload 5) 2 44 := ⟨by decide +kernel, rfl⟩
theorem eX8_neighbour_44 : xAt mX8_neighbour 44 (.iload_n 1) 1 45 := ⟨by decide +kernel, rfl⟩
theorem eX8_neighbour_45 : xBr mX8_neighbour 45 (.if_icmp .eq) (58) 48 103 := ⟨by decide +kernel, rfl, by decide⟩
theorem eX8_neighbour_48 : xAt mX8_neighbour 48 (.aload_n 0) 1 49 := ⟨by decide +kernel, rfl⟩
theorem eX8_neighbour_49 : xAt mX8_neighbour 49 (.getfield 28) 3 52 := ⟨by decide +kernel, rfl⟩
theorem eX8_neighbour_52 : xAt mX8_neighbour 52 (.iload 5) 2 54 := ⟨by decide +kernel, rfl⟩
theorem eX8_neighbour_54 : xAt mX8_neighbour 54 (.aload_n 3) 1 55 := ⟨by decide +kernel, rfl⟩
theorem eX8_neighbour_55 : xAt mX8_neighbour 55 (.getfield 149) 3 58 := ⟨by decide +kernel, rfl⟩
theorem eX8_neighbour_58 : xAt mX8_neighbour 58 (.invokevirtual 208) 3 61 := ⟨by decide +kernel, rfl⟩
theorem eX8_neighbour_61 : xBr mX8_neighbour 61 (.ifCond .eq) (42) 64 103 := ⟨by decide +kernel, rfl, by decide⟩
theorem eX8_neighbour_64 : xAt mX8_neighbour 64 (.aload_n 0) 1 65 := ⟨by decide +kernel, rfl⟩
theorem eX8_neighbour_65 : xAt mX8_neighbour 65 (.getfield 21) 3 68 := ⟨by decide +kernel, rfl⟩
theorem eX8_neighbour_68 : xAt mX8_neighbour 68 (.aload_n 3) 1 69 := ⟨by decide +kernel, rfl⟩
theorem eX8_neighbour_69 : xAt mX8_neighbour 69 (.getfield 157) 3 72 := ⟨by decide +kernel, rfl⟩
theorem eX8_neighbour_72 : xAt mX8_neighbour 72 (.aload_n 0) 1 73 := ⟨by decide +kernel, rfl⟩
theorem eX8_neighbour_73 : xAt mX8_neighbour 73 (.getfield 28) 3 76 := ⟨by decide +kernel, rfl⟩
theorem eX8_neighbour_76 : xAt mX8_neighbour 76 (.getfield 145) 3 79 := ⟨by decide +kernel, rfl⟩
theorem eX8_neighbour_79 : xAt mX8_neighbour 79 (.iload 5) 2 81 := ⟨by decide +kernel, rfl⟩
theorem eX8_neighbour_81 : xAt mX8_neighbour 81 (.aaload) 1 82 := ⟨by decide +kernel, rfl⟩
theorem eX8_neighbour_82 : xAt mX8_neighbour 82 (.getfield 157) 3 85 := ⟨by decide +kernel, rfl⟩
theorem eX8_neighbour_85 : xAt mX8_neighbour 85 (.invokevirtual 204) 3 88 := ⟨by decide +kernel, rfl⟩
theorem eX8_neighbour_88 : xBr mX8_neighbour 88 (.ifCond .le) (15) 91 103 := ⟨by decide +kernel, rfl, by decide⟩
theorem eX8_neighbour_91 : xAt mX8_neighbour 91 (.iload 4) 2 93 := ⟨by decide +kernel, rfl⟩
theorem eX8_neighbour_93 : xAt mX8_neighbour 93 (.iload_n 2) 1 94 := ⟨by decide +kernel, rfl⟩
theorem eX8_neighbour_94 : xBr mX8_neighbour 94 (.if_icmp .ne) (6) 97 100 := ⟨by decide +kernel, rfl, by decide⟩
theorem eX8_neighbour_97 : xAt mX8_neighbour 97 (.iload 5) 2 99 := ⟨by decide +kernel, rfl⟩
theorem eX8_neighbour_99 : xAt mX8_neighbour 99 (.ireturn) 1 100 := ⟨by decide +kernel, rfl⟩
theorem eX8_neighbour_100 : xAt mX8_neighbour 100 (.iinc 4 1) 3 103 := ⟨by decide +kernel, rfl⟩
theorem eX8_neighbour_103 : xAt mX8_neighbour 103 (.iinc 5 1) 3 106 := ⟨by decide +kernel, rfl⟩
theorem eX8_neighbour_106 : xBr mX8_neighbour 106 .goto (-76) 109 30 := ⟨by decide +kernel, rfl, by decide⟩
theorem eX8_neighbour_109 : xAt mX8_neighbour 109 (.iconst (-1)) 1 110 := ⟨by decide +kernel, rfl⟩
theorem eX8_neighbour_110 : xAt mX8_neighbour 110 (.ireturn) 1 111 := ⟨by decide +kernel, rfl⟩
theorem eX8_locate_0 : xAt mX8_locate 0 (.iload_n 1) 1 1 := ⟨by decide +kernel, rfl⟩
theorem eX8_locate_1 : xAt mX8_locate 1 (.invokestatic 125) 3 4 := ⟨by decide +kernel, rfl⟩
theorem eX8_locate_4 : xBr mX8_locate 4 (.ifCond .eq) (18) 7 22 := ⟨by decide +kernel, rfl, by decide⟩
theorem eX8_locate_7 : xAt mX8_locate 7 (.lload_n 2) 1 8 := ⟨by decide +kernel, rfl⟩
theorem eX8_locate_8 : xAt mX8_locate 8 (.invokestatic 69) 3 11 := ⟨by decide +kernel, rfl⟩
theorem eX8_locate_11 : xBr mX8_locate 11 (.ifCond .eq) (11) 14 22 := ⟨by decide +kernel, rfl, by decide⟩
theorem eX8_locate_14 : xAt mX8_locate 14 (.lload 4) 2 16 := ⟨by decide +kernel, rfl⟩
theorem eX8_locate_16 : xAt mX8_locate 16 (.invokestatic 69) 3 19 := ⟨by decide +kernel, rfl⟩
theorem eX8_locate_19 : xBr mX8_locate 19 (.ifCond .ne) (6) 22 25 := ⟨by decide +kernel, rfl, by decide⟩
theorem eX8_locate_22 : xAt mX8_locate 22 (.bipush (-102)) 2 24 := ⟨by decide +kernel, rfl⟩
theorem eX8_locate_24 : xAt mX8_locate 24 (.ireturn) 1 25 := ⟨by decide +kernel, rfl⟩
theorem eX8_locate_25 : xAt mX8_locate 25 (.aload_n 0) 1 26 := ⟨by decide +kernel, rfl⟩
theorem eX8_locate_26 : xAt mX8_locate 26 (.getfield 12) 3 29 := ⟨by decide +kernel, rfl⟩
theorem eX8_locate_29 : xAt mX8_locate 29 (.sipush 200) 3 32 := ⟨by decide +kernel, rfl⟩
theorem eX8_locate_32 : xAt mX8_locate 32 (.lload_n 2) 1 33 := ⟨by decide +kernel, rfl⟩
theorem eX8_locate_33 : xAt mX8_locate 33 (.lload 4) 2 35 := ⟨by decide +kernel, rfl⟩
theorem eX8_locate_35 : xAt mX8_locate 35 (.invokevirtual 73) 3 38 := ⟨by decide +kernel, rfl⟩
theorem eX8_locate_38 : xAt mX8_locate 38 (.aload_n 0) 1 39 := ⟨by decide +kernel, rfl⟩
theorem eX8_locate_39 : xAt mX8_locate 39 (.iconst (-1)) 1 40 := ⟨by decide +kernel, rfl⟩
theorem eX8_locate_40 : xAt mX8_locate 40 (.putfield 66) 3 43 := ⟨by decide +kernel, rfl⟩
theorem eX8_locate_43 : xAt mX8_locate 43 (.iconst 0) 1 44 := ⟨by decide +kernel, rfl⟩
theorem eX8_locate_44 : xAt mX8_locate 44 (.istore 6) 2 46 := ⟨by decide +kernel, rfl⟩
theorem eX8_locate_46 : xAt mX8_locate 46 (.iload 6) 2 48 := ⟨by decide +kernel, rfl⟩
theorem eX8_locate_48 : xAt mX8_locate 48 (.aload_n 0) 1 49 := ⟨by decide +kernel, rfl⟩
theorem eX8_locate_49 : xAt mX8_locate 49 (.getfield 28) 3 52 := ⟨by decide +kernel, rfl⟩
theorem eX8_locate_52 : xAt mX8_locate 52 (.getfield 136) 3 55 := ⟨by decide +kernel, rfl⟩
theorem eX8_locate_55 : xBr mX8_locate 55 (.if_icmp .ge) (74) 58 129 := ⟨by decide +kernel, rfl, by decide⟩
theorem eX8_locate_58 : xAt mX8_locate 58 (.aload_n 0) 1 59 := ⟨by decide +kernel, rfl⟩
theorem eX8_locate_59 : xAt mX8_locate 59 (.getfield 28) 3 62 := ⟨by decide +kernel, rfl⟩
theorem eX8_locate_62 : xAt mX8_locate 62 (.iload 6) 2 64 := ⟨by decide +kernel, rfl⟩
theorem eX8_locate_64 : xAt mX8_locate 64 (.iload_n 1) 1 65 := ⟨by decide +kernel, rfl⟩
theorem eX8_locate_65 : xAt mX8_locate 65 (.invokevirtual 208) 3 68 := ⟨by decide +kernel, rfl⟩
theorem eX8_locate_68 : xBr mX8_locate 68 (.ifCond .eq) (55) 71 123 := ⟨by decide +kernel, rfl, by decide⟩
theorem eX8_locate_71 : xAt mX8_locate 71 (.aload_n 0) 1 72 := ⟨by decide +kernel, rfl⟩
theorem eX8_locate_72 : xAt mX8_locate 72 (.getfield 21) 3 75 := ⟨by decide +kernel, rfl⟩
theorem eX8_locate_75 : xAt mX8_locate 75 (.sipush 200) 3 78 := ⟨by decide +kernel, rfl⟩
theorem eX8_locate_78 : xAt mX8_locate 78 (.aload_n 0) 1 79 := ⟨by decide +kernel, rfl⟩
theorem eX8_locate_79 : xAt mX8_locate 79 (.getfield 28) 3 82 := ⟨by decide +kernel, rfl⟩
theorem eX8_locate_82 : xAt mX8_locate 82 (.getfield 145) 3 85 := ⟨by decide +kernel, rfl⟩
theorem eX8_locate_85 : xAt mX8_locate 85 (.iload 6) 2 87 := ⟨by decide +kernel, rfl⟩
theorem eX8_locate_87 : xAt mX8_locate 87 (.aaload) 1 88 := ⟨by decide +kernel, rfl⟩
theorem eX8_locate_88 : xAt mX8_locate 88 (.getfield 157) 3 91 := ⟨by decide +kernel, rfl⟩
theorem eX8_locate_91 : xAt mX8_locate 91 (.invokevirtual 212) 3 94 := ⟨by decide +kernel, rfl⟩
theorem eX8_locate_94 : xAt mX8_locate 94 (.istore 7) 2 96 := ⟨by decide +kernel, rfl⟩
theorem eX8_locate_96 : xAt mX8_locate 96 (.iload 7) 2 98 := ⟨by decide +kernel, rfl⟩
theorem eX8_locate_98 : xAt mX8_locate 98 (.bipush (-3)) 2 100 := ⟨by decide +kernel, rfl⟩
theorem eX8_locate_100 : xBr mX8_locate 100 (.if_icmp .eq) (23) 103 123 := ⟨by decide +kernel, rfl, by decide⟩
theorem eX8_locate_103 : xAt mX8_locate 103 (.aload_n 0) 1 104 := ⟨by decide +kernel, rfl⟩
theorem eX8_locate_104 : xAt mX8_locate 104 (.iload 7) 2 106 := ⟨by decide +kernel, rfl⟩
theorem eX8_locate_106 : xAt mX8_locate 106 (.bipush (-2)) 2 108 := ⟨by decide +kernel, rfl⟩
theorem eX8_locate_108 : xBr mX8_locate 108 (.if_icmp .ne) (7) 111 115 := ⟨by decide +kernel, rfl, by decide⟩
theorem eX8_locate_111 : xAt mX8_locate 111 (.iconst (-1)) 1 112 := ⟨by decide +kernel, rfl⟩
theorem eX8_locate_112 : xBr mX8_locate 112 .goto (5) 115 117 := ⟨by decide +kernel, rfl, by decide⟩
theorem eX8_locate_115 : xAt mX8_locate 115 (.iload 7) 2 117 := ⟨by decide +kernel, rfl⟩
theorem eX8_locate_117 : xAt mX8_locate 117 (.putfield 66) 3 120 := ⟨by decide +kernel, rfl⟩
theorem eX8_locate_120 : xAt mX8_locate 120 (.iload 6) 2 122 := ⟨by decide +kernel, rfl⟩
theorem eX8_locate_122 : xAt mX8_locate 122 (.ireturn) 1 123 := ⟨by decide +kernel, rfl⟩
theorem eX8_locate_123 : xAt mX8_locate 123 (.iinc 6 1) 3 126 := ⟨by decide +kernel, rfl⟩
theorem eX8_locate_126 : xBr mX8_locate 126 .goto (-80) 129 46 := ⟨by decide +kernel, rfl, by decide⟩
theorem eX8_locate_129 : xAt mX8_locate 129 (.iconst (-1)) 1 130 := ⟨by decide +kernel, rfl⟩
theorem eX8_locate_130 : xAt mX8_locate 130 (.ireturn) 1 131 := ⟨by decide +kernel, rfl⟩
theorem eX8_edge_0 : xAt mX8_edge 0 (.aload_n 0) 1 1 := ⟨by decide +kernel, rfl⟩
theorem eX8_edge_1 : xAt mX8_edge 1 (.getfield 66) 3 4 := ⟨by decide +kernel, rfl⟩
theorem eX8_edge_4 : xAt mX8_edge 4 (.ireturn) 1 5 := ⟨by decide +kernel, rfl⟩
theorem eX8_walk_0 : xAt mX8_walk 0 (.aload_n 0) 1 1 := ⟨by decide +kernel, rfl⟩
theorem eX8_walk_1 : xAt mX8_walk 1 (.getfield 12) 3 4 := ⟨by decide +kernel, rfl⟩
theorem eX8_walk_4 : xAt mX8_walk 4 (.iload_n 2) 1 5 := ⟨by decide +kernel, rfl⟩
theorem eX8_walk_5 : xAt mX8_walk 5 (.invokevirtual 88) 3 8 := ⟨by decide +kernel, rfl⟩
theorem eX8_walk_8 : xBr mX8_walk 8 (.ifCond .eq) (14) 11 22 := ⟨by decide +kernel, rfl, by decide⟩
theorem eX8_walk_11 : xAt mX8_walk 11 (.aload_n 0) 1 12 := ⟨by decide +kernel, rfl⟩
theorem eX8_walk_12 : xAt mX8_walk 12 (.getfield 12) 3 15 := ⟨by decide +kernel, rfl⟩
theorem eX8_walk_15 : xAt mX8_walk 15 (.iload_n 3) 1 16 := ⟨by decide +kernel, rfl⟩
theorem eX8_walk_16 : xAt mX8_walk 16 (.invokevirtual 88) 3 19 := ⟨by decide +kernel, rfl⟩
theorem eX8_walk_19 : xBr mX8_walk 19 (.ifCond .ne) (6) 22 25 := ⟨by decide +kernel, rfl, by decide⟩
theorem eX8_walk_22 : xAt mX8_walk 22 (.bipush (-101)) 2 24 := ⟨by decide +kernel, rfl⟩
theorem eX8_walk_24 : xAt mX8_walk 24 (.ireturn) 1 25 := ⟨by decide +kernel, rfl⟩
theorem eX8_walk_25 : xAt mX8_walk 25 (.iload_n 1) 1 26 := ⟨by decide +kernel, rfl⟩
theorem eX8_walk_26 : xAt mX8_walk 26 (.invokestatic 125) 3 29 := ⟨by decide +kernel, rfl⟩
theorem eX8_walk_29 : xBr mX8_walk 29 (.ifCond .eq) (8) 32 37 := ⟨by decide +kernel, rfl, by decide⟩
theorem eX8_walk_32 : xAt mX8_walk 32 (.iload_n 2) 1 33 := ⟨by decide +kernel, rfl⟩
theorem eX8_walk_33 : xAt mX8_walk 33 (.iload_n 3) 1 34 := ⟨by decide +kernel, rfl⟩
theorem eX8_walk_34 : xBr mX8_walk 34 (.if_icmp .ne) (6) 37 40 := ⟨by decide +kernel, rfl, by decide⟩
theorem eX8_walk_37 : xAt mX8_walk 37 (.bipush (-102)) 2 39 := ⟨by decide +kernel, rfl⟩
theorem eX8_walk_39 : xAt mX8_walk 39 (.ireturn) 1 40 := ⟨by decide +kernel, rfl⟩
theorem eX8_walk_40 : xAt mX8_walk 40 (.iconst 0) 1 41 := ⟨by decide +kernel, rfl⟩
theorem eX8_walk_41 : xAt mX8_walk 41 (.istore 5) 2 43 := ⟨by decide +kernel, rfl⟩
theorem eX8_walk_43 : xAt mX8_walk 43 (.iconst 0) 1 44 := ⟨by decide +kernel, rfl⟩
theorem eX8_walk_44 : xAt mX8_walk 44 (.istore 6) 2 46 := ⟨by decide +kernel, rfl⟩
theorem eX8_walk_46 : xAt mX8_walk 46 (.iload 6) 2 48 := ⟨by decide +kernel, rfl⟩
theorem eX8_walk_48 : xAt mX8_walk 48 (.aload_n 0) 1 49 := ⟨by decide +kernel, rfl⟩
theorem eX8_walk_49 : xAt mX8_walk 49 (.getfield 28) 3 52 := ⟨by decide +kernel, rfl⟩
theorem eX8_walk_52 : xAt mX8_walk 52 (.getfield 136) 3 55 := ⟨by decide +kernel, rfl⟩
theorem eX8_walk_55 : xBr mX8_walk 55 (.if_icmp .ge) (60) 58 115 := ⟨by decide +kernel, rfl, by decide⟩
theorem eX8_walk_58 : xAt mX8_walk 58 (.aload_n 0) 1 59 := ⟨by decide +kernel, rfl⟩
theorem eX8_walk_59 : xAt mX8_walk 59 (.getfield 28) 3 62 := ⟨by decide +kernel, rfl⟩
theorem eX8_walk_62 : xAt mX8_walk 62 (.iload 6) 2 64 := ⟨by decide +kernel, rfl⟩
theorem eX8_walk_64 : xAt mX8_walk 64 (.iload_n 1) 1 65 := ⟨by decide +kernel, rfl⟩
theorem eX8_walk_65 : xAt mX8_walk 65 (.invokevirtual 208) 3 68 := ⟨by decide +kernel, rfl⟩
theorem eX8_walk_68 : xBr mX8_walk 68 (.ifCond .eq) (41) 71 109 := ⟨by decide +kernel, rfl, by decide⟩
theorem eX8_walk_71 : xAt mX8_walk 71 (.aload_n 0) 1 72 := ⟨by decide +kernel, rfl⟩
theorem eX8_walk_72 : xAt mX8_walk 72 (.getfield 21) 3 75 := ⟨by decide +kernel, rfl⟩
theorem eX8_walk_75 : xAt mX8_walk 75 (.iload_n 2) 1 76 := ⟨by decide +kernel, rfl⟩
theorem eX8_walk_76 : xAt mX8_walk 76 (.iload_n 3) 1 77 := ⟨by decide +kernel, rfl⟩
theorem eX8_walk_77 : xAt mX8_walk 77 (.aload_n 0) 1 78 := ⟨by decide +kernel, rfl⟩
theorem eX8_walk_78 : xAt mX8_walk 78 (.getfield 28) 3 81 := ⟨by decide +kernel, rfl⟩
theorem eX8_walk_81 : xAt mX8_walk 81 (.getfield 145) 3 84 := ⟨by decide +kernel, rfl⟩
theorem eX8_walk_84 : xAt mX8_walk 84 (.iload 6) 2 86 := ⟨by decide +kernel, rfl⟩
theorem eX8_walk_86 : xAt mX8_walk 86 (.aaload) 1 87 := ⟨by decide +kernel, rfl⟩
theorem eX8_walk_87 : xAt mX8_walk 87 (.getfield 157) 3 90 := ⟨by decide +kernel, rfl⟩
theorem eX8_walk_90 : xAt mX8_walk 90 (.invokevirtual 216) 3 93 := ⟨by decide +kernel, rfl⟩
theorem eX8_walk_93 : xBr mX8_walk 93 (.ifCond .eq) (16) 96 109 := ⟨by decide +kernel, rfl, by decide⟩
theorem eX8_walk_96 : xAt mX8_walk 96 (.iload 5) 2 98 := ⟨by decide +kernel, rfl⟩
theorem eX8_walk_98 : xAt mX8_walk 98 (.iload 4) 2 100 := ⟨by decide +kernel, rfl⟩
theorem eX8_walk_100 : xBr mX8_walk 100 (.if_icmp .ne) (6) 103 106 := ⟨by decide +kernel, rfl, by decide⟩
theorem eX8_walk_103 : xAt mX8_walk 103 (.iload 6) 2 105 := ⟨by decide +kernel, rfl⟩
theorem eX8_walk_105 : xAt mX8_walk 105 (.ireturn) 1 106 := ⟨by decide +kernel, rfl⟩
theorem eX8_walk_106 : xAt mX8_walk 106 (.iinc 5 1) 3 109 := ⟨by decide +kernel, rfl⟩
theorem eX8_walk_109 : xAt mX8_walk 109 (.iinc 6 1) 3 112 := ⟨by decide +kernel, rfl⟩
theorem eX8_walk_112 : xBr mX8_walk 112 .goto (-66) 115 46 := ⟨by decide +kernel, rfl, by decide⟩
theorem eX8_walk_115 : xAt mX8_walk 115 (.iconst (-1)) 1 116 := ⟨by decide +kernel, rfl⟩
theorem eX8_walk_116 : xAt mX8_walk 116 (.ireturn) 1 117 := ⟨by decide +kernel, rfl⟩
theorem eX8_hull_0 : xAt mX8_hull 0 (.iload_n 1) 1 1 := ⟨by decide +kernel, rfl⟩
theorem eX8_hull_1 : xAt mX8_hull 1 (.invokestatic 125) 3 4 := ⟨by decide +kernel, rfl⟩
theorem eX8_hull_4 : xBr mX8_hull 4 (.ifCond .ne) (6) 7 10 := ⟨by decide +kernel, rfl, by decide⟩
theorem eX8_hull_7 : xAt mX8_hull 7 (.bipush (-102)) 2 9 := ⟨by decide +kernel, rfl⟩
theorem eX8_hull_9 : xAt mX8_hull 9 (.ireturn) 1 10 := ⟨by decide +kernel, rfl⟩
theorem eX8_hull_10 : xAt mX8_hull 10 (.aload_n 0) 1 11 := ⟨by decide +kernel, rfl⟩
theorem eX8_hull_11 : xAt mX8_hull 11 (.getfield 28) 3 14 := ⟨by decide +kernel, rfl⟩
theorem eX8_hull_14 : xAt mX8_hull 14 (.iload_n 1) 1 15 := ⟨by decide +kernel, rfl⟩
theorem eX8_hull_15 : xAt mX8_hull 15 (.invokevirtual 220) 3 18 := ⟨by decide +kernel, rfl⟩
theorem eX8_hull_18 : xBr mX8_hull 18 (.ifCond .ne) (6) 21 24 := ⟨by decide +kernel, rfl, by decide⟩
theorem eX8_hull_21 : xAt mX8_hull 21 (.bipush (-103)) 2 23 := ⟨by decide +kernel, rfl⟩
theorem eX8_hull_23 : xAt mX8_hull 23 (.ireturn) 1 24 := ⟨by decide +kernel, rfl⟩
theorem eX8_hull_24 : xAt mX8_hull 24 (.aload_n 0) 1 25 := ⟨by decide +kernel, rfl⟩
theorem eX8_hull_25 : xAt mX8_hull 25 (.getfield 42) 3 28 := ⟨by decide +kernel, rfl⟩
theorem eX8_hull_28 : xAt mX8_hull 28 (.aload_n 0) 1 29 := ⟨by decide +kernel, rfl⟩
theorem eX8_hull_29 : xAt mX8_hull 29 (.getfield 28) 3 32 := ⟨by decide +kernel, rfl⟩
theorem eX8_hull_32 : xAt mX8_hull 32 (.iload_n 1) 1 33 := ⟨by decide +kernel, rfl⟩
theorem eX8_hull_33 : xAt mX8_hull 33 (.invokevirtual 223) 3 36 := ⟨by decide +kernel, rfl⟩
theorem eX8_hull_36 : xAt mX8_hull 36 (.aload_n 0) 1 37 := ⟨by decide +kernel, rfl⟩
theorem eX8_hull_37 : xAt mX8_hull 37 (.getfield 42) 3 40 := ⟨by decide +kernel, rfl⟩
theorem eX8_hull_40 : xAt mX8_hull 40 (.aload_n 0) 1 41 := ⟨by decide +kernel, rfl⟩
theorem eX8_hull_41 : xAt mX8_hull 41 (.getfield 12) 3 44 := ⟨by decide +kernel, rfl⟩
theorem eX8_hull_44 : xAt mX8_hull 44 (.invokevirtual 227) 3 47 := ⟨by decide +kernel, rfl⟩
theorem eX8_hull_47 : xAt mX8_hull 47 (.aload_n 0) 1 48 := ⟨by decide +kernel, rfl⟩
theorem eX8_hull_48 : xAt mX8_hull 48 (.getfield 42) 3 51 := ⟨by decide +kernel, rfl⟩
theorem eX8_hull_51 : xAt mX8_hull 51 (.aload_n 0) 1 52 := ⟨by decide +kernel, rfl⟩
theorem eX8_hull_52 : xAt mX8_hull 52 (.getfield 12) 3 55 := ⟨by decide +kernel, rfl⟩
theorem eX8_hull_55 : xAt mX8_hull 55 (.invokevirtual 230) 3 58 := ⟨by decide +kernel, rfl⟩
theorem eX8_hull_58 : xAt mX8_hull 58 (.aload_n 0) 1 59 := ⟨by decide +kernel, rfl⟩
theorem eX8_hull_59 : xAt mX8_hull 59 (.getfield 42) 3 62 := ⟨by decide +kernel, rfl⟩
theorem eX8_hull_62 : xAt mX8_hull 62 (.getfield 233) 3 65 := ⟨by decide +kernel, rfl⟩
theorem eX8_hull_65 : xAt mX8_hull 65 (.ireturn) 1 66 := ⟨by decide +kernel, rfl⟩
end
section
theorem eX8_hullAt_0 : xAt mX8_hullAt 0 (.iload_n 1) 1 1 := ⟨by decide +kernel, rfl⟩
theorem eX8_hullAt_1 : xBr mX8_hullAt 1 (.ifCond .lt) (26) 4 27 := ⟨by decide +kernel, rfl, by decide⟩
theorem eX8_hullAt_4 : xAt mX8_hullAt 4 (.iload_n 1) 1 5 := ⟨by decide +kernel, rfl⟩
theorem eX8_hullAt_5 : xAt mX8_hullAt 5 (.aload_n 0) 1 6 := ⟨by decide +kernel, rfl⟩
theorem eX8_hullAt_6 : xAt mX8_hullAt 6 (.getfield 42) 3 9 := ⟨by decide +kernel, rfl⟩
theorem eX8_hullAt_9 : xAt mX8_hullAt 9 (.getfield 233) 3 12 := ⟨by decide +kernel, rfl⟩
theorem eX8_hullAt_12 : xBr mX8_hullAt 12 (.if_icmp .ge) (15) 15 27 := ⟨by decide +kernel, rfl, by decide⟩
theorem eX8_hullAt_15 : xAt mX8_hullAt 15 (.aload_n 0) 1 16 := ⟨by decide +kernel, rfl⟩
theorem eX8_hullAt_16 : xAt mX8_hullAt 16 (.getfield 42) 3 19 := ⟨by decide +kernel, rfl⟩
theorem eX8_hullAt_19 : xAt mX8_hullAt 19 (.getfield 234) 3 22 := ⟨by decide +kernel, rfl⟩
theorem eX8_hullAt_22 : xAt mX8_hullAt 22 (.iload_n 1) 1 23 := ⟨by decide +kernel, rfl⟩
theorem eX8_hullAt_23 : xAt mX8_hullAt 23 (.iaload) 1 24 := ⟨by decide +kernel, rfl⟩
theorem eX8_hullAt_24 : xBr mX8_hullAt 24 .goto (4) 27 28 := ⟨by decide +kernel, rfl, by decide⟩
theorem eX8_hullAt_27 : xAt mX8_hullAt 27 (.iconst (-1)) 1 28 := ⟨by decide +kernel, rfl⟩
theorem eX8_hullAt_28 : xAt mX8_hullAt 28 (.ireturn) 1 29 := ⟨by decide +kernel, rfl⟩
theorem eX8_twice_0 : xAt mX8_twice 0 (.aload_n 0) 1 1 := ⟨by decide +kernel, rfl⟩
theorem eX8_twice_1 : xAt mX8_twice 1 (.getfield 28) 3 4 := ⟨by decide +kernel, rfl⟩
theorem eX8_twice_4 : xAt mX8_twice 4 (.iload_n 1) 1 5 := ⟨by decide +kernel, rfl⟩
theorem eX8_twice_5 : xAt mX8_twice 5 (.invokevirtual 144) 3 8 := ⟨by decide +kernel, rfl⟩
theorem eX8_twice_8 : xBr mX8_twice 8 (.ifCond .ne) (7) 11 15 := ⟨by decide +kernel, rfl, by decide⟩
theorem eX8_twice_11 : xAt mX8_twice 11 (.ldc2_w 92) 3 14 := ⟨by decide +kernel, rfl⟩
theorem eX8_twice_14 : xAt mX8_twice 14 (.lreturn) 1 15 := ⟨by decide +kernel, rfl⟩
theorem eX8_twice_15 : xAt mX8_twice 15 (.aload_n 0) 1 16 := ⟨by decide +kernel, rfl⟩
theorem eX8_twice_16 : xAt mX8_twice 16 (.getfield 12) 3 19 := ⟨by decide +kernel, rfl⟩
theorem eX8_twice_19 : xAt mX8_twice 19 (.aload_n 0) 1 20 := ⟨by decide +kernel, rfl⟩
theorem eX8_twice_20 : xAt mX8_twice 20 (.getfield 28) 3 23 := ⟨by decide +kernel, rfl⟩
theorem eX8_twice_23 : xAt mX8_twice 23 (.getfield 145) 3 26 := ⟨by decide +kernel, rfl⟩
theorem eX8_twice_26 : xAt mX8_twice 26 (.iload_n 1) 1 27 := ⟨by decide +kernel, rfl⟩
theorem eX8_twice_27 : xAt mX8_twice 27 (.aaload) 1 28 := ⟨by decide +kernel, rfl⟩
theorem eX8_twice_28 : xAt mX8_twice 28 (.getfield 157) 3 31 := ⟨by decide +kernel, rfl⟩
theorem eX8_twice_31 : xAt mX8_twice 31 (.aload_n 0) 1 32 := ⟨by decide +kernel, rfl⟩
theorem eX8_twice_32 : xAt mX8_twice 32 (.getfield 35) 3 35 := ⟨by decide +kernel, rfl⟩
theorem eX8_twice_35 : xAt mX8_twice 35 (.getfield 237) 3 38 := ⟨by decide +kernel, rfl⟩
theorem eX8_twice_38 : xAt mX8_twice 38 (.invokevirtual 241) 3 41 := ⟨by decide +kernel, rfl⟩
theorem eX8_twice_41 : xAt mX8_twice 41 (.aload_n 0) 1 42 := ⟨by decide +kernel, rfl⟩
theorem eX8_twice_42 : xAt mX8_twice 42 (.getfield 35) 3 45 := ⟨by decide +kernel, rfl⟩
theorem eX8_twice_45 : xAt mX8_twice 45 (.getfield 237) 3 48 := ⟨by decide +kernel, rfl⟩
theorem eX8_twice_48 : xAt mX8_twice 48 (.invokevirtual 245) 3 51 := ⟨by decide +kernel, rfl⟩
theorem eX8_twice_51 : xAt mX8_twice 51 (.lreturn) 1 52 := ⟨by decide +kernel, rfl⟩
theorem eX8_compare_0 : xAt mX8_compare 0 (.aload_n 0) 1 1 := ⟨by decide +kernel, rfl⟩
theorem eX8_compare_1 : xAt mX8_compare 1 (.getfield 28) 3 4 := ⟨by decide +kernel, rfl⟩
theorem eX8_compare_4 : xAt mX8_compare 4 (.iload_n 1) 1 5 := ⟨by decide +kernel, rfl⟩
theorem eX8_compare_5 : xAt mX8_compare 5 (.invokevirtual 144) 3 8 := ⟨by decide +kernel, rfl⟩
theorem eX8_compare_8 : xBr mX8_compare 8 (.ifCond .eq) (14) 11 22 := ⟨by decide +kernel, rfl, by decide⟩
theorem eX8_compare_11 : xAt mX8_compare 11 (.aload_n 0) 1 12 := ⟨by decide +kernel, rfl⟩
theorem eX8_compare_12 : xAt mX8_compare 12 (.getfield 28) 3 15 := ⟨by decide +kernel, rfl⟩
theorem eX8_compare_15 : xAt mX8_compare 15 (.iload_n 2) 1 16 := ⟨by decide +kernel, rfl⟩
theorem eX8_compare_16 : xAt mX8_compare 16 (.invokevirtual 144) 3 19 := ⟨by decide +kernel, rfl⟩
theorem eX8_compare_19 : xBr mX8_compare 19 (.ifCond .ne) (6) 22 25 := ⟨by decide +kernel, rfl, by decide⟩
theorem eX8_compare_22 : xAt mX8_compare 22 (.bipush (-101)) 2 24 := ⟨by decide +kernel, rfl⟩
theorem eX8_compare_24 : xAt mX8_compare 24 (.ireturn) 1 25 := ⟨by decide +kernel, rfl⟩
theorem eX8_compare_25 : xAt mX8_compare 25 (.aload_n 0) 1 26 := ⟨by decide +kernel, rfl⟩
theorem eX8_compare_26 : xAt mX8_compare 26 (.getfield 12) 3 29 := ⟨by decide +kernel, rfl⟩
theorem eX8_compare_29 : xAt mX8_compare 29 (.aload_n 0) 1 30 := ⟨by decide +kernel, rfl⟩
theorem eX8_compare_30 : xAt mX8_compare 30 (.getfield 28) 3 33 := ⟨by decide +kernel, rfl⟩
theorem eX8_compare_33 : xAt mX8_compare 33 (.getfield 145) 3 36 := ⟨by decide +kernel, rfl⟩
theorem eX8_compare_36 : xAt mX8_compare 36 (.iload_n 1) 1 37 := ⟨by decide +kernel, rfl⟩
theorem eX8_compare_37 : xAt mX8_compare 37 (.aaload) 1 38 := ⟨by decide +kernel, rfl⟩
theorem eX8_compare_38 : xAt mX8_compare 38 (.getfield 157) 3 41 := ⟨by decide +kernel, rfl⟩
theorem eX8_compare_41 : xAt mX8_compare 41 (.aload_n 0) 1 42 := ⟨by decide +kernel, rfl⟩
theorem eX8_compare_42 : xAt mX8_compare 42 (.getfield 35) 3 45 := ⟨by decide +kernel, rfl⟩
theorem eX8_compare_45 : xAt mX8_compare 45 (.getfield 237) 3 48 := ⟨by decide +kernel, rfl⟩
theorem eX8_compare_48 : xAt mX8_compare 48 (.invokevirtual 241) 3 51 := ⟨by decide +kernel, rfl⟩
theorem eX8_compare_51 : xAt mX8_compare 51 (.aload_n 0) 1 52 := ⟨by decide +kernel, rfl⟩
theorem eX8_compare_52 : xAt mX8_compare 52 (.getfield 12) 3 55 := ⟨by decide +kernel, rfl⟩
theorem eX8_compare_55 : xAt mX8_compare 55 (.aload_n 0) 1 56 := ⟨by decide +kernel, rfl⟩
theorem eX8_compare_56 : xAt mX8_compare 56 (.getfield 28) 3 59 := ⟨by decide +kernel, rfl⟩
theorem eX8_compare_59 : xAt mX8_compare 59 (.getfield 145) 3 62 := ⟨by decide +kernel, rfl⟩
theorem eX8_compare_62 : xAt mX8_compare 62 (.iload_n 2) 1 63 := ⟨by decide +kernel, rfl⟩
theorem eX8_compare_63 : xAt mX8_compare 63 (.aaload) 1 64 := ⟨by decide +kernel, rfl⟩
theorem eX8_compare_64 : xAt mX8_compare 64 (.getfield 157) 3 67 := ⟨by decide +kernel, rfl⟩
theorem eX8_compare_67 : xAt mX8_compare 67 (.aload_n 0) 1 68 := ⟨by decide +kernel, rfl⟩
theorem eX8_compare_68 : xAt mX8_compare 68 (.getfield 35) 3 71 := ⟨by decide +kernel, rfl⟩
theorem eX8_compare_71 : xAt mX8_compare 71 (.getfield 251) 3 74 := ⟨by decide +kernel, rfl⟩
theorem eX8_compare_74 : xAt mX8_compare 74 (.invokevirtual 241) 3 77 := ⟨by decide +kernel, rfl⟩
theorem eX8_compare_77 : xAt mX8_compare 77 (.aload_n 0) 1 78 := ⟨by decide +kernel, rfl⟩
theorem eX8_compare_78 : xAt mX8_compare 78 (.getfield 35) 3 81 := ⟨by decide +kernel, rfl⟩
theorem eX8_compare_81 : xAt mX8_compare 81 (.getfield 237) 3 84 := ⟨by decide +kernel, rfl⟩
theorem eX8_compare_84 : xAt mX8_compare 84 (.aload_n 0) 1 85 := ⟨by decide +kernel, rfl⟩
theorem eX8_compare_85 : xAt mX8_compare 85 (.getfield 35) 3 88 := ⟨by decide +kernel, rfl⟩
theorem eX8_compare_88 : xAt mX8_compare 88 (.getfield 251) 3 91 := ⟨by decide +kernel, rfl⟩
theorem eX8_compare_91 : xAt mX8_compare 91 (.invokevirtual 254) 3 94 := ⟨by decide +kernel, rfl⟩
theorem eX8_compare_94 : xAt mX8_compare 94 (.ireturn) 1 95 := ⟨by decide +kernel, rfl⟩
theorem eX8_quota_0 : xAt mX8_quota 0 (.aload_n 0) 1 1 := ⟨by decide +kernel, rfl⟩
theorem eX8_quota_1 : xAt mX8_quota 1 (.getfield 28) 3 4 := ⟨by decide +kernel, rfl⟩
theorem eX8_quota_4 : xAt mX8_quota 4 (.iload_n 1) 1 5 := ⟨by decide +kernel, rfl⟩
theorem eX8_quota_5 : xAt mX8_quota 5 (.invokevirtual 144) 3 8 := ⟨by decide +kernel, rfl⟩
theorem eX8_quota_8 : xBr mX8_quota 8 (.ifCond .ne) (6) 11 14 := ⟨by decide +kernel, rfl, by decide⟩
theorem eX8_quota_11 : xAt mX8_quota 11 (.bipush (-101)) 2 13 := ⟨by decide +kernel, rfl⟩
theorem eX8_quota_13 : xAt mX8_quota 13 (.ireturn) 1 14 := ⟨by decide +kernel, rfl⟩
theorem eX8_quota_14 : xAt mX8_quota 14 (.iload_n 2) 1 15 := ⟨by decide +kernel, rfl⟩
theorem eX8_quota_15 : xBr mX8_quota 15 (.ifCond .lt) (10) 18 25 := ⟨by decide +kernel, rfl, by decide⟩
theorem eX8_quota_18 : xAt mX8_quota 18 (.iload_n 2) 1 19 := ⟨by decide +kernel, rfl⟩
theorem eX8_quota_19 : xAt mX8_quota 19 (.sipush 1000) 3 22 := ⟨by decide +kernel, rfl⟩
theorem eX8_quota_22 : xBr mX8_quota 22 (.if_icmp .le) (6) 25 28 := ⟨by decide +kernel, rfl, by decide⟩
theorem eX8_quota_25 : xAt mX8_quota 25 (.bipush (-102)) 2 27 := ⟨by decide +kernel, rfl⟩
theorem eX8_quota_27 : xAt mX8_quota 27 (.ireturn) 1 28 := ⟨by decide +kernel, rfl⟩
theorem eX8_quota_28 : xAt mX8_quota 28 (.aload_n 0) 1 29 := ⟨by decide +kernel, rfl⟩
theorem eX8_quota_29 : xAt mX8_quota 29 (.getfield 28) 3 32 := ⟨by decide +kernel, rfl⟩
theorem eX8_quota_32 : xAt mX8_quota 32 (.getfield 145) 3 35 := ⟨by decide +kernel, rfl⟩
theorem eX8_quota_35 : xAt mX8_quota 35 (.iload_n 1) 1 36 := ⟨by decide +kernel, rfl⟩
theorem eX8_quota_36 : xAt mX8_quota 36 (.aaload) 1 37 := ⟨by decide +kernel, rfl⟩
theorem eX8_quota_37 : xAt mX8_quota 37 (.getfield 149) 3 40 := ⟨by decide +kernel, rfl⟩
theorem eX8_quota_40 : xAt mX8_quota 40 (.istore_n 3) 1 41 := ⟨by decide +kernel, rfl⟩
theorem eX8_quota_41 : xAt mX8_quota 41 (.aload_n 0) 1 42 := ⟨by decide +kernel, rfl⟩
theorem eX8_quota_42 : xAt mX8_quota 42 (.getfield 35) 3 45 := ⟨by decide +kernel, rfl⟩
theorem eX8_quota_45 : xAt mX8_quota 45 (.aload_n 0) 1 46 := ⟨by decide +kernel, rfl⟩
theorem eX8_quota_46 : xAt mX8_quota 46 (.getfield 28) 3 49 := ⟨by decide +kernel, rfl⟩
theorem eX8_quota_49 : xAt mX8_quota 49 (.aload_n 0) 1 50 := ⟨by decide +kernel, rfl⟩
theorem eX8_quota_50 : xAt mX8_quota 50 (.getfield 12) 3 53 := ⟨by decide +kernel, rfl⟩
theorem eX8_quota_53 : xAt mX8_quota 53 (.iload_n 3) 1 54 := ⟨by decide +kernel, rfl⟩
theorem eX8_quota_54 : xAt mX8_quota 54 (.invokevirtual 258) 3 57 := ⟨by decide +kernel, rfl⟩
theorem eX8_quota_57 : xAt mX8_quota 57 (.aload_n 0) 1 58 := ⟨by decide +kernel, rfl⟩
theorem eX8_quota_58 : xAt mX8_quota 58 (.getfield 35) 3 61 := ⟨by decide +kernel, rfl⟩
theorem eX8_quota_61 : xAt mX8_quota 61 (.aload_n 0) 1 62 := ⟨by decide +kernel, rfl⟩
theorem eX8_quota_62 : xAt mX8_quota 62 (.getfield 28) 3 65 := ⟨by decide +kernel, rfl⟩
theorem eX8_quota_65 : xAt mX8_quota 65 (.iload_n 3) 1 66 := ⟨by decide +kernel, rfl⟩
theorem eX8_quota_66 : xAt mX8_quota 66 (.iload_n 1) 1 67 := ⟨by decide +kernel, rfl⟩
theorem eX8_quota_67 : xAt mX8_quota 67 (.iload_n 2) 1 68 := ⟨by decide +kernel, rfl⟩
theorem eX8_quota_68 : xAt mX8_quota 68 (.invokevirtual 262) 3 71 := ⟨by decide +kernel, rfl⟩
theorem eX8_quota_71 : xAt mX8_quota 71 (.ireturn) 1 72 := ⟨by decide +kernel, rfl⟩
theorem eX8_undo_0 : xAt mX8_undo 0 (.aload_n 0) 1 1 := ⟨by decide +kernel, rfl⟩
theorem eX8_undo_1 : xAt mX8_undo 1 (.getfield 28) 3 4 := ⟨by decide +kernel, rfl⟩
theorem eX8_undo_4 : xAt mX8_undo 4 (.getfield 266) 3 7 := ⟨by decide +kernel, rfl⟩
theorem eX8_undo_7 : xBr mX8_undo 7 (.ifCond .ne) (6) 10 13 := ⟨by decide +kernel, rfl, by decide⟩
theorem eX8_undo_10 : xAt mX8_undo 10 (.bipush (-103)) 2 12 := ⟨by decide +kernel, rfl⟩
theorem eX8_undo_12 : xAt mX8_undo 12 (.ireturn) 1 13 := ⟨by decide +kernel, rfl⟩
theorem eX8_undo_13 : xAt mX8_undo 13 (.aload_n 0) 1 14 := ⟨by decide +kernel, rfl⟩
theorem eX8_undo_14 : xAt mX8_undo 14 (.getfield 28) 3 17 := ⟨by decide +kernel, rfl⟩
theorem eX8_undo_17 : xAt mX8_undo 17 (.invokevirtual 269) 3 20 := ⟨by decide +kernel, rfl⟩
theorem eX8_undo_20 : xAt mX8_undo 20 (.iconst 1) 1 21 := ⟨by decide +kernel, rfl⟩
theorem eX8_undo_21 : xAt mX8_undo 21 (.ireturn) 1 22 := ⟨by decide +kernel, rfl⟩
theorem eX8_count_0 : xAt mX8_count 0 (.iload_n 1) 1 1 := ⟨by decide +kernel, rfl⟩
theorem eX8_count_1 : decode mX8_count.2.1 1 = .ok (.tableswitch 63 0 3 #[31, 39, 47, 55], 31) := by decide +kernel
theorem eX8_count_32 : xAt mX8_count 32 (.aload_n 0) 1 33 := ⟨by decide +kernel, rfl⟩
theorem eX8_count_33 : xAt mX8_count 33 (.getfield 12) 3 36 := ⟨by decide +kernel, rfl⟩
theorem eX8_count_36 : xAt mX8_count 36 (.getfield 81) 3 39 := ⟨by decide +kernel, rfl⟩
theorem eX8_count_39 : xAt mX8_count 39 (.ireturn) 1 40 := ⟨by decide +kernel, rfl⟩
theorem eX8_count_40 : xAt mX8_count 40 (.aload_n 0) 1 41 := ⟨by decide +kernel, rfl⟩
theorem eX8_count_41 : xAt mX8_count 41 (.getfield 28) 3 44 := ⟨by decide +kernel, rfl⟩
theorem eX8_count_44 : xAt mX8_count 44 (.invokevirtual 168) 3 47 := ⟨by decide +kernel, rfl⟩
theorem eX8_count_47 : xAt mX8_count 47 (.ireturn) 1 48 := ⟨by decide +kernel, rfl⟩
theorem eX8_count_48 : xAt mX8_count 48 (.aload_n 0) 1 49 := ⟨by decide +kernel, rfl⟩
theorem eX8_count_49 : xAt mX8_count 49 (.getfield 28) 3 52 := ⟨by decide +kernel, rfl⟩
theorem eX8_count_52 : xAt mX8_count 52 (.getfield 136) 3 55 := ⟨by decide +kernel, rfl⟩
theorem eX8_count_55 : xAt mX8_count 55 (.ireturn) 1 56 := ⟨by decide +kernel, rfl⟩
theorem eX8_count_56 : xAt mX8_count 56 (.aload_n 0) 1 57 := ⟨by decide +kernel, rfl⟩
theorem eX8_count_57 : xAt mX8_count 57 (.getfield 49) 3 60 := ⟨by decide +kernel, rfl⟩
theorem eX8_count_60 : xAt mX8_count 60 (.getfield 115) 3 63 := ⟨by decide +kernel, rfl⟩
theorem eX8_count_63 : xAt mX8_count 63 (.ireturn) 1 64 := ⟨by decide +kernel, rfl⟩
theorem eX8_count_64 : xAt mX8_count 64 (.iload_n 1) 1 65 := ⟨by decide +kernel, rfl⟩
theorem eX8_count_65 : xAt mX8_count 65 (.iconst 4) 1 66 := ⟨by decide +kernel, rfl⟩
theorem eX8_count_66 : xAt mX8_count 66 (.isub) 1 67 := ⟨by decide +kernel, rfl⟩
theorem eX8_count_67 : xAt mX8_count 67 (.invokestatic 125) 3 70 := ⟨by decide +kernel, rfl⟩
theorem eX8_count_70 : xBr mX8_count 70 (.ifCond .eq) (16) 73 86 := ⟨by decide +kernel, rfl, by decide⟩
theorem eX8_count_73 : xAt mX8_count 73 (.aload_n 0) 1 74 := ⟨by decide +kernel, rfl⟩
theorem eX8_count_74 : xAt mX8_count 74 (.getfield 28) 3 77 := ⟨by decide +kernel, rfl⟩
theorem eX8_count_77 : xAt mX8_count 77 (.iload_n 1) 1 78 := ⟨by decide +kernel, rfl⟩
theorem eX8_count_78 : xAt mX8_count 78 (.iconst 4) 1 79 := ⟨by decide +kernel, rfl⟩
theorem eX8_count_79 : xAt mX8_count 79 (.isub) 1 80 := ⟨by decide +kernel, rfl⟩
theorem eX8_count_80 : xAt mX8_count 80 (.invokevirtual 220) 3 83 := ⟨by decide +kernel, rfl⟩
theorem eX8_count_83 : xBr mX8_count 83 .goto (5) 86 88 := ⟨by decide +kernel, rfl, by decide⟩
theorem eX8_count_86 : xAt mX8_count 86 (.bipush (-102)) 2 88 := ⟨by decide +kernel, rfl⟩
theorem eX8_count_88 : xAt mX8_count 88 (.ireturn) 1 89 := ⟨by decide +kernel, rfl⟩
theorem eX8_digest_0 : xAt mX8_digest 0 (.ldc2_w 272) 3 3 := ⟨by decide +kernel, rfl⟩
theorem eX8_digest_3 : xAt mX8_digest 3 (.lstore_n 1) 1 4 := ⟨by decide +kernel, rfl⟩
theorem eX8_digest_4 : xAt mX8_digest 4 (.iconst 0) 1 5 := ⟨by decide +kernel, rfl⟩
theorem eX8_digest_5 : xAt mX8_digest 5 (.istore_n 3) 1 6 := ⟨by decide +kernel, rfl⟩
theorem eX8_digest_6 : xAt mX8_digest 6 (.iload_n 3) 1 7 := ⟨by decide +kernel, rfl⟩
theorem eX8_digest_7 : xAt mX8_digest 7 (.aload_n 0) 1 8 := ⟨by decide +kernel, rfl⟩
theorem eX8_digest_8 : xAt mX8_digest 8 (.getfield 28) 3 11 := ⟨by decide +kernel, rfl⟩
theorem eX8_digest_11 : xAt mX8_digest 11 (.getfield 136) 3 14 := ⟨by decide +kernel, rfl⟩
theorem eX8_digest_14 : xBr mX8_digest 14 (.if_icmp .ge) (122) 17 136 := ⟨by decide +kernel, rfl, by decide⟩
theorem eX8_digest_17 : xAt mX8_digest 17 (.aload_n 0) 1 18 := ⟨by decide +kernel, rfl⟩
theorem eX8_digest_18 : xAt mX8_digest 18 (.getfield 28) 3 21 := ⟨by decide +kernel, rfl⟩
theorem eX8_digest_21 : xAt mX8_digest 21 (.iload_n 3) 1 22 := ⟨by decide +kernel, rfl⟩
theorem eX8_digest_22 : xAt mX8_digest 22 (.invokevirtual 144) 3 25 := ⟨by decide +kernel, rfl⟩
theorem eX8_digest_25 : xBr mX8_digest 25 (.ifCond .eq) (105) 28 130 := ⟨by decide +kernel, rfl, by decide⟩
theorem eX8_digest_28 : xAt mX8_digest 28 (.aload_n 0) 1 29 := ⟨by decide +kernel, rfl⟩
theorem eX8_digest_29 : xAt mX8_digest 29 (.getfield 28) 3 32 := ⟨by decide +kernel, rfl⟩
theorem eX8_digest_32 : xAt mX8_digest 32 (.getfield 145) 3 35 := ⟨by decide +kernel, rfl⟩
theorem eX8_digest_35 : xAt mX8_digest 35 (.iload_n 3) 1 36 := ⟨by decide +kernel, rfl⟩
theorem eX8_digest_36 : xAt mX8_digest 36 (.aaload) 1 37 := ⟨by decide +kernel, rfl⟩
theorem eX8_digest_37 : xAt mX8_digest 37 (.astore 4) 2 39 := ⟨by decide +kernel, rfl⟩
theorem eX8_digest_39 : xAt mX8_digest 39 (.ldc2_w 274) 3 42 := ⟨by decide +kernel, rfl⟩
theorem eX8_digest_42 : xAt mX8_digest 42 (.lload_n 1) 1 43 := ⟨by decide +kernel, rfl⟩
theorem eX8_digest_43 : xAt mX8_digest 43 (.lmul) 1 44 := ⟨by decide +kernel, rfl⟩
theorem eX8_digest_44 : xAt mX8_digest 44 (.iload_n 3) 1 45 := ⟨by decide +kernel, rfl⟩
theorem eX8_digest_45 : xAt mX8_digest 45 (.i2l) 1 46 := ⟨by decide +kernel, rfl⟩
theorem eX8_digest_46 : xAt mX8_digest 46 (.ladd) 1 47 := ⟨by decide +kernel, rfl⟩
theorem eX8_digest_47 : xAt mX8_digest 47 (.lstore_n 1) 1 48 := ⟨by decide +kernel, rfl⟩
theorem eX8_digest_48 : xAt mX8_digest 48 (.ldc2_w 274) 3 51 := ⟨by decide +kernel, rfl⟩
theorem eX8_digest_51 : xAt mX8_digest 51 (.lload_n 1) 1 52 := ⟨by decide +kernel, rfl⟩
theorem eX8_digest_52 : xAt mX8_digest 52 (.lmul) 1 53 := ⟨by decide +kernel, rfl⟩
theorem eX8_digest_53 : xAt mX8_digest 53 (.aload 4) 2 55 := ⟨by decide +kernel, rfl⟩
theorem eX8_digest_55 : xAt mX8_digest 55 (.getfield 149) 3 58 := ⟨by decide +kernel, rfl⟩
theorem eX8_digest_58 : xAt mX8_digest 58 (.i2l) 1 59 := ⟨by decide +kernel, rfl⟩
theorem eX8_digest_59 : xAt mX8_digest 59 (.ladd) 1 60 := ⟨by decide +kernel, rfl⟩
theorem eX8_digest_60 : xAt mX8_digest 60 (.lstore_n 1) 1 61 := ⟨by decide +kernel, rfl⟩
theorem eX8_digest_61 : xAt mX8_digest 61 (.ldc2_w 274) 3 64 := ⟨by decide +kernel, rfl⟩
theorem eX8_digest_64 : xAt mX8_digest 64 (.lload_n 1) 1 65 := ⟨by decide +kernel, rfl⟩
theorem eX8_digest_65 : xAt mX8_digest 65 (.lmul) 1 66 := ⟨by decide +kernel, rfl⟩
theorem eX8_digest_66 : xAt mX8_digest 66 (.aload 4) 2 68 := ⟨by decide +kernel, rfl⟩
theorem eX8_digest_68 : xAt mX8_digest 68 (.getfield 154) 3 71 := ⟨by decide +kernel, rfl⟩
theorem eX8_digest_71 : xAt mX8_digest 71 (.i2l) 1 72 := ⟨by decide +kernel, rfl⟩
theorem eX8_digest_72 : xAt mX8_digest 72 (.ladd) 1 73 := ⟨by decide +kernel, rfl⟩
theorem eX8_digest_73 : xAt mX8_digest 73 (.lstore_n 1) 1 74 := ⟨by decide +kernel, rfl⟩
theorem eX8_digest_74 : xAt mX8_digest 74 (.ldc2_w 274) 3 77 := ⟨by decide +kernel, rfl⟩
theorem eX8_digest_77 : xAt mX8_digest 77 (.lload_n 1) 1 78 := ⟨by decide +kernel, rfl⟩
theorem eX8_digest_78 : xAt mX8_digest 78 (.lmul) 1 79 := ⟨by decide +kernel, rfl⟩
theorem eX8_digest_79 : xAt mX8_digest 79 (.aload 4) 2 81 := ⟨by decide +kernel, rfl⟩
theorem eX8_digest_81 : xAt mX8_digest 81 (.getfield 157) 3 84 := ⟨by decide +kernel, rfl⟩
theorem eX8_digest_84 : xAt mX8_digest 84 (.getfield 115) 3 87 := ⟨by decide +kernel, rfl⟩
theorem eX8_digest_87 : xAt mX8_digest 87 (.i2l) 1 88 := ⟨by decide +kernel, rfl⟩
theorem eX8_digest_88 : xAt mX8_digest 88 (.ladd) 1 89 := ⟨by decide +kernel, rfl⟩
theorem eX8_digest_89 : xAt mX8_digest 89 (.lstore_n 1) 1 90 := ⟨by decide +kernel, rfl⟩
theorem eX8_digest_90 : xAt mX8_digest 90 (.iconst 0) 1 91 := ⟨by decide +kernel, rfl⟩
theorem eX8_digest_91 : xAt mX8_digest 91 (.istore 5) 2 93 := ⟨by decide +kernel, rfl⟩
theorem eX8_digest_93 : xAt mX8_digest 93 (.iload 5) 2 95 := ⟨by decide +kernel, rfl⟩
theorem eX8_digest_95 : xAt mX8_digest 95 (.aload 4) 2 97 := ⟨by decide +kernel, rfl⟩
theorem eX8_digest_97 : xAt mX8_digest 97 (.getfield 157) 3 100 := ⟨by decide +kernel, rfl⟩
theorem eX8_digest_100 : xAt mX8_digest 100 (.getfield 115) 3 103 := ⟨by decide +kernel, rfl⟩
theorem eX8_digest_103 : xBr mX8_digest 103 (.if_icmp .ge) (27) 106 130 := ⟨by decide +kernel, rfl, by decide⟩
theorem eX8_digest_106 : xAt mX8_digest 106 (.ldc2_w 274) 3 109 := ⟨by decide +kernel, rfl⟩
theorem eX8_digest_109 : xAt mX8_digest 109 (.lload_n 1) 1 110 := ⟨by decide +kernel, rfl⟩
theorem eX8_digest_110 : xAt mX8_digest 110 (.lmul) 1 111 := ⟨by decide +kernel, rfl⟩
theorem eX8_digest_111 : xAt mX8_digest 111 (.aload 4) 2 113 := ⟨by decide +kernel, rfl⟩
theorem eX8_digest_113 : xAt mX8_digest 113 (.getfield 157) 3 116 := ⟨by decide +kernel, rfl⟩
theorem eX8_digest_116 : xAt mX8_digest 116 (.iload 5) 2 118 := ⟨by decide +kernel, rfl⟩
theorem eX8_digest_118 : xAt mX8_digest 118 (.invokevirtual 160) 3 121 := ⟨by decide +kernel, rfl⟩
theorem eX8_digest_121 : xAt mX8_digest 121 (.i2l) 1 122 := ⟨by decide +kernel, rfl⟩
theorem eX8_digest_122 : xAt mX8_digest 122 (.ladd) 1 123 := ⟨by decide +kernel, rfl⟩
theorem eX8_digest_123 : xAt mX8_digest 123 (.lstore_n 1) 1 124 := ⟨by decide +kernel, rfl⟩
theorem eX8_digest_124 : xAt mX8_digest 124 (.iinc 5 1) 3 127 := ⟨by decide +kernel, rfl⟩
theorem eX8_digest_127 : xBr mX8_digest 127 .goto (-34) 130 93 := ⟨by decide +kernel, rfl, by decide⟩
theorem eX8_digest_130 : xAt mX8_digest 130 (.iinc 3 1) 3 133 := ⟨by decide +kernel, rfl⟩
theorem eX8_digest_133 : xBr mX8_digest 133 .goto (-127) 136 6 := ⟨by decide +kernel, rfl, by decide⟩
theorem eX8_digest_136 : xAt mX8_digest 136 (.lload_n 1) 1 137 := ⟨by decide +kernel, rfl⟩
theorem eX8_digest_137 : xAt mX8_digest 137 (.lreturn) 1 138 := ⟨by decide +kernel, rfl⟩
theorem eX8_isNumber_0 : xAt mX8_isNumber 0 (.lload_n 0) 1 1 := ⟨by decide +kernel, rfl⟩
theorem eX8_isNumber_1 : xAt mX8_isNumber 1 (.ldc2_w 276) 3 4 := ⟨by decide +kernel, rfl⟩
theorem eX8_isNumber_4 : xAt mX8_isNumber 4 (.land) 1 5 := ⟨by decide +kernel, rfl⟩
theorem eX8_isNumber_5 : xAt mX8_isNumber 5 (.lstore_n 2) 1 6 := ⟨by decide +kernel, rfl⟩
theorem eX8_isNumber_6 : xAt mX8_isNumber 6 (.lload_n 2) 1 7 := ⟨by decide +kernel, rfl⟩
theorem eX8_isNumber_7 : xAt mX8_isNumber 7 (.lconst 0) 1 8 := ⟨by decide +kernel, rfl⟩
theorem eX8_isNumber_8 : xAt mX8_isNumber 8 (.lcmp) 1 9 := ⟨by decide +kernel, rfl⟩
theorem eX8_isNumber_9 : xBr mX8_isNumber 9 (.ifCond .eq) (19) 12 28 := ⟨by decide +kernel, rfl, by decide⟩
theorem eX8_isNumber_12 : xAt mX8_isNumber 12 (.lload_n 2) 1 13 := ⟨by decide +kernel, rfl⟩
theorem eX8_isNumber_13 : xAt mX8_isNumber 13 (.ldc2_w 278) 3 16 := ⟨by decide +kernel, rfl⟩
theorem eX8_isNumber_16 : xAt mX8_isNumber 16 (.lcmp) 1 17 := ⟨by decide +kernel, rfl⟩
theorem eX8_isNumber_17 : xBr mX8_isNumber 17 (.ifCond .lt) (15) 20 32 := ⟨by decide +kernel, rfl, by decide⟩
theorem eX8_isNumber_20 : xAt mX8_isNumber 20 (.lload_n 2) 1 21 := ⟨by decide +kernel, rfl⟩
theorem eX8_isNumber_21 : xAt mX8_isNumber 21 (.ldc2_w 280) 3 24 := ⟨by decide +kernel, rfl⟩
theorem eX8_isNumber_24 : xAt mX8_isNumber 24 (.lcmp) 1 25 := ⟨by decide +kernel, rfl⟩
theorem eX8_isNumber_25 : xBr mX8_isNumber 25 (.ifCond .gt) (7) 28 32 := ⟨by decide +kernel, rfl, by decide⟩
theorem eX8_isNumber_28 : xAt mX8_isNumber 28 (.iconst 1) 1 29 := ⟨by decide +kernel, rfl⟩
theorem eX8_isNumber_29 : xBr mX8_isNumber 29 .goto (4) 32 33 := ⟨by decide +kernel, rfl, by decide⟩
theorem eX8_isNumber_32 : xAt mX8_isNumber 32 (.iconst 0) 1 33 := ⟨by decide +kernel, rfl⟩
theorem eX8_isNumber_33 : xAt mX8_isNumber 33 (.ireturn) 1 34 := ⟨by decide +kernel, rfl⟩
theorem eX8_isLayer_0 : xAt mX8_isLayer 0 (.iload_n 0) 1 1 := ⟨by decide +kernel, rfl⟩
theorem eX8_isLayer_1 : xBr mX8_isLayer 1 (.ifCond .lt) (12) 4 13 := ⟨by decide +kernel, rfl, by decide⟩
theorem eX8_isLayer_4 : xAt mX8_isLayer 4 (.iload_n 0) 1 5 := ⟨by decide +kernel, rfl⟩
theorem eX8_isLayer_5 : xAt mX8_isLayer 5 (.iconst 4) 1 6 := ⟨by decide +kernel, rfl⟩
theorem eX8_isLayer_6 : xBr mX8_isLayer 6 (.if_icmp .ge) (7) 9 13 := ⟨by decide +kernel, rfl, by decide⟩
theorem eX8_isLayer_9 : xAt mX8_isLayer 9 (.iconst 1) 1 10 := ⟨by decide +kernel, rfl⟩
theorem eX8_isLayer_10 : xBr mX8_isLayer 10 .goto (4) 13 14 := ⟨by decide +kernel, rfl, by decide⟩
theorem eX8_isLayer_13 : xAt mX8_isLayer 13 (.iconst 0) 1 14 := ⟨by decide +kernel, rfl⟩
theorem eX8_isLayer_14 : xAt mX8_isLayer 14 (.ireturn) 1 15 := ⟨by decide +kernel, rfl⟩
theorem eX8_faultIn_0 : xAt mX8_faultIn 0 (.aload_n 0) 1 1 := ⟨by decide +kernel, rfl⟩
theorem eX8_faultIn_1 : xAt mX8_faultIn 1 (.getfield 21) 3 4 := ⟨by decide +kernel, rfl⟩
theorem eX8_faultIn_4 : xAt mX8_faultIn 4 (.aload_n 1) 1 5 := ⟨by decide +kernel, rfl⟩
theorem eX8_faultIn_5 : xAt mX8_faultIn 5 (.invokevirtual 190) 3 8 := ⟨by decide +kernel, rfl⟩
theorem eX8_faultIn_8 : xAt mX8_faultIn 8 (.istore 4) 2 10 := ⟨by decide +kernel, rfl⟩
theorem eX8_faultIn_10 : xAt mX8_faultIn 10 (.iload 4) 2 12 := ⟨by decide +kernel, rfl⟩
theorem eX8_faultIn_12 : xBr mX8_faultIn 12 (.ifCond .eq) (17) 15 29 := ⟨by decide +kernel, rfl, by decide⟩
theorem eX8_faultIn_15 : xAt mX8_faultIn 15 (.aload_n 0) 1 16 := ⟨by decide +kernel, rfl⟩
theorem eX8_faultIn_16 : xAt mX8_faultIn 16 (.aload_n 0) 1 17 := ⟨by decide +kernel, rfl⟩
theorem eX8_faultIn_17 : xAt mX8_faultIn 17 (.getfield 21) 3 20 := ⟨by decide +kernel, rfl⟩
theorem eX8_faultIn_20 : xAt mX8_faultIn 20 (.getfield 193) 3 23 := ⟨by decide +kernel, rfl⟩
theorem eX8_faultIn_23 : xAt mX8_faultIn 23 (.putfield 59) 3 26 := ⟨by decide +kernel, rfl⟩
theorem eX8_faultIn_26 : xAt mX8_faultIn 26 (.iload 4) 2 28 := ⟨by decide +kernel, rfl⟩
theorem eX8_faultIn_28 : xAt mX8_faultIn 28 (.ireturn) 1 29 := ⟨by decide +kernel, rfl⟩
theorem eX8_faultIn_29 : xAt mX8_faultIn 29 (.aload_n 0) 1 30 := ⟨by decide +kernel, rfl⟩
theorem eX8_faultIn_30 : xAt mX8_faultIn 30 (.getfield 21) 3 33 := ⟨by decide +kernel, rfl⟩
theorem eX8_faultIn_33 : xAt mX8_faultIn 33 (.aload_n 1) 1 34 := ⟨by decide +kernel, rfl⟩
theorem eX8_faultIn_34 : xAt mX8_faultIn 34 (.aload_n 0) 1 35 := ⟨by decide +kernel, rfl⟩
theorem eX8_faultIn_35 : xAt mX8_faultIn 35 (.getfield 56) 3 38 := ⟨by decide +kernel, rfl⟩
theorem eX8_faultIn_38 : xAt mX8_faultIn 38 (.invokevirtual 179) 3 41 := ⟨by decide +kernel, rfl⟩
theorem eX8_faultIn_41 : xAt mX8_faultIn 41 (.iconst 0) 1 42 := ⟨by decide +kernel, rfl⟩
theorem eX8_faultIn_42 : xAt mX8_faultIn 42 (.istore 5) 2 44 := ⟨by decide +kernel, rfl⟩
theorem eX8_faultIn_44 : xAt mX8_faultIn 44 (.iload 5) 2 46 := ⟨by decide +kernel, rfl⟩
theorem eX8_faultIn_46 : xAt mX8_faultIn 46 (.aload_n 0) 1 47 := ⟨by decide +kernel, rfl⟩
theorem eX8_faultIn_47 : xAt mX8_faultIn 47 (.getfield 28) 3 50 := ⟨by decide +kernel, rfl⟩
theorem eX8_faultIn_50 : xAt mX8_faultIn 50 (.getfield 136) 3 53 := ⟨by decide +kernel, rfl⟩
theorem eX8_faultIn_53 : xBr mX8_faultIn 53 (.if_icmp .ge) (117) 56 170 := ⟨by decide +kernel, rfl, by decide⟩
theorem eX8_faultIn_56 : xAt mX8_faultIn 56 (.iload 5) 2 58 := ⟨by decide +kernel, rfl⟩
theorem eX8_faultIn_58 : xAt mX8_faultIn 58 (.iload_n 3) 1 59 := ⟨by decide +kernel, rfl⟩
theorem eX8_faultIn_59 : xBr mX8_faultIn 59 (.if_icmp .eq) (105) 62 164 := ⟨by decide +kernel, rfl, by decide⟩
theorem eX8_faultIn_62 : xAt mX8_faultIn 62 (.aload_n 0) 1 63 := ⟨by decide +kernel, rfl⟩
theorem eX8_faultIn_63 : xAt mX8_faultIn 63 (.getfield 28) 3 66 := ⟨by decide +kernel, rfl⟩
theorem eX8_faultIn_66 : xAt mX8_faultIn 66 (.iload 5) 2 68 := ⟨by decide +kernel, rfl⟩
theorem eX8_faultIn_68 : xAt mX8_faultIn 68 (.iload_n 2) 1 69 := ⟨by decide +kernel, rfl⟩
theorem eX8_faultIn_69 : xAt mX8_faultIn 69 (.invokevirtual 208) 3 72 := ⟨by decide +kernel, rfl⟩
theorem eX8_faultIn_72 : xBr mX8_faultIn 72 (.ifCond .eq) (92) 75 164 := ⟨by decide +kernel, rfl, by decide⟩
theorem eX8_faultIn_75 : xAt mX8_faultIn 75 (.aload_n 0) 1 76 := ⟨by decide +kernel, rfl⟩
theorem eX8_faultIn_76 : xAt mX8_faultIn 76 (.getfield 28) 3 79 := ⟨by decide +kernel, rfl⟩
theorem eX8_faultIn_79 : xAt mX8_faultIn 79 (.getfield 145) 3 82 := ⟨by decide +kernel, rfl⟩
theorem eX8_faultIn_82 : xAt mX8_faultIn 82 (.iload 5) 2 84 := ⟨by decide +kernel, rfl⟩
theorem eX8_faultIn_84 : xAt mX8_faultIn 84 (.aaload) 1 85 := ⟨by decide +kernel, rfl⟩
theorem eX8_faultIn_85 : xAt mX8_faultIn 85 (.getfield 157) 3 88 := ⟨by decide +kernel, rfl⟩
theorem eX8_faultIn_88 : xAt mX8_faultIn 88 (.astore 6) 2 90 := ⟨by decide +kernel, rfl⟩
theorem eX8_faultIn_90 : xAt mX8_faultIn 90 (.aload_n 0) 1 91 := ⟨by decide +kernel, rfl⟩
theorem eX8_faultIn_91 : xAt mX8_faultIn 91 (.getfield 21) 3 94 := ⟨by decide +kernel, rfl⟩
theorem eX8_faultIn_94 : xAt mX8_faultIn 94 (.aload_n 0) 1 95 := ⟨by decide +kernel, rfl⟩
theorem eX8_faultIn_95 : xAt mX8_faultIn 95 (.getfield 56) 3 98 := ⟨by decide +kernel, rfl⟩
theorem eX8_faultIn_98 : xAt mX8_faultIn 98 (.aload 6) 2 100 := ⟨by decide +kernel, rfl⟩
theorem eX8_faultIn_100 : xAt mX8_faultIn 100 (.invokevirtual 282) 3 103 := ⟨by decide +kernel, rfl⟩
theorem eX8_faultIn_103 : xBr mX8_faultIn 103 (.ifCond .eq) (61) 106 164 := ⟨by decide +kernel, rfl, by decide⟩
theorem eX8_faultIn_106 : xAt mX8_faultIn 106 (.aload_n 0) 1 107 := ⟨by decide +kernel, rfl⟩
theorem eX8_faultIn_107 : xAt mX8_faultIn 107 (.getfield 21) 3 110 := ⟨by decide +kernel, rfl⟩
theorem eX8_faultIn_110 : xAt mX8_faultIn 110 (.aload_n 0) 1 111 := ⟨by decide +kernel, rfl⟩
theorem eX8_faultIn_111 : xAt mX8_faultIn 111 (.getfield 56) 3 114 := ⟨by decide +kernel, rfl⟩
theorem eX8_faultIn_114 : xAt mX8_faultIn 114 (.aload 6) 2 116 := ⟨by decide +kernel, rfl⟩
theorem eX8_faultIn_116 : xAt mX8_faultIn 116 (.invokevirtual 286) 3 119 := ⟨by decide +kernel, rfl⟩
theorem eX8_faultIn_119 : xBr mX8_faultIn 119 (.ifCond .ne) (35) 122 154 := ⟨by decide +kernel, rfl, by decide⟩
theorem eX8_faultIn_122 : xAt mX8_faultIn 122 (.aload_n 0) 1 123 := ⟨by decide +kernel, rfl⟩
theorem eX8_faultIn_123 : xAt mX8_faultIn 123 (.getfield 21) 3 126 := ⟨by decide +kernel, rfl⟩
theorem eX8_faultIn_126 : xAt mX8_faultIn 126 (.aload 6) 2 128 := ⟨by decide +kernel, rfl⟩
theorem eX8_faultIn_128 : xAt mX8_faultIn 128 (.aload_n 0) 1 129 := ⟨by decide +kernel, rfl⟩
theorem eX8_faultIn_129 : xAt mX8_faultIn 129 (.getfield 56) 3 132 := ⟨by decide +kernel, rfl⟩
theorem eX8_faultIn_132 : xAt mX8_faultIn 132 (.invokevirtual 286) 3 135 := ⟨by decide +kernel, rfl⟩
theorem eX8_faultIn_135 : xBr mX8_faultIn 135 (.ifCond .ne) (19) 138 154 := ⟨by decide +kernel, rfl, by decide⟩
theorem eX8_faultIn_138 : xAt mX8_faultIn 138 (.aload_n 0) 1 139 := ⟨by decide +kernel, rfl⟩
theorem eX8_faultIn_139 : xAt mX8_faultIn 139 (.getfield 21) 3 142 := ⟨by decide +kernel, rfl⟩
theorem eX8_faultIn_142 : xAt mX8_faultIn 142 (.aload_n 0) 1 143 := ⟨by decide +kernel, rfl⟩
theorem eX8_faultIn_143 : xAt mX8_faultIn 143 (.getfield 56) 3 146 := ⟨by decide +kernel, rfl⟩
theorem eX8_faultIn_146 : xAt mX8_faultIn 146 (.aload 6) 2 148 := ⟨by decide +kernel, rfl⟩
theorem eX8_faultIn_148 : xAt mX8_faultIn 148 (.invokevirtual 289) 3 151 := ⟨by decide +kernel, rfl⟩
theorem eX8_faultIn_151 : xBr mX8_faultIn 151 (.ifCond .eq) (13) 154 164 := ⟨by decide +kernel, rfl, by decide⟩
theorem eX8_faultIn_154 : xAt mX8_faultIn 154 (.aload_n 0) 1 155 := ⟨by decide +kernel, rfl⟩
theorem eX8_faultIn_155 : xAt mX8_faultIn 155 (.iload 5) 2 157 := ⟨by decide +kernel, rfl⟩
theorem eX8_faultIn_157 : xAt mX8_faultIn 157 (.putfield 59) 3 160 := ⟨by decide +kernel, rfl⟩
theorem eX8_faultIn_160 : xAt mX8_faultIn 160 (.sipush (-204)) 3 163 := ⟨by decide +kernel, rfl⟩
theorem eX8_faultIn_163 : xAt mX8_faultIn 163 (.ireturn) 1 164 := ⟨by decide +kernel, rfl⟩
theorem eX8_faultIn_164 : xAt mX8_faultIn 164 (.iinc 5 1) 3 167 := ⟨by decide +kernel, rfl⟩
theorem eX8_faultIn_167 : xBr mX8_faultIn 167 .goto (-123) 170 44 := ⟨by decide +kernel, rfl, by decide⟩
theorem eX8_faultIn_170 : xAt mX8_faultIn 170 (.iconst 0) 1 171 := ⟨by decide +kernel, rfl⟩
theorem eX8_faultIn_171 : xAt mX8_faultIn 171 (.ireturn) 1 172 := ⟨by decide +kernel, rfl⟩
theorem eX9_in_0 : xAt mX9_in 0 (.iload_n 0) 1 1 := ⟨by decide +kernel, rfl⟩
theorem eX9_in_1 : xAt mX9_in 1 (.iload_n 1) 1 2 := ⟨by decide +kernel, rfl⟩
theorem eX9_in_2 : xBr mX9_in 2 (.if_icmp .lt) (12) 5 14 := ⟨by decide +kernel, rfl, by decide⟩
theorem eX9_in_5 : xAt mX9_in 5 (.iload_n 0) 1 6 := ⟨by decide +kernel, rfl⟩
theorem eX9_in_6 : xAt mX9_in 6 (.iload_n 2) 1 7 := ⟨by decide +kernel, rfl⟩
theorem eX9_in_7 : xBr mX9_in 7 (.if_icmp .gt) (7) 10 14 := ⟨by decide +kernel, rfl, by decide⟩
theorem eX9_in_10 : xAt mX9_in 10 (.iconst 1) 1 11 := ⟨by decide +kernel, rfl⟩
theorem eX9_in_11 : xBr mX9_in 11 .goto (4) 14 15 := ⟨by decide +kernel, rfl, by decide⟩
theorem eX9_in_14 : xAt mX9_in 14 (.iconst 0) 1 15 := ⟨by decide +kernel, rfl⟩
theorem eX9_in_15 : xAt mX9_in 15 (.ireturn) 1 16 := ⟨by decide +kernel, rfl⟩
theorem eX9_carry_0 : xAt mX9_carry 0 (.iconst 0) 1 1 := ⟨by decide +kernel, rfl⟩
theorem eX9_carry_1 : xAt mX9_carry 1 (.istore_n 3) 1 2 := ⟨by decide +kernel, rfl⟩
theorem eX9_carry_2 : xAt mX9_carry 2 (.iload_n 3) 1 3 := ⟨by decide +kernel, rfl⟩
theorem eX9_carry_3 : xAt mX9_carry 3 (.iload_n 2) 1 4 := ⟨by decide +kernel, rfl⟩
theorem eX9_carry_4 : xAt mX9_carry 4 (.iconst 1) 1 5 := ⟨by decide +kernel, rfl⟩
theorem eX9_carry_5 : xAt mX9_carry 5 (.isub) 1 6 := ⟨by decide +kernel, rfl⟩
theorem eX9_carry_6 : xBr mX9_carry 6 (.if_icmp .ge) (42) 9 48 := ⟨by decide +kernel, rfl, by decide⟩
theorem eX9_carry_9 : xAt mX9_carry 9 (.aload_n 0) 1 10 := ⟨by decide +kernel, rfl⟩
theorem eX9_carry_10 : xAt mX9_carry 10 (.iload_n 1) 1 11 := ⟨by decide +kernel, rfl⟩
theorem eX9_carry_11 : xAt mX9_carry 11 (.iload_n 3) 1 12 := ⟨by decide +kernel, rfl⟩
theorem eX9_carry_12 : xAt mX9_carry 12 (.iadd) 1 13 := ⟨by decide +kernel, rfl⟩
theorem eX9_carry_13 : xAt mX9_carry 13 (.laload) 1 14 := ⟨by decide +kernel, rfl⟩
theorem eX9_carry_14 : xAt mX9_carry 14 (.bipush 24) 2 16 := ⟨by decide +kernel, rfl⟩
theorem eX9_carry_16 : xAt mX9_carry 16 (.lshr) 1 17 := ⟨by decide +kernel, rfl⟩
theorem eX9_carry_17 : xAt mX9_carry 17 (.lstore 4) 2 19 := ⟨by decide +kernel, rfl⟩
theorem eX9_carry_19 : xAt mX9_carry 19 (.aload_n 0) 1 20 := ⟨by decide +kernel, rfl⟩
theorem eX9_carry_20 : xAt mX9_carry 20 (.iload_n 1) 1 21 := ⟨by decide +kernel, rfl⟩
theorem eX9_carry_21 : xAt mX9_carry 21 (.iload_n 3) 1 22 := ⟨by decide +kernel, rfl⟩
theorem eX9_carry_22 : xAt mX9_carry 22 (.iadd) 1 23 := ⟨by decide +kernel, rfl⟩
theorem eX9_carry_23 : xAt mX9_carry 23 (.dup2) 1 24 := ⟨by decide +kernel, rfl⟩
theorem eX9_carry_24 : xAt mX9_carry 24 (.laload) 1 25 := ⟨by decide +kernel, rfl⟩
theorem eX9_carry_25 : xAt mX9_carry 25 (.ldc2_w 112) 3 28 := ⟨by decide +kernel, rfl⟩
theorem eX9_carry_28 : xAt mX9_carry 28 (.land) 1 29 := ⟨by decide +kernel, rfl⟩
theorem eX9_carry_29 : xAt mX9_carry 29 (.lastore) 1 30 := ⟨by decide +kernel, rfl⟩
theorem eX9_carry_30 : xAt mX9_carry 30 (.aload_n 0) 1 31 := ⟨by decide +kernel, rfl⟩
theorem eX9_carry_31 : xAt mX9_carry 31 (.iload_n 1) 1 32 := ⟨by decide +kernel, rfl⟩
theorem eX9_carry_32 : xAt mX9_carry 32 (.iload_n 3) 1 33 := ⟨by decide +kernel, rfl⟩
theorem eX9_carry_33 : xAt mX9_carry 33 (.iadd) 1 34 := ⟨by decide +kernel, rfl⟩
theorem eX9_carry_34 : xAt mX9_carry 34 (.iconst 1) 1 35 := ⟨by decide +kernel, rfl⟩
theorem eX9_carry_35 : xAt mX9_carry 35 (.iadd) 1 36 := ⟨by decide +kernel, rfl⟩
theorem eX9_carry_36 : xAt mX9_carry 36 (.dup2) 1 37 := ⟨by decide +kernel, rfl⟩
theorem eX9_carry_37 : xAt mX9_carry 37 (.laload) 1 38 := ⟨by decide +kernel, rfl⟩
theorem eX9_carry_38 : xAt mX9_carry 38 (.lload 4) 2 40 := ⟨by decide +kernel, rfl⟩
theorem eX9_carry_40 : xAt mX9_carry 40 (.ladd) 1 41 := ⟨by decide +kernel, rfl⟩
theorem eX9_carry_41 : xAt mX9_carry 41 (.lastore) 1 42 := ⟨by decide +kernel, rfl⟩
theorem eX9_carry_42 : xAt mX9_carry 42 (.iinc 3 1) 3 45 := ⟨by decide +kernel, rfl⟩
theorem eX9_carry_45 : xBr mX9_carry 45 .goto (-43) 48 2 := ⟨by decide +kernel, rfl, by decide⟩
theorem eX9_carry_48 : xAt mX9_carry 48 (.return_) 1 49 := ⟨by decide +kernel, rfl⟩
theorem eX9_signOf_0 : xAt mX9_signOf 0 (.aload_n 0) 1 1 := ⟨by decide +kernel, rfl⟩
theorem eX9_signOf_1 : xAt mX9_signOf 1 (.iload_n 1) 1 2 := ⟨by decide +kernel, rfl⟩
theorem eX9_signOf_2 : xAt mX9_signOf 2 (.iload_n 2) 1 3 := ⟨by decide +kernel, rfl⟩
theorem eX9_signOf_3 : xAt mX9_signOf 3 (.iadd) 1 4 := ⟨by decide +kernel, rfl⟩
theorem eX9_signOf_4 : xAt mX9_signOf 4 (.iconst 1) 1 5 := ⟨by decide +kernel, rfl⟩
theorem eX9_signOf_5 : xAt mX9_signOf 5 (.isub) 1 6 := ⟨by decide +kernel, rfl⟩
theorem eX9_signOf_6 : xAt mX9_signOf 6 (.laload) 1 7 := ⟨by decide +kernel, rfl⟩
theorem eX9_signOf_7 : xAt mX9_signOf 7 (.lconst 0) 1 8 := ⟨by decide +kernel, rfl⟩
theorem eX9_signOf_8 : xAt mX9_signOf 8 (.lcmp) 1 9 := ⟨by decide +kernel, rfl⟩
theorem eX9_signOf_9 : xBr mX9_signOf 9 (.ifCond .ge) (5) 12 14 := ⟨by decide +kernel, rfl, by decide⟩
theorem eX9_signOf_12 : xAt mX9_signOf 12 (.iconst (-1)) 1 13 := ⟨by decide +kernel, rfl⟩
theorem eX9_signOf_13 : xAt mX9_signOf 13 (.ireturn) 1 14 := ⟨by decide +kernel, rfl⟩
theorem eX9_signOf_14 : xAt mX9_signOf 14 (.iconst 0) 1 15 := ⟨by decide +kernel, rfl⟩
theorem eX9_signOf_15 : xAt mX9_signOf 15 (.istore_n 3) 1 16 := ⟨by decide +kernel, rfl⟩
theorem eX9_signOf_16 : xAt mX9_signOf 16 (.iload_n 3) 1 17 := ⟨by decide +kernel, rfl⟩
theorem eX9_signOf_17 : xAt mX9_signOf 17 (.iload_n 2) 1 18 := ⟨by decide +kernel, rfl⟩
theorem eX9_signOf_18 : xBr mX9_signOf 18 (.if_icmp .ge) (21) 21 39 := ⟨by decide +kernel, rfl, by decide⟩
theorem eX9_signOf_21 : xAt mX9_signOf 21 (.aload_n 0) 1 22 := ⟨by decide +kernel, rfl⟩
theorem eX9_signOf_22 : xAt mX9_signOf 22 (.iload_n 1) 1 23 := ⟨by decide +kernel, rfl⟩
theorem eX9_signOf_23 : xAt mX9_signOf 23 (.iload_n 3) 1 24 := ⟨by decide +kernel, rfl⟩
theorem eX9_signOf_24 : xAt mX9_signOf 24 (.iadd) 1 25 := ⟨by decide +kernel, rfl⟩
theorem eX9_signOf_25 : xAt mX9_signOf 25 (.laload) 1 26 := ⟨by decide +kernel, rfl⟩
theorem eX9_signOf_26 : xAt mX9_signOf 26 (.lconst 0) 1 27 := ⟨by decide +kernel, rfl⟩
theorem eX9_signOf_27 : xAt mX9_signOf 27 (.lcmp) 1 28 := ⟨by decide +kernel, rfl⟩
theorem eX9_signOf_28 : xBr mX9_signOf 28 (.ifCond .eq) (5) 31 33 := ⟨by decide +kernel, rfl, by decide⟩
theorem eX9_signOf_31 : xAt mX9_signOf 31 (.iconst 1) 1 32 := ⟨by decide +kernel, rfl⟩
theorem eX9_signOf_32 : xAt mX9_signOf 32 (.ireturn) 1 33 := ⟨by decide +kernel, rfl⟩
theorem eX9_signOf_33 : xAt mX9_signOf 33 (.iinc 3 1) 3 36 := ⟨by decide +kernel, rfl⟩
theorem eX9_signOf_36 : xBr mX9_signOf 36 .goto (-20) 39 16 := ⟨by decide +kernel, rfl, by decide⟩
theorem eX9_signOf_39 : xAt mX9_signOf 39 (.iconst 0) 1 40 := ⟨by decide +kernel, rfl⟩
theorem eX9_signOf_40 : xAt mX9_signOf 40 (.ireturn) 1 41 := ⟨by decide +kernel, rfl⟩
theorem eX9_isNumber_0 : xAt mX9_isNumber 0 (.lload_n 0) 1 1 := ⟨by decide +kernel, rfl⟩
theorem eX9_isNumber_1 : xAt mX9_isNumber 1 (.ldc2_w 114) 3 4 := ⟨by decide +kernel, rfl⟩
theorem eX9_isNumber_4 : xAt mX9_isNumber 4 (.land) 1 5 := ⟨by decide +kernel, rfl⟩
theorem eX9_isNumber_5 : xAt mX9_isNumber 5 (.lstore_n 2) 1 6 := ⟨by decide +kernel, rfl⟩
theorem eX9_isNumber_6 : xAt mX9_isNumber 6 (.lload_n 2) 1 7 := ⟨by decide +kernel, rfl⟩
theorem eX9_isNumber_7 : xAt mX9_isNumber 7 (.lconst 0) 1 8 := ⟨by decide +kernel, rfl⟩
theorem eX9_isNumber_8 : xAt mX9_isNumber 8 (.lcmp) 1 9 := ⟨by decide +kernel, rfl⟩
theorem eX9_isNumber_9 : xBr mX9_isNumber 9 (.ifCond .eq) (19) 12 28 := ⟨by decide +kernel, rfl, by decide⟩
theorem eX9_isNumber_12 : xAt mX9_isNumber 12 (.lload_n 2) 1 13 := ⟨by decide +kernel, rfl⟩
theorem eX9_isNumber_13 : xAt mX9_isNumber 13 (.ldc2_w 116) 3 16 := ⟨by decide +kernel, rfl⟩
theorem eX9_isNumber_16 : xAt mX9_isNumber 16 (.lcmp) 1 17 := ⟨by decide +kernel, rfl⟩
theorem eX9_isNumber_17 : xBr mX9_isNumber 17 (.ifCond .lt) (15) 20 32 := ⟨by decide +kernel, rfl, by decide⟩
theorem eX9_isNumber_20 : xAt mX9_isNumber 20 (.lload_n 2) 1 21 := ⟨by decide +kernel, rfl⟩
theorem eX9_isNumber_21 : xAt mX9_isNumber 21 (.ldc2_w 118) 3 24 := ⟨by decide +kernel, rfl⟩
theorem eX9_isNumber_24 : xAt mX9_isNumber 24 (.lcmp) 1 25 := ⟨by decide +kernel, rfl⟩
theorem eX9_isNumber_25 : xBr mX9_isNumber 25 (.ifCond .gt) (7) 28 32 := ⟨by decide +kernel, rfl, by decide⟩
theorem eX9_isNumber_28 : xAt mX9_isNumber 28 (.iconst 1) 1 29 := ⟨by decide +kernel, rfl⟩
theorem eX9_isNumber_29 : xBr mX9_isNumber 29 .goto (4) 32 33 := ⟨by decide +kernel, rfl, by decide⟩
theorem eX9_isNumber_32 : xAt mX9_isNumber 32 (.iconst 0) 1 33 := ⟨by decide +kernel, rfl⟩
theorem eX9_isNumber_33 : xAt mX9_isNumber 33 (.ireturn) 1 34 := ⟨by decide +kernel, rfl⟩
theorem eX9_plain_0 : xAt mX9_plain 0 (.lload_n 0) 1 1 := ⟨by decide +kernel, rfl⟩
theorem eX9_plain_1 : xAt mX9_plain 1 (.ldc2_w 114) 3 4 := ⟨by decide +kernel, rfl⟩
theorem eX9_plain_4 : xAt mX9_plain 4 (.land) 1 5 := ⟨by decide +kernel, rfl⟩
theorem eX9_plain_5 : xAt mX9_plain 5 (.lconst 0) 1 6 := ⟨by decide +kernel, rfl⟩
theorem eX9_plain_6 : xAt mX9_plain 6 (.lcmp) 1 7 := ⟨by decide +kernel, rfl⟩
theorem eX9_plain_7 : xBr mX9_plain 7 (.ifCond .ne) (7) 10 14 := ⟨by decide +kernel, rfl, by decide⟩
theorem eX9_plain_10 : xAt mX9_plain 10 (.lconst 0) 1 11 := ⟨by decide +kernel, rfl⟩
theorem eX9_plain_11 : xBr mX9_plain 11 .goto (4) 14 15 := ⟨by decide +kernel, rfl, by decide⟩
theorem eX9_plain_14 : xAt mX9_plain 14 (.lload_n 0) 1 15 := ⟨by decide +kernel, rfl⟩
theorem eX9_plain_15 : xAt mX9_plain 15 (.lreturn) 1 16 := ⟨by decide +kernel, rfl⟩
theorem eX9_whole_0 : xAt mX9_whole 0 (.lload_n 0) 1 1 := ⟨by decide +kernel, rfl⟩
theorem eX9_whole_1 : xAt mX9_whole 1 (.bipush 52) 2 3 := ⟨by decide +kernel, rfl⟩
theorem eX9_whole_3 : xAt mX9_whole 3 (.lshr) 1 4 := ⟨by decide +kernel, rfl⟩
theorem eX9_whole_4 : xAt mX9_whole 4 (.ldc2_w 120) 3 7 := ⟨by decide +kernel, rfl⟩
theorem eX9_whole_7 : xAt mX9_whole 7 (.land) 1 8 := ⟨by decide +kernel, rfl⟩
theorem eX9_whole_8 : xAt mX9_whole 8 (.l2i) 1 9 := ⟨by decide +kernel, rfl⟩
theorem eX9_whole_9 : xAt mX9_whole 9 (.istore 4) 2 11 := ⟨by decide +kernel, rfl⟩
theorem eX9_whole_11 : xAt mX9_whole 11 (.iload 4) 2 13 := ⟨by decide +kernel, rfl⟩
theorem eX9_whole_13 : xBr mX9_whole 13 (.ifCond .ne) (7) 16 20 := ⟨by decide +kernel, rfl, by decide⟩
theorem eX9_whole_16 : xAt mX9_whole 16 (.lconst 0) 1 17 := ⟨by decide +kernel, rfl⟩
theorem eX9_whole_17 : xBr mX9_whole 17 .goto (12) 20 29 := ⟨by decide +kernel, rfl, by decide⟩
theorem eX9_whole_20 : xAt mX9_whole 20 (.lload_n 0) 1 21 := ⟨by decide +kernel, rfl⟩
theorem eX9_whole_21 : xAt mX9_whole 21 (.ldc2_w 122) 3 24 := ⟨by decide +kernel, rfl⟩
theorem eX9_whole_24 : xAt mX9_whole 24 (.land) 1 25 := ⟨by decide +kernel, rfl⟩
theorem eX9_whole_25 : xAt mX9_whole 25 (.ldc2_w 124) 3 28 := ⟨by decide +kernel, rfl⟩
theorem eX9_whole_28 : xAt mX9_whole 28 (.lor) 1 29 := ⟨by decide +kernel, rfl⟩
theorem eX9_whole_29 : xAt mX9_whole 29 (.lstore 5) 2 31 := ⟨by decide +kernel, rfl⟩
theorem eX9_whole_31 : xAt mX9_whole 31 (.iload 4) 2 33 := ⟨by decide +kernel, rfl⟩
theorem eX9_whole_33 : xAt mX9_whole 33 (.sipush 1002) 3 36 := ⟨by decide +kernel, rfl⟩
theorem eX9_whole_36 : xAt mX9_whole 36 (.isub) 1 37 := ⟨by decide +kernel, rfl⟩
theorem eX9_whole_37 : xAt mX9_whole 37 (.istore 7) 2 39 := ⟨by decide +kernel, rfl⟩
theorem eX9_whole_39 : xAt mX9_whole 39 (.iconst 0) 1 40 := ⟨by decide +kernel, rfl⟩
theorem eX9_whole_40 : xAt mX9_whole 40 (.istore 8) 2 42 := ⟨by decide +kernel, rfl⟩
theorem eX9_whole_42 : xAt mX9_whole 42 (.iload 8) 2 44 := ⟨by decide +kernel, rfl⟩
theorem eX9_whole_44 : xAt mX9_whole 44 (.iconst 5) 1 45 := ⟨by decide +kernel, rfl⟩
theorem eX9_whole_45 : xBr mX9_whole 45 (.if_icmp .ge) (88) 48 133 := ⟨by decide +kernel, rfl, by decide⟩
theorem eX9_whole_48 : xAt mX9_whole 48 (.bipush 24) 2 50 := ⟨by decide +kernel, rfl⟩
theorem eX9_whole_50 : xAt mX9_whole 50 (.iload 8) 2 52 := ⟨by decide +kernel, rfl⟩
theorem eX9_whole_52 : xAt mX9_whole 52 (.imul) 1 53 := ⟨by decide +kernel, rfl⟩
theorem eX9_whole_53 : xAt mX9_whole 53 (.iload 7) 2 55 := ⟨by decide +kernel, rfl⟩
theorem eX9_whole_55 : xAt mX9_whole 55 (.isub) 1 56 := ⟨by decide +kernel, rfl⟩
theorem eX9_whole_56 : xAt mX9_whole 56 (.istore 9) 2 58 := ⟨by decide +kernel, rfl⟩
theorem eX9_whole_58 : xAt mX9_whole 58 (.iload 9) 2 60 := ⟨by decide +kernel, rfl⟩
theorem eX9_whole_60 : xBr mX9_whole 60 (.ifCond .lt) (22) 63 82 := ⟨by decide +kernel, rfl, by decide⟩
theorem eX9_whole_63 : xAt mX9_whole 63 (.iload 9) 2 65 := ⟨by decide +kernel, rfl⟩
theorem eX9_whole_65 : xAt mX9_whole 65 (.bipush 64) 2 67 := ⟨by decide +kernel, rfl⟩
theorem eX9_whole_67 : xBr mX9_whole 67 (.if_icmp .ge) (11) 70 78 := ⟨by decide +kernel, rfl, by decide⟩
theorem eX9_whole_70 : xAt mX9_whole 70 (.lload 5) 2 72 := ⟨by decide +kernel, rfl⟩
theorem eX9_whole_72 : xAt mX9_whole 72 (.iload 9) 2 74 := ⟨by decide +kernel, rfl⟩
theorem eX9_whole_74 : xAt mX9_whole 74 (.lshr) 1 75 := ⟨by decide +kernel, rfl⟩
theorem eX9_whole_75 : xBr mX9_whole 75 .goto (24) 78 99 := ⟨by decide +kernel, rfl, by decide⟩
theorem eX9_whole_78 : xAt mX9_whole 78 (.lconst 0) 1 79 := ⟨by decide +kernel, rfl⟩
theorem eX9_whole_79 : xBr mX9_whole 79 .goto (20) 82 99 := ⟨by decide +kernel, rfl, by decide⟩
theorem eX9_whole_82 : xAt mX9_whole 82 (.iload 9) 2 84 := ⟨by decide +kernel, rfl⟩
theorem eX9_whole_84 : xAt mX9_whole 84 (.bipush (-24)) 2 86 := ⟨by decide +kernel, rfl⟩
theorem eX9_whole_86 : xBr mX9_whole 86 (.if_icmp .le) (12) 89 98 := ⟨by decide +kernel, rfl, by decide⟩
theorem eX9_whole_89 : xAt mX9_whole 89 (.lload 5) 2 91 := ⟨by decide +kernel, rfl⟩
theorem eX9_whole_91 : xAt mX9_whole 91 (.iload 9) 2 93 := ⟨by decide +kernel, rfl⟩
theorem eX9_whole_93 : xAt mX9_whole 93 (.ineg) 1 94 := ⟨by decide +kernel, rfl⟩
theorem eX9_whole_94 : xAt mX9_whole 94 (.lshl) 1 95 := ⟨by decide +kernel, rfl⟩
theorem eX9_whole_95 : xBr mX9_whole 95 .goto (4) 98 99 := ⟨by decide +kernel, rfl, by decide⟩
theorem eX9_whole_98 : xAt mX9_whole 98 (.lconst 0) 1 99 := ⟨by decide +kernel, rfl⟩
theorem eX9_whole_99 : xAt mX9_whole 99 (.lstore 10) 2 101 := ⟨by decide +kernel, rfl⟩
theorem eX9_whole_101 : xAt mX9_whole 101 (.aload_n 2) 1 102 := ⟨by decide +kernel, rfl⟩
theorem eX9_whole_102 : xAt mX9_whole 102 (.iload_n 3) 1 103 := ⟨by decide +kernel, rfl⟩
theorem eX9_whole_103 : xAt mX9_whole 103 (.iload 8) 2 105 := ⟨by decide +kernel, rfl⟩
theorem eX9_whole_105 : xAt mX9_whole 105 (.iadd) 1 106 := ⟨by decide +kernel, rfl⟩
theorem eX9_whole_106 : xAt mX9_whole 106 (.lload_n 0) 1 107 := ⟨by decide +kernel, rfl⟩
theorem eX9_whole_107 : xAt mX9_whole 107 (.lconst 0) 1 108 := ⟨by decide +kernel, rfl⟩
theorem eX9_whole_108 : xAt mX9_whole 108 (.lcmp) 1 109 := ⟨by decide +kernel, rfl⟩
theorem eX9_whole_109 : xBr mX9_whole 109 (.ifCond .ge) (9) 112 118 := ⟨by decide +kernel, rfl, by decide⟩
theorem eX9_whole_112 : xAt mX9_whole 112 (.ldc2_w 126) 3 115 := ⟨by decide +kernel, rfl⟩
theorem eX9_whole_115 : xBr mX9_whole 115 .goto (4) 118 119 := ⟨by decide +kernel, rfl, by decide⟩
theorem eX9_whole_118 : xAt mX9_whole 118 (.lconst 1) 1 119 := ⟨by decide +kernel, rfl⟩
theorem eX9_whole_119 : xAt mX9_whole 119 (.lload 10) 2 121 := ⟨by decide +kernel, rfl⟩
theorem eX9_whole_121 : xAt mX9_whole 121 (.ldc2_w 112) 3 124 := ⟨by decide +kernel, rfl⟩
theorem eX9_whole_124 : xAt mX9_whole 124 (.land) 1 125 := ⟨by decide +kernel, rfl⟩
theorem eX9_whole_125 : xAt mX9_whole 125 (.lmul) 1 126 := ⟨by decide +kernel, rfl⟩
theorem eX9_whole_126 : xAt mX9_whole 126 (.lastore) 1 127 := ⟨by decide +kernel, rfl⟩
theorem eX9_whole_127 : xAt mX9_whole 127 (.iinc 8 1) 3 130 := ⟨by decide +kernel, rfl⟩
theorem eX9_whole_130 : xBr mX9_whole 130 .goto (-88) 133 42 := ⟨by decide +kernel, rfl, by decide⟩
theorem eX9_whole_133 : xAt mX9_whole 133 (.aload_n 2) 1 134 := ⟨by decide +kernel, rfl⟩
theorem eX9_whole_134 : xAt mX9_whole 134 (.iload_n 3) 1 135 := ⟨by decide +kernel, rfl⟩
theorem eX9_whole_135 : xAt mX9_whole 135 (.iconst 5) 1 136 := ⟨by decide +kernel, rfl⟩
theorem eX9_whole_136 : xAt mX9_whole 136 (.invokestatic 128) 3 139 := ⟨by decide +kernel, rfl⟩
theorem eX9_whole_139 : xAt mX9_whole 139 (.return_) 1 140 := ⟨by decide +kernel, rfl⟩
theorem eX9_lay_0 : xAt mX9_lay 0 (.aload_n 0) 1 1 := ⟨by decide +kernel, rfl⟩
theorem eX9_lay_1 : xAt mX9_lay 1 (.getfield 7) 3 4 := ⟨by decide +kernel, rfl⟩
theorem eX9_lay_4 : xAt mX9_lay 4 (.iload_n 1) 1 5 := ⟨by decide +kernel, rfl⟩
theorem eX9_lay_5 : xAt mX9_lay 5 (.lload_n 2) 1 6 := ⟨by decide +kernel, rfl⟩
theorem eX9_lay_6 : xAt mX9_lay 6 (.invokestatic 132) 3 9 := ⟨by decide +kernel, rfl⟩
theorem eX9_lay_9 : xAt mX9_lay 9 (.lastore) 1 10 := ⟨by decide +kernel, rfl⟩
theorem eX9_lay_10 : xAt mX9_lay 10 (.aload_n 0) 1 11 := ⟨by decide +kernel, rfl⟩
theorem eX9_lay_11 : xAt mX9_lay 11 (.getfield 13) 3 14 := ⟨by decide +kernel, rfl⟩
theorem eX9_lay_14 : xAt mX9_lay 14 (.iload_n 1) 1 15 := ⟨by decide +kernel, rfl⟩
theorem eX9_lay_15 : xAt mX9_lay 15 (.lload 4) 2 17 := ⟨by decide +kernel, rfl⟩
theorem eX9_lay_17 : xAt mX9_lay 17 (.invokestatic 132) 3 20 := ⟨by decide +kernel, rfl⟩
theorem eX9_lay_20 : xAt mX9_lay 20 (.lastore) 1 21 := ⟨by decide +kernel, rfl⟩
theorem eX9_lay_21 : xAt mX9_lay 21 (.aload_n 0) 1 22 := ⟨by decide +kernel, rfl⟩
theorem eX9_lay_22 : xAt mX9_lay 22 (.getfield 7) 3 25 := ⟨by decide +kernel, rfl⟩
theorem eX9_lay_25 : xAt mX9_lay 25 (.iload_n 1) 1 26 := ⟨by decide +kernel, rfl⟩
theorem eX9_lay_26 : xAt mX9_lay 26 (.laload) 1 27 := ⟨by decide +kernel, rfl⟩
theorem eX9_lay_27 : xAt mX9_lay 27 (.aload_n 0) 1 28 := ⟨by decide +kernel, rfl⟩
theorem eX9_lay_28 : xAt mX9_lay 28 (.getfield 16) 3 31 := ⟨by decide +kernel, rfl⟩
theorem eX9_lay_31 : xAt mX9_lay 31 (.iconst 5) 1 32 := ⟨by decide +kernel, rfl⟩
theorem eX9_lay_32 : xAt mX9_lay 32 (.iload_n 1) 1 33 := ⟨by decide +kernel, rfl⟩
theorem eX9_lay_33 : xAt mX9_lay 33 (.imul) 1 34 := ⟨by decide +kernel, rfl⟩
theorem eX9_lay_34 : xAt mX9_lay 34 (.invokestatic 136) 3 37 := ⟨by decide +kernel, rfl⟩
theorem eX9_lay_37 : xAt mX9_lay 37 (.aload_n 0) 1 38 := ⟨by decide +kernel, rfl⟩
theorem eX9_lay_38 : xAt mX9_lay 38 (.getfield 13) 3 41 := ⟨by decide +kernel, rfl⟩
theorem eX9_lay_41 : xAt mX9_lay 41 (.iload_n 1) 1 42 := ⟨by decide +kernel, rfl⟩
theorem eX9_lay_42 : xAt mX9_lay 42 (.laload) 1 43 := ⟨by decide +kernel, rfl⟩
theorem eX9_lay_43 : xAt mX9_lay 43 (.aload_n 0) 1 44 := ⟨by decide +kernel, rfl⟩
theorem eX9_lay_44 : xAt mX9_lay 44 (.getfield 19) 3 47 := ⟨by decide +kernel, rfl⟩
theorem eX9_lay_47 : xAt mX9_lay 47 (.iconst 5) 1 48 := ⟨by decide +kernel, rfl⟩
theorem eX9_lay_48 : xAt mX9_lay 48 (.iload_n 1) 1 49 := ⟨by decide +kernel, rfl⟩
theorem eX9_lay_49 : xAt mX9_lay 49 (.imul) 1 50 := ⟨by decide +kernel, rfl⟩
theorem eX9_lay_50 : xAt mX9_lay 50 (.invokestatic 136) 3 53 := ⟨by decide +kernel, rfl⟩
theorem eX9_lay_53 : xAt mX9_lay 53 (.return_) 1 54 := ⟨by decide +kernel, rfl⟩
theorem eX9_middle_0 : xAt mX9_middle 0 (.iconst 0) 1 1 := ⟨by decide +kernel, rfl⟩
theorem eX9_middle_1 : xAt mX9_middle 1 (.istore_n 3) 1 2 := ⟨by decide +kernel, rfl⟩
theorem eX9_middle_2 : xAt mX9_middle 2 (.iload_n 3) 1 3 := ⟨by decide +kernel, rfl⟩
theorem eX9_middle_3 : xAt mX9_middle 3 (.iconst 5) 1 4 := ⟨by decide +kernel, rfl⟩
theorem eX9_middle_4 : xBr mX9_middle 4 (.if_icmp .ge) (71) 7 75 := ⟨by decide +kernel, rfl, by decide⟩
theorem eX9_middle_7 : xAt mX9_middle 7 (.aload_n 0) 1 8 := ⟨by decide +kernel, rfl⟩
theorem eX9_middle_8 : xAt mX9_middle 8 (.getfield 16) 3 11 := ⟨by decide +kernel, rfl⟩
theorem eX9_middle_11 : xAt mX9_middle 11 (.sipush 1005) 3 14 := ⟨by decide +kernel, rfl⟩
theorem eX9_middle_14 : xAt mX9_middle 14 (.iload_n 3) 1 15 := ⟨by decide +kernel, rfl⟩
theorem eX9_middle_15 : xAt mX9_middle 15 (.iadd) 1 16 := ⟨by decide +kernel, rfl⟩
theorem eX9_middle_16 : xAt mX9_middle 16 (.aload_n 0) 1 17 := ⟨by decide +kernel, rfl⟩
theorem eX9_middle_17 : xAt mX9_middle 17 (.getfield 16) 3 20 := ⟨by decide +kernel, rfl⟩
theorem eX9_middle_20 : xAt mX9_middle 20 (.iconst 5) 1 21 := ⟨by decide +kernel, rfl⟩
theorem eX9_middle_21 : xAt mX9_middle 21 (.iload_n 1) 1 22 := ⟨by decide +kernel, rfl⟩
theorem eX9_middle_22 : xAt mX9_middle 22 (.imul) 1 23 := ⟨by decide +kernel, rfl⟩
theorem eX9_middle_23 : xAt mX9_middle 23 (.iload_n 3) 1 24 := ⟨by decide +kernel, rfl⟩
theorem eX9_middle_24 : xAt mX9_middle 24 (.iadd) 1 25 := ⟨by decide +kernel, rfl⟩
theorem eX9_middle_25 : xAt mX9_middle 25 (.laload) 1 26 := ⟨by decide +kernel, rfl⟩
theorem eX9_middle_26 : xAt mX9_middle 26 (.aload_n 0) 1 27 := ⟨by decide +kernel, rfl⟩
theorem eX9_middle_27 : xAt mX9_middle 27 (.getfield 16) 3 30 := ⟨by decide +kernel, rfl⟩
theorem eX9_middle_30 : xAt mX9_middle 30 (.iconst 5) 1 31 := ⟨by decide +kernel, rfl⟩
theorem eX9_middle_31 : xAt mX9_middle 31 (.iload_n 2) 1 32 := ⟨by decide +kernel, rfl⟩
theorem eX9_middle_32 : xAt mX9_middle 32 (.imul) 1 33 := ⟨by decide +kernel, rfl⟩
theorem eX9_middle_33 : xAt mX9_middle 33 (.iload_n 3) 1 34 := ⟨by decide +kernel, rfl⟩
theorem eX9_middle_34 : xAt mX9_middle 34 (.iadd) 1 35 := ⟨by decide +kernel, rfl⟩
theorem eX9_middle_35 : xAt mX9_middle 35 (.laload) 1 36 := ⟨by decide +kernel, rfl⟩
theorem eX9_middle_36 : xAt mX9_middle 36 (.ladd) 1 37 := ⟨by decide +kernel, rfl⟩
theorem eX9_middle_37 : xAt mX9_middle 37 (.lastore) 1 38 := ⟨by decide +kernel, rfl⟩
theorem eX9_middle_38 : xAt mX9_middle 38 (.aload_n 0) 1 39 := ⟨by decide +kernel, rfl⟩
theorem eX9_middle_39 : xAt mX9_middle 39 (.getfield 19) 3 42 := ⟨by decide +kernel, rfl⟩
theorem eX9_middle_42 : xAt mX9_middle 42 (.sipush 1005) 3 45 := ⟨by decide +kernel, rfl⟩
theorem eX9_middle_45 : xAt mX9_middle 45 (.iload_n 3) 1 46 := ⟨by decide +kernel, rfl⟩
theorem eX9_middle_46 : xAt mX9_middle 46 (.iadd) 1 47 := ⟨by decide +kernel, rfl⟩
theorem eX9_middle_47 : xAt mX9_middle 47 (.aload_n 0) 1 48 := ⟨by decide +kernel, rfl⟩
theorem eX9_middle_48 : xAt mX9_middle 48 (.getfield 19) 3 51 := ⟨by decide +kernel, rfl⟩
theorem eX9_middle_51 : xAt mX9_middle 51 (.iconst 5) 1 52 := ⟨by decide +kernel, rfl⟩
theorem eX9_middle_52 : xAt mX9_middle 52 (.iload_n 1) 1 53 := ⟨by decide +kernel, rfl⟩
theorem eX9_middle_53 : xAt mX9_middle 53 (.imul) 1 54 := ⟨by decide +kernel, rfl⟩
theorem eX9_middle_54 : xAt mX9_middle 54 (.iload_n 3) 1 55 := ⟨by decide +kernel, rfl⟩
theorem eX9_middle_55 : xAt mX9_middle 55 (.iadd) 1 56 := ⟨by decide +kernel, rfl⟩
theorem eX9_middle_56 : xAt mX9_middle 56 (.laload) 1 57 := ⟨by decide +kernel, rfl⟩
theorem eX9_middle_57 : xAt mX9_middle 57 (.aload_n 0) 1 58 := ⟨by decide +kernel, rfl⟩
theorem eX9_middle_58 : xAt mX9_middle 58 (.getfield 19) 3 61 := ⟨by decide +kernel, rfl⟩
theorem eX9_middle_61 : xAt mX9_middle 61 (.iconst 5) 1 62 := ⟨by decide +kernel, rfl⟩
theorem eX9_middle_62 : xAt mX9_middle 62 (.iload_n 2) 1 63 := ⟨by decide +kernel, rfl⟩
theorem eX9_middle_63 : xAt mX9_middle 63 (.imul) 1 64 := ⟨by decide +kernel, rfl⟩
theorem eX9_middle_64 : xAt mX9_middle 64 (.iload_n 3) 1 65 := ⟨by decide +kernel, rfl⟩
theorem eX9_middle_65 : xAt mX9_middle 65 (.iadd) 1 66 := ⟨by decide +kernel, rfl⟩
theorem eX9_middle_66 : xAt mX9_middle 66 (.laload) 1 67 := ⟨by decide +kernel, rfl⟩
theorem eX9_middle_67 : xAt mX9_middle 67 (.ladd) 1 68 := ⟨by decide +kernel, rfl⟩
theorem eX9_middle_68 : xAt mX9_middle 68 (.lastore) 1 69 := ⟨by decide +kernel, rfl⟩
theorem eX9_middle_69 : xAt mX9_middle 69 (.iinc 3 1) 3 72 := ⟨by decide +kernel, rfl⟩
theorem eX9_middle_72 : xBr mX9_middle 72 .goto (-70) 75 2 := ⟨by decide +kernel, rfl, by decide⟩
theorem eX9_middle_75 : xAt mX9_middle 75 (.aload_n 0) 1 76 := ⟨by decide +kernel, rfl⟩
theorem eX9_middle_76 : xAt mX9_middle 76 (.getfield 16) 3 79 := ⟨by decide +kernel, rfl⟩
theorem eX9_middle_79 : xAt mX9_middle 79 (.sipush 1005) 3 82 := ⟨by decide +kernel, rfl⟩
theorem eX9_middle_82 : xAt mX9_middle 82 (.iconst 5) 1 83 := ⟨by decide +kernel, rfl⟩
theorem eX9_middle_83 : xAt mX9_middle 83 (.invokestatic 128) 3 86 := ⟨by decide +kernel, rfl⟩
theorem eX9_middle_86 : xAt mX9_middle 86 (.aload_n 0) 1 87 := ⟨by decide +kernel, rfl⟩
theorem eX9_middle_87 : xAt mX9_middle 87 (.getfield 19) 3 90 := ⟨by decide +kernel, rfl⟩
theorem eX9_middle_90 : xAt mX9_middle 90 (.sipush 1005) 3 93 := ⟨by decide +kernel, rfl⟩
theorem eX9_middle_93 : xAt mX9_middle 93 (.iconst 5) 1 94 := ⟨by decide +kernel, rfl⟩
theorem eX9_middle_94 : xAt mX9_middle 94 (.invokestatic 128) 3 97 := ⟨by decide +kernel, rfl⟩
theorem eX9_middle_97 : xAt mX9_middle 97 (.aload_n 0) 1 98 := ⟨by decide +kernel, rfl⟩
theorem eX9_middle_98 : xAt mX9_middle 98 (.getfield 16) 3 101 := ⟨by decide +kernel, rfl⟩
theorem eX9_middle_101 : xAt mX9_middle 101 (.invokestatic 140) 3 104 := ⟨by decide +kernel, rfl⟩
theorem eX9_middle_104 : xAt mX9_middle 104 (.aload_n 0) 1 105 := ⟨by decide +kernel, rfl⟩
theorem eX9_middle_105 : xAt mX9_middle 105 (.getfield 19) 3 108 := ⟨by decide +kernel, rfl⟩
theorem eX9_middle_108 : xAt mX9_middle 108 (.invokestatic 140) 3 111 := ⟨by decide +kernel, rfl⟩
theorem eX9_middle_111 : xAt mX9_middle 111 (.return_) 1 112 := ⟨by decide +kernel, rfl⟩
theorem eX9_halve_0 : xAt mX9_halve 0 (.iconst 0) 1 1 := ⟨by decide +kernel, rfl⟩
theorem eX9_halve_1 : xAt mX9_halve 1 (.istore_n 1) 1 2 := ⟨by decide +kernel, rfl⟩
theorem eX9_halve_2 : xAt mX9_halve 2 (.iload_n 1) 1 3 := ⟨by decide +kernel, rfl⟩
theorem eX9_halve_3 : xAt mX9_halve 3 (.iconst 5) 1 4 := ⟨by decide +kernel, rfl⟩
theorem eX9_halve_4 : xBr mX9_halve 4 (.if_icmp .ge) (58) 7 62 := ⟨by decide +kernel, rfl, by decide⟩
theorem eX9_halve_7 : xAt mX9_halve 7 (.sipush 1005) 3 10 := ⟨by decide +kernel, rfl⟩
theorem eX9_halve_10 : xAt mX9_halve 10 (.iload_n 1) 1 11 := ⟨by decide +kernel, rfl⟩
theorem eX9_halve_11 : xAt mX9_halve 11 (.iadd) 1 12 := ⟨by decide +kernel, rfl⟩
theorem eX9_halve_12 : xAt mX9_halve 12 (.istore_n 2) 1 13 := ⟨by decide +kernel, rfl⟩
theorem eX9_halve_13 : xAt mX9_halve 13 (.iload_n 1) 1 14 := ⟨by decide +kernel, rfl⟩
theorem eX9_halve_14 : xAt mX9_halve 14 (.iconst 4) 1 15 := ⟨by decide +kernel, rfl⟩
theorem eX9_halve_15 : xBr mX9_halve 15 (.if_icmp .ge) (13) 18 28 := ⟨by decide +kernel, rfl, by decide⟩
theorem eX9_halve_18 : xAt mX9_halve 18 (.aload_n 0) 1 19 := ⟨by decide +kernel, rfl⟩
theorem eX9_halve_19 : xAt mX9_halve 19 (.iload_n 2) 1 20 := ⟨by decide +kernel, rfl⟩
theorem eX9_halve_20 : xAt mX9_halve 20 (.iconst 1) 1 21 := ⟨by decide +kernel, rfl⟩
theorem eX9_halve_21 : xAt mX9_halve 21 (.iadd) 1 22 := ⟨by decide +kernel, rfl⟩
theorem eX9_halve_22 : xAt mX9_halve 22 (.laload) 1 23 := ⟨by decide +kernel, rfl⟩
theorem eX9_halve_23 : xAt mX9_halve 23 (.lconst 1) 1 24 := ⟨by decide +kernel, rfl⟩
theorem eX9_halve_24 : xAt mX9_halve 24 (.land) 1 25 := ⟨by decide +kernel, rfl⟩
theorem eX9_halve_25 : xBr mX9_halve 25 .goto (4) 28 29 := ⟨by decide +kernel, rfl, by decide⟩
theorem eX9_halve_28 : xAt mX9_halve 28 (.lconst 0) 1 29 := ⟨by decide +kernel, rfl⟩
theorem eX9_halve_29 : xAt mX9_halve 29 (.lstore_n 3) 1 30 := ⟨by decide +kernel, rfl⟩
theorem eX9_halve_30 : xAt mX9_halve 30 (.aload_n 0) 1 31 := ⟨by decide +kernel, rfl⟩
theorem eX9_halve_31 : xAt mX9_halve 31 (.iload_n 2) 1 32 := ⟨by decide +kernel, rfl⟩
theorem eX9_halve_32 : xAt mX9_halve 32 (.iload_n 1) 1 33 := ⟨by decide +kernel, rfl⟩
theorem eX9_halve_33 : xAt mX9_halve 33 (.iconst 4) 1 34 := ⟨by decide +kernel, rfl⟩
theorem eX9_halve_34 : xBr mX9_halve 34 (.if_icmp .ge) (16) 37 50 := ⟨by decide +kernel, rfl, by decide⟩
theorem eX9_halve_37 : xAt mX9_halve 37 (.aload_n 0) 1 38 := ⟨by decide +kernel, rfl⟩
theorem eX9_halve_38 : xAt mX9_halve 38 (.iload_n 2) 1 39 := ⟨by decide +kernel, rfl⟩
theorem eX9_halve_39 : xAt mX9_halve 39 (.laload) 1 40 := ⟨by decide +kernel, rfl⟩
theorem eX9_halve_40 : xAt mX9_halve 40 (.lload_n 3) 1 41 := ⟨by decide +kernel, rfl⟩
theorem eX9_halve_41 : xAt mX9_halve 41 (.bipush 24) 2 43 := ⟨by decide +kernel, rfl⟩
theorem eX9_halve_43 : xAt mX9_halve 43 (.lshl) 1 44 := ⟨by decide +kernel, rfl⟩
theorem eX9_halve_44 : xAt mX9_halve 44 (.ladd) 1 45 := ⟨by decide +kernel, rfl⟩
theorem eX9_halve_45 : xAt mX9_halve 45 (.iconst 1) 1 46 := ⟨by decide +kernel, rfl⟩
theorem eX9_halve_46 : xAt mX9_halve 46 (.lshr) 1 47 := ⟨by decide +kernel, rfl⟩
theorem eX9_halve_47 : xBr mX9_halve 47 .goto (8) 50 55 := ⟨by decide +kernel, rfl, by decide⟩
theorem eX9_halve_50 : xAt mX9_halve 50 (.aload_n 0) 1 51 := ⟨by decide +kernel, rfl⟩
theorem eX9_halve_51 : xAt mX9_halve 51 (.iload_n 2) 1 52 := ⟨by decide +kernel, rfl⟩
theorem eX9_halve_52 : xAt mX9_halve 52 (.laload) 1 53 := ⟨by decide +kernel, rfl⟩
theorem eX9_halve_53 : xAt mX9_halve 53 (.iconst 1) 1 54 := ⟨by decide +kernel, rfl⟩
theorem eX9_halve_54 : xAt mX9_halve 54 (.lshr) 1 55 := ⟨by decide +kernel, rfl⟩
theorem eX9_halve_55 : xAt mX9_halve 55 (.lastore) 1 56 := ⟨by decide +kernel, rfl⟩
theorem eX9_halve_56 : xAt mX9_halve 56 (.iinc 1 1) 3 59 := ⟨by decide +kernel, rfl⟩
theorem eX9_halve_59 : xBr mX9_halve 59 .goto (-57) 62 2 := ⟨by decide +kernel, rfl, by decide⟩
theorem eX9_halve_62 : xAt mX9_halve 62 (.return_) 1 63 := ⟨by decide +kernel, rfl⟩
theorem eX9_times_0 : xAt mX9_times 0 (.iconst 0) 1 1 := ⟨by decide +kernel, rfl⟩
theorem eX9_times_1 : xAt mX9_times 1 (.istore 11) 2 3 := ⟨by decide +kernel, rfl⟩
theorem eX9_times_3 : xAt mX9_times 3 (.iload 11) 2 5 := ⟨by decide +kernel, rfl⟩
theorem eX9_times_5 : xAt mX9_times 5 (.iconst 5) 1 6 := ⟨by decide +kernel, rfl⟩
theorem eX9_times_6 : xBr mX9_times 6 (.if_icmp .ge) (80) 9 86 := ⟨by decide +kernel, rfl, by decide⟩
theorem eX9_times_9 : xAt mX9_times 9 (.aload_n 0) 1 10 := ⟨by decide +kernel, rfl⟩
theorem eX9_times_10 : xAt mX9_times 10 (.getfield 22) 3 13 := ⟨by decide +kernel, rfl⟩
theorem eX9_times_13 : xAt mX9_times 13 (.iload 11) 2 15 := ⟨by decide +kernel, rfl⟩
theorem eX9_times_15 : xAt mX9_times 15 (.aload_n 1) 1 16 := ⟨by decide +kernel, rfl⟩
theorem eX9_times_16 : xAt mX9_times 16 (.iconst 5) 1 17 := ⟨by decide +kernel, rfl⟩
theorem eX9_times_17 : xAt mX9_times 17 (.iload_n 2) 1 18 := ⟨by decide +kernel, rfl⟩
theorem eX9_times_18 : xAt mX9_times 18 (.imul) 1 19 := ⟨by decide +kernel, rfl⟩
theorem eX9_times_19 : xAt mX9_times 19 (.iload 11) 2 21 := ⟨by decide +kernel, rfl⟩
theorem eX9_times_21 : xAt mX9_times 21 (.iadd) 1 22 := ⟨by decide +kernel, rfl⟩
theorem eX9_times_22 : xAt mX9_times 22 (.laload) 1 23 := ⟨by decide +kernel, rfl⟩
theorem eX9_times_23 : xAt mX9_times 23 (.iload_n 3) 1 24 := ⟨by decide +kernel, rfl⟩
theorem eX9_times_24 : xAt mX9_times 24 (.iconst (-1)) 1 25 := ⟨by decide +kernel, rfl⟩
theorem eX9_times_25 : xBr mX9_times 25 (.if_icmp .ne) (7) 28 32 := ⟨by decide +kernel, rfl, by decide⟩
theorem eX9_times_28 : xAt mX9_times 28 (.lconst 0) 1 29 := ⟨by decide +kernel, rfl⟩
theorem eX9_times_29 : xBr mX9_times 29 .goto (11) 32 40 := ⟨by decide +kernel, rfl, by decide⟩
theorem eX9_times_32 : xAt mX9_times 32 (.aload_n 1) 1 33 := ⟨by decide +kernel, rfl⟩
theorem eX9_times_33 : xAt mX9_times 33 (.iconst 5) 1 34 := ⟨by decide +kernel, rfl⟩
theorem eX9_times_34 : xAt mX9_times 34 (.iload_n 3) 1 35 := ⟨by decide +kernel, rfl⟩
theorem eX9_times_35 : xAt mX9_times 35 (.imul) 1 36 := ⟨by decide +kernel, rfl⟩
theorem eX9_times_36 : xAt mX9_times 36 (.iload 11) 2 38 := ⟨by decide +kernel, rfl⟩
theorem eX9_times_38 : xAt mX9_times 38 (.iadd) 1 39 := ⟨by decide +kernel, rfl⟩
theorem eX9_times_39 : xAt mX9_times 39 (.laload) 1 40 := ⟨by decide +kernel, rfl⟩
theorem eX9_times_40 : xAt mX9_times 40 (.lsub) 1 41 := ⟨by decide +kernel, rfl⟩
theorem eX9_times_41 : xAt mX9_times 41 (.lastore) 1 42 := ⟨by decide +kernel, rfl⟩
theorem eX9_times_42 : xAt mX9_times 42 (.aload_n 0) 1 43 := ⟨by decide +kernel, rfl⟩
theorem eX9_times_43 : xAt mX9_times 43 (.getfield 25) 3 46 := ⟨by decide +kernel, rfl⟩
theorem eX9_times_46 : xAt mX9_times 46 (.iload 11) 2 48 := ⟨by decide +kernel, rfl⟩
theorem eX9_times_48 : xAt mX9_times 48 (.aload 4) 2 50 := ⟨by decide +kernel, rfl⟩
theorem eX9_times_50 : xAt mX9_times 50 (.iconst 5) 1 51 := ⟨by decide +kernel, rfl⟩
theorem eX9_times_51 : xAt mX9_times 51 (.iload 5) 2 53 := ⟨by decide +kernel, rfl⟩
theorem eX9_times_53 : xAt mX9_times 53 (.imul) 1 54 := ⟨by decide +kernel, rfl⟩
theorem eX9_times_54 : xAt mX9_times 54 (.iload 11) 2 56 := ⟨by decide +kernel, rfl⟩
theorem eX9_times_56 : xAt mX9_times 56 (.iadd) 1 57 := ⟨by decide +kernel, rfl⟩
theorem eX9_times_57 : xAt mX9_times 57 (.laload) 1 58 := ⟨by decide +kernel, rfl⟩
theorem eX9_times_58 : xAt mX9_times 58 (.iload 6) 2 60 := ⟨by decide +kernel, rfl⟩
theorem eX9_times_60 : xAt mX9_times 60 (.iconst (-1)) 1 61 := ⟨by decide +kernel, rfl⟩
theorem eX9_times_61 : xBr mX9_times 61 (.if_icmp .ne) (7) 64 68 := ⟨by decide +kernel, rfl, by decide⟩
theorem eX9_times_64 : xAt mX9_times 64 (.lconst 0) 1 65 := ⟨by decide +kernel, rfl⟩
theorem eX9_times_65 : xBr mX9_times 65 .goto (13) 68 78 := ⟨by decide +kernel, rfl, by decide⟩
theorem eX9_times_68 : xAt mX9_times 68 (.aload 4) 2 70 := ⟨by decide +kernel, rfl⟩
theorem eX9_times_70 : xAt mX9_times 70 (.iconst 5) 1 71 := ⟨by decide +kernel, rfl⟩
theorem eX9_times_71 : xAt mX9_times 71 (.iload 6) 2 73 := ⟨by decide +kernel, rfl⟩
theorem eX9_times_73 : xAt mX9_times 73 (.imul) 1 74 := ⟨by decide +kernel, rfl⟩
theorem eX9_times_74 : xAt mX9_times 74 (.iload 11) 2 76 := ⟨by decide +kernel, rfl⟩
theorem eX9_times_76 : xAt mX9_times 76 (.iadd) 1 77 := ⟨by decide +kernel, rfl⟩
theorem eX9_times_77 : xAt mX9_times 77 (.laload) 1 78 := ⟨by decide +kernel, rfl⟩
theorem eX9_times_78 : xAt mX9_times 78 (.lsub) 1 79 := ⟨by decide +kernel, rfl⟩
theorem eX9_times_79 : xAt mX9_times 79 (.lastore) 1 80 := ⟨by decide +kernel, rfl⟩
theorem eX9_times_80 : xAt mX9_times 80 (.iinc 11 1) 3 83 := ⟨by decide +kernel, rfl⟩
theorem eX9_times_83 : xBr mX9_times 83 .goto (-80) 86 3 := ⟨by decide +kernel, rfl, by decide⟩
theorem eX9_times_86 : xAt mX9_times 86 (.aload_n 0) 1 87 := ⟨by decide +kernel, rfl⟩
theorem eX9_times_87 : xAt mX9_times 87 (.getfield 22) 3 90 := ⟨by decide +kernel, rfl⟩
theorem eX9_times_90 : xAt mX9_times 90 (.iconst 0) 1 91 := ⟨by decide +kernel, rfl⟩
theorem eX9_times_91 : xAt mX9_times 91 (.iconst 5) 1 92 := ⟨by decide +kernel, rfl⟩
theorem eX9_times_92 : xAt mX9_times 92 (.invokestatic 128) 3 95 := ⟨by decide +kernel, rfl⟩
theorem eX9_times_95 : xAt mX9_times 95 (.aload_n 0) 1 96 := ⟨by decide +kernel, rfl⟩
theorem eX9_times_96 : xAt mX9_times 96 (.getfield 25) 3 99 := ⟨by decide +kernel, rfl⟩
theorem eX9_times_99 : xAt mX9_times 99 (.iconst 0) 1 100 := ⟨by decide +kernel, rfl⟩
theorem eX9_times_100 : xAt mX9_times 100 (.iconst 5) 1 101 := ⟨by decide +kernel, rfl⟩
theorem eX9_times_101 : xAt mX9_times 101 (.invokestatic 128) 3 104 := ⟨by decide +kernel, rfl⟩
theorem eX9_times_104 : xAt mX9_times 104 (.iconst 0) 1 105 := ⟨by decide +kernel, rfl⟩
theorem eX9_times_105 : xAt mX9_times 105 (.istore 11) 2 107 := ⟨by decide +kernel, rfl⟩
theorem eX9_times_107 : xAt mX9_times 107 (.iload 11) 2 109 := ⟨by decide +kernel, rfl⟩
theorem eX9_times_109 : xAt mX9_times 109 (.iconst 5) 1 110 := ⟨by decide +kernel, rfl⟩
theorem eX9_times_110 : xBr mX9_times 110 (.if_icmp .ge) (56) 113 166 := ⟨by decide +kernel, rfl, by decide⟩
theorem eX9_times_113 : xAt mX9_times 113 (.iconst 0) 1 114 := ⟨by decide +kernel, rfl⟩
theorem eX9_times_114 : xAt mX9_times 114 (.istore 12) 2 116 := ⟨by decide +kernel, rfl⟩
theorem eX9_times_116 : xAt mX9_times 116 (.iload 12) 2 118 := ⟨by decide +kernel, rfl⟩
theorem eX9_times_118 : xAt mX9_times 118 (.iconst 5) 1 119 := ⟨by decide +kernel, rfl⟩
theorem eX9_times_119 : xBr mX9_times 119 (.if_icmp .ge) (41) 122 160 := ⟨by decide +kernel, rfl, by decide⟩
theorem eX9_times_122 : xAt mX9_times 122 (.aload 7) 2 124 := ⟨by decide +kernel, rfl⟩
theorem eX9_times_124 : xAt mX9_times 124 (.iload 8) 2 126 := ⟨by decide +kernel, rfl⟩
theorem eX9_times_126 : xAt mX9_times 126 (.iload 11) 2 128 := ⟨by decide +kernel, rfl⟩
theorem eX9_times_128 : xAt mX9_times 128 (.iadd) 1 129 := ⟨by decide +kernel, rfl⟩
theorem eX9_times_129 : xAt mX9_times 129 (.iload 12) 2 131 := ⟨by decide +kernel, rfl⟩
theorem eX9_times_131 : xAt mX9_times 131 (.iadd) 1 132 := ⟨by decide +kernel, rfl⟩
theorem eX9_times_132 : xAt mX9_times 132 (.dup2) 1 133 := ⟨by decide +kernel, rfl⟩
theorem eX9_times_133 : xAt mX9_times 133 (.laload) 1 134 := ⟨by decide +kernel, rfl⟩
theorem eX9_times_134 : xAt mX9_times 134 (.lload 9) 2 136 := ⟨by decide +kernel, rfl⟩
theorem eX9_times_136 : xAt mX9_times 136 (.aload_n 0) 1 137 := ⟨by decide +kernel, rfl⟩
theorem eX9_times_137 : xAt mX9_times 137 (.getfield 22) 3 140 := ⟨by decide +kernel, rfl⟩
theorem eX9_times_140 : xAt mX9_times 140 (.iload 11) 2 142 := ⟨by decide +kernel, rfl⟩
theorem eX9_times_142 : xAt mX9_times 142 (.laload) 1 143 := ⟨by decide +kernel, rfl⟩
theorem eX9_times_143 : xAt mX9_times 143 (.lmul) 1 144 := ⟨by decide +kernel, rfl⟩
theorem eX9_times_144 : xAt mX9_times 144 (.aload_n 0) 1 145 := ⟨by decide +kernel, rfl⟩
theorem eX9_times_145 : xAt mX9_times 145 (.getfield 25) 3 148 := ⟨by decide +kernel, rfl⟩
theorem eX9_times_148 : xAt mX9_times 148 (.iload 12) 2 150 := ⟨by decide +kernel, rfl⟩
theorem eX9_times_150 : xAt mX9_times 150 (.laload) 1 151 := ⟨by decide +kernel, rfl⟩
theorem eX9_times_151 : xAt mX9_times 151 (.lmul) 1 152 := ⟨by decide +kernel, rfl⟩
theorem eX9_times_152 : xAt mX9_times 152 (.ladd) 1 153 := ⟨by decide +kernel, rfl⟩
theorem eX9_times_153 : xAt mX9_times 153 (.lastore) 1 154 := ⟨by decide +kernel, rfl⟩
theorem eX9_times_154 : xAt mX9_times 154 (.iinc 12 1) 3 157 := ⟨by decide +kernel, rfl⟩
theorem eX9_times_157 : xBr mX9_times 157 .goto (-41) 160 116 := ⟨by decide +kernel, rfl, by decide⟩
theorem eX9_times_160 : xAt mX9_times 160 (.iinc 11 1) 3 163 := ⟨by decide +kernel, rfl⟩
theorem eX9_times_163 : xBr mX9_times 163 .goto (-56) 166 107 := ⟨by decide +kernel, rfl, by decide⟩
theorem eX9_times_166 : xAt mX9_times 166 (.aload 7) 2 168 := ⟨by decide +kernel, rfl⟩
theorem eX9_times_168 : xAt mX9_times 168 (.iload 8) 2 170 := ⟨by decide +kernel, rfl⟩
theorem eX9_times_170 : xAt mX9_times 170 (.bipush 10) 2 172 := ⟨by decide +kernel, rfl⟩
theorem eX9_times_172 : xAt mX9_times 172 (.invokestatic 128) 3 175 := ⟨by decide +kernel, rfl⟩
theorem eX9_times_175 : xAt mX9_times 175 (.return_) 1 176 := ⟨by decide +kernel, rfl⟩
end
section
theorem eX9_clear_0 : xAt mX9_clear 0 (.iconst 0) 1 1 := ⟨by decide +kernel, rfl⟩
theorem eX9_clear_1 : xAt mX9_clear 1 (.istore_n 3) 1 2 := ⟨by decide +kernel, rfl⟩
theorem eX9_clear_2 : xAt mX9_clear 2 (.iload_n 3) 1 3 := ⟨by decide +kernel, rfl⟩
theorem eX9_clear_3 : xAt mX9_clear 3 (.iload_n 2) 1 4 := ⟨by decide +kernel, rfl⟩
theorem eX9_clear_4 : xBr mX9_clear 4 (.if_icmp .ge) (15) 7 19 := ⟨by decide +kernel, rfl, by decide⟩
theorem eX9_clear_7 : xAt mX9_clear 7 (.aload_n 0) 1 8 := ⟨by decide +kernel, rfl⟩
theorem eX9_clear_8 : xAt mX9_clear 8 (.iload_n 1) 1 9 := ⟨by decide +kernel, rfl⟩
theorem eX9_clear_9 : xAt mX9_clear 9 (.iload_n 3) 1 10 := ⟨by decide +kernel, rfl⟩
theorem eX9_clear_10 : xAt mX9_clear 10 (.iadd) 1 11 := ⟨by decide +kernel, rfl⟩
theorem eX9_clear_11 : xAt mX9_clear 11 (.lconst 0) 1 12 := ⟨by decide +kernel, rfl⟩
theorem eX9_clear_12 : xAt mX9_clear 12 (.lastore) 1 13 := ⟨by decide +kernel, rfl⟩
theorem eX9_clear_13 : xAt mX9_clear 13 (.iinc 3 1) 3 16 := ⟨by decide +kernel, rfl⟩
theorem eX9_clear_16 : xBr mX9_clear 16 .goto (-14) 19 2 := ⟨by decide +kernel, rfl, by decide⟩
theorem eX9_clear_19 : xAt mX9_clear 19 (.return_) 1 20 := ⟨by decide +kernel, rfl⟩
theorem eX9_turn_0 : xAt mX9_turn 0 (.aload_n 0) 1 1 := ⟨by decide +kernel, rfl⟩
theorem eX9_turn_1 : xAt mX9_turn 1 (.getfield 28) 3 4 := ⟨by decide +kernel, rfl⟩
theorem eX9_turn_4 : xAt mX9_turn 4 (.iconst 0) 1 5 := ⟨by decide +kernel, rfl⟩
theorem eX9_turn_5 : xAt mX9_turn 5 (.bipush 10) 2 7 := ⟨by decide +kernel, rfl⟩
theorem eX9_turn_7 : xAt mX9_turn 7 (.invokestatic 144) 3 10 := ⟨by decide +kernel, rfl⟩
theorem eX9_turn_10 : xAt mX9_turn 10 (.aload_n 0) 1 11 := ⟨by decide +kernel, rfl⟩
theorem eX9_turn_11 : xAt mX9_turn 11 (.aload_n 0) 1 12 := ⟨by decide +kernel, rfl⟩
theorem eX9_turn_12 : xAt mX9_turn 12 (.getfield 16) 3 15 := ⟨by decide +kernel, rfl⟩
theorem eX9_turn_15 : xAt mX9_turn 15 (.iload_n 1) 1 16 := ⟨by decide +kernel, rfl⟩
theorem eX9_turn_16 : xAt mX9_turn 16 (.iload_n 3) 1 17 := ⟨by decide +kernel, rfl⟩
theorem eX9_turn_17 : xAt mX9_turn 17 (.aload_n 0) 1 18 := ⟨by decide +kernel, rfl⟩
theorem eX9_turn_18 : xAt mX9_turn 18 (.getfield 19) 3 21 := ⟨by decide +kernel, rfl⟩
theorem eX9_turn_21 : xAt mX9_turn 21 (.iload_n 2) 1 22 := ⟨by decide +kernel, rfl⟩
theorem eX9_turn_22 : xAt mX9_turn 22 (.iload_n 3) 1 23 := ⟨by decide +kernel, rfl⟩
theorem eX9_turn_23 : xAt mX9_turn 23 (.aload_n 0) 1 24 := ⟨by decide +kernel, rfl⟩
theorem eX9_turn_24 : xAt mX9_turn 24 (.getfield 28) 3 27 := ⟨by decide +kernel, rfl⟩
theorem eX9_turn_27 : xAt mX9_turn 27 (.iconst 0) 1 28 := ⟨by decide +kernel, rfl⟩
theorem eX9_turn_28 : xAt mX9_turn 28 (.lconst 1) 1 29 := ⟨by decide +kernel, rfl⟩
theorem eX9_turn_29 : xAt mX9_turn 29 (.invokevirtual 147) 3 32 := ⟨by decide +kernel, rfl⟩
theorem eX9_turn_32 : xAt mX9_turn 32 (.aload_n 0) 1 33 := ⟨by decide +kernel, rfl⟩
theorem eX9_turn_33 : xAt mX9_turn 33 (.aload_n 0) 1 34 := ⟨by decide +kernel, rfl⟩
theorem eX9_turn_34 : xAt mX9_turn 34 (.getfield 19) 3 37 := ⟨by decide +kernel, rfl⟩
theorem eX9_turn_37 : xAt mX9_turn 37 (.iload_n 1) 1 38 := ⟨by decide +kernel, rfl⟩
theorem eX9_turn_38 : xAt mX9_turn 38 (.iload_n 3) 1 39 := ⟨by decide +kernel, rfl⟩
theorem eX9_turn_39 : xAt mX9_turn 39 (.aload_n 0) 1 40 := ⟨by decide +kernel, rfl⟩
theorem eX9_turn_40 : xAt mX9_turn 40 (.getfield 16) 3 43 := ⟨by decide +kernel, rfl⟩
theorem eX9_turn_43 : xAt mX9_turn 43 (.iload_n 2) 1 44 := ⟨by decide +kernel, rfl⟩
theorem eX9_turn_44 : xAt mX9_turn 44 (.iload_n 3) 1 45 := ⟨by decide +kernel, rfl⟩
theorem eX9_turn_45 : xAt mX9_turn 45 (.aload_n 0) 1 46 := ⟨by decide +kernel, rfl⟩
theorem eX9_turn_46 : xAt mX9_turn 46 (.getfield 28) 3 49 := ⟨by decide +kernel, rfl⟩
theorem eX9_turn_49 : xAt mX9_turn 49 (.iconst 0) 1 50 := ⟨by decide +kernel, rfl⟩
theorem eX9_turn_50 : xAt mX9_turn 50 (.ldc2_w 126) 3 53 := ⟨by decide +kernel, rfl⟩
theorem eX9_turn_53 : xAt mX9_turn 53 (.invokevirtual 147) 3 56 := ⟨by decide +kernel, rfl⟩
theorem eX9_turn_56 : xAt mX9_turn 56 (.aload_n 0) 1 57 := ⟨by decide +kernel, rfl⟩
theorem eX9_turn_57 : xAt mX9_turn 57 (.getfield 28) 3 60 := ⟨by decide +kernel, rfl⟩
theorem eX9_turn_60 : xAt mX9_turn 60 (.iconst 0) 1 61 := ⟨by decide +kernel, rfl⟩
theorem eX9_turn_61 : xAt mX9_turn 61 (.bipush 10) 2 63 := ⟨by decide +kernel, rfl⟩
theorem eX9_turn_63 : xAt mX9_turn 63 (.invokestatic 151) 3 66 := ⟨by decide +kernel, rfl⟩
theorem eX9_turn_66 : xAt mX9_turn 66 (.ireturn) 1 67 := ⟨by decide +kernel, rfl⟩
theorem eX9_order_0 : xAt mX9_order 0 (.iconst 4) 1 1 := ⟨by decide +kernel, rfl⟩
theorem eX9_order_1 : xAt mX9_order 1 (.istore_n 3) 1 2 := ⟨by decide +kernel, rfl⟩
theorem eX9_order_2 : xAt mX9_order 2 (.iload_n 3) 1 3 := ⟨by decide +kernel, rfl⟩
theorem eX9_order_3 : xBr mX9_order 3 (.ifCond .lt) (49) 6 52 := ⟨by decide +kernel, rfl, by decide⟩
theorem eX9_order_6 : xAt mX9_order 6 (.aload_n 0) 1 7 := ⟨by decide +kernel, rfl⟩
theorem eX9_order_7 : xAt mX9_order 7 (.iconst 5) 1 8 := ⟨by decide +kernel, rfl⟩
theorem eX9_order_8 : xAt mX9_order 8 (.iload_n 1) 1 9 := ⟨by decide +kernel, rfl⟩
theorem eX9_order_9 : xAt mX9_order 9 (.imul) 1 10 := ⟨by decide +kernel, rfl⟩
theorem eX9_order_10 : xAt mX9_order 10 (.iload_n 3) 1 11 := ⟨by decide +kernel, rfl⟩
theorem eX9_order_11 : xAt mX9_order 11 (.iadd) 1 12 := ⟨by decide +kernel, rfl⟩
theorem eX9_order_12 : xAt mX9_order 12 (.laload) 1 13 := ⟨by decide +kernel, rfl⟩
theorem eX9_order_13 : xAt mX9_order 13 (.lstore 4) 2 15 := ⟨by decide +kernel, rfl⟩
theorem eX9_order_15 : xAt mX9_order 15 (.aload_n 0) 1 16 := ⟨by decide +kernel, rfl⟩
theorem eX9_order_16 : xAt mX9_order 16 (.iconst 5) 1 17 := ⟨by decide +kernel, rfl⟩
theorem eX9_order_17 : xAt mX9_order 17 (.iload_n 2) 1 18 := ⟨by decide +kernel, rfl⟩
theorem eX9_order_18 : xAt mX9_order 18 (.imul) 1 19 := ⟨by decide +kernel, rfl⟩
theorem eX9_order_19 : xAt mX9_order 19 (.iload_n 3) 1 20 := ⟨by decide +kernel, rfl⟩
theorem eX9_order_20 : xAt mX9_order 20 (.iadd) 1 21 := ⟨by decide +kernel, rfl⟩
theorem eX9_order_21 : xAt mX9_order 21 (.laload) 1 22 := ⟨by decide +kernel, rfl⟩
theorem eX9_order_22 : xAt mX9_order 22 (.lstore 6) 2 24 := ⟨by decide +kernel, rfl⟩
theorem eX9_order_24 : xAt mX9_order 24 (.lload 4) 2 26 := ⟨by decide +kernel, rfl⟩
theorem eX9_order_26 : xAt mX9_order 26 (.lload 6) 2 28 := ⟨by decide +kernel, rfl⟩
theorem eX9_order_28 : xAt mX9_order 28 (.lcmp) 1 29 := ⟨by decide +kernel, rfl⟩
theorem eX9_order_29 : xBr mX9_order 29 (.ifCond .eq) (17) 32 46 := ⟨by decide +kernel, rfl, by decide⟩
theorem eX9_order_32 : xAt mX9_order 32 (.lload 4) 2 34 := ⟨by decide +kernel, rfl⟩
theorem eX9_order_34 : xAt mX9_order 34 (.lload 6) 2 36 := ⟨by decide +kernel, rfl⟩
theorem eX9_order_36 : xAt mX9_order 36 (.lcmp) 1 37 := ⟨by decide +kernel, rfl⟩
theorem eX9_order_37 : xBr mX9_order 37 (.ifCond .ge) (7) 40 44 := ⟨by decide +kernel, rfl, by decide⟩
theorem eX9_order_40 : xAt mX9_order 40 (.iconst (-1)) 1 41 := ⟨by decide +kernel, rfl⟩
theorem eX9_order_41 : xBr mX9_order 41 .goto (4) 44 45 := ⟨by decide +kernel, rfl, by decide⟩
theorem eX9_order_44 : xAt mX9_order 44 (.iconst 1) 1 45 := ⟨by decide +kernel, rfl⟩
theorem eX9_order_45 : xAt mX9_order 45 (.ireturn) 1 46 := ⟨by decide +kernel, rfl⟩
theorem eX9_order_46 : xAt mX9_order 46 (.iinc 3 (-1)) 3 49 := ⟨by decide +kernel, rfl⟩
theorem eX9_order_49 : xBr mX9_order 49 .goto (-47) 52 2 := ⟨by decide +kernel, rfl, by decide⟩
theorem eX9_order_52 : xAt mX9_order 52 (.iconst 0) 1 53 := ⟨by decide +kernel, rfl⟩
theorem eX9_order_53 : xAt mX9_order 53 (.ireturn) 1 54 := ⟨by decide +kernel, rfl⟩
theorem eX9_ahead_0 : xAt mX9_ahead 0 (.aload_n 0) 1 1 := ⟨by decide +kernel, rfl⟩
theorem eX9_ahead_1 : xAt mX9_ahead 1 (.getfield 16) 3 4 := ⟨by decide +kernel, rfl⟩
theorem eX9_ahead_4 : xAt mX9_ahead 4 (.iload_n 1) 1 5 := ⟨by decide +kernel, rfl⟩
theorem eX9_ahead_5 : xAt mX9_ahead 5 (.iload_n 2) 1 6 := ⟨by decide +kernel, rfl⟩
theorem eX9_ahead_6 : xAt mX9_ahead 6 (.invokestatic 155) 3 9 := ⟨by decide +kernel, rfl⟩
theorem eX9_ahead_9 : xAt mX9_ahead 9 (.istore_n 3) 1 10 := ⟨by decide +kernel, rfl⟩
theorem eX9_ahead_10 : xAt mX9_ahead 10 (.iload_n 3) 1 11 := ⟨by decide +kernel, rfl⟩
theorem eX9_ahead_11 : xBr mX9_ahead 11 (.ifCond .eq) (7) 14 18 := ⟨by decide +kernel, rfl, by decide⟩
theorem eX9_ahead_14 : xAt mX9_ahead 14 (.iload_n 3) 1 15 := ⟨by decide +kernel, rfl⟩
theorem eX9_ahead_15 : xBr mX9_ahead 15 .goto (12) 18 27 := ⟨by decide +kernel, rfl, by decide⟩
theorem eX9_ahead_18 : xAt mX9_ahead 18 (.aload_n 0) 1 19 := ⟨by decide +kernel, rfl⟩
theorem eX9_ahead_19 : xAt mX9_ahead 19 (.getfield 19) 3 22 := ⟨by decide +kernel, rfl⟩
theorem eX9_ahead_22 : xAt mX9_ahead 22 (.iload_n 1) 1 23 := ⟨by decide +kernel, rfl⟩
theorem eX9_ahead_23 : xAt mX9_ahead 23 (.iload_n 2) 1 24 := ⟨by decide +kernel, rfl⟩
theorem eX9_ahead_24 : xAt mX9_ahead 24 (.invokestatic 155) 3 27 := ⟨by decide +kernel, rfl⟩
theorem eX9_ahead_27 : xAt mX9_ahead 27 (.ireturn) 1 28 := ⟨by decide +kernel, rfl⟩
theorem eX9_isBetween_0 : xAt mX9_isBetween 0 (.aload_n 0) 1 1 := ⟨by decide +kernel, rfl⟩
theorem eX9_isBetween_1 : xAt mX9_isBetween 1 (.iload_n 1) 1 2 := ⟨by decide +kernel, rfl⟩
theorem eX9_isBetween_2 : xAt mX9_isBetween 2 (.iload_n 3) 1 3 := ⟨by decide +kernel, rfl⟩
theorem eX9_isBetween_3 : xAt mX9_isBetween 3 (.invokevirtual 158) 3 6 := ⟨by decide +kernel, rfl⟩
theorem eX9_isBetween_6 : xAt mX9_isBetween 6 (.istore 4) 2 8 := ⟨by decide +kernel, rfl⟩
theorem eX9_isBetween_8 : xAt mX9_isBetween 8 (.aload_n 0) 1 9 := ⟨by decide +kernel, rfl⟩
theorem eX9_isBetween_9 : xAt mX9_isBetween 9 (.iload_n 3) 1 10 := ⟨by decide +kernel, rfl⟩
theorem eX9_isBetween_10 : xAt mX9_isBetween 10 (.iload_n 2) 1 11 := ⟨by decide +kernel, rfl⟩
theorem eX9_isBetween_11 : xAt mX9_isBetween 11 (.invokevirtual 158) 3 14 := ⟨by decide +kernel, rfl⟩
theorem eX9_isBetween_14 : xAt mX9_isBetween 14 (.istore 5) 2 16 := ⟨by decide +kernel, rfl⟩
theorem eX9_isBetween_16 : xAt mX9_isBetween 16 (.iload 4) 2 18 := ⟨by decide +kernel, rfl⟩
theorem eX9_isBetween_18 : xBr mX9_isBetween 18 (.ifCond .gt) (8) 21 26 := ⟨by decide +kernel, rfl, by decide⟩
theorem eX9_isBetween_21 : xAt mX9_isBetween 21 (.iload 5) 2 23 := ⟨by decide +kernel, rfl⟩
theorem eX9_isBetween_23 : xBr mX9_isBetween 23 (.ifCond .le) (13) 26 36 := ⟨by decide +kernel, rfl, by decide⟩
theorem eX9_isBetween_26 : xAt mX9_isBetween 26 (.iload 4) 2 28 := ⟨by decide +kernel, rfl⟩
theorem eX9_isBetween_28 : xBr mX9_isBetween 28 (.ifCond .lt) (12) 31 40 := ⟨by decide +kernel, rfl, by decide⟩
theorem eX9_isBetween_31 : xAt mX9_isBetween 31 (.iload 5) 2 33 := ⟨by decide +kernel, rfl⟩
theorem eX9_isBetween_33 : xBr mX9_isBetween 33 (.ifCond .lt) (7) 36 40 := ⟨by decide +kernel, rfl, by decide⟩
theorem eX9_isBetween_36 : xAt mX9_isBetween 36 (.iconst 1) 1 37 := ⟨by decide +kernel, rfl⟩
theorem eX9_isBetween_37 : xBr mX9_isBetween 37 .goto (4) 40 41 := ⟨by decide +kernel, rfl, by decide⟩
theorem eX9_isBetween_40 : xAt mX9_isBetween 40 (.iconst 0) 1 41 := ⟨by decide +kernel, rfl⟩
theorem eX9_isBetween_41 : xAt mX9_isBetween 41 (.ireturn) 1 42 := ⟨by decide +kernel, rfl⟩
theorem eX9_isOn_0 : xAt mX9_isOn 0 (.aload_n 0) 1 1 := ⟨by decide +kernel, rfl⟩
theorem eX9_isOn_1 : xAt mX9_isOn 1 (.iload_n 1) 1 2 := ⟨by decide +kernel, rfl⟩
theorem eX9_isOn_2 : xAt mX9_isOn 2 (.iload_n 2) 1 3 := ⟨by decide +kernel, rfl⟩
theorem eX9_isOn_3 : xAt mX9_isOn 3 (.iload_n 3) 1 4 := ⟨by decide +kernel, rfl⟩
theorem eX9_isOn_4 : xAt mX9_isOn 4 (.invokevirtual 162) 3 7 := ⟨by decide +kernel, rfl⟩
theorem eX9_isOn_7 : xBr mX9_isOn 7 (.ifCond .ne) (17) 10 24 := ⟨by decide +kernel, rfl, by decide⟩
theorem eX9_isOn_10 : xAt mX9_isOn 10 (.aload_n 0) 1 11 := ⟨by decide +kernel, rfl⟩
theorem eX9_isOn_11 : xAt mX9_isOn 11 (.iload_n 1) 1 12 := ⟨by decide +kernel, rfl⟩
theorem eX9_isOn_12 : xAt mX9_isOn 12 (.iload_n 2) 1 13 := ⟨by decide +kernel, rfl⟩
theorem eX9_isOn_13 : xAt mX9_isOn 13 (.iload_n 3) 1 14 := ⟨by decide +kernel, rfl⟩
theorem eX9_isOn_14 : xAt mX9_isOn 14 (.invokevirtual 166) 3 17 := ⟨by decide +kernel, rfl⟩
theorem eX9_isOn_17 : xBr mX9_isOn 17 (.ifCond .eq) (7) 20 24 := ⟨by decide +kernel, rfl, by decide⟩
theorem eX9_isOn_20 : xAt mX9_isOn 20 (.iconst 1) 1 21 := ⟨by decide +kernel, rfl⟩
theorem eX9_isOn_21 : xBr mX9_isOn 21 .goto (4) 24 25 := ⟨by decide +kernel, rfl, by decide⟩
theorem eX9_isOn_24 : xAt mX9_isOn 24 (.iconst 0) 1 25 := ⟨by decide +kernel, rfl⟩
theorem eX9_isOn_25 : xAt mX9_isOn 25 (.ireturn) 1 26 := ⟨by decide +kernel, rfl⟩
theorem eX9_isCorner_0 : xAt mX9_isCorner 0 (.iload_n 1) 1 1 := ⟨by decide +kernel, rfl⟩
theorem eX9_isCorner_1 : xAt mX9_isCorner 1 (.iconst 0) 1 2 := ⟨by decide +kernel, rfl⟩
theorem eX9_isCorner_2 : xAt mX9_isCorner 2 (.aload_n 0) 1 3 := ⟨by decide +kernel, rfl⟩
theorem eX9_isCorner_3 : xAt mX9_isCorner 3 (.getfield 170) 3 6 := ⟨by decide +kernel, rfl⟩
theorem eX9_isCorner_6 : xAt mX9_isCorner 6 (.iconst 1) 1 7 := ⟨by decide +kernel, rfl⟩
theorem eX9_isCorner_7 : xAt mX9_isCorner 7 (.isub) 1 8 := ⟨by decide +kernel, rfl⟩
theorem eX9_isCorner_8 : xAt mX9_isCorner 8 (.invokestatic 173) 3 11 := ⟨by decide +kernel, rfl⟩
theorem eX9_isCorner_11 : xAt mX9_isCorner 11 (.ireturn) 1 12 := ⟨by decide +kernel, rfl⟩
theorem eX9_corner_0 : xAt mX9_corner 0 (.lload_n 1) 1 1 := ⟨by decide +kernel, rfl⟩
theorem eX9_corner_1 : xAt mX9_corner 1 (.invokestatic 176) 3 4 := ⟨by decide +kernel, rfl⟩
theorem eX9_corner_4 : xBr mX9_corner 4 (.ifCond .eq) (10) 7 14 := ⟨by decide +kernel, rfl, by decide⟩
theorem eX9_corner_7 : xAt mX9_corner 7 (.lload_n 3) 1 8 := ⟨by decide +kernel, rfl⟩
theorem eX9_corner_8 : xAt mX9_corner 8 (.invokestatic 176) 3 11 := ⟨by decide +kernel, rfl⟩
theorem eX9_corner_11 : xBr mX9_corner 11 (.ifCond .ne) (6) 14 17 := ⟨by decide +kernel, rfl, by decide⟩
theorem eX9_corner_14 : xAt mX9_corner 14 (.bipush (-102)) 2 16 := ⟨by decide +kernel, rfl⟩
theorem eX9_corner_16 : xAt mX9_corner 16 (.ireturn) 1 17 := ⟨by decide +kernel, rfl⟩
theorem eX9_corner_17 : xAt mX9_corner 17 (.iconst 0) 1 18 := ⟨by decide +kernel, rfl⟩
theorem eX9_corner_18 : xAt mX9_corner 18 (.istore 5) 2 20 := ⟨by decide +kernel, rfl⟩
theorem eX9_corner_20 : xAt mX9_corner 20 (.iload 5) 2 22 := ⟨by decide +kernel, rfl⟩
theorem eX9_corner_22 : xAt mX9_corner 22 (.aload_n 0) 1 23 := ⟨by decide +kernel, rfl⟩
theorem eX9_corner_23 : xAt mX9_corner 23 (.getfield 170) 3 26 := ⟨by decide +kernel, rfl⟩
theorem eX9_corner_26 : xBr mX9_corner 26 (.if_icmp .ge) (42) 29 68 := ⟨by decide +kernel, rfl, by decide⟩
theorem eX9_corner_29 : xAt mX9_corner 29 (.aload_n 0) 1 30 := ⟨by decide +kernel, rfl⟩
theorem eX9_corner_30 : xAt mX9_corner 30 (.getfield 7) 3 33 := ⟨by decide +kernel, rfl⟩
theorem eX9_corner_33 : xAt mX9_corner 33 (.iload 5) 2 35 := ⟨by decide +kernel, rfl⟩
theorem eX9_corner_35 : xAt mX9_corner 35 (.laload) 1 36 := ⟨by decide +kernel, rfl⟩
theorem eX9_corner_36 : xAt mX9_corner 36 (.lload_n 1) 1 37 := ⟨by decide +kernel, rfl⟩
theorem eX9_corner_37 : xAt mX9_corner 37 (.invokestatic 132) 3 40 := ⟨by decide +kernel, rfl⟩
theorem eX9_corner_40 : xAt mX9_corner 40 (.lcmp) 1 41 := ⟨by decide +kernel, rfl⟩
theorem eX9_corner_41 : xBr mX9_corner 41 (.ifCond .ne) (21) 44 62 := ⟨by decide +kernel, rfl, by decide⟩
theorem eX9_corner_44 : xAt mX9_corner 44 (.aload_n 0) 1 45 := ⟨by decide +kernel, rfl⟩
theorem eX9_corner_45 : xAt mX9_corner 45 (.getfield 13) 3 48 := ⟨by decide +kernel, rfl⟩
theorem eX9_corner_48 : xAt mX9_corner 48 (.iload 5) 2 50 := ⟨by decide +kernel, rfl⟩
theorem eX9_corner_50 : xAt mX9_corner 50 (.laload) 1 51 := ⟨by decide +kernel, rfl⟩
theorem eX9_corner_51 : xAt mX9_corner 51 (.lload_n 3) 1 52 := ⟨by decide +kernel, rfl⟩
theorem eX9_corner_52 : xAt mX9_corner 52 (.invokestatic 132) 3 55 := ⟨by decide +kernel, rfl⟩
theorem eX9_corner_55 : xAt mX9_corner 55 (.lcmp) 1 56 := ⟨by decide +kernel, rfl⟩
theorem eX9_corner_56 : xBr mX9_corner 56 (.ifCond .ne) (6) 59 62 := ⟨by decide +kernel, rfl, by decide⟩
theorem eX9_corner_59 : xAt mX9_corner 59 (.iload 5) 2 61 := ⟨by decide +kernel, rfl⟩
theorem eX9_corner_61 : xAt mX9_corner 61 (.ireturn) 1 62 := ⟨by decide +kernel, rfl⟩
theorem eX9_corner_62 : xAt mX9_corner 62 (.iinc 5 1) 3 65 := ⟨by decide +kernel, rfl⟩
theorem eX9_corner_65 : xBr mX9_corner 65 .goto (-45) 68 20 := ⟨by decide +kernel, rfl, by decide⟩
theorem eX9_corner_68 : xAt mX9_corner 68 (.aload_n 0) 1 69 := ⟨by decide +kernel, rfl⟩
theorem eX9_corner_69 : xAt mX9_corner 69 (.getfield 170) 3 72 := ⟨by decide +kernel, rfl⟩
theorem eX9_corner_72 : xAt mX9_corner 72 (.sipush 200) 3 75 := ⟨by decide +kernel, rfl⟩
theorem eX9_corner_75 : xBr mX9_corner 75 (.if_icmp .ne) (6) 78 81 := ⟨by decide +kernel, rfl, by decide⟩
theorem eX9_corner_78 : xAt mX9_corner 78 (.bipush (-104)) 2 80 := ⟨by decide +kernel, rfl⟩
theorem eX9_corner_80 : xAt mX9_corner 80 (.ireturn) 1 81 := ⟨by decide +kernel, rfl⟩
theorem eX9_corner_81 : xAt mX9_corner 81 (.aload_n 0) 1 82 := ⟨by decide +kernel, rfl⟩
theorem eX9_corner_82 : xAt mX9_corner 82 (.aload_n 0) 1 83 := ⟨by decide +kernel, rfl⟩
theorem eX9_corner_83 : xAt mX9_corner 83 (.getfield 170) 3 86 := ⟨by decide +kernel, rfl⟩
theorem eX9_corner_86 : xAt mX9_corner 86 (.lload_n 1) 1 87 := ⟨by decide +kernel, rfl⟩
theorem eX9_corner_87 : xAt mX9_corner 87 (.lload_n 3) 1 88 := ⟨by decide +kernel, rfl⟩
theorem eX9_corner_88 : xAt mX9_corner 88 (.invokevirtual 180) 3 91 := ⟨by decide +kernel, rfl⟩
theorem eX9_corner_91 : xAt mX9_corner 91 (.aload_n 0) 1 92 := ⟨by decide +kernel, rfl⟩
theorem eX9_corner_92 : xAt mX9_corner 92 (.dup) 1 93 := ⟨by decide +kernel, rfl⟩
theorem eX9_corner_93 : xAt mX9_corner 93 (.getfield 170) 3 96 := ⟨by decide +kernel, rfl⟩
theorem eX9_corner_96 : xAt mX9_corner 96 (.iconst 1) 1 97 := ⟨by decide +kernel, rfl⟩
theorem eX9_corner_97 : xAt mX9_corner 97 (.iadd) 1 98 := ⟨by decide +kernel, rfl⟩
theorem eX9_corner_98 : xAt mX9_corner 98 (.putfield 170) 3 101 := ⟨by decide +kernel, rfl⟩
theorem eX9_corner_101 : xAt mX9_corner 101 (.aload_n 0) 1 102 := ⟨by decide +kernel, rfl⟩
theorem eX9_corner_102 : xAt mX9_corner 102 (.getfield 170) 3 105 := ⟨by decide +kernel, rfl⟩
theorem eX9_corner_105 : xAt mX9_corner 105 (.iconst 1) 1 106 := ⟨by decide +kernel, rfl⟩
theorem eX9_corner_106 : xAt mX9_corner 106 (.isub) 1 107 := ⟨by decide +kernel, rfl⟩
theorem eX9_corner_107 : xAt mX9_corner 107 (.ireturn) 1 108 := ⟨by decide +kernel, rfl⟩
theorem eX9_at_0 : xAt mX9_at 0 (.aload_n 0) 1 1 := ⟨by decide +kernel, rfl⟩
theorem eX9_at_1 : xAt mX9_at 1 (.iload_n 1) 1 2 := ⟨by decide +kernel, rfl⟩
theorem eX9_at_2 : xAt mX9_at 2 (.invokevirtual 184) 3 5 := ⟨by decide +kernel, rfl⟩
theorem eX9_at_5 : xBr mX9_at 5 (.ifCond .ne) (7) 8 12 := ⟨by decide +kernel, rfl, by decide⟩
theorem eX9_at_8 : xAt mX9_at 8 (.ldc2_w 188) 3 11 := ⟨by decide +kernel, rfl⟩
theorem eX9_at_11 : xAt mX9_at 11 (.lreturn) 1 12 := ⟨by decide +kernel, rfl⟩
theorem eX9_at_12 : xAt mX9_at 12 (.iload_n 2) 1 13 := ⟨by decide +kernel, rfl⟩
theorem eX9_at_13 : xBr mX9_at 13 (.ifCond .ne) (12) 16 25 := ⟨by decide +kernel, rfl, by decide⟩
theorem eX9_at_16 : xAt mX9_at 16 (.aload_n 0) 1 17 := ⟨by decide +kernel, rfl⟩
theorem eX9_at_17 : xAt mX9_at 17 (.getfield 7) 3 20 := ⟨by decide +kernel, rfl⟩
theorem eX9_at_20 : xAt mX9_at 20 (.iload_n 1) 1 21 := ⟨by decide +kernel, rfl⟩
theorem eX9_at_21 : xAt mX9_at 21 (.laload) 1 22 := ⟨by decide +kernel, rfl⟩
theorem eX9_at_22 : xBr mX9_at 22 .goto (20) 25 42 := ⟨by decide +kernel, rfl, by decide⟩
theorem eX9_at_25 : xAt mX9_at 25 (.iload_n 2) 1 26 := ⟨by decide +kernel, rfl⟩
theorem eX9_at_26 : xAt mX9_at 26 (.iconst 1) 1 27 := ⟨by decide +kernel, rfl⟩
theorem eX9_at_27 : xBr mX9_at 27 (.if_icmp .ne) (12) 30 39 := ⟨by decide +kernel, rfl, by decide⟩
theorem eX9_at_30 : xAt mX9_at 30 (.aload_n 0) 1 31 := ⟨by decide +kernel, rfl⟩
theorem eX9_at_31 : xAt mX9_at 31 (.getfield 13) 3 34 := ⟨by decide +kernel, rfl⟩
theorem eX9_at_34 : xAt mX9_at 34 (.iload_n 1) 1 35 := ⟨by decide +kernel, rfl⟩
theorem eX9_at_35 : xAt mX9_at 35 (.laload) 1 36 := ⟨by decide +kernel, rfl⟩
theorem eX9_at_36 : xBr mX9_at 36 .goto (6) 39 42 := ⟨by decide +kernel, rfl, by decide⟩
theorem eX9_at_39 : xAt mX9_at 39 (.ldc2_w 190) 3 42 := ⟨by decide +kernel, rfl⟩
theorem eX9_at_42 : xAt mX9_at 42 (.lreturn) 1 43 := ⟨by decide +kernel, rfl⟩
theorem eX9_size_0 : xAt mX9_size 0 (.dload_n 0) 1 1 := ⟨by decide +kernel, rfl⟩
theorem eX9_size_1 : xAt mX9_size 1 (.dconst 0) 1 2 := ⟨by decide +kernel, rfl⟩
theorem eX9_size_2 : xAt mX9_size 2 (.dcmp .g) 1 3 := ⟨by decide +kernel, rfl⟩
theorem eX9_size_3 : xBr mX9_size 3 (.ifCond .ge) (8) 6 11 := ⟨by decide +kernel, rfl, by decide⟩
theorem eX9_size_6 : xAt mX9_size 6 (.dload_n 0) 1 7 := ⟨by decide +kernel, rfl⟩
theorem eX9_size_7 : xAt mX9_size 7 (.dneg) 1 8 := ⟨by decide +kernel, rfl⟩
theorem eX9_size_8 : xBr mX9_size 8 .goto (4) 11 12 := ⟨by decide +kernel, rfl, by decide⟩
theorem eX9_size_11 : xAt mX9_size 11 (.dload_n 0) 1 12 := ⟨by decide +kernel, rfl⟩
theorem eX9_size_12 : xAt mX9_size 12 (.dreturn) 1 13 := ⟨by decide +kernel, rfl⟩
theorem eX9_side_0 : xAt mX9_side 0 (.aload_n 0) 1 1 := ⟨by decide +kernel, rfl⟩
theorem eX9_side_1 : xAt mX9_side 1 (.iload_n 1) 1 2 := ⟨by decide +kernel, rfl⟩
theorem eX9_side_2 : xAt mX9_side 2 (.invokevirtual 184) 3 5 := ⟨by decide +kernel, rfl⟩
theorem eX9_side_5 : xBr mX9_side 5 (.ifCond .eq) (19) 8 24 := ⟨by decide +kernel, rfl, by decide⟩
theorem eX9_side_8 : xAt mX9_side 8 (.aload_n 0) 1 9 := ⟨by decide +kernel, rfl⟩
theorem eX9_side_9 : xAt mX9_side 9 (.iload_n 2) 1 10 := ⟨by decide +kernel, rfl⟩
theorem eX9_side_10 : xAt mX9_side 10 (.invokevirtual 184) 3 13 := ⟨by decide +kernel, rfl⟩
theorem eX9_side_13 : xBr mX9_side 13 (.ifCond .eq) (11) 16 24 := ⟨by decide +kernel, rfl, by decide⟩
theorem eX9_side_16 : xAt mX9_side 16 (.aload_n 0) 1 17 := ⟨by decide +kernel, rfl⟩
theorem eX9_side_17 : xAt mX9_side 17 (.iload_n 3) 1 18 := ⟨by decide +kernel, rfl⟩
theorem eX9_side_18 : xAt mX9_side 18 (.invokevirtual 184) 3 21 := ⟨by decide +kernel, rfl⟩
theorem eX9_side_21 : xBr mX9_side 21 (.ifCond .ne) (6) 24 27 := ⟨by decide +kernel, rfl, by decide⟩
theorem eX9_side_24 : xAt mX9_side 24 (.bipush (-101)) 2 26 := ⟨by decide +kernel, rfl⟩
theorem eX9_side_26 : xAt mX9_side 26 (.ireturn) 1 27 := ⟨by decide +kernel, rfl⟩
theorem eX9_side_27 : xAt mX9_side 27 (.aload_n 0) 1 28 := ⟨by decide +kernel, rfl⟩
theorem eX9_side_28 : xAt mX9_side 28 (.getfield 7) 3 31 := ⟨by decide +kernel, rfl⟩
theorem eX9_side_31 : xAt mX9_side 31 (.iload_n 3) 1 32 := ⟨by decide +kernel, rfl⟩
theorem eX9_side_32 : xAt mX9_side 32 (.laload) 1 33 := ⟨by decide +kernel, rfl⟩
theorem eX9_side_33 : xAt mX9_side 33 (.invokestatic 192) 3 36 := ⟨by decide +kernel, rfl⟩
theorem eX9_side_36 : xAt mX9_side 36 (.dstore 4) 2 38 := ⟨by decide +kernel, rfl⟩
theorem eX9_side_38 : xAt mX9_side 38 (.aload_n 0) 1 39 := ⟨by decide +kernel, rfl⟩
theorem eX9_side_39 : xAt mX9_side 39 (.getfield 13) 3 42 := ⟨by decide +kernel, rfl⟩
theorem eX9_side_42 : xAt mX9_side 42 (.iload_n 3) 1 43 := ⟨by decide +kernel, rfl⟩
theorem eX9_side_43 : xAt mX9_side 43 (.laload) 1 44 := ⟨by decide +kernel, rfl⟩
theorem eX9_side_44 : xAt mX9_side 44 (.invokestatic 192) 3 47 := ⟨by decide +kernel, rfl⟩
theorem eX9_side_47 : xAt mX9_side 47 (.dstore 6) 2 49 := ⟨by decide +kernel, rfl⟩
theorem eX9_side_49 : xAt mX9_side 49 (.aload_n 0) 1 50 := ⟨by decide +kernel, rfl⟩
theorem eX9_side_50 : xAt mX9_side 50 (.getfield 7) 3 53 := ⟨by decide +kernel, rfl⟩
theorem eX9_side_53 : xAt mX9_side 53 (.iload_n 1) 1 54 := ⟨by decide +kernel, rfl⟩
theorem eX9_side_54 : xAt mX9_side 54 (.laload) 1 55 := ⟨by decide +kernel, rfl⟩
theorem eX9_side_55 : xAt mX9_side 55 (.invokestatic 192) 3 58 := ⟨by decide +kernel, rfl⟩
theorem eX9_side_58 : xAt mX9_side 58 (.dload 4) 2 60 := ⟨by decide +kernel, rfl⟩
theorem eX9_side_60 : xAt mX9_side 60 (.dsub) 1 61 := ⟨by decide +kernel, rfl⟩
theorem eX9_side_61 : xAt mX9_side 61 (.aload_n 0) 1 62 := ⟨by decide +kernel, rfl⟩
theorem eX9_side_62 : xAt mX9_side 62 (.getfield 13) 3 65 := ⟨by decide +kernel, rfl⟩
theorem eX9_side_65 : xAt mX9_side 65 (.iload_n 2) 1 66 := ⟨by decide +kernel, rfl⟩
theorem eX9_side_66 : xAt mX9_side 66 (.laload) 1 67 := ⟨by decide +kernel, rfl⟩
theorem eX9_side_67 : xAt mX9_side 67 (.invokestatic 192) 3 70 := ⟨by decide +kernel, rfl⟩
theorem eX9_side_70 : xAt mX9_side 70 (.dload 6) 2 72 := ⟨by decide +kernel, rfl⟩
theorem eX9_side_72 : xAt mX9_side 72 (.dsub) 1 73 := ⟨by decide +kernel, rfl⟩
theorem eX9_side_73 : xAt mX9_side 73 (.dmul) 1 74 := ⟨by decide +kernel, rfl⟩
theorem eX9_side_74 : xAt mX9_side 74 (.dstore 8) 2 76 := ⟨by decide +kernel, rfl⟩
theorem eX9_side_76 : xAt mX9_side 76 (.aload_n 0) 1 77 := ⟨by decide +kernel, rfl⟩
theorem eX9_side_77 : xAt mX9_side 77 (.getfield 13) 3 80 := ⟨by decide +kernel, rfl⟩
theorem eX9_side_80 : xAt mX9_side 80 (.iload_n 1) 1 81 := ⟨by decide +kernel, rfl⟩
theorem eX9_side_81 : xAt mX9_side 81 (.laload) 1 82 := ⟨by decide +kernel, rfl⟩
theorem eX9_side_82 : xAt mX9_side 82 (.invokestatic 192) 3 85 := ⟨by decide +kernel, rfl⟩
theorem eX9_side_85 : xAt mX9_side 85 (.dload 6) 2 87 := ⟨by decide +kernel, rfl⟩
theorem eX9_side_87 : xAt mX9_side 87 (.dsub) 1 88 := ⟨by decide +kernel, rfl⟩
theorem eX9_side_88 : xAt mX9_side 88 (.aload_n 0) 1 89 := ⟨by decide +kernel, rfl⟩
theorem eX9_side_89 : xAt mX9_side 89 (.getfield 7) 3 92 := ⟨by decide +kernel, rfl⟩
theorem eX9_side_92 : xAt mX9_side 92 (.iload_n 2) 1 93 := ⟨by decide +kernel, rfl⟩
theorem eX9_side_93 : xAt mX9_side 93 (.laload) 1 94 := ⟨by decide +kernel, rfl⟩
theorem eX9_side_94 : xAt mX9_side 94 (.invokestatic 192) 3 97 := ⟨by decide +kernel, rfl⟩
theorem eX9_side_97 : xAt mX9_side 97 (.dload 4) 2 99 := ⟨by decide +kernel, rfl⟩
theorem eX9_side_99 : xAt mX9_side 99 (.dsub) 1 100 := ⟨by decide +kernel, rfl⟩
theorem eX9_side_100 : xAt mX9_side 100 (.dmul) 1 101 := ⟨by decide +kernel, rfl⟩
theorem eX9_side_101 : xAt mX9_side 101 (.dstore 10) 2 103 := ⟨by decide +kernel, rfl⟩
theorem eX9_side_103 : xAt mX9_side 103 (.aload_n 0) 1 104 := ⟨by decide +kernel, rfl⟩
theorem eX9_side_104 : xAt mX9_side 104 (.dload 8) 2 106 := ⟨by decide +kernel, rfl⟩
theorem eX9_side_106 : xAt mX9_side 106 (.dload 10) 2 108 := ⟨by decide +kernel, rfl⟩
theorem eX9_side_108 : xAt mX9_side 108 (.dsub) 1 109 := ⟨by decide +kernel, rfl⟩
theorem eX9_side_109 : xAt mX9_side 109 (.invokestatic 198) 3 112 := ⟨by decide +kernel, rfl⟩
theorem eX9_side_112 : xAt mX9_side 112 (.dload 8) 2 114 := ⟨by decide +kernel, rfl⟩
theorem eX9_side_114 : xAt mX9_side 114 (.invokestatic 198) 3 117 := ⟨by decide +kernel, rfl⟩
theorem eX9_side_117 : xAt mX9_side 117 (.dload 10) 2 119 := ⟨by decide +kernel, rfl⟩
theorem eX9_side_119 : xAt mX9_side 119 (.invokestatic 198) 3 122 := ⟨by decide +kernel, rfl⟩
theorem eX9_side_122 : xAt mX9_side 122 (.dadd) 1 123 := ⟨by decide +kernel, rfl⟩
theorem eX9_side_123 : xAt mX9_side 123 (.ldc2_w 202) 3 126 := ⟨by decide +kernel, rfl⟩
theorem eX9_side_126 : xAt mX9_side 126 (.invokestatic 192) 3 129 := ⟨by decide +kernel, rfl⟩
theorem eX9_side_129 : xAt mX9_side 129 (.dmul) 1 130 := ⟨by decide +kernel, rfl⟩
theorem eX9_side_130 : xAt mX9_side 130 (.dcmp .l) 1 131 := ⟨by decide +kernel, rfl⟩
theorem eX9_side_131 : xBr mX9_side 131 (.ifCond .le) (7) 134 138 := ⟨by decide +kernel, rfl, by decide⟩
theorem eX9_side_134 : xAt mX9_side 134 (.iconst 1) 1 135 := ⟨by decide +kernel, rfl⟩
theorem eX9_side_135 : xBr mX9_side 135 .goto (4) 138 139 := ⟨by decide +kernel, rfl, by decide⟩
theorem eX9_side_138 : xAt mX9_side 138 (.iconst 0) 1 139 := ⟨by decide +kernel, rfl⟩
theorem eX9_side_139 : xAt mX9_side 139 (.putfield 31) 3 142 := ⟨by decide +kernel, rfl⟩
theorem eX9_side_142 : xAt mX9_side 142 (.aload_n 0) 1 143 := ⟨by decide +kernel, rfl⟩
theorem eX9_side_143 : xAt mX9_side 143 (.iload_n 1) 1 144 := ⟨by decide +kernel, rfl⟩
theorem eX9_side_144 : xAt mX9_side 144 (.iload_n 2) 1 145 := ⟨by decide +kernel, rfl⟩
theorem eX9_side_145 : xAt mX9_side 145 (.iload_n 3) 1 146 := ⟨by decide +kernel, rfl⟩
theorem eX9_side_146 : xAt mX9_side 146 (.invokevirtual 162) 3 149 := ⟨by decide +kernel, rfl⟩
theorem eX9_side_149 : xAt mX9_side 149 (.ireturn) 1 150 := ⟨by decide +kernel, rfl⟩
theorem eX9_sure_0 : xAt mX9_sure 0 (.aload_n 0) 1 1 := ⟨by decide +kernel, rfl⟩
theorem eX9_sure_1 : xAt mX9_sure 1 (.getfield 31) 3 4 := ⟨by decide +kernel, rfl⟩
theorem eX9_sure_4 : xAt mX9_sure 4 (.ireturn) 1 5 := ⟨by decide +kernel, rfl⟩
theorem eX9_common_0 : xAt mX9_common 0 (.aload_n 0) 1 1 := ⟨by decide +kernel, rfl⟩
theorem eX9_common_1 : xAt mX9_common 1 (.iload_n 1) 1 2 := ⟨by decide +kernel, rfl⟩
theorem eX9_common_2 : xAt mX9_common 2 (.iload_n 2) 1 3 := ⟨by decide +kernel, rfl⟩
theorem eX9_common_3 : xAt mX9_common 3 (.iload_n 3) 1 4 := ⟨by decide +kernel, rfl⟩
theorem eX9_common_4 : xAt mX9_common 4 (.invokevirtual 162) 3 7 := ⟨by decide +kernel, rfl⟩
theorem eX9_common_7 : xAt mX9_common 7 (.istore 5) 2 9 := ⟨by decide +kernel, rfl⟩
theorem eX9_common_9 : xAt mX9_common 9 (.aload_n 0) 1 10 := ⟨by decide +kernel, rfl⟩
theorem eX9_common_10 : xAt mX9_common 10 (.iload_n 1) 1 11 := ⟨by decide +kernel, rfl⟩
theorem eX9_common_11 : xAt mX9_common 11 (.iload_n 2) 1 12 := ⟨by decide +kernel, rfl⟩
theorem eX9_common_12 : xAt mX9_common 12 (.iload 4) 2 14 := ⟨by decide +kernel, rfl⟩
theorem eX9_common_14 : xAt mX9_common 14 (.invokevirtual 162) 3 17 := ⟨by decide +kernel, rfl⟩
theorem eX9_common_17 : xAt mX9_common 17 (.istore 6) 2 19 := ⟨by decide +kernel, rfl⟩
theorem eX9_common_19 : xAt mX9_common 19 (.iload 5) 2 21 := ⟨by decide +kernel, rfl⟩
theorem eX9_common_21 : xBr mX9_common 21 (.ifCond .ne) (139) 24 160 := ⟨by decide +kernel, rfl, by decide⟩
theorem eX9_common_24 : xAt mX9_common 24 (.iload 6) 2 26 := ⟨by decide +kernel, rfl⟩
theorem eX9_common_26 : xBr mX9_common 26 (.ifCond .ne) (134) 29 160 := ⟨by decide +kernel, rfl, by decide⟩
theorem eX9_common_29 : xAt mX9_common 29 (.aload_n 0) 1 30 := ⟨by decide +kernel, rfl⟩
theorem eX9_common_30 : xAt mX9_common 30 (.iload_n 1) 1 31 := ⟨by decide +kernel, rfl⟩
theorem eX9_common_31 : xAt mX9_common 31 (.iload_n 2) 1 32 := ⟨by decide +kernel, rfl⟩
theorem eX9_common_32 : xAt mX9_common 32 (.invokevirtual 158) 3 35 := ⟨by decide +kernel, rfl⟩
theorem eX9_common_35 : xBr mX9_common 35 (.ifCond .ge) (7) 38 42 := ⟨by decide +kernel, rfl, by decide⟩
theorem eX9_common_38 : xAt mX9_common 38 (.iload_n 1) 1 39 := ⟨by decide +kernel, rfl⟩
theorem eX9_common_39 : xBr mX9_common 39 .goto (4) 42 43 := ⟨by decide +kernel, rfl, by decide⟩
theorem eX9_common_42 : xAt mX9_common 42 (.iload_n 2) 1 43 := ⟨by decide +kernel, rfl⟩
theorem eX9_common_43 : xAt mX9_common 43 (.istore 7) 2 45 := ⟨by decide +kernel, rfl⟩
theorem eX9_common_45 : xAt mX9_common 45 (.iload 7) 2 47 := ⟨by decide +kernel, rfl⟩
theorem eX9_common_47 : xAt mX9_common 47 (.iload_n 1) 1 48 := ⟨by decide +kernel, rfl⟩
theorem eX9_common_48 : xBr mX9_common 48 (.if_icmp .ne) (7) 51 55 := ⟨by decide +kernel, rfl, by decide⟩
theorem eX9_common_51 : xAt mX9_common 51 (.iload_n 2) 1 52 := ⟨by decide +kernel, rfl⟩
theorem eX9_common_52 : xBr mX9_common 52 .goto (4) 55 56 := ⟨by decide +kernel, rfl, by decide⟩
theorem eX9_common_55 : xAt mX9_common 55 (.iload_n 1) 1 56 := ⟨by decide +kernel, rfl⟩
theorem eX9_common_56 : xAt mX9_common 56 (.istore 8) 2 58 := ⟨by decide +kernel, rfl⟩
theorem eX9_common_58 : xAt mX9_common 58 (.aload_n 0) 1 59 := ⟨by decide +kernel, rfl⟩
theorem eX9_common_59 : xAt mX9_common 59 (.iload_n 3) 1 60 := ⟨by decide +kernel, rfl⟩
theorem eX9_common_60 : xAt mX9_common 60 (.iload 4) 2 62 := ⟨by decide +kernel, rfl⟩
theorem eX9_common_62 : xAt mX9_common 62 (.invokevirtual 158) 3 65 := ⟨by decide +kernel, rfl⟩
theorem eX9_common_65 : xBr mX9_common 65 (.ifCond .ge) (7) 68 72 := ⟨by decide +kernel, rfl, by decide⟩
theorem eX9_common_68 : xAt mX9_common 68 (.iload_n 3) 1 69 := ⟨by decide +kernel, rfl⟩
theorem eX9_common_69 : xBr mX9_common 69 .goto (5) 72 74 := ⟨by decide +kernel, rfl, by decide⟩
theorem eX9_common_72 : xAt mX9_common 72 (.iload 4) 2 74 := ⟨by decide +kernel, rfl⟩
theorem eX9_common_74 : xAt mX9_common 74 (.istore 9) 2 76 := ⟨by decide +kernel, rfl⟩
theorem eX9_common_76 : xAt mX9_common 76 (.iload 9) 2 78 := ⟨by decide +kernel, rfl⟩
theorem eX9_common_78 : xAt mX9_common 78 (.iload_n 3) 1 79 := ⟨by decide +kernel, rfl⟩
theorem eX9_common_79 : xBr mX9_common 79 (.if_icmp .ne) (8) 82 87 := ⟨by decide +kernel, rfl, by decide⟩
theorem eX9_common_82 : xAt mX9_common 82 (.iload 4) 2 84 := ⟨by decide +kernel, rfl⟩
theorem eX9_common_84 : xBr mX9_common 84 .goto (4) 87 88 := ⟨by decide +kernel, rfl, by decide⟩
theorem eX9_common_87 : xAt mX9_common 87 (.iload_n 3) 1 88 := ⟨by decide +kernel, rfl⟩
theorem eX9_common_88 : xAt mX9_common 88 (.istore 10) 2 90 := ⟨by decide +kernel, rfl⟩
theorem eX9_common_90 : xAt mX9_common 90 (.aload_n 0) 1 91 := ⟨by decide +kernel, rfl⟩
theorem eX9_common_91 : xAt mX9_common 91 (.iload 7) 2 93 := ⟨by decide +kernel, rfl⟩
theorem eX9_common_93 : xAt mX9_common 93 (.iload 9) 2 95 := ⟨by decide +kernel, rfl⟩
theorem eX9_common_95 : xAt mX9_common 95 (.invokevirtual 158) 3 98 := ⟨by decide +kernel, rfl⟩
theorem eX9_common_98 : xBr mX9_common 98 (.ifCond .ge) (8) 101 106 := ⟨by decide +kernel, rfl, by decide⟩
theorem eX9_common_101 : xAt mX9_common 101 (.iload 9) 2 103 := ⟨by decide +kernel, rfl⟩
theorem eX9_common_103 : xBr mX9_common 103 .goto (5) 106 108 := ⟨by decide +kernel, rfl, by decide⟩
theorem eX9_common_106 : xAt mX9_common 106 (.iload 7) 2 108 := ⟨by decide +kernel, rfl⟩
theorem eX9_common_108 : xAt mX9_common 108 (.istore 11) 2 110 := ⟨by decide +kernel, rfl⟩
theorem eX9_common_110 : xAt mX9_common 110 (.aload_n 0) 1 111 := ⟨by decide +kernel, rfl⟩
theorem eX9_common_111 : xAt mX9_common 111 (.iload 8) 2 113 := ⟨by decide +kernel, rfl⟩
theorem eX9_common_113 : xAt mX9_common 113 (.iload 10) 2 115 := ⟨by decide +kernel, rfl⟩
theorem eX9_common_115 : xAt mX9_common 115 (.invokevirtual 158) 3 118 := ⟨by decide +kernel, rfl⟩
theorem eX9_common_118 : xBr mX9_common 118 (.ifCond .ge) (8) 121 126 := ⟨by decide +kernel, rfl, by decide⟩
theorem eX9_common_121 : xAt mX9_common 121 (.iload 8) 2 123 := ⟨by decide +kernel, rfl⟩
theorem eX9_common_123 : xBr mX9_common 123 .goto (5) 126 128 := ⟨by decide +kernel, rfl, by decide⟩
theorem eX9_common_126 : xAt mX9_common 126 (.iload 10) 2 128 := ⟨by decide +kernel, rfl⟩
theorem eX9_common_128 : xAt mX9_common 128 (.istore 12) 2 130 := ⟨by decide +kernel, rfl⟩
theorem eX9_common_130 : xAt mX9_common 130 (.aload_n 0) 1 131 := ⟨by decide +kernel, rfl⟩
theorem eX9_common_131 : xAt mX9_common 131 (.iload 11) 2 133 := ⟨by decide +kernel, rfl⟩
theorem eX9_common_133 : xAt mX9_common 133 (.iload 12) 2 135 := ⟨by decide +kernel, rfl⟩
theorem eX9_common_135 : xAt mX9_common 135 (.invokevirtual 158) 3 138 := ⟨by decide +kernel, rfl⟩
theorem eX9_common_138 : xAt mX9_common 138 (.istore 13) 2 140 := ⟨by decide +kernel, rfl⟩
theorem eX9_common_140 : xAt mX9_common 140 (.iload 13) 2 142 := ⟨by decide +kernel, rfl⟩
theorem eX9_common_142 : xBr mX9_common 142 (.ifCond .ge) (7) 145 149 := ⟨by decide +kernel, rfl, by decide⟩
theorem eX9_common_145 : xAt mX9_common 145 (.iconst 3) 1 146 := ⟨by decide +kernel, rfl⟩
theorem eX9_common_146 : xBr mX9_common 146 .goto (13) 149 159 := ⟨by decide +kernel, rfl, by decide⟩
theorem eX9_common_149 : xAt mX9_common 149 (.iload 13) 2 151 := ⟨by decide +kernel, rfl⟩
theorem eX9_common_151 : xBr mX9_common 151 (.ifCond .ne) (7) 154 158 := ⟨by decide +kernel, rfl, by decide⟩
theorem eX9_common_154 : xAt mX9_common 154 (.iconst 2) 1 155 := ⟨by decide +kernel, rfl⟩
theorem eX9_common_155 : xBr mX9_common 155 .goto (4) 158 159 := ⟨by decide +kernel, rfl, by decide⟩
theorem eX9_common_158 : xAt mX9_common 158 (.iconst 0) 1 159 := ⟨by decide +kernel, rfl⟩
theorem eX9_common_159 : xAt mX9_common 159 (.ireturn) 1 160 := ⟨by decide +kernel, rfl⟩
theorem eX9_common_160 : xAt mX9_common 160 (.aload_n 0) 1 161 := ⟨by decide +kernel, rfl⟩
theorem eX9_common_161 : xAt mX9_common 161 (.iload_n 3) 1 162 := ⟨by decide +kernel, rfl⟩
theorem eX9_common_162 : xAt mX9_common 162 (.iload 4) 2 164 := ⟨by decide +kernel, rfl⟩
theorem eX9_common_164 : xAt mX9_common 164 (.iload_n 1) 1 165 := ⟨by decide +kernel, rfl⟩
theorem eX9_common_165 : xAt mX9_common 165 (.invokevirtual 162) 3 168 := ⟨by decide +kernel, rfl⟩
theorem eX9_common_168 : xAt mX9_common 168 (.istore 7) 2 170 := ⟨by decide +kernel, rfl⟩
theorem eX9_common_170 : xAt mX9_common 170 (.aload_n 0) 1 171 := ⟨by decide +kernel, rfl⟩
theorem eX9_common_171 : xAt mX9_common 171 (.iload_n 3) 1 172 := ⟨by decide +kernel, rfl⟩
theorem eX9_common_172 : xAt mX9_common 172 (.iload 4) 2 174 := ⟨by decide +kernel, rfl⟩
theorem eX9_common_174 : xAt mX9_common 174 (.iload_n 2) 1 175 := ⟨by decide +kernel, rfl⟩
theorem eX9_common_175 : xAt mX9_common 175 (.invokevirtual 162) 3 178 := ⟨by decide +kernel, rfl⟩
theorem eX9_common_178 : xAt mX9_common 178 (.istore 8) 2 180 := ⟨by decide +kernel, rfl⟩
theorem eX9_common_180 : xAt mX9_common 180 (.iload 5) 2 182 := ⟨by decide +kernel, rfl⟩
theorem eX9_common_182 : xAt mX9_common 182 (.iload 6) 2 184 := ⟨by decide +kernel, rfl⟩
theorem eX9_common_184 : xAt mX9_common 184 (.imul) 1 185 := ⟨by decide +kernel, rfl⟩
theorem eX9_common_185 : xBr mX9_common 185 (.ifCond .ge) (13) 188 198 := ⟨by decide +kernel, rfl, by decide⟩
theorem eX9_common_188 : xAt mX9_common 188 (.iload 7) 2 190 := ⟨by decide +kernel, rfl⟩
theorem eX9_common_190 : xAt mX9_common 190 (.iload 8) 2 192 := ⟨by decide +kernel, rfl⟩
theorem eX9_common_192 : xAt mX9_common 192 (.imul) 1 193 := ⟨by decide +kernel, rfl⟩
theorem eX9_common_193 : xBr mX9_common 193 (.ifCond .ge) (5) 196 198 := ⟨by decide +kernel, rfl, by decide⟩
theorem eX9_common_196 : xAt mX9_common 196 (.iconst 1) 1 197 := ⟨by decide +kernel, rfl⟩
theorem eX9_common_197 : xAt mX9_common 197 (.ireturn) 1 198 := ⟨by decide +kernel, rfl⟩
theorem eX9_common_198 : xAt mX9_common 198 (.iload 5) 2 200 := ⟨by decide +kernel, rfl⟩
theorem eX9_common_200 : xBr mX9_common 200 (.ifCond .ne) (13) 203 213 := ⟨by decide +kernel, rfl, by decide⟩
theorem eX9_common_203 : xAt mX9_common 203 (.aload_n 0) 1 204 := ⟨by decide +kernel, rfl⟩
theorem eX9_common_204 : xAt mX9_common 204 (.iload_n 1) 1 205 := ⟨by decide +kernel, rfl⟩
theorem eX9_common_205 : xAt mX9_common 205 (.iload_n 2) 1 206 := ⟨by decide +kernel, rfl⟩
theorem eX9_common_206 : xAt mX9_common 206 (.iload_n 3) 1 207 := ⟨by decide +kernel, rfl⟩
theorem eX9_common_207 : xAt mX9_common 207 (.invokevirtual 166) 3 210 := ⟨by decide +kernel, rfl⟩
theorem eX9_common_210 : xBr mX9_common 210 (.ifCond .ne) (51) 213 261 := ⟨by decide +kernel, rfl, by decide⟩
theorem eX9_common_213 : xAt mX9_common 213 (.iload 6) 2 215 := ⟨by decide +kernel, rfl⟩
theorem eX9_common_215 : xBr mX9_common 215 (.ifCond .ne) (14) 218 229 := ⟨by decide +kernel, rfl, by decide⟩
theorem eX9_common_218 : xAt mX9_common 218 (.aload_n 0) 1 219 := ⟨by decide +kernel, rfl⟩
theorem eX9_common_219 : xAt mX9_common 219 (.iload_n 1) 1 220 := ⟨by decide +kernel, rfl⟩
theorem eX9_common_220 : xAt mX9_common 220 (.iload_n 2) 1 221 := ⟨by decide +kernel, rfl⟩
theorem eX9_common_221 : xAt mX9_common 221 (.iload 4) 2 223 := ⟨by decide +kernel, rfl⟩
theorem eX9_common_223 : xAt mX9_common 223 (.invokevirtual 166) 3 226 := ⟨by decide +kernel, rfl⟩
theorem eX9_common_226 : xBr mX9_common 226 (.ifCond .ne) (35) 229 261 := ⟨by decide +kernel, rfl, by decide⟩
theorem eX9_common_229 : xAt mX9_common 229 (.iload 7) 2 231 := ⟨by decide +kernel, rfl⟩
theorem eX9_common_231 : xBr mX9_common 231 (.ifCond .ne) (14) 234 245 := ⟨by decide +kernel, rfl, by decide⟩
theorem eX9_common_234 : xAt mX9_common 234 (.aload_n 0) 1 235 := ⟨by decide +kernel, rfl⟩
theorem eX9_common_235 : xAt mX9_common 235 (.iload_n 3) 1 236 := ⟨by decide +kernel, rfl⟩
theorem eX9_common_236 : xAt mX9_common 236 (.iload 4) 2 238 := ⟨by decide +kernel, rfl⟩
theorem eX9_common_238 : xAt mX9_common 238 (.iload_n 1) 1 239 := ⟨by decide +kernel, rfl⟩
theorem eX9_common_239 : xAt mX9_common 239 (.invokevirtual 166) 3 242 := ⟨by decide +kernel, rfl⟩
theorem eX9_common_242 : xBr mX9_common 242 (.ifCond .ne) (19) 245 261 := ⟨by decide +kernel, rfl, by decide⟩
theorem eX9_common_245 : xAt mX9_common 245 (.iload 8) 2 247 := ⟨by decide +kernel, rfl⟩
theorem eX9_common_247 : xBr mX9_common 247 (.ifCond .ne) (18) 250 265 := ⟨by decide +kernel, rfl, by decide⟩
theorem eX9_common_250 : xAt mX9_common 250 (.aload_n 0) 1 251 := ⟨by decide +kernel, rfl⟩
theorem eX9_common_251 : xAt mX9_common 251 (.iload_n 3) 1 252 := ⟨by decide +kernel, rfl⟩
theorem eX9_common_252 : xAt mX9_common 252 (.iload 4) 2 254 := ⟨by decide +kernel, rfl⟩
theorem eX9_common_254 : xAt mX9_common 254 (.iload_n 2) 1 255 := ⟨by decide +kernel, rfl⟩
theorem eX9_common_255 : xAt mX9_common 255 (.invokevirtual 166) 3 258 := ⟨by decide +kernel, rfl⟩
theorem eX9_common_258 : xBr mX9_common 258 (.ifCond .eq) (7) 261 265 := ⟨by decide +kernel, rfl, by decide⟩
theorem eX9_common_261 : xAt mX9_common 261 (.iconst 1) 1 262 := ⟨by decide +kernel, rfl⟩
theorem eX9_common_262 : xBr mX9_common 262 .goto (4) 265 266 := ⟨by decide +kernel, rfl, by decide⟩
theorem eX9_common_265 : xAt mX9_common 265 (.iconst 0) 1 266 := ⟨by decide +kernel, rfl⟩
theorem eX9_common_266 : xAt mX9_common 266 (.istore 9) 2 268 := ⟨by decide +kernel, rfl⟩
theorem eX9_common_268 : xAt mX9_common 268 (.iload 9) 2 270 := ⟨by decide +kernel, rfl⟩
theorem eX9_common_270 : xBr mX9_common 270 (.ifCond .eq) (7) 273 277 := ⟨by decide +kernel, rfl, by decide⟩
theorem eX9_common_273 : xAt mX9_common 273 (.iconst 2) 1 274 := ⟨by decide +kernel, rfl⟩
theorem eX9_common_274 : xBr mX9_common 274 .goto (4) 277 278 := ⟨by decide +kernel, rfl, by decide⟩
theorem eX9_common_277 : xAt mX9_common 277 (.iconst 0) 1 278 := ⟨by decide +kernel, rfl⟩
theorem eX9_common_278 : xAt mX9_common 278 (.ireturn) 1 279 := ⟨by decide +kernel, rfl⟩
theorem eX9_cross_0 : xAt mX9_cross 0 (.aload_n 0) 1 1 := ⟨by decide +kernel, rfl⟩
theorem eX9_cross_1 : xAt mX9_cross 1 (.iload_n 1) 1 2 := ⟨by decide +kernel, rfl⟩
theorem eX9_cross_2 : xAt mX9_cross 2 (.invokevirtual 184) 3 5 := ⟨by decide +kernel, rfl⟩
theorem eX9_cross_5 : xBr mX9_cross 5 (.ifCond .eq) (28) 8 33 := ⟨by decide +kernel, rfl, by decide⟩
theorem eX9_cross_8 : xAt mX9_cross 8 (.aload_n 0) 1 9 := ⟨by decide +kernel, rfl⟩
theorem eX9_cross_9 : xAt mX9_cross 9 (.iload_n 2) 1 10 := ⟨by decide +kernel, rfl⟩
theorem eX9_cross_10 : xAt mX9_cross 10 (.invokevirtual 184) 3 13 := ⟨by decide +kernel, rfl⟩
theorem eX9_cross_13 : xBr mX9_cross 13 (.ifCond .eq) (20) 16 33 := ⟨by decide +kernel, rfl, by decide⟩
theorem eX9_cross_16 : xAt mX9_cross 16 (.aload_n 0) 1 17 := ⟨by decide +kernel, rfl⟩
theorem eX9_cross_17 : xAt mX9_cross 17 (.iload_n 3) 1 18 := ⟨by decide +kernel, rfl⟩
theorem eX9_cross_18 : xAt mX9_cross 18 (.invokevirtual 184) 3 21 := ⟨by decide +kernel, rfl⟩
theorem eX9_cross_21 : xBr mX9_cross 21 (.ifCond .eq) (12) 24 33 := ⟨by decide +kernel, rfl, by decide⟩
theorem eX9_cross_24 : xAt mX9_cross 24 (.aload_n 0) 1 25 := ⟨by decide +kernel, rfl⟩
theorem eX9_cross_25 : xAt mX9_cross 25 (.iload 4) 2 27 := ⟨by decide +kernel, rfl⟩
theorem eX9_cross_27 : xAt mX9_cross 27 (.invokevirtual 184) 3 30 := ⟨by decide +kernel, rfl⟩
theorem eX9_cross_30 : xBr mX9_cross 30 (.ifCond .ne) (6) 33 36 := ⟨by decide +kernel, rfl, by decide⟩
theorem eX9_cross_33 : xAt mX9_cross 33 (.bipush (-101)) 2 35 := ⟨by decide +kernel, rfl⟩
theorem eX9_cross_35 : xAt mX9_cross 35 (.ireturn) 1 36 := ⟨by decide +kernel, rfl⟩
theorem eX9_cross_36 : xAt mX9_cross 36 (.iload_n 1) 1 37 := ⟨by decide +kernel, rfl⟩
theorem eX9_cross_37 : xAt mX9_cross 37 (.iload_n 2) 1 38 := ⟨by decide +kernel, rfl⟩
theorem eX9_cross_38 : xBr mX9_cross 38 (.if_icmp .eq) (9) 41 47 := ⟨by decide +kernel, rfl, by decide⟩
theorem eX9_cross_41 : xAt mX9_cross 41 (.iload_n 3) 1 42 := ⟨by decide +kernel, rfl⟩
theorem eX9_cross_42 : xAt mX9_cross 42 (.iload 4) 2 44 := ⟨by decide +kernel, rfl⟩
theorem eX9_cross_44 : xBr mX9_cross 44 (.if_icmp .ne) (8) 47 52 := ⟨by decide +kernel, rfl, by decide⟩
theorem eX9_cross_47 : xAt mX9_cross 47 (.bipush (-102)) 2 49 := ⟨by decide +kernel, rfl⟩
theorem eX9_cross_49 : xBr mX9_cross 49 .goto (12) 52 61 := ⟨by decide +kernel, rfl, by decide⟩
theorem eX9_cross_52 : xAt mX9_cross 52 (.aload_n 0) 1 53 := ⟨by decide +kernel, rfl⟩
theorem eX9_cross_53 : xAt mX9_cross 53 (.iload_n 1) 1 54 := ⟨by decide +kernel, rfl⟩
theorem eX9_cross_54 : xAt mX9_cross 54 (.iload_n 2) 1 55 := ⟨by decide +kernel, rfl⟩
theorem eX9_cross_55 : xAt mX9_cross 55 (.iload_n 3) 1 56 := ⟨by decide +kernel, rfl⟩
theorem eX9_cross_56 : xAt mX9_cross 56 (.iload 4) 2 58 := ⟨by decide +kernel, rfl⟩
theorem eX9_cross_58 : xAt mX9_cross 58 (.invokevirtual 204) 3 61 := ⟨by decide +kernel, rfl⟩
theorem eX9_cross_61 : xAt mX9_cross 61 (.ireturn) 1 62 := ⟨by decide +kernel, rfl⟩
theorem eX9_nearest_0 : xAt mX9_nearest 0 (.lload_n 1) 1 1 := ⟨by decide +kernel, rfl⟩
theorem eX9_nearest_1 : xAt mX9_nearest 1 (.invokestatic 176) 3 4 := ⟨by decide +kernel, rfl⟩
theorem eX9_nearest_4 : xBr mX9_nearest 4 (.ifCond .eq) (10) 7 14 := ⟨by decide +kernel, rfl, by decide⟩
theorem eX9_nearest_7 : xAt mX9_nearest 7 (.lload_n 3) 1 8 := ⟨by decide +kernel, rfl⟩
theorem eX9_nearest_8 : xAt mX9_nearest 8 (.invokestatic 176) 3 11 := ⟨by decide +kernel, rfl⟩
theorem eX9_nearest_11 : xBr mX9_nearest 11 (.ifCond .ne) (6) 14 17 := ⟨by decide +kernel, rfl, by decide⟩
theorem eX9_nearest_14 : xAt mX9_nearest 14 (.bipush (-102)) 2 16 := ⟨by decide +kernel, rfl⟩
theorem eX9_nearest_16 : xAt mX9_nearest 16 (.ireturn) 1 17 := ⟨by decide +kernel, rfl⟩
theorem eX9_nearest_17 : xAt mX9_nearest 17 (.aload_n 0) 1 18 := ⟨by decide +kernel, rfl⟩
theorem eX9_nearest_18 : xAt mX9_nearest 18 (.sipush 200) 3 21 := ⟨by decide +kernel, rfl⟩
theorem eX9_nearest_21 : xAt mX9_nearest 21 (.lload_n 1) 1 22 := ⟨by decide +kernel, rfl⟩
theorem eX9_nearest_22 : xAt mX9_nearest 22 (.lload_n 3) 1 23 := ⟨by decide +kernel, rfl⟩
theorem eX9_nearest_23 : xAt mX9_nearest 23 (.invokevirtual 180) 3 26 := ⟨by decide +kernel, rfl⟩
theorem eX9_nearest_26 : xAt mX9_nearest 26 (.iconst (-1)) 1 27 := ⟨by decide +kernel, rfl⟩
theorem eX9_nearest_27 : xAt mX9_nearest 27 (.istore 5) 2 29 := ⟨by decide +kernel, rfl⟩
theorem eX9_nearest_29 : xAt mX9_nearest 29 (.iconst 0) 1 30 := ⟨by decide +kernel, rfl⟩
theorem eX9_nearest_30 : xAt mX9_nearest 30 (.istore 6) 2 32 := ⟨by decide +kernel, rfl⟩
theorem eX9_nearest_32 : xAt mX9_nearest 32 (.iload 6) 2 34 := ⟨by decide +kernel, rfl⟩
theorem eX9_nearest_34 : xAt mX9_nearest 34 (.aload_n 0) 1 35 := ⟨by decide +kernel, rfl⟩
theorem eX9_nearest_35 : xAt mX9_nearest 35 (.getfield 170) 3 38 := ⟨by decide +kernel, rfl⟩
theorem eX9_nearest_38 : xBr mX9_nearest 38 (.if_icmp .ge) (131) 41 169 := ⟨by decide +kernel, rfl, by decide⟩
theorem eX9_nearest_41 : xAt mX9_nearest 41 (.aload_n 0) 1 42 := ⟨by decide +kernel, rfl⟩
theorem eX9_nearest_42 : xAt mX9_nearest 42 (.getfield 28) 3 45 := ⟨by decide +kernel, rfl⟩
theorem eX9_nearest_45 : xAt mX9_nearest 45 (.iconst 0) 1 46 := ⟨by decide +kernel, rfl⟩
theorem eX9_nearest_46 : xAt mX9_nearest 46 (.bipush 10) 2 48 := ⟨by decide +kernel, rfl⟩
theorem eX9_nearest_48 : xAt mX9_nearest 48 (.invokestatic 144) 3 51 := ⟨by decide +kernel, rfl⟩
theorem eX9_nearest_51 : xAt mX9_nearest 51 (.aload_n 0) 1 52 := ⟨by decide +kernel, rfl⟩
theorem eX9_nearest_52 : xAt mX9_nearest 52 (.aload_n 0) 1 53 := ⟨by decide +kernel, rfl⟩
theorem eX9_nearest_53 : xAt mX9_nearest 53 (.getfield 16) 3 56 := ⟨by decide +kernel, rfl⟩
theorem eX9_nearest_56 : xAt mX9_nearest 56 (.iload 6) 2 58 := ⟨by decide +kernel, rfl⟩
theorem eX9_nearest_58 : xAt mX9_nearest 58 (.sipush 200) 3 61 := ⟨by decide +kernel, rfl⟩
theorem eX9_nearest_61 : xAt mX9_nearest 61 (.aload_n 0) 1 62 := ⟨by decide +kernel, rfl⟩
theorem eX9_nearest_62 : xAt mX9_nearest 62 (.getfield 16) 3 65 := ⟨by decide +kernel, rfl⟩
theorem eX9_nearest_65 : xAt mX9_nearest 65 (.iload 6) 2 67 := ⟨by decide +kernel, rfl⟩
theorem eX9_nearest_67 : xAt mX9_nearest 67 (.sipush 200) 3 70 := ⟨by decide +kernel, rfl⟩
theorem eX9_nearest_70 : xAt mX9_nearest 70 (.aload_n 0) 1 71 := ⟨by decide +kernel, rfl⟩
theorem eX9_nearest_71 : xAt mX9_nearest 71 (.getfield 28) 3 74 := ⟨by decide +kernel, rfl⟩
theorem eX9_nearest_74 : xAt mX9_nearest 74 (.iconst 0) 1 75 := ⟨by decide +kernel, rfl⟩
theorem eX9_nearest_75 : xAt mX9_nearest 75 (.lconst 1) 1 76 := ⟨by decide +kernel, rfl⟩
theorem eX9_nearest_76 : xAt mX9_nearest 76 (.invokevirtual 147) 3 79 := ⟨by decide +kernel, rfl⟩
theorem eX9_nearest_79 : xAt mX9_nearest 79 (.aload_n 0) 1 80 := ⟨by decide +kernel, rfl⟩
theorem eX9_nearest_80 : xAt mX9_nearest 80 (.aload_n 0) 1 81 := ⟨by decide +kernel, rfl⟩
theorem eX9_nearest_81 : xAt mX9_nearest 81 (.getfield 19) 3 84 := ⟨by decide +kernel, rfl⟩
theorem eX9_nearest_84 : xAt mX9_nearest 84 (.iload 6) 2 86 := ⟨by decide +kernel, rfl⟩
theorem eX9_nearest_86 : xAt mX9_nearest 86 (.sipush 200) 3 89 := ⟨by decide +kernel, rfl⟩
theorem eX9_nearest_89 : xAt mX9_nearest 89 (.aload_n 0) 1 90 := ⟨by decide +kernel, rfl⟩
theorem eX9_nearest_90 : xAt mX9_nearest 90 (.getfield 19) 3 93 := ⟨by decide +kernel, rfl⟩
theorem eX9_nearest_93 : xAt mX9_nearest 93 (.iload 6) 2 95 := ⟨by decide +kernel, rfl⟩
theorem eX9_nearest_95 : xAt mX9_nearest 95 (.sipush 200) 3 98 := ⟨by decide +kernel, rfl⟩
theorem eX9_nearest_98 : xAt mX9_nearest 98 (.aload_n 0) 1 99 := ⟨by decide +kernel, rfl⟩
theorem eX9_nearest_99 : xAt mX9_nearest 99 (.getfield 28) 3 102 := ⟨by decide +kernel, rfl⟩
theorem eX9_nearest_102 : xAt mX9_nearest 102 (.iconst 0) 1 103 := ⟨by decide +kernel, rfl⟩
theorem eX9_nearest_103 : xAt mX9_nearest 103 (.lconst 1) 1 104 := ⟨by decide +kernel, rfl⟩
theorem eX9_nearest_104 : xAt mX9_nearest 104 (.invokevirtual 147) 3 107 := ⟨by decide +kernel, rfl⟩
theorem eX9_nearest_107 : xAt mX9_nearest 107 (.iload 5) 2 109 := ⟨by decide +kernel, rfl⟩
theorem eX9_nearest_109 : xAt mX9_nearest 109 (.iconst (-1)) 1 110 := ⟨by decide +kernel, rfl⟩
theorem eX9_nearest_110 : xBr mX9_nearest 110 (.if_icmp .eq) (19) 113 129 := ⟨by decide +kernel, rfl, by decide⟩
theorem eX9_nearest_113 : xAt mX9_nearest 113 (.aload_n 0) 1 114 := ⟨by decide +kernel, rfl⟩
theorem eX9_nearest_114 : xAt mX9_nearest 114 (.getfield 28) 3 117 := ⟨by decide +kernel, rfl⟩
theorem eX9_nearest_117 : xAt mX9_nearest 117 (.iconst 0) 1 118 := ⟨by decide +kernel, rfl⟩
theorem eX9_nearest_118 : xAt mX9_nearest 118 (.aload_n 0) 1 119 := ⟨by decide +kernel, rfl⟩
theorem eX9_nearest_119 : xAt mX9_nearest 119 (.getfield 35) 3 122 := ⟨by decide +kernel, rfl⟩
theorem eX9_nearest_122 : xAt mX9_nearest 122 (.iconst 0) 1 123 := ⟨by decide +kernel, rfl⟩
theorem eX9_nearest_123 : xAt mX9_nearest 123 (.invokestatic 208) 3 126 := ⟨by decide +kernel, rfl⟩
theorem eX9_nearest_126 : xBr mX9_nearest 126 (.ifCond .eq) (37) 129 163 := ⟨by decide +kernel, rfl, by decide⟩
theorem eX9_nearest_129 : xAt mX9_nearest 129 (.iload 6) 2 131 := ⟨by decide +kernel, rfl⟩
theorem eX9_nearest_131 : xAt mX9_nearest 131 (.istore 5) 2 133 := ⟨by decide +kernel, rfl⟩
theorem eX9_nearest_133 : xAt mX9_nearest 133 (.iconst 0) 1 134 := ⟨by decide +kernel, rfl⟩
theorem eX9_nearest_134 : xAt mX9_nearest 134 (.istore 7) 2 136 := ⟨by decide +kernel, rfl⟩
theorem eX9_nearest_136 : xAt mX9_nearest 136 (.iload 7) 2 138 := ⟨by decide +kernel, rfl⟩
theorem eX9_nearest_138 : xAt mX9_nearest 138 (.bipush 10) 2 140 := ⟨by decide +kernel, rfl⟩
theorem eX9_nearest_140 : xBr mX9_nearest 140 (.if_icmp .ge) (23) 143 163 := ⟨by decide +kernel, rfl, by decide⟩
theorem eX9_nearest_143 : xAt mX9_nearest 143 (.aload_n 0) 1 144 := ⟨by decide +kernel, rfl⟩
theorem eX9_nearest_144 : xAt mX9_nearest 144 (.getfield 35) 3 147 := ⟨by decide +kernel, rfl⟩
theorem eX9_nearest_147 : xAt mX9_nearest 147 (.iload 7) 2 149 := ⟨by decide +kernel, rfl⟩
theorem eX9_nearest_149 : xAt mX9_nearest 149 (.aload_n 0) 1 150 := ⟨by decide +kernel, rfl⟩
theorem eX9_nearest_150 : xAt mX9_nearest 150 (.getfield 28) 3 153 := ⟨by decide +kernel, rfl⟩
theorem eX9_nearest_153 : xAt mX9_nearest 153 (.iload 7) 2 155 := ⟨by decide +kernel, rfl⟩
theorem eX9_nearest_155 : xAt mX9_nearest 155 (.laload) 1 156 := ⟨by decide +kernel, rfl⟩
theorem eX9_nearest_156 : xAt mX9_nearest 156 (.lastore) 1 157 := ⟨by decide +kernel, rfl⟩
theorem eX9_nearest_157 : xAt mX9_nearest 157 (.iinc 7 1) 3 160 := ⟨by decide +kernel, rfl⟩
theorem eX9_nearest_160 : xBr mX9_nearest 160 .goto (-24) 163 136 := ⟨by decide +kernel, rfl, by decide⟩
theorem eX9_nearest_163 : xAt mX9_nearest 163 (.iinc 6 1) 3 166 := ⟨by decide +kernel, rfl⟩
theorem eX9_nearest_166 : xBr mX9_nearest 166 .goto (-134) 169 32 := ⟨by decide +kernel, rfl, by decide⟩
theorem eX9_nearest_169 : xAt mX9_nearest 169 (.iload 5) 2 171 := ⟨by decide +kernel, rfl⟩
theorem eX9_nearest_171 : xAt mX9_nearest 171 (.ireturn) 1 172 := ⟨by decide +kernel, rfl⟩
theorem eX9_less_0 : xAt mX9_less 0 (.bipush 9) 2 2 := ⟨by decide +kernel, rfl⟩
theorem eX9_less_2 : xAt mX9_less 2 (.istore 4) 2 4 := ⟨by decide +kernel, rfl⟩
theorem eX9_less_4 : xAt mX9_less 4 (.iload 4) 2 6 := ⟨by decide +kernel, rfl⟩
theorem eX9_less_6 : xBr mX9_less 6 (.ifCond .le) (25) 9 31 := ⟨by decide +kernel, rfl, by decide⟩
theorem eX9_less_9 : xAt mX9_less 9 (.aload_n 0) 1 10 := ⟨by decide +kernel, rfl⟩
theorem eX9_less_10 : xAt mX9_less 10 (.iload_n 1) 1 11 := ⟨by decide +kernel, rfl⟩
theorem eX9_less_11 : xAt mX9_less 11 (.iload 4) 2 13 := ⟨by decide +kernel, rfl⟩
theorem eX9_less_13 : xAt mX9_less 13 (.iadd) 1 14 := ⟨by decide +kernel, rfl⟩
theorem eX9_less_14 : xAt mX9_less 14 (.laload) 1 15 := ⟨by decide +kernel, rfl⟩
theorem eX9_less_15 : xAt mX9_less 15 (.aload_n 2) 1 16 := ⟨by decide +kernel, rfl⟩
theorem eX9_less_16 : xAt mX9_less 16 (.iload_n 3) 1 17 := ⟨by decide +kernel, rfl⟩
theorem eX9_less_17 : xAt mX9_less 17 (.iload 4) 2 19 := ⟨by decide +kernel, rfl⟩
theorem eX9_less_19 : xAt mX9_less 19 (.iadd) 1 20 := ⟨by decide +kernel, rfl⟩
theorem eX9_less_20 : xAt mX9_less 20 (.laload) 1 21 := ⟨by decide +kernel, rfl⟩
theorem eX9_less_21 : xAt mX9_less 21 (.lcmp) 1 22 := ⟨by decide +kernel, rfl⟩
theorem eX9_less_22 : xBr mX9_less 22 (.ifCond .ne) (9) 25 31 := ⟨by decide +kernel, rfl, by decide⟩
theorem eX9_less_25 : xAt mX9_less 25 (.iinc 4 (-1)) 3 28 := ⟨by decide +kernel, rfl⟩
theorem eX9_less_28 : xBr mX9_less 28 .goto (-24) 31 4 := ⟨by decide +kernel, rfl, by decide⟩
theorem eX9_less_31 : xAt mX9_less 31 (.aload_n 0) 1 32 := ⟨by decide +kernel, rfl⟩
theorem eX9_less_32 : xAt mX9_less 32 (.iload_n 1) 1 33 := ⟨by decide +kernel, rfl⟩
theorem eX9_less_33 : xAt mX9_less 33 (.iload 4) 2 35 := ⟨by decide +kernel, rfl⟩
theorem eX9_less_35 : xAt mX9_less 35 (.iadd) 1 36 := ⟨by decide +kernel, rfl⟩
theorem eX9_less_36 : xAt mX9_less 36 (.laload) 1 37 := ⟨by decide +kernel, rfl⟩
theorem eX9_less_37 : xAt mX9_less 37 (.aload_n 2) 1 38 := ⟨by decide +kernel, rfl⟩
theorem eX9_less_38 : xAt mX9_less 38 (.iload_n 3) 1 39 := ⟨by decide +kernel, rfl⟩
theorem eX9_less_39 : xAt mX9_less 39 (.iload 4) 2 41 := ⟨by decide +kernel, rfl⟩
theorem eX9_less_41 : xAt mX9_less 41 (.iadd) 1 42 := ⟨by decide +kernel, rfl⟩
theorem eX9_less_42 : xAt mX9_less 42 (.laload) 1 43 := ⟨by decide +kernel, rfl⟩
theorem eX9_less_43 : xAt mX9_less 43 (.lcmp) 1 44 := ⟨by decide +kernel, rfl⟩
theorem eX9_less_44 : xBr mX9_less 44 (.ifCond .ge) (7) 47 51 := ⟨by decide +kernel, rfl, by decide⟩
theorem eX9_less_47 : xAt mX9_less 47 (.iconst 1) 1 48 := ⟨by decide +kernel, rfl⟩
theorem eX9_less_48 : xBr mX9_less 48 .goto (4) 51 52 := ⟨by decide +kernel, rfl, by decide⟩
theorem eX9_less_51 : xAt mX9_less 51 (.iconst 0) 1 52 := ⟨by decide +kernel, rfl⟩
theorem eX9_less_52 : xAt mX9_less 52 (.ireturn) 1 53 := ⟨by decide +kernel, rfl⟩
theorem eX9_draw_0 : xAt mX9_draw 0 (.aload_n 0) 1 1 := ⟨by decide +kernel, rfl⟩
theorem eX9_draw_1 : xAt mX9_draw 1 (.getfield 212) 3 4 := ⟨by decide +kernel, rfl⟩
theorem eX9_draw_4 : xAt mX9_draw 4 (.istore_n 1) 1 5 := ⟨by decide +kernel, rfl⟩
theorem eX9_draw_5 : xAt mX9_draw 5 (.aload_n 0) 1 6 := ⟨by decide +kernel, rfl⟩
theorem eX9_draw_6 : xAt mX9_draw 6 (.iconst 0) 1 7 := ⟨by decide +kernel, rfl⟩
theorem eX9_draw_7 : xAt mX9_draw 7 (.putfield 212) 3 10 := ⟨by decide +kernel, rfl⟩
theorem eX9_draw_10 : xAt mX9_draw 10 (.iload_n 1) 1 11 := ⟨by decide +kernel, rfl⟩
theorem eX9_draw_11 : xAt mX9_draw 11 (.ireturn) 1 12 := ⟨by decide +kernel, rfl⟩
theorem eX9_add_0 : xAt mX9_add 0 (.aload_n 0) 1 1 := ⟨by decide +kernel, rfl⟩
theorem eX9_add_1 : xAt mX9_add 1 (.iload_n 1) 1 2 := ⟨by decide +kernel, rfl⟩
theorem eX9_add_2 : xAt mX9_add 2 (.invokevirtual 184) 3 5 := ⟨by decide +kernel, rfl⟩
theorem eX9_add_5 : xBr mX9_add 5 (.ifCond .ne) (6) 8 11 := ⟨by decide +kernel, rfl, by decide⟩
theorem eX9_add_8 : xAt mX9_add 8 (.bipush (-101)) 2 10 := ⟨by decide +kernel, rfl⟩
theorem eX9_add_10 : xAt mX9_add 10 (.ireturn) 1 11 := ⟨by decide +kernel, rfl⟩
theorem eX9_add_11 : xAt mX9_add 11 (.aload_n 0) 1 12 := ⟨by decide +kernel, rfl⟩
theorem eX9_add_12 : xAt mX9_add 12 (.getfield 212) 3 15 := ⟨by decide +kernel, rfl⟩
theorem eX9_add_15 : xAt mX9_add 15 (.bipush 20) 2 17 := ⟨by decide +kernel, rfl⟩
theorem eX9_add_17 : xBr mX9_add 17 (.if_icmp .ne) (6) 20 23 := ⟨by decide +kernel, rfl, by decide⟩
theorem eX9_add_20 : xAt mX9_add 20 (.bipush (-104)) 2 22 := ⟨by decide +kernel, rfl⟩
theorem eX9_add_22 : xAt mX9_add 22 (.ireturn) 1 23 := ⟨by decide +kernel, rfl⟩
theorem eX9_add_23 : xAt mX9_add 23 (.aload_n 0) 1 24 := ⟨by decide +kernel, rfl⟩
theorem eX9_add_24 : xAt mX9_add 24 (.getfield 38) 3 27 := ⟨by decide +kernel, rfl⟩
theorem eX9_add_27 : xAt mX9_add 27 (.aload_n 0) 1 28 := ⟨by decide +kernel, rfl⟩
theorem eX9_add_28 : xAt mX9_add 28 (.getfield 212) 3 31 := ⟨by decide +kernel, rfl⟩
theorem eX9_add_31 : xAt mX9_add 31 (.iload_n 1) 1 32 := ⟨by decide +kernel, rfl⟩
theorem eX9_add_32 : xAt mX9_add 32 (.iastore) 1 33 := ⟨by decide +kernel, rfl⟩
theorem eX9_add_33 : xAt mX9_add 33 (.aload_n 0) 1 34 := ⟨by decide +kernel, rfl⟩
theorem eX9_add_34 : xAt mX9_add 34 (.dup) 1 35 := ⟨by decide +kernel, rfl⟩
theorem eX9_add_35 : xAt mX9_add 35 (.getfield 212) 3 38 := ⟨by decide +kernel, rfl⟩
theorem eX9_add_38 : xAt mX9_add 38 (.iconst 1) 1 39 := ⟨by decide +kernel, rfl⟩
theorem eX9_add_39 : xAt mX9_add 39 (.iadd) 1 40 := ⟨by decide +kernel, rfl⟩
theorem eX9_add_40 : xAt mX9_add 40 (.putfield 212) 3 43 := ⟨by decide +kernel, rfl⟩
theorem eX9_add_43 : xAt mX9_add 43 (.aload_n 0) 1 44 := ⟨by decide +kernel, rfl⟩
theorem eX9_add_44 : xAt mX9_add 44 (.getfield 212) 3 47 := ⟨by decide +kernel, rfl⟩
theorem eX9_add_47 : xAt mX9_add 47 (.ireturn) 1 48 := ⟨by decide +kernel, rfl⟩
theorem eX9_fault_0 : xAt mX9_fault 0 (.aload_n 0) 1 1 := ⟨by decide +kernel, rfl⟩
theorem eX9_fault_1 : xAt mX9_fault 1 (.iload_n 2) 1 2 := ⟨by decide +kernel, rfl⟩
theorem eX9_fault_2 : xAt mX9_fault 2 (.putfield 215) 3 5 := ⟨by decide +kernel, rfl⟩
theorem eX9_fault_5 : xAt mX9_fault 5 (.iload_n 1) 1 6 := ⟨by decide +kernel, rfl⟩
theorem eX9_fault_6 : xAt mX9_fault 6 (.ireturn) 1 7 := ⟨by decide +kernel, rfl⟩
theorem eX9_faultOf_0 : xAt mX9_faultOf 0 (.aload_n 0) 1 1 := ⟨by decide +kernel, rfl⟩
theorem eX9_faultOf_1 : xAt mX9_faultOf 1 (.getfield 218) 3 4 := ⟨by decide +kernel, rfl⟩
theorem eX9_faultOf_4 : xAt mX9_faultOf 4 (.iconst 3) 1 5 := ⟨by decide +kernel, rfl⟩
theorem eX9_faultOf_5 : xAt mX9_faultOf 5 (.bipush 12) 2 7 := ⟨by decide +kernel, rfl⟩
theorem eX9_faultOf_7 : xAt mX9_faultOf 7 (.invokestatic 173) 3 10 := ⟨by decide +kernel, rfl⟩
theorem eX9_faultOf_10 : xBr mX9_faultOf 10 (.ifCond .ne) (15) 13 25 := ⟨by decide +kernel, rfl, by decide⟩
theorem eX9_faultOf_13 : xAt mX9_faultOf 13 (.aload_n 0) 1 14 := ⟨by decide +kernel, rfl⟩
theorem eX9_faultOf_14 : xAt mX9_faultOf 14 (.sipush (-201)) 3 17 := ⟨by decide +kernel, rfl⟩
theorem eX9_faultOf_17 : xAt mX9_faultOf 17 (.aload_n 0) 1 18 := ⟨by decide +kernel, rfl⟩
theorem eX9_faultOf_18 : xAt mX9_faultOf 18 (.getfield 218) 3 21 := ⟨by decide +kernel, rfl⟩
theorem eX9_faultOf_21 : xAt mX9_faultOf 21 (.invokevirtual 221) 3 24 := ⟨by decide +kernel, rfl⟩
theorem eX9_faultOf_24 : xAt mX9_faultOf 24 (.ireturn) 1 25 := ⟨by decide +kernel, rfl⟩
theorem eX9_faultOf_25 : xAt mX9_faultOf 25 (.iconst 0) 1 26 := ⟨by decide +kernel, rfl⟩
theorem eX9_faultOf_26 : xAt mX9_faultOf 26 (.istore_n 1) 1 27 := ⟨by decide +kernel, rfl⟩
theorem eX9_faultOf_27 : xAt mX9_faultOf 27 (.iload_n 1) 1 28 := ⟨by decide +kernel, rfl⟩
theorem eX9_faultOf_28 : xAt mX9_faultOf 28 (.aload_n 0) 1 29 := ⟨by decide +kernel, rfl⟩
theorem eX9_faultOf_29 : xAt mX9_faultOf 29 (.getfield 218) 3 32 := ⟨by decide +kernel, rfl⟩
theorem eX9_faultOf_32 : xBr mX9_faultOf 32 (.if_icmp .ge) (51) 35 83 := ⟨by decide +kernel, rfl, by decide⟩
theorem eX9_faultOf_35 : xAt mX9_faultOf 35 (.iload_n 1) 1 36 := ⟨by decide +kernel, rfl⟩
theorem eX9_faultOf_36 : xAt mX9_faultOf 36 (.iconst 1) 1 37 := ⟨by decide +kernel, rfl⟩
theorem eX9_faultOf_37 : xAt mX9_faultOf 37 (.iadd) 1 38 := ⟨by decide +kernel, rfl⟩
theorem eX9_faultOf_38 : xAt mX9_faultOf 38 (.istore_n 2) 1 39 := ⟨by decide +kernel, rfl⟩
theorem eX9_faultOf_39 : xAt mX9_faultOf 39 (.iload_n 2) 1 40 := ⟨by decide +kernel, rfl⟩
theorem eX9_faultOf_40 : xAt mX9_faultOf 40 (.aload_n 0) 1 41 := ⟨by decide +kernel, rfl⟩
theorem eX9_faultOf_41 : xAt mX9_faultOf 41 (.getfield 218) 3 44 := ⟨by decide +kernel, rfl⟩
theorem eX9_faultOf_44 : xBr mX9_faultOf 44 (.if_icmp .ge) (33) 47 77 := ⟨by decide +kernel, rfl, by decide⟩
theorem eX9_faultOf_47 : xAt mX9_faultOf 47 (.aload_n 0) 1 48 := ⟨by decide +kernel, rfl⟩
theorem eX9_faultOf_48 : xAt mX9_faultOf 48 (.getfield 42) 3 51 := ⟨by decide +kernel, rfl⟩
theorem eX9_faultOf_51 : xAt mX9_faultOf 51 (.iload_n 1) 1 52 := ⟨by decide +kernel, rfl⟩
theorem eX9_faultOf_52 : xAt mX9_faultOf 52 (.iaload) 1 53 := ⟨by decide +kernel, rfl⟩
theorem eX9_faultOf_53 : xAt mX9_faultOf 53 (.aload_n 0) 1 54 := ⟨by decide +kernel, rfl⟩
theorem eX9_faultOf_54 : xAt mX9_faultOf 54 (.getfield 42) 3 57 := ⟨by decide +kernel, rfl⟩
theorem eX9_faultOf_57 : xAt mX9_faultOf 57 (.iload_n 2) 1 58 := ⟨by decide +kernel, rfl⟩
theorem eX9_faultOf_58 : xAt mX9_faultOf 58 (.iaload) 1 59 := ⟨by decide +kernel, rfl⟩
theorem eX9_faultOf_59 : xBr mX9_faultOf 59 (.if_icmp .ne) (12) 62 71 := ⟨by decide +kernel, rfl, by decide⟩
theorem eX9_faultOf_62 : xAt mX9_faultOf 62 (.aload_n 0) 1 63 := ⟨by decide +kernel, rfl⟩
theorem eX9_faultOf_63 : xAt mX9_faultOf 63 (.sipush (-202)) 3 66 := ⟨by decide +kernel, rfl⟩
theorem eX9_faultOf_66 : xAt mX9_faultOf 66 (.iload_n 2) 1 67 := ⟨by decide +kernel, rfl⟩
theorem eX9_faultOf_67 : xAt mX9_faultOf 67 (.invokevirtual 221) 3 70 := ⟨by decide +kernel, rfl⟩
theorem eX9_faultOf_70 : xAt mX9_faultOf 70 (.ireturn) 1 71 := ⟨by decide +kernel, rfl⟩
theorem eX9_faultOf_71 : xAt mX9_faultOf 71 (.iinc 2 1) 3 74 := ⟨by decide +kernel, rfl⟩
theorem eX9_faultOf_74 : xBr mX9_faultOf 74 .goto (-35) 77 39 := ⟨by decide +kernel, rfl, by decide⟩
theorem eX9_faultOf_77 : xAt mX9_faultOf 77 (.iinc 1 1) 3 80 := ⟨by decide +kernel, rfl⟩
theorem eX9_faultOf_80 : xBr mX9_faultOf 80 .goto (-53) 83 27 := ⟨by decide +kernel, rfl, by decide⟩
theorem eX9_faultOf_83 : xAt mX9_faultOf 83 (.iconst 0) 1 84 := ⟨by decide +kernel, rfl⟩
theorem eX9_faultOf_84 : xAt mX9_faultOf 84 (.istore_n 1) 1 85 := ⟨by decide +kernel, rfl⟩
theorem eX9_faultOf_85 : xAt mX9_faultOf 85 (.iload_n 1) 1 86 := ⟨by decide +kernel, rfl⟩
theorem eX9_faultOf_86 : xAt mX9_faultOf 86 (.aload_n 0) 1 87 := ⟨by decide +kernel, rfl⟩
theorem eX9_faultOf_87 : xAt mX9_faultOf 87 (.getfield 218) 3 90 := ⟨by decide +kernel, rfl⟩
theorem eX9_faultOf_90 : xBr mX9_faultOf 90 (.if_icmp .ge) (122) 93 212 := ⟨by decide +kernel, rfl, by decide⟩
theorem eX9_faultOf_93 : xAt mX9_faultOf 93 (.iload_n 1) 1 94 := ⟨by decide +kernel, rfl⟩
theorem eX9_faultOf_94 : xAt mX9_faultOf 94 (.iconst 1) 1 95 := ⟨by decide +kernel, rfl⟩
theorem eX9_faultOf_95 : xAt mX9_faultOf 95 (.iadd) 1 96 := ⟨by decide +kernel, rfl⟩
theorem eX9_faultOf_96 : xAt mX9_faultOf 96 (.istore_n 2) 1 97 := ⟨by decide +kernel, rfl⟩
theorem eX9_faultOf_97 : xAt mX9_faultOf 97 (.iload_n 2) 1 98 := ⟨by decide +kernel, rfl⟩
theorem eX9_faultOf_98 : xAt mX9_faultOf 98 (.aload_n 0) 1 99 := ⟨by decide +kernel, rfl⟩
theorem eX9_faultOf_99 : xAt mX9_faultOf 99 (.getfield 218) 3 102 := ⟨by decide +kernel, rfl⟩
theorem eX9_faultOf_102 : xBr mX9_faultOf 102 (.if_icmp .ge) (104) 105 206 := ⟨by decide +kernel, rfl, by decide⟩
theorem eX9_faultOf_105 : xAt mX9_faultOf 105 (.iload_n 2) 1 106 := ⟨by decide +kernel, rfl⟩
theorem eX9_faultOf_106 : xAt mX9_faultOf 106 (.iload_n 1) 1 107 := ⟨by decide +kernel, rfl⟩
theorem eX9_faultOf_107 : xAt mX9_faultOf 107 (.iconst 1) 1 108 := ⟨by decide +kernel, rfl⟩
theorem eX9_faultOf_108 : xAt mX9_faultOf 108 (.iadd) 1 109 := ⟨by decide +kernel, rfl⟩
theorem eX9_faultOf_109 : xBr mX9_faultOf 109 (.if_icmp .eq) (17) 112 126 := ⟨by decide +kernel, rfl, by decide⟩
theorem eX9_faultOf_112 : xAt mX9_faultOf 112 (.iload_n 1) 1 113 := ⟨by decide +kernel, rfl⟩
theorem eX9_faultOf_113 : xBr mX9_faultOf 113 (.ifCond .ne) (17) 116 130 := ⟨by decide +kernel, rfl, by decide⟩
theorem eX9_faultOf_116 : xAt mX9_faultOf 116 (.iload_n 2) 1 117 := ⟨by decide +kernel, rfl⟩
theorem eX9_faultOf_117 : xAt mX9_faultOf 117 (.aload_n 0) 1 118 := ⟨by decide +kernel, rfl⟩
theorem eX9_faultOf_118 : xAt mX9_faultOf 118 (.getfield 218) 3 121 := ⟨by decide +kernel, rfl⟩
theorem eX9_faultOf_121 : xAt mX9_faultOf 121 (.iconst 1) 1 122 := ⟨by decide +kernel, rfl⟩
theorem eX9_faultOf_122 : xAt mX9_faultOf 122 (.isub) 1 123 := ⟨by decide +kernel, rfl⟩
theorem eX9_faultOf_123 : xBr mX9_faultOf 123 (.if_icmp .ne) (7) 126 130 := ⟨by decide +kernel, rfl, by decide⟩
theorem eX9_faultOf_126 : xAt mX9_faultOf 126 (.iconst 1) 1 127 := ⟨by decide +kernel, rfl⟩
theorem eX9_faultOf_127 : xBr mX9_faultOf 127 .goto (4) 130 131 := ⟨by decide +kernel, rfl, by decide⟩
theorem eX9_faultOf_130 : xAt mX9_faultOf 130 (.iconst 0) 1 131 := ⟨by decide +kernel, rfl⟩
theorem eX9_faultOf_131 : xAt mX9_faultOf 131 (.istore_n 3) 1 132 := ⟨by decide +kernel, rfl⟩
theorem eX9_faultOf_132 : xAt mX9_faultOf 132 (.aload_n 0) 1 133 := ⟨by decide +kernel, rfl⟩
theorem eX9_faultOf_133 : xAt mX9_faultOf 133 (.aload_n 0) 1 134 := ⟨by decide +kernel, rfl⟩
theorem eX9_faultOf_134 : xAt mX9_faultOf 134 (.getfield 42) 3 137 := ⟨by decide +kernel, rfl⟩
theorem eX9_faultOf_137 : xAt mX9_faultOf 137 (.iload_n 1) 1 138 := ⟨by decide +kernel, rfl⟩
theorem eX9_faultOf_138 : xAt mX9_faultOf 138 (.iaload) 1 139 := ⟨by decide +kernel, rfl⟩
theorem eX9_faultOf_139 : xAt mX9_faultOf 139 (.aload_n 0) 1 140 := ⟨by decide +kernel, rfl⟩
theorem eX9_faultOf_140 : xAt mX9_faultOf 140 (.getfield 42) 3 143 := ⟨by decide +kernel, rfl⟩
theorem eX9_faultOf_143 : xAt mX9_faultOf 143 (.iload_n 1) 1 144 := ⟨by decide +kernel, rfl⟩
theorem eX9_faultOf_144 : xAt mX9_faultOf 144 (.iconst 1) 1 145 := ⟨by decide +kernel, rfl⟩
theorem eX9_faultOf_145 : xAt mX9_faultOf 145 (.iadd) 1 146 := ⟨by decide +kernel, rfl⟩
theorem eX9_faultOf_146 : xAt mX9_faultOf 146 (.aload_n 0) 1 147 := ⟨by decide +kernel, rfl⟩
theorem eX9_faultOf_147 : xAt mX9_faultOf 147 (.getfield 218) 3 150 := ⟨by decide +kernel, rfl⟩
theorem eX9_faultOf_150 : xAt mX9_faultOf 150 (.irem) 1 151 := ⟨by decide +kernel, rfl⟩
theorem eX9_faultOf_151 : xAt mX9_faultOf 151 (.iaload) 1 152 := ⟨by decide +kernel, rfl⟩
theorem eX9_faultOf_152 : xAt mX9_faultOf 152 (.aload_n 0) 1 153 := ⟨by decide +kernel, rfl⟩
theorem eX9_faultOf_153 : xAt mX9_faultOf 153 (.getfield 42) 3 156 := ⟨by decide +kernel, rfl⟩
theorem eX9_faultOf_156 : xAt mX9_faultOf 156 (.iload_n 2) 1 157 := ⟨by decide +kernel, rfl⟩
theorem eX9_faultOf_157 : xAt mX9_faultOf 157 (.iaload) 1 158 := ⟨by decide +kernel, rfl⟩
theorem eX9_faultOf_158 : xAt mX9_faultOf 158 (.aload_n 0) 1 159 := ⟨by decide +kernel, rfl⟩
theorem eX9_faultOf_159 : xAt mX9_faultOf 159 (.getfield 42) 3 162 := ⟨by decide +kernel, rfl⟩
theorem eX9_faultOf_162 : xAt mX9_faultOf 162 (.iload_n 2) 1 163 := ⟨by decide +kernel, rfl⟩
theorem eX9_faultOf_163 : xAt mX9_faultOf 163 (.iconst 1) 1 164 := ⟨by decide +kernel, rfl⟩
theorem eX9_faultOf_164 : xAt mX9_faultOf 164 (.iadd) 1 165 := ⟨by decide +kernel, rfl⟩
theorem eX9_faultOf_165 : xAt mX9_faultOf 165 (.aload_n 0) 1 166 := ⟨by decide +kernel, rfl⟩
theorem eX9_faultOf_166 : xAt mX9_faultOf 166 (.getfield 218) 3 169 := ⟨by decide +kernel, rfl⟩
theorem eX9_faultOf_169 : xAt mX9_faultOf 169 (.irem) 1 170 := ⟨by decide +kernel, rfl⟩
theorem eX9_faultOf_170 : xAt mX9_faultOf 170 (.iaload) 1 171 := ⟨by decide +kernel, rfl⟩
theorem eX9_faultOf_171 : xAt mX9_faultOf 171 (.invokevirtual 204) 3 174 := ⟨by decide +kernel, rfl⟩
theorem eX9_faultOf_174 : xAt mX9_faultOf 174 (.iload_n 3) 1 175 := ⟨by decide +kernel, rfl⟩
theorem eX9_faultOf_175 : xBr mX9_faultOf 175 (.ifCond .eq) (7) 178 182 := ⟨by decide +kernel, rfl, by decide⟩
theorem eX9_faultOf_178 : xAt mX9_faultOf 178 (.iconst 2) 1 179 := ⟨by decide +kernel, rfl⟩
theorem eX9_faultOf_179 : xBr mX9_faultOf 179 .goto (4) 182 183 := ⟨by decide +kernel, rfl, by decide⟩
theorem eX9_faultOf_182 : xAt mX9_faultOf 182 (.iconst 0) 1 183 := ⟨by decide +kernel, rfl⟩
theorem eX9_faultOf_183 : xBr mX9_faultOf 183 (.if_icmp .eq) (17) 186 200 := ⟨by decide +kernel, rfl, by decide⟩
theorem eX9_faultOf_186 : xAt mX9_faultOf 186 (.aload_n 0) 1 187 := ⟨by decide +kernel, rfl⟩
theorem eX9_faultOf_187 : xAt mX9_faultOf 187 (.sipush (-203)) 3 190 := ⟨by decide +kernel, rfl⟩
theorem eX9_faultOf_190 : xAt mX9_faultOf 190 (.bipush 100) 2 192 := ⟨by decide +kernel, rfl⟩
theorem eX9_faultOf_192 : xAt mX9_faultOf 192 (.iload_n 1) 1 193 := ⟨by decide +kernel, rfl⟩
theorem eX9_faultOf_193 : xAt mX9_faultOf 193 (.imul) 1 194 := ⟨by decide +kernel, rfl⟩
theorem eX9_faultOf_194 : xAt mX9_faultOf 194 (.iload_n 2) 1 195 := ⟨by decide +kernel, rfl⟩
theorem eX9_faultOf_195 : xAt mX9_faultOf 195 (.iadd) 1 196 := ⟨by decide +kernel, rfl⟩
theorem eX9_faultOf_196 : xAt mX9_faultOf 196 (.invokevirtual 221) 3 199 := ⟨by decide +kernel, rfl⟩
theorem eX9_faultOf_199 : xAt mX9_faultOf 199 (.ireturn) 1 200 := ⟨by decide +kernel, rfl⟩
theorem eX9_faultOf_200 : xAt mX9_faultOf 200 (.iinc 2 1) 3 203 := ⟨by decide +kernel, rfl⟩
theorem eX9_faultOf_203 : xBr mX9_faultOf 203 .goto (-106) 206 97 := ⟨by decide +kernel, rfl, by decide⟩
theorem eX9_faultOf_206 : xAt mX9_faultOf 206 (.iinc 1 1) 3 209 := ⟨by decide +kernel, rfl⟩
theorem eX9_faultOf_209 : xBr mX9_faultOf 209 .goto (-124) 212 85 := ⟨by decide +kernel, rfl, by decide⟩
theorem eX9_faultOf_212 : xAt mX9_faultOf 212 (.iconst 0) 1 213 := ⟨by decide +kernel, rfl⟩
theorem eX9_faultOf_213 : xAt mX9_faultOf 213 (.ireturn) 1 214 := ⟨by decide +kernel, rfl⟩
end
section
theorem eX9_turnLeft_0 : xAt mX9_turnLeft 0 (.aload_n 0) 1 1 := ⟨by decide +kernel, rfl⟩
theorem eX9_turnLeft_1 : xAt mX9_turnLeft 1 (.getfield 28) 3 4 := ⟨by decide +kernel, rfl⟩
theorem eX9_turnLeft_4 : xAt mX9_turnLeft 4 (.iconst 0) 1 5 := ⟨by decide +kernel, rfl⟩
theorem eX9_turnLeft_5 : xAt mX9_turnLeft 5 (.bipush 10) 2 7 := ⟨by decide +kernel, rfl⟩
theorem eX9_turnLeft_7 : xAt mX9_turnLeft 7 (.invokestatic 144) 3 10 := ⟨by decide +kernel, rfl⟩
theorem eX9_turnLeft_10 : xAt mX9_turnLeft 10 (.iconst 0) 1 11 := ⟨by decide +kernel, rfl⟩
theorem eX9_turnLeft_11 : xAt mX9_turnLeft 11 (.istore_n 1) 1 12 := ⟨by decide +kernel, rfl⟩
theorem eX9_turnLeft_12 : xAt mX9_turnLeft 12 (.iload_n 1) 1 13 := ⟨by decide +kernel, rfl⟩
theorem eX9_turnLeft_13 : xAt mX9_turnLeft 13 (.aload_n 0) 1 14 := ⟨by decide +kernel, rfl⟩
theorem eX9_turnLeft_14 : xAt mX9_turnLeft 14 (.getfield 218) 3 17 := ⟨by decide +kernel, rfl⟩
theorem eX9_turnLeft_17 : xBr mX9_turnLeft 17 (.if_icmp .ge) (89) 20 106 := ⟨by decide +kernel, rfl, by decide⟩
theorem eX9_turnLeft_20 : xAt mX9_turnLeft 20 (.aload_n 0) 1 21 := ⟨by decide +kernel, rfl⟩
theorem eX9_turnLeft_21 : xAt mX9_turnLeft 21 (.aload_n 0) 1 22 := ⟨by decide +kernel, rfl⟩
theorem eX9_turnLeft_22 : xAt mX9_turnLeft 22 (.getfield 16) 3 25 := ⟨by decide +kernel, rfl⟩
theorem eX9_turnLeft_25 : xAt mX9_turnLeft 25 (.aload_n 0) 1 26 := ⟨by decide +kernel, rfl⟩
theorem eX9_turnLeft_26 : xAt mX9_turnLeft 26 (.getfield 42) 3 29 := ⟨by decide +kernel, rfl⟩
theorem eX9_turnLeft_29 : xAt mX9_turnLeft 29 (.iload_n 1) 1 30 := ⟨by decide +kernel, rfl⟩
theorem eX9_turnLeft_30 : xAt mX9_turnLeft 30 (.iaload) 1 31 := ⟨by decide +kernel, rfl⟩
theorem eX9_turnLeft_31 : xAt mX9_turnLeft 31 (.iconst (-1)) 1 32 := ⟨by decide +kernel, rfl⟩
theorem eX9_turnLeft_32 : xAt mX9_turnLeft 32 (.aload_n 0) 1 33 := ⟨by decide +kernel, rfl⟩
theorem eX9_turnLeft_33 : xAt mX9_turnLeft 33 (.getfield 19) 3 36 := ⟨by decide +kernel, rfl⟩
theorem eX9_turnLeft_36 : xAt mX9_turnLeft 36 (.aload_n 0) 1 37 := ⟨by decide +kernel, rfl⟩
theorem eX9_turnLeft_37 : xAt mX9_turnLeft 37 (.getfield 42) 3 40 := ⟨by decide +kernel, rfl⟩
theorem eX9_turnLeft_40 : xAt mX9_turnLeft 40 (.iload_n 1) 1 41 := ⟨by decide +kernel, rfl⟩
theorem eX9_turnLeft_41 : xAt mX9_turnLeft 41 (.iconst 1) 1 42 := ⟨by decide +kernel, rfl⟩
theorem eX9_turnLeft_42 : xAt mX9_turnLeft 42 (.iadd) 1 43 := ⟨by decide +kernel, rfl⟩
theorem eX9_turnLeft_43 : xAt mX9_turnLeft 43 (.aload_n 0) 1 44 := ⟨by decide +kernel, rfl⟩
theorem eX9_turnLeft_44 : xAt mX9_turnLeft 44 (.getfield 218) 3 47 := ⟨by decide +kernel, rfl⟩
theorem eX9_turnLeft_47 : xAt mX9_turnLeft 47 (.irem) 1 48 := ⟨by decide +kernel, rfl⟩
theorem eX9_turnLeft_48 : xAt mX9_turnLeft 48 (.iaload) 1 49 := ⟨by decide +kernel, rfl⟩
theorem eX9_turnLeft_49 : xAt mX9_turnLeft 49 (.iconst (-1)) 1 50 := ⟨by decide +kernel, rfl⟩
theorem eX9_turnLeft_50 : xAt mX9_turnLeft 50 (.aload_n 0) 1 51 := ⟨by decide +kernel, rfl⟩
theorem eX9_turnLeft_51 : xAt mX9_turnLeft 51 (.getfield 28) 3 54 := ⟨by decide +kernel, rfl⟩
theorem eX9_turnLeft_54 : xAt mX9_turnLeft 54 (.iconst 0) 1 55 := ⟨by decide +kernel, rfl⟩
theorem eX9_turnLeft_55 : xAt mX9_turnLeft 55 (.lconst 1) 1 56 := ⟨by decide +kernel, rfl⟩
theorem eX9_turnLeft_56 : xAt mX9_turnLeft 56 (.invokevirtual 147) 3 59 := ⟨by decide +kernel, rfl⟩
theorem eX9_turnLeft_59 : xAt mX9_turnLeft 59 (.aload_n 0) 1 60 := ⟨by decide +kernel, rfl⟩
theorem eX9_turnLeft_60 : xAt mX9_turnLeft 60 (.aload_n 0) 1 61 := ⟨by decide +kernel, rfl⟩
theorem eX9_turnLeft_61 : xAt mX9_turnLeft 61 (.getfield 19) 3 64 := ⟨by decide +kernel, rfl⟩
theorem eX9_turnLeft_64 : xAt mX9_turnLeft 64 (.aload_n 0) 1 65 := ⟨by decide +kernel, rfl⟩
theorem eX9_turnLeft_65 : xAt mX9_turnLeft 65 (.getfield 42) 3 68 := ⟨by decide +kernel, rfl⟩
theorem eX9_turnLeft_68 : xAt mX9_turnLeft 68 (.iload_n 1) 1 69 := ⟨by decide +kernel, rfl⟩
theorem eX9_turnLeft_69 : xAt mX9_turnLeft 69 (.iaload) 1 70 := ⟨by decide +kernel, rfl⟩
theorem eX9_turnLeft_70 : xAt mX9_turnLeft 70 (.iconst (-1)) 1 71 := ⟨by decide +kernel, rfl⟩
theorem eX9_turnLeft_71 : xAt mX9_turnLeft 71 (.aload_n 0) 1 72 := ⟨by decide +kernel, rfl⟩
theorem eX9_turnLeft_72 : xAt mX9_turnLeft 72 (.getfield 16) 3 75 := ⟨by decide +kernel, rfl⟩
theorem eX9_turnLeft_75 : xAt mX9_turnLeft 75 (.aload_n 0) 1 76 := ⟨by decide +kernel, rfl⟩
theorem eX9_turnLeft_76 : xAt mX9_turnLeft 76 (.getfield 42) 3 79 := ⟨by decide +kernel, rfl⟩
theorem eX9_turnLeft_79 : xAt mX9_turnLeft 79 (.iload_n 1) 1 80 := ⟨by decide +kernel, rfl⟩
theorem eX9_turnLeft_80 : xAt mX9_turnLeft 80 (.iconst 1) 1 81 := ⟨by decide +kernel, rfl⟩
theorem eX9_turnLeft_81 : xAt mX9_turnLeft 81 (.iadd) 1 82 := ⟨by decide +kernel, rfl⟩
theorem eX9_turnLeft_82 : xAt mX9_turnLeft 82 (.aload_n 0) 1 83 := ⟨by decide +kernel, rfl⟩
theorem eX9_turnLeft_83 : xAt mX9_turnLeft 83 (.getfield 218) 3 86 := ⟨by decide +kernel, rfl⟩
theorem eX9_turnLeft_86 : xAt mX9_turnLeft 86 (.irem) 1 87 := ⟨by decide +kernel, rfl⟩
theorem eX9_turnLeft_87 : xAt mX9_turnLeft 87 (.iaload) 1 88 := ⟨by decide +kernel, rfl⟩
theorem eX9_turnLeft_88 : xAt mX9_turnLeft 88 (.iconst (-1)) 1 89 := ⟨by decide +kernel, rfl⟩
theorem eX9_turnLeft_89 : xAt mX9_turnLeft 89 (.aload_n 0) 1 90 := ⟨by decide +kernel, rfl⟩
theorem eX9_turnLeft_90 : xAt mX9_turnLeft 90 (.getfield 28) 3 93 := ⟨by decide +kernel, rfl⟩
theorem eX9_turnLeft_93 : xAt mX9_turnLeft 93 (.iconst 0) 1 94 := ⟨by decide +kernel, rfl⟩
theorem eX9_turnLeft_94 : xAt mX9_turnLeft 94 (.ldc2_w 126) 3 97 := ⟨by decide +kernel, rfl⟩
theorem eX9_turnLeft_97 : xAt mX9_turnLeft 97 (.invokevirtual 147) 3 100 := ⟨by decide +kernel, rfl⟩
theorem eX9_turnLeft_100 : xAt mX9_turnLeft 100 (.iinc 1 1) 3 103 := ⟨by decide +kernel, rfl⟩
theorem eX9_turnLeft_103 : xBr mX9_turnLeft 103 .goto (-91) 106 12 := ⟨by decide +kernel, rfl, by decide⟩
theorem eX9_turnLeft_106 : xAt mX9_turnLeft 106 (.aload_n 0) 1 107 := ⟨by decide +kernel, rfl⟩
theorem eX9_turnLeft_107 : xAt mX9_turnLeft 107 (.getfield 28) 3 110 := ⟨by decide +kernel, rfl⟩
theorem eX9_turnLeft_110 : xAt mX9_turnLeft 110 (.iconst 0) 1 111 := ⟨by decide +kernel, rfl⟩
theorem eX9_turnLeft_111 : xAt mX9_turnLeft 111 (.bipush 10) 2 113 := ⟨by decide +kernel, rfl⟩
theorem eX9_turnLeft_113 : xAt mX9_turnLeft 113 (.invokestatic 151) 3 116 := ⟨by decide +kernel, rfl⟩
theorem eX9_turnLeft_116 : xBr mX9_turnLeft 116 (.ifCond .ge) (7) 119 123 := ⟨by decide +kernel, rfl, by decide⟩
theorem eX9_turnLeft_119 : xAt mX9_turnLeft 119 (.iconst 1) 1 120 := ⟨by decide +kernel, rfl⟩
theorem eX9_turnLeft_120 : xBr mX9_turnLeft 120 .goto (4) 123 124 := ⟨by decide +kernel, rfl, by decide⟩
theorem eX9_turnLeft_123 : xAt mX9_turnLeft 123 (.iconst 0) 1 124 := ⟨by decide +kernel, rfl⟩
theorem eX9_turnLeft_124 : xAt mX9_turnLeft 124 (.istore_n 1) 1 125 := ⟨by decide +kernel, rfl⟩
theorem eX9_turnLeft_125 : xAt mX9_turnLeft 125 (.iconst 0) 1 126 := ⟨by decide +kernel, rfl⟩
theorem eX9_turnLeft_126 : xAt mX9_turnLeft 126 (.istore_n 2) 1 127 := ⟨by decide +kernel, rfl⟩
theorem eX9_turnLeft_127 : xAt mX9_turnLeft 127 (.iconst 0) 1 128 := ⟨by decide +kernel, rfl⟩
theorem eX9_turnLeft_128 : xAt mX9_turnLeft 128 (.istore_n 3) 1 129 := ⟨by decide +kernel, rfl⟩
theorem eX9_turnLeft_129 : xAt mX9_turnLeft 129 (.iload_n 3) 1 130 := ⟨by decide +kernel, rfl⟩
theorem eX9_turnLeft_130 : xAt mX9_turnLeft 130 (.aload_n 0) 1 131 := ⟨by decide +kernel, rfl⟩
theorem eX9_turnLeft_131 : xAt mX9_turnLeft 131 (.getfield 218) 3 134 := ⟨by decide +kernel, rfl⟩
theorem eX9_turnLeft_134 : xBr mX9_turnLeft 134 (.if_icmp .ge) (46) 137 180 := ⟨by decide +kernel, rfl, by decide⟩
theorem eX9_turnLeft_137 : xAt mX9_turnLeft 137 (.aload_n 0) 1 138 := ⟨by decide +kernel, rfl⟩
theorem eX9_turnLeft_138 : xAt mX9_turnLeft 138 (.getfield 45) 3 141 := ⟨by decide +kernel, rfl⟩
theorem eX9_turnLeft_141 : xAt mX9_turnLeft 141 (.iload_n 3) 1 142 := ⟨by decide +kernel, rfl⟩
theorem eX9_turnLeft_142 : xAt mX9_turnLeft 142 (.aload_n 0) 1 143 := ⟨by decide +kernel, rfl⟩
theorem eX9_turnLeft_143 : xAt mX9_turnLeft 143 (.getfield 42) 3 146 := ⟨by decide +kernel, rfl⟩
theorem eX9_turnLeft_146 : xAt mX9_turnLeft 146 (.iload_n 3) 1 147 := ⟨by decide +kernel, rfl⟩
theorem eX9_turnLeft_147 : xAt mX9_turnLeft 147 (.iaload) 1 148 := ⟨by decide +kernel, rfl⟩
theorem eX9_turnLeft_148 : xAt mX9_turnLeft 148 (.iastore) 1 149 := ⟨by decide +kernel, rfl⟩
theorem eX9_turnLeft_149 : xAt mX9_turnLeft 149 (.aload_n 0) 1 150 := ⟨by decide +kernel, rfl⟩
theorem eX9_turnLeft_150 : xAt mX9_turnLeft 150 (.aload_n 0) 1 151 := ⟨by decide +kernel, rfl⟩
theorem eX9_turnLeft_151 : xAt mX9_turnLeft 151 (.getfield 42) 3 154 := ⟨by decide +kernel, rfl⟩
theorem eX9_turnLeft_154 : xAt mX9_turnLeft 154 (.iload_n 3) 1 155 := ⟨by decide +kernel, rfl⟩
theorem eX9_turnLeft_155 : xAt mX9_turnLeft 155 (.iaload) 1 156 := ⟨by decide +kernel, rfl⟩
theorem eX9_turnLeft_156 : xAt mX9_turnLeft 156 (.aload_n 0) 1 157 := ⟨by decide +kernel, rfl⟩
theorem eX9_turnLeft_157 : xAt mX9_turnLeft 157 (.getfield 42) 3 160 := ⟨by decide +kernel, rfl⟩
theorem eX9_turnLeft_160 : xAt mX9_turnLeft 160 (.iload_n 2) 1 161 := ⟨by decide +kernel, rfl⟩
theorem eX9_turnLeft_161 : xAt mX9_turnLeft 161 (.iaload) 1 162 := ⟨by decide +kernel, rfl⟩
theorem eX9_turnLeft_162 : xAt mX9_turnLeft 162 (.invokevirtual 158) 3 165 := ⟨by decide +kernel, rfl⟩
theorem eX9_turnLeft_165 : xBr mX9_turnLeft 165 (.ifCond .ge) (7) 168 172 := ⟨by decide +kernel, rfl, by decide⟩
theorem eX9_turnLeft_168 : xAt mX9_turnLeft 168 (.iload_n 3) 1 169 := ⟨by decide +kernel, rfl⟩
theorem eX9_turnLeft_169 : xBr mX9_turnLeft 169 .goto (4) 172 173 := ⟨by decide +kernel, rfl, by decide⟩
theorem eX9_turnLeft_172 : xAt mX9_turnLeft 172 (.iload_n 2) 1 173 := ⟨by decide +kernel, rfl⟩
theorem eX9_turnLeft_173 : xAt mX9_turnLeft 173 (.istore_n 2) 1 174 := ⟨by decide +kernel, rfl⟩
theorem eX9_turnLeft_174 : xAt mX9_turnLeft 174 (.iinc 3 1) 3 177 := ⟨by decide +kernel, rfl⟩
theorem eX9_turnLeft_177 : xBr mX9_turnLeft 177 .goto (-48) 180 129 := ⟨by decide +kernel, rfl, by decide⟩
theorem eX9_turnLeft_180 : xAt mX9_turnLeft 180 (.iconst 0) 1 181 := ⟨by decide +kernel, rfl⟩
theorem eX9_turnLeft_181 : xAt mX9_turnLeft 181 (.istore_n 3) 1 182 := ⟨by decide +kernel, rfl⟩
theorem eX9_turnLeft_182 : xAt mX9_turnLeft 182 (.iload_n 3) 1 183 := ⟨by decide +kernel, rfl⟩
theorem eX9_turnLeft_183 : xAt mX9_turnLeft 183 (.aload_n 0) 1 184 := ⟨by decide +kernel, rfl⟩
theorem eX9_turnLeft_184 : xAt mX9_turnLeft 184 (.getfield 218) 3 187 := ⟨by decide +kernel, rfl⟩
theorem eX9_turnLeft_187 : xBr mX9_turnLeft 187 (.if_icmp .ge) (43) 190 230 := ⟨by decide +kernel, rfl, by decide⟩
theorem eX9_turnLeft_190 : xAt mX9_turnLeft 190 (.aload_n 0) 1 191 := ⟨by decide +kernel, rfl⟩
theorem eX9_turnLeft_191 : xAt mX9_turnLeft 191 (.getfield 42) 3 194 := ⟨by decide +kernel, rfl⟩
theorem eX9_turnLeft_194 : xAt mX9_turnLeft 194 (.iload_n 3) 1 195 := ⟨by decide +kernel, rfl⟩
theorem eX9_turnLeft_195 : xAt mX9_turnLeft 195 (.aload_n 0) 1 196 := ⟨by decide +kernel, rfl⟩
theorem eX9_turnLeft_196 : xAt mX9_turnLeft 196 (.getfield 45) 3 199 := ⟨by decide +kernel, rfl⟩
theorem eX9_turnLeft_199 : xAt mX9_turnLeft 199 (.iload_n 1) 1 200 := ⟨by decide +kernel, rfl⟩
theorem eX9_turnLeft_200 : xBr mX9_turnLeft 200 (.ifCond .eq) (14) 203 214 := ⟨by decide +kernel, rfl, by decide⟩
theorem eX9_turnLeft_203 : xAt mX9_turnLeft 203 (.iload_n 2) 1 204 := ⟨by decide +kernel, rfl⟩
theorem eX9_turnLeft_204 : xAt mX9_turnLeft 204 (.iload_n 3) 1 205 := ⟨by decide +kernel, rfl⟩
theorem eX9_turnLeft_205 : xAt mX9_turnLeft 205 (.isub) 1 206 := ⟨by decide +kernel, rfl⟩
theorem eX9_turnLeft_206 : xAt mX9_turnLeft 206 (.aload_n 0) 1 207 := ⟨by decide +kernel, rfl⟩
theorem eX9_turnLeft_207 : xAt mX9_turnLeft 207 (.getfield 218) 3 210 := ⟨by decide +kernel, rfl⟩
theorem eX9_turnLeft_210 : xAt mX9_turnLeft 210 (.iadd) 1 211 := ⟨by decide +kernel, rfl⟩
theorem eX9_turnLeft_211 : xBr mX9_turnLeft 211 .goto (6) 214 217 := ⟨by decide +kernel, rfl, by decide⟩
theorem eX9_turnLeft_214 : xAt mX9_turnLeft 214 (.iload_n 2) 1 215 := ⟨by decide +kernel, rfl⟩
theorem eX9_turnLeft_215 : xAt mX9_turnLeft 215 (.iload_n 3) 1 216 := ⟨by decide +kernel, rfl⟩
theorem eX9_turnLeft_216 : xAt mX9_turnLeft 216 (.iadd) 1 217 := ⟨by decide +kernel, rfl⟩
theorem eX9_turnLeft_217 : xAt mX9_turnLeft 217 (.aload_n 0) 1 218 := ⟨by decide +kernel, rfl⟩
theorem eX9_turnLeft_218 : xAt mX9_turnLeft 218 (.getfield 218) 3 221 := ⟨by decide +kernel, rfl⟩
theorem eX9_turnLeft_221 : xAt mX9_turnLeft 221 (.irem) 1 222 := ⟨by decide +kernel, rfl⟩
theorem eX9_turnLeft_222 : xAt mX9_turnLeft 222 (.iaload) 1 223 := ⟨by decide +kernel, rfl⟩
theorem eX9_turnLeft_223 : xAt mX9_turnLeft 223 (.iastore) 1 224 := ⟨by decide +kernel, rfl⟩
theorem eX9_turnLeft_224 : xAt mX9_turnLeft 224 (.iinc 3 1) 3 227 := ⟨by decide +kernel, rfl⟩
theorem eX9_turnLeft_227 : xBr mX9_turnLeft 227 .goto (-45) 230 182 := ⟨by decide +kernel, rfl, by decide⟩
theorem eX9_turnLeft_230 : xAt mX9_turnLeft 230 (.return_) 1 231 := ⟨by decide +kernel, rfl⟩
theorem eX9_isParcel_0 : xAt mX9_isParcel 0 (.iload_n 1) 1 1 := ⟨by decide +kernel, rfl⟩
theorem eX9_isParcel_1 : xAt mX9_isParcel 1 (.iconst 0) 1 2 := ⟨by decide +kernel, rfl⟩
theorem eX9_isParcel_2 : xAt mX9_isParcel 2 (.aload_n 0) 1 3 := ⟨by decide +kernel, rfl⟩
theorem eX9_isParcel_3 : xAt mX9_isParcel 3 (.getfield 224) 3 6 := ⟨by decide +kernel, rfl⟩
theorem eX9_isParcel_6 : xAt mX9_isParcel 6 (.iconst 1) 1 7 := ⟨by decide +kernel, rfl⟩
theorem eX9_isParcel_7 : xAt mX9_isParcel 7 (.isub) 1 8 := ⟨by decide +kernel, rfl⟩
theorem eX9_isParcel_8 : xAt mX9_isParcel 8 (.invokestatic 173) 3 11 := ⟨by decide +kernel, rfl⟩
theorem eX9_isParcel_11 : xBr mX9_isParcel 11 (.ifCond .eq) (16) 14 27 := ⟨by decide +kernel, rfl, by decide⟩
theorem eX9_isParcel_14 : xAt mX9_isParcel 14 (.aload_n 0) 1 15 := ⟨by decide +kernel, rfl⟩
theorem eX9_isParcel_15 : xAt mX9_isParcel 15 (.getfield 48) 3 18 := ⟨by decide +kernel, rfl⟩
theorem eX9_isParcel_18 : xAt mX9_isParcel 18 (.iload_n 1) 1 19 := ⟨by decide +kernel, rfl⟩
theorem eX9_isParcel_19 : xAt mX9_isParcel 19 (.baload) 1 20 := ⟨by decide +kernel, rfl⟩
theorem eX9_isParcel_20 : xBr mX9_isParcel 20 (.ifCond .eq) (7) 23 27 := ⟨by decide +kernel, rfl, by decide⟩
theorem eX9_isParcel_23 : xAt mX9_isParcel 23 (.iconst 1) 1 24 := ⟨by decide +kernel, rfl⟩
theorem eX9_isParcel_24 : xBr mX9_isParcel 24 .goto (4) 27 28 := ⟨by decide +kernel, rfl, by decide⟩
theorem eX9_isParcel_27 : xAt mX9_isParcel 27 (.iconst 0) 1 28 := ⟨by decide +kernel, rfl⟩
theorem eX9_isParcel_28 : xAt mX9_isParcel 28 (.ireturn) 1 29 := ⟨by decide +kernel, rfl⟩
theorem eX9_keep_0 : xAt mX9_keep 0 (.aload_n 0) 1 1 := ⟨by decide +kernel, rfl⟩
theorem eX9_keep_1 : xAt mX9_keep 1 (.iconst 1) 1 2 := ⟨by decide +kernel, rfl⟩
theorem eX9_keep_2 : xAt mX9_keep 2 (.putfield 227) 3 5 := ⟨by decide +kernel, rfl⟩
theorem eX9_keep_5 : xAt mX9_keep 5 (.aload_n 0) 1 6 := ⟨by decide +kernel, rfl⟩
theorem eX9_keep_6 : xAt mX9_keep 6 (.aload_n 0) 1 7 := ⟨by decide +kernel, rfl⟩
theorem eX9_keep_7 : xAt mX9_keep 7 (.getfield 224) 3 10 := ⟨by decide +kernel, rfl⟩
theorem eX9_keep_10 : xAt mX9_keep 10 (.putfield 231) 3 13 := ⟨by decide +kernel, rfl⟩
theorem eX9_keep_13 : xAt mX9_keep 13 (.iconst 0) 1 14 := ⟨by decide +kernel, rfl⟩
theorem eX9_keep_14 : xAt mX9_keep 14 (.istore_n 1) 1 15 := ⟨by decide +kernel, rfl⟩
theorem eX9_keep_15 : xAt mX9_keep 15 (.iload_n 1) 1 16 := ⟨by decide +kernel, rfl⟩
theorem eX9_keep_16 : xAt mX9_keep 16 (.bipush 60) 2 18 := ⟨by decide +kernel, rfl⟩
theorem eX9_keep_18 : xBr mX9_keep 18 (.if_icmp .ge) (73) 21 91 := ⟨by decide +kernel, rfl, by decide⟩
theorem eX9_keep_21 : xAt mX9_keep 21 (.aload_n 0) 1 22 := ⟨by decide +kernel, rfl⟩
theorem eX9_keep_22 : xAt mX9_keep 22 (.getfield 64) 3 25 := ⟨by decide +kernel, rfl⟩
theorem eX9_keep_25 : xAt mX9_keep 25 (.iload_n 1) 1 26 := ⟨by decide +kernel, rfl⟩
theorem eX9_keep_26 : xAt mX9_keep 26 (.iload_n 1) 1 27 := ⟨by decide +kernel, rfl⟩
theorem eX9_keep_27 : xAt mX9_keep 27 (.aload_n 0) 1 28 := ⟨by decide +kernel, rfl⟩
theorem eX9_keep_28 : xAt mX9_keep 28 (.getfield 224) 3 31 := ⟨by decide +kernel, rfl⟩
theorem eX9_keep_31 : xBr mX9_keep 31 (.if_icmp .ge) (16) 34 47 := ⟨by decide +kernel, rfl, by decide⟩
theorem eX9_keep_34 : xAt mX9_keep 34 (.aload_n 0) 1 35 := ⟨by decide +kernel, rfl⟩
theorem eX9_keep_35 : xAt mX9_keep 35 (.getfield 48) 3 38 := ⟨by decide +kernel, rfl⟩
theorem eX9_keep_38 : xAt mX9_keep 38 (.iload_n 1) 1 39 := ⟨by decide +kernel, rfl⟩
theorem eX9_keep_39 : xAt mX9_keep 39 (.baload) 1 40 := ⟨by decide +kernel, rfl⟩
theorem eX9_keep_40 : xBr mX9_keep 40 (.ifCond .eq) (7) 43 47 := ⟨by decide +kernel, rfl, by decide⟩
theorem eX9_keep_43 : xAt mX9_keep 43 (.iconst 1) 1 44 := ⟨by decide +kernel, rfl⟩
theorem eX9_keep_44 : xBr mX9_keep 44 .goto (4) 47 48 := ⟨by decide +kernel, rfl, by decide⟩
theorem eX9_keep_47 : xAt mX9_keep 47 (.iconst 0) 1 48 := ⟨by decide +kernel, rfl⟩
theorem eX9_keep_48 : xAt mX9_keep 48 (.bastore) 1 49 := ⟨by decide +kernel, rfl⟩
theorem eX9_keep_49 : xAt mX9_keep 49 (.aload_n 0) 1 50 := ⟨by decide +kernel, rfl⟩
theorem eX9_keep_50 : xAt mX9_keep 50 (.getfield 67) 3 53 := ⟨by decide +kernel, rfl⟩
theorem eX9_keep_53 : xAt mX9_keep 53 (.iload_n 1) 1 54 := ⟨by decide +kernel, rfl⟩
theorem eX9_keep_54 : xAt mX9_keep 54 (.aload_n 0) 1 55 := ⟨by decide +kernel, rfl⟩
theorem eX9_keep_55 : xAt mX9_keep 55 (.getfield 52) 3 58 := ⟨by decide +kernel, rfl⟩
theorem eX9_keep_58 : xAt mX9_keep 58 (.iload_n 1) 1 59 := ⟨by decide +kernel, rfl⟩
theorem eX9_keep_59 : xAt mX9_keep 59 (.iaload) 1 60 := ⟨by decide +kernel, rfl⟩
theorem eX9_keep_60 : xAt mX9_keep 60 (.iastore) 1 61 := ⟨by decide +kernel, rfl⟩
theorem eX9_keep_61 : xAt mX9_keep 61 (.aload_n 0) 1 62 := ⟨by decide +kernel, rfl⟩
theorem eX9_keep_62 : xAt mX9_keep 62 (.getfield 70) 3 65 := ⟨by decide +kernel, rfl⟩
theorem eX9_keep_65 : xAt mX9_keep 65 (.iload_n 1) 1 66 := ⟨by decide +kernel, rfl⟩
theorem eX9_keep_66 : xAt mX9_keep 66 (.aload_n 0) 1 67 := ⟨by decide +kernel, rfl⟩
theorem eX9_keep_67 : xAt mX9_keep 67 (.getfield 55) 3 70 := ⟨by decide +kernel, rfl⟩
theorem eX9_keep_70 : xAt mX9_keep 70 (.iload_n 1) 1 71 := ⟨by decide +kernel, rfl⟩
theorem eX9_keep_71 : xAt mX9_keep 71 (.iaload) 1 72 := ⟨by decide +kernel, rfl⟩
theorem eX9_keep_72 : xAt mX9_keep 72 (.iastore) 1 73 := ⟨by decide +kernel, rfl⟩
theorem eX9_keep_73 : xAt mX9_keep 73 (.aload_n 0) 1 74 := ⟨by decide +kernel, rfl⟩
theorem eX9_keep_74 : xAt mX9_keep 74 (.getfield 73) 3 77 := ⟨by decide +kernel, rfl⟩
theorem eX9_keep_77 : xAt mX9_keep 77 (.iload_n 1) 1 78 := ⟨by decide +kernel, rfl⟩
theorem eX9_keep_78 : xAt mX9_keep 78 (.aload_n 0) 1 79 := ⟨by decide +kernel, rfl⟩
theorem eX9_keep_79 : xAt mX9_keep 79 (.getfield 58) 3 82 := ⟨by decide +kernel, rfl⟩
theorem eX9_keep_82 : xAt mX9_keep 82 (.iload_n 1) 1 83 := ⟨by decide +kernel, rfl⟩
theorem eX9_keep_83 : xAt mX9_keep 83 (.iaload) 1 84 := ⟨by decide +kernel, rfl⟩
theorem eX9_keep_84 : xAt mX9_keep 84 (.iastore) 1 85 := ⟨by decide +kernel, rfl⟩
theorem eX9_keep_85 : xAt mX9_keep 85 (.iinc 1 1) 3 88 := ⟨by decide +kernel, rfl⟩
theorem eX9_keep_88 : xBr mX9_keep 88 .goto (-73) 91 15 := ⟨by decide +kernel, rfl, by decide⟩
theorem eX9_keep_91 : xAt mX9_keep 91 (.iconst 0) 1 92 := ⟨by decide +kernel, rfl⟩
theorem eX9_keep_92 : xAt mX9_keep 92 (.istore_n 1) 1 93 := ⟨by decide +kernel, rfl⟩
theorem eX9_keep_93 : xAt mX9_keep 93 (.iload_n 1) 1 94 := ⟨by decide +kernel, rfl⟩
theorem eX9_keep_94 : xAt mX9_keep 94 (.sipush 720) 3 97 := ⟨by decide +kernel, rfl⟩
theorem eX9_keep_97 : xBr mX9_keep 97 (.if_icmp .ge) (21) 100 118 := ⟨by decide +kernel, rfl, by decide⟩
theorem eX9_keep_100 : xAt mX9_keep 100 (.aload_n 0) 1 101 := ⟨by decide +kernel, rfl⟩
theorem eX9_keep_101 : xAt mX9_keep 101 (.getfield 76) 3 104 := ⟨by decide +kernel, rfl⟩
theorem eX9_keep_104 : xAt mX9_keep 104 (.iload_n 1) 1 105 := ⟨by decide +kernel, rfl⟩
theorem eX9_keep_105 : xAt mX9_keep 105 (.aload_n 0) 1 106 := ⟨by decide +kernel, rfl⟩
theorem eX9_keep_106 : xAt mX9_keep 106 (.getfield 61) 3 109 := ⟨by decide +kernel, rfl⟩
theorem eX9_keep_109 : xAt mX9_keep 109 (.iload_n 1) 1 110 := ⟨by decide +kernel, rfl⟩
theorem eX9_keep_110 : xAt mX9_keep 110 (.iaload) 1 111 := ⟨by decide +kernel, rfl⟩
theorem eX9_keep_111 : xAt mX9_keep 111 (.iastore) 1 112 := ⟨by decide +kernel, rfl⟩
theorem eX9_keep_112 : xAt mX9_keep 112 (.iinc 1 1) 3 115 := ⟨by decide +kernel, rfl⟩
theorem eX9_keep_115 : xBr mX9_keep 115 .goto (-22) 118 93 := ⟨by decide +kernel, rfl, by decide⟩
theorem eX9_keep_118 : xAt mX9_keep 118 (.return_) 1 119 := ⟨by decide +kernel, rfl⟩
theorem eX9_store_0 : xAt mX9_store 0 (.aload_n 0) 1 1 := ⟨by decide +kernel, rfl⟩
theorem eX9_store_1 : xAt mX9_store 1 (.getfield 58) 3 4 := ⟨by decide +kernel, rfl⟩
theorem eX9_store_4 : xAt mX9_store 4 (.iload_n 1) 1 5 := ⟨by decide +kernel, rfl⟩
theorem eX9_store_5 : xAt mX9_store 5 (.aload_n 0) 1 6 := ⟨by decide +kernel, rfl⟩
theorem eX9_store_6 : xAt mX9_store 6 (.getfield 218) 3 9 := ⟨by decide +kernel, rfl⟩
theorem eX9_store_9 : xAt mX9_store 9 (.iastore) 1 10 := ⟨by decide +kernel, rfl⟩
theorem eX9_store_10 : xAt mX9_store 10 (.iconst 0) 1 11 := ⟨by decide +kernel, rfl⟩
theorem eX9_store_11 : xAt mX9_store 11 (.istore_n 2) 1 12 := ⟨by decide +kernel, rfl⟩
theorem eX9_store_12 : xAt mX9_store 12 (.iload_n 2) 1 13 := ⟨by decide +kernel, rfl⟩
theorem eX9_store_13 : xAt mX9_store 13 (.aload_n 0) 1 14 := ⟨by decide +kernel, rfl⟩
theorem eX9_store_14 : xAt mX9_store 14 (.getfield 218) 3 17 := ⟨by decide +kernel, rfl⟩
theorem eX9_store_17 : xBr mX9_store 17 (.if_icmp .ge) (26) 20 43 := ⟨by decide +kernel, rfl, by decide⟩
theorem eX9_store_20 : xAt mX9_store 20 (.aload_n 0) 1 21 := ⟨by decide +kernel, rfl⟩
theorem eX9_store_21 : xAt mX9_store 21 (.getfield 61) 3 24 := ⟨by decide +kernel, rfl⟩
theorem eX9_store_24 : xAt mX9_store 24 (.bipush 12) 2 26 := ⟨by decide +kernel, rfl⟩
theorem eX9_store_26 : xAt mX9_store 26 (.iload_n 1) 1 27 := ⟨by decide +kernel, rfl⟩
theorem eX9_store_27 : xAt mX9_store 27 (.imul) 1 28 := ⟨by decide +kernel, rfl⟩
theorem eX9_store_28 : xAt mX9_store 28 (.iload_n 2) 1 29 := ⟨by decide +kernel, rfl⟩
theorem eX9_store_29 : xAt mX9_store 29 (.iadd) 1 30 := ⟨by decide +kernel, rfl⟩
theorem eX9_store_30 : xAt mX9_store 30 (.aload_n 0) 1 31 := ⟨by decide +kernel, rfl⟩
theorem eX9_store_31 : xAt mX9_store 31 (.getfield 42) 3 34 := ⟨by decide +kernel, rfl⟩
theorem eX9_store_34 : xAt mX9_store 34 (.iload_n 2) 1 35 := ⟨by decide +kernel, rfl⟩
theorem eX9_store_35 : xAt mX9_store 35 (.iaload) 1 36 := ⟨by decide +kernel, rfl⟩
theorem eX9_store_36 : xAt mX9_store 36 (.iastore) 1 37 := ⟨by decide +kernel, rfl⟩
theorem eX9_store_37 : xAt mX9_store 37 (.iinc 2 1) 3 40 := ⟨by decide +kernel, rfl⟩
theorem eX9_store_40 : xBr mX9_store 40 .goto (-28) 43 12 := ⟨by decide +kernel, rfl, by decide⟩
theorem eX9_store_43 : xAt mX9_store 43 (.return_) 1 44 := ⟨by decide +kernel, rfl⟩
theorem eX9_load_0 : xAt mX9_load 0 (.aload_n 0) 1 1 := ⟨by decide +kernel, rfl⟩
theorem eX9_load_1 : xAt mX9_load 1 (.aload_n 0) 1 2 := ⟨by decide +kernel, rfl⟩
theorem eX9_load_2 : xAt mX9_load 2 (.getfield 58) 3 5 := ⟨by decide +kernel, rfl⟩
theorem eX9_load_5 : xAt mX9_load 5 (.iload_n 1) 1 6 := ⟨by decide +kernel, rfl⟩
theorem eX9_load_6 : xAt mX9_load 6 (.iaload) 1 7 := ⟨by decide +kernel, rfl⟩
theorem eX9_load_7 : xAt mX9_load 7 (.putfield 218) 3 10 := ⟨by decide +kernel, rfl⟩
theorem eX9_load_10 : xAt mX9_load 10 (.iconst 0) 1 11 := ⟨by decide +kernel, rfl⟩
theorem eX9_load_11 : xAt mX9_load 11 (.istore_n 2) 1 12 := ⟨by decide +kernel, rfl⟩
theorem eX9_load_12 : xAt mX9_load 12 (.iload_n 2) 1 13 := ⟨by decide +kernel, rfl⟩
theorem eX9_load_13 : xAt mX9_load 13 (.aload_n 0) 1 14 := ⟨by decide +kernel, rfl⟩
theorem eX9_load_14 : xAt mX9_load 14 (.getfield 218) 3 17 := ⟨by decide +kernel, rfl⟩
theorem eX9_load_17 : xBr mX9_load 17 (.if_icmp .ge) (26) 20 43 := ⟨by decide +kernel, rfl, by decide⟩
theorem eX9_load_20 : xAt mX9_load 20 (.aload_n 0) 1 21 := ⟨by decide +kernel, rfl⟩
theorem eX9_load_21 : xAt mX9_load 21 (.getfield 42) 3 24 := ⟨by decide +kernel, rfl⟩
theorem eX9_load_24 : xAt mX9_load 24 (.iload_n 2) 1 25 := ⟨by decide +kernel, rfl⟩
theorem eX9_load_25 : xAt mX9_load 25 (.aload_n 0) 1 26 := ⟨by decide +kernel, rfl⟩
theorem eX9_load_26 : xAt mX9_load 26 (.getfield 61) 3 29 := ⟨by decide +kernel, rfl⟩
theorem eX9_load_29 : xAt mX9_load 29 (.bipush 12) 2 31 := ⟨by decide +kernel, rfl⟩
theorem eX9_load_31 : xAt mX9_load 31 (.iload_n 1) 1 32 := ⟨by decide +kernel, rfl⟩
theorem eX9_load_32 : xAt mX9_load 32 (.imul) 1 33 := ⟨by decide +kernel, rfl⟩
theorem eX9_load_33 : xAt mX9_load 33 (.iload_n 2) 1 34 := ⟨by decide +kernel, rfl⟩
theorem eX9_load_34 : xAt mX9_load 34 (.iadd) 1 35 := ⟨by decide +kernel, rfl⟩
theorem eX9_load_35 : xAt mX9_load 35 (.iaload) 1 36 := ⟨by decide +kernel, rfl⟩
theorem eX9_load_36 : xAt mX9_load 36 (.iastore) 1 37 := ⟨by decide +kernel, rfl⟩
theorem eX9_load_37 : xAt mX9_load 37 (.iinc 2 1) 3 40 := ⟨by decide +kernel, rfl⟩
theorem eX9_load_40 : xBr mX9_load 40 .goto (-28) 43 12 := ⟨by decide +kernel, rfl, by decide⟩
theorem eX9_load_43 : xAt mX9_load 43 (.return_) 1 44 := ⟨by decide +kernel, rfl⟩
theorem eX9_of_0 : xAt mX9_of 0 (.aload_n 0) 1 1 := ⟨by decide +kernel, rfl⟩
theorem eX9_of_1 : xAt mX9_of 1 (.getfield 61) 3 4 := ⟨by decide +kernel, rfl⟩
theorem eX9_of_4 : xAt mX9_of 4 (.bipush 12) 2 6 := ⟨by decide +kernel, rfl⟩
theorem eX9_of_6 : xAt mX9_of 6 (.iload_n 1) 1 7 := ⟨by decide +kernel, rfl⟩
theorem eX9_of_7 : xAt mX9_of 7 (.imul) 1 8 := ⟨by decide +kernel, rfl⟩
theorem eX9_of_8 : xAt mX9_of 8 (.iload_n 2) 1 9 := ⟨by decide +kernel, rfl⟩
theorem eX9_of_9 : xAt mX9_of 9 (.aload_n 0) 1 10 := ⟨by decide +kernel, rfl⟩
theorem eX9_of_10 : xAt mX9_of 10 (.getfield 58) 3 13 := ⟨by decide +kernel, rfl⟩
theorem eX9_of_13 : xAt mX9_of 13 (.iload_n 1) 1 14 := ⟨by decide +kernel, rfl⟩
theorem eX9_of_14 : xAt mX9_of 14 (.iaload) 1 15 := ⟨by decide +kernel, rfl⟩
theorem eX9_of_15 : xAt mX9_of 15 (.irem) 1 16 := ⟨by decide +kernel, rfl⟩
theorem eX9_of_16 : xAt mX9_of 16 (.iadd) 1 17 := ⟨by decide +kernel, rfl⟩
theorem eX9_of_17 : xAt mX9_of 17 (.iaload) 1 18 := ⟨by decide +kernel, rfl⟩
theorem eX9_of_18 : xAt mX9_of 18 (.ireturn) 1 19 := ⟨by decide +kernel, rfl⟩
theorem eX9_made_0 : xAt mX9_made 0 (.aload_n 0) 1 1 := ⟨by decide +kernel, rfl⟩
theorem eX9_made_1 : xAt mX9_made 1 (.getfield 224) 3 4 := ⟨by decide +kernel, rfl⟩
theorem eX9_made_4 : xAt mX9_made 4 (.istore_n 3) 1 5 := ⟨by decide +kernel, rfl⟩
theorem eX9_made_5 : xAt mX9_made 5 (.aload_n 0) 1 6 := ⟨by decide +kernel, rfl⟩
theorem eX9_made_6 : xAt mX9_made 6 (.dup) 1 7 := ⟨by decide +kernel, rfl⟩
theorem eX9_made_7 : xAt mX9_made 7 (.getfield 224) 3 10 := ⟨by decide +kernel, rfl⟩
theorem eX9_made_10 : xAt mX9_made 10 (.iconst 1) 1 11 := ⟨by decide +kernel, rfl⟩
theorem eX9_made_11 : xAt mX9_made 11 (.iadd) 1 12 := ⟨by decide +kernel, rfl⟩
theorem eX9_made_12 : xAt mX9_made 12 (.putfield 224) 3 15 := ⟨by decide +kernel, rfl⟩
theorem eX9_made_15 : xAt mX9_made 15 (.aload_n 0) 1 16 := ⟨by decide +kernel, rfl⟩
theorem eX9_made_16 : xAt mX9_made 16 (.getfield 48) 3 19 := ⟨by decide +kernel, rfl⟩
theorem eX9_made_19 : xAt mX9_made 19 (.iload_n 3) 1 20 := ⟨by decide +kernel, rfl⟩
theorem eX9_made_20 : xAt mX9_made 20 (.iconst 1) 1 21 := ⟨by decide +kernel, rfl⟩
theorem eX9_made_21 : xAt mX9_made 21 (.bastore) 1 22 := ⟨by decide +kernel, rfl⟩
theorem eX9_made_22 : xAt mX9_made 22 (.aload_n 0) 1 23 := ⟨by decide +kernel, rfl⟩
theorem eX9_made_23 : xAt mX9_made 23 (.getfield 52) 3 26 := ⟨by decide +kernel, rfl⟩
theorem eX9_made_26 : xAt mX9_made 26 (.iload_n 3) 1 27 := ⟨by decide +kernel, rfl⟩
theorem eX9_made_27 : xAt mX9_made 27 (.iload_n 1) 1 28 := ⟨by decide +kernel, rfl⟩
theorem eX9_made_28 : xAt mX9_made 28 (.iastore) 1 29 := ⟨by decide +kernel, rfl⟩
theorem eX9_made_29 : xAt mX9_made 29 (.aload_n 0) 1 30 := ⟨by decide +kernel, rfl⟩
theorem eX9_made_30 : xAt mX9_made 30 (.getfield 55) 3 33 := ⟨by decide +kernel, rfl⟩
theorem eX9_made_33 : xAt mX9_made 33 (.iload_n 3) 1 34 := ⟨by decide +kernel, rfl⟩
theorem eX9_made_34 : xAt mX9_made 34 (.iload_n 2) 1 35 := ⟨by decide +kernel, rfl⟩
theorem eX9_made_35 : xAt mX9_made 35 (.iastore) 1 36 := ⟨by decide +kernel, rfl⟩
theorem eX9_made_36 : xAt mX9_made 36 (.aload_n 0) 1 37 := ⟨by decide +kernel, rfl⟩
theorem eX9_made_37 : xAt mX9_made 37 (.iload_n 3) 1 38 := ⟨by decide +kernel, rfl⟩
theorem eX9_made_38 : xAt mX9_made 38 (.invokevirtual 234) 3 41 := ⟨by decide +kernel, rfl⟩
theorem eX9_made_41 : xAt mX9_made 41 (.iload_n 3) 1 42 := ⟨by decide +kernel, rfl⟩
theorem eX9_made_42 : xAt mX9_made 42 (.ireturn) 1 43 := ⟨by decide +kernel, rfl⟩
theorem eX9_lies_0 : xAt mX9_lies 0 (.aload_n 0) 1 1 := ⟨by decide +kernel, rfl⟩
theorem eX9_lies_1 : xAt mX9_lies 1 (.getfield 58) 3 4 := ⟨by decide +kernel, rfl⟩
theorem eX9_lies_4 : xAt mX9_lies 4 (.iload_n 1) 1 5 := ⟨by decide +kernel, rfl⟩
theorem eX9_lies_5 : xAt mX9_lies 5 (.iaload) 1 6 := ⟨by decide +kernel, rfl⟩
theorem eX9_lies_6 : xAt mX9_lies 6 (.istore_n 3) 1 7 := ⟨by decide +kernel, rfl⟩
theorem eX9_lies_7 : xAt mX9_lies 7 (.iconst 0) 1 8 := ⟨by decide +kernel, rfl⟩
theorem eX9_lies_8 : xAt mX9_lies 8 (.istore 4) 2 10 := ⟨by decide +kernel, rfl⟩
theorem eX9_lies_10 : xAt mX9_lies 10 (.aload_n 0) 1 11 := ⟨by decide +kernel, rfl⟩
theorem eX9_lies_11 : xAt mX9_lies 11 (.iconst (-1)) 1 12 := ⟨by decide +kernel, rfl⟩
theorem eX9_lies_12 : xAt mX9_lies 12 (.putfield 238) 3 15 := ⟨by decide +kernel, rfl⟩
theorem eX9_lies_15 : xAt mX9_lies 15 (.iload_n 3) 1 16 := ⟨by decide +kernel, rfl⟩
theorem eX9_lies_16 : xAt mX9_lies 16 (.iconst 1) 1 17 := ⟨by decide +kernel, rfl⟩
theorem eX9_lies_17 : xAt mX9_lies 17 (.isub) 1 18 := ⟨by decide +kernel, rfl⟩
theorem eX9_lies_18 : xAt mX9_lies 18 (.istore 5) 2 20 := ⟨by decide +kernel, rfl⟩
theorem eX9_lies_20 : xAt mX9_lies 20 (.iload 5) 2 22 := ⟨by decide +kernel, rfl⟩
theorem eX9_lies_22 : xBr mX9_lies 22 (.ifCond .lt) (139) 25 161 := ⟨by decide +kernel, rfl, by decide⟩
theorem eX9_lies_25 : xAt mX9_lies 25 (.aload_n 0) 1 26 := ⟨by decide +kernel, rfl⟩
theorem eX9_lies_26 : xAt mX9_lies 26 (.iload_n 1) 1 27 := ⟨by decide +kernel, rfl⟩
theorem eX9_lies_27 : xAt mX9_lies 27 (.iload 5) 2 29 := ⟨by decide +kernel, rfl⟩
theorem eX9_lies_29 : xAt mX9_lies 29 (.invokevirtual 241) 3 32 := ⟨by decide +kernel, rfl⟩
theorem eX9_lies_32 : xAt mX9_lies 32 (.istore 6) 2 34 := ⟨by decide +kernel, rfl⟩
theorem eX9_lies_34 : xAt mX9_lies 34 (.aload_n 0) 1 35 := ⟨by decide +kernel, rfl⟩
theorem eX9_lies_35 : xAt mX9_lies 35 (.iload_n 1) 1 36 := ⟨by decide +kernel, rfl⟩
theorem eX9_lies_36 : xAt mX9_lies 36 (.iload 5) 2 38 := ⟨by decide +kernel, rfl⟩
theorem eX9_lies_38 : xAt mX9_lies 38 (.iconst 1) 1 39 := ⟨by decide +kernel, rfl⟩
theorem eX9_lies_39 : xAt mX9_lies 39 (.iadd) 1 40 := ⟨by decide +kernel, rfl⟩
theorem eX9_lies_40 : xAt mX9_lies 40 (.invokevirtual 241) 3 43 := ⟨by decide +kernel, rfl⟩
theorem eX9_lies_43 : xAt mX9_lies 43 (.istore 7) 2 45 := ⟨by decide +kernel, rfl⟩
theorem eX9_lies_45 : xAt mX9_lies 45 (.aload_n 0) 1 46 := ⟨by decide +kernel, rfl⟩
theorem eX9_lies_46 : xAt mX9_lies 46 (.iload 6) 2 48 := ⟨by decide +kernel, rfl⟩
theorem eX9_lies_48 : xAt mX9_lies 48 (.iload 7) 2 50 := ⟨by decide +kernel, rfl⟩
theorem eX9_lies_50 : xAt mX9_lies 50 (.iload_n 2) 1 51 := ⟨by decide +kernel, rfl⟩
theorem eX9_lies_51 : xAt mX9_lies 51 (.invokevirtual 162) 3 54 := ⟨by decide +kernel, rfl⟩
theorem eX9_lies_54 : xAt mX9_lies 54 (.istore 8) 2 56 := ⟨by decide +kernel, rfl⟩
theorem eX9_lies_56 : xAt mX9_lies 56 (.iload 8) 2 58 := ⟨by decide +kernel, rfl⟩
theorem eX9_lies_58 : xBr mX9_lies 58 (.ifCond .ne) (21) 61 79 := ⟨by decide +kernel, rfl, by decide⟩
theorem eX9_lies_61 : xAt mX9_lies 61 (.aload_n 0) 1 62 := ⟨by decide +kernel, rfl⟩
theorem eX9_lies_62 : xAt mX9_lies 62 (.iload 6) 2 64 := ⟨by decide +kernel, rfl⟩
theorem eX9_lies_64 : xAt mX9_lies 64 (.iload 7) 2 66 := ⟨by decide +kernel, rfl⟩
theorem eX9_lies_66 : xAt mX9_lies 66 (.iload_n 2) 1 67 := ⟨by decide +kernel, rfl⟩
theorem eX9_lies_67 : xAt mX9_lies 67 (.invokevirtual 166) 3 70 := ⟨by decide +kernel, rfl⟩
theorem eX9_lies_70 : xBr mX9_lies 70 (.ifCond .eq) (9) 73 79 := ⟨by decide +kernel, rfl, by decide⟩
theorem eX9_lies_73 : xAt mX9_lies 73 (.aload_n 0) 1 74 := ⟨by decide +kernel, rfl⟩
theorem eX9_lies_74 : xAt mX9_lies 74 (.iload 5) 2 76 := ⟨by decide +kernel, rfl⟩
theorem eX9_lies_76 : xAt mX9_lies 76 (.putfield 238) 3 79 := ⟨by decide +kernel, rfl⟩
theorem eX9_lies_79 : xAt mX9_lies 79 (.aload_n 0) 1 80 := ⟨by decide +kernel, rfl⟩
theorem eX9_lies_80 : xAt mX9_lies 80 (.getfield 19) 3 83 := ⟨by decide +kernel, rfl⟩
theorem eX9_lies_83 : xAt mX9_lies 83 (.iload 6) 2 85 := ⟨by decide +kernel, rfl⟩
theorem eX9_lies_85 : xAt mX9_lies 85 (.iload_n 2) 1 86 := ⟨by decide +kernel, rfl⟩
theorem eX9_lies_86 : xAt mX9_lies 86 (.invokestatic 155) 3 89 := ⟨by decide +kernel, rfl⟩
theorem eX9_lies_89 : xBr mX9_lies 89 (.ifCond .gt) (7) 92 96 := ⟨by decide +kernel, rfl, by decide⟩
theorem eX9_lies_92 : xAt mX9_lies 92 (.iconst 1) 1 93 := ⟨by decide +kernel, rfl⟩
theorem eX9_lies_93 : xBr mX9_lies 93 .goto (4) 96 97 := ⟨by decide +kernel, rfl, by decide⟩
theorem eX9_lies_96 : xAt mX9_lies 96 (.iconst 0) 1 97 := ⟨by decide +kernel, rfl⟩
theorem eX9_lies_97 : xAt mX9_lies 97 (.istore 9) 2 99 := ⟨by decide +kernel, rfl⟩
theorem eX9_lies_99 : xAt mX9_lies 99 (.aload_n 0) 1 100 := ⟨by decide +kernel, rfl⟩
theorem eX9_lies_100 : xAt mX9_lies 100 (.getfield 19) 3 103 := ⟨by decide +kernel, rfl⟩
theorem eX9_lies_103 : xAt mX9_lies 103 (.iload 7) 2 105 := ⟨by decide +kernel, rfl⟩
theorem eX9_lies_105 : xAt mX9_lies 105 (.iload_n 2) 1 106 := ⟨by decide +kernel, rfl⟩
theorem eX9_lies_106 : xAt mX9_lies 106 (.invokestatic 155) 3 109 := ⟨by decide +kernel, rfl⟩
theorem eX9_lies_109 : xBr mX9_lies 109 (.ifCond .gt) (7) 112 116 := ⟨by decide +kernel, rfl, by decide⟩
theorem eX9_lies_112 : xAt mX9_lies 112 (.iconst 1) 1 113 := ⟨by decide +kernel, rfl⟩
theorem eX9_lies_113 : xBr mX9_lies 113 .goto (4) 116 117 := ⟨by decide +kernel, rfl, by decide⟩
theorem eX9_lies_116 : xAt mX9_lies 116 (.iconst 0) 1 117 := ⟨by decide +kernel, rfl⟩
theorem eX9_lies_117 : xAt mX9_lies 117 (.istore 10) 2 119 := ⟨by decide +kernel, rfl⟩
theorem eX9_lies_119 : xAt mX9_lies 119 (.iload 9) 2 121 := ⟨by decide +kernel, rfl⟩
theorem eX9_lies_121 : xBr mX9_lies 121 (.ifCond .eq) (16) 124 137 := ⟨by decide +kernel, rfl, by decide⟩
theorem eX9_lies_124 : xAt mX9_lies 124 (.iload 10) 2 126 := ⟨by decide +kernel, rfl⟩
theorem eX9_lies_126 : xBr mX9_lies 126 (.ifCond .ne) (11) 129 137 := ⟨by decide +kernel, rfl, by decide⟩
theorem eX9_lies_129 : xAt mX9_lies 129 (.iload 8) 2 131 := ⟨by decide +kernel, rfl⟩
theorem eX9_lies_131 : xBr mX9_lies 131 (.ifCond .le) (6) 134 137 := ⟨by decide +kernel, rfl, by decide⟩
theorem eX9_lies_134 : xAt mX9_lies 134 (.iinc 4 1) 3 137 := ⟨by decide +kernel, rfl⟩
theorem eX9_lies_137 : xAt mX9_lies 137 (.iload 9) 2 139 := ⟨by decide +kernel, rfl⟩
theorem eX9_lies_139 : xBr mX9_lies 139 (.ifCond .ne) (16) 142 155 := ⟨by decide +kernel, rfl, by decide⟩
theorem eX9_lies_142 : xAt mX9_lies 142 (.iload 10) 2 144 := ⟨by decide +kernel, rfl⟩
theorem eX9_lies_144 : xBr mX9_lies 144 (.ifCond .eq) (11) 147 155 := ⟨by decide +kernel, rfl, by decide⟩
theorem eX9_lies_147 : xAt mX9_lies 147 (.iload 8) 2 149 := ⟨by decide +kernel, rfl⟩
theorem eX9_lies_149 : xBr mX9_lies 149 (.ifCond .ge) (6) 152 155 := ⟨by decide +kernel, rfl, by decide⟩
theorem eX9_lies_152 : xAt mX9_lies 152 (.iinc 4 (-1)) 3 155 := ⟨by decide +kernel, rfl⟩
theorem eX9_lies_155 : xAt mX9_lies 155 (.iinc 5 (-1)) 3 158 := ⟨by decide +kernel, rfl⟩
theorem eX9_lies_158 : xBr mX9_lies 158 .goto (-138) 161 20 := ⟨by decide +kernel, rfl, by decide⟩
theorem eX9_lies_161 : xAt mX9_lies 161 (.aload_n 0) 1 162 := ⟨by decide +kernel, rfl⟩
theorem eX9_lies_162 : xAt mX9_lies 162 (.getfield 238) 3 165 := ⟨by decide +kernel, rfl⟩
theorem eX9_lies_165 : xAt mX9_lies 165 (.iconst (-1)) 1 166 := ⟨by decide +kernel, rfl⟩
theorem eX9_lies_166 : xBr mX9_lies 166 (.if_icmp .eq) (7) 169 173 := ⟨by decide +kernel, rfl, by decide⟩
theorem eX9_lies_169 : xAt mX9_lies 169 (.iconst 0) 1 170 := ⟨by decide +kernel, rfl⟩
theorem eX9_lies_170 : xBr mX9_lies 170 .goto (13) 173 183 := ⟨by decide +kernel, rfl, by decide⟩
theorem eX9_lies_173 : xAt mX9_lies 173 (.iload 4) 2 175 := ⟨by decide +kernel, rfl⟩
theorem eX9_lies_175 : xBr mX9_lies 175 (.ifCond .eq) (7) 178 182 := ⟨by decide +kernel, rfl, by decide⟩
theorem eX9_lies_178 : xAt mX9_lies 178 (.iconst 1) 1 179 := ⟨by decide +kernel, rfl⟩
theorem eX9_lies_179 : xBr mX9_lies 179 .goto (4) 182 183 := ⟨by decide +kernel, rfl, by decide⟩
theorem eX9_lies_182 : xAt mX9_lies 182 (.iconst (-1)) 1 183 := ⟨by decide +kernel, rfl⟩
theorem eX9_lies_183 : xAt mX9_lies 183 (.ireturn) 1 184 := ⟨by decide +kernel, rfl⟩
theorem eX9_passes_0 : xAt mX9_passes 0 (.aload_n 0) 1 1 := ⟨by decide +kernel, rfl⟩
theorem eX9_passes_1 : xAt mX9_passes 1 (.getfield 58) 3 4 := ⟨by decide +kernel, rfl⟩
theorem eX9_passes_4 : xAt mX9_passes 4 (.iload_n 3) 1 5 := ⟨by decide +kernel, rfl⟩
theorem eX9_passes_5 : xAt mX9_passes 5 (.iaload) 1 6 := ⟨by decide +kernel, rfl⟩
theorem eX9_passes_6 : xAt mX9_passes 6 (.istore 4) 2 8 := ⟨by decide +kernel, rfl⟩
theorem eX9_passes_8 : xAt mX9_passes 8 (.aload_n 0) 1 9 := ⟨by decide +kernel, rfl⟩
theorem eX9_passes_9 : xAt mX9_passes 9 (.iconst 0) 1 10 := ⟨by decide +kernel, rfl⟩
theorem eX9_passes_10 : xAt mX9_passes 10 (.putfield 244) 3 13 := ⟨by decide +kernel, rfl⟩
theorem eX9_passes_13 : xAt mX9_passes 13 (.aload_n 0) 1 14 := ⟨by decide +kernel, rfl⟩
theorem eX9_passes_14 : xAt mX9_passes 14 (.iconst 0) 1 15 := ⟨by decide +kernel, rfl⟩
theorem eX9_passes_15 : xAt mX9_passes 15 (.putfield 247) 3 18 := ⟨by decide +kernel, rfl⟩
theorem eX9_passes_18 : xAt mX9_passes 18 (.iconst 0) 1 19 := ⟨by decide +kernel, rfl⟩
theorem eX9_passes_19 : xAt mX9_passes 19 (.istore 5) 2 21 := ⟨by decide +kernel, rfl⟩
theorem eX9_passes_21 : xAt mX9_passes 21 (.aload_n 0) 1 22 := ⟨by decide +kernel, rfl⟩
theorem eX9_passes_22 : xAt mX9_passes 22 (.getfield 79) 3 25 := ⟨by decide +kernel, rfl⟩
theorem eX9_passes_25 : xAt mX9_passes 25 (.iconst 0) 1 26 := ⟨by decide +kernel, rfl⟩
theorem eX9_passes_26 : xAt mX9_passes 26 (.iload_n 1) 1 27 := ⟨by decide +kernel, rfl⟩
theorem eX9_passes_27 : xAt mX9_passes 27 (.iastore) 1 28 := ⟨by decide +kernel, rfl⟩
theorem eX9_passes_28 : xAt mX9_passes 28 (.iconst 1) 1 29 := ⟨by decide +kernel, rfl⟩
theorem eX9_passes_29 : xAt mX9_passes 29 (.istore 5) 2 31 := ⟨by decide +kernel, rfl⟩
theorem eX9_passes_31 : xAt mX9_passes 31 (.iconst 0) 1 32 := ⟨by decide +kernel, rfl⟩
theorem eX9_passes_32 : xAt mX9_passes 32 (.istore 6) 2 34 := ⟨by decide +kernel, rfl⟩
theorem eX9_passes_34 : xAt mX9_passes 34 (.iload 6) 2 36 := ⟨by decide +kernel, rfl⟩
theorem eX9_passes_36 : xAt mX9_passes 36 (.iload 4) 2 38 := ⟨by decide +kernel, rfl⟩
theorem eX9_passes_38 : xBr mX9_passes 38 (.if_icmp .ge) (140) 41 178 := ⟨by decide +kernel, rfl, by decide⟩
theorem eX9_passes_41 : xAt mX9_passes 41 (.aload_n 0) 1 42 := ⟨by decide +kernel, rfl⟩
theorem eX9_passes_42 : xAt mX9_passes 42 (.iload_n 3) 1 43 := ⟨by decide +kernel, rfl⟩
theorem eX9_passes_43 : xAt mX9_passes 43 (.iload 6) 2 45 := ⟨by decide +kernel, rfl⟩
theorem eX9_passes_45 : xAt mX9_passes 45 (.invokevirtual 241) 3 48 := ⟨by decide +kernel, rfl⟩
theorem eX9_passes_48 : xAt mX9_passes 48 (.istore 7) 2 50 := ⟨by decide +kernel, rfl⟩
theorem eX9_passes_50 : xAt mX9_passes 50 (.aload_n 0) 1 51 := ⟨by decide +kernel, rfl⟩
theorem eX9_passes_51 : xAt mX9_passes 51 (.iload_n 3) 1 52 := ⟨by decide +kernel, rfl⟩
theorem eX9_passes_52 : xAt mX9_passes 52 (.iload 6) 2 54 := ⟨by decide +kernel, rfl⟩
theorem eX9_passes_54 : xAt mX9_passes 54 (.iconst 1) 1 55 := ⟨by decide +kernel, rfl⟩
theorem eX9_passes_55 : xAt mX9_passes 55 (.iadd) 1 56 := ⟨by decide +kernel, rfl⟩
theorem eX9_passes_56 : xAt mX9_passes 56 (.invokevirtual 241) 3 59 := ⟨by decide +kernel, rfl⟩
theorem eX9_passes_59 : xAt mX9_passes 59 (.istore 8) 2 61 := ⟨by decide +kernel, rfl⟩
theorem eX9_passes_61 : xAt mX9_passes 61 (.aload_n 0) 1 62 := ⟨by decide +kernel, rfl⟩
theorem eX9_passes_62 : xAt mX9_passes 62 (.iload_n 1) 1 63 := ⟨by decide +kernel, rfl⟩
theorem eX9_passes_63 : xAt mX9_passes 63 (.iload_n 2) 1 64 := ⟨by decide +kernel, rfl⟩
theorem eX9_passes_64 : xAt mX9_passes 64 (.iload 7) 2 66 := ⟨by decide +kernel, rfl⟩
theorem eX9_passes_66 : xAt mX9_passes 66 (.iload 8) 2 68 := ⟨by decide +kernel, rfl⟩
theorem eX9_passes_68 : xAt mX9_passes 68 (.invokevirtual 204) 3 71 := ⟨by decide +kernel, rfl⟩
theorem eX9_passes_71 : xAt mX9_passes 71 (.iconst 1) 1 72 := ⟨by decide +kernel, rfl⟩
theorem eX9_passes_72 : xBr mX9_passes 72 (.if_icmp .ne) (14) 75 86 := ⟨by decide +kernel, rfl, by decide⟩
theorem eX9_passes_75 : xAt mX9_passes 75 (.aload_n 0) 1 76 := ⟨by decide +kernel, rfl⟩
theorem eX9_passes_76 : xAt mX9_passes 76 (.iconst 1) 1 77 := ⟨by decide +kernel, rfl⟩
theorem eX9_passes_77 : xAt mX9_passes 77 (.putfield 244) 3 80 := ⟨by decide +kernel, rfl⟩
theorem eX9_passes_80 : xAt mX9_passes 80 (.aload_n 0) 1 81 := ⟨by decide +kernel, rfl⟩
theorem eX9_passes_81 : xAt mX9_passes 81 (.iconst 1) 1 82 := ⟨by decide +kernel, rfl⟩
theorem eX9_passes_82 : xAt mX9_passes 82 (.putfield 247) 3 85 := ⟨by decide +kernel, rfl⟩
theorem eX9_passes_85 : xAt mX9_passes 85 (.return_) 1 86 := ⟨by decide +kernel, rfl⟩
theorem eX9_passes_86 : xAt mX9_passes 86 (.iload 7) 2 88 := ⟨by decide +kernel, rfl⟩
theorem eX9_passes_88 : xAt mX9_passes 88 (.iload_n 1) 1 89 := ⟨by decide +kernel, rfl⟩
theorem eX9_passes_89 : xBr mX9_passes 89 (.if_icmp .eq) (83) 92 172 := ⟨by decide +kernel, rfl, by decide⟩
theorem eX9_passes_92 : xAt mX9_passes 92 (.iload 7) 2 94 := ⟨by decide +kernel, rfl⟩
theorem eX9_passes_94 : xAt mX9_passes 94 (.iload_n 2) 1 95 := ⟨by decide +kernel, rfl⟩
theorem eX9_passes_95 : xBr mX9_passes 95 (.if_icmp .eq) (77) 98 172 := ⟨by decide +kernel, rfl, by decide⟩
theorem eX9_passes_98 : xAt mX9_passes 98 (.aload_n 0) 1 99 := ⟨by decide +kernel, rfl⟩
theorem eX9_passes_99 : xAt mX9_passes 99 (.iload_n 1) 1 100 := ⟨by decide +kernel, rfl⟩
theorem eX9_passes_100 : xAt mX9_passes 100 (.iload_n 2) 1 101 := ⟨by decide +kernel, rfl⟩
theorem eX9_passes_101 : xAt mX9_passes 101 (.iload 7) 2 103 := ⟨by decide +kernel, rfl⟩
theorem eX9_passes_103 : xAt mX9_passes 103 (.invokevirtual 250) 3 106 := ⟨by decide +kernel, rfl⟩
theorem eX9_passes_106 : xBr mX9_passes 106 (.ifCond .eq) (66) 109 172 := ⟨by decide +kernel, rfl, by decide⟩
theorem eX9_passes_109 : xAt mX9_passes 109 (.iload 5) 2 111 := ⟨by decide +kernel, rfl⟩
theorem eX9_passes_111 : xAt mX9_passes 111 (.istore 9) 2 113 := ⟨by decide +kernel, rfl⟩
theorem eX9_passes_113 : xAt mX9_passes 113 (.iload 9) 2 115 := ⟨by decide +kernel, rfl⟩
theorem eX9_passes_115 : xAt mX9_passes 115 (.iconst 1) 1 116 := ⟨by decide +kernel, rfl⟩
theorem eX9_passes_116 : xBr mX9_passes 116 (.if_icmp .le) (44) 119 160 := ⟨by decide +kernel, rfl, by decide⟩
theorem eX9_passes_119 : xAt mX9_passes 119 (.aload_n 0) 1 120 := ⟨by decide +kernel, rfl⟩
theorem eX9_passes_120 : xAt mX9_passes 120 (.iload_n 1) 1 121 := ⟨by decide +kernel, rfl⟩
theorem eX9_passes_121 : xAt mX9_passes 121 (.aload_n 0) 1 122 := ⟨by decide +kernel, rfl⟩
theorem eX9_passes_122 : xAt mX9_passes 122 (.getfield 79) 3 125 := ⟨by decide +kernel, rfl⟩
theorem eX9_passes_125 : xAt mX9_passes 125 (.iload 9) 2 127 := ⟨by decide +kernel, rfl⟩
theorem eX9_passes_127 : xAt mX9_passes 127 (.iconst 1) 1 128 := ⟨by decide +kernel, rfl⟩
theorem eX9_passes_128 : xAt mX9_passes 128 (.isub) 1 129 := ⟨by decide +kernel, rfl⟩
theorem eX9_passes_129 : xAt mX9_passes 129 (.iaload) 1 130 := ⟨by decide +kernel, rfl⟩
theorem eX9_passes_130 : xAt mX9_passes 130 (.iload 7) 2 132 := ⟨by decide +kernel, rfl⟩
theorem eX9_passes_132 : xAt mX9_passes 132 (.invokevirtual 166) 3 135 := ⟨by decide +kernel, rfl⟩
theorem eX9_passes_135 : xBr mX9_passes 135 (.ifCond .eq) (25) 138 160 := ⟨by decide +kernel, rfl, by decide⟩
theorem eX9_passes_138 : xAt mX9_passes 138 (.aload_n 0) 1 139 := ⟨by decide +kernel, rfl⟩
theorem eX9_passes_139 : xAt mX9_passes 139 (.getfield 79) 3 142 := ⟨by decide +kernel, rfl⟩
theorem eX9_passes_142 : xAt mX9_passes 142 (.iload 9) 2 144 := ⟨by decide +kernel, rfl⟩
theorem eX9_passes_144 : xAt mX9_passes 144 (.aload_n 0) 1 145 := ⟨by decide +kernel, rfl⟩
theorem eX9_passes_145 : xAt mX9_passes 145 (.getfield 79) 3 148 := ⟨by decide +kernel, rfl⟩
theorem eX9_passes_148 : xAt mX9_passes 148 (.iload 9) 2 150 := ⟨by decide +kernel, rfl⟩
theorem eX9_passes_150 : xAt mX9_passes 150 (.iconst 1) 1 151 := ⟨by decide +kernel, rfl⟩
theorem eX9_passes_151 : xAt mX9_passes 151 (.isub) 1 152 := ⟨by decide +kernel, rfl⟩
theorem eX9_passes_152 : xAt mX9_passes 152 (.iaload) 1 153 := ⟨by decide +kernel, rfl⟩
theorem eX9_passes_153 : xAt mX9_passes 153 (.iastore) 1 154 := ⟨by decide +kernel, rfl⟩
theorem eX9_passes_154 : xAt mX9_passes 154 (.iinc 9 (-1)) 3 157 := ⟨by decide +kernel, rfl⟩
theorem eX9_passes_157 : xBr mX9_passes 157 .goto (-44) 160 113 := ⟨by decide +kernel, rfl, by decide⟩
theorem eX9_passes_160 : xAt mX9_passes 160 (.aload_n 0) 1 161 := ⟨by decide +kernel, rfl⟩
theorem eX9_passes_161 : xAt mX9_passes 161 (.getfield 79) 3 164 := ⟨by decide +kernel, rfl⟩
theorem eX9_passes_164 : xAt mX9_passes 164 (.iload 9) 2 166 := ⟨by decide +kernel, rfl⟩
theorem eX9_passes_166 : xAt mX9_passes 166 (.iload 7) 2 168 := ⟨by decide +kernel, rfl⟩
theorem eX9_passes_168 : xAt mX9_passes 168 (.iastore) 1 169 := ⟨by decide +kernel, rfl⟩
theorem eX9_passes_169 : xAt mX9_passes 169 (.iinc 5 1) 3 172 := ⟨by decide +kernel, rfl⟩
theorem eX9_passes_172 : xAt mX9_passes 172 (.iinc 6 1) 3 175 := ⟨by decide +kernel, rfl⟩
theorem eX9_passes_175 : xBr mX9_passes 175 .goto (-141) 178 34 := ⟨by decide +kernel, rfl, by decide⟩
theorem eX9_passes_178 : xAt mX9_passes 178 (.aload_n 0) 1 179 := ⟨by decide +kernel, rfl⟩
theorem eX9_passes_179 : xAt mX9_passes 179 (.getfield 79) 3 182 := ⟨by decide +kernel, rfl⟩
theorem eX9_passes_182 : xAt mX9_passes 182 (.iload 5) 2 184 := ⟨by decide +kernel, rfl⟩
theorem eX9_passes_184 : xAt mX9_passes 184 (.iload_n 2) 1 185 := ⟨by decide +kernel, rfl⟩
theorem eX9_passes_185 : xAt mX9_passes 185 (.iastore) 1 186 := ⟨by decide +kernel, rfl⟩
theorem eX9_passes_186 : xAt mX9_passes 186 (.iconst 0) 1 187 := ⟨by decide +kernel, rfl⟩
theorem eX9_passes_187 : xAt mX9_passes 187 (.istore 6) 2 189 := ⟨by decide +kernel, rfl⟩
theorem eX9_passes_189 : xAt mX9_passes 189 (.iload 6) 2 191 := ⟨by decide +kernel, rfl⟩
theorem eX9_passes_191 : xAt mX9_passes 191 (.iload 5) 2 193 := ⟨by decide +kernel, rfl⟩
theorem eX9_passes_193 : xBr mX9_passes 193 (.if_icmp .ge) (82) 196 275 := ⟨by decide +kernel, rfl, by decide⟩
theorem eX9_passes_196 : xAt mX9_passes 196 (.aload_n 0) 1 197 := ⟨by decide +kernel, rfl⟩
theorem eX9_passes_197 : xAt mX9_passes 197 (.aload_n 0) 1 198 := ⟨by decide +kernel, rfl⟩
theorem eX9_passes_198 : xAt mX9_passes 198 (.getfield 79) 3 201 := ⟨by decide +kernel, rfl⟩
theorem eX9_passes_201 : xAt mX9_passes 201 (.iload 6) 2 203 := ⟨by decide +kernel, rfl⟩
theorem eX9_passes_203 : xAt mX9_passes 203 (.iaload) 1 204 := ⟨by decide +kernel, rfl⟩
theorem eX9_passes_204 : xAt mX9_passes 204 (.aload_n 0) 1 205 := ⟨by decide +kernel, rfl⟩
theorem eX9_passes_205 : xAt mX9_passes 205 (.getfield 79) 3 208 := ⟨by decide +kernel, rfl⟩
theorem eX9_passes_208 : xAt mX9_passes 208 (.iload 6) 2 210 := ⟨by decide +kernel, rfl⟩
theorem eX9_passes_210 : xAt mX9_passes 210 (.iconst 1) 1 211 := ⟨by decide +kernel, rfl⟩
theorem eX9_passes_211 : xAt mX9_passes 211 (.iadd) 1 212 := ⟨by decide +kernel, rfl⟩
theorem eX9_passes_212 : xAt mX9_passes 212 (.iaload) 1 213 := ⟨by decide +kernel, rfl⟩
theorem eX9_passes_213 : xAt mX9_passes 213 (.invokevirtual 253) 3 216 := ⟨by decide +kernel, rfl⟩
theorem eX9_passes_216 : xAt mX9_passes 216 (.aload_n 0) 1 217 := ⟨by decide +kernel, rfl⟩
theorem eX9_passes_217 : xAt mX9_passes 217 (.iload_n 3) 1 218 := ⟨by decide +kernel, rfl⟩
theorem eX9_passes_218 : xAt mX9_passes 218 (.sipush 201) 3 221 := ⟨by decide +kernel, rfl⟩
theorem eX9_passes_221 : xAt mX9_passes 221 (.invokevirtual 257) 3 224 := ⟨by decide +kernel, rfl⟩
theorem eX9_passes_224 : xAt mX9_passes 224 (.istore 7) 2 226 := ⟨by decide +kernel, rfl⟩
theorem eX9_passes_226 : xAt mX9_passes 226 (.aload_n 0) 1 227 := ⟨by decide +kernel, rfl⟩
theorem eX9_passes_227 : xAt mX9_passes 227 (.aload_n 0) 1 228 := ⟨by decide +kernel, rfl⟩
theorem eX9_passes_228 : xAt mX9_passes 228 (.getfield 244) 3 231 := ⟨by decide +kernel, rfl⟩
theorem eX9_passes_231 : xBr mX9_passes 231 (.ifCond .ne) (9) 234 240 := ⟨by decide +kernel, rfl, by decide⟩
theorem eX9_passes_234 : xAt mX9_passes 234 (.iload 7) 2 236 := ⟨by decide +kernel, rfl⟩
theorem eX9_passes_236 : xAt mX9_passes 236 (.iconst 1) 1 237 := ⟨by decide +kernel, rfl⟩
theorem eX9_passes_237 : xBr mX9_passes 237 (.if_icmp .ne) (7) 240 244 := ⟨by decide +kernel, rfl, by decide⟩
theorem eX9_passes_240 : xAt mX9_passes 240 (.iconst 1) 1 241 := ⟨by decide +kernel, rfl⟩
theorem eX9_passes_241 : xBr mX9_passes 241 .goto (4) 244 245 := ⟨by decide +kernel, rfl, by decide⟩
theorem eX9_passes_244 : xAt mX9_passes 244 (.iconst 0) 1 245 := ⟨by decide +kernel, rfl⟩
theorem eX9_passes_245 : xAt mX9_passes 245 (.putfield 244) 3 248 := ⟨by decide +kernel, rfl⟩
theorem eX9_passes_248 : xAt mX9_passes 248 (.aload_n 0) 1 249 := ⟨by decide +kernel, rfl⟩
theorem eX9_passes_249 : xAt mX9_passes 249 (.aload_n 0) 1 250 := ⟨by decide +kernel, rfl⟩
theorem eX9_passes_250 : xAt mX9_passes 250 (.getfield 247) 3 253 := ⟨by decide +kernel, rfl⟩
theorem eX9_passes_253 : xBr mX9_passes 253 (.ifCond .ne) (8) 256 261 := ⟨by decide +kernel, rfl, by decide⟩
theorem eX9_passes_256 : xAt mX9_passes 256 (.iload 7) 2 258 := ⟨by decide +kernel, rfl⟩
theorem eX9_passes_258 : xBr mX9_passes 258 (.ifCond .eq) (7) 261 265 := ⟨by decide +kernel, rfl, by decide⟩
theorem eX9_passes_261 : xAt mX9_passes 261 (.iconst 1) 1 262 := ⟨by decide +kernel, rfl⟩
theorem eX9_passes_262 : xBr mX9_passes 262 .goto (4) 265 266 := ⟨by decide +kernel, rfl, by decide⟩
theorem eX9_passes_265 : xAt mX9_passes 265 (.iconst 0) 1 266 := ⟨by decide +kernel, rfl⟩
theorem eX9_passes_266 : xAt mX9_passes 266 (.putfield 247) 3 269 := ⟨by decide +kernel, rfl⟩
theorem eX9_passes_269 : xAt mX9_passes 269 (.iinc 6 1) 3 272 := ⟨by decide +kernel, rfl⟩
theorem eX9_passes_272 : xBr mX9_passes 272 .goto (-83) 275 189 := ⟨by decide +kernel, rfl, by decide⟩
theorem eX9_passes_275 : xAt mX9_passes 275 (.return_) 1 276 := ⟨by decide +kernel, rfl⟩
theorem eX9_lieOver_0 : xAt mX9_lieOver 0 (.iconst 0) 1 1 := ⟨by decide +kernel, rfl⟩
theorem eX9_lieOver_1 : xAt mX9_lieOver 1 (.istore_n 3) 1 2 := ⟨by decide +kernel, rfl⟩
theorem eX9_lieOver_2 : xAt mX9_lieOver 2 (.iconst 0) 1 3 := ⟨by decide +kernel, rfl⟩
theorem eX9_lieOver_3 : xAt mX9_lieOver 3 (.istore 4) 2 5 := ⟨by decide +kernel, rfl⟩
theorem eX9_lieOver_5 : xAt mX9_lieOver 5 (.iload 4) 2 7 := ⟨by decide +kernel, rfl⟩
theorem eX9_lieOver_7 : xAt mX9_lieOver 7 (.aload_n 0) 1 8 := ⟨by decide +kernel, rfl⟩
theorem eX9_lieOver_8 : xAt mX9_lieOver 8 (.getfield 58) 3 11 := ⟨by decide +kernel, rfl⟩
theorem eX9_lieOver_11 : xAt mX9_lieOver 11 (.iload_n 1) 1 12 := ⟨by decide +kernel, rfl⟩
theorem eX9_lieOver_12 : xAt mX9_lieOver 12 (.iaload) 1 13 := ⟨by decide +kernel, rfl⟩
theorem eX9_lieOver_13 : xBr mX9_lieOver 13 (.if_icmp .ge) (56) 16 69 := ⟨by decide +kernel, rfl, by decide⟩
theorem eX9_lieOver_16 : xAt mX9_lieOver 16 (.aload_n 0) 1 17 := ⟨by decide +kernel, rfl⟩
theorem eX9_lieOver_17 : xAt mX9_lieOver 17 (.aload_n 0) 1 18 := ⟨by decide +kernel, rfl⟩
theorem eX9_lieOver_18 : xAt mX9_lieOver 18 (.iload_n 1) 1 19 := ⟨by decide +kernel, rfl⟩
theorem eX9_lieOver_19 : xAt mX9_lieOver 19 (.iload 4) 2 21 := ⟨by decide +kernel, rfl⟩
theorem eX9_lieOver_21 : xAt mX9_lieOver 21 (.invokevirtual 241) 3 24 := ⟨by decide +kernel, rfl⟩
theorem eX9_lieOver_24 : xAt mX9_lieOver 24 (.aload_n 0) 1 25 := ⟨by decide +kernel, rfl⟩
theorem eX9_lieOver_25 : xAt mX9_lieOver 25 (.iload_n 1) 1 26 := ⟨by decide +kernel, rfl⟩
theorem eX9_lieOver_26 : xAt mX9_lieOver 26 (.iload 4) 2 28 := ⟨by decide +kernel, rfl⟩
theorem eX9_lieOver_28 : xAt mX9_lieOver 28 (.iconst 1) 1 29 := ⟨by decide +kernel, rfl⟩
theorem eX9_lieOver_29 : xAt mX9_lieOver 29 (.iadd) 1 30 := ⟨by decide +kernel, rfl⟩
theorem eX9_lieOver_30 : xAt mX9_lieOver 30 (.invokevirtual 241) 3 33 := ⟨by decide +kernel, rfl⟩
theorem eX9_lieOver_33 : xAt mX9_lieOver 33 (.iload_n 2) 1 34 := ⟨by decide +kernel, rfl⟩
theorem eX9_lieOver_34 : xAt mX9_lieOver 34 (.invokevirtual 260) 3 37 := ⟨by decide +kernel, rfl⟩
theorem eX9_lieOver_37 : xAt mX9_lieOver 37 (.aload_n 0) 1 38 := ⟨by decide +kernel, rfl⟩
theorem eX9_lieOver_38 : xAt mX9_lieOver 38 (.getfield 244) 3 41 := ⟨by decide +kernel, rfl⟩
theorem eX9_lieOver_41 : xBr mX9_lieOver 41 (.ifCond .eq) (5) 44 46 := ⟨by decide +kernel, rfl, by decide⟩
theorem eX9_lieOver_44 : xAt mX9_lieOver 44 (.iconst 1) 1 45 := ⟨by decide +kernel, rfl⟩
theorem eX9_lieOver_45 : xAt mX9_lieOver 45 (.ireturn) 1 46 := ⟨by decide +kernel, rfl⟩
theorem eX9_lieOver_46 : xAt mX9_lieOver 46 (.iload_n 3) 1 47 := ⟨by decide +kernel, rfl⟩
theorem eX9_lieOver_47 : xBr mX9_lieOver 47 (.ifCond .ne) (10) 50 57 := ⟨by decide +kernel, rfl, by decide⟩
theorem eX9_lieOver_50 : xAt mX9_lieOver 50 (.aload_n 0) 1 51 := ⟨by decide +kernel, rfl⟩
theorem eX9_lieOver_51 : xAt mX9_lieOver 51 (.getfield 247) 3 54 := ⟨by decide +kernel, rfl⟩
theorem eX9_lieOver_54 : xBr mX9_lieOver 54 (.ifCond .eq) (7) 57 61 := ⟨by decide +kernel, rfl, by decide⟩
theorem eX9_lieOver_57 : xAt mX9_lieOver 57 (.iconst 1) 1 58 := ⟨by decide +kernel, rfl⟩
theorem eX9_lieOver_58 : xBr mX9_lieOver 58 .goto (4) 61 62 := ⟨by decide +kernel, rfl, by decide⟩
theorem eX9_lieOver_61 : xAt mX9_lieOver 61 (.iconst 0) 1 62 := ⟨by decide +kernel, rfl⟩
theorem eX9_lieOver_62 : xAt mX9_lieOver 62 (.istore_n 3) 1 63 := ⟨by decide +kernel, rfl⟩
theorem eX9_lieOver_63 : xAt mX9_lieOver 63 (.iinc 4 1) 3 66 := ⟨by decide +kernel, rfl⟩
theorem eX9_lieOver_66 : xBr mX9_lieOver 66 .goto (-61) 69 5 := ⟨by decide +kernel, rfl, by decide⟩
theorem eX9_lieOver_69 : xAt mX9_lieOver 69 (.iload_n 3) 1 70 := ⟨by decide +kernel, rfl⟩
theorem eX9_lieOver_70 : xBr mX9_lieOver 70 (.ifCond .ne) (5) 73 75 := ⟨by decide +kernel, rfl, by decide⟩
theorem eX9_lieOver_73 : xAt mX9_lieOver 73 (.iconst 1) 1 74 := ⟨by decide +kernel, rfl⟩
theorem eX9_lieOver_74 : xAt mX9_lieOver 74 (.ireturn) 1 75 := ⟨by decide +kernel, rfl⟩
theorem eX9_lieOver_75 : xAt mX9_lieOver 75 (.iconst 0) 1 76 := ⟨by decide +kernel, rfl⟩
theorem eX9_lieOver_76 : xAt mX9_lieOver 76 (.istore 4) 2 78 := ⟨by decide +kernel, rfl⟩
theorem eX9_lieOver_78 : xAt mX9_lieOver 78 (.iload 4) 2 80 := ⟨by decide +kernel, rfl⟩
theorem eX9_lieOver_80 : xAt mX9_lieOver 80 (.aload_n 0) 1 81 := ⟨by decide +kernel, rfl⟩
theorem eX9_lieOver_81 : xAt mX9_lieOver 81 (.getfield 58) 3 84 := ⟨by decide +kernel, rfl⟩
theorem eX9_lieOver_84 : xAt mX9_lieOver 84 (.iload_n 2) 1 85 := ⟨by decide +kernel, rfl⟩
theorem eX9_lieOver_85 : xAt mX9_lieOver 85 (.iaload) 1 86 := ⟨by decide +kernel, rfl⟩
theorem eX9_lieOver_86 : xBr mX9_lieOver 86 (.if_icmp .ge) (39) 89 125 := ⟨by decide +kernel, rfl, by decide⟩
theorem eX9_lieOver_89 : xAt mX9_lieOver 89 (.aload_n 0) 1 90 := ⟨by decide +kernel, rfl⟩
theorem eX9_lieOver_90 : xAt mX9_lieOver 90 (.aload_n 0) 1 91 := ⟨by decide +kernel, rfl⟩
theorem eX9_lieOver_91 : xAt mX9_lieOver 91 (.iload_n 2) 1 92 := ⟨by decide +kernel, rfl⟩
theorem eX9_lieOver_92 : xAt mX9_lieOver 92 (.iload 4) 2 94 := ⟨by decide +kernel, rfl⟩
theorem eX9_lieOver_94 : xAt mX9_lieOver 94 (.invokevirtual 241) 3 97 := ⟨by decide +kernel, rfl⟩
theorem eX9_lieOver_97 : xAt mX9_lieOver 97 (.aload_n 0) 1 98 := ⟨by decide +kernel, rfl⟩
theorem eX9_lieOver_98 : xAt mX9_lieOver 98 (.iload_n 2) 1 99 := ⟨by decide +kernel, rfl⟩
theorem eX9_lieOver_99 : xAt mX9_lieOver 99 (.iload 4) 2 101 := ⟨by decide +kernel, rfl⟩
theorem eX9_lieOver_101 : xAt mX9_lieOver 101 (.iconst 1) 1 102 := ⟨by decide +kernel, rfl⟩
theorem eX9_lieOver_102 : xAt mX9_lieOver 102 (.iadd) 1 103 := ⟨by decide +kernel, rfl⟩
theorem eX9_lieOver_103 : xAt mX9_lieOver 103 (.invokevirtual 241) 3 106 := ⟨by decide +kernel, rfl⟩
theorem eX9_lieOver_106 : xAt mX9_lieOver 106 (.iload_n 1) 1 107 := ⟨by decide +kernel, rfl⟩
theorem eX9_lieOver_107 : xAt mX9_lieOver 107 (.invokevirtual 260) 3 110 := ⟨by decide +kernel, rfl⟩
theorem eX9_lieOver_110 : xAt mX9_lieOver 110 (.aload_n 0) 1 111 := ⟨by decide +kernel, rfl⟩
theorem eX9_lieOver_111 : xAt mX9_lieOver 111 (.getfield 244) 3 114 := ⟨by decide +kernel, rfl⟩
theorem eX9_lieOver_114 : xBr mX9_lieOver 114 (.ifCond .eq) (5) 117 119 := ⟨by decide +kernel, rfl, by decide⟩
theorem eX9_lieOver_117 : xAt mX9_lieOver 117 (.iconst 1) 1 118 := ⟨by decide +kernel, rfl⟩
theorem eX9_lieOver_118 : xAt mX9_lieOver 118 (.ireturn) 1 119 := ⟨by decide +kernel, rfl⟩
theorem eX9_lieOver_119 : xAt mX9_lieOver 119 (.iinc 4 1) 3 122 := ⟨by decide +kernel, rfl⟩
theorem eX9_lieOver_122 : xBr mX9_lieOver 122 .goto (-44) 125 78 := ⟨by decide +kernel, rfl, by decide⟩
theorem eX9_lieOver_125 : xAt mX9_lieOver 125 (.iconst 0) 1 126 := ⟨by decide +kernel, rfl⟩
theorem eX9_lieOver_126 : xAt mX9_lieOver 126 (.ireturn) 1 127 := ⟨by decide +kernel, rfl⟩
theorem eX9_overOf_0 : xAt mX9_overOf 0 (.iconst 0) 1 1 := ⟨by decide +kernel, rfl⟩
theorem eX9_overOf_1 : xAt mX9_overOf 1 (.istore 4) 2 3 := ⟨by decide +kernel, rfl⟩
theorem eX9_overOf_3 : xAt mX9_overOf 3 (.iload 4) 2 5 := ⟨by decide +kernel, rfl⟩
theorem eX9_overOf_5 : xAt mX9_overOf 5 (.aload_n 0) 1 6 := ⟨by decide +kernel, rfl⟩
theorem eX9_overOf_6 : xAt mX9_overOf 6 (.getfield 224) 3 9 := ⟨by decide +kernel, rfl⟩
theorem eX9_overOf_9 : xBr mX9_overOf 9 (.if_icmp .ge) (55) 12 64 := ⟨by decide +kernel, rfl, by decide⟩
theorem eX9_overOf_12 : xAt mX9_overOf 12 (.iload 4) 2 14 := ⟨by decide +kernel, rfl⟩
theorem eX9_overOf_14 : xAt mX9_overOf 14 (.iload_n 1) 1 15 := ⟨by decide +kernel, rfl⟩
theorem eX9_overOf_15 : xBr mX9_overOf 15 (.if_icmp .eq) (43) 18 58 := ⟨by decide +kernel, rfl, by decide⟩
theorem eX9_overOf_18 : xAt mX9_overOf 18 (.iload 4) 2 20 := ⟨by decide +kernel, rfl⟩
theorem eX9_overOf_20 : xAt mX9_overOf 20 (.iload_n 3) 1 21 := ⟨by decide +kernel, rfl⟩
theorem eX9_overOf_21 : xBr mX9_overOf 21 (.if_icmp .eq) (37) 24 58 := ⟨by decide +kernel, rfl, by decide⟩
theorem eX9_overOf_24 : xAt mX9_overOf 24 (.aload_n 0) 1 25 := ⟨by decide +kernel, rfl⟩
theorem eX9_overOf_25 : xAt mX9_overOf 25 (.getfield 48) 3 28 := ⟨by decide +kernel, rfl⟩
theorem eX9_overOf_28 : xAt mX9_overOf 28 (.iload 4) 2 30 := ⟨by decide +kernel, rfl⟩
theorem eX9_overOf_30 : xAt mX9_overOf 30 (.baload) 1 31 := ⟨by decide +kernel, rfl⟩
theorem eX9_overOf_31 : xBr mX9_overOf 31 (.ifCond .eq) (27) 34 58 := ⟨by decide +kernel, rfl, by decide⟩
theorem eX9_overOf_34 : xAt mX9_overOf 34 (.aload_n 0) 1 35 := ⟨by decide +kernel, rfl⟩
theorem eX9_overOf_35 : xAt mX9_overOf 35 (.getfield 52) 3 38 := ⟨by decide +kernel, rfl⟩
theorem eX9_overOf_38 : xAt mX9_overOf 38 (.iload 4) 2 40 := ⟨by decide +kernel, rfl⟩
theorem eX9_overOf_40 : xAt mX9_overOf 40 (.iaload) 1 41 := ⟨by decide +kernel, rfl⟩
theorem eX9_overOf_41 : xAt mX9_overOf 41 (.iload_n 2) 1 42 := ⟨by decide +kernel, rfl⟩
theorem eX9_overOf_42 : xBr mX9_overOf 42 (.if_icmp .ne) (16) 45 58 := ⟨by decide +kernel, rfl, by decide⟩
theorem eX9_overOf_45 : xAt mX9_overOf 45 (.aload_n 0) 1 46 := ⟨by decide +kernel, rfl⟩
theorem eX9_overOf_46 : xAt mX9_overOf 46 (.iload_n 1) 1 47 := ⟨by decide +kernel, rfl⟩
theorem eX9_overOf_47 : xAt mX9_overOf 47 (.iload 4) 2 49 := ⟨by decide +kernel, rfl⟩
theorem eX9_overOf_49 : xAt mX9_overOf 49 (.invokevirtual 264) 3 52 := ⟨by decide +kernel, rfl⟩
theorem eX9_overOf_52 : xBr mX9_overOf 52 (.ifCond .eq) (6) 55 58 := ⟨by decide +kernel, rfl, by decide⟩
theorem eX9_overOf_55 : xAt mX9_overOf 55 (.iload 4) 2 57 := ⟨by decide +kernel, rfl⟩
theorem eX9_overOf_57 : xAt mX9_overOf 57 (.ireturn) 1 58 := ⟨by decide +kernel, rfl⟩
theorem eX9_overOf_58 : xAt mX9_overOf 58 (.iinc 4 1) 3 61 := ⟨by decide +kernel, rfl⟩
theorem eX9_overOf_61 : xBr mX9_overOf 61 .goto (-58) 64 3 := ⟨by decide +kernel, rfl, by decide⟩
theorem eX9_overOf_64 : xAt mX9_overOf 64 (.iconst (-1)) 1 65 := ⟨by decide +kernel, rfl⟩
theorem eX9_overOf_65 : xAt mX9_overOf 65 (.ireturn) 1 66 := ⟨by decide +kernel, rfl⟩
theorem eX9_close_0 : xAt mX9_close 0 (.iload_n 1) 1 1 := ⟨by decide +kernel, rfl⟩
theorem eX9_close_1 : xAt mX9_close 1 (.iconst 0) 1 2 := ⟨by decide +kernel, rfl⟩
theorem eX9_close_2 : xAt mX9_close 2 (.iconst 3) 1 3 := ⟨by decide +kernel, rfl⟩
theorem eX9_close_3 : xAt mX9_close 3 (.invokestatic 173) 3 6 := ⟨by decide +kernel, rfl⟩
theorem eX9_close_6 : xBr mX9_close 6 (.ifCond .ne) (6) 9 12 := ⟨by decide +kernel, rfl, by decide⟩
theorem eX9_close_9 : xAt mX9_close 9 (.bipush (-102)) 2 11 := ⟨by decide +kernel, rfl⟩
theorem eX9_close_11 : xAt mX9_close 11 (.ireturn) 1 12 := ⟨by decide +kernel, rfl⟩
theorem eX9_close_12 : xAt mX9_close 12 (.aload_n 0) 1 13 := ⟨by decide +kernel, rfl⟩
theorem eX9_close_13 : xAt mX9_close 13 (.getfield 224) 3 16 := ⟨by decide +kernel, rfl⟩
theorem eX9_close_16 : xAt mX9_close 16 (.bipush 60) 2 18 := ⟨by decide +kernel, rfl⟩
theorem eX9_close_18 : xBr mX9_close 18 (.if_icmp .ne) (6) 21 24 := ⟨by decide +kernel, rfl, by decide⟩
theorem eX9_close_21 : xAt mX9_close 21 (.bipush (-104)) 2 23 := ⟨by decide +kernel, rfl⟩
theorem eX9_close_23 : xAt mX9_close 23 (.ireturn) 1 24 := ⟨by decide +kernel, rfl⟩
theorem eX9_close_24 : xAt mX9_close 24 (.aload_n 0) 1 25 := ⟨by decide +kernel, rfl⟩
theorem eX9_close_25 : xAt mX9_close 25 (.aload_n 0) 1 26 := ⟨by decide +kernel, rfl⟩
theorem eX9_close_26 : xAt mX9_close 26 (.getfield 212) 3 29 := ⟨by decide +kernel, rfl⟩
theorem eX9_close_29 : xAt mX9_close 29 (.putfield 218) 3 32 := ⟨by decide +kernel, rfl⟩
theorem eX9_close_32 : xAt mX9_close 32 (.iconst 0) 1 33 := ⟨by decide +kernel, rfl⟩
theorem eX9_close_33 : xAt mX9_close 33 (.istore_n 3) 1 34 := ⟨by decide +kernel, rfl⟩
theorem eX9_close_34 : xAt mX9_close 34 (.iload_n 3) 1 35 := ⟨by decide +kernel, rfl⟩
theorem eX9_close_35 : xAt mX9_close 35 (.aload_n 0) 1 36 := ⟨by decide +kernel, rfl⟩
theorem eX9_close_36 : xAt mX9_close 36 (.getfield 212) 3 39 := ⟨by decide +kernel, rfl⟩
theorem eX9_close_39 : xBr mX9_close 39 (.if_icmp .ge) (21) 42 60 := ⟨by decide +kernel, rfl, by decide⟩
theorem eX9_close_42 : xAt mX9_close 42 (.aload_n 0) 1 43 := ⟨by decide +kernel, rfl⟩
theorem eX9_close_43 : xAt mX9_close 43 (.getfield 42) 3 46 := ⟨by decide +kernel, rfl⟩
theorem eX9_close_46 : xAt mX9_close 46 (.iload_n 3) 1 47 := ⟨by decide +kernel, rfl⟩
theorem eX9_close_47 : xAt mX9_close 47 (.aload_n 0) 1 48 := ⟨by decide +kernel, rfl⟩
theorem eX9_close_48 : xAt mX9_close 48 (.getfield 38) 3 51 := ⟨by decide +kernel, rfl⟩
theorem eX9_close_51 : xAt mX9_close 51 (.iload_n 3) 1 52 := ⟨by decide +kernel, rfl⟩
theorem eX9_close_52 : xAt mX9_close 52 (.iaload) 1 53 := ⟨by decide +kernel, rfl⟩
theorem eX9_close_53 : xAt mX9_close 53 (.iastore) 1 54 := ⟨by decide +kernel, rfl⟩
theorem eX9_close_54 : xAt mX9_close 54 (.iinc 3 1) 3 57 := ⟨by decide +kernel, rfl⟩
theorem eX9_close_57 : xBr mX9_close 57 .goto (-23) 60 34 := ⟨by decide +kernel, rfl, by decide⟩
theorem eX9_close_60 : xAt mX9_close 60 (.aload_n 0) 1 61 := ⟨by decide +kernel, rfl⟩
theorem eX9_close_61 : xAt mX9_close 61 (.invokevirtual 268) 3 64 := ⟨by decide +kernel, rfl⟩
theorem eX9_close_64 : xAt mX9_close 64 (.istore_n 3) 1 65 := ⟨by decide +kernel, rfl⟩
theorem eX9_close_65 : xAt mX9_close 65 (.iload_n 3) 1 66 := ⟨by decide +kernel, rfl⟩
theorem eX9_close_66 : xBr mX9_close 66 (.ifCond .eq) (5) 69 71 := ⟨by decide +kernel, rfl, by decide⟩
theorem eX9_close_69 : xAt mX9_close 69 (.iload_n 3) 1 70 := ⟨by decide +kernel, rfl⟩
theorem eX9_close_70 : xAt mX9_close 70 (.ireturn) 1 71 := ⟨by decide +kernel, rfl⟩
theorem eX9_close_71 : xAt mX9_close 71 (.aload_n 0) 1 72 := ⟨by decide +kernel, rfl⟩
theorem eX9_close_72 : xAt mX9_close 72 (.invokevirtual 272) 3 75 := ⟨by decide +kernel, rfl⟩
theorem eX9_close_75 : xAt mX9_close 75 (.aload_n 0) 1 76 := ⟨by decide +kernel, rfl⟩
theorem eX9_close_76 : xAt mX9_close 76 (.aload_n 0) 1 77 := ⟨by decide +kernel, rfl⟩
theorem eX9_close_77 : xAt mX9_close 77 (.getfield 224) 3 80 := ⟨by decide +kernel, rfl⟩
theorem eX9_close_80 : xAt mX9_close 80 (.invokevirtual 234) 3 83 := ⟨by decide +kernel, rfl⟩
theorem eX9_close_83 : xAt mX9_close 83 (.aload_n 0) 1 84 := ⟨by decide +kernel, rfl⟩
theorem eX9_close_84 : xAt mX9_close 84 (.aload_n 0) 1 85 := ⟨by decide +kernel, rfl⟩
theorem eX9_close_85 : xAt mX9_close 85 (.getfield 224) 3 88 := ⟨by decide +kernel, rfl⟩
theorem eX9_close_88 : xAt mX9_close 88 (.iload_n 1) 1 89 := ⟨by decide +kernel, rfl⟩
theorem eX9_close_89 : xAt mX9_close 89 (.iconst (-1)) 1 90 := ⟨by decide +kernel, rfl⟩
theorem eX9_close_90 : xAt mX9_close 90 (.invokevirtual 275) 3 93 := ⟨by decide +kernel, rfl⟩
theorem eX9_close_93 : xAt mX9_close 93 (.istore 4) 2 95 := ⟨by decide +kernel, rfl⟩
theorem eX9_close_95 : xAt mX9_close 95 (.iload 4) 2 97 := ⟨by decide +kernel, rfl⟩
theorem eX9_close_97 : xAt mX9_close 97 (.iconst (-1)) 1 98 := ⟨by decide +kernel, rfl⟩
theorem eX9_close_98 : xBr mX9_close 98 (.if_icmp .eq) (13) 101 111 := ⟨by decide +kernel, rfl, by decide⟩
theorem eX9_close_101 : xAt mX9_close 101 (.aload_n 0) 1 102 := ⟨by decide +kernel, rfl⟩
theorem eX9_close_102 : xAt mX9_close 102 (.sipush (-204)) 3 105 := ⟨by decide +kernel, rfl⟩
theorem eX9_close_105 : xAt mX9_close 105 (.iload 4) 2 107 := ⟨by decide +kernel, rfl⟩
theorem eX9_close_107 : xAt mX9_close 107 (.invokevirtual 221) 3 110 := ⟨by decide +kernel, rfl⟩
theorem eX9_close_110 : xAt mX9_close 110 (.ireturn) 1 111 := ⟨by decide +kernel, rfl⟩
theorem eX9_close_111 : xAt mX9_close 111 (.aload_n 0) 1 112 := ⟨by decide +kernel, rfl⟩
theorem eX9_close_112 : xAt mX9_close 112 (.invokevirtual 278) 3 115 := ⟨by decide +kernel, rfl⟩
theorem eX9_close_115 : xAt mX9_close 115 (.aload_n 0) 1 116 := ⟨by decide +kernel, rfl⟩
theorem eX9_close_116 : xAt mX9_close 116 (.iconst 0) 1 117 := ⟨by decide +kernel, rfl⟩
theorem eX9_close_117 : xAt mX9_close 117 (.putfield 212) 3 120 := ⟨by decide +kernel, rfl⟩
theorem eX9_close_120 : xAt mX9_close 120 (.aload_n 0) 1 121 := ⟨by decide +kernel, rfl⟩
theorem eX9_close_121 : xAt mX9_close 121 (.iload_n 1) 1 122 := ⟨by decide +kernel, rfl⟩
theorem eX9_close_122 : xAt mX9_close 122 (.iload_n 2) 1 123 := ⟨by decide +kernel, rfl⟩
theorem eX9_close_123 : xAt mX9_close 123 (.invokevirtual 281) 3 126 := ⟨by decide +kernel, rfl⟩
theorem eX9_close_126 : xAt mX9_close 126 (.ireturn) 1 127 := ⟨by decide +kernel, rfl⟩
end
section
theorem eX9_where_0 : xAt mX9_where 0 (.aload_n 0) 1 1 := ⟨by decide +kernel, rfl⟩
theorem eX9_where_1 : xAt mX9_where 1 (.getfield 215) 3 4 := ⟨by decide +kernel, rfl⟩
theorem eX9_where_4 : xAt mX9_where 4 (.ireturn) 1 5 := ⟨by decide +kernel, rfl⟩
theorem eX9_told_0 : xAt mX9_told 0 (.aload_n 0) 1 1 := ⟨by decide +kernel, rfl⟩
theorem eX9_told_1 : xAt mX9_told 1 (.iload_n 1) 1 2 := ⟨by decide +kernel, rfl⟩
theorem eX9_told_2 : xAt mX9_told 2 (.invokevirtual 284) 3 5 := ⟨by decide +kernel, rfl⟩
theorem eX9_told_5 : xBr mX9_told 5 (.ifCond .ne) (6) 8 11 := ⟨by decide +kernel, rfl, by decide⟩
theorem eX9_told_8 : xAt mX9_told 8 (.bipush (-101)) 2 10 := ⟨by decide +kernel, rfl⟩
theorem eX9_told_10 : xAt mX9_told 10 (.ireturn) 1 11 := ⟨by decide +kernel, rfl⟩
theorem eX9_told_11 : xAt mX9_told 11 (.iload_n 2) 1 12 := ⟨by decide +kernel, rfl⟩
theorem eX9_told_12 : xAt mX9_told 12 (.iconst 0) 1 13 := ⟨by decide +kernel, rfl⟩
theorem eX9_told_13 : xAt mX9_told 13 (.bipush 14) 2 15 := ⟨by decide +kernel, rfl⟩
theorem eX9_told_15 : xAt mX9_told 15 (.invokestatic 173) 3 18 := ⟨by decide +kernel, rfl⟩
theorem eX9_told_18 : xBr mX9_told 18 (.ifCond .ne) (6) 21 24 := ⟨by decide +kernel, rfl, by decide⟩
theorem eX9_told_21 : xAt mX9_told 21 (.bipush (-102)) 2 23 := ⟨by decide +kernel, rfl⟩
theorem eX9_told_23 : xAt mX9_told 23 (.ireturn) 1 24 := ⟨by decide +kernel, rfl⟩
theorem eX9_told_24 : xAt mX9_told 24 (.iload_n 2) 1 25 := ⟨by decide +kernel, rfl⟩
theorem eX9_told_25 : xAt mX9_told 25 (.iconst 3) 1 26 := ⟨by decide +kernel, rfl⟩
theorem eX9_told_26 : xBr mX9_told 26 (.if_icmp .ge) (37) 29 63 := ⟨by decide +kernel, rfl, by decide⟩
theorem eX9_told_29 : xAt mX9_told 29 (.iload_n 2) 1 30 := ⟨by decide +kernel, rfl⟩
theorem eX9_told_30 : xBr mX9_told 30 (.ifCond .ne) (12) 33 42 := ⟨by decide +kernel, rfl, by decide⟩
theorem eX9_told_33 : xAt mX9_told 33 (.aload_n 0) 1 34 := ⟨by decide +kernel, rfl⟩
theorem eX9_told_34 : xAt mX9_told 34 (.getfield 52) 3 37 := ⟨by decide +kernel, rfl⟩
theorem eX9_told_37 : xAt mX9_told 37 (.iload_n 1) 1 38 := ⟨by decide +kernel, rfl⟩
theorem eX9_told_38 : xAt mX9_told 38 (.iaload) 1 39 := ⟨by decide +kernel, rfl⟩
theorem eX9_told_39 : xBr mX9_told 39 .goto (23) 42 62 := ⟨by decide +kernel, rfl, by decide⟩
theorem eX9_told_42 : xAt mX9_told 42 (.iload_n 2) 1 43 := ⟨by decide +kernel, rfl⟩
theorem eX9_told_43 : xAt mX9_told 43 (.iconst 1) 1 44 := ⟨by decide +kernel, rfl⟩
theorem eX9_told_44 : xBr mX9_told 44 (.if_icmp .ne) (12) 47 56 := ⟨by decide +kernel, rfl, by decide⟩
theorem eX9_told_47 : xAt mX9_told 47 (.aload_n 0) 1 48 := ⟨by decide +kernel, rfl⟩
theorem eX9_told_48 : xAt mX9_told 48 (.getfield 55) 3 51 := ⟨by decide +kernel, rfl⟩
theorem eX9_told_51 : xAt mX9_told 51 (.iload_n 1) 1 52 := ⟨by decide +kernel, rfl⟩
theorem eX9_told_52 : xAt mX9_told 52 (.iaload) 1 53 := ⟨by decide +kernel, rfl⟩
theorem eX9_told_53 : xBr mX9_told 53 .goto (9) 56 62 := ⟨by decide +kernel, rfl, by decide⟩
theorem eX9_told_56 : xAt mX9_told 56 (.aload_n 0) 1 57 := ⟨by decide +kernel, rfl⟩
theorem eX9_told_57 : xAt mX9_told 57 (.getfield 58) 3 60 := ⟨by decide +kernel, rfl⟩
theorem eX9_told_60 : xAt mX9_told 60 (.iload_n 1) 1 61 := ⟨by decide +kernel, rfl⟩
theorem eX9_told_61 : xAt mX9_told 61 (.iaload) 1 62 := ⟨by decide +kernel, rfl⟩
theorem eX9_told_62 : xAt mX9_told 62 (.ireturn) 1 63 := ⟨by decide +kernel, rfl⟩
theorem eX9_told_63 : xAt mX9_told 63 (.iload_n 2) 1 64 := ⟨by decide +kernel, rfl⟩
theorem eX9_told_64 : xAt mX9_told 64 (.iconst 3) 1 65 := ⟨by decide +kernel, rfl⟩
theorem eX9_told_65 : xAt mX9_told 65 (.isub) 1 66 := ⟨by decide +kernel, rfl⟩
theorem eX9_told_66 : xAt mX9_told 66 (.aload_n 0) 1 67 := ⟨by decide +kernel, rfl⟩
theorem eX9_told_67 : xAt mX9_told 67 (.getfield 58) 3 70 := ⟨by decide +kernel, rfl⟩
theorem eX9_told_70 : xAt mX9_told 70 (.iload_n 1) 1 71 := ⟨by decide +kernel, rfl⟩
theorem eX9_told_71 : xAt mX9_told 71 (.iaload) 1 72 := ⟨by decide +kernel, rfl⟩
theorem eX9_told_72 : xBr mX9_told 72 (.if_icmp .ge) (19) 75 91 := ⟨by decide +kernel, rfl, by decide⟩
theorem eX9_told_75 : xAt mX9_told 75 (.aload_n 0) 1 76 := ⟨by decide +kernel, rfl⟩
theorem eX9_told_76 : xAt mX9_told 76 (.getfield 61) 3 79 := ⟨by decide +kernel, rfl⟩
theorem eX9_told_79 : xAt mX9_told 79 (.bipush 12) 2 81 := ⟨by decide +kernel, rfl⟩
theorem eX9_told_81 : xAt mX9_told 81 (.iload_n 1) 1 82 := ⟨by decide +kernel, rfl⟩
theorem eX9_told_82 : xAt mX9_told 82 (.imul) 1 83 := ⟨by decide +kernel, rfl⟩
theorem eX9_told_83 : xAt mX9_told 83 (.iload_n 2) 1 84 := ⟨by decide +kernel, rfl⟩
theorem eX9_told_84 : xAt mX9_told 84 (.iadd) 1 85 := ⟨by decide +kernel, rfl⟩
theorem eX9_told_85 : xAt mX9_told 85 (.iconst 3) 1 86 := ⟨by decide +kernel, rfl⟩
theorem eX9_told_86 : xAt mX9_told 86 (.isub) 1 87 := ⟨by decide +kernel, rfl⟩
theorem eX9_told_87 : xAt mX9_told 87 (.iaload) 1 88 := ⟨by decide +kernel, rfl⟩
theorem eX9_told_88 : xBr mX9_told 88 .goto (4) 91 92 := ⟨by decide +kernel, rfl, by decide⟩
theorem eX9_told_91 : xAt mX9_told 91 (.iconst (-1)) 1 92 := ⟨by decide +kernel, rfl⟩
theorem eX9_told_92 : xAt mX9_told 92 (.ireturn) 1 93 := ⟨by decide +kernel, rfl⟩
theorem eX9_give_0 : xAt mX9_give 0 (.aload_n 0) 1 1 := ⟨by decide +kernel, rfl⟩
theorem eX9_give_1 : xAt mX9_give 1 (.iload_n 1) 1 2 := ⟨by decide +kernel, rfl⟩
theorem eX9_give_2 : xAt mX9_give 2 (.invokevirtual 284) 3 5 := ⟨by decide +kernel, rfl⟩
theorem eX9_give_5 : xBr mX9_give 5 (.ifCond .ne) (6) 8 11 := ⟨by decide +kernel, rfl, by decide⟩
theorem eX9_give_8 : xAt mX9_give 8 (.bipush (-101)) 2 10 := ⟨by decide +kernel, rfl⟩
theorem eX9_give_10 : xAt mX9_give 10 (.ireturn) 1 11 := ⟨by decide +kernel, rfl⟩
theorem eX9_give_11 : xAt mX9_give 11 (.aload_n 0) 1 12 := ⟨by decide +kernel, rfl⟩
theorem eX9_give_12 : xAt mX9_give 12 (.invokevirtual 278) 3 15 := ⟨by decide +kernel, rfl⟩
theorem eX9_give_15 : xAt mX9_give 15 (.aload_n 0) 1 16 := ⟨by decide +kernel, rfl⟩
theorem eX9_give_16 : xAt mX9_give 16 (.getfield 55) 3 19 := ⟨by decide +kernel, rfl⟩
theorem eX9_give_19 : xAt mX9_give 19 (.iload_n 1) 1 20 := ⟨by decide +kernel, rfl⟩
theorem eX9_give_20 : xAt mX9_give 20 (.iaload) 1 21 := ⟨by decide +kernel, rfl⟩
theorem eX9_give_21 : xAt mX9_give 21 (.istore_n 3) 1 22 := ⟨by decide +kernel, rfl⟩
theorem eX9_give_22 : xAt mX9_give 22 (.aload_n 0) 1 23 := ⟨by decide +kernel, rfl⟩
theorem eX9_give_23 : xAt mX9_give 23 (.getfield 55) 3 26 := ⟨by decide +kernel, rfl⟩
theorem eX9_give_26 : xAt mX9_give 26 (.iload_n 1) 1 27 := ⟨by decide +kernel, rfl⟩
theorem eX9_give_27 : xAt mX9_give 27 (.iload_n 2) 1 28 := ⟨by decide +kernel, rfl⟩
theorem eX9_give_28 : xAt mX9_give 28 (.iastore) 1 29 := ⟨by decide +kernel, rfl⟩
theorem eX9_give_29 : xAt mX9_give 29 (.iload_n 3) 1 30 := ⟨by decide +kernel, rfl⟩
theorem eX9_give_30 : xAt mX9_give 30 (.ireturn) 1 31 := ⟨by decide +kernel, rfl⟩
theorem eX9_there_0 : xAt mX9_there 0 (.iconst 0) 1 1 := ⟨by decide +kernel, rfl⟩
theorem eX9_there_1 : xAt mX9_there 1 (.istore_n 2) 1 2 := ⟨by decide +kernel, rfl⟩
theorem eX9_there_2 : xAt mX9_there 2 (.iconst 0) 1 3 := ⟨by decide +kernel, rfl⟩
theorem eX9_there_3 : xAt mX9_there 3 (.istore_n 3) 1 4 := ⟨by decide +kernel, rfl⟩
theorem eX9_there_4 : xAt mX9_there 4 (.iload_n 3) 1 5 := ⟨by decide +kernel, rfl⟩
theorem eX9_there_5 : xAt mX9_there 5 (.aload_n 0) 1 6 := ⟨by decide +kernel, rfl⟩
theorem eX9_there_6 : xAt mX9_there 6 (.getfield 224) 3 9 := ⟨by decide +kernel, rfl⟩
theorem eX9_there_9 : xBr mX9_there 9 (.if_icmp .ge) (41) 12 50 := ⟨by decide +kernel, rfl, by decide⟩
theorem eX9_there_12 : xAt mX9_there 12 (.iload_n 2) 1 13 := ⟨by decide +kernel, rfl⟩
theorem eX9_there_13 : xAt mX9_there 13 (.aload_n 0) 1 14 := ⟨by decide +kernel, rfl⟩
theorem eX9_there_14 : xAt mX9_there 14 (.getfield 48) 3 17 := ⟨by decide +kernel, rfl⟩
theorem eX9_there_17 : xAt mX9_there 17 (.iload_n 3) 1 18 := ⟨by decide +kernel, rfl⟩
theorem eX9_there_18 : xAt mX9_there 18 (.baload) 1 19 := ⟨by decide +kernel, rfl⟩
theorem eX9_there_19 : xBr mX9_there 19 (.ifCond .eq) (22) 22 41 := ⟨by decide +kernel, rfl, by decide⟩
theorem eX9_there_22 : xAt mX9_there 22 (.iload_n 1) 1 23 := ⟨by decide +kernel, rfl⟩
theorem eX9_there_23 : xAt mX9_there 23 (.iconst (-1)) 1 24 := ⟨by decide +kernel, rfl⟩
theorem eX9_there_24 : xBr mX9_there 24 (.if_icmp .eq) (13) 27 37 := ⟨by decide +kernel, rfl, by decide⟩
theorem eX9_there_27 : xAt mX9_there 27 (.aload_n 0) 1 28 := ⟨by decide +kernel, rfl⟩
theorem eX9_there_28 : xAt mX9_there 28 (.getfield 52) 3 31 := ⟨by decide +kernel, rfl⟩
theorem eX9_there_31 : xAt mX9_there 31 (.iload_n 3) 1 32 := ⟨by decide +kernel, rfl⟩
theorem eX9_there_32 : xAt mX9_there 32 (.iaload) 1 33 := ⟨by decide +kernel, rfl⟩
theorem eX9_there_33 : xAt mX9_there 33 (.iload_n 1) 1 34 := ⟨by decide +kernel, rfl⟩
theorem eX9_there_34 : xBr mX9_there 34 (.if_icmp .ne) (7) 37 41 := ⟨by decide +kernel, rfl, by decide⟩
theorem eX9_there_37 : xAt mX9_there 37 (.iconst 1) 1 38 := ⟨by decide +kernel, rfl⟩
theorem eX9_there_38 : xBr mX9_there 38 .goto (4) 41 42 := ⟨by decide +kernel, rfl, by decide⟩
theorem eX9_there_41 : xAt mX9_there 41 (.iconst 0) 1 42 := ⟨by decide +kernel, rfl⟩
theorem eX9_there_42 : xAt mX9_there 42 (.iadd) 1 43 := ⟨by decide +kernel, rfl⟩
theorem eX9_there_43 : xAt mX9_there 43 (.istore_n 2) 1 44 := ⟨by decide +kernel, rfl⟩
theorem eX9_there_44 : xAt mX9_there 44 (.iinc 3 1) 3 47 := ⟨by decide +kernel, rfl⟩
theorem eX9_there_47 : xBr mX9_there 47 .goto (-43) 50 4 := ⟨by decide +kernel, rfl, by decide⟩
theorem eX9_there_50 : xAt mX9_there 50 (.iload_n 2) 1 51 := ⟨by decide +kernel, rfl⟩
theorem eX9_there_51 : xAt mX9_there 51 (.ireturn) 1 52 := ⟨by decide +kernel, rfl⟩
theorem eX9_drop_0 : xAt mX9_drop 0 (.aload_n 0) 1 1 := ⟨by decide +kernel, rfl⟩
theorem eX9_drop_1 : xAt mX9_drop 1 (.iload_n 1) 1 2 := ⟨by decide +kernel, rfl⟩
theorem eX9_drop_2 : xAt mX9_drop 2 (.invokevirtual 284) 3 5 := ⟨by decide +kernel, rfl⟩
theorem eX9_drop_5 : xBr mX9_drop 5 (.ifCond .ne) (6) 8 11 := ⟨by decide +kernel, rfl, by decide⟩
theorem eX9_drop_8 : xAt mX9_drop 8 (.bipush (-101)) 2 10 := ⟨by decide +kernel, rfl⟩
theorem eX9_drop_10 : xAt mX9_drop 10 (.ireturn) 1 11 := ⟨by decide +kernel, rfl⟩
theorem eX9_drop_11 : xAt mX9_drop 11 (.aload_n 0) 1 12 := ⟨by decide +kernel, rfl⟩
theorem eX9_drop_12 : xAt mX9_drop 12 (.invokevirtual 278) 3 15 := ⟨by decide +kernel, rfl⟩
theorem eX9_drop_15 : xAt mX9_drop 15 (.aload_n 0) 1 16 := ⟨by decide +kernel, rfl⟩
theorem eX9_drop_16 : xAt mX9_drop 16 (.getfield 48) 3 19 := ⟨by decide +kernel, rfl⟩
theorem eX9_drop_19 : xAt mX9_drop 19 (.iload_n 1) 1 20 := ⟨by decide +kernel, rfl⟩
theorem eX9_drop_20 : xAt mX9_drop 20 (.iconst 0) 1 21 := ⟨by decide +kernel, rfl⟩
theorem eX9_drop_21 : xAt mX9_drop 21 (.bastore) 1 22 := ⟨by decide +kernel, rfl⟩
theorem eX9_drop_22 : xAt mX9_drop 22 (.aload_n 0) 1 23 := ⟨by decide +kernel, rfl⟩
theorem eX9_drop_23 : xAt mX9_drop 23 (.iconst (-1)) 1 24 := ⟨by decide +kernel, rfl⟩
theorem eX9_drop_24 : xAt mX9_drop 24 (.invokevirtual 287) 3 27 := ⟨by decide +kernel, rfl⟩
theorem eX9_drop_27 : xAt mX9_drop 27 (.ireturn) 1 28 := ⟨by decide +kernel, rfl⟩
theorem eX9_isInside_0 : xAt mX9_isInside 0 (.aload_n 0) 1 1 := ⟨by decide +kernel, rfl⟩
theorem eX9_isInside_1 : xAt mX9_isInside 1 (.iload_n 1) 1 2 := ⟨by decide +kernel, rfl⟩
theorem eX9_isInside_2 : xAt mX9_isInside 2 (.iload_n 2) 1 3 := ⟨by decide +kernel, rfl⟩
theorem eX9_isInside_3 : xAt mX9_isInside 3 (.invokevirtual 241) 3 6 := ⟨by decide +kernel, rfl⟩
theorem eX9_isInside_6 : xAt mX9_isInside 6 (.istore 4) 2 8 := ⟨by decide +kernel, rfl⟩
theorem eX9_isInside_8 : xAt mX9_isInside 8 (.aload_n 0) 1 9 := ⟨by decide +kernel, rfl⟩
theorem eX9_isInside_9 : xAt mX9_isInside 9 (.iload_n 1) 1 10 := ⟨by decide +kernel, rfl⟩
theorem eX9_isInside_10 : xAt mX9_isInside 10 (.iload_n 3) 1 11 := ⟨by decide +kernel, rfl⟩
theorem eX9_isInside_11 : xAt mX9_isInside 11 (.invokevirtual 241) 3 14 := ⟨by decide +kernel, rfl⟩
theorem eX9_isInside_14 : xAt mX9_isInside 14 (.istore 5) 2 16 := ⟨by decide +kernel, rfl⟩
theorem eX9_isInside_16 : xAt mX9_isInside 16 (.iconst 0) 1 17 := ⟨by decide +kernel, rfl⟩
theorem eX9_isInside_17 : xAt mX9_isInside 17 (.istore 6) 2 19 := ⟨by decide +kernel, rfl⟩
theorem eX9_isInside_19 : xAt mX9_isInside 19 (.iload 6) 2 21 := ⟨by decide +kernel, rfl⟩
theorem eX9_isInside_21 : xAt mX9_isInside 21 (.aload_n 0) 1 22 := ⟨by decide +kernel, rfl⟩
theorem eX9_isInside_22 : xAt mX9_isInside 22 (.getfield 58) 3 25 := ⟨by decide +kernel, rfl⟩
theorem eX9_isInside_25 : xAt mX9_isInside 25 (.iload_n 1) 1 26 := ⟨by decide +kernel, rfl⟩
theorem eX9_isInside_26 : xAt mX9_isInside 26 (.iaload) 1 27 := ⟨by decide +kernel, rfl⟩
theorem eX9_isInside_27 : xBr mX9_isInside 27 (.if_icmp .ge) (91) 30 118 := ⟨by decide +kernel, rfl, by decide⟩
theorem eX9_isInside_30 : xAt mX9_isInside 30 (.aload_n 0) 1 31 := ⟨by decide +kernel, rfl⟩
theorem eX9_isInside_31 : xAt mX9_isInside 31 (.iload_n 1) 1 32 := ⟨by decide +kernel, rfl⟩
theorem eX9_isInside_32 : xAt mX9_isInside 32 (.iload 6) 2 34 := ⟨by decide +kernel, rfl⟩
theorem eX9_isInside_34 : xAt mX9_isInside 34 (.invokevirtual 241) 3 37 := ⟨by decide +kernel, rfl⟩
theorem eX9_isInside_37 : xAt mX9_isInside 37 (.istore 7) 2 39 := ⟨by decide +kernel, rfl⟩
theorem eX9_isInside_39 : xAt mX9_isInside 39 (.aload_n 0) 1 40 := ⟨by decide +kernel, rfl⟩
theorem eX9_isInside_40 : xAt mX9_isInside 40 (.iload_n 1) 1 41 := ⟨by decide +kernel, rfl⟩
theorem eX9_isInside_41 : xAt mX9_isInside 41 (.iload 6) 2 43 := ⟨by decide +kernel, rfl⟩
theorem eX9_isInside_43 : xAt mX9_isInside 43 (.iconst 1) 1 44 := ⟨by decide +kernel, rfl⟩
theorem eX9_isInside_44 : xAt mX9_isInside 44 (.iadd) 1 45 := ⟨by decide +kernel, rfl⟩
theorem eX9_isInside_45 : xAt mX9_isInside 45 (.invokevirtual 241) 3 48 := ⟨by decide +kernel, rfl⟩
theorem eX9_isInside_48 : xAt mX9_isInside 48 (.istore 8) 2 50 := ⟨by decide +kernel, rfl⟩
theorem eX9_isInside_50 : xAt mX9_isInside 50 (.iload 7) 2 52 := ⟨by decide +kernel, rfl⟩
theorem eX9_isInside_52 : xAt mX9_isInside 52 (.iload 4) 2 54 := ⟨by decide +kernel, rfl⟩
theorem eX9_isInside_54 : xBr mX9_isInside 54 (.if_icmp .eq) (24) 57 78 := ⟨by decide +kernel, rfl, by decide⟩
theorem eX9_isInside_57 : xAt mX9_isInside 57 (.iload 7) 2 59 := ⟨by decide +kernel, rfl⟩
theorem eX9_isInside_59 : xAt mX9_isInside 59 (.iload 5) 2 61 := ⟨by decide +kernel, rfl⟩
theorem eX9_isInside_61 : xBr mX9_isInside 61 (.if_icmp .eq) (17) 64 78 := ⟨by decide +kernel, rfl, by decide⟩
theorem eX9_isInside_64 : xAt mX9_isInside 64 (.iload 8) 2 66 := ⟨by decide +kernel, rfl⟩
theorem eX9_isInside_66 : xAt mX9_isInside 66 (.iload 4) 2 68 := ⟨by decide +kernel, rfl⟩
theorem eX9_isInside_68 : xBr mX9_isInside 68 (.if_icmp .eq) (10) 71 78 := ⟨by decide +kernel, rfl, by decide⟩
theorem eX9_isInside_71 : xAt mX9_isInside 71 (.iload 8) 2 73 := ⟨by decide +kernel, rfl⟩
theorem eX9_isInside_73 : xAt mX9_isInside 73 (.iload 5) 2 75 := ⟨by decide +kernel, rfl⟩
theorem eX9_isInside_75 : xBr mX9_isInside 75 (.if_icmp .ne) (7) 78 82 := ⟨by decide +kernel, rfl, by decide⟩
theorem eX9_isInside_78 : xAt mX9_isInside 78 (.iconst 1) 1 79 := ⟨by decide +kernel, rfl⟩
theorem eX9_isInside_79 : xBr mX9_isInside 79 .goto (4) 82 83 := ⟨by decide +kernel, rfl, by decide⟩
theorem eX9_isInside_82 : xAt mX9_isInside 82 (.iconst 0) 1 83 := ⟨by decide +kernel, rfl⟩
theorem eX9_isInside_83 : xAt mX9_isInside 83 (.istore 9) 2 85 := ⟨by decide +kernel, rfl⟩
theorem eX9_isInside_85 : xAt mX9_isInside 85 (.aload_n 0) 1 86 := ⟨by decide +kernel, rfl⟩
theorem eX9_isInside_86 : xAt mX9_isInside 86 (.iload 4) 2 88 := ⟨by decide +kernel, rfl⟩
theorem eX9_isInside_88 : xAt mX9_isInside 88 (.iload 5) 2 90 := ⟨by decide +kernel, rfl⟩
theorem eX9_isInside_90 : xAt mX9_isInside 90 (.iload 7) 2 92 := ⟨by decide +kernel, rfl⟩
theorem eX9_isInside_92 : xAt mX9_isInside 92 (.iload 8) 2 94 := ⟨by decide +kernel, rfl⟩
theorem eX9_isInside_94 : xAt mX9_isInside 94 (.invokevirtual 204) 3 97 := ⟨by decide +kernel, rfl⟩
theorem eX9_isInside_97 : xAt mX9_isInside 97 (.iload 9) 2 99 := ⟨by decide +kernel, rfl⟩
theorem eX9_isInside_99 : xBr mX9_isInside 99 (.ifCond .eq) (7) 102 106 := ⟨by decide +kernel, rfl, by decide⟩
theorem eX9_isInside_102 : xAt mX9_isInside 102 (.iconst 2) 1 103 := ⟨by decide +kernel, rfl⟩
theorem eX9_isInside_103 : xBr mX9_isInside 103 .goto (4) 106 107 := ⟨by decide +kernel, rfl, by decide⟩
theorem eX9_isInside_106 : xAt mX9_isInside 106 (.iconst 0) 1 107 := ⟨by decide +kernel, rfl⟩
theorem eX9_isInside_107 : xBr mX9_isInside 107 (.if_icmp .eq) (5) 110 112 := ⟨by decide +kernel, rfl, by decide⟩
theorem eX9_isInside_110 : xAt mX9_isInside 110 (.iconst 0) 1 111 := ⟨by decide +kernel, rfl⟩
theorem eX9_isInside_111 : xAt mX9_isInside 111 (.ireturn) 1 112 := ⟨by decide +kernel, rfl⟩
theorem eX9_isInside_112 : xAt mX9_isInside 112 (.iinc 6 1) 3 115 := ⟨by decide +kernel, rfl⟩
theorem eX9_isInside_115 : xBr mX9_isInside 115 .goto (-96) 118 19 := ⟨by decide +kernel, rfl, by decide⟩
theorem eX9_isInside_118 : xAt mX9_isInside 118 (.aload_n 0) 1 119 := ⟨by decide +kernel, rfl⟩
theorem eX9_isInside_119 : xAt mX9_isInside 119 (.iload 4) 2 121 := ⟨by decide +kernel, rfl⟩
theorem eX9_isInside_121 : xAt mX9_isInside 121 (.iload 5) 2 123 := ⟨by decide +kernel, rfl⟩
theorem eX9_isInside_123 : xAt mX9_isInside 123 (.invokevirtual 253) 3 126 := ⟨by decide +kernel, rfl⟩
theorem eX9_isInside_126 : xAt mX9_isInside 126 (.aload_n 0) 1 127 := ⟨by decide +kernel, rfl⟩
theorem eX9_isInside_127 : xAt mX9_isInside 127 (.iload_n 1) 1 128 := ⟨by decide +kernel, rfl⟩
theorem eX9_isInside_128 : xAt mX9_isInside 128 (.sipush 201) 3 131 := ⟨by decide +kernel, rfl⟩
theorem eX9_isInside_131 : xAt mX9_isInside 131 (.invokevirtual 257) 3 134 := ⟨by decide +kernel, rfl⟩
theorem eX9_isInside_134 : xAt mX9_isInside 134 (.iconst 1) 1 135 := ⟨by decide +kernel, rfl⟩
theorem eX9_isInside_135 : xBr mX9_isInside 135 (.if_icmp .ne) (7) 138 142 := ⟨by decide +kernel, rfl, by decide⟩
theorem eX9_isInside_138 : xAt mX9_isInside 138 (.iconst 1) 1 139 := ⟨by decide +kernel, rfl⟩
theorem eX9_isInside_139 : xBr mX9_isInside 139 .goto (4) 142 143 := ⟨by decide +kernel, rfl, by decide⟩
theorem eX9_isInside_142 : xAt mX9_isInside 142 (.iconst 0) 1 143 := ⟨by decide +kernel, rfl⟩
theorem eX9_isInside_143 : xAt mX9_isInside 143 (.ireturn) 1 144 := ⟨by decide +kernel, rfl⟩
theorem eX9_split_0 : xAt mX9_split 0 (.aload_n 0) 1 1 := ⟨by decide +kernel, rfl⟩
theorem eX9_split_1 : xAt mX9_split 1 (.iload_n 1) 1 2 := ⟨by decide +kernel, rfl⟩
theorem eX9_split_2 : xAt mX9_split 2 (.invokevirtual 284) 3 5 := ⟨by decide +kernel, rfl⟩
theorem eX9_split_5 : xBr mX9_split 5 (.ifCond .ne) (6) 8 11 := ⟨by decide +kernel, rfl, by decide⟩
theorem eX9_split_8 : xAt mX9_split 8 (.bipush (-101)) 2 10 := ⟨by decide +kernel, rfl⟩
theorem eX9_split_10 : xAt mX9_split 10 (.ireturn) 1 11 := ⟨by decide +kernel, rfl⟩
theorem eX9_split_11 : xAt mX9_split 11 (.aload_n 0) 1 12 := ⟨by decide +kernel, rfl⟩
theorem eX9_split_12 : xAt mX9_split 12 (.getfield 58) 3 15 := ⟨by decide +kernel, rfl⟩
theorem eX9_split_15 : xAt mX9_split 15 (.iload_n 1) 1 16 := ⟨by decide +kernel, rfl⟩
theorem eX9_split_16 : xAt mX9_split 16 (.iaload) 1 17 := ⟨by decide +kernel, rfl⟩
theorem eX9_split_17 : xAt mX9_split 17 (.istore 5) 2 19 := ⟨by decide +kernel, rfl⟩
theorem eX9_split_19 : xAt mX9_split 19 (.iload_n 2) 1 20 := ⟨by decide +kernel, rfl⟩
theorem eX9_split_20 : xBr mX9_split 20 (.ifCond .lt) (14) 23 34 := ⟨by decide +kernel, rfl, by decide⟩
theorem eX9_split_23 : xAt mX9_split 23 (.iload_n 2) 1 24 := ⟨by decide +kernel, rfl⟩
theorem eX9_split_24 : xAt mX9_split 24 (.iload_n 3) 1 25 := ⟨by decide +kernel, rfl⟩
theorem eX9_split_25 : xBr mX9_split 25 (.if_icmp .ge) (9) 28 34 := ⟨by decide +kernel, rfl, by decide⟩
theorem eX9_split_28 : xAt mX9_split 28 (.iload_n 3) 1 29 := ⟨by decide +kernel, rfl⟩
theorem eX9_split_29 : xAt mX9_split 29 (.iload 5) 2 31 := ⟨by decide +kernel, rfl⟩
theorem eX9_split_31 : xBr mX9_split 31 (.if_icmp .lt) (6) 34 37 := ⟨by decide +kernel, rfl, by decide⟩
theorem eX9_split_34 : xAt mX9_split 34 (.bipush (-102)) 2 36 := ⟨by decide +kernel, rfl⟩
theorem eX9_split_36 : xAt mX9_split 36 (.ireturn) 1 37 := ⟨by decide +kernel, rfl⟩
theorem eX9_split_37 : xAt mX9_split 37 (.iload_n 3) 1 38 := ⟨by decide +kernel, rfl⟩
theorem eX9_split_38 : xAt mX9_split 38 (.iload_n 2) 1 39 := ⟨by decide +kernel, rfl⟩
theorem eX9_split_39 : xAt mX9_split 39 (.iconst 1) 1 40 := ⟨by decide +kernel, rfl⟩
theorem eX9_split_40 : xAt mX9_split 40 (.iadd) 1 41 := ⟨by decide +kernel, rfl⟩
theorem eX9_split_41 : xBr mX9_split 41 (.if_icmp .eq) (25) 44 66 := ⟨by decide +kernel, rfl, by decide⟩
theorem eX9_split_44 : xAt mX9_split 44 (.iload_n 2) 1 45 := ⟨by decide +kernel, rfl⟩
theorem eX9_split_45 : xBr mX9_split 45 (.ifCond .ne) (11) 48 56 := ⟨by decide +kernel, rfl, by decide⟩
theorem eX9_split_48 : xAt mX9_split 48 (.iload_n 3) 1 49 := ⟨by decide +kernel, rfl⟩
theorem eX9_split_49 : xAt mX9_split 49 (.iload 5) 2 51 := ⟨by decide +kernel, rfl⟩
theorem eX9_split_51 : xAt mX9_split 51 (.iconst 1) 1 52 := ⟨by decide +kernel, rfl⟩
theorem eX9_split_52 : xAt mX9_split 52 (.isub) 1 53 := ⟨by decide +kernel, rfl⟩
theorem eX9_split_53 : xBr mX9_split 53 (.if_icmp .eq) (13) 56 66 := ⟨by decide +kernel, rfl, by decide⟩
theorem eX9_split_56 : xAt mX9_split 56 (.aload_n 0) 1 57 := ⟨by decide +kernel, rfl⟩
theorem eX9_split_57 : xAt mX9_split 57 (.iload_n 1) 1 58 := ⟨by decide +kernel, rfl⟩
theorem eX9_split_58 : xAt mX9_split 58 (.iload_n 2) 1 59 := ⟨by decide +kernel, rfl⟩
theorem eX9_split_59 : xAt mX9_split 59 (.iload_n 3) 1 60 := ⟨by decide +kernel, rfl⟩
theorem eX9_split_60 : xAt mX9_split 60 (.invokevirtual 291) 3 63 := ⟨by decide +kernel, rfl⟩
theorem eX9_split_63 : xBr mX9_split 63 (.ifCond .ne) (7) 66 70 := ⟨by decide +kernel, rfl, by decide⟩
theorem eX9_split_66 : xAt mX9_split 66 (.sipush (-205)) 3 69 := ⟨by decide +kernel, rfl⟩
theorem eX9_split_69 : xAt mX9_split 69 (.ireturn) 1 70 := ⟨by decide +kernel, rfl⟩
theorem eX9_split_70 : xAt mX9_split 70 (.aload_n 0) 1 71 := ⟨by decide +kernel, rfl⟩
theorem eX9_split_71 : xAt mX9_split 71 (.getfield 224) 3 74 := ⟨by decide +kernel, rfl⟩
theorem eX9_split_74 : xAt mX9_split 74 (.bipush 60) 2 76 := ⟨by decide +kernel, rfl⟩
theorem eX9_split_76 : xBr mX9_split 76 (.if_icmp .ne) (6) 79 82 := ⟨by decide +kernel, rfl, by decide⟩
theorem eX9_split_79 : xAt mX9_split 79 (.bipush (-104)) 2 81 := ⟨by decide +kernel, rfl⟩
theorem eX9_split_81 : xAt mX9_split 81 (.ireturn) 1 82 := ⟨by decide +kernel, rfl⟩
theorem eX9_split_82 : xAt mX9_split 82 (.aload_n 0) 1 83 := ⟨by decide +kernel, rfl⟩
theorem eX9_split_83 : xAt mX9_split 83 (.invokevirtual 278) 3 86 := ⟨by decide +kernel, rfl⟩
theorem eX9_split_86 : xAt mX9_split 86 (.aload_n 0) 1 87 := ⟨by decide +kernel, rfl⟩
theorem eX9_split_87 : xAt mX9_split 87 (.iload_n 3) 1 88 := ⟨by decide +kernel, rfl⟩
theorem eX9_split_88 : xAt mX9_split 88 (.iload_n 2) 1 89 := ⟨by decide +kernel, rfl⟩
theorem eX9_split_89 : xAt mX9_split 89 (.isub) 1 90 := ⟨by decide +kernel, rfl⟩
theorem eX9_split_90 : xAt mX9_split 90 (.iconst 1) 1 91 := ⟨by decide +kernel, rfl⟩
theorem eX9_split_91 : xAt mX9_split 91 (.iadd) 1 92 := ⟨by decide +kernel, rfl⟩
theorem eX9_split_92 : xAt mX9_split 92 (.putfield 218) 3 95 := ⟨by decide +kernel, rfl⟩
theorem eX9_split_95 : xAt mX9_split 95 (.iconst 0) 1 96 := ⟨by decide +kernel, rfl⟩
theorem eX9_split_96 : xAt mX9_split 96 (.istore 6) 2 98 := ⟨by decide +kernel, rfl⟩
theorem eX9_split_98 : xAt mX9_split 98 (.iload 6) 2 100 := ⟨by decide +kernel, rfl⟩
theorem eX9_split_100 : xAt mX9_split 100 (.aload_n 0) 1 101 := ⟨by decide +kernel, rfl⟩
theorem eX9_split_101 : xAt mX9_split 101 (.getfield 218) 3 104 := ⟨by decide +kernel, rfl⟩
theorem eX9_split_104 : xBr mX9_split 104 (.if_icmp .ge) (25) 107 129 := ⟨by decide +kernel, rfl, by decide⟩
theorem eX9_split_107 : xAt mX9_split 107 (.aload_n 0) 1 108 := ⟨by decide +kernel, rfl⟩
theorem eX9_split_108 : xAt mX9_split 108 (.getfield 42) 3 111 := ⟨by decide +kernel, rfl⟩
theorem eX9_split_111 : xAt mX9_split 111 (.iload 6) 2 113 := ⟨by decide +kernel, rfl⟩
theorem eX9_split_113 : xAt mX9_split 113 (.aload_n 0) 1 114 := ⟨by decide +kernel, rfl⟩
theorem eX9_split_114 : xAt mX9_split 114 (.iload_n 1) 1 115 := ⟨by decide +kernel, rfl⟩
theorem eX9_split_115 : xAt mX9_split 115 (.iload_n 2) 1 116 := ⟨by decide +kernel, rfl⟩
theorem eX9_split_116 : xAt mX9_split 116 (.iload 6) 2 118 := ⟨by decide +kernel, rfl⟩
theorem eX9_split_118 : xAt mX9_split 118 (.iadd) 1 119 := ⟨by decide +kernel, rfl⟩
theorem eX9_split_119 : xAt mX9_split 119 (.invokevirtual 241) 3 122 := ⟨by decide +kernel, rfl⟩
theorem eX9_split_122 : xAt mX9_split 122 (.iastore) 1 123 := ⟨by decide +kernel, rfl⟩
theorem eX9_split_123 : xAt mX9_split 123 (.iinc 6 1) 3 126 := ⟨by decide +kernel, rfl⟩
theorem eX9_split_126 : xBr mX9_split 126 .goto (-28) 129 98 := ⟨by decide +kernel, rfl, by decide⟩
theorem eX9_split_129 : xAt mX9_split 129 (.aload_n 0) 1 130 := ⟨by decide +kernel, rfl⟩
theorem eX9_split_130 : xAt mX9_split 130 (.invokevirtual 272) 3 133 := ⟨by decide +kernel, rfl⟩
theorem eX9_split_133 : xAt mX9_split 133 (.aload_n 0) 1 134 := ⟨by decide +kernel, rfl⟩
theorem eX9_split_134 : xAt mX9_split 134 (.aload_n 0) 1 135 := ⟨by decide +kernel, rfl⟩
theorem eX9_split_135 : xAt mX9_split 135 (.getfield 52) 3 138 := ⟨by decide +kernel, rfl⟩
theorem eX9_split_138 : xAt mX9_split 138 (.iload_n 1) 1 139 := ⟨by decide +kernel, rfl⟩
theorem eX9_split_139 : xAt mX9_split 139 (.iaload) 1 140 := ⟨by decide +kernel, rfl⟩
theorem eX9_split_140 : xAt mX9_split 140 (.iload 4) 2 142 := ⟨by decide +kernel, rfl⟩
theorem eX9_split_142 : xAt mX9_split 142 (.invokevirtual 281) 3 145 := ⟨by decide +kernel, rfl⟩
theorem eX9_split_145 : xAt mX9_split 145 (.istore 6) 2 147 := ⟨by decide +kernel, rfl⟩
theorem eX9_split_147 : xAt mX9_split 147 (.aload_n 0) 1 148 := ⟨by decide +kernel, rfl⟩
theorem eX9_split_148 : xAt mX9_split 148 (.iload 5) 2 150 := ⟨by decide +kernel, rfl⟩
theorem eX9_split_150 : xAt mX9_split 150 (.iload_n 3) 1 151 := ⟨by decide +kernel, rfl⟩
theorem eX9_split_151 : xAt mX9_split 151 (.isub) 1 152 := ⟨by decide +kernel, rfl⟩
theorem eX9_split_152 : xAt mX9_split 152 (.iload_n 2) 1 153 := ⟨by decide +kernel, rfl⟩
theorem eX9_split_153 : xAt mX9_split 153 (.iadd) 1 154 := ⟨by decide +kernel, rfl⟩
theorem eX9_split_154 : xAt mX9_split 154 (.iconst 1) 1 155 := ⟨by decide +kernel, rfl⟩
theorem eX9_split_155 : xAt mX9_split 155 (.iadd) 1 156 := ⟨by decide +kernel, rfl⟩
theorem eX9_split_156 : xAt mX9_split 156 (.putfield 218) 3 159 := ⟨by decide +kernel, rfl⟩
theorem eX9_split_159 : xAt mX9_split 159 (.iconst 0) 1 160 := ⟨by decide +kernel, rfl⟩
theorem eX9_split_160 : xAt mX9_split 160 (.istore 7) 2 162 := ⟨by decide +kernel, rfl⟩
theorem eX9_split_162 : xAt mX9_split 162 (.iload 7) 2 164 := ⟨by decide +kernel, rfl⟩
theorem eX9_split_164 : xAt mX9_split 164 (.aload_n 0) 1 165 := ⟨by decide +kernel, rfl⟩
theorem eX9_split_165 : xAt mX9_split 165 (.getfield 218) 3 168 := ⟨by decide +kernel, rfl⟩
theorem eX9_split_168 : xBr mX9_split 168 (.if_icmp .ge) (25) 171 193 := ⟨by decide +kernel, rfl, by decide⟩
theorem eX9_split_171 : xAt mX9_split 171 (.aload_n 0) 1 172 := ⟨by decide +kernel, rfl⟩
theorem eX9_split_172 : xAt mX9_split 172 (.getfield 45) 3 175 := ⟨by decide +kernel, rfl⟩
theorem eX9_split_175 : xAt mX9_split 175 (.iload 7) 2 177 := ⟨by decide +kernel, rfl⟩
theorem eX9_split_177 : xAt mX9_split 177 (.aload_n 0) 1 178 := ⟨by decide +kernel, rfl⟩
theorem eX9_split_178 : xAt mX9_split 178 (.iload_n 1) 1 179 := ⟨by decide +kernel, rfl⟩
theorem eX9_split_179 : xAt mX9_split 179 (.iload_n 3) 1 180 := ⟨by decide +kernel, rfl⟩
theorem eX9_split_180 : xAt mX9_split 180 (.iload 7) 2 182 := ⟨by decide +kernel, rfl⟩
theorem eX9_split_182 : xAt mX9_split 182 (.iadd) 1 183 := ⟨by decide +kernel, rfl⟩
theorem eX9_split_183 : xAt mX9_split 183 (.invokevirtual 241) 3 186 := ⟨by decide +kernel, rfl⟩
theorem eX9_split_186 : xAt mX9_split 186 (.iastore) 1 187 := ⟨by decide +kernel, rfl⟩
theorem eX9_split_187 : xAt mX9_split 187 (.iinc 7 1) 3 190 := ⟨by decide +kernel, rfl⟩
theorem eX9_split_190 : xBr mX9_split 190 .goto (-28) 193 162 := ⟨by decide +kernel, rfl, by decide⟩
theorem eX9_split_193 : xAt mX9_split 193 (.iconst 0) 1 194 := ⟨by decide +kernel, rfl⟩
theorem eX9_split_194 : xAt mX9_split 194 (.istore 7) 2 196 := ⟨by decide +kernel, rfl⟩
theorem eX9_split_196 : xAt mX9_split 196 (.iload 7) 2 198 := ⟨by decide +kernel, rfl⟩
theorem eX9_split_198 : xAt mX9_split 198 (.aload_n 0) 1 199 := ⟨by decide +kernel, rfl⟩
theorem eX9_split_199 : xAt mX9_split 199 (.getfield 218) 3 202 := ⟨by decide +kernel, rfl⟩
theorem eX9_split_202 : xBr mX9_split 202 (.if_icmp .ge) (23) 205 225 := ⟨by decide +kernel, rfl, by decide⟩
theorem eX9_split_205 : xAt mX9_split 205 (.aload_n 0) 1 206 := ⟨by decide +kernel, rfl⟩
theorem eX9_split_206 : xAt mX9_split 206 (.getfield 42) 3 209 := ⟨by decide +kernel, rfl⟩
theorem eX9_split_209 : xAt mX9_split 209 (.iload 7) 2 211 := ⟨by decide +kernel, rfl⟩
theorem eX9_split_211 : xAt mX9_split 211 (.aload_n 0) 1 212 := ⟨by decide +kernel, rfl⟩
theorem eX9_split_212 : xAt mX9_split 212 (.getfield 45) 3 215 := ⟨by decide +kernel, rfl⟩
theorem eX9_split_215 : xAt mX9_split 215 (.iload 7) 2 217 := ⟨by decide +kernel, rfl⟩
theorem eX9_split_217 : xAt mX9_split 217 (.iaload) 1 218 := ⟨by decide +kernel, rfl⟩
theorem eX9_split_218 : xAt mX9_split 218 (.iastore) 1 219 := ⟨by decide +kernel, rfl⟩
theorem eX9_split_219 : xAt mX9_split 219 (.iinc 7 1) 3 222 := ⟨by decide +kernel, rfl⟩
theorem eX9_split_222 : xBr mX9_split 222 .goto (-26) 225 196 := ⟨by decide +kernel, rfl, by decide⟩
theorem eX9_split_225 : xAt mX9_split 225 (.aload_n 0) 1 226 := ⟨by decide +kernel, rfl⟩
theorem eX9_split_226 : xAt mX9_split 226 (.invokevirtual 272) 3 229 := ⟨by decide +kernel, rfl⟩
theorem eX9_split_229 : xAt mX9_split 229 (.aload_n 0) 1 230 := ⟨by decide +kernel, rfl⟩
theorem eX9_split_230 : xAt mX9_split 230 (.iload_n 1) 1 231 := ⟨by decide +kernel, rfl⟩
theorem eX9_split_231 : xAt mX9_split 231 (.invokevirtual 234) 3 234 := ⟨by decide +kernel, rfl⟩
theorem eX9_split_234 : xAt mX9_split 234 (.iload 6) 2 236 := ⟨by decide +kernel, rfl⟩
theorem eX9_split_236 : xAt mX9_split 236 (.ireturn) 1 237 := ⟨by decide +kernel, rfl⟩
theorem eX9_reverse_0 : xAt mX9_reverse 0 (.iconst (-1)) 1 1 := ⟨by decide +kernel, rfl⟩
theorem eX9_reverse_1 : xAt mX9_reverse 1 (.istore 4) 2 3 := ⟨by decide +kernel, rfl⟩
theorem eX9_reverse_3 : xAt mX9_reverse 3 (.iconst 0) 1 4 := ⟨by decide +kernel, rfl⟩
theorem eX9_reverse_4 : xAt mX9_reverse 4 (.istore 5) 2 6 := ⟨by decide +kernel, rfl⟩
theorem eX9_reverse_6 : xAt mX9_reverse 6 (.iload 5) 2 8 := ⟨by decide +kernel, rfl⟩
theorem eX9_reverse_8 : xAt mX9_reverse 8 (.aload_n 0) 1 9 := ⟨by decide +kernel, rfl⟩
theorem eX9_reverse_9 : xAt mX9_reverse 9 (.getfield 58) 3 12 := ⟨by decide +kernel, rfl⟩
theorem eX9_reverse_12 : xAt mX9_reverse 12 (.iload_n 3) 1 13 := ⟨by decide +kernel, rfl⟩
theorem eX9_reverse_13 : xAt mX9_reverse 13 (.iaload) 1 14 := ⟨by decide +kernel, rfl⟩
theorem eX9_reverse_14 : xBr mX9_reverse 14 (.if_icmp .ge) (54) 17 68 := ⟨by decide +kernel, rfl, by decide⟩
theorem eX9_reverse_17 : xAt mX9_reverse 17 (.aload_n 0) 1 18 := ⟨by decide +kernel, rfl⟩
theorem eX9_reverse_18 : xAt mX9_reverse 18 (.iload_n 3) 1 19 := ⟨by decide +kernel, rfl⟩
theorem eX9_reverse_19 : xAt mX9_reverse 19 (.iload 5) 2 21 := ⟨by decide +kernel, rfl⟩
theorem eX9_reverse_21 : xAt mX9_reverse 21 (.invokevirtual 241) 3 24 := ⟨by decide +kernel, rfl⟩
theorem eX9_reverse_24 : xAt mX9_reverse 24 (.aload_n 0) 1 25 := ⟨by decide +kernel, rfl⟩
theorem eX9_reverse_25 : xAt mX9_reverse 25 (.iload_n 1) 1 26 := ⟨by decide +kernel, rfl⟩
theorem eX9_reverse_26 : xAt mX9_reverse 26 (.iload_n 2) 1 27 := ⟨by decide +kernel, rfl⟩
theorem eX9_reverse_27 : xAt mX9_reverse 27 (.iconst 1) 1 28 := ⟨by decide +kernel, rfl⟩
theorem eX9_reverse_28 : xAt mX9_reverse 28 (.iadd) 1 29 := ⟨by decide +kernel, rfl⟩
theorem eX9_reverse_29 : xAt mX9_reverse 29 (.invokevirtual 241) 3 32 := ⟨by decide +kernel, rfl⟩
theorem eX9_reverse_32 : xBr mX9_reverse 32 (.if_icmp .ne) (26) 35 58 := ⟨by decide +kernel, rfl, by decide⟩
theorem eX9_reverse_35 : xAt mX9_reverse 35 (.aload_n 0) 1 36 := ⟨by decide +kernel, rfl⟩
theorem eX9_reverse_36 : xAt mX9_reverse 36 (.iload_n 3) 1 37 := ⟨by decide +kernel, rfl⟩
theorem eX9_reverse_37 : xAt mX9_reverse 37 (.iload 5) 2 39 := ⟨by decide +kernel, rfl⟩
theorem eX9_reverse_39 : xAt mX9_reverse 39 (.iconst 1) 1 40 := ⟨by decide +kernel, rfl⟩
theorem eX9_reverse_40 : xAt mX9_reverse 40 (.iadd) 1 41 := ⟨by decide +kernel, rfl⟩
theorem eX9_reverse_41 : xAt mX9_reverse 41 (.invokevirtual 241) 3 44 := ⟨by decide +kernel, rfl⟩
theorem eX9_reverse_44 : xAt mX9_reverse 44 (.aload_n 0) 1 45 := ⟨by decide +kernel, rfl⟩
theorem eX9_reverse_45 : xAt mX9_reverse 45 (.iload_n 1) 1 46 := ⟨by decide +kernel, rfl⟩
theorem eX9_reverse_46 : xAt mX9_reverse 46 (.iload_n 2) 1 47 := ⟨by decide +kernel, rfl⟩
theorem eX9_reverse_47 : xAt mX9_reverse 47 (.invokevirtual 241) 3 50 := ⟨by decide +kernel, rfl⟩
theorem eX9_reverse_50 : xBr mX9_reverse 50 (.if_icmp .ne) (8) 53 58 := ⟨by decide +kernel, rfl, by decide⟩
theorem eX9_reverse_53 : xAt mX9_reverse 53 (.iload 5) 2 55 := ⟨by decide +kernel, rfl⟩
theorem eX9_reverse_55 : xBr mX9_reverse 55 .goto (5) 58 60 := ⟨by decide +kernel, rfl, by decide⟩
theorem eX9_reverse_58 : xAt mX9_reverse 58 (.iload 4) 2 60 := ⟨by decide +kernel, rfl⟩
theorem eX9_reverse_60 : xAt mX9_reverse 60 (.istore 4) 2 62 := ⟨by decide +kernel, rfl⟩
theorem eX9_reverse_62 : xAt mX9_reverse 62 (.iinc 5 1) 3 65 := ⟨by decide +kernel, rfl⟩
theorem eX9_reverse_65 : xBr mX9_reverse 65 .goto (-59) 68 6 := ⟨by decide +kernel, rfl, by decide⟩
theorem eX9_reverse_68 : xAt mX9_reverse 68 (.iload 4) 2 70 := ⟨by decide +kernel, rfl⟩
theorem eX9_reverse_70 : xAt mX9_reverse 70 (.ireturn) 1 71 := ⟨by decide +kernel, rfl⟩
theorem eX9_join_0 : xAt mX9_join 0 (.aload_n 0) 1 1 := ⟨by decide +kernel, rfl⟩
theorem eX9_join_1 : xAt mX9_join 1 (.iload_n 1) 1 2 := ⟨by decide +kernel, rfl⟩
theorem eX9_join_2 : xAt mX9_join 2 (.invokevirtual 284) 3 5 := ⟨by decide +kernel, rfl⟩
theorem eX9_join_5 : xBr mX9_join 5 (.ifCond .eq) (11) 8 16 := ⟨by decide +kernel, rfl, by decide⟩
theorem eX9_join_8 : xAt mX9_join 8 (.aload_n 0) 1 9 := ⟨by decide +kernel, rfl⟩
theorem eX9_join_9 : xAt mX9_join 9 (.iload_n 2) 1 10 := ⟨by decide +kernel, rfl⟩
theorem eX9_join_10 : xAt mX9_join 10 (.invokevirtual 284) 3 13 := ⟨by decide +kernel, rfl⟩
theorem eX9_join_13 : xBr mX9_join 13 (.ifCond .ne) (6) 16 19 := ⟨by decide +kernel, rfl, by decide⟩
theorem eX9_join_16 : xAt mX9_join 16 (.bipush (-101)) 2 18 := ⟨by decide +kernel, rfl⟩
theorem eX9_join_18 : xAt mX9_join 18 (.ireturn) 1 19 := ⟨by decide +kernel, rfl⟩
theorem eX9_join_19 : xAt mX9_join 19 (.iload_n 1) 1 20 := ⟨by decide +kernel, rfl⟩
theorem eX9_join_20 : xAt mX9_join 20 (.iload_n 2) 1 21 := ⟨by decide +kernel, rfl⟩
theorem eX9_join_21 : xBr mX9_join 21 (.if_icmp .eq) (18) 24 39 := ⟨by decide +kernel, rfl, by decide⟩
theorem eX9_join_24 : xAt mX9_join 24 (.aload_n 0) 1 25 := ⟨by decide +kernel, rfl⟩
theorem eX9_join_25 : xAt mX9_join 25 (.getfield 52) 3 28 := ⟨by decide +kernel, rfl⟩
theorem eX9_join_28 : xAt mX9_join 28 (.iload_n 1) 1 29 := ⟨by decide +kernel, rfl⟩
theorem eX9_join_29 : xAt mX9_join 29 (.iaload) 1 30 := ⟨by decide +kernel, rfl⟩
theorem eX9_join_30 : xAt mX9_join 30 (.aload_n 0) 1 31 := ⟨by decide +kernel, rfl⟩
theorem eX9_join_31 : xAt mX9_join 31 (.getfield 52) 3 34 := ⟨by decide +kernel, rfl⟩
theorem eX9_join_34 : xAt mX9_join 34 (.iload_n 2) 1 35 := ⟨by decide +kernel, rfl⟩
theorem eX9_join_35 : xAt mX9_join 35 (.iaload) 1 36 := ⟨by decide +kernel, rfl⟩
theorem eX9_join_36 : xBr mX9_join 36 (.if_icmp .eq) (6) 39 42 := ⟨by decide +kernel, rfl, by decide⟩
theorem eX9_join_39 : xAt mX9_join 39 (.bipush (-102)) 2 41 := ⟨by decide +kernel, rfl⟩
theorem eX9_join_41 : xAt mX9_join 41 (.ireturn) 1 42 := ⟨by decide +kernel, rfl⟩
theorem eX9_join_42 : xAt mX9_join 42 (.aload_n 0) 1 43 := ⟨by decide +kernel, rfl⟩
theorem eX9_join_43 : xAt mX9_join 43 (.getfield 58) 3 46 := ⟨by decide +kernel, rfl⟩
theorem eX9_join_46 : xAt mX9_join 46 (.iload_n 1) 1 47 := ⟨by decide +kernel, rfl⟩
theorem eX9_join_47 : xAt mX9_join 47 (.iaload) 1 48 := ⟨by decide +kernel, rfl⟩
theorem eX9_join_48 : xAt mX9_join 48 (.istore_n 3) 1 49 := ⟨by decide +kernel, rfl⟩
theorem eX9_join_49 : xAt mX9_join 49 (.iconst 0) 1 50 := ⟨by decide +kernel, rfl⟩
theorem eX9_join_50 : xAt mX9_join 50 (.istore 4) 2 52 := ⟨by decide +kernel, rfl⟩
theorem eX9_join_52 : xAt mX9_join 52 (.iconst 0) 1 53 := ⟨by decide +kernel, rfl⟩
theorem eX9_join_53 : xAt mX9_join 53 (.istore 5) 2 55 := ⟨by decide +kernel, rfl⟩
theorem eX9_join_55 : xAt mX9_join 55 (.iconst 0) 1 56 := ⟨by decide +kernel, rfl⟩
theorem eX9_join_56 : xAt mX9_join 56 (.istore 6) 2 58 := ⟨by decide +kernel, rfl⟩
theorem eX9_join_58 : xAt mX9_join 58 (.iconst 0) 1 59 := ⟨by decide +kernel, rfl⟩
theorem eX9_join_59 : xAt mX9_join 59 (.istore 7) 2 61 := ⟨by decide +kernel, rfl⟩
theorem eX9_join_61 : xAt mX9_join 61 (.iload 7) 2 63 := ⟨by decide +kernel, rfl⟩
theorem eX9_join_63 : xAt mX9_join 63 (.iload_n 3) 1 64 := ⟨by decide +kernel, rfl⟩
theorem eX9_join_64 : xBr mX9_join 64 (.if_icmp .ge) (49) 67 113 := ⟨by decide +kernel, rfl, by decide⟩
theorem eX9_join_67 : xAt mX9_join 67 (.aload_n 0) 1 68 := ⟨by decide +kernel, rfl⟩
theorem eX9_join_68 : xAt mX9_join 68 (.iload_n 1) 1 69 := ⟨by decide +kernel, rfl⟩
theorem eX9_join_69 : xAt mX9_join 69 (.iload 7) 2 71 := ⟨by decide +kernel, rfl⟩
theorem eX9_join_71 : xAt mX9_join 71 (.iload_n 2) 1 72 := ⟨by decide +kernel, rfl⟩
theorem eX9_join_72 : xAt mX9_join 72 (.invokevirtual 294) 3 75 := ⟨by decide +kernel, rfl⟩
theorem eX9_join_75 : xAt mX9_join 75 (.iconst (-1)) 1 76 := ⟨by decide +kernel, rfl⟩
theorem eX9_join_76 : xBr mX9_join 76 (.if_icmp .eq) (31) 79 107 := ⟨by decide +kernel, rfl, by decide⟩
theorem eX9_join_79 : xAt mX9_join 79 (.iinc 4 1) 3 82 := ⟨by decide +kernel, rfl⟩
theorem eX9_join_82 : xAt mX9_join 82 (.aload_n 0) 1 83 := ⟨by decide +kernel, rfl⟩
theorem eX9_join_83 : xAt mX9_join 83 (.iload_n 1) 1 84 := ⟨by decide +kernel, rfl⟩
theorem eX9_join_84 : xAt mX9_join 84 (.iload 7) 2 86 := ⟨by decide +kernel, rfl⟩
theorem eX9_join_86 : xAt mX9_join 86 (.iload_n 3) 1 87 := ⟨by decide +kernel, rfl⟩
theorem eX9_join_87 : xAt mX9_join 87 (.iadd) 1 88 := ⟨by decide +kernel, rfl⟩
theorem eX9_join_88 : xAt mX9_join 88 (.iconst 1) 1 89 := ⟨by decide +kernel, rfl⟩
theorem eX9_join_89 : xAt mX9_join 89 (.isub) 1 90 := ⟨by decide +kernel, rfl⟩
theorem eX9_join_90 : xAt mX9_join 90 (.iload_n 3) 1 91 := ⟨by decide +kernel, rfl⟩
theorem eX9_join_91 : xAt mX9_join 91 (.irem) 1 92 := ⟨by decide +kernel, rfl⟩
theorem eX9_join_92 : xAt mX9_join 92 (.iload_n 2) 1 93 := ⟨by decide +kernel, rfl⟩
theorem eX9_join_93 : xAt mX9_join 93 (.invokevirtual 294) 3 96 := ⟨by decide +kernel, rfl⟩
theorem eX9_join_96 : xAt mX9_join 96 (.iconst (-1)) 1 97 := ⟨by decide +kernel, rfl⟩
theorem eX9_join_97 : xBr mX9_join 97 (.if_icmp .ne) (10) 100 107 := ⟨by decide +kernel, rfl, by decide⟩
theorem eX9_join_100 : xAt mX9_join 100 (.iinc 5 1) 3 103 := ⟨by decide +kernel, rfl⟩
theorem eX9_join_103 : xAt mX9_join 103 (.iload 7) 2 105 := ⟨by decide +kernel, rfl⟩
theorem eX9_join_105 : xAt mX9_join 105 (.istore 6) 2 107 := ⟨by decide +kernel, rfl⟩
theorem eX9_join_107 : xAt mX9_join 107 (.iinc 7 1) 3 110 := ⟨by decide +kernel, rfl⟩
theorem eX9_join_110 : xBr mX9_join 110 .goto (-49) 113 61 := ⟨by decide +kernel, rfl, by decide⟩
theorem eX9_join_113 : xAt mX9_join 113 (.iload 5) 2 115 := ⟨by decide +kernel, rfl⟩
theorem eX9_join_115 : xAt mX9_join 115 (.iconst 1) 1 116 := ⟨by decide +kernel, rfl⟩
theorem eX9_join_116 : xBr mX9_join 116 (.if_icmp .eq) (7) 119 123 := ⟨by decide +kernel, rfl, by decide⟩
theorem eX9_join_119 : xAt mX9_join 119 (.sipush (-205)) 3 122 := ⟨by decide +kernel, rfl⟩
theorem eX9_join_122 : xAt mX9_join 122 (.ireturn) 1 123 := ⟨by decide +kernel, rfl⟩
theorem eX9_join_123 : xAt mX9_join 123 (.aload_n 0) 1 124 := ⟨by decide +kernel, rfl⟩
theorem eX9_join_124 : xAt mX9_join 124 (.iconst 0) 1 125 := ⟨by decide +kernel, rfl⟩
theorem eX9_join_125 : xAt mX9_join 125 (.putfield 218) 3 128 := ⟨by decide +kernel, rfl⟩
theorem eX9_join_128 : xAt mX9_join 128 (.iconst 0) 1 129 := ⟨by decide +kernel, rfl⟩
theorem eX9_join_129 : xAt mX9_join 129 (.istore 7) 2 131 := ⟨by decide +kernel, rfl⟩
theorem eX9_join_131 : xAt mX9_join 131 (.iload 7) 2 133 := ⟨by decide +kernel, rfl⟩
theorem eX9_join_133 : xAt mX9_join 133 (.iload_n 3) 1 134 := ⟨by decide +kernel, rfl⟩
theorem eX9_join_134 : xAt mX9_join 134 (.iload 4) 2 136 := ⟨by decide +kernel, rfl⟩
theorem eX9_join_136 : xAt mX9_join 136 (.isub) 1 137 := ⟨by decide +kernel, rfl⟩
theorem eX9_join_137 : xBr mX9_join 137 (.if_icmp .gt) (41) 140 178 := ⟨by decide +kernel, rfl, by decide⟩
theorem eX9_join_140 : xAt mX9_join 140 (.aload_n 0) 1 141 := ⟨by decide +kernel, rfl⟩
theorem eX9_join_141 : xAt mX9_join 141 (.getfield 42) 3 144 := ⟨by decide +kernel, rfl⟩
theorem eX9_join_144 : xAt mX9_join 144 (.aload_n 0) 1 145 := ⟨by decide +kernel, rfl⟩
theorem eX9_join_145 : xAt mX9_join 145 (.getfield 218) 3 148 := ⟨by decide +kernel, rfl⟩
theorem eX9_join_148 : xAt mX9_join 148 (.aload_n 0) 1 149 := ⟨by decide +kernel, rfl⟩
theorem eX9_join_149 : xAt mX9_join 149 (.iload_n 1) 1 150 := ⟨by decide +kernel, rfl⟩
theorem eX9_join_150 : xAt mX9_join 150 (.iload 6) 2 152 := ⟨by decide +kernel, rfl⟩
theorem eX9_join_152 : xAt mX9_join 152 (.iload 4) 2 154 := ⟨by decide +kernel, rfl⟩
theorem eX9_join_154 : xAt mX9_join 154 (.iadd) 1 155 := ⟨by decide +kernel, rfl⟩
theorem eX9_join_155 : xAt mX9_join 155 (.iload 7) 2 157 := ⟨by decide +kernel, rfl⟩
theorem eX9_join_157 : xAt mX9_join 157 (.iadd) 1 158 := ⟨by decide +kernel, rfl⟩
theorem eX9_join_158 : xAt mX9_join 158 (.invokevirtual 241) 3 161 := ⟨by decide +kernel, rfl⟩
theorem eX9_join_161 : xAt mX9_join 161 (.iastore) 1 162 := ⟨by decide +kernel, rfl⟩
theorem eX9_join_162 : xAt mX9_join 162 (.aload_n 0) 1 163 := ⟨by decide +kernel, rfl⟩
theorem eX9_join_163 : xAt mX9_join 163 (.dup) 1 164 := ⟨by decide +kernel, rfl⟩
theorem eX9_join_164 : xAt mX9_join 164 (.getfield 218) 3 167 := ⟨by decide +kernel, rfl⟩
theorem eX9_join_167 : xAt mX9_join 167 (.iconst 1) 1 168 := ⟨by decide +kernel, rfl⟩
theorem eX9_join_168 : xAt mX9_join 168 (.iadd) 1 169 := ⟨by decide +kernel, rfl⟩
theorem eX9_join_169 : xAt mX9_join 169 (.putfield 218) 3 172 := ⟨by decide +kernel, rfl⟩
theorem eX9_join_172 : xAt mX9_join 172 (.iinc 7 1) 3 175 := ⟨by decide +kernel, rfl⟩
theorem eX9_join_175 : xBr mX9_join 175 .goto (-44) 178 131 := ⟨by decide +kernel, rfl, by decide⟩
theorem eX9_join_178 : xAt mX9_join 178 (.aload_n 0) 1 179 := ⟨by decide +kernel, rfl⟩
theorem eX9_join_179 : xAt mX9_join 179 (.iload_n 1) 1 180 := ⟨by decide +kernel, rfl⟩
theorem eX9_join_180 : xAt mX9_join 180 (.iload 6) 2 182 := ⟨by decide +kernel, rfl⟩
theorem eX9_join_182 : xAt mX9_join 182 (.iload_n 2) 1 183 := ⟨by decide +kernel, rfl⟩
theorem eX9_join_183 : xAt mX9_join 183 (.invokevirtual 294) 3 186 := ⟨by decide +kernel, rfl⟩
theorem eX9_join_186 : xAt mX9_join 186 (.iconst 1) 1 187 := ⟨by decide +kernel, rfl⟩
theorem eX9_join_187 : xAt mX9_join 187 (.iadd) 1 188 := ⟨by decide +kernel, rfl⟩
theorem eX9_join_188 : xAt mX9_join 188 (.istore 7) 2 190 := ⟨by decide +kernel, rfl⟩
theorem eX9_join_190 : xAt mX9_join 190 (.iconst 1) 1 191 := ⟨by decide +kernel, rfl⟩
theorem eX9_join_191 : xAt mX9_join 191 (.istore 8) 2 193 := ⟨by decide +kernel, rfl⟩
theorem eX9_join_193 : xAt mX9_join 193 (.iload 8) 2 195 := ⟨by decide +kernel, rfl⟩
theorem eX9_join_195 : xAt mX9_join 195 (.aload_n 0) 1 196 := ⟨by decide +kernel, rfl⟩
theorem eX9_join_196 : xAt mX9_join 196 (.getfield 58) 3 199 := ⟨by decide +kernel, rfl⟩
theorem eX9_join_199 : xAt mX9_join 199 (.iload_n 2) 1 200 := ⟨by decide +kernel, rfl⟩
theorem eX9_join_200 : xAt mX9_join 200 (.iaload) 1 201 := ⟨by decide +kernel, rfl⟩
theorem eX9_join_201 : xAt mX9_join 201 (.iload 4) 2 203 := ⟨by decide +kernel, rfl⟩
theorem eX9_join_203 : xAt mX9_join 203 (.isub) 1 204 := ⟨by decide +kernel, rfl⟩
theorem eX9_join_204 : xBr mX9_join 204 (.if_icmp .ge) (38) 207 242 := ⟨by decide +kernel, rfl, by decide⟩
theorem eX9_join_207 : xAt mX9_join 207 (.aload_n 0) 1 208 := ⟨by decide +kernel, rfl⟩
theorem eX9_join_208 : xAt mX9_join 208 (.getfield 42) 3 211 := ⟨by decide +kernel, rfl⟩
theorem eX9_join_211 : xAt mX9_join 211 (.aload_n 0) 1 212 := ⟨by decide +kernel, rfl⟩
theorem eX9_join_212 : xAt mX9_join 212 (.getfield 218) 3 215 := ⟨by decide +kernel, rfl⟩
theorem eX9_join_215 : xAt mX9_join 215 (.aload_n 0) 1 216 := ⟨by decide +kernel, rfl⟩
theorem eX9_join_216 : xAt mX9_join 216 (.iload_n 2) 1 217 := ⟨by decide +kernel, rfl⟩
theorem eX9_join_217 : xAt mX9_join 217 (.iload 7) 2 219 := ⟨by decide +kernel, rfl⟩
theorem eX9_join_219 : xAt mX9_join 219 (.iload 8) 2 221 := ⟨by decide +kernel, rfl⟩
theorem eX9_join_221 : xAt mX9_join 221 (.iadd) 1 222 := ⟨by decide +kernel, rfl⟩
theorem eX9_join_222 : xAt mX9_join 222 (.invokevirtual 241) 3 225 := ⟨by decide +kernel, rfl⟩
theorem eX9_join_225 : xAt mX9_join 225 (.iastore) 1 226 := ⟨by decide +kernel, rfl⟩
theorem eX9_join_226 : xAt mX9_join 226 (.aload_n 0) 1 227 := ⟨by decide +kernel, rfl⟩
theorem eX9_join_227 : xAt mX9_join 227 (.dup) 1 228 := ⟨by decide +kernel, rfl⟩
theorem eX9_join_228 : xAt mX9_join 228 (.getfield 218) 3 231 := ⟨by decide +kernel, rfl⟩
theorem eX9_join_231 : xAt mX9_join 231 (.iconst 1) 1 232 := ⟨by decide +kernel, rfl⟩
theorem eX9_join_232 : xAt mX9_join 232 (.iadd) 1 233 := ⟨by decide +kernel, rfl⟩
theorem eX9_join_233 : xAt mX9_join 233 (.putfield 218) 3 236 := ⟨by decide +kernel, rfl⟩
theorem eX9_join_236 : xAt mX9_join 236 (.iinc 8 1) 3 239 := ⟨by decide +kernel, rfl⟩
theorem eX9_join_239 : xBr mX9_join 239 .goto (-46) 242 193 := ⟨by decide +kernel, rfl, by decide⟩
theorem eX9_join_242 : xAt mX9_join 242 (.aload_n 0) 1 243 := ⟨by decide +kernel, rfl⟩
theorem eX9_join_243 : xAt mX9_join 243 (.invokevirtual 268) 3 246 := ⟨by decide +kernel, rfl⟩
theorem eX9_join_246 : xAt mX9_join 246 (.istore 8) 2 248 := ⟨by decide +kernel, rfl⟩
theorem eX9_join_248 : xAt mX9_join 248 (.iload 8) 2 250 := ⟨by decide +kernel, rfl⟩
theorem eX9_join_250 : xBr mX9_join 250 (.ifCond .eq) (6) 253 256 := ⟨by decide +kernel, rfl, by decide⟩
theorem eX9_join_253 : xAt mX9_join 253 (.iload 8) 2 255 := ⟨by decide +kernel, rfl⟩
theorem eX9_join_255 : xAt mX9_join 255 (.ireturn) 1 256 := ⟨by decide +kernel, rfl⟩
theorem eX9_join_256 : xAt mX9_join 256 (.aload_n 0) 1 257 := ⟨by decide +kernel, rfl⟩
theorem eX9_join_257 : xAt mX9_join 257 (.invokevirtual 278) 3 260 := ⟨by decide +kernel, rfl⟩
theorem eX9_join_260 : xAt mX9_join 260 (.aload_n 0) 1 261 := ⟨by decide +kernel, rfl⟩
theorem eX9_join_261 : xAt mX9_join 261 (.invokevirtual 272) 3 264 := ⟨by decide +kernel, rfl⟩
theorem eX9_join_264 : xAt mX9_join 264 (.aload_n 0) 1 265 := ⟨by decide +kernel, rfl⟩
theorem eX9_join_265 : xAt mX9_join 265 (.iload_n 1) 1 266 := ⟨by decide +kernel, rfl⟩
theorem eX9_join_266 : xAt mX9_join 266 (.invokevirtual 234) 3 269 := ⟨by decide +kernel, rfl⟩
theorem eX9_join_269 : xAt mX9_join 269 (.aload_n 0) 1 270 := ⟨by decide +kernel, rfl⟩
theorem eX9_join_270 : xAt mX9_join 270 (.getfield 48) 3 273 := ⟨by decide +kernel, rfl⟩
theorem eX9_join_273 : xAt mX9_join 273 (.iload_n 2) 1 274 := ⟨by decide +kernel, rfl⟩
theorem eX9_join_274 : xAt mX9_join 274 (.iconst 0) 1 275 := ⟨by decide +kernel, rfl⟩
theorem eX9_join_275 : xAt mX9_join 275 (.bastore) 1 276 := ⟨by decide +kernel, rfl⟩
theorem eX9_join_276 : xAt mX9_join 276 (.aload_n 0) 1 277 := ⟨by decide +kernel, rfl⟩
theorem eX9_join_277 : xAt mX9_join 277 (.getfield 218) 3 280 := ⟨by decide +kernel, rfl⟩
theorem eX9_join_280 : xAt mX9_join 280 (.ireturn) 1 281 := ⟨by decide +kernel, rfl⟩
theorem eX9_move_0 : xAt mX9_move 0 (.aload_n 0) 1 1 := ⟨by decide +kernel, rfl⟩
theorem eX9_move_1 : xAt mX9_move 1 (.iload_n 1) 1 2 := ⟨by decide +kernel, rfl⟩
theorem eX9_move_2 : xAt mX9_move 2 (.invokevirtual 284) 3 5 := ⟨by decide +kernel, rfl⟩
theorem eX9_move_5 : xBr mX9_move 5 (.ifCond .eq) (11) 8 16 := ⟨by decide +kernel, rfl, by decide⟩
theorem eX9_move_8 : xAt mX9_move 8 (.aload_n 0) 1 9 := ⟨by decide +kernel, rfl⟩
theorem eX9_move_9 : xAt mX9_move 9 (.iload_n 3) 1 10 := ⟨by decide +kernel, rfl⟩
theorem eX9_move_10 : xAt mX9_move 10 (.invokevirtual 184) 3 13 := ⟨by decide +kernel, rfl⟩
theorem eX9_move_13 : xBr mX9_move 13 (.ifCond .ne) (6) 16 19 := ⟨by decide +kernel, rfl, by decide⟩
theorem eX9_move_16 : xAt mX9_move 16 (.bipush (-101)) 2 18 := ⟨by decide +kernel, rfl⟩
theorem eX9_move_18 : xAt mX9_move 18 (.ireturn) 1 19 := ⟨by decide +kernel, rfl⟩
theorem eX9_move_19 : xAt mX9_move 19 (.iload_n 2) 1 20 := ⟨by decide +kernel, rfl⟩
theorem eX9_move_20 : xAt mX9_move 20 (.iconst 0) 1 21 := ⟨by decide +kernel, rfl⟩
theorem eX9_move_21 : xAt mX9_move 21 (.aload_n 0) 1 22 := ⟨by decide +kernel, rfl⟩
theorem eX9_move_22 : xAt mX9_move 22 (.getfield 58) 3 25 := ⟨by decide +kernel, rfl⟩
theorem eX9_move_25 : xAt mX9_move 25 (.iload_n 1) 1 26 := ⟨by decide +kernel, rfl⟩
theorem eX9_move_26 : xAt mX9_move 26 (.iaload) 1 27 := ⟨by decide +kernel, rfl⟩
theorem eX9_move_27 : xAt mX9_move 27 (.iconst 1) 1 28 := ⟨by decide +kernel, rfl⟩
theorem eX9_move_28 : xAt mX9_move 28 (.isub) 1 29 := ⟨by decide +kernel, rfl⟩
theorem eX9_move_29 : xAt mX9_move 29 (.invokestatic 173) 3 32 := ⟨by decide +kernel, rfl⟩
theorem eX9_move_32 : xBr mX9_move 32 (.ifCond .ne) (6) 35 38 := ⟨by decide +kernel, rfl, by decide⟩
theorem eX9_move_35 : xAt mX9_move 35 (.bipush (-102)) 2 37 := ⟨by decide +kernel, rfl⟩
theorem eX9_move_37 : xAt mX9_move 37 (.ireturn) 1 38 := ⟨by decide +kernel, rfl⟩
theorem eX9_move_38 : xAt mX9_move 38 (.aload_n 0) 1 39 := ⟨by decide +kernel, rfl⟩
theorem eX9_move_39 : xAt mX9_move 39 (.iload_n 1) 1 40 := ⟨by decide +kernel, rfl⟩
theorem eX9_move_40 : xAt mX9_move 40 (.invokevirtual 297) 3 43 := ⟨by decide +kernel, rfl⟩
theorem eX9_move_43 : xAt mX9_move 43 (.aload_n 0) 1 44 := ⟨by decide +kernel, rfl⟩
theorem eX9_move_44 : xAt mX9_move 44 (.getfield 42) 3 47 := ⟨by decide +kernel, rfl⟩
theorem eX9_move_47 : xAt mX9_move 47 (.iload_n 2) 1 48 := ⟨by decide +kernel, rfl⟩
theorem eX9_move_48 : xAt mX9_move 48 (.iaload) 1 49 := ⟨by decide +kernel, rfl⟩
theorem eX9_move_49 : xAt mX9_move 49 (.istore 4) 2 51 := ⟨by decide +kernel, rfl⟩
theorem eX9_move_51 : xAt mX9_move 51 (.aload_n 0) 1 52 := ⟨by decide +kernel, rfl⟩
theorem eX9_move_52 : xAt mX9_move 52 (.getfield 42) 3 55 := ⟨by decide +kernel, rfl⟩
theorem eX9_move_55 : xAt mX9_move 55 (.iload_n 2) 1 56 := ⟨by decide +kernel, rfl⟩
theorem eX9_move_56 : xAt mX9_move 56 (.iload_n 3) 1 57 := ⟨by decide +kernel, rfl⟩
theorem eX9_move_57 : xAt mX9_move 57 (.iastore) 1 58 := ⟨by decide +kernel, rfl⟩
theorem eX9_move_58 : xAt mX9_move 58 (.aload_n 0) 1 59 := ⟨by decide +kernel, rfl⟩
theorem eX9_move_59 : xAt mX9_move 59 (.invokevirtual 268) 3 62 := ⟨by decide +kernel, rfl⟩
theorem eX9_move_62 : xAt mX9_move 62 (.istore 5) 2 64 := ⟨by decide +kernel, rfl⟩
theorem eX9_move_64 : xAt mX9_move 64 (.iload 5) 2 66 := ⟨by decide +kernel, rfl⟩
theorem eX9_move_66 : xBr mX9_move 66 (.ifCond .eq) (6) 69 72 := ⟨by decide +kernel, rfl, by decide⟩
theorem eX9_move_69 : xAt mX9_move 69 (.iload 5) 2 71 := ⟨by decide +kernel, rfl⟩
theorem eX9_move_71 : xAt mX9_move 71 (.ireturn) 1 72 := ⟨by decide +kernel, rfl⟩
theorem eX9_move_72 : xAt mX9_move 72 (.aload_n 0) 1 73 := ⟨by decide +kernel, rfl⟩
theorem eX9_move_73 : xAt mX9_move 73 (.invokevirtual 272) 3 76 := ⟨by decide +kernel, rfl⟩
theorem eX9_move_76 : xAt mX9_move 76 (.iconst 0) 1 77 := ⟨by decide +kernel, rfl⟩
theorem eX9_move_77 : xAt mX9_move 77 (.istore 6) 2 79 := ⟨by decide +kernel, rfl⟩
theorem eX9_move_79 : xAt mX9_move 79 (.iload 6) 2 81 := ⟨by decide +kernel, rfl⟩
theorem eX9_move_81 : xAt mX9_move 81 (.bipush 12) 2 83 := ⟨by decide +kernel, rfl⟩
theorem eX9_move_83 : xBr mX9_move 83 (.if_icmp .ge) (28) 86 111 := ⟨by decide +kernel, rfl, by decide⟩
theorem eX9_move_86 : xAt mX9_move 86 (.aload_n 0) 1 87 := ⟨by decide +kernel, rfl⟩
theorem eX9_move_87 : xAt mX9_move 87 (.getfield 82) 3 90 := ⟨by decide +kernel, rfl⟩
theorem eX9_move_90 : xAt mX9_move 90 (.iload 6) 2 92 := ⟨by decide +kernel, rfl⟩
theorem eX9_move_92 : xAt mX9_move 92 (.aload_n 0) 1 93 := ⟨by decide +kernel, rfl⟩
theorem eX9_move_93 : xAt mX9_move 93 (.getfield 61) 3 96 := ⟨by decide +kernel, rfl⟩
theorem eX9_move_96 : xAt mX9_move 96 (.bipush 12) 2 98 := ⟨by decide +kernel, rfl⟩
theorem eX9_move_98 : xAt mX9_move 98 (.iload_n 1) 1 99 := ⟨by decide +kernel, rfl⟩
theorem eX9_move_99 : xAt mX9_move 99 (.imul) 1 100 := ⟨by decide +kernel, rfl⟩
theorem eX9_move_100 : xAt mX9_move 100 (.iload 6) 2 102 := ⟨by decide +kernel, rfl⟩
theorem eX9_move_102 : xAt mX9_move 102 (.iadd) 1 103 := ⟨by decide +kernel, rfl⟩
theorem eX9_move_103 : xAt mX9_move 103 (.iaload) 1 104 := ⟨by decide +kernel, rfl⟩
theorem eX9_move_104 : xAt mX9_move 104 (.iastore) 1 105 := ⟨by decide +kernel, rfl⟩
theorem eX9_move_105 : xAt mX9_move 105 (.iinc 6 1) 3 108 := ⟨by decide +kernel, rfl⟩
theorem eX9_move_108 : xBr mX9_move 108 .goto (-29) 111 79 := ⟨by decide +kernel, rfl, by decide⟩
theorem eX9_move_111 : xAt mX9_move 111 (.aload_n 0) 1 112 := ⟨by decide +kernel, rfl⟩
theorem eX9_move_112 : xAt mX9_move 112 (.iload_n 1) 1 113 := ⟨by decide +kernel, rfl⟩
theorem eX9_move_113 : xAt mX9_move 113 (.invokevirtual 234) 3 116 := ⟨by decide +kernel, rfl⟩
theorem eX9_move_116 : xAt mX9_move 116 (.aload_n 0) 1 117 := ⟨by decide +kernel, rfl⟩
theorem eX9_move_117 : xAt mX9_move 117 (.iload_n 1) 1 118 := ⟨by decide +kernel, rfl⟩
theorem eX9_move_118 : xAt mX9_move 118 (.aload_n 0) 1 119 := ⟨by decide +kernel, rfl⟩
theorem eX9_move_119 : xAt mX9_move 119 (.getfield 52) 3 122 := ⟨by decide +kernel, rfl⟩
theorem eX9_move_122 : xAt mX9_move 122 (.iload_n 1) 1 123 := ⟨by decide +kernel, rfl⟩
theorem eX9_move_123 : xAt mX9_move 123 (.iaload) 1 124 := ⟨by decide +kernel, rfl⟩
theorem eX9_move_124 : xAt mX9_move 124 (.iload_n 1) 1 125 := ⟨by decide +kernel, rfl⟩
theorem eX9_move_125 : xAt mX9_move 125 (.invokevirtual 275) 3 128 := ⟨by decide +kernel, rfl⟩
theorem eX9_move_128 : xAt mX9_move 128 (.istore 6) 2 130 := ⟨by decide +kernel, rfl⟩
theorem eX9_move_130 : xAt mX9_move 130 (.iconst 0) 1 131 := ⟨by decide +kernel, rfl⟩
theorem eX9_move_131 : xAt mX9_move 131 (.istore 7) 2 133 := ⟨by decide +kernel, rfl⟩
theorem eX9_move_133 : xAt mX9_move 133 (.iload 7) 2 135 := ⟨by decide +kernel, rfl⟩
theorem eX9_move_135 : xAt mX9_move 135 (.bipush 12) 2 137 := ⟨by decide +kernel, rfl⟩
theorem eX9_move_137 : xBr mX9_move 137 (.if_icmp .ge) (47) 140 184 := ⟨by decide +kernel, rfl, by decide⟩
theorem eX9_move_140 : xAt mX9_move 140 (.aload_n 0) 1 141 := ⟨by decide +kernel, rfl⟩
theorem eX9_move_141 : xAt mX9_move 141 (.getfield 45) 3 144 := ⟨by decide +kernel, rfl⟩
theorem eX9_move_144 : xAt mX9_move 144 (.iload 7) 2 146 := ⟨by decide +kernel, rfl⟩
theorem eX9_move_146 : xAt mX9_move 146 (.aload_n 0) 1 147 := ⟨by decide +kernel, rfl⟩
theorem eX9_move_147 : xAt mX9_move 147 (.getfield 61) 3 150 := ⟨by decide +kernel, rfl⟩
theorem eX9_move_150 : xAt mX9_move 150 (.bipush 12) 2 152 := ⟨by decide +kernel, rfl⟩
theorem eX9_move_152 : xAt mX9_move 152 (.iload_n 1) 1 153 := ⟨by decide +kernel, rfl⟩
theorem eX9_move_153 : xAt mX9_move 153 (.imul) 1 154 := ⟨by decide +kernel, rfl⟩
theorem eX9_move_154 : xAt mX9_move 154 (.iload 7) 2 156 := ⟨by decide +kernel, rfl⟩
theorem eX9_move_156 : xAt mX9_move 156 (.iadd) 1 157 := ⟨by decide +kernel, rfl⟩
theorem eX9_move_157 : xAt mX9_move 157 (.iaload) 1 158 := ⟨by decide +kernel, rfl⟩
theorem eX9_move_158 : xAt mX9_move 158 (.iastore) 1 159 := ⟨by decide +kernel, rfl⟩
theorem eX9_move_159 : xAt mX9_move 159 (.aload_n 0) 1 160 := ⟨by decide +kernel, rfl⟩
theorem eX9_move_160 : xAt mX9_move 160 (.getfield 61) 3 163 := ⟨by decide +kernel, rfl⟩
theorem eX9_move_163 : xAt mX9_move 163 (.bipush 12) 2 165 := ⟨by decide +kernel, rfl⟩
theorem eX9_move_165 : xAt mX9_move 165 (.iload_n 1) 1 166 := ⟨by decide +kernel, rfl⟩
theorem eX9_move_166 : xAt mX9_move 166 (.imul) 1 167 := ⟨by decide +kernel, rfl⟩
theorem eX9_move_167 : xAt mX9_move 167 (.iload 7) 2 169 := ⟨by decide +kernel, rfl⟩
theorem eX9_move_169 : xAt mX9_move 169 (.iadd) 1 170 := ⟨by decide +kernel, rfl⟩
theorem eX9_move_170 : xAt mX9_move 170 (.aload_n 0) 1 171 := ⟨by decide +kernel, rfl⟩
theorem eX9_move_171 : xAt mX9_move 171 (.getfield 82) 3 174 := ⟨by decide +kernel, rfl⟩
theorem eX9_move_174 : xAt mX9_move 174 (.iload 7) 2 176 := ⟨by decide +kernel, rfl⟩
theorem eX9_move_176 : xAt mX9_move 176 (.iaload) 1 177 := ⟨by decide +kernel, rfl⟩
theorem eX9_move_177 : xAt mX9_move 177 (.iastore) 1 178 := ⟨by decide +kernel, rfl⟩
theorem eX9_move_178 : xAt mX9_move 178 (.iinc 7 1) 3 181 := ⟨by decide +kernel, rfl⟩
theorem eX9_move_181 : xBr mX9_move 181 .goto (-48) 184 133 := ⟨by decide +kernel, rfl, by decide⟩
theorem eX9_move_184 : xAt mX9_move 184 (.iload 6) 2 186 := ⟨by decide +kernel, rfl⟩
theorem eX9_move_186 : xAt mX9_move 186 (.iconst (-1)) 1 187 := ⟨by decide +kernel, rfl⟩
theorem eX9_move_187 : xBr mX9_move 187 (.if_icmp .eq) (13) 190 200 := ⟨by decide +kernel, rfl, by decide⟩
theorem eX9_move_190 : xAt mX9_move 190 (.aload_n 0) 1 191 := ⟨by decide +kernel, rfl⟩
theorem eX9_move_191 : xAt mX9_move 191 (.sipush (-204)) 3 194 := ⟨by decide +kernel, rfl⟩
theorem eX9_move_194 : xAt mX9_move 194 (.iload 6) 2 196 := ⟨by decide +kernel, rfl⟩
theorem eX9_move_196 : xAt mX9_move 196 (.invokevirtual 221) 3 199 := ⟨by decide +kernel, rfl⟩
theorem eX9_move_199 : xAt mX9_move 199 (.ireturn) 1 200 := ⟨by decide +kernel, rfl⟩
theorem eX9_move_200 : xAt mX9_move 200 (.aload_n 0) 1 201 := ⟨by decide +kernel, rfl⟩
theorem eX9_move_201 : xAt mX9_move 201 (.invokevirtual 278) 3 204 := ⟨by decide +kernel, rfl⟩
theorem eX9_move_204 : xAt mX9_move 204 (.iconst 0) 1 205 := ⟨by decide +kernel, rfl⟩
theorem eX9_move_205 : xAt mX9_move 205 (.istore 7) 2 207 := ⟨by decide +kernel, rfl⟩
theorem eX9_move_207 : xAt mX9_move 207 (.iload 7) 2 209 := ⟨by decide +kernel, rfl⟩
theorem eX9_move_209 : xAt mX9_move 209 (.bipush 12) 2 211 := ⟨by decide +kernel, rfl⟩
theorem eX9_move_211 : xBr mX9_move 211 (.if_icmp .ge) (28) 214 239 := ⟨by decide +kernel, rfl, by decide⟩
theorem eX9_move_214 : xAt mX9_move 214 (.aload_n 0) 1 215 := ⟨by decide +kernel, rfl⟩
theorem eX9_move_215 : xAt mX9_move 215 (.getfield 61) 3 218 := ⟨by decide +kernel, rfl⟩
theorem eX9_move_218 : xAt mX9_move 218 (.bipush 12) 2 220 := ⟨by decide +kernel, rfl⟩
theorem eX9_move_220 : xAt mX9_move 220 (.iload_n 1) 1 221 := ⟨by decide +kernel, rfl⟩
theorem eX9_move_221 : xAt mX9_move 221 (.imul) 1 222 := ⟨by decide +kernel, rfl⟩
theorem eX9_move_222 : xAt mX9_move 222 (.iload 7) 2 224 := ⟨by decide +kernel, rfl⟩
theorem eX9_move_224 : xAt mX9_move 224 (.iadd) 1 225 := ⟨by decide +kernel, rfl⟩
theorem eX9_move_225 : xAt mX9_move 225 (.aload_n 0) 1 226 := ⟨by decide +kernel, rfl⟩
theorem eX9_move_226 : xAt mX9_move 226 (.getfield 45) 3 229 := ⟨by decide +kernel, rfl⟩
theorem eX9_move_229 : xAt mX9_move 229 (.iload 7) 2 231 := ⟨by decide +kernel, rfl⟩
theorem eX9_move_231 : xAt mX9_move 231 (.iaload) 1 232 := ⟨by decide +kernel, rfl⟩
theorem eX9_move_232 : xAt mX9_move 232 (.iastore) 1 233 := ⟨by decide +kernel, rfl⟩
theorem eX9_move_233 : xAt mX9_move 233 (.iinc 7 1) 3 236 := ⟨by decide +kernel, rfl⟩
theorem eX9_move_236 : xBr mX9_move 236 .goto (-29) 239 207 := ⟨by decide +kernel, rfl, by decide⟩
theorem eX9_move_239 : xAt mX9_move 239 (.iload 4) 2 241 := ⟨by decide +kernel, rfl⟩
theorem eX9_move_241 : xAt mX9_move 241 (.ireturn) 1 242 := ⟨by decide +kernel, rfl⟩
theorem eX9_borders_0 : xAt mX9_borders 0 (.iconst 0) 1 1 := ⟨by decide +kernel, rfl⟩
theorem eX9_borders_1 : xAt mX9_borders 1 (.istore_n 3) 1 2 := ⟨by decide +kernel, rfl⟩
theorem eX9_borders_2 : xAt mX9_borders 2 (.iconst 0) 1 3 := ⟨by decide +kernel, rfl⟩
theorem eX9_borders_3 : xAt mX9_borders 3 (.istore 4) 2 5 := ⟨by decide +kernel, rfl⟩
theorem eX9_borders_5 : xAt mX9_borders 5 (.iload 4) 2 7 := ⟨by decide +kernel, rfl⟩
theorem eX9_borders_7 : xAt mX9_borders 7 (.aload_n 0) 1 8 := ⟨by decide +kernel, rfl⟩
theorem eX9_borders_8 : xAt mX9_borders 8 (.getfield 58) 3 11 := ⟨by decide +kernel, rfl⟩
theorem eX9_borders_11 : xAt mX9_borders 11 (.iload_n 1) 1 12 := ⟨by decide +kernel, rfl⟩
theorem eX9_borders_12 : xAt mX9_borders 12 (.iaload) 1 13 := ⟨by decide +kernel, rfl⟩
theorem eX9_borders_13 : xBr mX9_borders 13 (.if_icmp .ge) (77) 16 90 := ⟨by decide +kernel, rfl, by decide⟩
theorem eX9_borders_16 : xAt mX9_borders 16 (.iconst 0) 1 17 := ⟨by decide +kernel, rfl⟩
theorem eX9_borders_17 : xAt mX9_borders 17 (.istore 5) 2 19 := ⟨by decide +kernel, rfl⟩
theorem eX9_borders_19 : xAt mX9_borders 19 (.iload 5) 2 21 := ⟨by decide +kernel, rfl⟩
theorem eX9_borders_21 : xAt mX9_borders 21 (.aload_n 0) 1 22 := ⟨by decide +kernel, rfl⟩
theorem eX9_borders_22 : xAt mX9_borders 22 (.getfield 58) 3 25 := ⟨by decide +kernel, rfl⟩
theorem eX9_borders_25 : xAt mX9_borders 25 (.iload_n 2) 1 26 := ⟨by decide +kernel, rfl⟩
theorem eX9_borders_26 : xAt mX9_borders 26 (.iaload) 1 27 := ⟨by decide +kernel, rfl⟩
theorem eX9_borders_27 : xBr mX9_borders 27 (.if_icmp .ge) (57) 30 84 := ⟨by decide +kernel, rfl, by decide⟩
theorem eX9_borders_30 : xAt mX9_borders 30 (.iload_n 3) 1 31 := ⟨by decide +kernel, rfl⟩
theorem eX9_borders_31 : xAt mX9_borders 31 (.aload_n 0) 1 32 := ⟨by decide +kernel, rfl⟩
theorem eX9_borders_32 : xAt mX9_borders 32 (.aload_n 0) 1 33 := ⟨by decide +kernel, rfl⟩
theorem eX9_borders_33 : xAt mX9_borders 33 (.iload_n 1) 1 34 := ⟨by decide +kernel, rfl⟩
theorem eX9_borders_34 : xAt mX9_borders 34 (.iload 4) 2 36 := ⟨by decide +kernel, rfl⟩
theorem eX9_borders_36 : xAt mX9_borders 36 (.invokevirtual 241) 3 39 := ⟨by decide +kernel, rfl⟩
theorem eX9_borders_39 : xAt mX9_borders 39 (.aload_n 0) 1 40 := ⟨by decide +kernel, rfl⟩
theorem eX9_borders_40 : xAt mX9_borders 40 (.iload_n 1) 1 41 := ⟨by decide +kernel, rfl⟩
theorem eX9_borders_41 : xAt mX9_borders 41 (.iload 4) 2 43 := ⟨by decide +kernel, rfl⟩
theorem eX9_borders_43 : xAt mX9_borders 43 (.iconst 1) 1 44 := ⟨by decide +kernel, rfl⟩
theorem eX9_borders_44 : xAt mX9_borders 44 (.iadd) 1 45 := ⟨by decide +kernel, rfl⟩
theorem eX9_borders_45 : xAt mX9_borders 45 (.invokevirtual 241) 3 48 := ⟨by decide +kernel, rfl⟩
theorem eX9_borders_48 : xAt mX9_borders 48 (.aload_n 0) 1 49 := ⟨by decide +kernel, rfl⟩
theorem eX9_borders_49 : xAt mX9_borders 49 (.iload_n 2) 1 50 := ⟨by decide +kernel, rfl⟩
theorem eX9_borders_50 : xAt mX9_borders 50 (.iload 5) 2 52 := ⟨by decide +kernel, rfl⟩
theorem eX9_borders_52 : xAt mX9_borders 52 (.invokevirtual 241) 3 55 := ⟨by decide +kernel, rfl⟩
theorem eX9_borders_55 : xAt mX9_borders 55 (.aload_n 0) 1 56 := ⟨by decide +kernel, rfl⟩
theorem eX9_borders_56 : xAt mX9_borders 56 (.iload_n 2) 1 57 := ⟨by decide +kernel, rfl⟩
theorem eX9_borders_57 : xAt mX9_borders 57 (.iload 5) 2 59 := ⟨by decide +kernel, rfl⟩
theorem eX9_borders_59 : xAt mX9_borders 59 (.iconst 1) 1 60 := ⟨by decide +kernel, rfl⟩
theorem eX9_borders_60 : xAt mX9_borders 60 (.iadd) 1 61 := ⟨by decide +kernel, rfl⟩
theorem eX9_borders_61 : xAt mX9_borders 61 (.invokevirtual 241) 3 64 := ⟨by decide +kernel, rfl⟩
theorem eX9_borders_64 : xAt mX9_borders 64 (.invokevirtual 204) 3 67 := ⟨by decide +kernel, rfl⟩
theorem eX9_borders_67 : xAt mX9_borders 67 (.iconst 3) 1 68 := ⟨by decide +kernel, rfl⟩
theorem eX9_borders_68 : xBr mX9_borders 68 (.if_icmp .ne) (7) 71 75 := ⟨by decide +kernel, rfl, by decide⟩
theorem eX9_borders_71 : xAt mX9_borders 71 (.iconst 1) 1 72 := ⟨by decide +kernel, rfl⟩
theorem eX9_borders_72 : xBr mX9_borders 72 .goto (4) 75 76 := ⟨by decide +kernel, rfl, by decide⟩
theorem eX9_borders_75 : xAt mX9_borders 75 (.iconst 0) 1 76 := ⟨by decide +kernel, rfl⟩
theorem eX9_borders_76 : xAt mX9_borders 76 (.iadd) 1 77 := ⟨by decide +kernel, rfl⟩
theorem eX9_borders_77 : xAt mX9_borders 77 (.istore_n 3) 1 78 := ⟨by decide +kernel, rfl⟩
theorem eX9_borders_78 : xAt mX9_borders 78 (.iinc 5 1) 3 81 := ⟨by decide +kernel, rfl⟩
theorem eX9_borders_81 : xBr mX9_borders 81 .goto (-62) 84 19 := ⟨by decide +kernel, rfl, by decide⟩
theorem eX9_borders_84 : xAt mX9_borders 84 (.iinc 4 1) 3 87 := ⟨by decide +kernel, rfl⟩
theorem eX9_borders_87 : xBr mX9_borders 87 .goto (-82) 90 5 := ⟨by decide +kernel, rfl, by decide⟩
theorem eX9_borders_90 : xAt mX9_borders 90 (.iload_n 3) 1 91 := ⟨by decide +kernel, rfl⟩
theorem eX9_borders_91 : xAt mX9_borders 91 (.ireturn) 1 92 := ⟨by decide +kernel, rfl⟩
end
section
theorem eX9_border_0 : xAt mX9_border 0 (.aload_n 0) 1 1 := ⟨by decide +kernel, rfl⟩
theorem eX9_border_1 : xAt mX9_border 1 (.iload_n 1) 1 2 := ⟨by decide +kernel, rfl⟩
theorem eX9_border_2 : xAt mX9_border 2 (.invokevirtual 284) 3 5 := ⟨by decide +kernel, rfl⟩
theorem eX9_border_5 : xBr mX9_border 5 (.ifCond .eq) (11) 8 16 := ⟨by decide +kernel, rfl, by decide⟩
theorem eX9_border_8 : xAt mX9_border 8 (.aload_n 0) 1 9 := ⟨by decide +kernel, rfl⟩
theorem eX9_border_9 : xAt mX9_border 9 (.iload_n 2) 1 10 := ⟨by decide +kernel, rfl⟩
theorem eX9_border_10 : xAt mX9_border 10 (.invokevirtual 284) 3 13 := ⟨by decide +kernel, rfl⟩
theorem eX9_border_13 : xBr mX9_border 13 (.ifCond .ne) (6) 16 19 := ⟨by decide +kernel, rfl, by decide⟩
theorem eX9_border_16 : xAt mX9_border 16 (.bipush (-101)) 2 18 := ⟨by decide +kernel, rfl⟩
theorem eX9_border_18 : xAt mX9_border 18 (.ireturn) 1 19 := ⟨by decide +kernel, rfl⟩
theorem eX9_border_19 : xAt mX9_border 19 (.iload_n 1) 1 20 := ⟨by decide +kernel, rfl⟩
theorem eX9_border_20 : xAt mX9_border 20 (.iload_n 2) 1 21 := ⟨by decide +kernel, rfl⟩
theorem eX9_border_21 : xBr mX9_border 21 (.if_icmp .ne) (8) 24 29 := ⟨by decide +kernel, rfl, by decide⟩
theorem eX9_border_24 : xAt mX9_border 24 (.bipush (-102)) 2 26 := ⟨by decide +kernel, rfl⟩
theorem eX9_border_26 : xBr mX9_border 26 .goto (9) 29 35 := ⟨by decide +kernel, rfl, by decide⟩
theorem eX9_border_29 : xAt mX9_border 29 (.aload_n 0) 1 30 := ⟨by decide +kernel, rfl⟩
theorem eX9_border_30 : xAt mX9_border 30 (.iload_n 1) 1 31 := ⟨by decide +kernel, rfl⟩
theorem eX9_border_31 : xAt mX9_border 31 (.iload_n 2) 1 32 := ⟨by decide +kernel, rfl⟩
theorem eX9_border_32 : xAt mX9_border 32 (.invokevirtual 300) 3 35 := ⟨by decide +kernel, rfl⟩
theorem eX9_border_35 : xAt mX9_border 35 (.ireturn) 1 36 := ⟨by decide +kernel, rfl⟩
theorem eX9_neighbour_0 : xAt mX9_neighbour 0 (.aload_n 0) 1 1 := ⟨by decide +kernel, rfl⟩
theorem eX9_neighbour_1 : xAt mX9_neighbour 1 (.iload_n 1) 1 2 := ⟨by decide +kernel, rfl⟩
theorem eX9_neighbour_2 : xAt mX9_neighbour 2 (.invokevirtual 284) 3 5 := ⟨by decide +kernel, rfl⟩
theorem eX9_neighbour_5 : xBr mX9_neighbour 5 (.ifCond .ne) (6) 8 11 := ⟨by decide +kernel, rfl, by decide⟩
theorem eX9_neighbour_8 : xAt mX9_neighbour 8 (.bipush (-101)) 2 10 := ⟨by decide +kernel, rfl⟩
theorem eX9_neighbour_10 : xAt mX9_neighbour 10 (.ireturn) 1 11 := ⟨by decide +kernel, rfl⟩
theorem eX9_neighbour_11 : xAt mX9_neighbour 11 (.iconst 0) 1 12 := ⟨by decide +kernel, rfl⟩
theorem eX9_neighbour_12 : xAt mX9_neighbour 12 (.istore_n 3) 1 13 := ⟨by decide +kernel, rfl⟩
theorem eX9_neighbour_13 : xAt mX9_neighbour 13 (.iconst 0) 1 14 := ⟨by decide +kernel, rfl⟩
theorem eX9_neighbour_14 : xAt mX9_neighbour 14 (.istore 4) 2 16 := ⟨by decide +kernel, rfl⟩
theorem eX9_neighbour_16 : xAt mX9_neighbour 16 (.iload 4) 2 18 := ⟨by decide +kernel, rfl⟩
theorem eX9_neighbour_18 : xAt mX9_neighbour 18 (.aload_n 0) 1 19 := ⟨by decide +kernel, rfl⟩
theorem eX9_neighbour_19 : xAt mX9_neighbour 19 (.getfield 224) 3 22 := ⟨by decide +kernel, rfl⟩
theorem eX9_neighbour_22 : xBr mX9_neighbour 22 (.if_icmp .ge) (62) 25 84 := ⟨by decide +kernel, rfl, by decide⟩
theorem eX9_neighbour_25 : xAt mX9_neighbour 25 (.iload 4) 2 27 := ⟨by decide +kernel, rfl⟩
theorem eX9_neighbour_27 : xAt mX9_neighbour 27 (.iload_n 1) 1 28 := ⟨by decide +kernel, rfl⟩
theorem eX9_neighbour_28 : xBr mX9_neighbour 28 (.if_icmp .eq) (50) 31 78 := ⟨by decide +kernel, rfl, by decide⟩
theorem eX9_neighbour_31 : xAt mX9_neighbour 31 (.aload_n 0) 1 32 := ⟨by decide +kernel, rfl⟩
theorem eX9_neighbour_32 : xAt mX9_neighbour 32 (.getfield 48) 3 35 := ⟨by decide +kernel, rfl⟩
theorem eX9_neighbour_35 : xAt mX9_neighbour 35 (.iload 4) 2 37 := ⟨by decide +kernel, rfl⟩
theorem eX9_neighbour_37 : xAt mX9_neighbour 37 (.baload) 1 38 := ⟨by decide +kernel, rfl⟩
theorem eX9_neighbour_38 : xBr mX9_neighbour 38 (.ifCond .eq) (40) 41 78 := ⟨by decide +kernel, rfl, by decide⟩
theorem eX9_neighbour_41 : xAt mX9_neighbour 41 (.aload_n 0) 1 42 := ⟨by decide +kernel, rfl⟩
theorem eX9_neighbour_42 : xAt mX9_neighbour 42 (.getfield 52) 3 45 := ⟨by decide +kernel, rfl⟩
theorem eX9_neighbour_45 : xAt mX9_neighbour 45 (.iload 4) 2 47 := ⟨by decide +kernel, rfl⟩
theorem eX9_neighbour_47 : xAt mX9_neighbour 47 (.iaload) 1 48 := ⟨by decide +kernel, rfl⟩
theorem eX9_neighbour_48 : xAt mX9_neighbour 48 (.aload_n 0) 1 49 := ⟨by decide +kernel, rfl⟩
theorem eX9_neighbour_49 : xAt mX9_neighbour 49 (.getfield 52) 3 52 := ⟨by decide +kernel, rfl⟩
theorem eX9_neighbour_52 : xAt mX9_neighbour 52 (.iload_n 1) 1 53 := ⟨by decide +kernel, rfl⟩
theorem eX9_neighbour_53 : xAt mX9_neighbour 53 (.iaload) 1 54 := ⟨by decide +kernel, rfl⟩
theorem eX9_neighbour_54 : xBr mX9_neighbour 54 (.if_icmp .ne) (24) 57 78 := ⟨by decide +kernel, rfl, by decide⟩
theorem eX9_neighbour_57 : xAt mX9_neighbour 57 (.aload_n 0) 1 58 := ⟨by decide +kernel, rfl⟩
theorem eX9_neighbour_58 : xAt mX9_neighbour 58 (.iload_n 1) 1 59 := ⟨by decide +kernel, rfl⟩
theorem eX9_neighbour_59 : xAt mX9_neighbour 59 (.iload 4) 2 61 := ⟨by decide +kernel, rfl⟩
theorem eX9_neighbour_61 : xAt mX9_neighbour 61 (.invokevirtual 300) 3 64 := ⟨by decide +kernel, rfl⟩
theorem eX9_neighbour_64 : xBr mX9_neighbour 64 (.ifCond .le) (14) 67 78 := ⟨by decide +kernel, rfl, by decide⟩
theorem eX9_neighbour_67 : xAt mX9_neighbour 67 (.iload_n 3) 1 68 := ⟨by decide +kernel, rfl⟩
theorem eX9_neighbour_68 : xAt mX9_neighbour 68 (.iload_n 2) 1 69 := ⟨by decide +kernel, rfl⟩
theorem eX9_neighbour_69 : xBr mX9_neighbour 69 (.if_icmp .ne) (6) 72 75 := ⟨by decide +kernel, rfl, by decide⟩
theorem eX9_neighbour_72 : xAt mX9_neighbour 72 (.iload 4) 2 74 := ⟨by decide +kernel, rfl⟩
theorem eX9_neighbour_74 : xAt mX9_neighbour 74 (.ireturn) 1 75 := ⟨by decide +kernel, rfl⟩
theorem eX9_neighbour_75 : xAt mX9_neighbour 75 (.iinc 3 1) 3 78 := ⟨by decide +kernel, rfl⟩
theorem eX9_neighbour_78 : xAt mX9_neighbour 78 (.iinc 4 1) 3 81 := ⟨by decide +kernel, rfl⟩
theorem eX9_neighbour_81 : xBr mX9_neighbour 81 .goto (-65) 84 16 := ⟨by decide +kernel, rfl, by decide⟩
theorem eX9_neighbour_84 : xAt mX9_neighbour 84 (.iconst (-1)) 1 85 := ⟨by decide +kernel, rfl⟩
theorem eX9_neighbour_85 : xAt mX9_neighbour 85 (.ireturn) 1 86 := ⟨by decide +kernel, rfl⟩
theorem eX9_locate_0 : xAt mX9_locate 0 (.iload_n 1) 1 1 := ⟨by decide +kernel, rfl⟩
theorem eX9_locate_1 : xAt mX9_locate 1 (.iconst 0) 1 2 := ⟨by decide +kernel, rfl⟩
theorem eX9_locate_2 : xAt mX9_locate 2 (.iconst 3) 1 3 := ⟨by decide +kernel, rfl⟩
theorem eX9_locate_3 : xAt mX9_locate 3 (.invokestatic 173) 3 6 := ⟨by decide +kernel, rfl⟩
theorem eX9_locate_6 : xBr mX9_locate 6 (.ifCond .eq) (18) 9 24 := ⟨by decide +kernel, rfl, by decide⟩
theorem eX9_locate_9 : xAt mX9_locate 9 (.lload_n 2) 1 10 := ⟨by decide +kernel, rfl⟩
theorem eX9_locate_10 : xAt mX9_locate 10 (.invokestatic 176) 3 13 := ⟨by decide +kernel, rfl⟩
theorem eX9_locate_13 : xBr mX9_locate 13 (.ifCond .eq) (11) 16 24 := ⟨by decide +kernel, rfl, by decide⟩
theorem eX9_locate_16 : xAt mX9_locate 16 (.lload 4) 2 18 := ⟨by decide +kernel, rfl⟩
theorem eX9_locate_18 : xAt mX9_locate 18 (.invokestatic 176) 3 21 := ⟨by decide +kernel, rfl⟩
theorem eX9_locate_21 : xBr mX9_locate 21 (.ifCond .ne) (6) 24 27 := ⟨by decide +kernel, rfl, by decide⟩
theorem eX9_locate_24 : xAt mX9_locate 24 (.bipush (-102)) 2 26 := ⟨by decide +kernel, rfl⟩
theorem eX9_locate_26 : xAt mX9_locate 26 (.ireturn) 1 27 := ⟨by decide +kernel, rfl⟩
theorem eX9_locate_27 : xAt mX9_locate 27 (.aload_n 0) 1 28 := ⟨by decide +kernel, rfl⟩
theorem eX9_locate_28 : xAt mX9_locate 28 (.sipush 200) 3 31 := ⟨by decide +kernel, rfl⟩
theorem eX9_locate_31 : xAt mX9_locate 31 (.lload_n 2) 1 32 := ⟨by decide +kernel, rfl⟩
theorem eX9_locate_32 : xAt mX9_locate 32 (.lload 4) 2 34 := ⟨by decide +kernel, rfl⟩
theorem eX9_locate_34 : xAt mX9_locate 34 (.invokevirtual 180) 3 37 := ⟨by decide +kernel, rfl⟩
theorem eX9_locate_37 : xAt mX9_locate 37 (.aload_n 0) 1 38 := ⟨by decide +kernel, rfl⟩
theorem eX9_locate_38 : xAt mX9_locate 38 (.iconst (-1)) 1 39 := ⟨by decide +kernel, rfl⟩
theorem eX9_locate_39 : xAt mX9_locate 39 (.putfield 85) 3 42 := ⟨by decide +kernel, rfl⟩
theorem eX9_locate_42 : xAt mX9_locate 42 (.iconst 0) 1 43 := ⟨by decide +kernel, rfl⟩
theorem eX9_locate_43 : xAt mX9_locate 43 (.istore 6) 2 45 := ⟨by decide +kernel, rfl⟩
theorem eX9_locate_45 : xAt mX9_locate 45 (.iload 6) 2 47 := ⟨by decide +kernel, rfl⟩
theorem eX9_locate_47 : xAt mX9_locate 47 (.aload_n 0) 1 48 := ⟨by decide +kernel, rfl⟩
theorem eX9_locate_48 : xAt mX9_locate 48 (.getfield 224) 3 51 := ⟨by decide +kernel, rfl⟩
theorem eX9_locate_51 : xBr mX9_locate 51 (.if_icmp .ge) (53) 54 104 := ⟨by decide +kernel, rfl, by decide⟩
theorem eX9_locate_54 : xAt mX9_locate 54 (.aload_n 0) 1 55 := ⟨by decide +kernel, rfl⟩
theorem eX9_locate_55 : xAt mX9_locate 55 (.getfield 48) 3 58 := ⟨by decide +kernel, rfl⟩
theorem eX9_locate_58 : xAt mX9_locate 58 (.iload 6) 2 60 := ⟨by decide +kernel, rfl⟩
theorem eX9_locate_60 : xAt mX9_locate 60 (.baload) 1 61 := ⟨by decide +kernel, rfl⟩
theorem eX9_locate_61 : xBr mX9_locate 61 (.ifCond .eq) (37) 64 98 := ⟨by decide +kernel, rfl, by decide⟩
theorem eX9_locate_64 : xAt mX9_locate 64 (.aload_n 0) 1 65 := ⟨by decide +kernel, rfl⟩
theorem eX9_locate_65 : xAt mX9_locate 65 (.getfield 52) 3 68 := ⟨by decide +kernel, rfl⟩
theorem eX9_locate_68 : xAt mX9_locate 68 (.iload 6) 2 70 := ⟨by decide +kernel, rfl⟩
theorem eX9_locate_70 : xAt mX9_locate 70 (.iaload) 1 71 := ⟨by decide +kernel, rfl⟩
theorem eX9_locate_71 : xAt mX9_locate 71 (.iload_n 1) 1 72 := ⟨by decide +kernel, rfl⟩
theorem eX9_locate_72 : xBr mX9_locate 72 (.if_icmp .ne) (26) 75 98 := ⟨by decide +kernel, rfl, by decide⟩
theorem eX9_locate_75 : xAt mX9_locate 75 (.aload_n 0) 1 76 := ⟨by decide +kernel, rfl⟩
theorem eX9_locate_76 : xAt mX9_locate 76 (.iload 6) 2 78 := ⟨by decide +kernel, rfl⟩
theorem eX9_locate_78 : xAt mX9_locate 78 (.sipush 200) 3 81 := ⟨by decide +kernel, rfl⟩
theorem eX9_locate_81 : xAt mX9_locate 81 (.invokevirtual 257) 3 84 := ⟨by decide +kernel, rfl⟩
theorem eX9_locate_84 : xBr mX9_locate 84 (.ifCond .lt) (14) 87 98 := ⟨by decide +kernel, rfl, by decide⟩
theorem eX9_locate_87 : xAt mX9_locate 87 (.aload_n 0) 1 88 := ⟨by decide +kernel, rfl⟩
theorem eX9_locate_88 : xAt mX9_locate 88 (.aload_n 0) 1 89 := ⟨by decide +kernel, rfl⟩
theorem eX9_locate_89 : xAt mX9_locate 89 (.getfield 238) 3 92 := ⟨by decide +kernel, rfl⟩
theorem eX9_locate_92 : xAt mX9_locate 92 (.putfield 85) 3 95 := ⟨by decide +kernel, rfl⟩
theorem eX9_locate_95 : xAt mX9_locate 95 (.iload 6) 2 97 := ⟨by decide +kernel, rfl⟩
theorem eX9_locate_97 : xAt mX9_locate 97 (.ireturn) 1 98 := ⟨by decide +kernel, rfl⟩
theorem eX9_locate_98 : xAt mX9_locate 98 (.iinc 6 1) 3 101 := ⟨by decide +kernel, rfl⟩
theorem eX9_locate_101 : xBr mX9_locate 101 .goto (-56) 104 45 := ⟨by decide +kernel, rfl, by decide⟩
theorem eX9_locate_104 : xAt mX9_locate 104 (.iconst (-1)) 1 105 := ⟨by decide +kernel, rfl⟩
theorem eX9_locate_105 : xAt mX9_locate 105 (.ireturn) 1 106 := ⟨by decide +kernel, rfl⟩
theorem eX9_edge_0 : xAt mX9_edge 0 (.aload_n 0) 1 1 := ⟨by decide +kernel, rfl⟩
theorem eX9_edge_1 : xAt mX9_edge 1 (.getfield 85) 3 4 := ⟨by decide +kernel, rfl⟩
theorem eX9_edge_4 : xAt mX9_edge 4 (.ireturn) 1 5 := ⟨by decide +kernel, rfl⟩
theorem eX9_walk_0 : xAt mX9_walk 0 (.aload_n 0) 1 1 := ⟨by decide +kernel, rfl⟩
theorem eX9_walk_1 : xAt mX9_walk 1 (.iload_n 2) 1 2 := ⟨by decide +kernel, rfl⟩
theorem eX9_walk_2 : xAt mX9_walk 2 (.invokevirtual 184) 3 5 := ⟨by decide +kernel, rfl⟩
theorem eX9_walk_5 : xBr mX9_walk 5 (.ifCond .eq) (11) 8 16 := ⟨by decide +kernel, rfl, by decide⟩
theorem eX9_walk_8 : xAt mX9_walk 8 (.aload_n 0) 1 9 := ⟨by decide +kernel, rfl⟩
theorem eX9_walk_9 : xAt mX9_walk 9 (.iload_n 3) 1 10 := ⟨by decide +kernel, rfl⟩
theorem eX9_walk_10 : xAt mX9_walk 10 (.invokevirtual 184) 3 13 := ⟨by decide +kernel, rfl⟩
theorem eX9_walk_13 : xBr mX9_walk 13 (.ifCond .ne) (6) 16 19 := ⟨by decide +kernel, rfl, by decide⟩
theorem eX9_walk_16 : xAt mX9_walk 16 (.bipush (-101)) 2 18 := ⟨by decide +kernel, rfl⟩
theorem eX9_walk_18 : xAt mX9_walk 18 (.ireturn) 1 19 := ⟨by decide +kernel, rfl⟩
theorem eX9_walk_19 : xAt mX9_walk 19 (.iload_n 1) 1 20 := ⟨by decide +kernel, rfl⟩
theorem eX9_walk_20 : xAt mX9_walk 20 (.iconst 0) 1 21 := ⟨by decide +kernel, rfl⟩
theorem eX9_walk_21 : xAt mX9_walk 21 (.iconst 3) 1 22 := ⟨by decide +kernel, rfl⟩
theorem eX9_walk_22 : xAt mX9_walk 22 (.invokestatic 173) 3 25 := ⟨by decide +kernel, rfl⟩
theorem eX9_walk_25 : xBr mX9_walk 25 (.ifCond .eq) (8) 28 33 := ⟨by decide +kernel, rfl, by decide⟩
theorem eX9_walk_28 : xAt mX9_walk 28 (.iload_n 2) 1 29 := ⟨by decide +kernel, rfl⟩
theorem eX9_walk_29 : xAt mX9_walk 29 (.iload_n 3) 1 30 := ⟨by decide +kernel, rfl⟩
theorem eX9_walk_30 : xBr mX9_walk 30 (.if_icmp .ne) (6) 33 36 := ⟨by decide +kernel, rfl, by decide⟩
theorem eX9_walk_33 : xAt mX9_walk 33 (.bipush (-102)) 2 35 := ⟨by decide +kernel, rfl⟩
theorem eX9_walk_35 : xAt mX9_walk 35 (.ireturn) 1 36 := ⟨by decide +kernel, rfl⟩
theorem eX9_walk_36 : xAt mX9_walk 36 (.iconst 0) 1 37 := ⟨by decide +kernel, rfl⟩
theorem eX9_walk_37 : xAt mX9_walk 37 (.istore 5) 2 39 := ⟨by decide +kernel, rfl⟩
theorem eX9_walk_39 : xAt mX9_walk 39 (.iconst 0) 1 40 := ⟨by decide +kernel, rfl⟩
theorem eX9_walk_40 : xAt mX9_walk 40 (.istore 6) 2 42 := ⟨by decide +kernel, rfl⟩
theorem eX9_walk_42 : xAt mX9_walk 42 (.iload 6) 2 44 := ⟨by decide +kernel, rfl⟩
theorem eX9_walk_44 : xAt mX9_walk 44 (.aload_n 0) 1 45 := ⟨by decide +kernel, rfl⟩
theorem eX9_walk_45 : xAt mX9_walk 45 (.getfield 224) 3 48 := ⟨by decide +kernel, rfl⟩
theorem eX9_walk_48 : xBr mX9_walk 48 (.if_icmp .ge) (58) 51 106 := ⟨by decide +kernel, rfl, by decide⟩
theorem eX9_walk_51 : xAt mX9_walk 51 (.aload_n 0) 1 52 := ⟨by decide +kernel, rfl⟩
theorem eX9_walk_52 : xAt mX9_walk 52 (.getfield 48) 3 55 := ⟨by decide +kernel, rfl⟩
theorem eX9_walk_55 : xAt mX9_walk 55 (.iload 6) 2 57 := ⟨by decide +kernel, rfl⟩
theorem eX9_walk_57 : xAt mX9_walk 57 (.baload) 1 58 := ⟨by decide +kernel, rfl⟩
theorem eX9_walk_58 : xBr mX9_walk 58 (.ifCond .eq) (42) 61 100 := ⟨by decide +kernel, rfl, by decide⟩
theorem eX9_walk_61 : xAt mX9_walk 61 (.aload_n 0) 1 62 := ⟨by decide +kernel, rfl⟩
theorem eX9_walk_62 : xAt mX9_walk 62 (.getfield 52) 3 65 := ⟨by decide +kernel, rfl⟩
theorem eX9_walk_65 : xAt mX9_walk 65 (.iload 6) 2 67 := ⟨by decide +kernel, rfl⟩
theorem eX9_walk_67 : xAt mX9_walk 67 (.iaload) 1 68 := ⟨by decide +kernel, rfl⟩
theorem eX9_walk_68 : xAt mX9_walk 68 (.iload_n 1) 1 69 := ⟨by decide +kernel, rfl⟩
theorem eX9_walk_69 : xBr mX9_walk 69 (.if_icmp .ne) (31) 72 100 := ⟨by decide +kernel, rfl, by decide⟩
theorem eX9_walk_72 : xAt mX9_walk 72 (.aload_n 0) 1 73 := ⟨by decide +kernel, rfl⟩
theorem eX9_walk_73 : xAt mX9_walk 73 (.iload_n 2) 1 74 := ⟨by decide +kernel, rfl⟩
theorem eX9_walk_74 : xAt mX9_walk 74 (.iload_n 3) 1 75 := ⟨by decide +kernel, rfl⟩
theorem eX9_walk_75 : xAt mX9_walk 75 (.iload 6) 2 77 := ⟨by decide +kernel, rfl⟩
theorem eX9_walk_77 : xAt mX9_walk 77 (.invokevirtual 260) 3 80 := ⟨by decide +kernel, rfl⟩
theorem eX9_walk_80 : xAt mX9_walk 80 (.aload_n 0) 1 81 := ⟨by decide +kernel, rfl⟩
theorem eX9_walk_81 : xAt mX9_walk 81 (.getfield 244) 3 84 := ⟨by decide +kernel, rfl⟩
theorem eX9_walk_84 : xBr mX9_walk 84 (.ifCond .eq) (16) 87 100 := ⟨by decide +kernel, rfl, by decide⟩
theorem eX9_walk_87 : xAt mX9_walk 87 (.iload 5) 2 89 := ⟨by decide +kernel, rfl⟩
theorem eX9_walk_89 : xAt mX9_walk 89 (.iload 4) 2 91 := ⟨by decide +kernel, rfl⟩
theorem eX9_walk_91 : xBr mX9_walk 91 (.if_icmp .ne) (6) 94 97 := ⟨by decide +kernel, rfl, by decide⟩
theorem eX9_walk_94 : xAt mX9_walk 94 (.iload 6) 2 96 := ⟨by decide +kernel, rfl⟩
theorem eX9_walk_96 : xAt mX9_walk 96 (.ireturn) 1 97 := ⟨by decide +kernel, rfl⟩
theorem eX9_walk_97 : xAt mX9_walk 97 (.iinc 5 1) 3 100 := ⟨by decide +kernel, rfl⟩
theorem eX9_walk_100 : xAt mX9_walk 100 (.iinc 6 1) 3 103 := ⟨by decide +kernel, rfl⟩
theorem eX9_walk_103 : xBr mX9_walk 103 .goto (-61) 106 42 := ⟨by decide +kernel, rfl, by decide⟩
theorem eX9_walk_106 : xAt mX9_walk 106 (.iconst (-1)) 1 107 := ⟨by decide +kernel, rfl⟩
theorem eX9_walk_107 : xAt mX9_walk 107 (.ireturn) 1 108 := ⟨by decide +kernel, rfl⟩
theorem eX9_hull_0 : xAt mX9_hull 0 (.iload_n 1) 1 1 := ⟨by decide +kernel, rfl⟩
theorem eX9_hull_1 : xAt mX9_hull 1 (.iconst 0) 1 2 := ⟨by decide +kernel, rfl⟩
theorem eX9_hull_2 : xAt mX9_hull 2 (.iconst 3) 1 3 := ⟨by decide +kernel, rfl⟩
theorem eX9_hull_3 : xAt mX9_hull 3 (.invokestatic 173) 3 6 := ⟨by decide +kernel, rfl⟩
theorem eX9_hull_6 : xBr mX9_hull 6 (.ifCond .ne) (6) 9 12 := ⟨by decide +kernel, rfl, by decide⟩
theorem eX9_hull_9 : xAt mX9_hull 9 (.bipush (-102)) 2 11 := ⟨by decide +kernel, rfl⟩
theorem eX9_hull_11 : xAt mX9_hull 11 (.ireturn) 1 12 := ⟨by decide +kernel, rfl⟩
theorem eX9_hull_12 : xAt mX9_hull 12 (.aload_n 0) 1 13 := ⟨by decide +kernel, rfl⟩
theorem eX9_hull_13 : xAt mX9_hull 13 (.iload_n 1) 1 14 := ⟨by decide +kernel, rfl⟩
theorem eX9_hull_14 : xAt mX9_hull 14 (.invokevirtual 287) 3 17 := ⟨by decide +kernel, rfl⟩
theorem eX9_hull_17 : xBr mX9_hull 17 (.ifCond .ne) (6) 20 23 := ⟨by decide +kernel, rfl, by decide⟩
theorem eX9_hull_20 : xAt mX9_hull 20 (.bipush (-103)) 2 22 := ⟨by decide +kernel, rfl⟩
theorem eX9_hull_22 : xAt mX9_hull 22 (.ireturn) 1 23 := ⟨by decide +kernel, rfl⟩
theorem eX9_hull_23 : xAt mX9_hull 23 (.iconst 0) 1 24 := ⟨by decide +kernel, rfl⟩
theorem eX9_hull_24 : xAt mX9_hull 24 (.istore_n 2) 1 25 := ⟨by decide +kernel, rfl⟩
theorem eX9_hull_25 : xAt mX9_hull 25 (.iload_n 2) 1 26 := ⟨by decide +kernel, rfl⟩
theorem eX9_hull_26 : xAt mX9_hull 26 (.sipush 200) 3 29 := ⟨by decide +kernel, rfl⟩
theorem eX9_hull_29 : xBr mX9_hull 29 (.if_icmp .ge) (16) 32 45 := ⟨by decide +kernel, rfl, by decide⟩
theorem eX9_hull_32 : xAt mX9_hull 32 (.aload_n 0) 1 33 := ⟨by decide +kernel, rfl⟩
theorem eX9_hull_33 : xAt mX9_hull 33 (.getfield 94) 3 36 := ⟨by decide +kernel, rfl⟩
theorem eX9_hull_36 : xAt mX9_hull 36 (.iload_n 2) 1 37 := ⟨by decide +kernel, rfl⟩
theorem eX9_hull_37 : xAt mX9_hull 37 (.iconst 0) 1 38 := ⟨by decide +kernel, rfl⟩
theorem eX9_hull_38 : xAt mX9_hull 38 (.bastore) 1 39 := ⟨by decide +kernel, rfl⟩
theorem eX9_hull_39 : xAt mX9_hull 39 (.iinc 2 1) 3 42 := ⟨by decide +kernel, rfl⟩
theorem eX9_hull_42 : xBr mX9_hull 42 .goto (-17) 45 25 := ⟨by decide +kernel, rfl, by decide⟩
theorem eX9_hull_45 : xAt mX9_hull 45 (.iconst 0) 1 46 := ⟨by decide +kernel, rfl⟩
theorem eX9_hull_46 : xAt mX9_hull 46 (.istore_n 2) 1 47 := ⟨by decide +kernel, rfl⟩
theorem eX9_hull_47 : xAt mX9_hull 47 (.iload_n 2) 1 48 := ⟨by decide +kernel, rfl⟩
theorem eX9_hull_48 : xAt mX9_hull 48 (.aload_n 0) 1 49 := ⟨by decide +kernel, rfl⟩
theorem eX9_hull_49 : xAt mX9_hull 49 (.getfield 224) 3 52 := ⟨by decide +kernel, rfl⟩
theorem eX9_hull_52 : xBr mX9_hull 52 (.if_icmp .ge) (63) 55 115 := ⟨by decide +kernel, rfl, by decide⟩
theorem eX9_hull_55 : xAt mX9_hull 55 (.iconst 0) 1 56 := ⟨by decide +kernel, rfl⟩
theorem eX9_hull_56 : xAt mX9_hull 56 (.istore_n 3) 1 57 := ⟨by decide +kernel, rfl⟩
theorem eX9_hull_57 : xAt mX9_hull 57 (.iload_n 3) 1 58 := ⟨by decide +kernel, rfl⟩
theorem eX9_hull_58 : xAt mX9_hull 58 (.aload_n 0) 1 59 := ⟨by decide +kernel, rfl⟩
theorem eX9_hull_59 : xAt mX9_hull 59 (.getfield 58) 3 62 := ⟨by decide +kernel, rfl⟩
theorem eX9_hull_62 : xAt mX9_hull 62 (.iload_n 2) 1 63 := ⟨by decide +kernel, rfl⟩
theorem eX9_hull_63 : xAt mX9_hull 63 (.iaload) 1 64 := ⟨by decide +kernel, rfl⟩
theorem eX9_hull_64 : xBr mX9_hull 64 (.if_icmp .ge) (45) 67 109 := ⟨by decide +kernel, rfl, by decide⟩
theorem eX9_hull_67 : xAt mX9_hull 67 (.aload_n 0) 1 68 := ⟨by decide +kernel, rfl⟩
theorem eX9_hull_68 : xAt mX9_hull 68 (.getfield 48) 3 71 := ⟨by decide +kernel, rfl⟩
theorem eX9_hull_71 : xAt mX9_hull 71 (.iload_n 2) 1 72 := ⟨by decide +kernel, rfl⟩
theorem eX9_hull_72 : xAt mX9_hull 72 (.baload) 1 73 := ⟨by decide +kernel, rfl⟩
theorem eX9_hull_73 : xBr mX9_hull 73 (.ifCond .eq) (36) 76 109 := ⟨by decide +kernel, rfl, by decide⟩
theorem eX9_hull_76 : xAt mX9_hull 76 (.aload_n 0) 1 77 := ⟨by decide +kernel, rfl⟩
theorem eX9_hull_77 : xAt mX9_hull 77 (.getfield 52) 3 80 := ⟨by decide +kernel, rfl⟩
theorem eX9_hull_80 : xAt mX9_hull 80 (.iload_n 2) 1 81 := ⟨by decide +kernel, rfl⟩
theorem eX9_hull_81 : xAt mX9_hull 81 (.iaload) 1 82 := ⟨by decide +kernel, rfl⟩
theorem eX9_hull_82 : xAt mX9_hull 82 (.iload_n 1) 1 83 := ⟨by decide +kernel, rfl⟩
theorem eX9_hull_83 : xBr mX9_hull 83 (.if_icmp .ne) (26) 86 109 := ⟨by decide +kernel, rfl, by decide⟩
theorem eX9_hull_86 : xAt mX9_hull 86 (.aload_n 0) 1 87 := ⟨by decide +kernel, rfl⟩
theorem eX9_hull_87 : xAt mX9_hull 87 (.getfield 94) 3 90 := ⟨by decide +kernel, rfl⟩
theorem eX9_hull_90 : xAt mX9_hull 90 (.aload_n 0) 1 91 := ⟨by decide +kernel, rfl⟩
theorem eX9_hull_91 : xAt mX9_hull 91 (.getfield 61) 3 94 := ⟨by decide +kernel, rfl⟩
theorem eX9_hull_94 : xAt mX9_hull 94 (.bipush 12) 2 96 := ⟨by decide +kernel, rfl⟩
theorem eX9_hull_96 : xAt mX9_hull 96 (.iload_n 2) 1 97 := ⟨by decide +kernel, rfl⟩
theorem eX9_hull_97 : xAt mX9_hull 97 (.imul) 1 98 := ⟨by decide +kernel, rfl⟩
theorem eX9_hull_98 : xAt mX9_hull 98 (.iload_n 3) 1 99 := ⟨by decide +kernel, rfl⟩
theorem eX9_hull_99 : xAt mX9_hull 99 (.iadd) 1 100 := ⟨by decide +kernel, rfl⟩
theorem eX9_hull_100 : xAt mX9_hull 100 (.iaload) 1 101 := ⟨by decide +kernel, rfl⟩
theorem eX9_hull_101 : xAt mX9_hull 101 (.iconst 1) 1 102 := ⟨by decide +kernel, rfl⟩
theorem eX9_hull_102 : xAt mX9_hull 102 (.bastore) 1 103 := ⟨by decide +kernel, rfl⟩
theorem eX9_hull_103 : xAt mX9_hull 103 (.iinc 3 1) 3 106 := ⟨by decide +kernel, rfl⟩
theorem eX9_hull_106 : xBr mX9_hull 106 .goto (-49) 109 57 := ⟨by decide +kernel, rfl, by decide⟩
theorem eX9_hull_109 : xAt mX9_hull 109 (.iinc 2 1) 3 112 := ⟨by decide +kernel, rfl⟩
theorem eX9_hull_112 : xBr mX9_hull 112 .goto (-65) 115 47 := ⟨by decide +kernel, rfl, by decide⟩
theorem eX9_hull_115 : xAt mX9_hull 115 (.iconst 0) 1 116 := ⟨by decide +kernel, rfl⟩
theorem eX9_hull_116 : xAt mX9_hull 116 (.istore_n 2) 1 117 := ⟨by decide +kernel, rfl⟩
theorem eX9_hull_117 : xAt mX9_hull 117 (.iconst 0) 1 118 := ⟨by decide +kernel, rfl⟩
theorem eX9_hull_118 : xAt mX9_hull 118 (.istore_n 3) 1 119 := ⟨by decide +kernel, rfl⟩
theorem eX9_hull_119 : xAt mX9_hull 119 (.iload_n 3) 1 120 := ⟨by decide +kernel, rfl⟩
theorem eX9_hull_120 : xAt mX9_hull 120 (.aload_n 0) 1 121 := ⟨by decide +kernel, rfl⟩
theorem eX9_hull_121 : xAt mX9_hull 121 (.getfield 170) 3 124 := ⟨by decide +kernel, rfl⟩
theorem eX9_hull_124 : xBr mX9_hull 124 (.if_icmp .ge) (76) 127 200 := ⟨by decide +kernel, rfl, by decide⟩
theorem eX9_hull_127 : xAt mX9_hull 127 (.aload_n 0) 1 128 := ⟨by decide +kernel, rfl⟩
theorem eX9_hull_128 : xAt mX9_hull 128 (.getfield 94) 3 131 := ⟨by decide +kernel, rfl⟩
theorem eX9_hull_131 : xAt mX9_hull 131 (.iload_n 3) 1 132 := ⟨by decide +kernel, rfl⟩
theorem eX9_hull_132 : xAt mX9_hull 132 (.baload) 1 133 := ⟨by decide +kernel, rfl⟩
theorem eX9_hull_133 : xBr mX9_hull 133 (.ifCond .eq) (61) 136 194 := ⟨by decide +kernel, rfl, by decide⟩
theorem eX9_hull_136 : xAt mX9_hull 136 (.iload_n 2) 1 137 := ⟨by decide +kernel, rfl⟩
theorem eX9_hull_137 : xAt mX9_hull 137 (.istore 4) 2 139 := ⟨by decide +kernel, rfl⟩
theorem eX9_hull_139 : xAt mX9_hull 139 (.iload 4) 2 141 := ⟨by decide +kernel, rfl⟩
theorem eX9_hull_141 : xBr mX9_hull 141 (.ifCond .le) (42) 144 183 := ⟨by decide +kernel, rfl, by decide⟩
theorem eX9_hull_144 : xAt mX9_hull 144 (.aload_n 0) 1 145 := ⟨by decide +kernel, rfl⟩
theorem eX9_hull_145 : xAt mX9_hull 145 (.iload_n 3) 1 146 := ⟨by decide +kernel, rfl⟩
theorem eX9_hull_146 : xAt mX9_hull 146 (.aload_n 0) 1 147 := ⟨by decide +kernel, rfl⟩
theorem eX9_hull_147 : xAt mX9_hull 147 (.getfield 91) 3 150 := ⟨by decide +kernel, rfl⟩
theorem eX9_hull_150 : xAt mX9_hull 150 (.iload 4) 2 152 := ⟨by decide +kernel, rfl⟩
theorem eX9_hull_152 : xAt mX9_hull 152 (.iconst 1) 1 153 := ⟨by decide +kernel, rfl⟩
theorem eX9_hull_153 : xAt mX9_hull 153 (.isub) 1 154 := ⟨by decide +kernel, rfl⟩
theorem eX9_hull_154 : xAt mX9_hull 154 (.iaload) 1 155 := ⟨by decide +kernel, rfl⟩
theorem eX9_hull_155 : xAt mX9_hull 155 (.invokevirtual 158) 3 158 := ⟨by decide +kernel, rfl⟩
theorem eX9_hull_158 : xBr mX9_hull 158 (.ifCond .ge) (25) 161 183 := ⟨by decide +kernel, rfl, by decide⟩
theorem eX9_hull_161 : xAt mX9_hull 161 (.aload_n 0) 1 162 := ⟨by decide +kernel, rfl⟩
theorem eX9_hull_162 : xAt mX9_hull 162 (.getfield 91) 3 165 := ⟨by decide +kernel, rfl⟩
theorem eX9_hull_165 : xAt mX9_hull 165 (.iload 4) 2 167 := ⟨by decide +kernel, rfl⟩
theorem eX9_hull_167 : xAt mX9_hull 167 (.aload_n 0) 1 168 := ⟨by decide +kernel, rfl⟩
theorem eX9_hull_168 : xAt mX9_hull 168 (.getfield 91) 3 171 := ⟨by decide +kernel, rfl⟩
theorem eX9_hull_171 : xAt mX9_hull 171 (.iload 4) 2 173 := ⟨by decide +kernel, rfl⟩
theorem eX9_hull_173 : xAt mX9_hull 173 (.iconst 1) 1 174 := ⟨by decide +kernel, rfl⟩
theorem eX9_hull_174 : xAt mX9_hull 174 (.isub) 1 175 := ⟨by decide +kernel, rfl⟩
theorem eX9_hull_175 : xAt mX9_hull 175 (.iaload) 1 176 := ⟨by decide +kernel, rfl⟩
theorem eX9_hull_176 : xAt mX9_hull 176 (.iastore) 1 177 := ⟨by decide +kernel, rfl⟩
theorem eX9_hull_177 : xAt mX9_hull 177 (.iinc 4 (-1)) 3 180 := ⟨by decide +kernel, rfl⟩
theorem eX9_hull_180 : xBr mX9_hull 180 .goto (-41) 183 139 := ⟨by decide +kernel, rfl, by decide⟩
theorem eX9_hull_183 : xAt mX9_hull 183 (.aload_n 0) 1 184 := ⟨by decide +kernel, rfl⟩
theorem eX9_hull_184 : xAt mX9_hull 184 (.getfield 91) 3 187 := ⟨by decide +kernel, rfl⟩
theorem eX9_hull_187 : xAt mX9_hull 187 (.iload 4) 2 189 := ⟨by decide +kernel, rfl⟩
theorem eX9_hull_189 : xAt mX9_hull 189 (.iload_n 3) 1 190 := ⟨by decide +kernel, rfl⟩
theorem eX9_hull_190 : xAt mX9_hull 190 (.iastore) 1 191 := ⟨by decide +kernel, rfl⟩
theorem eX9_hull_191 : xAt mX9_hull 191 (.iinc 2 1) 3 194 := ⟨by decide +kernel, rfl⟩
theorem eX9_hull_194 : xAt mX9_hull 194 (.iinc 3 1) 3 197 := ⟨by decide +kernel, rfl⟩
theorem eX9_hull_197 : xBr mX9_hull 197 .goto (-78) 200 119 := ⟨by decide +kernel, rfl, by decide⟩
theorem eX9_hull_200 : xAt mX9_hull 200 (.aload_n 0) 1 201 := ⟨by decide +kernel, rfl⟩
theorem eX9_hull_201 : xAt mX9_hull 201 (.iconst 0) 1 202 := ⟨by decide +kernel, rfl⟩
theorem eX9_hull_202 : xAt mX9_hull 202 (.putfield 109) 3 205 := ⟨by decide +kernel, rfl⟩
theorem eX9_hull_205 : xAt mX9_hull 205 (.iconst 0) 1 206 := ⟨by decide +kernel, rfl⟩
theorem eX9_hull_206 : xAt mX9_hull 206 (.istore_n 3) 1 207 := ⟨by decide +kernel, rfl⟩
theorem eX9_hull_207 : xAt mX9_hull 207 (.iload_n 3) 1 208 := ⟨by decide +kernel, rfl⟩
theorem eX9_hull_208 : xAt mX9_hull 208 (.iload_n 2) 1 209 := ⟨by decide +kernel, rfl⟩
theorem eX9_hull_209 : xBr mX9_hull 209 (.if_icmp .ge) (20) 212 229 := ⟨by decide +kernel, rfl, by decide⟩
theorem eX9_hull_212 : xAt mX9_hull 212 (.aload_n 0) 1 213 := ⟨by decide +kernel, rfl⟩
theorem eX9_hull_213 : xAt mX9_hull 213 (.aload_n 0) 1 214 := ⟨by decide +kernel, rfl⟩
theorem eX9_hull_214 : xAt mX9_hull 214 (.getfield 91) 3 217 := ⟨by decide +kernel, rfl⟩
theorem eX9_hull_217 : xAt mX9_hull 217 (.iload_n 3) 1 218 := ⟨by decide +kernel, rfl⟩
theorem eX9_hull_218 : xAt mX9_hull 218 (.iaload) 1 219 := ⟨by decide +kernel, rfl⟩
theorem eX9_hull_219 : xAt mX9_hull 219 (.iconst 1) 1 220 := ⟨by decide +kernel, rfl⟩
theorem eX9_hull_220 : xAt mX9_hull 220 (.invokevirtual 303) 3 223 := ⟨by decide +kernel, rfl⟩
theorem eX9_hull_223 : xAt mX9_hull 223 (.iinc 3 1) 3 226 := ⟨by decide +kernel, rfl⟩
theorem eX9_hull_226 : xBr mX9_hull 226 .goto (-19) 229 207 := ⟨by decide +kernel, rfl, by decide⟩
theorem eX9_hull_229 : xAt mX9_hull 229 (.aload_n 0) 1 230 := ⟨by decide +kernel, rfl⟩
theorem eX9_hull_230 : xAt mX9_hull 230 (.getfield 109) 3 233 := ⟨by decide +kernel, rfl⟩
theorem eX9_hull_233 : xAt mX9_hull 233 (.istore_n 3) 1 234 := ⟨by decide +kernel, rfl⟩
theorem eX9_hull_234 : xAt mX9_hull 234 (.iload_n 2) 1 235 := ⟨by decide +kernel, rfl⟩
theorem eX9_hull_235 : xAt mX9_hull 235 (.iconst 2) 1 236 := ⟨by decide +kernel, rfl⟩
theorem eX9_hull_236 : xAt mX9_hull 236 (.isub) 1 237 := ⟨by decide +kernel, rfl⟩
theorem eX9_hull_237 : xAt mX9_hull 237 (.istore 4) 2 239 := ⟨by decide +kernel, rfl⟩
theorem eX9_hull_239 : xAt mX9_hull 239 (.iload 4) 2 241 := ⟨by decide +kernel, rfl⟩
theorem eX9_hull_241 : xBr mX9_hull 241 (.ifCond .lt) (21) 244 262 := ⟨by decide +kernel, rfl, by decide⟩
theorem eX9_hull_244 : xAt mX9_hull 244 (.aload_n 0) 1 245 := ⟨by decide +kernel, rfl⟩
theorem eX9_hull_245 : xAt mX9_hull 245 (.aload_n 0) 1 246 := ⟨by decide +kernel, rfl⟩
theorem eX9_hull_246 : xAt mX9_hull 246 (.getfield 91) 3 249 := ⟨by decide +kernel, rfl⟩
theorem eX9_hull_249 : xAt mX9_hull 249 (.iload 4) 2 251 := ⟨by decide +kernel, rfl⟩
theorem eX9_hull_251 : xAt mX9_hull 251 (.iaload) 1 252 := ⟨by decide +kernel, rfl⟩
theorem eX9_hull_252 : xAt mX9_hull 252 (.iload_n 3) 1 253 := ⟨by decide +kernel, rfl⟩
theorem eX9_hull_253 : xAt mX9_hull 253 (.invokevirtual 303) 3 256 := ⟨by decide +kernel, rfl⟩
theorem eX9_hull_256 : xAt mX9_hull 256 (.iinc 4 (-1)) 3 259 := ⟨by decide +kernel, rfl⟩
theorem eX9_hull_259 : xBr mX9_hull 259 .goto (-20) 262 239 := ⟨by decide +kernel, rfl, by decide⟩
theorem eX9_hull_262 : xAt mX9_hull 262 (.aload_n 0) 1 263 := ⟨by decide +kernel, rfl⟩
theorem eX9_hull_263 : xAt mX9_hull 263 (.dup) 1 264 := ⟨by decide +kernel, rfl⟩
theorem eX9_hull_264 : xAt mX9_hull 264 (.getfield 109) 3 267 := ⟨by decide +kernel, rfl⟩
theorem eX9_hull_267 : xAt mX9_hull 267 (.iconst 1) 1 268 := ⟨by decide +kernel, rfl⟩
theorem eX9_hull_268 : xAt mX9_hull 268 (.isub) 1 269 := ⟨by decide +kernel, rfl⟩
theorem eX9_hull_269 : xAt mX9_hull 269 (.putfield 109) 3 272 := ⟨by decide +kernel, rfl⟩
theorem eX9_hull_272 : xAt mX9_hull 272 (.aload_n 0) 1 273 := ⟨by decide +kernel, rfl⟩
theorem eX9_hull_273 : xAt mX9_hull 273 (.getfield 109) 3 276 := ⟨by decide +kernel, rfl⟩
theorem eX9_hull_276 : xAt mX9_hull 276 (.ireturn) 1 277 := ⟨by decide +kernel, rfl⟩
theorem eX9_comes_0 : xAt mX9_comes 0 (.aload_n 0) 1 1 := ⟨by decide +kernel, rfl⟩
theorem eX9_comes_1 : xAt mX9_comes 1 (.getfield 109) 3 4 := ⟨by decide +kernel, rfl⟩
theorem eX9_comes_4 : xAt mX9_comes 4 (.iload_n 2) 1 5 := ⟨by decide +kernel, rfl⟩
theorem eX9_comes_5 : xBr mX9_comes 5 (.if_icmp .le) (46) 8 51 := ⟨by decide +kernel, rfl, by decide⟩
theorem eX9_comes_8 : xAt mX9_comes 8 (.aload_n 0) 1 9 := ⟨by decide +kernel, rfl⟩
theorem eX9_comes_9 : xAt mX9_comes 9 (.aload_n 0) 1 10 := ⟨by decide +kernel, rfl⟩
theorem eX9_comes_10 : xAt mX9_comes 10 (.getfield 88) 3 13 := ⟨by decide +kernel, rfl⟩
theorem eX9_comes_13 : xAt mX9_comes 13 (.aload_n 0) 1 14 := ⟨by decide +kernel, rfl⟩
theorem eX9_comes_14 : xAt mX9_comes 14 (.getfield 109) 3 17 := ⟨by decide +kernel, rfl⟩
theorem eX9_comes_17 : xAt mX9_comes 17 (.iconst 2) 1 18 := ⟨by decide +kernel, rfl⟩
theorem eX9_comes_18 : xAt mX9_comes 18 (.isub) 1 19 := ⟨by decide +kernel, rfl⟩
theorem eX9_comes_19 : xAt mX9_comes 19 (.iaload) 1 20 := ⟨by decide +kernel, rfl⟩
theorem eX9_comes_20 : xAt mX9_comes 20 (.aload_n 0) 1 21 := ⟨by decide +kernel, rfl⟩
theorem eX9_comes_21 : xAt mX9_comes 21 (.getfield 88) 3 24 := ⟨by decide +kernel, rfl⟩
theorem eX9_comes_24 : xAt mX9_comes 24 (.aload_n 0) 1 25 := ⟨by decide +kernel, rfl⟩
theorem eX9_comes_25 : xAt mX9_comes 25 (.getfield 109) 3 28 := ⟨by decide +kernel, rfl⟩
theorem eX9_comes_28 : xAt mX9_comes 28 (.iconst 1) 1 29 := ⟨by decide +kernel, rfl⟩
theorem eX9_comes_29 : xAt mX9_comes 29 (.isub) 1 30 := ⟨by decide +kernel, rfl⟩
theorem eX9_comes_30 : xAt mX9_comes 30 (.iaload) 1 31 := ⟨by decide +kernel, rfl⟩
theorem eX9_comes_31 : xAt mX9_comes 31 (.iload_n 1) 1 32 := ⟨by decide +kernel, rfl⟩
theorem eX9_comes_32 : xAt mX9_comes 32 (.invokevirtual 162) 3 35 := ⟨by decide +kernel, rfl⟩
theorem eX9_comes_35 : xBr mX9_comes 35 (.ifCond .gt) (16) 38 51 := ⟨by decide +kernel, rfl, by decide⟩
theorem eX9_comes_38 : xAt mX9_comes 38 (.aload_n 0) 1 39 := ⟨by decide +kernel, rfl⟩
theorem eX9_comes_39 : xAt mX9_comes 39 (.dup) 1 40 := ⟨by decide +kernel, rfl⟩
theorem eX9_comes_40 : xAt mX9_comes 40 (.getfield 109) 3 43 := ⟨by decide +kernel, rfl⟩
theorem eX9_comes_43 : xAt mX9_comes 43 (.iconst 1) 1 44 := ⟨by decide +kernel, rfl⟩
theorem eX9_comes_44 : xAt mX9_comes 44 (.isub) 1 45 := ⟨by decide +kernel, rfl⟩
theorem eX9_comes_45 : xAt mX9_comes 45 (.putfield 109) 3 48 := ⟨by decide +kernel, rfl⟩
theorem eX9_comes_48 : xBr mX9_comes 48 .goto (-48) 51 0 := ⟨by decide +kernel, rfl, by decide⟩
theorem eX9_comes_51 : xAt mX9_comes 51 (.aload_n 0) 1 52 := ⟨by decide +kernel, rfl⟩
theorem eX9_comes_52 : xAt mX9_comes 52 (.getfield 88) 3 55 := ⟨by decide +kernel, rfl⟩
theorem eX9_comes_55 : xAt mX9_comes 55 (.aload_n 0) 1 56 := ⟨by decide +kernel, rfl⟩
theorem eX9_comes_56 : xAt mX9_comes 56 (.getfield 109) 3 59 := ⟨by decide +kernel, rfl⟩
theorem eX9_comes_59 : xAt mX9_comes 59 (.iload_n 1) 1 60 := ⟨by decide +kernel, rfl⟩
theorem eX9_comes_60 : xAt mX9_comes 60 (.iastore) 1 61 := ⟨by decide +kernel, rfl⟩
theorem eX9_comes_61 : xAt mX9_comes 61 (.aload_n 0) 1 62 := ⟨by decide +kernel, rfl⟩
theorem eX9_comes_62 : xAt mX9_comes 62 (.dup) 1 63 := ⟨by decide +kernel, rfl⟩
theorem eX9_comes_63 : xAt mX9_comes 63 (.getfield 109) 3 66 := ⟨by decide +kernel, rfl⟩
theorem eX9_comes_66 : xAt mX9_comes 66 (.iconst 1) 1 67 := ⟨by decide +kernel, rfl⟩
theorem eX9_comes_67 : xAt mX9_comes 67 (.iadd) 1 68 := ⟨by decide +kernel, rfl⟩
theorem eX9_comes_68 : xAt mX9_comes 68 (.putfield 109) 3 71 := ⟨by decide +kernel, rfl⟩
theorem eX9_comes_71 : xAt mX9_comes 71 (.return_) 1 72 := ⟨by decide +kernel, rfl⟩
theorem eX9_hullAt_0 : xAt mX9_hullAt 0 (.iload_n 1) 1 1 := ⟨by decide +kernel, rfl⟩
theorem eX9_hullAt_1 : xAt mX9_hullAt 1 (.iconst 0) 1 2 := ⟨by decide +kernel, rfl⟩
theorem eX9_hullAt_2 : xAt mX9_hullAt 2 (.aload_n 0) 1 3 := ⟨by decide +kernel, rfl⟩
theorem eX9_hullAt_3 : xAt mX9_hullAt 3 (.getfield 109) 3 6 := ⟨by decide +kernel, rfl⟩
theorem eX9_hullAt_6 : xAt mX9_hullAt 6 (.iconst 1) 1 7 := ⟨by decide +kernel, rfl⟩
theorem eX9_hullAt_7 : xAt mX9_hullAt 7 (.isub) 1 8 := ⟨by decide +kernel, rfl⟩
theorem eX9_hullAt_8 : xAt mX9_hullAt 8 (.invokestatic 173) 3 11 := ⟨by decide +kernel, rfl⟩
theorem eX9_hullAt_11 : xBr mX9_hullAt 11 (.ifCond .eq) (12) 14 23 := ⟨by decide +kernel, rfl, by decide⟩
theorem eX9_hullAt_14 : xAt mX9_hullAt 14 (.aload_n 0) 1 15 := ⟨by decide +kernel, rfl⟩
theorem eX9_hullAt_15 : xAt mX9_hullAt 15 (.getfield 88) 3 18 := ⟨by decide +kernel, rfl⟩
theorem eX9_hullAt_18 : xAt mX9_hullAt 18 (.iload_n 1) 1 19 := ⟨by decide +kernel, rfl⟩
theorem eX9_hullAt_19 : xAt mX9_hullAt 19 (.iaload) 1 20 := ⟨by decide +kernel, rfl⟩
theorem eX9_hullAt_20 : xBr mX9_hullAt 20 .goto (4) 23 24 := ⟨by decide +kernel, rfl, by decide⟩
theorem eX9_hullAt_23 : xAt mX9_hullAt 23 (.iconst (-1)) 1 24 := ⟨by decide +kernel, rfl⟩
theorem eX9_hullAt_24 : xAt mX9_hullAt 24 (.ireturn) 1 25 := ⟨by decide +kernel, rfl⟩
theorem eX9_weigh_0 : xAt mX9_weigh 0 (.aload_n 0) 1 1 := ⟨by decide +kernel, rfl⟩
theorem eX9_weigh_1 : xAt mX9_weigh 1 (.getfield 97) 3 4 := ⟨by decide +kernel, rfl⟩
theorem eX9_weigh_4 : xAt mX9_weigh 4 (.bipush 10) 2 6 := ⟨by decide +kernel, rfl⟩
theorem eX9_weigh_6 : xAt mX9_weigh 6 (.iload_n 1) 1 7 := ⟨by decide +kernel, rfl⟩
theorem eX9_weigh_7 : xAt mX9_weigh 7 (.imul) 1 8 := ⟨by decide +kernel, rfl⟩
theorem eX9_weigh_8 : xAt mX9_weigh 8 (.bipush 10) 2 10 := ⟨by decide +kernel, rfl⟩
theorem eX9_weigh_10 : xAt mX9_weigh 10 (.invokestatic 144) 3 13 := ⟨by decide +kernel, rfl⟩
theorem eX9_weigh_13 : xAt mX9_weigh 13 (.iconst 0) 1 14 := ⟨by decide +kernel, rfl⟩
theorem eX9_weigh_14 : xAt mX9_weigh 14 (.istore_n 2) 1 15 := ⟨by decide +kernel, rfl⟩
theorem eX9_weigh_15 : xAt mX9_weigh 15 (.iload_n 2) 1 16 := ⟨by decide +kernel, rfl⟩
theorem eX9_weigh_16 : xAt mX9_weigh 16 (.aload_n 0) 1 17 := ⟨by decide +kernel, rfl⟩
theorem eX9_weigh_17 : xAt mX9_weigh 17 (.getfield 58) 3 20 := ⟨by decide +kernel, rfl⟩
theorem eX9_weigh_20 : xAt mX9_weigh 20 (.iload_n 1) 1 21 := ⟨by decide +kernel, rfl⟩
theorem eX9_weigh_21 : xAt mX9_weigh 21 (.iaload) 1 22 := ⟨by decide +kernel, rfl⟩
theorem eX9_weigh_22 : xBr mX9_weigh 22 (.if_icmp .ge) (85) 25 107 := ⟨by decide +kernel, rfl, by decide⟩
theorem eX9_weigh_25 : xAt mX9_weigh 25 (.aload_n 0) 1 26 := ⟨by decide +kernel, rfl⟩
theorem eX9_weigh_26 : xAt mX9_weigh 26 (.aload_n 0) 1 27 := ⟨by decide +kernel, rfl⟩
theorem eX9_weigh_27 : xAt mX9_weigh 27 (.getfield 16) 3 30 := ⟨by decide +kernel, rfl⟩
theorem eX9_weigh_30 : xAt mX9_weigh 30 (.aload_n 0) 1 31 := ⟨by decide +kernel, rfl⟩
theorem eX9_weigh_31 : xAt mX9_weigh 31 (.iload_n 1) 1 32 := ⟨by decide +kernel, rfl⟩
theorem eX9_weigh_32 : xAt mX9_weigh 32 (.iload_n 2) 1 33 := ⟨by decide +kernel, rfl⟩
theorem eX9_weigh_33 : xAt mX9_weigh 33 (.invokevirtual 241) 3 36 := ⟨by decide +kernel, rfl⟩
theorem eX9_weigh_36 : xAt mX9_weigh 36 (.iconst (-1)) 1 37 := ⟨by decide +kernel, rfl⟩
theorem eX9_weigh_37 : xAt mX9_weigh 37 (.aload_n 0) 1 38 := ⟨by decide +kernel, rfl⟩
theorem eX9_weigh_38 : xAt mX9_weigh 38 (.getfield 19) 3 41 := ⟨by decide +kernel, rfl⟩
theorem eX9_weigh_41 : xAt mX9_weigh 41 (.aload_n 0) 1 42 := ⟨by decide +kernel, rfl⟩
theorem eX9_weigh_42 : xAt mX9_weigh 42 (.iload_n 1) 1 43 := ⟨by decide +kernel, rfl⟩
theorem eX9_weigh_43 : xAt mX9_weigh 43 (.iload_n 2) 1 44 := ⟨by decide +kernel, rfl⟩
theorem eX9_weigh_44 : xAt mX9_weigh 44 (.iconst 1) 1 45 := ⟨by decide +kernel, rfl⟩
theorem eX9_weigh_45 : xAt mX9_weigh 45 (.iadd) 1 46 := ⟨by decide +kernel, rfl⟩
theorem eX9_weigh_46 : xAt mX9_weigh 46 (.invokevirtual 241) 3 49 := ⟨by decide +kernel, rfl⟩
theorem eX9_weigh_49 : xAt mX9_weigh 49 (.iconst (-1)) 1 50 := ⟨by decide +kernel, rfl⟩
theorem eX9_weigh_50 : xAt mX9_weigh 50 (.aload_n 0) 1 51 := ⟨by decide +kernel, rfl⟩
theorem eX9_weigh_51 : xAt mX9_weigh 51 (.getfield 97) 3 54 := ⟨by decide +kernel, rfl⟩
theorem eX9_weigh_54 : xAt mX9_weigh 54 (.bipush 10) 2 56 := ⟨by decide +kernel, rfl⟩
theorem eX9_weigh_56 : xAt mX9_weigh 56 (.iload_n 1) 1 57 := ⟨by decide +kernel, rfl⟩
theorem eX9_weigh_57 : xAt mX9_weigh 57 (.imul) 1 58 := ⟨by decide +kernel, rfl⟩
theorem eX9_weigh_58 : xAt mX9_weigh 58 (.lconst 1) 1 59 := ⟨by decide +kernel, rfl⟩
theorem eX9_weigh_59 : xAt mX9_weigh 59 (.invokevirtual 147) 3 62 := ⟨by decide +kernel, rfl⟩
theorem eX9_weigh_62 : xAt mX9_weigh 62 (.aload_n 0) 1 63 := ⟨by decide +kernel, rfl⟩
theorem eX9_weigh_63 : xAt mX9_weigh 63 (.aload_n 0) 1 64 := ⟨by decide +kernel, rfl⟩
theorem eX9_weigh_64 : xAt mX9_weigh 64 (.getfield 19) 3 67 := ⟨by decide +kernel, rfl⟩
theorem eX9_weigh_67 : xAt mX9_weigh 67 (.aload_n 0) 1 68 := ⟨by decide +kernel, rfl⟩
theorem eX9_weigh_68 : xAt mX9_weigh 68 (.iload_n 1) 1 69 := ⟨by decide +kernel, rfl⟩
theorem eX9_weigh_69 : xAt mX9_weigh 69 (.iload_n 2) 1 70 := ⟨by decide +kernel, rfl⟩
theorem eX9_weigh_70 : xAt mX9_weigh 70 (.invokevirtual 241) 3 73 := ⟨by decide +kernel, rfl⟩
theorem eX9_weigh_73 : xAt mX9_weigh 73 (.iconst (-1)) 1 74 := ⟨by decide +kernel, rfl⟩
theorem eX9_weigh_74 : xAt mX9_weigh 74 (.aload_n 0) 1 75 := ⟨by decide +kernel, rfl⟩
theorem eX9_weigh_75 : xAt mX9_weigh 75 (.getfield 16) 3 78 := ⟨by decide +kernel, rfl⟩
theorem eX9_weigh_78 : xAt mX9_weigh 78 (.aload_n 0) 1 79 := ⟨by decide +kernel, rfl⟩
theorem eX9_weigh_79 : xAt mX9_weigh 79 (.iload_n 1) 1 80 := ⟨by decide +kernel, rfl⟩
theorem eX9_weigh_80 : xAt mX9_weigh 80 (.iload_n 2) 1 81 := ⟨by decide +kernel, rfl⟩
theorem eX9_weigh_81 : xAt mX9_weigh 81 (.iconst 1) 1 82 := ⟨by decide +kernel, rfl⟩
theorem eX9_weigh_82 : xAt mX9_weigh 82 (.iadd) 1 83 := ⟨by decide +kernel, rfl⟩
theorem eX9_weigh_83 : xAt mX9_weigh 83 (.invokevirtual 241) 3 86 := ⟨by decide +kernel, rfl⟩
theorem eX9_weigh_86 : xAt mX9_weigh 86 (.iconst (-1)) 1 87 := ⟨by decide +kernel, rfl⟩
theorem eX9_weigh_87 : xAt mX9_weigh 87 (.aload_n 0) 1 88 := ⟨by decide +kernel, rfl⟩
theorem eX9_weigh_88 : xAt mX9_weigh 88 (.getfield 97) 3 91 := ⟨by decide +kernel, rfl⟩
theorem eX9_weigh_91 : xAt mX9_weigh 91 (.bipush 10) 2 93 := ⟨by decide +kernel, rfl⟩
theorem eX9_weigh_93 : xAt mX9_weigh 93 (.iload_n 1) 1 94 := ⟨by decide +kernel, rfl⟩
theorem eX9_weigh_94 : xAt mX9_weigh 94 (.imul) 1 95 := ⟨by decide +kernel, rfl⟩
theorem eX9_weigh_95 : xAt mX9_weigh 95 (.ldc2_w 126) 3 98 := ⟨by decide +kernel, rfl⟩
theorem eX9_weigh_98 : xAt mX9_weigh 98 (.invokevirtual 147) 3 101 := ⟨by decide +kernel, rfl⟩
theorem eX9_weigh_101 : xAt mX9_weigh 101 (.iinc 2 1) 3 104 := ⟨by decide +kernel, rfl⟩
theorem eX9_weigh_104 : xBr mX9_weigh 104 .goto (-89) 107 15 := ⟨by decide +kernel, rfl, by decide⟩
theorem eX9_weigh_107 : xAt mX9_weigh 107 (.return_) 1 108 := ⟨by decide +kernel, rfl⟩
theorem eX9_twice_0 : xAt mX9_twice 0 (.aload_n 0) 1 1 := ⟨by decide +kernel, rfl⟩
theorem eX9_twice_1 : xAt mX9_twice 1 (.iload_n 1) 1 2 := ⟨by decide +kernel, rfl⟩
theorem eX9_twice_2 : xAt mX9_twice 2 (.invokevirtual 284) 3 5 := ⟨by decide +kernel, rfl⟩
theorem eX9_twice_5 : xBr mX9_twice 5 (.ifCond .ne) (7) 8 12 := ⟨by decide +kernel, rfl, by decide⟩
theorem eX9_twice_8 : xAt mX9_twice 8 (.ldc2_w 188) 3 11 := ⟨by decide +kernel, rfl⟩
theorem eX9_twice_11 : xAt mX9_twice 11 (.lreturn) 1 12 := ⟨by decide +kernel, rfl⟩
theorem eX9_twice_12 : xAt mX9_twice 12 (.aload_n 0) 1 13 := ⟨by decide +kernel, rfl⟩
theorem eX9_twice_13 : xAt mX9_twice 13 (.iload_n 1) 1 14 := ⟨by decide +kernel, rfl⟩
theorem eX9_twice_14 : xAt mX9_twice 14 (.invokevirtual 306) 3 17 := ⟨by decide +kernel, rfl⟩
theorem eX9_twice_17 : xAt mX9_twice 17 (.aload_n 0) 1 18 := ⟨by decide +kernel, rfl⟩
theorem eX9_twice_18 : xAt mX9_twice 18 (.getfield 97) 3 21 := ⟨by decide +kernel, rfl⟩
theorem eX9_twice_21 : xAt mX9_twice 21 (.bipush 10) 2 23 := ⟨by decide +kernel, rfl⟩
theorem eX9_twice_23 : xAt mX9_twice 23 (.iload_n 1) 1 24 := ⟨by decide +kernel, rfl⟩
theorem eX9_twice_24 : xAt mX9_twice 24 (.imul) 1 25 := ⟨by decide +kernel, rfl⟩
theorem eX9_twice_25 : xAt mX9_twice 25 (.bipush 9) 2 27 := ⟨by decide +kernel, rfl⟩
theorem eX9_twice_27 : xAt mX9_twice 27 (.iadd) 1 28 := ⟨by decide +kernel, rfl⟩
theorem eX9_twice_28 : xAt mX9_twice 28 (.laload) 1 29 := ⟨by decide +kernel, rfl⟩
theorem eX9_twice_29 : xAt mX9_twice 29 (.lstore_n 2) 1 30 := ⟨by decide +kernel, rfl⟩
theorem eX9_twice_30 : xAt mX9_twice 30 (.bipush 8) 2 32 := ⟨by decide +kernel, rfl⟩
theorem eX9_twice_32 : xAt mX9_twice 32 (.istore 4) 2 34 := ⟨by decide +kernel, rfl⟩
theorem eX9_twice_34 : xAt mX9_twice 34 (.iload 4) 2 36 := ⟨by decide +kernel, rfl⟩
theorem eX9_twice_36 : xAt mX9_twice 36 (.bipush 6) 2 38 := ⟨by decide +kernel, rfl⟩
theorem eX9_twice_38 : xBr mX9_twice 38 (.if_icmp .lt) (27) 41 65 := ⟨by decide +kernel, rfl, by decide⟩
theorem eX9_twice_41 : xAt mX9_twice 41 (.lload_n 2) 1 42 := ⟨by decide +kernel, rfl⟩
theorem eX9_twice_42 : xAt mX9_twice 42 (.bipush 24) 2 44 := ⟨by decide +kernel, rfl⟩
theorem eX9_twice_44 : xAt mX9_twice 44 (.lshl) 1 45 := ⟨by decide +kernel, rfl⟩
theorem eX9_twice_45 : xAt mX9_twice 45 (.aload_n 0) 1 46 := ⟨by decide +kernel, rfl⟩
theorem eX9_twice_46 : xAt mX9_twice 46 (.getfield 97) 3 49 := ⟨by decide +kernel, rfl⟩
theorem eX9_twice_49 : xAt mX9_twice 49 (.bipush 10) 2 51 := ⟨by decide +kernel, rfl⟩
theorem eX9_twice_51 : xAt mX9_twice 51 (.iload_n 1) 1 52 := ⟨by decide +kernel, rfl⟩
theorem eX9_twice_52 : xAt mX9_twice 52 (.imul) 1 53 := ⟨by decide +kernel, rfl⟩
theorem eX9_twice_53 : xAt mX9_twice 53 (.iload 4) 2 55 := ⟨by decide +kernel, rfl⟩
theorem eX9_twice_55 : xAt mX9_twice 55 (.iadd) 1 56 := ⟨by decide +kernel, rfl⟩
theorem eX9_twice_56 : xAt mX9_twice 56 (.laload) 1 57 := ⟨by decide +kernel, rfl⟩
theorem eX9_twice_57 : xAt mX9_twice 57 (.lor) 1 58 := ⟨by decide +kernel, rfl⟩
theorem eX9_twice_58 : xAt mX9_twice 58 (.lstore_n 2) 1 59 := ⟨by decide +kernel, rfl⟩
theorem eX9_twice_59 : xAt mX9_twice 59 (.iinc 4 (-1)) 3 62 := ⟨by decide +kernel, rfl⟩
theorem eX9_twice_62 : xBr mX9_twice 62 .goto (-28) 65 34 := ⟨by decide +kernel, rfl, by decide⟩
theorem eX9_twice_65 : xAt mX9_twice 65 (.lload_n 2) 1 66 := ⟨by decide +kernel, rfl⟩
theorem eX9_twice_66 : xAt mX9_twice 66 (.iconst 2) 1 67 := ⟨by decide +kernel, rfl⟩
theorem eX9_twice_67 : xAt mX9_twice 67 (.lshr) 1 68 := ⟨by decide +kernel, rfl⟩
theorem eX9_twice_68 : xAt mX9_twice 68 (.lreturn) 1 69 := ⟨by decide +kernel, rfl⟩
theorem eX9_compare_0 : xAt mX9_compare 0 (.aload_n 0) 1 1 := ⟨by decide +kernel, rfl⟩
theorem eX9_compare_1 : xAt mX9_compare 1 (.iload_n 1) 1 2 := ⟨by decide +kernel, rfl⟩
theorem eX9_compare_2 : xAt mX9_compare 2 (.invokevirtual 284) 3 5 := ⟨by decide +kernel, rfl⟩
theorem eX9_compare_5 : xBr mX9_compare 5 (.ifCond .eq) (11) 8 16 := ⟨by decide +kernel, rfl, by decide⟩
theorem eX9_compare_8 : xAt mX9_compare 8 (.aload_n 0) 1 9 := ⟨by decide +kernel, rfl⟩
theorem eX9_compare_9 : xAt mX9_compare 9 (.iload_n 2) 1 10 := ⟨by decide +kernel, rfl⟩
theorem eX9_compare_10 : xAt mX9_compare 10 (.invokevirtual 284) 3 13 := ⟨by decide +kernel, rfl⟩
theorem eX9_compare_13 : xBr mX9_compare 13 (.ifCond .ne) (6) 16 19 := ⟨by decide +kernel, rfl, by decide⟩
theorem eX9_compare_16 : xAt mX9_compare 16 (.bipush (-101)) 2 18 := ⟨by decide +kernel, rfl⟩
theorem eX9_compare_18 : xAt mX9_compare 18 (.ireturn) 1 19 := ⟨by decide +kernel, rfl⟩
theorem eX9_compare_19 : xAt mX9_compare 19 (.aload_n 0) 1 20 := ⟨by decide +kernel, rfl⟩
theorem eX9_compare_20 : xAt mX9_compare 20 (.iload_n 1) 1 21 := ⟨by decide +kernel, rfl⟩
theorem eX9_compare_21 : xAt mX9_compare 21 (.invokevirtual 306) 3 24 := ⟨by decide +kernel, rfl⟩
theorem eX9_compare_24 : xAt mX9_compare 24 (.aload_n 0) 1 25 := ⟨by decide +kernel, rfl⟩
theorem eX9_compare_25 : xAt mX9_compare 25 (.iload_n 2) 1 26 := ⟨by decide +kernel, rfl⟩
theorem eX9_compare_26 : xAt mX9_compare 26 (.invokevirtual 306) 3 29 := ⟨by decide +kernel, rfl⟩
theorem eX9_compare_29 : xAt mX9_compare 29 (.aload_n 0) 1 30 := ⟨by decide +kernel, rfl⟩
theorem eX9_compare_30 : xAt mX9_compare 30 (.getfield 97) 3 33 := ⟨by decide +kernel, rfl⟩
theorem eX9_compare_33 : xAt mX9_compare 33 (.bipush 10) 2 35 := ⟨by decide +kernel, rfl⟩
theorem eX9_compare_35 : xAt mX9_compare 35 (.iload_n 1) 1 36 := ⟨by decide +kernel, rfl⟩
theorem eX9_compare_36 : xAt mX9_compare 36 (.imul) 1 37 := ⟨by decide +kernel, rfl⟩
theorem eX9_compare_37 : xAt mX9_compare 37 (.aload_n 0) 1 38 := ⟨by decide +kernel, rfl⟩
theorem eX9_compare_38 : xAt mX9_compare 38 (.getfield 97) 3 41 := ⟨by decide +kernel, rfl⟩
theorem eX9_compare_41 : xAt mX9_compare 41 (.bipush 10) 2 43 := ⟨by decide +kernel, rfl⟩
theorem eX9_compare_43 : xAt mX9_compare 43 (.iload_n 2) 1 44 := ⟨by decide +kernel, rfl⟩
theorem eX9_compare_44 : xAt mX9_compare 44 (.imul) 1 45 := ⟨by decide +kernel, rfl⟩
theorem eX9_compare_45 : xAt mX9_compare 45 (.invokestatic 208) 3 48 := ⟨by decide +kernel, rfl⟩
theorem eX9_compare_48 : xBr mX9_compare 48 (.ifCond .eq) (7) 51 55 := ⟨by decide +kernel, rfl, by decide⟩
theorem eX9_compare_51 : xAt mX9_compare 51 (.iconst (-1)) 1 52 := ⟨by decide +kernel, rfl⟩
theorem eX9_compare_52 : xBr mX9_compare 52 .goto (30) 55 82 := ⟨by decide +kernel, rfl, by decide⟩
theorem eX9_compare_55 : xAt mX9_compare 55 (.aload_n 0) 1 56 := ⟨by decide +kernel, rfl⟩
theorem eX9_compare_56 : xAt mX9_compare 56 (.getfield 97) 3 59 := ⟨by decide +kernel, rfl⟩
theorem eX9_compare_59 : xAt mX9_compare 59 (.bipush 10) 2 61 := ⟨by decide +kernel, rfl⟩
theorem eX9_compare_61 : xAt mX9_compare 61 (.iload_n 2) 1 62 := ⟨by decide +kernel, rfl⟩
theorem eX9_compare_62 : xAt mX9_compare 62 (.imul) 1 63 := ⟨by decide +kernel, rfl⟩
theorem eX9_compare_63 : xAt mX9_compare 63 (.aload_n 0) 1 64 := ⟨by decide +kernel, rfl⟩
theorem eX9_compare_64 : xAt mX9_compare 64 (.getfield 97) 3 67 := ⟨by decide +kernel, rfl⟩
theorem eX9_compare_67 : xAt mX9_compare 67 (.bipush 10) 2 69 := ⟨by decide +kernel, rfl⟩
theorem eX9_compare_69 : xAt mX9_compare 69 (.iload_n 1) 1 70 := ⟨by decide +kernel, rfl⟩
theorem eX9_compare_70 : xAt mX9_compare 70 (.imul) 1 71 := ⟨by decide +kernel, rfl⟩
theorem eX9_compare_71 : xAt mX9_compare 71 (.invokestatic 208) 3 74 := ⟨by decide +kernel, rfl⟩
theorem eX9_compare_74 : xBr mX9_compare 74 (.ifCond .eq) (7) 77 81 := ⟨by decide +kernel, rfl, by decide⟩
theorem eX9_compare_77 : xAt mX9_compare 77 (.iconst 1) 1 78 := ⟨by decide +kernel, rfl⟩
theorem eX9_compare_78 : xBr mX9_compare 78 .goto (4) 81 82 := ⟨by decide +kernel, rfl, by decide⟩
theorem eX9_compare_81 : xAt mX9_compare 81 (.iconst 0) 1 82 := ⟨by decide +kernel, rfl⟩
theorem eX9_compare_82 : xAt mX9_compare 82 (.ireturn) 1 83 := ⟨by decide +kernel, rfl⟩
theorem eX9_quota_0 : xAt mX9_quota 0 (.aload_n 0) 1 1 := ⟨by decide +kernel, rfl⟩
theorem eX9_quota_1 : xAt mX9_quota 1 (.iload_n 1) 1 2 := ⟨by decide +kernel, rfl⟩
theorem eX9_quota_2 : xAt mX9_quota 2 (.invokevirtual 284) 3 5 := ⟨by decide +kernel, rfl⟩
theorem eX9_quota_5 : xBr mX9_quota 5 (.ifCond .ne) (6) 8 11 := ⟨by decide +kernel, rfl, by decide⟩
theorem eX9_quota_8 : xAt mX9_quota 8 (.bipush (-101)) 2 10 := ⟨by decide +kernel, rfl⟩
theorem eX9_quota_10 : xAt mX9_quota 10 (.ireturn) 1 11 := ⟨by decide +kernel, rfl⟩
theorem eX9_quota_11 : xAt mX9_quota 11 (.iload_n 2) 1 12 := ⟨by decide +kernel, rfl⟩
theorem eX9_quota_12 : xAt mX9_quota 12 (.iconst 0) 1 13 := ⟨by decide +kernel, rfl⟩
theorem eX9_quota_13 : xAt mX9_quota 13 (.sipush 1000) 3 16 := ⟨by decide +kernel, rfl⟩
theorem eX9_quota_16 : xAt mX9_quota 16 (.invokestatic 173) 3 19 := ⟨by decide +kernel, rfl⟩
theorem eX9_quota_19 : xBr mX9_quota 19 (.ifCond .ne) (6) 22 25 := ⟨by decide +kernel, rfl, by decide⟩
theorem eX9_quota_22 : xAt mX9_quota 22 (.bipush (-102)) 2 24 := ⟨by decide +kernel, rfl⟩
theorem eX9_quota_24 : xAt mX9_quota 24 (.ireturn) 1 25 := ⟨by decide +kernel, rfl⟩
theorem eX9_quota_25 : xAt mX9_quota 25 (.aload_n 0) 1 26 := ⟨by decide +kernel, rfl⟩
theorem eX9_quota_26 : xAt mX9_quota 26 (.getfield 100) 3 29 := ⟨by decide +kernel, rfl⟩
theorem eX9_quota_29 : xAt mX9_quota 29 (.iconst 0) 1 30 := ⟨by decide +kernel, rfl⟩
theorem eX9_quota_30 : xAt mX9_quota 30 (.bipush 10) 2 32 := ⟨by decide +kernel, rfl⟩
theorem eX9_quota_32 : xAt mX9_quota 32 (.invokestatic 144) 3 35 := ⟨by decide +kernel, rfl⟩
theorem eX9_quota_35 : xAt mX9_quota 35 (.iconst 0) 1 36 := ⟨by decide +kernel, rfl⟩
theorem eX9_quota_36 : xAt mX9_quota 36 (.istore_n 3) 1 37 := ⟨by decide +kernel, rfl⟩
theorem eX9_quota_37 : xAt mX9_quota 37 (.iload_n 3) 1 38 := ⟨by decide +kernel, rfl⟩
theorem eX9_quota_38 : xAt mX9_quota 38 (.aload_n 0) 1 39 := ⟨by decide +kernel, rfl⟩
theorem eX9_quota_39 : xAt mX9_quota 39 (.getfield 224) 3 42 := ⟨by decide +kernel, rfl⟩
theorem eX9_quota_42 : xBr mX9_quota 42 (.if_icmp .ge) (86) 45 128 := ⟨by decide +kernel, rfl, by decide⟩
theorem eX9_quota_45 : xAt mX9_quota 45 (.aload_n 0) 1 46 := ⟨by decide +kernel, rfl⟩
theorem eX9_quota_46 : xAt mX9_quota 46 (.getfield 48) 3 49 := ⟨by decide +kernel, rfl⟩
theorem eX9_quota_49 : xAt mX9_quota 49 (.iload_n 3) 1 50 := ⟨by decide +kernel, rfl⟩
theorem eX9_quota_50 : xAt mX9_quota 50 (.baload) 1 51 := ⟨by decide +kernel, rfl⟩
theorem eX9_quota_51 : xBr mX9_quota 51 (.ifCond .eq) (71) 54 122 := ⟨by decide +kernel, rfl, by decide⟩
theorem eX9_quota_54 : xAt mX9_quota 54 (.aload_n 0) 1 55 := ⟨by decide +kernel, rfl⟩
theorem eX9_quota_55 : xAt mX9_quota 55 (.getfield 52) 3 58 := ⟨by decide +kernel, rfl⟩
theorem eX9_quota_58 : xAt mX9_quota 58 (.iload_n 3) 1 59 := ⟨by decide +kernel, rfl⟩
theorem eX9_quota_59 : xAt mX9_quota 59 (.iaload) 1 60 := ⟨by decide +kernel, rfl⟩
theorem eX9_quota_60 : xAt mX9_quota 60 (.aload_n 0) 1 61 := ⟨by decide +kernel, rfl⟩
theorem eX9_quota_61 : xAt mX9_quota 61 (.getfield 52) 3 64 := ⟨by decide +kernel, rfl⟩
theorem eX9_quota_64 : xAt mX9_quota 64 (.iload_n 1) 1 65 := ⟨by decide +kernel, rfl⟩
theorem eX9_quota_65 : xAt mX9_quota 65 (.iaload) 1 66 := ⟨by decide +kernel, rfl⟩
theorem eX9_quota_66 : xBr mX9_quota 66 (.if_icmp .ne) (56) 69 122 := ⟨by decide +kernel, rfl, by decide⟩
theorem eX9_quota_69 : xAt mX9_quota 69 (.aload_n 0) 1 70 := ⟨by decide +kernel, rfl⟩
theorem eX9_quota_70 : xAt mX9_quota 70 (.iload_n 3) 1 71 := ⟨by decide +kernel, rfl⟩
theorem eX9_quota_71 : xAt mX9_quota 71 (.invokevirtual 306) 3 74 := ⟨by decide +kernel, rfl⟩
theorem eX9_quota_74 : xAt mX9_quota 74 (.iconst 0) 1 75 := ⟨by decide +kernel, rfl⟩
theorem eX9_quota_75 : xAt mX9_quota 75 (.istore 4) 2 77 := ⟨by decide +kernel, rfl⟩
theorem eX9_quota_77 : xAt mX9_quota 77 (.iload 4) 2 79 := ⟨by decide +kernel, rfl⟩
theorem eX9_quota_79 : xAt mX9_quota 79 (.bipush 10) 2 81 := ⟨by decide +kernel, rfl⟩
theorem eX9_quota_81 : xBr mX9_quota 81 (.if_icmp .ge) (31) 84 112 := ⟨by decide +kernel, rfl, by decide⟩
theorem eX9_quota_84 : xAt mX9_quota 84 (.aload_n 0) 1 85 := ⟨by decide +kernel, rfl⟩
theorem eX9_quota_85 : xAt mX9_quota 85 (.getfield 100) 3 88 := ⟨by decide +kernel, rfl⟩
theorem eX9_quota_88 : xAt mX9_quota 88 (.iload 4) 2 90 := ⟨by decide +kernel, rfl⟩
theorem eX9_quota_90 : xAt mX9_quota 90 (.dup2) 1 91 := ⟨by decide +kernel, rfl⟩
theorem eX9_quota_91 : xAt mX9_quota 91 (.laload) 1 92 := ⟨by decide +kernel, rfl⟩
theorem eX9_quota_92 : xAt mX9_quota 92 (.aload_n 0) 1 93 := ⟨by decide +kernel, rfl⟩
theorem eX9_quota_93 : xAt mX9_quota 93 (.getfield 97) 3 96 := ⟨by decide +kernel, rfl⟩
theorem eX9_quota_96 : xAt mX9_quota 96 (.bipush 10) 2 98 := ⟨by decide +kernel, rfl⟩
theorem eX9_quota_98 : xAt mX9_quota 98 (.iload_n 3) 1 99 := ⟨by decide +kernel, rfl⟩
theorem eX9_quota_99 : xAt mX9_quota 99 (.imul) 1 100 := ⟨by decide +kernel, rfl⟩
theorem eX9_quota_100 : xAt mX9_quota 100 (.iload 4) 2 102 := ⟨by decide +kernel, rfl⟩
theorem eX9_quota_102 : xAt mX9_quota 102 (.iadd) 1 103 := ⟨by decide +kernel, rfl⟩
theorem eX9_quota_103 : xAt mX9_quota 103 (.laload) 1 104 := ⟨by decide +kernel, rfl⟩
theorem eX9_quota_104 : xAt mX9_quota 104 (.ladd) 1 105 := ⟨by decide +kernel, rfl⟩
theorem eX9_quota_105 : xAt mX9_quota 105 (.lastore) 1 106 := ⟨by decide +kernel, rfl⟩
theorem eX9_quota_106 : xAt mX9_quota 106 (.iinc 4 1) 3 109 := ⟨by decide +kernel, rfl⟩
theorem eX9_quota_109 : xBr mX9_quota 109 .goto (-32) 112 77 := ⟨by decide +kernel, rfl, by decide⟩
theorem eX9_quota_112 : xAt mX9_quota 112 (.aload_n 0) 1 113 := ⟨by decide +kernel, rfl⟩
theorem eX9_quota_113 : xAt mX9_quota 113 (.getfield 100) 3 116 := ⟨by decide +kernel, rfl⟩
theorem eX9_quota_116 : xAt mX9_quota 116 (.iconst 0) 1 117 := ⟨by decide +kernel, rfl⟩
theorem eX9_quota_117 : xAt mX9_quota 117 (.bipush 10) 2 119 := ⟨by decide +kernel, rfl⟩
theorem eX9_quota_119 : xAt mX9_quota 119 (.invokestatic 128) 3 122 := ⟨by decide +kernel, rfl⟩
theorem eX9_quota_122 : xAt mX9_quota 122 (.iinc 3 1) 3 125 := ⟨by decide +kernel, rfl⟩
theorem eX9_quota_125 : xBr mX9_quota 125 .goto (-88) 128 37 := ⟨by decide +kernel, rfl, by decide⟩
theorem eX9_quota_128 : xAt mX9_quota 128 (.iload_n 2) 1 129 := ⟨by decide +kernel, rfl⟩
theorem eX9_quota_129 : xAt mX9_quota 129 (.istore_n 3) 1 130 := ⟨by decide +kernel, rfl⟩
theorem eX9_quota_130 : xAt mX9_quota 130 (.iconst 0) 1 131 := ⟨by decide +kernel, rfl⟩
theorem eX9_quota_131 : xAt mX9_quota 131 (.istore 4) 2 133 := ⟨by decide +kernel, rfl⟩
theorem eX9_quota_133 : xAt mX9_quota 133 (.iconst 0) 1 134 := ⟨by decide +kernel, rfl⟩
theorem eX9_quota_134 : xAt mX9_quota 134 (.istore 5) 2 136 := ⟨by decide +kernel, rfl⟩
theorem eX9_quota_136 : xAt mX9_quota 136 (.iload 5) 2 138 := ⟨by decide +kernel, rfl⟩
theorem eX9_quota_138 : xAt mX9_quota 138 (.aload_n 0) 1 139 := ⟨by decide +kernel, rfl⟩
theorem eX9_quota_139 : xAt mX9_quota 139 (.getfield 224) 3 142 := ⟨by decide +kernel, rfl⟩
theorem eX9_quota_142 : xBr mX9_quota 142 (.if_icmp .ge) (64) 145 206 := ⟨by decide +kernel, rfl, by decide⟩
theorem eX9_quota_145 : xAt mX9_quota 145 (.aload_n 0) 1 146 := ⟨by decide +kernel, rfl⟩
theorem eX9_quota_146 : xAt mX9_quota 146 (.getfield 48) 3 149 := ⟨by decide +kernel, rfl⟩
theorem eX9_quota_149 : xAt mX9_quota 149 (.iload 5) 2 151 := ⟨by decide +kernel, rfl⟩
theorem eX9_quota_151 : xAt mX9_quota 151 (.baload) 1 152 := ⟨by decide +kernel, rfl⟩
theorem eX9_quota_152 : xBr mX9_quota 152 (.ifCond .eq) (48) 155 200 := ⟨by decide +kernel, rfl, by decide⟩
theorem eX9_quota_155 : xAt mX9_quota 155 (.aload_n 0) 1 156 := ⟨by decide +kernel, rfl⟩
theorem eX9_quota_156 : xAt mX9_quota 156 (.getfield 52) 3 159 := ⟨by decide +kernel, rfl⟩
theorem eX9_quota_159 : xAt mX9_quota 159 (.iload 5) 2 161 := ⟨by decide +kernel, rfl⟩
theorem eX9_quota_161 : xAt mX9_quota 161 (.iaload) 1 162 := ⟨by decide +kernel, rfl⟩
theorem eX9_quota_162 : xAt mX9_quota 162 (.aload_n 0) 1 163 := ⟨by decide +kernel, rfl⟩
theorem eX9_quota_163 : xAt mX9_quota 163 (.getfield 52) 3 166 := ⟨by decide +kernel, rfl⟩
theorem eX9_quota_166 : xAt mX9_quota 166 (.iload_n 1) 1 167 := ⟨by decide +kernel, rfl⟩
theorem eX9_quota_167 : xAt mX9_quota 167 (.iaload) 1 168 := ⟨by decide +kernel, rfl⟩
theorem eX9_quota_168 : xBr mX9_quota 168 (.if_icmp .ne) (32) 171 200 := ⟨by decide +kernel, rfl, by decide⟩
theorem eX9_quota_171 : xAt mX9_quota 171 (.aload_n 0) 1 172 := ⟨by decide +kernel, rfl⟩
theorem eX9_quota_172 : xAt mX9_quota 172 (.iload 5) 2 174 := ⟨by decide +kernel, rfl⟩
theorem eX9_quota_174 : xAt mX9_quota 174 (.iload_n 2) 1 175 := ⟨by decide +kernel, rfl⟩
theorem eX9_quota_175 : xAt mX9_quota 175 (.invokevirtual 309) 3 178 := ⟨by decide +kernel, rfl⟩
theorem eX9_quota_178 : xAt mX9_quota 178 (.istore 6) 2 180 := ⟨by decide +kernel, rfl⟩
theorem eX9_quota_180 : xAt mX9_quota 180 (.iload_n 3) 1 181 := ⟨by decide +kernel, rfl⟩
theorem eX9_quota_181 : xAt mX9_quota 181 (.iload 6) 2 183 := ⟨by decide +kernel, rfl⟩
theorem eX9_quota_183 : xAt mX9_quota 183 (.isub) 1 184 := ⟨by decide +kernel, rfl⟩
theorem eX9_quota_184 : xAt mX9_quota 184 (.istore_n 3) 1 185 := ⟨by decide +kernel, rfl⟩
theorem eX9_quota_185 : xAt mX9_quota 185 (.iload 5) 2 187 := ⟨by decide +kernel, rfl⟩
theorem eX9_quota_187 : xAt mX9_quota 187 (.iload_n 1) 1 188 := ⟨by decide +kernel, rfl⟩
theorem eX9_quota_188 : xBr mX9_quota 188 (.if_icmp .ne) (8) 191 196 := ⟨by decide +kernel, rfl, by decide⟩
theorem eX9_quota_191 : xAt mX9_quota 191 (.iload 6) 2 193 := ⟨by decide +kernel, rfl⟩
theorem eX9_quota_193 : xBr mX9_quota 193 .goto (5) 196 198 := ⟨by decide +kernel, rfl, by decide⟩
theorem eX9_quota_196 : xAt mX9_quota 196 (.iload 4) 2 198 := ⟨by decide +kernel, rfl⟩
theorem eX9_quota_198 : xAt mX9_quota 198 (.istore 4) 2 200 := ⟨by decide +kernel, rfl⟩
theorem eX9_quota_200 : xAt mX9_quota 200 (.iinc 5 1) 3 203 := ⟨by decide +kernel, rfl⟩
theorem eX9_quota_203 : xBr mX9_quota 203 .goto (-67) 206 136 := ⟨by decide +kernel, rfl, by decide⟩
theorem eX9_quota_206 : xAt mX9_quota 206 (.iconst 0) 1 207 := ⟨by decide +kernel, rfl⟩
theorem eX9_quota_207 : xAt mX9_quota 207 (.istore 5) 2 209 := ⟨by decide +kernel, rfl⟩
theorem eX9_quota_209 : xAt mX9_quota 209 (.iconst 0) 1 210 := ⟨by decide +kernel, rfl⟩
theorem eX9_quota_210 : xAt mX9_quota 210 (.istore 6) 2 212 := ⟨by decide +kernel, rfl⟩
theorem eX9_quota_212 : xAt mX9_quota 212 (.iload 6) 2 214 := ⟨by decide +kernel, rfl⟩
theorem eX9_quota_214 : xAt mX9_quota 214 (.aload_n 0) 1 215 := ⟨by decide +kernel, rfl⟩
theorem eX9_quota_215 : xAt mX9_quota 215 (.getfield 224) 3 218 := ⟨by decide +kernel, rfl⟩
theorem eX9_quota_218 : xBr mX9_quota 218 (.if_icmp .ge) (124) 221 342 := ⟨by decide +kernel, rfl, by decide⟩
theorem eX9_quota_221 : xAt mX9_quota 221 (.aload_n 0) 1 222 := ⟨by decide +kernel, rfl⟩
theorem eX9_quota_222 : xAt mX9_quota 222 (.getfield 48) 3 225 := ⟨by decide +kernel, rfl⟩
theorem eX9_quota_225 : xAt mX9_quota 225 (.iload 6) 2 227 := ⟨by decide +kernel, rfl⟩
theorem eX9_quota_227 : xAt mX9_quota 227 (.baload) 1 228 := ⟨by decide +kernel, rfl⟩
theorem eX9_quota_228 : xBr mX9_quota 228 (.ifCond .eq) (108) 231 336 := ⟨by decide +kernel, rfl, by decide⟩
theorem eX9_quota_231 : xAt mX9_quota 231 (.aload_n 0) 1 232 := ⟨by decide +kernel, rfl⟩
theorem eX9_quota_232 : xAt mX9_quota 232 (.getfield 52) 3 235 := ⟨by decide +kernel, rfl⟩
theorem eX9_quota_235 : xAt mX9_quota 235 (.iload 6) 2 237 := ⟨by decide +kernel, rfl⟩
theorem eX9_quota_237 : xAt mX9_quota 237 (.iaload) 1 238 := ⟨by decide +kernel, rfl⟩
theorem eX9_quota_238 : xAt mX9_quota 238 (.aload_n 0) 1 239 := ⟨by decide +kernel, rfl⟩
theorem eX9_quota_239 : xAt mX9_quota 239 (.getfield 52) 3 242 := ⟨by decide +kernel, rfl⟩
theorem eX9_quota_242 : xAt mX9_quota 242 (.iload_n 1) 1 243 := ⟨by decide +kernel, rfl⟩
theorem eX9_quota_243 : xAt mX9_quota 243 (.iaload) 1 244 := ⟨by decide +kernel, rfl⟩
theorem eX9_quota_244 : xBr mX9_quota 244 (.if_icmp .ne) (92) 247 336 := ⟨by decide +kernel, rfl, by decide⟩
theorem eX9_quota_247 : xAt mX9_quota 247 (.iload 6) 2 249 := ⟨by decide +kernel, rfl⟩
theorem eX9_quota_249 : xAt mX9_quota 249 (.iload_n 1) 1 250 := ⟨by decide +kernel, rfl⟩
theorem eX9_quota_250 : xBr mX9_quota 250 (.if_icmp .eq) (86) 253 336 := ⟨by decide +kernel, rfl, by decide⟩
theorem eX9_quota_253 : xAt mX9_quota 253 (.aload_n 0) 1 254 := ⟨by decide +kernel, rfl⟩
theorem eX9_quota_254 : xAt mX9_quota 254 (.getfield 106) 3 257 := ⟨by decide +kernel, rfl⟩
theorem eX9_quota_257 : xAt mX9_quota 257 (.bipush 10) 2 259 := ⟨by decide +kernel, rfl⟩
theorem eX9_quota_259 : xAt mX9_quota 259 (.iload_n 1) 1 260 := ⟨by decide +kernel, rfl⟩
theorem eX9_quota_260 : xAt mX9_quota 260 (.imul) 1 261 := ⟨by decide +kernel, rfl⟩
theorem eX9_quota_261 : xAt mX9_quota 261 (.aload_n 0) 1 262 := ⟨by decide +kernel, rfl⟩
theorem eX9_quota_262 : xAt mX9_quota 262 (.getfield 106) 3 265 := ⟨by decide +kernel, rfl⟩
theorem eX9_quota_265 : xAt mX9_quota 265 (.bipush 10) 2 267 := ⟨by decide +kernel, rfl⟩
theorem eX9_quota_267 : xAt mX9_quota 267 (.iload 6) 2 269 := ⟨by decide +kernel, rfl⟩
theorem eX9_quota_269 : xAt mX9_quota 269 (.imul) 1 270 := ⟨by decide +kernel, rfl⟩
theorem eX9_quota_270 : xAt mX9_quota 270 (.invokestatic 208) 3 273 := ⟨by decide +kernel, rfl⟩
theorem eX9_quota_273 : xAt mX9_quota 273 (.istore 7) 2 275 := ⟨by decide +kernel, rfl⟩
theorem eX9_quota_275 : xAt mX9_quota 275 (.iload 7) 2 277 := ⟨by decide +kernel, rfl⟩
theorem eX9_quota_277 : xBr mX9_quota 277 (.ifCond .ne) (30) 280 307 := ⟨by decide +kernel, rfl, by decide⟩
theorem eX9_quota_280 : xAt mX9_quota 280 (.aload_n 0) 1 281 := ⟨by decide +kernel, rfl⟩
theorem eX9_quota_281 : xAt mX9_quota 281 (.getfield 106) 3 284 := ⟨by decide +kernel, rfl⟩
theorem eX9_quota_284 : xAt mX9_quota 284 (.bipush 10) 2 286 := ⟨by decide +kernel, rfl⟩
theorem eX9_quota_286 : xAt mX9_quota 286 (.iload 6) 2 288 := ⟨by decide +kernel, rfl⟩
theorem eX9_quota_288 : xAt mX9_quota 288 (.imul) 1 289 := ⟨by decide +kernel, rfl⟩
theorem eX9_quota_289 : xAt mX9_quota 289 (.aload_n 0) 1 290 := ⟨by decide +kernel, rfl⟩
theorem eX9_quota_290 : xAt mX9_quota 290 (.getfield 106) 3 293 := ⟨by decide +kernel, rfl⟩
theorem eX9_quota_293 : xAt mX9_quota 293 (.bipush 10) 2 295 := ⟨by decide +kernel, rfl⟩
theorem eX9_quota_295 : xAt mX9_quota 295 (.iload_n 1) 1 296 := ⟨by decide +kernel, rfl⟩
theorem eX9_quota_296 : xAt mX9_quota 296 (.imul) 1 297 := ⟨by decide +kernel, rfl⟩
theorem eX9_quota_297 : xAt mX9_quota 297 (.invokestatic 208) 3 300 := ⟨by decide +kernel, rfl⟩
theorem eX9_quota_300 : xBr mX9_quota 300 (.ifCond .ne) (7) 303 307 := ⟨by decide +kernel, rfl, by decide⟩
theorem eX9_quota_303 : xAt mX9_quota 303 (.iconst 1) 1 304 := ⟨by decide +kernel, rfl⟩
theorem eX9_quota_304 : xBr mX9_quota 304 .goto (4) 307 308 := ⟨by decide +kernel, rfl, by decide⟩
theorem eX9_quota_307 : xAt mX9_quota 307 (.iconst 0) 1 308 := ⟨by decide +kernel, rfl⟩
theorem eX9_quota_308 : xAt mX9_quota 308 (.istore 8) 2 310 := ⟨by decide +kernel, rfl⟩
theorem eX9_quota_310 : xAt mX9_quota 310 (.iload 5) 2 312 := ⟨by decide +kernel, rfl⟩
theorem eX9_quota_312 : xAt mX9_quota 312 (.iload 7) 2 314 := ⟨by decide +kernel, rfl⟩
theorem eX9_quota_314 : xBr mX9_quota 314 (.ifCond .ne) (14) 317 328 := ⟨by decide +kernel, rfl, by decide⟩
theorem eX9_quota_317 : xAt mX9_quota 317 (.iload 8) 2 319 := ⟨by decide +kernel, rfl⟩
theorem eX9_quota_319 : xBr mX9_quota 319 (.ifCond .eq) (13) 322 332 := ⟨by decide +kernel, rfl, by decide⟩
theorem eX9_quota_322 : xAt mX9_quota 322 (.iload 6) 2 324 := ⟨by decide +kernel, rfl⟩
theorem eX9_quota_324 : xAt mX9_quota 324 (.iload_n 1) 1 325 := ⟨by decide +kernel, rfl⟩
theorem eX9_quota_325 : xBr mX9_quota 325 (.if_icmp .ge) (7) 328 332 := ⟨by decide +kernel, rfl, by decide⟩
theorem eX9_quota_328 : xAt mX9_quota 328 (.iconst 1) 1 329 := ⟨by decide +kernel, rfl⟩
theorem eX9_quota_329 : xBr mX9_quota 329 .goto (4) 332 333 := ⟨by decide +kernel, rfl, by decide⟩
theorem eX9_quota_332 : xAt mX9_quota 332 (.iconst 0) 1 333 := ⟨by decide +kernel, rfl⟩
theorem eX9_quota_333 : xAt mX9_quota 333 (.iadd) 1 334 := ⟨by decide +kernel, rfl⟩
theorem eX9_quota_334 : xAt mX9_quota 334 (.istore 5) 2 336 := ⟨by decide +kernel, rfl⟩
theorem eX9_quota_336 : xAt mX9_quota 336 (.iinc 6 1) 3 339 := ⟨by decide +kernel, rfl⟩
theorem eX9_quota_339 : xBr mX9_quota 339 .goto (-127) 342 212 := ⟨by decide +kernel, rfl, by decide⟩
theorem eX9_quota_342 : xAt mX9_quota 342 (.iload 4) 2 344 := ⟨by decide +kernel, rfl⟩
theorem eX9_quota_344 : xAt mX9_quota 344 (.iload 5) 2 346 := ⟨by decide +kernel, rfl⟩
theorem eX9_quota_346 : xAt mX9_quota 346 (.iload_n 3) 1 347 := ⟨by decide +kernel, rfl⟩
theorem eX9_quota_347 : xBr mX9_quota 347 (.if_icmp .ge) (7) 350 354 := ⟨by decide +kernel, rfl, by decide⟩
theorem eX9_quota_350 : xAt mX9_quota 350 (.iconst 1) 1 351 := ⟨by decide +kernel, rfl⟩
theorem eX9_quota_351 : xBr mX9_quota 351 .goto (4) 354 355 := ⟨by decide +kernel, rfl, by decide⟩
theorem eX9_quota_354 : xAt mX9_quota 354 (.iconst 0) 1 355 := ⟨by decide +kernel, rfl⟩
theorem eX9_quota_355 : xAt mX9_quota 355 (.iadd) 1 356 := ⟨by decide +kernel, rfl⟩
theorem eX9_quota_356 : xAt mX9_quota 356 (.ireturn) 1 357 := ⟨by decide +kernel, rfl⟩
end
section
theorem eX9_shareOf_0 : xAt mX9_shareOf 0 (.iconst 0) 1 1 := ⟨by decide +kernel, rfl⟩
theorem eX9_shareOf_1 : xAt mX9_shareOf 1 (.istore_n 3) 1 2 := ⟨by decide +kernel, rfl⟩
theorem eX9_shareOf_2 : xAt mX9_shareOf 2 (.iload_n 3) 1 3 := ⟨by decide +kernel, rfl⟩
theorem eX9_shareOf_3 : xAt mX9_shareOf 3 (.bipush 10) 2 5 := ⟨by decide +kernel, rfl⟩
theorem eX9_shareOf_5 : xBr mX9_shareOf 5 (.if_icmp .ge) (34) 8 39 := ⟨by decide +kernel, rfl, by decide⟩
theorem eX9_shareOf_8 : xAt mX9_shareOf 8 (.aload_n 0) 1 9 := ⟨by decide +kernel, rfl⟩
theorem eX9_shareOf_9 : xAt mX9_shareOf 9 (.getfield 106) 3 12 := ⟨by decide +kernel, rfl⟩
theorem eX9_shareOf_12 : xAt mX9_shareOf 12 (.bipush 10) 2 14 := ⟨by decide +kernel, rfl⟩
theorem eX9_shareOf_14 : xAt mX9_shareOf 14 (.iload_n 1) 1 15 := ⟨by decide +kernel, rfl⟩
theorem eX9_shareOf_15 : xAt mX9_shareOf 15 (.imul) 1 16 := ⟨by decide +kernel, rfl⟩
theorem eX9_shareOf_16 : xAt mX9_shareOf 16 (.iload_n 3) 1 17 := ⟨by decide +kernel, rfl⟩
theorem eX9_shareOf_17 : xAt mX9_shareOf 17 (.iadd) 1 18 := ⟨by decide +kernel, rfl⟩
theorem eX9_shareOf_18 : xAt mX9_shareOf 18 (.iload_n 2) 1 19 := ⟨by decide +kernel, rfl⟩
theorem eX9_shareOf_19 : xAt mX9_shareOf 19 (.i2l) 1 20 := ⟨by decide +kernel, rfl⟩
theorem eX9_shareOf_20 : xAt mX9_shareOf 20 (.aload_n 0) 1 21 := ⟨by decide +kernel, rfl⟩
theorem eX9_shareOf_21 : xAt mX9_shareOf 21 (.getfield 97) 3 24 := ⟨by decide +kernel, rfl⟩
theorem eX9_shareOf_24 : xAt mX9_shareOf 24 (.bipush 10) 2 26 := ⟨by decide +kernel, rfl⟩
theorem eX9_shareOf_26 : xAt mX9_shareOf 26 (.iload_n 1) 1 27 := ⟨by decide +kernel, rfl⟩
theorem eX9_shareOf_27 : xAt mX9_shareOf 27 (.imul) 1 28 := ⟨by decide +kernel, rfl⟩
theorem eX9_shareOf_28 : xAt mX9_shareOf 28 (.iload_n 3) 1 29 := ⟨by decide +kernel, rfl⟩
theorem eX9_shareOf_29 : xAt mX9_shareOf 29 (.iadd) 1 30 := ⟨by decide +kernel, rfl⟩
theorem eX9_shareOf_30 : xAt mX9_shareOf 30 (.laload) 1 31 := ⟨by decide +kernel, rfl⟩
theorem eX9_shareOf_31 : xAt mX9_shareOf 31 (.lmul) 1 32 := ⟨by decide +kernel, rfl⟩
theorem eX9_shareOf_32 : xAt mX9_shareOf 32 (.lastore) 1 33 := ⟨by decide +kernel, rfl⟩
theorem eX9_shareOf_33 : xAt mX9_shareOf 33 (.iinc 3 1) 3 36 := ⟨by decide +kernel, rfl⟩
theorem eX9_shareOf_36 : xBr mX9_shareOf 36 .goto (-34) 39 2 := ⟨by decide +kernel, rfl, by decide⟩
theorem eX9_shareOf_39 : xAt mX9_shareOf 39 (.aload_n 0) 1 40 := ⟨by decide +kernel, rfl⟩
theorem eX9_shareOf_40 : xAt mX9_shareOf 40 (.getfield 106) 3 43 := ⟨by decide +kernel, rfl⟩
theorem eX9_shareOf_43 : xAt mX9_shareOf 43 (.bipush 10) 2 45 := ⟨by decide +kernel, rfl⟩
theorem eX9_shareOf_45 : xAt mX9_shareOf 45 (.iload_n 1) 1 46 := ⟨by decide +kernel, rfl⟩
theorem eX9_shareOf_46 : xAt mX9_shareOf 46 (.imul) 1 47 := ⟨by decide +kernel, rfl⟩
theorem eX9_shareOf_47 : xAt mX9_shareOf 47 (.bipush 10) 2 49 := ⟨by decide +kernel, rfl⟩
theorem eX9_shareOf_49 : xAt mX9_shareOf 49 (.invokestatic 128) 3 52 := ⟨by decide +kernel, rfl⟩
theorem eX9_shareOf_52 : xAt mX9_shareOf 52 (.iconst 0) 1 53 := ⟨by decide +kernel, rfl⟩
theorem eX9_shareOf_53 : xAt mX9_shareOf 53 (.istore_n 3) 1 54 := ⟨by decide +kernel, rfl⟩
theorem eX9_shareOf_54 : xAt mX9_shareOf 54 (.sipush 512) 3 57 := ⟨by decide +kernel, rfl⟩
theorem eX9_shareOf_57 : xAt mX9_shareOf 57 (.istore 4) 2 59 := ⟨by decide +kernel, rfl⟩
theorem eX9_shareOf_59 : xAt mX9_shareOf 59 (.iload 4) 2 61 := ⟨by decide +kernel, rfl⟩
theorem eX9_shareOf_61 : xBr mX9_shareOf 61 (.ifCond .le) (121) 64 182 := ⟨by decide +kernel, rfl, by decide⟩
theorem eX9_shareOf_64 : xAt mX9_shareOf 64 (.iconst 0) 1 65 := ⟨by decide +kernel, rfl⟩
theorem eX9_shareOf_65 : xAt mX9_shareOf 65 (.istore 5) 2 67 := ⟨by decide +kernel, rfl⟩
theorem eX9_shareOf_67 : xAt mX9_shareOf 67 (.iload 5) 2 69 := ⟨by decide +kernel, rfl⟩
theorem eX9_shareOf_69 : xAt mX9_shareOf 69 (.bipush 10) 2 71 := ⟨by decide +kernel, rfl⟩
theorem eX9_shareOf_71 : xBr mX9_shareOf 71 (.if_icmp .ge) (40) 74 111 := ⟨by decide +kernel, rfl, by decide⟩
theorem eX9_shareOf_74 : xAt mX9_shareOf 74 (.aload_n 0) 1 75 := ⟨by decide +kernel, rfl⟩
theorem eX9_shareOf_75 : xAt mX9_shareOf 75 (.getfield 103) 3 78 := ⟨by decide +kernel, rfl⟩
theorem eX9_shareOf_78 : xAt mX9_shareOf 78 (.iload 5) 2 80 := ⟨by decide +kernel, rfl⟩
theorem eX9_shareOf_80 : xAt mX9_shareOf 80 (.aload_n 0) 1 81 := ⟨by decide +kernel, rfl⟩
theorem eX9_shareOf_81 : xAt mX9_shareOf 81 (.getfield 106) 3 84 := ⟨by decide +kernel, rfl⟩
theorem eX9_shareOf_84 : xAt mX9_shareOf 84 (.bipush 10) 2 86 := ⟨by decide +kernel, rfl⟩
theorem eX9_shareOf_86 : xAt mX9_shareOf 86 (.iload_n 1) 1 87 := ⟨by decide +kernel, rfl⟩
theorem eX9_shareOf_87 : xAt mX9_shareOf 87 (.imul) 1 88 := ⟨by decide +kernel, rfl⟩
theorem eX9_shareOf_88 : xAt mX9_shareOf 88 (.iload 5) 2 90 := ⟨by decide +kernel, rfl⟩
theorem eX9_shareOf_90 : xAt mX9_shareOf 90 (.iadd) 1 91 := ⟨by decide +kernel, rfl⟩
theorem eX9_shareOf_91 : xAt mX9_shareOf 91 (.laload) 1 92 := ⟨by decide +kernel, rfl⟩
theorem eX9_shareOf_92 : xAt mX9_shareOf 92 (.iload 4) 2 94 := ⟨by decide +kernel, rfl⟩
theorem eX9_shareOf_94 : xAt mX9_shareOf 94 (.i2l) 1 95 := ⟨by decide +kernel, rfl⟩
theorem eX9_shareOf_95 : xAt mX9_shareOf 95 (.aload_n 0) 1 96 := ⟨by decide +kernel, rfl⟩
theorem eX9_shareOf_96 : xAt mX9_shareOf 96 (.getfield 100) 3 99 := ⟨by decide +kernel, rfl⟩
theorem eX9_shareOf_99 : xAt mX9_shareOf 99 (.iload 5) 2 101 := ⟨by decide +kernel, rfl⟩
theorem eX9_shareOf_101 : xAt mX9_shareOf 101 (.laload) 1 102 := ⟨by decide +kernel, rfl⟩
theorem eX9_shareOf_102 : xAt mX9_shareOf 102 (.lmul) 1 103 := ⟨by decide +kernel, rfl⟩
theorem eX9_shareOf_103 : xAt mX9_shareOf 103 (.lsub) 1 104 := ⟨by decide +kernel, rfl⟩
theorem eX9_shareOf_104 : xAt mX9_shareOf 104 (.lastore) 1 105 := ⟨by decide +kernel, rfl⟩
theorem eX9_shareOf_105 : xAt mX9_shareOf 105 (.iinc 5 1) 3 108 := ⟨by decide +kernel, rfl⟩
theorem eX9_shareOf_108 : xBr mX9_shareOf 108 .goto (-41) 111 67 := ⟨by decide +kernel, rfl, by decide⟩
theorem eX9_shareOf_111 : xAt mX9_shareOf 111 (.aload_n 0) 1 112 := ⟨by decide +kernel, rfl⟩
theorem eX9_shareOf_112 : xAt mX9_shareOf 112 (.getfield 103) 3 115 := ⟨by decide +kernel, rfl⟩
theorem eX9_shareOf_115 : xAt mX9_shareOf 115 (.iconst 0) 1 116 := ⟨by decide +kernel, rfl⟩
theorem eX9_shareOf_116 : xAt mX9_shareOf 116 (.bipush 10) 2 118 := ⟨by decide +kernel, rfl⟩
theorem eX9_shareOf_118 : xAt mX9_shareOf 118 (.invokestatic 128) 3 121 := ⟨by decide +kernel, rfl⟩
theorem eX9_shareOf_121 : xAt mX9_shareOf 121 (.aload_n 0) 1 122 := ⟨by decide +kernel, rfl⟩
theorem eX9_shareOf_122 : xAt mX9_shareOf 122 (.getfield 103) 3 125 := ⟨by decide +kernel, rfl⟩
theorem eX9_shareOf_125 : xAt mX9_shareOf 125 (.bipush 9) 2 127 := ⟨by decide +kernel, rfl⟩
theorem eX9_shareOf_127 : xAt mX9_shareOf 127 (.laload) 1 128 := ⟨by decide +kernel, rfl⟩
theorem eX9_shareOf_128 : xAt mX9_shareOf 128 (.lconst 0) 1 129 := ⟨by decide +kernel, rfl⟩
theorem eX9_shareOf_129 : xAt mX9_shareOf 129 (.lcmp) 1 130 := ⟨by decide +kernel, rfl⟩
theorem eX9_shareOf_130 : xBr mX9_shareOf 130 (.ifCond .lt) (43) 133 173 := ⟨by decide +kernel, rfl, by decide⟩
theorem eX9_shareOf_133 : xAt mX9_shareOf 133 (.iload_n 3) 1 134 := ⟨by decide +kernel, rfl⟩
theorem eX9_shareOf_134 : xAt mX9_shareOf 134 (.iload 4) 2 136 := ⟨by decide +kernel, rfl⟩
theorem eX9_shareOf_136 : xAt mX9_shareOf 136 (.iadd) 1 137 := ⟨by decide +kernel, rfl⟩
theorem eX9_shareOf_137 : xAt mX9_shareOf 137 (.istore_n 3) 1 138 := ⟨by decide +kernel, rfl⟩
theorem eX9_shareOf_138 : xAt mX9_shareOf 138 (.iconst 0) 1 139 := ⟨by decide +kernel, rfl⟩
theorem eX9_shareOf_139 : xAt mX9_shareOf 139 (.istore 5) 2 141 := ⟨by decide +kernel, rfl⟩
theorem eX9_shareOf_141 : xAt mX9_shareOf 141 (.iload 5) 2 143 := ⟨by decide +kernel, rfl⟩
theorem eX9_shareOf_143 : xAt mX9_shareOf 143 (.bipush 10) 2 145 := ⟨by decide +kernel, rfl⟩
theorem eX9_shareOf_145 : xBr mX9_shareOf 145 (.if_icmp .ge) (28) 148 173 := ⟨by decide +kernel, rfl, by decide⟩
theorem eX9_shareOf_148 : xAt mX9_shareOf 148 (.aload_n 0) 1 149 := ⟨by decide +kernel, rfl⟩
theorem eX9_shareOf_149 : xAt mX9_shareOf 149 (.getfield 106) 3 152 := ⟨by decide +kernel, rfl⟩
theorem eX9_shareOf_152 : xAt mX9_shareOf 152 (.bipush 10) 2 154 := ⟨by decide +kernel, rfl⟩
theorem eX9_shareOf_154 : xAt mX9_shareOf 154 (.iload_n 1) 1 155 := ⟨by decide +kernel, rfl⟩
theorem eX9_shareOf_155 : xAt mX9_shareOf 155 (.imul) 1 156 := ⟨by decide +kernel, rfl⟩
theorem eX9_shareOf_156 : xAt mX9_shareOf 156 (.iload 5) 2 158 := ⟨by decide +kernel, rfl⟩
theorem eX9_shareOf_158 : xAt mX9_shareOf 158 (.iadd) 1 159 := ⟨by decide +kernel, rfl⟩
theorem eX9_shareOf_159 : xAt mX9_shareOf 159 (.aload_n 0) 1 160 := ⟨by decide +kernel, rfl⟩
theorem eX9_shareOf_160 : xAt mX9_shareOf 160 (.getfield 103) 3 163 := ⟨by decide +kernel, rfl⟩
theorem eX9_shareOf_163 : xAt mX9_shareOf 163 (.iload 5) 2 165 := ⟨by decide +kernel, rfl⟩
theorem eX9_shareOf_165 : xAt mX9_shareOf 165 (.laload) 1 166 := ⟨by decide +kernel, rfl⟩
theorem eX9_shareOf_166 : xAt mX9_shareOf 166 (.lastore) 1 167 := ⟨by decide +kernel, rfl⟩
theorem eX9_shareOf_167 : xAt mX9_shareOf 167 (.iinc 5 1) 3 170 := ⟨by decide +kernel, rfl⟩
theorem eX9_shareOf_170 : xBr mX9_shareOf 170 .goto (-29) 173 141 := ⟨by decide +kernel, rfl, by decide⟩
theorem eX9_shareOf_173 : xAt mX9_shareOf 173 (.iload 4) 2 175 := ⟨by decide +kernel, rfl⟩
theorem eX9_shareOf_175 : xAt mX9_shareOf 175 (.iconst 1) 1 176 := ⟨by decide +kernel, rfl⟩
theorem eX9_shareOf_176 : xAt mX9_shareOf 176 (.ishr) 1 177 := ⟨by decide +kernel, rfl⟩
theorem eX9_shareOf_177 : xAt mX9_shareOf 177 (.istore 4) 2 179 := ⟨by decide +kernel, rfl⟩
theorem eX9_shareOf_179 : xBr mX9_shareOf 179 .goto (-120) 182 59 := ⟨by decide +kernel, rfl, by decide⟩
theorem eX9_shareOf_182 : xAt mX9_shareOf 182 (.iload_n 3) 1 183 := ⟨by decide +kernel, rfl⟩
theorem eX9_shareOf_183 : xAt mX9_shareOf 183 (.ireturn) 1 184 := ⟨by decide +kernel, rfl⟩
theorem eX9_undo_0 : xAt mX9_undo 0 (.aload_n 0) 1 1 := ⟨by decide +kernel, rfl⟩
theorem eX9_undo_1 : xAt mX9_undo 1 (.getfield 227) 3 4 := ⟨by decide +kernel, rfl⟩
theorem eX9_undo_4 : xBr mX9_undo 4 (.ifCond .ne) (6) 7 10 := ⟨by decide +kernel, rfl, by decide⟩
theorem eX9_undo_7 : xAt mX9_undo 7 (.bipush (-103)) 2 9 := ⟨by decide +kernel, rfl⟩
theorem eX9_undo_9 : xAt mX9_undo 9 (.ireturn) 1 10 := ⟨by decide +kernel, rfl⟩
theorem eX9_undo_10 : xAt mX9_undo 10 (.aload_n 0) 1 11 := ⟨by decide +kernel, rfl⟩
theorem eX9_undo_11 : xAt mX9_undo 11 (.iconst 0) 1 12 := ⟨by decide +kernel, rfl⟩
theorem eX9_undo_12 : xAt mX9_undo 12 (.putfield 227) 3 15 := ⟨by decide +kernel, rfl⟩
theorem eX9_undo_15 : xAt mX9_undo 15 (.iconst 0) 1 16 := ⟨by decide +kernel, rfl⟩
theorem eX9_undo_16 : xAt mX9_undo 16 (.istore_n 1) 1 17 := ⟨by decide +kernel, rfl⟩
theorem eX9_undo_17 : xAt mX9_undo 17 (.iload_n 1) 1 18 := ⟨by decide +kernel, rfl⟩
theorem eX9_undo_18 : xAt mX9_undo 18 (.bipush 60) 2 20 := ⟨by decide +kernel, rfl⟩
theorem eX9_undo_20 : xBr mX9_undo 20 (.if_icmp .ge) (57) 23 77 := ⟨by decide +kernel, rfl, by decide⟩
theorem eX9_undo_23 : xAt mX9_undo 23 (.aload_n 0) 1 24 := ⟨by decide +kernel, rfl⟩
theorem eX9_undo_24 : xAt mX9_undo 24 (.getfield 48) 3 27 := ⟨by decide +kernel, rfl⟩
theorem eX9_undo_27 : xAt mX9_undo 27 (.iload_n 1) 1 28 := ⟨by decide +kernel, rfl⟩
theorem eX9_undo_28 : xAt mX9_undo 28 (.aload_n 0) 1 29 := ⟨by decide +kernel, rfl⟩
theorem eX9_undo_29 : xAt mX9_undo 29 (.getfield 64) 3 32 := ⟨by decide +kernel, rfl⟩
theorem eX9_undo_32 : xAt mX9_undo 32 (.iload_n 1) 1 33 := ⟨by decide +kernel, rfl⟩
theorem eX9_undo_33 : xAt mX9_undo 33 (.baload) 1 34 := ⟨by decide +kernel, rfl⟩
theorem eX9_undo_34 : xAt mX9_undo 34 (.bastore) 1 35 := ⟨by decide +kernel, rfl⟩
theorem eX9_undo_35 : xAt mX9_undo 35 (.aload_n 0) 1 36 := ⟨by decide +kernel, rfl⟩
theorem eX9_undo_36 : xAt mX9_undo 36 (.getfield 52) 3 39 := ⟨by decide +kernel, rfl⟩
theorem eX9_undo_39 : xAt mX9_undo 39 (.iload_n 1) 1 40 := ⟨by decide +kernel, rfl⟩
theorem eX9_undo_40 : xAt mX9_undo 40 (.aload_n 0) 1 41 := ⟨by decide +kernel, rfl⟩
theorem eX9_undo_41 : xAt mX9_undo 41 (.getfield 67) 3 44 := ⟨by decide +kernel, rfl⟩
theorem eX9_undo_44 : xAt mX9_undo 44 (.iload_n 1) 1 45 := ⟨by decide +kernel, rfl⟩
theorem eX9_undo_45 : xAt mX9_undo 45 (.iaload) 1 46 := ⟨by decide +kernel, rfl⟩
theorem eX9_undo_46 : xAt mX9_undo 46 (.iastore) 1 47 := ⟨by decide +kernel, rfl⟩
theorem eX9_undo_47 : xAt mX9_undo 47 (.aload_n 0) 1 48 := ⟨by decide +kernel, rfl⟩
theorem eX9_undo_48 : xAt mX9_undo 48 (.getfield 55) 3 51 := ⟨by decide +kernel, rfl⟩
theorem eX9_undo_51 : xAt mX9_undo 51 (.iload_n 1) 1 52 := ⟨by decide +kernel, rfl⟩
theorem eX9_undo_52 : xAt mX9_undo 52 (.aload_n 0) 1 53 := ⟨by decide +kernel, rfl⟩
theorem eX9_undo_53 : xAt mX9_undo 53 (.getfield 70) 3 56 := ⟨by decide +kernel, rfl⟩
theorem eX9_undo_56 : xAt mX9_undo 56 (.iload_n 1) 1 57 := ⟨by decide +kernel, rfl⟩
theorem eX9_undo_57 : xAt mX9_undo 57 (.iaload) 1 58 := ⟨by decide +kernel, rfl⟩
theorem eX9_undo_58 : xAt mX9_undo 58 (.iastore) 1 59 := ⟨by decide +kernel, rfl⟩
theorem eX9_undo_59 : xAt mX9_undo 59 (.aload_n 0) 1 60 := ⟨by decide +kernel, rfl⟩
theorem eX9_undo_60 : xAt mX9_undo 60 (.getfield 58) 3 63 := ⟨by decide +kernel, rfl⟩
theorem eX9_undo_63 : xAt mX9_undo 63 (.iload_n 1) 1 64 := ⟨by decide +kernel, rfl⟩
theorem eX9_undo_64 : xAt mX9_undo 64 (.aload_n 0) 1 65 := ⟨by decide +kernel, rfl⟩
theorem eX9_undo_65 : xAt mX9_undo 65 (.getfield 73) 3 68 := ⟨by decide +kernel, rfl⟩
theorem eX9_undo_68 : xAt mX9_undo 68 (.iload_n 1) 1 69 := ⟨by decide +kernel, rfl⟩
theorem eX9_undo_69 : xAt mX9_undo 69 (.iaload) 1 70 := ⟨by decide +kernel, rfl⟩
theorem eX9_undo_70 : xAt mX9_undo 70 (.iastore) 1 71 := ⟨by decide +kernel, rfl⟩
theorem eX9_undo_71 : xAt mX9_undo 71 (.iinc 1 1) 3 74 := ⟨by decide +kernel, rfl⟩
theorem eX9_undo_74 : xBr mX9_undo 74 .goto (-57) 77 17 := ⟨by decide +kernel, rfl, by decide⟩
theorem eX9_undo_77 : xAt mX9_undo 77 (.iconst 0) 1 78 := ⟨by decide +kernel, rfl⟩
theorem eX9_undo_78 : xAt mX9_undo 78 (.istore_n 1) 1 79 := ⟨by decide +kernel, rfl⟩
theorem eX9_undo_79 : xAt mX9_undo 79 (.iload_n 1) 1 80 := ⟨by decide +kernel, rfl⟩
theorem eX9_undo_80 : xAt mX9_undo 80 (.sipush 720) 3 83 := ⟨by decide +kernel, rfl⟩
theorem eX9_undo_83 : xBr mX9_undo 83 (.if_icmp .ge) (21) 86 104 := ⟨by decide +kernel, rfl, by decide⟩
theorem eX9_undo_86 : xAt mX9_undo 86 (.aload_n 0) 1 87 := ⟨by decide +kernel, rfl⟩
theorem eX9_undo_87 : xAt mX9_undo 87 (.getfield 61) 3 90 := ⟨by decide +kernel, rfl⟩
theorem eX9_undo_90 : xAt mX9_undo 90 (.iload_n 1) 1 91 := ⟨by decide +kernel, rfl⟩
theorem eX9_undo_91 : xAt mX9_undo 91 (.aload_n 0) 1 92 := ⟨by decide +kernel, rfl⟩
theorem eX9_undo_92 : xAt mX9_undo 92 (.getfield 76) 3 95 := ⟨by decide +kernel, rfl⟩
theorem eX9_undo_95 : xAt mX9_undo 95 (.iload_n 1) 1 96 := ⟨by decide +kernel, rfl⟩
theorem eX9_undo_96 : xAt mX9_undo 96 (.iaload) 1 97 := ⟨by decide +kernel, rfl⟩
theorem eX9_undo_97 : xAt mX9_undo 97 (.iastore) 1 98 := ⟨by decide +kernel, rfl⟩
theorem eX9_undo_98 : xAt mX9_undo 98 (.iinc 1 1) 3 101 := ⟨by decide +kernel, rfl⟩
theorem eX9_undo_101 : xBr mX9_undo 101 .goto (-22) 104 79 := ⟨by decide +kernel, rfl, by decide⟩
theorem eX9_undo_104 : xAt mX9_undo 104 (.iconst 1) 1 105 := ⟨by decide +kernel, rfl⟩
theorem eX9_undo_105 : xAt mX9_undo 105 (.ireturn) 1 106 := ⟨by decide +kernel, rfl⟩
theorem eX9_count_0 : xAt mX9_count 0 (.iload_n 1) 1 1 := ⟨by decide +kernel, rfl⟩
theorem eX9_count_1 : xBr mX9_count 1 (.ifCond .ne) (10) 4 11 := ⟨by decide +kernel, rfl, by decide⟩
theorem eX9_count_4 : xAt mX9_count 4 (.aload_n 0) 1 5 := ⟨by decide +kernel, rfl⟩
theorem eX9_count_5 : xAt mX9_count 5 (.getfield 170) 3 8 := ⟨by decide +kernel, rfl⟩
theorem eX9_count_8 : xBr mX9_count 8 .goto (62) 11 70 := ⟨by decide +kernel, rfl, by decide⟩
theorem eX9_count_11 : xAt mX9_count 11 (.iload_n 1) 1 12 := ⟨by decide +kernel, rfl⟩
theorem eX9_count_12 : xAt mX9_count 12 (.iconst 1) 1 13 := ⟨by decide +kernel, rfl⟩
theorem eX9_count_13 : xBr mX9_count 13 (.if_icmp .ne) (11) 16 24 := ⟨by decide +kernel, rfl, by decide⟩
theorem eX9_count_16 : xAt mX9_count 16 (.aload_n 0) 1 17 := ⟨by decide +kernel, rfl⟩
theorem eX9_count_17 : xAt mX9_count 17 (.iconst (-1)) 1 18 := ⟨by decide +kernel, rfl⟩
theorem eX9_count_18 : xAt mX9_count 18 (.invokevirtual 287) 3 21 := ⟨by decide +kernel, rfl⟩
theorem eX9_count_21 : xBr mX9_count 21 .goto (49) 24 70 := ⟨by decide +kernel, rfl, by decide⟩
theorem eX9_count_24 : xAt mX9_count 24 (.iload_n 1) 1 25 := ⟨by decide +kernel, rfl⟩
theorem eX9_count_25 : xAt mX9_count 25 (.iconst 2) 1 26 := ⟨by decide +kernel, rfl⟩
theorem eX9_count_26 : xBr mX9_count 26 (.if_icmp .ne) (10) 29 36 := ⟨by decide +kernel, rfl, by decide⟩
theorem eX9_count_29 : xAt mX9_count 29 (.aload_n 0) 1 30 := ⟨by decide +kernel, rfl⟩
theorem eX9_count_30 : xAt mX9_count 30 (.getfield 224) 3 33 := ⟨by decide +kernel, rfl⟩
theorem eX9_count_33 : xBr mX9_count 33 .goto (37) 36 70 := ⟨by decide +kernel, rfl, by decide⟩
theorem eX9_count_36 : xAt mX9_count 36 (.iload_n 1) 1 37 := ⟨by decide +kernel, rfl⟩
theorem eX9_count_37 : xAt mX9_count 37 (.iconst 3) 1 38 := ⟨by decide +kernel, rfl⟩
theorem eX9_count_38 : xBr mX9_count 38 (.if_icmp .ne) (10) 41 48 := ⟨by decide +kernel, rfl, by decide⟩
theorem eX9_count_41 : xAt mX9_count 41 (.aload_n 0) 1 42 := ⟨by decide +kernel, rfl⟩
theorem eX9_count_42 : xAt mX9_count 42 (.getfield 212) 3 45 := ⟨by decide +kernel, rfl⟩
theorem eX9_count_45 : xBr mX9_count 45 .goto (25) 48 70 := ⟨by decide +kernel, rfl, by decide⟩
theorem eX9_count_48 : xAt mX9_count 48 (.iload_n 1) 1 49 := ⟨by decide +kernel, rfl⟩
theorem eX9_count_49 : xAt mX9_count 49 (.iconst 4) 1 50 := ⟨by decide +kernel, rfl⟩
theorem eX9_count_50 : xAt mX9_count 50 (.bipush 7) 2 52 := ⟨by decide +kernel, rfl⟩
theorem eX9_count_52 : xAt mX9_count 52 (.invokestatic 173) 3 55 := ⟨by decide +kernel, rfl⟩
theorem eX9_count_55 : xBr mX9_count 55 (.ifCond .eq) (13) 58 68 := ⟨by decide +kernel, rfl, by decide⟩
theorem eX9_count_58 : xAt mX9_count 58 (.aload_n 0) 1 59 := ⟨by decide +kernel, rfl⟩
theorem eX9_count_59 : xAt mX9_count 59 (.iload_n 1) 1 60 := ⟨by decide +kernel, rfl⟩
theorem eX9_count_60 : xAt mX9_count 60 (.iconst 4) 1 61 := ⟨by decide +kernel, rfl⟩
theorem eX9_count_61 : xAt mX9_count 61 (.isub) 1 62 := ⟨by decide +kernel, rfl⟩
theorem eX9_count_62 : xAt mX9_count 62 (.invokevirtual 287) 3 65 := ⟨by decide +kernel, rfl⟩
theorem eX9_count_65 : xBr mX9_count 65 .goto (5) 68 70 := ⟨by decide +kernel, rfl, by decide⟩
theorem eX9_count_68 : xAt mX9_count 68 (.bipush (-102)) 2 70 := ⟨by decide +kernel, rfl⟩
theorem eX9_count_70 : xAt mX9_count 70 (.ireturn) 1 71 := ⟨by decide +kernel, rfl⟩
theorem eX9_digest_0 : xAt mX9_digest 0 (.ldc2_w 312) 3 3 := ⟨by decide +kernel, rfl⟩
theorem eX9_digest_3 : xAt mX9_digest 3 (.lstore_n 1) 1 4 := ⟨by decide +kernel, rfl⟩
theorem eX9_digest_4 : xAt mX9_digest 4 (.iconst 0) 1 5 := ⟨by decide +kernel, rfl⟩
theorem eX9_digest_5 : xAt mX9_digest 5 (.istore_n 3) 1 6 := ⟨by decide +kernel, rfl⟩
theorem eX9_digest_6 : xAt mX9_digest 6 (.iload_n 3) 1 7 := ⟨by decide +kernel, rfl⟩
theorem eX9_digest_7 : xAt mX9_digest 7 (.aload_n 0) 1 8 := ⟨by decide +kernel, rfl⟩
theorem eX9_digest_8 : xAt mX9_digest 8 (.getfield 224) 3 11 := ⟨by decide +kernel, rfl⟩
theorem eX9_digest_11 : xBr mX9_digest 11 (.if_icmp .ge) (109) 14 120 := ⟨by decide +kernel, rfl, by decide⟩
theorem eX9_digest_14 : xAt mX9_digest 14 (.aload_n 0) 1 15 := ⟨by decide +kernel, rfl⟩
theorem eX9_digest_15 : xAt mX9_digest 15 (.getfield 48) 3 18 := ⟨by decide +kernel, rfl⟩
theorem eX9_digest_18 : xAt mX9_digest 18 (.iload_n 3) 1 19 := ⟨by decide +kernel, rfl⟩
theorem eX9_digest_19 : xAt mX9_digest 19 (.baload) 1 20 := ⟨by decide +kernel, rfl⟩
theorem eX9_digest_20 : xBr mX9_digest 20 (.ifCond .eq) (94) 23 114 := ⟨by decide +kernel, rfl, by decide⟩
theorem eX9_digest_23 : xAt mX9_digest 23 (.ldc2_w 314) 3 26 := ⟨by decide +kernel, rfl⟩
theorem eX9_digest_26 : xAt mX9_digest 26 (.lload_n 1) 1 27 := ⟨by decide +kernel, rfl⟩
theorem eX9_digest_27 : xAt mX9_digest 27 (.lmul) 1 28 := ⟨by decide +kernel, rfl⟩
theorem eX9_digest_28 : xAt mX9_digest 28 (.iload_n 3) 1 29 := ⟨by decide +kernel, rfl⟩
theorem eX9_digest_29 : xAt mX9_digest 29 (.i2l) 1 30 := ⟨by decide +kernel, rfl⟩
theorem eX9_digest_30 : xAt mX9_digest 30 (.ladd) 1 31 := ⟨by decide +kernel, rfl⟩
theorem eX9_digest_31 : xAt mX9_digest 31 (.lstore_n 1) 1 32 := ⟨by decide +kernel, rfl⟩
theorem eX9_digest_32 : xAt mX9_digest 32 (.ldc2_w 314) 3 35 := ⟨by decide +kernel, rfl⟩
theorem eX9_digest_35 : xAt mX9_digest 35 (.lload_n 1) 1 36 := ⟨by decide +kernel, rfl⟩
theorem eX9_digest_36 : xAt mX9_digest 36 (.lmul) 1 37 := ⟨by decide +kernel, rfl⟩
theorem eX9_digest_37 : xAt mX9_digest 37 (.aload_n 0) 1 38 := ⟨by decide +kernel, rfl⟩
theorem eX9_digest_38 : xAt mX9_digest 38 (.getfield 52) 3 41 := ⟨by decide +kernel, rfl⟩
theorem eX9_digest_41 : xAt mX9_digest 41 (.iload_n 3) 1 42 := ⟨by decide +kernel, rfl⟩
theorem eX9_digest_42 : xAt mX9_digest 42 (.iaload) 1 43 := ⟨by decide +kernel, rfl⟩
theorem eX9_digest_43 : xAt mX9_digest 43 (.i2l) 1 44 := ⟨by decide +kernel, rfl⟩
theorem eX9_digest_44 : xAt mX9_digest 44 (.ladd) 1 45 := ⟨by decide +kernel, rfl⟩
theorem eX9_digest_45 : xAt mX9_digest 45 (.lstore_n 1) 1 46 := ⟨by decide +kernel, rfl⟩
theorem eX9_digest_46 : xAt mX9_digest 46 (.ldc2_w 314) 3 49 := ⟨by decide +kernel, rfl⟩
theorem eX9_digest_49 : xAt mX9_digest 49 (.lload_n 1) 1 50 := ⟨by decide +kernel, rfl⟩
theorem eX9_digest_50 : xAt mX9_digest 50 (.lmul) 1 51 := ⟨by decide +kernel, rfl⟩
theorem eX9_digest_51 : xAt mX9_digest 51 (.aload_n 0) 1 52 := ⟨by decide +kernel, rfl⟩
theorem eX9_digest_52 : xAt mX9_digest 52 (.getfield 55) 3 55 := ⟨by decide +kernel, rfl⟩
theorem eX9_digest_55 : xAt mX9_digest 55 (.iload_n 3) 1 56 := ⟨by decide +kernel, rfl⟩
theorem eX9_digest_56 : xAt mX9_digest 56 (.iaload) 1 57 := ⟨by decide +kernel, rfl⟩
theorem eX9_digest_57 : xAt mX9_digest 57 (.i2l) 1 58 := ⟨by decide +kernel, rfl⟩
theorem eX9_digest_58 : xAt mX9_digest 58 (.ladd) 1 59 := ⟨by decide +kernel, rfl⟩
theorem eX9_digest_59 : xAt mX9_digest 59 (.lstore_n 1) 1 60 := ⟨by decide +kernel, rfl⟩
theorem eX9_digest_60 : xAt mX9_digest 60 (.ldc2_w 314) 3 63 := ⟨by decide +kernel, rfl⟩
theorem eX9_digest_63 : xAt mX9_digest 63 (.lload_n 1) 1 64 := ⟨by decide +kernel, rfl⟩
theorem eX9_digest_64 : xAt mX9_digest 64 (.lmul) 1 65 := ⟨by decide +kernel, rfl⟩
theorem eX9_digest_65 : xAt mX9_digest 65 (.aload_n 0) 1 66 := ⟨by decide +kernel, rfl⟩
theorem eX9_digest_66 : xAt mX9_digest 66 (.getfield 58) 3 69 := ⟨by decide +kernel, rfl⟩
theorem eX9_digest_69 : xAt mX9_digest 69 (.iload_n 3) 1 70 := ⟨by decide +kernel, rfl⟩
theorem eX9_digest_70 : xAt mX9_digest 70 (.iaload) 1 71 := ⟨by decide +kernel, rfl⟩
theorem eX9_digest_71 : xAt mX9_digest 71 (.i2l) 1 72 := ⟨by decide +kernel, rfl⟩
theorem eX9_digest_72 : xAt mX9_digest 72 (.ladd) 1 73 := ⟨by decide +kernel, rfl⟩
theorem eX9_digest_73 : xAt mX9_digest 73 (.lstore_n 1) 1 74 := ⟨by decide +kernel, rfl⟩
theorem eX9_digest_74 : xAt mX9_digest 74 (.iconst 0) 1 75 := ⟨by decide +kernel, rfl⟩
theorem eX9_digest_75 : xAt mX9_digest 75 (.istore 4) 2 77 := ⟨by decide +kernel, rfl⟩
theorem eX9_digest_77 : xAt mX9_digest 77 (.iload 4) 2 79 := ⟨by decide +kernel, rfl⟩
theorem eX9_digest_79 : xAt mX9_digest 79 (.aload_n 0) 1 80 := ⟨by decide +kernel, rfl⟩
theorem eX9_digest_80 : xAt mX9_digest 80 (.getfield 58) 3 83 := ⟨by decide +kernel, rfl⟩
theorem eX9_digest_83 : xAt mX9_digest 83 (.iload_n 3) 1 84 := ⟨by decide +kernel, rfl⟩
theorem eX9_digest_84 : xAt mX9_digest 84 (.iaload) 1 85 := ⟨by decide +kernel, rfl⟩
theorem eX9_digest_85 : xBr mX9_digest 85 (.if_icmp .ge) (29) 88 114 := ⟨by decide +kernel, rfl, by decide⟩
theorem eX9_digest_88 : xAt mX9_digest 88 (.ldc2_w 314) 3 91 := ⟨by decide +kernel, rfl⟩
theorem eX9_digest_91 : xAt mX9_digest 91 (.lload_n 1) 1 92 := ⟨by decide +kernel, rfl⟩
theorem eX9_digest_92 : xAt mX9_digest 92 (.lmul) 1 93 := ⟨by decide +kernel, rfl⟩
theorem eX9_digest_93 : xAt mX9_digest 93 (.aload_n 0) 1 94 := ⟨by decide +kernel, rfl⟩
theorem eX9_digest_94 : xAt mX9_digest 94 (.getfield 61) 3 97 := ⟨by decide +kernel, rfl⟩
theorem eX9_digest_97 : xAt mX9_digest 97 (.bipush 12) 2 99 := ⟨by decide +kernel, rfl⟩
theorem eX9_digest_99 : xAt mX9_digest 99 (.iload_n 3) 1 100 := ⟨by decide +kernel, rfl⟩
theorem eX9_digest_100 : xAt mX9_digest 100 (.imul) 1 101 := ⟨by decide +kernel, rfl⟩
theorem eX9_digest_101 : xAt mX9_digest 101 (.iload 4) 2 103 := ⟨by decide +kernel, rfl⟩
theorem eX9_digest_103 : xAt mX9_digest 103 (.iadd) 1 104 := ⟨by decide +kernel, rfl⟩
theorem eX9_digest_104 : xAt mX9_digest 104 (.iaload) 1 105 := ⟨by decide +kernel, rfl⟩
theorem eX9_digest_105 : xAt mX9_digest 105 (.i2l) 1 106 := ⟨by decide +kernel, rfl⟩
theorem eX9_digest_106 : xAt mX9_digest 106 (.ladd) 1 107 := ⟨by decide +kernel, rfl⟩
theorem eX9_digest_107 : xAt mX9_digest 107 (.lstore_n 1) 1 108 := ⟨by decide +kernel, rfl⟩
theorem eX9_digest_108 : xAt mX9_digest 108 (.iinc 4 1) 3 111 := ⟨by decide +kernel, rfl⟩
theorem eX9_digest_111 : xBr mX9_digest 111 .goto (-34) 114 77 := ⟨by decide +kernel, rfl, by decide⟩
theorem eX9_digest_114 : xAt mX9_digest 114 (.iinc 3 1) 3 117 := ⟨by decide +kernel, rfl⟩
theorem eX9_digest_117 : xBr mX9_digest 117 .goto (-111) 120 6 := ⟨by decide +kernel, rfl, by decide⟩
theorem eX9_digest_120 : xAt mX9_digest 120 (.lload_n 1) 1 121 := ⟨by decide +kernel, rfl⟩
theorem eX9_digest_121 : xAt mX9_digest 121 (.lreturn) 1 122 := ⟨by decide +kernel, rfl⟩
end
section
/-! ===== the shape: which kind stands at each place (below 10 the objects' kinds, 10 int rows, 11 long, 12 double, 13 boolean, 14 and 15 rows of references) ===== -/
def kdL : List Nat := [9, 11, 11, 11, 11, 11, 11, 11, 11, 10, 10, 10, 13, 10, 10, 10, 10, 13, 10, 10, 10, 10, 10, 10, 10, 10, 13, 11, 11, 11, 11, 8, 2, 11, 12, 11, 5, 3, 14, 6, 15, 0, 10, 13, 10]
def lnL : List Nat := [0, 202, 202, 1010, 1010, 5, 5, 10, 10, 20, 24, 24, 60, 60, 60, 60, 720, 60, 60, 60, 60, 720, 16, 12, 402, 200, 200, 600, 10, 10, 600, 0, 0, 402, 402, 1608, 0, 0, 60, 0, 60, 0, 200, 200, 201]
def rfM : List Nat := [1, 2, 3, 4, 0, 5, 6, 7, 0, 8, 9, 0, 0, 10, 0, 11, 0, 12, 13, 14, 15, 16, 0, 0, 17, 18, 19, 20, 21, 0, 0, 22, 0, 23, 0, 0, 24, 25, 26, 27, 28, 29, 30]
def kd (p : Nat) : Nat := if p < 45 then kdL.getD p 0 else if p < 175 then (if (p - 45) % 2 = 0 then 4 else 10) else if p < 237 then 1 else (if (p - 237) % 2 = 0 then 7 else 11)
def ln (p : Nat) : Nat := if p < 45 then lnL.getD p 0 else if p < 175 then 24 else 8
def rf (p f : Nat) : Nat :=
  if p = 0 then rfM.getD f 0
  else if p = 31 then [32, 36, 37, 39, 41, 169, 171, 173].getD f 0
  else if p = 32 then [33, 34, 35, 363].getD f 0
  else if p = 36 then 32
  else if p = 37 then [38, 235, 236].getD f 0
  else if p = 38 then 175 + f
  else if p = 39 then [40, 357, 359, 361].getD f 0
  else if p = 40 then 237 + 2 * f
  else if p = 41 then [42, 43, 44].getD f 0
  else if 175 ≤ p ∧ p < 237 then 45 + 2 * (p - 175)
  else p + 1
def fdL : List (List Bool) := [[true, true, true, false, false], [true, false, false, false], [true, true, true, true, false], [true, true, true, false, false, false, false], [true, false], [true, false], [true, true, true, true], [true], [true, true, true, true, true, true, true, true, false, false, false], [true, true, true, true, false, true, true, true, false, true, true, false, false, true, false, true, false, true, true, true, true, true, false, false, true, true, true, true, true, false, false, true, false, true, false, false, true, true, true, true, true, true, true]]
def nf (c : Nat) : Nat := (fdL.getD c []).length
def isR (c f : Nat) : Bool := (fdL.getD c []).getD f false
abbrev xS : Type := (Nat → Nat → Int32) × (Nat → Nat → Int32) × (Nat → Nat → Int64) × (Nat → Nat → UInt64)
abbrev sF (S : xS) : Nat → Nat → Int32 := S.1
abbrev sI (S : xS) : Nat → Nat → Int32 := S.2.1
abbrev sL (S : xS) : Nat → Nat → Int64 := S.2.2.1
abbrev sD (S : xS) : Nat → Nat → UInt64 := S.2.2.2
def rw1 {α : Type} (f : Nat → α) (p : Nat) (r : α) : Nat → α := fun q => if q = p then r else f q
theorem rw1_same {α : Type} {f : Nat → α} {p : Nat} {r : α} : rw1 f p r p = r := by simp [rw1]
theorem rw1_ne {α : Type} {f : Nat → α} {p q : Nat} {r : α} (h : q ≠ p) : rw1 f p r q = f q := by simp [rw1, h]
def setF (S : xS) (p : Nat) (r : Nat → Int32) : xS := (rw1 S.1 p r, S.2)
def setI (S : xS) (p : Nat) (r : Nat → Int32) : xS := (S.1, rw1 S.2.1 p r, S.2.2)
def setL (S : xS) (p : Nat) (r : Nat → Int64) : xS := (S.1, S.2.1, rw1 S.2.2.1 p r, S.2.2.2)
def setD (S : xS) (p : Nat) (r : Nat → UInt64) : xS := (S.1, S.2.1, S.2.2.1, rw1 S.2.2.2 p r)
def sFs (c p : Nat) (S : xS) : List Value := (List.range (nf c)).map (fun f => if isR c f then .ref (rf p f) else .int (S.1 p f))
def xwS (S : xS) : xW := fun p =>
  if kd p < 10 then .inr (kd p, sFs (kd p) p S)
  else if kd p = 10 then .inl (0, ln p, .inl (S.2.1 p))
  else if kd p = 13 then .inl (3, ln p, .inl (S.2.1 p))
  else if kd p = 11 then .inl (1, ln p, .inr (.inl (S.2.2.1 p)))
  else if kd p = 12 then .inl (2, ln p, .inr (.inr (.inr (.inl (S.2.2.2 p)))))
  else .inl (kd p - 10, ln p, .inr (.inr (.inr (.inr (fun j => some (rf p j))))))
def sQ (Q : Option Value → xS → Prop) : Option Value → xW → Prop := fun r w' => ∃ S', w' = xwS S' ∧ Q r S'
theorem xwS_obj {S : xS} {p c : Nat} (h : kd p = c) (hc : c < 10) : xwS S p = .inr (c, sFs c p S) := by subst h; simp [xwS, hc]
theorem xwS_i {S : xS} {p : Nat} (h : kd p = 10) : xwS S p = .inl (0, ln p, .inl (S.2.1 p)) := by simp [xwS, h]
theorem xwS_z {S : xS} {p : Nat} (h : kd p = 13) : xwS S p = .inl (3, ln p, .inl (S.2.1 p)) := by simp [xwS, h]
theorem xwS_l {S : xS} {p : Nat} (h : kd p = 11) : xwS S p = .inl (1, ln p, .inr (.inl (S.2.2.1 p))) := by simp [xwS, h]
theorem xwS_d {S : xS} {p : Nat} (h : kd p = 12) : xwS S p = .inl (2, ln p, .inr (.inr (.inr (.inl (S.2.2.2 p))))) := by simp [xwS, h]
theorem xwS_r {S : xS} {p t : Nat} (h : kd p = t) (ht : t = 14 ∨ t = 15) : xwS S p = .inl (t - 10, ln p, .inr (.inr (.inr (.inr (fun j => some (rf p j)))))) := by rcases ht with rfl | rfl <;> simp [xwS, h]
theorem sFs_at {c p f : Nat} {S : xS} (h : f < nf c) : (sFs c p S)[f]? = some (if isR c f then .ref (rf p f) else .int (S.1 p f)) := by
  unfold sFs
  rw [List.getElem?_map, List.getElem?_range h]
  rfl
theorem sFs_set {c p f : Nat} {S : xS} {x : Int32} (_ : f < nf c) (hr : isR c f = false) : (sFs c p S).set f (.int x) = sFs c p (setF S p (upd (S.1 p) f x)) := by
  apply List.ext_getElem?
  intro j
  rw [List.getElem?_set]
  have hlen : (sFs c p S).length = nf c := by simp [sFs]
  by_cases hj : j < nf c
  · rw [sFs_at hj, sFs_at hj, hlen]
    by_cases hk : f = j
    · subst hk; simp [hj, hr, setF, rw1, upd]
    · have hk' : ¬ j = f := fun h => hk h.symm
      simp [hk, hk', setF, rw1, upd]
  · have h1 : (sFs c p S)[j]? = none := List.getElem?_eq_none (by rw [hlen]; omega)
    have h2 : (sFs c p (setF S p (upd (S.1 p) f x)))[j]? = none := List.getElem?_eq_none (by simp [sFs]; omega)
    rw [h1, h2, hlen]
    by_cases hk : f = j
    · subst hk; simp [hj]
    · simp [hk]
theorem xup_F {S : xS} {p c f : Nat} {x : Int32} (h : kd p = c) (hc : c < 10) (hf : f < nf c) (hr : isR c f = false) : xup (xwS S) p (.inr (c, (sFs c p S).set f (.int x))) = xwS (setF S p (upd (S.1 p) f x)) := by
  funext q
  by_cases hq : q = p
  · subst hq
    rw [xup_same, xwS_obj h hc, sFs_set hf hr]
  · rw [xup_ne hq]
    have : ∀ c, sFs c q (setF S p (upd (S.1 p) f x)) = sFs c q S := by intro c; simp [sFs, setF, rw1, hq]
    simp only [xwS, this]
    rfl
theorem xup_i {S : xS} {p : Nat} {g : Nat → Int32} (h : kd p = 10) : xup (xwS S) p (.inl (0, ln p, .inl g)) = xwS (setI S p g) := by
  funext q
  by_cases hq : q = p
  · subst hq
    rw [xup_same]
    simp [xwS, h, setI, rw1]
  · rw [xup_ne hq]
    have h1 : ∀ c, sFs c q (setI S p g) = sFs c q S := by intro c; rfl
    simp only [xwS, setI, rw1, hq, if_false]
    rfl
theorem xup_z {S : xS} {p : Nat} {g : Nat → Int32} (h : kd p = 13) : xup (xwS S) p (.inl (3, ln p, .inl g)) = xwS (setI S p g) := by
  funext q
  by_cases hq : q = p
  · subst hq
    rw [xup_same]
    simp [xwS, h, setI, rw1]
  · rw [xup_ne hq]
    have h1 : ∀ c, sFs c q (setI S p g) = sFs c q S := by intro c; rfl
    simp only [xwS, setI, rw1, hq, if_false]
    rfl
theorem xup_l {S : xS} {p : Nat} {g : Nat → Int64} (h : kd p = 11) : xup (xwS S) p (.inl (1, ln p, .inr (.inl g))) = xwS (setL S p g) := by
  funext q
  by_cases hq : q = p
  · subst hq
    rw [xup_same]
    simp [xwS, h, setL, rw1]
  · rw [xup_ne hq]
    have h1 : ∀ c, sFs c q (setL S p g) = sFs c q S := by intro c; rfl
    simp only [xwS, setL, rw1, hq, if_false]
    rfl
theorem xup_d {S : xS} {p : Nat} {g : Nat → UInt64} (h : kd p = 12) : xup (xwS S) p (.inl (2, ln p, .inr (.inr (.inr (.inl g))))) = xwS (setD S p g) := by
  funext q
  by_cases hq : q = p
  · subst hq
    rw [xup_same]
    simp [xwS, h, setD, rw1]
  · rw [xup_ne hq]
    have h1 : ∀ c, sFs c q (setD S p g) = sFs c q S := by intro c; rfl
    simp only [xwS, setD, rw1, hq, if_false]
    rfl
section SR
variable {M : xM} {pc pc' : Nat} {lv : List (Nat × Value)} {st : List Value} {S : xS} {Q : Option Value → xW → Prop}
theorem s_getr {p ci i f : Nat} (hd : xAt M pc (.getfield i) 3 pc') (hF : xFld M.1.cls i ci f) (hk : kd p = ci) (hp : p < xN) (hs : (ci < 10 ∧ f < nf ci) ∧ isR ci f = true) (kk : XP M pc' lv (.ref (rf p f) :: st) (xwS S) Q) : XP M pc lv (.ref p :: st) (xwS S) Q :=
  x_getf hd hF (xwS_obj hk hs.1.1) hp (by rw [sFs_at hs.1.2, hs.2]; rfl) kk
theorem s_geti {p ci i f : Nat} (hd : xAt M pc (.getfield i) 3 pc') (hF : xFld M.1.cls i ci f) (hk : kd p = ci) (hp : p < xN) (hs : (ci < 10 ∧ f < nf ci) ∧ isR ci f = false) (kk : XP M pc' lv (.int (S.1 p f) :: st) (xwS S) Q) : XP M pc lv (.ref p :: st) (xwS S) Q :=
  x_getf hd hF (xwS_obj hk hs.1.1) hp (by rw [sFs_at hs.1.2, hs.2]; rfl) kk
theorem s_puti {p ci i f : Nat} {x : Int32} (hd : xAt M pc (.putfield i) 3 pc') (hF : xFld M.1.cls i ci f) (hFW : xFldW ci f .int) (hk : kd p = ci) (hp : p < xN) (hs : (ci < 10 ∧ f < nf ci) ∧ isR ci f = false) (kk : XP M pc' lv st (xwS (setF S p (upd (S.1 p) f x))) Q) : XP M pc lv (.int x :: .ref p :: st) (xwS S) Q :=
  x_putf hd hF hFW (xwS_obj hk hs.1.1) hp rfl rfl (by simpa [sFs] using hs.1.2) (by rw [xup_F hk hs.1.1 hs.1.2 hs.2]; exact kk)
theorem s_putz {p ci i f : Nat} {x : Int32} (hd : xAt M pc (.putfield i) 3 pc') (hF : xFld M.1.cls i ci f) (hFW : xFldW ci f .boolean) (hk : kd p = ci) (hp : p < xN) (hs : (ci < 10 ∧ f < nf ci) ∧ isR ci f = false) (hx : x = 0 ∨ x = 1) (kk : XP M pc' lv st (xwS (setF S p (upd (S.1 p) f x))) Q) : XP M pc lv (.int x :: .ref p :: st) (xwS S) Q :=
  x_putf hd hF hFW (xwS_obj hk hs.1.1) hp (by rcases hx with rfl | rfl <;> rfl) (by rcases hx with rfl | rfl <;> rfl) (by simpa [sFs] using hs.1.2) (by rw [xup_F hk hs.1.1 hs.1.2 hs.2]; exact kk)
theorem ln_small (p : Nat) : ln p < 2 ^ 31 := by
  unfold ln
  split
  · rename_i h
    have : ∀ p, p < 45 → lnL.getD p 0 < 2 ^ 31 := by decide
    exact this p h
  · split <;> decide
theorem s_iald {a j : Nat} {i : Int32} (hd : xAt M pc .iaload 1 pc') (hk : kd a = 10) (ha : a < xN) (hi : i = nI j) (hj : j < ln a) (kk : XP M pc' lv (.int (S.2.1 a j) :: st) (xwS S) Q) : XP M pc lv (.int i :: .ref a :: st) (xwS S) Q :=
  x_iald hd (xwS_i hk) ha hi hj (ln_small a) kk
theorem s_zald {a j : Nat} {i : Int32} (hd : xAt M pc .baload 1 pc') (hk : kd a = 13) (ha : a < xN) (hi : i = nI j) (hj : j < ln a) (kk : XP M pc' lv (.int (S.2.1 a j) :: st) (xwS S) Q) : XP M pc lv (.int i :: .ref a :: st) (xwS S) Q :=
  x_zald hd (xwS_z hk) ha hi hj (ln_small a) kk
theorem s_lald {a j : Nat} {i : Int32} (hd : xAt M pc .laload 1 pc') (hk : kd a = 11) (ha : a < xN) (hi : i = nI j) (hj : j < ln a) (kk : XP M pc' lv (.long (S.2.2.1 a j) :: st) (xwS S) Q) : XP M pc lv (.int i :: .ref a :: st) (xwS S) Q :=
  x_lald hd (xwS_l hk) ha hi hj (ln_small a) kk
theorem s_dald {a j : Nat} {i : Int32} (hd : xAt M pc .daload 1 pc') (hk : kd a = 12) (ha : a < xN) (hi : i = nI j) (hj : j < ln a) (kk : XP M pc' lv (.double (S.2.2.2 a j) :: st) (xwS S) Q) : XP M pc lv (.int i :: .ref a :: st) (xwS S) Q :=
  x_dald hd (xwS_d hk) ha hi hj (ln_small a) kk
theorem s_rald {a j : Nat} {i : Int32} (hd : xAt M pc .aaload 1 pc') (hk : kd a = 14 ∨ kd a = 15) (ha : a < xN) (hi : i = nI j) (hj : j < ln a) (kk : XP M pc' lv (.ref (rf a j) :: st) (xwS S) Q) : XP M pc lv (.int i :: .ref a :: st) (xwS S) Q := by
  rcases hk with hk | hk
  · exact x_rald hd (xwS_r hk (Or.inl rfl)) (Or.inl ⟨rfl, rfl⟩) ha hi hj (ln_small a) rfl kk
  · exact x_rald hd (xwS_r hk (Or.inr rfl)) (Or.inr ⟨rfl, rfl⟩) ha hi hj (ln_small a) rfl kk
theorem s_iast {a j : Nat} {i x : Int32} (hd : xAt M pc .iastore 1 pc') (hk : kd a = 10) (ha : a < xN) (hi : i = nI j) (hj : j < ln a) (kk : XP M pc' lv st (xwS (setI S a (upd (S.2.1 a) j x))) Q) : XP M pc lv (.int x :: .int i :: .ref a :: st) (xwS S) Q :=
  x_iast hd (xwS_i hk) ha hi hj (ln_small a) (by rw [xup_i hk]; exact kk)
theorem s_zast {a j : Nat} {i x : Int32} (hd : xAt M pc .bastore 1 pc') (hk : kd a = 13) (ha : a < xN) (hi : i = nI j) (hj : j < ln a) (hx : x = 0 ∨ x = 1) (kk : XP M pc' lv st (xwS (setI S a (upd (S.2.1 a) j x))) Q) : XP M pc lv (.int x :: .int i :: .ref a :: st) (xwS S) Q :=
  x_zast hd (xwS_z hk) ha hi hj (ln_small a) (by rw [xup_z hk, show vp_nar .boolean x = x from by rcases hx with rfl | rfl <;> rfl]; exact kk)
theorem s_last {a j : Nat} {i : Int32} {x : Int64} (hd : xAt M pc .lastore 1 pc') (hk : kd a = 11) (ha : a < xN) (hi : i = nI j) (hj : j < ln a) (kk : XP M pc' lv st (xwS (setL S a (vp_updL (S.2.2.1 a) j x))) Q) : XP M pc lv (.long x :: .int i :: .ref a :: st) (xwS S) Q :=
  x_last hd (xwS_l hk) ha hi hj (ln_small a) (by rw [xup_l hk]; exact kk)
theorem s_dast {a j : Nat} {i : Int32} {x : UInt64} (hd : xAt M pc .dastore 1 pc') (hk : kd a = 12) (ha : a < xN) (hi : i = nI j) (hj : j < ln a) (kk : XP M pc' lv st (xwS (setD S a (vf_upd (S.2.2.2 a) j x))) Q) : XP M pc lv (.double x :: .int i :: .ref a :: st) (xwS S) Q :=
  x_dast hd (xwS_d hk) ha hi hj (ln_small a) (by rw [xup_d hk]; exact kk)
theorem s_callV {M' : xM} {index n b ci : Nat} {rest As : List Value} {Q' : Option Value → xS → Prop} (hd : xAt M pc (.invokevirtual index) 3 pc') (hL : xLnkV M.1.cls index M' ci n) (hF : xFit M M') (hk : kd b = ci) (hci : ci < 10) (hb : b < xN) (hn : As.length = n) (hst : st = As.reverse ++ .ref b :: rest) (hr : (rest.map fun v => v.category).sum ≤ 8) (hav : (lg_sl (.ref b :: As)).length ≤ M'.2.2.1)
    (hS' : XP M' 0 (lv_args 0 (.ref b :: As)) [] (xwS S) (sQ Q')) (kk : ∀ r S', Q' r S' → XP M pc' lv (r.toList ++ rest) (xwS S') Q) : XP M pc lv st (xwS S) Q :=
  x_callV hd hL hF (xwS_obj hk hci) hb hn hst hr hav hS' (fun r w' h => by obtain ⟨S', rfl, h⟩ := h; exact kk r S' h)
theorem s_callS {M' : xM} {index n : Nat} {rest As : List Value} {Q' : Option Value → xS → Prop} (hd : xAt M pc (.invokestatic index) 3 pc') (hL : xLnkS M.1.cls index M' n) (hF : xFit M M') (hn : As.length = n) (hst : st = As.reverse ++ rest) (hr : (rest.map fun v => v.category).sum ≤ 8) (hav : (lg_sl As).length ≤ M'.2.2.1)
    (hS' : XP M' 0 (lv_args 0 As) [] (xwS S) (sQ Q')) (kk : ∀ r S', Q' r S' → XP M pc' lv (r.toList ++ rest) (xwS S') Q) : XP M pc lv st (xwS S) Q :=
  x_callS hd hL hF hn hst hr hav hS' (fun r w' h => by obtain ⟨S', rfl, h⟩ := h; exact kk r S' h)
end SR
/-- a method's contract: called with av in S it answers R and leaves S' -/
def Sp (M : xM) (av : List Value) (S : xS) (Q : Option Value → xS → Prop) : Prop := XP M 0 (lv_args 0 av) [] (xwS S) (sQ Q)
theorem kd_ring {r : Nat} (h : r < 65) : kd (45 + 2 * r) = 4 := by
  unfold kd
  rw [if_neg (by omega), if_pos (by omega), if_pos (by omega)]
theorem kd_corner {r : Nat} (h : r < 65) : kd (46 + 2 * r) = 10 := by
  unfold kd
  rw [if_neg (by omega), if_pos (by omega), if_neg (by omega)]
theorem ln_corner {r : Nat} (h : r < 65) : ln (46 + 2 * r) = 24 := by
  unfold ln
  rw [if_neg (by omega), if_pos (by omega)]
theorem rf_ring {r : Nat} (h : r < 65) : rf (45 + 2 * r) 0 = 46 + 2 * r := by
  unfold rf
  rw [if_neg (by omega), if_neg (by omega), if_neg (by omega), if_neg (by omega), if_neg (by omega), if_neg (by omega), if_neg (by omega), if_neg (by omega), if_neg (by omega), if_neg (by omega)]
  omega
theorem kd_parcel {p : Nat} (h : p < 62) : kd (175 + p) = 1 := by
  unfold kd
  rw [if_neg (by omega), if_neg (by omega), if_pos (by omega)]
theorem rf_parcel {p : Nat} (h : p < 62) : rf (175 + p) 0 = 45 + 2 * p := by
  unfold rf
  rw [if_neg (by omega), if_neg (by omega), if_neg (by omega), if_neg (by omega), if_neg (by omega), if_neg (by omega), if_neg (by omega), if_neg (by omega), if_neg (by omega), if_pos (by omega)]
  omega
theorem kd_wide {v : Nat} (h : v < 64) : kd (237 + 2 * v) = 7 := by
  unfold kd
  rw [if_neg (by omega), if_neg (by omega), if_neg (by omega), if_pos (by omega)]
theorem kd_col {v : Nat} (h : v < 64) : kd (238 + 2 * v) = 11 := by
  unfold kd
  rw [if_neg (by omega), if_neg (by omega), if_neg (by omega), if_neg (by omega)]
theorem ln_col {v : Nat} (h : v < 64) : ln (238 + 2 * v) = 8 := by
  unfold ln
  rw [if_neg (by omega), if_neg (by omega)]
theorem rf_wide {v : Nat} (h : v < 64) : rf (237 + 2 * v) 0 = 238 + 2 * v := by
  unfold rf
  rw [if_neg (by omega), if_neg (by omega), if_neg (by omega), if_neg (by omega), if_neg (by omega), if_neg (by omega), if_neg (by omega), if_neg (by omega), if_neg (by omega), if_neg (by omega)]
  omega
theorem rf_parcels (p : Nat) : rf 38 p = 175 + p := rfl
theorem rf_rest (p : Nat) : rf 40 p = 237 + 2 * p := rfl
end
section
/-! ===== rules with naturals, truth values, comparisons; calls with an answer, without one ===== -/
def bI (b : Bool) : Int32 := if b then 1 else 0
theorem bI_01 (b : Bool) : bI b = 0 ∨ bI b = 1 := by cases b <;> simp [bI]
theorem bI_nar (b : Bool) : narrow .boolean (.int (bI b)) = .int (bI b) := by cases b <;> rfl
theorem nI_inc (k : Nat) : nI k + Int32.ofInt 1 = nI (k + 1) := nI_1 k
theorem lgc_eq (x y : Int64) : lg_cmp x y = 0 ↔ x = y := by
  unfold lg_cmp
  split
  · rename_i h
    constructor
    · intro h2; exact absurd h2 (by decide)
    · intro h2; subst h2; exact absurd h Int64.lt_irrefl
  · split
    · rename_i h; exact ⟨fun _ => h, fun _ => rfl⟩
    · rename_i h
      constructor
      · intro h2; exact absurd h2 (by decide)
      · intro h2; exact absurd h2 h
theorem lgc_lt (x y : Int64) : lg_cmp x y < 0 ↔ x < y := by
  unfold lg_cmp
  split
  · rename_i h
    constructor
    · intro h2; exact absurd h2 (by decide)
    · intro h2; exact absurd h2 (Int64.lt_asymm h)
  · split
    · rename_i h; subst h
      exact ⟨fun h2 => absurd h2 (by decide), fun h2 => absurd h2 Int64.lt_irrefl⟩
    · rename_i h1 h
      refine ⟨fun _ => ?_, fun _ => by decide⟩
      rw [Int64.lt_iff_toInt_lt]
      have h3 : ¬ y.toInt < x.toInt := fun h4 => h1 (Int64.lt_iff_toInt_lt.mpr h4)
      have h5 : x.toInt ≠ y.toInt := fun h4 => h (Int64.toInt_inj.mp h4)
      omega
theorem lgc_gt (x y : Int64) : 0 < lg_cmp x y ↔ y < x := by
  unfold lg_cmp
  split
  · rename_i h
    exact ⟨fun _ => h, fun _ => by decide⟩
  · split
    · rename_i h; subst h
      exact ⟨fun h2 => absurd h2 (by decide), fun h2 => absurd h2 Int64.lt_irrefl⟩
    · rename_i h1 h
      exact ⟨fun h2 => absurd h2 (by decide), fun h2 => absurd h2 h1⟩
section NR
variable {M : xM} {pc pc' tgt : Nat} {off : Int} {lv lv' : List (Nat × Value)} {st : List Value} {w : xW} {Q : Option Value → xW → Prop} {a b : Nat}
theorem x_iaddN (hd : xAt M pc .iadd 1 pc') (k : XP M pc' lv (.int (nI (a + b)) :: st) w Q) : XP M pc lv (.int (nI b) :: .int (nI a) :: st) w Q := x_iadd hd (by rw [nI_add]; exact k)
theorem x_imulN (hd : xAt M pc .imul 1 pc') (k : XP M pc' lv (.int (nI (a * b)) :: st) w Q) : XP M pc lv (.int (nI b) :: .int (nI a) :: st) w Q := x_imul hd (by rw [pk_mul]; exact k)
theorem x_isubN (hd : xAt M pc .isub 1 pc') (h : b ≤ a) (k : XP M pc' lv (.int (nI (a - b)) :: st) w Q) : XP M pc lv (.int (nI b) :: .int (nI a) :: st) w Q := x_isub hd (by rw [pk_sub h]; exact k)
theorem x_idivN (hd : xAt M pc .idiv 1 pc') (ha : a < 2 ^ 31) (h0 : 0 < b) (hb : b < 2 ^ 31) (k : XP M pc' lv (.int (nI (a / b)) :: st) w Q) : XP M pc lv (.int (nI b) :: .int (nI a) :: st) w Q := x_idiv hd (nI_ne0 h0 hb) (by rw [pk_div ha h0 hb]; exact k)
theorem x_iremN (hd : xAt M pc .irem 1 pc') (ha : a < 2 ^ 31) (h0 : 0 < b) (hb : b < 2 ^ 31) (k : XP M pc' lv (.int (nI (a % b)) :: st) w Q) : XP M pc lv (.int (nI b) :: .int (nI a) :: st) w Q := x_irem hd (nI_ne0 h0 hb) (by rw [pk_rem ha h0 hb]; exact k)
theorem x_icmp_eqN (hd : xBr M pc (.if_icmp .eq) off pc' tgt) (ha : a < 2 ^ 31) (hb : b < 2 ^ 31) (kt : a = b → XP M tgt lv st w Q) (kf : a ≠ b → XP M pc' lv st w Q) : XP M pc lv (.int (nI b) :: .int (nI a) :: st) w Q := x_icmp_eq hd (fun h => kt ((nI_eq ha hb).mp h)) (fun h => kf (fun h2 => h ((nI_eq ha hb).mpr h2)))
theorem x_icmp_neN (hd : xBr M pc (.if_icmp .ne) off pc' tgt) (ha : a < 2 ^ 31) (hb : b < 2 ^ 31) (kt : a ≠ b → XP M tgt lv st w Q) (kf : a = b → XP M pc' lv st w Q) : XP M pc lv (.int (nI b) :: .int (nI a) :: st) w Q := x_icmp_ne hd (fun h => kt (fun h2 => h ((nI_eq ha hb).mpr h2))) (fun h => kf ((nI_eq ha hb).mp h))
theorem x_icmp_ltN (hd : xBr M pc (.if_icmp .lt) off pc' tgt) (ha : a < 2 ^ 31) (hb : b < 2 ^ 31) (kt : a < b → XP M tgt lv st w Q) (kf : b ≤ a → XP M pc' lv st w Q) : XP M pc lv (.int (nI b) :: .int (nI a) :: st) w Q := x_icmp_lt hd (fun h => kt ((nI_ltI ha hb).mp h)) (fun h => kf (Nat.le_of_not_lt (fun h2 => h ((nI_ltI ha hb).mpr h2))))
theorem x_icmp_geN (hd : xBr M pc (.if_icmp .ge) off pc' tgt) (ha : a < 2 ^ 31) (hb : b < 2 ^ 31) (kt : b ≤ a → XP M tgt lv st w Q) (kf : a < b → XP M pc' lv st w Q) : XP M pc lv (.int (nI b) :: .int (nI a) :: st) w Q := x_icmp_ge hd (fun h => kt ((nI_leI hb ha).mp h)) (fun h => kf (Nat.lt_of_not_le (fun h2 => h ((nI_leI hb ha).mpr h2))))
theorem x_icmp_gtN (hd : xBr M pc (.if_icmp .gt) off pc' tgt) (ha : a < 2 ^ 31) (hb : b < 2 ^ 31) (kt : b < a → XP M tgt lv st w Q) (kf : a ≤ b → XP M pc' lv st w Q) : XP M pc lv (.int (nI b) :: .int (nI a) :: st) w Q := x_icmp_gt hd (fun h => kt ((nI_ltI hb ha).mp h)) (fun h => kf (Nat.le_of_not_lt (fun h2 => h ((nI_ltI hb ha).mpr h2))))
theorem x_icmp_leN (hd : xBr M pc (.if_icmp .le) off pc' tgt) (ha : a < 2 ^ 31) (hb : b < 2 ^ 31) (kt : a ≤ b → XP M tgt lv st w Q) (kf : b < a → XP M pc' lv st w Q) : XP M pc lv (.int (nI b) :: .int (nI a) :: st) w Q := x_icmp_le hd (fun h => kt ((nI_leI ha hb).mp h)) (fun h => kf (Nat.lt_of_not_le (fun h2 => h ((nI_leI ha hb).mpr h2))))
theorem x_if_eqN (hd : xBr M pc (.ifCond .eq) off pc' tgt) (ha : a < 2 ^ 31) (kt : a = 0 → XP M tgt lv st w Q) (kf : 0 < a → XP M pc' lv st w Q) : XP M pc lv (.int (nI a) :: st) w Q := x_if_eq hd (fun h => kt ((nI_eq ha (by decide)).mp h)) (fun h => kf (Nat.pos_of_ne_zero (fun h2 => h ((nI_eq ha (by decide)).mpr h2))))
theorem x_if_neN (hd : xBr M pc (.ifCond .ne) off pc' tgt) (ha : a < 2 ^ 31) (kt : 0 < a → XP M tgt lv st w Q) (kf : a = 0 → XP M pc' lv st w Q) : XP M pc lv (.int (nI a) :: st) w Q := x_if_ne hd (fun h => kt (Nat.pos_of_ne_zero (fun h2 => h ((nI_eq ha (by decide)).mpr h2)))) (fun h => kf ((nI_eq ha (by decide)).mp h))
theorem x_if_ltN (hd : xBr M pc (.ifCond .lt) off pc' tgt) (ha : a < 2 ^ 31) (kf : XP M pc' lv st w Q) : XP M pc lv (.int (nI a) :: st) w Q := x_if_lt hd (fun h => absurd h (nI_pos ha)) (fun _ => kf)
theorem x_if_geN (hd : xBr M pc (.ifCond .ge) off pc' tgt) (ha : a < 2 ^ 31) (kt : XP M tgt lv st w Q) : XP M pc lv (.int (nI a) :: st) w Q := x_if_ge hd (fun _ => kt) (fun h => absurd (nI_pos' ha) h)
theorem x_if_gtN (hd : xBr M pc (.ifCond .gt) off pc' tgt) (ha : a < 2 ^ 31) (kt : 0 < a → XP M tgt lv st w Q) (kf : a = 0 → XP M pc' lv st w Q) : XP M pc lv (.int (nI a) :: st) w Q := x_if_gt hd (fun h => kt ((nI_ltI (a := 0) (by decide) ha).mp h)) (fun h => kf (Nat.eq_zero_of_not_pos (fun h2 => h ((nI_ltI (a := 0) (by decide) ha).mpr h2))))
theorem x_if_leN (hd : xBr M pc (.ifCond .le) off pc' tgt) (ha : a < 2 ^ 31) (kt : a = 0 → XP M tgt lv st w Q) (kf : 0 < a → XP M pc' lv st w Q) : XP M pc lv (.int (nI a) :: st) w Q := x_if_le hd (fun h => kt (Nat.eq_zero_of_not_pos (fun h2 => nI_nle h2 ha h))) (fun h => kf (Nat.pos_of_ne_zero (fun h2 => by subst h2; exact h (by decide))))
theorem x_if_eqB {t : Bool} (hd : xBr M pc (.ifCond .eq) off pc' tgt) (kt : t = false → XP M tgt lv st w Q) (kf : t = true → XP M pc' lv st w Q) : XP M pc lv (.int (bI t) :: st) w Q := x_if_eq hd (fun h => kt (by cases t <;> simp_all [bI])) (fun h => kf (by cases t <;> simp_all [bI]))
theorem x_if_neB {t : Bool} (hd : xBr M pc (.ifCond .ne) off pc' tgt) (kt : t = true → XP M tgt lv st w Q) (kf : t = false → XP M pc' lv st w Q) : XP M pc lv (.int (bI t) :: st) w Q := x_if_ne hd (fun h => kt (by cases t <;> simp_all [bI])) (fun h => kf (by cases t <;> simp_all [bI]))
variable {x y : Int64}
theorem x_if_eqL (hd : xBr M pc (.ifCond .eq) off pc' tgt) (kt : x = y → XP M tgt lv st w Q) (kf : ¬ x = y → XP M pc' lv st w Q) : XP M pc lv (.int (lg_cmp x y) :: st) w Q := x_if_eq hd (fun h => kt ((lgc_eq x y).mp h)) (fun h => kf (fun h2 => h ((lgc_eq x y).mpr h2)))
theorem x_if_neL (hd : xBr M pc (.ifCond .ne) off pc' tgt) (kt : ¬ x = y → XP M tgt lv st w Q) (kf : x = y → XP M pc' lv st w Q) : XP M pc lv (.int (lg_cmp x y) :: st) w Q := x_if_ne hd (fun h => kt (fun h2 => h ((lgc_eq x y).mpr h2))) (fun h => kf ((lgc_eq x y).mp h))
theorem x_if_ltL (hd : xBr M pc (.ifCond .lt) off pc' tgt) (kt : x < y → XP M tgt lv st w Q) (kf : ¬ x < y → XP M pc' lv st w Q) : XP M pc lv (.int (lg_cmp x y) :: st) w Q := x_if_lt hd (fun h => kt ((lgc_lt x y).mp h)) (fun h => kf (fun h2 => h ((lgc_lt x y).mpr h2)))
theorem x_if_geL (hd : xBr M pc (.ifCond .ge) off pc' tgt) (kt : ¬ x < y → XP M tgt lv st w Q) (kf : x < y → XP M pc' lv st w Q) : XP M pc lv (.int (lg_cmp x y) :: st) w Q := x_if_ge hd (fun h => kt (fun h2 => absurd ((lgc_lt x y).mpr h2) (Int32.not_lt.mpr h))) (fun h => kf ((lgc_lt x y).mp (Int32.not_le.mp h)))
theorem x_if_gtL (hd : xBr M pc (.ifCond .gt) off pc' tgt) (kt : y < x → XP M tgt lv st w Q) (kf : ¬ y < x → XP M pc' lv st w Q) : XP M pc lv (.int (lg_cmp x y) :: st) w Q := x_if_gt hd (fun h => kt ((lgc_gt x y).mp h)) (fun h => kf (fun h2 => h ((lgc_gt x y).mpr h2)))
theorem x_if_leL (hd : xBr M pc (.ifCond .le) off pc' tgt) (kt : ¬ y < x → XP M tgt lv st w Q) (kf : y < x → XP M pc' lv st w Q) : XP M pc lv (.int (lg_cmp x y) :: st) w Q := x_if_le hd (fun h => kt (fun h2 => absurd ((lgc_gt x y).mpr h2) (Int32.not_lt.mpr h))) (fun h => kf ((lgc_gt x y).mp (Int32.not_le.mp h)))
end NR
section CR
variable {M M' : xM} {pc pc' index n b ci : Nat} {lv : List (Nat × Value)} {st rest As : List Value} {S : xS} {Q : Option Value → xW → Prop} {v : Value} {T : xS → Prop}
/-- a call with an answer -/
theorem s_callV1 (hd : xAt M pc (.invokevirtual index) 3 pc') (hL : xLnkV M.1.cls index M' ci n) (hF : xFit M M') (hk : kd b = ci) (hci : ci < 10) (hb : b < xN) (hn : As.length = n) (hst : st = As.reverse ++ .ref b :: rest) (hr : (rest.map fun v => v.category).sum ≤ 8) (hav : (lg_sl (.ref b :: As)).length ≤ M'.2.2.1)
    (hS' : Sp M' (.ref b :: As) S (fun r S' => r = some v ∧ T S')) (kk : ∀ S', T S' → XP M pc' lv (v :: rest) (xwS S') Q) : XP M pc lv st (xwS S) Q :=
  s_callV hd hL hF hk hci hb hn hst hr hav hS' (fun r S' h => by obtain ⟨rfl, h⟩ := h; exact kk S' h)
theorem s_callV0 (hd : xAt M pc (.invokevirtual index) 3 pc') (hL : xLnkV M.1.cls index M' ci n) (hF : xFit M M') (hk : kd b = ci) (hci : ci < 10) (hb : b < xN) (hn : As.length = n) (hst : st = As.reverse ++ .ref b :: rest) (hr : (rest.map fun v => v.category).sum ≤ 8) (hav : (lg_sl (.ref b :: As)).length ≤ M'.2.2.1)
    (hS' : Sp M' (.ref b :: As) S (fun r S' => r = none ∧ T S')) (kk : ∀ S', T S' → XP M pc' lv rest (xwS S') Q) : XP M pc lv st (xwS S) Q :=
  s_callV hd hL hF hk hci hb hn hst hr hav hS' (fun r S' h => by obtain ⟨rfl, h⟩ := h; exact kk S' h)
theorem s_callS1 (hd : xAt M pc (.invokestatic index) 3 pc') (hL : xLnkS M.1.cls index M' n) (hF : xFit M M') (hn : As.length = n) (hst : st = As.reverse ++ rest) (hr : (rest.map fun v => v.category).sum ≤ 8) (hav : (lg_sl As).length ≤ M'.2.2.1)
    (hS' : Sp M' As S (fun r S' => r = some v ∧ T S')) (kk : ∀ S', T S' → XP M pc' lv (v :: rest) (xwS S') Q) : XP M pc lv st (xwS S) Q :=
  s_callS hd hL hF hn hst hr hav hS' (fun r S' h => by obtain ⟨rfl, h⟩ := h; exact kk S' h)
theorem s_callS0 (hd : xAt M pc (.invokestatic index) 3 pc') (hL : xLnkS M.1.cls index M' n) (hF : xFit M M') (hn : As.length = n) (hst : st = As.reverse ++ rest) (hr : (rest.map fun v => v.category).sum ≤ 8) (hav : (lg_sl As).length ≤ M'.2.2.1)
    (hS' : Sp M' As S (fun r S' => r = none ∧ T S')) (kk : ∀ S', T S' → XP M pc' lv rest (xwS S') Q) : XP M pc lv st (xwS S) Q :=
  s_callS hd hL hF hn hst hr hav hS' (fun r S' h => by obtain ⟨rfl, h⟩ := h; exact kk S' h)
theorem s_getR {p ci i f k : Nat} {pc pc' : Nat} (hd : xAt M pc (.getfield i) 3 pc') (hF : xFld M.1.cls i ci f) (hk : kd p = ci) (hp : p < xN) (hs : (ci < 10 ∧ f < nf ci) ∧ isR ci f = true) (hr : rf p f = k) (kk : XP M pc' lv (.ref k :: st) (xwS S) Q) : XP M pc lv (.ref p :: st) (xwS S) Q := s_getr hd hF hk hp hs (by rw [hr]; exact kk)
theorem s_raldR {a j k : Nat} {i : Int32} (hd : xAt M pc .aaload 1 pc') (hk : kd a = 14 ∨ kd a = 15) (ha : a < xN) (hi : i = nI j) (hj : j < ln a) (hr : rf a j = k) (kk : XP M pc' lv (.ref k :: st) (xwS S) Q) : XP M pc lv (.int i :: .ref a :: st) (xwS S) Q := s_rald hd hk ha hi hj (by rw [hr]; exact kk)
theorem s_vret (hd : xAt M pc .return_ 1 pc') (hr : M.2.2.2.1 = none) {P : Option Value → xS → Prop} (hq : P none S) : XP M pc lv [] (xwS S) (sQ P) := x_vret hd hr ⟨S, rfl, hq⟩
theorem s_iret {x : Int32} {ty : FieldType} (hd : xAt M pc .ireturn 1 pc') (hr : M.2.2.2.1 = some ty) (hn : narrow ty (.int x) = .int x) {P : Option Value → xS → Prop} (hq : P (some (.int x)) S) : XP M pc lv [.int x] (xwS S) (sQ P) := x_iret hd hr hn ⟨S, rfl, hq⟩
theorem s_lret {x : Int64} (hd : xAt M pc .lreturn 1 pc') (hr : M.2.2.2.1 = some .long) {P : Option Value → xS → Prop} (hq : P (some (.long x)) S) : XP M pc lv [.long x] (xwS S) (sQ P) := x_lret hd hr ⟨S, rfl, hq⟩
theorem s_dret {x : UInt64} (hd : xAt M pc .dreturn 1 pc') (hr : M.2.2.2.1 = some .double) {P : Option Value → xS → Prop} (hq : P (some (.double x)) S) : XP M pc lv [.double x] (xwS S) (sQ P) := x_dret hd hr ⟨S, rfl, hq⟩
end CR
theorem x_pick {M : xM} {pc : Nat} {lv lv' : List (Nat × Value)} {st : List Value} {w : xW} {Q : Option Value → xW → Prop} (ks : List Nat) (h : lv_pick lv ks = lv') (k : XP M pc lv' st w Q) : XP M pc lv st w Q := by
  intro p l e R s m args below meth c D tc ad A H0 H locs cells slots Z ls C hc hsl hA hP hD hS hl hE
  have hl2 : lv_has ls M.2.2.1 (xlv ad lv') := by
    refine lv_sub hl ks ?_
    subst h
    unfold lv_pick xlv
    rw [List.map_filterMap]
    congr 1
    funext i
    rw [List.getElem?_map]
  exact k p l e R s m args below meth c D tc ad A H0 H locs cells slots Z ls C hc hsl hA hP hD hS hl2 hE
end
section
/-! ===== longs as whole numbers: lI z is z cut to 64 bits; sums and products go through, order and shifts within bounds ===== -/
def lI (z : Int) : Int64 := Int64.ofInt z
theorem lI_add (a b : Int) : lI a + lI b = lI (a + b) := (Int64.ofInt_add a b).symm
theorem lI_sub (a b : Int) : lI a - lI b = lI (a - b) := (Int64.ofInt_sub a b).symm
theorem lI_mul (a b : Int) : lI a * lI b = lI (a * b) := (Int64.ofInt_mul a b).symm
theorem lI_neg (a : Int) : - lI a = lI (-a) := (Int64.ofInt_neg a).symm
theorem lI_of (x : Int64) : x = lI x.toInt := (Int64.ofInt_toInt x).symm
def inL (z : Int) : Prop := -(2 ^ 63) ≤ z ∧ z < 2 ^ 63
theorem lI_toInt {z : Int} (h : inL z) : (lI z).toInt = z := Int64.toInt_ofInt_of_le (by have := h.1; omega) (by have := h.2; omega)
theorem inL_toInt (x : Int64) : inL x.toInt := ⟨Int64.le_toInt x, Int64.toInt_lt x⟩
theorem lI_lt {a b : Int} (ha : inL a) (hb : inL b) : lI a < lI b ↔ a < b := by rw [Int64.lt_iff_toInt_lt, lI_toInt ha, lI_toInt hb]
theorem lI_inj {a b : Int} (ha : inL a) (hb : inL b) : lI a = lI b ↔ a = b := by rw [← Int64.toInt_inj, lI_toInt ha, lI_toInt hb]
theorem lI_0 : lI 0 = 0 := rfl
theorem lI_1 : lI 1 = 1 := rfl
theorem lI_bv (z : Int) : (lI z).toBitVec = BitVec.ofInt 64 z := rfl
theorem lI_shr {z : Int} (hz : inL z) {y : Int64} {k : Nat} (hy : (y.toBitVec.smod 64).toNat = k) : lI z >>> y = lI (z / 2 ^ k) := by
  have h2 : inL (z / 2 ^ k) := by
    have hp : (0 : Int) < 2 ^ k := Int.pow_pos (by decide)
    have h1 : (1 : Int) ≤ 2 ^ k := hp
    obtain ⟨a, b⟩ := hz
    constructor
    · apply Int.le_ediv_of_mul_le hp
      have : -(2 ^ 63) * 2 ^ k ≤ -(2 ^ 63) * (1 : Int) := Int.mul_le_mul_of_nonpos_left (by decide) h1
      omega
    · apply Int.ediv_lt_of_lt_mul hp
      have : (2 ^ 63 : Int) * 1 ≤ 2 ^ 63 * 2 ^ k := Int.mul_le_mul_of_nonneg_left h1 (by decide)
      omega
  rw [← Int64.toInt_inj, lI_toInt h2]
  show (lI z >>> y).toBitVec.toInt = _
  rw [Int64.toBitVec_shiftRight, BitVec.toInt_sshiftRight', hy]
  show (lI z).toInt >>> k = _
  rw [lI_toInt hz, Int.shiftRight_eq_div_pow]
  rfl
theorem lI_mask {z : Int} {m : Int64} {k : Nat} (hm : m.toBitVec.toNat = 2 ^ k - 1) (hk : k ≤ 64) : lI z &&& m = lI (z % 2 ^ k) := by
  rw [← Int64.toBitVec_inj, Int64.toBitVec_and, lI_bv, lI_bv]
  apply BitVec.eq_of_toNat_eq
  rw [BitVec.toNat_and, hm, Nat.and_two_pow_sub_one_eq_mod, BitVec.toNat_ofInt, BitVec.toNat_ofInt]
  have hd : ((2 : Int) ^ k) ∣ 2 ^ 64 := ⟨2 ^ (64 - k), by rw [← Int.pow_add]; congr 1; omega⟩
  have hp : (0 : Int) < 2 ^ k := Int.pow_pos (by decide)
  apply Int.ofNat.inj
  show ((((z % ((2 ^ 64 : Nat) : Int)).toNat % 2 ^ k : Nat)) : Int) = (((z % 2 ^ k % ((2 ^ 64 : Nat) : Int)).toNat : Nat) : Int)
  have e1 : (((2 ^ 64 : Nat) : Int)) = 2 ^ 64 := by decide
  have n1 : 0 ≤ z % 2 ^ 64 := Int.emod_nonneg _ (by decide)
  have n2 : 0 ≤ z % 2 ^ k % 2 ^ 64 := Int.emod_nonneg _ (by decide)
  rw [e1, Int.natCast_emod, Int.toNat_of_nonneg n1, Int.toNat_of_nonneg n2]
  have e2 : (((2 ^ k : Nat)) : Int) = 2 ^ k := by simp
  rw [e2, Int.emod_emod_of_dvd _ hd]
  have h3 : z % 2 ^ k < 2 ^ k := Int.emod_lt_of_pos _ hp
  have h4 : 0 ≤ z % 2 ^ k := Int.emod_nonneg _ (by omega)
  have h5 : (2 : Int) ^ k ≤ 2 ^ 64 := Int.le_of_dvd (by decide) hd
  rw [Int.emod_eq_of_lt h4 (by omega)]
theorem lI_shl (z : Int) {y : Int64} {k : Nat} (hy : (y.toBitVec.smod 64).toNat = k) : lI z <<< y = lI (z * 2 ^ k) := by
  rw [← Int64.toBitVec_inj, Int64.toBitVec_shiftLeft, lI_bv, lI_bv]
  apply BitVec.eq_of_toNat_eq
  rw [BitVec.shiftLeft_eq', BitVec.toNat_shiftLeft, hy, BitVec.toNat_ofInt, BitVec.toNat_ofInt]
  apply Int.ofNat.inj
  show ((((z % ((2 ^ 64 : Nat) : Int)).toNat <<< k % 2 ^ 64 : Nat)) : Int) = (((z * 2 ^ k % ((2 ^ 64 : Nat) : Int)).toNat : Nat) : Int)
  have e1 : (((2 ^ 64 : Nat) : Int)) = 2 ^ 64 := by decide
  have n1 : 0 ≤ z % 2 ^ 64 := Int.emod_nonneg _ (by decide)
  have n2 : 0 ≤ z * 2 ^ k % 2 ^ 64 := Int.emod_nonneg _ (by decide)
  rw [Nat.shiftLeft_eq, e1, Int.natCast_emod, Int.natCast_mul, Int.toNat_of_nonneg n1, Int.toNat_of_nonneg n2, e1]
  have e2 : (((2 ^ k : Nat)) : Int) = 2 ^ k := by simp
  rw [e2, Int.mul_emod, Int.emod_emod_of_dvd _ (Int.dvd_refl _), ← Int.mul_emod]
theorem i2l_nI {k : Nat} (h : k < 2 ^ 31) : (nI k).toInt64 = lI k := by rw [nI_l h]; rfl
/-! ===== digits: limbs f i, f (i+1), .. n of them, by Horner; carrying keeps the value ===== -/
def hv (B : Int) (f : Nat → Int) : Nat → Nat → Int
  | _, 0 => 0
  | i, n + 1 => f i + B * hv B f (i + 1) n
def can (B : Int) (n : Nat) (V : Int) (i : Nat) : Int := if i + 1 < n then V / B ^ i % B else V / B ^ i
/-- what carrying brings to limb k -/
def cy (B : Int) (f : Nat → Int) (n k : Nat) : Int := hv B f 0 n / B ^ k - hv B f k (n - k)
theorem cy_0 (B : Int) (f : Nat → Int) (n : Nat) : cy B f n 0 = 0 := by simp [cy]
theorem cy_limb {B : Int} {f : Nat → Int} {n k : Nat} (h : k < n) : hv B f 0 n / B ^ k = f k + cy B f n k + B * hv B f (k + 1) (n - (k + 1)) := by
  unfold cy
  have : n - k = (n - (k + 1)) + 1 := by omega
  rw [this]
  show _ = f k + (_ - (f k + B * hv B f (k + 1) (n - (k + 1)))) + _
  omega
theorem cy_step {B : Int} (hB : 0 < B) {f : Nat → Int} {n k : Nat} (h : k < n) : cy B f n (k + 1) = (f k + cy B f n k) / B := by
  have h1 := cy_limb (B := B) (f := f) h
  have h2 : hv B f 0 n / B ^ (k + 1) = (f k + cy B f n k) / B + hv B f (k + 1) (n - (k + 1)) := by
    rw [Int.pow_succ, ← Int.ediv_ediv_of_nonneg (Int.le_of_lt (Int.pow_pos hB)), h1, Int.add_mul_ediv_left _ _ (by omega)]
  unfold cy at h2 ⊢
  omega
theorem cy_mod {B : Int} {f : Nat → Int} {n k : Nat} (h : k < n) : hv B f 0 n / B ^ k % B = (f k + cy B f n k) % B := by
  rw [cy_limb h, Int.add_mul_emod_self_left]
theorem cy_last {B : Int} {f : Nat → Int} {n : Nat} (h : 0 < n) : hv B f 0 n / B ^ (n - 1) = f (n - 1) + cy B f n (n - 1) := by
  rw [cy_limb (B := B) (f := f) (n := n) (k := n - 1) (by omega)]
  have : n - (n - 1 + 1) = 0 := by omega
  rw [this]
  show _ + B * 0 = _
  omega
theorem cy_bound {B : Int} (hB : 4 ≤ B) {f : Nat → Int} {n : Nat} (hf : ∀ i, i < n → -(2 ^ 62) ≤ f i ∧ f i ≤ 2 ^ 62) : ∀ k, k ≤ n → -(2 ^ 61) ≤ cy B f n k ∧ cy B f n k ≤ 2 ^ 61 := by
  intro k
  induction k with
  | zero => intro _; rw [cy_0]; decide
  | succ k ih =>
    intro hk
    obtain ⟨a, b⟩ := ih (by omega)
    obtain ⟨c, d⟩ := hf k (by omega)
    rw [cy_step (by omega) (by omega)]
    have hm : (2 ^ 61 : Int) * 4 ≤ 2 ^ 61 * B := Int.mul_le_mul_of_nonneg_left hB (by decide)
    constructor
    · apply Int.le_ediv_of_mul_le (by omega)
      rw [Int.neg_mul]
      omega
    · apply Int.le_of_lt_add_one
      apply Int.ediv_lt_of_lt_mul (by omega)
      rw [Int.add_mul]
      omega
end
section
theorem setL_setL (S : xS) (a : Nat) (f g : Nat → Int64) : setL (setL S a f) a g = setL S a g := by
  unfold setL
  congr 3
  funext p
  unfold rw1
  by_cases h : p = a <;> simp [h]
theorem setL_self (S : xS) (a : Nat) : setL S a (S.2.2.1 a) = S := by
  unfold setL
  have : rw1 S.2.2.1 a (S.2.2.1 a) = S.2.2.1 := by
    funext p
    unfold rw1
    split
    · rename_i h; rw [h]
    · rfl
  rw [this]
theorem setL_at (S : xS) (a : Nat) (f : Nat → Int64) : (setL S a f).2.2.1 a = f := rw1_same
theorem setL_ne (S : xS) {a b : Nat} (f : Nat → Int64) (h : b ≠ a) : (setL S a f).2.2.1 b = S.2.2.1 b := rw1_ne h
theorem sp_X9_clear {a : Nat} (hk0 : kd a = 11) (ha : a < 365) {fr n : Nat} (hn : fr + n ≤ ln a) (S : xS) : Sp mX9_clear [.ref a, .int (nI fr), .int (nI n)] S (fun r S' => r = none ∧ S' = setL S a (fun j => if fr ≤ j ∧ j < fr + n then 0 else S.2.2.1 a j)) := by
  have hs := ln_small a
  have loop : ∀ m k, k + m = n → ∀ S1, S1 = setL S a (fun j => if fr ≤ j ∧ j < fr + k then 0 else S.2.2.1 a j) → XP mX9_clear 2 [(3, .int (nI k)), (0, .ref a), (1, .int (nI fr)), (2, .int (nI n))] [] (xwS S1) (sQ (fun r S' => r = none ∧ S' = setL S a (fun j => if fr ≤ j ∧ j < fr + n then 0 else S.2.2.1 a j))) := by
    intro m
    induction m with
    | zero =>
      intro k hk S1 h1
      refine x_iload_n eX9_clear_2 rfl ?_
      refine x_iload_n eX9_clear_3 rfl ?_
      refine x_icmp_geN eX9_clear_4 (by omega) (by omega) (fun c_4 => ?_) (fun c_4 => ?_)
      · exact s_vret eX9_clear_19 rfl ⟨rfl, by rw [h1, show k = n by omega]⟩
      · omega
    | succ m ih =>
      intro k hk S1 h1
      refine x_iload_n eX9_clear_2 rfl ?_
      refine x_iload_n eX9_clear_3 rfl ?_
      refine x_icmp_geN eX9_clear_4 (by omega) (by omega) (fun c_4 => ?_) (fun c_4 => ?_)
      · omega
      · refine x_aload_n eX9_clear_7 rfl ?_
        refine x_iload_n eX9_clear_8 rfl ?_
        refine x_iload_n eX9_clear_9 rfl ?_
        first | refine x_iaddN eX9_clear_10 ?_ | refine x_iadd eX9_clear_10 ?_
        refine x_lconst (v := 0) eX9_clear_11 (by decide) ?_
        refine s_last eX9_clear_12 hk0 ha rfl (by omega) ?_
        refine x_iinc (lv' := [_, _, _, _]) eX9_clear_13 rfl (by first | exact nI_inc _ | exact rfl) (by decide) rfl ?_
        refine x_goto eX9_clear_16 ?_
        refine x_pick [0, 1, 2, 3] rfl ?_
        refine ih (k + 1) (by omega) _ ?_
        subst h1
        rw [setL_setL, setL_at]
        congr 1
        funext j
        unfold vp_updL
        by_cases hj : j = fr + k
        · rw [if_pos hj, if_pos (by omega)]
        · rw [if_neg hj]
          dsimp only
          by_cases hj2 : fr ≤ j ∧ j < fr + k
          · rw [if_pos hj2, if_pos (by omega)]
          · rw [if_neg hj2, if_neg (by omega)]
  show XP _ _ [_, _, _] _ _ _
  refine x_iconst (v := nI 0) eX9_clear_0 (by decide) ?_
  refine x_istore_n (lv' := [_, _, _, _]) eX9_clear_1 (by decide) rfl ?_
  refine x_pick [0, 1, 2, 3] rfl ?_
  refine loop n 0 (by omega) S ?_
  have : (fun j => if fr ≤ j ∧ j < fr + 0 then 0 else S.2.2.1 a j) = S.2.2.1 a := by funext j; rw [if_neg (by omega)]
  rw [this, setL_self]
/-- the row while limb k is being carried -/
def cyR (B : Int) (f : Nat → Int) (n fr : Nat) (g : Nat → Int64) (k j : Nat) : Int64 := if fr ≤ j ∧ j < fr + n then (if j - fr < k then lI (hv B f 0 n / B ^ (j - fr) % B) else if j - fr = k then lI (f k + cy B f n k) else lI (f (j - fr))) else g j
theorem sp_X9_carry {a : Nat} (hk0 : kd a = 11) (ha : a < 365) {fr n : Nat} (hn : fr + n ≤ ln a) (h0 : 0 < n) (S : xS) (f : Nat → Int) (hf : ∀ i, i < n → S.2.2.1 a (fr + i) = lI (f i)) (hb : ∀ i, i < n → -(2 ^ 62) ≤ f i ∧ f i ≤ 2 ^ 62) : Sp mX9_carry [.ref a, .int (nI fr), .int (nI n)] S (fun r S' => r = none ∧ S' = setL S a (fun j => if fr ≤ j ∧ j < fr + n then lI (can (2 ^ 24) n (hv (2 ^ 24) f 0 n) (j - fr)) else S.2.2.1 a j)) := by
  have hs := ln_small a
  have hfin : ∀ k, k = n - 1 → ∀ S1, S1 = setL S a (cyR (2 ^ 24) f n fr (S.2.2.1 a) k) → S1 = setL S a (fun j => if fr ≤ j ∧ j < fr + n then lI (can (2 ^ 24) n (hv (2 ^ 24) f 0 n) (j - fr)) else S.2.2.1 a j) := by
    intro k hk S1 h1
    subst hk
    rw [h1]
    congr 1
    funext j
    unfold cyR can
    by_cases h3 : fr ≤ j ∧ j < fr + n
    · rw [if_pos h3, if_pos h3]
      by_cases h4 : j - fr < n - 1
      · rw [if_pos h4, if_pos (by omega)]
      · rw [if_neg h4, if_pos (by omega), if_neg (by omega), show j - fr = n - 1 by omega, cy_last h0]
    · rw [if_neg h3, if_neg h3]
  have loop : ∀ m k, k + m = n - 1 → ∀ S1, S1 = setL S a (cyR (2 ^ 24) f n fr (S.2.2.1 a) k) → XP mX9_carry 2 [(3, .int (nI k)), (0, .ref a), (1, .int (nI fr)), (2, .int (nI n))] [] (xwS S1) (sQ (fun r S' => r = none ∧ S' = setL S a (fun j => if fr ≤ j ∧ j < fr + n then lI (can (2 ^ 24) n (hv (2 ^ 24) f 0 n) (j - fr)) else S.2.2.1 a j))) := by
    intro m
    induction m with
    | zero =>
      intro k hk S1 h1
      refine x_iload_n eX9_carry_2 rfl ?_
      refine x_iload_n eX9_carry_3 rfl ?_
      refine x_iconst (v := nI 1) eX9_carry_4 (by decide) ?_
      first | refine x_isubN eX9_carry_5 (by omega) ?_ | refine x_isub eX9_carry_5 ?_
      refine x_icmp_geN eX9_carry_6 (by omega) (by omega) (fun c_6 => ?_) (fun c_6 => ?_)
      · exact s_vret eX9_carry_48 rfl ⟨rfl, hfin k (by omega) S1 h1⟩
      · omega
    | succ m ih =>
      intro k hk S1 h1
      refine x_iload_n eX9_carry_2 rfl ?_
      refine x_iload_n eX9_carry_3 rfl ?_
      refine x_iconst (v := nI 1) eX9_carry_4 (by decide) ?_
      first | refine x_isubN eX9_carry_5 (by omega) ?_ | refine x_isub eX9_carry_5 ?_
      refine x_icmp_geN eX9_carry_6 (by omega) (by omega) (fun c_6 => ?_) (fun c_6 => ?_)
      · omega
      · refine x_aload_n eX9_carry_9 rfl ?_
        refine x_iload_n eX9_carry_10 rfl ?_
        refine x_iload_n eX9_carry_11 rfl ?_
        first | refine x_iaddN eX9_carry_12 ?_ | refine x_iadd eX9_carry_12 ?_
        refine s_lald eX9_carry_13 hk0 ha rfl (by omega) ?_
        have hB := cy_bound (B := 2 ^ 24) (by decide) hb k (by omega)
        have hfk := hb k (by omega)
        have hin : inL (f k + cy (2 ^ 24) f n k) := ⟨by omega, by omega⟩
        have hv0 : S1.2.2.1 a (fr + k) = lI (f k + cy (2 ^ 24) f n k) := by
          subst h1
          rw [setL_at]
          unfold cyR
          rw [if_pos (by omega), if_neg (by omega), if_pos (by omega)]
        rw [hv0]
        refine x_bipush (v := nI 24) eX9_carry_14 (by decide) ?_
        refine x_lshr eX9_carry_16 rfl ?_
        rw [lI_shr hin (k := 24) (by decide)]
        refine x_lstore (lv' := [_, _, _, _, _]) eX9_carry_17 (by decide) rfl ?_
        refine x_aload_n eX9_carry_19 rfl ?_
        refine x_iload_n eX9_carry_20 rfl ?_
        refine x_iload_n eX9_carry_21 rfl ?_
        first | refine x_iaddN eX9_carry_22 ?_ | refine x_iadd eX9_carry_22 ?_
        refine x_dup2_11 eX9_carry_23 rfl rfl ?_
        refine s_lald eX9_carry_24 hk0 ha rfl (by omega) ?_
        rw [hv0]
        refine x_ldc2 (v := 16777215) eX9_carry_25 (xT 843 (by decide +kernel) rfl) ?_
        refine x_land eX9_carry_28 ?_
        rw [lI_mask (k := 24) (by decide) (by decide)]
        refine s_last eX9_carry_29 hk0 ha rfl (by omega) ?_
        refine x_aload_n eX9_carry_30 rfl ?_
        refine x_iload_n eX9_carry_31 rfl ?_
        refine x_iload_n eX9_carry_32 rfl ?_
        first | refine x_iaddN eX9_carry_33 ?_ | refine x_iadd eX9_carry_33 ?_
        refine x_iconst (v := nI 1) eX9_carry_34 (by decide) ?_
        first | refine x_iaddN eX9_carry_35 ?_ | refine x_iadd eX9_carry_35 ?_
        refine x_dup2_11 eX9_carry_36 rfl rfl ?_
        refine s_lald eX9_carry_37 hk0 ha rfl (by omega) ?_
        rw [setL_at]
        have hv1 : vp_updL (S1.2.2.1 a) (fr + k) (lI ((f k + cy (2 ^ 24) f n k) % 2 ^ 24)) (fr + k + 1) = lI (f (k + 1)) := by
          unfold vp_updL
          rw [if_neg (by omega)]
          subst h1
          rw [setL_at]
          unfold cyR
          rw [if_pos (by omega), if_neg (by omega), if_neg (by omega)]
          congr 2; omega
        rw [hv1]
        refine x_lload eX9_carry_38 rfl ?_
        refine x_ladd eX9_carry_40 ?_
        rw [lI_add]
        refine s_last eX9_carry_41 hk0 ha rfl (by omega) ?_
        refine x_iinc (lv' := [_, _, _, _, _]) eX9_carry_42 rfl (by first | exact nI_inc _ | exact rfl) (by decide) rfl ?_
        refine x_goto eX9_carry_45 ?_
        refine x_pick [0, 2, 3, 4] rfl ?_
        refine ih (k + 1) (by omega) _ ?_
        rw [setL_setL, setL_at]
        have e1 := cy_step (B := 2 ^ 24) (by decide) (f := f) (n := n) (k := k) (by omega)
        have e2 := cy_mod (B := 2 ^ 24) (f := f) (n := n) (k := k) (by omega)
        subst h1
        rw [setL_setL, setL_at]
        congr 1
        funext j
        unfold vp_updL cyR
        by_cases h1 : j = fr + k + 1
        · rw [if_pos h1, if_pos (by omega), if_neg (by omega), if_pos (by omega), e1]
        · rw [if_neg h1]
          by_cases h2 : j = fr + k
          · rw [if_pos h2, if_pos (by omega), if_pos (by omega), show j - fr = k by omega, e2]
          · rw [if_neg h2]
            by_cases h3 : fr ≤ j ∧ j < fr + n
            · rw [if_pos h3, if_pos h3]
              by_cases h4 : j - fr < k
              · rw [if_pos h4, if_pos (by omega)]
              · rw [if_neg h4, if_neg (by omega), if_neg (by omega), if_neg (by omega)]
            · rw [if_neg h3, if_neg h3]
  show XP _ _ [_, _, _] _ _ _
  refine x_iconst (v := nI 0) eX9_carry_0 (by decide) ?_
  refine x_istore_n (lv' := [_, _, _, _]) eX9_carry_1 (by decide) rfl ?_
  refine x_pick [0, 1, 2, 3] rfl ?_
  refine loop (n - 1) 0 (by omega) S ?_
  have : cyR (2 ^ 24) f n fr (S.2.2.1 a) 0 = S.2.2.1 a := by
    funext j
    unfold cyR
    by_cases h3 : fr ≤ j ∧ j < fr + n
    · rw [if_pos h3, if_neg (by omega)]
      have h5 := hf (j - fr) (by omega)
      rw [show fr + (j - fr) = j by omega] at h5
      rw [h5]
      by_cases h4 : j - fr = 0
      · rw [if_pos h4, cy_0, h4, Int.add_zero]
      · rw [if_neg h4]
    · rw [if_neg h3]
  rw [this, setL_self]
theorem inL_0 : inL 0 := ⟨by decide, by decide⟩
def sg (z : Int) : Int32 := if z < 0 then -1 else if z = 0 then 0 else 1
theorem can_top {B : Int} {n : Nat} {V : Int} (h : 0 < n) : can B n V (n - 1) = V / B ^ (n - 1) := by unfold can; rw [if_neg (by omega)]
theorem can_hi {B : Int} {n i : Nat} {V : Int} (h : n ≤ i + 1) : can B n V i = V / B ^ i := by unfold can; rw [if_neg (by omega)]
theorem can_lo {B : Int} {n i : Nat} {V : Int} (h : i + 1 < n) : can B n V i = V / B ^ i % B := by unfold can; rw [if_pos h]
/-- all limbs 0 from k on: the rest is 0 -/
theorem can_zero {B : Int} (hB : 0 < B) {n : Nat} {V : Int} (h0 : 0 < n) (h : ∀ i, i < n → can B n V i = 0) : V = 0 := by
  have key : ∀ m, m < n → V / B ^ (n - 1 - m) = 0 := by
    intro m
    induction m with
    | zero => intro _; have := h (n - 1) (by omega); rw [can_top h0] at this; exact this
    | succ m ih =>
      intro hm
      have h1 := ih (by omega)
      have h2 := h (n - 1 - (m + 1)) (by omega)
      rw [can_lo (by omega)] at h2
      have h3 : n - 1 - m = (n - 1 - (m + 1)) + 1 := by omega
      rw [h3, Int.pow_succ, ← Int.ediv_ediv_of_nonneg (Int.le_of_lt (Int.pow_pos hB))] at h1
      have h4 := Int.emod_add_mul_ediv (V / B ^ (n - 1 - (m + 1))) B
      rw [h1, h2] at h4
      omega
  have := key (n - 1) (by omega)
  simpa using this
theorem can_of_zero {B : Int} {n i : Nat} : can B n 0 i = 0 := by unfold can; split <;> simp
theorem ediv_neg_iff {V P : Int} (hP : 0 < P) : V / P < 0 ↔ V < 0 := by
  constructor
  · intro h
    rcases Int.lt_or_le V 0 with h1 | h1
    · exact h1
    · exact absurd (Int.ediv_nonneg h1 (Int.le_of_lt hP)) (by omega)
  · intro h; exact Int.ediv_neg_of_neg_of_pos h hP
theorem can_low_in {n i : Nat} {V : Int} (h : i + 1 < n) : 0 ≤ can (2 ^ 24) n V i ∧ can (2 ^ 24) n V i < 2 ^ 24 := by
  rw [can_lo h]
  exact ⟨Int.emod_nonneg _ (by decide), Int.emod_lt_of_pos _ (by decide)⟩
theorem can_inL {n : Nat} {V : Int} (ht : inL (V / (2 ^ 24) ^ (n - 1))) {i : Nat} (hi : i < n) : inL (can (2 ^ 24) n V i) := by
  by_cases h : i + 1 < n
  · have := can_low_in (V := V) h
    exact ⟨by omega, by omega⟩
  · have e : i = n - 1 := by omega
    subst e
    rw [can_hi (by omega)]
    exact ht
theorem sp_X9_signOf {a : Nat} (hk0 : kd a = 11) (ha : a < 365) {fr n : Nat} (hn : fr + n ≤ ln a) (h0 : 0 < n) (S : xS) (V : Int) (hf : ∀ i, i < n → S.2.2.1 a (fr + i) = lI (can (2 ^ 24) n V i)) (ht : inL (V / (2 ^ 24) ^ (n - 1))) : Sp mX9_signOf [.ref a, .int (nI fr), .int (nI n)] S (fun r S' => r = some (.int (sg V)) ∧ S' = S) := by
  have hs := ln_small a
  have htop : (V / (2 ^ 24) ^ (n - 1) < 0) ↔ V < 0 := ediv_neg_iff (Int.pow_pos (by decide))
  have loop : ∀ m k, k + m = n → ∀ S1, (S1 = S ∧ ¬ V < 0 ∧ ∀ i, i < k → can (2 ^ 24) n V i = 0) → XP mX9_signOf 16 [(3, .int (nI k)), (0, .ref a), (1, .int (nI fr)), (2, .int (nI n))] [] (xwS S1) (sQ (fun r S' => r = some (.int (sg V)) ∧ S' = S)) := by
    intro m
    induction m with
    | zero =>
      intro k hk S1 h1
      refine x_iload_n eX9_signOf_16 rfl ?_
      refine x_iload_n eX9_signOf_17 rfl ?_
      refine x_icmp_geN eX9_signOf_18 (by omega) (by omega) (fun c_18 => ?_) (fun c_18 => ?_)
      · refine x_iconst (v := nI 0) eX9_signOf_39 (by decide) ?_
        exact s_iret eX9_signOf_40 rfl rfl ⟨by rw [can_zero (by decide) h0 (fun i hi => h1.2.2 i (by omega))]; rfl, h1.1⟩
      · omega
    | succ m ih =>
      intro k hk S1 h1
      refine x_iload_n eX9_signOf_16 rfl ?_
      refine x_iload_n eX9_signOf_17 rfl ?_
      refine x_icmp_geN eX9_signOf_18 (by omega) (by omega) (fun c_18 => ?_) (fun c_18 => ?_)
      · omega
      · obtain ⟨rfl, hpos, hz⟩ := h1
        refine x_aload_n eX9_signOf_21 rfl ?_
        refine x_iload_n eX9_signOf_22 rfl ?_
        refine x_iload_n eX9_signOf_23 rfl ?_
        first | refine x_iaddN eX9_signOf_24 ?_ | refine x_iadd eX9_signOf_24 ?_
        refine s_lald eX9_signOf_25 hk0 ha rfl (by omega) ?_
        rw [hf k (by omega)]
        refine x_lconst (v := 0) eX9_signOf_26 (by decide) ?_
        refine x_lcmp eX9_signOf_27 ?_
        refine x_if_eqL eX9_signOf_28 (fun c_28 => ?_) (fun c_28 => ?_)
        · refine x_iinc (lv' := [_, _, _, _]) eX9_signOf_33 rfl (by first | exact nI_inc _ | exact rfl) (by decide) rfl ?_
          refine x_goto eX9_signOf_36 ?_
          refine x_pick [0, 1, 2, 3] rfl ?_
          refine ih (k + 1) (by omega) S1 ⟨rfl, hpos, fun i hi => ?_⟩
          by_cases h : i = k
          · subst h
            exact (lI_inj (can_inL ht (by omega)) inL_0).mp c_28
          · exact hz i (by omega)
        · refine x_iconst (v := nI 1) eX9_signOf_31 (by decide) ?_
          exact s_iret eX9_signOf_32 rfl rfl ⟨by have hne : V ≠ 0 := (fun hV => c_28 (by rw [hV, can_of_zero]; rfl)); unfold sg; rw [if_neg hpos, if_neg hne]; rfl, rfl⟩
  show XP _ _ [_, _, _] _ _ _
  refine x_aload_n eX9_signOf_0 rfl ?_
  refine x_iload_n eX9_signOf_1 rfl ?_
  refine x_iload_n eX9_signOf_2 rfl ?_
  first | refine x_iaddN eX9_signOf_3 ?_ | refine x_iadd eX9_signOf_3 ?_
  refine x_iconst (v := nI 1) eX9_signOf_4 (by decide) ?_
  first | refine x_isubN eX9_signOf_5 (by omega) ?_ | refine x_isub eX9_signOf_5 ?_
  refine s_lald eX9_signOf_6 hk0 ha rfl (by omega) ?_
  have e1 : fr + n - 1 = fr + (n - 1) := by omega
  rw [e1, hf (n - 1) (by omega), can_top h0]
  refine x_lconst (v := 0) eX9_signOf_7 (by decide) ?_
  refine x_lcmp eX9_signOf_8 ?_
  refine x_if_geL eX9_signOf_9 (fun c_9 => ?_) (fun c_9 => ?_)
  · refine x_iconst (v := nI 0) eX9_signOf_14 (by decide) ?_
    refine x_istore_n (lv' := [_, _, _, _]) eX9_signOf_15 (by decide) rfl ?_
    refine x_pick [0, 1, 2, 3] rfl ?_
    refine loop n 0 (by omega) S ⟨rfl, ?_, fun i hi => absurd hi (by omega)⟩
    intro hV
    exact c_9 ((lI_lt ht inL_0).mpr (htop.mpr hV))
  · refine x_iconst (v := -1) eX9_signOf_12 (by decide) ?_
    exact s_iret eX9_signOf_13 rfl rfl ⟨by unfold sg; rw [if_pos (htop.mp ((lI_lt ht inL_0).mp c_9))], rfl⟩
def dI (k : Nat) : Int32 := nI k - 1
theorem dI_0 : dI 0 = -1 := by decide
theorem dI_s (k : Nat) : dI (k + 1) = nI k := nI_pred k
theorem nI_dec (k : Nat) : nI k + Int32.ofInt (-1) = dI k := by
  unfold dI
  rw [Int32.sub_eq_add_neg]
  rfl
theorem can_eq {B : Int} (hB : 0 < B) {n i : Nat} {V U : Int} (h : i + 1 < n → V / B ^ (i + 1) = U / B ^ (i + 1)) : can B n V i = can B n U i ↔ V / B ^ i = U / B ^ i := by
  by_cases hi : i + 1 < n
  · rw [can_lo hi, can_lo hi]
    have h1 := h hi
    rw [Int.pow_succ, ← Int.ediv_ediv_of_nonneg (Int.le_of_lt (Int.pow_pos hB)), ← Int.ediv_ediv_of_nonneg (Int.le_of_lt (Int.pow_pos hB))] at h1
    have h2 := Int.emod_add_mul_ediv (V / B ^ i) B
    have h3 := Int.emod_add_mul_ediv (U / B ^ i) B
    rw [h1] at h2
    constructor
    · intro h4; rw [h4] at h2; omega
    · intro h4; rw [h4]
  · rw [can_hi (by omega), can_hi (by omega)]
theorem can_lt {B : Int} (hB : 0 < B) {n i : Nat} {V U : Int} (h : i + 1 < n → V / B ^ (i + 1) = U / B ^ (i + 1)) : can B n V i < can B n U i ↔ V / B ^ i < U / B ^ i := by
  by_cases hi : i + 1 < n
  · rw [can_lo hi, can_lo hi]
    have h1 := h hi
    rw [Int.pow_succ, ← Int.ediv_ediv_of_nonneg (Int.le_of_lt (Int.pow_pos hB)), ← Int.ediv_ediv_of_nonneg (Int.le_of_lt (Int.pow_pos hB))] at h1
    have h2 := Int.emod_add_mul_ediv (V / B ^ i) B
    have h3 := Int.emod_add_mul_ediv (U / B ^ i) B
    rw [h1] at h2
    omega
  · rw [can_hi (by omega), can_hi (by omega)]
theorem lt_of_ediv_lt {V U P : Int} (hP : 0 < P) (h : V / P < U / P) : V < U := by
  rcases Int.lt_or_le V U with h1 | h1
  · exact h1
  · exact absurd (Int.ediv_le_ediv hP h1) (by omega)
theorem sp_X9_order {p : Nat} (hk0 : kd p = 11) (ha : p < 365) {a b : Nat} (hna : 5 * a + 5 ≤ ln p) (hnb : 5 * b + 5 ≤ ln p) (S : xS) (V U : Int) (hf : ∀ i, i < 5 → S.2.2.1 p (5 * a + i) = lI (can (2 ^ 24) 5 V i)) (hg : ∀ i, i < 5 → S.2.2.1 p (5 * b + i) = lI (can (2 ^ 24) 5 U i)) (ht : inL (V / (2 ^ 24) ^ 4)) (hu : inL (U / (2 ^ 24) ^ 4)) : Sp mX9_order [.ref p, .int (nI a), .int (nI b)] S (fun r S' => r = some (.int (sg (V - U))) ∧ S' = S) := by
  have hs := ln_small p
  have loop : ∀ k, k ≤ 5 → (k < 5 → V / (2 ^ 24) ^ k = U / (2 ^ 24) ^ k) → XP mX9_order 2 [(3, .int (dI k)), (0, .ref p), (1, .int (nI a)), (2, .int (nI b))] [] (xwS S) (sQ (fun r S' => r = some (.int (sg (V - U))) ∧ S' = S)) := by
    intro k
    induction k with
    | zero =>
      intro _ h
      have h := h (by decide)
      simp only [Int.pow_zero, Int.ediv_one] at h
      refine x_iload_n eX9_order_2 rfl ?_
      refine x_if_lt eX9_order_3 (fun c_3 => ?_) (fun c_3 => ?_)
      · refine x_iconst (v := nI 0) eX9_order_52 (by decide) ?_
        exact s_iret eX9_order_53 rfl rfl ⟨by rw [h, Int.sub_self]; rfl, rfl⟩
      · exact absurd (by decide : dI 0 < 0) c_3
    | succ k ih =>
      intro hk h
      rw [dI_s]
      have hc := can_eq (B := 2 ^ 24) (by decide) (n := 5) (i := k) (V := V) (U := U) (fun h1 => h (by omega))
      have hl := can_lt (B := 2 ^ 24) (by decide) (n := 5) (i := k) (V := V) (U := U) (fun h1 => h (by omega))
      have hl2 := can_lt (B := 2 ^ 24) (by decide) (n := 5) (i := k) (V := U) (U := V) (fun h1 => (h (by omega)).symm)
      have i1 := can_inL (n := 5) ht (i := k) (by omega)
      have i2 := can_inL (n := 5) hu (i := k) (by omega)
      have hP : (0 : Int) < (2 ^ 24) ^ k := Int.pow_pos (by decide)
      refine x_iload_n eX9_order_2 rfl ?_
      refine x_if_ltN eX9_order_3 (by omega) ?_
      refine x_aload_n eX9_order_6 rfl ?_
      refine x_iconst (v := nI 5) eX9_order_7 (by decide) ?_
      refine x_iload_n eX9_order_8 rfl ?_
      first | refine x_imulN eX9_order_9 ?_ | refine x_imul eX9_order_9 ?_
      refine x_iload_n eX9_order_10 rfl ?_
      first | refine x_iaddN eX9_order_11 ?_ | refine x_iadd eX9_order_11 ?_
      refine s_lald eX9_order_12 hk0 ha rfl (by omega) ?_
      rw [hf k (by omega)]
      refine x_lstore (lv' := [_, _, _, _, _]) eX9_order_13 (by decide) rfl ?_
      refine x_aload_n eX9_order_15 rfl ?_
      refine x_iconst (v := nI 5) eX9_order_16 (by decide) ?_
      refine x_iload_n eX9_order_17 rfl ?_
      first | refine x_imulN eX9_order_18 ?_ | refine x_imul eX9_order_18 ?_
      refine x_iload_n eX9_order_19 rfl ?_
      first | refine x_iaddN eX9_order_20 ?_ | refine x_iadd eX9_order_20 ?_
      refine s_lald eX9_order_21 hk0 ha rfl (by omega) ?_
      rw [hg k (by omega)]
      refine x_lstore (lv' := [_, _, _, _, _, _]) eX9_order_22 (by decide) rfl ?_
      refine x_lload eX9_order_24 rfl ?_
      refine x_lload eX9_order_26 rfl ?_
      refine x_lcmp eX9_order_28 ?_
      refine x_if_eqL eX9_order_29 (fun c_29 => ?_) (fun c_29 => ?_)
      · refine x_iinc (lv' := [_, _, _, _, _, _]) eX9_order_46 rfl (nI_dec _) (by decide) rfl ?_
        refine x_goto eX9_order_49 ?_
        refine x_pick [0, 3, 4, 5] rfl ?_
        exact ih (by omega) (fun _ => hc.mp ((lI_inj i1 i2).mp c_29))
      · refine x_lload eX9_order_32 rfl ?_
        refine x_lload eX9_order_34 rfl ?_
        refine x_lcmp eX9_order_36 ?_
        refine x_if_geL eX9_order_37 (fun c_37 => ?_) (fun c_37 => ?_)
        · refine x_iconst (v := nI 1) eX9_order_44 (by decide) ?_
          first
            | exact s_iret eX9_order_45 rfl rfl ⟨by have h5 := lt_of_ediv_lt hP (hl.mp ((lI_lt i1 i2).mp c_37)); unfold sg; rw [if_pos (by omega)], rfl⟩
            | exact s_iret eX9_order_45 rfl rfl ⟨by have h6 : ¬ can (2 ^ 24) 5 V k = can (2 ^ 24) 5 U k := fun h => c_29 ((lI_inj i1 i2).mpr h); have h7 : ¬ can (2 ^ 24) 5 V k < can (2 ^ 24) 5 U k := fun h => c_37 ((lI_lt i1 i2).mpr h); have h5 := lt_of_ediv_lt hP (hl2.mp (by omega)); unfold sg; rw [if_neg (by omega), if_neg (by omega)]; rfl, rfl⟩
        · refine x_iconst (v := -1) eX9_order_40 (by decide) ?_
          refine x_goto eX9_order_41 ?_
          first
            | exact s_iret eX9_order_45 rfl rfl ⟨by have h5 := lt_of_ediv_lt hP (hl.mp ((lI_lt i1 i2).mp c_37)); unfold sg; rw [if_pos (by omega)], rfl⟩
            | exact s_iret eX9_order_45 rfl rfl ⟨by have h6 : ¬ can (2 ^ 24) 5 V k = can (2 ^ 24) 5 U k := fun h => c_29 ((lI_inj i1 i2).mpr h); have h7 : ¬ can (2 ^ 24) 5 V k < can (2 ^ 24) 5 U k := fun h => c_37 ((lI_lt i1 i2).mpr h); have h5 := lt_of_ediv_lt hP (hl2.mp (by omega)); unfold sg; rw [if_neg (by omega), if_neg (by omega)]; rfl, rfl⟩
  show XP _ _ [_, _, _] _ _ _
  refine x_iconst (v := nI 4) eX9_order_0 (by decide) ?_
  refine x_istore_n (lv' := [_, _, _, _]) eX9_order_1 (by decide) rfl ?_
  refine x_pick [0, 1, 2, 3] rfl ?_
  exact loop 5 (by decide) (fun h => absurd h (by decide))
theorem sp_X9_less {p q : Nat} (hk0 : kd p = 11) (ha : p < 365) (hk1 : kd q = 11) (hq : q < 365) {a b : Nat} (hna : a + 10 ≤ ln p) (hnb : b + 10 ≤ ln q) (S : xS) (V U : Int) (hf : ∀ i, i < 10 → S.2.2.1 p (a + i) = lI (can (2 ^ 24) 10 V i)) (hg : ∀ i, i < 10 → S.2.2.1 q (b + i) = lI (can (2 ^ 24) 10 U i)) (ht : inL (V / (2 ^ 24) ^ 9)) (hu : inL (U / (2 ^ 24) ^ 9)) : Sp mX9_less [.ref p, .int (nI a), .ref q, .int (nI b)] S (fun r S' => r = some (.int (bI (decide (V < U)))) ∧ S' = S) := by
  have hs := ln_small p
  have hs2 := ln_small q
  have fin : ∀ k, k < 10 → (k + 1 < 10 → V / (2 ^ 24) ^ (k + 1) = U / (2 ^ 24) ^ (k + 1)) → (V / (2 ^ 24) ^ k ≠ U / (2 ^ 24) ^ k ∨ k = 0) → XP mX9_less 31 [(4, .int (nI k)), (0, .ref p), (1, .int (nI a)), (2, .ref q), (3, .int (nI b))] [] (xwS S) (sQ (fun r S' => r = some (.int (bI (decide (V < U)))) ∧ S' = S)) := by
    intro k hk h hne
    have hl := can_lt (B := 2 ^ 24) (by decide) (n := 10) (i := k) (V := V) (U := U) (fun h1 => h (by omega))
    have i1 := can_inL (n := 10) ht (i := k) (by omega)
    have i2 := can_inL (n := 10) hu (i := k) (by omega)
    have hP : (0 : Int) < (2 ^ 24) ^ k := Int.pow_pos (by decide)
    have key : can (2 ^ 24) 10 V k < can (2 ^ 24) 10 U k ↔ V < U := by
      rw [hl]
      constructor
      · exact lt_of_ediv_lt hP
      · intro h2
        rcases hne with h3 | h3
        · have h4 := Int.ediv_le_ediv hP (Int.le_of_lt h2)
          omega
        · subst h3
          simpa using h2
    refine x_aload_n eX9_less_31 rfl ?_
    refine x_iload_n eX9_less_32 rfl ?_
    refine x_iload eX9_less_33 rfl ?_
    first | refine x_iaddN eX9_less_35 ?_ | refine x_iadd eX9_less_35 ?_
    refine s_lald eX9_less_36 hk0 ha rfl (by omega) ?_
    rw [hf k (by omega)]
    refine x_aload_n eX9_less_37 rfl ?_
    refine x_iload_n eX9_less_38 rfl ?_
    refine x_iload eX9_less_39 rfl ?_
    first | refine x_iaddN eX9_less_41 ?_ | refine x_iadd eX9_less_41 ?_
    refine s_lald eX9_less_42 hk1 hq rfl (by omega) ?_
    rw [hg k (by omega)]
    refine x_lcmp eX9_less_43 ?_
    refine x_if_geL eX9_less_44 (fun c_44 => ?_) (fun c_44 => ?_)
    · refine x_iconst (v := nI 0) eX9_less_51 (by decide) ?_
      first
        | exact s_iret eX9_less_52 rfl (by rfl) ⟨by rw [decide_eq_true (key.mp ((lI_lt i1 i2).mp c_44))]; rfl, rfl⟩
        | exact s_iret eX9_less_52 rfl (by rfl) ⟨by rw [decide_eq_false (fun h => c_44 ((lI_lt i1 i2).mpr (key.mpr h)))]; rfl, rfl⟩
    · refine x_iconst (v := nI 1) eX9_less_47 (by decide) ?_
      refine x_goto eX9_less_48 ?_
      first
        | exact s_iret eX9_less_52 rfl (by rfl) ⟨by rw [decide_eq_true (key.mp ((lI_lt i1 i2).mp c_44))]; rfl, rfl⟩
        | exact s_iret eX9_less_52 rfl (by rfl) ⟨by rw [decide_eq_false (fun h => c_44 ((lI_lt i1 i2).mpr (key.mpr h)))]; rfl, rfl⟩
  have loop : ∀ k, k < 10 → (k + 1 < 10 → V / (2 ^ 24) ^ (k + 1) = U / (2 ^ 24) ^ (k + 1)) → XP mX9_less 4 [(4, .int (nI k)), (0, .ref p), (1, .int (nI a)), (2, .ref q), (3, .int (nI b))] [] (xwS S) (sQ (fun r S' => r = some (.int (bI (decide (V < U)))) ∧ S' = S)) := by
    intro k
    induction k with
    | zero =>
      intro h1 h
      refine x_iload eX9_less_4 rfl ?_
      refine x_if_leN eX9_less_6 (by omega) (fun c_6 => ?_) (fun c_6 => ?_)
      · exact fin 0 h1 h (Or.inr rfl)
      · omega
    | succ k ih =>
      intro h1 h
      have hc := can_eq (B := 2 ^ 24) (by decide) (n := 10) (i := k + 1) (V := V) (U := U) (fun h2 => h (by omega))
      have i1 := can_inL (n := 10) ht (i := k + 1) (by omega)
      have i2 := can_inL (n := 10) hu (i := k + 1) (by omega)
      refine x_iload eX9_less_4 rfl ?_
      refine x_if_leN eX9_less_6 (by omega) (fun c_6 => ?_) (fun c_6 => ?_)
      · omega
      · refine x_aload_n eX9_less_9 rfl ?_
        refine x_iload_n eX9_less_10 rfl ?_
        refine x_iload eX9_less_11 rfl ?_
        first | refine x_iaddN eX9_less_13 ?_ | refine x_iadd eX9_less_13 ?_
        refine s_lald eX9_less_14 hk0 ha rfl (by omega) ?_
        rw [hf (k + 1) (by omega)]
        refine x_aload_n eX9_less_15 rfl ?_
        refine x_iload_n eX9_less_16 rfl ?_
        refine x_iload eX9_less_17 rfl ?_
        first | refine x_iaddN eX9_less_19 ?_ | refine x_iadd eX9_less_19 ?_
        refine s_lald eX9_less_20 hk1 hq rfl (by omega) ?_
        rw [hg (k + 1) (by omega)]
        refine x_lcmp eX9_less_21 ?_
        refine x_if_neL eX9_less_22 (fun c_22 => ?_) (fun c_22 => ?_)
        · exact fin (k + 1) h1 h (Or.inl (fun h2 => c_22 ((lI_inj i1 i2).mpr (hc.mpr h2))))
        · refine x_iinc (v := nI k) (lv' := [_, _, _, _, _]) eX9_less_25 rfl ((nI_dec _).trans (dI_s k)) (by decide) rfl ?_
          refine x_goto eX9_less_28 ?_
          exact ih (by omega) (fun _ => hc.mp ((lI_inj i1 i2).mp c_22))
  show XP _ _ [_, _, _, _] _ _ _
  refine x_bipush (v := nI 9) eX9_less_0 (by decide) ?_
  refine x_istore (lv' := [_, _, _, _, _]) eX9_less_2 (by decide) rfl ?_
  refine x_pick [0, 1, 2, 3, 4] rfl ?_
  exact loop 9 (by decide) (fun h => absurd h (by decide))
theorem sp_X9_in (S : xS) (v lo hi : Int32) : Sp mX9_in [.int v, .int lo, .int hi] S (fun r S' => r = some (.int (bI (decide (lo ≤ v ∧ v ≤ hi)))) ∧ S' = S) := by
  show XP _ _ [_, _, _] _ _ _
  refine x_iload_n eX9_in_0 rfl ?_
  refine x_iload_n eX9_in_1 rfl ?_
  refine x_icmp_lt eX9_in_2 (fun c_2 => ?_) (fun c_2 => ?_)
  · refine x_iconst (v := nI 0) eX9_in_14 (by decide) ?_
    first
      | exact s_iret eX9_in_15 rfl rfl ⟨by rw [decide_eq_true ⟨Int32.not_lt.mp c_2, Int32.not_lt.mp c_7⟩]; rfl, rfl⟩
      | exact s_iret eX9_in_15 rfl rfl ⟨by rw [decide_eq_false (fun h => absurd h.2 (Int32.not_le.mpr c_7))]; rfl, rfl⟩
      | exact s_iret eX9_in_15 rfl rfl ⟨by rw [decide_eq_false (fun h => absurd h.1 (Int32.not_le.mpr c_2))]; rfl, rfl⟩
  · refine x_iload_n eX9_in_5 rfl ?_
    refine x_iload_n eX9_in_6 rfl ?_
    refine x_icmp_gt eX9_in_7 (fun c_7 => ?_) (fun c_7 => ?_)
    · refine x_iconst (v := nI 0) eX9_in_14 (by decide) ?_
      first
        | exact s_iret eX9_in_15 rfl rfl ⟨by rw [decide_eq_true ⟨Int32.not_lt.mp c_2, Int32.not_lt.mp c_7⟩]; rfl, rfl⟩
        | exact s_iret eX9_in_15 rfl rfl ⟨by rw [decide_eq_false (fun h => absurd h.2 (Int32.not_le.mpr c_7))]; rfl, rfl⟩
        | exact s_iret eX9_in_15 rfl rfl ⟨by rw [decide_eq_false (fun h => absurd h.1 (Int32.not_le.mpr c_2))]; rfl, rfl⟩
    · refine x_iconst (v := nI 1) eX9_in_10 (by decide) ?_
      refine x_goto eX9_in_11 ?_
      first
        | exact s_iret eX9_in_15 rfl rfl ⟨by rw [decide_eq_true ⟨Int32.not_lt.mp c_2, Int32.not_lt.mp c_7⟩]; rfl, rfl⟩
        | exact s_iret eX9_in_15 rfl rfl ⟨by rw [decide_eq_false (fun h => absurd h.2 (Int32.not_le.mpr c_7))]; rfl, rfl⟩
        | exact s_iret eX9_in_15 rfl rfl ⟨by rw [decide_eq_false (fun h => absurd h.1 (Int32.not_le.mpr c_2))]; rfl, rfl⟩
/-- the sizes that a number may have, by its bits -/
def isNum (x : Int64) : Bool := (x &&& 9223372036854775807 = 0) || (!(decide (x &&& 9223372036854775807 < 4517110426252607488)) && !(decide (4733283208366391296 < x &&& 9223372036854775807)))
def plainB (x : Int64) : Int64 := if x &&& 9223372036854775807 = 0 then 0 else x
theorem sp_X9_isNumber (S : xS) (x : Int64) : Sp mX9_isNumber [.long x] S (fun r S' => r = some (.int (bI (isNum x))) ∧ S' = S) := by
  show XP _ _ [_] _ _ _
  refine x_lload_n eX9_isNumber_0 rfl ?_
  refine x_ldc2 (v := 9223372036854775807) eX9_isNumber_1 (xT 826 (by decide +kernel) rfl) ?_
  refine x_land eX9_isNumber_4 ?_
  refine x_lstore_n (lv' := [_, _]) eX9_isNumber_5 (by decide) rfl ?_
  refine x_lload_n eX9_isNumber_6 rfl ?_
  refine x_lconst (v := 0) eX9_isNumber_7 (by decide) ?_
  refine x_lcmp eX9_isNumber_8 ?_
  refine x_if_eqL eX9_isNumber_9 (fun c_9 => ?_) (fun c_9 => ?_)
  · refine x_iconst (v := nI 1) eX9_isNumber_28 (by decide) ?_
    refine x_goto eX9_isNumber_29 ?_
    first
      | exact s_iret eX9_isNumber_33 rfl rfl ⟨by unfold isNum; rw [decide_eq_true c_9]; rfl, rfl⟩
      | exact s_iret eX9_isNumber_33 rfl rfl ⟨by unfold isNum; rw [decide_eq_false c_9, decide_eq_true c_17]; rfl, rfl⟩
      | exact s_iret eX9_isNumber_33 rfl rfl ⟨by unfold isNum; rw [decide_eq_false c_9, decide_eq_false c_17, decide_eq_true c_25]; rfl, rfl⟩
      | exact s_iret eX9_isNumber_33 rfl rfl ⟨by unfold isNum; rw [decide_eq_false c_9, decide_eq_false c_17, decide_eq_false c_25]; rfl, rfl⟩
  · refine x_lload_n eX9_isNumber_12 rfl ?_
    refine x_ldc2 (v := 4517110426252607488) eX9_isNumber_13 (xT 827 (by decide +kernel) rfl) ?_
    refine x_lcmp eX9_isNumber_16 ?_
    refine x_if_ltL eX9_isNumber_17 (fun c_17 => ?_) (fun c_17 => ?_)
    · refine x_iconst (v := nI 0) eX9_isNumber_32 (by decide) ?_
      first
        | exact s_iret eX9_isNumber_33 rfl rfl ⟨by unfold isNum; rw [decide_eq_true c_9]; rfl, rfl⟩
        | exact s_iret eX9_isNumber_33 rfl rfl ⟨by unfold isNum; rw [decide_eq_false c_9, decide_eq_true c_17]; rfl, rfl⟩
        | exact s_iret eX9_isNumber_33 rfl rfl ⟨by unfold isNum; rw [decide_eq_false c_9, decide_eq_false c_17, decide_eq_true c_25]; rfl, rfl⟩
        | exact s_iret eX9_isNumber_33 rfl rfl ⟨by unfold isNum; rw [decide_eq_false c_9, decide_eq_false c_17, decide_eq_false c_25]; rfl, rfl⟩
    · refine x_lload_n eX9_isNumber_20 rfl ?_
      refine x_ldc2 (v := 4733283208366391296) eX9_isNumber_21 (xT 828 (by decide +kernel) rfl) ?_
      refine x_lcmp eX9_isNumber_24 ?_
      refine x_if_gtL eX9_isNumber_25 (fun c_25 => ?_) (fun c_25 => ?_)
      · refine x_iconst (v := nI 0) eX9_isNumber_32 (by decide) ?_
        first
          | exact s_iret eX9_isNumber_33 rfl rfl ⟨by unfold isNum; rw [decide_eq_true c_9]; rfl, rfl⟩
          | exact s_iret eX9_isNumber_33 rfl rfl ⟨by unfold isNum; rw [decide_eq_false c_9, decide_eq_true c_17]; rfl, rfl⟩
          | exact s_iret eX9_isNumber_33 rfl rfl ⟨by unfold isNum; rw [decide_eq_false c_9, decide_eq_false c_17, decide_eq_true c_25]; rfl, rfl⟩
          | exact s_iret eX9_isNumber_33 rfl rfl ⟨by unfold isNum; rw [decide_eq_false c_9, decide_eq_false c_17, decide_eq_false c_25]; rfl, rfl⟩
      · refine x_iconst (v := nI 1) eX9_isNumber_28 (by decide) ?_
        refine x_goto eX9_isNumber_29 ?_
        first
          | exact s_iret eX9_isNumber_33 rfl rfl ⟨by unfold isNum; rw [decide_eq_true c_9]; rfl, rfl⟩
          | exact s_iret eX9_isNumber_33 rfl rfl ⟨by unfold isNum; rw [decide_eq_false c_9, decide_eq_true c_17]; rfl, rfl⟩
          | exact s_iret eX9_isNumber_33 rfl rfl ⟨by unfold isNum; rw [decide_eq_false c_9, decide_eq_false c_17, decide_eq_true c_25]; rfl, rfl⟩
          | exact s_iret eX9_isNumber_33 rfl rfl ⟨by unfold isNum; rw [decide_eq_false c_9, decide_eq_false c_17, decide_eq_false c_25]; rfl, rfl⟩
theorem sp_X9_plain (S : xS) (x : Int64) : Sp mX9_plain [.long x] S (fun r S' => r = some (.long (plainB x)) ∧ S' = S) := by
  show XP _ _ [_] _ _ _
  refine x_lload_n eX9_plain_0 rfl ?_
  refine x_ldc2 (v := 9223372036854775807) eX9_plain_1 (xT 826 (by decide +kernel) rfl) ?_
  refine x_land eX9_plain_4 ?_
  refine x_lconst (v := 0) eX9_plain_5 (by decide) ?_
  refine x_lcmp eX9_plain_6 ?_
  refine x_if_neL eX9_plain_7 (fun c_7 => ?_) (fun c_7 => ?_)
  · refine x_lload_n eX9_plain_14 rfl ?_
    first
      | exact s_lret eX9_plain_15 rfl ⟨by simp [plainB, c_7], rfl⟩
  · refine x_lconst (v := 0) eX9_plain_10 (by decide) ?_
    refine x_goto eX9_plain_11 ?_
    first
      | exact s_lret eX9_plain_15 rfl ⟨by simp [plainB, c_7], rfl⟩
end
section
/-! ===== a number by its bits: size, power, digits, sign; zc: its value in units of 2^-72 ===== -/
def szZ (x : Int64) : Int := x.toInt % 2 ^ 63
def pwN (x : Int64) : Nat := (szZ x / 2 ^ 52).toNat
def mtZ (x : Int64) : Int := if szZ x = 0 then 0 else szZ x % 2 ^ 52 + 2 ^ 52
def sgZ (x : Int64) : Int := if x.toInt < 0 then -1 else 1
def zc (x : Int64) : Int := sgZ x * (mtZ x * 2 ^ (pwN x - 1003))
theorem and_size (x : Int64) : x &&& 9223372036854775807 = lI (szZ x) := by
  rw [lI_of x, lI_mask (k := 63) (by decide) (by decide), ← lI_of x]
  rfl
theorem szZ_nn (x : Int64) : 0 ≤ szZ x := Int.emod_nonneg _ (by decide)
theorem szZ_lt (x : Int64) : szZ x < 2 ^ 63 := Int.emod_lt_of_pos _ (by decide)
theorem szZ_in (x : Int64) : inL (szZ x) := ⟨by have := szZ_nn x; omega, szZ_lt x⟩
theorem isNum_iff (x : Int64) : isNum x = true ↔ szZ x = 0 ∨ (1003 * 2 ^ 52 ≤ szZ x ∧ szZ x ≤ 1051 * 2 ^ 52) := by
  unfold isNum
  rw [and_size]
  have h0 : (lI (szZ x) = 0) ↔ szZ x = 0 := lI_inj (szZ_in x) inL_0
  have h1 : (lI (szZ x) < 4517110426252607488) ↔ szZ x < 4517110426252607488 := lI_lt (b := 4517110426252607488) (szZ_in x) ⟨by decide, by decide⟩
  have h2 : (4733283208366391296 < lI (szZ x)) ↔ 4733283208366391296 < szZ x := lI_lt (a := 4733283208366391296) ⟨by decide, by decide⟩ (szZ_in x)
  rw [Bool.or_eq_true, Bool.and_eq_true, Bool.not_eq_true', Bool.not_eq_true', decide_eq_true_iff, decide_eq_false_iff_not, decide_eq_false_iff_not, h0, h1, h2]
  omega
theorem pw_bounds {x : Int64} (h : isNum x = true) (h0 : szZ x ≠ 0) : 1003 ≤ pwN x ∧ pwN x ≤ 1051 := by
  rcases (isNum_iff x).mp h with h1 | h1
  · exact absurd h1 h0
  · unfold pwN
    omega
theorem mt_bounds (x : Int64) : 0 ≤ mtZ x ∧ mtZ x < 2 ^ 53 := by
  unfold mtZ
  split
  · decide
  · omega
/-- the exponent's bits -/
theorem pw_bits (x : Int64) : x.toInt / 2 ^ 52 % 2048 = (pwN x : Int) := by
  unfold pwN szZ
  omega
theorem mt_bits (x : Int64) : x.toInt % 2 ^ 52 = szZ x % 2 ^ 52 := by unfold szZ; omega
theorem plainB_num {x : Int64} (h : isNum x = true) : isNum (plainB x) = true := by
  unfold plainB
  split
  · decide
  · exact h
theorem szZ_0 : szZ 0 = 0 := by decide
theorem zc_0 : zc 0 = 0 := by decide
theorem plainB_zero {x : Int64} (h : szZ (plainB x) = 0) : plainB x = 0 := by
  unfold plainB at h ⊢
  split
  · rfl
  · rename_i h1
    rw [if_neg h1] at h
    rw [and_size, h] at h1
    exact absurd rfl h1
theorem shc {d : Nat} (h : d < 64) : (((nI d).toInt64 &&& 63).toBitVec.smod 64).toNat = d := by
  have : ∀ d, d < 64 → (((nI d).toInt64 &&& 63).toBitVec.smod 64).toNat = d := by decide +kernel
  exact this d h
theorem lI_or {a : Int} {k : Nat} (hk : k < 63) (h0 : 0 ≤ a) (h : a < 2 ^ k) : lI a ||| lI (2 ^ k) = lI (a + 2 ^ k) := by
  obtain ⟨n, rfl⟩ : ∃ n : Nat, a = n := ⟨a.toNat, by omega⟩
  have hn : n < 2 ^ k := by
    have e2 : (((2 ^ k : Nat)) : Int) = 2 ^ k := by simp
    omega
  have hp : 2 ^ k < 2 ^ 63 := Nat.pow_lt_pow_right (by decide) hk
  rw [← Int64.toBitVec_inj, Int64.toBitVec_or, lI_bv, lI_bv, lI_bv]
  apply BitVec.eq_of_toNat_eq
  have e1 : ∀ m : Nat, m < 2 ^ 64 → (BitVec.ofInt 64 (m : Int)).toNat = m := by
    intro m hm
    rw [BitVec.toNat_ofInt]
    omega
  have e2 : (2 ^ k : Int) = ((2 ^ k : Nat) : Int) := by simp
  rw [BitVec.toNat_or, e2, ← Int.natCast_add, e1 n (by omega), e1 (2 ^ k) (by omega), e1 (n + 2 ^ k) (by omega)]
  have := Nat.two_pow_add_eq_or_of_lt hn 1
  rw [Nat.mul_one] at this
  rw [Nat.or_comm, ← this, Nat.add_comm]
theorem zc_bound {x : Int64} (h : isNum x = true) : -(2 ^ 101) < zc x ∧ zc x < 2 ^ 101 := by
  have h1 := mt_bounds x
  have h2 : mtZ x * 2 ^ (pwN x - 1003) < 2 ^ 101 := by
    by_cases h0 : szZ x = 0
    · have : mtZ x = 0 := by unfold mtZ; rw [if_pos h0]
      rw [this]; simp
    · have h3 := pw_bounds h h0
      have h4 : (2 : Int) ^ (pwN x - 1003) ≤ 2 ^ 48 := by
        have := Nat.pow_le_pow_right (n := 2) (by decide) (show pwN x - 1003 ≤ 48 by omega)
        have e : ∀ k : Nat, ((2 ^ k : Nat) : Int) = 2 ^ k := by intro k; simp
        rw [← e, ← e]; omega
      have h5 : (0 : Int) < 2 ^ (pwN x - 1003) := Int.pow_pos (by decide)
      have h6 : mtZ x * 2 ^ (pwN x - 1003) ≤ mtZ x * 2 ^ 48 := Int.mul_le_mul_of_nonneg_left h4 h1.1
      omega
  have h3 : 0 ≤ mtZ x * 2 ^ (pwN x - 1003) := Int.mul_nonneg h1.1 (Int.le_of_lt (Int.pow_pos (by decide)))
  unfold zc sgZ
  split <;> omega
/-- M cut into limbs of b bits gives M back -/
theorem hv_digits {B : Int} (hB : 0 < B) (M s : Int) : ∀ n i, hv B (fun j => s * (M / B ^ j % B)) i n = s * (M / B ^ i) - s * (B ^ n * (M / B ^ (i + n))) := by
  intro n
  induction n with
  | zero => intro i; simp [hv]
  | succ n ih =>
    intro i
    show s * (M / B ^ i % B) + B * hv B _ (i + 1) n = _
    rw [ih]
    have h1 : M / B ^ (i + 1) = M / B ^ i / B := by rw [Int.pow_succ, Int.ediv_ediv_of_nonneg (Int.le_of_lt (Int.pow_pos hB))]
    have h2 := Int.emod_add_mul_ediv (M / B ^ i) B
    have h3 : i + 1 + n = i + (n + 1) := by omega
    rw [h3, h1, Int.pow_succ]
    generalize M / B ^ i = u at *
    generalize M / B ^ (i + (n + 1)) = t
    generalize u / B = q at *
    generalize u % B = r at *
    generalize B ^ n = P
    subst h2
    grind

theorem lI_nat (n : Nat) : lI (n : Int) = lN n := by
  unfold lI lN
  rw [Int64.ofInt_eq_ofNat]
theorem lI_toInt32 (n : Nat) : (lI (n : Int)).toInt32 = nI n := by rw [lI_nat, lN_i]
def MxZ (x : Int64) : Int := mtZ x * 2 ^ (pwN x - 1002)
theorem two_pow_N (k : Nat) : ((2 ^ k : Nat) : Int) = 2 ^ k := by simp
theorem MxZ_two {x : Int64} (h : isNum x = true) : sgZ x * MxZ x = 2 * zc x := by
  unfold MxZ zc
  by_cases h0 : szZ x = 0
  · have : mtZ x = 0 := by unfold mtZ; rw [if_pos h0]
    rw [this]; simp
  · have h3 := pw_bounds h h0
    have : pwN x - 1002 = (pwN x - 1003) + 1 := by omega
    rw [this, Int.pow_succ]
    grind
theorem MxZ_nn (x : Int64) : 0 ≤ MxZ x := Int.mul_nonneg (mt_bounds x).1 (Int.le_of_lt (Int.pow_pos (by decide)))
theorem MxZ_lt {x : Int64} (h : isNum x = true) : MxZ x < 2 ^ 102 := by
  have h1 := MxZ_two h
  have h2 := zc_bound h
  unfold sgZ at h1
  split at h1 <;> omega
theorem pow24 (k : Nat) : ((2 : Int) ^ 24) ^ k = 2 ^ (24 * k) := Int.pow_mul.symm
theorem part_down {m : Int} {s k : Nat} (h : s ≤ 24 * k) : m * 2 ^ s / (2 ^ 24) ^ k = m / 2 ^ (24 * k - s) := by
  rw [pow24]
  have : (2 : Int) ^ (24 * k) = 2 ^ (24 * k - s) * 2 ^ s := by rw [← Int.pow_add]; congr 1; omega
  rw [this, Int.mul_ediv_mul_of_pos_left _ _ (Int.pow_pos (by decide))]
theorem part_up {m : Int} {s k : Nat} (h : 24 * k ≤ s) : m * 2 ^ s / (2 ^ 24) ^ k = m * 2 ^ (s - 24 * k) := by
  rw [pow24]
  have : (2 : Int) ^ s = 2 ^ (s - 24 * k) * 2 ^ (24 * k) := by rw [← Int.pow_add]; congr 1; omega
  rw [this, ← Int.mul_assoc, Int.mul_ediv_cancel _ (Int.ne_of_gt (Int.pow_pos (by decide)))]
theorem nI_negsub {a b : Nat} (h : a ≤ b) : nI a - nI b = -(nI (b - a)) := by
  rw [← pk_sub h, Int32.neg_sub]
theorem negI_lt : ∀ e, e < 50 → 0 < e → -(nI e) < 0 := by decide
theorem negI_le : ∀ e, e < 50 → (-(nI e) ≤ -24 ↔ 24 ≤ e) := by decide
theorem nI_sub_neg (a b : Nat) : nI a - -(nI b) = nI (a + b) := by
  rw [Int32.sub_neg, nI_add]
theorem sp_X9_whole {p : Nat} (hk0 : kd p = 11) (ha : p < 365) {t : Nat} (hn : t + 5 ≤ ln p) (S : xS) (x : Int64) (hx : isNum x = true) : Sp mX9_whole [.long x, .ref p, .int (nI t)] S (fun r S' => r = none ∧ S' = setL S p (fun j => if t ≤ j ∧ j < t + 5 then lI (can (2 ^ 24) 5 (2 * zc x) (j - t)) else S.2.2.1 p j)) := by
  have hs := ln_small p
  have hpb := pw_bounds hx
  have hmb := mt_bounds x
  have hpos : ¬ szZ x = 0 ↔ 0 < pwN x := by
    constructor
    · intro h; have := hpb h; omega
    · intro h h2; unfold pwN at h; rw [h2] at h; exact absurd h (by decide)
  have hm0 : szZ x = 0 → mtZ x = 0 := fun h => by unfold mtZ; rw [if_pos h]
  have hpw : ((x >>> ((nI 52).toInt64 &&& 63)) &&& 2047).toInt32 = nI (pwN x) := by
    have h1 : x >>> ((nI 52).toInt64 &&& 63) = lI (x.toInt / 2 ^ 52) := by
      have := lI_shr (inL_toInt x) (shc (d := 52) (by decide))
      rwa [← lI_of x] at this
    rw [h1, lI_mask (k := 11) (by decide) (by decide)]
    have h2 := pw_bits x
    have e : (2 : Int) ^ 11 = 2048 := by decide
    rw [e, h2, lI_toInt32]
  have hmt : ¬ szZ x = 0 → (x &&& 4503599627370495) ||| 4503599627370496 = lI (mtZ x) := by
    intro h
    have h1 : x &&& 4503599627370495 = lI (x.toInt % 2 ^ 52) := by
      have := lI_mask (z := x.toInt) (m := 4503599627370495) (k := 52) (by decide) (by decide)
      rwa [← lI_of x] at this
    have h2 : (4503599627370496 : Int64) = lI (2 ^ 52) := by decide
    rw [h1, h2, lI_or (by decide) (Int.emod_nonneg _ (by decide)) (Int.emod_lt_of_pos _ (by decide)), mt_bits]
    unfold mtZ
    rw [if_neg h]
  have hpwlt : pwN x < 4096 := by
    by_cases h : szZ x = 0
    · have : ¬ 0 < pwN x := fun h2 => hpos.mpr h2 h
      omega
    · have := hpb h; omega
  have fin : ∀ S1, S1 = setL S p (fun j => if t ≤ j ∧ j < t + 5 then lI (sgZ x * (MxZ x / (2 ^ 24) ^ (j - t) % 2 ^ 24)) else S.2.2.1 p j) → ∀ lv, xget lv 2 = some (.ref p) → xget lv 3 = some (.int (nI t)) → XP mX9_whole 133 lv [] (xwS S1) (sQ (fun r S' => r = none ∧ S' = setL S p (fun j => if t ≤ j ∧ j < t + 5 then lI (can (2 ^ 24) 5 (2 * zc x) (j - t)) else S.2.2.1 p j))) := by
    intro S1 h1 lv g2 g3
    refine x_aload_n eX9_whole_133 g2 ?_
    refine x_iload_n eX9_whole_134 g3 ?_
    refine x_iconst (v := nI 5) eX9_whole_135 (by decide) ?_
    have hsg : sgZ x = 1 ∨ sgZ x = -1 := by unfold sgZ; split <;> simp
    refine s_callS0 (As := [_, _, _]) eX9_whole_136 kX9_128 ⟨by decide, by decide⟩ rfl rfl (Nat.le_of_ble_eq_true rfl) (Nat.le_of_ble_eq_true rfl) (sp_X9_carry hk0 ha (fr := t) (n := 5) hn (by decide) S1 (fun i => sgZ x * (MxZ x / (2 ^ 24) ^ i % 2 ^ 24)) ?_ ?_) (fun S2 h2 => ?_)
    · intro i hi
      rw [h1, setL_at]
      rw [if_pos (by omega), show t + i - t = i by omega]
    · intro i hi
      have u1 := Int.emod_nonneg (MxZ x / (2 ^ 24) ^ i) (show (2 ^ 24 : Int) ≠ 0 by decide)
      have u2 := Int.emod_lt_of_pos (MxZ x / (2 ^ 24) ^ i) (show (0 : Int) < 2 ^ 24 by decide)
      rcases hsg with h | h <;> rw [h] <;> omega
    · refine s_vret eX9_whole_139 rfl ⟨rfl, ?_⟩
      rw [h2, h1, setL_setL, setL_at]
      congr 1
      funext j
      by_cases hj : t ≤ j ∧ j < t + 5
      · rw [if_pos hj, if_pos hj]
        congr 2
        have := hv_digits (B := 2 ^ 24) (by decide) (MxZ x) (sgZ x) 5 0
        rw [this, ← MxZ_two hx]
        have h5 : MxZ x / (2 ^ 24) ^ (0 + 5) = 0 := Int.ediv_eq_zero_of_lt (MxZ_nn x) (by have := MxZ_lt hx; omega)
        rw [h5]
        simp
      · rw [if_neg hj, if_neg hj, if_neg hj]
  have jsg : ∀ k, k < 5 → ∀ S1, S1 = setL S p (fun j => if t ≤ j ∧ j < t + k then lI (sgZ x * (MxZ x / (2 ^ 24) ^ (j - t) % 2 ^ 24)) else S.2.2.1 p j) → ∀ (lv : List (Nat × Value)) (d : Int64), d &&& 16777215 = lI (MxZ x / (2 ^ 24) ^ k % 2 ^ 24) → xget lv 10 = some (.long d) → ∀ u, u = lI (sgZ x) → (∀ S2, S2 = setL S p (fun j => if t ≤ j ∧ j < t + (k + 1) then lI (sgZ x * (MxZ x / (2 ^ 24) ^ (j - t) % 2 ^ 24)) else S.2.2.1 p j) → XP mX9_whole 127 lv [] (xwS S2) (sQ (fun r S' => r = none ∧ S' = setL S p (fun j => if t ≤ j ∧ j < t + 5 then lI (can (2 ^ 24) 5 (2 * zc x) (j - t)) else S.2.2.1 p j)))) → XP mX9_whole 119 lv [.long u, .int (nI (t + k)), .ref p] (xwS S1) (sQ (fun r S' => r = none ∧ S' = setL S p (fun j => if t ≤ j ∧ j < t + 5 then lI (can (2 ^ 24) 5 (2 * zc x) (j - t)) else S.2.2.1 p j))) := by
    intro k hk S1 h1 lv d hd g10 u hu kk
    subst hu
    refine x_lload eX9_whole_119 g10 ?_
    refine x_ldc2 (v := 16777215) eX9_whole_121 (xT 843 (by decide +kernel) rfl) ?_
    refine x_land eX9_whole_124 ?_
    rw [hd]
    refine x_lmul eX9_whole_125 ?_
    rw [lI_mul]
    refine s_last eX9_whole_126 hk0 ha rfl (by omega) ?_
    refine kk _ ?_
    rw [h1, setL_setL, setL_at]
    congr 1
    funext j
    unfold vp_updL
    dsimp only
    by_cases hj : j = t + k
    · rw [if_pos hj, if_pos (by omega), show j - t = k by omega]
    · rw [if_neg hj]
      by_cases hj2 : t ≤ j ∧ j < t + k
      · rw [if_pos hj2, if_pos (by omega)]
      · rw [if_neg hj2, if_neg (by omega)]
  have j99 : ∀ k, k < 5 → ∀ S1, S1 = setL S p (fun j => if t ≤ j ∧ j < t + k then lI (sgZ x * (MxZ x / (2 ^ 24) ^ (j - t) % 2 ^ 24)) else S.2.2.1 p j) → ∀ (dn sv : Int32) (d : Int64), d &&& 16777215 = lI (MxZ x / (2 ^ 24) ^ k % 2 ^ 24) → (∀ S2, S2 = setL S p (fun j => if t ≤ j ∧ j < t + (k + 1) then lI (sgZ x * (MxZ x / (2 ^ 24) ^ (j - t) % 2 ^ 24)) else S.2.2.1 p j) → XP mX9_whole 42 [(8, .int (nI (k + 1))), (7, .int sv), (5, .long (lI (mtZ x))), (0, .long x), (2, .ref p), (3, .int (nI t))] [] (xwS S2) (sQ (fun r S' => r = none ∧ S' = setL S p (fun j => if t ≤ j ∧ j < t + 5 then lI (can (2 ^ 24) 5 (2 * zc x) (j - t)) else S.2.2.1 p j)))) → XP mX9_whole 99 [(9, .int dn), (8, .int (nI k)), (7, .int sv), (5, .long (lI (mtZ x))), (0, .long x), (2, .ref p), (3, .int (nI t))] [.long d] (xwS S1) (sQ (fun r S' => r = none ∧ S' = setL S p (fun j => if t ≤ j ∧ j < t + 5 then lI (can (2 ^ 24) 5 (2 * zc x) (j - t)) else S.2.2.1 p j))) := by
    intro k hk S1 h1 dn sv d hd kk
    have hsgn : x.toInt < 0 ↔ x < 0 := by rw [Int64.lt_iff_toInt_lt]; rfl
    refine x_lstore (lv' := [_, _, _, _, _, _, _, _]) eX9_whole_99 (by decide) rfl ?_
    refine x_aload_n eX9_whole_101 rfl ?_
    refine x_iload_n eX9_whole_102 rfl ?_
    refine x_iload eX9_whole_103 rfl ?_
    first | refine x_iaddN eX9_whole_105 ?_ | refine x_iadd eX9_whole_105 ?_
    refine x_lload_n eX9_whole_106 rfl ?_
    refine x_lconst (v := 0) eX9_whole_107 (by decide) ?_
    refine x_lcmp eX9_whole_108 ?_
    refine x_if_geL eX9_whole_109 (fun c_109 => ?_) (fun c_109 => ?_)
    · refine x_lconst (v := 1) eX9_whole_118 (by decide) ?_
      refine jsg k hk S1 h1 _ d hd rfl _ (by unfold sgZ; first | rw [if_neg (fun h => c_109 (hsgn.mp h))]; rfl | rw [if_pos (hsgn.mpr c_109)]; rfl) (fun S2 h2 => ?_)
      refine x_iinc (lv' := [_, _, _, _, _, _, _, _]) eX9_whole_127 rfl (by first | exact nI_inc _ | exact rfl) (by decide) rfl ?_
      refine x_goto eX9_whole_130 ?_
      refine x_pick [0, 3, 4, 5, 6, 7] rfl ?_
      exact kk S2 h2
    · refine x_ldc2 (v := -1) eX9_whole_112 (xT 842 (by decide +kernel) rfl) ?_
      refine x_goto eX9_whole_115 ?_
      refine jsg k hk S1 h1 _ d hd rfl _ (by unfold sgZ; first | rw [if_neg (fun h => c_109 (hsgn.mp h))]; rfl | rw [if_pos (hsgn.mpr c_109)]; rfl) (fun S2 h2 => ?_)
      refine x_iinc (lv' := [_, _, _, _, _, _, _, _]) eX9_whole_127 rfl (by first | exact nI_inc _ | exact rfl) (by decide) rfl ?_
      refine x_goto eX9_whole_130 ?_
      refine x_pick [0, 3, 4, 5, 6, 7] rfl ?_
      exact kk S2 h2
  have j56 : ∀ k, k < 5 → ∀ S1, S1 = setL S p (fun j => if t ≤ j ∧ j < t + k then lI (sgZ x * (MxZ x / (2 ^ 24) ^ (j - t) % 2 ^ 24)) else S.2.2.1 p j) → ∀ (dn sv : Int32), ((∃ d, d < 2000 ∧ dn = nI d ∧ mtZ x / 2 ^ d % 2 ^ 24 = MxZ x / (2 ^ 24) ^ k % 2 ^ 24) ∨ (∃ e, 0 < e ∧ e < 50 ∧ dn = -(nI e) ∧ mtZ x * 2 ^ e % 2 ^ 24 = MxZ x / (2 ^ 24) ^ k % 2 ^ 24)) → (∀ S2, S2 = setL S p (fun j => if t ≤ j ∧ j < t + (k + 1) then lI (sgZ x * (MxZ x / (2 ^ 24) ^ (j - t) % 2 ^ 24)) else S.2.2.1 p j) → XP mX9_whole 42 [(8, .int (nI (k + 1))), (7, .int sv), (5, .long (lI (mtZ x))), (0, .long x), (2, .ref p), (3, .int (nI t))] [] (xwS S2) (sQ (fun r S' => r = none ∧ S' = setL S p (fun j => if t ≤ j ∧ j < t + 5 then lI (can (2 ^ 24) 5 (2 * zc x) (j - t)) else S.2.2.1 p j)))) → XP mX9_whole 56 [(8, .int (nI k)), (7, .int sv), (5, .long (lI (mtZ x))), (0, .long x), (2, .ref p), (3, .int (nI t))] [.int dn] (xwS S1) (sQ (fun r S' => r = none ∧ S' = setL S p (fun j => if t ≤ j ∧ j < t + 5 then lI (can (2 ^ 24) 5 (2 * zc x) (j - t)) else S.2.2.1 p j))) := by
    intro k hk S1 h1 dn sv hdn kk
    have hmin : inL (mtZ x) := ⟨by omega, by omega⟩
    rcases hdn with ⟨d, hd, rfl, hv⟩ | ⟨e, he0, he, rfl, hv⟩
    · refine x_istore (lv' := [_, _, _, _, _, _, _]) eX9_whole_56 (by decide) rfl ?_
      refine x_iload eX9_whole_58 rfl ?_
      refine x_if_ltN eX9_whole_60 (by omega) ?_
      refine x_iload eX9_whole_63 rfl ?_
      refine x_bipush (v := nI 64) eX9_whole_65 (by decide) ?_
      refine x_icmp_geN eX9_whole_67 (by omega) (by omega) (fun c_67 => ?_) (fun c_67 => ?_)
      · refine x_lconst (v := 0) eX9_whole_78 (by decide) ?_
        refine x_goto eX9_whole_79 ?_
        first
          | exact j99 k hk S1 h1 _ _ _ (by rw [lI_mask (k := 24) (by decide) (by decide), hv]) kk
          | exact j99 k hk S1 h1 _ _ _ (by
              have h0 : mtZ x / 2 ^ d = 0 := Int.ediv_eq_zero_of_lt hmb.1 (by
                have h6 := Nat.pow_le_pow_right (n := 2) (by decide) c_67
                have h7 := two_pow_N 64
                have h8 := two_pow_N d
                omega)
              rw [← hv, h0]; rfl) kk
      · refine x_lload eX9_whole_70 rfl ?_
        refine x_iload eX9_whole_72 rfl ?_
        refine x_lshr eX9_whole_74 rfl ?_
        rw [lI_shr hmin (shc c_67)]
        refine x_goto eX9_whole_75 ?_
        first
          | exact j99 k hk S1 h1 _ _ _ (by rw [lI_mask (k := 24) (by decide) (by decide), hv]) kk
          | exact j99 k hk S1 h1 _ _ _ (by
              have h0 : mtZ x / 2 ^ d = 0 := Int.ediv_eq_zero_of_lt hmb.1 (by
                have h6 := Nat.pow_le_pow_right (n := 2) (by decide) c_67
                have h7 := two_pow_N 64
                have h8 := two_pow_N d
                omega)
              rw [← hv, h0]; rfl) kk
    · refine x_istore (lv' := [_, _, _, _, _, _, _]) eX9_whole_56 (by decide) rfl ?_
      refine x_iload eX9_whole_58 rfl ?_
      refine x_if_lt eX9_whole_60 (fun c_60 => ?_) (fun c_60 => ?_)
      · refine x_iload eX9_whole_82 rfl ?_
        refine x_bipush (v := -24) eX9_whole_84 (by decide) ?_
        refine x_icmp_le eX9_whole_86 (fun c_86 => ?_) (fun c_86 => ?_)
        · refine x_lconst (v := 0) eX9_whole_98 (by decide) ?_
          first
            | exact j99 k hk S1 h1 _ _ _ (by rw [lI_mask (k := 24) (by decide) (by decide), hv]) kk
            | exact j99 k hk S1 h1 _ _ _ (by
                have h24 := (negI_le e he).mp c_86
                have h0 : mtZ x * 2 ^ e % 2 ^ 24 = 0 := by
                  have : (2 : Int) ^ e = 2 ^ (e - 24) * 2 ^ 24 := by rw [← Int.pow_add]; congr 1; omega
                  rw [this, ← Int.mul_assoc, Int.mul_emod_left]
                rw [← hv, h0]; rfl) kk
        · refine x_lload eX9_whole_89 rfl ?_
          refine x_iload eX9_whole_91 rfl ?_
          refine x_ineg eX9_whole_93 ?_
          rw [Int32.neg_neg]
          refine x_lshl eX9_whole_94 rfl ?_
          rw [lI_shl (mtZ x) (shc (show e < 64 by omega))]
          refine x_goto eX9_whole_95 ?_
          first
            | exact j99 k hk S1 h1 _ _ _ (by rw [lI_mask (k := 24) (by decide) (by decide), hv]) kk
            | exact j99 k hk S1 h1 _ _ _ (by
                have h24 := (negI_le e he).mp c_86
                have h0 : mtZ x * 2 ^ e % 2 ^ 24 = 0 := by
                  have : (2 : Int) ^ e = 2 ^ (e - 24) * 2 ^ 24 := by rw [← Int.pow_add]; congr 1; omega
                  rw [this, ← Int.mul_assoc, Int.mul_emod_left]
                rw [← hv, h0]; rfl) kk
      · exact absurd (negI_lt e he he0) c_60
  have loop : ∀ sv, ((szZ x = 0 ∧ sv = -(nI 1002)) ∨ (¬ szZ x = 0 ∧ sv = nI (pwN x - 1002))) → ∀ m k, k + m = 5 → ∀ S1, S1 = setL S p (fun j => if t ≤ j ∧ j < t + k then lI (sgZ x * (MxZ x / (2 ^ 24) ^ (j - t) % 2 ^ 24)) else S.2.2.1 p j) → XP mX9_whole 42 [(8, .int (nI k)), (7, .int sv), (5, .long (lI (mtZ x))), (0, .long x), (2, .ref p), (3, .int (nI t))] [] (xwS S1) (sQ (fun r S' => r = none ∧ S' = setL S p (fun j => if t ≤ j ∧ j < t + 5 then lI (can (2 ^ 24) 5 (2 * zc x) (j - t)) else S.2.2.1 p j))) := by
    intro sv hsv m
    induction m with
    | zero =>
      intro k hk S1 h1
      obtain rfl : k = 5 := by omega
      refine x_iload eX9_whole_42 rfl ?_
      refine x_iconst (v := nI 5) eX9_whole_44 (by decide) ?_
      refine x_icmp_geN eX9_whole_45 (by omega) (by omega) (fun c_45 => ?_) (fun c_45 => ?_)
      · exact fin S1 h1 _ rfl rfl
      · omega
    | succ m ih =>
      intro k hk S1 h1
      refine x_iload eX9_whole_42 rfl ?_
      refine x_iconst (v := nI 5) eX9_whole_44 (by decide) ?_
      refine x_icmp_geN eX9_whole_45 (by omega) (by omega) (fun c_45 => ?_) (fun c_45 => ?_)
      · omega
      · refine x_bipush (v := nI 24) eX9_whole_48 (by decide) ?_
        refine x_iload eX9_whole_50 rfl ?_
        first | refine x_imulN eX9_whole_52 ?_ | refine x_imul eX9_whole_52 ?_
        refine x_iload eX9_whole_53 rfl ?_
        refine x_isub eX9_whole_55 ?_
        refine j56 k (by omega) S1 h1 _ _ ?_ (fun S2 h2 => ih (k + 1) (by omega) S2 h2)
        rcases hsv with ⟨hz, rfl⟩ | ⟨hz, rfl⟩
        · refine Or.inl ⟨24 * k + 1002, by omega, nI_sub_neg _ _, ?_⟩
          rw [hm0 hz]; unfold MxZ; rw [hm0 hz]; simp
        · have hb := hpb hz
          by_cases hle : pwN x - 1002 ≤ 24 * k
          · refine Or.inl ⟨24 * k - (pwN x - 1002), by omega, pk_sub hle, ?_⟩
            unfold MxZ; rw [part_down hle]
          · refine Or.inr ⟨pwN x - 1002 - 24 * k, by omega, by omega, nI_negsub (by omega), ?_⟩
            unfold MxZ; rw [part_up (by omega)]
  have j29 : ∀ v, v = lI (mtZ x) → XP mX9_whole 29 [(4, .int (nI (pwN x))), (0, .long x), (2, .ref p), (3, .int (nI t))] [.long v] (xwS S) (sQ (fun r S' => r = none ∧ S' = setL S p (fun j => if t ≤ j ∧ j < t + 5 then lI (can (2 ^ 24) 5 (2 * zc x) (j - t)) else S.2.2.1 p j))) := by
    intro v hv
    subst hv
    refine x_lstore (lv' := [_, _, _, _, _]) eX9_whole_29 (by decide) rfl ?_
    refine x_iload eX9_whole_31 rfl ?_
    refine x_sipush (v := nI 1002) eX9_whole_33 (by decide) ?_
    refine x_isub eX9_whole_36 ?_
    refine x_istore (lv' := [_, _, _, _, _, _]) eX9_whole_37 (by decide) rfl ?_
    refine x_iconst (v := nI 0) eX9_whole_39 (by decide) ?_
    refine x_istore (lv' := [_, _, _, _, _, _, _]) eX9_whole_40 (by decide) rfl ?_
    refine x_pick [0, 1, 2, 4, 5, 6] rfl ?_
    refine loop _ ?_ 5 0 rfl S ?_
    · by_cases hz : szZ x = 0
      · have : pwN x = 0 := Nat.eq_zero_of_not_pos (fun h2 => hpos.mpr h2 hz)
        exact Or.inl ⟨hz, by rw [this]; decide⟩
      · exact Or.inr ⟨hz, pk_sub (by have := hpb hz; omega)⟩
    · have : (fun j => if t ≤ j ∧ j < t + 0 then lI (sgZ x * (MxZ x / (2 ^ 24) ^ (j - t) % 2 ^ 24)) else S.2.2.1 p j) = S.2.2.1 p := by funext j; rw [if_neg (by omega)]
      rw [this, setL_self]
  show XP _ _ [_, _, _] _ _ _
  refine x_lload_n eX9_whole_0 rfl ?_
  refine x_bipush (v := nI 52) eX9_whole_1 (by decide) ?_
  refine x_lshr eX9_whole_3 rfl ?_
  refine x_ldc2 (v := 2047) eX9_whole_4 (xT 839 (by decide +kernel) rfl) ?_
  refine x_land eX9_whole_7 ?_
  refine x_l2i eX9_whole_8 ?_
  rw [hpw]
  refine x_istore (lv' := [_, _, _, _]) eX9_whole_9 (by decide) rfl ?_
  refine x_iload eX9_whole_11 rfl ?_
  refine x_if_neN eX9_whole_13 (by omega) (fun c_13 => ?_) (fun c_13 => ?_)
  · refine x_lload_n eX9_whole_20 rfl ?_
    refine x_ldc2 (v := 4503599627370495) eX9_whole_21 (xT 840 (by decide +kernel) rfl) ?_
    refine x_land eX9_whole_24 ?_
    refine x_ldc2 (v := 4503599627370496) eX9_whole_25 (xT 841 (by decide +kernel) rfl) ?_
    refine x_lor eX9_whole_28 ?_
    first
      | exact j29 _ (hmt (hpos.mpr c_13))
      | exact j29 _ (by rw [hm0 (Decidable.not_not.mp (fun h => absurd (hpos.mp h) (by omega)))]; rfl)
  · refine x_lconst (v := 0) eX9_whole_16 (by decide) ?_
    refine x_goto eX9_whole_17 ?_
    first
      | exact j29 _ (hmt (hpos.mpr c_13))
      | exact j29 _ (by rw [hm0 (Decidable.not_not.mp (fun h => absurd (hpos.mp h) (by omega)))]; rfl)
end
