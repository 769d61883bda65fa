/-! ===== constructors: methods, decode rows, links ===== -/
theorem yTn (i : Nat) {w : Cond} (h : tables_1[i]? = some w) (hg : yNb w = true) : w ∈ yNs := List.mem_filter.mpr ⟨List.mem_append_right _ (List.mem_of_getElem? h), hg⟩
abbrev mX0_init : xM := (yX0_init, cX0_init, 1, none, 1)
abbrev mX1_init : xM := (yX1_init, cX1_init, 1, none, 2)
abbrev mX2_init : xM := (yX2_init, cX2_init, 1, none, 2)
abbrev mX3_init : xM := (yX3_init, cX3_init, 2, none, 3)
abbrev mX4_init : xM := (yX4_init, cX4_init, 1, none, 1)
abbrev mX5_init : xM := (yX5_init, cX5_init, 2, none, 1)
abbrev mX6_init : xM := (yX6_init, cX6_init, 2, none, 2)
abbrev mX7_init : xM := (yX7_init, cX7_init, 1, none, 1)
abbrev mX8_init : xM := (yX8_init, cX8_init, 2, none, 4)
abbrev mX9_init : xM := (yX9_init, cX9_init, 1, none, 1)
theorem eX0_init_0 : xAt mX0_init 0 (.aload_n 0) 1 1 := ⟨by decide +kernel, rfl⟩
theorem eX0_init_1 : xAt mX0_init 1 (.invokespecial 3) 3 4 := ⟨by decide +kernel, rfl⟩
theorem eX0_init_4 : xAt mX0_init 4 (.aload_n 0) 1 5 := ⟨by decide +kernel, rfl⟩
theorem eX0_init_5 : xAt mX0_init 5 (.sipush 200) 3 8 := ⟨by decide +kernel, rfl⟩
theorem eX0_init_8 : xAt mX0_init 8 (.newarray .int) 2 10 := ⟨by decide +kernel, rfl⟩
theorem eX0_init_10 : xAt mX0_init 10 (.putfield 9) 3 13 := ⟨by decide +kernel, rfl⟩
theorem eX0_init_13 : xAt mX0_init 13 (.aload_n 0) 1 14 := ⟨by decide +kernel, rfl⟩
theorem eX0_init_14 : xAt mX0_init 14 (.sipush 200) 3 17 := ⟨by decide +kernel, rfl⟩
theorem eX0_init_17 : xAt mX0_init 17 (.newarray .boolean) 2 19 := ⟨by decide +kernel, rfl⟩
theorem eX0_init_19 : xAt mX0_init 19 (.putfield 15) 3 22 := ⟨by decide +kernel, rfl⟩
theorem eX0_init_22 : xAt mX0_init 22 (.aload_n 0) 1 23 := ⟨by decide +kernel, rfl⟩
theorem eX0_init_23 : xAt mX0_init 23 (.sipush 201) 3 26 := ⟨by decide +kernel, rfl⟩
theorem eX0_init_26 : xAt mX0_init 26 (.newarray .int) 2 28 := ⟨by decide +kernel, rfl⟩
theorem eX0_init_28 : xAt mX0_init 28 (.putfield 19) 3 31 := ⟨by decide +kernel, rfl⟩
theorem eX0_init_31 : xAt mX0_init 31 (.aload_n 0) 1 32 := ⟨by decide +kernel, rfl⟩
theorem eX0_init_32 : xAt mX0_init 32 (.iconst 0) 1 33 := ⟨by decide +kernel, rfl⟩
theorem eX0_init_33 : xAt mX0_init 33 (.putfield 22) 3 36 := ⟨by decide +kernel, rfl⟩
theorem eX0_init_36 : xAt mX0_init 36 (.aload_n 0) 1 37 := ⟨by decide +kernel, rfl⟩
theorem eX0_init_37 : xAt mX0_init 37 (.iconst 0) 1 38 := ⟨by decide +kernel, rfl⟩
theorem eX0_init_38 : xAt mX0_init 38 (.putfield 26) 3 41 := ⟨by decide +kernel, rfl⟩
theorem eX0_init_41 : xAt mX0_init 41 (.return_) 1 42 := ⟨by decide +kernel, rfl⟩
theorem eX1_init_0 : xAt mX1_init 0 (.aload_n 0) 1 1 := ⟨by decide +kernel, rfl⟩
theorem eX1_init_1 : xAt mX1_init 1 (.invokespecial 1) 3 4 := ⟨by decide +kernel, rfl⟩
theorem eX1_init_4 : xAt mX1_init 4 (.aload_n 0) 1 5 := ⟨by decide +kernel, rfl⟩
theorem eX1_init_5 : xAt mX1_init 5 (.new 7) 3 8 := ⟨by decide +kernel, rfl⟩
theorem eX1_init_8 : xAt mX1_init 8 (.dup) 1 9 := ⟨by decide +kernel, rfl⟩
theorem eX1_init_9 : xAt mX1_init 9 (.invokespecial 9) 3 12 := ⟨by decide +kernel, rfl⟩
theorem eX1_init_12 : xAt mX1_init 12 (.putfield 10) 3 15 := ⟨by decide +kernel, rfl⟩
theorem eX1_init_15 : xAt mX1_init 15 (.aload_n 0) 1 16 := ⟨by decide +kernel, rfl⟩
theorem eX1_init_16 : xAt mX1_init 16 (.iconst 0) 1 17 := ⟨by decide +kernel, rfl⟩
theorem eX1_init_17 : xAt mX1_init 17 (.putfield 16) 3 20 := ⟨by decide +kernel, rfl⟩
theorem eX1_init_20 : xAt mX1_init 20 (.aload_n 0) 1 21 := ⟨by decide +kernel, rfl⟩
theorem eX1_init_21 : xAt mX1_init 21 (.iconst 0) 1 22 := ⟨by decide +kernel, rfl⟩
theorem eX1_init_22 : xAt mX1_init 22 (.putfield 20) 3 25 := ⟨by decide +kernel, rfl⟩
theorem eX1_init_25 : xAt mX1_init 25 (.aload_n 0) 1 26 := ⟨by decide +kernel, rfl⟩
theorem eX1_init_26 : xAt mX1_init 26 (.iconst 0) 1 27 := ⟨by decide +kernel, rfl⟩
theorem eX1_init_27 : xAt mX1_init 27 (.putfield 24) 3 30 := ⟨by decide +kernel, rfl⟩
theorem eX1_init_30 : xAt mX1_init 30 (.return_) 1 31 := ⟨by decide +kernel, rfl⟩
theorem eX2_init_0 : xAt mX2_init 0 (.aload_n 0) 1 1 := ⟨by decide +kernel, rfl⟩
theorem eX2_init_1 : xAt mX2_init 1 (.invokespecial 3) 3 4 := ⟨by decide +kernel, rfl⟩
theorem eX2_init_4 : xAt mX2_init 4 (.aload_n 0) 1 5 := ⟨by decide +kernel, rfl⟩
theorem eX2_init_5 : xAt mX2_init 5 (.sipush 402) 3 8 := ⟨by decide +kernel, rfl⟩
theorem eX2_init_8 : xAt mX2_init 8 (.newarray .long) 2 10 := ⟨by decide +kernel, rfl⟩
theorem eX2_init_10 : xAt mX2_init 10 (.putfield 9) 3 13 := ⟨by decide +kernel, rfl⟩
theorem eX2_init_13 : xAt mX2_init 13 (.aload_n 0) 1 14 := ⟨by decide +kernel, rfl⟩
theorem eX2_init_14 : xAt mX2_init 14 (.sipush 402) 3 17 := ⟨by decide +kernel, rfl⟩
theorem eX2_init_17 : xAt mX2_init 17 (.newarray .double) 2 19 := ⟨by decide +kernel, rfl⟩
theorem eX2_init_19 : xAt mX2_init 19 (.putfield 15) 3 22 := ⟨by decide +kernel, rfl⟩
theorem eX2_init_22 : xAt mX2_init 22 (.aload_n 0) 1 23 := ⟨by decide +kernel, rfl⟩
theorem eX2_init_23 : xAt mX2_init 23 (.sipush 1608) 3 26 := ⟨by decide +kernel, rfl⟩
theorem eX2_init_26 : xAt mX2_init 26 (.newarray .long) 2 28 := ⟨by decide +kernel, rfl⟩
theorem eX2_init_28 : xAt mX2_init 28 (.putfield 19) 3 31 := ⟨by decide +kernel, rfl⟩
theorem eX2_init_31 : xAt mX2_init 31 (.aload_n 0) 1 32 := ⟨by decide +kernel, rfl⟩
theorem eX2_init_32 : xAt mX2_init 32 (.new 22) 3 35 := ⟨by decide +kernel, rfl⟩
theorem eX2_init_35 : xAt mX2_init 35 (.dup) 1 36 := ⟨by decide +kernel, rfl⟩
theorem eX2_init_36 : xAt mX2_init 36 (.invokespecial 24) 3 39 := ⟨by decide +kernel, rfl⟩
theorem eX2_init_39 : xAt mX2_init 39 (.putfield 25) 3 42 := ⟨by decide +kernel, rfl⟩
theorem eX2_init_42 : xAt mX2_init 42 (.aload_n 0) 1 43 := ⟨by decide +kernel, rfl⟩
theorem eX2_init_43 : xAt mX2_init 43 (.iconst 0) 1 44 := ⟨by decide +kernel, rfl⟩
theorem eX2_init_44 : xAt mX2_init 44 (.putfield 29) 3 47 := ⟨by decide +kernel, rfl⟩
theorem eX2_init_47 : xAt mX2_init 47 (.return_) 1 48 := ⟨by decide +kernel, rfl⟩
theorem eX3_init_0 : xAt mX3_init 0 (.aload_n 0) 1 1 := ⟨by decide +kernel, rfl⟩
theorem eX3_init_1 : xAt mX3_init 1 (.invokespecial 3) 3 4 := ⟨by decide +kernel, rfl⟩
theorem eX3_init_4 : xAt mX3_init 4 (.aload_n 0) 1 5 := ⟨by decide +kernel, rfl⟩
theorem eX3_init_5 : xAt mX3_init 5 (.bipush 60) 2 7 := ⟨by decide +kernel, rfl⟩
theorem eX3_init_7 : xAt mX3_init 7 (.anewarray 9) 3 10 := ⟨by decide +kernel, rfl⟩
theorem eX3_init_10 : xAt mX3_init 10 (.putfield 11) 3 13 := ⟨by decide +kernel, rfl⟩
theorem eX3_init_13 : xAt mX3_init 13 (.aload_n 0) 1 14 := ⟨by decide +kernel, rfl⟩
theorem eX3_init_14 : xAt mX3_init 14 (.new 9) 3 17 := ⟨by decide +kernel, rfl⟩
theorem eX3_init_17 : xAt mX3_init 17 (.dup) 1 18 := ⟨by decide +kernel, rfl⟩
theorem eX3_init_18 : xAt mX3_init 18 (.invokespecial 17) 3 21 := ⟨by decide +kernel, rfl⟩
theorem eX3_init_21 : xAt mX3_init 21 (.putfield 18) 3 24 := ⟨by decide +kernel, rfl⟩
theorem eX3_init_24 : xAt mX3_init 24 (.aload_n 0) 1 25 := ⟨by decide +kernel, rfl⟩
theorem eX3_init_25 : xAt mX3_init 25 (.new 9) 3 28 := ⟨by decide +kernel, rfl⟩
theorem eX3_init_28 : xAt mX3_init 28 (.dup) 1 29 := ⟨by decide +kernel, rfl⟩
theorem eX3_init_29 : xAt mX3_init 29 (.invokespecial 17) 3 32 := ⟨by decide +kernel, rfl⟩
theorem eX3_init_32 : xAt mX3_init 32 (.putfield 22) 3 35 := ⟨by decide +kernel, rfl⟩
theorem eX3_init_35 : xAt mX3_init 35 (.aload_n 0) 1 36 := ⟨by decide +kernel, rfl⟩
theorem eX3_init_36 : xAt mX3_init 36 (.iconst (-1)) 1 37 := ⟨by decide +kernel, rfl⟩
theorem eX3_init_37 : xAt mX3_init 37 (.putfield 25) 3 40 := ⟨by decide +kernel, rfl⟩
theorem eX3_init_40 : xAt mX3_init 40 (.aload_n 0) 1 41 := ⟨by decide +kernel, rfl⟩
theorem eX3_init_41 : xAt mX3_init 41 (.iconst (-1)) 1 42 := ⟨by decide +kernel, rfl⟩
theorem eX3_init_42 : xAt mX3_init 42 (.putfield 29) 3 45 := ⟨by decide +kernel, rfl⟩
theorem eX3_init_45 : xAt mX3_init 45 (.aload_n 0) 1 46 := ⟨by decide +kernel, rfl⟩
theorem eX3_init_46 : xAt mX3_init 46 (.iconst 0) 1 47 := ⟨by decide +kernel, rfl⟩
theorem eX3_init_47 : xAt mX3_init 47 (.putfield 32) 3 50 := ⟨by decide +kernel, rfl⟩
theorem eX3_init_50 : xAt mX3_init 50 (.aload_n 0) 1 51 := ⟨by decide +kernel, rfl⟩
theorem eX3_init_51 : xAt mX3_init 51 (.iconst 0) 1 52 := ⟨by decide +kernel, rfl⟩
theorem eX3_init_52 : xAt mX3_init 52 (.putfield 36) 3 55 := ⟨by decide +kernel, rfl⟩
theorem eX3_init_55 : xAt mX3_init 55 (.iconst 0) 1 56 := ⟨by decide +kernel, rfl⟩
theorem eX3_init_56 : xAt mX3_init 56 (.istore_n 1) 1 57 := ⟨by decide +kernel, rfl⟩
theorem eX3_init_57 : xAt mX3_init 57 (.iload_n 1) 1 58 := ⟨by decide +kernel, rfl⟩
theorem eX3_init_58 : xAt mX3_init 58 (.bipush 60) 2 60 := ⟨by decide +kernel, rfl⟩
theorem eX3_init_60 : xBr mX3_init 60 (.if_icmp .ge) (22) 63 82 := ⟨by decide +kernel, rfl, by decide⟩
theorem eX3_init_63 : xAt mX3_init 63 (.aload_n 0) 1 64 := ⟨by decide +kernel, rfl⟩
theorem eX3_init_64 : xAt mX3_init 64 (.getfield 11) 3 67 := ⟨by decide +kernel, rfl⟩
theorem eX3_init_67 : xAt mX3_init 67 (.iload_n 1) 1 68 := ⟨by decide +kernel, rfl⟩
theorem eX3_init_68 : xAt mX3_init 68 (.new 9) 3 71 := ⟨by decide +kernel, rfl⟩
theorem eX3_init_71 : xAt mX3_init 71 (.dup) 1 72 := ⟨by decide +kernel, rfl⟩
theorem eX3_init_72 : xAt mX3_init 72 (.invokespecial 17) 3 75 := ⟨by decide +kernel, rfl⟩
theorem eX3_init_75 : xAt mX3_init 75 (.aastore) 1 76 := ⟨by decide +kernel, rfl⟩
theorem eX3_init_76 : xAt mX3_init 76 (.iinc 1 1) 3 79 := ⟨by decide +kernel, rfl⟩
theorem eX3_init_79 : xBr mX3_init 79 .goto (-22) 82 57 := ⟨by decide +kernel, rfl, by decide⟩
theorem eX3_init_82 : xAt mX3_init 82 (.return_) 1 83 := ⟨by decide +kernel, rfl⟩
theorem eX4_init_0 : xAt mX4_init 0 (.aload_n 0) 1 1 := ⟨by decide +kernel, rfl⟩
theorem eX4_init_1 : xAt mX4_init 1 (.invokespecial 3) 3 4 := ⟨by decide +kernel, rfl⟩
theorem eX4_init_4 : xAt mX4_init 4 (.aload_n 0) 1 5 := ⟨by decide +kernel, rfl⟩
theorem eX4_init_5 : xAt mX4_init 5 (.bipush 24) 2 7 := ⟨by decide +kernel, rfl⟩
theorem eX4_init_7 : xAt mX4_init 7 (.newarray .int) 2 9 := ⟨by decide +kernel, rfl⟩
theorem eX4_init_9 : xAt mX4_init 9 (.putfield 9) 3 12 := ⟨by decide +kernel, rfl⟩
theorem eX4_init_12 : xAt mX4_init 12 (.aload_n 0) 1 13 := ⟨by decide +kernel, rfl⟩
theorem eX4_init_13 : xAt mX4_init 13 (.iconst 0) 1 14 := ⟨by decide +kernel, rfl⟩
theorem eX4_init_14 : xAt mX4_init 14 (.putfield 15) 3 17 := ⟨by decide +kernel, rfl⟩
theorem eX4_init_17 : xAt mX4_init 17 (.return_) 1 18 := ⟨by decide +kernel, rfl⟩
theorem eX5_init_0 : xAt mX5_init 0 (.aload_n 0) 1 1 := ⟨by decide +kernel, rfl⟩
theorem eX5_init_1 : xAt mX5_init 1 (.invokespecial 3) 3 4 := ⟨by decide +kernel, rfl⟩
theorem eX5_init_4 : xAt mX5_init 4 (.aload_n 0) 1 5 := ⟨by decide +kernel, rfl⟩
theorem eX5_init_5 : xAt mX5_init 5 (.iconst 0) 1 6 := ⟨by decide +kernel, rfl⟩
theorem eX5_init_6 : xAt mX5_init 6 (.putfield 9) 3 9 := ⟨by decide +kernel, rfl⟩
theorem eX5_init_9 : xAt mX5_init 9 (.aload_n 0) 1 10 := ⟨by decide +kernel, rfl⟩
theorem eX5_init_10 : xAt mX5_init 10 (.aload_n 1) 1 11 := ⟨by decide +kernel, rfl⟩
theorem eX5_init_11 : xAt mX5_init 11 (.putfield 15) 3 14 := ⟨by decide +kernel, rfl⟩
theorem eX5_init_14 : xAt mX5_init 14 (.return_) 1 15 := ⟨by decide +kernel, rfl⟩
theorem eX6_init_0 : xAt mX6_init 0 (.aload_n 0) 1 1 := ⟨by decide +kernel, rfl⟩
theorem eX6_init_1 : xAt mX6_init 1 (.invokespecial 3) 3 4 := ⟨by decide +kernel, rfl⟩
theorem eX6_init_4 : xAt mX6_init 4 (.aload_n 0) 1 5 := ⟨by decide +kernel, rfl⟩
theorem eX6_init_5 : xAt mX6_init 5 (.bipush 60) 2 7 := ⟨by decide +kernel, rfl⟩
theorem eX6_init_7 : xAt mX6_init 7 (.anewarray 9) 3 10 := ⟨by decide +kernel, rfl⟩
theorem eX6_init_10 : xAt mX6_init 10 (.putfield 11) 3 13 := ⟨by decide +kernel, rfl⟩
theorem eX6_init_13 : xAt mX6_init 13 (.aload_n 0) 1 14 := ⟨by decide +kernel, rfl⟩
theorem eX6_init_14 : xAt mX6_init 14 (.new 9) 3 17 := ⟨by decide +kernel, rfl⟩
theorem eX6_init_17 : xAt mX6_init 17 (.dup) 1 18 := ⟨by decide +kernel, rfl⟩
theorem eX6_init_18 : xAt mX6_init 18 (.invokespecial 17) 3 21 := ⟨by decide +kernel, rfl⟩
theorem eX6_init_21 : xAt mX6_init 21 (.putfield 18) 3 24 := ⟨by decide +kernel, rfl⟩
theorem eX6_init_24 : xAt mX6_init 24 (.aload_n 0) 1 25 := ⟨by decide +kernel, rfl⟩
theorem eX6_init_25 : xAt mX6_init 25 (.new 9) 3 28 := ⟨by decide +kernel, rfl⟩
theorem eX6_init_28 : xAt mX6_init 28 (.dup) 1 29 := ⟨by decide +kernel, rfl⟩
theorem eX6_init_29 : xAt mX6_init 29 (.invokespecial 17) 3 32 := ⟨by decide +kernel, rfl⟩
theorem eX6_init_32 : xAt mX6_init 32 (.putfield 22) 3 35 := ⟨by decide +kernel, rfl⟩
theorem eX6_init_35 : xAt mX6_init 35 (.aload_n 0) 1 36 := ⟨by decide +kernel, rfl⟩
theorem eX6_init_36 : xAt mX6_init 36 (.new 9) 3 39 := ⟨by decide +kernel, rfl⟩
theorem eX6_init_39 : xAt mX6_init 39 (.dup) 1 40 := ⟨by decide +kernel, rfl⟩
theorem eX6_init_40 : xAt mX6_init 40 (.invokespecial 17) 3 43 := ⟨by decide +kernel, rfl⟩
theorem eX6_init_43 : xAt mX6_init 43 (.putfield 25) 3 46 := ⟨by decide +kernel, rfl⟩
theorem eX6_init_46 : xAt mX6_init 46 (.iconst 0) 1 47 := ⟨by decide +kernel, rfl⟩
theorem eX6_init_47 : xAt mX6_init 47 (.istore_n 1) 1 48 := ⟨by decide +kernel, rfl⟩
theorem eX6_init_48 : xAt mX6_init 48 (.iload_n 1) 1 49 := ⟨by decide +kernel, rfl⟩
theorem eX6_init_49 : xAt mX6_init 49 (.bipush 60) 2 51 := ⟨by decide +kernel, rfl⟩
theorem eX6_init_51 : xBr mX6_init 51 (.if_icmp .ge) (22) 54 73 := ⟨by decide +kernel, rfl, by decide⟩
theorem eX6_init_54 : xAt mX6_init 54 (.aload_n 0) 1 55 := ⟨by decide +kernel, rfl⟩
theorem eX6_init_55 : xAt mX6_init 55 (.getfield 11) 3 58 := ⟨by decide +kernel, rfl⟩
theorem eX6_init_58 : xAt mX6_init 58 (.iload_n 1) 1 59 := ⟨by decide +kernel, rfl⟩
theorem eX6_init_59 : xAt mX6_init 59 (.new 9) 3 62 := ⟨by decide +kernel, rfl⟩
theorem eX6_init_62 : xAt mX6_init 62 (.dup) 1 63 := ⟨by decide +kernel, rfl⟩
theorem eX6_init_63 : xAt mX6_init 63 (.invokespecial 17) 3 66 := ⟨by decide +kernel, rfl⟩
theorem eX6_init_66 : xAt mX6_init 66 (.aastore) 1 67 := ⟨by decide +kernel, rfl⟩
theorem eX6_init_67 : xAt mX6_init 67 (.iinc 1 1) 3 70 := ⟨by decide +kernel, rfl⟩
theorem eX6_init_70 : xBr mX6_init 70 .goto (-22) 73 48 := ⟨by decide +kernel, rfl, by decide⟩
theorem eX6_init_73 : xAt mX6_init 73 (.return_) 1 74 := ⟨by decide +kernel, rfl⟩
theorem eX7_init_0 : xAt mX7_init 0 (.aload_n 0) 1 1 := ⟨by decide +kernel, rfl⟩
theorem eX7_init_1 : xAt mX7_init 1 (.invokespecial 3) 3 4 := ⟨by decide +kernel, rfl⟩
theorem eX7_init_4 : xAt mX7_init 4 (.aload_n 0) 1 5 := ⟨by decide +kernel, rfl⟩
theorem eX7_init_5 : xAt mX7_init 5 (.bipush 8) 2 7 := ⟨by decide +kernel, rfl⟩
theorem eX7_init_7 : xAt mX7_init 7 (.newarray .long) 2 9 := ⟨by decide +kernel, rfl⟩
theorem eX7_init_9 : xAt mX7_init 9 (.putfield 9) 3 12 := ⟨by decide +kernel, rfl⟩
theorem eX7_init_12 : xAt mX7_init 12 (.return_) 1 13 := ⟨by decide +kernel, rfl⟩
theorem eX8_init_0 : xAt mX8_init 0 (.aload_n 0) 1 1 := ⟨by decide +kernel, rfl⟩
theorem eX8_init_1 : xAt mX8_init 1 (.invokespecial 3) 3 4 := ⟨by decide +kernel, rfl⟩
theorem eX8_init_4 : xAt mX8_init 4 (.new 9) 3 7 := ⟨by decide +kernel, rfl⟩
theorem eX8_init_7 : xAt mX8_init 7 (.dup) 1 8 := ⟨by decide +kernel, rfl⟩
theorem eX8_init_8 : xAt mX8_init 8 (.invokespecial 11) 3 11 := ⟨by decide +kernel, rfl⟩
theorem eX8_init_11 : xAt mX8_init 11 (.astore_n 1) 1 12 := ⟨by decide +kernel, rfl⟩
theorem eX8_init_12 : xAt mX8_init 12 (.aload_n 0) 1 13 := ⟨by decide +kernel, rfl⟩
theorem eX8_init_13 : xAt mX8_init 13 (.aload_n 1) 1 14 := ⟨by decide +kernel, rfl⟩
theorem eX8_init_14 : xAt mX8_init 14 (.putfield 12) 3 17 := ⟨by decide +kernel, rfl⟩
theorem eX8_init_17 : xAt mX8_init 17 (.aload_n 0) 1 18 := ⟨by decide +kernel, rfl⟩
theorem eX8_init_18 : xAt mX8_init 18 (.new 16) 3 21 := ⟨by decide +kernel, rfl⟩
theorem eX8_init_21 : xAt mX8_init 21 (.dup) 1 22 := ⟨by decide +kernel, rfl⟩
theorem eX8_init_22 : xAt mX8_init 22 (.aload_n 1) 1 23 := ⟨by decide +kernel, rfl⟩
theorem eX8_init_23 : xAt mX8_init 23 (.invokespecial 18) 3 26 := ⟨by decide +kernel, rfl⟩
theorem eX8_init_26 : xAt mX8_init 26 (.putfield 21) 3 29 := ⟨by decide +kernel, rfl⟩
theorem eX8_init_29 : xAt mX8_init 29 (.aload_n 0) 1 30 := ⟨by decide +kernel, rfl⟩
theorem eX8_init_30 : xAt mX8_init 30 (.new 25) 3 33 := ⟨by decide +kernel, rfl⟩
theorem eX8_init_33 : xAt mX8_init 33 (.dup) 1 34 := ⟨by decide +kernel, rfl⟩
theorem eX8_init_34 : xAt mX8_init 34 (.invokespecial 27) 3 37 := ⟨by decide +kernel, rfl⟩
theorem eX8_init_37 : xAt mX8_init 37 (.putfield 28) 3 40 := ⟨by decide +kernel, rfl⟩
theorem eX8_init_40 : xAt mX8_init 40 (.aload_n 0) 1 41 := ⟨by decide +kernel, rfl⟩
theorem eX8_init_41 : xAt mX8_init 41 (.new 32) 3 44 := ⟨by decide +kernel, rfl⟩
theorem eX8_init_44 : xAt mX8_init 44 (.dup) 1 45 := ⟨by decide +kernel, rfl⟩
theorem eX8_init_45 : xAt mX8_init 45 (.invokespecial 34) 3 48 := ⟨by decide +kernel, rfl⟩
theorem eX8_init_48 : xAt mX8_init 48 (.putfield 35) 3 51 := ⟨by decide +kernel, rfl⟩
theorem eX8_init_51 : xAt mX8_init 51 (.aload_n 0) 1 52 := ⟨by decide +kernel, rfl⟩
theorem eX8_init_52 : xAt mX8_init 52 (.new 39) 3 55 := ⟨by decide +kernel, rfl⟩
theorem eX8_init_55 : xAt mX8_init 55 (.dup) 1 56 := ⟨by decide +kernel, rfl⟩
theorem eX8_init_56 : xAt mX8_init 56 (.invokespecial 41) 3 59 := ⟨by decide +kernel, rfl⟩
theorem eX8_init_59 : xAt mX8_init 59 (.putfield 42) 3 62 := ⟨by decide +kernel, rfl⟩
theorem eX8_init_62 : xAt mX8_init 62 (.aload_n 0) 1 63 := ⟨by decide +kernel, rfl⟩
theorem eX8_init_63 : xAt mX8_init 63 (.new 46) 3 66 := ⟨by decide +kernel, rfl⟩
theorem eX8_init_66 : xAt mX8_init 66 (.dup) 1 67 := ⟨by decide +kernel, rfl⟩
theorem eX8_init_67 : xAt mX8_init 67 (.invokespecial 48) 3 70 := ⟨by decide +kernel, rfl⟩
theorem eX8_init_70 : xAt mX8_init 70 (.putfield 49) 3 73 := ⟨by decide +kernel, rfl⟩
theorem eX8_init_73 : xAt mX8_init 73 (.aload_n 0) 1 74 := ⟨by decide +kernel, rfl⟩
theorem eX8_init_74 : xAt mX8_init 74 (.new 46) 3 77 := ⟨by decide +kernel, rfl⟩
theorem eX8_init_77 : xAt mX8_init 77 (.dup) 1 78 := ⟨by decide +kernel, rfl⟩
theorem eX8_init_78 : xAt mX8_init 78 (.invokespecial 48) 3 81 := ⟨by decide +kernel, rfl⟩
theorem eX8_init_81 : xAt mX8_init 81 (.putfield 53) 3 84 := ⟨by decide +kernel, rfl⟩
theorem eX8_init_84 : xAt mX8_init 84 (.aload_n 0) 1 85 := ⟨by decide +kernel, rfl⟩
theorem eX8_init_85 : xAt mX8_init 85 (.new 46) 3 88 := ⟨by decide +kernel, rfl⟩
theorem eX8_init_88 : xAt mX8_init 88 (.dup) 1 89 := ⟨by decide +kernel, rfl⟩
theorem eX8_init_89 : xAt mX8_init 89 (.invokespecial 48) 3 92 := ⟨by decide +kernel, rfl⟩
theorem eX8_init_92 : xAt mX8_init 92 (.putfield 56) 3 95 := ⟨by decide +kernel, rfl⟩
theorem eX8_init_95 : xAt mX8_init 95 (.aload_n 0) 1 96 := ⟨by decide +kernel, rfl⟩
theorem eX8_init_96 : xAt mX8_init 96 (.iconst 0) 1 97 := ⟨by decide +kernel, rfl⟩
theorem eX8_init_97 : xAt mX8_init 97 (.putfield 59) 3 100 := ⟨by decide +kernel, rfl⟩
theorem eX8_init_100 : xAt mX8_init 100 (.aload_n 0) 1 101 := ⟨by decide +kernel, rfl⟩
theorem eX8_init_101 : xAt mX8_init 101 (.iconst (-1)) 1 102 := ⟨by decide +kernel, rfl⟩
theorem eX8_init_102 : xAt mX8_init 102 (.putfield 63) 3 105 := ⟨by decide +kernel, rfl⟩
theorem eX8_init_105 : xAt mX8_init 105 (.aload_n 0) 1 106 := ⟨by decide +kernel, rfl⟩
theorem eX8_init_106 : xAt mX8_init 106 (.iconst (-1)) 1 107 := ⟨by decide +kernel, rfl⟩
theorem eX8_init_107 : xAt mX8_init 107 (.putfield 66) 3 110 := ⟨by decide +kernel, rfl⟩
theorem eX8_init_110 : xAt mX8_init 110 (.return_) 1 111 := ⟨by decide +kernel, rfl⟩
theorem eX9_init_0 : xAt mX9_init 0 (.aload_n 0) 1 1 := ⟨by decide +kernel, rfl⟩
theorem eX9_init_1 : xAt mX9_init 1 (.invokespecial 1) 3 4 := ⟨by decide +kernel, rfl⟩
theorem eX9_init_4 : xAt mX9_init 4 (.aload_n 0) 1 5 := ⟨by decide +kernel, rfl⟩
theorem eX9_init_5 : xAt mX9_init 5 (.sipush 202) 3 8 := ⟨by decide +kernel, rfl⟩
theorem eX9_init_8 : xAt mX9_init 8 (.newarray .long) 2 10 := ⟨by decide +kernel, rfl⟩
theorem eX9_init_10 : xAt mX9_init 10 (.putfield 7) 3 13 := ⟨by decide +kernel, rfl⟩
theorem eX9_init_13 : xAt mX9_init 13 (.aload_n 0) 1 14 := ⟨by decide +kernel, rfl⟩
theorem eX9_init_14 : xAt mX9_init 14 (.sipush 202) 3 17 := ⟨by decide +kernel, rfl⟩
theorem eX9_init_17 : xAt mX9_init 17 (.newarray .long) 2 19 := ⟨by decide +kernel, rfl⟩
theorem eX9_init_19 : xAt mX9_init 19 (.putfield 13) 3 22 := ⟨by decide +kernel, rfl⟩
theorem eX9_init_22 : xAt mX9_init 22 (.aload_n 0) 1 23 := ⟨by decide +kernel, rfl⟩
theorem eX9_init_23 : xAt mX9_init 23 (.sipush 1010) 3 26 := ⟨by decide +kernel, rfl⟩
theorem eX9_init_26 : xAt mX9_init 26 (.newarray .long) 2 28 := ⟨by decide +kernel, rfl⟩
theorem eX9_init_28 : xAt mX9_init 28 (.putfield 16) 3 31 := ⟨by decide +kernel, rfl⟩
theorem eX9_init_31 : xAt mX9_init 31 (.aload_n 0) 1 32 := ⟨by decide +kernel, rfl⟩
theorem eX9_init_32 : xAt mX9_init 32 (.sipush 1010) 3 35 := ⟨by decide +kernel, rfl⟩
theorem eX9_init_35 : xAt mX9_init 35 (.newarray .long) 2 37 := ⟨by decide +kernel, rfl⟩
theorem eX9_init_37 : xAt mX9_init 37 (.putfield 19) 3 40 := ⟨by decide +kernel, rfl⟩
theorem eX9_init_40 : xAt mX9_init 40 (.aload_n 0) 1 41 := ⟨by decide +kernel, rfl⟩
theorem eX9_init_41 : xAt mX9_init 41 (.iconst 5) 1 42 := ⟨by decide +kernel, rfl⟩
theorem eX9_init_42 : xAt mX9_init 42 (.newarray .long) 2 44 := ⟨by decide +kernel, rfl⟩
theorem eX9_init_44 : xAt mX9_init 44 (.putfield 22) 3 47 := ⟨by decide +kernel, rfl⟩
theorem eX9_init_47 : xAt mX9_init 47 (.aload_n 0) 1 48 := ⟨by decide +kernel, rfl⟩
theorem eX9_init_48 : xAt mX9_init 48 (.iconst 5) 1 49 := ⟨by decide +kernel, rfl⟩
theorem eX9_init_49 : xAt mX9_init 49 (.newarray .long) 2 51 := ⟨by decide +kernel, rfl⟩
theorem eX9_init_51 : xAt mX9_init 51 (.putfield 25) 3 54 := ⟨by decide +kernel, rfl⟩
theorem eX9_init_54 : xAt mX9_init 54 (.aload_n 0) 1 55 := ⟨by decide +kernel, rfl⟩
theorem eX9_init_55 : xAt mX9_init 55 (.bipush 10) 2 57 := ⟨by decide +kernel, rfl⟩
theorem eX9_init_57 : xAt mX9_init 57 (.newarray .long) 2 59 := ⟨by decide +kernel, rfl⟩
theorem eX9_init_59 : xAt mX9_init 59 (.putfield 28) 3 62 := ⟨by decide +kernel, rfl⟩
theorem eX9_init_62 : xAt mX9_init 62 (.aload_n 0) 1 63 := ⟨by decide +kernel, rfl⟩
theorem eX9_init_63 : xAt mX9_init 63 (.iconst (-1)) 1 64 := ⟨by decide +kernel, rfl⟩
theorem eX9_init_64 : xAt mX9_init 64 (.putfield 31) 3 67 := ⟨by decide +kernel, rfl⟩
theorem eX9_init_67 : xAt mX9_init 67 (.aload_n 0) 1 68 := ⟨by decide +kernel, rfl⟩
theorem eX9_init_68 : xAt mX9_init 68 (.bipush 10) 2 70 := ⟨by decide +kernel, rfl⟩
theorem eX9_init_70 : xAt mX9_init 70 (.newarray .long) 2 72 := ⟨by decide +kernel, rfl⟩
theorem eX9_init_72 : xAt mX9_init 72 (.putfield 35) 3 75 := ⟨by decide +kernel, rfl⟩
theorem eX9_init_75 : xAt mX9_init 75 (.aload_n 0) 1 76 := ⟨by decide +kernel, rfl⟩
theorem eX9_init_76 : xAt mX9_init 76 (.bipush 20) 2 78 := ⟨by decide +kernel, rfl⟩
theorem eX9_init_78 : xAt mX9_init 78 (.newarray .int) 2 80 := ⟨by decide +kernel, rfl⟩
theorem eX9_init_80 : xAt mX9_init 80 (.putfield 38) 3 83 := ⟨by decide +kernel, rfl⟩
theorem eX9_init_83 : xAt mX9_init 83 (.aload_n 0) 1 84 := ⟨by decide +kernel, rfl⟩
theorem eX9_init_84 : xAt mX9_init 84 (.bipush 24) 2 86 := ⟨by decide +kernel, rfl⟩
theorem eX9_init_86 : xAt mX9_init 86 (.newarray .int) 2 88 := ⟨by decide +kernel, rfl⟩
theorem eX9_init_88 : xAt mX9_init 88 (.putfield 42) 3 91 := ⟨by decide +kernel, rfl⟩
theorem eX9_init_91 : xAt mX9_init 91 (.aload_n 0) 1 92 := ⟨by decide +kernel, rfl⟩
theorem eX9_init_92 : xAt mX9_init 92 (.bipush 24) 2 94 := ⟨by decide +kernel, rfl⟩
theorem eX9_init_94 : xAt mX9_init 94 (.newarray .int) 2 96 := ⟨by decide +kernel, rfl⟩
theorem eX9_init_96 : xAt mX9_init 96 (.putfield 45) 3 99 := ⟨by decide +kernel, rfl⟩
theorem eX9_init_99 : xAt mX9_init 99 (.aload_n 0) 1 100 := ⟨by decide +kernel, rfl⟩
theorem eX9_init_100 : xAt mX9_init 100 (.bipush 60) 2 102 := ⟨by decide +kernel, rfl⟩
theorem eX9_init_102 : xAt mX9_init 102 (.newarray .boolean) 2 104 := ⟨by decide +kernel, rfl⟩
theorem eX9_init_104 : xAt mX9_init 104 (.putfield 48) 3 107 := ⟨by decide +kernel, rfl⟩
theorem eX9_init_107 : xAt mX9_init 107 (.aload_n 0) 1 108 := ⟨by decide +kernel, rfl⟩
theorem eX9_init_108 : xAt mX9_init 108 (.bipush 60) 2 110 := ⟨by decide +kernel, rfl⟩
theorem eX9_init_110 : xAt mX9_init 110 (.newarray .int) 2 112 := ⟨by decide +kernel, rfl⟩
theorem eX9_init_112 : xAt mX9_init 112 (.putfield 52) 3 115 := ⟨by decide +kernel, rfl⟩
theorem eX9_init_115 : xAt mX9_init 115 (.aload_n 0) 1 116 := ⟨by decide +kernel, rfl⟩
theorem eX9_init_116 : xAt mX9_init 116 (.bipush 60) 2 118 := ⟨by decide +kernel, rfl⟩
theorem eX9_init_118 : xAt mX9_init 118 (.newarray .int) 2 120 := ⟨by decide +kernel, rfl⟩
theorem eX9_init_120 : xAt mX9_init 120 (.putfield 55) 3 123 := ⟨by decide +kernel, rfl⟩
theorem eX9_init_123 : xAt mX9_init 123 (.aload_n 0) 1 124 := ⟨by decide +kernel, rfl⟩
theorem eX9_init_124 : xAt mX9_init 124 (.bipush 60) 2 126 := ⟨by decide +kernel, rfl⟩
theorem eX9_init_126 : xAt mX9_init 126 (.newarray .int) 2 128 := ⟨by decide +kernel, rfl⟩
theorem eX9_init_128 : xAt mX9_init 128 (.putfield 58) 3 131 := ⟨by decide +kernel, rfl⟩
theorem eX9_init_131 : xAt mX9_init 131 (.aload_n 0) 1 132 := ⟨by decide +kernel, rfl⟩
theorem eX9_init_132 : xAt mX9_init 132 (.sipush 720) 3 135 := ⟨by decide +kernel, rfl⟩
theorem eX9_init_135 : xAt mX9_init 135 (.newarray .int) 2 137 := ⟨by decide +kernel, rfl⟩
theorem eX9_init_137 : xAt mX9_init 137 (.putfield 61) 3 140 := ⟨by decide +kernel, rfl⟩
theorem eX9_init_140 : xAt mX9_init 140 (.aload_n 0) 1 141 := ⟨by decide +kernel, rfl⟩
theorem eX9_init_141 : xAt mX9_init 141 (.bipush 60) 2 143 := ⟨by decide +kernel, rfl⟩
theorem eX9_init_143 : xAt mX9_init 143 (.newarray .boolean) 2 145 := ⟨by decide +kernel, rfl⟩
theorem eX9_init_145 : xAt mX9_init 145 (.putfield 64) 3 148 := ⟨by decide +kernel, rfl⟩
theorem eX9_init_148 : xAt mX9_init 148 (.aload_n 0) 1 149 := ⟨by decide +kernel, rfl⟩
theorem eX9_init_149 : xAt mX9_init 149 (.bipush 60) 2 151 := ⟨by decide +kernel, rfl⟩
theorem eX9_init_151 : xAt mX9_init 151 (.newarray .int) 2 153 := ⟨by decide +kernel, rfl⟩
theorem eX9_init_153 : xAt mX9_init 153 (.putfield 67) 3 156 := ⟨by decide +kernel, rfl⟩
theorem eX9_init_156 : xAt mX9_init 156 (.aload_n 0) 1 157 := ⟨by decide +kernel, rfl⟩
theorem eX9_init_157 : xAt mX9_init 157 (.bipush 60) 2 159 := ⟨by decide +kernel, rfl⟩
theorem eX9_init_159 : xAt mX9_init 159 (.newarray .int) 2 161 := ⟨by decide +kernel, rfl⟩
theorem eX9_init_161 : xAt mX9_init 161 (.putfield 70) 3 164 := ⟨by decide +kernel, rfl⟩
theorem eX9_init_164 : xAt mX9_init 164 (.aload_n 0) 1 165 := ⟨by decide +kernel, rfl⟩
theorem eX9_init_165 : xAt mX9_init 165 (.bipush 60) 2 167 := ⟨by decide +kernel, rfl⟩
theorem eX9_init_167 : xAt mX9_init 167 (.newarray .int) 2 169 := ⟨by decide +kernel, rfl⟩
theorem eX9_init_169 : xAt mX9_init 169 (.putfield 73) 3 172 := ⟨by decide +kernel, rfl⟩
theorem eX9_init_172 : xAt mX9_init 172 (.aload_n 0) 1 173 := ⟨by decide +kernel, rfl⟩
theorem eX9_init_173 : xAt mX9_init 173 (.sipush 720) 3 176 := ⟨by decide +kernel, rfl⟩
theorem eX9_init_176 : xAt mX9_init 176 (.newarray .int) 2 178 := ⟨by decide +kernel, rfl⟩
theorem eX9_init_178 : xAt mX9_init 178 (.putfield 76) 3 181 := ⟨by decide +kernel, rfl⟩
theorem eX9_init_181 : xAt mX9_init 181 (.aload_n 0) 1 182 := ⟨by decide +kernel, rfl⟩
theorem eX9_init_182 : xAt mX9_init 182 (.bipush 16) 2 184 := ⟨by decide +kernel, rfl⟩
theorem eX9_init_184 : xAt mX9_init 184 (.newarray .int) 2 186 := ⟨by decide +kernel, rfl⟩
theorem eX9_init_186 : xAt mX9_init 186 (.putfield 79) 3 189 := ⟨by decide +kernel, rfl⟩
theorem eX9_init_189 : xAt mX9_init 189 (.aload_n 0) 1 190 := ⟨by decide +kernel, rfl⟩
theorem eX9_init_190 : xAt mX9_init 190 (.bipush 12) 2 192 := ⟨by decide +kernel, rfl⟩
theorem eX9_init_192 : xAt mX9_init 192 (.newarray .int) 2 194 := ⟨by decide +kernel, rfl⟩
theorem eX9_init_194 : xAt mX9_init 194 (.putfield 82) 3 197 := ⟨by decide +kernel, rfl⟩
theorem eX9_init_197 : xAt mX9_init 197 (.aload_n 0) 1 198 := ⟨by decide +kernel, rfl⟩
theorem eX9_init_198 : xAt mX9_init 198 (.iconst (-1)) 1 199 := ⟨by decide +kernel, rfl⟩
theorem eX9_init_199 : xAt mX9_init 199 (.putfield 85) 3 202 := ⟨by decide +kernel, rfl⟩
theorem eX9_init_202 : xAt mX9_init 202 (.aload_n 0) 1 203 := ⟨by decide +kernel, rfl⟩
theorem eX9_init_203 : xAt mX9_init 203 (.sipush 402) 3 206 := ⟨by decide +kernel, rfl⟩
theorem eX9_init_206 : xAt mX9_init 206 (.newarray .int) 2 208 := ⟨by decide +kernel, rfl⟩
theorem eX9_init_208 : xAt mX9_init 208 (.putfield 88) 3 211 := ⟨by decide +kernel, rfl⟩
theorem eX9_init_211 : xAt mX9_init 211 (.aload_n 0) 1 212 := ⟨by decide +kernel, rfl⟩
theorem eX9_init_212 : xAt mX9_init 212 (.sipush 200) 3 215 := ⟨by decide +kernel, rfl⟩
theorem eX9_init_215 : xAt mX9_init 215 (.newarray .int) 2 217 := ⟨by decide +kernel, rfl⟩
theorem eX9_init_217 : xAt mX9_init 217 (.putfield 91) 3 220 := ⟨by decide +kernel, rfl⟩
theorem eX9_init_220 : xAt mX9_init 220 (.aload_n 0) 1 221 := ⟨by decide +kernel, rfl⟩
theorem eX9_init_221 : xAt mX9_init 221 (.sipush 200) 3 224 := ⟨by decide +kernel, rfl⟩
theorem eX9_init_224 : xAt mX9_init 224 (.newarray .boolean) 2 226 := ⟨by decide +kernel, rfl⟩
theorem eX9_init_226 : xAt mX9_init 226 (.putfield 94) 3 229 := ⟨by decide +kernel, rfl⟩
theorem eX9_init_229 : xAt mX9_init 229 (.aload_n 0) 1 230 := ⟨by decide +kernel, rfl⟩
theorem eX9_init_230 : xAt mX9_init 230 (.sipush 600) 3 233 := ⟨by decide +kernel, rfl⟩
theorem eX9_init_233 : xAt mX9_init 233 (.newarray .long) 2 235 := ⟨by decide +kernel, rfl⟩
theorem eX9_init_235 : xAt mX9_init 235 (.putfield 97) 3 238 := ⟨by decide +kernel, rfl⟩
theorem eX9_init_238 : xAt mX9_init 238 (.aload_n 0) 1 239 := ⟨by decide +kernel, rfl⟩
theorem eX9_init_239 : xAt mX9_init 239 (.bipush 10) 2 241 := ⟨by decide +kernel, rfl⟩
theorem eX9_init_241 : xAt mX9_init 241 (.newarray .long) 2 243 := ⟨by decide +kernel, rfl⟩
theorem eX9_init_243 : xAt mX9_init 243 (.putfield 100) 3 246 := ⟨by decide +kernel, rfl⟩
theorem eX9_init_246 : xAt mX9_init 246 (.aload_n 0) 1 247 := ⟨by decide +kernel, rfl⟩
theorem eX9_init_247 : xAt mX9_init 247 (.bipush 10) 2 249 := ⟨by decide +kernel, rfl⟩
theorem eX9_init_249 : xAt mX9_init 249 (.newarray .long) 2 251 := ⟨by decide +kernel, rfl⟩
theorem eX9_init_251 : xAt mX9_init 251 (.putfield 103) 3 254 := ⟨by decide +kernel, rfl⟩
theorem eX9_init_254 : xAt mX9_init 254 (.aload_n 0) 1 255 := ⟨by decide +kernel, rfl⟩
theorem eX9_init_255 : xAt mX9_init 255 (.sipush 600) 3 258 := ⟨by decide +kernel, rfl⟩
theorem eX9_init_258 : xAt mX9_init 258 (.newarray .long) 2 260 := ⟨by decide +kernel, rfl⟩
theorem eX9_init_260 : xAt mX9_init 260 (.putfield 106) 3 263 := ⟨by decide +kernel, rfl⟩
theorem eX9_init_263 : xAt mX9_init 263 (.aload_n 0) 1 264 := ⟨by decide +kernel, rfl⟩
theorem eX9_init_264 : xAt mX9_init 264 (.iconst 0) 1 265 := ⟨by decide +kernel, rfl⟩
theorem eX9_init_265 : xAt mX9_init 265 (.putfield 109) 3 268 := ⟨by decide +kernel, rfl⟩
theorem eX9_init_268 : xAt mX9_init 268 (.return_) 1 269 := ⟨by decide +kernel, rfl⟩
theorem oi_i : Cond.instanceMethod Lib.objectInit ∈ xTs := xT 18 (by decide +kernel) rfl
theorem oi_c : Cond.code Lib.objectInit ⟨#[0xb1]⟩ 1 none ∈ xTs := xT 19 (by decide +kernel) rfl
theorem oX0 : Cond.methodLink RX0 3 Lib.objectInit ∈ xTs := xT 187 (by decide +kernel) rfl
theorem pX0_init_9 : yFld mX0_init 9 0 0 (.array .int) true := ⟨RX0, TX0, 5, tyX0, rfl, by decide, iX0, rfl, xT 188 (by decide +kernel) rfl, tyX0_ok, nmX0, rfl, by decide +kernel, by exact fun _ => ⟨rfl, rfl⟩⟩
theorem pX0_init_15 : yFld mX0_init 15 0 1 (.array .boolean) true := ⟨RX0, TX0, 5, tyX0, rfl, by decide, iX0, rfl, xT 189 (by decide +kernel) rfl, tyX0_ok, nmX0, rfl, by decide +kernel, by exact fun _ => ⟨rfl, rfl⟩⟩
theorem pX0_init_19 : yFld mX0_init 19 0 2 (.array .int) true := ⟨RX0, TX0, 5, tyX0, rfl, by decide, iX0, rfl, xT 190 (by decide +kernel) rfl, tyX0_ok, nmX0, rfl, by decide +kernel, by exact fun _ => ⟨rfl, rfl⟩⟩
theorem pX0_init_22 : yFld mX0_init 22 0 3 .int false := ⟨RX0, TX0, 5, tyX0, rfl, by decide, iX0, rfl, xT 192 (by decide +kernel) rfl, tyX0_ok, nmX0, rfl, by decide +kernel, by intro h; cases h⟩
theorem pX0_init_26 : yFld mX0_init 26 0 4 .int false := ⟨RX0, TX0, 5, tyX0, rfl, by decide, iX0, rfl, xT 193 (by decide +kernel) rfl, tyX0_ok, nmX0, rfl, by decide +kernel, by intro h; cases h⟩
theorem oX1 : Cond.methodLink RX1 1 Lib.objectInit ∈ xTs := xT 84 (by decide +kernel) rfl
theorem nX1_init_7 : yNew mX1_init 7 4 [.null, .int 0] 2 := ⟨RX4, TX4, tyX4, rfl, iX4, tyX4_ok, xT 85 (by decide +kernel) rfl, xT 86 (by decide +kernel) rfl, xT 7 (by decide +kernel) rfl, by decide, fun ad => rfl⟩
theorem yX1_9 : yLnk RX1 9 mX4_init 0 := ⟨Or.inr ⟨"ParcelMap", yTn 87 (by decide +kernel) rfl⟩, xT 7 (by decide +kernel) rfl, xT 89 (by decide +kernel) rfl, by decide +kernel, by decide +kernel, by decide +kernel, by decide +kernel⟩
theorem i_X4_init : Cond.instanceMethod yX4_init ∈ xTs := xT 88 (by decide +kernel) rfl
theorem pX1_init_10 : yFld mX1_init 10 1 0 (.object "ParcelMap$Ring") true := ⟨RX1, TX1, 4, tyX1, rfl, by decide, iX1, rfl, xT 106 (by decide +kernel) rfl, tyX1_ok, nmX1, rfl, by decide +kernel, by exact fun _ => ⟨rfl, rfl⟩⟩
theorem pX1_init_16 : yFld mX1_init 16 1 1 .boolean false := ⟨RX1, TX1, 4, tyX1, rfl, by decide, iX1, rfl, xT 111 (by decide +kernel) rfl, tyX1_ok, nmX1, rfl, by decide +kernel, by intro h; cases h⟩
theorem pX1_init_20 : yFld mX1_init 20 1 2 .int false := ⟨RX1, TX1, 4, tyX1, rfl, by decide, iX1, rfl, xT 114 (by decide +kernel) rfl, tyX1_ok, nmX1, rfl, by decide +kernel, by intro h; cases h⟩
theorem pX1_init_24 : yFld mX1_init 24 1 3 .int false := ⟨RX1, TX1, 4, tyX1, rfl, by decide, iX1, rfl, xT 117 (by decide +kernel) rfl, tyX1_ok, nmX1, rfl, by decide +kernel, by intro h; cases h⟩
theorem oX2 : Cond.methodLink RX2 3 Lib.objectInit ∈ xTs := xT 25 (by decide +kernel) rfl
theorem pX2_init_9 : yFld mX2_init 9 2 0 (.array .long) true := ⟨RX2, TX2, 5, tyX2, rfl, by decide, iX2, rfl, xT 39 (by decide +kernel) rfl, tyX2_ok, nmX2, rfl, by decide +kernel, by exact fun _ => ⟨rfl, rfl⟩⟩
theorem pX2_init_15 : yFld mX2_init 15 2 1 (.array .double) true := ⟨RX2, TX2, 5, tyX2, rfl, by decide, iX2, rfl, xT 41 (by decide +kernel) rfl, tyX2_ok, nmX2, rfl, by decide +kernel, by exact fun _ => ⟨rfl, rfl⟩⟩
theorem pX2_init_19 : yFld mX2_init 19 2 2 (.array .long) true := ⟨RX2, TX2, 5, tyX2, rfl, by decide, iX2, rfl, xT 43 (by decide +kernel) rfl, tyX2_ok, nmX2, rfl, by decide +kernel, by exact fun _ => ⟨rfl, rfl⟩⟩
theorem nX2_init_22 : yNew mX2_init 22 7 [.null] 1 := ⟨RX7, TX7, tyX7, rfl, iX7, tyX7_ok, xT 26 (by decide +kernel) rfl, xT 27 (by decide +kernel) rfl, xT 3 (by decide +kernel) rfl, by decide, fun ad => rfl⟩
theorem yX2_24 : yLnk RX2 24 mX7_init 0 := ⟨Or.inr ⟨"ParcelMap", yTn 28 (by decide +kernel) rfl⟩, xT 3 (by decide +kernel) rfl, xT 30 (by decide +kernel) rfl, by decide +kernel, by decide +kernel, by decide +kernel, by decide +kernel⟩
theorem i_X7_init : Cond.instanceMethod yX7_init ∈ xTs := xT 29 (by decide +kernel) rfl
theorem pX2_init_25 : yFld mX2_init 25 2 3 (.object "ParcelMap$Wide") true := ⟨RX2, TX2, 5, tyX2, rfl, by decide, iX2, rfl, xT 44 (by decide +kernel) rfl, tyX2_ok, nmX2, rfl, by decide +kernel, by exact fun _ => ⟨rfl, rfl⟩⟩
theorem pX2_init_29 : yFld mX2_init 29 2 4 .int false := ⟨RX2, TX2, 5, tyX2, rfl, by decide, iX2, rfl, xT 45 (by decide +kernel) rfl, tyX2_ok, nmX2, rfl, by decide +kernel, by intro h; cases h⟩
theorem oX3 : Cond.methodLink RX3 3 Lib.objectInit ∈ xTs := xT 77 (by decide +kernel) rfl
theorem qX3_init_9 : Cond.classLink mX3_init.1.cls 9 "ParcelMap$Parcel" ∈ xTs := xT 78 (by decide +kernel) rfl
theorem pX3_init_11 : yFld mX3_init 11 3 0 (.array (.object "ParcelMap$Parcel")) true := ⟨RX3, TX3, 7, tyX3, rfl, by decide, iX3, rfl, xT 129 (by decide +kernel) rfl, tyX3_ok, nmX3, rfl, by decide +kernel, by exact fun _ => ⟨rfl, rfl⟩⟩
theorem nX3_init_9 : yNew mX3_init 9 1 [.null, .int 0, .int 0, .int 0] 4 := ⟨RX1, TX1, tyX1, rfl, iX1, tyX1_ok, xT 78 (by decide +kernel) rfl, xT 80 (by decide +kernel) rfl, xT 6 (by decide +kernel) rfl, by decide, fun ad => rfl⟩
theorem yX3_17 : yLnk RX3 17 mX1_init 0 := ⟨Or.inr ⟨"ParcelMap", yTn 81 (by decide +kernel) rfl⟩, xT 6 (by decide +kernel) rfl, xT 83 (by decide +kernel) rfl, by decide +kernel, by decide +kernel, by decide +kernel, by decide +kernel⟩
theorem i_X1_init : Cond.instanceMethod yX1_init ∈ xTs := xT 82 (by decide +kernel) rfl
theorem pX3_init_18 : yFld mX3_init 18 3 1 (.object "ParcelMap$Parcel") true := ⟨RX3, TX3, 7, tyX3, rfl, by decide, iX3, rfl, xT 133 (by decide +kernel) rfl, tyX3_ok, nmX3, rfl, by decide +kernel, by exact fun _ => ⟨rfl, rfl⟩⟩
theorem pX3_init_22 : yFld mX3_init 22 3 2 (.object "ParcelMap$Parcel") true := ⟨RX3, TX3, 7, tyX3, rfl, by decide, iX3, rfl, xT 134 (by decide +kernel) rfl, tyX3_ok, nmX3, rfl, by decide +kernel, by exact fun _ => ⟨rfl, rfl⟩⟩
theorem pX3_init_25 : yFld mX3_init 25 3 3 .int false := ⟨RX3, TX3, 7, tyX3, rfl, by decide, iX3, rfl, xT 135 (by decide +kernel) rfl, tyX3_ok, nmX3, rfl, by decide +kernel, by intro h; cases h⟩
theorem pX3_init_29 : yFld mX3_init 29 3 4 .int false := ⟨RX3, TX3, 7, tyX3, rfl, by decide, iX3, rfl, xT 136 (by decide +kernel) rfl, tyX3_ok, nmX3, rfl, by decide +kernel, by intro h; cases h⟩
theorem pX3_init_32 : yFld mX3_init 32 3 5 .boolean false := ⟨RX3, TX3, 7, tyX3, rfl, by decide, iX3, rfl, xT 137 (by decide +kernel) rfl, tyX3_ok, nmX3, rfl, by decide +kernel, by intro h; cases h⟩
theorem pX3_init_36 : yFld mX3_init 36 3 6 .int false := ⟨RX3, TX3, 7, tyX3, rfl, by decide, iX3, rfl, xT 139 (by decide +kernel) rfl, tyX3_ok, nmX3, rfl, by decide +kernel, by intro h; cases h⟩
theorem oX4 : Cond.methodLink RX4 3 Lib.objectInit ∈ xTs := xT 90 (by decide +kernel) rfl
theorem pX4_init_9 : yFld mX4_init 9 4 0 (.array .int) true := ⟨RX4, TX4, 2, tyX4, rfl, by decide, iX4, rfl, xT 91 (by decide +kernel) rfl, tyX4_ok, nmX4, rfl, by decide +kernel, by exact fun _ => ⟨rfl, rfl⟩⟩
theorem pX4_init_15 : yFld mX4_init 15 4 1 .int false := ⟨RX4, TX4, 2, tyX4, rfl, by decide, iX4, rfl, xT 95 (by decide +kernel) rfl, tyX4_ok, nmX4, rfl, by decide +kernel, by intro h; cases h⟩
theorem oX5 : Cond.methodLink RX5 3 Lib.objectInit ∈ xTs := xT 63 (by decide +kernel) rfl
theorem pX5_init_9 : yFld mX5_init 9 5 1 .int false := ⟨RX5, TX5, 2, tyX5, rfl, by decide, iX5, rfl, xT 65 (by decide +kernel) rfl, tyX5_ok, nmX5, rfl, by decide +kernel, by intro h; cases h⟩
theorem pX5_init_15 : yFld mX5_init 15 5 0 (.object "ParcelMap$Points") true := ⟨RX5, TX5, 2, tyX5, rfl, by decide, iX5, rfl, xT 64 (by decide +kernel) rfl, tyX5_ok, nmX5, rfl, by decide +kernel, by exact fun _ => ⟨rfl, rfl⟩⟩
theorem oX6 : Cond.methodLink RX6 3 Lib.objectInit ∈ xTs := xT 163 (by decide +kernel) rfl
theorem qX6_init_9 : Cond.classLink mX6_init.1.cls 9 "ParcelMap$Wide" ∈ xTs := xT 164 (by decide +kernel) rfl
theorem pX6_init_11 : yFld mX6_init 11 6 0 (.array (.object "ParcelMap$Wide")) true := ⟨RX6, TX6, 4, tyX6, rfl, by decide, iX6, rfl, xT 167 (by decide +kernel) rfl, tyX6_ok, nmX6, rfl, by decide +kernel, by exact fun _ => ⟨rfl, rfl⟩⟩
theorem nX6_init_9 : yNew mX6_init 9 7 [.null] 1 := ⟨RX7, TX7, tyX7, rfl, iX7, tyX7_ok, xT 164 (by decide +kernel) rfl, xT 27 (by decide +kernel) rfl, xT 3 (by decide +kernel) rfl, by decide, fun ad => rfl⟩
theorem yX6_17 : yLnk RX6 17 mX7_init 0 := ⟨Or.inr ⟨"ParcelMap", yTn 166 (by decide +kernel) rfl⟩, xT 3 (by decide +kernel) rfl, xT 30 (by decide +kernel) rfl, by decide +kernel, by decide +kernel, by decide +kernel, by decide +kernel⟩
theorem pX6_init_18 : yFld mX6_init 18 6 1 (.object "ParcelMap$Wide") true := ⟨RX6, TX6, 4, tyX6, rfl, by decide, iX6, rfl, xT 168 (by decide +kernel) rfl, tyX6_ok, nmX6, rfl, by decide +kernel, by exact fun _ => ⟨rfl, rfl⟩⟩
theorem pX6_init_22 : yFld mX6_init 22 6 2 (.object "ParcelMap$Wide") true := ⟨RX6, TX6, 4, tyX6, rfl, by decide, iX6, rfl, xT 169 (by decide +kernel) rfl, tyX6_ok, nmX6, rfl, by decide +kernel, by exact fun _ => ⟨rfl, rfl⟩⟩
theorem pX6_init_25 : yFld mX6_init 25 6 3 (.object "ParcelMap$Wide") true := ⟨RX6, TX6, 4, tyX6, rfl, by decide, iX6, rfl, xT 171 (by decide +kernel) rfl, tyX6_ok, nmX6, rfl, by decide +kernel, by exact fun _ => ⟨rfl, rfl⟩⟩
theorem oX7 : Cond.methodLink RX7 3 Lib.objectInit ∈ xTs := xT 31 (by decide +kernel) rfl
theorem pX7_init_9 : yFld mX7_init 9 7 0 (.array .long) true := ⟨RX7, TX7, 1, tyX7, rfl, by decide, iX7, rfl, xT 32 (by decide +kernel) rfl, tyX7_ok, nmX7, rfl, by decide +kernel, by exact fun _ => ⟨rfl, rfl⟩⟩
theorem oX8 : Cond.methodLink RX8 3 Lib.objectInit ∈ xTs := xT 17 (by decide +kernel) rfl
theorem nX8_init_9 : yNew mX8_init 9 2 [.null, .null, .null, .null, .int 0] 5 := ⟨RX2, TX2, tyX2, rfl, iX2, tyX2_ok, xT 20 (by decide +kernel) rfl, xT 21 (by decide +kernel) rfl, xT 2 (by decide +kernel) rfl, by decide, fun ad => rfl⟩
theorem yX8_11 : yLnk RX8 11 mX2_init 0 := ⟨Or.inr ⟨"ParcelMap", yTn 22 (by decide +kernel) rfl⟩, xT 2 (by decide +kernel) rfl, xT 24 (by decide +kernel) rfl, by decide +kernel, by decide +kernel, by decide +kernel, by decide +kernel⟩
theorem i_X2_init : Cond.instanceMethod yX2_init ∈ xTs := xT 23 (by decide +kernel) rfl
theorem pX8_init_12 : yFld mX8_init 12 8 0 (.object "ParcelMap$Points") true := ⟨RX8, TX8, 11, tyX8, rfl, by decide, iX8, rfl, xT 209 (by decide +kernel) rfl, tyX8_ok, nmX8, rfl, by decide +kernel, by exact fun _ => ⟨rfl, rfl⟩⟩
theorem nX8_init_16 : yNew mX8_init 16 5 [.null, .int 0] 2 := ⟨RX5, TX5, tyX5, rfl, iX5, tyX5_ok, xT 58 (by decide +kernel) rfl, xT 59 (by decide +kernel) rfl, xT 4 (by decide +kernel) rfl, by decide, fun ad => rfl⟩
theorem yX8_18 : yLnk RX8 18 mX5_init 1 := ⟨Or.inl (xT 60 (by decide +kernel) rfl), xT 4 (by decide +kernel) rfl, xT 62 (by decide +kernel) rfl, by decide +kernel, by decide +kernel, by decide +kernel, by decide +kernel⟩
theorem i_X5_init : Cond.instanceMethod yX5_init ∈ xTs := xT 61 (by decide +kernel) rfl
theorem pX8_init_21 : yFld mX8_init 21 8 1 (.object "ParcelMap$Shapes") true := ⟨RX8, TX8, 11, tyX8, rfl, by decide, iX8, rfl, xT 210 (by decide +kernel) rfl, tyX8_ok, nmX8, rfl, by decide +kernel, by exact fun _ => ⟨rfl, rfl⟩⟩
theorem nX8_init_25 : yNew mX8_init 25 3 [.null, .null, .null, .int 0, .int 0, .int 0, .int 0] 7 := ⟨RX3, TX3, tyX3, rfl, iX3, tyX3_ok, xT 72 (by decide +kernel) rfl, xT 73 (by decide +kernel) rfl, xT 5 (by decide +kernel) rfl, by decide, fun ad => rfl⟩
theorem yX8_27 : yLnk RX8 27 mX3_init 0 := ⟨Or.inl (xT 74 (by decide +kernel) rfl), xT 5 (by decide +kernel) rfl, xT 76 (by decide +kernel) rfl, by decide +kernel, by decide +kernel, by decide +kernel, by decide +kernel⟩
theorem i_X3_init : Cond.instanceMethod yX3_init ∈ xTs := xT 75 (by decide +kernel) rfl
theorem pX8_init_28 : yFld mX8_init 28 8 2 (.object "ParcelMap$Register") true := ⟨RX8, TX8, 11, tyX8, rfl, by decide, iX8, rfl, xT 211 (by decide +kernel) rfl, tyX8_ok, nmX8, rfl, by decide +kernel, by exact fun _ => ⟨rfl, rfl⟩⟩
theorem nX8_init_32 : yNew mX8_init 32 6 [.null, .null, .null, .null] 4 := ⟨RX6, TX6, tyX6, rfl, iX6, tyX6_ok, xT 158 (by decide +kernel) rfl, xT 159 (by decide +kernel) rfl, xT 8 (by decide +kernel) rfl, by decide, fun ad => rfl⟩
theorem yX8_34 : yLnk RX8 34 mX6_init 0 := ⟨Or.inl (xT 160 (by decide +kernel) rfl), xT 8 (by decide +kernel) rfl, xT 162 (by decide +kernel) rfl, by decide +kernel, by decide +kernel, by decide +kernel, by decide +kernel⟩
theorem i_X6_init : Cond.instanceMethod yX6_init ∈ xTs := xT 161 (by decide +kernel) rfl
theorem pX8_init_35 : yFld mX8_init 35 8 3 (.object "ParcelMap$Shares") true := ⟨RX8, TX8, 11, tyX8, rfl, by decide, iX8, rfl, xT 212 (by decide +kernel) rfl, tyX8_ok, nmX8, rfl, by decide +kernel, by exact fun _ => ⟨rfl, rfl⟩⟩
theorem nX8_init_39 : yNew mX8_init 39 0 [.null, .null, .null, .int 0, .int 0] 5 := ⟨RX0, TX0, tyX0, rfl, iX0, tyX0_ok, xT 182 (by decide +kernel) rfl, xT 183 (by decide +kernel) rfl, xT 9 (by decide +kernel) rfl, by decide, fun ad => rfl⟩
theorem yX8_41 : yLnk RX8 41 mX0_init 0 := ⟨Or.inr ⟨"ParcelMap", yTn 184 (by decide +kernel) rfl⟩, xT 9 (by decide +kernel) rfl, xT 186 (by decide +kernel) rfl, by decide +kernel, by decide +kernel, by decide +kernel, by decide +kernel⟩
theorem i_X0_init : Cond.instanceMethod yX0_init ∈ xTs := xT 185 (by decide +kernel) rfl
theorem pX8_init_42 : yFld mX8_init 42 8 4 (.object "ParcelMap$Hull") true := ⟨RX8, TX8, 11, tyX8, rfl, by decide, iX8, rfl, xT 213 (by decide +kernel) rfl, tyX8_ok, nmX8, rfl, by decide +kernel, by exact fun _ => ⟨rfl, rfl⟩⟩
theorem nX8_init_46 : yNew mX8_init 46 4 [.null, .int 0] 2 := ⟨RX4, TX4, tyX4, rfl, iX4, tyX4_ok, xT 207 (by decide +kernel) rfl, xT 86 (by decide +kernel) rfl, xT 7 (by decide +kernel) rfl, by decide, fun ad => rfl⟩
theorem yX8_48 : yLnk RX8 48 mX4_init 0 := ⟨Or.inr ⟨"ParcelMap", yTn 208 (by decide +kernel) rfl⟩, xT 7 (by decide +kernel) rfl, xT 89 (by decide +kernel) rfl, by decide +kernel, by decide +kernel, by decide +kernel, by decide +kernel⟩
theorem pX8_init_49 : yFld mX8_init 49 8 5 (.object "ParcelMap$Ring") true := ⟨RX8, TX8, 11, tyX8, rfl, by decide, iX8, rfl, xT 214 (by decide +kernel) rfl, tyX8_ok, nmX8, rfl, by decide +kernel, by exact fun _ => ⟨rfl, rfl⟩⟩
theorem pX8_init_53 : yFld mX8_init 53 8 6 (.object "ParcelMap$Ring") true := ⟨RX8, TX8, 11, tyX8, rfl, by decide, iX8, rfl, xT 215 (by decide +kernel) rfl, tyX8_ok, nmX8, rfl, by decide +kernel, by exact fun _ => ⟨rfl, rfl⟩⟩
theorem pX8_init_56 : yFld mX8_init 56 8 7 (.object "ParcelMap$Ring") true := ⟨RX8, TX8, 11, tyX8, rfl, by decide, iX8, rfl, xT 216 (by decide +kernel) rfl, tyX8_ok, nmX8, rfl, by decide +kernel, by exact fun _ => ⟨rfl, rfl⟩⟩
theorem pX8_init_59 : yFld mX8_init 59 8 8 .int false := ⟨RX8, TX8, 11, tyX8, rfl, by decide, iX8, rfl, xT 217 (by decide +kernel) rfl, tyX8_ok, nmX8, rfl, by decide +kernel, by intro h; cases h⟩
theorem pX8_init_63 : yFld mX8_init 63 8 9 .int false := ⟨RX8, TX8, 11, tyX8, rfl, by decide, iX8, rfl, xT 218 (by decide +kernel) rfl, tyX8_ok, nmX8, rfl, by decide +kernel, by intro h; cases h⟩
theorem pX8_init_66 : yFld mX8_init 66 8 10 .int false := ⟨RX8, TX8, 11, tyX8, rfl, by decide, iX8, rfl, xT 219 (by decide +kernel) rfl, tyX8_ok, nmX8, rfl, by decide +kernel, by intro h; cases h⟩
theorem oX9 : Cond.methodLink RX9 1 Lib.objectInit ∈ xTs := xT 688 (by decide +kernel) rfl
theorem pX9_init_7 : yFld mX9_init 7 9 0 (.array .long) true := ⟨RX9, TX9, 43, tyX9, rfl, by decide, iX9, rfl, xT 689 (by decide +kernel) rfl, tyX9_ok, nmX9, rfl, by decide +kernel, by exact fun _ => ⟨rfl, rfl⟩⟩
theorem pX9_init_13 : yFld mX9_init 13 9 1 (.array .long) true := ⟨RX9, TX9, 43, tyX9, rfl, by decide, iX9, rfl, xT 690 (by decide +kernel) rfl, tyX9_ok, nmX9, rfl, by decide +kernel, by exact fun _ => ⟨rfl, rfl⟩⟩
theorem pX9_init_16 : yFld mX9_init 16 9 2 (.array .long) true := ⟨RX9, TX9, 43, tyX9, rfl, by decide, iX9, rfl, xT 691 (by decide +kernel) rfl, tyX9_ok, nmX9, rfl, by decide +kernel, by exact fun _ => ⟨rfl, rfl⟩⟩
theorem pX9_init_19 : yFld mX9_init 19 9 3 (.array .long) true := ⟨RX9, TX9, 43, tyX9, rfl, by decide, iX9, rfl, xT 692 (by decide +kernel) rfl, tyX9_ok, nmX9, rfl, by decide +kernel, by exact fun _ => ⟨rfl, rfl⟩⟩
theorem pX9_init_22 : yFld mX9_init 22 9 5 (.array .long) true := ⟨RX9, TX9, 43, tyX9, rfl, by decide, iX9, rfl, xT 694 (by decide +kernel) rfl, tyX9_ok, nmX9, rfl, by decide +kernel, by exact fun _ => ⟨rfl, rfl⟩⟩
theorem pX9_init_25 : yFld mX9_init 25 9 6 (.array .long) true := ⟨RX9, TX9, 43, tyX9, rfl, by decide, iX9, rfl, xT 695 (by decide +kernel) rfl, tyX9_ok, nmX9, rfl, by decide +kernel, by exact fun _ => ⟨rfl, rfl⟩⟩
theorem pX9_init_28 : yFld mX9_init 28 9 7 (.array .long) true := ⟨RX9, TX9, 43, tyX9, rfl, by decide, iX9, rfl, xT 696 (by decide +kernel) rfl, tyX9_ok, nmX9, rfl, by decide +kernel, by exact fun _ => ⟨rfl, rfl⟩⟩
theorem pX9_init_31 : yFld mX9_init 31 9 8 .int false := ⟨RX9, TX9, 43, tyX9, rfl, by decide, iX9, rfl, xT 697 (by decide +kernel) rfl, tyX9_ok, nmX9, rfl, by decide +kernel, by intro h; cases h⟩
theorem pX9_init_35 : yFld mX9_init 35 9 9 (.array .long) true := ⟨RX9, TX9, 43, tyX9, rfl, by decide, iX9, rfl, xT 698 (by decide +kernel) rfl, tyX9_ok, nmX9, rfl, by decide +kernel, by exact fun _ => ⟨rfl, rfl⟩⟩
theorem pX9_init_38 : yFld mX9_init 38 9 10 (.array .int) true := ⟨RX9, TX9, 43, tyX9, rfl, by decide, iX9, rfl, xT 699 (by decide +kernel) rfl, tyX9_ok, nmX9, rfl, by decide +kernel, by exact fun _ => ⟨rfl, rfl⟩⟩
theorem pX9_init_42 : yFld mX9_init 42 9 13 (.array .int) true := ⟨RX9, TX9, 43, tyX9, rfl, by decide, iX9, rfl, xT 702 (by decide +kernel) rfl, tyX9_ok, nmX9, rfl, by decide +kernel, by exact fun _ => ⟨rfl, rfl⟩⟩
theorem pX9_init_45 : yFld mX9_init 45 9 15 (.array .int) true := ⟨RX9, TX9, 43, tyX9, rfl, by decide, iX9, rfl, xT 704 (by decide +kernel) rfl, tyX9_ok, nmX9, rfl, by decide +kernel, by exact fun _ => ⟨rfl, rfl⟩⟩
theorem pX9_init_48 : yFld mX9_init 48 9 17 (.array .boolean) true := ⟨RX9, TX9, 43, tyX9, rfl, by decide, iX9, rfl, xT 706 (by decide +kernel) rfl, tyX9_ok, nmX9, rfl, by decide +kernel, by exact fun _ => ⟨rfl, rfl⟩⟩
theorem pX9_init_52 : yFld mX9_init 52 9 18 (.array .int) true := ⟨RX9, TX9, 43, tyX9, rfl, by decide, iX9, rfl, xT 707 (by decide +kernel) rfl, tyX9_ok, nmX9, rfl, by decide +kernel, by exact fun _ => ⟨rfl, rfl⟩⟩
theorem pX9_init_55 : yFld mX9_init 55 9 19 (.array .int) true := ⟨RX9, TX9, 43, tyX9, rfl, by decide, iX9, rfl, xT 708 (by decide +kernel) rfl, tyX9_ok, nmX9, rfl, by decide +kernel, by exact fun _ => ⟨rfl, rfl⟩⟩
theorem pX9_init_58 : yFld mX9_init 58 9 20 (.array .int) true := ⟨RX9, TX9, 43, tyX9, rfl, by decide, iX9, rfl, xT 709 (by decide +kernel) rfl, tyX9_ok, nmX9, rfl, by decide +kernel, by exact fun _ => ⟨rfl, rfl⟩⟩
theorem pX9_init_61 : yFld mX9_init 61 9 21 (.array .int) true := ⟨RX9, TX9, 43, tyX9, rfl, by decide, iX9, rfl, xT 710 (by decide +kernel) rfl, tyX9_ok, nmX9, rfl, by decide +kernel, by exact fun _ => ⟨rfl, rfl⟩⟩
theorem pX9_init_64 : yFld mX9_init 64 9 24 (.array .boolean) true := ⟨RX9, TX9, 43, tyX9, rfl, by decide, iX9, rfl, xT 713 (by decide +kernel) rfl, tyX9_ok, nmX9, rfl, by decide +kernel, by exact fun _ => ⟨rfl, rfl⟩⟩
theorem pX9_init_67 : yFld mX9_init 67 9 25 (.array .int) true := ⟨RX9, TX9, 43, tyX9, rfl, by decide, iX9, rfl, xT 714 (by decide +kernel) rfl, tyX9_ok, nmX9, rfl, by decide +kernel, by exact fun _ => ⟨rfl, rfl⟩⟩
theorem pX9_init_70 : yFld mX9_init 70 9 26 (.array .int) true := ⟨RX9, TX9, 43, tyX9, rfl, by decide, iX9, rfl, xT 715 (by decide +kernel) rfl, tyX9_ok, nmX9, rfl, by decide +kernel, by exact fun _ => ⟨rfl, rfl⟩⟩
theorem pX9_init_73 : yFld mX9_init 73 9 27 (.array .int) true := ⟨RX9, TX9, 43, tyX9, rfl, by decide, iX9, rfl, xT 716 (by decide +kernel) rfl, tyX9_ok, nmX9, rfl, by decide +kernel, by exact fun _ => ⟨rfl, rfl⟩⟩
theorem pX9_init_76 : yFld mX9_init 76 9 28 (.array .int) true := ⟨RX9, TX9, 43, tyX9, rfl, by decide, iX9, rfl, xT 717 (by decide +kernel) rfl, tyX9_ok, nmX9, rfl, by decide +kernel, by exact fun _ => ⟨rfl, rfl⟩⟩
theorem pX9_init_79 : yFld mX9_init 79 9 31 (.array .int) true := ⟨RX9, TX9, 43, tyX9, rfl, by decide, iX9, rfl, xT 720 (by decide +kernel) rfl, tyX9_ok, nmX9, rfl, by decide +kernel, by exact fun _ => ⟨rfl, rfl⟩⟩
theorem pX9_init_82 : yFld mX9_init 82 9 33 (.array .int) true := ⟨RX9, TX9, 43, tyX9, rfl, by decide, iX9, rfl, xT 722 (by decide +kernel) rfl, tyX9_ok, nmX9, rfl, by decide +kernel, by exact fun _ => ⟨rfl, rfl⟩⟩
theorem pX9_init_85 : yFld mX9_init 85 9 34 .int false := ⟨RX9, TX9, 43, tyX9, rfl, by decide, iX9, rfl, xT 723 (by decide +kernel) rfl, tyX9_ok, nmX9, rfl, by decide +kernel, by intro h; cases h⟩
theorem pX9_init_88 : yFld mX9_init 88 9 36 (.array .int) true := ⟨RX9, TX9, 43, tyX9, rfl, by decide, iX9, rfl, xT 725 (by decide +kernel) rfl, tyX9_ok, nmX9, rfl, by decide +kernel, by exact fun _ => ⟨rfl, rfl⟩⟩
theorem pX9_init_91 : yFld mX9_init 91 9 37 (.array .int) true := ⟨RX9, TX9, 43, tyX9, rfl, by decide, iX9, rfl, xT 726 (by decide +kernel) rfl, tyX9_ok, nmX9, rfl, by decide +kernel, by exact fun _ => ⟨rfl, rfl⟩⟩
theorem pX9_init_94 : yFld mX9_init 94 9 38 (.array .boolean) true := ⟨RX9, TX9, 43, tyX9, rfl, by decide, iX9, rfl, xT 727 (by decide +kernel) rfl, tyX9_ok, nmX9, rfl, by decide +kernel, by exact fun _ => ⟨rfl, rfl⟩⟩
theorem pX9_init_97 : yFld mX9_init 97 9 39 (.array .long) true := ⟨RX9, TX9, 43, tyX9, rfl, by decide, iX9, rfl, xT 728 (by decide +kernel) rfl, tyX9_ok, nmX9, rfl, by decide +kernel, by exact fun _ => ⟨rfl, rfl⟩⟩
theorem pX9_init_100 : yFld mX9_init 100 9 40 (.array .long) true := ⟨RX9, TX9, 43, tyX9, rfl, by decide, iX9, rfl, xT 729 (by decide +kernel) rfl, tyX9_ok, nmX9, rfl, by decide +kernel, by exact fun _ => ⟨rfl, rfl⟩⟩
theorem pX9_init_103 : yFld mX9_init 103 9 41 (.array .long) true := ⟨RX9, TX9, 43, tyX9, rfl, by decide, iX9, rfl, xT 730 (by decide +kernel) rfl, tyX9_ok, nmX9, rfl, by decide +kernel, by exact fun _ => ⟨rfl, rfl⟩⟩
theorem pX9_init_106 : yFld mX9_init 106 9 42 (.array .long) true := ⟨RX9, TX9, 43, tyX9, rfl, by decide, iX9, rfl, xT 731 (by decide +kernel) rfl, tyX9_ok, nmX9, rfl, by decide +kernel, by exact fun _ => ⟨rfl, rfl⟩⟩
theorem pX9_init_109 : yFld mX9_init 109 9 35 .int false := ⟨RX9, TX9, 43, tyX9, rfl, by decide, iX9, rfl, xT 724 (by decide +kernel) rfl, tyX9_ok, nmX9, rfl, by decide +kernel, by intro h; cases h⟩
theorem ya_I {n : Nat} (hn : n ≤ 2000) : yArr .int 0 n (n, .inl (fun _ => 0)) .int := ⟨rfl, xT 105 (by decide +kernel) rfl, fun tc => rfl, fun cA => rfl, Nat.le_trans (Nat.mul_le_mul hn (show componentBytes (FieldType.int) ≤ 8 by decide)) (by decide), fun s cA cB a b => Option.some.inj ((va_nm_int a).symm.trans (va_nm_int b)), fun ad => rfl⟩
theorem ya_J {n : Nat} (hn : n ≤ 2000) : yArr .long 1 n (n, .inr (.inl (fun _ => 0))) .long := ⟨rfl, xT 37 (by decide +kernel) rfl, fun tc => rfl, fun cA => rfl, Nat.le_trans (Nat.mul_le_mul hn (show componentBytes (FieldType.long) ≤ 8 by decide)) (by decide), fun s cA cB a b => Option.some.inj ((va_nm_long a).symm.trans (va_nm_long b)), fun ad => rfl⟩
theorem ya_D {n : Nat} (hn : n ≤ 2000) : yArr .double 2 n (n, .inr (.inr (.inr (.inl (fun _ => 0))))) .double := ⟨rfl, xT 38 (by decide +kernel) rfl, fun tc => rfl, fun cA => rfl, Nat.le_trans (Nat.mul_le_mul hn (show componentBytes (FieldType.double) ≤ 8 by decide)) (by decide), fun s cA cB a b => Option.some.inj ((va_nm_double a).symm.trans (va_nm_double b)), fun ad => rfl⟩
theorem ya_Z {n : Nat} (hn : n ≤ 2000) : yArr .boolean 3 n (n, .inl (fun _ => 0)) .boolean := ⟨rfl, xT 206 (by decide +kernel) rfl, fun tc => rfl, fun cA => rfl, Nat.le_trans (Nat.mul_le_mul hn (show componentBytes (FieldType.boolean) ≤ 8 by decide)) (by decide), fun s cA cB a b => Option.some.inj ((va_nm_boolean a).symm.trans (va_nm_boolean b)), fun ad => rfl⟩
