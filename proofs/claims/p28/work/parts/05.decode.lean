theorem dX0_init_0 : decode cX0_init 0 = .ok (.aload_n 0, 1) := by decide +kernel
theorem dX0_init_1 : decode cX0_init 1 = .ok (.invokespecial 3, 3) := by decide +kernel
theorem dX0_init_4 : decode cX0_init 4 = .ok (.aload_n 0, 1) := by decide +kernel
theorem dX0_init_5 : decode cX0_init 5 = .ok (.new 9, 3) := by decide +kernel
theorem dX0_init_8 : decode cX0_init 8 = .ok (.dup, 1) := by decide +kernel
theorem dX0_init_9 : decode cX0_init 9 = .ok (.iconst 4, 1) := by decide +kernel
theorem dX0_init_10 : decode cX0_init 10 = .ok (.iconst 4, 1) := by decide +kernel
theorem dX0_init_11 : decode cX0_init 11 = .ok (.invokespecial 11, 3) := by decide +kernel
theorem dX0_init_14 : decode cX0_init 14 = .ok (.putfield 14, 3) := by decide +kernel
theorem dX0_init_17 : decode cX0_init 17 = .ok (.aload_n 0, 1) := by decide +kernel
theorem dX0_init_18 : decode cX0_init 18 = .ok (.iconst 4, 1) := by decide +kernel
theorem dX0_init_19 : decode cX0_init 19 = .ok (.newarray .int, 2) := by decide +kernel
theorem dX0_init_21 : decode cX0_init 21 = .ok (.putfield 20, 3) := by decide +kernel
theorem dX0_init_24 : decode cX0_init 24 = .ok (.aload_n 0, 1) := by decide +kernel
theorem dX0_init_25 : decode cX0_init 25 = .ok (.iconst 0, 1) := by decide +kernel
theorem dX0_init_26 : decode cX0_init 26 = .ok (.iconst 1, 1) := by decide +kernel
theorem dX0_init_27 : decode cX0_init 27 = .ok (.iconst 1, 1) := by decide +kernel
theorem dX0_init_28 : decode cX0_init 28 = .ok (.invokevirtual 24, 3) := by decide +kernel
theorem dX0_init_31 : decode cX0_init 31 = .ok (.return_, 1) := by decide +kernel
theorem dX0_begin_0 : decode cX0_begin 0 = .ok (.aload_n 0, 1) := by decide +kernel
theorem dX0_begin_1 : decode cX0_begin 1 = .ok (.iload_n 1, 1) := by decide +kernel
theorem dX0_begin_2 : decode cX0_begin 2 = .ok (.putfield 28, 3) := by decide +kernel
theorem dX0_begin_5 : decode cX0_begin 5 = .ok (.aload_n 0, 1) := by decide +kernel
theorem dX0_begin_6 : decode cX0_begin 6 = .ok (.iload_n 2, 1) := by decide +kernel
theorem dX0_begin_7 : decode cX0_begin 7 = .ok (.putfield 32, 3) := by decide +kernel
theorem dX0_begin_10 : decode cX0_begin 10 = .ok (.aload_n 0, 1) := by decide +kernel
theorem dX0_begin_11 : decode cX0_begin 11 = .ok (.iload_n 3, 1) := by decide +kernel
theorem dX0_begin_12 : decode cX0_begin 12 = .ok (.putfield 35, 3) := by decide +kernel
theorem dX0_begin_15 : decode cX0_begin 15 = .ok (.aload_n 0, 1) := by decide +kernel
theorem dX0_begin_16 : decode cX0_begin 16 = .ok (.iconst 0, 1) := by decide +kernel
theorem dX0_begin_17 : decode cX0_begin 17 = .ok (.putfield 38, 3) := by decide +kernel
theorem dX0_begin_20 : decode cX0_begin 20 = .ok (.aload_n 0, 1) := by decide +kernel
theorem dX0_begin_21 : decode cX0_begin 21 = .ok (.iconst 0, 1) := by decide +kernel
theorem dX0_begin_22 : decode cX0_begin 22 = .ok (.putfield 41, 3) := by decide +kernel
theorem dX0_begin_25 : decode cX0_begin 25 = .ok (.aload_n 0, 1) := by decide +kernel
theorem dX0_begin_26 : decode cX0_begin 26 = .ok (.iconst 0, 1) := by decide +kernel
theorem dX0_begin_27 : decode cX0_begin 27 = .ok (.putfield 44, 3) := by decide +kernel
theorem dX0_begin_30 : decode cX0_begin 30 = .ok (.aload_n 0, 1) := by decide +kernel
theorem dX0_begin_31 : decode cX0_begin 31 = .ok (.iconst 0, 1) := by decide +kernel
theorem dX0_begin_32 : decode cX0_begin 32 = .ok (.putfield 47, 3) := by decide +kernel
theorem dX0_begin_35 : decode cX0_begin 35 = .ok (.aload_n 0, 1) := by decide +kernel
theorem dX0_begin_36 : decode cX0_begin 36 = .ok (.iconst 0, 1) := by decide +kernel
theorem dX0_begin_37 : decode cX0_begin 37 = .ok (.putfield 50, 3) := by decide +kernel
theorem dX0_begin_40 : decode cX0_begin 40 = .ok (.aload_n 0, 1) := by decide +kernel
theorem dX0_begin_41 : decode cX0_begin 41 = .ok (.iconst 0, 1) := by decide +kernel
theorem dX0_begin_42 : decode cX0_begin 42 = .ok (.putfield 53, 3) := by decide +kernel
theorem dX0_begin_45 : decode cX0_begin 45 = .ok (.aload_n 0, 1) := by decide +kernel
theorem dX0_begin_46 : decode cX0_begin 46 = .ok (.iconst 0, 1) := by decide +kernel
theorem dX0_begin_47 : decode cX0_begin 47 = .ok (.putfield 56, 3) := by decide +kernel
theorem dX0_begin_50 : decode cX0_begin 50 = .ok (.aload_n 0, 1) := by decide +kernel
theorem dX0_begin_51 : decode cX0_begin 51 = .ok (.iconst 0, 1) := by decide +kernel
theorem dX0_begin_52 : decode cX0_begin 52 = .ok (.putfield 59, 3) := by decide +kernel
theorem dX0_begin_55 : decode cX0_begin 55 = .ok (.aload_n 0, 1) := by decide +kernel
theorem dX0_begin_56 : decode cX0_begin 56 = .ok (.iconst 0, 1) := by decide +kernel
theorem dX0_begin_57 : decode cX0_begin 57 = .ok (.putfield 62, 3) := by decide +kernel
theorem dX0_begin_60 : decode cX0_begin 60 = .ok (.aload_n 0, 1) := by decide +kernel
theorem dX0_begin_61 : decode cX0_begin 61 = .ok (.iconst 0, 1) := by decide +kernel
theorem dX0_begin_62 : decode cX0_begin 62 = .ok (.putfield 65, 3) := by decide +kernel
theorem dX0_begin_65 : decode cX0_begin 65 = .ok (.aload_n 0, 1) := by decide +kernel
theorem dX0_begin_66 : decode cX0_begin 66 = .ok (.iconst 0, 1) := by decide +kernel
theorem dX0_begin_67 : decode cX0_begin 67 = .ok (.putfield 68, 3) := by decide +kernel
theorem dX0_begin_70 : decode cX0_begin 70 = .ok (.aload_n 0, 1) := by decide +kernel
theorem dX0_begin_71 : decode cX0_begin 71 = .ok (.getfield 14, 3) := by decide +kernel
theorem dX0_begin_74 : decode cX0_begin 74 = .ok (.iconst 0, 1) := by decide +kernel
theorem dX0_begin_75 : decode cX0_begin 75 = .ok (.putfield 71, 3) := by decide +kernel
theorem dX0_begin_78 : decode cX0_begin 78 = .ok (.return_, 1) := by decide +kernel
theorem dX0_copyFrom_0 : decode cX0_copyFrom 0 = .ok (.aload_n 0, 1) := by decide +kernel
theorem dX0_copyFrom_1 : decode cX0_copyFrom 1 = .ok (.aload_n 1, 1) := by decide +kernel
theorem dX0_copyFrom_2 : decode cX0_copyFrom 2 = .ok (.getfield 28, 3) := by decide +kernel
theorem dX0_copyFrom_5 : decode cX0_copyFrom 5 = .ok (.putfield 28, 3) := by decide +kernel
theorem dX0_copyFrom_8 : decode cX0_copyFrom 8 = .ok (.aload_n 0, 1) := by decide +kernel
theorem dX0_copyFrom_9 : decode cX0_copyFrom 9 = .ok (.aload_n 1, 1) := by decide +kernel
theorem dX0_copyFrom_10 : decode cX0_copyFrom 10 = .ok (.getfield 32, 3) := by decide +kernel
theorem dX0_copyFrom_13 : decode cX0_copyFrom 13 = .ok (.putfield 32, 3) := by decide +kernel
theorem dX0_copyFrom_16 : decode cX0_copyFrom 16 = .ok (.aload_n 0, 1) := by decide +kernel
theorem dX0_copyFrom_17 : decode cX0_copyFrom 17 = .ok (.aload_n 1, 1) := by decide +kernel
theorem dX0_copyFrom_18 : decode cX0_copyFrom 18 = .ok (.getfield 35, 3) := by decide +kernel
theorem dX0_copyFrom_21 : decode cX0_copyFrom 21 = .ok (.putfield 35, 3) := by decide +kernel
theorem dX0_copyFrom_24 : decode cX0_copyFrom 24 = .ok (.aload_n 0, 1) := by decide +kernel
theorem dX0_copyFrom_25 : decode cX0_copyFrom 25 = .ok (.aload_n 1, 1) := by decide +kernel
theorem dX0_copyFrom_26 : decode cX0_copyFrom 26 = .ok (.getfield 38, 3) := by decide +kernel
theorem dX0_copyFrom_29 : decode cX0_copyFrom 29 = .ok (.putfield 38, 3) := by decide +kernel
theorem dX0_copyFrom_32 : decode cX0_copyFrom 32 = .ok (.aload_n 0, 1) := by decide +kernel
theorem dX0_copyFrom_33 : decode cX0_copyFrom 33 = .ok (.aload_n 1, 1) := by decide +kernel
theorem dX0_copyFrom_34 : decode cX0_copyFrom 34 = .ok (.getfield 41, 3) := by decide +kernel
theorem dX0_copyFrom_37 : decode cX0_copyFrom 37 = .ok (.putfield 41, 3) := by decide +kernel
theorem dX0_copyFrom_40 : decode cX0_copyFrom 40 = .ok (.aload_n 0, 1) := by decide +kernel
theorem dX0_copyFrom_41 : decode cX0_copyFrom 41 = .ok (.aload_n 1, 1) := by decide +kernel
theorem dX0_copyFrom_42 : decode cX0_copyFrom 42 = .ok (.getfield 44, 3) := by decide +kernel
theorem dX0_copyFrom_45 : decode cX0_copyFrom 45 = .ok (.putfield 44, 3) := by decide +kernel
theorem dX0_copyFrom_48 : decode cX0_copyFrom 48 = .ok (.aload_n 0, 1) := by decide +kernel
theorem dX0_copyFrom_49 : decode cX0_copyFrom 49 = .ok (.aload_n 1, 1) := by decide +kernel
theorem dX0_copyFrom_50 : decode cX0_copyFrom 50 = .ok (.getfield 47, 3) := by decide +kernel
theorem dX0_copyFrom_53 : decode cX0_copyFrom 53 = .ok (.putfield 47, 3) := by decide +kernel
theorem dX0_copyFrom_56 : decode cX0_copyFrom 56 = .ok (.aload_n 0, 1) := by decide +kernel
theorem dX0_copyFrom_57 : decode cX0_copyFrom 57 = .ok (.aload_n 1, 1) := by decide +kernel
theorem dX0_copyFrom_58 : decode cX0_copyFrom 58 = .ok (.getfield 50, 3) := by decide +kernel
theorem dX0_copyFrom_61 : decode cX0_copyFrom 61 = .ok (.putfield 50, 3) := by decide +kernel
theorem dX0_copyFrom_64 : decode cX0_copyFrom 64 = .ok (.aload_n 0, 1) := by decide +kernel
theorem dX0_copyFrom_65 : decode cX0_copyFrom 65 = .ok (.aload_n 1, 1) := by decide +kernel
theorem dX0_copyFrom_66 : decode cX0_copyFrom 66 = .ok (.getfield 53, 3) := by decide +kernel
theorem dX0_copyFrom_69 : decode cX0_copyFrom 69 = .ok (.putfield 53, 3) := by decide +kernel
theorem dX0_copyFrom_72 : decode cX0_copyFrom 72 = .ok (.aload_n 0, 1) := by decide +kernel
theorem dX0_copyFrom_73 : decode cX0_copyFrom 73 = .ok (.aload_n 1, 1) := by decide +kernel
theorem dX0_copyFrom_74 : decode cX0_copyFrom 74 = .ok (.getfield 56, 3) := by decide +kernel
theorem dX0_copyFrom_77 : decode cX0_copyFrom 77 = .ok (.putfield 56, 3) := by decide +kernel
theorem dX0_copyFrom_80 : decode cX0_copyFrom 80 = .ok (.aload_n 0, 1) := by decide +kernel
theorem dX0_copyFrom_81 : decode cX0_copyFrom 81 = .ok (.aload_n 1, 1) := by decide +kernel
theorem dX0_copyFrom_82 : decode cX0_copyFrom 82 = .ok (.getfield 59, 3) := by decide +kernel
theorem dX0_copyFrom_85 : decode cX0_copyFrom 85 = .ok (.putfield 59, 3) := by decide +kernel
theorem dX0_copyFrom_88 : decode cX0_copyFrom 88 = .ok (.aload_n 0, 1) := by decide +kernel
theorem dX0_copyFrom_89 : decode cX0_copyFrom 89 = .ok (.aload_n 1, 1) := by decide +kernel
theorem dX0_copyFrom_90 : decode cX0_copyFrom 90 = .ok (.getfield 62, 3) := by decide +kernel
theorem dX0_copyFrom_93 : decode cX0_copyFrom 93 = .ok (.putfield 62, 3) := by decide +kernel
theorem dX0_copyFrom_96 : decode cX0_copyFrom 96 = .ok (.aload_n 0, 1) := by decide +kernel
theorem dX0_copyFrom_97 : decode cX0_copyFrom 97 = .ok (.aload_n 1, 1) := by decide +kernel
theorem dX0_copyFrom_98 : decode cX0_copyFrom 98 = .ok (.getfield 65, 3) := by decide +kernel
theorem dX0_copyFrom_101 : decode cX0_copyFrom 101 = .ok (.putfield 65, 3) := by decide +kernel
theorem dX0_copyFrom_104 : decode cX0_copyFrom 104 = .ok (.aload_n 0, 1) := by decide +kernel
theorem dX0_copyFrom_105 : decode cX0_copyFrom 105 = .ok (.getfield 14, 3) := by decide +kernel
theorem dX0_copyFrom_108 : decode cX0_copyFrom 108 = .ok (.aload_n 1, 1) := by decide +kernel
theorem dX0_copyFrom_109 : decode cX0_copyFrom 109 = .ok (.getfield 14, 3) := by decide +kernel
theorem dX0_copyFrom_112 : decode cX0_copyFrom 112 = .ok (.invokevirtual 74, 3) := by decide +kernel
theorem dX0_copyFrom_115 : decode cX0_copyFrom 115 = .ok (.return_, 1) := by decide +kernel
theorem dX0_reach_0 : decode cX0_reach 0 = .ok (.aload_n 0, 1) := by decide +kernel
theorem dX0_reach_1 : decode cX0_reach 1 = .ok (.getfield 38, 3) := by decide +kernel
theorem dX0_reach_4 : decode cX0_reach 4 = .ok (.lookupswitch 35 #[(0, 28), (1, 33)], 28) := by decide +kernel
theorem dX0_reach_32 : decode cX0_reach 32 = .ok (.aload_n 0, 1) := by decide +kernel
theorem dX0_reach_33 : decode cX0_reach 33 = .ok (.getfield 32, 3) := by decide +kernel
theorem dX0_reach_36 : decode cX0_reach 36 = .ok (.ireturn, 1) := by decide +kernel
theorem dX0_reach_37 : decode cX0_reach 37 = .ok (.iconst 1, 1) := by decide +kernel
theorem dX0_reach_38 : decode cX0_reach 38 = .ok (.ireturn, 1) := by decide +kernel
theorem dX0_reach_39 : decode cX0_reach 39 = .ok (.iconst 0, 1) := by decide +kernel
theorem dX0_reach_40 : decode cX0_reach 40 = .ok (.ireturn, 1) := by decide +kernel
theorem dX0_sentence_0 : decode cX0_sentence 0 = .ok (.aload_n 0, 1) := by decide +kernel
theorem dX0_sentence_1 : decode cX0_sentence 1 = .ok (.dup, 1) := by decide +kernel
theorem dX0_sentence_2 : decode cX0_sentence 2 = .ok (.getfield 41, 3) := by decide +kernel
theorem dX0_sentence_5 : decode cX0_sentence 5 = .ok (.iload_n 1, 1) := by decide +kernel
theorem dX0_sentence_6 : decode cX0_sentence 6 = .ok (.iadd, 1) := by decide +kernel
theorem dX0_sentence_7 : decode cX0_sentence 7 = .ok (.putfield 41, 3) := by decide +kernel
theorem dX0_sentence_10 : decode cX0_sentence 10 = .ok (.aload_n 0, 1) := by decide +kernel
theorem dX0_sentence_11 : decode cX0_sentence 11 = .ok (.iconst 2, 1) := by decide +kernel
theorem dX0_sentence_12 : decode cX0_sentence 12 = .ok (.putfield 38, 3) := by decide +kernel
theorem dX0_sentence_15 : decode cX0_sentence 15 = .ok (.aload_n 0, 1) := by decide +kernel
theorem dX0_sentence_16 : decode cX0_sentence 16 = .ok (.iconst 0, 1) := by decide +kernel
theorem dX0_sentence_17 : decode cX0_sentence 17 = .ok (.putfield 44, 3) := by decide +kernel
theorem dX0_sentence_20 : decode cX0_sentence 20 = .ok (.return_, 1) := by decide +kernel
theorem dX0_workOneHour_0 : decode cX0_workOneHour 0 = .ok (.aload_n 0, 1) := by decide +kernel
theorem dX0_workOneHour_1 : decode cX0_workOneHour 1 = .ok (.getfield 38, 3) := by decide +kernel
theorem dX0_workOneHour_4 : decode cX0_workOneHour 4 = .ok (.iconst 2, 1) := by decide +kernel
theorem dX0_workOneHour_5 : decode cX0_workOneHour 5 = .ok (.if_icmp .eq 4, 3) := by decide +kernel
theorem dX0_workOneHour_8 : decode cX0_workOneHour 8 = .ok (.return_, 1) := by decide +kernel
theorem dX0_workOneHour_9 : decode cX0_workOneHour 9 = .ok (.aload_n 0, 1) := by decide +kernel
theorem dX0_workOneHour_10 : decode cX0_workOneHour 10 = .ok (.dup, 1) := by decide +kernel
theorem dX0_workOneHour_11 : decode cX0_workOneHour 11 = .ok (.getfield 41, 3) := by decide +kernel
theorem dX0_workOneHour_14 : decode cX0_workOneHour 14 = .ok (.iconst 1, 1) := by decide +kernel
theorem dX0_workOneHour_15 : decode cX0_workOneHour 15 = .ok (.isub, 1) := by decide +kernel
theorem dX0_workOneHour_16 : decode cX0_workOneHour 16 = .ok (.putfield 41, 3) := by decide +kernel
theorem dX0_workOneHour_19 : decode cX0_workOneHour 19 = .ok (.aload_n 0, 1) := by decide +kernel
theorem dX0_workOneHour_20 : decode cX0_workOneHour 20 = .ok (.dup, 1) := by decide +kernel
theorem dX0_workOneHour_21 : decode cX0_workOneHour 21 = .ok (.getfield 59, 3) := by decide +kernel
theorem dX0_workOneHour_24 : decode cX0_workOneHour 24 = .ok (.iconst 1, 1) := by decide +kernel
theorem dX0_workOneHour_25 : decode cX0_workOneHour 25 = .ok (.iadd, 1) := by decide +kernel
theorem dX0_workOneHour_26 : decode cX0_workOneHour 26 = .ok (.putfield 59, 3) := by decide +kernel
theorem dX0_workOneHour_29 : decode cX0_workOneHour 29 = .ok (.aload_n 0, 1) := by decide +kernel
theorem dX0_workOneHour_30 : decode cX0_workOneHour 30 = .ok (.getfield 41, 3) := by decide +kernel
theorem dX0_workOneHour_33 : decode cX0_workOneHour 33 = .ok (.iconst 1, 1) := by decide +kernel
theorem dX0_workOneHour_34 : decode cX0_workOneHour 34 = .ok (.if_icmp .ge 23, 3) := by decide +kernel
theorem dX0_workOneHour_37 : decode cX0_workOneHour 37 = .ok (.aload_n 0, 1) := by decide +kernel
theorem dX0_workOneHour_38 : decode cX0_workOneHour 38 = .ok (.iconst 1, 1) := by decide +kernel
theorem dX0_workOneHour_39 : decode cX0_workOneHour 39 = .ok (.putfield 38, 3) := by decide +kernel
theorem dX0_workOneHour_42 : decode cX0_workOneHour 42 = .ok (.aload_n 0, 1) := by decide +kernel
theorem dX0_workOneHour_43 : decode cX0_workOneHour 43 = .ok (.iload_n 1, 1) := by decide +kernel
theorem dX0_workOneHour_44 : decode cX0_workOneHour 44 = .ok (.putfield 44, 3) := by decide +kernel
theorem dX0_workOneHour_47 : decode cX0_workOneHour 47 = .ok (.aload_n 0, 1) := by decide +kernel
theorem dX0_workOneHour_48 : decode cX0_workOneHour 48 = .ok (.dup, 1) := by decide +kernel
theorem dX0_workOneHour_49 : decode cX0_workOneHour 49 = .ok (.getfield 65, 3) := by decide +kernel
theorem dX0_workOneHour_52 : decode cX0_workOneHour 52 = .ok (.iconst 1, 1) := by decide +kernel
theorem dX0_workOneHour_53 : decode cX0_workOneHour 53 = .ok (.iadd, 1) := by decide +kernel
theorem dX0_workOneHour_54 : decode cX0_workOneHour 54 = .ok (.putfield 65, 3) := by decide +kernel
theorem dX0_workOneHour_57 : decode cX0_workOneHour 57 = .ok (.return_, 1) := by decide +kernel
theorem dX0_lineWasUsed_0 : decode cX0_lineWasUsed 0 = .ok (.aload_n 0, 1) := by decide +kernel
theorem dX0_lineWasUsed_1 : decode cX0_lineWasUsed 1 = .ok (.dup, 1) := by decide +kernel
theorem dX0_lineWasUsed_2 : decode cX0_lineWasUsed 2 = .ok (.getfield 50, 3) := by decide +kernel
theorem dX0_lineWasUsed_5 : decode cX0_lineWasUsed 5 = .ok (.iconst 1, 1) := by decide +kernel
theorem dX0_lineWasUsed_6 : decode cX0_lineWasUsed 6 = .ok (.iadd, 1) := by decide +kernel
theorem dX0_lineWasUsed_7 : decode cX0_lineWasUsed 7 = .ok (.putfield 50, 3) := by decide +kernel
theorem dX0_lineWasUsed_10 : decode cX0_lineWasUsed 10 = .ok (.aload_n 0, 1) := by decide +kernel
theorem dX0_lineWasUsed_11 : decode cX0_lineWasUsed 11 = .ok (.getfield 38, 3) := by decide +kernel
theorem dX0_lineWasUsed_14 : decode cX0_lineWasUsed 14 = .ok (.iconst 1, 1) := by decide +kernel
theorem dX0_lineWasUsed_15 : decode cX0_lineWasUsed 15 = .ok (.if_icmp .ne 31, 3) := by decide +kernel
theorem dX0_lineWasUsed_18 : decode cX0_lineWasUsed 18 = .ok (.aload_n 0, 1) := by decide +kernel
theorem dX0_lineWasUsed_19 : decode cX0_lineWasUsed 19 = .ok (.dup, 1) := by decide +kernel
theorem dX0_lineWasUsed_20 : decode cX0_lineWasUsed 20 = .ok (.getfield 44, 3) := by decide +kernel
theorem dX0_lineWasUsed_23 : decode cX0_lineWasUsed 23 = .ok (.iconst 1, 1) := by decide +kernel
theorem dX0_lineWasUsed_24 : decode cX0_lineWasUsed 24 = .ok (.isub, 1) := by decide +kernel
theorem dX0_lineWasUsed_25 : decode cX0_lineWasUsed 25 = .ok (.putfield 44, 3) := by decide +kernel
theorem dX0_lineWasUsed_28 : decode cX0_lineWasUsed 28 = .ok (.aload_n 0, 1) := by decide +kernel
theorem dX0_lineWasUsed_29 : decode cX0_lineWasUsed 29 = .ok (.getfield 44, 3) := by decide +kernel
theorem dX0_lineWasUsed_32 : decode cX0_lineWasUsed 32 = .ok (.iconst 1, 1) := by decide +kernel
theorem dX0_lineWasUsed_33 : decode cX0_lineWasUsed 33 = .ok (.if_icmp .ge 13, 3) := by decide +kernel
theorem dX0_lineWasUsed_36 : decode cX0_lineWasUsed 36 = .ok (.aload_n 0, 1) := by decide +kernel
theorem dX0_lineWasUsed_37 : decode cX0_lineWasUsed 37 = .ok (.iconst 0, 1) := by decide +kernel
theorem dX0_lineWasUsed_38 : decode cX0_lineWasUsed 38 = .ok (.putfield 44, 3) := by decide +kernel
theorem dX0_lineWasUsed_41 : decode cX0_lineWasUsed 41 = .ok (.aload_n 0, 1) := by decide +kernel
theorem dX0_lineWasUsed_42 : decode cX0_lineWasUsed 42 = .ok (.iconst 0, 1) := by decide +kernel
theorem dX0_lineWasUsed_43 : decode cX0_lineWasUsed 43 = .ok (.putfield 38, 3) := by decide +kernel
theorem dX0_lineWasUsed_46 : decode cX0_lineWasUsed 46 = .ok (.return_, 1) := by decide +kernel
theorem dX0_release_0 : decode cX0_release 0 = .ok (.aload_n 0, 1) := by decide +kernel
theorem dX0_release_1 : decode cX0_release 1 = .ok (.getfield 41, 3) := by decide +kernel
theorem dX0_release_4 : decode cX0_release 4 = .ok (.istore_n 1, 1) := by decide +kernel
theorem dX0_release_5 : decode cX0_release 5 = .ok (.aload_n 0, 1) := by decide +kernel
theorem dX0_release_6 : decode cX0_release 6 = .ok (.dup, 1) := by decide +kernel
theorem dX0_release_7 : decode cX0_release 7 = .ok (.getfield 62, 3) := by decide +kernel
theorem dX0_release_10 : decode cX0_release 10 = .ok (.iload_n 1, 1) := by decide +kernel
theorem dX0_release_11 : decode cX0_release 11 = .ok (.iadd, 1) := by decide +kernel
theorem dX0_release_12 : decode cX0_release 12 = .ok (.putfield 62, 3) := by decide +kernel
theorem dX0_release_15 : decode cX0_release 15 = .ok (.aload_n 0, 1) := by decide +kernel
theorem dX0_release_16 : decode cX0_release 16 = .ok (.iconst 0, 1) := by decide +kernel
theorem dX0_release_17 : decode cX0_release 17 = .ok (.putfield 41, 3) := by decide +kernel
theorem dX0_release_20 : decode cX0_release 20 = .ok (.aload_n 0, 1) := by decide +kernel
theorem dX0_release_21 : decode cX0_release 21 = .ok (.iconst 0, 1) := by decide +kernel
theorem dX0_release_22 : decode cX0_release 22 = .ok (.putfield 44, 3) := by decide +kernel
theorem dX0_release_25 : decode cX0_release 25 = .ok (.aload_n 0, 1) := by decide +kernel
theorem dX0_release_26 : decode cX0_release 26 = .ok (.iconst 0, 1) := by decide +kernel
theorem dX0_release_27 : decode cX0_release 27 = .ok (.putfield 38, 3) := by decide +kernel
theorem dX0_release_30 : decode cX0_release 30 = .ok (.iload_n 1, 1) := by decide +kernel
theorem dX0_release_31 : decode cX0_release 31 = .ok (.ireturn, 1) := by decide +kernel
theorem dX0_learn_0 : decode cX0_learn 0 = .ok (.aload_n 0, 1) := by decide +kernel
theorem dX0_learn_1 : decode cX0_learn 1 = .ok (.iconst 0, 1) := by decide +kernel
theorem dX0_learn_2 : decode cX0_learn 2 = .ok (.putfield 68, 3) := by decide +kernel
theorem dX0_learn_5 : decode cX0_learn 5 = .ok (.aload_n 0, 1) := by decide +kernel
theorem dX0_learn_6 : decode cX0_learn 6 = .ok (.getfield 28, 3) := by decide +kernel
theorem dX0_learn_9 : decode cX0_learn 9 = .ok (.lookupswitch 49 #[(0, 27), (1, 36)], 27) := by decide +kernel
theorem dX0_learn_36 : decode cX0_learn 36 = .ok (.aload_n 0, 1) := by decide +kernel
theorem dX0_learn_37 : decode cX0_learn 37 = .ok (.iload_n 1, 1) := by decide +kernel
theorem dX0_learn_38 : decode cX0_learn 38 = .ok (.iload_n 2, 1) := by decide +kernel
theorem dX0_learn_39 : decode cX0_learn 39 = .ok (.invokevirtual 78, 3) := by decide +kernel
theorem dX0_learn_42 : decode cX0_learn 42 = .ok (.goto 26, 3) := by decide +kernel
theorem dX0_learn_45 : decode cX0_learn 45 = .ok (.iload_n 3, 1) := by decide +kernel
theorem dX0_learn_46 : decode cX0_learn 46 = .ok (.iconst 1, 1) := by decide +kernel
theorem dX0_learn_47 : decode cX0_learn 47 = .ok (.if_icmp .eq 21, 3) := by decide +kernel
theorem dX0_learn_50 : decode cX0_learn 50 = .ok (.aload_n 0, 1) := by decide +kernel
theorem dX0_learn_51 : decode cX0_learn 51 = .ok (.iload_n 2, 1) := by decide +kernel
theorem dX0_learn_52 : decode cX0_learn 52 = .ok (.invokevirtual 81, 3) := by decide +kernel
theorem dX0_learn_55 : decode cX0_learn 55 = .ok (.goto 13, 3) := by decide +kernel
theorem dX0_learn_58 : decode cX0_learn 58 = .ok (.iload_n 3, 1) := by decide +kernel
theorem dX0_learn_59 : decode cX0_learn 59 = .ok (.ifCond .ne 9, 3) := by decide +kernel
theorem dX0_learn_62 : decode cX0_learn 62 = .ok (.aload_n 0, 1) := by decide +kernel
theorem dX0_learn_63 : decode cX0_learn 63 = .ok (.iload_n 2, 1) := by decide +kernel
theorem dX0_learn_64 : decode cX0_learn 64 = .ok (.iconst 1, 1) := by decide +kernel
theorem dX0_learn_65 : decode cX0_learn 65 = .ok (.invokevirtual 85, 3) := by decide +kernel
theorem dX0_learn_68 : decode cX0_learn 68 = .ok (.return_, 1) := by decide +kernel
theorem dX0_learnStride_0 : decode cX0_learnStride 0 = .ok (.aload_n 0, 1) := by decide +kernel
theorem dX0_learnStride_1 : decode cX0_learnStride 1 = .ok (.getfield 14, 3) := by decide +kernel
theorem dX0_learnStride_4 : decode cX0_learnStride 4 = .ok (.iload_n 1, 1) := by decide +kernel
theorem dX0_learnStride_5 : decode cX0_learnStride 5 = .ok (.invokevirtual 88, 3) := by decide +kernel
theorem dX0_learnStride_8 : decode cX0_learnStride 8 = .ok (.istore_n 3, 1) := by decide +kernel
theorem dX0_learnStride_9 : decode cX0_learnStride 9 = .ok (.iload_n 3, 1) := by decide +kernel
theorem dX0_learnStride_10 : decode cX0_learnStride 10 = .ok (.ifCond .ge 11, 3) := by decide +kernel
theorem dX0_learnStride_13 : decode cX0_learnStride 13 = .ok (.aload_n 0, 1) := by decide +kernel
theorem dX0_learnStride_14 : decode cX0_learnStride 14 = .ok (.iconst 4, 1) := by decide +kernel
theorem dX0_learnStride_15 : decode cX0_learnStride 15 = .ok (.iload_n 1, 1) := by decide +kernel
theorem dX0_learnStride_16 : decode cX0_learnStride 16 = .ok (.iload_n 2, 1) := by decide +kernel
theorem dX0_learnStride_17 : decode cX0_learnStride 17 = .ok (.invokevirtual 92, 3) := by decide +kernel
theorem dX0_learnStride_20 : decode cX0_learnStride 20 = .ok (.return_, 1) := by decide +kernel
theorem dX0_learnStride_21 : decode cX0_learnStride 21 = .ok (.iload_n 2, 1) := by decide +kernel
theorem dX0_learnStride_22 : decode cX0_learnStride 22 = .ok (.aload_n 0, 1) := by decide +kernel
theorem dX0_learnStride_23 : decode cX0_learnStride 23 = .ok (.getfield 14, 3) := by decide +kernel
theorem dX0_learnStride_26 : decode cX0_learnStride 26 = .ok (.iload_n 3, 1) := by decide +kernel
theorem dX0_learnStride_27 : decode cX0_learnStride 27 = .ok (.iconst 1, 1) := by decide +kernel
theorem dX0_learnStride_28 : decode cX0_learnStride 28 = .ok (.invokevirtual 95, 3) := by decide +kernel
theorem dX0_learnStride_31 : decode cX0_learnStride 31 = .ok (.isub, 1) := by decide +kernel
theorem dX0_learnStride_32 : decode cX0_learnStride 32 = .ok (.istore 4, 2) := by decide +kernel
theorem dX0_learnStride_34 : decode cX0_learnStride 34 = .ok (.aload_n 0, 1) := by decide +kernel
theorem dX0_learnStride_35 : decode cX0_learnStride 35 = .ok (.getfield 14, 3) := by decide +kernel
theorem dX0_learnStride_38 : decode cX0_learnStride 38 = .ok (.iload_n 3, 1) := by decide +kernel
theorem dX0_learnStride_39 : decode cX0_learnStride 39 = .ok (.iconst 2, 1) := by decide +kernel
theorem dX0_learnStride_40 : decode cX0_learnStride 40 = .ok (.invokevirtual 95, 3) := by decide +kernel
theorem dX0_learnStride_43 : decode cX0_learnStride 43 = .ok (.istore 5, 2) := by decide +kernel
theorem dX0_learnStride_45 : decode cX0_learnStride 45 = .ok (.aload_n 0, 1) := by decide +kernel
theorem dX0_learnStride_46 : decode cX0_learnStride 46 = .ok (.getfield 14, 3) := by decide +kernel
theorem dX0_learnStride_49 : decode cX0_learnStride 49 = .ok (.iload_n 3, 1) := by decide +kernel
theorem dX0_learnStride_50 : decode cX0_learnStride 50 = .ok (.iconst 3, 1) := by decide +kernel
theorem dX0_learnStride_51 : decode cX0_learnStride 51 = .ok (.invokevirtual 95, 3) := by decide +kernel
theorem dX0_learnStride_54 : decode cX0_learnStride 54 = .ok (.istore 6, 2) := by decide +kernel
theorem dX0_learnStride_56 : decode cX0_learnStride 56 = .ok (.iload 4, 2) := by decide +kernel
theorem dX0_learnStride_58 : decode cX0_learnStride 58 = .ok (.iload 5, 2) := by decide +kernel
theorem dX0_learnStride_60 : decode cX0_learnStride 60 = .ok (.if_icmp .ne 21, 3) := by decide +kernel
theorem dX0_learnStride_63 : decode cX0_learnStride 63 = .ok (.iload 4, 2) := by decide +kernel
theorem dX0_learnStride_65 : decode cX0_learnStride 65 = .ok (.ifCond .eq 16, 3) := by decide +kernel
theorem dX0_learnStride_68 : decode cX0_learnStride 68 = .ok (.iconst 3, 1) := by decide +kernel
theorem dX0_learnStride_69 : decode cX0_learnStride 69 = .ok (.iload 6, 2) := by decide +kernel
theorem dX0_learnStride_71 : decode cX0_learnStride 71 = .ok (.iconst 1, 1) := by decide +kernel
theorem dX0_learnStride_72 : decode cX0_learnStride 72 = .ok (.iadd, 1) := by decide +kernel
theorem dX0_learnStride_73 : decode cX0_learnStride 73 = .ok (.invokestatic 99, 3) := by decide +kernel
theorem dX0_learnStride_76 : decode cX0_learnStride 76 = .ok (.istore 6, 2) := by decide +kernel
theorem dX0_learnStride_78 : decode cX0_learnStride 78 = .ok (.goto 27, 3) := by decide +kernel
theorem dX0_learnStride_81 : decode cX0_learnStride 81 = .ok (.iconst 0, 1) := by decide +kernel
theorem dX0_learnStride_82 : decode cX0_learnStride 82 = .ok (.iload 6, 2) := by decide +kernel
theorem dX0_learnStride_84 : decode cX0_learnStride 84 = .ok (.iconst 1, 1) := by decide +kernel
theorem dX0_learnStride_85 : decode cX0_learnStride 85 = .ok (.isub, 1) := by decide +kernel
theorem dX0_learnStride_86 : decode cX0_learnStride 86 = .ok (.invokestatic 104, 3) := by decide +kernel
theorem dX0_learnStride_89 : decode cX0_learnStride 89 = .ok (.istore 6, 2) := by decide +kernel
theorem dX0_learnStride_91 : decode cX0_learnStride 91 = .ok (.iload 6, 2) := by decide +kernel
theorem dX0_learnStride_93 : decode cX0_learnStride 93 = .ok (.ifCond .ne 8, 3) := by decide +kernel
theorem dX0_learnStride_96 : decode cX0_learnStride 96 = .ok (.iload 4, 2) := by decide +kernel
theorem dX0_learnStride_98 : decode cX0_learnStride 98 = .ok (.goto 5, 3) := by decide +kernel
theorem dX0_learnStride_101 : decode cX0_learnStride 101 = .ok (.iload 5, 2) := by decide +kernel
theorem dX0_learnStride_103 : decode cX0_learnStride 103 = .ok (.istore 5, 2) := by decide +kernel
theorem dX0_learnStride_105 : decode cX0_learnStride 105 = .ok (.aload_n 0, 1) := by decide +kernel
theorem dX0_learnStride_106 : decode cX0_learnStride 106 = .ok (.iload_n 3, 1) := by decide +kernel
theorem dX0_learnStride_107 : decode cX0_learnStride 107 = .ok (.iload_n 2, 1) := by decide +kernel
theorem dX0_learnStride_108 : decode cX0_learnStride 108 = .ok (.iload 5, 2) := by decide +kernel
theorem dX0_learnStride_110 : decode cX0_learnStride 110 = .ok (.iload 6, 2) := by decide +kernel
theorem dX0_learnStride_112 : decode cX0_learnStride 112 = .ok (.invokevirtual 107, 3) := by decide +kernel
theorem dX0_learnStride_115 : decode cX0_learnStride 115 = .ok (.return_, 1) := by decide +kernel
theorem dX0_learnStream_0 : decode cX0_learnStream 0 = .ok (.aload_n 0, 1) := by decide +kernel
theorem dX0_learnStream_1 : decode cX0_learnStream 1 = .ok (.iload_n 1, 1) := by decide +kernel
theorem dX0_learnStream_2 : decode cX0_learnStream 2 = .ok (.invokevirtual 111, 3) := by decide +kernel
theorem dX0_learnStream_5 : decode cX0_learnStream 5 = .ok (.istore_n 2, 1) := by decide +kernel
theorem dX0_learnStream_6 : decode cX0_learnStream 6 = .ok (.iload_n 2, 1) := by decide +kernel
theorem dX0_learnStream_7 : decode cX0_learnStream 7 = .ok (.ifCond .ge 12, 3) := by decide +kernel
theorem dX0_learnStream_10 : decode cX0_learnStream 10 = .ok (.aload_n 0, 1) := by decide +kernel
theorem dX0_learnStream_11 : decode cX0_learnStream 11 = .ok (.iconst 3, 1) := by decide +kernel
theorem dX0_learnStream_12 : decode cX0_learnStream 12 = .ok (.ldc 114, 2) := by decide +kernel
theorem dX0_learnStream_14 : decode cX0_learnStream 14 = .ok (.iload_n 1, 1) := by decide +kernel
theorem dX0_learnStream_15 : decode cX0_learnStream 15 = .ok (.invokevirtual 92, 3) := by decide +kernel
theorem dX0_learnStream_18 : decode cX0_learnStream 18 = .ok (.return_, 1) := by decide +kernel
theorem dX0_learnStream_19 : decode cX0_learnStream 19 = .ok (.iload_n 1, 1) := by decide +kernel
theorem dX0_learnStream_20 : decode cX0_learnStream 20 = .ok (.aload_n 0, 1) := by decide +kernel
theorem dX0_learnStream_21 : decode cX0_learnStream 21 = .ok (.getfield 14, 3) := by decide +kernel
theorem dX0_learnStream_24 : decode cX0_learnStream 24 = .ok (.iload_n 2, 1) := by decide +kernel
theorem dX0_learnStream_25 : decode cX0_learnStream 25 = .ok (.iconst 1, 1) := by decide +kernel
theorem dX0_learnStream_26 : decode cX0_learnStream 26 = .ok (.invokevirtual 95, 3) := by decide +kernel
theorem dX0_learnStream_29 : decode cX0_learnStream 29 = .ok (.if_icmp .le 7, 3) := by decide +kernel
theorem dX0_learnStream_32 : decode cX0_learnStream 32 = .ok (.iconst 1, 1) := by decide +kernel
theorem dX0_learnStream_33 : decode cX0_learnStream 33 = .ok (.goto 4, 3) := by decide +kernel
theorem dX0_learnStream_36 : decode cX0_learnStream 36 = .ok (.iconst (-1), 1) := by decide +kernel
theorem dX0_learnStream_37 : decode cX0_learnStream 37 = .ok (.istore_n 3, 1) := by decide +kernel
theorem dX0_learnStream_38 : decode cX0_learnStream 38 = .ok (.iconst 1, 1) := by decide +kernel
theorem dX0_learnStream_39 : decode cX0_learnStream 39 = .ok (.istore 4, 2) := by decide +kernel
theorem dX0_learnStream_41 : decode cX0_learnStream 41 = .ok (.iload_n 3, 1) := by decide +kernel
theorem dX0_learnStream_42 : decode cX0_learnStream 42 = .ok (.aload_n 0, 1) := by decide +kernel
theorem dX0_learnStream_43 : decode cX0_learnStream 43 = .ok (.getfield 14, 3) := by decide +kernel
theorem dX0_learnStream_46 : decode cX0_learnStream 46 = .ok (.iload_n 2, 1) := by decide +kernel
theorem dX0_learnStream_47 : decode cX0_learnStream 47 = .ok (.iconst 2, 1) := by decide +kernel
theorem dX0_learnStream_48 : decode cX0_learnStream 48 = .ok (.invokevirtual 95, 3) := by decide +kernel
theorem dX0_learnStream_51 : decode cX0_learnStream 51 = .ok (.if_icmp .ne 21, 3) := by decide +kernel
theorem dX0_learnStream_54 : decode cX0_learnStream 54 = .ok (.bipush 9, 2) := by decide +kernel
theorem dX0_learnStream_56 : decode cX0_learnStream 56 = .ok (.aload_n 0, 1) := by decide +kernel
theorem dX0_learnStream_57 : decode cX0_learnStream 57 = .ok (.getfield 14, 3) := by decide +kernel
theorem dX0_learnStream_60 : decode cX0_learnStream 60 = .ok (.iload_n 2, 1) := by decide +kernel
theorem dX0_learnStream_61 : decode cX0_learnStream 61 = .ok (.iconst 3, 1) := by decide +kernel
theorem dX0_learnStream_62 : decode cX0_learnStream 62 = .ok (.invokevirtual 95, 3) := by decide +kernel
theorem dX0_learnStream_65 : decode cX0_learnStream 65 = .ok (.iconst 1, 1) := by decide +kernel
theorem dX0_learnStream_66 : decode cX0_learnStream 66 = .ok (.iadd, 1) := by decide +kernel
theorem dX0_learnStream_67 : decode cX0_learnStream 67 = .ok (.invokestatic 99, 3) := by decide +kernel
theorem dX0_learnStream_70 : decode cX0_learnStream 70 = .ok (.istore 4, 2) := by decide +kernel
theorem dX0_learnStream_72 : decode cX0_learnStream 72 = .ok (.aload_n 0, 1) := by decide +kernel
theorem dX0_learnStream_73 : decode cX0_learnStream 73 = .ok (.iload_n 2, 1) := by decide +kernel
theorem dX0_learnStream_74 : decode cX0_learnStream 74 = .ok (.iload_n 1, 1) := by decide +kernel
theorem dX0_learnStream_75 : decode cX0_learnStream 75 = .ok (.iload_n 3, 1) := by decide +kernel
theorem dX0_learnStream_76 : decode cX0_learnStream 76 = .ok (.iload 4, 2) := by decide +kernel
theorem dX0_learnStream_78 : decode cX0_learnStream 78 = .ok (.invokevirtual 107, 3) := by decide +kernel
theorem dX0_learnStream_81 : decode cX0_learnStream 81 = .ok (.return_, 1) := by decide +kernel
theorem dX0_streamNear_0 : decode cX0_streamNear 0 = .ok (.aload_n 0, 1) := by decide +kernel
theorem dX0_streamNear_1 : decode cX0_streamNear 1 = .ok (.getfield 14, 3) := by decide +kernel
theorem dX0_streamNear_4 : decode cX0_streamNear 4 = .ok (.getfield 71, 3) := by decide +kernel
theorem dX0_streamNear_7 : decode cX0_streamNear 7 = .ok (.iconst 1, 1) := by decide +kernel
theorem dX0_streamNear_8 : decode cX0_streamNear 8 = .ok (.isub, 1) := by decide +kernel
theorem dX0_streamNear_9 : decode cX0_streamNear 9 = .ok (.istore_n 2, 1) := by decide +kernel
theorem dX0_streamNear_10 : decode cX0_streamNear 10 = .ok (.iload_n 2, 1) := by decide +kernel
theorem dX0_streamNear_11 : decode cX0_streamNear 11 = .ok (.ifCond .lt 36, 3) := by decide +kernel
theorem dX0_streamNear_14 : decode cX0_streamNear 14 = .ok (.iload_n 1, 1) := by decide +kernel
theorem dX0_streamNear_15 : decode cX0_streamNear 15 = .ok (.aload_n 0, 1) := by decide +kernel
theorem dX0_streamNear_16 : decode cX0_streamNear 16 = .ok (.getfield 14, 3) := by decide +kernel
theorem dX0_streamNear_19 : decode cX0_streamNear 19 = .ok (.iload_n 2, 1) := by decide +kernel
theorem dX0_streamNear_20 : decode cX0_streamNear 20 = .ok (.iconst 1, 1) := by decide +kernel
theorem dX0_streamNear_21 : decode cX0_streamNear 21 = .ok (.invokevirtual 95, 3) := by decide +kernel
theorem dX0_streamNear_24 : decode cX0_streamNear 24 = .ok (.isub, 1) := by decide +kernel
theorem dX0_streamNear_25 : decode cX0_streamNear 25 = .ok (.invokestatic 115, 3) := by decide +kernel
theorem dX0_streamNear_28 : decode cX0_streamNear 28 = .ok (.istore_n 3, 1) := by decide +kernel
theorem dX0_streamNear_29 : decode cX0_streamNear 29 = .ok (.iload_n 3, 1) := by decide +kernel
theorem dX0_streamNear_30 : decode cX0_streamNear 30 = .ok (.iconst 1, 1) := by decide +kernel
theorem dX0_streamNear_31 : decode cX0_streamNear 31 = .ok (.if_icmp .lt 10, 3) := by decide +kernel
theorem dX0_streamNear_34 : decode cX0_streamNear 34 = .ok (.iload_n 3, 1) := by decide +kernel
theorem dX0_streamNear_35 : decode cX0_streamNear 35 = .ok (.iconst 4, 1) := by decide +kernel
theorem dX0_streamNear_36 : decode cX0_streamNear 36 = .ok (.if_icmp .gt 5, 3) := by decide +kernel
theorem dX0_streamNear_39 : decode cX0_streamNear 39 = .ok (.iload_n 2, 1) := by decide +kernel
theorem dX0_streamNear_40 : decode cX0_streamNear 40 = .ok (.ireturn, 1) := by decide +kernel
theorem dX0_streamNear_41 : decode cX0_streamNear 41 = .ok (.iinc 2 (-1), 3) := by decide +kernel
theorem dX0_streamNear_44 : decode cX0_streamNear 44 = .ok (.goto (-34), 3) := by decide +kernel
theorem dX0_streamNear_47 : decode cX0_streamNear 47 = .ok (.ldc 114, 2) := by decide +kernel
theorem dX0_streamNear_49 : decode cX0_streamNear 49 = .ok (.ireturn, 1) := by decide +kernel
theorem dX0_addRow_0 : decode cX0_addRow 0 = .ok (.aload_n 0, 1) := by decide +kernel
theorem dX0_addRow_1 : decode cX0_addRow 1 = .ok (.getfield 14, 3) := by decide +kernel
theorem dX0_addRow_4 : decode cX0_addRow 4 = .ok (.iload_n 1, 1) := by decide +kernel
theorem dX0_addRow_5 : decode cX0_addRow 5 = .ok (.invokevirtual 118, 3) := by decide +kernel
theorem dX0_addRow_8 : decode cX0_addRow 8 = .ok (.istore 4, 2) := by decide +kernel
theorem dX0_addRow_10 : decode cX0_addRow 10 = .ok (.aload_n 0, 1) := by decide +kernel
theorem dX0_addRow_11 : decode cX0_addRow 11 = .ok (.getfield 14, 3) := by decide +kernel
theorem dX0_addRow_14 : decode cX0_addRow 14 = .ok (.iload 4, 2) := by decide +kernel
theorem dX0_addRow_16 : decode cX0_addRow 16 = .ok (.iconst 0, 1) := by decide +kernel
theorem dX0_addRow_17 : decode cX0_addRow 17 = .ok (.iload_n 2, 1) := by decide +kernel
theorem dX0_addRow_18 : decode cX0_addRow 18 = .ok (.invokevirtual 121, 3) := by decide +kernel
theorem dX0_addRow_21 : decode cX0_addRow 21 = .ok (.aload_n 0, 1) := by decide +kernel
theorem dX0_addRow_22 : decode cX0_addRow 22 = .ok (.getfield 14, 3) := by decide +kernel
theorem dX0_addRow_25 : decode cX0_addRow 25 = .ok (.iload 4, 2) := by decide +kernel
theorem dX0_addRow_27 : decode cX0_addRow 27 = .ok (.iconst 1, 1) := by decide +kernel
theorem dX0_addRow_28 : decode cX0_addRow 28 = .ok (.iload_n 3, 1) := by decide +kernel
theorem dX0_addRow_29 : decode cX0_addRow 29 = .ok (.invokevirtual 121, 3) := by decide +kernel
theorem dX0_addRow_32 : decode cX0_addRow 32 = .ok (.aload_n 0, 1) := by decide +kernel
theorem dX0_addRow_33 : decode cX0_addRow 33 = .ok (.getfield 14, 3) := by decide +kernel
theorem dX0_addRow_36 : decode cX0_addRow 36 = .ok (.iload 4, 2) := by decide +kernel
theorem dX0_addRow_38 : decode cX0_addRow 38 = .ok (.iconst 2, 1) := by decide +kernel
theorem dX0_addRow_39 : decode cX0_addRow 39 = .ok (.iconst 0, 1) := by decide +kernel
theorem dX0_addRow_40 : decode cX0_addRow 40 = .ok (.invokevirtual 121, 3) := by decide +kernel
theorem dX0_addRow_43 : decode cX0_addRow 43 = .ok (.aload_n 0, 1) := by decide +kernel
theorem dX0_addRow_44 : decode cX0_addRow 44 = .ok (.getfield 14, 3) := by decide +kernel
theorem dX0_addRow_47 : decode cX0_addRow 47 = .ok (.iload 4, 2) := by decide +kernel
theorem dX0_addRow_49 : decode cX0_addRow 49 = .ok (.iconst 3, 1) := by decide +kernel
theorem dX0_addRow_50 : decode cX0_addRow 50 = .ok (.iconst 0, 1) := by decide +kernel
theorem dX0_addRow_51 : decode cX0_addRow 51 = .ok (.invokevirtual 121, 3) := by decide +kernel
theorem dX0_addRow_54 : decode cX0_addRow 54 = .ok (.return_, 1) := by decide +kernel
theorem dX0_updateRow_0 : decode cX0_updateRow 0 = .ok (.aload_n 0, 1) := by decide +kernel
theorem dX0_updateRow_1 : decode cX0_updateRow 1 = .ok (.getfield 14, 3) := by decide +kernel
theorem dX0_updateRow_4 : decode cX0_updateRow 4 = .ok (.iload_n 1, 1) := by decide +kernel
theorem dX0_updateRow_5 : decode cX0_updateRow 5 = .ok (.iconst 1, 1) := by decide +kernel
theorem dX0_updateRow_6 : decode cX0_updateRow 6 = .ok (.iload_n 2, 1) := by decide +kernel
theorem dX0_updateRow_7 : decode cX0_updateRow 7 = .ok (.invokevirtual 121, 3) := by decide +kernel
theorem dX0_updateRow_10 : decode cX0_updateRow 10 = .ok (.aload_n 0, 1) := by decide +kernel
theorem dX0_updateRow_11 : decode cX0_updateRow 11 = .ok (.getfield 14, 3) := by decide +kernel
theorem dX0_updateRow_14 : decode cX0_updateRow 14 = .ok (.iload_n 1, 1) := by decide +kernel
theorem dX0_updateRow_15 : decode cX0_updateRow 15 = .ok (.iconst 2, 1) := by decide +kernel
theorem dX0_updateRow_16 : decode cX0_updateRow 16 = .ok (.iload_n 3, 1) := by decide +kernel
theorem dX0_updateRow_17 : decode cX0_updateRow 17 = .ok (.invokevirtual 121, 3) := by decide +kernel
theorem dX0_updateRow_20 : decode cX0_updateRow 20 = .ok (.aload_n 0, 1) := by decide +kernel
theorem dX0_updateRow_21 : decode cX0_updateRow 21 = .ok (.getfield 14, 3) := by decide +kernel
theorem dX0_updateRow_24 : decode cX0_updateRow 24 = .ok (.iload_n 1, 1) := by decide +kernel
theorem dX0_updateRow_25 : decode cX0_updateRow 25 = .ok (.iconst 3, 1) := by decide +kernel
theorem dX0_updateRow_26 : decode cX0_updateRow 26 = .ok (.iload 4, 2) := by decide +kernel
theorem dX0_updateRow_28 : decode cX0_updateRow 28 = .ok (.invokevirtual 121, 3) := by decide +kernel
theorem dX0_updateRow_31 : decode cX0_updateRow 31 = .ok (.aload_n 0, 1) := by decide +kernel
theorem dX0_updateRow_32 : decode cX0_updateRow 32 = .ok (.getfield 14, 3) := by decide +kernel
theorem dX0_updateRow_35 : decode cX0_updateRow 35 = .ok (.iload_n 1, 1) := by decide +kernel
theorem dX0_updateRow_36 : decode cX0_updateRow 36 = .ok (.invokevirtual 124, 3) := by decide +kernel
theorem dX0_updateRow_39 : decode cX0_updateRow 39 = .ok (.iload 4, 2) := by decide +kernel
theorem dX0_updateRow_41 : decode cX0_updateRow 41 = .ok (.iconst 2, 1) := by decide +kernel
theorem dX0_updateRow_42 : decode cX0_updateRow 42 = .ok (.if_icmp .lt 9, 3) := by decide +kernel
theorem dX0_updateRow_45 : decode cX0_updateRow 45 = .ok (.aload_n 0, 1) := by decide +kernel
theorem dX0_updateRow_46 : decode cX0_updateRow 46 = .ok (.iload_n 2, 1) := by decide +kernel
theorem dX0_updateRow_47 : decode cX0_updateRow 47 = .ok (.iload_n 3, 1) := by decide +kernel
theorem dX0_updateRow_48 : decode cX0_updateRow 48 = .ok (.invokevirtual 85, 3) := by decide +kernel
theorem dX0_updateRow_51 : decode cX0_updateRow 51 = .ok (.return_, 1) := by decide +kernel
theorem dX0_wish_0 : decode cX0_wish 0 = .ok (.aload_n 0, 1) := by decide +kernel
theorem dX0_wish_1 : decode cX0_wish 1 = .ok (.invokevirtual 127, 3) := by decide +kernel
theorem dX0_wish_4 : decode cX0_wish 4 = .ok (.istore_n 3, 1) := by decide +kernel
theorem dX0_wish_5 : decode cX0_wish 5 = .ok (.iconst 1, 1) := by decide +kernel
theorem dX0_wish_6 : decode cX0_wish 6 = .ok (.istore 4, 2) := by decide +kernel
theorem dX0_wish_8 : decode cX0_wish 8 = .ok (.iload 4, 2) := by decide +kernel
theorem dX0_wish_10 : decode cX0_wish 10 = .ok (.iload_n 3, 1) := by decide +kernel
theorem dX0_wish_11 : decode cX0_wish 11 = .ok (.if_icmp .gt 62, 3) := by decide +kernel
theorem dX0_wish_14 : decode cX0_wish 14 = .ok (.aload_n 0, 1) := by decide +kernel
theorem dX0_wish_15 : decode cX0_wish 15 = .ok (.getfield 68, 3) := by decide +kernel
theorem dX0_wish_18 : decode cX0_wish 18 = .ok (.aload_n 0, 1) := by decide +kernel
theorem dX0_wish_19 : decode cX0_wish 19 = .ok (.getfield 20, 3) := by decide +kernel
theorem dX0_wish_22 : decode cX0_wish 22 = .ok (.arraylength, 1) := by decide +kernel
theorem dX0_wish_23 : decode cX0_wish 23 = .ok (.if_icmp .ge 50, 3) := by decide +kernel
theorem dX0_wish_26 : decode cX0_wish 26 = .ok (.iload_n 1, 1) := by decide +kernel
theorem dX0_wish_27 : decode cX0_wish 27 = .ok (.iload 4, 2) := by decide +kernel
theorem dX0_wish_29 : decode cX0_wish 29 = .ok (.iload_n 2, 1) := by decide +kernel
theorem dX0_wish_30 : decode cX0_wish 30 = .ok (.imul, 1) := by decide +kernel
theorem dX0_wish_31 : decode cX0_wish 31 = .ok (.iadd, 1) := by decide +kernel
theorem dX0_wish_32 : decode cX0_wish 32 = .ok (.istore 5, 2) := by decide +kernel
theorem dX0_wish_34 : decode cX0_wish 34 = .ok (.iload 5, 2) := by decide +kernel
theorem dX0_wish_36 : decode cX0_wish 36 = .ok (.iconst 0, 1) := by decide +kernel
theorem dX0_wish_37 : decode cX0_wish 37 = .ok (.sipush 9999, 3) := by decide +kernel
theorem dX0_wish_40 : decode cX0_wish 40 = .ok (.invokestatic 131, 3) := by decide +kernel
theorem dX0_wish_43 : decode cX0_wish 43 = .ok (.ifCond .ne 24, 3) := by decide +kernel
theorem dX0_wish_46 : decode cX0_wish 46 = .ok (.aload_n 0, 1) := by decide +kernel
theorem dX0_wish_47 : decode cX0_wish 47 = .ok (.getfield 20, 3) := by decide +kernel
theorem dX0_wish_50 : decode cX0_wish 50 = .ok (.aload_n 0, 1) := by decide +kernel
theorem dX0_wish_51 : decode cX0_wish 51 = .ok (.getfield 68, 3) := by decide +kernel
theorem dX0_wish_54 : decode cX0_wish 54 = .ok (.iload 5, 2) := by decide +kernel
theorem dX0_wish_56 : decode cX0_wish 56 = .ok (.iastore, 1) := by decide +kernel
theorem dX0_wish_57 : decode cX0_wish 57 = .ok (.aload_n 0, 1) := by decide +kernel
theorem dX0_wish_58 : decode cX0_wish 58 = .ok (.dup, 1) := by decide +kernel
theorem dX0_wish_59 : decode cX0_wish 59 = .ok (.getfield 68, 3) := by decide +kernel
theorem dX0_wish_62 : decode cX0_wish 62 = .ok (.iconst 1, 1) := by decide +kernel
theorem dX0_wish_63 : decode cX0_wish 63 = .ok (.iadd, 1) := by decide +kernel
theorem dX0_wish_64 : decode cX0_wish 64 = .ok (.putfield 68, 3) := by decide +kernel
theorem dX0_wish_67 : decode cX0_wish 67 = .ok (.iinc 4 1, 3) := by decide +kernel
theorem dX0_wish_70 : decode cX0_wish 70 = .ok (.goto (-62), 3) := by decide +kernel
theorem dX0_wish_73 : decode cX0_wish 73 = .ok (.return_, 1) := by decide +kernel
theorem dX0_wishAt_0 : decode cX0_wishAt 0 = .ok (.iload_n 1, 1) := by decide +kernel
theorem dX0_wishAt_1 : decode cX0_wishAt 1 = .ok (.ifCond .lt 29, 3) := by decide +kernel
theorem dX0_wishAt_4 : decode cX0_wishAt 4 = .ok (.iload_n 1, 1) := by decide +kernel
theorem dX0_wishAt_5 : decode cX0_wishAt 5 = .ok (.aload_n 0, 1) := by decide +kernel
theorem dX0_wishAt_6 : decode cX0_wishAt 6 = .ok (.getfield 68, 3) := by decide +kernel
theorem dX0_wishAt_9 : decode cX0_wishAt 9 = .ok (.if_icmp .ge 21, 3) := by decide +kernel
theorem dX0_wishAt_12 : decode cX0_wishAt 12 = .ok (.iload_n 1, 1) := by decide +kernel
theorem dX0_wishAt_13 : decode cX0_wishAt 13 = .ok (.aload_n 0, 1) := by decide +kernel
theorem dX0_wishAt_14 : decode cX0_wishAt 14 = .ok (.getfield 20, 3) := by decide +kernel
theorem dX0_wishAt_17 : decode cX0_wishAt 17 = .ok (.arraylength, 1) := by decide +kernel
theorem dX0_wishAt_18 : decode cX0_wishAt 18 = .ok (.if_icmp .ge 12, 3) := by decide +kernel
theorem dX0_wishAt_21 : decode cX0_wishAt 21 = .ok (.aload_n 0, 1) := by decide +kernel
theorem dX0_wishAt_22 : decode cX0_wishAt 22 = .ok (.getfield 20, 3) := by decide +kernel
theorem dX0_wishAt_25 : decode cX0_wishAt 25 = .ok (.iload_n 1, 1) := by decide +kernel
theorem dX0_wishAt_26 : decode cX0_wishAt 26 = .ok (.iaload, 1) := by decide +kernel
theorem dX0_wishAt_27 : decode cX0_wishAt 27 = .ok (.goto 5, 3) := by decide +kernel
theorem dX0_wishAt_30 : decode cX0_wishAt 30 = .ok (.ldc 114, 2) := by decide +kernel
theorem dX0_wishAt_32 : decode cX0_wishAt 32 = .ok (.ireturn, 1) := by decide +kernel
theorem dX1_init_0 : decode cX1_init 0 = .ok (.aload_n 0, 1) := by decide +kernel
theorem dX1_init_1 : decode cX1_init 1 = .ok (.invokespecial 3, 3) := by decide +kernel
theorem dX1_init_4 : decode cX1_init 4 = .ok (.aload_n 0, 1) := by decide +kernel
theorem dX1_init_5 : decode cX1_init 5 = .ok (.iconst 1, 1) := by decide +kernel
theorem dX1_init_6 : decode cX1_init 6 = .ok (.iload_n 1, 1) := by decide +kernel
theorem dX1_init_7 : decode cX1_init 7 = .ok (.invokestatic 9, 3) := by decide +kernel
theorem dX1_init_10 : decode cX1_init 10 = .ok (.putfield 15, 3) := by decide +kernel
theorem dX1_init_13 : decode cX1_init 13 = .ok (.aload_n 0, 1) := by decide +kernel
theorem dX1_init_14 : decode cX1_init 14 = .ok (.iconst 1, 1) := by decide +kernel
theorem dX1_init_15 : decode cX1_init 15 = .ok (.iload_n 2, 1) := by decide +kernel
theorem dX1_init_16 : decode cX1_init 16 = .ok (.invokestatic 9, 3) := by decide +kernel
theorem dX1_init_19 : decode cX1_init 19 = .ok (.putfield 21, 3) := by decide +kernel
theorem dX1_init_22 : decode cX1_init 22 = .ok (.aload_n 0, 1) := by decide +kernel
theorem dX1_init_23 : decode cX1_init 23 = .ok (.aload_n 0, 1) := by decide +kernel
theorem dX1_init_24 : decode cX1_init 24 = .ok (.getfield 15, 3) := by decide +kernel
theorem dX1_init_27 : decode cX1_init 27 = .ok (.aload_n 0, 1) := by decide +kernel
theorem dX1_init_28 : decode cX1_init 28 = .ok (.getfield 21, 3) := by decide +kernel
theorem dX1_init_31 : decode cX1_init 31 = .ok (.imul, 1) := by decide +kernel
theorem dX1_init_32 : decode cX1_init 32 = .ok (.newarray .int, 2) := by decide +kernel
theorem dX1_init_34 : decode cX1_init 34 = .ok (.putfield 24, 3) := by decide +kernel
theorem dX1_init_37 : decode cX1_init 37 = .ok (.aload_n 0, 1) := by decide +kernel
theorem dX1_init_38 : decode cX1_init 38 = .ok (.iconst 0, 1) := by decide +kernel
theorem dX1_init_39 : decode cX1_init 39 = .ok (.putfield 28, 3) := by decide +kernel
theorem dX1_init_42 : decode cX1_init 42 = .ok (.return_, 1) := by decide +kernel
theorem dX1_copyFrom_0 : decode cX1_copyFrom 0 = .ok (.aload_n 0, 1) := by decide +kernel
theorem dX1_copyFrom_1 : decode cX1_copyFrom 1 = .ok (.aload_n 1, 1) := by decide +kernel
theorem dX1_copyFrom_2 : decode cX1_copyFrom 2 = .ok (.getfield 28, 3) := by decide +kernel
theorem dX1_copyFrom_5 : decode cX1_copyFrom 5 = .ok (.aload_n 0, 1) := by decide +kernel
theorem dX1_copyFrom_6 : decode cX1_copyFrom 6 = .ok (.getfield 15, 3) := by decide +kernel
theorem dX1_copyFrom_9 : decode cX1_copyFrom 9 = .ok (.invokestatic 31, 3) := by decide +kernel
theorem dX1_copyFrom_12 : decode cX1_copyFrom 12 = .ok (.putfield 28, 3) := by decide +kernel
theorem dX1_copyFrom_15 : decode cX1_copyFrom 15 = .ok (.iconst 0, 1) := by decide +kernel
theorem dX1_copyFrom_16 : decode cX1_copyFrom 16 = .ok (.istore_n 2, 1) := by decide +kernel
theorem dX1_copyFrom_17 : decode cX1_copyFrom 17 = .ok (.iload_n 2, 1) := by decide +kernel
theorem dX1_copyFrom_18 : decode cX1_copyFrom 18 = .ok (.aload_n 0, 1) := by decide +kernel
theorem dX1_copyFrom_19 : decode cX1_copyFrom 19 = .ok (.getfield 24, 3) := by decide +kernel
theorem dX1_copyFrom_22 : decode cX1_copyFrom 22 = .ok (.arraylength, 1) := by decide +kernel
theorem dX1_copyFrom_23 : decode cX1_copyFrom 23 = .ok (.if_icmp .ge 30, 3) := by decide +kernel
theorem dX1_copyFrom_26 : decode cX1_copyFrom 26 = .ok (.iload_n 2, 1) := by decide +kernel
theorem dX1_copyFrom_27 : decode cX1_copyFrom 27 = .ok (.aload_n 1, 1) := by decide +kernel
theorem dX1_copyFrom_28 : decode cX1_copyFrom 28 = .ok (.getfield 24, 3) := by decide +kernel
theorem dX1_copyFrom_31 : decode cX1_copyFrom 31 = .ok (.arraylength, 1) := by decide +kernel
theorem dX1_copyFrom_32 : decode cX1_copyFrom 32 = .ok (.if_icmp .ge 21, 3) := by decide +kernel
theorem dX1_copyFrom_35 : decode cX1_copyFrom 35 = .ok (.aload_n 0, 1) := by decide +kernel
theorem dX1_copyFrom_36 : decode cX1_copyFrom 36 = .ok (.getfield 24, 3) := by decide +kernel
theorem dX1_copyFrom_39 : decode cX1_copyFrom 39 = .ok (.iload_n 2, 1) := by decide +kernel
theorem dX1_copyFrom_40 : decode cX1_copyFrom 40 = .ok (.aload_n 1, 1) := by decide +kernel
theorem dX1_copyFrom_41 : decode cX1_copyFrom 41 = .ok (.getfield 24, 3) := by decide +kernel
theorem dX1_copyFrom_44 : decode cX1_copyFrom 44 = .ok (.iload_n 2, 1) := by decide +kernel
theorem dX1_copyFrom_45 : decode cX1_copyFrom 45 = .ok (.iaload, 1) := by decide +kernel
theorem dX1_copyFrom_46 : decode cX1_copyFrom 46 = .ok (.iastore, 1) := by decide +kernel
theorem dX1_copyFrom_47 : decode cX1_copyFrom 47 = .ok (.iinc 2 1, 3) := by decide +kernel
theorem dX1_copyFrom_50 : decode cX1_copyFrom 50 = .ok (.goto (-33), 3) := by decide +kernel
theorem dX1_copyFrom_53 : decode cX1_copyFrom 53 = .ok (.return_, 1) := by decide +kernel
theorem dX1_holds_0 : decode cX1_holds 0 = .ok (.iload_n 1, 1) := by decide +kernel
theorem dX1_holds_1 : decode cX1_holds 1 = .ok (.ifCond .lt 27, 3) := by decide +kernel
theorem dX1_holds_4 : decode cX1_holds 4 = .ok (.iload_n 1, 1) := by decide +kernel
theorem dX1_holds_5 : decode cX1_holds 5 = .ok (.aload_n 0, 1) := by decide +kernel
theorem dX1_holds_6 : decode cX1_holds 6 = .ok (.getfield 28, 3) := by decide +kernel
theorem dX1_holds_9 : decode cX1_holds 9 = .ok (.if_icmp .ge 19, 3) := by decide +kernel
theorem dX1_holds_12 : decode cX1_holds 12 = .ok (.iload_n 2, 1) := by decide +kernel
theorem dX1_holds_13 : decode cX1_holds 13 = .ok (.ifCond .lt 15, 3) := by decide +kernel
theorem dX1_holds_16 : decode cX1_holds 16 = .ok (.iload_n 2, 1) := by decide +kernel
theorem dX1_holds_17 : decode cX1_holds 17 = .ok (.aload_n 0, 1) := by decide +kernel
theorem dX1_holds_18 : decode cX1_holds 18 = .ok (.getfield 21, 3) := by decide +kernel
theorem dX1_holds_21 : decode cX1_holds 21 = .ok (.if_icmp .ge 7, 3) := by decide +kernel
theorem dX1_holds_24 : decode cX1_holds 24 = .ok (.iconst 1, 1) := by decide +kernel
theorem dX1_holds_25 : decode cX1_holds 25 = .ok (.goto 4, 3) := by decide +kernel
theorem dX1_holds_28 : decode cX1_holds 28 = .ok (.iconst 0, 1) := by decide +kernel
theorem dX1_holds_29 : decode cX1_holds 29 = .ok (.ireturn, 1) := by decide +kernel
theorem dX1_get_0 : decode cX1_get 0 = .ok (.aload_n 0, 1) := by decide +kernel
theorem dX1_get_1 : decode cX1_get 1 = .ok (.iload_n 1, 1) := by decide +kernel
theorem dX1_get_2 : decode cX1_get 2 = .ok (.iload_n 2, 1) := by decide +kernel
theorem dX1_get_3 : decode cX1_get 3 = .ok (.invokevirtual 34, 3) := by decide +kernel
theorem dX1_get_6 : decode cX1_get 6 = .ok (.ifCond .eq 19, 3) := by decide +kernel
theorem dX1_get_9 : decode cX1_get 9 = .ok (.aload_n 0, 1) := by decide +kernel
theorem dX1_get_10 : decode cX1_get 10 = .ok (.getfield 24, 3) := by decide +kernel
theorem dX1_get_13 : decode cX1_get 13 = .ok (.iload_n 1, 1) := by decide +kernel
theorem dX1_get_14 : decode cX1_get 14 = .ok (.aload_n 0, 1) := by decide +kernel
theorem dX1_get_15 : decode cX1_get 15 = .ok (.getfield 21, 3) := by decide +kernel
theorem dX1_get_18 : decode cX1_get 18 = .ok (.imul, 1) := by decide +kernel
theorem dX1_get_19 : decode cX1_get 19 = .ok (.iload_n 2, 1) := by decide +kernel
theorem dX1_get_20 : decode cX1_get 20 = .ok (.iadd, 1) := by decide +kernel
theorem dX1_get_21 : decode cX1_get 21 = .ok (.iaload, 1) := by decide +kernel
theorem dX1_get_22 : decode cX1_get 22 = .ok (.goto 5, 3) := by decide +kernel
theorem dX1_get_25 : decode cX1_get 25 = .ok (.ldc 38, 2) := by decide +kernel
theorem dX1_get_27 : decode cX1_get 27 = .ok (.ireturn, 1) := by decide +kernel
theorem dX1_put_0 : decode cX1_put 0 = .ok (.aload_n 0, 1) := by decide +kernel
theorem dX1_put_1 : decode cX1_put 1 = .ok (.iload_n 1, 1) := by decide +kernel
theorem dX1_put_2 : decode cX1_put 2 = .ok (.iload_n 2, 1) := by decide +kernel
theorem dX1_put_3 : decode cX1_put 3 = .ok (.invokevirtual 34, 3) := by decide +kernel
theorem dX1_put_6 : decode cX1_put 6 = .ok (.ifCond .eq 17, 3) := by decide +kernel
theorem dX1_put_9 : decode cX1_put 9 = .ok (.aload_n 0, 1) := by decide +kernel
theorem dX1_put_10 : decode cX1_put 10 = .ok (.getfield 24, 3) := by decide +kernel
theorem dX1_put_13 : decode cX1_put 13 = .ok (.iload_n 1, 1) := by decide +kernel
theorem dX1_put_14 : decode cX1_put 14 = .ok (.aload_n 0, 1) := by decide +kernel
theorem dX1_put_15 : decode cX1_put 15 = .ok (.getfield 21, 3) := by decide +kernel
theorem dX1_put_18 : decode cX1_put 18 = .ok (.imul, 1) := by decide +kernel
theorem dX1_put_19 : decode cX1_put 19 = .ok (.iload_n 2, 1) := by decide +kernel
theorem dX1_put_20 : decode cX1_put 20 = .ok (.iadd, 1) := by decide +kernel
theorem dX1_put_21 : decode cX1_put 21 = .ok (.iload_n 3, 1) := by decide +kernel
theorem dX1_put_22 : decode cX1_put 22 = .ok (.iastore, 1) := by decide +kernel
theorem dX1_put_23 : decode cX1_put 23 = .ok (.return_, 1) := by decide +kernel
theorem dX1_find_0 : decode cX1_find 0 = .ok (.iconst 0, 1) := by decide +kernel
theorem dX1_find_1 : decode cX1_find 1 = .ok (.istore_n 2, 1) := by decide +kernel
theorem dX1_find_2 : decode cX1_find 2 = .ok (.iload_n 2, 1) := by decide +kernel
theorem dX1_find_3 : decode cX1_find 3 = .ok (.aload_n 0, 1) := by decide +kernel
theorem dX1_find_4 : decode cX1_find 4 = .ok (.getfield 28, 3) := by decide +kernel
theorem dX1_find_7 : decode cX1_find 7 = .ok (.if_icmp .ge 26, 3) := by decide +kernel
theorem dX1_find_10 : decode cX1_find 10 = .ok (.aload_n 0, 1) := by decide +kernel
theorem dX1_find_11 : decode cX1_find 11 = .ok (.getfield 24, 3) := by decide +kernel
theorem dX1_find_14 : decode cX1_find 14 = .ok (.iload_n 2, 1) := by decide +kernel
theorem dX1_find_15 : decode cX1_find 15 = .ok (.aload_n 0, 1) := by decide +kernel
theorem dX1_find_16 : decode cX1_find 16 = .ok (.getfield 21, 3) := by decide +kernel
theorem dX1_find_19 : decode cX1_find 19 = .ok (.imul, 1) := by decide +kernel
theorem dX1_find_20 : decode cX1_find 20 = .ok (.iaload, 1) := by decide +kernel
theorem dX1_find_21 : decode cX1_find 21 = .ok (.iload_n 1, 1) := by decide +kernel
theorem dX1_find_22 : decode cX1_find 22 = .ok (.if_icmp .ne 5, 3) := by decide +kernel
theorem dX1_find_25 : decode cX1_find 25 = .ok (.iload_n 2, 1) := by decide +kernel
theorem dX1_find_26 : decode cX1_find 26 = .ok (.ireturn, 1) := by decide +kernel
theorem dX1_find_27 : decode cX1_find 27 = .ok (.iinc 2 1, 3) := by decide +kernel
theorem dX1_find_30 : decode cX1_find 30 = .ok (.goto (-28), 3) := by decide +kernel
theorem dX1_find_33 : decode cX1_find 33 = .ok (.ldc 38, 2) := by decide +kernel
theorem dX1_find_35 : decode cX1_find 35 = .ok (.ireturn, 1) := by decide +kernel
theorem dX1_touch_0 : decode cX1_touch 0 = .ok (.iload_n 1, 1) := by decide +kernel
theorem dX1_touch_1 : decode cX1_touch 1 = .ok (.ifCond .lt 11, 3) := by decide +kernel
theorem dX1_touch_4 : decode cX1_touch 4 = .ok (.iload_n 1, 1) := by decide +kernel
theorem dX1_touch_5 : decode cX1_touch 5 = .ok (.aload_n 0, 1) := by decide +kernel
theorem dX1_touch_6 : decode cX1_touch 6 = .ok (.getfield 28, 3) := by decide +kernel
theorem dX1_touch_9 : decode cX1_touch 9 = .ok (.if_icmp .lt 4, 3) := by decide +kernel
theorem dX1_touch_12 : decode cX1_touch 12 = .ok (.return_, 1) := by decide +kernel
theorem dX1_touch_13 : decode cX1_touch 13 = .ok (.iconst 0, 1) := by decide +kernel
theorem dX1_touch_14 : decode cX1_touch 14 = .ok (.istore_n 2, 1) := by decide +kernel
theorem dX1_touch_15 : decode cX1_touch 15 = .ok (.iload_n 2, 1) := by decide +kernel
theorem dX1_touch_16 : decode cX1_touch 16 = .ok (.aload_n 0, 1) := by decide +kernel
theorem dX1_touch_17 : decode cX1_touch 17 = .ok (.getfield 21, 3) := by decide +kernel
theorem dX1_touch_20 : decode cX1_touch 20 = .ok (.if_icmp .ge 92, 3) := by decide +kernel
theorem dX1_touch_23 : decode cX1_touch 23 = .ok (.aload_n 0, 1) := by decide +kernel
theorem dX1_touch_24 : decode cX1_touch 24 = .ok (.getfield 24, 3) := by decide +kernel
theorem dX1_touch_27 : decode cX1_touch 27 = .ok (.iload_n 1, 1) := by decide +kernel
theorem dX1_touch_28 : decode cX1_touch 28 = .ok (.aload_n 0, 1) := by decide +kernel
theorem dX1_touch_29 : decode cX1_touch 29 = .ok (.getfield 21, 3) := by decide +kernel
theorem dX1_touch_32 : decode cX1_touch 32 = .ok (.imul, 1) := by decide +kernel
theorem dX1_touch_33 : decode cX1_touch 33 = .ok (.iload_n 2, 1) := by decide +kernel
theorem dX1_touch_34 : decode cX1_touch 34 = .ok (.iadd, 1) := by decide +kernel
theorem dX1_touch_35 : decode cX1_touch 35 = .ok (.iaload, 1) := by decide +kernel
theorem dX1_touch_36 : decode cX1_touch 36 = .ok (.istore_n 3, 1) := by decide +kernel
theorem dX1_touch_37 : decode cX1_touch 37 = .ok (.iload_n 1, 1) := by decide +kernel
theorem dX1_touch_38 : decode cX1_touch 38 = .ok (.istore 4, 2) := by decide +kernel
theorem dX1_touch_40 : decode cX1_touch 40 = .ok (.iload 4, 2) := by decide +kernel
theorem dX1_touch_42 : decode cX1_touch 42 = .ok (.iconst 1, 1) := by decide +kernel
theorem dX1_touch_43 : decode cX1_touch 43 = .ok (.iadd, 1) := by decide +kernel
theorem dX1_touch_44 : decode cX1_touch 44 = .ok (.aload_n 0, 1) := by decide +kernel
theorem dX1_touch_45 : decode cX1_touch 45 = .ok (.getfield 28, 3) := by decide +kernel
theorem dX1_touch_48 : decode cX1_touch 48 = .ok (.if_icmp .ge 39, 3) := by decide +kernel
theorem dX1_touch_51 : decode cX1_touch 51 = .ok (.aload_n 0, 1) := by decide +kernel
theorem dX1_touch_52 : decode cX1_touch 52 = .ok (.getfield 24, 3) := by decide +kernel
theorem dX1_touch_55 : decode cX1_touch 55 = .ok (.iload 4, 2) := by decide +kernel
theorem dX1_touch_57 : decode cX1_touch 57 = .ok (.aload_n 0, 1) := by decide +kernel
theorem dX1_touch_58 : decode cX1_touch 58 = .ok (.getfield 21, 3) := by decide +kernel
theorem dX1_touch_61 : decode cX1_touch 61 = .ok (.imul, 1) := by decide +kernel
theorem dX1_touch_62 : decode cX1_touch 62 = .ok (.iload_n 2, 1) := by decide +kernel
theorem dX1_touch_63 : decode cX1_touch 63 = .ok (.iadd, 1) := by decide +kernel
theorem dX1_touch_64 : decode cX1_touch 64 = .ok (.aload_n 0, 1) := by decide +kernel
theorem dX1_touch_65 : decode cX1_touch 65 = .ok (.getfield 24, 3) := by decide +kernel
theorem dX1_touch_68 : decode cX1_touch 68 = .ok (.iload 4, 2) := by decide +kernel
theorem dX1_touch_70 : decode cX1_touch 70 = .ok (.iconst 1, 1) := by decide +kernel
theorem dX1_touch_71 : decode cX1_touch 71 = .ok (.iadd, 1) := by decide +kernel
theorem dX1_touch_72 : decode cX1_touch 72 = .ok (.aload_n 0, 1) := by decide +kernel
theorem dX1_touch_73 : decode cX1_touch 73 = .ok (.getfield 21, 3) := by decide +kernel
theorem dX1_touch_76 : decode cX1_touch 76 = .ok (.imul, 1) := by decide +kernel
theorem dX1_touch_77 : decode cX1_touch 77 = .ok (.iload_n 2, 1) := by decide +kernel
theorem dX1_touch_78 : decode cX1_touch 78 = .ok (.iadd, 1) := by decide +kernel
theorem dX1_touch_79 : decode cX1_touch 79 = .ok (.iaload, 1) := by decide +kernel
theorem dX1_touch_80 : decode cX1_touch 80 = .ok (.iastore, 1) := by decide +kernel
theorem dX1_touch_81 : decode cX1_touch 81 = .ok (.iinc 4 1, 3) := by decide +kernel
theorem dX1_touch_84 : decode cX1_touch 84 = .ok (.goto (-44), 3) := by decide +kernel
theorem dX1_touch_87 : decode cX1_touch 87 = .ok (.aload_n 0, 1) := by decide +kernel
theorem dX1_touch_88 : decode cX1_touch 88 = .ok (.getfield 24, 3) := by decide +kernel
theorem dX1_touch_91 : decode cX1_touch 91 = .ok (.aload_n 0, 1) := by decide +kernel
theorem dX1_touch_92 : decode cX1_touch 92 = .ok (.getfield 28, 3) := by decide +kernel
theorem dX1_touch_95 : decode cX1_touch 95 = .ok (.iconst 1, 1) := by decide +kernel
theorem dX1_touch_96 : decode cX1_touch 96 = .ok (.isub, 1) := by decide +kernel
theorem dX1_touch_97 : decode cX1_touch 97 = .ok (.aload_n 0, 1) := by decide +kernel
theorem dX1_touch_98 : decode cX1_touch 98 = .ok (.getfield 21, 3) := by decide +kernel
theorem dX1_touch_101 : decode cX1_touch 101 = .ok (.imul, 1) := by decide +kernel
theorem dX1_touch_102 : decode cX1_touch 102 = .ok (.iload_n 2, 1) := by decide +kernel
theorem dX1_touch_103 : decode cX1_touch 103 = .ok (.iadd, 1) := by decide +kernel
theorem dX1_touch_104 : decode cX1_touch 104 = .ok (.iload_n 3, 1) := by decide +kernel
theorem dX1_touch_105 : decode cX1_touch 105 = .ok (.iastore, 1) := by decide +kernel
theorem dX1_touch_106 : decode cX1_touch 106 = .ok (.iinc 2 1, 3) := by decide +kernel
theorem dX1_touch_109 : decode cX1_touch 109 = .ok (.goto (-94), 3) := by decide +kernel
theorem dX1_touch_112 : decode cX1_touch 112 = .ok (.return_, 1) := by decide +kernel
theorem dX1_remove_0 : decode cX1_remove 0 = .ok (.iload_n 1, 1) := by decide +kernel
theorem dX1_remove_1 : decode cX1_remove 1 = .ok (.ifCond .lt 26, 3) := by decide +kernel
theorem dX1_remove_4 : decode cX1_remove 4 = .ok (.iload_n 1, 1) := by decide +kernel
theorem dX1_remove_5 : decode cX1_remove 5 = .ok (.aload_n 0, 1) := by decide +kernel
theorem dX1_remove_6 : decode cX1_remove 6 = .ok (.getfield 28, 3) := by decide +kernel
theorem dX1_remove_9 : decode cX1_remove 9 = .ok (.if_icmp .ge 18, 3) := by decide +kernel
theorem dX1_remove_12 : decode cX1_remove 12 = .ok (.aload_n 0, 1) := by decide +kernel
theorem dX1_remove_13 : decode cX1_remove 13 = .ok (.iload_n 1, 1) := by decide +kernel
theorem dX1_remove_14 : decode cX1_remove 14 = .ok (.invokevirtual 39, 3) := by decide +kernel
theorem dX1_remove_17 : decode cX1_remove 17 = .ok (.aload_n 0, 1) := by decide +kernel
theorem dX1_remove_18 : decode cX1_remove 18 = .ok (.dup, 1) := by decide +kernel
theorem dX1_remove_19 : decode cX1_remove 19 = .ok (.getfield 28, 3) := by decide +kernel
theorem dX1_remove_22 : decode cX1_remove 22 = .ok (.iconst 1, 1) := by decide +kernel
theorem dX1_remove_23 : decode cX1_remove 23 = .ok (.isub, 1) := by decide +kernel
theorem dX1_remove_24 : decode cX1_remove 24 = .ok (.putfield 28, 3) := by decide +kernel
theorem dX1_remove_27 : decode cX1_remove 27 = .ok (.return_, 1) := by decide +kernel
theorem dX1_open_0 : decode cX1_open 0 = .ok (.aload_n 0, 1) := by decide +kernel
theorem dX1_open_1 : decode cX1_open 1 = .ok (.getfield 28, 3) := by decide +kernel
theorem dX1_open_4 : decode cX1_open 4 = .ok (.iload_n 1, 1) := by decide +kernel
theorem dX1_open_5 : decode cX1_open 5 = .ok (.if_icmp .ge 27, 3) := by decide +kernel
theorem dX1_open_8 : decode cX1_open 8 = .ok (.aload_n 0, 1) := by decide +kernel
theorem dX1_open_9 : decode cX1_open 9 = .ok (.getfield 28, 3) := by decide +kernel
theorem dX1_open_12 : decode cX1_open 12 = .ok (.aload_n 0, 1) := by decide +kernel
theorem dX1_open_13 : decode cX1_open 13 = .ok (.getfield 15, 3) := by decide +kernel
theorem dX1_open_16 : decode cX1_open 16 = .ok (.if_icmp .ge 16, 3) := by decide +kernel
theorem dX1_open_19 : decode cX1_open 19 = .ok (.aload_n 0, 1) := by decide +kernel
theorem dX1_open_20 : decode cX1_open 20 = .ok (.dup, 1) := by decide +kernel
theorem dX1_open_21 : decode cX1_open 21 = .ok (.getfield 28, 3) := by decide +kernel
theorem dX1_open_24 : decode cX1_open 24 = .ok (.iconst 1, 1) := by decide +kernel
theorem dX1_open_25 : decode cX1_open 25 = .ok (.iadd, 1) := by decide +kernel
theorem dX1_open_26 : decode cX1_open 26 = .ok (.putfield 28, 3) := by decide +kernel
theorem dX1_open_29 : decode cX1_open 29 = .ok (.goto 8, 3) := by decide +kernel
theorem dX1_open_32 : decode cX1_open 32 = .ok (.aload_n 0, 1) := by decide +kernel
theorem dX1_open_33 : decode cX1_open 33 = .ok (.iconst 0, 1) := by decide +kernel
theorem dX1_open_34 : decode cX1_open 34 = .ok (.invokevirtual 39, 3) := by decide +kernel
theorem dX1_open_37 : decode cX1_open 37 = .ok (.aload_n 0, 1) := by decide +kernel
theorem dX1_open_38 : decode cX1_open 38 = .ok (.getfield 28, 3) := by decide +kernel
theorem dX1_open_41 : decode cX1_open 41 = .ok (.iconst 1, 1) := by decide +kernel
theorem dX1_open_42 : decode cX1_open 42 = .ok (.isub, 1) := by decide +kernel
theorem dX1_open_43 : decode cX1_open 43 = .ok (.ireturn, 1) := by decide +kernel
theorem dX2_init_0 : decode cX2_init 0 = .ok (.aload_n 0, 1) := by decide +kernel
theorem dX2_init_1 : decode cX2_init 1 = .ok (.invokespecial 3, 3) := by decide +kernel
theorem dX2_init_4 : decode cX2_init 4 = .ok (.aload_n 0, 1) := by decide +kernel
theorem dX2_init_5 : decode cX2_init 5 = .ok (.bipush 8, 2) := by decide +kernel
theorem dX2_init_7 : decode cX2_init 7 = .ok (.anewarray 9, 3) := by decide +kernel
theorem dX2_init_10 : decode cX2_init 10 = .ok (.putfield 11, 3) := by decide +kernel
theorem dX2_init_13 : decode cX2_init 13 = .ok (.iconst 0, 1) := by decide +kernel
theorem dX2_init_14 : decode cX2_init 14 = .ok (.istore_n 1, 1) := by decide +kernel
theorem dX2_init_15 : decode cX2_init 15 = .ok (.iload_n 1, 1) := by decide +kernel
theorem dX2_init_16 : decode cX2_init 16 = .ok (.bipush 8, 2) := by decide +kernel
theorem dX2_init_18 : decode cX2_init 18 = .ok (.if_icmp .ge 24, 3) := by decide +kernel
theorem dX2_init_21 : decode cX2_init 21 = .ok (.aload_n 0, 1) := by decide +kernel
theorem dX2_init_22 : decode cX2_init 22 = .ok (.getfield 11, 3) := by decide +kernel
theorem dX2_init_25 : decode cX2_init 25 = .ok (.iload_n 1, 1) := by decide +kernel
theorem dX2_init_26 : decode cX2_init 26 = .ok (.new 9, 3) := by decide +kernel
theorem dX2_init_29 : decode cX2_init 29 = .ok (.dup, 1) := by decide +kernel
theorem dX2_init_30 : decode cX2_init 30 = .ok (.iconst 4, 1) := by decide +kernel
theorem dX2_init_31 : decode cX2_init 31 = .ok (.iconst 3, 1) := by decide +kernel
theorem dX2_init_32 : decode cX2_init 32 = .ok (.invokespecial 17, 3) := by decide +kernel
theorem dX2_init_35 : decode cX2_init 35 = .ok (.aastore, 1) := by decide +kernel
theorem dX2_init_36 : decode cX2_init 36 = .ok (.iinc 1 1, 3) := by decide +kernel
theorem dX2_init_39 : decode cX2_init 39 = .ok (.goto (-24), 3) := by decide +kernel
theorem dX2_init_42 : decode cX2_init 42 = .ok (.aload_n 0, 1) := by decide +kernel
theorem dX2_init_43 : decode cX2_init 43 = .ok (.new 9, 3) := by decide +kernel
theorem dX2_init_46 : decode cX2_init 46 = .ok (.dup, 1) := by decide +kernel
theorem dX2_init_47 : decode cX2_init 47 = .ok (.bipush 8, 2) := by decide +kernel
theorem dX2_init_49 : decode cX2_init 49 = .ok (.iconst 2, 1) := by decide +kernel
theorem dX2_init_50 : decode cX2_init 50 = .ok (.invokespecial 17, 3) := by decide +kernel
theorem dX2_init_53 : decode cX2_init 53 = .ok (.putfield 20, 3) := by decide +kernel
theorem dX2_init_56 : decode cX2_init 56 = .ok (.aload_n 0, 1) := by decide +kernel
theorem dX2_init_57 : decode cX2_init 57 = .ok (.bipush 6, 2) := by decide +kernel
theorem dX2_init_59 : decode cX2_init 59 = .ok (.anewarray 24, 3) := by decide +kernel
theorem dX2_init_62 : decode cX2_init 62 = .ok (.putfield 26, 3) := by decide +kernel
theorem dX2_init_65 : decode cX2_init 65 = .ok (.iconst 0, 1) := by decide +kernel
theorem dX2_init_66 : decode cX2_init 66 = .ok (.istore_n 1, 1) := by decide +kernel
theorem dX2_init_67 : decode cX2_init 67 = .ok (.iload_n 1, 1) := by decide +kernel
theorem dX2_init_68 : decode cX2_init 68 = .ok (.bipush 6, 2) := by decide +kernel
theorem dX2_init_70 : decode cX2_init 70 = .ok (.if_icmp .ge 22, 3) := by decide +kernel
theorem dX2_init_73 : decode cX2_init 73 = .ok (.aload_n 0, 1) := by decide +kernel
theorem dX2_init_74 : decode cX2_init 74 = .ok (.getfield 26, 3) := by decide +kernel
theorem dX2_init_77 : decode cX2_init 77 = .ok (.iload_n 1, 1) := by decide +kernel
theorem dX2_init_78 : decode cX2_init 78 = .ok (.new 24, 3) := by decide +kernel
theorem dX2_init_81 : decode cX2_init 81 = .ok (.dup, 1) := by decide +kernel
theorem dX2_init_82 : decode cX2_init 82 = .ok (.invokespecial 30, 3) := by decide +kernel
theorem dX2_init_85 : decode cX2_init 85 = .ok (.aastore, 1) := by decide +kernel
theorem dX2_init_86 : decode cX2_init 86 = .ok (.iinc 1 1, 3) := by decide +kernel
theorem dX2_init_89 : decode cX2_init 89 = .ok (.goto (-22), 3) := by decide +kernel
theorem dX2_init_92 : decode cX2_init 92 = .ok (.aload_n 0, 1) := by decide +kernel
theorem dX2_init_93 : decode cX2_init 93 = .ok (.new 9, 3) := by decide +kernel
theorem dX2_init_96 : decode cX2_init 96 = .ok (.dup, 1) := by decide +kernel
theorem dX2_init_97 : decode cX2_init 97 = .ok (.bipush 12, 2) := by decide +kernel
theorem dX2_init_99 : decode cX2_init 99 = .ok (.iconst 5, 1) := by decide +kernel
theorem dX2_init_100 : decode cX2_init 100 = .ok (.invokespecial 17, 3) := by decide +kernel
theorem dX2_init_103 : decode cX2_init 103 = .ok (.putfield 31, 3) := by decide +kernel
theorem dX2_init_106 : decode cX2_init 106 = .ok (.aload_n 0, 1) := by decide +kernel
theorem dX2_init_107 : decode cX2_init 107 = .ok (.iconst 4, 1) := by decide +kernel
theorem dX2_init_108 : decode cX2_init 108 = .ok (.putfield 34, 3) := by decide +kernel
theorem dX2_init_111 : decode cX2_init 111 = .ok (.aload_n 0, 1) := by decide +kernel
theorem dX2_init_112 : decode cX2_init 112 = .ok (.iconst 2, 1) := by decide +kernel
theorem dX2_init_113 : decode cX2_init 113 = .ok (.putfield 38, 3) := by decide +kernel
theorem dX2_init_116 : decode cX2_init 116 = .ok (.aload_n 0, 1) := by decide +kernel
theorem dX2_init_117 : decode cX2_init 117 = .ok (.iconst 0, 1) := by decide +kernel
theorem dX2_init_118 : decode cX2_init 118 = .ok (.putfield 41, 3) := by decide +kernel
theorem dX2_init_121 : decode cX2_init 121 = .ok (.aload_n 0, 1) := by decide +kernel
theorem dX2_init_122 : decode cX2_init 122 = .ok (.iconst 3, 1) := by decide +kernel
theorem dX2_init_123 : decode cX2_init 123 = .ok (.putfield 44, 3) := by decide +kernel
theorem dX2_init_126 : decode cX2_init 126 = .ok (.aload_n 0, 1) := by decide +kernel
theorem dX2_init_127 : decode cX2_init 127 = .ok (.iconst 0, 1) := by decide +kernel
theorem dX2_init_128 : decode cX2_init 128 = .ok (.putfield 47, 3) := by decide +kernel
theorem dX2_init_131 : decode cX2_init 131 = .ok (.aload_n 0, 1) := by decide +kernel
theorem dX2_init_132 : decode cX2_init 132 = .ok (.iconst 0, 1) := by decide +kernel
theorem dX2_init_133 : decode cX2_init 133 = .ok (.putfield 50, 3) := by decide +kernel
theorem dX2_init_136 : decode cX2_init 136 = .ok (.aload_n 0, 1) := by decide +kernel
theorem dX2_init_137 : decode cX2_init 137 = .ok (.iconst 0, 1) := by decide +kernel
theorem dX2_init_138 : decode cX2_init 138 = .ok (.putfield 53, 3) := by decide +kernel
theorem dX2_init_141 : decode cX2_init 141 = .ok (.aload_n 0, 1) := by decide +kernel
theorem dX2_init_142 : decode cX2_init 142 = .ok (.iconst 0, 1) := by decide +kernel
theorem dX2_init_143 : decode cX2_init 143 = .ok (.putfield 56, 3) := by decide +kernel
theorem dX2_init_146 : decode cX2_init 146 = .ok (.aload_n 0, 1) := by decide +kernel
theorem dX2_init_147 : decode cX2_init 147 = .ok (.iconst 0, 1) := by decide +kernel
theorem dX2_init_148 : decode cX2_init 148 = .ok (.putfield 59, 3) := by decide +kernel
theorem dX2_init_151 : decode cX2_init 151 = .ok (.return_, 1) := by decide +kernel
theorem dX2_copyFrom_0 : decode cX2_copyFrom 0 = .ok (.iconst 0, 1) := by decide +kernel
theorem dX2_copyFrom_1 : decode cX2_copyFrom 1 = .ok (.istore_n 2, 1) := by decide +kernel
theorem dX2_copyFrom_2 : decode cX2_copyFrom 2 = .ok (.iload_n 2, 1) := by decide +kernel
theorem dX2_copyFrom_3 : decode cX2_copyFrom 3 = .ok (.bipush 8, 2) := by decide +kernel
theorem dX2_copyFrom_5 : decode cX2_copyFrom 5 = .ok (.if_icmp .ge 24, 3) := by decide +kernel
theorem dX2_copyFrom_8 : decode cX2_copyFrom 8 = .ok (.aload_n 0, 1) := by decide +kernel
theorem dX2_copyFrom_9 : decode cX2_copyFrom 9 = .ok (.getfield 11, 3) := by decide +kernel
theorem dX2_copyFrom_12 : decode cX2_copyFrom 12 = .ok (.iload_n 2, 1) := by decide +kernel
theorem dX2_copyFrom_13 : decode cX2_copyFrom 13 = .ok (.aaload, 1) := by decide +kernel
theorem dX2_copyFrom_14 : decode cX2_copyFrom 14 = .ok (.aload_n 1, 1) := by decide +kernel
theorem dX2_copyFrom_15 : decode cX2_copyFrom 15 = .ok (.getfield 11, 3) := by decide +kernel
theorem dX2_copyFrom_18 : decode cX2_copyFrom 18 = .ok (.iload_n 2, 1) := by decide +kernel
theorem dX2_copyFrom_19 : decode cX2_copyFrom 19 = .ok (.aaload, 1) := by decide +kernel
theorem dX2_copyFrom_20 : decode cX2_copyFrom 20 = .ok (.invokevirtual 62, 3) := by decide +kernel
theorem dX2_copyFrom_23 : decode cX2_copyFrom 23 = .ok (.iinc 2 1, 3) := by decide +kernel
theorem dX2_copyFrom_26 : decode cX2_copyFrom 26 = .ok (.goto (-24), 3) := by decide +kernel
theorem dX2_copyFrom_29 : decode cX2_copyFrom 29 = .ok (.aload_n 0, 1) := by decide +kernel
theorem dX2_copyFrom_30 : decode cX2_copyFrom 30 = .ok (.getfield 20, 3) := by decide +kernel
theorem dX2_copyFrom_33 : decode cX2_copyFrom 33 = .ok (.aload_n 1, 1) := by decide +kernel
theorem dX2_copyFrom_34 : decode cX2_copyFrom 34 = .ok (.getfield 20, 3) := by decide +kernel
theorem dX2_copyFrom_37 : decode cX2_copyFrom 37 = .ok (.invokevirtual 62, 3) := by decide +kernel
theorem dX2_copyFrom_40 : decode cX2_copyFrom 40 = .ok (.iconst 0, 1) := by decide +kernel
theorem dX2_copyFrom_41 : decode cX2_copyFrom 41 = .ok (.istore_n 2, 1) := by decide +kernel
theorem dX2_copyFrom_42 : decode cX2_copyFrom 42 = .ok (.iload_n 2, 1) := by decide +kernel
theorem dX2_copyFrom_43 : decode cX2_copyFrom 43 = .ok (.bipush 6, 2) := by decide +kernel
theorem dX2_copyFrom_45 : decode cX2_copyFrom 45 = .ok (.if_icmp .ge 24, 3) := by decide +kernel
theorem dX2_copyFrom_48 : decode cX2_copyFrom 48 = .ok (.aload_n 0, 1) := by decide +kernel
theorem dX2_copyFrom_49 : decode cX2_copyFrom 49 = .ok (.getfield 26, 3) := by decide +kernel
theorem dX2_copyFrom_52 : decode cX2_copyFrom 52 = .ok (.iload_n 2, 1) := by decide +kernel
theorem dX2_copyFrom_53 : decode cX2_copyFrom 53 = .ok (.aaload, 1) := by decide +kernel
theorem dX2_copyFrom_54 : decode cX2_copyFrom 54 = .ok (.aload_n 1, 1) := by decide +kernel
theorem dX2_copyFrom_55 : decode cX2_copyFrom 55 = .ok (.getfield 26, 3) := by decide +kernel
theorem dX2_copyFrom_58 : decode cX2_copyFrom 58 = .ok (.iload_n 2, 1) := by decide +kernel
theorem dX2_copyFrom_59 : decode cX2_copyFrom 59 = .ok (.aaload, 1) := by decide +kernel
theorem dX2_copyFrom_60 : decode cX2_copyFrom 60 = .ok (.invokevirtual 66, 3) := by decide +kernel
theorem dX2_copyFrom_63 : decode cX2_copyFrom 63 = .ok (.iinc 2 1, 3) := by decide +kernel
theorem dX2_copyFrom_66 : decode cX2_copyFrom 66 = .ok (.goto (-24), 3) := by decide +kernel
theorem dX2_copyFrom_69 : decode cX2_copyFrom 69 = .ok (.aload_n 0, 1) := by decide +kernel
theorem dX2_copyFrom_70 : decode cX2_copyFrom 70 = .ok (.getfield 31, 3) := by decide +kernel
theorem dX2_copyFrom_73 : decode cX2_copyFrom 73 = .ok (.aload_n 1, 1) := by decide +kernel
theorem dX2_copyFrom_74 : decode cX2_copyFrom 74 = .ok (.getfield 31, 3) := by decide +kernel
theorem dX2_copyFrom_77 : decode cX2_copyFrom 77 = .ok (.invokevirtual 62, 3) := by decide +kernel
theorem dX2_copyFrom_80 : decode cX2_copyFrom 80 = .ok (.aload_n 0, 1) := by decide +kernel
theorem dX2_copyFrom_81 : decode cX2_copyFrom 81 = .ok (.aload_n 1, 1) := by decide +kernel
theorem dX2_copyFrom_82 : decode cX2_copyFrom 82 = .ok (.getfield 34, 3) := by decide +kernel
theorem dX2_copyFrom_85 : decode cX2_copyFrom 85 = .ok (.putfield 34, 3) := by decide +kernel
theorem dX2_copyFrom_88 : decode cX2_copyFrom 88 = .ok (.aload_n 0, 1) := by decide +kernel
theorem dX2_copyFrom_89 : decode cX2_copyFrom 89 = .ok (.aload_n 1, 1) := by decide +kernel
theorem dX2_copyFrom_90 : decode cX2_copyFrom 90 = .ok (.getfield 38, 3) := by decide +kernel
theorem dX2_copyFrom_93 : decode cX2_copyFrom 93 = .ok (.putfield 38, 3) := by decide +kernel
theorem dX2_copyFrom_96 : decode cX2_copyFrom 96 = .ok (.aload_n 0, 1) := by decide +kernel
theorem dX2_copyFrom_97 : decode cX2_copyFrom 97 = .ok (.aload_n 1, 1) := by decide +kernel
theorem dX2_copyFrom_98 : decode cX2_copyFrom 98 = .ok (.getfield 41, 3) := by decide +kernel
theorem dX2_copyFrom_101 : decode cX2_copyFrom 101 = .ok (.putfield 41, 3) := by decide +kernel
theorem dX2_copyFrom_104 : decode cX2_copyFrom 104 = .ok (.aload_n 0, 1) := by decide +kernel
theorem dX2_copyFrom_105 : decode cX2_copyFrom 105 = .ok (.aload_n 1, 1) := by decide +kernel
theorem dX2_copyFrom_106 : decode cX2_copyFrom 106 = .ok (.getfield 44, 3) := by decide +kernel
theorem dX2_copyFrom_109 : decode cX2_copyFrom 109 = .ok (.putfield 44, 3) := by decide +kernel
theorem dX2_copyFrom_112 : decode cX2_copyFrom 112 = .ok (.aload_n 0, 1) := by decide +kernel
theorem dX2_copyFrom_113 : decode cX2_copyFrom 113 = .ok (.aload_n 1, 1) := by decide +kernel
theorem dX2_copyFrom_114 : decode cX2_copyFrom 114 = .ok (.getfield 47, 3) := by decide +kernel
theorem dX2_copyFrom_117 : decode cX2_copyFrom 117 = .ok (.putfield 47, 3) := by decide +kernel
theorem dX2_copyFrom_120 : decode cX2_copyFrom 120 = .ok (.aload_n 0, 1) := by decide +kernel
theorem dX2_copyFrom_121 : decode cX2_copyFrom 121 = .ok (.aload_n 1, 1) := by decide +kernel
theorem dX2_copyFrom_122 : decode cX2_copyFrom 122 = .ok (.getfield 50, 3) := by decide +kernel
theorem dX2_copyFrom_125 : decode cX2_copyFrom 125 = .ok (.putfield 50, 3) := by decide +kernel
theorem dX2_copyFrom_128 : decode cX2_copyFrom 128 = .ok (.aload_n 0, 1) := by decide +kernel
theorem dX2_copyFrom_129 : decode cX2_copyFrom 129 = .ok (.aload_n 1, 1) := by decide +kernel
theorem dX2_copyFrom_130 : decode cX2_copyFrom 130 = .ok (.getfield 53, 3) := by decide +kernel
theorem dX2_copyFrom_133 : decode cX2_copyFrom 133 = .ok (.putfield 53, 3) := by decide +kernel
theorem dX2_copyFrom_136 : decode cX2_copyFrom 136 = .ok (.aload_n 0, 1) := by decide +kernel
theorem dX2_copyFrom_137 : decode cX2_copyFrom 137 = .ok (.aload_n 1, 1) := by decide +kernel
theorem dX2_copyFrom_138 : decode cX2_copyFrom 138 = .ok (.getfield 56, 3) := by decide +kernel
theorem dX2_copyFrom_141 : decode cX2_copyFrom 141 = .ok (.putfield 56, 3) := by decide +kernel
theorem dX2_copyFrom_144 : decode cX2_copyFrom 144 = .ok (.aload_n 0, 1) := by decide +kernel
theorem dX2_copyFrom_145 : decode cX2_copyFrom 145 = .ok (.aload_n 1, 1) := by decide +kernel
theorem dX2_copyFrom_146 : decode cX2_copyFrom 146 = .ok (.getfield 59, 3) := by decide +kernel
theorem dX2_copyFrom_149 : decode cX2_copyFrom 149 = .ok (.putfield 59, 3) := by decide +kernel
theorem dX2_copyFrom_152 : decode cX2_copyFrom 152 = .ok (.return_, 1) := by decide +kernel
theorem dX2_setAt_0 : decode cX2_setAt 0 = .ok (.aload_n 0, 1) := by decide +kernel
theorem dX2_setAt_1 : decode cX2_setAt 1 = .ok (.getfield 11, 3) := by decide +kernel
theorem dX2_setAt_4 : decode cX2_setAt 4 = .ok (.iload_n 1, 1) := by decide +kernel
theorem dX2_setAt_5 : decode cX2_setAt 5 = .ok (.iconst 0, 1) := by decide +kernel
theorem dX2_setAt_6 : decode cX2_setAt 6 = .ok (.bipush 7, 2) := by decide +kernel
theorem dX2_setAt_8 : decode cX2_setAt 8 = .ok (.invokestatic 69, 3) := by decide +kernel
theorem dX2_setAt_11 : decode cX2_setAt 11 = .ok (.ifCond .eq 7, 3) := by decide +kernel
theorem dX2_setAt_14 : decode cX2_setAt 14 = .ok (.iconst 0, 1) := by decide +kernel
theorem dX2_setAt_15 : decode cX2_setAt 15 = .ok (.goto 4, 3) := by decide +kernel
theorem dX2_setAt_18 : decode cX2_setAt 18 = .ok (.iload_n 1, 1) := by decide +kernel
theorem dX2_setAt_19 : decode cX2_setAt 19 = .ok (.aaload, 1) := by decide +kernel
theorem dX2_setAt_20 : decode cX2_setAt 20 = .ok (.areturn, 1) := by decide +kernel
theorem dX2_setOf_0 : decode cX2_setOf 0 = .ok (.aload_n 0, 1) := by decide +kernel
theorem dX2_setOf_1 : decode cX2_setOf 1 = .ok (.aload_n 0, 1) := by decide +kernel
theorem dX2_setOf_2 : decode cX2_setOf 2 = .ok (.getfield 34, 3) := by decide +kernel
theorem dX2_setOf_5 : decode cX2_setOf 5 = .ok (.ifCond .le 12, 3) := by decide +kernel
theorem dX2_setOf_8 : decode cX2_setOf 8 = .ok (.iload_n 1, 1) := by decide +kernel
theorem dX2_setOf_9 : decode cX2_setOf 9 = .ok (.aload_n 0, 1) := by decide +kernel
theorem dX2_setOf_10 : decode cX2_setOf 10 = .ok (.getfield 34, 3) := by decide +kernel
theorem dX2_setOf_13 : decode cX2_setOf 13 = .ok (.irem, 1) := by decide +kernel
theorem dX2_setOf_14 : decode cX2_setOf 14 = .ok (.goto 4, 3) := by decide +kernel
theorem dX2_setOf_17 : decode cX2_setOf 17 = .ok (.iconst 0, 1) := by decide +kernel
theorem dX2_setOf_18 : decode cX2_setOf 18 = .ok (.invokevirtual 73, 3) := by decide +kernel
theorem dX2_setOf_21 : decode cX2_setOf 21 = .ok (.areturn, 1) := by decide +kernel
theorem dX2_helperAt_0 : decode cX2_helperAt 0 = .ok (.iload_n 1, 1) := by decide +kernel
theorem dX2_helperAt_1 : decode cX2_helperAt 1 = .ok (.iconst 0, 1) := by decide +kernel
theorem dX2_helperAt_2 : decode cX2_helperAt 2 = .ok (.aload_n 0, 1) := by decide +kernel
theorem dX2_helperAt_3 : decode cX2_helperAt 3 = .ok (.getfield 41, 3) := by decide +kernel
theorem dX2_helperAt_6 : decode cX2_helperAt 6 = .ok (.bipush 6, 2) := by decide +kernel
theorem dX2_helperAt_8 : decode cX2_helperAt 8 = .ok (.invokestatic 77, 3) := by decide +kernel
theorem dX2_helperAt_11 : decode cX2_helperAt 11 = .ok (.iconst 1, 1) := by decide +kernel
theorem dX2_helperAt_12 : decode cX2_helperAt 12 = .ok (.isub, 1) := by decide +kernel
theorem dX2_helperAt_13 : decode cX2_helperAt 13 = .ok (.invokestatic 69, 3) := by decide +kernel
theorem dX2_helperAt_16 : decode cX2_helperAt 16 = .ok (.ifCond .eq 7, 3) := by decide +kernel
theorem dX2_helperAt_19 : decode cX2_helperAt 19 = .ok (.aconst_null, 1) := by decide +kernel
theorem dX2_helperAt_20 : decode cX2_helperAt 20 = .ok (.goto 9, 3) := by decide +kernel
theorem dX2_helperAt_23 : decode cX2_helperAt 23 = .ok (.aload_n 0, 1) := by decide +kernel
theorem dX2_helperAt_24 : decode cX2_helperAt 24 = .ok (.getfield 26, 3) := by decide +kernel
theorem dX2_helperAt_27 : decode cX2_helperAt 27 = .ok (.iload_n 1, 1) := by decide +kernel
theorem dX2_helperAt_28 : decode cX2_helperAt 28 = .ok (.aaload, 1) := by decide +kernel
theorem dX2_helperAt_29 : decode cX2_helperAt 29 = .ok (.areturn, 1) := by decide +kernel
theorem dX2_hire_0 : decode cX2_hire 0 = .ok (.aload_n 0, 1) := by decide +kernel
theorem dX2_hire_1 : decode cX2_hire 1 = .ok (.getfield 41, 3) := by decide +kernel
theorem dX2_hire_4 : decode cX2_hire 4 = .ok (.iconst 0, 1) := by decide +kernel
theorem dX2_hire_5 : decode cX2_hire 5 = .ok (.iconst 5, 1) := by decide +kernel
theorem dX2_hire_6 : decode cX2_hire 6 = .ok (.invokestatic 69, 3) := by decide +kernel
theorem dX2_hire_9 : decode cX2_hire 9 = .ok (.ifCond .eq 6, 3) := by decide +kernel
theorem dX2_hire_12 : decode cX2_hire 12 = .ok (.ldc 83, 2) := by decide +kernel
theorem dX2_hire_14 : decode cX2_hire 14 = .ok (.ireturn, 1) := by decide +kernel
theorem dX2_hire_15 : decode cX2_hire 15 = .ok (.aload_n 0, 1) := by decide +kernel
theorem dX2_hire_16 : decode cX2_hire 16 = .ok (.getfield 26, 3) := by decide +kernel
theorem dX2_hire_19 : decode cX2_hire 19 = .ok (.aload_n 0, 1) := by decide +kernel
theorem dX2_hire_20 : decode cX2_hire 20 = .ok (.getfield 41, 3) := by decide +kernel
theorem dX2_hire_23 : decode cX2_hire 23 = .ok (.aaload, 1) := by decide +kernel
theorem dX2_hire_24 : decode cX2_hire 24 = .ok (.iload_n 1, 1) := by decide +kernel
theorem dX2_hire_25 : decode cX2_hire 25 = .ok (.iload_n 2, 1) := by decide +kernel
theorem dX2_hire_26 : decode cX2_hire 26 = .ok (.iload_n 3, 1) := by decide +kernel
theorem dX2_hire_27 : decode cX2_hire 27 = .ok (.invokevirtual 84, 3) := by decide +kernel
theorem dX2_hire_30 : decode cX2_hire 30 = .ok (.aload_n 0, 1) := by decide +kernel
theorem dX2_hire_31 : decode cX2_hire 31 = .ok (.dup, 1) := by decide +kernel
theorem dX2_hire_32 : decode cX2_hire 32 = .ok (.getfield 41, 3) := by decide +kernel
theorem dX2_hire_35 : decode cX2_hire 35 = .ok (.iconst 1, 1) := by decide +kernel
theorem dX2_hire_36 : decode cX2_hire 36 = .ok (.iadd, 1) := by decide +kernel
theorem dX2_hire_37 : decode cX2_hire 37 = .ok (.putfield 41, 3) := by decide +kernel
theorem dX2_hire_40 : decode cX2_hire 40 = .ok (.aload_n 0, 1) := by decide +kernel
theorem dX2_hire_41 : decode cX2_hire 41 = .ok (.getfield 41, 3) := by decide +kernel
theorem dX2_hire_44 : decode cX2_hire 44 = .ok (.iconst 1, 1) := by decide +kernel
theorem dX2_hire_45 : decode cX2_hire 45 = .ok (.isub, 1) := by decide +kernel
theorem dX2_hire_46 : decode cX2_hire 46 = .ok (.ireturn, 1) := by decide +kernel
theorem dX2_perform_0 : decode cX2_perform 0 = .ok (.iconst 0, 1) := by decide +kernel
theorem dX2_perform_1 : decode cX2_perform 1 = .ok (.istore_n 3, 1) := by decide +kernel
theorem dX2_perform_2 : decode cX2_perform 2 = .ok (.iload_n 3, 1) := by decide +kernel
theorem dX2_perform_3 : decode cX2_perform 3 = .ok (.aload_n 0, 1) := by decide +kernel
theorem dX2_perform_4 : decode cX2_perform 4 = .ok (.getfield 41, 3) := by decide +kernel
theorem dX2_perform_7 : decode cX2_perform 7 = .ok (.if_icmp .ge 22, 3) := by decide +kernel
theorem dX2_perform_10 : decode cX2_perform 10 = .ok (.aload_n 0, 1) := by decide +kernel
theorem dX2_perform_11 : decode cX2_perform 11 = .ok (.getfield 26, 3) := by decide +kernel
theorem dX2_perform_14 : decode cX2_perform 14 = .ok (.iload_n 3, 1) := by decide +kernel
theorem dX2_perform_15 : decode cX2_perform 15 = .ok (.aaload, 1) := by decide +kernel
theorem dX2_perform_16 : decode cX2_perform 16 = .ok (.aload_n 0, 1) := by decide +kernel
theorem dX2_perform_17 : decode cX2_perform 17 = .ok (.getfield 44, 3) := by decide +kernel
theorem dX2_perform_20 : decode cX2_perform 20 = .ok (.invokevirtual 88, 3) := by decide +kernel
theorem dX2_perform_23 : decode cX2_perform 23 = .ok (.iinc 3 1, 3) := by decide +kernel
theorem dX2_perform_26 : decode cX2_perform 26 = .ok (.goto (-24), 3) := by decide +kernel
theorem dX2_perform_29 : decode cX2_perform 29 = .ok (.aload_n 0, 1) := by decide +kernel
theorem dX2_perform_30 : decode cX2_perform 30 = .ok (.iload_n 2, 1) := by decide +kernel
theorem dX2_perform_31 : decode cX2_perform 31 = .ok (.invokevirtual 92, 3) := by decide +kernel
theorem dX2_perform_34 : decode cX2_perform 34 = .ok (.istore_n 3, 1) := by decide +kernel
theorem dX2_perform_35 : decode cX2_perform 35 = .ok (.iconst 0, 1) := by decide +kernel
theorem dX2_perform_36 : decode cX2_perform 36 = .ok (.istore 4, 2) := by decide +kernel
theorem dX2_perform_38 : decode cX2_perform 38 = .ok (.iconst 0, 1) := by decide +kernel
theorem dX2_perform_39 : decode cX2_perform 39 = .ok (.istore 5, 2) := by decide +kernel
theorem dX2_perform_41 : decode cX2_perform 41 = .ok (.iload 5, 2) := by decide +kernel
theorem dX2_perform_43 : decode cX2_perform 43 = .ok (.aload_n 0, 1) := by decide +kernel
theorem dX2_perform_44 : decode cX2_perform 44 = .ok (.getfield 41, 3) := by decide +kernel
theorem dX2_perform_47 : decode cX2_perform 47 = .ok (.if_icmp .ge 33, 3) := by decide +kernel
theorem dX2_perform_50 : decode cX2_perform 50 = .ok (.aload_n 0, 1) := by decide +kernel
theorem dX2_perform_51 : decode cX2_perform 51 = .ok (.getfield 26, 3) := by decide +kernel
theorem dX2_perform_54 : decode cX2_perform 54 = .ok (.iload 5, 2) := by decide +kernel
theorem dX2_perform_56 : decode cX2_perform 56 = .ok (.aaload, 1) := by decide +kernel
theorem dX2_perform_57 : decode cX2_perform 57 = .ok (.iload_n 1, 1) := by decide +kernel
theorem dX2_perform_58 : decode cX2_perform 58 = .ok (.iload_n 2, 1) := by decide +kernel
theorem dX2_perform_59 : decode cX2_perform 59 = .ok (.iload_n 3, 1) := by decide +kernel
theorem dX2_perform_60 : decode cX2_perform 60 = .ok (.invokevirtual 96, 3) := by decide +kernel
theorem dX2_perform_63 : decode cX2_perform 63 = .ok (.iload 4, 2) := by decide +kernel
theorem dX2_perform_65 : decode cX2_perform 65 = .ok (.aload_n 0, 1) := by decide +kernel
theorem dX2_perform_66 : decode cX2_perform 66 = .ok (.iload 5, 2) := by decide +kernel
theorem dX2_perform_68 : decode cX2_perform 68 = .ok (.invokevirtual 99, 3) := by decide +kernel
theorem dX2_perform_71 : decode cX2_perform 71 = .ok (.iadd, 1) := by decide +kernel
theorem dX2_perform_72 : decode cX2_perform 72 = .ok (.istore 4, 2) := by decide +kernel
theorem dX2_perform_74 : decode cX2_perform 74 = .ok (.iinc 5 1, 3) := by decide +kernel
theorem dX2_perform_77 : decode cX2_perform 77 = .ok (.goto (-36), 3) := by decide +kernel
theorem dX2_perform_80 : decode cX2_perform 80 = .ok (.aload_n 0, 1) := by decide +kernel
theorem dX2_perform_81 : decode cX2_perform 81 = .ok (.iload_n 1, 1) := by decide +kernel
theorem dX2_perform_82 : decode cX2_perform 82 = .ok (.iload_n 2, 1) := by decide +kernel
theorem dX2_perform_83 : decode cX2_perform 83 = .ok (.iload_n 3, 1) := by decide +kernel
theorem dX2_perform_84 : decode cX2_perform 84 = .ok (.iload 4, 2) := by decide +kernel
theorem dX2_perform_86 : decode cX2_perform 86 = .ok (.invokevirtual 102, 3) := by decide +kernel
theorem dX2_perform_89 : decode cX2_perform 89 = .ok (.aload_n 0, 1) := by decide +kernel
theorem dX2_perform_90 : decode cX2_perform 90 = .ok (.dup, 1) := by decide +kernel
theorem dX2_perform_91 : decode cX2_perform 91 = .ok (.getfield 47, 3) := by decide +kernel
theorem dX2_perform_94 : decode cX2_perform 94 = .ok (.iconst 1, 1) := by decide +kernel
theorem dX2_perform_95 : decode cX2_perform 95 = .ok (.iadd, 1) := by decide +kernel
theorem dX2_perform_96 : decode cX2_perform 96 = .ok (.putfield 47, 3) := by decide +kernel
theorem dX2_perform_99 : decode cX2_perform 99 = .ok (.aload_n 0, 1) := by decide +kernel
theorem dX2_perform_100 : decode cX2_perform 100 = .ok (.dup, 1) := by decide +kernel
theorem dX2_perform_101 : decode cX2_perform 101 = .ok (.getfield 56, 3) := by decide +kernel
theorem dX2_perform_104 : decode cX2_perform 104 = .ok (.iload 4, 2) := by decide +kernel
theorem dX2_perform_106 : decode cX2_perform 106 = .ok (.iadd, 1) := by decide +kernel
theorem dX2_perform_107 : decode cX2_perform 107 = .ok (.putfield 56, 3) := by decide +kernel
theorem dX2_perform_110 : decode cX2_perform 110 = .ok (.iload_n 3, 1) := by decide +kernel
theorem dX2_perform_111 : decode cX2_perform 111 = .ok (.ifCond .eq 13, 3) := by decide +kernel
theorem dX2_perform_114 : decode cX2_perform 114 = .ok (.aload_n 0, 1) := by decide +kernel
theorem dX2_perform_115 : decode cX2_perform 115 = .ok (.dup, 1) := by decide +kernel
theorem dX2_perform_116 : decode cX2_perform 116 = .ok (.getfield 50, 3) := by decide +kernel
theorem dX2_perform_119 : decode cX2_perform 119 = .ok (.iconst 1, 1) := by decide +kernel
theorem dX2_perform_120 : decode cX2_perform 120 = .ok (.iadd, 1) := by decide +kernel
theorem dX2_perform_121 : decode cX2_perform 121 = .ok (.putfield 50, 3) := by decide +kernel
theorem dX2_perform_124 : decode cX2_perform 124 = .ok (.iload_n 3, 1) := by decide +kernel
theorem dX2_perform_125 : decode cX2_perform 125 = .ok (.iconst 2, 1) := by decide +kernel
theorem dX2_perform_126 : decode cX2_perform 126 = .ok (.if_icmp .ne 13, 3) := by decide +kernel
theorem dX2_perform_129 : decode cX2_perform 129 = .ok (.aload_n 0, 1) := by decide +kernel
theorem dX2_perform_130 : decode cX2_perform 130 = .ok (.dup, 1) := by decide +kernel
theorem dX2_perform_131 : decode cX2_perform 131 = .ok (.getfield 53, 3) := by decide +kernel
theorem dX2_perform_134 : decode cX2_perform 134 = .ok (.iconst 1, 1) := by decide +kernel
theorem dX2_perform_135 : decode cX2_perform 135 = .ok (.iadd, 1) := by decide +kernel
theorem dX2_perform_136 : decode cX2_perform 136 = .ok (.putfield 53, 3) := by decide +kernel
theorem dX2_perform_139 : decode cX2_perform 139 = .ok (.iload_n 3, 1) := by decide +kernel
theorem dX2_perform_140 : decode cX2_perform 140 = .ok (.ireturn, 1) := by decide +kernel
theorem dX2_performWalk_0 : decode cX2_performWalk 0 = .ok (.iconst 0, 1) := by decide +kernel
theorem dX2_performWalk_1 : decode cX2_performWalk 1 = .ok (.istore 5, 2) := by decide +kernel
theorem dX2_performWalk_3 : decode cX2_performWalk 3 = .ok (.iconst 0, 1) := by decide +kernel
theorem dX2_performWalk_4 : decode cX2_performWalk 4 = .ok (.istore 6, 2) := by decide +kernel
theorem dX2_performWalk_6 : decode cX2_performWalk 6 = .ok (.iload 6, 2) := by decide +kernel
theorem dX2_performWalk_8 : decode cX2_performWalk 8 = .ok (.iload 4, 2) := by decide +kernel
theorem dX2_performWalk_10 : decode cX2_performWalk 10 = .ok (.if_icmp .ge 26, 3) := by decide +kernel
theorem dX2_performWalk_13 : decode cX2_performWalk 13 = .ok (.aload_n 0, 1) := by decide +kernel
theorem dX2_performWalk_14 : decode cX2_performWalk 14 = .ok (.iload_n 1, 1) := by decide +kernel
theorem dX2_performWalk_15 : decode cX2_performWalk 15 = .ok (.iload_n 2, 1) := by decide +kernel
theorem dX2_performWalk_16 : decode cX2_performWalk 16 = .ok (.iload 6, 2) := by decide +kernel
theorem dX2_performWalk_18 : decode cX2_performWalk 18 = .ok (.iload_n 3, 1) := by decide +kernel
theorem dX2_performWalk_19 : decode cX2_performWalk 19 = .ok (.imul, 1) := by decide +kernel
theorem dX2_performWalk_20 : decode cX2_performWalk 20 = .ok (.iadd, 1) := by decide +kernel
theorem dX2_performWalk_21 : decode cX2_performWalk 21 = .ok (.invokevirtual 106, 3) := by decide +kernel
theorem dX2_performWalk_24 : decode cX2_performWalk 24 = .ok (.ifCond .eq 6, 3) := by decide +kernel
theorem dX2_performWalk_27 : decode cX2_performWalk 27 = .ok (.iinc 5 1, 3) := by decide +kernel
theorem dX2_performWalk_30 : decode cX2_performWalk 30 = .ok (.iinc 6 1, 3) := by decide +kernel
theorem dX2_performWalk_33 : decode cX2_performWalk 33 = .ok (.goto (-27), 3) := by decide +kernel
theorem dX2_performWalk_36 : decode cX2_performWalk 36 = .ok (.iload 5, 2) := by decide +kernel
theorem dX2_performWalk_38 : decode cX2_performWalk 38 = .ok (.ireturn, 1) := by decide +kernel
theorem dX2_serve_0 : decode cX2_serve 0 = .ok (.aload_n 0, 1) := by decide +kernel
theorem dX2_serve_1 : decode cX2_serve 1 = .ok (.iload_n 1, 1) := by decide +kernel
theorem dX2_serve_2 : decode cX2_serve 2 = .ok (.invokevirtual 109, 3) := by decide +kernel
theorem dX2_serve_5 : decode cX2_serve 5 = .ok (.astore_n 2, 1) := by decide +kernel
theorem dX2_serve_6 : decode cX2_serve 6 = .ok (.aload_n 2, 1) := by decide +kernel
theorem dX2_serve_7 : decode cX2_serve 7 = .ok (.iload_n 1, 1) := by decide +kernel
theorem dX2_serve_8 : decode cX2_serve 8 = .ok (.invokevirtual 112, 3) := by decide +kernel
theorem dX2_serve_11 : decode cX2_serve 11 = .ok (.istore_n 3, 1) := by decide +kernel
theorem dX2_serve_12 : decode cX2_serve 12 = .ok (.iload_n 3, 1) := by decide +kernel
theorem dX2_serve_13 : decode cX2_serve 13 = .ok (.ifCond .ge 17, 3) := by decide +kernel
theorem dX2_serve_16 : decode cX2_serve 16 = .ok (.aload_n 0, 1) := by decide +kernel
theorem dX2_serve_17 : decode cX2_serve 17 = .ok (.iload_n 1, 1) := by decide +kernel
theorem dX2_serve_18 : decode cX2_serve 18 = .ok (.invokevirtual 115, 3) := by decide +kernel
theorem dX2_serve_21 : decode cX2_serve 21 = .ok (.aload_n 0, 1) := by decide +kernel
theorem dX2_serve_22 : decode cX2_serve 22 = .ok (.iload_n 1, 1) := by decide +kernel
theorem dX2_serve_23 : decode cX2_serve 23 = .ok (.ldc 118, 2) := by decide +kernel
theorem dX2_serve_25 : decode cX2_serve 25 = .ok (.invokevirtual 119, 3) := by decide +kernel
theorem dX2_serve_28 : decode cX2_serve 28 = .ok (.iconst 0, 1) := by decide +kernel
theorem dX2_serve_29 : decode cX2_serve 29 = .ok (.ireturn, 1) := by decide +kernel
theorem dX2_serve_30 : decode cX2_serve 30 = .ok (.aload_n 2, 1) := by decide +kernel
theorem dX2_serve_31 : decode cX2_serve 31 = .ok (.iload_n 3, 1) := by decide +kernel
theorem dX2_serve_32 : decode cX2_serve 32 = .ok (.iconst 2, 1) := by decide +kernel
theorem dX2_serve_33 : decode cX2_serve 33 = .ok (.invokevirtual 122, 3) := by decide +kernel
theorem dX2_serve_36 : decode cX2_serve 36 = .ok (.iconst 1, 1) := by decide +kernel
theorem dX2_serve_37 : decode cX2_serve 37 = .ok (.if_icmp .ne 7, 3) := by decide +kernel
theorem dX2_serve_40 : decode cX2_serve 40 = .ok (.iconst 1, 1) := by decide +kernel
theorem dX2_serve_41 : decode cX2_serve 41 = .ok (.goto 4, 3) := by decide +kernel
theorem dX2_serve_44 : decode cX2_serve 44 = .ok (.iconst 0, 1) := by decide +kernel
theorem dX2_serve_45 : decode cX2_serve 45 = .ok (.istore 4, 2) := by decide +kernel
theorem dX2_serve_47 : decode cX2_serve 47 = .ok (.aload_n 0, 1) := by decide +kernel
theorem dX2_serve_48 : decode cX2_serve 48 = .ok (.aload_n 2, 1) := by decide +kernel
theorem dX2_serve_49 : decode cX2_serve 49 = .ok (.iload_n 3, 1) := by decide +kernel
theorem dX2_serve_50 : decode cX2_serve 50 = .ok (.iconst 1, 1) := by decide +kernel
theorem dX2_serve_51 : decode cX2_serve 51 = .ok (.invokevirtual 122, 3) := by decide +kernel
theorem dX2_serve_54 : decode cX2_serve 54 = .ok (.invokevirtual 125, 3) := by decide +kernel
theorem dX2_serve_57 : decode cX2_serve 57 = .ok (.astore 5, 2) := by decide +kernel
theorem dX2_serve_59 : decode cX2_serve 59 = .ok (.aload_n 2, 1) := by decide +kernel
theorem dX2_serve_60 : decode cX2_serve 60 = .ok (.iload_n 3, 1) := by decide +kernel
theorem dX2_serve_61 : decode cX2_serve 61 = .ok (.iconst 2, 1) := by decide +kernel
theorem dX2_serve_62 : decode cX2_serve 62 = .ok (.iconst 0, 1) := by decide +kernel
theorem dX2_serve_63 : decode cX2_serve 63 = .ok (.invokevirtual 129, 3) := by decide +kernel
theorem dX2_serve_66 : decode cX2_serve 66 = .ok (.aload_n 2, 1) := by decide +kernel
theorem dX2_serve_67 : decode cX2_serve 67 = .ok (.iload_n 3, 1) := by decide +kernel
theorem dX2_serve_68 : decode cX2_serve 68 = .ok (.invokevirtual 132, 3) := by decide +kernel
theorem dX2_serve_71 : decode cX2_serve 71 = .ok (.iload 4, 2) := by decide +kernel
theorem dX2_serve_73 : decode cX2_serve 73 = .ok (.ifCond .eq 13, 3) := by decide +kernel
theorem dX2_serve_76 : decode cX2_serve 76 = .ok (.aload 5, 2) := by decide +kernel
theorem dX2_serve_78 : decode cX2_serve 78 = .ok (.ifnull 8, 3) := by decide +kernel
theorem dX2_serve_81 : decode cX2_serve 81 = .ok (.aload 5, 2) := by decide +kernel
theorem dX2_serve_83 : decode cX2_serve 83 = .ok (.invokevirtual 135, 3) := by decide +kernel
theorem dX2_serve_86 : decode cX2_serve 86 = .ok (.iload 4, 2) := by decide +kernel
theorem dX2_serve_88 : decode cX2_serve 88 = .ok (.ifCond .eq 7, 3) := by decide +kernel
theorem dX2_serve_91 : decode cX2_serve 91 = .ok (.iconst 2, 1) := by decide +kernel
theorem dX2_serve_92 : decode cX2_serve 92 = .ok (.goto 4, 3) := by decide +kernel
theorem dX2_serve_95 : decode cX2_serve 95 = .ok (.iconst 1, 1) := by decide +kernel
theorem dX2_serve_96 : decode cX2_serve 96 = .ok (.ireturn, 1) := by decide +kernel
theorem dX2_punishThrower_0 : decode cX2_punishThrower 0 = .ok (.aload_n 0, 1) := by decide +kernel
theorem dX2_punishThrower_1 : decode cX2_punishThrower 1 = .ok (.aload_n 0, 1) := by decide +kernel
theorem dX2_punishThrower_2 : decode cX2_punishThrower 2 = .ok (.getfield 20, 3) := by decide +kernel
theorem dX2_punishThrower_5 : decode cX2_punishThrower 5 = .ok (.aload_n 0, 1) := by decide +kernel
theorem dX2_punishThrower_6 : decode cX2_punishThrower 6 = .ok (.getfield 20, 3) := by decide +kernel
theorem dX2_punishThrower_9 : decode cX2_punishThrower 9 = .ok (.iload_n 1, 1) := by decide +kernel
theorem dX2_punishThrower_10 : decode cX2_punishThrower 10 = .ok (.invokevirtual 112, 3) := by decide +kernel
theorem dX2_punishThrower_13 : decode cX2_punishThrower 13 = .ok (.iconst 1, 1) := by decide +kernel
theorem dX2_punishThrower_14 : decode cX2_punishThrower 14 = .ok (.invokevirtual 122, 3) := by decide +kernel
theorem dX2_punishThrower_17 : decode cX2_punishThrower 17 = .ok (.invokevirtual 125, 3) := by decide +kernel
theorem dX2_punishThrower_20 : decode cX2_punishThrower 20 = .ok (.astore_n 2, 1) := by decide +kernel
theorem dX2_punishThrower_21 : decode cX2_punishThrower 21 = .ok (.aload_n 2, 1) := by decide +kernel
theorem dX2_punishThrower_22 : decode cX2_punishThrower 22 = .ok (.ifnull 18, 3) := by decide +kernel
theorem dX2_punishThrower_25 : decode cX2_punishThrower 25 = .ok (.aload_n 2, 1) := by decide +kernel
theorem dX2_punishThrower_26 : decode cX2_punishThrower 26 = .ok (.dup, 1) := by decide +kernel
theorem dX2_punishThrower_27 : decode cX2_punishThrower 27 = .ok (.getfield 138, 3) := by decide +kernel
theorem dX2_punishThrower_30 : decode cX2_punishThrower 30 = .ok (.iconst 1, 1) := by decide +kernel
theorem dX2_punishThrower_31 : decode cX2_punishThrower 31 = .ok (.iadd, 1) := by decide +kernel
theorem dX2_punishThrower_32 : decode cX2_punishThrower 32 = .ok (.putfield 138, 3) := by decide +kernel
theorem dX2_punishThrower_35 : decode cX2_punishThrower 35 = .ok (.aload_n 2, 1) := by decide +kernel
theorem dX2_punishThrower_36 : decode cX2_punishThrower 36 = .ok (.iconst 2, 1) := by decide +kernel
theorem dX2_punishThrower_37 : decode cX2_punishThrower 37 = .ok (.invokevirtual 141, 3) := by decide +kernel
theorem dX2_punishThrower_40 : decode cX2_punishThrower 40 = .ok (.return_, 1) := by decide +kernel
theorem dX2_fetchWishes_0 : decode cX2_fetchWishes 0 = .ok (.aload_n 0, 1) := by decide +kernel
theorem dX2_fetchWishes_1 : decode cX2_fetchWishes 1 = .ok (.getfield 26, 3) := by decide +kernel
theorem dX2_fetchWishes_4 : decode cX2_fetchWishes 4 = .ok (.iload_n 1, 1) := by decide +kernel
theorem dX2_fetchWishes_5 : decode cX2_fetchWishes 5 = .ok (.aaload, 1) := by decide +kernel
theorem dX2_fetchWishes_6 : decode cX2_fetchWishes 6 = .ok (.astore_n 2, 1) := by decide +kernel
theorem dX2_fetchWishes_7 : decode cX2_fetchWishes 7 = .ok (.iconst 0, 1) := by decide +kernel
theorem dX2_fetchWishes_8 : decode cX2_fetchWishes 8 = .ok (.istore_n 3, 1) := by decide +kernel
theorem dX2_fetchWishes_9 : decode cX2_fetchWishes 9 = .ok (.iconst 0, 1) := by decide +kernel
theorem dX2_fetchWishes_10 : decode cX2_fetchWishes 10 = .ok (.istore 4, 2) := by decide +kernel
theorem dX2_fetchWishes_12 : decode cX2_fetchWishes 12 = .ok (.iload 4, 2) := by decide +kernel
theorem dX2_fetchWishes_14 : decode cX2_fetchWishes 14 = .ok (.aload_n 2, 1) := by decide +kernel
theorem dX2_fetchWishes_15 : decode cX2_fetchWishes 15 = .ok (.getfield 144, 3) := by decide +kernel
theorem dX2_fetchWishes_18 : decode cX2_fetchWishes 18 = .ok (.if_icmp .ge 42, 3) := by decide +kernel
theorem dX2_fetchWishes_21 : decode cX2_fetchWishes 21 = .ok (.aload_n 2, 1) := by decide +kernel
theorem dX2_fetchWishes_22 : decode cX2_fetchWishes 22 = .ok (.getfield 147, 3) := by decide +kernel
theorem dX2_fetchWishes_25 : decode cX2_fetchWishes 25 = .ok (.iload 4, 2) := by decide +kernel
theorem dX2_fetchWishes_27 : decode cX2_fetchWishes 27 = .ok (.iaload, 1) := by decide +kernel
theorem dX2_fetchWishes_28 : decode cX2_fetchWishes 28 = .ok (.istore 5, 2) := by decide +kernel
theorem dX2_fetchWishes_30 : decode cX2_fetchWishes 30 = .ok (.aload_n 0, 1) := by decide +kernel
theorem dX2_fetchWishes_31 : decode cX2_fetchWishes 31 = .ok (.iload 5, 2) := by decide +kernel
theorem dX2_fetchWishes_33 : decode cX2_fetchWishes 33 = .ok (.invokevirtual 109, 3) := by decide +kernel
theorem dX2_fetchWishes_36 : decode cX2_fetchWishes 36 = .ok (.iload 5, 2) := by decide +kernel
theorem dX2_fetchWishes_38 : decode cX2_fetchWishes 38 = .ok (.invokevirtual 112, 3) := by decide +kernel
theorem dX2_fetchWishes_41 : decode cX2_fetchWishes 41 = .ok (.ifCond .ge 13, 3) := by decide +kernel
theorem dX2_fetchWishes_44 : decode cX2_fetchWishes 44 = .ok (.aload_n 0, 1) := by decide +kernel
theorem dX2_fetchWishes_45 : decode cX2_fetchWishes 45 = .ok (.iload 5, 2) := by decide +kernel
theorem dX2_fetchWishes_47 : decode cX2_fetchWishes 47 = .ok (.iload_n 1, 1) := by decide +kernel
theorem dX2_fetchWishes_48 : decode cX2_fetchWishes 48 = .ok (.invokevirtual 119, 3) := by decide +kernel
theorem dX2_fetchWishes_51 : decode cX2_fetchWishes 51 = .ok (.iinc 3 1, 3) := by decide +kernel
theorem dX2_fetchWishes_54 : decode cX2_fetchWishes 54 = .ok (.iinc 4 1, 3) := by decide +kernel
theorem dX2_fetchWishes_57 : decode cX2_fetchWishes 57 = .ok (.goto (-45), 3) := by decide +kernel
theorem dX2_fetchWishes_60 : decode cX2_fetchWishes 60 = .ok (.aload_n 2, 1) := by decide +kernel
theorem dX2_fetchWishes_61 : decode cX2_fetchWishes 61 = .ok (.dup, 1) := by decide +kernel
theorem dX2_fetchWishes_62 : decode cX2_fetchWishes 62 = .ok (.getfield 151, 3) := by decide +kernel
theorem dX2_fetchWishes_65 : decode cX2_fetchWishes 65 = .ok (.iload_n 3, 1) := by decide +kernel
theorem dX2_fetchWishes_66 : decode cX2_fetchWishes 66 = .ok (.iadd, 1) := by decide +kernel
theorem dX2_fetchWishes_67 : decode cX2_fetchWishes 67 = .ok (.putfield 151, 3) := by decide +kernel
theorem dX2_fetchWishes_70 : decode cX2_fetchWishes 70 = .ok (.iload_n 3, 1) := by decide +kernel
theorem dX2_fetchWishes_71 : decode cX2_fetchWishes 71 = .ok (.ireturn, 1) := by decide +kernel
theorem dX2_fetch_0 : decode cX2_fetch 0 = .ok (.aload_n 0, 1) := by decide +kernel
theorem dX2_fetch_1 : decode cX2_fetch 1 = .ok (.getfield 20, 3) := by decide +kernel
theorem dX2_fetch_4 : decode cX2_fetch 4 = .ok (.aload_n 0, 1) := by decide +kernel
theorem dX2_fetch_5 : decode cX2_fetch 5 = .ok (.getfield 20, 3) := by decide +kernel
theorem dX2_fetch_8 : decode cX2_fetch 8 = .ok (.iload_n 1, 1) := by decide +kernel
theorem dX2_fetch_9 : decode cX2_fetch 9 = .ok (.invokevirtual 112, 3) := by decide +kernel
theorem dX2_fetch_12 : decode cX2_fetch 12 = .ok (.invokevirtual 154, 3) := by decide +kernel
theorem dX2_fetch_15 : decode cX2_fetch 15 = .ok (.aload_n 0, 1) := by decide +kernel
theorem dX2_fetch_16 : decode cX2_fetch 16 = .ok (.iload_n 1, 1) := by decide +kernel
theorem dX2_fetch_17 : decode cX2_fetch 17 = .ok (.invokevirtual 109, 3) := by decide +kernel
theorem dX2_fetch_20 : decode cX2_fetch 20 = .ok (.astore_n 3, 1) := by decide +kernel
theorem dX2_fetch_21 : decode cX2_fetch 21 = .ok (.aload_n 3, 1) := by decide +kernel
theorem dX2_fetch_22 : decode cX2_fetch 22 = .ok (.getfield 157, 3) := by decide +kernel
theorem dX2_fetch_25 : decode cX2_fetch 25 = .ok (.aload_n 0, 1) := by decide +kernel
theorem dX2_fetch_26 : decode cX2_fetch 26 = .ok (.getfield 38, 3) := by decide +kernel
theorem dX2_fetch_29 : decode cX2_fetch 29 = .ok (.if_icmp .lt 9, 3) := by decide +kernel
theorem dX2_fetch_32 : decode cX2_fetch 32 = .ok (.aload_n 0, 1) := by decide +kernel
theorem dX2_fetch_33 : decode cX2_fetch 33 = .ok (.aload_n 3, 1) := by decide +kernel
theorem dX2_fetch_34 : decode cX2_fetch 34 = .ok (.iload_n 2, 1) := by decide +kernel
theorem dX2_fetch_35 : decode cX2_fetch 35 = .ok (.invokevirtual 160, 3) := by decide +kernel
theorem dX2_fetch_38 : decode cX2_fetch 38 = .ok (.aload_n 3, 1) := by decide +kernel
theorem dX2_fetch_39 : decode cX2_fetch 39 = .ok (.aload_n 0, 1) := by decide +kernel
theorem dX2_fetch_40 : decode cX2_fetch 40 = .ok (.getfield 38, 3) := by decide +kernel
theorem dX2_fetch_43 : decode cX2_fetch 43 = .ok (.invokevirtual 164, 3) := by decide +kernel
theorem dX2_fetch_46 : decode cX2_fetch 46 = .ok (.istore 4, 2) := by decide +kernel
theorem dX2_fetch_48 : decode cX2_fetch 48 = .ok (.aload_n 3, 1) := by decide +kernel
theorem dX2_fetch_49 : decode cX2_fetch 49 = .ok (.iload 4, 2) := by decide +kernel
theorem dX2_fetch_51 : decode cX2_fetch 51 = .ok (.iconst 0, 1) := by decide +kernel
theorem dX2_fetch_52 : decode cX2_fetch 52 = .ok (.iload_n 1, 1) := by decide +kernel
theorem dX2_fetch_53 : decode cX2_fetch 53 = .ok (.invokevirtual 129, 3) := by decide +kernel
theorem dX2_fetch_56 : decode cX2_fetch 56 = .ok (.aload_n 3, 1) := by decide +kernel
theorem dX2_fetch_57 : decode cX2_fetch 57 = .ok (.iload 4, 2) := by decide +kernel
theorem dX2_fetch_59 : decode cX2_fetch 59 = .ok (.iconst 1, 1) := by decide +kernel
theorem dX2_fetch_60 : decode cX2_fetch 60 = .ok (.iload_n 2, 1) := by decide +kernel
theorem dX2_fetch_61 : decode cX2_fetch 61 = .ok (.invokevirtual 129, 3) := by decide +kernel
theorem dX2_fetch_64 : decode cX2_fetch 64 = .ok (.aload_n 3, 1) := by decide +kernel
theorem dX2_fetch_65 : decode cX2_fetch 65 = .ok (.iload 4, 2) := by decide +kernel
theorem dX2_fetch_67 : decode cX2_fetch 67 = .ok (.iconst 2, 1) := by decide +kernel
theorem dX2_fetch_68 : decode cX2_fetch 68 = .ok (.iload_n 2, 1) := by decide +kernel
theorem dX2_fetch_69 : decode cX2_fetch 69 = .ok (.ldc 118, 2) := by decide +kernel
theorem dX2_fetch_71 : decode cX2_fetch 71 = .ok (.if_icmp .ne 7, 3) := by decide +kernel
theorem dX2_fetch_74 : decode cX2_fetch 74 = .ok (.iconst 0, 1) := by decide +kernel
theorem dX2_fetch_75 : decode cX2_fetch 75 = .ok (.goto 4, 3) := by decide +kernel
theorem dX2_fetch_78 : decode cX2_fetch 78 = .ok (.iconst 1, 1) := by decide +kernel
theorem dX2_fetch_79 : decode cX2_fetch 79 = .ok (.invokevirtual 129, 3) := by decide +kernel
theorem dX2_fetch_82 : decode cX2_fetch 82 = .ok (.return_, 1) := by decide +kernel
theorem dX2_throwOldest_0 : decode cX2_throwOldest 0 = .ok (.aload_n 1, 1) := by decide +kernel
theorem dX2_throwOldest_1 : decode cX2_throwOldest 1 = .ok (.iconst 0, 1) := by decide +kernel
theorem dX2_throwOldest_2 : decode cX2_throwOldest 2 = .ok (.iconst 0, 1) := by decide +kernel
theorem dX2_throwOldest_3 : decode cX2_throwOldest 3 = .ok (.invokevirtual 122, 3) := by decide +kernel
theorem dX2_throwOldest_6 : decode cX2_throwOldest 6 = .ok (.istore_n 3, 1) := by decide +kernel
theorem dX2_throwOldest_7 : decode cX2_throwOldest 7 = .ok (.aload_n 0, 1) := by decide +kernel
theorem dX2_throwOldest_8 : decode cX2_throwOldest 8 = .ok (.aload_n 1, 1) := by decide +kernel
theorem dX2_throwOldest_9 : decode cX2_throwOldest 9 = .ok (.iconst 0, 1) := by decide +kernel
theorem dX2_throwOldest_10 : decode cX2_throwOldest 10 = .ok (.iconst 1, 1) := by decide +kernel
theorem dX2_throwOldest_11 : decode cX2_throwOldest 11 = .ok (.invokevirtual 122, 3) := by decide +kernel
theorem dX2_throwOldest_14 : decode cX2_throwOldest 14 = .ok (.invokevirtual 125, 3) := by decide +kernel
theorem dX2_throwOldest_17 : decode cX2_throwOldest 17 = .ok (.astore 4, 2) := by decide +kernel
theorem dX2_throwOldest_19 : decode cX2_throwOldest 19 = .ok (.aload_n 1, 1) := by decide +kernel
theorem dX2_throwOldest_20 : decode cX2_throwOldest 20 = .ok (.iconst 0, 1) := by decide +kernel
theorem dX2_throwOldest_21 : decode cX2_throwOldest 21 = .ok (.iconst 2, 1) := by decide +kernel
theorem dX2_throwOldest_22 : decode cX2_throwOldest 22 = .ok (.invokevirtual 122, 3) := by decide +kernel
theorem dX2_throwOldest_25 : decode cX2_throwOldest 25 = .ok (.iconst 1, 1) := by decide +kernel
theorem dX2_throwOldest_26 : decode cX2_throwOldest 26 = .ok (.if_icmp .ne 7, 3) := by decide +kernel
theorem dX2_throwOldest_29 : decode cX2_throwOldest 29 = .ok (.iconst 1, 1) := by decide +kernel
theorem dX2_throwOldest_30 : decode cX2_throwOldest 30 = .ok (.goto 4, 3) := by decide +kernel
theorem dX2_throwOldest_33 : decode cX2_throwOldest 33 = .ok (.iconst 0, 1) := by decide +kernel
theorem dX2_throwOldest_34 : decode cX2_throwOldest 34 = .ok (.istore 5, 2) := by decide +kernel
theorem dX2_throwOldest_36 : decode cX2_throwOldest 36 = .ok (.aload_n 1, 1) := by decide +kernel
theorem dX2_throwOldest_37 : decode cX2_throwOldest 37 = .ok (.iconst 0, 1) := by decide +kernel
theorem dX2_throwOldest_38 : decode cX2_throwOldest 38 = .ok (.invokevirtual 154, 3) := by decide +kernel
theorem dX2_throwOldest_41 : decode cX2_throwOldest 41 = .ok (.aload_n 0, 1) := by decide +kernel
theorem dX2_throwOldest_42 : decode cX2_throwOldest 42 = .ok (.getfield 20, 3) := by decide +kernel
theorem dX2_throwOldest_45 : decode cX2_throwOldest 45 = .ok (.bipush 8, 2) := by decide +kernel
theorem dX2_throwOldest_47 : decode cX2_throwOldest 47 = .ok (.invokevirtual 164, 3) := by decide +kernel
theorem dX2_throwOldest_50 : decode cX2_throwOldest 50 = .ok (.istore 6, 2) := by decide +kernel
theorem dX2_throwOldest_52 : decode cX2_throwOldest 52 = .ok (.aload_n 0, 1) := by decide +kernel
theorem dX2_throwOldest_53 : decode cX2_throwOldest 53 = .ok (.getfield 20, 3) := by decide +kernel
theorem dX2_throwOldest_56 : decode cX2_throwOldest 56 = .ok (.iload 6, 2) := by decide +kernel
theorem dX2_throwOldest_58 : decode cX2_throwOldest 58 = .ok (.iconst 0, 1) := by decide +kernel
theorem dX2_throwOldest_59 : decode cX2_throwOldest 59 = .ok (.iload_n 3, 1) := by decide +kernel
theorem dX2_throwOldest_60 : decode cX2_throwOldest 60 = .ok (.invokevirtual 129, 3) := by decide +kernel
theorem dX2_throwOldest_63 : decode cX2_throwOldest 63 = .ok (.aload_n 0, 1) := by decide +kernel
theorem dX2_throwOldest_64 : decode cX2_throwOldest 64 = .ok (.getfield 20, 3) := by decide +kernel
theorem dX2_throwOldest_67 : decode cX2_throwOldest 67 = .ok (.iload 6, 2) := by decide +kernel
theorem dX2_throwOldest_69 : decode cX2_throwOldest 69 = .ok (.iconst 1, 1) := by decide +kernel
theorem dX2_throwOldest_70 : decode cX2_throwOldest 70 = .ok (.iload_n 2, 1) := by decide +kernel
theorem dX2_throwOldest_71 : decode cX2_throwOldest 71 = .ok (.invokevirtual 129, 3) := by decide +kernel
theorem dX2_throwOldest_74 : decode cX2_throwOldest 74 = .ok (.aload_n 0, 1) := by decide +kernel
theorem dX2_throwOldest_75 : decode cX2_throwOldest 75 = .ok (.dup, 1) := by decide +kernel
theorem dX2_throwOldest_76 : decode cX2_throwOldest 76 = .ok (.getfield 59, 3) := by decide +kernel
theorem dX2_throwOldest_79 : decode cX2_throwOldest 79 = .ok (.iconst 1, 1) := by decide +kernel
theorem dX2_throwOldest_80 : decode cX2_throwOldest 80 = .ok (.iadd, 1) := by decide +kernel
theorem dX2_throwOldest_81 : decode cX2_throwOldest 81 = .ok (.putfield 59, 3) := by decide +kernel
theorem dX2_throwOldest_84 : decode cX2_throwOldest 84 = .ok (.iload 5, 2) := by decide +kernel
theorem dX2_throwOldest_86 : decode cX2_throwOldest 86 = .ok (.ifCond .eq 29, 3) := by decide +kernel
theorem dX2_throwOldest_89 : decode cX2_throwOldest 89 = .ok (.aload 4, 2) := by decide +kernel
theorem dX2_throwOldest_91 : decode cX2_throwOldest 91 = .ok (.ifnull 24, 3) := by decide +kernel
theorem dX2_throwOldest_94 : decode cX2_throwOldest 94 = .ok (.aload 4, 2) := by decide +kernel
theorem dX2_throwOldest_96 : decode cX2_throwOldest 96 = .ok (.dup, 1) := by decide +kernel
theorem dX2_throwOldest_97 : decode cX2_throwOldest 97 = .ok (.getfield 167, 3) := by decide +kernel
theorem dX2_throwOldest_100 : decode cX2_throwOldest 100 = .ok (.iconst 1, 1) := by decide +kernel
theorem dX2_throwOldest_101 : decode cX2_throwOldest 101 = .ok (.iadd, 1) := by decide +kernel
theorem dX2_throwOldest_102 : decode cX2_throwOldest 102 = .ok (.putfield 167, 3) := by decide +kernel
theorem dX2_throwOldest_105 : decode cX2_throwOldest 105 = .ok (.aload 4, 2) := by decide +kernel
theorem dX2_throwOldest_107 : decode cX2_throwOldest 107 = .ok (.aload 4, 2) := by decide +kernel
theorem dX2_throwOldest_109 : decode cX2_throwOldest 109 = .ok (.getfield 170, 3) := by decide +kernel
theorem dX2_throwOldest_112 : decode cX2_throwOldest 112 = .ok (.invokevirtual 141, 3) := by decide +kernel
theorem dX2_throwOldest_115 : decode cX2_throwOldest 115 = .ok (.return_, 1) := by decide +kernel
theorem dX2_throwAllOut_0 : decode cX2_throwAllOut 0 = .ok (.iconst 0, 1) := by decide +kernel
theorem dX2_throwAllOut_1 : decode cX2_throwAllOut 1 = .ok (.istore_n 1, 1) := by decide +kernel
theorem dX2_throwAllOut_2 : decode cX2_throwAllOut 2 = .ok (.iconst 0, 1) := by decide +kernel
theorem dX2_throwAllOut_3 : decode cX2_throwAllOut 3 = .ok (.istore_n 2, 1) := by decide +kernel
theorem dX2_throwAllOut_4 : decode cX2_throwAllOut 4 = .ok (.iload_n 2, 1) := by decide +kernel
theorem dX2_throwAllOut_5 : decode cX2_throwAllOut 5 = .ok (.bipush 8, 2) := by decide +kernel
theorem dX2_throwAllOut_7 : decode cX2_throwAllOut 7 = .ok (.if_icmp .ge 50, 3) := by decide +kernel
theorem dX2_throwAllOut_10 : decode cX2_throwAllOut 10 = .ok (.aload_n 0, 1) := by decide +kernel
theorem dX2_throwAllOut_11 : decode cX2_throwAllOut 11 = .ok (.getfield 11, 3) := by decide +kernel
theorem dX2_throwAllOut_14 : decode cX2_throwAllOut 14 = .ok (.iload_n 2, 1) := by decide +kernel
theorem dX2_throwAllOut_15 : decode cX2_throwAllOut 15 = .ok (.aaload, 1) := by decide +kernel
theorem dX2_throwAllOut_16 : decode cX2_throwAllOut 16 = .ok (.getfield 157, 3) := by decide +kernel
theorem dX2_throwAllOut_19 : decode cX2_throwAllOut 19 = .ok (.istore_n 3, 1) := by decide +kernel
theorem dX2_throwAllOut_20 : decode cX2_throwAllOut 20 = .ok (.iconst 0, 1) := by decide +kernel
theorem dX2_throwAllOut_21 : decode cX2_throwAllOut 21 = .ok (.istore 4, 2) := by decide +kernel
theorem dX2_throwAllOut_23 : decode cX2_throwAllOut 23 = .ok (.iload 4, 2) := by decide +kernel
theorem dX2_throwAllOut_25 : decode cX2_throwAllOut 25 = .ok (.iload_n 3, 1) := by decide +kernel
theorem dX2_throwAllOut_26 : decode cX2_throwAllOut 26 = .ok (.if_icmp .ge 21, 3) := by decide +kernel
theorem dX2_throwAllOut_29 : decode cX2_throwAllOut 29 = .ok (.aload_n 0, 1) := by decide +kernel
theorem dX2_throwAllOut_30 : decode cX2_throwAllOut 30 = .ok (.aload_n 0, 1) := by decide +kernel
theorem dX2_throwAllOut_31 : decode cX2_throwAllOut 31 = .ok (.getfield 11, 3) := by decide +kernel
theorem dX2_throwAllOut_34 : decode cX2_throwAllOut 34 = .ok (.iload_n 2, 1) := by decide +kernel
theorem dX2_throwAllOut_35 : decode cX2_throwAllOut 35 = .ok (.aaload, 1) := by decide +kernel
theorem dX2_throwAllOut_36 : decode cX2_throwAllOut 36 = .ok (.ldc 118, 2) := by decide +kernel
theorem dX2_throwAllOut_38 : decode cX2_throwAllOut 38 = .ok (.invokevirtual 160, 3) := by decide +kernel
theorem dX2_throwAllOut_41 : decode cX2_throwAllOut 41 = .ok (.iinc 4 1, 3) := by decide +kernel
theorem dX2_throwAllOut_44 : decode cX2_throwAllOut 44 = .ok (.goto (-21), 3) := by decide +kernel
theorem dX2_throwAllOut_47 : decode cX2_throwAllOut 47 = .ok (.iload_n 1, 1) := by decide +kernel
theorem dX2_throwAllOut_48 : decode cX2_throwAllOut 48 = .ok (.iload_n 3, 1) := by decide +kernel
theorem dX2_throwAllOut_49 : decode cX2_throwAllOut 49 = .ok (.iadd, 1) := by decide +kernel
theorem dX2_throwAllOut_50 : decode cX2_throwAllOut 50 = .ok (.istore_n 1, 1) := by decide +kernel
theorem dX2_throwAllOut_51 : decode cX2_throwAllOut 51 = .ok (.iinc 2 1, 3) := by decide +kernel
theorem dX2_throwAllOut_54 : decode cX2_throwAllOut 54 = .ok (.goto (-50), 3) := by decide +kernel
theorem dX2_throwAllOut_57 : decode cX2_throwAllOut 57 = .ok (.iload_n 1, 1) := by decide +kernel
theorem dX2_throwAllOut_58 : decode cX2_throwAllOut 58 = .ok (.ireturn, 1) := by decide +kernel
theorem dX2_writeLog_0 : decode cX2_writeLog 0 = .ok (.aload_n 0, 1) := by decide +kernel
theorem dX2_writeLog_1 : decode cX2_writeLog 1 = .ok (.getfield 31, 3) := by decide +kernel
theorem dX2_writeLog_4 : decode cX2_writeLog 4 = .ok (.bipush 12, 2) := by decide +kernel
theorem dX2_writeLog_6 : decode cX2_writeLog 6 = .ok (.invokevirtual 164, 3) := by decide +kernel
theorem dX2_writeLog_9 : decode cX2_writeLog 9 = .ok (.istore 5, 2) := by decide +kernel
theorem dX2_writeLog_11 : decode cX2_writeLog 11 = .ok (.aload_n 0, 1) := by decide +kernel
theorem dX2_writeLog_12 : decode cX2_writeLog 12 = .ok (.getfield 31, 3) := by decide +kernel
theorem dX2_writeLog_15 : decode cX2_writeLog 15 = .ok (.iload 5, 2) := by decide +kernel
theorem dX2_writeLog_17 : decode cX2_writeLog 17 = .ok (.iconst 0, 1) := by decide +kernel
theorem dX2_writeLog_18 : decode cX2_writeLog 18 = .ok (.iload_n 1, 1) := by decide +kernel
theorem dX2_writeLog_19 : decode cX2_writeLog 19 = .ok (.invokevirtual 129, 3) := by decide +kernel
theorem dX2_writeLog_22 : decode cX2_writeLog 22 = .ok (.aload_n 0, 1) := by decide +kernel
theorem dX2_writeLog_23 : decode cX2_writeLog 23 = .ok (.getfield 31, 3) := by decide +kernel
theorem dX2_writeLog_26 : decode cX2_writeLog 26 = .ok (.iload 5, 2) := by decide +kernel
theorem dX2_writeLog_28 : decode cX2_writeLog 28 = .ok (.iconst 1, 1) := by decide +kernel
theorem dX2_writeLog_29 : decode cX2_writeLog 29 = .ok (.iload_n 2, 1) := by decide +kernel
theorem dX2_writeLog_30 : decode cX2_writeLog 30 = .ok (.invokevirtual 129, 3) := by decide +kernel
theorem dX2_writeLog_33 : decode cX2_writeLog 33 = .ok (.aload_n 0, 1) := by decide +kernel
theorem dX2_writeLog_34 : decode cX2_writeLog 34 = .ok (.getfield 31, 3) := by decide +kernel
theorem dX2_writeLog_37 : decode cX2_writeLog 37 = .ok (.iload 5, 2) := by decide +kernel
theorem dX2_writeLog_39 : decode cX2_writeLog 39 = .ok (.iconst 2, 1) := by decide +kernel
theorem dX2_writeLog_40 : decode cX2_writeLog 40 = .ok (.iload_n 3, 1) := by decide +kernel
theorem dX2_writeLog_41 : decode cX2_writeLog 41 = .ok (.invokevirtual 129, 3) := by decide +kernel
theorem dX2_writeLog_44 : decode cX2_writeLog 44 = .ok (.aload_n 0, 1) := by decide +kernel
theorem dX2_writeLog_45 : decode cX2_writeLog 45 = .ok (.getfield 31, 3) := by decide +kernel
theorem dX2_writeLog_48 : decode cX2_writeLog 48 = .ok (.iload 5, 2) := by decide +kernel
theorem dX2_writeLog_50 : decode cX2_writeLog 50 = .ok (.iconst 3, 1) := by decide +kernel
theorem dX2_writeLog_51 : decode cX2_writeLog 51 = .ok (.iload 4, 2) := by decide +kernel
theorem dX2_writeLog_53 : decode cX2_writeLog 53 = .ok (.invokevirtual 129, 3) := by decide +kernel
theorem dX2_writeLog_56 : decode cX2_writeLog 56 = .ok (.aload_n 0, 1) := by decide +kernel
theorem dX2_writeLog_57 : decode cX2_writeLog 57 = .ok (.getfield 31, 3) := by decide +kernel
theorem dX2_writeLog_60 : decode cX2_writeLog 60 = .ok (.iload 5, 2) := by decide +kernel
theorem dX2_writeLog_62 : decode cX2_writeLog 62 = .ok (.iconst 4, 1) := by decide +kernel
theorem dX2_writeLog_63 : decode cX2_writeLog 63 = .ok (.aload_n 0, 1) := by decide +kernel
theorem dX2_writeLog_64 : decode cX2_writeLog 64 = .ok (.getfield 47, 3) := by decide +kernel
theorem dX2_writeLog_67 : decode cX2_writeLog 67 = .ok (.invokevirtual 129, 3) := by decide +kernel
theorem dX2_writeLog_70 : decode cX2_writeLog 70 = .ok (.return_, 1) := by decide +kernel
theorem dX2_linesInCache_0 : decode cX2_linesInCache 0 = .ok (.iconst 0, 1) := by decide +kernel
theorem dX2_linesInCache_1 : decode cX2_linesInCache 1 = .ok (.istore_n 1, 1) := by decide +kernel
theorem dX2_linesInCache_2 : decode cX2_linesInCache 2 = .ok (.iconst 0, 1) := by decide +kernel
theorem dX2_linesInCache_3 : decode cX2_linesInCache 3 = .ok (.istore_n 2, 1) := by decide +kernel
theorem dX2_linesInCache_4 : decode cX2_linesInCache 4 = .ok (.iload_n 2, 1) := by decide +kernel
theorem dX2_linesInCache_5 : decode cX2_linesInCache 5 = .ok (.bipush 8, 2) := by decide +kernel
theorem dX2_linesInCache_7 : decode cX2_linesInCache 7 = .ok (.if_icmp .ge 21, 3) := by decide +kernel
theorem dX2_linesInCache_10 : decode cX2_linesInCache 10 = .ok (.iload_n 1, 1) := by decide +kernel
theorem dX2_linesInCache_11 : decode cX2_linesInCache 11 = .ok (.aload_n 0, 1) := by decide +kernel
theorem dX2_linesInCache_12 : decode cX2_linesInCache 12 = .ok (.getfield 11, 3) := by decide +kernel
theorem dX2_linesInCache_15 : decode cX2_linesInCache 15 = .ok (.iload_n 2, 1) := by decide +kernel
theorem dX2_linesInCache_16 : decode cX2_linesInCache 16 = .ok (.aaload, 1) := by decide +kernel
theorem dX2_linesInCache_17 : decode cX2_linesInCache 17 = .ok (.getfield 157, 3) := by decide +kernel
theorem dX2_linesInCache_20 : decode cX2_linesInCache 20 = .ok (.iadd, 1) := by decide +kernel
theorem dX2_linesInCache_21 : decode cX2_linesInCache 21 = .ok (.istore_n 1, 1) := by decide +kernel
theorem dX2_linesInCache_22 : decode cX2_linesInCache 22 = .ok (.iinc 2 1, 3) := by decide +kernel
theorem dX2_linesInCache_25 : decode cX2_linesInCache 25 = .ok (.goto (-21), 3) := by decide +kernel
theorem dX2_linesInCache_28 : decode cX2_linesInCache 28 = .ok (.iload_n 1, 1) := by decide +kernel
theorem dX2_linesInCache_29 : decode cX2_linesInCache 29 = .ok (.ireturn, 1) := by decide +kernel
theorem dX2_newLinesOf_0 : decode cX2_newLinesOf 0 = .ok (.iconst 0, 1) := by decide +kernel
theorem dX2_newLinesOf_1 : decode cX2_newLinesOf 1 = .ok (.istore_n 2, 1) := by decide +kernel
theorem dX2_newLinesOf_2 : decode cX2_newLinesOf 2 = .ok (.iconst 0, 1) := by decide +kernel
theorem dX2_newLinesOf_3 : decode cX2_newLinesOf 3 = .ok (.istore_n 3, 1) := by decide +kernel
theorem dX2_newLinesOf_4 : decode cX2_newLinesOf 4 = .ok (.iload_n 3, 1) := by decide +kernel
theorem dX2_newLinesOf_5 : decode cX2_newLinesOf 5 = .ok (.bipush 8, 2) := by decide +kernel
theorem dX2_newLinesOf_7 : decode cX2_newLinesOf 7 = .ok (.if_icmp .ge 67, 3) := by decide +kernel
theorem dX2_newLinesOf_10 : decode cX2_newLinesOf 10 = .ok (.iconst 0, 1) := by decide +kernel
theorem dX2_newLinesOf_11 : decode cX2_newLinesOf 11 = .ok (.istore 4, 2) := by decide +kernel
theorem dX2_newLinesOf_13 : decode cX2_newLinesOf 13 = .ok (.iload 4, 2) := by decide +kernel
theorem dX2_newLinesOf_15 : decode cX2_newLinesOf 15 = .ok (.aload_n 0, 1) := by decide +kernel
theorem dX2_newLinesOf_16 : decode cX2_newLinesOf 16 = .ok (.getfield 11, 3) := by decide +kernel
theorem dX2_newLinesOf_19 : decode cX2_newLinesOf 19 = .ok (.iload_n 3, 1) := by decide +kernel
theorem dX2_newLinesOf_20 : decode cX2_newLinesOf 20 = .ok (.aaload, 1) := by decide +kernel
theorem dX2_newLinesOf_21 : decode cX2_newLinesOf 21 = .ok (.getfield 157, 3) := by decide +kernel
theorem dX2_newLinesOf_24 : decode cX2_newLinesOf 24 = .ok (.if_icmp .ge 44, 3) := by decide +kernel
theorem dX2_newLinesOf_27 : decode cX2_newLinesOf 27 = .ok (.aload_n 0, 1) := by decide +kernel
theorem dX2_newLinesOf_28 : decode cX2_newLinesOf 28 = .ok (.getfield 11, 3) := by decide +kernel
theorem dX2_newLinesOf_31 : decode cX2_newLinesOf 31 = .ok (.iload_n 3, 1) := by decide +kernel
theorem dX2_newLinesOf_32 : decode cX2_newLinesOf 32 = .ok (.aaload, 1) := by decide +kernel
theorem dX2_newLinesOf_33 : decode cX2_newLinesOf 33 = .ok (.iload 4, 2) := by decide +kernel
theorem dX2_newLinesOf_35 : decode cX2_newLinesOf 35 = .ok (.iconst 2, 1) := by decide +kernel
theorem dX2_newLinesOf_36 : decode cX2_newLinesOf 36 = .ok (.invokevirtual 122, 3) := by decide +kernel
theorem dX2_newLinesOf_39 : decode cX2_newLinesOf 39 = .ok (.iconst 1, 1) := by decide +kernel
theorem dX2_newLinesOf_40 : decode cX2_newLinesOf 40 = .ok (.if_icmp .ne 22, 3) := by decide +kernel
theorem dX2_newLinesOf_43 : decode cX2_newLinesOf 43 = .ok (.aload_n 0, 1) := by decide +kernel
theorem dX2_newLinesOf_44 : decode cX2_newLinesOf 44 = .ok (.getfield 11, 3) := by decide +kernel
theorem dX2_newLinesOf_47 : decode cX2_newLinesOf 47 = .ok (.iload_n 3, 1) := by decide +kernel
theorem dX2_newLinesOf_48 : decode cX2_newLinesOf 48 = .ok (.aaload, 1) := by decide +kernel
theorem dX2_newLinesOf_49 : decode cX2_newLinesOf 49 = .ok (.iload 4, 2) := by decide +kernel
theorem dX2_newLinesOf_51 : decode cX2_newLinesOf 51 = .ok (.iconst 1, 1) := by decide +kernel
theorem dX2_newLinesOf_52 : decode cX2_newLinesOf 52 = .ok (.invokevirtual 122, 3) := by decide +kernel
theorem dX2_newLinesOf_55 : decode cX2_newLinesOf 55 = .ok (.iload_n 1, 1) := by decide +kernel
theorem dX2_newLinesOf_56 : decode cX2_newLinesOf 56 = .ok (.if_icmp .ne 6, 3) := by decide +kernel
theorem dX2_newLinesOf_59 : decode cX2_newLinesOf 59 = .ok (.iinc 2 1, 3) := by decide +kernel
theorem dX2_newLinesOf_62 : decode cX2_newLinesOf 62 = .ok (.iinc 4 1, 3) := by decide +kernel
theorem dX2_newLinesOf_65 : decode cX2_newLinesOf 65 = .ok (.goto (-52), 3) := by decide +kernel
theorem dX2_newLinesOf_68 : decode cX2_newLinesOf 68 = .ok (.iinc 3 1, 3) := by decide +kernel
theorem dX2_newLinesOf_71 : decode cX2_newLinesOf 71 = .ok (.goto (-67), 3) := by decide +kernel
theorem dX2_newLinesOf_74 : decode cX2_newLinesOf 74 = .ok (.iload_n 2, 1) := by decide +kernel
theorem dX2_newLinesOf_75 : decode cX2_newLinesOf 75 = .ok (.ireturn, 1) := by decide +kernel
theorem dX2_newLines_0 : decode cX2_newLines 0 = .ok (.iconst 0, 1) := by decide +kernel
theorem dX2_newLines_1 : decode cX2_newLines 1 = .ok (.istore_n 1, 1) := by decide +kernel
theorem dX2_newLines_2 : decode cX2_newLines 2 = .ok (.iconst 0, 1) := by decide +kernel
theorem dX2_newLines_3 : decode cX2_newLines 3 = .ok (.istore_n 2, 1) := by decide +kernel
theorem dX2_newLines_4 : decode cX2_newLines 4 = .ok (.iload_n 2, 1) := by decide +kernel
theorem dX2_newLines_5 : decode cX2_newLines 5 = .ok (.aload_n 0, 1) := by decide +kernel
theorem dX2_newLines_6 : decode cX2_newLines 6 = .ok (.getfield 41, 3) := by decide +kernel
theorem dX2_newLines_9 : decode cX2_newLines 9 = .ok (.if_icmp .ge 17, 3) := by decide +kernel
theorem dX2_newLines_12 : decode cX2_newLines 12 = .ok (.iload_n 1, 1) := by decide +kernel
theorem dX2_newLines_13 : decode cX2_newLines 13 = .ok (.aload_n 0, 1) := by decide +kernel
theorem dX2_newLines_14 : decode cX2_newLines 14 = .ok (.iload_n 2, 1) := by decide +kernel
theorem dX2_newLines_15 : decode cX2_newLines 15 = .ok (.invokevirtual 173, 3) := by decide +kernel
theorem dX2_newLines_18 : decode cX2_newLines 18 = .ok (.iadd, 1) := by decide +kernel
theorem dX2_newLines_19 : decode cX2_newLines 19 = .ok (.istore_n 1, 1) := by decide +kernel
theorem dX2_newLines_20 : decode cX2_newLines 20 = .ok (.iinc 2 1, 3) := by decide +kernel
theorem dX2_newLines_23 : decode cX2_newLines 23 = .ok (.goto (-19), 3) := by decide +kernel
theorem dX2_newLines_26 : decode cX2_newLines 26 = .ok (.iload_n 1, 1) := by decide +kernel
theorem dX2_newLines_27 : decode cX2_newLines 27 = .ok (.ireturn, 1) := by decide +kernel
theorem dX2_allHours_0 : decode cX2_allHours 0 = .ok (.iconst 0, 1) := by decide +kernel
theorem dX2_allHours_1 : decode cX2_allHours 1 = .ok (.istore_n 1, 1) := by decide +kernel
theorem dX2_allHours_2 : decode cX2_allHours 2 = .ok (.iconst 0, 1) := by decide +kernel
theorem dX2_allHours_3 : decode cX2_allHours 3 = .ok (.istore_n 2, 1) := by decide +kernel
theorem dX2_allHours_4 : decode cX2_allHours 4 = .ok (.iload_n 2, 1) := by decide +kernel
theorem dX2_allHours_5 : decode cX2_allHours 5 = .ok (.aload_n 0, 1) := by decide +kernel
theorem dX2_allHours_6 : decode cX2_allHours 6 = .ok (.getfield 41, 3) := by decide +kernel
theorem dX2_allHours_9 : decode cX2_allHours 9 = .ok (.if_icmp .ge 21, 3) := by decide +kernel
theorem dX2_allHours_12 : decode cX2_allHours 12 = .ok (.iload_n 1, 1) := by decide +kernel
theorem dX2_allHours_13 : decode cX2_allHours 13 = .ok (.aload_n 0, 1) := by decide +kernel
theorem dX2_allHours_14 : decode cX2_allHours 14 = .ok (.getfield 26, 3) := by decide +kernel
theorem dX2_allHours_17 : decode cX2_allHours 17 = .ok (.iload_n 2, 1) := by decide +kernel
theorem dX2_allHours_18 : decode cX2_allHours 18 = .ok (.aaload, 1) := by decide +kernel
theorem dX2_allHours_19 : decode cX2_allHours 19 = .ok (.getfield 176, 3) := by decide +kernel
theorem dX2_allHours_22 : decode cX2_allHours 22 = .ok (.iadd, 1) := by decide +kernel
theorem dX2_allHours_23 : decode cX2_allHours 23 = .ok (.istore_n 1, 1) := by decide +kernel
theorem dX2_allHours_24 : decode cX2_allHours 24 = .ok (.iinc 2 1, 3) := by decide +kernel
theorem dX2_allHours_27 : decode cX2_allHours 27 = .ok (.goto (-23), 3) := by decide +kernel
theorem dX2_allHours_30 : decode cX2_allHours 30 = .ok (.iload_n 1, 1) := by decide +kernel
theorem dX2_allHours_31 : decode cX2_allHours 31 = .ok (.ireturn, 1) := by decide +kernel
theorem dX2_programsInLog_0 : decode cX2_programsInLog 0 = .ok (.iconst 0, 1) := by decide +kernel
theorem dX2_programsInLog_1 : decode cX2_programsInLog 1 = .ok (.istore_n 1, 1) := by decide +kernel
theorem dX2_programsInLog_2 : decode cX2_programsInLog 2 = .ok (.iconst 0, 1) := by decide +kernel
theorem dX2_programsInLog_3 : decode cX2_programsInLog 3 = .ok (.istore_n 2, 1) := by decide +kernel
theorem dX2_programsInLog_4 : decode cX2_programsInLog 4 = .ok (.iload_n 2, 1) := by decide +kernel
theorem dX2_programsInLog_5 : decode cX2_programsInLog 5 = .ok (.aload_n 0, 1) := by decide +kernel
theorem dX2_programsInLog_6 : decode cX2_programsInLog 6 = .ok (.getfield 31, 3) := by decide +kernel
theorem dX2_programsInLog_9 : decode cX2_programsInLog 9 = .ok (.getfield 157, 3) := by decide +kernel
theorem dX2_programsInLog_12 : decode cX2_programsInLog 12 = .ok (.if_icmp .ge 23, 3) := by decide +kernel
theorem dX2_programsInLog_15 : decode cX2_programsInLog 15 = .ok (.iload_n 1, 1) := by decide +kernel
theorem dX2_programsInLog_16 : decode cX2_programsInLog 16 = .ok (.iconst 1, 1) := by decide +kernel
theorem dX2_programsInLog_17 : decode cX2_programsInLog 17 = .ok (.aload_n 0, 1) := by decide +kernel
theorem dX2_programsInLog_18 : decode cX2_programsInLog 18 = .ok (.getfield 31, 3) := by decide +kernel
theorem dX2_programsInLog_21 : decode cX2_programsInLog 21 = .ok (.iload_n 2, 1) := by decide +kernel
theorem dX2_programsInLog_22 : decode cX2_programsInLog 22 = .ok (.iconst 0, 1) := by decide +kernel
theorem dX2_programsInLog_23 : decode cX2_programsInLog 23 = .ok (.invokevirtual 122, 3) := by decide +kernel
theorem dX2_programsInLog_26 : decode cX2_programsInLog 26 = .ok (.ishl, 1) := by decide +kernel
theorem dX2_programsInLog_27 : decode cX2_programsInLog 27 = .ok (.ior, 1) := by decide +kernel
theorem dX2_programsInLog_28 : decode cX2_programsInLog 28 = .ok (.istore_n 1, 1) := by decide +kernel
theorem dX2_programsInLog_29 : decode cX2_programsInLog 29 = .ok (.iinc 2 1, 3) := by decide +kernel
theorem dX2_programsInLog_32 : decode cX2_programsInLog 32 = .ok (.goto (-28), 3) := by decide +kernel
theorem dX2_programsInLog_35 : decode cX2_programsInLog 35 = .ok (.iload_n 1, 1) := by decide +kernel
theorem dX2_programsInLog_36 : decode cX2_programsInLog 36 = .ok (.invokestatic 179, 3) := by decide +kernel
theorem dX2_programsInLog_39 : decode cX2_programsInLog 39 = .ok (.ireturn, 1) := by decide +kernel
theorem dX3_init_0 : decode cX3_init 0 = .ok (.aload_n 0, 1) := by decide +kernel
theorem dX3_init_1 : decode cX3_init 1 = .ok (.invokespecial 3, 3) := by decide +kernel
theorem dX3_init_4 : decode cX3_init 4 = .ok (.aload_n 0, 1) := by decide +kernel
theorem dX3_init_5 : decode cX3_init 5 = .ok (.bipush 80, 2) := by decide +kernel
theorem dX3_init_7 : decode cX3_init 7 = .ok (.newarray .char, 2) := by decide +kernel
theorem dX3_init_9 : decode cX3_init 9 = .ok (.putfield 9, 3) := by decide +kernel
theorem dX3_init_12 : decode cX3_init 12 = .ok (.aload_n 0, 1) := by decide +kernel
theorem dX3_init_13 : decode cX3_init 13 = .ok (.iconst 0, 1) := by decide +kernel
theorem dX3_init_14 : decode cX3_init 14 = .ok (.putfield 15, 3) := by decide +kernel
theorem dX3_init_17 : decode cX3_init 17 = .ok (.return_, 1) := by decide +kernel
theorem dX4_init_0 : decode cX4_init 0 = .ok (.aload_n 0, 1) := by decide +kernel
theorem dX4_init_1 : decode cX4_init 1 = .ok (.invokespecial 1, 3) := by decide +kernel
theorem dX4_init_4 : decode cX4_init 4 = .ok (.aload_n 0, 1) := by decide +kernel
theorem dX4_init_5 : decode cX4_init 5 = .ok (.new 7, 3) := by decide +kernel
theorem dX4_init_8 : decode cX4_init 8 = .ok (.dup, 1) := by decide +kernel
theorem dX4_init_9 : decode cX4_init 9 = .ok (.invokespecial 9, 3) := by decide +kernel
theorem dX4_init_12 : decode cX4_init 12 = .ok (.putfield 10, 3) := by decide +kernel
theorem dX4_init_15 : decode cX4_init 15 = .ok (.aload_n 0, 1) := by decide +kernel
theorem dX4_init_16 : decode cX4_init 16 = .ok (.new 7, 3) := by decide +kernel
theorem dX4_init_19 : decode cX4_init 19 = .ok (.dup, 1) := by decide +kernel
theorem dX4_init_20 : decode cX4_init 20 = .ok (.invokespecial 9, 3) := by decide +kernel
theorem dX4_init_23 : decode cX4_init 23 = .ok (.putfield 16, 3) := by decide +kernel
theorem dX4_init_26 : decode cX4_init 26 = .ok (.aload_n 0, 1) := by decide +kernel
theorem dX4_init_27 : decode cX4_init 27 = .ok (.new 7, 3) := by decide +kernel
theorem dX4_init_30 : decode cX4_init 30 = .ok (.dup, 1) := by decide +kernel
theorem dX4_init_31 : decode cX4_init 31 = .ok (.invokespecial 9, 3) := by decide +kernel
theorem dX4_init_34 : decode cX4_init 34 = .ok (.putfield 19, 3) := by decide +kernel
theorem dX4_init_37 : decode cX4_init 37 = .ok (.aload_n 0, 1) := by decide +kernel
theorem dX4_init_38 : decode cX4_init 38 = .ok (.iconst 4, 1) := by decide +kernel
theorem dX4_init_39 : decode cX4_init 39 = .ok (.anewarray 7, 3) := by decide +kernel
theorem dX4_init_42 : decode cX4_init 42 = .ok (.putfield 22, 3) := by decide +kernel
theorem dX4_init_45 : decode cX4_init 45 = .ok (.iconst 0, 1) := by decide +kernel
theorem dX4_init_46 : decode cX4_init 46 = .ok (.istore_n 1, 1) := by decide +kernel
theorem dX4_init_47 : decode cX4_init 47 = .ok (.iload_n 1, 1) := by decide +kernel
theorem dX4_init_48 : decode cX4_init 48 = .ok (.iconst 4, 1) := by decide +kernel
theorem dX4_init_49 : decode cX4_init 49 = .ok (.if_icmp .ge 22, 3) := by decide +kernel
theorem dX4_init_52 : decode cX4_init 52 = .ok (.aload_n 0, 1) := by decide +kernel
theorem dX4_init_53 : decode cX4_init 53 = .ok (.getfield 22, 3) := by decide +kernel
theorem dX4_init_56 : decode cX4_init 56 = .ok (.iload_n 1, 1) := by decide +kernel
theorem dX4_init_57 : decode cX4_init 57 = .ok (.new 7, 3) := by decide +kernel
theorem dX4_init_60 : decode cX4_init 60 = .ok (.dup, 1) := by decide +kernel
theorem dX4_init_61 : decode cX4_init 61 = .ok (.invokespecial 9, 3) := by decide +kernel
theorem dX4_init_64 : decode cX4_init 64 = .ok (.aastore, 1) := by decide +kernel
theorem dX4_init_65 : decode cX4_init 65 = .ok (.iinc 1 1, 3) := by decide +kernel
theorem dX4_init_68 : decode cX4_init 68 = .ok (.goto (-21), 3) := by decide +kernel
theorem dX4_init_71 : decode cX4_init 71 = .ok (.aload_n 0, 1) := by decide +kernel
theorem dX4_init_72 : decode cX4_init 72 = .ok (.new 26, 3) := by decide +kernel
theorem dX4_init_75 : decode cX4_init 75 = .ok (.dup, 1) := by decide +kernel
theorem dX4_init_76 : decode cX4_init 76 = .ok (.invokespecial 28, 3) := by decide +kernel
theorem dX4_init_79 : decode cX4_init 79 = .ok (.putfield 29, 3) := by decide +kernel
theorem dX4_init_82 : decode cX4_init 82 = .ok (.aload_n 0, 1) := by decide +kernel
theorem dX4_init_83 : decode cX4_init 83 = .ok (.iconst 0, 1) := by decide +kernel
theorem dX4_init_84 : decode cX4_init 84 = .ok (.putfield 33, 3) := by decide +kernel
theorem dX4_init_87 : decode cX4_init 87 = .ok (.aload_n 0, 1) := by decide +kernel
theorem dX4_init_88 : decode cX4_init 88 = .ok (.iconst 0, 1) := by decide +kernel
theorem dX4_init_89 : decode cX4_init 89 = .ok (.putfield 37, 3) := by decide +kernel
theorem dX4_init_92 : decode cX4_init 92 = .ok (.return_, 1) := by decide +kernel
theorem dX4_shape_0 : decode cX4_shape 0 = .ok (.iload_n 1, 1) := by decide +kernel
theorem dX4_shape_1 : decode cX4_shape 1 = .ok (.iconst 1, 1) := by decide +kernel
theorem dX4_shape_2 : decode cX4_shape 2 = .ok (.bipush 8, 2) := by decide +kernel
theorem dX4_shape_4 : decode cX4_shape 4 = .ok (.invokestatic 41, 3) := by decide +kernel
theorem dX4_shape_7 : decode cX4_shape 7 = .ok (.ifCond .ne 12, 3) := by decide +kernel
theorem dX4_shape_10 : decode cX4_shape 10 = .ok (.iload_n 2, 1) := by decide +kernel
theorem dX4_shape_11 : decode cX4_shape 11 = .ok (.iconst 1, 1) := by decide +kernel
theorem dX4_shape_12 : decode cX4_shape 12 = .ok (.iconst 4, 1) := by decide +kernel
theorem dX4_shape_13 : decode cX4_shape 13 = .ok (.invokestatic 41, 3) := by decide +kernel
theorem dX4_shape_16 : decode cX4_shape 16 = .ok (.ifCond .eq 6, 3) := by decide +kernel
theorem dX4_shape_19 : decode cX4_shape 19 = .ok (.ldc 45, 2) := by decide +kernel
theorem dX4_shape_21 : decode cX4_shape 21 = .ok (.ireturn, 1) := by decide +kernel
theorem dX4_shape_22 : decode cX4_shape 22 = .ok (.iload_n 1, 1) := by decide +kernel
theorem dX4_shape_23 : decode cX4_shape 23 = .ok (.aload_n 0, 1) := by decide +kernel
theorem dX4_shape_24 : decode cX4_shape 24 = .ok (.getfield 10, 3) := by decide +kernel
theorem dX4_shape_27 : decode cX4_shape 27 = .ok (.getfield 46, 3) := by decide +kernel
theorem dX4_shape_30 : decode cX4_shape 30 = .ok (.if_icmp .ne 17, 3) := by decide +kernel
theorem dX4_shape_33 : decode cX4_shape 33 = .ok (.iload_n 2, 1) := by decide +kernel
theorem dX4_shape_34 : decode cX4_shape 34 = .ok (.aload_n 0, 1) := by decide +kernel
theorem dX4_shape_35 : decode cX4_shape 35 = .ok (.getfield 10, 3) := by decide +kernel
theorem dX4_shape_38 : decode cX4_shape 38 = .ok (.getfield 49, 3) := by decide +kernel
theorem dX4_shape_41 : decode cX4_shape 41 = .ok (.if_icmp .ne 6, 3) := by decide +kernel
theorem dX4_shape_44 : decode cX4_shape 44 = .ok (.ldc 52, 2) := by decide +kernel
theorem dX4_shape_46 : decode cX4_shape 46 = .ok (.ireturn, 1) := by decide +kernel
theorem dX4_shape_47 : decode cX4_shape 47 = .ok (.aload_n 0, 1) := by decide +kernel
theorem dX4_shape_48 : decode cX4_shape 48 = .ok (.invokevirtual 53, 3) := by decide +kernel
theorem dX4_shape_51 : decode cX4_shape 51 = .ok (.aload_n 0, 1) := by decide +kernel
theorem dX4_shape_52 : decode cX4_shape 52 = .ok (.getfield 10, 3) := by decide +kernel
theorem dX4_shape_55 : decode cX4_shape 55 = .ok (.invokevirtual 56, 3) := by decide +kernel
theorem dX4_shape_58 : decode cX4_shape 58 = .ok (.istore_n 3, 1) := by decide +kernel
theorem dX4_shape_59 : decode cX4_shape 59 = .ok (.aload_n 0, 1) := by decide +kernel
theorem dX4_shape_60 : decode cX4_shape 60 = .ok (.getfield 10, 3) := by decide +kernel
theorem dX4_shape_63 : decode cX4_shape 63 = .ok (.getfield 60, 3) := by decide +kernel
theorem dX4_shape_66 : decode cX4_shape 66 = .ok (.iconst 0, 1) := by decide +kernel
theorem dX4_shape_67 : decode cX4_shape 67 = .ok (.putfield 64, 3) := by decide +kernel
theorem dX4_shape_70 : decode cX4_shape 70 = .ok (.aload_n 0, 1) := by decide +kernel
theorem dX4_shape_71 : decode cX4_shape 71 = .ok (.getfield 10, 3) := by decide +kernel
theorem dX4_shape_74 : decode cX4_shape 74 = .ok (.iload_n 1, 1) := by decide +kernel
theorem dX4_shape_75 : decode cX4_shape 75 = .ok (.putfield 46, 3) := by decide +kernel
theorem dX4_shape_78 : decode cX4_shape 78 = .ok (.aload_n 0, 1) := by decide +kernel
theorem dX4_shape_79 : decode cX4_shape 79 = .ok (.getfield 10, 3) := by decide +kernel
theorem dX4_shape_82 : decode cX4_shape 82 = .ok (.iload_n 2, 1) := by decide +kernel
theorem dX4_shape_83 : decode cX4_shape 83 = .ok (.putfield 49, 3) := by decide +kernel
theorem dX4_shape_86 : decode cX4_shape 86 = .ok (.iload_n 3, 1) := by decide +kernel
theorem dX4_shape_87 : decode cX4_shape 87 = .ok (.ireturn, 1) := by decide +kernel
theorem dX4_flush_0 : decode cX4_flush 0 = .ok (.aload_n 0, 1) := by decide +kernel
theorem dX4_flush_1 : decode cX4_flush 1 = .ok (.getfield 10, 3) := by decide +kernel
theorem dX4_flush_4 : decode cX4_flush 4 = .ok (.invokevirtual 69, 3) := by decide +kernel
theorem dX4_flush_7 : decode cX4_flush 7 = .ok (.ifCond .ne 6, 3) := by decide +kernel
theorem dX4_flush_10 : decode cX4_flush 10 = .ok (.ldc 52, 2) := by decide +kernel
theorem dX4_flush_12 : decode cX4_flush 12 = .ok (.ireturn, 1) := by decide +kernel
theorem dX4_flush_13 : decode cX4_flush 13 = .ok (.aload_n 0, 1) := by decide +kernel
theorem dX4_flush_14 : decode cX4_flush 14 = .ok (.invokevirtual 53, 3) := by decide +kernel
theorem dX4_flush_17 : decode cX4_flush 17 = .ok (.aload_n 0, 1) := by decide +kernel
theorem dX4_flush_18 : decode cX4_flush 18 = .ok (.getfield 10, 3) := by decide +kernel
theorem dX4_flush_21 : decode cX4_flush 21 = .ok (.invokevirtual 56, 3) := by decide +kernel
theorem dX4_flush_24 : decode cX4_flush 24 = .ok (.ireturn, 1) := by decide +kernel
theorem dX4_addHelper_0 : decode cX4_addHelper 0 = .ok (.iload_n 1, 1) := by decide +kernel
theorem dX4_addHelper_1 : decode cX4_addHelper 1 = .ok (.iconst 0, 1) := by decide +kernel
theorem dX4_addHelper_2 : decode cX4_addHelper 2 = .ok (.iconst 2, 1) := by decide +kernel
theorem dX4_addHelper_3 : decode cX4_addHelper 3 = .ok (.invokestatic 41, 3) := by decide +kernel
theorem dX4_addHelper_6 : decode cX4_addHelper 6 = .ok (.ifCond .ne 22, 3) := by decide +kernel
theorem dX4_addHelper_9 : decode cX4_addHelper 9 = .ok (.iload_n 2, 1) := by decide +kernel
theorem dX4_addHelper_10 : decode cX4_addHelper 10 = .ok (.iconst 1, 1) := by decide +kernel
theorem dX4_addHelper_11 : decode cX4_addHelper 11 = .ok (.iconst 4, 1) := by decide +kernel
theorem dX4_addHelper_12 : decode cX4_addHelper 12 = .ok (.invokestatic 41, 3) := by decide +kernel
theorem dX4_addHelper_15 : decode cX4_addHelper 15 = .ok (.ifCond .ne 13, 3) := by decide +kernel
theorem dX4_addHelper_18 : decode cX4_addHelper 18 = .ok (.iload_n 3, 1) := by decide +kernel
theorem dX4_addHelper_19 : decode cX4_addHelper 19 = .ok (.iconst 1, 1) := by decide +kernel
theorem dX4_addHelper_20 : decode cX4_addHelper 20 = .ok (.bipush 9, 2) := by decide +kernel
theorem dX4_addHelper_22 : decode cX4_addHelper 22 = .ok (.invokestatic 41, 3) := by decide +kernel
theorem dX4_addHelper_25 : decode cX4_addHelper 25 = .ok (.ifCond .eq 6, 3) := by decide +kernel
theorem dX4_addHelper_28 : decode cX4_addHelper 28 = .ok (.ldc 45, 2) := by decide +kernel
theorem dX4_addHelper_30 : decode cX4_addHelper 30 = .ok (.ireturn, 1) := by decide +kernel
theorem dX4_addHelper_31 : decode cX4_addHelper 31 = .ok (.aload_n 0, 1) := by decide +kernel
theorem dX4_addHelper_32 : decode cX4_addHelper 32 = .ok (.getfield 10, 3) := by decide +kernel
theorem dX4_addHelper_35 : decode cX4_addHelper 35 = .ok (.getfield 72, 3) := by decide +kernel
theorem dX4_addHelper_38 : decode cX4_addHelper 38 = .ok (.bipush 6, 2) := by decide +kernel
theorem dX4_addHelper_40 : decode cX4_addHelper 40 = .ok (.if_icmp .lt 6, 3) := by decide +kernel
theorem dX4_addHelper_43 : decode cX4_addHelper 43 = .ok (.ldc 75, 2) := by decide +kernel
theorem dX4_addHelper_45 : decode cX4_addHelper 45 = .ok (.ireturn, 1) := by decide +kernel
theorem dX4_addHelper_46 : decode cX4_addHelper 46 = .ok (.aload_n 0, 1) := by decide +kernel
theorem dX4_addHelper_47 : decode cX4_addHelper 47 = .ok (.invokevirtual 53, 3) := by decide +kernel
theorem dX4_addHelper_50 : decode cX4_addHelper 50 = .ok (.aload_n 0, 1) := by decide +kernel
theorem dX4_addHelper_51 : decode cX4_addHelper 51 = .ok (.getfield 10, 3) := by decide +kernel
theorem dX4_addHelper_54 : decode cX4_addHelper 54 = .ok (.iload_n 1, 1) := by decide +kernel
theorem dX4_addHelper_55 : decode cX4_addHelper 55 = .ok (.iload_n 2, 1) := by decide +kernel
theorem dX4_addHelper_56 : decode cX4_addHelper 56 = .ok (.iload_n 3, 1) := by decide +kernel
theorem dX4_addHelper_57 : decode cX4_addHelper 57 = .ok (.invokevirtual 76, 3) := by decide +kernel
theorem dX4_addHelper_60 : decode cX4_addHelper 60 = .ok (.ireturn, 1) := by decide +kernel
theorem dX4_setDegree_0 : decode cX4_setDegree 0 = .ok (.aload_n 0, 1) := by decide +kernel
theorem dX4_setDegree_1 : decode cX4_setDegree 1 = .ok (.getfield 10, 3) := by decide +kernel
theorem dX4_setDegree_4 : decode cX4_setDegree 4 = .ok (.iload_n 1, 1) := by decide +kernel
theorem dX4_setDegree_5 : decode cX4_setDegree 5 = .ok (.invokevirtual 80, 3) := by decide +kernel
theorem dX4_setDegree_8 : decode cX4_setDegree 8 = .ok (.astore_n 3, 1) := by decide +kernel
theorem dX4_setDegree_9 : decode cX4_setDegree 9 = .ok (.aload_n 3, 1) := by decide +kernel
theorem dX4_setDegree_10 : decode cX4_setDegree 10 = .ok (.ifnonnull 6, 3) := by decide +kernel
theorem dX4_setDegree_13 : decode cX4_setDegree 13 = .ok (.ldc 84, 2) := by decide +kernel
theorem dX4_setDegree_15 : decode cX4_setDegree 15 = .ok (.ireturn, 1) := by decide +kernel
theorem dX4_setDegree_16 : decode cX4_setDegree 16 = .ok (.iload_n 2, 1) := by decide +kernel
theorem dX4_setDegree_17 : decode cX4_setDegree 17 = .ok (.iconst 1, 1) := by decide +kernel
theorem dX4_setDegree_18 : decode cX4_setDegree 18 = .ok (.iconst 4, 1) := by decide +kernel
theorem dX4_setDegree_19 : decode cX4_setDegree 19 = .ok (.invokestatic 41, 3) := by decide +kernel
theorem dX4_setDegree_22 : decode cX4_setDegree 22 = .ok (.ifCond .eq 6, 3) := by decide +kernel
theorem dX4_setDegree_25 : decode cX4_setDegree 25 = .ok (.ldc 45, 2) := by decide +kernel
theorem dX4_setDegree_27 : decode cX4_setDegree 27 = .ok (.ireturn, 1) := by decide +kernel
theorem dX4_setDegree_28 : decode cX4_setDegree 28 = .ok (.aload_n 3, 1) := by decide +kernel
theorem dX4_setDegree_29 : decode cX4_setDegree 29 = .ok (.getfield 85, 3) := by decide +kernel
theorem dX4_setDegree_32 : decode cX4_setDegree 32 = .ok (.iload_n 2, 1) := by decide +kernel
theorem dX4_setDegree_33 : decode cX4_setDegree 33 = .ok (.if_icmp .ne 6, 3) := by decide +kernel
theorem dX4_setDegree_36 : decode cX4_setDegree 36 = .ok (.ldc 52, 2) := by decide +kernel
theorem dX4_setDegree_38 : decode cX4_setDegree 38 = .ok (.ireturn, 1) := by decide +kernel
theorem dX4_setDegree_39 : decode cX4_setDegree 39 = .ok (.aload_n 0, 1) := by decide +kernel
theorem dX4_setDegree_40 : decode cX4_setDegree 40 = .ok (.invokevirtual 53, 3) := by decide +kernel
theorem dX4_setDegree_43 : decode cX4_setDegree 43 = .ok (.aload_n 3, 1) := by decide +kernel
theorem dX4_setDegree_44 : decode cX4_setDegree 44 = .ok (.getfield 85, 3) := by decide +kernel
theorem dX4_setDegree_47 : decode cX4_setDegree 47 = .ok (.istore 4, 2) := by decide +kernel
theorem dX4_setDegree_49 : decode cX4_setDegree 49 = .ok (.aload_n 3, 1) := by decide +kernel
theorem dX4_setDegree_50 : decode cX4_setDegree 50 = .ok (.iload_n 2, 1) := by decide +kernel
theorem dX4_setDegree_51 : decode cX4_setDegree 51 = .ok (.putfield 85, 3) := by decide +kernel
theorem dX4_setDegree_54 : decode cX4_setDegree 54 = .ok (.iload 4, 2) := by decide +kernel
theorem dX4_setDegree_56 : decode cX4_setDegree 56 = .ok (.ireturn, 1) := by decide +kernel
theorem dX4_setTrial_0 : decode cX4_setTrial 0 = .ok (.iload_n 1, 1) := by decide +kernel
theorem dX4_setTrial_1 : decode cX4_setTrial 1 = .ok (.iconst 1, 1) := by decide +kernel
theorem dX4_setTrial_2 : decode cX4_setTrial 2 = .ok (.bipush 9, 2) := by decide +kernel
theorem dX4_setTrial_4 : decode cX4_setTrial 4 = .ok (.invokestatic 41, 3) := by decide +kernel
theorem dX4_setTrial_7 : decode cX4_setTrial 7 = .ok (.ifCond .eq 6, 3) := by decide +kernel
theorem dX4_setTrial_10 : decode cX4_setTrial 10 = .ok (.ldc 45, 2) := by decide +kernel
theorem dX4_setTrial_12 : decode cX4_setTrial 12 = .ok (.ireturn, 1) := by decide +kernel
theorem dX4_setTrial_13 : decode cX4_setTrial 13 = .ok (.aload_n 0, 1) := by decide +kernel
theorem dX4_setTrial_14 : decode cX4_setTrial 14 = .ok (.getfield 10, 3) := by decide +kernel
theorem dX4_setTrial_17 : decode cX4_setTrial 17 = .ok (.getfield 90, 3) := by decide +kernel
theorem dX4_setTrial_20 : decode cX4_setTrial 20 = .ok (.iload_n 1, 1) := by decide +kernel
theorem dX4_setTrial_21 : decode cX4_setTrial 21 = .ok (.if_icmp .ne 6, 3) := by decide +kernel
theorem dX4_setTrial_24 : decode cX4_setTrial 24 = .ok (.ldc 52, 2) := by decide +kernel
theorem dX4_setTrial_26 : decode cX4_setTrial 26 = .ok (.ireturn, 1) := by decide +kernel
theorem dX4_setTrial_27 : decode cX4_setTrial 27 = .ok (.aload_n 0, 1) := by decide +kernel
theorem dX4_setTrial_28 : decode cX4_setTrial 28 = .ok (.invokevirtual 53, 3) := by decide +kernel
theorem dX4_setTrial_31 : decode cX4_setTrial 31 = .ok (.aload_n 0, 1) := by decide +kernel
theorem dX4_setTrial_32 : decode cX4_setTrial 32 = .ok (.getfield 10, 3) := by decide +kernel
theorem dX4_setTrial_35 : decode cX4_setTrial 35 = .ok (.getfield 90, 3) := by decide +kernel
theorem dX4_setTrial_38 : decode cX4_setTrial 38 = .ok (.istore_n 2, 1) := by decide +kernel
theorem dX4_setTrial_39 : decode cX4_setTrial 39 = .ok (.aload_n 0, 1) := by decide +kernel
theorem dX4_setTrial_40 : decode cX4_setTrial 40 = .ok (.getfield 10, 3) := by decide +kernel
theorem dX4_setTrial_43 : decode cX4_setTrial 43 = .ok (.iload_n 1, 1) := by decide +kernel
theorem dX4_setTrial_44 : decode cX4_setTrial 44 = .ok (.putfield 90, 3) := by decide +kernel
theorem dX4_setTrial_47 : decode cX4_setTrial 47 = .ok (.iload_n 2, 1) := by decide +kernel
theorem dX4_setTrial_48 : decode cX4_setTrial 48 = .ok (.ireturn, 1) := by decide +kernel
theorem dX4_pardon_0 : decode cX4_pardon 0 = .ok (.aload_n 0, 1) := by decide +kernel
theorem dX4_pardon_1 : decode cX4_pardon 1 = .ok (.getfield 10, 3) := by decide +kernel
theorem dX4_pardon_4 : decode cX4_pardon 4 = .ok (.iload_n 1, 1) := by decide +kernel
theorem dX4_pardon_5 : decode cX4_pardon 5 = .ok (.invokevirtual 80, 3) := by decide +kernel
theorem dX4_pardon_8 : decode cX4_pardon 8 = .ok (.astore_n 2, 1) := by decide +kernel
theorem dX4_pardon_9 : decode cX4_pardon 9 = .ok (.aload_n 2, 1) := by decide +kernel
theorem dX4_pardon_10 : decode cX4_pardon 10 = .ok (.ifnonnull 6, 3) := by decide +kernel
theorem dX4_pardon_13 : decode cX4_pardon 13 = .ok (.ldc 84, 2) := by decide +kernel
theorem dX4_pardon_15 : decode cX4_pardon 15 = .ok (.ireturn, 1) := by decide +kernel
theorem dX4_pardon_16 : decode cX4_pardon 16 = .ok (.aload_n 2, 1) := by decide +kernel
theorem dX4_pardon_17 : decode cX4_pardon 17 = .ok (.getfield 93, 3) := by decide +kernel
theorem dX4_pardon_20 : decode cX4_pardon 20 = .ok (.ifCond .ne 6, 3) := by decide +kernel
theorem dX4_pardon_23 : decode cX4_pardon 23 = .ok (.ldc 52, 2) := by decide +kernel
theorem dX4_pardon_25 : decode cX4_pardon 25 = .ok (.ireturn, 1) := by decide +kernel
theorem dX4_pardon_26 : decode cX4_pardon 26 = .ok (.aload_n 0, 1) := by decide +kernel
theorem dX4_pardon_27 : decode cX4_pardon 27 = .ok (.invokevirtual 53, 3) := by decide +kernel
theorem dX4_pardon_30 : decode cX4_pardon 30 = .ok (.aload_n 2, 1) := by decide +kernel
theorem dX4_pardon_31 : decode cX4_pardon 31 = .ok (.invokevirtual 96, 3) := by decide +kernel
theorem dX4_pardon_34 : decode cX4_pardon 34 = .ok (.ireturn, 1) := by decide +kernel
theorem dX4_forget_0 : decode cX4_forget 0 = .ok (.aload_n 0, 1) := by decide +kernel
theorem dX4_forget_1 : decode cX4_forget 1 = .ok (.getfield 10, 3) := by decide +kernel
theorem dX4_forget_4 : decode cX4_forget 4 = .ok (.iload_n 1, 1) := by decide +kernel
theorem dX4_forget_5 : decode cX4_forget 5 = .ok (.invokevirtual 80, 3) := by decide +kernel
theorem dX4_forget_8 : decode cX4_forget 8 = .ok (.astore_n 2, 1) := by decide +kernel
theorem dX4_forget_9 : decode cX4_forget 9 = .ok (.aload_n 2, 1) := by decide +kernel
theorem dX4_forget_10 : decode cX4_forget 10 = .ok (.ifnonnull 6, 3) := by decide +kernel
theorem dX4_forget_13 : decode cX4_forget 13 = .ok (.ldc 84, 2) := by decide +kernel
theorem dX4_forget_15 : decode cX4_forget 15 = .ok (.ireturn, 1) := by decide +kernel
theorem dX4_forget_16 : decode cX4_forget 16 = .ok (.aload_n 2, 1) := by decide +kernel
theorem dX4_forget_17 : decode cX4_forget 17 = .ok (.getfield 99, 3) := by decide +kernel
theorem dX4_forget_20 : decode cX4_forget 20 = .ok (.iconst 2, 1) := by decide +kernel
theorem dX4_forget_21 : decode cX4_forget 21 = .ok (.if_icmp .ne 6, 3) := by decide +kernel
theorem dX4_forget_24 : decode cX4_forget 24 = .ok (.ldc 102, 2) := by decide +kernel
theorem dX4_forget_26 : decode cX4_forget 26 = .ok (.ireturn, 1) := by decide +kernel
theorem dX4_forget_27 : decode cX4_forget 27 = .ok (.aload_n 2, 1) := by decide +kernel
theorem dX4_forget_28 : decode cX4_forget 28 = .ok (.getfield 103, 3) := by decide +kernel
theorem dX4_forget_31 : decode cX4_forget 31 = .ok (.getfield 64, 3) := by decide +kernel
theorem dX4_forget_34 : decode cX4_forget 34 = .ok (.ifCond .ne 6, 3) := by decide +kernel
theorem dX4_forget_37 : decode cX4_forget 37 = .ok (.ldc 52, 2) := by decide +kernel
theorem dX4_forget_39 : decode cX4_forget 39 = .ok (.ireturn, 1) := by decide +kernel
theorem dX4_forget_40 : decode cX4_forget 40 = .ok (.aload_n 0, 1) := by decide +kernel
theorem dX4_forget_41 : decode cX4_forget 41 = .ok (.invokevirtual 53, 3) := by decide +kernel
theorem dX4_forget_44 : decode cX4_forget 44 = .ok (.aload_n 2, 1) := by decide +kernel
theorem dX4_forget_45 : decode cX4_forget 45 = .ok (.getfield 103, 3) := by decide +kernel
theorem dX4_forget_48 : decode cX4_forget 48 = .ok (.getfield 64, 3) := by decide +kernel
theorem dX4_forget_51 : decode cX4_forget 51 = .ok (.istore_n 3, 1) := by decide +kernel
theorem dX4_forget_52 : decode cX4_forget 52 = .ok (.aload_n 2, 1) := by decide +kernel
theorem dX4_forget_53 : decode cX4_forget 53 = .ok (.getfield 103, 3) := by decide +kernel
theorem dX4_forget_56 : decode cX4_forget 56 = .ok (.iconst 0, 1) := by decide +kernel
theorem dX4_forget_57 : decode cX4_forget 57 = .ok (.putfield 64, 3) := by decide +kernel
theorem dX4_forget_60 : decode cX4_forget 60 = .ok (.iload_n 3, 1) := by decide +kernel
theorem dX4_forget_61 : decode cX4_forget 61 = .ok (.ireturn, 1) := by decide +kernel
theorem dX4_access_0 : decode cX4_access 0 = .ok (.iload_n 1, 1) := by decide +kernel
theorem dX4_access_1 : decode cX4_access 1 = .ok (.iconst 0, 1) := by decide +kernel
theorem dX4_access_2 : decode cX4_access 2 = .ok (.bipush 15, 2) := by decide +kernel
theorem dX4_access_4 : decode cX4_access 4 = .ok (.invokestatic 41, 3) := by decide +kernel
theorem dX4_access_7 : decode cX4_access 7 = .ok (.ifCond .ne 14, 3) := by decide +kernel
theorem dX4_access_10 : decode cX4_access 10 = .ok (.iload_n 2, 1) := by decide +kernel
theorem dX4_access_11 : decode cX4_access 11 = .ok (.iconst 0, 1) := by decide +kernel
theorem dX4_access_12 : decode cX4_access 12 = .ok (.sipush 9999, 3) := by decide +kernel
theorem dX4_access_15 : decode cX4_access 15 = .ok (.invokestatic 41, 3) := by decide +kernel
theorem dX4_access_18 : decode cX4_access 18 = .ok (.ifCond .eq 6, 3) := by decide +kernel
theorem dX4_access_21 : decode cX4_access 21 = .ok (.ldc 45, 2) := by decide +kernel
theorem dX4_access_23 : decode cX4_access 23 = .ok (.ireturn, 1) := by decide +kernel
theorem dX4_access_24 : decode cX4_access 24 = .ok (.aload_n 0, 1) := by decide +kernel
theorem dX4_access_25 : decode cX4_access 25 = .ok (.invokevirtual 53, 3) := by decide +kernel
theorem dX4_access_28 : decode cX4_access 28 = .ok (.aload_n 0, 1) := by decide +kernel
theorem dX4_access_29 : decode cX4_access 29 = .ok (.getfield 10, 3) := by decide +kernel
theorem dX4_access_32 : decode cX4_access 32 = .ok (.iload_n 1, 1) := by decide +kernel
theorem dX4_access_33 : decode cX4_access 33 = .ok (.iload_n 2, 1) := by decide +kernel
theorem dX4_access_34 : decode cX4_access 34 = .ok (.invokevirtual 106, 3) := by decide +kernel
theorem dX4_access_37 : decode cX4_access 37 = .ok (.ireturn, 1) := by decide +kernel
theorem dX4_walk_0 : decode cX4_walk 0 = .ok (.iload_n 1, 1) := by decide +kernel
theorem dX4_walk_1 : decode cX4_walk 1 = .ok (.iload_n 2, 1) := by decide +kernel
theorem dX4_walk_2 : decode cX4_walk 2 = .ok (.iload_n 3, 1) := by decide +kernel
theorem dX4_walk_3 : decode cX4_walk 3 = .ok (.iload 4, 2) := by decide +kernel
theorem dX4_walk_5 : decode cX4_walk 5 = .ok (.invokestatic 110, 3) := by decide +kernel
theorem dX4_walk_8 : decode cX4_walk 8 = .ok (.ifCond .ne 6, 3) := by decide +kernel
theorem dX4_walk_11 : decode cX4_walk 11 = .ok (.ldc 45, 2) := by decide +kernel
theorem dX4_walk_13 : decode cX4_walk 13 = .ok (.ireturn, 1) := by decide +kernel
theorem dX4_walk_14 : decode cX4_walk 14 = .ok (.aload_n 0, 1) := by decide +kernel
theorem dX4_walk_15 : decode cX4_walk 15 = .ok (.invokevirtual 53, 3) := by decide +kernel
theorem dX4_walk_18 : decode cX4_walk 18 = .ok (.aload_n 0, 1) := by decide +kernel
theorem dX4_walk_19 : decode cX4_walk 19 = .ok (.getfield 10, 3) := by decide +kernel
theorem dX4_walk_22 : decode cX4_walk 22 = .ok (.iload_n 1, 1) := by decide +kernel
theorem dX4_walk_23 : decode cX4_walk 23 = .ok (.iload_n 2, 1) := by decide +kernel
theorem dX4_walk_24 : decode cX4_walk 24 = .ok (.iload_n 3, 1) := by decide +kernel
theorem dX4_walk_25 : decode cX4_walk 25 = .ok (.iload 4, 2) := by decide +kernel
theorem dX4_walk_27 : decode cX4_walk 27 = .ok (.invokevirtual 114, 3) := by decide +kernel
theorem dX4_walk_30 : decode cX4_walk 30 = .ok (.ireturn, 1) := by decide +kernel
theorem dX4_undo_0 : decode cX4_undo 0 = .ok (.aload_n 0, 1) := by decide +kernel
theorem dX4_undo_1 : decode cX4_undo 1 = .ok (.getfield 37, 3) := by decide +kernel
theorem dX4_undo_4 : decode cX4_undo 4 = .ok (.iconst 1, 1) := by decide +kernel
theorem dX4_undo_5 : decode cX4_undo 5 = .ok (.if_icmp .lt 11, 3) := by decide +kernel
theorem dX4_undo_8 : decode cX4_undo 8 = .ok (.aload_n 0, 1) := by decide +kernel
theorem dX4_undo_9 : decode cX4_undo 9 = .ok (.getfield 37, 3) := by decide +kernel
theorem dX4_undo_12 : decode cX4_undo 12 = .ok (.iconst 4, 1) := by decide +kernel
theorem dX4_undo_13 : decode cX4_undo 13 = .ok (.if_icmp .le 6, 3) := by decide +kernel
theorem dX4_undo_16 : decode cX4_undo 16 = .ok (.ldc 52, 2) := by decide +kernel
theorem dX4_undo_18 : decode cX4_undo 18 = .ok (.ireturn, 1) := by decide +kernel
theorem dX4_undo_19 : decode cX4_undo 19 = .ok (.aload_n 0, 1) := by decide +kernel
theorem dX4_undo_20 : decode cX4_undo 20 = .ok (.dup, 1) := by decide +kernel
theorem dX4_undo_21 : decode cX4_undo 21 = .ok (.getfield 37, 3) := by decide +kernel
theorem dX4_undo_24 : decode cX4_undo 24 = .ok (.iconst 1, 1) := by decide +kernel
theorem dX4_undo_25 : decode cX4_undo 25 = .ok (.isub, 1) := by decide +kernel
theorem dX4_undo_26 : decode cX4_undo 26 = .ok (.putfield 37, 3) := by decide +kernel
theorem dX4_undo_29 : decode cX4_undo 29 = .ok (.aload_n 0, 1) := by decide +kernel
theorem dX4_undo_30 : decode cX4_undo 30 = .ok (.getfield 10, 3) := by decide +kernel
theorem dX4_undo_33 : decode cX4_undo 33 = .ok (.aload_n 0, 1) := by decide +kernel
theorem dX4_undo_34 : decode cX4_undo 34 = .ok (.getfield 22, 3) := by decide +kernel
theorem dX4_undo_37 : decode cX4_undo 37 = .ok (.aload_n 0, 1) := by decide +kernel
theorem dX4_undo_38 : decode cX4_undo 38 = .ok (.getfield 37, 3) := by decide +kernel
theorem dX4_undo_41 : decode cX4_undo 41 = .ok (.aaload, 1) := by decide +kernel
theorem dX4_undo_42 : decode cX4_undo 42 = .ok (.invokevirtual 132, 3) := by decide +kernel
theorem dX4_undo_45 : decode cX4_undo 45 = .ok (.aload_n 0, 1) := by decide +kernel
theorem dX4_undo_46 : decode cX4_undo 46 = .ok (.getfield 37, 3) := by decide +kernel
theorem dX4_undo_49 : decode cX4_undo 49 = .ok (.ireturn, 1) := by decide +kernel
theorem dX4_keep_0 : decode cX4_keep 0 = .ok (.aload_n 0, 1) := by decide +kernel
theorem dX4_keep_1 : decode cX4_keep 1 = .ok (.getfield 19, 3) := by decide +kernel
theorem dX4_keep_4 : decode cX4_keep 4 = .ok (.aload_n 0, 1) := by decide +kernel
theorem dX4_keep_5 : decode cX4_keep 5 = .ok (.getfield 10, 3) := by decide +kernel
theorem dX4_keep_8 : decode cX4_keep 8 = .ok (.invokevirtual 132, 3) := by decide +kernel
theorem dX4_keep_11 : decode cX4_keep 11 = .ok (.aload_n 0, 1) := by decide +kernel
theorem dX4_keep_12 : decode cX4_keep 12 = .ok (.iconst 1, 1) := by decide +kernel
theorem dX4_keep_13 : decode cX4_keep 13 = .ok (.putfield 33, 3) := by decide +kernel
theorem dX4_keep_16 : decode cX4_keep 16 = .ok (.aload_n 0, 1) := by decide +kernel
theorem dX4_keep_17 : decode cX4_keep 17 = .ok (.getfield 10, 3) := by decide +kernel
theorem dX4_keep_20 : decode cX4_keep 20 = .ok (.getfield 136, 3) := by decide +kernel
theorem dX4_keep_23 : decode cX4_keep 23 = .ok (.ireturn, 1) := by decide +kernel
theorem dX4_restore_0 : decode cX4_restore 0 = .ok (.aload_n 0, 1) := by decide +kernel
theorem dX4_restore_1 : decode cX4_restore 1 = .ok (.getfield 33, 3) := by decide +kernel
theorem dX4_restore_4 : decode cX4_restore 4 = .ok (.ifCond .ne 6, 3) := by decide +kernel
theorem dX4_restore_7 : decode cX4_restore 7 = .ok (.ldc 52, 2) := by decide +kernel
theorem dX4_restore_9 : decode cX4_restore 9 = .ok (.ireturn, 1) := by decide +kernel
theorem dX4_restore_10 : decode cX4_restore 10 = .ok (.aload_n 0, 1) := by decide +kernel
theorem dX4_restore_11 : decode cX4_restore 11 = .ok (.invokevirtual 53, 3) := by decide +kernel
theorem dX4_restore_14 : decode cX4_restore 14 = .ok (.aload_n 0, 1) := by decide +kernel
theorem dX4_restore_15 : decode cX4_restore 15 = .ok (.getfield 10, 3) := by decide +kernel
theorem dX4_restore_18 : decode cX4_restore 18 = .ok (.aload_n 0, 1) := by decide +kernel
theorem dX4_restore_19 : decode cX4_restore 19 = .ok (.getfield 19, 3) := by decide +kernel
theorem dX4_restore_22 : decode cX4_restore 22 = .ok (.invokevirtual 132, 3) := by decide +kernel
theorem dX4_restore_25 : decode cX4_restore 25 = .ok (.aload_n 0, 1) := by decide +kernel
theorem dX4_restore_26 : decode cX4_restore 26 = .ok (.getfield 10, 3) := by decide +kernel
theorem dX4_restore_29 : decode cX4_restore 29 = .ok (.getfield 136, 3) := by decide +kernel
theorem dX4_restore_32 : decode cX4_restore 32 = .ok (.ireturn, 1) := by decide +kernel
theorem dX4_line_0 : decode cX4_line 0 = .ok (.iload_n 1, 1) := by decide +kernel
theorem dX4_line_1 : decode cX4_line 1 = .ok (.iconst 0, 1) := by decide +kernel
theorem dX4_line_2 : decode cX4_line 2 = .ok (.sipush 9999, 3) := by decide +kernel
theorem dX4_line_5 : decode cX4_line 5 = .ok (.invokestatic 41, 3) := by decide +kernel
theorem dX4_line_8 : decode cX4_line 8 = .ok (.ifCond .eq 6, 3) := by decide +kernel
theorem dX4_line_11 : decode cX4_line 11 = .ok (.ldc 84, 2) := by decide +kernel
theorem dX4_line_13 : decode cX4_line 13 = .ok (.ireturn, 1) := by decide +kernel
theorem dX4_line_14 : decode cX4_line 14 = .ok (.aload_n 0, 1) := by decide +kernel
theorem dX4_line_15 : decode cX4_line 15 = .ok (.getfield 10, 3) := by decide +kernel
theorem dX4_line_18 : decode cX4_line 18 = .ok (.iload_n 1, 1) := by decide +kernel
theorem dX4_line_19 : decode cX4_line 19 = .ok (.invokevirtual 139, 3) := by decide +kernel
theorem dX4_line_22 : decode cX4_line 22 = .ok (.astore_n 3, 1) := by decide +kernel
theorem dX4_line_23 : decode cX4_line 23 = .ok (.aload_n 3, 1) := by decide +kernel
theorem dX4_line_24 : decode cX4_line 24 = .ok (.iload_n 1, 1) := by decide +kernel
theorem dX4_line_25 : decode cX4_line 25 = .ok (.invokevirtual 143, 3) := by decide +kernel
theorem dX4_line_28 : decode cX4_line 28 = .ok (.istore 4, 2) := by decide +kernel
theorem dX4_line_30 : decode cX4_line 30 = .ok (.aload_n 0, 1) := by decide +kernel
theorem dX4_line_31 : decode cX4_line 31 = .ok (.getfield 10, 3) := by decide +kernel
theorem dX4_line_34 : decode cX4_line 34 = .ok (.getfield 60, 3) := by decide +kernel
theorem dX4_line_37 : decode cX4_line 37 = .ok (.iload_n 1, 1) := by decide +kernel
theorem dX4_line_38 : decode cX4_line 38 = .ok (.invokevirtual 143, 3) := by decide +kernel
theorem dX4_line_41 : decode cX4_line 41 = .ok (.istore 5, 2) := by decide +kernel
theorem dX4_line_43 : decode cX4_line 43 = .ok (.iload_n 2, 1) := by decide +kernel
theorem dX4_line_44 : decode cX4_line 44 = .ok (.tableswitch 101 0 5 #[40, 51, 73, 81, 84, 87], 40) := by decide +kernel
theorem dX4_line_84 : decode cX4_line 84 = .ok (.iload 4, 2) := by decide +kernel
theorem dX4_line_86 : decode cX4_line 86 = .ok (.ifCond .lt 7, 3) := by decide +kernel
theorem dX4_line_89 : decode cX4_line 89 = .ok (.iconst 1, 1) := by decide +kernel
theorem dX4_line_90 : decode cX4_line 90 = .ok (.goto 4, 3) := by decide +kernel
theorem dX4_line_93 : decode cX4_line 93 = .ok (.iconst 0, 1) := by decide +kernel
theorem dX4_line_94 : decode cX4_line 94 = .ok (.ireturn, 1) := by decide +kernel
theorem dX4_line_95 : decode cX4_line 95 = .ok (.iload 4, 2) := by decide +kernel
theorem dX4_line_97 : decode cX4_line 97 = .ok (.ifCond .lt 18, 3) := by decide +kernel
theorem dX4_line_100 : decode cX4_line 100 = .ok (.aload_n 3, 1) := by decide +kernel
theorem dX4_line_101 : decode cX4_line 101 = .ok (.iload 4, 2) := by decide +kernel
theorem dX4_line_103 : decode cX4_line 103 = .ok (.iconst 2, 1) := by decide +kernel
theorem dX4_line_104 : decode cX4_line 104 = .ok (.invokevirtual 147, 3) := by decide +kernel
theorem dX4_line_107 : decode cX4_line 107 = .ok (.iconst 1, 1) := by decide +kernel
theorem dX4_line_108 : decode cX4_line 108 = .ok (.if_icmp .ne 7, 3) := by decide +kernel
theorem dX4_line_111 : decode cX4_line 111 = .ok (.iconst 1, 1) := by decide +kernel
theorem dX4_line_112 : decode cX4_line 112 = .ok (.goto 4, 3) := by decide +kernel
theorem dX4_line_115 : decode cX4_line 115 = .ok (.iconst 0, 1) := by decide +kernel
theorem dX4_line_116 : decode cX4_line 116 = .ok (.ireturn, 1) := by decide +kernel
theorem dX4_line_117 : decode cX4_line 117 = .ok (.aload_n 3, 1) := by decide +kernel
theorem dX4_line_118 : decode cX4_line 118 = .ok (.iload 4, 2) := by decide +kernel
theorem dX4_line_120 : decode cX4_line 120 = .ok (.iconst 1, 1) := by decide +kernel
theorem dX4_line_121 : decode cX4_line 121 = .ok (.invokevirtual 147, 3) := by decide +kernel
theorem dX4_line_124 : decode cX4_line 124 = .ok (.ireturn, 1) := by decide +kernel
theorem dX4_line_125 : decode cX4_line 125 = .ok (.iload 4, 2) := by decide +kernel
theorem dX4_line_127 : decode cX4_line 127 = .ok (.ireturn, 1) := by decide +kernel
theorem dX4_line_128 : decode cX4_line 128 = .ok (.iload 5, 2) := by decide +kernel
theorem dX4_line_130 : decode cX4_line 130 = .ok (.ireturn, 1) := by decide +kernel
theorem dX4_line_131 : decode cX4_line 131 = .ok (.aload_n 0, 1) := by decide +kernel
theorem dX4_line_132 : decode cX4_line 132 = .ok (.getfield 10, 3) := by decide +kernel
theorem dX4_line_135 : decode cX4_line 135 = .ok (.getfield 60, 3) := by decide +kernel
theorem dX4_line_138 : decode cX4_line 138 = .ok (.iload 5, 2) := by decide +kernel
theorem dX4_line_140 : decode cX4_line 140 = .ok (.iconst 1, 1) := by decide +kernel
theorem dX4_line_141 : decode cX4_line 141 = .ok (.invokevirtual 147, 3) := by decide +kernel
theorem dX4_line_144 : decode cX4_line 144 = .ok (.ireturn, 1) := by decide +kernel
theorem dX4_line_145 : decode cX4_line 145 = .ok (.ldc 45, 2) := by decide +kernel
theorem dX4_line_147 : decode cX4_line 147 = .ok (.ireturn, 1) := by decide +kernel
theorem dX4_inSet_0 : decode cX4_inSet 0 = .ok (.iload_n 1, 1) := by decide +kernel
theorem dX4_inSet_1 : decode cX4_inSet 1 = .ok (.iconst 0, 1) := by decide +kernel
theorem dX4_inSet_2 : decode cX4_inSet 2 = .ok (.aload_n 0, 1) := by decide +kernel
theorem dX4_inSet_3 : decode cX4_inSet 3 = .ok (.getfield 10, 3) := by decide +kernel
theorem dX4_inSet_6 : decode cX4_inSet 6 = .ok (.getfield 46, 3) := by decide +kernel
theorem dX4_inSet_9 : decode cX4_inSet 9 = .ok (.iconst 1, 1) := by decide +kernel
theorem dX4_inSet_10 : decode cX4_inSet 10 = .ok (.isub, 1) := by decide +kernel
theorem dX4_inSet_11 : decode cX4_inSet 11 = .ok (.invokestatic 41, 3) := by decide +kernel
theorem dX4_inSet_14 : decode cX4_inSet 14 = .ok (.ifCond .eq 6, 3) := by decide +kernel
theorem dX4_inSet_17 : decode cX4_inSet 17 = .ok (.ldc 84, 2) := by decide +kernel
theorem dX4_inSet_19 : decode cX4_inSet 19 = .ok (.ireturn, 1) := by decide +kernel
theorem dX4_inSet_20 : decode cX4_inSet 20 = .ok (.iload_n 2, 1) := by decide +kernel
theorem dX4_inSet_21 : decode cX4_inSet 21 = .ok (.ifCond .ge 8, 3) := by decide +kernel
theorem dX4_inSet_24 : decode cX4_inSet 24 = .ok (.ldc 45, 2) := by decide +kernel
theorem dX4_inSet_26 : decode cX4_inSet 26 = .ok (.goto 16, 3) := by decide +kernel
theorem dX4_inSet_29 : decode cX4_inSet 29 = .ok (.aload_n 0, 1) := by decide +kernel
theorem dX4_inSet_30 : decode cX4_inSet 30 = .ok (.getfield 10, 3) := by decide +kernel
theorem dX4_inSet_33 : decode cX4_inSet 33 = .ok (.iload_n 1, 1) := by decide +kernel
theorem dX4_inSet_34 : decode cX4_inSet 34 = .ok (.invokevirtual 150, 3) := by decide +kernel
theorem dX4_inSet_37 : decode cX4_inSet 37 = .ok (.iload_n 2, 1) := by decide +kernel
theorem dX4_inSet_38 : decode cX4_inSet 38 = .ok (.iconst 0, 1) := by decide +kernel
theorem dX4_inSet_39 : decode cX4_inSet 39 = .ok (.invokevirtual 147, 3) := by decide +kernel
theorem dX4_inSet_42 : decode cX4_inSet 42 = .ok (.ireturn, 1) := by decide +kernel
theorem dX4_thrownOut_0 : decode cX4_thrownOut 0 = .ok (.iload_n 1, 1) := by decide +kernel
theorem dX4_thrownOut_1 : decode cX4_thrownOut 1 = .ok (.ifCond .ge 8, 3) := by decide +kernel
theorem dX4_thrownOut_4 : decode cX4_thrownOut 4 = .ok (.ldc 45, 2) := by decide +kernel
theorem dX4_thrownOut_6 : decode cX4_thrownOut 6 = .ok (.goto 15, 3) := by decide +kernel
theorem dX4_thrownOut_9 : decode cX4_thrownOut 9 = .ok (.aload_n 0, 1) := by decide +kernel
theorem dX4_thrownOut_10 : decode cX4_thrownOut 10 = .ok (.getfield 10, 3) := by decide +kernel
theorem dX4_thrownOut_13 : decode cX4_thrownOut 13 = .ok (.getfield 60, 3) := by decide +kernel
theorem dX4_thrownOut_16 : decode cX4_thrownOut 16 = .ok (.iload_n 1, 1) := by decide +kernel
theorem dX4_thrownOut_17 : decode cX4_thrownOut 17 = .ok (.iconst 0, 1) := by decide +kernel
theorem dX4_thrownOut_18 : decode cX4_thrownOut 18 = .ok (.invokevirtual 147, 3) := by decide +kernel
theorem dX4_thrownOut_21 : decode cX4_thrownOut 21 = .ok (.ireturn, 1) := by decide +kernel
theorem dX4_helper_0 : decode cX4_helper 0 = .ok (.aload_n 0, 1) := by decide +kernel
theorem dX4_helper_1 : decode cX4_helper 1 = .ok (.getfield 10, 3) := by decide +kernel
theorem dX4_helper_4 : decode cX4_helper 4 = .ok (.iload_n 1, 1) := by decide +kernel
theorem dX4_helper_5 : decode cX4_helper 5 = .ok (.invokevirtual 80, 3) := by decide +kernel
theorem dX4_helper_8 : decode cX4_helper 8 = .ok (.astore_n 3, 1) := by decide +kernel
theorem dX4_helper_9 : decode cX4_helper 9 = .ok (.aload_n 3, 1) := by decide +kernel
theorem dX4_helper_10 : decode cX4_helper 10 = .ok (.ifnonnull 6, 3) := by decide +kernel
theorem dX4_helper_13 : decode cX4_helper 13 = .ok (.ldc 84, 2) := by decide +kernel
theorem dX4_helper_15 : decode cX4_helper 15 = .ok (.ireturn, 1) := by decide +kernel
theorem dX4_helper_16 : decode cX4_helper 16 = .ok (.iload_n 2, 1) := by decide +kernel
theorem dX4_helper_17 : decode cX4_helper 17 = .ok (.tableswitch 166 0 15 #[79, 84, 89, 94, 99, 104, 109, 114, 119, 124, 129, 138, 143, 148, 153, 161], 79) := by decide +kernel
theorem dX4_helper_96 : decode cX4_helper 96 = .ok (.aload_n 3, 1) := by decide +kernel
theorem dX4_helper_97 : decode cX4_helper 97 = .ok (.getfield 99, 3) := by decide +kernel
theorem dX4_helper_100 : decode cX4_helper 100 = .ok (.ireturn, 1) := by decide +kernel
theorem dX4_helper_101 : decode cX4_helper 101 = .ok (.aload_n 3, 1) := by decide +kernel
theorem dX4_helper_102 : decode cX4_helper 102 = .ok (.getfield 85, 3) := by decide +kernel
theorem dX4_helper_105 : decode cX4_helper 105 = .ok (.ireturn, 1) := by decide +kernel
theorem dX4_helper_106 : decode cX4_helper 106 = .ok (.aload_n 3, 1) := by decide +kernel
theorem dX4_helper_107 : decode cX4_helper 107 = .ok (.getfield 153, 3) := by decide +kernel
theorem dX4_helper_110 : decode cX4_helper 110 = .ok (.ireturn, 1) := by decide +kernel
theorem dX4_helper_111 : decode cX4_helper 111 = .ok (.aload_n 3, 1) := by decide +kernel
theorem dX4_helper_112 : decode cX4_helper 112 = .ok (.getfield 93, 3) := by decide +kernel
theorem dX4_helper_115 : decode cX4_helper 115 = .ok (.ireturn, 1) := by decide +kernel
theorem dX4_helper_116 : decode cX4_helper 116 = .ok (.aload_n 3, 1) := by decide +kernel
theorem dX4_helper_117 : decode cX4_helper 117 = .ok (.getfield 156, 3) := by decide +kernel
theorem dX4_helper_120 : decode cX4_helper 120 = .ok (.ireturn, 1) := by decide +kernel
theorem dX4_helper_121 : decode cX4_helper 121 = .ok (.aload_n 3, 1) := by decide +kernel
theorem dX4_helper_122 : decode cX4_helper 122 = .ok (.getfield 159, 3) := by decide +kernel
theorem dX4_helper_125 : decode cX4_helper 125 = .ok (.ireturn, 1) := by decide +kernel
theorem dX4_helper_126 : decode cX4_helper 126 = .ok (.aload_n 3, 1) := by decide +kernel
theorem dX4_helper_127 : decode cX4_helper 127 = .ok (.invokevirtual 162, 3) := by decide +kernel
theorem dX4_helper_130 : decode cX4_helper 130 = .ok (.ireturn, 1) := by decide +kernel
theorem dX4_helper_131 : decode cX4_helper 131 = .ok (.aload_n 3, 1) := by decide +kernel
theorem dX4_helper_132 : decode cX4_helper 132 = .ok (.getfield 165, 3) := by decide +kernel
theorem dX4_helper_135 : decode cX4_helper 135 = .ok (.ireturn, 1) := by decide +kernel
theorem dX4_helper_136 : decode cX4_helper 136 = .ok (.aload_n 3, 1) := by decide +kernel
theorem dX4_helper_137 : decode cX4_helper 137 = .ok (.getfield 168, 3) := by decide +kernel
theorem dX4_helper_140 : decode cX4_helper 140 = .ok (.ireturn, 1) := by decide +kernel
theorem dX4_helper_141 : decode cX4_helper 141 = .ok (.aload_n 3, 1) := by decide +kernel
theorem dX4_helper_142 : decode cX4_helper 142 = .ok (.getfield 171, 3) := by decide +kernel
theorem dX4_helper_145 : decode cX4_helper 145 = .ok (.ireturn, 1) := by decide +kernel
theorem dX4_helper_146 : decode cX4_helper 146 = .ok (.aload_n 0, 1) := by decide +kernel
theorem dX4_helper_147 : decode cX4_helper 147 = .ok (.getfield 10, 3) := by decide +kernel
theorem dX4_helper_150 : decode cX4_helper 150 = .ok (.iload_n 1, 1) := by decide +kernel
theorem dX4_helper_151 : decode cX4_helper 151 = .ok (.invokevirtual 174, 3) := by decide +kernel
theorem dX4_helper_154 : decode cX4_helper 154 = .ok (.ireturn, 1) := by decide +kernel
theorem dX4_helper_155 : decode cX4_helper 155 = .ok (.aload_n 3, 1) := by decide +kernel
theorem dX4_helper_156 : decode cX4_helper 156 = .ok (.getfield 177, 3) := by decide +kernel
theorem dX4_helper_159 : decode cX4_helper 159 = .ok (.ireturn, 1) := by decide +kernel
theorem dX4_helper_160 : decode cX4_helper 160 = .ok (.aload_n 3, 1) := by decide +kernel
theorem dX4_helper_161 : decode cX4_helper 161 = .ok (.getfield 180, 3) := by decide +kernel
theorem dX4_helper_164 : decode cX4_helper 164 = .ok (.ireturn, 1) := by decide +kernel
theorem dX4_helper_165 : decode cX4_helper 165 = .ok (.aload_n 3, 1) := by decide +kernel
theorem dX4_helper_166 : decode cX4_helper 166 = .ok (.getfield 183, 3) := by decide +kernel
theorem dX4_helper_169 : decode cX4_helper 169 = .ok (.ireturn, 1) := by decide +kernel
theorem dX4_helper_170 : decode cX4_helper 170 = .ok (.aload_n 3, 1) := by decide +kernel
theorem dX4_helper_171 : decode cX4_helper 171 = .ok (.getfield 103, 3) := by decide +kernel
theorem dX4_helper_174 : decode cX4_helper 174 = .ok (.getfield 64, 3) := by decide +kernel
theorem dX4_helper_177 : decode cX4_helper 177 = .ok (.ireturn, 1) := by decide +kernel
theorem dX4_helper_178 : decode cX4_helper 178 = .ok (.aload_n 3, 1) := by decide +kernel
theorem dX4_helper_179 : decode cX4_helper 179 = .ok (.getfield 186, 3) := by decide +kernel
theorem dX4_helper_182 : decode cX4_helper 182 = .ok (.ireturn, 1) := by decide +kernel
theorem dX4_helper_183 : decode cX4_helper 183 = .ok (.ldc 45, 2) := by decide +kernel
theorem dX4_helper_185 : decode cX4_helper 185 = .ok (.ireturn, 1) := by decide +kernel
theorem dX4_table_0 : decode cX4_table 0 = .ok (.aload_n 0, 1) := by decide +kernel
theorem dX4_table_1 : decode cX4_table 1 = .ok (.getfield 10, 3) := by decide +kernel
theorem dX4_table_4 : decode cX4_table 4 = .ok (.iload_n 1, 1) := by decide +kernel
theorem dX4_table_5 : decode cX4_table 5 = .ok (.invokevirtual 80, 3) := by decide +kernel
theorem dX4_table_8 : decode cX4_table 8 = .ok (.astore 4, 2) := by decide +kernel
theorem dX4_table_10 : decode cX4_table 10 = .ok (.aload 4, 2) := by decide +kernel
theorem dX4_table_12 : decode cX4_table 12 = .ok (.ifnonnull 6, 3) := by decide +kernel
theorem dX4_table_15 : decode cX4_table 15 = .ok (.ldc 84, 2) := by decide +kernel
theorem dX4_table_17 : decode cX4_table 17 = .ok (.ireturn, 1) := by decide +kernel
theorem dX4_table_18 : decode cX4_table 18 = .ok (.iload_n 2, 1) := by decide +kernel
theorem dX4_table_19 : decode cX4_table 19 = .ok (.ifCond .lt 12, 3) := by decide +kernel
theorem dX4_table_22 : decode cX4_table 22 = .ok (.iload_n 3, 1) := by decide +kernel
theorem dX4_table_23 : decode cX4_table 23 = .ok (.iconst 0, 1) := by decide +kernel
theorem dX4_table_24 : decode cX4_table 24 = .ok (.iconst 3, 1) := by decide +kernel
theorem dX4_table_25 : decode cX4_table 25 = .ok (.invokestatic 41, 3) := by decide +kernel
theorem dX4_table_28 : decode cX4_table 28 = .ok (.ifCond .eq 6, 3) := by decide +kernel
theorem dX4_table_31 : decode cX4_table 31 = .ok (.ldc 45, 2) := by decide +kernel
theorem dX4_table_33 : decode cX4_table 33 = .ok (.ireturn, 1) := by decide +kernel
theorem dX4_table_34 : decode cX4_table 34 = .ok (.aload 4, 2) := by decide +kernel
theorem dX4_table_36 : decode cX4_table 36 = .ok (.getfield 103, 3) := by decide +kernel
theorem dX4_table_39 : decode cX4_table 39 = .ok (.iload_n 2, 1) := by decide +kernel
theorem dX4_table_40 : decode cX4_table 40 = .ok (.iload_n 3, 1) := by decide +kernel
theorem dX4_table_41 : decode cX4_table 41 = .ok (.invokevirtual 147, 3) := by decide +kernel
theorem dX4_table_44 : decode cX4_table 44 = .ok (.ireturn, 1) := by decide +kernel
theorem dX4_wouldAsk_0 : decode cX4_wouldAsk 0 = .ok (.aload_n 0, 1) := by decide +kernel
theorem dX4_wouldAsk_1 : decode cX4_wouldAsk 1 = .ok (.getfield 10, 3) := by decide +kernel
theorem dX4_wouldAsk_4 : decode cX4_wouldAsk 4 = .ok (.iload_n 1, 1) := by decide +kernel
theorem dX4_wouldAsk_5 : decode cX4_wouldAsk 5 = .ok (.invokevirtual 80, 3) := by decide +kernel
theorem dX4_wouldAsk_8 : decode cX4_wouldAsk 8 = .ok (.ifnonnull 6, 3) := by decide +kernel
theorem dX4_wouldAsk_11 : decode cX4_wouldAsk 11 = .ok (.ldc 84, 2) := by decide +kernel
theorem dX4_wouldAsk_13 : decode cX4_wouldAsk 13 = .ok (.ireturn, 1) := by decide +kernel
theorem dX4_wouldAsk_14 : decode cX4_wouldAsk 14 = .ok (.iload_n 2, 1) := by decide +kernel
theorem dX4_wouldAsk_15 : decode cX4_wouldAsk 15 = .ok (.iconst 0, 1) := by decide +kernel
theorem dX4_wouldAsk_16 : decode cX4_wouldAsk 16 = .ok (.bipush 15, 2) := by decide +kernel
theorem dX4_wouldAsk_18 : decode cX4_wouldAsk 18 = .ok (.invokestatic 41, 3) := by decide +kernel
theorem dX4_wouldAsk_21 : decode cX4_wouldAsk 21 = .ok (.ifCond .ne 19, 3) := by decide +kernel
theorem dX4_wouldAsk_24 : decode cX4_wouldAsk 24 = .ok (.iload_n 3, 1) := by decide +kernel
theorem dX4_wouldAsk_25 : decode cX4_wouldAsk 25 = .ok (.iconst 0, 1) := by decide +kernel
theorem dX4_wouldAsk_26 : decode cX4_wouldAsk 26 = .ok (.sipush 9999, 3) := by decide +kernel
theorem dX4_wouldAsk_29 : decode cX4_wouldAsk 29 = .ok (.invokestatic 41, 3) := by decide +kernel
theorem dX4_wouldAsk_32 : decode cX4_wouldAsk 32 = .ok (.ifCond .ne 8, 3) := by decide +kernel
theorem dX4_wouldAsk_35 : decode cX4_wouldAsk 35 = .ok (.iload 4, 2) := by decide +kernel
theorem dX4_wouldAsk_37 : decode cX4_wouldAsk 37 = .ok (.ifCond .ge 6, 3) := by decide +kernel
theorem dX4_wouldAsk_40 : decode cX4_wouldAsk 40 = .ok (.ldc 45, 2) := by decide +kernel
theorem dX4_wouldAsk_42 : decode cX4_wouldAsk 42 = .ok (.ireturn, 1) := by decide +kernel
theorem dX4_wouldAsk_43 : decode cX4_wouldAsk 43 = .ok (.aload_n 0, 1) := by decide +kernel
theorem dX4_wouldAsk_44 : decode cX4_wouldAsk 44 = .ok (.getfield 16, 3) := by decide +kernel
theorem dX4_wouldAsk_47 : decode cX4_wouldAsk 47 = .ok (.aload_n 0, 1) := by decide +kernel
theorem dX4_wouldAsk_48 : decode cX4_wouldAsk 48 = .ok (.getfield 10, 3) := by decide +kernel
theorem dX4_wouldAsk_51 : decode cX4_wouldAsk 51 = .ok (.invokevirtual 132, 3) := by decide +kernel
theorem dX4_wouldAsk_54 : decode cX4_wouldAsk 54 = .ok (.aload_n 0, 1) := by decide +kernel
theorem dX4_wouldAsk_55 : decode cX4_wouldAsk 55 = .ok (.getfield 16, 3) := by decide +kernel
theorem dX4_wouldAsk_58 : decode cX4_wouldAsk 58 = .ok (.iload_n 2, 1) := by decide +kernel
theorem dX4_wouldAsk_59 : decode cX4_wouldAsk 59 = .ok (.iload_n 3, 1) := by decide +kernel
theorem dX4_wouldAsk_60 : decode cX4_wouldAsk 60 = .ok (.invokevirtual 106, 3) := by decide +kernel
theorem dX4_wouldAsk_63 : decode cX4_wouldAsk 63 = .ok (.pop, 1) := by decide +kernel
theorem dX4_wouldAsk_64 : decode cX4_wouldAsk 64 = .ok (.aload_n 0, 1) := by decide +kernel
theorem dX4_wouldAsk_65 : decode cX4_wouldAsk 65 = .ok (.getfield 16, 3) := by decide +kernel
theorem dX4_wouldAsk_68 : decode cX4_wouldAsk 68 = .ok (.iload_n 1, 1) := by decide +kernel
theorem dX4_wouldAsk_69 : decode cX4_wouldAsk 69 = .ok (.invokevirtual 80, 3) := by decide +kernel
theorem dX4_wouldAsk_72 : decode cX4_wouldAsk 72 = .ok (.astore 5, 2) := by decide +kernel
theorem dX4_wouldAsk_74 : decode cX4_wouldAsk 74 = .ok (.aload 5, 2) := by decide +kernel
theorem dX4_wouldAsk_76 : decode cX4_wouldAsk 76 = .ok (.ifnonnull 8, 3) := by decide +kernel
theorem dX4_wouldAsk_79 : decode cX4_wouldAsk 79 = .ok (.ldc 52, 2) := by decide +kernel
theorem dX4_wouldAsk_81 : decode cX4_wouldAsk 81 = .ok (.goto 10, 3) := by decide +kernel
theorem dX4_wouldAsk_84 : decode cX4_wouldAsk 84 = .ok (.aload 5, 2) := by decide +kernel
theorem dX4_wouldAsk_86 : decode cX4_wouldAsk 86 = .ok (.iload 4, 2) := by decide +kernel
theorem dX4_wouldAsk_88 : decode cX4_wouldAsk 88 = .ok (.invokevirtual 189, 3) := by decide +kernel
theorem dX4_wouldAsk_91 : decode cX4_wouldAsk 91 = .ok (.ireturn, 1) := by decide +kernel
theorem dX4_wouldHit_0 : decode cX4_wouldHit 0 = .ok (.iload_n 1, 1) := by decide +kernel
theorem dX4_wouldHit_1 : decode cX4_wouldHit 1 = .ok (.iload_n 2, 1) := by decide +kernel
theorem dX4_wouldHit_2 : decode cX4_wouldHit 2 = .ok (.iload_n 3, 1) := by decide +kernel
theorem dX4_wouldHit_3 : decode cX4_wouldHit 3 = .ok (.iload 4, 2) := by decide +kernel
theorem dX4_wouldHit_5 : decode cX4_wouldHit 5 = .ok (.invokestatic 110, 3) := by decide +kernel
theorem dX4_wouldHit_8 : decode cX4_wouldHit 8 = .ok (.ifCond .ne 6, 3) := by decide +kernel
theorem dX4_wouldHit_11 : decode cX4_wouldHit 11 = .ok (.ldc 45, 2) := by decide +kernel
theorem dX4_wouldHit_13 : decode cX4_wouldHit 13 = .ok (.ireturn, 1) := by decide +kernel
theorem dX4_wouldHit_14 : decode cX4_wouldHit 14 = .ok (.aload_n 0, 1) := by decide +kernel
theorem dX4_wouldHit_15 : decode cX4_wouldHit 15 = .ok (.getfield 16, 3) := by decide +kernel
theorem dX4_wouldHit_18 : decode cX4_wouldHit 18 = .ok (.aload_n 0, 1) := by decide +kernel
theorem dX4_wouldHit_19 : decode cX4_wouldHit 19 = .ok (.getfield 10, 3) := by decide +kernel
theorem dX4_wouldHit_22 : decode cX4_wouldHit 22 = .ok (.invokevirtual 132, 3) := by decide +kernel
theorem dX4_wouldHit_25 : decode cX4_wouldHit 25 = .ok (.aload_n 0, 1) := by decide +kernel
theorem dX4_wouldHit_26 : decode cX4_wouldHit 26 = .ok (.getfield 16, 3) := by decide +kernel
theorem dX4_wouldHit_29 : decode cX4_wouldHit 29 = .ok (.iload_n 1, 1) := by decide +kernel
theorem dX4_wouldHit_30 : decode cX4_wouldHit 30 = .ok (.iload_n 2, 1) := by decide +kernel
theorem dX4_wouldHit_31 : decode cX4_wouldHit 31 = .ok (.iload_n 3, 1) := by decide +kernel
theorem dX4_wouldHit_32 : decode cX4_wouldHit 32 = .ok (.iload 4, 2) := by decide +kernel
theorem dX4_wouldHit_34 : decode cX4_wouldHit 34 = .ok (.invokevirtual 114, 3) := by decide +kernel
theorem dX4_wouldHit_37 : decode cX4_wouldHit 37 = .ok (.ireturn, 1) := by decide +kernel
theorem dX4_logged_0 : decode cX4_logged 0 = .ok (.iload_n 1, 1) := by decide +kernel
theorem dX4_logged_1 : decode cX4_logged 1 = .ok (.ifCond .lt 12, 3) := by decide +kernel
theorem dX4_logged_4 : decode cX4_logged 4 = .ok (.iload_n 2, 1) := by decide +kernel
theorem dX4_logged_5 : decode cX4_logged 5 = .ok (.iconst 0, 1) := by decide +kernel
theorem dX4_logged_6 : decode cX4_logged 6 = .ok (.iconst 4, 1) := by decide +kernel
theorem dX4_logged_7 : decode cX4_logged 7 = .ok (.invokestatic 41, 3) := by decide +kernel
theorem dX4_logged_10 : decode cX4_logged 10 = .ok (.ifCond .eq 6, 3) := by decide +kernel
theorem dX4_logged_13 : decode cX4_logged 13 = .ok (.ldc 45, 2) := by decide +kernel
theorem dX4_logged_15 : decode cX4_logged 15 = .ok (.ireturn, 1) := by decide +kernel
theorem dX4_logged_16 : decode cX4_logged 16 = .ok (.aload_n 0, 1) := by decide +kernel
theorem dX4_logged_17 : decode cX4_logged 17 = .ok (.getfield 10, 3) := by decide +kernel
theorem dX4_logged_20 : decode cX4_logged 20 = .ok (.getfield 196, 3) := by decide +kernel
theorem dX4_logged_23 : decode cX4_logged 23 = .ok (.aload_n 0, 1) := by decide +kernel
theorem dX4_logged_24 : decode cX4_logged 24 = .ok (.getfield 10, 3) := by decide +kernel
theorem dX4_logged_27 : decode cX4_logged 27 = .ok (.getfield 196, 3) := by decide +kernel
theorem dX4_logged_30 : decode cX4_logged 30 = .ok (.getfield 64, 3) := by decide +kernel
theorem dX4_logged_33 : decode cX4_logged 33 = .ok (.iconst 1, 1) := by decide +kernel
theorem dX4_logged_34 : decode cX4_logged 34 = .ok (.isub, 1) := by decide +kernel
theorem dX4_logged_35 : decode cX4_logged 35 = .ok (.iload_n 1, 1) := by decide +kernel
theorem dX4_logged_36 : decode cX4_logged 36 = .ok (.isub, 1) := by decide +kernel
theorem dX4_logged_37 : decode cX4_logged 37 = .ok (.iload_n 2, 1) := by decide +kernel
theorem dX4_logged_38 : decode cX4_logged 38 = .ok (.invokevirtual 147, 3) := by decide +kernel
theorem dX4_logged_41 : decode cX4_logged 41 = .ok (.ireturn, 1) := by decide +kernel
theorem dX4_count_0 : decode cX4_count 0 = .ok (.iload_n 1, 1) := by decide +kernel
theorem dX4_count_1 : decode cX4_count 1 = .ok (.tableswitch 227 0 16 #[83, 91, 99, 107, 123, 131, 139, 147, 155, 163, 171, 179, 187, 195, 206, 211, 219], 83) := by decide +kernel
theorem dX4_count_84 : decode cX4_count 84 = .ok (.aload_n 0, 1) := by decide +kernel
theorem dX4_count_85 : decode cX4_count 85 = .ok (.getfield 10, 3) := by decide +kernel
theorem dX4_count_88 : decode cX4_count 88 = .ok (.getfield 136, 3) := by decide +kernel
theorem dX4_count_91 : decode cX4_count 91 = .ok (.ireturn, 1) := by decide +kernel
theorem dX4_count_92 : decode cX4_count 92 = .ok (.aload_n 0, 1) := by decide +kernel
theorem dX4_count_93 : decode cX4_count 93 = .ok (.getfield 10, 3) := by decide +kernel
theorem dX4_count_96 : decode cX4_count 96 = .ok (.getfield 199, 3) := by decide +kernel
theorem dX4_count_99 : decode cX4_count 99 = .ok (.ireturn, 1) := by decide +kernel
theorem dX4_count_100 : decode cX4_count 100 = .ok (.aload_n 0, 1) := by decide +kernel
theorem dX4_count_101 : decode cX4_count 101 = .ok (.getfield 10, 3) := by decide +kernel
theorem dX4_count_104 : decode cX4_count 104 = .ok (.getfield 202, 3) := by decide +kernel
theorem dX4_count_107 : decode cX4_count 107 = .ok (.ireturn, 1) := by decide +kernel
theorem dX4_count_108 : decode cX4_count 108 = .ok (.aload_n 0, 1) := by decide +kernel
theorem dX4_count_109 : decode cX4_count 109 = .ok (.getfield 10, 3) := by decide +kernel
theorem dX4_count_112 : decode cX4_count 112 = .ok (.getfield 136, 3) := by decide +kernel
theorem dX4_count_115 : decode cX4_count 115 = .ok (.aload_n 0, 1) := by decide +kernel
theorem dX4_count_116 : decode cX4_count 116 = .ok (.getfield 10, 3) := by decide +kernel
theorem dX4_count_119 : decode cX4_count 119 = .ok (.getfield 199, 3) := by decide +kernel
theorem dX4_count_122 : decode cX4_count 122 = .ok (.isub, 1) := by decide +kernel
theorem dX4_count_123 : decode cX4_count 123 = .ok (.ireturn, 1) := by decide +kernel
theorem dX4_count_124 : decode cX4_count 124 = .ok (.aload_n 0, 1) := by decide +kernel
theorem dX4_count_125 : decode cX4_count 125 = .ok (.getfield 10, 3) := by decide +kernel
theorem dX4_count_128 : decode cX4_count 128 = .ok (.getfield 205, 3) := by decide +kernel
theorem dX4_count_131 : decode cX4_count 131 = .ok (.ireturn, 1) := by decide +kernel
theorem dX4_count_132 : decode cX4_count 132 = .ok (.aload_n 0, 1) := by decide +kernel
theorem dX4_count_133 : decode cX4_count 133 = .ok (.getfield 10, 3) := by decide +kernel
theorem dX4_count_136 : decode cX4_count 136 = .ok (.getfield 208, 3) := by decide +kernel
theorem dX4_count_139 : decode cX4_count 139 = .ok (.ireturn, 1) := by decide +kernel
theorem dX4_count_140 : decode cX4_count 140 = .ok (.aload_n 0, 1) := by decide +kernel
theorem dX4_count_141 : decode cX4_count 141 = .ok (.getfield 10, 3) := by decide +kernel
theorem dX4_count_144 : decode cX4_count 144 = .ok (.getfield 46, 3) := by decide +kernel
theorem dX4_count_147 : decode cX4_count 147 = .ok (.ireturn, 1) := by decide +kernel
theorem dX4_count_148 : decode cX4_count 148 = .ok (.aload_n 0, 1) := by decide +kernel
theorem dX4_count_149 : decode cX4_count 149 = .ok (.getfield 10, 3) := by decide +kernel
theorem dX4_count_152 : decode cX4_count 152 = .ok (.getfield 49, 3) := by decide +kernel
theorem dX4_count_155 : decode cX4_count 155 = .ok (.ireturn, 1) := by decide +kernel
theorem dX4_count_156 : decode cX4_count 156 = .ok (.aload_n 0, 1) := by decide +kernel
theorem dX4_count_157 : decode cX4_count 157 = .ok (.getfield 10, 3) := by decide +kernel
theorem dX4_count_160 : decode cX4_count 160 = .ok (.invokevirtual 69, 3) := by decide +kernel
theorem dX4_count_163 : decode cX4_count 163 = .ok (.ireturn, 1) := by decide +kernel
theorem dX4_count_164 : decode cX4_count 164 = .ok (.aload_n 0, 1) := by decide +kernel
theorem dX4_count_165 : decode cX4_count 165 = .ok (.getfield 10, 3) := by decide +kernel
theorem dX4_count_168 : decode cX4_count 168 = .ok (.invokevirtual 211, 3) := by decide +kernel
theorem dX4_count_171 : decode cX4_count 171 = .ok (.ireturn, 1) := by decide +kernel
theorem dX4_count_172 : decode cX4_count 172 = .ok (.aload_n 0, 1) := by decide +kernel
theorem dX4_count_173 : decode cX4_count 173 = .ok (.getfield 10, 3) := by decide +kernel
theorem dX4_count_176 : decode cX4_count 176 = .ok (.getfield 72, 3) := by decide +kernel
theorem dX4_count_179 : decode cX4_count 179 = .ok (.ireturn, 1) := by decide +kernel
theorem dX4_count_180 : decode cX4_count 180 = .ok (.aload_n 0, 1) := by decide +kernel
theorem dX4_count_181 : decode cX4_count 181 = .ok (.getfield 10, 3) := by decide +kernel
theorem dX4_count_184 : decode cX4_count 184 = .ok (.getfield 90, 3) := by decide +kernel
theorem dX4_count_187 : decode cX4_count 187 = .ok (.ireturn, 1) := by decide +kernel
theorem dX4_count_188 : decode cX4_count 188 = .ok (.aload_n 0, 1) := by decide +kernel
theorem dX4_count_189 : decode cX4_count 189 = .ok (.getfield 10, 3) := by decide +kernel
theorem dX4_count_192 : decode cX4_count 192 = .ok (.invokevirtual 214, 3) := by decide +kernel
theorem dX4_count_195 : decode cX4_count 195 = .ok (.ireturn, 1) := by decide +kernel
theorem dX4_count_196 : decode cX4_count 196 = .ok (.aload_n 0, 1) := by decide +kernel
theorem dX4_count_197 : decode cX4_count 197 = .ok (.getfield 10, 3) := by decide +kernel
theorem dX4_count_200 : decode cX4_count 200 = .ok (.getfield 60, 3) := by decide +kernel
theorem dX4_count_203 : decode cX4_count 203 = .ok (.getfield 64, 3) := by decide +kernel
theorem dX4_count_206 : decode cX4_count 206 = .ok (.ireturn, 1) := by decide +kernel
theorem dX4_count_207 : decode cX4_count 207 = .ok (.aload_n 0, 1) := by decide +kernel
theorem dX4_count_208 : decode cX4_count 208 = .ok (.getfield 37, 3) := by decide +kernel
theorem dX4_count_211 : decode cX4_count 211 = .ok (.ireturn, 1) := by decide +kernel
theorem dX4_count_212 : decode cX4_count 212 = .ok (.aload_n 0, 1) := by decide +kernel
theorem dX4_count_213 : decode cX4_count 213 = .ok (.getfield 29, 3) := by decide +kernel
theorem dX4_count_216 : decode cX4_count 216 = .ok (.getfield 122, 3) := by decide +kernel
theorem dX4_count_219 : decode cX4_count 219 = .ok (.ireturn, 1) := by decide +kernel
theorem dX4_count_220 : decode cX4_count 220 = .ok (.aload_n 0, 1) := by decide +kernel
theorem dX4_count_221 : decode cX4_count 221 = .ok (.getfield 10, 3) := by decide +kernel
theorem dX4_count_224 : decode cX4_count 224 = .ok (.invokevirtual 217, 3) := by decide +kernel
theorem dX4_count_227 : decode cX4_count 227 = .ok (.ireturn, 1) := by decide +kernel
theorem dX4_count_228 : decode cX4_count 228 = .ok (.ldc 45, 2) := by decide +kernel
theorem dX4_count_230 : decode cX4_count 230 = .ok (.ireturn, 1) := by decide +kernel
theorem dX4_isOutside_0 : decode cX4_isOutside 0 = .ok (.iload_n 0, 1) := by decide +kernel
theorem dX4_isOutside_1 : decode cX4_isOutside 1 = .ok (.iload_n 1, 1) := by decide +kernel
theorem dX4_isOutside_2 : decode cX4_isOutside 2 = .ok (.if_icmp .lt 8, 3) := by decide +kernel
theorem dX4_isOutside_5 : decode cX4_isOutside 5 = .ok (.iload_n 0, 1) := by decide +kernel
theorem dX4_isOutside_6 : decode cX4_isOutside 6 = .ok (.iload_n 2, 1) := by decide +kernel
theorem dX4_isOutside_7 : decode cX4_isOutside 7 = .ok (.if_icmp .le 7, 3) := by decide +kernel
theorem dX4_isOutside_10 : decode cX4_isOutside 10 = .ok (.iconst 1, 1) := by decide +kernel
theorem dX4_isOutside_11 : decode cX4_isOutside 11 = .ok (.goto 4, 3) := by decide +kernel
theorem dX4_isOutside_14 : decode cX4_isOutside 14 = .ok (.iconst 0, 1) := by decide +kernel
theorem dX4_isOutside_15 : decode cX4_isOutside 15 = .ok (.ireturn, 1) := by decide +kernel
theorem dX4_isWalk_0 : decode cX4_isWalk 0 = .ok (.iload_n 0, 1) := by decide +kernel
theorem dX4_isWalk_1 : decode cX4_isWalk 1 = .ok (.iconst 0, 1) := by decide +kernel
theorem dX4_isWalk_2 : decode cX4_isWalk 2 = .ok (.bipush 15, 2) := by decide +kernel
theorem dX4_isWalk_4 : decode cX4_isWalk 4 = .ok (.invokestatic 41, 3) := by decide +kernel
theorem dX4_isWalk_7 : decode cX4_isWalk 7 = .ok (.ifCond .ne 14, 3) := by decide +kernel
theorem dX4_isWalk_10 : decode cX4_isWalk 10 = .ok (.iload_n 1, 1) := by decide +kernel
theorem dX4_isWalk_11 : decode cX4_isWalk 11 = .ok (.iconst 0, 1) := by decide +kernel
theorem dX4_isWalk_12 : decode cX4_isWalk 12 = .ok (.sipush 9999, 3) := by decide +kernel
theorem dX4_isWalk_15 : decode cX4_isWalk 15 = .ok (.invokestatic 41, 3) := by decide +kernel
theorem dX4_isWalk_18 : decode cX4_isWalk 18 = .ok (.ifCond .eq 5, 3) := by decide +kernel
theorem dX4_isWalk_21 : decode cX4_isWalk 21 = .ok (.iconst 0, 1) := by decide +kernel
theorem dX4_isWalk_22 : decode cX4_isWalk 22 = .ok (.ireturn, 1) := by decide +kernel
theorem dX4_isWalk_23 : decode cX4_isWalk 23 = .ok (.iload_n 2, 1) := by decide +kernel
theorem dX4_isWalk_24 : decode cX4_isWalk 24 = .ok (.sipush (-999), 3) := by decide +kernel
theorem dX4_isWalk_27 : decode cX4_isWalk 27 = .ok (.sipush 999, 3) := by decide +kernel
theorem dX4_isWalk_30 : decode cX4_isWalk 30 = .ok (.invokestatic 41, 3) := by decide +kernel
theorem dX4_isWalk_33 : decode cX4_isWalk 33 = .ok (.ifCond .ne 13, 3) := by decide +kernel
theorem dX4_isWalk_36 : decode cX4_isWalk 36 = .ok (.iload_n 3, 1) := by decide +kernel
theorem dX4_isWalk_37 : decode cX4_isWalk 37 = .ok (.iconst 1, 1) := by decide +kernel
theorem dX4_isWalk_38 : decode cX4_isWalk 38 = .ok (.bipush 30, 2) := by decide +kernel
theorem dX4_isWalk_40 : decode cX4_isWalk 40 = .ok (.invokestatic 41, 3) := by decide +kernel
theorem dX4_isWalk_43 : decode cX4_isWalk 43 = .ok (.ifCond .eq 5, 3) := by decide +kernel
theorem dX4_isWalk_46 : decode cX4_isWalk 46 = .ok (.iconst 0, 1) := by decide +kernel
theorem dX4_isWalk_47 : decode cX4_isWalk 47 = .ok (.ireturn, 1) := by decide +kernel
theorem dX4_isWalk_48 : decode cX4_isWalk 48 = .ok (.iload_n 1, 1) := by decide +kernel
theorem dX4_isWalk_49 : decode cX4_isWalk 49 = .ok (.iload_n 2, 1) := by decide +kernel
theorem dX4_isWalk_50 : decode cX4_isWalk 50 = .ok (.iload_n 3, 1) := by decide +kernel
theorem dX4_isWalk_51 : decode cX4_isWalk 51 = .ok (.iconst 1, 1) := by decide +kernel
theorem dX4_isWalk_52 : decode cX4_isWalk 52 = .ok (.isub, 1) := by decide +kernel
theorem dX4_isWalk_53 : decode cX4_isWalk 53 = .ok (.imul, 1) := by decide +kernel
theorem dX4_isWalk_54 : decode cX4_isWalk 54 = .ok (.iadd, 1) := by decide +kernel
theorem dX4_isWalk_55 : decode cX4_isWalk 55 = .ok (.iconst 0, 1) := by decide +kernel
theorem dX4_isWalk_56 : decode cX4_isWalk 56 = .ok (.sipush 9999, 3) := by decide +kernel
theorem dX4_isWalk_59 : decode cX4_isWalk 59 = .ok (.invokestatic 41, 3) := by decide +kernel
theorem dX4_isWalk_62 : decode cX4_isWalk 62 = .ok (.ifCond .ne 7, 3) := by decide +kernel
theorem dX4_isWalk_65 : decode cX4_isWalk 65 = .ok (.iconst 1, 1) := by decide +kernel
theorem dX4_isWalk_66 : decode cX4_isWalk 66 = .ok (.goto 4, 3) := by decide +kernel
theorem dX4_isWalk_69 : decode cX4_isWalk 69 = .ok (.iconst 0, 1) := by decide +kernel
theorem dX4_isWalk_70 : decode cX4_isWalk 70 = .ok (.ireturn, 1) := by decide +kernel
theorem dX4_remember_0 : decode cX4_remember 0 = .ok (.aload_n 0, 1) := by decide +kernel
theorem dX4_remember_1 : decode cX4_remember 1 = .ok (.getfield 37, 3) := by decide +kernel
theorem dX4_remember_4 : decode cX4_remember 4 = .ok (.iconst 4, 1) := by decide +kernel
theorem dX4_remember_5 : decode cX4_remember 5 = .ok (.if_icmp .lt 51, 3) := by decide +kernel
theorem dX4_remember_8 : decode cX4_remember 8 = .ok (.aload_n 0, 1) := by decide +kernel
theorem dX4_remember_9 : decode cX4_remember 9 = .ok (.getfield 22, 3) := by decide +kernel
theorem dX4_remember_12 : decode cX4_remember 12 = .ok (.iconst 0, 1) := by decide +kernel
theorem dX4_remember_13 : decode cX4_remember 13 = .ok (.aaload, 1) := by decide +kernel
theorem dX4_remember_14 : decode cX4_remember 14 = .ok (.astore_n 1, 1) := by decide +kernel
theorem dX4_remember_15 : decode cX4_remember 15 = .ok (.iconst 0, 1) := by decide +kernel
theorem dX4_remember_16 : decode cX4_remember 16 = .ok (.istore_n 2, 1) := by decide +kernel
theorem dX4_remember_17 : decode cX4_remember 17 = .ok (.iload_n 2, 1) := by decide +kernel
theorem dX4_remember_18 : decode cX4_remember 18 = .ok (.iconst 1, 1) := by decide +kernel
theorem dX4_remember_19 : decode cX4_remember 19 = .ok (.iadd, 1) := by decide +kernel
theorem dX4_remember_20 : decode cX4_remember 20 = .ok (.iconst 4, 1) := by decide +kernel
theorem dX4_remember_21 : decode cX4_remember 21 = .ok (.if_icmp .ge 23, 3) := by decide +kernel
theorem dX4_remember_24 : decode cX4_remember 24 = .ok (.aload_n 0, 1) := by decide +kernel
theorem dX4_remember_25 : decode cX4_remember 25 = .ok (.getfield 22, 3) := by decide +kernel
theorem dX4_remember_28 : decode cX4_remember 28 = .ok (.iload_n 2, 1) := by decide +kernel
theorem dX4_remember_29 : decode cX4_remember 29 = .ok (.aload_n 0, 1) := by decide +kernel
theorem dX4_remember_30 : decode cX4_remember 30 = .ok (.getfield 22, 3) := by decide +kernel
theorem dX4_remember_33 : decode cX4_remember 33 = .ok (.iload_n 2, 1) := by decide +kernel
theorem dX4_remember_34 : decode cX4_remember 34 = .ok (.iconst 1, 1) := by decide +kernel
theorem dX4_remember_35 : decode cX4_remember 35 = .ok (.iadd, 1) := by decide +kernel
theorem dX4_remember_36 : decode cX4_remember 36 = .ok (.aaload, 1) := by decide +kernel
theorem dX4_remember_37 : decode cX4_remember 37 = .ok (.aastore, 1) := by decide +kernel
theorem dX4_remember_38 : decode cX4_remember 38 = .ok (.iinc 2 1, 3) := by decide +kernel
theorem dX4_remember_41 : decode cX4_remember 41 = .ok (.goto (-24), 3) := by decide +kernel
theorem dX4_remember_44 : decode cX4_remember 44 = .ok (.aload_n 0, 1) := by decide +kernel
theorem dX4_remember_45 : decode cX4_remember 45 = .ok (.getfield 22, 3) := by decide +kernel
theorem dX4_remember_48 : decode cX4_remember 48 = .ok (.iconst 3, 1) := by decide +kernel
theorem dX4_remember_49 : decode cX4_remember 49 = .ok (.aload_n 1, 1) := by decide +kernel
theorem dX4_remember_50 : decode cX4_remember 50 = .ok (.aastore, 1) := by decide +kernel
theorem dX4_remember_51 : decode cX4_remember 51 = .ok (.aload_n 0, 1) := by decide +kernel
theorem dX4_remember_52 : decode cX4_remember 52 = .ok (.iconst 3, 1) := by decide +kernel
theorem dX4_remember_53 : decode cX4_remember 53 = .ok (.putfield 37, 3) := by decide +kernel
theorem dX4_remember_56 : decode cX4_remember 56 = .ok (.aload_n 0, 1) := by decide +kernel
theorem dX4_remember_57 : decode cX4_remember 57 = .ok (.getfield 22, 3) := by decide +kernel
theorem dX4_remember_60 : decode cX4_remember 60 = .ok (.aload_n 0, 1) := by decide +kernel
theorem dX4_remember_61 : decode cX4_remember 61 = .ok (.getfield 37, 3) := by decide +kernel
theorem dX4_remember_64 : decode cX4_remember 64 = .ok (.aaload, 1) := by decide +kernel
theorem dX4_remember_65 : decode cX4_remember 65 = .ok (.aload_n 0, 1) := by decide +kernel
theorem dX4_remember_66 : decode cX4_remember 66 = .ok (.getfield 10, 3) := by decide +kernel
theorem dX4_remember_69 : decode cX4_remember 69 = .ok (.invokevirtual 132, 3) := by decide +kernel
theorem dX4_remember_72 : decode cX4_remember 72 = .ok (.aload_n 0, 1) := by decide +kernel
theorem dX4_remember_73 : decode cX4_remember 73 = .ok (.dup, 1) := by decide +kernel
theorem dX4_remember_74 : decode cX4_remember 74 = .ok (.getfield 37, 3) := by decide +kernel
theorem dX4_remember_77 : decode cX4_remember 77 = .ok (.iconst 1, 1) := by decide +kernel
theorem dX4_remember_78 : decode cX4_remember 78 = .ok (.iadd, 1) := by decide +kernel
theorem dX4_remember_79 : decode cX4_remember 79 = .ok (.putfield 37, 3) := by decide +kernel
theorem dX4_remember_82 : decode cX4_remember 82 = .ok (.return_, 1) := by decide +kernel
theorem dJ6_bitCount_0f7a4_0 : decode cJ6_bitCount_0f7a4 0 = .ok (.iload_n 0, 1) := by decide +kernel
theorem dJ6_bitCount_0f7a4_1 : decode cJ6_bitCount_0f7a4 1 = .ok (.iload_n 0, 1) := by decide +kernel
theorem dJ6_bitCount_0f7a4_2 : decode cJ6_bitCount_0f7a4 2 = .ok (.iconst 1, 1) := by decide +kernel
theorem dJ6_bitCount_0f7a4_3 : decode cJ6_bitCount_0f7a4 3 = .ok (.iushr, 1) := by decide +kernel
theorem dJ6_bitCount_0f7a4_4 : decode cJ6_bitCount_0f7a4 4 = .ok (.ldc_w 265, 3) := by decide +kernel
theorem dJ6_bitCount_0f7a4_7 : decode cJ6_bitCount_0f7a4 7 = .ok (.iand, 1) := by decide +kernel
theorem dJ6_bitCount_0f7a4_8 : decode cJ6_bitCount_0f7a4 8 = .ok (.isub, 1) := by decide +kernel
theorem dJ6_bitCount_0f7a4_9 : decode cJ6_bitCount_0f7a4 9 = .ok (.istore_n 0, 1) := by decide +kernel
theorem dJ6_bitCount_0f7a4_10 : decode cJ6_bitCount_0f7a4 10 = .ok (.iload_n 0, 1) := by decide +kernel
theorem dJ6_bitCount_0f7a4_11 : decode cJ6_bitCount_0f7a4 11 = .ok (.ldc_w 266, 3) := by decide +kernel
theorem dJ6_bitCount_0f7a4_14 : decode cJ6_bitCount_0f7a4 14 = .ok (.iand, 1) := by decide +kernel
theorem dJ6_bitCount_0f7a4_15 : decode cJ6_bitCount_0f7a4 15 = .ok (.iload_n 0, 1) := by decide +kernel
theorem dJ6_bitCount_0f7a4_16 : decode cJ6_bitCount_0f7a4 16 = .ok (.iconst 2, 1) := by decide +kernel
theorem dJ6_bitCount_0f7a4_17 : decode cJ6_bitCount_0f7a4 17 = .ok (.iushr, 1) := by decide +kernel
theorem dJ6_bitCount_0f7a4_18 : decode cJ6_bitCount_0f7a4 18 = .ok (.ldc_w 266, 3) := by decide +kernel
theorem dJ6_bitCount_0f7a4_21 : decode cJ6_bitCount_0f7a4 21 = .ok (.iand, 1) := by decide +kernel
theorem dJ6_bitCount_0f7a4_22 : decode cJ6_bitCount_0f7a4 22 = .ok (.iadd, 1) := by decide +kernel
theorem dJ6_bitCount_0f7a4_23 : decode cJ6_bitCount_0f7a4 23 = .ok (.istore_n 0, 1) := by decide +kernel
theorem dJ6_bitCount_0f7a4_24 : decode cJ6_bitCount_0f7a4 24 = .ok (.iload_n 0, 1) := by decide +kernel
theorem dJ6_bitCount_0f7a4_25 : decode cJ6_bitCount_0f7a4 25 = .ok (.iload_n 0, 1) := by decide +kernel
theorem dJ6_bitCount_0f7a4_26 : decode cJ6_bitCount_0f7a4 26 = .ok (.iconst 4, 1) := by decide +kernel
theorem dJ6_bitCount_0f7a4_27 : decode cJ6_bitCount_0f7a4 27 = .ok (.iushr, 1) := by decide +kernel
theorem dJ6_bitCount_0f7a4_28 : decode cJ6_bitCount_0f7a4 28 = .ok (.iadd, 1) := by decide +kernel
theorem dJ6_bitCount_0f7a4_29 : decode cJ6_bitCount_0f7a4 29 = .ok (.ldc_w 267, 3) := by decide +kernel
theorem dJ6_bitCount_0f7a4_32 : decode cJ6_bitCount_0f7a4 32 = .ok (.iand, 1) := by decide +kernel
theorem dJ6_bitCount_0f7a4_33 : decode cJ6_bitCount_0f7a4 33 = .ok (.istore_n 0, 1) := by decide +kernel
theorem dJ6_bitCount_0f7a4_34 : decode cJ6_bitCount_0f7a4 34 = .ok (.iload_n 0, 1) := by decide +kernel
theorem dJ6_bitCount_0f7a4_35 : decode cJ6_bitCount_0f7a4 35 = .ok (.iload_n 0, 1) := by decide +kernel
theorem dJ6_bitCount_0f7a4_36 : decode cJ6_bitCount_0f7a4 36 = .ok (.bipush 8, 2) := by decide +kernel
theorem dJ6_bitCount_0f7a4_38 : decode cJ6_bitCount_0f7a4 38 = .ok (.iushr, 1) := by decide +kernel
theorem dJ6_bitCount_0f7a4_39 : decode cJ6_bitCount_0f7a4 39 = .ok (.iadd, 1) := by decide +kernel
theorem dJ6_bitCount_0f7a4_40 : decode cJ6_bitCount_0f7a4 40 = .ok (.istore_n 0, 1) := by decide +kernel
theorem dJ6_bitCount_0f7a4_41 : decode cJ6_bitCount_0f7a4 41 = .ok (.iload_n 0, 1) := by decide +kernel
theorem dJ6_bitCount_0f7a4_42 : decode cJ6_bitCount_0f7a4 42 = .ok (.iload_n 0, 1) := by decide +kernel
theorem dJ6_bitCount_0f7a4_43 : decode cJ6_bitCount_0f7a4 43 = .ok (.bipush 16, 2) := by decide +kernel
theorem dJ6_bitCount_0f7a4_45 : decode cJ6_bitCount_0f7a4 45 = .ok (.iushr, 1) := by decide +kernel
theorem dJ6_bitCount_0f7a4_46 : decode cJ6_bitCount_0f7a4 46 = .ok (.iadd, 1) := by decide +kernel
theorem dJ6_bitCount_0f7a4_47 : decode cJ6_bitCount_0f7a4 47 = .ok (.istore_n 0, 1) := by decide +kernel
theorem dJ6_bitCount_0f7a4_48 : decode cJ6_bitCount_0f7a4 48 = .ok (.iload_n 0, 1) := by decide +kernel
theorem dJ6_bitCount_0f7a4_49 : decode cJ6_bitCount_0f7a4 49 = .ok (.bipush 63, 2) := by decide +kernel
theorem dJ6_bitCount_0f7a4_51 : decode cJ6_bitCount_0f7a4 51 = .ok (.iand, 1) := by decide +kernel
theorem dJ6_bitCount_0f7a4_52 : decode cJ6_bitCount_0f7a4 52 = .ok (.ireturn, 1) := by decide +kernel
theorem dJ9_abs_0f7a4_0 : decode cJ9_abs_0f7a4 0 = .ok (.iload_n 0, 1) := by decide +kernel
theorem dJ9_abs_0f7a4_1 : decode cJ9_abs_0f7a4 1 = .ok (.ifCond .ge 8, 3) := by decide +kernel
theorem dJ9_abs_0f7a4_4 : decode cJ9_abs_0f7a4 4 = .ok (.iload_n 0, 1) := by decide +kernel
theorem dJ9_abs_0f7a4_5 : decode cJ9_abs_0f7a4 5 = .ok (.ineg, 1) := by decide +kernel
theorem dJ9_abs_0f7a4_6 : decode cJ9_abs_0f7a4 6 = .ok (.goto 4, 3) := by decide +kernel
theorem dJ9_abs_0f7a4_9 : decode cJ9_abs_0f7a4 9 = .ok (.iload_n 0, 1) := by decide +kernel
theorem dJ9_abs_0f7a4_10 : decode cJ9_abs_0f7a4 10 = .ok (.ireturn, 1) := by decide +kernel
theorem dJ9_max_7cf53_0 : decode cJ9_max_7cf53 0 = .ok (.iload_n 0, 1) := by decide +kernel
theorem dJ9_max_7cf53_1 : decode cJ9_max_7cf53 1 = .ok (.iload_n 1, 1) := by decide +kernel
theorem dJ9_max_7cf53_2 : decode cJ9_max_7cf53 2 = .ok (.if_icmp .lt 7, 3) := by decide +kernel
theorem dJ9_max_7cf53_5 : decode cJ9_max_7cf53 5 = .ok (.iload_n 0, 1) := by decide +kernel
theorem dJ9_max_7cf53_6 : decode cJ9_max_7cf53 6 = .ok (.goto 4, 3) := by decide +kernel
theorem dJ9_max_7cf53_9 : decode cJ9_max_7cf53 9 = .ok (.iload_n 1, 1) := by decide +kernel
theorem dJ9_max_7cf53_10 : decode cJ9_max_7cf53 10 = .ok (.ireturn, 1) := by decide +kernel
theorem dJ9_min_7cf53_0 : decode cJ9_min_7cf53 0 = .ok (.iload_n 0, 1) := by decide +kernel
theorem dJ9_min_7cf53_1 : decode cJ9_min_7cf53 1 = .ok (.iload_n 1, 1) := by decide +kernel
theorem dJ9_min_7cf53_2 : decode cJ9_min_7cf53 2 = .ok (.if_icmp .gt 7, 3) := by decide +kernel
theorem dJ9_min_7cf53_5 : decode cJ9_min_7cf53 5 = .ok (.iload_n 0, 1) := by decide +kernel
theorem dJ9_min_7cf53_6 : decode cJ9_min_7cf53 6 = .ok (.goto 4, 3) := by decide +kernel
theorem dJ9_min_7cf53_9 : decode cJ9_min_7cf53 9 = .ok (.iload_n 1, 1) := by decide +kernel
theorem dJ9_min_7cf53_10 : decode cJ9_min_7cf53 10 = .ok (.ireturn, 1) := by decide +kernel
