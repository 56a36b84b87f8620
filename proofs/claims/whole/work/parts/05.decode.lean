theorem dX0_init_0 : decode cX0_init 0 = .ok (.aload_n 0, 1) := by decide +kernel
theorem dX0_init_1 : decode cX0_init 1 = .ok (.invokespecial 3, 3) := by decide +kernel
theorem dX0_init_4 : decode cX0_init 4 = .ok (.aload_n 0, 1) := by decide +kernel
theorem dX0_init_5 : decode cX0_init 5 = .ok (.new 9, 3) := by decide +kernel
theorem dX0_init_8 : decode cX0_init 8 = .ok (.dup, 1) := by decide +kernel
theorem dX0_init_9 : decode cX0_init 9 = .ok (.iconst 4, 1) := by decide +kernel
theorem dX0_init_10 : decode cX0_init 10 = .ok (.iconst 4, 1) := by decide +kernel
theorem dX0_init_11 : decode cX0_init 11 = .ok (.invokespecial 11, 3) := by decide +kernel
theorem dX0_init_14 : decode cX0_init 14 = .ok (.putfield 14, 3) := by decide +kernel
theorem dX0_init_17 : decode cX0_init 17 = .ok (.aload_n 0, 1) := by decide +kernel
theorem dX0_init_18 : decode cX0_init 18 = .ok (.iconst 4, 1) := by decide +kernel
theorem dX0_init_19 : decode cX0_init 19 = .ok (.newarray .int, 2) := by decide +kernel
theorem dX0_init_21 : decode cX0_init 21 = .ok (.putfield 20, 3) := by decide +kernel
theorem dX0_init_24 : decode cX0_init 24 = .ok (.aload_n 0, 1) := by decide +kernel
theorem dX0_init_25 : decode cX0_init 25 = .ok (.iconst 0, 1) := by decide +kernel
theorem dX0_init_26 : decode cX0_init 26 = .ok (.iconst 1, 1) := by decide +kernel
theorem dX0_init_27 : decode cX0_init 27 = .ok (.iconst 1, 1) := by decide +kernel
theorem dX0_init_28 : decode cX0_init 28 = .ok (.invokevirtual 24, 3) := by decide +kernel
theorem dX0_init_31 : decode cX0_init 31 = .ok (.return_, 1) := by decide +kernel
theorem dX0_begin_0 : decode cX0_begin 0 = .ok (.aload_n 0, 1) := by decide +kernel
theorem dX0_begin_1 : decode cX0_begin 1 = .ok (.iload_n 1, 1) := by decide +kernel
theorem dX0_begin_2 : decode cX0_begin 2 = .ok (.putfield 28, 3) := by decide +kernel
theorem dX0_begin_5 : decode cX0_begin 5 = .ok (.aload_n 0, 1) := by decide +kernel
theorem dX0_begin_6 : decode cX0_begin 6 = .ok (.iload_n 2, 1) := by decide +kernel
theorem dX0_begin_7 : decode cX0_begin 7 = .ok (.putfield 32, 3) := by decide +kernel
theorem dX0_begin_10 : decode cX0_begin 10 = .ok (.aload_n 0, 1) := by decide +kernel
theorem dX0_begin_11 : decode cX0_begin 11 = .ok (.iload_n 3, 1) := by decide +kernel
theorem dX0_begin_12 : decode cX0_begin 12 = .ok (.putfield 35, 3) := by decide +kernel
theorem dX0_begin_15 : decode cX0_begin 15 = .ok (.aload_n 0, 1) := by decide +kernel
theorem dX0_begin_16 : decode cX0_begin 16 = .ok (.iconst 0, 1) := by decide +kernel
theorem dX0_begin_17 : decode cX0_begin 17 = .ok (.putfield 38, 3) := by decide +kernel
theorem dX0_begin_20 : decode cX0_begin 20 = .ok (.aload_n 0, 1) := by decide +kernel
theorem dX0_begin_21 : decode cX0_begin 21 = .ok (.iconst 0, 1) := by decide +kernel
theorem dX0_begin_22 : decode cX0_begin 22 = .ok (.putfield 41, 3) := by decide +kernel
theorem dX0_begin_25 : decode cX0_begin 25 = .ok (.aload_n 0, 1) := by decide +kernel
theorem dX0_begin_26 : decode cX0_begin 26 = .ok (.iconst 0, 1) := by decide +kernel
theorem dX0_begin_27 : decode cX0_begin 27 = .ok (.putfield 44, 3) := by decide +kernel
theorem dX0_begin_30 : decode cX0_begin 30 = .ok (.aload_n 0, 1) := by decide +kernel
theorem dX0_begin_31 : decode cX0_begin 31 = .ok (.iconst 0, 1) := by decide +kernel
theorem dX0_begin_32 : decode cX0_begin 32 = .ok (.putfield 47, 3) := by decide +kernel
theorem dX0_begin_35 : decode cX0_begin 35 = .ok (.aload_n 0, 1) := by decide +kernel
theorem dX0_begin_36 : decode cX0_begin 36 = .ok (.iconst 0, 1) := by decide +kernel
theorem dX0_begin_37 : decode cX0_begin 37 = .ok (.putfield 50, 3) := by decide +kernel
theorem dX0_begin_40 : decode cX0_begin 40 = .ok (.aload_n 0, 1) := by decide +kernel
theorem dX0_begin_41 : decode cX0_begin 41 = .ok (.iconst 0, 1) := by decide +kernel
theorem dX0_begin_42 : decode cX0_begin 42 = .ok (.putfield 53, 3) := by decide +kernel
theorem dX0_begin_45 : decode cX0_begin 45 = .ok (.aload_n 0, 1) := by decide +kernel
theorem dX0_begin_46 : decode cX0_begin 46 = .ok (.iconst 0, 1) := by decide +kernel
theorem dX0_begin_47 : decode cX0_begin 47 = .ok (.putfield 56, 3) := by decide +kernel
theorem dX0_begin_50 : decode cX0_begin 50 = .ok (.aload_n 0, 1) := by decide +kernel
theorem dX0_begin_51 : decode cX0_begin 51 = .ok (.iconst 0, 1) := by decide +kernel
theorem dX0_begin_52 : decode cX0_begin 52 = .ok (.putfield 59, 3) := by decide +kernel
theorem dX0_begin_55 : decode cX0_begin 55 = .ok (.aload_n 0, 1) := by decide +kernel
theorem dX0_begin_56 : decode cX0_begin 56 = .ok (.iconst 0, 1) := by decide +kernel
theorem dX0_begin_57 : decode cX0_begin 57 = .ok (.putfield 62, 3) := by decide +kernel
theorem dX0_begin_60 : decode cX0_begin 60 = .ok (.aload_n 0, 1) := by decide +kernel
theorem dX0_begin_61 : decode cX0_begin 61 = .ok (.iconst 0, 1) := by decide +kernel
theorem dX0_begin_62 : decode cX0_begin 62 = .ok (.putfield 65, 3) := by decide +kernel
theorem dX0_begin_65 : decode cX0_begin 65 = .ok (.aload_n 0, 1) := by decide +kernel
theorem dX0_begin_66 : decode cX0_begin 66 = .ok (.iconst 0, 1) := by decide +kernel
theorem dX0_begin_67 : decode cX0_begin 67 = .ok (.putfield 68, 3) := by decide +kernel
theorem dX0_begin_70 : decode cX0_begin 70 = .ok (.aload_n 0, 1) := by decide +kernel
theorem dX0_begin_71 : decode cX0_begin 71 = .ok (.getfield 14, 3) := by decide +kernel
theorem dX0_begin_74 : decode cX0_begin 74 = .ok (.iconst 0, 1) := by decide +kernel
theorem dX0_begin_75 : decode cX0_begin 75 = .ok (.putfield 71, 3) := by decide +kernel
theorem dX0_begin_78 : decode cX0_begin 78 = .ok (.return_, 1) := by decide +kernel
theorem dX0_copyFrom_0 : decode cX0_copyFrom 0 = .ok (.aload_n 0, 1) := by decide +kernel
theorem dX0_copyFrom_1 : decode cX0_copyFrom 1 = .ok (.aload_n 1, 1) := by decide +kernel
theorem dX0_copyFrom_2 : decode cX0_copyFrom 2 = .ok (.getfield 28, 3) := by decide +kernel
theorem dX0_copyFrom_5 : decode cX0_copyFrom 5 = .ok (.putfield 28, 3) := by decide +kernel
theorem dX0_copyFrom_8 : decode cX0_copyFrom 8 = .ok (.aload_n 0, 1) := by decide +kernel
theorem dX0_copyFrom_9 : decode cX0_copyFrom 9 = .ok (.aload_n 1, 1) := by decide +kernel
theorem dX0_copyFrom_10 : decode cX0_copyFrom 10 = .ok (.getfield 32, 3) := by decide +kernel
theorem dX0_copyFrom_13 : decode cX0_copyFrom 13 = .ok (.putfield 32, 3) := by decide +kernel
theorem dX0_copyFrom_16 : decode cX0_copyFrom 16 = .ok (.aload_n 0, 1) := by decide +kernel
theorem dX0_copyFrom_17 : decode cX0_copyFrom 17 = .ok (.aload_n 1, 1) := by decide +kernel
theorem dX0_copyFrom_18 : decode cX0_copyFrom 18 = .ok (.getfield 35, 3) := by decide +kernel
theorem dX0_copyFrom_21 : decode cX0_copyFrom 21 = .ok (.putfield 35, 3) := by decide +kernel
theorem dX0_copyFrom_24 : decode cX0_copyFrom 24 = .ok (.aload_n 0, 1) := by decide +kernel
theorem dX0_copyFrom_25 : decode cX0_copyFrom 25 = .ok (.aload_n 1, 1) := by decide +kernel
theorem dX0_copyFrom_26 : decode cX0_copyFrom 26 = .ok (.getfield 38, 3) := by decide +kernel
theorem dX0_copyFrom_29 : decode cX0_copyFrom 29 = .ok (.putfield 38, 3) := by decide +kernel
theorem dX0_copyFrom_32 : decode cX0_copyFrom 32 = .ok (.aload_n 0, 1) := by decide +kernel
theorem dX0_copyFrom_33 : decode cX0_copyFrom 33 = .ok (.aload_n 1, 1) := by decide +kernel
theorem dX0_copyFrom_34 : decode cX0_copyFrom 34 = .ok (.getfield 41, 3) := by decide +kernel
theorem dX0_copyFrom_37 : decode cX0_copyFrom 37 = .ok (.putfield 41, 3) := by decide +kernel
theorem dX0_copyFrom_40 : decode cX0_copyFrom 40 = .ok (.aload_n 0, 1) := by decide +kernel
theorem dX0_copyFrom_41 : decode cX0_copyFrom 41 = .ok (.aload_n 1, 1) := by decide +kernel
theorem dX0_copyFrom_42 : decode cX0_copyFrom 42 = .ok (.getfield 44, 3) := by decide +kernel
theorem dX0_copyFrom_45 : decode cX0_copyFrom 45 = .ok (.putfield 44, 3) := by decide +kernel
theorem dX0_copyFrom_48 : decode cX0_copyFrom 48 = .ok (.aload_n 0, 1) := by decide +kernel
theorem dX0_copyFrom_49 : decode cX0_copyFrom 49 = .ok (.aload_n 1, 1) := by decide +kernel
theorem dX0_copyFrom_50 : decode cX0_copyFrom 50 = .ok (.getfield 47, 3) := by decide +kernel
theorem dX0_copyFrom_53 : decode cX0_copyFrom 53 = .ok (.putfield 47, 3) := by decide +kernel
theorem dX0_copyFrom_56 : decode cX0_copyFrom 56 = .ok (.aload_n 0, 1) := by decide +kernel
theorem dX0_copyFrom_57 : decode cX0_copyFrom 57 = .ok (.aload_n 1, 1) := by decide +kernel
theorem dX0_copyFrom_58 : decode cX0_copyFrom 58 = .ok (.getfield 50, 3) := by decide +kernel
theorem dX0_copyFrom_61 : decode cX0_copyFrom 61 = .ok (.putfield 50, 3) := by decide +kernel
theorem dX0_copyFrom_64 : decode cX0_copyFrom 64 = .ok (.aload_n 0, 1) := by decide +kernel
theorem dX0_copyFrom_65 : decode cX0_copyFrom 65 = .ok (.aload_n 1, 1) := by decide +kernel
theorem dX0_copyFrom_66 : decode cX0_copyFrom 66 = .ok (.getfield 53, 3) := by decide +kernel
theorem dX0_copyFrom_69 : decode cX0_copyFrom 69 = .ok (.putfield 53, 3) := by decide +kernel
theorem dX0_copyFrom_72 : decode cX0_copyFrom 72 = .ok (.aload_n 0, 1) := by decide +kernel
theorem dX0_copyFrom_73 : decode cX0_copyFrom 73 = .ok (.aload_n 1, 1) := by decide +kernel
theorem dX0_copyFrom_74 : decode cX0_copyFrom 74 = .ok (.getfield 56, 3) := by decide +kernel
theorem dX0_copyFrom_77 : decode cX0_copyFrom 77 = .ok (.putfield 56, 3) := by decide +kernel
theorem dX0_copyFrom_80 : decode cX0_copyFrom 80 = .ok (.aload_n 0, 1) := by decide +kernel
theorem dX0_copyFrom_81 : decode cX0_copyFrom 81 = .ok (.aload_n 1, 1) := by decide +kernel
theorem dX0_copyFrom_82 : decode cX0_copyFrom 82 = .ok (.getfield 59, 3) := by decide +kernel
theorem dX0_copyFrom_85 : decode cX0_copyFrom 85 = .ok (.putfield 59, 3) := by decide +kernel
theorem dX0_copyFrom_88 : decode cX0_copyFrom 88 = .ok (.aload_n 0, 1) := by decide +kernel
theorem dX0_copyFrom_89 : decode cX0_copyFrom 89 = .ok (.aload_n 1, 1) := by decide +kernel
theorem dX0_copyFrom_90 : decode cX0_copyFrom 90 = .ok (.getfield 62, 3) := by decide +kernel
theorem dX0_copyFrom_93 : decode cX0_copyFrom 93 = .ok (.putfield 62, 3) := by decide +kernel
theorem dX0_copyFrom_96 : decode cX0_copyFrom 96 = .ok (.aload_n 0, 1) := by decide +kernel
theorem dX0_copyFrom_97 : decode cX0_copyFrom 97 = .ok (.aload_n 1, 1) := by decide +kernel
theorem dX0_copyFrom_98 : decode cX0_copyFrom 98 = .ok (.getfield 65, 3) := by decide +kernel
theorem dX0_copyFrom_101 : decode cX0_copyFrom 101 = .ok (.putfield 65, 3) := by decide +kernel
theorem dX0_copyFrom_104 : decode cX0_copyFrom 104 = .ok (.aload_n 0, 1) := by decide +kernel
theorem dX0_copyFrom_105 : decode cX0_copyFrom 105 = .ok (.getfield 14, 3) := by decide +kernel
theorem dX0_copyFrom_108 : decode cX0_copyFrom 108 = .ok (.aload_n 1, 1) := by decide +kernel
theorem dX0_copyFrom_109 : decode cX0_copyFrom 109 = .ok (.getfield 14, 3) := by decide +kernel
theorem dX0_copyFrom_112 : decode cX0_copyFrom 112 = .ok (.invokevirtual 74, 3) := by decide +kernel
theorem dX0_copyFrom_115 : decode cX0_copyFrom 115 = .ok (.return_, 1) := by decide +kernel
theorem dX0_reach_0 : decode cX0_reach 0 = .ok (.aload_n 0, 1) := by decide +kernel
theorem dX0_reach_1 : decode cX0_reach 1 = .ok (.getfield 38, 3) := by decide +kernel
theorem dX0_reach_4 : decode cX0_reach 4 = .ok (.lookupswitch 35 #[(0, 28), (1, 33)], 28) := by decide +kernel
theorem dX0_reach_32 : decode cX0_reach 32 = .ok (.aload_n 0, 1) := by decide +kernel
theorem dX0_reach_33 : decode cX0_reach 33 = .ok (.getfield 32, 3) := by decide +kernel
theorem dX0_reach_36 : decode cX0_reach 36 = .ok (.ireturn, 1) := by decide +kernel
theorem dX0_reach_37 : decode cX0_reach 37 = .ok (.iconst 1, 1) := by decide +kernel
theorem dX0_reach_38 : decode cX0_reach 38 = .ok (.ireturn, 1) := by decide +kernel
theorem dX0_reach_39 : decode cX0_reach 39 = .ok (.iconst 0, 1) := by decide +kernel
theorem dX0_reach_40 : decode cX0_reach 40 = .ok (.ireturn, 1) := by decide +kernel
theorem dX0_sentence_0 : decode cX0_sentence 0 = .ok (.aload_n 0, 1) := by decide +kernel
theorem dX0_sentence_1 : decode cX0_sentence 1 = .ok (.dup, 1) := by decide +kernel
theorem dX0_sentence_2 : decode cX0_sentence 2 = .ok (.getfield 41, 3) := by decide +kernel
theorem dX0_sentence_5 : decode cX0_sentence 5 = .ok (.iload_n 1, 1) := by decide +kernel
theorem dX0_sentence_6 : decode cX0_sentence 6 = .ok (.iadd, 1) := by decide +kernel
theorem dX0_sentence_7 : decode cX0_sentence 7 = .ok (.putfield 41, 3) := by decide +kernel
theorem dX0_sentence_10 : decode cX0_sentence 10 = .ok (.aload_n 0, 1) := by decide +kernel
theorem dX0_sentence_11 : decode cX0_sentence 11 = .ok (.iconst 2, 1) := by decide +kernel
theorem dX0_sentence_12 : decode cX0_sentence 12 = .ok (.putfield 38, 3) := by decide +kernel
theorem dX0_sentence_15 : decode cX0_sentence 15 = .ok (.aload_n 0, 1) := by decide +kernel
theorem dX0_sentence_16 : decode cX0_sentence 16 = .ok (.iconst 0, 1) := by decide +kernel
theorem dX0_sentence_17 : decode cX0_sentence 17 = .ok (.putfield 44, 3) := by decide +kernel
theorem dX0_sentence_20 : decode cX0_sentence 20 = .ok (.return_, 1) := by decide +kernel
theorem dX0_workOneHour_0 : decode cX0_workOneHour 0 = .ok (.aload_n 0, 1) := by decide +kernel
theorem dX0_workOneHour_1 : decode cX0_workOneHour 1 = .ok (.getfield 38, 3) := by decide +kernel
theorem dX0_workOneHour_4 : decode cX0_workOneHour 4 = .ok (.iconst 2, 1) := by decide +kernel
theorem dX0_workOneHour_5 : decode cX0_workOneHour 5 = .ok (.if_icmp .eq 4, 3) := by decide +kernel
theorem dX0_workOneHour_8 : decode cX0_workOneHour 8 = .ok (.return_, 1) := by decide +kernel
theorem dX0_workOneHour_9 : decode cX0_workOneHour 9 = .ok (.aload_n 0, 1) := by decide +kernel
theorem dX0_workOneHour_10 : decode cX0_workOneHour 10 = .ok (.dup, 1) := by decide +kernel
theorem dX0_workOneHour_11 : decode cX0_workOneHour 11 = .ok (.getfield 41, 3) := by decide +kernel
theorem dX0_workOneHour_14 : decode cX0_workOneHour 14 = .ok (.iconst 1, 1) := by decide +kernel
theorem dX0_workOneHour_15 : decode cX0_workOneHour 15 = .ok (.isub, 1) := by decide +kernel
theorem dX0_workOneHour_16 : decode cX0_workOneHour 16 = .ok (.putfield 41, 3) := by decide +kernel
theorem dX0_workOneHour_19 : decode cX0_workOneHour 19 = .ok (.aload_n 0, 1) := by decide +kernel
theorem dX0_workOneHour_20 : decode cX0_workOneHour 20 = .ok (.dup, 1) := by decide +kernel
theorem dX0_workOneHour_21 : decode cX0_workOneHour 21 = .ok (.getfield 59, 3) := by decide +kernel
theorem dX0_workOneHour_24 : decode cX0_workOneHour 24 = .ok (.iconst 1, 1) := by decide +kernel
theorem dX0_workOneHour_25 : decode cX0_workOneHour 25 = .ok (.iadd, 1) := by decide +kernel
theorem dX0_workOneHour_26 : decode cX0_workOneHour 26 = .ok (.putfield 59, 3) := by decide +kernel
theorem dX0_workOneHour_29 : decode cX0_workOneHour 29 = .ok (.aload_n 0, 1) := by decide +kernel
theorem dX0_workOneHour_30 : decode cX0_workOneHour 30 = .ok (.getfield 41, 3) := by decide +kernel
theorem dX0_workOneHour_33 : decode cX0_workOneHour 33 = .ok (.iconst 1, 1) := by decide +kernel
theorem dX0_workOneHour_34 : decode cX0_workOneHour 34 = .ok (.if_icmp .ge 23, 3) := by decide +kernel
theorem dX0_workOneHour_37 : decode cX0_workOneHour 37 = .ok (.aload_n 0, 1) := by decide +kernel
theorem dX0_workOneHour_38 : decode cX0_workOneHour 38 = .ok (.iconst 1, 1) := by decide +kernel
theorem dX0_workOneHour_39 : decode cX0_workOneHour 39 = .ok (.putfield 38, 3) := by decide +kernel
theorem dX0_workOneHour_42 : decode cX0_workOneHour 42 = .ok (.aload_n 0, 1) := by decide +kernel
theorem dX0_workOneHour_43 : decode cX0_workOneHour 43 = .ok (.iload_n 1, 1) := by decide +kernel
theorem dX0_workOneHour_44 : decode cX0_workOneHour 44 = .ok (.putfield 44, 3) := by decide +kernel
theorem dX0_workOneHour_47 : decode cX0_workOneHour 47 = .ok (.aload_n 0, 1) := by decide +kernel
theorem dX0_workOneHour_48 : decode cX0_workOneHour 48 = .ok (.dup, 1) := by decide +kernel
theorem dX0_workOneHour_49 : decode cX0_workOneHour 49 = .ok (.getfield 65, 3) := by decide +kernel
theorem dX0_workOneHour_52 : decode cX0_workOneHour 52 = .ok (.iconst 1, 1) := by decide +kernel
theorem dX0_workOneHour_53 : decode cX0_workOneHour 53 = .ok (.iadd, 1) := by decide +kernel
theorem dX0_workOneHour_54 : decode cX0_workOneHour 54 = .ok (.putfield 65, 3) := by decide +kernel
theorem dX0_workOneHour_57 : decode cX0_workOneHour 57 = .ok (.return_, 1) := by decide +kernel
theorem dX0_lineWasUsed_0 : decode cX0_lineWasUsed 0 = .ok (.aload_n 0, 1) := by decide +kernel
theorem dX0_lineWasUsed_1 : decode cX0_lineWasUsed 1 = .ok (.dup, 1) := by decide +kernel
theorem dX0_lineWasUsed_2 : decode cX0_lineWasUsed 2 = .ok (.getfield 50, 3) := by decide +kernel
theorem dX0_lineWasUsed_5 : decode cX0_lineWasUsed 5 = .ok (.iconst 1, 1) := by decide +kernel
theorem dX0_lineWasUsed_6 : decode cX0_lineWasUsed 6 = .ok (.iadd, 1) := by decide +kernel
theorem dX0_lineWasUsed_7 : decode cX0_lineWasUsed 7 = .ok (.putfield 50, 3) := by decide +kernel
theorem dX0_lineWasUsed_10 : decode cX0_lineWasUsed 10 = .ok (.aload_n 0, 1) := by decide +kernel
theorem dX0_lineWasUsed_11 : decode cX0_lineWasUsed 11 = .ok (.getfield 38, 3) := by decide +kernel
theorem dX0_lineWasUsed_14 : decode cX0_lineWasUsed 14 = .ok (.iconst 1, 1) := by decide +kernel
theorem dX0_lineWasUsed_15 : decode cX0_lineWasUsed 15 = .ok (.if_icmp .ne 31, 3) := by decide +kernel
theorem dX0_lineWasUsed_18 : decode cX0_lineWasUsed 18 = .ok (.aload_n 0, 1) := by decide +kernel
theorem dX0_lineWasUsed_19 : decode cX0_lineWasUsed 19 = .ok (.dup, 1) := by decide +kernel
theorem dX0_lineWasUsed_20 : decode cX0_lineWasUsed 20 = .ok (.getfield 44, 3) := by decide +kernel
theorem dX0_lineWasUsed_23 : decode cX0_lineWasUsed 23 = .ok (.iconst 1, 1) := by decide +kernel
theorem dX0_lineWasUsed_24 : decode cX0_lineWasUsed 24 = .ok (.isub, 1) := by decide +kernel
theorem dX0_lineWasUsed_25 : decode cX0_lineWasUsed 25 = .ok (.putfield 44, 3) := by decide +kernel
theorem dX0_lineWasUsed_28 : decode cX0_lineWasUsed 28 = .ok (.aload_n 0, 1) := by decide +kernel
theorem dX0_lineWasUsed_29 : decode cX0_lineWasUsed 29 = .ok (.getfield 44, 3) := by decide +kernel
theorem dX0_lineWasUsed_32 : decode cX0_lineWasUsed 32 = .ok (.iconst 1, 1) := by decide +kernel
theorem dX0_lineWasUsed_33 : decode cX0_lineWasUsed 33 = .ok (.if_icmp .ge 13, 3) := by decide +kernel
theorem dX0_lineWasUsed_36 : decode cX0_lineWasUsed 36 = .ok (.aload_n 0, 1) := by decide +kernel
theorem dX0_lineWasUsed_37 : decode cX0_lineWasUsed 37 = .ok (.iconst 0, 1) := by decide +kernel
theorem dX0_lineWasUsed_38 : decode cX0_lineWasUsed 38 = .ok (.putfield 44, 3) := by decide +kernel
theorem dX0_lineWasUsed_41 : decode cX0_lineWasUsed 41 = .ok (.aload_n 0, 1) := by decide +kernel
theorem dX0_lineWasUsed_42 : decode cX0_lineWasUsed 42 = .ok (.iconst 0, 1) := by decide +kernel
theorem dX0_lineWasUsed_43 : decode cX0_lineWasUsed 43 = .ok (.putfield 38, 3) := by decide +kernel
theorem dX0_lineWasUsed_46 : decode cX0_lineWasUsed 46 = .ok (.return_, 1) := by decide +kernel
theorem dX0_release_0 : decode cX0_release 0 = .ok (.aload_n 0, 1) := by decide +kernel
theorem dX0_release_1 : decode cX0_release 1 = .ok (.getfield 41, 3) := by decide +kernel
theorem dX0_release_4 : decode cX0_release 4 = .ok (.istore_n 1, 1) := by decide +kernel
theorem dX0_release_5 : decode cX0_release 5 = .ok (.aload_n 0, 1) := by decide +kernel
theorem dX0_release_6 : decode cX0_release 6 = .ok (.dup, 1) := by decide +kernel
theorem dX0_release_7 : decode cX0_release 7 = .ok (.getfield 62, 3) := by decide +kernel
theorem dX0_release_10 : decode cX0_release 10 = .ok (.iload_n 1, 1) := by decide +kernel
theorem dX0_release_11 : decode cX0_release 11 = .ok (.iadd, 1) := by decide +kernel
theorem dX0_release_12 : decode cX0_release 12 = .ok (.putfield 62, 3) := by decide +kernel
theorem dX0_release_15 : decode cX0_release 15 = .ok (.aload_n 0, 1) := by decide +kernel
theorem dX0_release_16 : decode cX0_release 16 = .ok (.iconst 0, 1) := by decide +kernel
theorem dX0_release_17 : decode cX0_release 17 = .ok (.putfield 41, 3) := by decide +kernel
theorem dX0_release_20 : decode cX0_release 20 = .ok (.aload_n 0, 1) := by decide +kernel
theorem dX0_release_21 : decode cX0_release 21 = .ok (.iconst 0, 1) := by decide +kernel
theorem dX0_release_22 : decode cX0_release 22 = .ok (.putfield 44, 3) := by decide +kernel
theorem dX0_release_25 : decode cX0_release 25 = .ok (.aload_n 0, 1) := by decide +kernel
theorem dX0_release_26 : decode cX0_release 26 = .ok (.iconst 0, 1) := by decide +kernel
theorem dX0_release_27 : decode cX0_release 27 = .ok (.putfield 38, 3) := by decide +kernel
theorem dX0_release_30 : decode cX0_release 30 = .ok (.iload_n 1, 1) := by decide +kernel
theorem dX0_release_31 : decode cX0_release 31 = .ok (.ireturn, 1) := by decide +kernel
theorem dX0_learn_0 : decode cX0_learn 0 = .ok (.aload_n 0, 1) := by decide +kernel
theorem dX0_learn_1 : decode cX0_learn 1 = .ok (.iconst 0, 1) := by decide +kernel
theorem dX0_learn_2 : decode cX0_learn 2 = .ok (.putfield 68, 3) := by decide +kernel
theorem dX0_learn_5 : decode cX0_learn 5 = .ok (.aload_n 0, 1) := by decide +kernel
theorem dX0_learn_6 : decode cX0_learn 6 = .ok (.getfield 28, 3) := by decide +kernel
theorem dX0_learn_9 : decode cX0_learn 9 = .ok (.lookupswitch 49 #[(0, 27), (1, 36)], 27) := by decide +kernel
theorem dX0_learn_36 : decode cX0_learn 36 = .ok (.aload_n 0, 1) := by decide +kernel
theorem dX0_learn_37 : decode cX0_learn 37 = .ok (.iload_n 1, 1) := by decide +kernel
theorem dX0_learn_38 : decode cX0_learn 38 = .ok (.iload_n 2, 1) := by decide +kernel
theorem dX0_learn_39 : decode cX0_learn 39 = .ok (.invokevirtual 78, 3) := by decide +kernel
theorem dX0_learn_42 : decode cX0_learn 42 = .ok (.goto 26, 3) := by decide +kernel
theorem dX0_learn_45 : decode cX0_learn 45 = .ok (.iload_n 3, 1) := by decide +kernel
theorem dX0_learn_46 : decode cX0_learn 46 = .ok (.iconst 1, 1) := by decide +kernel
theorem dX0_learn_47 : decode cX0_learn 47 = .ok (.if_icmp .eq 21, 3) := by decide +kernel
theorem dX0_learn_50 : decode cX0_learn 50 = .ok (.aload_n 0, 1) := by decide +kernel
theorem dX0_learn_51 : decode cX0_learn 51 = .ok (.iload_n 2, 1) := by decide +kernel
theorem dX0_learn_52 : decode cX0_learn 52 = .ok (.invokevirtual 81, 3) := by decide +kernel
theorem dX0_learn_55 : decode cX0_learn 55 = .ok (.goto 13, 3) := by decide +kernel
theorem dX0_learn_58 : decode cX0_learn 58 = .ok (.iload_n 3, 1) := by decide +kernel
theorem dX0_learn_59 : decode cX0_learn 59 = .ok (.ifCond .ne 9, 3) := by decide +kernel
theorem dX0_learn_62 : decode cX0_learn 62 = .ok (.aload_n 0, 1) := by decide +kernel
theorem dX0_learn_63 : decode cX0_learn 63 = .ok (.iload_n 2, 1) := by decide +kernel
theorem dX0_learn_64 : decode cX0_learn 64 = .ok (.iconst 1, 1) := by decide +kernel
theorem dX0_learn_65 : decode cX0_learn 65 = .ok (.invokevirtual 85, 3) := by decide +kernel
theorem dX0_learn_68 : decode cX0_learn 68 = .ok (.return_, 1) := by decide +kernel
theorem dX0_learnStride_0 : decode cX0_learnStride 0 = .ok (.aload_n 0, 1) := by decide +kernel
theorem dX0_learnStride_1 : decode cX0_learnStride 1 = .ok (.getfield 14, 3) := by decide +kernel
theorem dX0_learnStride_4 : decode cX0_learnStride 4 = .ok (.iload_n 1, 1) := by decide +kernel
theorem dX0_learnStride_5 : decode cX0_learnStride 5 = .ok (.invokevirtual 88, 3) := by decide +kernel
theorem dX0_learnStride_8 : decode cX0_learnStride 8 = .ok (.istore_n 3, 1) := by decide +kernel
theorem dX0_learnStride_9 : decode cX0_learnStride 9 = .ok (.iload_n 3, 1) := by decide +kernel
theorem dX0_learnStride_10 : decode cX0_learnStride 10 = .ok (.ifCond .ge 11, 3) := by decide +kernel
theorem dX0_learnStride_13 : decode cX0_learnStride 13 = .ok (.aload_n 0, 1) := by decide +kernel
theorem dX0_learnStride_14 : decode cX0_learnStride 14 = .ok (.iconst 4, 1) := by decide +kernel
theorem dX0_learnStride_15 : decode cX0_learnStride 15 = .ok (.iload_n 1, 1) := by decide +kernel
theorem dX0_learnStride_16 : decode cX0_learnStride 16 = .ok (.iload_n 2, 1) := by decide +kernel
theorem dX0_learnStride_17 : decode cX0_learnStride 17 = .ok (.invokevirtual 92, 3) := by decide +kernel
theorem dX0_learnStride_20 : decode cX0_learnStride 20 = .ok (.return_, 1) := by decide +kernel
theorem dX0_learnStride_21 : decode cX0_learnStride 21 = .ok (.iload_n 2, 1) := by decide +kernel
theorem dX0_learnStride_22 : decode cX0_learnStride 22 = .ok (.aload_n 0, 1) := by decide +kernel
theorem dX0_learnStride_23 : decode cX0_learnStride 23 = .ok (.getfield 14, 3) := by decide +kernel
theorem dX0_learnStride_26 : decode cX0_learnStride 26 = .ok (.iload_n 3, 1) := by decide +kernel
theorem dX0_learnStride_27 : decode cX0_learnStride 27 = .ok (.iconst 1, 1) := by decide +kernel
theorem dX0_learnStride_28 : decode cX0_learnStride 28 = .ok (.invokevirtual 95, 3) := by decide +kernel
theorem dX0_learnStride_31 : decode cX0_learnStride 31 = .ok (.isub, 1) := by decide +kernel
theorem dX0_learnStride_32 : decode cX0_learnStride 32 = .ok (.istore 4, 2) := by decide +kernel
theorem dX0_learnStride_34 : decode cX0_learnStride 34 = .ok (.aload_n 0, 1) := by decide +kernel
theorem dX0_learnStride_35 : decode cX0_learnStride 35 = .ok (.getfield 14, 3) := by decide +kernel
theorem dX0_learnStride_38 : decode cX0_learnStride 38 = .ok (.iload_n 3, 1) := by decide +kernel
theorem dX0_learnStride_39 : decode cX0_learnStride 39 = .ok (.iconst 2, 1) := by decide +kernel
theorem dX0_learnStride_40 : decode cX0_learnStride 40 = .ok (.invokevirtual 95, 3) := by decide +kernel
theorem dX0_learnStride_43 : decode cX0_learnStride 43 = .ok (.istore 5, 2) := by decide +kernel
theorem dX0_learnStride_45 : decode cX0_learnStride 45 = .ok (.aload_n 0, 1) := by decide +kernel
theorem dX0_learnStride_46 : decode cX0_learnStride 46 = .ok (.getfield 14, 3) := by decide +kernel
theorem dX0_learnStride_49 : decode cX0_learnStride 49 = .ok (.iload_n 3, 1) := by decide +kernel
theorem dX0_learnStride_50 : decode cX0_learnStride 50 = .ok (.iconst 3, 1) := by decide +kernel
theorem dX0_learnStride_51 : decode cX0_learnStride 51 = .ok (.invokevirtual 95, 3) := by decide +kernel
theorem dX0_learnStride_54 : decode cX0_learnStride 54 = .ok (.istore 6, 2) := by decide +kernel
theorem dX0_learnStride_56 : decode cX0_learnStride 56 = .ok (.iload 4, 2) := by decide +kernel
theorem dX0_learnStride_58 : decode cX0_learnStride 58 = .ok (.iload 5, 2) := by decide +kernel
theorem dX0_learnStride_60 : decode cX0_learnStride 60 = .ok (.if_icmp .ne 21, 3) := by decide +kernel
theorem dX0_learnStride_63 : decode cX0_learnStride 63 = .ok (.iload 4, 2) := by decide +kernel
theorem dX0_learnStride_65 : decode cX0_learnStride 65 = .ok (.ifCond .eq 16, 3) := by decide +kernel
theorem dX0_learnStride_68 : decode cX0_learnStride 68 = .ok (.iconst 3, 1) := by decide +kernel
theorem dX0_learnStride_69 : decode cX0_learnStride 69 = .ok (.iload 6, 2) := by decide +kernel
theorem dX0_learnStride_71 : decode cX0_learnStride 71 = .ok (.iconst 1, 1) := by decide +kernel
theorem dX0_learnStride_72 : decode cX0_learnStride 72 = .ok (.iadd, 1) := by decide +kernel
theorem dX0_learnStride_73 : decode cX0_learnStride 73 = .ok (.invokestatic 99, 3) := by decide +kernel
theorem dX0_learnStride_76 : decode cX0_learnStride 76 = .ok (.istore 6, 2) := by decide +kernel
theorem dX0_learnStride_78 : decode cX0_learnStride 78 = .ok (.goto 27, 3) := by decide +kernel
theorem dX0_learnStride_81 : decode cX0_learnStride 81 = .ok (.iconst 0, 1) := by decide +kernel
theorem dX0_learnStride_82 : decode cX0_learnStride 82 = .ok (.iload 6, 2) := by decide +kernel
theorem dX0_learnStride_84 : decode cX0_learnStride 84 = .ok (.iconst 1, 1) := by decide +kernel
theorem dX0_learnStride_85 : decode cX0_learnStride 85 = .ok (.isub, 1) := by decide +kernel
theorem dX0_learnStride_86 : decode cX0_learnStride 86 = .ok (.invokestatic 104, 3) := by decide +kernel
theorem dX0_learnStride_89 : decode cX0_learnStride 89 = .ok (.istore 6, 2) := by decide +kernel
theorem dX0_learnStride_91 : decode cX0_learnStride 91 = .ok (.iload 6, 2) := by decide +kernel
theorem dX0_learnStride_93 : decode cX0_learnStride 93 = .ok (.ifCond .ne 8, 3) := by decide +kernel
theorem dX0_learnStride_96 : decode cX0_learnStride 96 = .ok (.iload 4, 2) := by decide +kernel
theorem dX0_learnStride_98 : decode cX0_learnStride 98 = .ok (.goto 5, 3) := by decide +kernel
theorem dX0_learnStride_101 : decode cX0_learnStride 101 = .ok (.iload 5, 2) := by decide +kernel
theorem dX0_learnStride_103 : decode cX0_learnStride 103 = .ok (.istore 5, 2) := by decide +kernel
theorem dX0_learnStride_105 : decode cX0_learnStride 105 = .ok (.aload_n 0, 1) := by decide +kernel
theorem dX0_learnStride_106 : decode cX0_learnStride 106 = .ok (.iload_n 3, 1) := by decide +kernel
theorem dX0_learnStride_107 : decode cX0_learnStride 107 = .ok (.iload_n 2, 1) := by decide +kernel
theorem dX0_learnStride_108 : decode cX0_learnStride 108 = .ok (.iload 5, 2) := by decide +kernel
theorem dX0_learnStride_110 : decode cX0_learnStride 110 = .ok (.iload 6, 2) := by decide +kernel
theorem dX0_learnStride_112 : decode cX0_learnStride 112 = .ok (.invokevirtual 107, 3) := by decide +kernel
theorem dX0_learnStride_115 : decode cX0_learnStride 115 = .ok (.return_, 1) := by decide +kernel
theorem dX0_learnStream_0 : decode cX0_learnStream 0 = .ok (.aload_n 0, 1) := by decide +kernel
theorem dX0_learnStream_1 : decode cX0_learnStream 1 = .ok (.iload_n 1, 1) := by decide +kernel
theorem dX0_learnStream_2 : decode cX0_learnStream 2 = .ok (.invokevirtual 111, 3) := by decide +kernel
theorem dX0_learnStream_5 : decode cX0_learnStream 5 = .ok (.istore_n 2, 1) := by decide +kernel
theorem dX0_learnStream_6 : decode cX0_learnStream 6 = .ok (.iload_n 2, 1) := by decide +kernel
theorem dX0_learnStream_7 : decode cX0_learnStream 7 = .ok (.ifCond .ge 12, 3) := by decide +kernel
theorem dX0_learnStream_10 : decode cX0_learnStream 10 = .ok (.aload_n 0, 1) := by decide +kernel
theorem dX0_learnStream_11 : decode cX0_learnStream 11 = .ok (.iconst 3, 1) := by decide +kernel
theorem dX0_learnStream_12 : decode cX0_learnStream 12 = .ok (.ldc 114, 2) := by decide +kernel
theorem dX0_learnStream_14 : decode cX0_learnStream 14 = .ok (.iload_n 1, 1) := by decide +kernel
theorem dX0_learnStream_15 : decode cX0_learnStream 15 = .ok (.invokevirtual 92, 3) := by decide +kernel
theorem dX0_learnStream_18 : decode cX0_learnStream 18 = .ok (.return_, 1) := by decide +kernel
theorem dX0_learnStream_19 : decode cX0_learnStream 19 = .ok (.iload_n 1, 1) := by decide +kernel
theorem dX0_learnStream_20 : decode cX0_learnStream 20 = .ok (.aload_n 0, 1) := by decide +kernel
theorem dX0_learnStream_21 : decode cX0_learnStream 21 = .ok (.getfield 14, 3) := by decide +kernel
theorem dX0_learnStream_24 : decode cX0_learnStream 24 = .ok (.iload_n 2, 1) := by decide +kernel
theorem dX0_learnStream_25 : decode cX0_learnStream 25 = .ok (.iconst 1, 1) := by decide +kernel
theorem dX0_learnStream_26 : decode cX0_learnStream 26 = .ok (.invokevirtual 95, 3) := by decide +kernel
theorem dX0_learnStream_29 : decode cX0_learnStream 29 = .ok (.if_icmp .le 7, 3) := by decide +kernel
theorem dX0_learnStream_32 : decode cX0_learnStream 32 = .ok (.iconst 1, 1) := by decide +kernel
theorem dX0_learnStream_33 : decode cX0_learnStream 33 = .ok (.goto 4, 3) := by decide +kernel
theorem dX0_learnStream_36 : decode cX0_learnStream 36 = .ok (.iconst (-1), 1) := by decide +kernel
theorem dX0_learnStream_37 : decode cX0_learnStream 37 = .ok (.istore_n 3, 1) := by decide +kernel
theorem dX0_learnStream_38 : decode cX0_learnStream 38 = .ok (.iconst 1, 1) := by decide +kernel
theorem dX0_learnStream_39 : decode cX0_learnStream 39 = .ok (.istore 4, 2) := by decide +kernel
theorem dX0_learnStream_41 : decode cX0_learnStream 41 = .ok (.iload_n 3, 1) := by decide +kernel
theorem dX0_learnStream_42 : decode cX0_learnStream 42 = .ok (.aload_n 0, 1) := by decide +kernel
theorem dX0_learnStream_43 : decode cX0_learnStream 43 = .ok (.getfield 14, 3) := by decide +kernel
theorem dX0_learnStream_46 : decode cX0_learnStream 46 = .ok (.iload_n 2, 1) := by decide +kernel
theorem dX0_learnStream_47 : decode cX0_learnStream 47 = .ok (.iconst 2, 1) := by decide +kernel
theorem dX0_learnStream_48 : decode cX0_learnStream 48 = .ok (.invokevirtual 95, 3) := by decide +kernel
theorem dX0_learnStream_51 : decode cX0_learnStream 51 = .ok (.if_icmp .ne 21, 3) := by decide +kernel
theorem dX0_learnStream_54 : decode cX0_learnStream 54 = .ok (.bipush 9, 2) := by decide +kernel
theorem dX0_learnStream_56 : decode cX0_learnStream 56 = .ok (.aload_n 0, 1) := by decide +kernel
theorem dX0_learnStream_57 : decode cX0_learnStream 57 = .ok (.getfield 14, 3) := by decide +kernel
theorem dX0_learnStream_60 : decode cX0_learnStream 60 = .ok (.iload_n 2, 1) := by decide +kernel
theorem dX0_learnStream_61 : decode cX0_learnStream 61 = .ok (.iconst 3, 1) := by decide +kernel
theorem dX0_learnStream_62 : decode cX0_learnStream 62 = .ok (.invokevirtual 95, 3) := by decide +kernel
theorem dX0_learnStream_65 : decode cX0_learnStream 65 = .ok (.iconst 1, 1) := by decide +kernel
theorem dX0_learnStream_66 : decode cX0_learnStream 66 = .ok (.iadd, 1) := by decide +kernel
theorem dX0_learnStream_67 : decode cX0_learnStream 67 = .ok (.invokestatic 99, 3) := by decide +kernel
theorem dX0_learnStream_70 : decode cX0_learnStream 70 = .ok (.istore 4, 2) := by decide +kernel
theorem dX0_learnStream_72 : decode cX0_learnStream 72 = .ok (.aload_n 0, 1) := by decide +kernel
theorem dX0_learnStream_73 : decode cX0_learnStream 73 = .ok (.iload_n 2, 1) := by decide +kernel
theorem dX0_learnStream_74 : decode cX0_learnStream 74 = .ok (.iload_n 1, 1) := by decide +kernel
theorem dX0_learnStream_75 : decode cX0_learnStream 75 = .ok (.iload_n 3, 1) := by decide +kernel
theorem dX0_learnStream_76 : decode cX0_learnStream 76 = .ok (.iload 4, 2) := by decide +kernel
theorem dX0_learnStream_78 : decode cX0_learnStream 78 = .ok (.invokevirtual 107, 3) := by decide +kernel
theorem dX0_learnStream_81 : decode cX0_learnStream 81 = .ok (.return_, 1) := by decide +kernel
theorem dX0_streamNear_0 : decode cX0_streamNear 0 = .ok (.aload_n 0, 1) := by decide +kernel
theorem dX0_streamNear_1 : decode cX0_streamNear 1 = .ok (.getfield 14, 3) := by decide +kernel
theorem dX0_streamNear_4 : decode cX0_streamNear 4 = .ok (.getfield 71, 3) := by decide +kernel
theorem dX0_streamNear_7 : decode cX0_streamNear 7 = .ok (.iconst 1, 1) := by decide +kernel
theorem dX0_streamNear_8 : decode cX0_streamNear 8 = .ok (.isub, 1) := by decide +kernel
theorem dX0_streamNear_9 : decode cX0_streamNear 9 = .ok (.istore_n 2, 1) := by decide +kernel
theorem dX0_streamNear_10 : decode cX0_streamNear 10 = .ok (.iload_n 2, 1) := by decide +kernel
theorem dX0_streamNear_11 : decode cX0_streamNear 11 = .ok (.ifCond .lt 36, 3) := by decide +kernel
theorem dX0_streamNear_14 : decode cX0_streamNear 14 = .ok (.iload_n 1, 1) := by decide +kernel
theorem dX0_streamNear_15 : decode cX0_streamNear 15 = .ok (.aload_n 0, 1) := by decide +kernel
theorem dX0_streamNear_16 : decode cX0_streamNear 16 = .ok (.getfield 14, 3) := by decide +kernel
theorem dX0_streamNear_19 : decode cX0_streamNear 19 = .ok (.iload_n 2, 1) := by decide +kernel
theorem dX0_streamNear_20 : decode cX0_streamNear 20 = .ok (.iconst 1, 1) := by decide +kernel
theorem dX0_streamNear_21 : decode cX0_streamNear 21 = .ok (.invokevirtual 95, 3) := by decide +kernel
theorem dX0_streamNear_24 : decode cX0_streamNear 24 = .ok (.isub, 1) := by decide +kernel
theorem dX0_streamNear_25 : decode cX0_streamNear 25 = .ok (.invokestatic 115, 3) := by decide +kernel
theorem dX0_streamNear_28 : decode cX0_streamNear 28 = .ok (.istore_n 3, 1) := by decide +kernel
theorem dX0_streamNear_29 : decode cX0_streamNear 29 = .ok (.iload_n 3, 1) := by decide +kernel
theorem dX0_streamNear_30 : decode cX0_streamNear 30 = .ok (.iconst 1, 1) := by decide +kernel
theorem dX0_streamNear_31 : decode cX0_streamNear 31 = .ok (.if_icmp .lt 10, 3) := by decide +kernel
theorem dX0_streamNear_34 : decode cX0_streamNear 34 = .ok (.iload_n 3, 1) := by decide +kernel
theorem dX0_streamNear_35 : decode cX0_streamNear 35 = .ok (.iconst 4, 1) := by decide +kernel
theorem dX0_streamNear_36 : decode cX0_streamNear 36 = .ok (.if_icmp .gt 5, 3) := by decide +kernel
theorem dX0_streamNear_39 : decode cX0_streamNear 39 = .ok (.iload_n 2, 1) := by decide +kernel
theorem dX0_streamNear_40 : decode cX0_streamNear 40 = .ok (.ireturn, 1) := by decide +kernel
theorem dX0_streamNear_41 : decode cX0_streamNear 41 = .ok (.iinc 2 (-1), 3) := by decide +kernel
theorem dX0_streamNear_44 : decode cX0_streamNear 44 = .ok (.goto (-34), 3) := by decide +kernel
theorem dX0_streamNear_47 : decode cX0_streamNear 47 = .ok (.ldc 114, 2) := by decide +kernel
theorem dX0_streamNear_49 : decode cX0_streamNear 49 = .ok (.ireturn, 1) := by decide +kernel
theorem dX0_addRow_0 : decode cX0_addRow 0 = .ok (.aload_n 0, 1) := by decide +kernel
theorem dX0_addRow_1 : decode cX0_addRow 1 = .ok (.getfield 14, 3) := by decide +kernel
theorem dX0_addRow_4 : decode cX0_addRow 4 = .ok (.iload_n 1, 1) := by decide +kernel
theorem dX0_addRow_5 : decode cX0_addRow 5 = .ok (.invokevirtual 118, 3) := by decide +kernel
theorem dX0_addRow_8 : decode cX0_addRow 8 = .ok (.istore 4, 2) := by decide +kernel
theorem dX0_addRow_10 : decode cX0_addRow 10 = .ok (.aload_n 0, 1) := by decide +kernel
theorem dX0_addRow_11 : decode cX0_addRow 11 = .ok (.getfield 14, 3) := by decide +kernel
theorem dX0_addRow_14 : decode cX0_addRow 14 = .ok (.iload 4, 2) := by decide +kernel
theorem dX0_addRow_16 : decode cX0_addRow 16 = .ok (.iconst 0, 1) := by decide +kernel
theorem dX0_addRow_17 : decode cX0_addRow 17 = .ok (.iload_n 2, 1) := by decide +kernel
theorem dX0_addRow_18 : decode cX0_addRow 18 = .ok (.invokevirtual 121, 3) := by decide +kernel
theorem dX0_addRow_21 : decode cX0_addRow 21 = .ok (.aload_n 0, 1) := by decide +kernel
theorem dX0_addRow_22 : decode cX0_addRow 22 = .ok (.getfield 14, 3) := by decide +kernel
theorem dX0_addRow_25 : decode cX0_addRow 25 = .ok (.iload 4, 2) := by decide +kernel
theorem dX0_addRow_27 : decode cX0_addRow 27 = .ok (.iconst 1, 1) := by decide +kernel
theorem dX0_addRow_28 : decode cX0_addRow 28 = .ok (.iload_n 3, 1) := by decide +kernel
theorem dX0_addRow_29 : decode cX0_addRow 29 = .ok (.invokevirtual 121, 3) := by decide +kernel
theorem dX0_addRow_32 : decode cX0_addRow 32 = .ok (.aload_n 0, 1) := by decide +kernel
theorem dX0_addRow_33 : decode cX0_addRow 33 = .ok (.getfield 14, 3) := by decide +kernel
theorem dX0_addRow_36 : decode cX0_addRow 36 = .ok (.iload 4, 2) := by decide +kernel
theorem dX0_addRow_38 : decode cX0_addRow 38 = .ok (.iconst 2, 1) := by decide +kernel
theorem dX0_addRow_39 : decode cX0_addRow 39 = .ok (.iconst 0, 1) := by decide +kernel
theorem dX0_addRow_40 : decode cX0_addRow 40 = .ok (.invokevirtual 121, 3) := by decide +kernel
theorem dX0_addRow_43 : decode cX0_addRow 43 = .ok (.aload_n 0, 1) := by decide +kernel
theorem dX0_addRow_44 : decode cX0_addRow 44 = .ok (.getfield 14, 3) := by decide +kernel
theorem dX0_addRow_47 : decode cX0_addRow 47 = .ok (.iload 4, 2) := by decide +kernel
theorem dX0_addRow_49 : decode cX0_addRow 49 = .ok (.iconst 3, 1) := by decide +kernel
theorem dX0_addRow_50 : decode cX0_addRow 50 = .ok (.iconst 0, 1) := by decide +kernel
theorem dX0_addRow_51 : decode cX0_addRow 51 = .ok (.invokevirtual 121, 3) := by decide +kernel
theorem dX0_addRow_54 : decode cX0_addRow 54 = .ok (.return_, 1) := by decide +kernel
theorem dX0_updateRow_0 : decode cX0_updateRow 0 = .ok (.aload_n 0, 1) := by decide +kernel
theorem dX0_updateRow_1 : decode cX0_updateRow 1 = .ok (.getfield 14, 3) := by decide +kernel
theorem dX0_updateRow_4 : decode cX0_updateRow 4 = .ok (.iload_n 1, 1) := by decide +kernel
theorem dX0_updateRow_5 : decode cX0_updateRow 5 = .ok (.iconst 1, 1) := by decide +kernel
theorem dX0_updateRow_6 : decode cX0_updateRow 6 = .ok (.iload_n 2, 1) := by decide +kernel
theorem dX0_updateRow_7 : decode cX0_updateRow 7 = .ok (.invokevirtual 121, 3) := by decide +kernel
theorem dX0_updateRow_10 : decode cX0_updateRow 10 = .ok (.aload_n 0, 1) := by decide +kernel
theorem dX0_updateRow_11 : decode cX0_updateRow 11 = .ok (.getfield 14, 3) := by decide +kernel
theorem dX0_updateRow_14 : decode cX0_updateRow 14 = .ok (.iload_n 1, 1) := by decide +kernel
theorem dX0_updateRow_15 : decode cX0_updateRow 15 = .ok (.iconst 2, 1) := by decide +kernel
theorem dX0_updateRow_16 : decode cX0_updateRow 16 = .ok (.iload_n 3, 1) := by decide +kernel
theorem dX0_updateRow_17 : decode cX0_updateRow 17 = .ok (.invokevirtual 121, 3) := by decide +kernel
theorem dX0_updateRow_20 : decode cX0_updateRow 20 = .ok (.aload_n 0, 1) := by decide +kernel
theorem dX0_updateRow_21 : decode cX0_updateRow 21 = .ok (.getfield 14, 3) := by decide +kernel
theorem dX0_updateRow_24 : decode cX0_updateRow 24 = .ok (.iload_n 1, 1) := by decide +kernel
theorem dX0_updateRow_25 : decode cX0_updateRow 25 = .ok (.iconst 3, 1) := by decide +kernel
theorem dX0_updateRow_26 : decode cX0_updateRow 26 = .ok (.iload 4, 2) := by decide +kernel
theorem dX0_updateRow_28 : decode cX0_updateRow 28 = .ok (.invokevirtual 121, 3) := by decide +kernel
theorem dX0_updateRow_31 : decode cX0_updateRow 31 = .ok (.aload_n 0, 1) := by decide +kernel
theorem dX0_updateRow_32 : decode cX0_updateRow 32 = .ok (.getfield 14, 3) := by decide +kernel
theorem dX0_updateRow_35 : decode cX0_updateRow 35 = .ok (.iload_n 1, 1) := by decide +kernel
theorem dX0_updateRow_36 : decode cX0_updateRow 36 = .ok (.invokevirtual 124, 3) := by decide +kernel
theorem dX0_updateRow_39 : decode cX0_updateRow 39 = .ok (.iload 4, 2) := by decide +kernel
theorem dX0_updateRow_41 : decode cX0_updateRow 41 = .ok (.iconst 2, 1) := by decide +kernel
theorem dX0_updateRow_42 : decode cX0_updateRow 42 = .ok (.if_icmp .lt 9, 3) := by decide +kernel
theorem dX0_updateRow_45 : decode cX0_updateRow 45 = .ok (.aload_n 0, 1) := by decide +kernel
theorem dX0_updateRow_46 : decode cX0_updateRow 46 = .ok (.iload_n 2, 1) := by decide +kernel
theorem dX0_updateRow_47 : decode cX0_updateRow 47 = .ok (.iload_n 3, 1) := by decide +kernel
theorem dX0_updateRow_48 : decode cX0_updateRow 48 = .ok (.invokevirtual 85, 3) := by decide +kernel
theorem dX0_updateRow_51 : decode cX0_updateRow 51 = .ok (.return_, 1) := by decide +kernel
theorem dX0_wish_0 : decode cX0_wish 0 = .ok (.aload_n 0, 1) := by decide +kernel
theorem dX0_wish_1 : decode cX0_wish 1 = .ok (.invokevirtual 127, 3) := by decide +kernel
theorem dX0_wish_4 : decode cX0_wish 4 = .ok (.istore_n 3, 1) := by decide +kernel
theorem dX0_wish_5 : decode cX0_wish 5 = .ok (.iconst 1, 1) := by decide +kernel
theorem dX0_wish_6 : decode cX0_wish 6 = .ok (.istore 4, 2) := by decide +kernel
theorem dX0_wish_8 : decode cX0_wish 8 = .ok (.iload 4, 2) := by decide +kernel
theorem dX0_wish_10 : decode cX0_wish 10 = .ok (.iload_n 3, 1) := by decide +kernel
theorem dX0_wish_11 : decode cX0_wish 11 = .ok (.if_icmp .gt 62, 3) := by decide +kernel
theorem dX0_wish_14 : decode cX0_wish 14 = .ok (.aload_n 0, 1) := by decide +kernel
theorem dX0_wish_15 : decode cX0_wish 15 = .ok (.getfield 68, 3) := by decide +kernel
theorem dX0_wish_18 : decode cX0_wish 18 = .ok (.aload_n 0, 1) := by decide +kernel
theorem dX0_wish_19 : decode cX0_wish 19 = .ok (.getfield 20, 3) := by decide +kernel
theorem dX0_wish_22 : decode cX0_wish 22 = .ok (.arraylength, 1) := by decide +kernel
theorem dX0_wish_23 : decode cX0_wish 23 = .ok (.if_icmp .ge 50, 3) := by decide +kernel
theorem dX0_wish_26 : decode cX0_wish 26 = .ok (.iload_n 1, 1) := by decide +kernel
theorem dX0_wish_27 : decode cX0_wish 27 = .ok (.iload 4, 2) := by decide +kernel
theorem dX0_wish_29 : decode cX0_wish 29 = .ok (.iload_n 2, 1) := by decide +kernel
theorem dX0_wish_30 : decode cX0_wish 30 = .ok (.imul, 1) := by decide +kernel
theorem dX0_wish_31 : decode cX0_wish 31 = .ok (.iadd, 1) := by decide +kernel
theorem dX0_wish_32 : decode cX0_wish 32 = .ok (.istore 5, 2) := by decide +kernel
theorem dX0_wish_34 : decode cX0_wish 34 = .ok (.iload 5, 2) := by decide +kernel
theorem dX0_wish_36 : decode cX0_wish 36 = .ok (.iconst 0, 1) := by decide +kernel
theorem dX0_wish_37 : decode cX0_wish 37 = .ok (.sipush 9999, 3) := by decide +kernel
theorem dX0_wish_40 : decode cX0_wish 40 = .ok (.invokestatic 131, 3) := by decide +kernel
theorem dX0_wish_43 : decode cX0_wish 43 = .ok (.ifCond .ne 24, 3) := by decide +kernel
theorem dX0_wish_46 : decode cX0_wish 46 = .ok (.aload_n 0, 1) := by decide +kernel
theorem dX0_wish_47 : decode cX0_wish 47 = .ok (.getfield 20, 3) := by decide +kernel
theorem dX0_wish_50 : decode cX0_wish 50 = .ok (.aload_n 0, 1) := by decide +kernel
theorem dX0_wish_51 : decode cX0_wish 51 = .ok (.getfield 68, 3) := by decide +kernel
theorem dX0_wish_54 : decode cX0_wish 54 = .ok (.iload 5, 2) := by decide +kernel
theorem dX0_wish_56 : decode cX0_wish 56 = .ok (.iastore, 1) := by decide +kernel
theorem dX0_wish_57 : decode cX0_wish 57 = .ok (.aload_n 0, 1) := by decide +kernel
theorem dX0_wish_58 : decode cX0_wish 58 = .ok (.dup, 1) := by decide +kernel
theorem dX0_wish_59 : decode cX0_wish 59 = .ok (.getfield 68, 3) := by decide +kernel
theorem dX0_wish_62 : decode cX0_wish 62 = .ok (.iconst 1, 1) := by decide +kernel
theorem dX0_wish_63 : decode cX0_wish 63 = .ok (.iadd, 1) := by decide +kernel
theorem dX0_wish_64 : decode cX0_wish 64 = .ok (.putfield 68, 3) := by decide +kernel
theorem dX0_wish_67 : decode cX0_wish 67 = .ok (.iinc 4 1, 3) := by decide +kernel
theorem dX0_wish_70 : decode cX0_wish 70 = .ok (.goto (-62), 3) := by decide +kernel
theorem dX0_wish_73 : decode cX0_wish 73 = .ok (.return_, 1) := by decide +kernel
theorem dX0_wishAt_0 : decode cX0_wishAt 0 = .ok (.iload_n 1, 1) := by decide +kernel
theorem dX0_wishAt_1 : decode cX0_wishAt 1 = .ok (.ifCond .lt 29, 3) := by decide +kernel
theorem dX0_wishAt_4 : decode cX0_wishAt 4 = .ok (.iload_n 1, 1) := by decide +kernel
theorem dX0_wishAt_5 : decode cX0_wishAt 5 = .ok (.aload_n 0, 1) := by decide +kernel
theorem dX0_wishAt_6 : decode cX0_wishAt 6 = .ok (.getfield 68, 3) := by decide +kernel
theorem dX0_wishAt_9 : decode cX0_wishAt 9 = .ok (.if_icmp .ge 21, 3) := by decide +kernel
theorem dX0_wishAt_12 : decode cX0_wishAt 12 = .ok (.iload_n 1, 1) := by decide +kernel
theorem dX0_wishAt_13 : decode cX0_wishAt 13 = .ok (.aload_n 0, 1) := by decide +kernel
theorem dX0_wishAt_14 : decode cX0_wishAt 14 = .ok (.getfield 20, 3) := by decide +kernel
theorem dX0_wishAt_17 : decode cX0_wishAt 17 = .ok (.arraylength, 1) := by decide +kernel
theorem dX0_wishAt_18 : decode cX0_wishAt 18 = .ok (.if_icmp .ge 12, 3) := by decide +kernel
theorem dX0_wishAt_21 : decode cX0_wishAt 21 = .ok (.aload_n 0, 1) := by decide +kernel
theorem dX0_wishAt_22 : decode cX0_wishAt 22 = .ok (.getfield 20, 3) := by decide +kernel
theorem dX0_wishAt_25 : decode cX0_wishAt 25 = .ok (.iload_n 1, 1) := by decide +kernel
theorem dX0_wishAt_26 : decode cX0_wishAt 26 = .ok (.iaload, 1) := by decide +kernel
theorem dX0_wishAt_27 : decode cX0_wishAt 27 = .ok (.goto 5, 3) := by decide +kernel
theorem dX0_wishAt_30 : decode cX0_wishAt 30 = .ok (.ldc 114, 2) := by decide +kernel
theorem dX0_wishAt_32 : decode cX0_wishAt 32 = .ok (.ireturn, 1) := by decide +kernel
theorem dX1_init_0 : decode cX1_init 0 = .ok (.aload_n 0, 1) := by decide +kernel
theorem dX1_init_1 : decode cX1_init 1 = .ok (.invokespecial 3, 3) := by decide +kernel
theorem dX1_init_4 : decode cX1_init 4 = .ok (.aload_n 0, 1) := by decide +kernel
theorem dX1_init_5 : decode cX1_init 5 = .ok (.iconst 1, 1) := by decide +kernel
theorem dX1_init_6 : decode cX1_init 6 = .ok (.iload_n 1, 1) := by decide +kernel
theorem dX1_init_7 : decode cX1_init 7 = .ok (.invokestatic 9, 3) := by decide +kernel
theorem dX1_init_10 : decode cX1_init 10 = .ok (.putfield 15, 3) := by decide +kernel
theorem dX1_init_13 : decode cX1_init 13 = .ok (.aload_n 0, 1) := by decide +kernel
theorem dX1_init_14 : decode cX1_init 14 = .ok (.iconst 1, 1) := by decide +kernel
theorem dX1_init_15 : decode cX1_init 15 = .ok (.iload_n 2, 1) := by decide +kernel
theorem dX1_init_16 : decode cX1_init 16 = .ok (.invokestatic 9, 3) := by decide +kernel
theorem dX1_init_19 : decode cX1_init 19 = .ok (.putfield 21, 3) := by decide +kernel
theorem dX1_init_22 : decode cX1_init 22 = .ok (.aload_n 0, 1) := by decide +kernel
theorem dX1_init_23 : decode cX1_init 23 = .ok (.aload_n 0, 1) := by decide +kernel
theorem dX1_init_24 : decode cX1_init 24 = .ok (.getfield 15, 3) := by decide +kernel
theorem dX1_init_27 : decode cX1_init 27 = .ok (.aload_n 0, 1) := by decide +kernel
theorem dX1_init_28 : decode cX1_init 28 = .ok (.getfield 21, 3) := by decide +kernel
theorem dX1_init_31 : decode cX1_init 31 = .ok (.imul, 1) := by decide +kernel
theorem dX1_init_32 : decode cX1_init 32 = .ok (.newarray .int, 2) := by decide +kernel
theorem dX1_init_34 : decode cX1_init 34 = .ok (.putfield 24, 3) := by decide +kernel
theorem dX1_init_37 : decode cX1_init 37 = .ok (.aload_n 0, 1) := by decide +kernel
theorem dX1_init_38 : decode cX1_init 38 = .ok (.iconst 0, 1) := by decide +kernel
theorem dX1_init_39 : decode cX1_init 39 = .ok (.putfield 28, 3) := by decide +kernel
theorem dX1_init_42 : decode cX1_init 42 = .ok (.return_, 1) := by decide +kernel
theorem dX1_copyFrom_0 : decode cX1_copyFrom 0 = .ok (.aload_n 0, 1) := by decide +kernel
theorem dX1_copyFrom_1 : decode cX1_copyFrom 1 = .ok (.aload_n 1, 1) := by decide +kernel
theorem dX1_copyFrom_2 : decode cX1_copyFrom 2 = .ok (.getfield 28, 3) := by decide +kernel
theorem dX1_copyFrom_5 : decode cX1_copyFrom 5 = .ok (.aload_n 0, 1) := by decide +kernel
theorem dX1_copyFrom_6 : decode cX1_copyFrom 6 = .ok (.getfield 15, 3) := by decide +kernel
theorem dX1_copyFrom_9 : decode cX1_copyFrom 9 = .ok (.invokestatic 31, 3) := by decide +kernel
theorem dX1_copyFrom_12 : decode cX1_copyFrom 12 = .ok (.putfield 28, 3) := by decide +kernel
theorem dX1_copyFrom_15 : decode cX1_copyFrom 15 = .ok (.iconst 0, 1) := by decide +kernel
theorem dX1_copyFrom_16 : decode cX1_copyFrom 16 = .ok (.istore_n 2, 1) := by decide +kernel
theorem dX1_copyFrom_17 : decode cX1_copyFrom 17 = .ok (.iload_n 2, 1) := by decide +kernel
theorem dX1_copyFrom_18 : decode cX1_copyFrom 18 = .ok (.aload_n 0, 1) := by decide +kernel
theorem dX1_copyFrom_19 : decode cX1_copyFrom 19 = .ok (.getfield 24, 3) := by decide +kernel
theorem dX1_copyFrom_22 : decode cX1_copyFrom 22 = .ok (.arraylength, 1) := by decide +kernel
theorem dX1_copyFrom_23 : decode cX1_copyFrom 23 = .ok (.if_icmp .ge 30, 3) := by decide +kernel
theorem dX1_copyFrom_26 : decode cX1_copyFrom 26 = .ok (.iload_n 2, 1) := by decide +kernel
theorem dX1_copyFrom_27 : decode cX1_copyFrom 27 = .ok (.aload_n 1, 1) := by decide +kernel
theorem dX1_copyFrom_28 : decode cX1_copyFrom 28 = .ok (.getfield 24, 3) := by decide +kernel
theorem dX1_copyFrom_31 : decode cX1_copyFrom 31 = .ok (.arraylength, 1) := by decide +kernel
theorem dX1_copyFrom_32 : decode cX1_copyFrom 32 = .ok (.if_icmp .ge 21, 3) := by decide +kernel
theorem dX1_copyFrom_35 : decode cX1_copyFrom 35 = .ok (.aload_n 0, 1) := by decide +kernel
theorem dX1_copyFrom_36 : decode cX1_copyFrom 36 = .ok (.getfield 24, 3) := by decide +kernel
theorem dX1_copyFrom_39 : decode cX1_copyFrom 39 = .ok (.iload_n 2, 1) := by decide +kernel
theorem dX1_copyFrom_40 : decode cX1_copyFrom 40 = .ok (.aload_n 1, 1) := by decide +kernel
theorem dX1_copyFrom_41 : decode cX1_copyFrom 41 = .ok (.getfield 24, 3) := by decide +kernel
theorem dX1_copyFrom_44 : decode cX1_copyFrom 44 = .ok (.iload_n 2, 1) := by decide +kernel
theorem dX1_copyFrom_45 : decode cX1_copyFrom 45 = .ok (.iaload, 1) := by decide +kernel
theorem dX1_copyFrom_46 : decode cX1_copyFrom 46 = .ok (.iastore, 1) := by decide +kernel
theorem dX1_copyFrom_47 : decode cX1_copyFrom 47 = .ok (.iinc 2 1, 3) := by decide +kernel
theorem dX1_copyFrom_50 : decode cX1_copyFrom 50 = .ok (.goto (-33), 3) := by decide +kernel
theorem dX1_copyFrom_53 : decode cX1_copyFrom 53 = .ok (.return_, 1) := by decide +kernel
theorem dX1_holds_0 : decode cX1_holds 0 = .ok (.iload_n 1, 1) := by decide +kernel
theorem dX1_holds_1 : decode cX1_holds 1 = .ok (.ifCond .lt 27, 3) := by decide +kernel
theorem dX1_holds_4 : decode cX1_holds 4 = .ok (.iload_n 1, 1) := by decide +kernel
theorem dX1_holds_5 : decode cX1_holds 5 = .ok (.aload_n 0, 1) := by decide +kernel
theorem dX1_holds_6 : decode cX1_holds 6 = .ok (.getfield 28, 3) := by decide +kernel
theorem dX1_holds_9 : decode cX1_holds 9 = .ok (.if_icmp .ge 19, 3) := by decide +kernel
theorem dX1_holds_12 : decode cX1_holds 12 = .ok (.iload_n 2, 1) := by decide +kernel
theorem dX1_holds_13 : decode cX1_holds 13 = .ok (.ifCond .lt 15, 3) := by decide +kernel
theorem dX1_holds_16 : decode cX1_holds 16 = .ok (.iload_n 2, 1) := by decide +kernel
theorem dX1_holds_17 : decode cX1_holds 17 = .ok (.aload_n 0, 1) := by decide +kernel
theorem dX1_holds_18 : decode cX1_holds 18 = .ok (.getfield 21, 3) := by decide +kernel
theorem dX1_holds_21 : decode cX1_holds 21 = .ok (.if_icmp .ge 7, 3) := by decide +kernel
theorem dX1_holds_24 : decode cX1_holds 24 = .ok (.iconst 1, 1) := by decide +kernel
theorem dX1_holds_25 : decode cX1_holds 25 = .ok (.goto 4, 3) := by decide +kernel
theorem dX1_holds_28 : decode cX1_holds 28 = .ok (.iconst 0, 1) := by decide +kernel
theorem dX1_holds_29 : decode cX1_holds 29 = .ok (.ireturn, 1) := by decide +kernel
theorem dX1_get_0 : decode cX1_get 0 = .ok (.aload_n 0, 1) := by decide +kernel
theorem dX1_get_1 : decode cX1_get 1 = .ok (.iload_n 1, 1) := by decide +kernel
theorem dX1_get_2 : decode cX1_get 2 = .ok (.iload_n 2, 1) := by decide +kernel
theorem dX1_get_3 : decode cX1_get 3 = .ok (.invokevirtual 34, 3) := by decide +kernel
theorem dX1_get_6 : decode cX1_get 6 = .ok (.ifCond .eq 19, 3) := by decide +kernel
theorem dX1_get_9 : decode cX1_get 9 = .ok (.aload_n 0, 1) := by decide +kernel
theorem dX1_get_10 : decode cX1_get 10 = .ok (.getfield 24, 3) := by decide +kernel
theorem dX1_get_13 : decode cX1_get 13 = .ok (.iload_n 1, 1) := by decide +kernel
theorem dX1_get_14 : decode cX1_get 14 = .ok (.aload_n 0, 1) := by decide +kernel
theorem dX1_get_15 : decode cX1_get 15 = .ok (.getfield 21, 3) := by decide +kernel
theorem dX1_get_18 : decode cX1_get 18 = .ok (.imul, 1) := by decide +kernel
theorem dX1_get_19 : decode cX1_get 19 = .ok (.iload_n 2, 1) := by decide +kernel
theorem dX1_get_20 : decode cX1_get 20 = .ok (.iadd, 1) := by decide +kernel
theorem dX1_get_21 : decode cX1_get 21 = .ok (.iaload, 1) := by decide +kernel
theorem dX1_get_22 : decode cX1_get 22 = .ok (.goto 5, 3) := by decide +kernel
theorem dX1_get_25 : decode cX1_get 25 = .ok (.ldc 38, 2) := by decide +kernel
theorem dX1_get_27 : decode cX1_get 27 = .ok (.ireturn, 1) := by decide +kernel
theorem dX1_put_0 : decode cX1_put 0 = .ok (.aload_n 0, 1) := by decide +kernel
theorem dX1_put_1 : decode cX1_put 1 = .ok (.iload_n 1, 1) := by decide +kernel
theorem dX1_put_2 : decode cX1_put 2 = .ok (.iload_n 2, 1) := by decide +kernel
theorem dX1_put_3 : decode cX1_put 3 = .ok (.invokevirtual 34, 3) := by decide +kernel
theorem dX1_put_6 : decode cX1_put 6 = .ok (.ifCond .eq 17, 3) := by decide +kernel
theorem dX1_put_9 : decode cX1_put 9 = .ok (.aload_n 0, 1) := by decide +kernel
theorem dX1_put_10 : decode cX1_put 10 = .ok (.getfield 24, 3) := by decide +kernel
theorem dX1_put_13 : decode cX1_put 13 = .ok (.iload_n 1, 1) := by decide +kernel
theorem dX1_put_14 : decode cX1_put 14 = .ok (.aload_n 0, 1) := by decide +kernel
theorem dX1_put_15 : decode cX1_put 15 = .ok (.getfield 21, 3) := by decide +kernel
theorem dX1_put_18 : decode cX1_put 18 = .ok (.imul, 1) := by decide +kernel
theorem dX1_put_19 : decode cX1_put 19 = .ok (.iload_n 2, 1) := by decide +kernel
theorem dX1_put_20 : decode cX1_put 20 = .ok (.iadd, 1) := by decide +kernel
theorem dX1_put_21 : decode cX1_put 21 = .ok (.iload_n 3, 1) := by decide +kernel
theorem dX1_put_22 : decode cX1_put 22 = .ok (.iastore, 1) := by decide +kernel
theorem dX1_put_23 : decode cX1_put 23 = .ok (.return_, 1) := by decide +kernel
theorem dX1_find_0 : decode cX1_find 0 = .ok (.iconst 0, 1) := by decide +kernel
theorem dX1_find_1 : decode cX1_find 1 = .ok (.istore_n 2, 1) := by decide +kernel
theorem dX1_find_2 : decode cX1_find 2 = .ok (.iload_n 2, 1) := by decide +kernel
theorem dX1_find_3 : decode cX1_find 3 = .ok (.aload_n 0, 1) := by decide +kernel
theorem dX1_find_4 : decode cX1_find 4 = .ok (.getfield 28, 3) := by decide +kernel
theorem dX1_find_7 : decode cX1_find 7 = .ok (.if_icmp .ge 26, 3) := by decide +kernel
theorem dX1_find_10 : decode cX1_find 10 = .ok (.aload_n 0, 1) := by decide +kernel
theorem dX1_find_11 : decode cX1_find 11 = .ok (.getfield 24, 3) := by decide +kernel
theorem dX1_find_14 : decode cX1_find 14 = .ok (.iload_n 2, 1) := by decide +kernel
theorem dX1_find_15 : decode cX1_find 15 = .ok (.aload_n 0, 1) := by decide +kernel
theorem dX1_find_16 : decode cX1_find 16 = .ok (.getfield 21, 3) := by decide +kernel
theorem dX1_find_19 : decode cX1_find 19 = .ok (.imul, 1) := by decide +kernel
theorem dX1_find_20 : decode cX1_find 20 = .ok (.iaload, 1) := by decide +kernel
theorem dX1_find_21 : decode cX1_find 21 = .ok (.iload_n 1, 1) := by decide +kernel
theorem dX1_find_22 : decode cX1_find 22 = .ok (.if_icmp .ne 5, 3) := by decide +kernel
theorem dX1_find_25 : decode cX1_find 25 = .ok (.iload_n 2, 1) := by decide +kernel
theorem dX1_find_26 : decode cX1_find 26 = .ok (.ireturn, 1) := by decide +kernel
theorem dX1_find_27 : decode cX1_find 27 = .ok (.iinc 2 1, 3) := by decide +kernel
theorem dX1_find_30 : decode cX1_find 30 = .ok (.goto (-28), 3) := by decide +kernel
theorem dX1_find_33 : decode cX1_find 33 = .ok (.ldc 38, 2) := by decide +kernel
theorem dX1_find_35 : decode cX1_find 35 = .ok (.ireturn, 1) := by decide +kernel
theorem dX1_touch_0 : decode cX1_touch 0 = .ok (.iload_n 1, 1) := by decide +kernel
theorem dX1_touch_1 : decode cX1_touch 1 = .ok (.ifCond .lt 11, 3) := by decide +kernel
theorem dX1_touch_4 : decode cX1_touch 4 = .ok (.iload_n 1, 1) := by decide +kernel
theorem dX1_touch_5 : decode cX1_touch 5 = .ok (.aload_n 0, 1) := by decide +kernel
theorem dX1_touch_6 : decode cX1_touch 6 = .ok (.getfield 28, 3) := by decide +kernel
theorem dX1_touch_9 : decode cX1_touch 9 = .ok (.if_icmp .lt 4, 3) := by decide +kernel
theorem dX1_touch_12 : decode cX1_touch 12 = .ok (.return_, 1) := by decide +kernel
theorem dX1_touch_13 : decode cX1_touch 13 = .ok (.iconst 0, 1) := by decide +kernel
theorem dX1_touch_14 : decode cX1_touch 14 = .ok (.istore_n 2, 1) := by decide +kernel
theorem dX1_touch_15 : decode cX1_touch 15 = .ok (.iload_n 2, 1) := by decide +kernel
theorem dX1_touch_16 : decode cX1_touch 16 = .ok (.aload_n 0, 1) := by decide +kernel
theorem dX1_touch_17 : decode cX1_touch 17 = .ok (.getfield 21, 3) := by decide +kernel
theorem dX1_touch_20 : decode cX1_touch 20 = .ok (.if_icmp .ge 92, 3) := by decide +kernel
theorem dX1_touch_23 : decode cX1_touch 23 = .ok (.aload_n 0, 1) := by decide +kernel
theorem dX1_touch_24 : decode cX1_touch 24 = .ok (.getfield 24, 3) := by decide +kernel
theorem dX1_touch_27 : decode cX1_touch 27 = .ok (.iload_n 1, 1) := by decide +kernel
theorem dX1_touch_28 : decode cX1_touch 28 = .ok (.aload_n 0, 1) := by decide +kernel
theorem dX1_touch_29 : decode cX1_touch 29 = .ok (.getfield 21, 3) := by decide +kernel
theorem dX1_touch_32 : decode cX1_touch 32 = .ok (.imul, 1) := by decide +kernel
theorem dX1_touch_33 : decode cX1_touch 33 = .ok (.iload_n 2, 1) := by decide +kernel
theorem dX1_touch_34 : decode cX1_touch 34 = .ok (.iadd, 1) := by decide +kernel
theorem dX1_touch_35 : decode cX1_touch 35 = .ok (.iaload, 1) := by decide +kernel
theorem dX1_touch_36 : decode cX1_touch 36 = .ok (.istore_n 3, 1) := by decide +kernel
theorem dX1_touch_37 : decode cX1_touch 37 = .ok (.iload_n 1, 1) := by decide +kernel
theorem dX1_touch_38 : decode cX1_touch 38 = .ok (.istore 4, 2) := by decide +kernel
theorem dX1_touch_40 : decode cX1_touch 40 = .ok (.iload 4, 2) := by decide +kernel
theorem dX1_touch_42 : decode cX1_touch 42 = .ok (.iconst 1, 1) := by decide +kernel
theorem dX1_touch_43 : decode cX1_touch 43 = .ok (.iadd, 1) := by decide +kernel
theorem dX1_touch_44 : decode cX1_touch 44 = .ok (.aload_n 0, 1) := by decide +kernel
theorem dX1_touch_45 : decode cX1_touch 45 = .ok (.getfield 28, 3) := by decide +kernel
theorem dX1_touch_48 : decode cX1_touch 48 = .ok (.if_icmp .ge 39, 3) := by decide +kernel
theorem dX1_touch_51 : decode cX1_touch 51 = .ok (.aload_n 0, 1) := by decide +kernel
theorem dX1_touch_52 : decode cX1_touch 52 = .ok (.getfield 24, 3) := by decide +kernel
theorem dX1_touch_55 : decode cX1_touch 55 = .ok (.iload 4, 2) := by decide +kernel
theorem dX1_touch_57 : decode cX1_touch 57 = .ok (.aload_n 0, 1) := by decide +kernel
theorem dX1_touch_58 : decode cX1_touch 58 = .ok (.getfield 21, 3) := by decide +kernel
theorem dX1_touch_61 : decode cX1_touch 61 = .ok (.imul, 1) := by decide +kernel
theorem dX1_touch_62 : decode cX1_touch 62 = .ok (.iload_n 2, 1) := by decide +kernel
theorem dX1_touch_63 : decode cX1_touch 63 = .ok (.iadd, 1) := by decide +kernel
theorem dX1_touch_64 : decode cX1_touch 64 = .ok (.aload_n 0, 1) := by decide +kernel
theorem dX1_touch_65 : decode cX1_touch 65 = .ok (.getfield 24, 3) := by decide +kernel
theorem dX1_touch_68 : decode cX1_touch 68 = .ok (.iload 4, 2) := by decide +kernel
theorem dX1_touch_70 : decode cX1_touch 70 = .ok (.iconst 1, 1) := by decide +kernel
theorem dX1_touch_71 : decode cX1_touch 71 = .ok (.iadd, 1) := by decide +kernel
theorem dX1_touch_72 : decode cX1_touch 72 = .ok (.aload_n 0, 1) := by decide +kernel
theorem dX1_touch_73 : decode cX1_touch 73 = .ok (.getfield 21, 3) := by decide +kernel
theorem dX1_touch_76 : decode cX1_touch 76 = .ok (.imul, 1) := by decide +kernel
theorem dX1_touch_77 : decode cX1_touch 77 = .ok (.iload_n 2, 1) := by decide +kernel
theorem dX1_touch_78 : decode cX1_touch 78 = .ok (.iadd, 1) := by decide +kernel
theorem dX1_touch_79 : decode cX1_touch 79 = .ok (.iaload, 1) := by decide +kernel
theorem dX1_touch_80 : decode cX1_touch 80 = .ok (.iastore, 1) := by decide +kernel
theorem dX1_touch_81 : decode cX1_touch 81 = .ok (.iinc 4 1, 3) := by decide +kernel
theorem dX1_touch_84 : decode cX1_touch 84 = .ok (.goto (-44), 3) := by decide +kernel
theorem dX1_touch_87 : decode cX1_touch 87 = .ok (.aload_n 0, 1) := by decide +kernel
theorem dX1_touch_88 : decode cX1_touch 88 = .ok (.getfield 24, 3) := by decide +kernel
theorem dX1_touch_91 : decode cX1_touch 91 = .ok (.aload_n 0, 1) := by decide +kernel
theorem dX1_touch_92 : decode cX1_touch 92 = .ok (.getfield 28, 3) := by decide +kernel
theorem dX1_touch_95 : decode cX1_touch 95 = .ok (.iconst 1, 1) := by decide +kernel
theorem dX1_touch_96 : decode cX1_touch 96 = .ok (.isub, 1) := by decide +kernel
theorem dX1_touch_97 : decode cX1_touch 97 = .ok (.aload_n 0, 1) := by decide +kernel
theorem dX1_touch_98 : decode cX1_touch 98 = .ok (.getfield 21, 3) := by decide +kernel
theorem dX1_touch_101 : decode cX1_touch 101 = .ok (.imul, 1) := by decide +kernel
theorem dX1_touch_102 : decode cX1_touch 102 = .ok (.iload_n 2, 1) := by decide +kernel
theorem dX1_touch_103 : decode cX1_touch 103 = .ok (.iadd, 1) := by decide +kernel
theorem dX1_touch_104 : decode cX1_touch 104 = .ok (.iload_n 3, 1) := by decide +kernel
theorem dX1_touch_105 : decode cX1_touch 105 = .ok (.iastore, 1) := by decide +kernel
theorem dX1_touch_106 : decode cX1_touch 106 = .ok (.iinc 2 1, 3) := by decide +kernel
theorem dX1_touch_109 : decode cX1_touch 109 = .ok (.goto (-94), 3) := by decide +kernel
theorem dX1_touch_112 : decode cX1_touch 112 = .ok (.return_, 1) := by decide +kernel
theorem dX1_remove_0 : decode cX1_remove 0 = .ok (.iload_n 1, 1) := by decide +kernel
theorem dX1_remove_1 : decode cX1_remove 1 = .ok (.ifCond .lt 26, 3) := by decide +kernel
theorem dX1_remove_4 : decode cX1_remove 4 = .ok (.iload_n 1, 1) := by decide +kernel
theorem dX1_remove_5 : decode cX1_remove 5 = .ok (.aload_n 0, 1) := by decide +kernel
theorem dX1_remove_6 : decode cX1_remove 6 = .ok (.getfield 28, 3) := by decide +kernel
theorem dX1_remove_9 : decode cX1_remove 9 = .ok (.if_icmp .ge 18, 3) := by decide +kernel
theorem dX1_remove_12 : decode cX1_remove 12 = .ok (.aload_n 0, 1) := by decide +kernel
theorem dX1_remove_13 : decode cX1_remove 13 = .ok (.iload_n 1, 1) := by decide +kernel
theorem dX1_remove_14 : decode cX1_remove 14 = .ok (.invokevirtual 39, 3) := by decide +kernel
theorem dX1_remove_17 : decode cX1_remove 17 = .ok (.aload_n 0, 1) := by decide +kernel
theorem dX1_remove_18 : decode cX1_remove 18 = .ok (.dup, 1) := by decide +kernel
theorem dX1_remove_19 : decode cX1_remove 19 = .ok (.getfield 28, 3) := by decide +kernel
theorem dX1_remove_22 : decode cX1_remove 22 = .ok (.iconst 1, 1) := by decide +kernel
theorem dX1_remove_23 : decode cX1_remove 23 = .ok (.isub, 1) := by decide +kernel
theorem dX1_remove_24 : decode cX1_remove 24 = .ok (.putfield 28, 3) := by decide +kernel
theorem dX1_remove_27 : decode cX1_remove 27 = .ok (.return_, 1) := by decide +kernel
theorem dX1_open_0 : decode cX1_open 0 = .ok (.aload_n 0, 1) := by decide +kernel
theorem dX1_open_1 : decode cX1_open 1 = .ok (.getfield 28, 3) := by decide +kernel
theorem dX1_open_4 : decode cX1_open 4 = .ok (.iload_n 1, 1) := by decide +kernel
theorem dX1_open_5 : decode cX1_open 5 = .ok (.if_icmp .ge 27, 3) := by decide +kernel
theorem dX1_open_8 : decode cX1_open 8 = .ok (.aload_n 0, 1) := by decide +kernel
theorem dX1_open_9 : decode cX1_open 9 = .ok (.getfield 28, 3) := by decide +kernel
theorem dX1_open_12 : decode cX1_open 12 = .ok (.aload_n 0, 1) := by decide +kernel
theorem dX1_open_13 : decode cX1_open 13 = .ok (.getfield 15, 3) := by decide +kernel
theorem dX1_open_16 : decode cX1_open 16 = .ok (.if_icmp .ge 16, 3) := by decide +kernel
theorem dX1_open_19 : decode cX1_open 19 = .ok (.aload_n 0, 1) := by decide +kernel
theorem dX1_open_20 : decode cX1_open 20 = .ok (.dup, 1) := by decide +kernel
theorem dX1_open_21 : decode cX1_open 21 = .ok (.getfield 28, 3) := by decide +kernel
theorem dX1_open_24 : decode cX1_open 24 = .ok (.iconst 1, 1) := by decide +kernel
theorem dX1_open_25 : decode cX1_open 25 = .ok (.iadd, 1) := by decide +kernel
theorem dX1_open_26 : decode cX1_open 26 = .ok (.putfield 28, 3) := by decide +kernel
theorem dX1_open_29 : decode cX1_open 29 = .ok (.goto 8, 3) := by decide +kernel
theorem dX1_open_32 : decode cX1_open 32 = .ok (.aload_n 0, 1) := by decide +kernel
theorem dX1_open_33 : decode cX1_open 33 = .ok (.iconst 0, 1) := by decide +kernel
theorem dX1_open_34 : decode cX1_open 34 = .ok (.invokevirtual 39, 3) := by decide +kernel
theorem dX1_open_37 : decode cX1_open 37 = .ok (.aload_n 0, 1) := by decide +kernel
theorem dX1_open_38 : decode cX1_open 38 = .ok (.getfield 28, 3) := by decide +kernel
theorem dX1_open_41 : decode cX1_open 41 = .ok (.iconst 1, 1) := by decide +kernel
theorem dX1_open_42 : decode cX1_open 42 = .ok (.isub, 1) := by decide +kernel
theorem dX1_open_43 : decode cX1_open 43 = .ok (.ireturn, 1) := by decide +kernel
theorem dX2_init_0 : decode cX2_init 0 = .ok (.aload_n 0, 1) := by decide +kernel
theorem dX2_init_1 : decode cX2_init 1 = .ok (.invokespecial 3, 3) := by decide +kernel
theorem dX2_init_4 : decode cX2_init 4 = .ok (.aload_n 0, 1) := by decide +kernel
theorem dX2_init_5 : decode cX2_init 5 = .ok (.bipush 8, 2) := by decide +kernel
theorem dX2_init_7 : decode cX2_init 7 = .ok (.anewarray 9, 3) := by decide +kernel
theorem dX2_init_10 : decode cX2_init 10 = .ok (.putfield 11, 3) := by decide +kernel
theorem dX2_init_13 : decode cX2_init 13 = .ok (.iconst 0, 1) := by decide +kernel
theorem dX2_init_14 : decode cX2_init 14 = .ok (.istore_n 1, 1) := by decide +kernel
theorem dX2_init_15 : decode cX2_init 15 = .ok (.iload_n 1, 1) := by decide +kernel
theorem dX2_init_16 : decode cX2_init 16 = .ok (.bipush 8, 2) := by decide +kernel
theorem dX2_init_18 : decode cX2_init 18 = .ok (.if_icmp .ge 24, 3) := by decide +kernel
theorem dX2_init_21 : decode cX2_init 21 = .ok (.aload_n 0, 1) := by decide +kernel
theorem dX2_init_22 : decode cX2_init 22 = .ok (.getfield 11, 3) := by decide +kernel
theorem dX2_init_25 : decode cX2_init 25 = .ok (.iload_n 1, 1) := by decide +kernel
theorem dX2_init_26 : decode cX2_init 26 = .ok (.new 9, 3) := by decide +kernel
theorem dX2_init_29 : decode cX2_init 29 = .ok (.dup, 1) := by decide +kernel
theorem dX2_init_30 : decode cX2_init 30 = .ok (.iconst 4, 1) := by decide +kernel
theorem dX2_init_31 : decode cX2_init 31 = .ok (.iconst 3, 1) := by decide +kernel
theorem dX2_init_32 : decode cX2_init 32 = .ok (.invokespecial 17, 3) := by decide +kernel
theorem dX2_init_35 : decode cX2_init 35 = .ok (.aastore, 1) := by decide +kernel
theorem dX2_init_36 : decode cX2_init 36 = .ok (.iinc 1 1, 3) := by decide +kernel
theorem dX2_init_39 : decode cX2_init 39 = .ok (.goto (-24), 3) := by decide +kernel
theorem dX2_init_42 : decode cX2_init 42 = .ok (.aload_n 0, 1) := by decide +kernel
theorem dX2_init_43 : decode cX2_init 43 = .ok (.new 9, 3) := by decide +kernel
theorem dX2_init_46 : decode cX2_init 46 = .ok (.dup, 1) := by decide +kernel
theorem dX2_init_47 : decode cX2_init 47 = .ok (.bipush 8, 2) := by decide +kernel
theorem dX2_init_49 : decode cX2_init 49 = .ok (.iconst 2, 1) := by decide +kernel
theorem dX2_init_50 : decode cX2_init 50 = .ok (.invokespecial 17, 3) := by decide +kernel
theorem dX2_init_53 : decode cX2_init 53 = .ok (.putfield 20, 3) := by decide +kernel
theorem dX2_init_56 : decode cX2_init 56 = .ok (.aload_n 0, 1) := by decide +kernel
theorem dX2_init_57 : decode cX2_init 57 = .ok (.bipush 6, 2) := by decide +kernel
theorem dX2_init_59 : decode cX2_init 59 = .ok (.anewarray 24, 3) := by decide +kernel
theorem dX2_init_62 : decode cX2_init 62 = .ok (.putfield 26, 3) := by decide +kernel
theorem dX2_init_65 : decode cX2_init 65 = .ok (.iconst 0, 1) := by decide +kernel
theorem dX2_init_66 : decode cX2_init 66 = .ok (.istore_n 1, 1) := by decide +kernel
theorem dX2_init_67 : decode cX2_init 67 = .ok (.iload_n 1, 1) := by decide +kernel
theorem dX2_init_68 : decode cX2_init 68 = .ok (.bipush 6, 2) := by decide +kernel
theorem dX2_init_70 : decode cX2_init 70 = .ok (.if_icmp .ge 22, 3) := by decide +kernel
theorem dX2_init_73 : decode cX2_init 73 = .ok (.aload_n 0, 1) := by decide +kernel
theorem dX2_init_74 : decode cX2_init 74 = .ok (.getfield 26, 3) := by decide +kernel
theorem dX2_init_77 : decode cX2_init 77 = .ok (.iload_n 1, 1) := by decide +kernel
theorem dX2_init_78 : decode cX2_init 78 = .ok (.new 24, 3) := by decide +kernel
theorem dX2_init_81 : decode cX2_init 81 = .ok (.dup, 1) := by decide +kernel
theorem dX2_init_82 : decode cX2_init 82 = .ok (.invokespecial 30, 3) := by decide +kernel
theorem dX2_init_85 : decode cX2_init 85 = .ok (.aastore, 1) := by decide +kernel
theorem dX2_init_86 : decode cX2_init 86 = .ok (.iinc 1 1, 3) := by decide +kernel
theorem dX2_init_89 : decode cX2_init 89 = .ok (.goto (-22), 3) := by decide +kernel
theorem dX2_init_92 : decode cX2_init 92 = .ok (.aload_n 0, 1) := by decide +kernel
theorem dX2_init_93 : decode cX2_init 93 = .ok (.new 9, 3) := by decide +kernel
theorem dX2_init_96 : decode cX2_init 96 = .ok (.dup, 1) := by decide +kernel
theorem dX2_init_97 : decode cX2_init 97 = .ok (.bipush 12, 2) := by decide +kernel
theorem dX2_init_99 : decode cX2_init 99 = .ok (.iconst 5, 1) := by decide +kernel
theorem dX2_init_100 : decode cX2_init 100 = .ok (.invokespecial 17, 3) := by decide +kernel
theorem dX2_init_103 : decode cX2_init 103 = .ok (.putfield 31, 3) := by decide +kernel
theorem dX2_init_106 : decode cX2_init 106 = .ok (.aload_n 0, 1) := by decide +kernel
theorem dX2_init_107 : decode cX2_init 107 = .ok (.iconst 4, 1) := by decide +kernel
theorem dX2_init_108 : decode cX2_init 108 = .ok (.putfield 34, 3) := by decide +kernel
theorem dX2_init_111 : decode cX2_init 111 = .ok (.aload_n 0, 1) := by decide +kernel
theorem dX2_init_112 : decode cX2_init 112 = .ok (.iconst 2, 1) := by decide +kernel
theorem dX2_init_113 : decode cX2_init 113 = .ok (.putfield 38, 3) := by decide +kernel
theorem dX2_init_116 : decode cX2_init 116 = .ok (.aload_n 0, 1) := by decide +kernel
theorem dX2_init_117 : decode cX2_init 117 = .ok (.iconst 0, 1) := by decide +kernel
theorem dX2_init_118 : decode cX2_init 118 = .ok (.putfield 41, 3) := by decide +kernel
theorem dX2_init_121 : decode cX2_init 121 = .ok (.aload_n 0, 1) := by decide +kernel
theorem dX2_init_122 : decode cX2_init 122 = .ok (.iconst 3, 1) := by decide +kernel
theorem dX2_init_123 : decode cX2_init 123 = .ok (.putfield 44, 3) := by decide +kernel
theorem dX2_init_126 : decode cX2_init 126 = .ok (.aload_n 0, 1) := by decide +kernel
theorem dX2_init_127 : decode cX2_init 127 = .ok (.iconst 0, 1) := by decide +kernel
theorem dX2_init_128 : decode cX2_init 128 = .ok (.putfield 47, 3) := by decide +kernel
theorem dX2_init_131 : decode cX2_init 131 = .ok (.aload_n 0, 1) := by decide +kernel
theorem dX2_init_132 : decode cX2_init 132 = .ok (.iconst 0, 1) := by decide +kernel
theorem dX2_init_133 : decode cX2_init 133 = .ok (.putfield 50, 3) := by decide +kernel
theorem dX2_init_136 : decode cX2_init 136 = .ok (.aload_n 0, 1) := by decide +kernel
theorem dX2_init_137 : decode cX2_init 137 = .ok (.iconst 0, 1) := by decide +kernel
theorem dX2_init_138 : decode cX2_init 138 = .ok (.putfield 53, 3) := by decide +kernel
theorem dX2_init_141 : decode cX2_init 141 = .ok (.aload_n 0, 1) := by decide +kernel
theorem dX2_init_142 : decode cX2_init 142 = .ok (.iconst 0, 1) := by decide +kernel
theorem dX2_init_143 : decode cX2_init 143 = .ok (.putfield 56, 3) := by decide +kernel
theorem dX2_init_146 : decode cX2_init 146 = .ok (.aload_n 0, 1) := by decide +kernel
theorem dX2_init_147 : decode cX2_init 147 = .ok (.iconst 0, 1) := by decide +kernel
theorem dX2_init_148 : decode cX2_init 148 = .ok (.putfield 59, 3) := by decide +kernel
theorem dX2_init_151 : decode cX2_init 151 = .ok (.return_, 1) := by decide +kernel
theorem dX2_copyFrom_0 : decode cX2_copyFrom 0 = .ok (.iconst 0, 1) := by decide +kernel
theorem dX2_copyFrom_1 : decode cX2_copyFrom 1 = .ok (.istore_n 2, 1) := by decide +kernel
theorem dX2_copyFrom_2 : decode cX2_copyFrom 2 = .ok (.iload_n 2, 1) := by decide +kernel
theorem dX2_copyFrom_3 : decode cX2_copyFrom 3 = .ok (.bipush 8, 2) := by decide +kernel
theorem dX2_copyFrom_5 : decode cX2_copyFrom 5 = .ok (.if_icmp .ge 24, 3) := by decide +kernel
theorem dX2_copyFrom_8 : decode cX2_copyFrom 8 = .ok (.aload_n 0, 1) := by decide +kernel
theorem dX2_copyFrom_9 : decode cX2_copyFrom 9 = .ok (.getfield 11, 3) := by decide +kernel
theorem dX2_copyFrom_12 : decode cX2_copyFrom 12 = .ok (.iload_n 2, 1) := by decide +kernel
theorem dX2_copyFrom_13 : decode cX2_copyFrom 13 = .ok (.aaload, 1) := by decide +kernel
theorem dX2_copyFrom_14 : decode cX2_copyFrom 14 = .ok (.aload_n 1, 1) := by decide +kernel
theorem dX2_copyFrom_15 : decode cX2_copyFrom 15 = .ok (.getfield 11, 3) := by decide +kernel
theorem dX2_copyFrom_18 : decode cX2_copyFrom 18 = .ok (.iload_n 2, 1) := by decide +kernel
theorem dX2_copyFrom_19 : decode cX2_copyFrom 19 = .ok (.aaload, 1) := by decide +kernel
theorem dX2_copyFrom_20 : decode cX2_copyFrom 20 = .ok (.invokevirtual 62, 3) := by decide +kernel
theorem dX2_copyFrom_23 : decode cX2_copyFrom 23 = .ok (.iinc 2 1, 3) := by decide +kernel
theorem dX2_copyFrom_26 : decode cX2_copyFrom 26 = .ok (.goto (-24), 3) := by decide +kernel
theorem dX2_copyFrom_29 : decode cX2_copyFrom 29 = .ok (.aload_n 0, 1) := by decide +kernel
theorem dX2_copyFrom_30 : decode cX2_copyFrom 30 = .ok (.getfield 20, 3) := by decide +kernel
theorem dX2_copyFrom_33 : decode cX2_copyFrom 33 = .ok (.aload_n 1, 1) := by decide +kernel
theorem dX2_copyFrom_34 : decode cX2_copyFrom 34 = .ok (.getfield 20, 3) := by decide +kernel
theorem dX2_copyFrom_37 : decode cX2_copyFrom 37 = .ok (.invokevirtual 62, 3) := by decide +kernel
theorem dX2_copyFrom_40 : decode cX2_copyFrom 40 = .ok (.iconst 0, 1) := by decide +kernel
theorem dX2_copyFrom_41 : decode cX2_copyFrom 41 = .ok (.istore_n 2, 1) := by decide +kernel
theorem dX2_copyFrom_42 : decode cX2_copyFrom 42 = .ok (.iload_n 2, 1) := by decide +kernel
theorem dX2_copyFrom_43 : decode cX2_copyFrom 43 = .ok (.bipush 6, 2) := by decide +kernel
theorem dX2_copyFrom_45 : decode cX2_copyFrom 45 = .ok (.if_icmp .ge 24, 3) := by decide +kernel
theorem dX2_copyFrom_48 : decode cX2_copyFrom 48 = .ok (.aload_n 0, 1) := by decide +kernel
theorem dX2_copyFrom_49 : decode cX2_copyFrom 49 = .ok (.getfield 26, 3) := by decide +kernel
theorem dX2_copyFrom_52 : decode cX2_copyFrom 52 = .ok (.iload_n 2, 1) := by decide +kernel
theorem dX2_copyFrom_53 : decode cX2_copyFrom 53 = .ok (.aaload, 1) := by decide +kernel
theorem dX2_copyFrom_54 : decode cX2_copyFrom 54 = .ok (.aload_n 1, 1) := by decide +kernel
theorem dX2_copyFrom_55 : decode cX2_copyFrom 55 = .ok (.getfield 26, 3) := by decide +kernel
theorem dX2_copyFrom_58 : decode cX2_copyFrom 58 = .ok (.iload_n 2, 1) := by decide +kernel
theorem dX2_copyFrom_59 : decode cX2_copyFrom 59 = .ok (.aaload, 1) := by decide +kernel
theorem dX2_copyFrom_60 : decode cX2_copyFrom 60 = .ok (.invokevirtual 66, 3) := by decide +kernel
theorem dX2_copyFrom_63 : decode cX2_copyFrom 63 = .ok (.iinc 2 1, 3) := by decide +kernel
theorem dX2_copyFrom_66 : decode cX2_copyFrom 66 = .ok (.goto (-24), 3) := by decide +kernel
theorem dX2_copyFrom_69 : decode cX2_copyFrom 69 = .ok (.aload_n 0, 1) := by decide +kernel
theorem dX2_copyFrom_70 : decode cX2_copyFrom 70 = .ok (.getfield 31, 3) := by decide +kernel
theorem dX2_copyFrom_73 : decode cX2_copyFrom 73 = .ok (.aload_n 1, 1) := by decide +kernel
theorem dX2_copyFrom_74 : decode cX2_copyFrom 74 = .ok (.getfield 31, 3) := by decide +kernel
theorem dX2_copyFrom_77 : decode cX2_copyFrom 77 = .ok (.invokevirtual 62, 3) := by decide +kernel
theorem dX2_copyFrom_80 : decode cX2_copyFrom 80 = .ok (.aload_n 0, 1) := by decide +kernel
theorem dX2_copyFrom_81 : decode cX2_copyFrom 81 = .ok (.aload_n 1, 1) := by decide +kernel
theorem dX2_copyFrom_82 : decode cX2_copyFrom 82 = .ok (.getfield 34, 3) := by decide +kernel
theorem dX2_copyFrom_85 : decode cX2_copyFrom 85 = .ok (.putfield 34, 3) := by decide +kernel
theorem dX2_copyFrom_88 : decode cX2_copyFrom 88 = .ok (.aload_n 0, 1) := by decide +kernel
theorem dX2_copyFrom_89 : decode cX2_copyFrom 89 = .ok (.aload_n 1, 1) := by decide +kernel
theorem dX2_copyFrom_90 : decode cX2_copyFrom 90 = .ok (.getfield 38, 3) := by decide +kernel
theorem dX2_copyFrom_93 : decode cX2_copyFrom 93 = .ok (.putfield 38, 3) := by decide +kernel
theorem dX2_copyFrom_96 : decode cX2_copyFrom 96 = .ok (.aload_n 0, 1) := by decide +kernel
theorem dX2_copyFrom_97 : decode cX2_copyFrom 97 = .ok (.aload_n 1, 1) := by decide +kernel
theorem dX2_copyFrom_98 : decode cX2_copyFrom 98 = .ok (.getfield 41, 3) := by decide +kernel
theorem dX2_copyFrom_101 : decode cX2_copyFrom 101 = .ok (.putfield 41, 3) := by decide +kernel
theorem dX2_copyFrom_104 : decode cX2_copyFrom 104 = .ok (.aload_n 0, 1) := by decide +kernel
theorem dX2_copyFrom_105 : decode cX2_copyFrom 105 = .ok (.aload_n 1, 1) := by decide +kernel
theorem dX2_copyFrom_106 : decode cX2_copyFrom 106 = .ok (.getfield 44, 3) := by decide +kernel
theorem dX2_copyFrom_109 : decode cX2_copyFrom 109 = .ok (.putfield 44, 3) := by decide +kernel
theorem dX2_copyFrom_112 : decode cX2_copyFrom 112 = .ok (.aload_n 0, 1) := by decide +kernel
theorem dX2_copyFrom_113 : decode cX2_copyFrom 113 = .ok (.aload_n 1, 1) := by decide +kernel
theorem dX2_copyFrom_114 : decode cX2_copyFrom 114 = .ok (.getfield 47, 3) := by decide +kernel
theorem dX2_copyFrom_117 : decode cX2_copyFrom 117 = .ok (.putfield 47, 3) := by decide +kernel
theorem dX2_copyFrom_120 : decode cX2_copyFrom 120 = .ok (.aload_n 0, 1) := by decide +kernel
theorem dX2_copyFrom_121 : decode cX2_copyFrom 121 = .ok (.aload_n 1, 1) := by decide +kernel
theorem dX2_copyFrom_122 : decode cX2_copyFrom 122 = .ok (.getfield 50, 3) := by decide +kernel
theorem dX2_copyFrom_125 : decode cX2_copyFrom 125 = .ok (.putfield 50, 3) := by decide +kernel
theorem dX2_copyFrom_128 : decode cX2_copyFrom 128 = .ok (.aload_n 0, 1) := by decide +kernel
theorem dX2_copyFrom_129 : decode cX2_copyFrom 129 = .ok (.aload_n 1, 1) := by decide +kernel
theorem dX2_copyFrom_130 : decode cX2_copyFrom 130 = .ok (.getfield 53, 3) := by decide +kernel
theorem dX2_copyFrom_133 : decode cX2_copyFrom 133 = .ok (.putfield 53, 3) := by decide +kernel
theorem dX2_copyFrom_136 : decode cX2_copyFrom 136 = .ok (.aload_n 0, 1) := by decide +kernel
theorem dX2_copyFrom_137 : decode cX2_copyFrom 137 = .ok (.aload_n 1, 1) := by decide +kernel
theorem dX2_copyFrom_138 : decode cX2_copyFrom 138 = .ok (.getfield 56, 3) := by decide +kernel
theorem dX2_copyFrom_141 : decode cX2_copyFrom 141 = .ok (.putfield 56, 3) := by decide +kernel
theorem dX2_copyFrom_144 : decode cX2_copyFrom 144 = .ok (.aload_n 0, 1) := by decide +kernel
theorem dX2_copyFrom_145 : decode cX2_copyFrom 145 = .ok (.aload_n 1, 1) := by decide +kernel
theorem dX2_copyFrom_146 : decode cX2_copyFrom 146 = .ok (.getfield 59, 3) := by decide +kernel
theorem dX2_copyFrom_149 : decode cX2_copyFrom 149 = .ok (.putfield 59, 3) := by decide +kernel
theorem dX2_copyFrom_152 : decode cX2_copyFrom 152 = .ok (.return_, 1) := by decide +kernel
theorem dX2_setAt_0 : decode cX2_setAt 0 = .ok (.aload_n 0, 1) := by decide +kernel
theorem dX2_setAt_1 : decode cX2_setAt 1 = .ok (.getfield 11, 3) := by decide +kernel
theorem dX2_setAt_4 : decode cX2_setAt 4 = .ok (.iload_n 1, 1) := by decide +kernel
theorem dX2_setAt_5 : decode cX2_setAt 5 = .ok (.iconst 0, 1) := by decide +kernel
theorem dX2_setAt_6 : decode cX2_setAt 6 = .ok (.bipush 7, 2) := by decide +kernel
theorem dX2_setAt_8 : decode cX2_setAt 8 = .ok (.invokestatic 69, 3) := by decide +kernel
theorem dX2_setAt_11 : decode cX2_setAt 11 = .ok (.ifCond .eq 7, 3) := by decide +kernel
theorem dX2_setAt_14 : decode cX2_setAt 14 = .ok (.iconst 0, 1) := by decide +kernel
theorem dX2_setAt_15 : decode cX2_setAt 15 = .ok (.goto 4, 3) := by decide +kernel
theorem dX2_setAt_18 : decode cX2_setAt 18 = .ok (.iload_n 1, 1) := by decide +kernel
theorem dX2_setAt_19 : decode cX2_setAt 19 = .ok (.aaload, 1) := by decide +kernel
theorem dX2_setAt_20 : decode cX2_setAt 20 = .ok (.areturn, 1) := by decide +kernel
theorem dX2_setOf_0 : decode cX2_setOf 0 = .ok (.aload_n 0, 1) := by decide +kernel
theorem dX2_setOf_1 : decode cX2_setOf 1 = .ok (.aload_n 0, 1) := by decide +kernel
theorem dX2_setOf_2 : decode cX2_setOf 2 = .ok (.getfield 34, 3) := by decide +kernel
theorem dX2_setOf_5 : decode cX2_setOf 5 = .ok (.ifCond .le 12, 3) := by decide +kernel
theorem dX2_setOf_8 : decode cX2_setOf 8 = .ok (.iload_n 1, 1) := by decide +kernel
theorem dX2_setOf_9 : decode cX2_setOf 9 = .ok (.aload_n 0, 1) := by decide +kernel
theorem dX2_setOf_10 : decode cX2_setOf 10 = .ok (.getfield 34, 3) := by decide +kernel
theorem dX2_setOf_13 : decode cX2_setOf 13 = .ok (.irem, 1) := by decide +kernel
theorem dX2_setOf_14 : decode cX2_setOf 14 = .ok (.goto 4, 3) := by decide +kernel
theorem dX2_setOf_17 : decode cX2_setOf 17 = .ok (.iconst 0, 1) := by decide +kernel
theorem dX2_setOf_18 : decode cX2_setOf 18 = .ok (.invokevirtual 73, 3) := by decide +kernel
theorem dX2_setOf_21 : decode cX2_setOf 21 = .ok (.areturn, 1) := by decide +kernel
theorem dX2_helperAt_0 : decode cX2_helperAt 0 = .ok (.iload_n 1, 1) := by decide +kernel
theorem dX2_helperAt_1 : decode cX2_helperAt 1 = .ok (.iconst 0, 1) := by decide +kernel
theorem dX2_helperAt_2 : decode cX2_helperAt 2 = .ok (.aload_n 0, 1) := by decide +kernel
theorem dX2_helperAt_3 : decode cX2_helperAt 3 = .ok (.getfield 41, 3) := by decide +kernel
theorem dX2_helperAt_6 : decode cX2_helperAt 6 = .ok (.bipush 6, 2) := by decide +kernel
theorem dX2_helperAt_8 : decode cX2_helperAt 8 = .ok (.invokestatic 77, 3) := by decide +kernel
theorem dX2_helperAt_11 : decode cX2_helperAt 11 = .ok (.iconst 1, 1) := by decide +kernel
theorem dX2_helperAt_12 : decode cX2_helperAt 12 = .ok (.isub, 1) := by decide +kernel
theorem dX2_helperAt_13 : decode cX2_helperAt 13 = .ok (.invokestatic 69, 3) := by decide +kernel
theorem dX2_helperAt_16 : decode cX2_helperAt 16 = .ok (.ifCond .eq 7, 3) := by decide +kernel
theorem dX2_helperAt_19 : decode cX2_helperAt 19 = .ok (.aconst_null, 1) := by decide +kernel
theorem dX2_helperAt_20 : decode cX2_helperAt 20 = .ok (.goto 9, 3) := by decide +kernel
theorem dX2_helperAt_23 : decode cX2_helperAt 23 = .ok (.aload_n 0, 1) := by decide +kernel
theorem dX2_helperAt_24 : decode cX2_helperAt 24 = .ok (.getfield 26, 3) := by decide +kernel
theorem dX2_helperAt_27 : decode cX2_helperAt 27 = .ok (.iload_n 1, 1) := by decide +kernel
theorem dX2_helperAt_28 : decode cX2_helperAt 28 = .ok (.aaload, 1) := by decide +kernel
theorem dX2_helperAt_29 : decode cX2_helperAt 29 = .ok (.areturn, 1) := by decide +kernel
theorem dX2_hire_0 : decode cX2_hire 0 = .ok (.aload_n 0, 1) := by decide +kernel
theorem dX2_hire_1 : decode cX2_hire 1 = .ok (.getfield 41, 3) := by decide +kernel
theorem dX2_hire_4 : decode cX2_hire 4 = .ok (.iconst 0, 1) := by decide +kernel
theorem dX2_hire_5 : decode cX2_hire 5 = .ok (.iconst 5, 1) := by decide +kernel
theorem dX2_hire_6 : decode cX2_hire 6 = .ok (.invokestatic 69, 3) := by decide +kernel
theorem dX2_hire_9 : decode cX2_hire 9 = .ok (.ifCond .eq 6, 3) := by decide +kernel
theorem dX2_hire_12 : decode cX2_hire 12 = .ok (.ldc 83, 2) := by decide +kernel
theorem dX2_hire_14 : decode cX2_hire 14 = .ok (.ireturn, 1) := by decide +kernel
theorem dX2_hire_15 : decode cX2_hire 15 = .ok (.aload_n 0, 1) := by decide +kernel
theorem dX2_hire_16 : decode cX2_hire 16 = .ok (.getfield 26, 3) := by decide +kernel
theorem dX2_hire_19 : decode cX2_hire 19 = .ok (.aload_n 0, 1) := by decide +kernel
theorem dX2_hire_20 : decode cX2_hire 20 = .ok (.getfield 41, 3) := by decide +kernel
theorem dX2_hire_23 : decode cX2_hire 23 = .ok (.aaload, 1) := by decide +kernel
theorem dX2_hire_24 : decode cX2_hire 24 = .ok (.iload_n 1, 1) := by decide +kernel
theorem dX2_hire_25 : decode cX2_hire 25 = .ok (.iload_n 2, 1) := by decide +kernel
theorem dX2_hire_26 : decode cX2_hire 26 = .ok (.iload_n 3, 1) := by decide +kernel
theorem dX2_hire_27 : decode cX2_hire 27 = .ok (.invokevirtual 84, 3) := by decide +kernel
theorem dX2_hire_30 : decode cX2_hire 30 = .ok (.aload_n 0, 1) := by decide +kernel
theorem dX2_hire_31 : decode cX2_hire 31 = .ok (.dup, 1) := by decide +kernel
theorem dX2_hire_32 : decode cX2_hire 32 = .ok (.getfield 41, 3) := by decide +kernel
theorem dX2_hire_35 : decode cX2_hire 35 = .ok (.iconst 1, 1) := by decide +kernel
theorem dX2_hire_36 : decode cX2_hire 36 = .ok (.iadd, 1) := by decide +kernel
theorem dX2_hire_37 : decode cX2_hire 37 = .ok (.putfield 41, 3) := by decide +kernel
theorem dX2_hire_40 : decode cX2_hire 40 = .ok (.aload_n 0, 1) := by decide +kernel
theorem dX2_hire_41 : decode cX2_hire 41 = .ok (.getfield 41, 3) := by decide +kernel
theorem dX2_hire_44 : decode cX2_hire 44 = .ok (.iconst 1, 1) := by decide +kernel
theorem dX2_hire_45 : decode cX2_hire 45 = .ok (.isub, 1) := by decide +kernel
theorem dX2_hire_46 : decode cX2_hire 46 = .ok (.ireturn, 1) := by decide +kernel
theorem dX2_perform_0 : decode cX2_perform 0 = .ok (.iconst 0, 1) := by decide +kernel
theorem dX2_perform_1 : decode cX2_perform 1 = .ok (.istore_n 3, 1) := by decide +kernel
theorem dX2_perform_2 : decode cX2_perform 2 = .ok (.iload_n 3, 1) := by decide +kernel
theorem dX2_perform_3 : decode cX2_perform 3 = .ok (.aload_n 0, 1) := by decide +kernel
theorem dX2_perform_4 : decode cX2_perform 4 = .ok (.getfield 41, 3) := by decide +kernel
theorem dX2_perform_7 : decode cX2_perform 7 = .ok (.if_icmp .ge 22, 3) := by decide +kernel
theorem dX2_perform_10 : decode cX2_perform 10 = .ok (.aload_n 0, 1) := by decide +kernel
theorem dX2_perform_11 : decode cX2_perform 11 = .ok (.getfield 26, 3) := by decide +kernel
theorem dX2_perform_14 : decode cX2_perform 14 = .ok (.iload_n 3, 1) := by decide +kernel
theorem dX2_perform_15 : decode cX2_perform 15 = .ok (.aaload, 1) := by decide +kernel
theorem dX2_perform_16 : decode cX2_perform 16 = .ok (.aload_n 0, 1) := by decide +kernel
theorem dX2_perform_17 : decode cX2_perform 17 = .ok (.getfield 44, 3) := by decide +kernel
theorem dX2_perform_20 : decode cX2_perform 20 = .ok (.invokevirtual 88, 3) := by decide +kernel
theorem dX2_perform_23 : decode cX2_perform 23 = .ok (.iinc 3 1, 3) := by decide +kernel
theorem dX2_perform_26 : decode cX2_perform 26 = .ok (.goto (-24), 3) := by decide +kernel
theorem dX2_perform_29 : decode cX2_perform 29 = .ok (.aload_n 0, 1) := by decide +kernel
theorem dX2_perform_30 : decode cX2_perform 30 = .ok (.iload_n 2, 1) := by decide +kernel
theorem dX2_perform_31 : decode cX2_perform 31 = .ok (.invokevirtual 92, 3) := by decide +kernel
theorem dX2_perform_34 : decode cX2_perform 34 = .ok (.istore_n 3, 1) := by decide +kernel
theorem dX2_perform_35 : decode cX2_perform 35 = .ok (.iconst 0, 1) := by decide +kernel
theorem dX2_perform_36 : decode cX2_perform 36 = .ok (.istore 4, 2) := by decide +kernel
theorem dX2_perform_38 : decode cX2_perform 38 = .ok (.iconst 0, 1) := by decide +kernel
theorem dX2_perform_39 : decode cX2_perform 39 = .ok (.istore 5, 2) := by decide +kernel
theorem dX2_perform_41 : decode cX2_perform 41 = .ok (.iload 5, 2) := by decide +kernel
theorem dX2_perform_43 : decode cX2_perform 43 = .ok (.aload_n 0, 1) := by decide +kernel
theorem dX2_perform_44 : decode cX2_perform 44 = .ok (.getfield 41, 3) := by decide +kernel
theorem dX2_perform_47 : decode cX2_perform 47 = .ok (.if_icmp .ge 33, 3) := by decide +kernel
theorem dX2_perform_50 : decode cX2_perform 50 = .ok (.aload_n 0, 1) := by decide +kernel
theorem dX2_perform_51 : decode cX2_perform 51 = .ok (.getfield 26, 3) := by decide +kernel
theorem dX2_perform_54 : decode cX2_perform 54 = .ok (.iload 5, 2) := by decide +kernel
theorem dX2_perform_56 : decode cX2_perform 56 = .ok (.aaload, 1) := by decide +kernel
theorem dX2_perform_57 : decode cX2_perform 57 = .ok (.iload_n 1, 1) := by decide +kernel
theorem dX2_perform_58 : decode cX2_perform 58 = .ok (.iload_n 2, 1) := by decide +kernel
theorem dX2_perform_59 : decode cX2_perform 59 = .ok (.iload_n 3, 1) := by decide +kernel
theorem dX2_perform_60 : decode cX2_perform 60 = .ok (.invokevirtual 96, 3) := by decide +kernel
theorem dX2_perform_63 : decode cX2_perform 63 = .ok (.iload 4, 2) := by decide +kernel
theorem dX2_perform_65 : decode cX2_perform 65 = .ok (.aload_n 0, 1) := by decide +kernel
theorem dX2_perform_66 : decode cX2_perform 66 = .ok (.iload 5, 2) := by decide +kernel
theorem dX2_perform_68 : decode cX2_perform 68 = .ok (.invokevirtual 99, 3) := by decide +kernel
theorem dX2_perform_71 : decode cX2_perform 71 = .ok (.iadd, 1) := by decide +kernel
theorem dX2_perform_72 : decode cX2_perform 72 = .ok (.istore 4, 2) := by decide +kernel
theorem dX2_perform_74 : decode cX2_perform 74 = .ok (.iinc 5 1, 3) := by decide +kernel
theorem dX2_perform_77 : decode cX2_perform 77 = .ok (.goto (-36), 3) := by decide +kernel
theorem dX2_perform_80 : decode cX2_perform 80 = .ok (.aload_n 0, 1) := by decide +kernel
theorem dX2_perform_81 : decode cX2_perform 81 = .ok (.iload_n 1, 1) := by decide +kernel
theorem dX2_perform_82 : decode cX2_perform 82 = .ok (.iload_n 2, 1) := by decide +kernel
theorem dX2_perform_83 : decode cX2_perform 83 = .ok (.iload_n 3, 1) := by decide +kernel
theorem dX2_perform_84 : decode cX2_perform 84 = .ok (.iload 4, 2) := by decide +kernel
theorem dX2_perform_86 : decode cX2_perform 86 = .ok (.invokevirtual 102, 3) := by decide +kernel
theorem dX2_perform_89 : decode cX2_perform 89 = .ok (.aload_n 0, 1) := by decide +kernel
theorem dX2_perform_90 : decode cX2_perform 90 = .ok (.dup, 1) := by decide +kernel
theorem dX2_perform_91 : decode cX2_perform 91 = .ok (.getfield 47, 3) := by decide +kernel
theorem dX2_perform_94 : decode cX2_perform 94 = .ok (.iconst 1, 1) := by decide +kernel
theorem dX2_perform_95 : decode cX2_perform 95 = .ok (.iadd, 1) := by decide +kernel
theorem dX2_perform_96 : decode cX2_perform 96 = .ok (.putfield 47, 3) := by decide +kernel
theorem dX2_perform_99 : decode cX2_perform 99 = .ok (.aload_n 0, 1) := by decide +kernel
theorem dX2_perform_100 : decode cX2_perform 100 = .ok (.dup, 1) := by decide +kernel
theorem dX2_perform_101 : decode cX2_perform 101 = .ok (.getfield 56, 3) := by decide +kernel
theorem dX2_perform_104 : decode cX2_perform 104 = .ok (.iload 4, 2) := by decide +kernel
theorem dX2_perform_106 : decode cX2_perform 106 = .ok (.iadd, 1) := by decide +kernel
theorem dX2_perform_107 : decode cX2_perform 107 = .ok (.putfield 56, 3) := by decide +kernel
theorem dX2_perform_110 : decode cX2_perform 110 = .ok (.iload_n 3, 1) := by decide +kernel
theorem dX2_perform_111 : decode cX2_perform 111 = .ok (.ifCond .eq 13, 3) := by decide +kernel
theorem dX2_perform_114 : decode cX2_perform 114 = .ok (.aload_n 0, 1) := by decide +kernel
theorem dX2_perform_115 : decode cX2_perform 115 = .ok (.dup, 1) := by decide +kernel
theorem dX2_perform_116 : decode cX2_perform 116 = .ok (.getfield 50, 3) := by decide +kernel
theorem dX2_perform_119 : decode cX2_perform 119 = .ok (.iconst 1, 1) := by decide +kernel
theorem dX2_perform_120 : decode cX2_perform 120 = .ok (.iadd, 1) := by decide +kernel
theorem dX2_perform_121 : decode cX2_perform 121 = .ok (.putfield 50, 3) := by decide +kernel
theorem dX2_perform_124 : decode cX2_perform 124 = .ok (.iload_n 3, 1) := by decide +kernel
theorem dX2_perform_125 : decode cX2_perform 125 = .ok (.iconst 2, 1) := by decide +kernel
theorem dX2_perform_126 : decode cX2_perform 126 = .ok (.if_icmp .ne 13, 3) := by decide +kernel
theorem dX2_perform_129 : decode cX2_perform 129 = .ok (.aload_n 0, 1) := by decide +kernel
theorem dX2_perform_130 : decode cX2_perform 130 = .ok (.dup, 1) := by decide +kernel
theorem dX2_perform_131 : decode cX2_perform 131 = .ok (.getfield 53, 3) := by decide +kernel
theorem dX2_perform_134 : decode cX2_perform 134 = .ok (.iconst 1, 1) := by decide +kernel
theorem dX2_perform_135 : decode cX2_perform 135 = .ok (.iadd, 1) := by decide +kernel
theorem dX2_perform_136 : decode cX2_perform 136 = .ok (.putfield 53, 3) := by decide +kernel
theorem dX2_perform_139 : decode cX2_perform 139 = .ok (.iload_n 3, 1) := by decide +kernel
theorem dX2_perform_140 : decode cX2_perform 140 = .ok (.ireturn, 1) := by decide +kernel
theorem dX2_performWalk_0 : decode cX2_performWalk 0 = .ok (.iconst 0, 1) := by decide +kernel
theorem dX2_performWalk_1 : decode cX2_performWalk 1 = .ok (.istore 5, 2) := by decide +kernel
theorem dX2_performWalk_3 : decode cX2_performWalk 3 = .ok (.iconst 0, 1) := by decide +kernel
theorem dX2_performWalk_4 : decode cX2_performWalk 4 = .ok (.istore 6, 2) := by decide +kernel
theorem dX2_performWalk_6 : decode cX2_performWalk 6 = .ok (.iload 6, 2) := by decide +kernel
theorem dX2_performWalk_8 : decode cX2_performWalk 8 = .ok (.iload 4, 2) := by decide +kernel
theorem dX2_performWalk_10 : decode cX2_performWalk 10 = .ok (.if_icmp .ge 26, 3) := by decide +kernel
theorem dX2_performWalk_13 : decode cX2_performWalk 13 = .ok (.aload_n 0, 1) := by decide +kernel
theorem dX2_performWalk_14 : decode cX2_performWalk 14 = .ok (.iload_n 1, 1) := by decide +kernel
theorem dX2_performWalk_15 : decode cX2_performWalk 15 = .ok (.iload_n 2, 1) := by decide +kernel
theorem dX2_performWalk_16 : decode cX2_performWalk 16 = .ok (.iload 6, 2) := by decide +kernel
theorem dX2_performWalk_18 : decode cX2_performWalk 18 = .ok (.iload_n 3, 1) := by decide +kernel
theorem dX2_performWalk_19 : decode cX2_performWalk 19 = .ok (.imul, 1) := by decide +kernel
theorem dX2_performWalk_20 : decode cX2_performWalk 20 = .ok (.iadd, 1) := by decide +kernel
theorem dX2_performWalk_21 : decode cX2_performWalk 21 = .ok (.invokevirtual 106, 3) := by decide +kernel
theorem dX2_performWalk_24 : decode cX2_performWalk 24 = .ok (.ifCond .eq 6, 3) := by decide +kernel
theorem dX2_performWalk_27 : decode cX2_performWalk 27 = .ok (.iinc 5 1, 3) := by decide +kernel
theorem dX2_performWalk_30 : decode cX2_performWalk 30 = .ok (.iinc 6 1, 3) := by decide +kernel
theorem dX2_performWalk_33 : decode cX2_performWalk 33 = .ok (.goto (-27), 3) := by decide +kernel
theorem dX2_performWalk_36 : decode cX2_performWalk 36 = .ok (.iload 5, 2) := by decide +kernel
theorem dX2_performWalk_38 : decode cX2_performWalk 38 = .ok (.ireturn, 1) := by decide +kernel
theorem dX2_serve_0 : decode cX2_serve 0 = .ok (.aload_n 0, 1) := by decide +kernel
theorem dX2_serve_1 : decode cX2_serve 1 = .ok (.iload_n 1, 1) := by decide +kernel
theorem dX2_serve_2 : decode cX2_serve 2 = .ok (.invokevirtual 109, 3) := by decide +kernel
theorem dX2_serve_5 : decode cX2_serve 5 = .ok (.astore_n 2, 1) := by decide +kernel
theorem dX2_serve_6 : decode cX2_serve 6 = .ok (.aload_n 2, 1) := by decide +kernel
theorem dX2_serve_7 : decode cX2_serve 7 = .ok (.iload_n 1, 1) := by decide +kernel
theorem dX2_serve_8 : decode cX2_serve 8 = .ok (.invokevirtual 112, 3) := by decide +kernel
theorem dX2_serve_11 : decode cX2_serve 11 = .ok (.istore_n 3, 1) := by decide +kernel
theorem dX2_serve_12 : decode cX2_serve 12 = .ok (.iload_n 3, 1) := by decide +kernel
theorem dX2_serve_13 : decode cX2_serve 13 = .ok (.ifCond .ge 17, 3) := by decide +kernel
theorem dX2_serve_16 : decode cX2_serve 16 = .ok (.aload_n 0, 1) := by decide +kernel
theorem dX2_serve_17 : decode cX2_serve 17 = .ok (.iload_n 1, 1) := by decide +kernel
theorem dX2_serve_18 : decode cX2_serve 18 = .ok (.invokevirtual 115, 3) := by decide +kernel
theorem dX2_serve_21 : decode cX2_serve 21 = .ok (.aload_n 0, 1) := by decide +kernel
theorem dX2_serve_22 : decode cX2_serve 22 = .ok (.iload_n 1, 1) := by decide +kernel
theorem dX2_serve_23 : decode cX2_serve 23 = .ok (.ldc 118, 2) := by decide +kernel
theorem dX2_serve_25 : decode cX2_serve 25 = .ok (.invokevirtual 119, 3) := by decide +kernel
theorem dX2_serve_28 : decode cX2_serve 28 = .ok (.iconst 0, 1) := by decide +kernel
theorem dX2_serve_29 : decode cX2_serve 29 = .ok (.ireturn, 1) := by decide +kernel
theorem dX2_serve_30 : decode cX2_serve 30 = .ok (.aload_n 2, 1) := by decide +kernel
theorem dX2_serve_31 : decode cX2_serve 31 = .ok (.iload_n 3, 1) := by decide +kernel
theorem dX2_serve_32 : decode cX2_serve 32 = .ok (.iconst 2, 1) := by decide +kernel
theorem dX2_serve_33 : decode cX2_serve 33 = .ok (.invokevirtual 122, 3) := by decide +kernel
theorem dX2_serve_36 : decode cX2_serve 36 = .ok (.iconst 1, 1) := by decide +kernel
theorem dX2_serve_37 : decode cX2_serve 37 = .ok (.if_icmp .ne 7, 3) := by decide +kernel
theorem dX2_serve_40 : decode cX2_serve 40 = .ok (.iconst 1, 1) := by decide +kernel
theorem dX2_serve_41 : decode cX2_serve 41 = .ok (.goto 4, 3) := by decide +kernel
theorem dX2_serve_44 : decode cX2_serve 44 = .ok (.iconst 0, 1) := by decide +kernel
theorem dX2_serve_45 : decode cX2_serve 45 = .ok (.istore 4, 2) := by decide +kernel
theorem dX2_serve_47 : decode cX2_serve 47 = .ok (.aload_n 0, 1) := by decide +kernel
theorem dX2_serve_48 : decode cX2_serve 48 = .ok (.aload_n 2, 1) := by decide +kernel
theorem dX2_serve_49 : decode cX2_serve 49 = .ok (.iload_n 3, 1) := by decide +kernel
theorem dX2_serve_50 : decode cX2_serve 50 = .ok (.iconst 1, 1) := by decide +kernel
theorem dX2_serve_51 : decode cX2_serve 51 = .ok (.invokevirtual 122, 3) := by decide +kernel
theorem dX2_serve_54 : decode cX2_serve 54 = .ok (.invokevirtual 125, 3) := by decide +kernel
theorem dX2_serve_57 : decode cX2_serve 57 = .ok (.astore 5, 2) := by decide +kernel
theorem dX2_serve_59 : decode cX2_serve 59 = .ok (.aload_n 2, 1) := by decide +kernel
theorem dX2_serve_60 : decode cX2_serve 60 = .ok (.iload_n 3, 1) := by decide +kernel
theorem dX2_serve_61 : decode cX2_serve 61 = .ok (.iconst 2, 1) := by decide +kernel
theorem dX2_serve_62 : decode cX2_serve 62 = .ok (.iconst 0, 1) := by decide +kernel
theorem dX2_serve_63 : decode cX2_serve 63 = .ok (.invokevirtual 129, 3) := by decide +kernel
theorem dX2_serve_66 : decode cX2_serve 66 = .ok (.aload_n 2, 1) := by decide +kernel
theorem dX2_serve_67 : decode cX2_serve 67 = .ok (.iload_n 3, 1) := by decide +kernel
theorem dX2_serve_68 : decode cX2_serve 68 = .ok (.invokevirtual 132, 3) := by decide +kernel
theorem dX2_serve_71 : decode cX2_serve 71 = .ok (.iload 4, 2) := by decide +kernel
theorem dX2_serve_73 : decode cX2_serve 73 = .ok (.ifCond .eq 13, 3) := by decide +kernel
theorem dX2_serve_76 : decode cX2_serve 76 = .ok (.aload 5, 2) := by decide +kernel
theorem dX2_serve_78 : decode cX2_serve 78 = .ok (.ifnull 8, 3) := by decide +kernel
theorem dX2_serve_81 : decode cX2_serve 81 = .ok (.aload 5, 2) := by decide +kernel
theorem dX2_serve_83 : decode cX2_serve 83 = .ok (.invokevirtual 135, 3) := by decide +kernel
theorem dX2_serve_86 : decode cX2_serve 86 = .ok (.iload 4, 2) := by decide +kernel
theorem dX2_serve_88 : decode cX2_serve 88 = .ok (.ifCond .eq 7, 3) := by decide +kernel
theorem dX2_serve_91 : decode cX2_serve 91 = .ok (.iconst 2, 1) := by decide +kernel
theorem dX2_serve_92 : decode cX2_serve 92 = .ok (.goto 4, 3) := by decide +kernel
theorem dX2_serve_95 : decode cX2_serve 95 = .ok (.iconst 1, 1) := by decide +kernel
theorem dX2_serve_96 : decode cX2_serve 96 = .ok (.ireturn, 1) := by decide +kernel
theorem dX2_punishThrower_0 : decode cX2_punishThrower 0 = .ok (.aload_n 0, 1) := by decide +kernel
theorem dX2_punishThrower_1 : decode cX2_punishThrower 1 = .ok (.aload_n 0, 1) := by decide +kernel
theorem dX2_punishThrower_2 : decode cX2_punishThrower 2 = .ok (.getfield 20, 3) := by decide +kernel
theorem dX2_punishThrower_5 : decode cX2_punishThrower 5 = .ok (.aload_n 0, 1) := by decide +kernel
theorem dX2_punishThrower_6 : decode cX2_punishThrower 6 = .ok (.getfield 20, 3) := by decide +kernel
theorem dX2_punishThrower_9 : decode cX2_punishThrower 9 = .ok (.iload_n 1, 1) := by decide +kernel
theorem dX2_punishThrower_10 : decode cX2_punishThrower 10 = .ok (.invokevirtual 112, 3) := by decide +kernel
theorem dX2_punishThrower_13 : decode cX2_punishThrower 13 = .ok (.iconst 1, 1) := by decide +kernel
theorem dX2_punishThrower_14 : decode cX2_punishThrower 14 = .ok (.invokevirtual 122, 3) := by decide +kernel
theorem dX2_punishThrower_17 : decode cX2_punishThrower 17 = .ok (.invokevirtual 125, 3) := by decide +kernel
theorem dX2_punishThrower_20 : decode cX2_punishThrower 20 = .ok (.astore_n 2, 1) := by decide +kernel
theorem dX2_punishThrower_21 : decode cX2_punishThrower 21 = .ok (.aload_n 2, 1) := by decide +kernel
theorem dX2_punishThrower_22 : decode cX2_punishThrower 22 = .ok (.ifnull 18, 3) := by decide +kernel
theorem dX2_punishThrower_25 : decode cX2_punishThrower 25 = .ok (.aload_n 2, 1) := by decide +kernel
theorem dX2_punishThrower_26 : decode cX2_punishThrower 26 = .ok (.dup, 1) := by decide +kernel
theorem dX2_punishThrower_27 : decode cX2_punishThrower 27 = .ok (.getfield 138, 3) := by decide +kernel
theorem dX2_punishThrower_30 : decode cX2_punishThrower 30 = .ok (.iconst 1, 1) := by decide +kernel
theorem dX2_punishThrower_31 : decode cX2_punishThrower 31 = .ok (.iadd, 1) := by decide +kernel
theorem dX2_punishThrower_32 : decode cX2_punishThrower 32 = .ok (.putfield 138, 3) := by decide +kernel
theorem dX2_punishThrower_35 : decode cX2_punishThrower 35 = .ok (.aload_n 2, 1) := by decide +kernel
theorem dX2_punishThrower_36 : decode cX2_punishThrower 36 = .ok (.iconst 2, 1) := by decide +kernel
theorem dX2_punishThrower_37 : decode cX2_punishThrower 37 = .ok (.invokevirtual 141, 3) := by decide +kernel
theorem dX2_punishThrower_40 : decode cX2_punishThrower 40 = .ok (.return_, 1) := by decide +kernel
theorem dX2_fetchWishes_0 : decode cX2_fetchWishes 0 = .ok (.aload_n 0, 1) := by decide +kernel
theorem dX2_fetchWishes_1 : decode cX2_fetchWishes 1 = .ok (.getfield 26, 3) := by decide +kernel
theorem dX2_fetchWishes_4 : decode cX2_fetchWishes 4 = .ok (.iload_n 1, 1) := by decide +kernel
theorem dX2_fetchWishes_5 : decode cX2_fetchWishes 5 = .ok (.aaload, 1) := by decide +kernel
theorem dX2_fetchWishes_6 : decode cX2_fetchWishes 6 = .ok (.astore_n 2, 1) := by decide +kernel
theorem dX2_fetchWishes_7 : decode cX2_fetchWishes 7 = .ok (.iconst 0, 1) := by decide +kernel
theorem dX2_fetchWishes_8 : decode cX2_fetchWishes 8 = .ok (.istore_n 3, 1) := by decide +kernel
theorem dX2_fetchWishes_9 : decode cX2_fetchWishes 9 = .ok (.iconst 0, 1) := by decide +kernel
theorem dX2_fetchWishes_10 : decode cX2_fetchWishes 10 = .ok (.istore 4, 2) := by decide +kernel
theorem dX2_fetchWishes_12 : decode cX2_fetchWishes 12 = .ok (.iload 4, 2) := by decide +kernel
theorem dX2_fetchWishes_14 : decode cX2_fetchWishes 14 = .ok (.aload_n 2, 1) := by decide +kernel
theorem dX2_fetchWishes_15 : decode cX2_fetchWishes 15 = .ok (.getfield 144, 3) := by decide +kernel
theorem dX2_fetchWishes_18 : decode cX2_fetchWishes 18 = .ok (.if_icmp .ge 42, 3) := by decide +kernel
theorem dX2_fetchWishes_21 : decode cX2_fetchWishes 21 = .ok (.aload_n 2, 1) := by decide +kernel
theorem dX2_fetchWishes_22 : decode cX2_fetchWishes 22 = .ok (.getfield 147, 3) := by decide +kernel
theorem dX2_fetchWishes_25 : decode cX2_fetchWishes 25 = .ok (.iload 4, 2) := by decide +kernel
theorem dX2_fetchWishes_27 : decode cX2_fetchWishes 27 = .ok (.iaload, 1) := by decide +kernel
theorem dX2_fetchWishes_28 : decode cX2_fetchWishes 28 = .ok (.istore 5, 2) := by decide +kernel
theorem dX2_fetchWishes_30 : decode cX2_fetchWishes 30 = .ok (.aload_n 0, 1) := by decide +kernel
theorem dX2_fetchWishes_31 : decode cX2_fetchWishes 31 = .ok (.iload 5, 2) := by decide +kernel
theorem dX2_fetchWishes_33 : decode cX2_fetchWishes 33 = .ok (.invokevirtual 109, 3) := by decide +kernel
theorem dX2_fetchWishes_36 : decode cX2_fetchWishes 36 = .ok (.iload 5, 2) := by decide +kernel
theorem dX2_fetchWishes_38 : decode cX2_fetchWishes 38 = .ok (.invokevirtual 112, 3) := by decide +kernel
theorem dX2_fetchWishes_41 : decode cX2_fetchWishes 41 = .ok (.ifCond .ge 13, 3) := by decide +kernel
theorem dX2_fetchWishes_44 : decode cX2_fetchWishes 44 = .ok (.aload_n 0, 1) := by decide +kernel
theorem dX2_fetchWishes_45 : decode cX2_fetchWishes 45 = .ok (.iload 5, 2) := by decide +kernel
theorem dX2_fetchWishes_47 : decode cX2_fetchWishes 47 = .ok (.iload_n 1, 1) := by decide +kernel
theorem dX2_fetchWishes_48 : decode cX2_fetchWishes 48 = .ok (.invokevirtual 119, 3) := by decide +kernel
theorem dX2_fetchWishes_51 : decode cX2_fetchWishes 51 = .ok (.iinc 3 1, 3) := by decide +kernel
theorem dX2_fetchWishes_54 : decode cX2_fetchWishes 54 = .ok (.iinc 4 1, 3) := by decide +kernel
theorem dX2_fetchWishes_57 : decode cX2_fetchWishes 57 = .ok (.goto (-45), 3) := by decide +kernel
theorem dX2_fetchWishes_60 : decode cX2_fetchWishes 60 = .ok (.aload_n 2, 1) := by decide +kernel
theorem dX2_fetchWishes_61 : decode cX2_fetchWishes 61 = .ok (.dup, 1) := by decide +kernel
theorem dX2_fetchWishes_62 : decode cX2_fetchWishes 62 = .ok (.getfield 151, 3) := by decide +kernel
theorem dX2_fetchWishes_65 : decode cX2_fetchWishes 65 = .ok (.iload_n 3, 1) := by decide +kernel
theorem dX2_fetchWishes_66 : decode cX2_fetchWishes 66 = .ok (.iadd, 1) := by decide +kernel
theorem dX2_fetchWishes_67 : decode cX2_fetchWishes 67 = .ok (.putfield 151, 3) := by decide +kernel
theorem dX2_fetchWishes_70 : decode cX2_fetchWishes 70 = .ok (.iload_n 3, 1) := by decide +kernel
theorem dX2_fetchWishes_71 : decode cX2_fetchWishes 71 = .ok (.ireturn, 1) := by decide +kernel
theorem dX2_fetch_0 : decode cX2_fetch 0 = .ok (.aload_n 0, 1) := by decide +kernel
theorem dX2_fetch_1 : decode cX2_fetch 1 = .ok (.getfield 20, 3) := by decide +kernel
theorem dX2_fetch_4 : decode cX2_fetch 4 = .ok (.aload_n 0, 1) := by decide +kernel
theorem dX2_fetch_5 : decode cX2_fetch 5 = .ok (.getfield 20, 3) := by decide +kernel
theorem dX2_fetch_8 : decode cX2_fetch 8 = .ok (.iload_n 1, 1) := by decide +kernel
theorem dX2_fetch_9 : decode cX2_fetch 9 = .ok (.invokevirtual 112, 3) := by decide +kernel
theorem dX2_fetch_12 : decode cX2_fetch 12 = .ok (.invokevirtual 154, 3) := by decide +kernel
theorem dX2_fetch_15 : decode cX2_fetch 15 = .ok (.aload_n 0, 1) := by decide +kernel
theorem dX2_fetch_16 : decode cX2_fetch 16 = .ok (.iload_n 1, 1) := by decide +kernel
theorem dX2_fetch_17 : decode cX2_fetch 17 = .ok (.invokevirtual 109, 3) := by decide +kernel
theorem dX2_fetch_20 : decode cX2_fetch 20 = .ok (.astore_n 3, 1) := by decide +kernel
theorem dX2_fetch_21 : decode cX2_fetch 21 = .ok (.aload_n 3, 1) := by decide +kernel
theorem dX2_fetch_22 : decode cX2_fetch 22 = .ok (.getfield 157, 3) := by decide +kernel
theorem dX2_fetch_25 : decode cX2_fetch 25 = .ok (.aload_n 0, 1) := by decide +kernel
theorem dX2_fetch_26 : decode cX2_fetch 26 = .ok (.getfield 38, 3) := by decide +kernel
theorem dX2_fetch_29 : decode cX2_fetch 29 = .ok (.if_icmp .lt 9, 3) := by decide +kernel
theorem dX2_fetch_32 : decode cX2_fetch 32 = .ok (.aload_n 0, 1) := by decide +kernel
theorem dX2_fetch_33 : decode cX2_fetch 33 = .ok (.aload_n 3, 1) := by decide +kernel
theorem dX2_fetch_34 : decode cX2_fetch 34 = .ok (.iload_n 2, 1) := by decide +kernel
theorem dX2_fetch_35 : decode cX2_fetch 35 = .ok (.invokevirtual 160, 3) := by decide +kernel
theorem dX2_fetch_38 : decode cX2_fetch 38 = .ok (.aload_n 3, 1) := by decide +kernel
theorem dX2_fetch_39 : decode cX2_fetch 39 = .ok (.aload_n 0, 1) := by decide +kernel
theorem dX2_fetch_40 : decode cX2_fetch 40 = .ok (.getfield 38, 3) := by decide +kernel
theorem dX2_fetch_43 : decode cX2_fetch 43 = .ok (.invokevirtual 164, 3) := by decide +kernel
theorem dX2_fetch_46 : decode cX2_fetch 46 = .ok (.istore 4, 2) := by decide +kernel
theorem dX2_fetch_48 : decode cX2_fetch 48 = .ok (.aload_n 3, 1) := by decide +kernel
theorem dX2_fetch_49 : decode cX2_fetch 49 = .ok (.iload 4, 2) := by decide +kernel
theorem dX2_fetch_51 : decode cX2_fetch 51 = .ok (.iconst 0, 1) := by decide +kernel
theorem dX2_fetch_52 : decode cX2_fetch 52 = .ok (.iload_n 1, 1) := by decide +kernel
theorem dX2_fetch_53 : decode cX2_fetch 53 = .ok (.invokevirtual 129, 3) := by decide +kernel
theorem dX2_fetch_56 : decode cX2_fetch 56 = .ok (.aload_n 3, 1) := by decide +kernel
theorem dX2_fetch_57 : decode cX2_fetch 57 = .ok (.iload 4, 2) := by decide +kernel
theorem dX2_fetch_59 : decode cX2_fetch 59 = .ok (.iconst 1, 1) := by decide +kernel
theorem dX2_fetch_60 : decode cX2_fetch 60 = .ok (.iload_n 2, 1) := by decide +kernel
theorem dX2_fetch_61 : decode cX2_fetch 61 = .ok (.invokevirtual 129, 3) := by decide +kernel
theorem dX2_fetch_64 : decode cX2_fetch 64 = .ok (.aload_n 3, 1) := by decide +kernel
theorem dX2_fetch_65 : decode cX2_fetch 65 = .ok (.iload 4, 2) := by decide +kernel
theorem dX2_fetch_67 : decode cX2_fetch 67 = .ok (.iconst 2, 1) := by decide +kernel
theorem dX2_fetch_68 : decode cX2_fetch 68 = .ok (.iload_n 2, 1) := by decide +kernel
theorem dX2_fetch_69 : decode cX2_fetch 69 = .ok (.ldc 118, 2) := by decide +kernel
theorem dX2_fetch_71 : decode cX2_fetch 71 = .ok (.if_icmp .ne 7, 3) := by decide +kernel
theorem dX2_fetch_74 : decode cX2_fetch 74 = .ok (.iconst 0, 1) := by decide +kernel
theorem dX2_fetch_75 : decode cX2_fetch 75 = .ok (.goto 4, 3) := by decide +kernel
theorem dX2_fetch_78 : decode cX2_fetch 78 = .ok (.iconst 1, 1) := by decide +kernel
theorem dX2_fetch_79 : decode cX2_fetch 79 = .ok (.invokevirtual 129, 3) := by decide +kernel
theorem dX2_fetch_82 : decode cX2_fetch 82 = .ok (.return_, 1) := by decide +kernel
theorem dX2_throwOldest_0 : decode cX2_throwOldest 0 = .ok (.aload_n 1, 1) := by decide +kernel
theorem dX2_throwOldest_1 : decode cX2_throwOldest 1 = .ok (.iconst 0, 1) := by decide +kernel
theorem dX2_throwOldest_2 : decode cX2_throwOldest 2 = .ok (.iconst 0, 1) := by decide +kernel
theorem dX2_throwOldest_3 : decode cX2_throwOldest 3 = .ok (.invokevirtual 122, 3) := by decide +kernel
theorem dX2_throwOldest_6 : decode cX2_throwOldest 6 = .ok (.istore_n 3, 1) := by decide +kernel
theorem dX2_throwOldest_7 : decode cX2_throwOldest 7 = .ok (.aload_n 0, 1) := by decide +kernel
theorem dX2_throwOldest_8 : decode cX2_throwOldest 8 = .ok (.aload_n 1, 1) := by decide +kernel
theorem dX2_throwOldest_9 : decode cX2_throwOldest 9 = .ok (.iconst 0, 1) := by decide +kernel
theorem dX2_throwOldest_10 : decode cX2_throwOldest 10 = .ok (.iconst 1, 1) := by decide +kernel
theorem dX2_throwOldest_11 : decode cX2_throwOldest 11 = .ok (.invokevirtual 122, 3) := by decide +kernel
theorem dX2_throwOldest_14 : decode cX2_throwOldest 14 = .ok (.invokevirtual 125, 3) := by decide +kernel
theorem dX2_throwOldest_17 : decode cX2_throwOldest 17 = .ok (.astore 4, 2) := by decide +kernel
theorem dX2_throwOldest_19 : decode cX2_throwOldest 19 = .ok (.aload_n 1, 1) := by decide +kernel
theorem dX2_throwOldest_20 : decode cX2_throwOldest 20 = .ok (.iconst 0, 1) := by decide +kernel
theorem dX2_throwOldest_21 : decode cX2_throwOldest 21 = .ok (.iconst 2, 1) := by decide +kernel
theorem dX2_throwOldest_22 : decode cX2_throwOldest 22 = .ok (.invokevirtual 122, 3) := by decide +kernel
theorem dX2_throwOldest_25 : decode cX2_throwOldest 25 = .ok (.iconst 1, 1) := by decide +kernel
theorem dX2_throwOldest_26 : decode cX2_throwOldest 26 = .ok (.if_icmp .ne 7, 3) := by decide +kernel
theorem dX2_throwOldest_29 : decode cX2_throwOldest 29 = .ok (.iconst 1, 1) := by decide +kernel
theorem dX2_throwOldest_30 : decode cX2_throwOldest 30 = .ok (.goto 4, 3) := by decide +kernel
theorem dX2_throwOldest_33 : decode cX2_throwOldest 33 = .ok (.iconst 0, 1) := by decide +kernel
theorem dX2_throwOldest_34 : decode cX2_throwOldest 34 = .ok (.istore 5, 2) := by decide +kernel
theorem dX2_throwOldest_36 : decode cX2_throwOldest 36 = .ok (.aload_n 1, 1) := by decide +kernel
theorem dX2_throwOldest_37 : decode cX2_throwOldest 37 = .ok (.iconst 0, 1) := by decide +kernel
theorem dX2_throwOldest_38 : decode cX2_throwOldest 38 = .ok (.invokevirtual 154, 3) := by decide +kernel
theorem dX2_throwOldest_41 : decode cX2_throwOldest 41 = .ok (.aload_n 0, 1) := by decide +kernel
theorem dX2_throwOldest_42 : decode cX2_throwOldest 42 = .ok (.getfield 20, 3) := by decide +kernel
theorem dX2_throwOldest_45 : decode cX2_throwOldest 45 = .ok (.bipush 8, 2) := by decide +kernel
theorem dX2_throwOldest_47 : decode cX2_throwOldest 47 = .ok (.invokevirtual 164, 3) := by decide +kernel
theorem dX2_throwOldest_50 : decode cX2_throwOldest 50 = .ok (.istore 6, 2) := by decide +kernel
theorem dX2_throwOldest_52 : decode cX2_throwOldest 52 = .ok (.aload_n 0, 1) := by decide +kernel
theorem dX2_throwOldest_53 : decode cX2_throwOldest 53 = .ok (.getfield 20, 3) := by decide +kernel
theorem dX2_throwOldest_56 : decode cX2_throwOldest 56 = .ok (.iload 6, 2) := by decide +kernel
theorem dX2_throwOldest_58 : decode cX2_throwOldest 58 = .ok (.iconst 0, 1) := by decide +kernel
theorem dX2_throwOldest_59 : decode cX2_throwOldest 59 = .ok (.iload_n 3, 1) := by decide +kernel
theorem dX2_throwOldest_60 : decode cX2_throwOldest 60 = .ok (.invokevirtual 129, 3) := by decide +kernel
theorem dX2_throwOldest_63 : decode cX2_throwOldest 63 = .ok (.aload_n 0, 1) := by decide +kernel
theorem dX2_throwOldest_64 : decode cX2_throwOldest 64 = .ok (.getfield 20, 3) := by decide +kernel
theorem dX2_throwOldest_67 : decode cX2_throwOldest 67 = .ok (.iload 6, 2) := by decide +kernel
theorem dX2_throwOldest_69 : decode cX2_throwOldest 69 = .ok (.iconst 1, 1) := by decide +kernel
theorem dX2_throwOldest_70 : decode cX2_throwOldest 70 = .ok (.iload_n 2, 1) := by decide +kernel
theorem dX2_throwOldest_71 : decode cX2_throwOldest 71 = .ok (.invokevirtual 129, 3) := by decide +kernel
theorem dX2_throwOldest_74 : decode cX2_throwOldest 74 = .ok (.aload_n 0, 1) := by decide +kernel
theorem dX2_throwOldest_75 : decode cX2_throwOldest 75 = .ok (.dup, 1) := by decide +kernel
theorem dX2_throwOldest_76 : decode cX2_throwOldest 76 = .ok (.getfield 59, 3) := by decide +kernel
theorem dX2_throwOldest_79 : decode cX2_throwOldest 79 = .ok (.iconst 1, 1) := by decide +kernel
theorem dX2_throwOldest_80 : decode cX2_throwOldest 80 = .ok (.iadd, 1) := by decide +kernel
theorem dX2_throwOldest_81 : decode cX2_throwOldest 81 = .ok (.putfield 59, 3) := by decide +kernel
theorem dX2_throwOldest_84 : decode cX2_throwOldest 84 = .ok (.iload 5, 2) := by decide +kernel
theorem dX2_throwOldest_86 : decode cX2_throwOldest 86 = .ok (.ifCond .eq 29, 3) := by decide +kernel
theorem dX2_throwOldest_89 : decode cX2_throwOldest 89 = .ok (.aload 4, 2) := by decide +kernel
theorem dX2_throwOldest_91 : decode cX2_throwOldest 91 = .ok (.ifnull 24, 3) := by decide +kernel
theorem dX2_throwOldest_94 : decode cX2_throwOldest 94 = .ok (.aload 4, 2) := by decide +kernel
theorem dX2_throwOldest_96 : decode cX2_throwOldest 96 = .ok (.dup, 1) := by decide +kernel
theorem dX2_throwOldest_97 : decode cX2_throwOldest 97 = .ok (.getfield 167, 3) := by decide +kernel
theorem dX2_throwOldest_100 : decode cX2_throwOldest 100 = .ok (.iconst 1, 1) := by decide +kernel
theorem dX2_throwOldest_101 : decode cX2_throwOldest 101 = .ok (.iadd, 1) := by decide +kernel
theorem dX2_throwOldest_102 : decode cX2_throwOldest 102 = .ok (.putfield 167, 3) := by decide +kernel
theorem dX2_throwOldest_105 : decode cX2_throwOldest 105 = .ok (.aload 4, 2) := by decide +kernel
theorem dX2_throwOldest_107 : decode cX2_throwOldest 107 = .ok (.aload 4, 2) := by decide +kernel
theorem dX2_throwOldest_109 : decode cX2_throwOldest 109 = .ok (.getfield 170, 3) := by decide +kernel
theorem dX2_throwOldest_112 : decode cX2_throwOldest 112 = .ok (.invokevirtual 141, 3) := by decide +kernel
theorem dX2_throwOldest_115 : decode cX2_throwOldest 115 = .ok (.return_, 1) := by decide +kernel
theorem dX2_throwAllOut_0 : decode cX2_throwAllOut 0 = .ok (.iconst 0, 1) := by decide +kernel
theorem dX2_throwAllOut_1 : decode cX2_throwAllOut 1 = .ok (.istore_n 1, 1) := by decide +kernel
theorem dX2_throwAllOut_2 : decode cX2_throwAllOut 2 = .ok (.iconst 0, 1) := by decide +kernel
theorem dX2_throwAllOut_3 : decode cX2_throwAllOut 3 = .ok (.istore_n 2, 1) := by decide +kernel
theorem dX2_throwAllOut_4 : decode cX2_throwAllOut 4 = .ok (.iload_n 2, 1) := by decide +kernel
theorem dX2_throwAllOut_5 : decode cX2_throwAllOut 5 = .ok (.bipush 8, 2) := by decide +kernel
theorem dX2_throwAllOut_7 : decode cX2_throwAllOut 7 = .ok (.if_icmp .ge 50, 3) := by decide +kernel
theorem dX2_throwAllOut_10 : decode cX2_throwAllOut 10 = .ok (.aload_n 0, 1) := by decide +kernel
theorem dX2_throwAllOut_11 : decode cX2_throwAllOut 11 = .ok (.getfield 11, 3) := by decide +kernel
theorem dX2_throwAllOut_14 : decode cX2_throwAllOut 14 = .ok (.iload_n 2, 1) := by decide +kernel
theorem dX2_throwAllOut_15 : decode cX2_throwAllOut 15 = .ok (.aaload, 1) := by decide +kernel
theorem dX2_throwAllOut_16 : decode cX2_throwAllOut 16 = .ok (.getfield 157, 3) := by decide +kernel
theorem dX2_throwAllOut_19 : decode cX2_throwAllOut 19 = .ok (.istore_n 3, 1) := by decide +kernel
theorem dX2_throwAllOut_20 : decode cX2_throwAllOut 20 = .ok (.iconst 0, 1) := by decide +kernel
theorem dX2_throwAllOut_21 : decode cX2_throwAllOut 21 = .ok (.istore 4, 2) := by decide +kernel
theorem dX2_throwAllOut_23 : decode cX2_throwAllOut 23 = .ok (.iload 4, 2) := by decide +kernel
theorem dX2_throwAllOut_25 : decode cX2_throwAllOut 25 = .ok (.iload_n 3, 1) := by decide +kernel
theorem dX2_throwAllOut_26 : decode cX2_throwAllOut 26 = .ok (.if_icmp .ge 21, 3) := by decide +kernel
theorem dX2_throwAllOut_29 : decode cX2_throwAllOut 29 = .ok (.aload_n 0, 1) := by decide +kernel
theorem dX2_throwAllOut_30 : decode cX2_throwAllOut 30 = .ok (.aload_n 0, 1) := by decide +kernel
theorem dX2_throwAllOut_31 : decode cX2_throwAllOut 31 = .ok (.getfield 11, 3) := by decide +kernel
theorem dX2_throwAllOut_34 : decode cX2_throwAllOut 34 = .ok (.iload_n 2, 1) := by decide +kernel
theorem dX2_throwAllOut_35 : decode cX2_throwAllOut 35 = .ok (.aaload, 1) := by decide +kernel
theorem dX2_throwAllOut_36 : decode cX2_throwAllOut 36 = .ok (.ldc 118, 2) := by decide +kernel
theorem dX2_throwAllOut_38 : decode cX2_throwAllOut 38 = .ok (.invokevirtual 160, 3) := by decide +kernel
theorem dX2_throwAllOut_41 : decode cX2_throwAllOut 41 = .ok (.iinc 4 1, 3) := by decide +kernel
theorem dX2_throwAllOut_44 : decode cX2_throwAllOut 44 = .ok (.goto (-21), 3) := by decide +kernel
theorem dX2_throwAllOut_47 : decode cX2_throwAllOut 47 = .ok (.iload_n 1, 1) := by decide +kernel
theorem dX2_throwAllOut_48 : decode cX2_throwAllOut 48 = .ok (.iload_n 3, 1) := by decide +kernel
theorem dX2_throwAllOut_49 : decode cX2_throwAllOut 49 = .ok (.iadd, 1) := by decide +kernel
theorem dX2_throwAllOut_50 : decode cX2_throwAllOut 50 = .ok (.istore_n 1, 1) := by decide +kernel
theorem dX2_throwAllOut_51 : decode cX2_throwAllOut 51 = .ok (.iinc 2 1, 3) := by decide +kernel
theorem dX2_throwAllOut_54 : decode cX2_throwAllOut 54 = .ok (.goto (-50), 3) := by decide +kernel
theorem dX2_throwAllOut_57 : decode cX2_throwAllOut 57 = .ok (.iload_n 1, 1) := by decide +kernel
theorem dX2_throwAllOut_58 : decode cX2_throwAllOut 58 = .ok (.ireturn, 1) := by decide +kernel
theorem dX2_writeLog_0 : decode cX2_writeLog 0 = .ok (.aload_n 0, 1) := by decide +kernel
theorem dX2_writeLog_1 : decode cX2_writeLog 1 = .ok (.getfield 31, 3) := by decide +kernel
theorem dX2_writeLog_4 : decode cX2_writeLog 4 = .ok (.bipush 12, 2) := by decide +kernel
theorem dX2_writeLog_6 : decode cX2_writeLog 6 = .ok (.invokevirtual 164, 3) := by decide +kernel
theorem dX2_writeLog_9 : decode cX2_writeLog 9 = .ok (.istore 5, 2) := by decide +kernel
theorem dX2_writeLog_11 : decode cX2_writeLog 11 = .ok (.aload_n 0, 1) := by decide +kernel
theorem dX2_writeLog_12 : decode cX2_writeLog 12 = .ok (.getfield 31, 3) := by decide +kernel
theorem dX2_writeLog_15 : decode cX2_writeLog 15 = .ok (.iload 5, 2) := by decide +kernel
theorem dX2_writeLog_17 : decode cX2_writeLog 17 = .ok (.iconst 0, 1) := by decide +kernel
theorem dX2_writeLog_18 : decode cX2_writeLog 18 = .ok (.iload_n 1, 1) := by decide +kernel
theorem dX2_writeLog_19 : decode cX2_writeLog 19 = .ok (.invokevirtual 129, 3) := by decide +kernel
theorem dX2_writeLog_22 : decode cX2_writeLog 22 = .ok (.aload_n 0, 1) := by decide +kernel
theorem dX2_writeLog_23 : decode cX2_writeLog 23 = .ok (.getfield 31, 3) := by decide +kernel
theorem dX2_writeLog_26 : decode cX2_writeLog 26 = .ok (.iload 5, 2) := by decide +kernel
theorem dX2_writeLog_28 : decode cX2_writeLog 28 = .ok (.iconst 1, 1) := by decide +kernel
theorem dX2_writeLog_29 : decode cX2_writeLog 29 = .ok (.iload_n 2, 1) := by decide +kernel
theorem dX2_writeLog_30 : decode cX2_writeLog 30 = .ok (.invokevirtual 129, 3) := by decide +kernel
theorem dX2_writeLog_33 : decode cX2_writeLog 33 = .ok (.aload_n 0, 1) := by decide +kernel
theorem dX2_writeLog_34 : decode cX2_writeLog 34 = .ok (.getfield 31, 3) := by decide +kernel
theorem dX2_writeLog_37 : decode cX2_writeLog 37 = .ok (.iload 5, 2) := by decide +kernel
theorem dX2_writeLog_39 : decode cX2_writeLog 39 = .ok (.iconst 2, 1) := by decide +kernel
theorem dX2_writeLog_40 : decode cX2_writeLog 40 = .ok (.iload_n 3, 1) := by decide +kernel
theorem dX2_writeLog_41 : decode cX2_writeLog 41 = .ok (.invokevirtual 129, 3) := by decide +kernel
theorem dX2_writeLog_44 : decode cX2_writeLog 44 = .ok (.aload_n 0, 1) := by decide +kernel
theorem dX2_writeLog_45 : decode cX2_writeLog 45 = .ok (.getfield 31, 3) := by decide +kernel
theorem dX2_writeLog_48 : decode cX2_writeLog 48 = .ok (.iload 5, 2) := by decide +kernel
theorem dX2_writeLog_50 : decode cX2_writeLog 50 = .ok (.iconst 3, 1) := by decide +kernel
theorem dX2_writeLog_51 : decode cX2_writeLog 51 = .ok (.iload 4, 2) := by decide +kernel
theorem dX2_writeLog_53 : decode cX2_writeLog 53 = .ok (.invokevirtual 129, 3) := by decide +kernel
theorem dX2_writeLog_56 : decode cX2_writeLog 56 = .ok (.aload_n 0, 1) := by decide +kernel
theorem dX2_writeLog_57 : decode cX2_writeLog 57 = .ok (.getfield 31, 3) := by decide +kernel
theorem dX2_writeLog_60 : decode cX2_writeLog 60 = .ok (.iload 5, 2) := by decide +kernel
theorem dX2_writeLog_62 : decode cX2_writeLog 62 = .ok (.iconst 4, 1) := by decide +kernel
theorem dX2_writeLog_63 : decode cX2_writeLog 63 = .ok (.aload_n 0, 1) := by decide +kernel
theorem dX2_writeLog_64 : decode cX2_writeLog 64 = .ok (.getfield 47, 3) := by decide +kernel
theorem dX2_writeLog_67 : decode cX2_writeLog 67 = .ok (.invokevirtual 129, 3) := by decide +kernel
theorem dX2_writeLog_70 : decode cX2_writeLog 70 = .ok (.return_, 1) := by decide +kernel
theorem dX2_linesInCache_0 : decode cX2_linesInCache 0 = .ok (.iconst 0, 1) := by decide +kernel
theorem dX2_linesInCache_1 : decode cX2_linesInCache 1 = .ok (.istore_n 1, 1) := by decide +kernel
theorem dX2_linesInCache_2 : decode cX2_linesInCache 2 = .ok (.iconst 0, 1) := by decide +kernel
theorem dX2_linesInCache_3 : decode cX2_linesInCache 3 = .ok (.istore_n 2, 1) := by decide +kernel
theorem dX2_linesInCache_4 : decode cX2_linesInCache 4 = .ok (.iload_n 2, 1) := by decide +kernel
theorem dX2_linesInCache_5 : decode cX2_linesInCache 5 = .ok (.bipush 8, 2) := by decide +kernel
theorem dX2_linesInCache_7 : decode cX2_linesInCache 7 = .ok (.if_icmp .ge 21, 3) := by decide +kernel
theorem dX2_linesInCache_10 : decode cX2_linesInCache 10 = .ok (.iload_n 1, 1) := by decide +kernel
theorem dX2_linesInCache_11 : decode cX2_linesInCache 11 = .ok (.aload_n 0, 1) := by decide +kernel
theorem dX2_linesInCache_12 : decode cX2_linesInCache 12 = .ok (.getfield 11, 3) := by decide +kernel
theorem dX2_linesInCache_15 : decode cX2_linesInCache 15 = .ok (.iload_n 2, 1) := by decide +kernel
theorem dX2_linesInCache_16 : decode cX2_linesInCache 16 = .ok (.aaload, 1) := by decide +kernel
theorem dX2_linesInCache_17 : decode cX2_linesInCache 17 = .ok (.getfield 157, 3) := by decide +kernel
theorem dX2_linesInCache_20 : decode cX2_linesInCache 20 = .ok (.iadd, 1) := by decide +kernel
theorem dX2_linesInCache_21 : decode cX2_linesInCache 21 = .ok (.istore_n 1, 1) := by decide +kernel
theorem dX2_linesInCache_22 : decode cX2_linesInCache 22 = .ok (.iinc 2 1, 3) := by decide +kernel
theorem dX2_linesInCache_25 : decode cX2_linesInCache 25 = .ok (.goto (-21), 3) := by decide +kernel
theorem dX2_linesInCache_28 : decode cX2_linesInCache 28 = .ok (.iload_n 1, 1) := by decide +kernel
theorem dX2_linesInCache_29 : decode cX2_linesInCache 29 = .ok (.ireturn, 1) := by decide +kernel
theorem dX2_newLinesOf_0 : decode cX2_newLinesOf 0 = .ok (.iconst 0, 1) := by decide +kernel
theorem dX2_newLinesOf_1 : decode cX2_newLinesOf 1 = .ok (.istore_n 2, 1) := by decide +kernel
theorem dX2_newLinesOf_2 : decode cX2_newLinesOf 2 = .ok (.iconst 0, 1) := by decide +kernel
theorem dX2_newLinesOf_3 : decode cX2_newLinesOf 3 = .ok (.istore_n 3, 1) := by decide +kernel
theorem dX2_newLinesOf_4 : decode cX2_newLinesOf 4 = .ok (.iload_n 3, 1) := by decide +kernel
theorem dX2_newLinesOf_5 : decode cX2_newLinesOf 5 = .ok (.bipush 8, 2) := by decide +kernel
theorem dX2_newLinesOf_7 : decode cX2_newLinesOf 7 = .ok (.if_icmp .ge 67, 3) := by decide +kernel
theorem dX2_newLinesOf_10 : decode cX2_newLinesOf 10 = .ok (.iconst 0, 1) := by decide +kernel
theorem dX2_newLinesOf_11 : decode cX2_newLinesOf 11 = .ok (.istore 4, 2) := by decide +kernel
theorem dX2_newLinesOf_13 : decode cX2_newLinesOf 13 = .ok (.iload 4, 2) := by decide +kernel
theorem dX2_newLinesOf_15 : decode cX2_newLinesOf 15 = .ok (.aload_n 0, 1) := by decide +kernel
theorem dX2_newLinesOf_16 : decode cX2_newLinesOf 16 = .ok (.getfield 11, 3) := by decide +kernel
theorem dX2_newLinesOf_19 : decode cX2_newLinesOf 19 = .ok (.iload_n 3, 1) := by decide +kernel
theorem dX2_newLinesOf_20 : decode cX2_newLinesOf 20 = .ok (.aaload, 1) := by decide +kernel
theorem dX2_newLinesOf_21 : decode cX2_newLinesOf 21 = .ok (.getfield 157, 3) := by decide +kernel
theorem dX2_newLinesOf_24 : decode cX2_newLinesOf 24 = .ok (.if_icmp .ge 44, 3) := by decide +kernel
theorem dX2_newLinesOf_27 : decode cX2_newLinesOf 27 = .ok (.aload_n 0, 1) := by decide +kernel
theorem dX2_newLinesOf_28 : decode cX2_newLinesOf 28 = .ok (.getfield 11, 3) := by decide +kernel
theorem dX2_newLinesOf_31 : decode cX2_newLinesOf 31 = .ok (.iload_n 3, 1) := by decide +kernel
theorem dX2_newLinesOf_32 : decode cX2_newLinesOf 32 = .ok (.aaload, 1) := by decide +kernel
theorem dX2_newLinesOf_33 : decode cX2_newLinesOf 33 = .ok (.iload 4, 2) := by decide +kernel
theorem dX2_newLinesOf_35 : decode cX2_newLinesOf 35 = .ok (.iconst 2, 1) := by decide +kernel
theorem dX2_newLinesOf_36 : decode cX2_newLinesOf 36 = .ok (.invokevirtual 122, 3) := by decide +kernel
theorem dX2_newLinesOf_39 : decode cX2_newLinesOf 39 = .ok (.iconst 1, 1) := by decide +kernel
theorem dX2_newLinesOf_40 : decode cX2_newLinesOf 40 = .ok (.if_icmp .ne 22, 3) := by decide +kernel
theorem dX2_newLinesOf_43 : decode cX2_newLinesOf 43 = .ok (.aload_n 0, 1) := by decide +kernel
theorem dX2_newLinesOf_44 : decode cX2_newLinesOf 44 = .ok (.getfield 11, 3) := by decide +kernel
theorem dX2_newLinesOf_47 : decode cX2_newLinesOf 47 = .ok (.iload_n 3, 1) := by decide +kernel
theorem dX2_newLinesOf_48 : decode cX2_newLinesOf 48 = .ok (.aaload, 1) := by decide +kernel
theorem dX2_newLinesOf_49 : decode cX2_newLinesOf 49 = .ok (.iload 4, 2) := by decide +kernel
theorem dX2_newLinesOf_51 : decode cX2_newLinesOf 51 = .ok (.iconst 1, 1) := by decide +kernel
theorem dX2_newLinesOf_52 : decode cX2_newLinesOf 52 = .ok (.invokevirtual 122, 3) := by decide +kernel
theorem dX2_newLinesOf_55 : decode cX2_newLinesOf 55 = .ok (.iload_n 1, 1) := by decide +kernel
theorem dX2_newLinesOf_56 : decode cX2_newLinesOf 56 = .ok (.if_icmp .ne 6, 3) := by decide +kernel
theorem dX2_newLinesOf_59 : decode cX2_newLinesOf 59 = .ok (.iinc 2 1, 3) := by decide +kernel
theorem dX2_newLinesOf_62 : decode cX2_newLinesOf 62 = .ok (.iinc 4 1, 3) := by decide +kernel
theorem dX2_newLinesOf_65 : decode cX2_newLinesOf 65 = .ok (.goto (-52), 3) := by decide +kernel
theorem dX2_newLinesOf_68 : decode cX2_newLinesOf 68 = .ok (.iinc 3 1, 3) := by decide +kernel
theorem dX2_newLinesOf_71 : decode cX2_newLinesOf 71 = .ok (.goto (-67), 3) := by decide +kernel
theorem dX2_newLinesOf_74 : decode cX2_newLinesOf 74 = .ok (.iload_n 2, 1) := by decide +kernel
theorem dX2_newLinesOf_75 : decode cX2_newLinesOf 75 = .ok (.ireturn, 1) := by decide +kernel
theorem dX2_newLines_0 : decode cX2_newLines 0 = .ok (.iconst 0, 1) := by decide +kernel
theorem dX2_newLines_1 : decode cX2_newLines 1 = .ok (.istore_n 1, 1) := by decide +kernel
theorem dX2_newLines_2 : decode cX2_newLines 2 = .ok (.iconst 0, 1) := by decide +kernel
theorem dX2_newLines_3 : decode cX2_newLines 3 = .ok (.istore_n 2, 1) := by decide +kernel
theorem dX2_newLines_4 : decode cX2_newLines 4 = .ok (.iload_n 2, 1) := by decide +kernel
theorem dX2_newLines_5 : decode cX2_newLines 5 = .ok (.aload_n 0, 1) := by decide +kernel
theorem dX2_newLines_6 : decode cX2_newLines 6 = .ok (.getfield 41, 3) := by decide +kernel
theorem dX2_newLines_9 : decode cX2_newLines 9 = .ok (.if_icmp .ge 17, 3) := by decide +kernel
theorem dX2_newLines_12 : decode cX2_newLines 12 = .ok (.iload_n 1, 1) := by decide +kernel
theorem dX2_newLines_13 : decode cX2_newLines 13 = .ok (.aload_n 0, 1) := by decide +kernel
theorem dX2_newLines_14 : decode cX2_newLines 14 = .ok (.iload_n 2, 1) := by decide +kernel
theorem dX2_newLines_15 : decode cX2_newLines 15 = .ok (.invokevirtual 173, 3) := by decide +kernel
theorem dX2_newLines_18 : decode cX2_newLines 18 = .ok (.iadd, 1) := by decide +kernel
theorem dX2_newLines_19 : decode cX2_newLines 19 = .ok (.istore_n 1, 1) := by decide +kernel
theorem dX2_newLines_20 : decode cX2_newLines 20 = .ok (.iinc 2 1, 3) := by decide +kernel
theorem dX2_newLines_23 : decode cX2_newLines 23 = .ok (.goto (-19), 3) := by decide +kernel
theorem dX2_newLines_26 : decode cX2_newLines 26 = .ok (.iload_n 1, 1) := by decide +kernel
theorem dX2_newLines_27 : decode cX2_newLines 27 = .ok (.ireturn, 1) := by decide +kernel
theorem dX2_allHours_0 : decode cX2_allHours 0 = .ok (.iconst 0, 1) := by decide +kernel
theorem dX2_allHours_1 : decode cX2_allHours 1 = .ok (.istore_n 1, 1) := by decide +kernel
theorem dX2_allHours_2 : decode cX2_allHours 2 = .ok (.iconst 0, 1) := by decide +kernel
theorem dX2_allHours_3 : decode cX2_allHours 3 = .ok (.istore_n 2, 1) := by decide +kernel
theorem dX2_allHours_4 : decode cX2_allHours 4 = .ok (.iload_n 2, 1) := by decide +kernel
theorem dX2_allHours_5 : decode cX2_allHours 5 = .ok (.aload_n 0, 1) := by decide +kernel
theorem dX2_allHours_6 : decode cX2_allHours 6 = .ok (.getfield 41, 3) := by decide +kernel
theorem dX2_allHours_9 : decode cX2_allHours 9 = .ok (.if_icmp .ge 21, 3) := by decide +kernel
theorem dX2_allHours_12 : decode cX2_allHours 12 = .ok (.iload_n 1, 1) := by decide +kernel
theorem dX2_allHours_13 : decode cX2_allHours 13 = .ok (.aload_n 0, 1) := by decide +kernel
theorem dX2_allHours_14 : decode cX2_allHours 14 = .ok (.getfield 26, 3) := by decide +kernel
theorem dX2_allHours_17 : decode cX2_allHours 17 = .ok (.iload_n 2, 1) := by decide +kernel
theorem dX2_allHours_18 : decode cX2_allHours 18 = .ok (.aaload, 1) := by decide +kernel
theorem dX2_allHours_19 : decode cX2_allHours 19 = .ok (.getfield 176, 3) := by decide +kernel
theorem dX2_allHours_22 : decode cX2_allHours 22 = .ok (.iadd, 1) := by decide +kernel
theorem dX2_allHours_23 : decode cX2_allHours 23 = .ok (.istore_n 1, 1) := by decide +kernel
theorem dX2_allHours_24 : decode cX2_allHours 24 = .ok (.iinc 2 1, 3) := by decide +kernel
theorem dX2_allHours_27 : decode cX2_allHours 27 = .ok (.goto (-23), 3) := by decide +kernel
theorem dX2_allHours_30 : decode cX2_allHours 30 = .ok (.iload_n 1, 1) := by decide +kernel
theorem dX2_allHours_31 : decode cX2_allHours 31 = .ok (.ireturn, 1) := by decide +kernel
theorem dX2_programsInLog_0 : decode cX2_programsInLog 0 = .ok (.iconst 0, 1) := by decide +kernel
theorem dX2_programsInLog_1 : decode cX2_programsInLog 1 = .ok (.istore_n 1, 1) := by decide +kernel
theorem dX2_programsInLog_2 : decode cX2_programsInLog 2 = .ok (.iconst 0, 1) := by decide +kernel
theorem dX2_programsInLog_3 : decode cX2_programsInLog 3 = .ok (.istore_n 2, 1) := by decide +kernel
theorem dX2_programsInLog_4 : decode cX2_programsInLog 4 = .ok (.iload_n 2, 1) := by decide +kernel
theorem dX2_programsInLog_5 : decode cX2_programsInLog 5 = .ok (.aload_n 0, 1) := by decide +kernel
theorem dX2_programsInLog_6 : decode cX2_programsInLog 6 = .ok (.getfield 31, 3) := by decide +kernel
theorem dX2_programsInLog_9 : decode cX2_programsInLog 9 = .ok (.getfield 157, 3) := by decide +kernel
theorem dX2_programsInLog_12 : decode cX2_programsInLog 12 = .ok (.if_icmp .ge 23, 3) := by decide +kernel
theorem dX2_programsInLog_15 : decode cX2_programsInLog 15 = .ok (.iload_n 1, 1) := by decide +kernel
theorem dX2_programsInLog_16 : decode cX2_programsInLog 16 = .ok (.iconst 1, 1) := by decide +kernel
theorem dX2_programsInLog_17 : decode cX2_programsInLog 17 = .ok (.aload_n 0, 1) := by decide +kernel
theorem dX2_programsInLog_18 : decode cX2_programsInLog 18 = .ok (.getfield 31, 3) := by decide +kernel
theorem dX2_programsInLog_21 : decode cX2_programsInLog 21 = .ok (.iload_n 2, 1) := by decide +kernel
theorem dX2_programsInLog_22 : decode cX2_programsInLog 22 = .ok (.iconst 0, 1) := by decide +kernel
theorem dX2_programsInLog_23 : decode cX2_programsInLog 23 = .ok (.invokevirtual 122, 3) := by decide +kernel
theorem dX2_programsInLog_26 : decode cX2_programsInLog 26 = .ok (.ishl, 1) := by decide +kernel
theorem dX2_programsInLog_27 : decode cX2_programsInLog 27 = .ok (.ior, 1) := by decide +kernel
theorem dX2_programsInLog_28 : decode cX2_programsInLog 28 = .ok (.istore_n 1, 1) := by decide +kernel
theorem dX2_programsInLog_29 : decode cX2_programsInLog 29 = .ok (.iinc 2 1, 3) := by decide +kernel
theorem dX2_programsInLog_32 : decode cX2_programsInLog 32 = .ok (.goto (-28), 3) := by decide +kernel
theorem dX2_programsInLog_35 : decode cX2_programsInLog 35 = .ok (.iload_n 1, 1) := by decide +kernel
theorem dX2_programsInLog_36 : decode cX2_programsInLog 36 = .ok (.invokestatic 179, 3) := by decide +kernel
theorem dX2_programsInLog_39 : decode cX2_programsInLog 39 = .ok (.ireturn, 1) := by decide +kernel
theorem dX3_init_0 : decode cX3_init 0 = .ok (.aload_n 0, 1) := by decide +kernel
theorem dX3_init_1 : decode cX3_init 1 = .ok (.invokespecial 3, 3) := by decide +kernel
theorem dX3_init_4 : decode cX3_init 4 = .ok (.aload_n 0, 1) := by decide +kernel
theorem dX3_init_5 : decode cX3_init 5 = .ok (.bipush 80, 2) := by decide +kernel
theorem dX3_init_7 : decode cX3_init 7 = .ok (.newarray .char, 2) := by decide +kernel
theorem dX3_init_9 : decode cX3_init 9 = .ok (.putfield 9, 3) := by decide +kernel
theorem dX3_init_12 : decode cX3_init 12 = .ok (.aload_n 0, 1) := by decide +kernel
theorem dX3_init_13 : decode cX3_init 13 = .ok (.iconst 0, 1) := by decide +kernel
theorem dX3_init_14 : decode cX3_init 14 = .ok (.putfield 15, 3) := by decide +kernel
theorem dX3_init_17 : decode cX3_init 17 = .ok (.return_, 1) := by decide +kernel
theorem dX3_append_0 : decode cX3_append 0 = .ok (.aload_n 0, 1) := by decide +kernel
theorem dX3_append_1 : decode cX3_append 1 = .ok (.getfield 15, 3) := by decide +kernel
theorem dX3_append_4 : decode cX3_append 4 = .ok (.iconst 0, 1) := by decide +kernel
theorem dX3_append_5 : decode cX3_append 5 = .ok (.bipush 79, 2) := by decide +kernel
theorem dX3_append_7 : decode cX3_append 7 = .ok (.invokestatic 19, 3) := by decide +kernel
theorem dX3_append_10 : decode cX3_append 10 = .ok (.ifCond .eq 5, 3) := by decide +kernel
theorem dX3_append_13 : decode cX3_append 13 = .ok (.iconst 0, 1) := by decide +kernel
theorem dX3_append_14 : decode cX3_append 14 = .ok (.ireturn, 1) := by decide +kernel
theorem dX3_append_15 : decode cX3_append 15 = .ok (.aload_n 0, 1) := by decide +kernel
theorem dX3_append_16 : decode cX3_append 16 = .ok (.getfield 9, 3) := by decide +kernel
theorem dX3_append_19 : decode cX3_append 19 = .ok (.aload_n 0, 1) := by decide +kernel
theorem dX3_append_20 : decode cX3_append 20 = .ok (.getfield 15, 3) := by decide +kernel
theorem dX3_append_23 : decode cX3_append 23 = .ok (.iload_n 1, 1) := by decide +kernel
theorem dX3_append_24 : decode cX3_append 24 = .ok (.castore, 1) := by decide +kernel
theorem dX3_append_25 : decode cX3_append 25 = .ok (.aload_n 0, 1) := by decide +kernel
theorem dX3_append_26 : decode cX3_append 26 = .ok (.dup, 1) := by decide +kernel
theorem dX3_append_27 : decode cX3_append 27 = .ok (.getfield 15, 3) := by decide +kernel
theorem dX3_append_30 : decode cX3_append 30 = .ok (.iconst 1, 1) := by decide +kernel
theorem dX3_append_31 : decode cX3_append 31 = .ok (.iadd, 1) := by decide +kernel
theorem dX3_append_32 : decode cX3_append 32 = .ok (.putfield 15, 3) := by decide +kernel
theorem dX3_append_35 : decode cX3_append 35 = .ok (.iconst 1, 1) := by decide +kernel
theorem dX3_append_36 : decode cX3_append 36 = .ok (.ireturn, 1) := by decide +kernel
theorem dX3_fault_0 : decode cX3_fault 0 = .ok (.iconst 0, 1) := by decide +kernel
theorem dX3_fault_1 : decode cX3_fault 1 = .ok (.istore_n 1, 1) := by decide +kernel
theorem dX3_fault_2 : decode cX3_fault 2 = .ok (.iconst 0, 1) := by decide +kernel
theorem dX3_fault_3 : decode cX3_fault 3 = .ok (.istore_n 2, 1) := by decide +kernel
theorem dX3_fault_4 : decode cX3_fault 4 = .ok (.iconst 0, 1) := by decide +kernel
theorem dX3_fault_5 : decode cX3_fault 5 = .ok (.istore_n 3, 1) := by decide +kernel
theorem dX3_fault_6 : decode cX3_fault 6 = .ok (.iload_n 3, 1) := by decide +kernel
theorem dX3_fault_7 : decode cX3_fault 7 = .ok (.aload_n 0, 1) := by decide +kernel
theorem dX3_fault_8 : decode cX3_fault 8 = .ok (.getfield 15, 3) := by decide +kernel
theorem dX3_fault_11 : decode cX3_fault 11 = .ok (.if_icmp .ge 48, 3) := by decide +kernel
theorem dX3_fault_14 : decode cX3_fault 14 = .ok (.aload_n 0, 1) := by decide +kernel
theorem dX3_fault_15 : decode cX3_fault 15 = .ok (.getfield 9, 3) := by decide +kernel
theorem dX3_fault_18 : decode cX3_fault 18 = .ok (.iload_n 3, 1) := by decide +kernel
theorem dX3_fault_19 : decode cX3_fault 19 = .ok (.caload, 1) := by decide +kernel
theorem dX3_fault_20 : decode cX3_fault 20 = .ok (.invokestatic 23, 3) := by decide +kernel
theorem dX3_fault_23 : decode cX3_fault 23 = .ok (.ifCond .eq 9, 3) := by decide +kernel
theorem dX3_fault_26 : decode cX3_fault 26 = .ok (.iload_n 2, 1) := by decide +kernel
theorem dX3_fault_27 : decode cX3_fault 27 = .ok (.iconst 1, 1) := by decide +kernel
theorem dX3_fault_28 : decode cX3_fault 28 = .ok (.iadd, 1) := by decide +kernel
theorem dX3_fault_29 : decode cX3_fault 29 = .ok (.goto 4, 3) := by decide +kernel
theorem dX3_fault_32 : decode cX3_fault 32 = .ok (.iconst 0, 1) := by decide +kernel
theorem dX3_fault_33 : decode cX3_fault 33 = .ok (.istore_n 2, 1) := by decide +kernel
theorem dX3_fault_34 : decode cX3_fault 34 = .ok (.iload_n 1, 1) := by decide +kernel
theorem dX3_fault_35 : decode cX3_fault 35 = .ok (.aload_n 0, 1) := by decide +kernel
theorem dX3_fault_36 : decode cX3_fault 36 = .ok (.getfield 9, 3) := by decide +kernel
theorem dX3_fault_39 : decode cX3_fault 39 = .ok (.iload_n 3, 1) := by decide +kernel
theorem dX3_fault_40 : decode cX3_fault 40 = .ok (.caload, 1) := by decide +kernel
theorem dX3_fault_41 : decode cX3_fault 41 = .ok (.iload_n 2, 1) := by decide +kernel
theorem dX3_fault_42 : decode cX3_fault 42 = .ok (.invokestatic 27, 3) := by decide +kernel
theorem dX3_fault_45 : decode cX3_fault 45 = .ok (.istore_n 1, 1) := by decide +kernel
theorem dX3_fault_46 : decode cX3_fault 46 = .ok (.iload_n 1, 1) := by decide +kernel
theorem dX3_fault_47 : decode cX3_fault 47 = .ok (.iconst 4, 1) := by decide +kernel
theorem dX3_fault_48 : decode cX3_fault 48 = .ok (.if_icmp .ne 5, 3) := by decide +kernel
theorem dX3_fault_51 : decode cX3_fault 51 = .ok (.iload_n 3, 1) := by decide +kernel
theorem dX3_fault_52 : decode cX3_fault 52 = .ok (.ireturn, 1) := by decide +kernel
theorem dX3_fault_53 : decode cX3_fault 53 = .ok (.iinc 3 1, 3) := by decide +kernel
theorem dX3_fault_56 : decode cX3_fault 56 = .ok (.goto (-50), 3) := by decide +kernel
theorem dX3_fault_59 : decode cX3_fault 59 = .ok (.iload_n 1, 1) := by decide +kernel
theorem dX3_fault_60 : decode cX3_fault 60 = .ok (.ifCond .eq 8, 3) := by decide +kernel
theorem dX3_fault_63 : decode cX3_fault 63 = .ok (.iload_n 1, 1) := by decide +kernel
theorem dX3_fault_64 : decode cX3_fault 64 = .ok (.iconst 1, 1) := by decide +kernel
theorem dX3_fault_65 : decode cX3_fault 65 = .ok (.if_icmp .ne 10, 3) := by decide +kernel
theorem dX3_fault_68 : decode cX3_fault 68 = .ok (.aload_n 0, 1) := by decide +kernel
theorem dX3_fault_69 : decode cX3_fault 69 = .ok (.getfield 15, 3) := by decide +kernel
theorem dX3_fault_72 : decode cX3_fault 72 = .ok (.goto 5, 3) := by decide +kernel
theorem dX3_fault_75 : decode cX3_fault 75 = .ok (.ldc 31, 2) := by decide +kernel
theorem dX3_fault_77 : decode cX3_fault 77 = .ok (.ireturn, 1) := by decide +kernel
theorem dX3_dueBehind_0 : decode cX3_dueBehind 0 = .ok (.iload_n 0, 1) := by decide +kernel
theorem dX3_dueBehind_1 : decode cX3_dueBehind 1 = .ok (.tableswitch 95 0 2 #[27, 44, 65], 27) := by decide +kernel
theorem dX3_dueBehind_28 : decode cX3_dueBehind 28 = .ok (.iload_n 1, 1) := by decide +kernel
theorem dX3_dueBehind_29 : decode cX3_dueBehind 29 = .ok (.bipush 97, 2) := by decide +kernel
theorem dX3_dueBehind_31 : decode cX3_dueBehind 31 = .ok (.bipush 112, 2) := by decide +kernel
theorem dX3_dueBehind_33 : decode cX3_dueBehind 33 = .ok (.invokestatic 19, 3) := by decide +kernel
theorem dX3_dueBehind_36 : decode cX3_dueBehind 36 = .ok (.ifCond .eq 7, 3) := by decide +kernel
theorem dX3_dueBehind_39 : decode cX3_dueBehind 39 = .ok (.iconst 4, 1) := by decide +kernel
theorem dX3_dueBehind_40 : decode cX3_dueBehind 40 = .ok (.goto 4, 3) := by decide +kernel
theorem dX3_dueBehind_43 : decode cX3_dueBehind 43 = .ok (.iconst 1, 1) := by decide +kernel
theorem dX3_dueBehind_44 : decode cX3_dueBehind 44 = .ok (.ireturn, 1) := by decide +kernel
theorem dX3_dueBehind_45 : decode cX3_dueBehind 45 = .ok (.iload_n 1, 1) := by decide +kernel
theorem dX3_dueBehind_46 : decode cX3_dueBehind 46 = .ok (.invokestatic 23, 3) := by decide +kernel
theorem dX3_dueBehind_49 : decode cX3_dueBehind 49 = .ok (.ifCond .ne 5, 3) := by decide +kernel
theorem dX3_dueBehind_52 : decode cX3_dueBehind 52 = .ok (.iconst 4, 1) := by decide +kernel
theorem dX3_dueBehind_53 : decode cX3_dueBehind 53 = .ok (.ireturn, 1) := by decide +kernel
theorem dX3_dueBehind_54 : decode cX3_dueBehind 54 = .ok (.iload_n 1, 1) := by decide +kernel
theorem dX3_dueBehind_55 : decode cX3_dueBehind 55 = .ok (.bipush 48, 2) := by decide +kernel
theorem dX3_dueBehind_57 : decode cX3_dueBehind 57 = .ok (.if_icmp .ne 7, 3) := by decide +kernel
theorem dX3_dueBehind_60 : decode cX3_dueBehind 60 = .ok (.iconst 3, 1) := by decide +kernel
theorem dX3_dueBehind_61 : decode cX3_dueBehind 61 = .ok (.goto 4, 3) := by decide +kernel
theorem dX3_dueBehind_64 : decode cX3_dueBehind 64 = .ok (.iconst 2, 1) := by decide +kernel
theorem dX3_dueBehind_65 : decode cX3_dueBehind 65 = .ok (.ireturn, 1) := by decide +kernel
theorem dX3_dueBehind_66 : decode cX3_dueBehind 66 = .ok (.iload_n 1, 1) := by decide +kernel
theorem dX3_dueBehind_67 : decode cX3_dueBehind 67 = .ok (.invokestatic 23, 3) := by decide +kernel
theorem dX3_dueBehind_70 : decode cX3_dueBehind 70 = .ok (.ifCond .eq 14, 3) := by decide +kernel
theorem dX3_dueBehind_73 : decode cX3_dueBehind 73 = .ok (.iload_n 2, 1) := by decide +kernel
theorem dX3_dueBehind_74 : decode cX3_dueBehind 74 = .ok (.iconst 4, 1) := by decide +kernel
theorem dX3_dueBehind_75 : decode cX3_dueBehind 75 = .ok (.if_icmp .ge 7, 3) := by decide +kernel
theorem dX3_dueBehind_78 : decode cX3_dueBehind 78 = .ok (.iconst 2, 1) := by decide +kernel
theorem dX3_dueBehind_79 : decode cX3_dueBehind 79 = .ok (.goto 4, 3) := by decide +kernel
theorem dX3_dueBehind_82 : decode cX3_dueBehind 82 = .ok (.iconst 3, 1) := by decide +kernel
theorem dX3_dueBehind_83 : decode cX3_dueBehind 83 = .ok (.ireturn, 1) := by decide +kernel
theorem dX3_dueBehind_84 : decode cX3_dueBehind 84 = .ok (.iload_n 1, 1) := by decide +kernel
theorem dX3_dueBehind_85 : decode cX3_dueBehind 85 = .ok (.bipush 44, 2) := by decide +kernel
theorem dX3_dueBehind_87 : decode cX3_dueBehind 87 = .ok (.if_icmp .ne 7, 3) := by decide +kernel
theorem dX3_dueBehind_90 : decode cX3_dueBehind 90 = .ok (.iconst 0, 1) := by decide +kernel
theorem dX3_dueBehind_91 : decode cX3_dueBehind 91 = .ok (.goto 4, 3) := by decide +kernel
theorem dX3_dueBehind_94 : decode cX3_dueBehind 94 = .ok (.iconst 4, 1) := by decide +kernel
theorem dX3_dueBehind_95 : decode cX3_dueBehind 95 = .ok (.ireturn, 1) := by decide +kernel
theorem dX3_dueBehind_96 : decode cX3_dueBehind 96 = .ok (.iload_n 1, 1) := by decide +kernel
theorem dX3_dueBehind_97 : decode cX3_dueBehind 97 = .ok (.bipush 44, 2) := by decide +kernel
theorem dX3_dueBehind_99 : decode cX3_dueBehind 99 = .ok (.if_icmp .ne 7, 3) := by decide +kernel
theorem dX3_dueBehind_102 : decode cX3_dueBehind 102 = .ok (.iconst 0, 1) := by decide +kernel
theorem dX3_dueBehind_103 : decode cX3_dueBehind 103 = .ok (.goto 4, 3) := by decide +kernel
theorem dX3_dueBehind_106 : decode cX3_dueBehind 106 = .ok (.iconst 4, 1) := by decide +kernel
theorem dX3_dueBehind_107 : decode cX3_dueBehind 107 = .ok (.ireturn, 1) := by decide +kernel
theorem dX3_isDigit_0 : decode cX3_isDigit 0 = .ok (.iload_n 0, 1) := by decide +kernel
theorem dX3_isDigit_1 : decode cX3_isDigit 1 = .ok (.bipush 48, 2) := by decide +kernel
theorem dX3_isDigit_3 : decode cX3_isDigit 3 = .ok (.if_icmp .lt 13, 3) := by decide +kernel
theorem dX3_isDigit_6 : decode cX3_isDigit 6 = .ok (.iload_n 0, 1) := by decide +kernel
theorem dX3_isDigit_7 : decode cX3_isDigit 7 = .ok (.bipush 57, 2) := by decide +kernel
theorem dX3_isDigit_9 : decode cX3_isDigit 9 = .ok (.if_icmp .gt 7, 3) := by decide +kernel
theorem dX3_isDigit_12 : decode cX3_isDigit 12 = .ok (.iconst 1, 1) := by decide +kernel
theorem dX3_isDigit_13 : decode cX3_isDigit 13 = .ok (.goto 4, 3) := by decide +kernel
theorem dX3_isDigit_16 : decode cX3_isDigit 16 = .ok (.iconst 0, 1) := by decide +kernel
theorem dX3_isDigit_17 : decode cX3_isDigit 17 = .ok (.ireturn, 1) := by decide +kernel
theorem dX3_performOn_0 : decode cX3_performOn 0 = .ok (.iconst 0, 1) := by decide +kernel
theorem dX3_performOn_1 : decode cX3_performOn 1 = .ok (.istore_n 2, 1) := by decide +kernel
theorem dX3_performOn_2 : decode cX3_performOn 2 = .ok (.iconst 0, 1) := by decide +kernel
theorem dX3_performOn_3 : decode cX3_performOn 3 = .ok (.istore_n 3, 1) := by decide +kernel
theorem dX3_performOn_4 : decode cX3_performOn 4 = .ok (.iconst 0, 1) := by decide +kernel
theorem dX3_performOn_5 : decode cX3_performOn 5 = .ok (.istore 4, 2) := by decide +kernel
theorem dX3_performOn_7 : decode cX3_performOn 7 = .ok (.iconst 0, 1) := by decide +kernel
theorem dX3_performOn_8 : decode cX3_performOn 8 = .ok (.istore 5, 2) := by decide +kernel
theorem dX3_performOn_10 : decode cX3_performOn 10 = .ok (.iload 5, 2) := by decide +kernel
theorem dX3_performOn_12 : decode cX3_performOn 12 = .ok (.aload_n 0, 1) := by decide +kernel
theorem dX3_performOn_13 : decode cX3_performOn 13 = .ok (.getfield 15, 3) := by decide +kernel
theorem dX3_performOn_16 : decode cX3_performOn 16 = .ok (.if_icmp .gt 88, 3) := by decide +kernel
theorem dX3_performOn_19 : decode cX3_performOn 19 = .ok (.iload 5, 2) := by decide +kernel
theorem dX3_performOn_21 : decode cX3_performOn 21 = .ok (.aload_n 0, 1) := by decide +kernel
theorem dX3_performOn_22 : decode cX3_performOn 22 = .ok (.getfield 15, 3) := by decide +kernel
theorem dX3_performOn_25 : decode cX3_performOn 25 = .ok (.if_icmp .ge 13, 3) := by decide +kernel
theorem dX3_performOn_28 : decode cX3_performOn 28 = .ok (.aload_n 0, 1) := by decide +kernel
theorem dX3_performOn_29 : decode cX3_performOn 29 = .ok (.getfield 9, 3) := by decide +kernel
theorem dX3_performOn_32 : decode cX3_performOn 32 = .ok (.iload 5, 2) := by decide +kernel
theorem dX3_performOn_34 : decode cX3_performOn 34 = .ok (.caload, 1) := by decide +kernel
theorem dX3_performOn_35 : decode cX3_performOn 35 = .ok (.goto 5, 3) := by decide +kernel
theorem dX3_performOn_38 : decode cX3_performOn 38 = .ok (.bipush 44, 2) := by decide +kernel
theorem dX3_performOn_40 : decode cX3_performOn 40 = .ok (.istore 6, 2) := by decide +kernel
theorem dX3_performOn_42 : decode cX3_performOn 42 = .ok (.iload 6, 2) := by decide +kernel
theorem dX3_performOn_44 : decode cX3_performOn 44 = .ok (.invokestatic 23, 3) := by decide +kernel
theorem dX3_performOn_47 : decode cX3_performOn 47 = .ok (.ifCond .eq 19, 3) := by decide +kernel
theorem dX3_performOn_50 : decode cX3_performOn 50 = .ok (.iload 4, 2) := by decide +kernel
theorem dX3_performOn_52 : decode cX3_performOn 52 = .ok (.bipush 10, 2) := by decide +kernel
theorem dX3_performOn_54 : decode cX3_performOn 54 = .ok (.imul, 1) := by decide +kernel
theorem dX3_performOn_55 : decode cX3_performOn 55 = .ok (.iload 6, 2) := by decide +kernel
theorem dX3_performOn_57 : decode cX3_performOn 57 = .ok (.bipush 48, 2) := by decide +kernel
theorem dX3_performOn_59 : decode cX3_performOn 59 = .ok (.isub, 1) := by decide +kernel
theorem dX3_performOn_60 : decode cX3_performOn 60 = .ok (.iadd, 1) := by decide +kernel
theorem dX3_performOn_61 : decode cX3_performOn 61 = .ok (.istore 4, 2) := by decide +kernel
theorem dX3_performOn_63 : decode cX3_performOn 63 = .ok (.goto 35, 3) := by decide +kernel
theorem dX3_performOn_66 : decode cX3_performOn 66 = .ok (.iload 6, 2) := by decide +kernel
theorem dX3_performOn_68 : decode cX3_performOn 68 = .ok (.bipush 44, 2) := by decide +kernel
theorem dX3_performOn_70 : decode cX3_performOn 70 = .ok (.if_icmp .ne 22, 3) := by decide +kernel
theorem dX3_performOn_73 : decode cX3_performOn 73 = .ok (.aload_n 1, 1) := by decide +kernel
theorem dX3_performOn_74 : decode cX3_performOn 74 = .ok (.iload_n 3, 1) := by decide +kernel
theorem dX3_performOn_75 : decode cX3_performOn 75 = .ok (.iload 4, 2) := by decide +kernel
theorem dX3_performOn_77 : decode cX3_performOn 77 = .ok (.invokevirtual 32, 3) := by decide +kernel
theorem dX3_performOn_80 : decode cX3_performOn 80 = .ok (.ifCond .eq 6, 3) := by decide +kernel
theorem dX3_performOn_83 : decode cX3_performOn 83 = .ok (.iinc 2 1, 3) := by decide +kernel
theorem dX3_performOn_86 : decode cX3_performOn 86 = .ok (.iconst 0, 1) := by decide +kernel
theorem dX3_performOn_87 : decode cX3_performOn 87 = .ok (.istore 4, 2) := by decide +kernel
theorem dX3_performOn_89 : decode cX3_performOn 89 = .ok (.goto 9, 3) := by decide +kernel
theorem dX3_performOn_92 : decode cX3_performOn 92 = .ok (.iload 6, 2) := by decide +kernel
theorem dX3_performOn_94 : decode cX3_performOn 94 = .ok (.bipush 97, 2) := by decide +kernel
theorem dX3_performOn_96 : decode cX3_performOn 96 = .ok (.isub, 1) := by decide +kernel
theorem dX3_performOn_97 : decode cX3_performOn 97 = .ok (.istore_n 3, 1) := by decide +kernel
theorem dX3_performOn_98 : decode cX3_performOn 98 = .ok (.iinc 5 1, 3) := by decide +kernel
theorem dX3_performOn_101 : decode cX3_performOn 101 = .ok (.goto (-91), 3) := by decide +kernel
theorem dX3_performOn_104 : decode cX3_performOn 104 = .ok (.iload_n 2, 1) := by decide +kernel
theorem dX3_performOn_105 : decode cX3_performOn 105 = .ok (.ireturn, 1) := by decide +kernel
theorem dX4_init_0 : decode cX4_init 0 = .ok (.aload_n 0, 1) := by decide +kernel
theorem dX4_init_1 : decode cX4_init 1 = .ok (.invokespecial 1, 3) := by decide +kernel
theorem dX4_init_4 : decode cX4_init 4 = .ok (.aload_n 0, 1) := by decide +kernel
theorem dX4_init_5 : decode cX4_init 5 = .ok (.new 7, 3) := by decide +kernel
theorem dX4_init_8 : decode cX4_init 8 = .ok (.dup, 1) := by decide +kernel
theorem dX4_init_9 : decode cX4_init 9 = .ok (.invokespecial 9, 3) := by decide +kernel
theorem dX4_init_12 : decode cX4_init 12 = .ok (.putfield 10, 3) := by decide +kernel
theorem dX4_init_15 : decode cX4_init 15 = .ok (.aload_n 0, 1) := by decide +kernel
theorem dX4_init_16 : decode cX4_init 16 = .ok (.new 7, 3) := by decide +kernel
theorem dX4_init_19 : decode cX4_init 19 = .ok (.dup, 1) := by decide +kernel
theorem dX4_init_20 : decode cX4_init 20 = .ok (.invokespecial 9, 3) := by decide +kernel
theorem dX4_init_23 : decode cX4_init 23 = .ok (.putfield 16, 3) := by decide +kernel
theorem dX4_init_26 : decode cX4_init 26 = .ok (.aload_n 0, 1) := by decide +kernel
theorem dX4_init_27 : decode cX4_init 27 = .ok (.new 7, 3) := by decide +kernel
theorem dX4_init_30 : decode cX4_init 30 = .ok (.dup, 1) := by decide +kernel
theorem dX4_init_31 : decode cX4_init 31 = .ok (.invokespecial 9, 3) := by decide +kernel
theorem dX4_init_34 : decode cX4_init 34 = .ok (.putfield 19, 3) := by decide +kernel
theorem dX4_init_37 : decode cX4_init 37 = .ok (.aload_n 0, 1) := by decide +kernel
theorem dX4_init_38 : decode cX4_init 38 = .ok (.iconst 4, 1) := by decide +kernel
theorem dX4_init_39 : decode cX4_init 39 = .ok (.anewarray 7, 3) := by decide +kernel
theorem dX4_init_42 : decode cX4_init 42 = .ok (.putfield 22, 3) := by decide +kernel
theorem dX4_init_45 : decode cX4_init 45 = .ok (.iconst 0, 1) := by decide +kernel
theorem dX4_init_46 : decode cX4_init 46 = .ok (.istore_n 1, 1) := by decide +kernel
theorem dX4_init_47 : decode cX4_init 47 = .ok (.iload_n 1, 1) := by decide +kernel
theorem dX4_init_48 : decode cX4_init 48 = .ok (.iconst 4, 1) := by decide +kernel
theorem dX4_init_49 : decode cX4_init 49 = .ok (.if_icmp .ge 22, 3) := by decide +kernel
theorem dX4_init_52 : decode cX4_init 52 = .ok (.aload_n 0, 1) := by decide +kernel
theorem dX4_init_53 : decode cX4_init 53 = .ok (.getfield 22, 3) := by decide +kernel
theorem dX4_init_56 : decode cX4_init 56 = .ok (.iload_n 1, 1) := by decide +kernel
theorem dX4_init_57 : decode cX4_init 57 = .ok (.new 7, 3) := by decide +kernel
theorem dX4_init_60 : decode cX4_init 60 = .ok (.dup, 1) := by decide +kernel
theorem dX4_init_61 : decode cX4_init 61 = .ok (.invokespecial 9, 3) := by decide +kernel
theorem dX4_init_64 : decode cX4_init 64 = .ok (.aastore, 1) := by decide +kernel
theorem dX4_init_65 : decode cX4_init 65 = .ok (.iinc 1 1, 3) := by decide +kernel
theorem dX4_init_68 : decode cX4_init 68 = .ok (.goto (-21), 3) := by decide +kernel
theorem dX4_init_71 : decode cX4_init 71 = .ok (.aload_n 0, 1) := by decide +kernel
theorem dX4_init_72 : decode cX4_init 72 = .ok (.new 26, 3) := by decide +kernel
theorem dX4_init_75 : decode cX4_init 75 = .ok (.dup, 1) := by decide +kernel
theorem dX4_init_76 : decode cX4_init 76 = .ok (.invokespecial 28, 3) := by decide +kernel
theorem dX4_init_79 : decode cX4_init 79 = .ok (.putfield 29, 3) := by decide +kernel
theorem dX4_init_82 : decode cX4_init 82 = .ok (.aload_n 0, 1) := by decide +kernel
theorem dX4_init_83 : decode cX4_init 83 = .ok (.iconst 0, 1) := by decide +kernel
theorem dX4_init_84 : decode cX4_init 84 = .ok (.putfield 33, 3) := by decide +kernel
theorem dX4_init_87 : decode cX4_init 87 = .ok (.aload_n 0, 1) := by decide +kernel
theorem dX4_init_88 : decode cX4_init 88 = .ok (.iconst 0, 1) := by decide +kernel
theorem dX4_init_89 : decode cX4_init 89 = .ok (.putfield 37, 3) := by decide +kernel
theorem dX4_init_92 : decode cX4_init 92 = .ok (.return_, 1) := by decide +kernel
theorem dX4_shape_0 : decode cX4_shape 0 = .ok (.iload_n 1, 1) := by decide +kernel
theorem dX4_shape_1 : decode cX4_shape 1 = .ok (.iconst 1, 1) := by decide +kernel
theorem dX4_shape_2 : decode cX4_shape 2 = .ok (.bipush 8, 2) := by decide +kernel
theorem dX4_shape_4 : decode cX4_shape 4 = .ok (.invokestatic 41, 3) := by decide +kernel
theorem dX4_shape_7 : decode cX4_shape 7 = .ok (.ifCond .ne 12, 3) := by decide +kernel
theorem dX4_shape_10 : decode cX4_shape 10 = .ok (.iload_n 2, 1) := by decide +kernel
theorem dX4_shape_11 : decode cX4_shape 11 = .ok (.iconst 1, 1) := by decide +kernel
theorem dX4_shape_12 : decode cX4_shape 12 = .ok (.iconst 4, 1) := by decide +kernel
theorem dX4_shape_13 : decode cX4_shape 13 = .ok (.invokestatic 41, 3) := by decide +kernel
theorem dX4_shape_16 : decode cX4_shape 16 = .ok (.ifCond .eq 6, 3) := by decide +kernel
theorem dX4_shape_19 : decode cX4_shape 19 = .ok (.ldc 45, 2) := by decide +kernel
theorem dX4_shape_21 : decode cX4_shape 21 = .ok (.ireturn, 1) := by decide +kernel
theorem dX4_shape_22 : decode cX4_shape 22 = .ok (.iload_n 1, 1) := by decide +kernel
theorem dX4_shape_23 : decode cX4_shape 23 = .ok (.aload_n 0, 1) := by decide +kernel
theorem dX4_shape_24 : decode cX4_shape 24 = .ok (.getfield 10, 3) := by decide +kernel
theorem dX4_shape_27 : decode cX4_shape 27 = .ok (.getfield 46, 3) := by decide +kernel
theorem dX4_shape_30 : decode cX4_shape 30 = .ok (.if_icmp .ne 17, 3) := by decide +kernel
theorem dX4_shape_33 : decode cX4_shape 33 = .ok (.iload_n 2, 1) := by decide +kernel
theorem dX4_shape_34 : decode cX4_shape 34 = .ok (.aload_n 0, 1) := by decide +kernel
theorem dX4_shape_35 : decode cX4_shape 35 = .ok (.getfield 10, 3) := by decide +kernel
theorem dX4_shape_38 : decode cX4_shape 38 = .ok (.getfield 49, 3) := by decide +kernel
theorem dX4_shape_41 : decode cX4_shape 41 = .ok (.if_icmp .ne 6, 3) := by decide +kernel
theorem dX4_shape_44 : decode cX4_shape 44 = .ok (.ldc 52, 2) := by decide +kernel
theorem dX4_shape_46 : decode cX4_shape 46 = .ok (.ireturn, 1) := by decide +kernel
theorem dX4_shape_47 : decode cX4_shape 47 = .ok (.aload_n 0, 1) := by decide +kernel
theorem dX4_shape_48 : decode cX4_shape 48 = .ok (.invokevirtual 53, 3) := by decide +kernel
theorem dX4_shape_51 : decode cX4_shape 51 = .ok (.aload_n 0, 1) := by decide +kernel
theorem dX4_shape_52 : decode cX4_shape 52 = .ok (.getfield 10, 3) := by decide +kernel
theorem dX4_shape_55 : decode cX4_shape 55 = .ok (.invokevirtual 56, 3) := by decide +kernel
theorem dX4_shape_58 : decode cX4_shape 58 = .ok (.istore_n 3, 1) := by decide +kernel
theorem dX4_shape_59 : decode cX4_shape 59 = .ok (.aload_n 0, 1) := by decide +kernel
theorem dX4_shape_60 : decode cX4_shape 60 = .ok (.getfield 10, 3) := by decide +kernel
theorem dX4_shape_63 : decode cX4_shape 63 = .ok (.getfield 60, 3) := by decide +kernel
theorem dX4_shape_66 : decode cX4_shape 66 = .ok (.iconst 0, 1) := by decide +kernel
theorem dX4_shape_67 : decode cX4_shape 67 = .ok (.putfield 64, 3) := by decide +kernel
theorem dX4_shape_70 : decode cX4_shape 70 = .ok (.aload_n 0, 1) := by decide +kernel
theorem dX4_shape_71 : decode cX4_shape 71 = .ok (.getfield 10, 3) := by decide +kernel
theorem dX4_shape_74 : decode cX4_shape 74 = .ok (.iload_n 1, 1) := by decide +kernel
theorem dX4_shape_75 : decode cX4_shape 75 = .ok (.putfield 46, 3) := by decide +kernel
theorem dX4_shape_78 : decode cX4_shape 78 = .ok (.aload_n 0, 1) := by decide +kernel
theorem dX4_shape_79 : decode cX4_shape 79 = .ok (.getfield 10, 3) := by decide +kernel
theorem dX4_shape_82 : decode cX4_shape 82 = .ok (.iload_n 2, 1) := by decide +kernel
theorem dX4_shape_83 : decode cX4_shape 83 = .ok (.putfield 49, 3) := by decide +kernel
theorem dX4_shape_86 : decode cX4_shape 86 = .ok (.iload_n 3, 1) := by decide +kernel
theorem dX4_shape_87 : decode cX4_shape 87 = .ok (.ireturn, 1) := by decide +kernel
theorem dX4_flush_0 : decode cX4_flush 0 = .ok (.aload_n 0, 1) := by decide +kernel
theorem dX4_flush_1 : decode cX4_flush 1 = .ok (.getfield 10, 3) := by decide +kernel
theorem dX4_flush_4 : decode cX4_flush 4 = .ok (.invokevirtual 69, 3) := by decide +kernel
theorem dX4_flush_7 : decode cX4_flush 7 = .ok (.ifCond .ne 6, 3) := by decide +kernel
theorem dX4_flush_10 : decode cX4_flush 10 = .ok (.ldc 52, 2) := by decide +kernel
theorem dX4_flush_12 : decode cX4_flush 12 = .ok (.ireturn, 1) := by decide +kernel
theorem dX4_flush_13 : decode cX4_flush 13 = .ok (.aload_n 0, 1) := by decide +kernel
theorem dX4_flush_14 : decode cX4_flush 14 = .ok (.invokevirtual 53, 3) := by decide +kernel
theorem dX4_flush_17 : decode cX4_flush 17 = .ok (.aload_n 0, 1) := by decide +kernel
theorem dX4_flush_18 : decode cX4_flush 18 = .ok (.getfield 10, 3) := by decide +kernel
theorem dX4_flush_21 : decode cX4_flush 21 = .ok (.invokevirtual 56, 3) := by decide +kernel
theorem dX4_flush_24 : decode cX4_flush 24 = .ok (.ireturn, 1) := by decide +kernel
theorem dX4_addHelper_0 : decode cX4_addHelper 0 = .ok (.iload_n 1, 1) := by decide +kernel
theorem dX4_addHelper_1 : decode cX4_addHelper 1 = .ok (.iconst 0, 1) := by decide +kernel
theorem dX4_addHelper_2 : decode cX4_addHelper 2 = .ok (.iconst 2, 1) := by decide +kernel
theorem dX4_addHelper_3 : decode cX4_addHelper 3 = .ok (.invokestatic 41, 3) := by decide +kernel
theorem dX4_addHelper_6 : decode cX4_addHelper 6 = .ok (.ifCond .ne 22, 3) := by decide +kernel
theorem dX4_addHelper_9 : decode cX4_addHelper 9 = .ok (.iload_n 2, 1) := by decide +kernel
theorem dX4_addHelper_10 : decode cX4_addHelper 10 = .ok (.iconst 1, 1) := by decide +kernel
theorem dX4_addHelper_11 : decode cX4_addHelper 11 = .ok (.iconst 4, 1) := by decide +kernel
theorem dX4_addHelper_12 : decode cX4_addHelper 12 = .ok (.invokestatic 41, 3) := by decide +kernel
theorem dX4_addHelper_15 : decode cX4_addHelper 15 = .ok (.ifCond .ne 13, 3) := by decide +kernel
theorem dX4_addHelper_18 : decode cX4_addHelper 18 = .ok (.iload_n 3, 1) := by decide +kernel
theorem dX4_addHelper_19 : decode cX4_addHelper 19 = .ok (.iconst 1, 1) := by decide +kernel
theorem dX4_addHelper_20 : decode cX4_addHelper 20 = .ok (.bipush 9, 2) := by decide +kernel
theorem dX4_addHelper_22 : decode cX4_addHelper 22 = .ok (.invokestatic 41, 3) := by decide +kernel
theorem dX4_addHelper_25 : decode cX4_addHelper 25 = .ok (.ifCond .eq 6, 3) := by decide +kernel
theorem dX4_addHelper_28 : decode cX4_addHelper 28 = .ok (.ldc 45, 2) := by decide +kernel
theorem dX4_addHelper_30 : decode cX4_addHelper 30 = .ok (.ireturn, 1) := by decide +kernel
theorem dX4_addHelper_31 : decode cX4_addHelper 31 = .ok (.aload_n 0, 1) := by decide +kernel
theorem dX4_addHelper_32 : decode cX4_addHelper 32 = .ok (.getfield 10, 3) := by decide +kernel
theorem dX4_addHelper_35 : decode cX4_addHelper 35 = .ok (.getfield 72, 3) := by decide +kernel
theorem dX4_addHelper_38 : decode cX4_addHelper 38 = .ok (.bipush 6, 2) := by decide +kernel
theorem dX4_addHelper_40 : decode cX4_addHelper 40 = .ok (.if_icmp .lt 6, 3) := by decide +kernel
theorem dX4_addHelper_43 : decode cX4_addHelper 43 = .ok (.ldc 75, 2) := by decide +kernel
theorem dX4_addHelper_45 : decode cX4_addHelper 45 = .ok (.ireturn, 1) := by decide +kernel
theorem dX4_addHelper_46 : decode cX4_addHelper 46 = .ok (.aload_n 0, 1) := by decide +kernel
theorem dX4_addHelper_47 : decode cX4_addHelper 47 = .ok (.invokevirtual 53, 3) := by decide +kernel
theorem dX4_addHelper_50 : decode cX4_addHelper 50 = .ok (.aload_n 0, 1) := by decide +kernel
theorem dX4_addHelper_51 : decode cX4_addHelper 51 = .ok (.getfield 10, 3) := by decide +kernel
theorem dX4_addHelper_54 : decode cX4_addHelper 54 = .ok (.iload_n 1, 1) := by decide +kernel
theorem dX4_addHelper_55 : decode cX4_addHelper 55 = .ok (.iload_n 2, 1) := by decide +kernel
theorem dX4_addHelper_56 : decode cX4_addHelper 56 = .ok (.iload_n 3, 1) := by decide +kernel
theorem dX4_addHelper_57 : decode cX4_addHelper 57 = .ok (.invokevirtual 76, 3) := by decide +kernel
theorem dX4_addHelper_60 : decode cX4_addHelper 60 = .ok (.ireturn, 1) := by decide +kernel
theorem dX4_setDegree_0 : decode cX4_setDegree 0 = .ok (.aload_n 0, 1) := by decide +kernel
theorem dX4_setDegree_1 : decode cX4_setDegree 1 = .ok (.getfield 10, 3) := by decide +kernel
theorem dX4_setDegree_4 : decode cX4_setDegree 4 = .ok (.iload_n 1, 1) := by decide +kernel
theorem dX4_setDegree_5 : decode cX4_setDegree 5 = .ok (.invokevirtual 80, 3) := by decide +kernel
theorem dX4_setDegree_8 : decode cX4_setDegree 8 = .ok (.astore_n 3, 1) := by decide +kernel
theorem dX4_setDegree_9 : decode cX4_setDegree 9 = .ok (.aload_n 3, 1) := by decide +kernel
theorem dX4_setDegree_10 : decode cX4_setDegree 10 = .ok (.ifnonnull 6, 3) := by decide +kernel
theorem dX4_setDegree_13 : decode cX4_setDegree 13 = .ok (.ldc 84, 2) := by decide +kernel
theorem dX4_setDegree_15 : decode cX4_setDegree 15 = .ok (.ireturn, 1) := by decide +kernel
theorem dX4_setDegree_16 : decode cX4_setDegree 16 = .ok (.iload_n 2, 1) := by decide +kernel
theorem dX4_setDegree_17 : decode cX4_setDegree 17 = .ok (.iconst 1, 1) := by decide +kernel
theorem dX4_setDegree_18 : decode cX4_setDegree 18 = .ok (.iconst 4, 1) := by decide +kernel
theorem dX4_setDegree_19 : decode cX4_setDegree 19 = .ok (.invokestatic 41, 3) := by decide +kernel
theorem dX4_setDegree_22 : decode cX4_setDegree 22 = .ok (.ifCond .eq 6, 3) := by decide +kernel
theorem dX4_setDegree_25 : decode cX4_setDegree 25 = .ok (.ldc 45, 2) := by decide +kernel
theorem dX4_setDegree_27 : decode cX4_setDegree 27 = .ok (.ireturn, 1) := by decide +kernel
theorem dX4_setDegree_28 : decode cX4_setDegree 28 = .ok (.aload_n 3, 1) := by decide +kernel
theorem dX4_setDegree_29 : decode cX4_setDegree 29 = .ok (.getfield 85, 3) := by decide +kernel
theorem dX4_setDegree_32 : decode cX4_setDegree 32 = .ok (.iload_n 2, 1) := by decide +kernel
theorem dX4_setDegree_33 : decode cX4_setDegree 33 = .ok (.if_icmp .ne 6, 3) := by decide +kernel
theorem dX4_setDegree_36 : decode cX4_setDegree 36 = .ok (.ldc 52, 2) := by decide +kernel
theorem dX4_setDegree_38 : decode cX4_setDegree 38 = .ok (.ireturn, 1) := by decide +kernel
theorem dX4_setDegree_39 : decode cX4_setDegree 39 = .ok (.aload_n 0, 1) := by decide +kernel
theorem dX4_setDegree_40 : decode cX4_setDegree 40 = .ok (.invokevirtual 53, 3) := by decide +kernel
theorem dX4_setDegree_43 : decode cX4_setDegree 43 = .ok (.aload_n 3, 1) := by decide +kernel
theorem dX4_setDegree_44 : decode cX4_setDegree 44 = .ok (.getfield 85, 3) := by decide +kernel
theorem dX4_setDegree_47 : decode cX4_setDegree 47 = .ok (.istore 4, 2) := by decide +kernel
theorem dX4_setDegree_49 : decode cX4_setDegree 49 = .ok (.aload_n 3, 1) := by decide +kernel
theorem dX4_setDegree_50 : decode cX4_setDegree 50 = .ok (.iload_n 2, 1) := by decide +kernel
theorem dX4_setDegree_51 : decode cX4_setDegree 51 = .ok (.putfield 85, 3) := by decide +kernel
theorem dX4_setDegree_54 : decode cX4_setDegree 54 = .ok (.iload 4, 2) := by decide +kernel
theorem dX4_setDegree_56 : decode cX4_setDegree 56 = .ok (.ireturn, 1) := by decide +kernel
theorem dX4_setTrial_0 : decode cX4_setTrial 0 = .ok (.iload_n 1, 1) := by decide +kernel
theorem dX4_setTrial_1 : decode cX4_setTrial 1 = .ok (.iconst 1, 1) := by decide +kernel
theorem dX4_setTrial_2 : decode cX4_setTrial 2 = .ok (.bipush 9, 2) := by decide +kernel
theorem dX4_setTrial_4 : decode cX4_setTrial 4 = .ok (.invokestatic 41, 3) := by decide +kernel
theorem dX4_setTrial_7 : decode cX4_setTrial 7 = .ok (.ifCond .eq 6, 3) := by decide +kernel
theorem dX4_setTrial_10 : decode cX4_setTrial 10 = .ok (.ldc 45, 2) := by decide +kernel
theorem dX4_setTrial_12 : decode cX4_setTrial 12 = .ok (.ireturn, 1) := by decide +kernel
theorem dX4_setTrial_13 : decode cX4_setTrial 13 = .ok (.aload_n 0, 1) := by decide +kernel
theorem dX4_setTrial_14 : decode cX4_setTrial 14 = .ok (.getfield 10, 3) := by decide +kernel
theorem dX4_setTrial_17 : decode cX4_setTrial 17 = .ok (.getfield 90, 3) := by decide +kernel
theorem dX4_setTrial_20 : decode cX4_setTrial 20 = .ok (.iload_n 1, 1) := by decide +kernel
theorem dX4_setTrial_21 : decode cX4_setTrial 21 = .ok (.if_icmp .ne 6, 3) := by decide +kernel
theorem dX4_setTrial_24 : decode cX4_setTrial 24 = .ok (.ldc 52, 2) := by decide +kernel
theorem dX4_setTrial_26 : decode cX4_setTrial 26 = .ok (.ireturn, 1) := by decide +kernel
theorem dX4_setTrial_27 : decode cX4_setTrial 27 = .ok (.aload_n 0, 1) := by decide +kernel
theorem dX4_setTrial_28 : decode cX4_setTrial 28 = .ok (.invokevirtual 53, 3) := by decide +kernel
theorem dX4_setTrial_31 : decode cX4_setTrial 31 = .ok (.aload_n 0, 1) := by decide +kernel
theorem dX4_setTrial_32 : decode cX4_setTrial 32 = .ok (.getfield 10, 3) := by decide +kernel
theorem dX4_setTrial_35 : decode cX4_setTrial 35 = .ok (.getfield 90, 3) := by decide +kernel
theorem dX4_setTrial_38 : decode cX4_setTrial 38 = .ok (.istore_n 2, 1) := by decide +kernel
theorem dX4_setTrial_39 : decode cX4_setTrial 39 = .ok (.aload_n 0, 1) := by decide +kernel
theorem dX4_setTrial_40 : decode cX4_setTrial 40 = .ok (.getfield 10, 3) := by decide +kernel
theorem dX4_setTrial_43 : decode cX4_setTrial 43 = .ok (.iload_n 1, 1) := by decide +kernel
theorem dX4_setTrial_44 : decode cX4_setTrial 44 = .ok (.putfield 90, 3) := by decide +kernel
theorem dX4_setTrial_47 : decode cX4_setTrial 47 = .ok (.iload_n 2, 1) := by decide +kernel
theorem dX4_setTrial_48 : decode cX4_setTrial 48 = .ok (.ireturn, 1) := by decide +kernel
theorem dX4_pardon_0 : decode cX4_pardon 0 = .ok (.aload_n 0, 1) := by decide +kernel
theorem dX4_pardon_1 : decode cX4_pardon 1 = .ok (.getfield 10, 3) := by decide +kernel
theorem dX4_pardon_4 : decode cX4_pardon 4 = .ok (.iload_n 1, 1) := by decide +kernel
theorem dX4_pardon_5 : decode cX4_pardon 5 = .ok (.invokevirtual 80, 3) := by decide +kernel
theorem dX4_pardon_8 : decode cX4_pardon 8 = .ok (.astore_n 2, 1) := by decide +kernel
theorem dX4_pardon_9 : decode cX4_pardon 9 = .ok (.aload_n 2, 1) := by decide +kernel
theorem dX4_pardon_10 : decode cX4_pardon 10 = .ok (.ifnonnull 6, 3) := by decide +kernel
theorem dX4_pardon_13 : decode cX4_pardon 13 = .ok (.ldc 84, 2) := by decide +kernel
theorem dX4_pardon_15 : decode cX4_pardon 15 = .ok (.ireturn, 1) := by decide +kernel
theorem dX4_pardon_16 : decode cX4_pardon 16 = .ok (.aload_n 2, 1) := by decide +kernel
theorem dX4_pardon_17 : decode cX4_pardon 17 = .ok (.getfield 93, 3) := by decide +kernel
theorem dX4_pardon_20 : decode cX4_pardon 20 = .ok (.ifCond .ne 6, 3) := by decide +kernel
theorem dX4_pardon_23 : decode cX4_pardon 23 = .ok (.ldc 52, 2) := by decide +kernel
theorem dX4_pardon_25 : decode cX4_pardon 25 = .ok (.ireturn, 1) := by decide +kernel
theorem dX4_pardon_26 : decode cX4_pardon 26 = .ok (.aload_n 0, 1) := by decide +kernel
theorem dX4_pardon_27 : decode cX4_pardon 27 = .ok (.invokevirtual 53, 3) := by decide +kernel
theorem dX4_pardon_30 : decode cX4_pardon 30 = .ok (.aload_n 2, 1) := by decide +kernel
theorem dX4_pardon_31 : decode cX4_pardon 31 = .ok (.invokevirtual 96, 3) := by decide +kernel
theorem dX4_pardon_34 : decode cX4_pardon 34 = .ok (.ireturn, 1) := by decide +kernel
theorem dX4_forget_0 : decode cX4_forget 0 = .ok (.aload_n 0, 1) := by decide +kernel
theorem dX4_forget_1 : decode cX4_forget 1 = .ok (.getfield 10, 3) := by decide +kernel
theorem dX4_forget_4 : decode cX4_forget 4 = .ok (.iload_n 1, 1) := by decide +kernel
theorem dX4_forget_5 : decode cX4_forget 5 = .ok (.invokevirtual 80, 3) := by decide +kernel
theorem dX4_forget_8 : decode cX4_forget 8 = .ok (.astore_n 2, 1) := by decide +kernel
theorem dX4_forget_9 : decode cX4_forget 9 = .ok (.aload_n 2, 1) := by decide +kernel
theorem dX4_forget_10 : decode cX4_forget 10 = .ok (.ifnonnull 6, 3) := by decide +kernel
theorem dX4_forget_13 : decode cX4_forget 13 = .ok (.ldc 84, 2) := by decide +kernel
theorem dX4_forget_15 : decode cX4_forget 15 = .ok (.ireturn, 1) := by decide +kernel
theorem dX4_forget_16 : decode cX4_forget 16 = .ok (.aload_n 2, 1) := by decide +kernel
theorem dX4_forget_17 : decode cX4_forget 17 = .ok (.getfield 99, 3) := by decide +kernel
theorem dX4_forget_20 : decode cX4_forget 20 = .ok (.iconst 2, 1) := by decide +kernel
theorem dX4_forget_21 : decode cX4_forget 21 = .ok (.if_icmp .ne 6, 3) := by decide +kernel
theorem dX4_forget_24 : decode cX4_forget 24 = .ok (.ldc 102, 2) := by decide +kernel
theorem dX4_forget_26 : decode cX4_forget 26 = .ok (.ireturn, 1) := by decide +kernel
theorem dX4_forget_27 : decode cX4_forget 27 = .ok (.aload_n 2, 1) := by decide +kernel
theorem dX4_forget_28 : decode cX4_forget 28 = .ok (.getfield 103, 3) := by decide +kernel
theorem dX4_forget_31 : decode cX4_forget 31 = .ok (.getfield 64, 3) := by decide +kernel
theorem dX4_forget_34 : decode cX4_forget 34 = .ok (.ifCond .ne 6, 3) := by decide +kernel
theorem dX4_forget_37 : decode cX4_forget 37 = .ok (.ldc 52, 2) := by decide +kernel
theorem dX4_forget_39 : decode cX4_forget 39 = .ok (.ireturn, 1) := by decide +kernel
theorem dX4_forget_40 : decode cX4_forget 40 = .ok (.aload_n 0, 1) := by decide +kernel
theorem dX4_forget_41 : decode cX4_forget 41 = .ok (.invokevirtual 53, 3) := by decide +kernel
theorem dX4_forget_44 : decode cX4_forget 44 = .ok (.aload_n 2, 1) := by decide +kernel
theorem dX4_forget_45 : decode cX4_forget 45 = .ok (.getfield 103, 3) := by decide +kernel
theorem dX4_forget_48 : decode cX4_forget 48 = .ok (.getfield 64, 3) := by decide +kernel
theorem dX4_forget_51 : decode cX4_forget 51 = .ok (.istore_n 3, 1) := by decide +kernel
theorem dX4_forget_52 : decode cX4_forget 52 = .ok (.aload_n 2, 1) := by decide +kernel
theorem dX4_forget_53 : decode cX4_forget 53 = .ok (.getfield 103, 3) := by decide +kernel
theorem dX4_forget_56 : decode cX4_forget 56 = .ok (.iconst 0, 1) := by decide +kernel
theorem dX4_forget_57 : decode cX4_forget 57 = .ok (.putfield 64, 3) := by decide +kernel
theorem dX4_forget_60 : decode cX4_forget 60 = .ok (.iload_n 3, 1) := by decide +kernel
theorem dX4_forget_61 : decode cX4_forget 61 = .ok (.ireturn, 1) := by decide +kernel
theorem dX4_access_0 : decode cX4_access 0 = .ok (.iload_n 1, 1) := by decide +kernel
theorem dX4_access_1 : decode cX4_access 1 = .ok (.iconst 0, 1) := by decide +kernel
theorem dX4_access_2 : decode cX4_access 2 = .ok (.bipush 15, 2) := by decide +kernel
theorem dX4_access_4 : decode cX4_access 4 = .ok (.invokestatic 41, 3) := by decide +kernel
theorem dX4_access_7 : decode cX4_access 7 = .ok (.ifCond .ne 14, 3) := by decide +kernel
theorem dX4_access_10 : decode cX4_access 10 = .ok (.iload_n 2, 1) := by decide +kernel
theorem dX4_access_11 : decode cX4_access 11 = .ok (.iconst 0, 1) := by decide +kernel
theorem dX4_access_12 : decode cX4_access 12 = .ok (.sipush 9999, 3) := by decide +kernel
theorem dX4_access_15 : decode cX4_access 15 = .ok (.invokestatic 41, 3) := by decide +kernel
theorem dX4_access_18 : decode cX4_access 18 = .ok (.ifCond .eq 6, 3) := by decide +kernel
theorem dX4_access_21 : decode cX4_access 21 = .ok (.ldc 45, 2) := by decide +kernel
theorem dX4_access_23 : decode cX4_access 23 = .ok (.ireturn, 1) := by decide +kernel
theorem dX4_access_24 : decode cX4_access 24 = .ok (.aload_n 0, 1) := by decide +kernel
theorem dX4_access_25 : decode cX4_access 25 = .ok (.invokevirtual 53, 3) := by decide +kernel
theorem dX4_access_28 : decode cX4_access 28 = .ok (.aload_n 0, 1) := by decide +kernel
theorem dX4_access_29 : decode cX4_access 29 = .ok (.getfield 10, 3) := by decide +kernel
theorem dX4_access_32 : decode cX4_access 32 = .ok (.iload_n 1, 1) := by decide +kernel
theorem dX4_access_33 : decode cX4_access 33 = .ok (.iload_n 2, 1) := by decide +kernel
theorem dX4_access_34 : decode cX4_access 34 = .ok (.invokevirtual 106, 3) := by decide +kernel
theorem dX4_access_37 : decode cX4_access 37 = .ok (.ireturn, 1) := by decide +kernel
theorem dX4_walk_0 : decode cX4_walk 0 = .ok (.iload_n 1, 1) := by decide +kernel
theorem dX4_walk_1 : decode cX4_walk 1 = .ok (.iload_n 2, 1) := by decide +kernel
theorem dX4_walk_2 : decode cX4_walk 2 = .ok (.iload_n 3, 1) := by decide +kernel
theorem dX4_walk_3 : decode cX4_walk 3 = .ok (.iload 4, 2) := by decide +kernel
theorem dX4_walk_5 : decode cX4_walk 5 = .ok (.invokestatic 110, 3) := by decide +kernel
theorem dX4_walk_8 : decode cX4_walk 8 = .ok (.ifCond .ne 6, 3) := by decide +kernel
theorem dX4_walk_11 : decode cX4_walk 11 = .ok (.ldc 45, 2) := by decide +kernel
theorem dX4_walk_13 : decode cX4_walk 13 = .ok (.ireturn, 1) := by decide +kernel
theorem dX4_walk_14 : decode cX4_walk 14 = .ok (.aload_n 0, 1) := by decide +kernel
theorem dX4_walk_15 : decode cX4_walk 15 = .ok (.invokevirtual 53, 3) := by decide +kernel
theorem dX4_walk_18 : decode cX4_walk 18 = .ok (.aload_n 0, 1) := by decide +kernel
theorem dX4_walk_19 : decode cX4_walk 19 = .ok (.getfield 10, 3) := by decide +kernel
theorem dX4_walk_22 : decode cX4_walk 22 = .ok (.iload_n 1, 1) := by decide +kernel
theorem dX4_walk_23 : decode cX4_walk 23 = .ok (.iload_n 2, 1) := by decide +kernel
theorem dX4_walk_24 : decode cX4_walk 24 = .ok (.iload_n 3, 1) := by decide +kernel
theorem dX4_walk_25 : decode cX4_walk 25 = .ok (.iload 4, 2) := by decide +kernel
theorem dX4_walk_27 : decode cX4_walk 27 = .ok (.invokevirtual 114, 3) := by decide +kernel
theorem dX4_walk_30 : decode cX4_walk 30 = .ok (.ireturn, 1) := by decide +kernel
theorem dX4_type_0 : decode cX4_type 0 = .ok (.aload_n 0, 1) := by decide +kernel
theorem dX4_type_1 : decode cX4_type 1 = .ok (.getfield 29, 3) := by decide +kernel
theorem dX4_type_4 : decode cX4_type 4 = .ok (.iload_n 1, 1) := by decide +kernel
theorem dX4_type_5 : decode cX4_type 5 = .ok (.invokevirtual 118, 3) := by decide +kernel
theorem dX4_type_8 : decode cX4_type 8 = .ok (.ifCond .eq 13, 3) := by decide +kernel
theorem dX4_type_11 : decode cX4_type 11 = .ok (.aload_n 0, 1) := by decide +kernel
theorem dX4_type_12 : decode cX4_type 12 = .ok (.getfield 29, 3) := by decide +kernel
theorem dX4_type_15 : decode cX4_type 15 = .ok (.getfield 122, 3) := by decide +kernel
theorem dX4_type_18 : decode cX4_type 18 = .ok (.goto 5, 3) := by decide +kernel
theorem dX4_type_21 : decode cX4_type 21 = .ok (.ldc 75, 2) := by decide +kernel
theorem dX4_type_23 : decode cX4_type 23 = .ok (.ireturn, 1) := by decide +kernel
theorem dX4_clearText_0 : decode cX4_clearText 0 = .ok (.aload_n 0, 1) := by decide +kernel
theorem dX4_clearText_1 : decode cX4_clearText 1 = .ok (.getfield 29, 3) := by decide +kernel
theorem dX4_clearText_4 : decode cX4_clearText 4 = .ok (.getfield 122, 3) := by decide +kernel
theorem dX4_clearText_7 : decode cX4_clearText 7 = .ok (.istore_n 1, 1) := by decide +kernel
theorem dX4_clearText_8 : decode cX4_clearText 8 = .ok (.aload_n 0, 1) := by decide +kernel
theorem dX4_clearText_9 : decode cX4_clearText 9 = .ok (.getfield 29, 3) := by decide +kernel
theorem dX4_clearText_12 : decode cX4_clearText 12 = .ok (.iconst 0, 1) := by decide +kernel
theorem dX4_clearText_13 : decode cX4_clearText 13 = .ok (.putfield 122, 3) := by decide +kernel
theorem dX4_clearText_16 : decode cX4_clearText 16 = .ok (.iload_n 1, 1) := by decide +kernel
theorem dX4_clearText_17 : decode cX4_clearText 17 = .ok (.ireturn, 1) := by decide +kernel
theorem dX4_run_0 : decode cX4_run 0 = .ok (.aload_n 0, 1) := by decide +kernel
theorem dX4_run_1 : decode cX4_run 1 = .ok (.getfield 29, 3) := by decide +kernel
theorem dX4_run_4 : decode cX4_run 4 = .ok (.invokevirtual 125, 3) := by decide +kernel
theorem dX4_run_7 : decode cX4_run 7 = .ok (.istore_n 1, 1) := by decide +kernel
theorem dX4_run_8 : decode cX4_run 8 = .ok (.iload_n 1, 1) := by decide +kernel
theorem dX4_run_9 : decode cX4_run 9 = .ok (.ifCond .lt 8, 3) := by decide +kernel
theorem dX4_run_12 : decode cX4_run 12 = .ok (.bipush (-100), 2) := by decide +kernel
theorem dX4_run_14 : decode cX4_run 14 = .ok (.iload_n 1, 1) := by decide +kernel
theorem dX4_run_15 : decode cX4_run 15 = .ok (.isub, 1) := by decide +kernel
theorem dX4_run_16 : decode cX4_run 16 = .ok (.ireturn, 1) := by decide +kernel
theorem dX4_run_17 : decode cX4_run 17 = .ok (.aload_n 0, 1) := by decide +kernel
theorem dX4_run_18 : decode cX4_run 18 = .ok (.invokevirtual 53, 3) := by decide +kernel
theorem dX4_run_21 : decode cX4_run 21 = .ok (.aload_n 0, 1) := by decide +kernel
theorem dX4_run_22 : decode cX4_run 22 = .ok (.getfield 29, 3) := by decide +kernel
theorem dX4_run_25 : decode cX4_run 25 = .ok (.aload_n 0, 1) := by decide +kernel
theorem dX4_run_26 : decode cX4_run 26 = .ok (.getfield 10, 3) := by decide +kernel
theorem dX4_run_29 : decode cX4_run 29 = .ok (.invokevirtual 128, 3) := by decide +kernel
theorem dX4_run_32 : decode cX4_run 32 = .ok (.ireturn, 1) := by decide +kernel
theorem dX4_undo_0 : decode cX4_undo 0 = .ok (.aload_n 0, 1) := by decide +kernel
theorem dX4_undo_1 : decode cX4_undo 1 = .ok (.getfield 37, 3) := by decide +kernel
theorem dX4_undo_4 : decode cX4_undo 4 = .ok (.iconst 1, 1) := by decide +kernel
theorem dX4_undo_5 : decode cX4_undo 5 = .ok (.if_icmp .lt 11, 3) := by decide +kernel
theorem dX4_undo_8 : decode cX4_undo 8 = .ok (.aload_n 0, 1) := by decide +kernel
theorem dX4_undo_9 : decode cX4_undo 9 = .ok (.getfield 37, 3) := by decide +kernel
theorem dX4_undo_12 : decode cX4_undo 12 = .ok (.iconst 4, 1) := by decide +kernel
theorem dX4_undo_13 : decode cX4_undo 13 = .ok (.if_icmp .le 6, 3) := by decide +kernel
theorem dX4_undo_16 : decode cX4_undo 16 = .ok (.ldc 52, 2) := by decide +kernel
theorem dX4_undo_18 : decode cX4_undo 18 = .ok (.ireturn, 1) := by decide +kernel
theorem dX4_undo_19 : decode cX4_undo 19 = .ok (.aload_n 0, 1) := by decide +kernel
theorem dX4_undo_20 : decode cX4_undo 20 = .ok (.dup, 1) := by decide +kernel
theorem dX4_undo_21 : decode cX4_undo 21 = .ok (.getfield 37, 3) := by decide +kernel
theorem dX4_undo_24 : decode cX4_undo 24 = .ok (.iconst 1, 1) := by decide +kernel
theorem dX4_undo_25 : decode cX4_undo 25 = .ok (.isub, 1) := by decide +kernel
theorem dX4_undo_26 : decode cX4_undo 26 = .ok (.putfield 37, 3) := by decide +kernel
theorem dX4_undo_29 : decode cX4_undo 29 = .ok (.aload_n 0, 1) := by decide +kernel
theorem dX4_undo_30 : decode cX4_undo 30 = .ok (.getfield 10, 3) := by decide +kernel
theorem dX4_undo_33 : decode cX4_undo 33 = .ok (.aload_n 0, 1) := by decide +kernel
theorem dX4_undo_34 : decode cX4_undo 34 = .ok (.getfield 22, 3) := by decide +kernel
theorem dX4_undo_37 : decode cX4_undo 37 = .ok (.aload_n 0, 1) := by decide +kernel
theorem dX4_undo_38 : decode cX4_undo 38 = .ok (.getfield 37, 3) := by decide +kernel
theorem dX4_undo_41 : decode cX4_undo 41 = .ok (.aaload, 1) := by decide +kernel
theorem dX4_undo_42 : decode cX4_undo 42 = .ok (.invokevirtual 132, 3) := by decide +kernel
theorem dX4_undo_45 : decode cX4_undo 45 = .ok (.aload_n 0, 1) := by decide +kernel
theorem dX4_undo_46 : decode cX4_undo 46 = .ok (.getfield 37, 3) := by decide +kernel
theorem dX4_undo_49 : decode cX4_undo 49 = .ok (.ireturn, 1) := by decide +kernel
theorem dX4_keep_0 : decode cX4_keep 0 = .ok (.aload_n 0, 1) := by decide +kernel
theorem dX4_keep_1 : decode cX4_keep 1 = .ok (.getfield 19, 3) := by decide +kernel
theorem dX4_keep_4 : decode cX4_keep 4 = .ok (.aload_n 0, 1) := by decide +kernel
theorem dX4_keep_5 : decode cX4_keep 5 = .ok (.getfield 10, 3) := by decide +kernel
theorem dX4_keep_8 : decode cX4_keep 8 = .ok (.invokevirtual 132, 3) := by decide +kernel
theorem dX4_keep_11 : decode cX4_keep 11 = .ok (.aload_n 0, 1) := by decide +kernel
theorem dX4_keep_12 : decode cX4_keep 12 = .ok (.iconst 1, 1) := by decide +kernel
theorem dX4_keep_13 : decode cX4_keep 13 = .ok (.putfield 33, 3) := by decide +kernel
theorem dX4_keep_16 : decode cX4_keep 16 = .ok (.aload_n 0, 1) := by decide +kernel
theorem dX4_keep_17 : decode cX4_keep 17 = .ok (.getfield 10, 3) := by decide +kernel
theorem dX4_keep_20 : decode cX4_keep 20 = .ok (.getfield 136, 3) := by decide +kernel
theorem dX4_keep_23 : decode cX4_keep 23 = .ok (.ireturn, 1) := by decide +kernel
theorem dX4_restore_0 : decode cX4_restore 0 = .ok (.aload_n 0, 1) := by decide +kernel
theorem dX4_restore_1 : decode cX4_restore 1 = .ok (.getfield 33, 3) := by decide +kernel
theorem dX4_restore_4 : decode cX4_restore 4 = .ok (.ifCond .ne 6, 3) := by decide +kernel
theorem dX4_restore_7 : decode cX4_restore 7 = .ok (.ldc 52, 2) := by decide +kernel
theorem dX4_restore_9 : decode cX4_restore 9 = .ok (.ireturn, 1) := by decide +kernel
theorem dX4_restore_10 : decode cX4_restore 10 = .ok (.aload_n 0, 1) := by decide +kernel
theorem dX4_restore_11 : decode cX4_restore 11 = .ok (.invokevirtual 53, 3) := by decide +kernel
theorem dX4_restore_14 : decode cX4_restore 14 = .ok (.aload_n 0, 1) := by decide +kernel
theorem dX4_restore_15 : decode cX4_restore 15 = .ok (.getfield 10, 3) := by decide +kernel
theorem dX4_restore_18 : decode cX4_restore 18 = .ok (.aload_n 0, 1) := by decide +kernel
theorem dX4_restore_19 : decode cX4_restore 19 = .ok (.getfield 19, 3) := by decide +kernel
theorem dX4_restore_22 : decode cX4_restore 22 = .ok (.invokevirtual 132, 3) := by decide +kernel
theorem dX4_restore_25 : decode cX4_restore 25 = .ok (.aload_n 0, 1) := by decide +kernel
theorem dX4_restore_26 : decode cX4_restore 26 = .ok (.getfield 10, 3) := by decide +kernel
theorem dX4_restore_29 : decode cX4_restore 29 = .ok (.getfield 136, 3) := by decide +kernel
theorem dX4_restore_32 : decode cX4_restore 32 = .ok (.ireturn, 1) := by decide +kernel
theorem dX4_line_0 : decode cX4_line 0 = .ok (.iload_n 1, 1) := by decide +kernel
theorem dX4_line_1 : decode cX4_line 1 = .ok (.iconst 0, 1) := by decide +kernel
theorem dX4_line_2 : decode cX4_line 2 = .ok (.sipush 9999, 3) := by decide +kernel
theorem dX4_line_5 : decode cX4_line 5 = .ok (.invokestatic 41, 3) := by decide +kernel
theorem dX4_line_8 : decode cX4_line 8 = .ok (.ifCond .eq 6, 3) := by decide +kernel
theorem dX4_line_11 : decode cX4_line 11 = .ok (.ldc 84, 2) := by decide +kernel
theorem dX4_line_13 : decode cX4_line 13 = .ok (.ireturn, 1) := by decide +kernel
theorem dX4_line_14 : decode cX4_line 14 = .ok (.aload_n 0, 1) := by decide +kernel
theorem dX4_line_15 : decode cX4_line 15 = .ok (.getfield 10, 3) := by decide +kernel
theorem dX4_line_18 : decode cX4_line 18 = .ok (.iload_n 1, 1) := by decide +kernel
theorem dX4_line_19 : decode cX4_line 19 = .ok (.invokevirtual 139, 3) := by decide +kernel
theorem dX4_line_22 : decode cX4_line 22 = .ok (.astore_n 3, 1) := by decide +kernel
theorem dX4_line_23 : decode cX4_line 23 = .ok (.aload_n 3, 1) := by decide +kernel
theorem dX4_line_24 : decode cX4_line 24 = .ok (.iload_n 1, 1) := by decide +kernel
theorem dX4_line_25 : decode cX4_line 25 = .ok (.invokevirtual 143, 3) := by decide +kernel
theorem dX4_line_28 : decode cX4_line 28 = .ok (.istore 4, 2) := by decide +kernel
theorem dX4_line_30 : decode cX4_line 30 = .ok (.aload_n 0, 1) := by decide +kernel
theorem dX4_line_31 : decode cX4_line 31 = .ok (.getfield 10, 3) := by decide +kernel
theorem dX4_line_34 : decode cX4_line 34 = .ok (.getfield 60, 3) := by decide +kernel
theorem dX4_line_37 : decode cX4_line 37 = .ok (.iload_n 1, 1) := by decide +kernel
theorem dX4_line_38 : decode cX4_line 38 = .ok (.invokevirtual 143, 3) := by decide +kernel
theorem dX4_line_41 : decode cX4_line 41 = .ok (.istore 5, 2) := by decide +kernel
theorem dX4_line_43 : decode cX4_line 43 = .ok (.iload_n 2, 1) := by decide +kernel
theorem dX4_line_44 : decode cX4_line 44 = .ok (.tableswitch 101 0 5 #[40, 51, 73, 81, 84, 87], 40) := by decide +kernel
theorem dX4_line_84 : decode cX4_line 84 = .ok (.iload 4, 2) := by decide +kernel
theorem dX4_line_86 : decode cX4_line 86 = .ok (.ifCond .lt 7, 3) := by decide +kernel
theorem dX4_line_89 : decode cX4_line 89 = .ok (.iconst 1, 1) := by decide +kernel
theorem dX4_line_90 : decode cX4_line 90 = .ok (.goto 4, 3) := by decide +kernel
theorem dX4_line_93 : decode cX4_line 93 = .ok (.iconst 0, 1) := by decide +kernel
theorem dX4_line_94 : decode cX4_line 94 = .ok (.ireturn, 1) := by decide +kernel
theorem dX4_line_95 : decode cX4_line 95 = .ok (.iload 4, 2) := by decide +kernel
theorem dX4_line_97 : decode cX4_line 97 = .ok (.ifCond .lt 18, 3) := by decide +kernel
theorem dX4_line_100 : decode cX4_line 100 = .ok (.aload_n 3, 1) := by decide +kernel
theorem dX4_line_101 : decode cX4_line 101 = .ok (.iload 4, 2) := by decide +kernel
theorem dX4_line_103 : decode cX4_line 103 = .ok (.iconst 2, 1) := by decide +kernel
theorem dX4_line_104 : decode cX4_line 104 = .ok (.invokevirtual 147, 3) := by decide +kernel
theorem dX4_line_107 : decode cX4_line 107 = .ok (.iconst 1, 1) := by decide +kernel
theorem dX4_line_108 : decode cX4_line 108 = .ok (.if_icmp .ne 7, 3) := by decide +kernel
theorem dX4_line_111 : decode cX4_line 111 = .ok (.iconst 1, 1) := by decide +kernel
theorem dX4_line_112 : decode cX4_line 112 = .ok (.goto 4, 3) := by decide +kernel
theorem dX4_line_115 : decode cX4_line 115 = .ok (.iconst 0, 1) := by decide +kernel
theorem dX4_line_116 : decode cX4_line 116 = .ok (.ireturn, 1) := by decide +kernel
theorem dX4_line_117 : decode cX4_line 117 = .ok (.aload_n 3, 1) := by decide +kernel
theorem dX4_line_118 : decode cX4_line 118 = .ok (.iload 4, 2) := by decide +kernel
theorem dX4_line_120 : decode cX4_line 120 = .ok (.iconst 1, 1) := by decide +kernel
theorem dX4_line_121 : decode cX4_line 121 = .ok (.invokevirtual 147, 3) := by decide +kernel
theorem dX4_line_124 : decode cX4_line 124 = .ok (.ireturn, 1) := by decide +kernel
theorem dX4_line_125 : decode cX4_line 125 = .ok (.iload 4, 2) := by decide +kernel
theorem dX4_line_127 : decode cX4_line 127 = .ok (.ireturn, 1) := by decide +kernel
theorem dX4_line_128 : decode cX4_line 128 = .ok (.iload 5, 2) := by decide +kernel
theorem dX4_line_130 : decode cX4_line 130 = .ok (.ireturn, 1) := by decide +kernel
theorem dX4_line_131 : decode cX4_line 131 = .ok (.aload_n 0, 1) := by decide +kernel
theorem dX4_line_132 : decode cX4_line 132 = .ok (.getfield 10, 3) := by decide +kernel
theorem dX4_line_135 : decode cX4_line 135 = .ok (.getfield 60, 3) := by decide +kernel
theorem dX4_line_138 : decode cX4_line 138 = .ok (.iload 5, 2) := by decide +kernel
theorem dX4_line_140 : decode cX4_line 140 = .ok (.iconst 1, 1) := by decide +kernel
theorem dX4_line_141 : decode cX4_line 141 = .ok (.invokevirtual 147, 3) := by decide +kernel
theorem dX4_line_144 : decode cX4_line 144 = .ok (.ireturn, 1) := by decide +kernel
theorem dX4_line_145 : decode cX4_line 145 = .ok (.ldc 45, 2) := by decide +kernel
theorem dX4_line_147 : decode cX4_line 147 = .ok (.ireturn, 1) := by decide +kernel
theorem dX4_inSet_0 : decode cX4_inSet 0 = .ok (.iload_n 1, 1) := by decide +kernel
theorem dX4_inSet_1 : decode cX4_inSet 1 = .ok (.iconst 0, 1) := by decide +kernel
theorem dX4_inSet_2 : decode cX4_inSet 2 = .ok (.aload_n 0, 1) := by decide +kernel
theorem dX4_inSet_3 : decode cX4_inSet 3 = .ok (.getfield 10, 3) := by decide +kernel
theorem dX4_inSet_6 : decode cX4_inSet 6 = .ok (.getfield 46, 3) := by decide +kernel
theorem dX4_inSet_9 : decode cX4_inSet 9 = .ok (.iconst 1, 1) := by decide +kernel
theorem dX4_inSet_10 : decode cX4_inSet 10 = .ok (.isub, 1) := by decide +kernel
theorem dX4_inSet_11 : decode cX4_inSet 11 = .ok (.invokestatic 41, 3) := by decide +kernel
theorem dX4_inSet_14 : decode cX4_inSet 14 = .ok (.ifCond .eq 6, 3) := by decide +kernel
theorem dX4_inSet_17 : decode cX4_inSet 17 = .ok (.ldc 84, 2) := by decide +kernel
theorem dX4_inSet_19 : decode cX4_inSet 19 = .ok (.ireturn, 1) := by decide +kernel
theorem dX4_inSet_20 : decode cX4_inSet 20 = .ok (.iload_n 2, 1) := by decide +kernel
theorem dX4_inSet_21 : decode cX4_inSet 21 = .ok (.ifCond .ge 8, 3) := by decide +kernel
theorem dX4_inSet_24 : decode cX4_inSet 24 = .ok (.ldc 45, 2) := by decide +kernel
theorem dX4_inSet_26 : decode cX4_inSet 26 = .ok (.goto 16, 3) := by decide +kernel
theorem dX4_inSet_29 : decode cX4_inSet 29 = .ok (.aload_n 0, 1) := by decide +kernel
theorem dX4_inSet_30 : decode cX4_inSet 30 = .ok (.getfield 10, 3) := by decide +kernel
theorem dX4_inSet_33 : decode cX4_inSet 33 = .ok (.iload_n 1, 1) := by decide +kernel
theorem dX4_inSet_34 : decode cX4_inSet 34 = .ok (.invokevirtual 150, 3) := by decide +kernel
theorem dX4_inSet_37 : decode cX4_inSet 37 = .ok (.iload_n 2, 1) := by decide +kernel
theorem dX4_inSet_38 : decode cX4_inSet 38 = .ok (.iconst 0, 1) := by decide +kernel
theorem dX4_inSet_39 : decode cX4_inSet 39 = .ok (.invokevirtual 147, 3) := by decide +kernel
theorem dX4_inSet_42 : decode cX4_inSet 42 = .ok (.ireturn, 1) := by decide +kernel
theorem dX4_thrownOut_0 : decode cX4_thrownOut 0 = .ok (.iload_n 1, 1) := by decide +kernel
theorem dX4_thrownOut_1 : decode cX4_thrownOut 1 = .ok (.ifCond .ge 8, 3) := by decide +kernel
theorem dX4_thrownOut_4 : decode cX4_thrownOut 4 = .ok (.ldc 45, 2) := by decide +kernel
theorem dX4_thrownOut_6 : decode cX4_thrownOut 6 = .ok (.goto 15, 3) := by decide +kernel
theorem dX4_thrownOut_9 : decode cX4_thrownOut 9 = .ok (.aload_n 0, 1) := by decide +kernel
theorem dX4_thrownOut_10 : decode cX4_thrownOut 10 = .ok (.getfield 10, 3) := by decide +kernel
theorem dX4_thrownOut_13 : decode cX4_thrownOut 13 = .ok (.getfield 60, 3) := by decide +kernel
theorem dX4_thrownOut_16 : decode cX4_thrownOut 16 = .ok (.iload_n 1, 1) := by decide +kernel
theorem dX4_thrownOut_17 : decode cX4_thrownOut 17 = .ok (.iconst 0, 1) := by decide +kernel
theorem dX4_thrownOut_18 : decode cX4_thrownOut 18 = .ok (.invokevirtual 147, 3) := by decide +kernel
theorem dX4_thrownOut_21 : decode cX4_thrownOut 21 = .ok (.ireturn, 1) := by decide +kernel
theorem dX4_helper_0 : decode cX4_helper 0 = .ok (.aload_n 0, 1) := by decide +kernel
theorem dX4_helper_1 : decode cX4_helper 1 = .ok (.getfield 10, 3) := by decide +kernel
theorem dX4_helper_4 : decode cX4_helper 4 = .ok (.iload_n 1, 1) := by decide +kernel
theorem dX4_helper_5 : decode cX4_helper 5 = .ok (.invokevirtual 80, 3) := by decide +kernel
theorem dX4_helper_8 : decode cX4_helper 8 = .ok (.astore_n 3, 1) := by decide +kernel
theorem dX4_helper_9 : decode cX4_helper 9 = .ok (.aload_n 3, 1) := by decide +kernel
theorem dX4_helper_10 : decode cX4_helper 10 = .ok (.ifnonnull 6, 3) := by decide +kernel
theorem dX4_helper_13 : decode cX4_helper 13 = .ok (.ldc 84, 2) := by decide +kernel
theorem dX4_helper_15 : decode cX4_helper 15 = .ok (.ireturn, 1) := by decide +kernel
theorem dX4_helper_16 : decode cX4_helper 16 = .ok (.iload_n 2, 1) := by decide +kernel
theorem dX4_helper_17 : decode cX4_helper 17 = .ok (.tableswitch 166 0 15 #[79, 84, 89, 94, 99, 104, 109, 114, 119, 124, 129, 138, 143, 148, 153, 161], 79) := by decide +kernel
theorem dX4_helper_96 : decode cX4_helper 96 = .ok (.aload_n 3, 1) := by decide +kernel
theorem dX4_helper_97 : decode cX4_helper 97 = .ok (.getfield 99, 3) := by decide +kernel
theorem dX4_helper_100 : decode cX4_helper 100 = .ok (.ireturn, 1) := by decide +kernel
theorem dX4_helper_101 : decode cX4_helper 101 = .ok (.aload_n 3, 1) := by decide +kernel
theorem dX4_helper_102 : decode cX4_helper 102 = .ok (.getfield 85, 3) := by decide +kernel
theorem dX4_helper_105 : decode cX4_helper 105 = .ok (.ireturn, 1) := by decide +kernel
theorem dX4_helper_106 : decode cX4_helper 106 = .ok (.aload_n 3, 1) := by decide +kernel
theorem dX4_helper_107 : decode cX4_helper 107 = .ok (.getfield 153, 3) := by decide +kernel
theorem dX4_helper_110 : decode cX4_helper 110 = .ok (.ireturn, 1) := by decide +kernel
theorem dX4_helper_111 : decode cX4_helper 111 = .ok (.aload_n 3, 1) := by decide +kernel
theorem dX4_helper_112 : decode cX4_helper 112 = .ok (.getfield 93, 3) := by decide +kernel
theorem dX4_helper_115 : decode cX4_helper 115 = .ok (.ireturn, 1) := by decide +kernel
theorem dX4_helper_116 : decode cX4_helper 116 = .ok (.aload_n 3, 1) := by decide +kernel
theorem dX4_helper_117 : decode cX4_helper 117 = .ok (.getfield 156, 3) := by decide +kernel
theorem dX4_helper_120 : decode cX4_helper 120 = .ok (.ireturn, 1) := by decide +kernel
theorem dX4_helper_121 : decode cX4_helper 121 = .ok (.aload_n 3, 1) := by decide +kernel
theorem dX4_helper_122 : decode cX4_helper 122 = .ok (.getfield 159, 3) := by decide +kernel
theorem dX4_helper_125 : decode cX4_helper 125 = .ok (.ireturn, 1) := by decide +kernel
theorem dX4_helper_126 : decode cX4_helper 126 = .ok (.aload_n 3, 1) := by decide +kernel
theorem dX4_helper_127 : decode cX4_helper 127 = .ok (.invokevirtual 162, 3) := by decide +kernel
theorem dX4_helper_130 : decode cX4_helper 130 = .ok (.ireturn, 1) := by decide +kernel
theorem dX4_helper_131 : decode cX4_helper 131 = .ok (.aload_n 3, 1) := by decide +kernel
theorem dX4_helper_132 : decode cX4_helper 132 = .ok (.getfield 165, 3) := by decide +kernel
theorem dX4_helper_135 : decode cX4_helper 135 = .ok (.ireturn, 1) := by decide +kernel
theorem dX4_helper_136 : decode cX4_helper 136 = .ok (.aload_n 3, 1) := by decide +kernel
theorem dX4_helper_137 : decode cX4_helper 137 = .ok (.getfield 168, 3) := by decide +kernel
theorem dX4_helper_140 : decode cX4_helper 140 = .ok (.ireturn, 1) := by decide +kernel
theorem dX4_helper_141 : decode cX4_helper 141 = .ok (.aload_n 3, 1) := by decide +kernel
theorem dX4_helper_142 : decode cX4_helper 142 = .ok (.getfield 171, 3) := by decide +kernel
theorem dX4_helper_145 : decode cX4_helper 145 = .ok (.ireturn, 1) := by decide +kernel
theorem dX4_helper_146 : decode cX4_helper 146 = .ok (.aload_n 0, 1) := by decide +kernel
theorem dX4_helper_147 : decode cX4_helper 147 = .ok (.getfield 10, 3) := by decide +kernel
theorem dX4_helper_150 : decode cX4_helper 150 = .ok (.iload_n 1, 1) := by decide +kernel
theorem dX4_helper_151 : decode cX4_helper 151 = .ok (.invokevirtual 174, 3) := by decide +kernel
theorem dX4_helper_154 : decode cX4_helper 154 = .ok (.ireturn, 1) := by decide +kernel
theorem dX4_helper_155 : decode cX4_helper 155 = .ok (.aload_n 3, 1) := by decide +kernel
theorem dX4_helper_156 : decode cX4_helper 156 = .ok (.getfield 177, 3) := by decide +kernel
theorem dX4_helper_159 : decode cX4_helper 159 = .ok (.ireturn, 1) := by decide +kernel
theorem dX4_helper_160 : decode cX4_helper 160 = .ok (.aload_n 3, 1) := by decide +kernel
theorem dX4_helper_161 : decode cX4_helper 161 = .ok (.getfield 180, 3) := by decide +kernel
theorem dX4_helper_164 : decode cX4_helper 164 = .ok (.ireturn, 1) := by decide +kernel
theorem dX4_helper_165 : decode cX4_helper 165 = .ok (.aload_n 3, 1) := by decide +kernel
theorem dX4_helper_166 : decode cX4_helper 166 = .ok (.getfield 183, 3) := by decide +kernel
theorem dX4_helper_169 : decode cX4_helper 169 = .ok (.ireturn, 1) := by decide +kernel
theorem dX4_helper_170 : decode cX4_helper 170 = .ok (.aload_n 3, 1) := by decide +kernel
theorem dX4_helper_171 : decode cX4_helper 171 = .ok (.getfield 103, 3) := by decide +kernel
theorem dX4_helper_174 : decode cX4_helper 174 = .ok (.getfield 64, 3) := by decide +kernel
theorem dX4_helper_177 : decode cX4_helper 177 = .ok (.ireturn, 1) := by decide +kernel
theorem dX4_helper_178 : decode cX4_helper 178 = .ok (.aload_n 3, 1) := by decide +kernel
theorem dX4_helper_179 : decode cX4_helper 179 = .ok (.getfield 186, 3) := by decide +kernel
theorem dX4_helper_182 : decode cX4_helper 182 = .ok (.ireturn, 1) := by decide +kernel
theorem dX4_helper_183 : decode cX4_helper 183 = .ok (.ldc 45, 2) := by decide +kernel
theorem dX4_helper_185 : decode cX4_helper 185 = .ok (.ireturn, 1) := by decide +kernel
theorem dX4_table_0 : decode cX4_table 0 = .ok (.aload_n 0, 1) := by decide +kernel
theorem dX4_table_1 : decode cX4_table 1 = .ok (.getfield 10, 3) := by decide +kernel
theorem dX4_table_4 : decode cX4_table 4 = .ok (.iload_n 1, 1) := by decide +kernel
theorem dX4_table_5 : decode cX4_table 5 = .ok (.invokevirtual 80, 3) := by decide +kernel
theorem dX4_table_8 : decode cX4_table 8 = .ok (.astore 4, 2) := by decide +kernel
theorem dX4_table_10 : decode cX4_table 10 = .ok (.aload 4, 2) := by decide +kernel
theorem dX4_table_12 : decode cX4_table 12 = .ok (.ifnonnull 6, 3) := by decide +kernel
theorem dX4_table_15 : decode cX4_table 15 = .ok (.ldc 84, 2) := by decide +kernel
theorem dX4_table_17 : decode cX4_table 17 = .ok (.ireturn, 1) := by decide +kernel
theorem dX4_table_18 : decode cX4_table 18 = .ok (.iload_n 2, 1) := by decide +kernel
theorem dX4_table_19 : decode cX4_table 19 = .ok (.ifCond .lt 12, 3) := by decide +kernel
theorem dX4_table_22 : decode cX4_table 22 = .ok (.iload_n 3, 1) := by decide +kernel
theorem dX4_table_23 : decode cX4_table 23 = .ok (.iconst 0, 1) := by decide +kernel
theorem dX4_table_24 : decode cX4_table 24 = .ok (.iconst 3, 1) := by decide +kernel
theorem dX4_table_25 : decode cX4_table 25 = .ok (.invokestatic 41, 3) := by decide +kernel
theorem dX4_table_28 : decode cX4_table 28 = .ok (.ifCond .eq 6, 3) := by decide +kernel
theorem dX4_table_31 : decode cX4_table 31 = .ok (.ldc 45, 2) := by decide +kernel
theorem dX4_table_33 : decode cX4_table 33 = .ok (.ireturn, 1) := by decide +kernel
theorem dX4_table_34 : decode cX4_table 34 = .ok (.aload 4, 2) := by decide +kernel
theorem dX4_table_36 : decode cX4_table 36 = .ok (.getfield 103, 3) := by decide +kernel
theorem dX4_table_39 : decode cX4_table 39 = .ok (.iload_n 2, 1) := by decide +kernel
theorem dX4_table_40 : decode cX4_table 40 = .ok (.iload_n 3, 1) := by decide +kernel
theorem dX4_table_41 : decode cX4_table 41 = .ok (.invokevirtual 147, 3) := by decide +kernel
theorem dX4_table_44 : decode cX4_table 44 = .ok (.ireturn, 1) := by decide +kernel
theorem dX4_wouldAsk_0 : decode cX4_wouldAsk 0 = .ok (.aload_n 0, 1) := by decide +kernel
theorem dX4_wouldAsk_1 : decode cX4_wouldAsk 1 = .ok (.getfield 10, 3) := by decide +kernel
theorem dX4_wouldAsk_4 : decode cX4_wouldAsk 4 = .ok (.iload_n 1, 1) := by decide +kernel
theorem dX4_wouldAsk_5 : decode cX4_wouldAsk 5 = .ok (.invokevirtual 80, 3) := by decide +kernel
theorem dX4_wouldAsk_8 : decode cX4_wouldAsk 8 = .ok (.ifnonnull 6, 3) := by decide +kernel
theorem dX4_wouldAsk_11 : decode cX4_wouldAsk 11 = .ok (.ldc 84, 2) := by decide +kernel
theorem dX4_wouldAsk_13 : decode cX4_wouldAsk 13 = .ok (.ireturn, 1) := by decide +kernel
theorem dX4_wouldAsk_14 : decode cX4_wouldAsk 14 = .ok (.iload_n 2, 1) := by decide +kernel
theorem dX4_wouldAsk_15 : decode cX4_wouldAsk 15 = .ok (.iconst 0, 1) := by decide +kernel
theorem dX4_wouldAsk_16 : decode cX4_wouldAsk 16 = .ok (.bipush 15, 2) := by decide +kernel
theorem dX4_wouldAsk_18 : decode cX4_wouldAsk 18 = .ok (.invokestatic 41, 3) := by decide +kernel
theorem dX4_wouldAsk_21 : decode cX4_wouldAsk 21 = .ok (.ifCond .ne 19, 3) := by decide +kernel
theorem dX4_wouldAsk_24 : decode cX4_wouldAsk 24 = .ok (.iload_n 3, 1) := by decide +kernel
theorem dX4_wouldAsk_25 : decode cX4_wouldAsk 25 = .ok (.iconst 0, 1) := by decide +kernel
theorem dX4_wouldAsk_26 : decode cX4_wouldAsk 26 = .ok (.sipush 9999, 3) := by decide +kernel
theorem dX4_wouldAsk_29 : decode cX4_wouldAsk 29 = .ok (.invokestatic 41, 3) := by decide +kernel
theorem dX4_wouldAsk_32 : decode cX4_wouldAsk 32 = .ok (.ifCond .ne 8, 3) := by decide +kernel
theorem dX4_wouldAsk_35 : decode cX4_wouldAsk 35 = .ok (.iload 4, 2) := by decide +kernel
theorem dX4_wouldAsk_37 : decode cX4_wouldAsk 37 = .ok (.ifCond .ge 6, 3) := by decide +kernel
theorem dX4_wouldAsk_40 : decode cX4_wouldAsk 40 = .ok (.ldc 45, 2) := by decide +kernel
theorem dX4_wouldAsk_42 : decode cX4_wouldAsk 42 = .ok (.ireturn, 1) := by decide +kernel
theorem dX4_wouldAsk_43 : decode cX4_wouldAsk 43 = .ok (.aload_n 0, 1) := by decide +kernel
theorem dX4_wouldAsk_44 : decode cX4_wouldAsk 44 = .ok (.getfield 16, 3) := by decide +kernel
theorem dX4_wouldAsk_47 : decode cX4_wouldAsk 47 = .ok (.aload_n 0, 1) := by decide +kernel
theorem dX4_wouldAsk_48 : decode cX4_wouldAsk 48 = .ok (.getfield 10, 3) := by decide +kernel
theorem dX4_wouldAsk_51 : decode cX4_wouldAsk 51 = .ok (.invokevirtual 132, 3) := by decide +kernel
theorem dX4_wouldAsk_54 : decode cX4_wouldAsk 54 = .ok (.aload_n 0, 1) := by decide +kernel
theorem dX4_wouldAsk_55 : decode cX4_wouldAsk 55 = .ok (.getfield 16, 3) := by decide +kernel
theorem dX4_wouldAsk_58 : decode cX4_wouldAsk 58 = .ok (.iload_n 2, 1) := by decide +kernel
theorem dX4_wouldAsk_59 : decode cX4_wouldAsk 59 = .ok (.iload_n 3, 1) := by decide +kernel
theorem dX4_wouldAsk_60 : decode cX4_wouldAsk 60 = .ok (.invokevirtual 106, 3) := by decide +kernel
theorem dX4_wouldAsk_63 : decode cX4_wouldAsk 63 = .ok (.pop, 1) := by decide +kernel
theorem dX4_wouldAsk_64 : decode cX4_wouldAsk 64 = .ok (.aload_n 0, 1) := by decide +kernel
theorem dX4_wouldAsk_65 : decode cX4_wouldAsk 65 = .ok (.getfield 16, 3) := by decide +kernel
theorem dX4_wouldAsk_68 : decode cX4_wouldAsk 68 = .ok (.iload_n 1, 1) := by decide +kernel
theorem dX4_wouldAsk_69 : decode cX4_wouldAsk 69 = .ok (.invokevirtual 80, 3) := by decide +kernel
theorem dX4_wouldAsk_72 : decode cX4_wouldAsk 72 = .ok (.astore 5, 2) := by decide +kernel
theorem dX4_wouldAsk_74 : decode cX4_wouldAsk 74 = .ok (.aload 5, 2) := by decide +kernel
theorem dX4_wouldAsk_76 : decode cX4_wouldAsk 76 = .ok (.ifnonnull 8, 3) := by decide +kernel
theorem dX4_wouldAsk_79 : decode cX4_wouldAsk 79 = .ok (.ldc 52, 2) := by decide +kernel
theorem dX4_wouldAsk_81 : decode cX4_wouldAsk 81 = .ok (.goto 10, 3) := by decide +kernel
theorem dX4_wouldAsk_84 : decode cX4_wouldAsk 84 = .ok (.aload 5, 2) := by decide +kernel
theorem dX4_wouldAsk_86 : decode cX4_wouldAsk 86 = .ok (.iload 4, 2) := by decide +kernel
theorem dX4_wouldAsk_88 : decode cX4_wouldAsk 88 = .ok (.invokevirtual 189, 3) := by decide +kernel
theorem dX4_wouldAsk_91 : decode cX4_wouldAsk 91 = .ok (.ireturn, 1) := by decide +kernel
theorem dX4_wouldHit_0 : decode cX4_wouldHit 0 = .ok (.iload_n 1, 1) := by decide +kernel
theorem dX4_wouldHit_1 : decode cX4_wouldHit 1 = .ok (.iload_n 2, 1) := by decide +kernel
theorem dX4_wouldHit_2 : decode cX4_wouldHit 2 = .ok (.iload_n 3, 1) := by decide +kernel
theorem dX4_wouldHit_3 : decode cX4_wouldHit 3 = .ok (.iload 4, 2) := by decide +kernel
theorem dX4_wouldHit_5 : decode cX4_wouldHit 5 = .ok (.invokestatic 110, 3) := by decide +kernel
theorem dX4_wouldHit_8 : decode cX4_wouldHit 8 = .ok (.ifCond .ne 6, 3) := by decide +kernel
theorem dX4_wouldHit_11 : decode cX4_wouldHit 11 = .ok (.ldc 45, 2) := by decide +kernel
theorem dX4_wouldHit_13 : decode cX4_wouldHit 13 = .ok (.ireturn, 1) := by decide +kernel
theorem dX4_wouldHit_14 : decode cX4_wouldHit 14 = .ok (.aload_n 0, 1) := by decide +kernel
theorem dX4_wouldHit_15 : decode cX4_wouldHit 15 = .ok (.getfield 16, 3) := by decide +kernel
theorem dX4_wouldHit_18 : decode cX4_wouldHit 18 = .ok (.aload_n 0, 1) := by decide +kernel
theorem dX4_wouldHit_19 : decode cX4_wouldHit 19 = .ok (.getfield 10, 3) := by decide +kernel
theorem dX4_wouldHit_22 : decode cX4_wouldHit 22 = .ok (.invokevirtual 132, 3) := by decide +kernel
theorem dX4_wouldHit_25 : decode cX4_wouldHit 25 = .ok (.aload_n 0, 1) := by decide +kernel
theorem dX4_wouldHit_26 : decode cX4_wouldHit 26 = .ok (.getfield 16, 3) := by decide +kernel
theorem dX4_wouldHit_29 : decode cX4_wouldHit 29 = .ok (.iload_n 1, 1) := by decide +kernel
theorem dX4_wouldHit_30 : decode cX4_wouldHit 30 = .ok (.iload_n 2, 1) := by decide +kernel
theorem dX4_wouldHit_31 : decode cX4_wouldHit 31 = .ok (.iload_n 3, 1) := by decide +kernel
theorem dX4_wouldHit_32 : decode cX4_wouldHit 32 = .ok (.iload 4, 2) := by decide +kernel
theorem dX4_wouldHit_34 : decode cX4_wouldHit 34 = .ok (.invokevirtual 114, 3) := by decide +kernel
theorem dX4_wouldHit_37 : decode cX4_wouldHit 37 = .ok (.ireturn, 1) := by decide +kernel
theorem dX4_bestHelper_0 : decode cX4_bestHelper 0 = .ok (.ldc 52, 2) := by decide +kernel
theorem dX4_bestHelper_2 : decode cX4_bestHelper 2 = .ok (.istore_n 1, 1) := by decide +kernel
theorem dX4_bestHelper_3 : decode cX4_bestHelper 3 = .ok (.iconst 0, 1) := by decide +kernel
theorem dX4_bestHelper_4 : decode cX4_bestHelper 4 = .ok (.istore_n 2, 1) := by decide +kernel
theorem dX4_bestHelper_5 : decode cX4_bestHelper 5 = .ok (.iconst 0, 1) := by decide +kernel
theorem dX4_bestHelper_6 : decode cX4_bestHelper 6 = .ok (.istore_n 3, 1) := by decide +kernel
theorem dX4_bestHelper_7 : decode cX4_bestHelper 7 = .ok (.iload_n 3, 1) := by decide +kernel
theorem dX4_bestHelper_8 : decode cX4_bestHelper 8 = .ok (.aload_n 0, 1) := by decide +kernel
theorem dX4_bestHelper_9 : decode cX4_bestHelper 9 = .ok (.getfield 10, 3) := by decide +kernel
theorem dX4_bestHelper_12 : decode cX4_bestHelper 12 = .ok (.getfield 72, 3) := by decide +kernel
theorem dX4_bestHelper_15 : decode cX4_bestHelper 15 = .ok (.if_icmp .ge 53, 3) := by decide +kernel
theorem dX4_bestHelper_18 : decode cX4_bestHelper 18 = .ok (.aload_n 0, 1) := by decide +kernel
theorem dX4_bestHelper_19 : decode cX4_bestHelper 19 = .ok (.getfield 10, 3) := by decide +kernel
theorem dX4_bestHelper_22 : decode cX4_bestHelper 22 = .ok (.getfield 192, 3) := by decide +kernel
theorem dX4_bestHelper_25 : decode cX4_bestHelper 25 = .ok (.iload_n 3, 1) := by decide +kernel
theorem dX4_bestHelper_26 : decode cX4_bestHelper 26 = .ok (.aaload, 1) := by decide +kernel
theorem dX4_bestHelper_27 : decode cX4_bestHelper 27 = .ok (.getfield 168, 3) := by decide +kernel
theorem dX4_bestHelper_30 : decode cX4_bestHelper 30 = .ok (.aload_n 0, 1) := by decide +kernel
theorem dX4_bestHelper_31 : decode cX4_bestHelper 31 = .ok (.getfield 10, 3) := by decide +kernel
theorem dX4_bestHelper_34 : decode cX4_bestHelper 34 = .ok (.getfield 192, 3) := by decide +kernel
theorem dX4_bestHelper_37 : decode cX4_bestHelper 37 = .ok (.iload_n 3, 1) := by decide +kernel
theorem dX4_bestHelper_38 : decode cX4_bestHelper 38 = .ok (.aaload, 1) := by decide +kernel
theorem dX4_bestHelper_39 : decode cX4_bestHelper 39 = .ok (.getfield 171, 3) := by decide +kernel
theorem dX4_bestHelper_42 : decode cX4_bestHelper 42 = .ok (.isub, 1) := by decide +kernel
theorem dX4_bestHelper_43 : decode cX4_bestHelper 43 = .ok (.istore 4, 2) := by decide +kernel
theorem dX4_bestHelper_45 : decode cX4_bestHelper 45 = .ok (.iload_n 1, 1) := by decide +kernel
theorem dX4_bestHelper_46 : decode cX4_bestHelper 46 = .ok (.ldc 52, 2) := by decide +kernel
theorem dX4_bestHelper_48 : decode cX4_bestHelper 48 = .ok (.if_icmp .eq 9, 3) := by decide +kernel
theorem dX4_bestHelper_51 : decode cX4_bestHelper 51 = .ok (.iload 4, 2) := by decide +kernel
theorem dX4_bestHelper_53 : decode cX4_bestHelper 53 = .ok (.iload_n 2, 1) := by decide +kernel
theorem dX4_bestHelper_54 : decode cX4_bestHelper 54 = .ok (.if_icmp .le 8, 3) := by decide +kernel
theorem dX4_bestHelper_57 : decode cX4_bestHelper 57 = .ok (.iload_n 3, 1) := by decide +kernel
theorem dX4_bestHelper_58 : decode cX4_bestHelper 58 = .ok (.istore_n 1, 1) := by decide +kernel
theorem dX4_bestHelper_59 : decode cX4_bestHelper 59 = .ok (.iload 4, 2) := by decide +kernel
theorem dX4_bestHelper_61 : decode cX4_bestHelper 61 = .ok (.istore_n 2, 1) := by decide +kernel
theorem dX4_bestHelper_62 : decode cX4_bestHelper 62 = .ok (.iinc 3 1, 3) := by decide +kernel
theorem dX4_bestHelper_65 : decode cX4_bestHelper 65 = .ok (.goto (-58), 3) := by decide +kernel
theorem dX4_bestHelper_68 : decode cX4_bestHelper 68 = .ok (.iload_n 1, 1) := by decide +kernel
theorem dX4_bestHelper_69 : decode cX4_bestHelper 69 = .ok (.ireturn, 1) := by decide +kernel
theorem dX4_logged_0 : decode cX4_logged 0 = .ok (.iload_n 1, 1) := by decide +kernel
theorem dX4_logged_1 : decode cX4_logged 1 = .ok (.ifCond .lt 12, 3) := by decide +kernel
theorem dX4_logged_4 : decode cX4_logged 4 = .ok (.iload_n 2, 1) := by decide +kernel
theorem dX4_logged_5 : decode cX4_logged 5 = .ok (.iconst 0, 1) := by decide +kernel
theorem dX4_logged_6 : decode cX4_logged 6 = .ok (.iconst 4, 1) := by decide +kernel
theorem dX4_logged_7 : decode cX4_logged 7 = .ok (.invokestatic 41, 3) := by decide +kernel
theorem dX4_logged_10 : decode cX4_logged 10 = .ok (.ifCond .eq 6, 3) := by decide +kernel
theorem dX4_logged_13 : decode cX4_logged 13 = .ok (.ldc 45, 2) := by decide +kernel
theorem dX4_logged_15 : decode cX4_logged 15 = .ok (.ireturn, 1) := by decide +kernel
theorem dX4_logged_16 : decode cX4_logged 16 = .ok (.aload_n 0, 1) := by decide +kernel
theorem dX4_logged_17 : decode cX4_logged 17 = .ok (.getfield 10, 3) := by decide +kernel
theorem dX4_logged_20 : decode cX4_logged 20 = .ok (.getfield 196, 3) := by decide +kernel
theorem dX4_logged_23 : decode cX4_logged 23 = .ok (.aload_n 0, 1) := by decide +kernel
theorem dX4_logged_24 : decode cX4_logged 24 = .ok (.getfield 10, 3) := by decide +kernel
theorem dX4_logged_27 : decode cX4_logged 27 = .ok (.getfield 196, 3) := by decide +kernel
theorem dX4_logged_30 : decode cX4_logged 30 = .ok (.getfield 64, 3) := by decide +kernel
theorem dX4_logged_33 : decode cX4_logged 33 = .ok (.iconst 1, 1) := by decide +kernel
theorem dX4_logged_34 : decode cX4_logged 34 = .ok (.isub, 1) := by decide +kernel
theorem dX4_logged_35 : decode cX4_logged 35 = .ok (.iload_n 1, 1) := by decide +kernel
theorem dX4_logged_36 : decode cX4_logged 36 = .ok (.isub, 1) := by decide +kernel
theorem dX4_logged_37 : decode cX4_logged 37 = .ok (.iload_n 2, 1) := by decide +kernel
theorem dX4_logged_38 : decode cX4_logged 38 = .ok (.invokevirtual 147, 3) := by decide +kernel
theorem dX4_logged_41 : decode cX4_logged 41 = .ok (.ireturn, 1) := by decide +kernel
theorem dX4_count_0 : decode cX4_count 0 = .ok (.iload_n 1, 1) := by decide +kernel
theorem dX4_count_1 : decode cX4_count 1 = .ok (.tableswitch 227 0 16 #[83, 91, 99, 107, 123, 131, 139, 147, 155, 163, 171, 179, 187, 195, 206, 211, 219], 83) := by decide +kernel
theorem dX4_count_84 : decode cX4_count 84 = .ok (.aload_n 0, 1) := by decide +kernel
theorem dX4_count_85 : decode cX4_count 85 = .ok (.getfield 10, 3) := by decide +kernel
theorem dX4_count_88 : decode cX4_count 88 = .ok (.getfield 136, 3) := by decide +kernel
theorem dX4_count_91 : decode cX4_count 91 = .ok (.ireturn, 1) := by decide +kernel
theorem dX4_count_92 : decode cX4_count 92 = .ok (.aload_n 0, 1) := by decide +kernel
theorem dX4_count_93 : decode cX4_count 93 = .ok (.getfield 10, 3) := by decide +kernel
theorem dX4_count_96 : decode cX4_count 96 = .ok (.getfield 199, 3) := by decide +kernel
theorem dX4_count_99 : decode cX4_count 99 = .ok (.ireturn, 1) := by decide +kernel
theorem dX4_count_100 : decode cX4_count 100 = .ok (.aload_n 0, 1) := by decide +kernel
theorem dX4_count_101 : decode cX4_count 101 = .ok (.getfield 10, 3) := by decide +kernel
theorem dX4_count_104 : decode cX4_count 104 = .ok (.getfield 202, 3) := by decide +kernel
theorem dX4_count_107 : decode cX4_count 107 = .ok (.ireturn, 1) := by decide +kernel
theorem dX4_count_108 : decode cX4_count 108 = .ok (.aload_n 0, 1) := by decide +kernel
theorem dX4_count_109 : decode cX4_count 109 = .ok (.getfield 10, 3) := by decide +kernel
theorem dX4_count_112 : decode cX4_count 112 = .ok (.getfield 136, 3) := by decide +kernel
theorem dX4_count_115 : decode cX4_count 115 = .ok (.aload_n 0, 1) := by decide +kernel
theorem dX4_count_116 : decode cX4_count 116 = .ok (.getfield 10, 3) := by decide +kernel
theorem dX4_count_119 : decode cX4_count 119 = .ok (.getfield 199, 3) := by decide +kernel
theorem dX4_count_122 : decode cX4_count 122 = .ok (.isub, 1) := by decide +kernel
theorem dX4_count_123 : decode cX4_count 123 = .ok (.ireturn, 1) := by decide +kernel
theorem dX4_count_124 : decode cX4_count 124 = .ok (.aload_n 0, 1) := by decide +kernel
theorem dX4_count_125 : decode cX4_count 125 = .ok (.getfield 10, 3) := by decide +kernel
theorem dX4_count_128 : decode cX4_count 128 = .ok (.getfield 205, 3) := by decide +kernel
theorem dX4_count_131 : decode cX4_count 131 = .ok (.ireturn, 1) := by decide +kernel
theorem dX4_count_132 : decode cX4_count 132 = .ok (.aload_n 0, 1) := by decide +kernel
theorem dX4_count_133 : decode cX4_count 133 = .ok (.getfield 10, 3) := by decide +kernel
theorem dX4_count_136 : decode cX4_count 136 = .ok (.getfield 208, 3) := by decide +kernel
theorem dX4_count_139 : decode cX4_count 139 = .ok (.ireturn, 1) := by decide +kernel
theorem dX4_count_140 : decode cX4_count 140 = .ok (.aload_n 0, 1) := by decide +kernel
theorem dX4_count_141 : decode cX4_count 141 = .ok (.getfield 10, 3) := by decide +kernel
theorem dX4_count_144 : decode cX4_count 144 = .ok (.getfield 46, 3) := by decide +kernel
theorem dX4_count_147 : decode cX4_count 147 = .ok (.ireturn, 1) := by decide +kernel
theorem dX4_count_148 : decode cX4_count 148 = .ok (.aload_n 0, 1) := by decide +kernel
theorem dX4_count_149 : decode cX4_count 149 = .ok (.getfield 10, 3) := by decide +kernel
theorem dX4_count_152 : decode cX4_count 152 = .ok (.getfield 49, 3) := by decide +kernel
theorem dX4_count_155 : decode cX4_count 155 = .ok (.ireturn, 1) := by decide +kernel
theorem dX4_count_156 : decode cX4_count 156 = .ok (.aload_n 0, 1) := by decide +kernel
theorem dX4_count_157 : decode cX4_count 157 = .ok (.getfield 10, 3) := by decide +kernel
theorem dX4_count_160 : decode cX4_count 160 = .ok (.invokevirtual 69, 3) := by decide +kernel
theorem dX4_count_163 : decode cX4_count 163 = .ok (.ireturn, 1) := by decide +kernel
theorem dX4_count_164 : decode cX4_count 164 = .ok (.aload_n 0, 1) := by decide +kernel
theorem dX4_count_165 : decode cX4_count 165 = .ok (.getfield 10, 3) := by decide +kernel
theorem dX4_count_168 : decode cX4_count 168 = .ok (.invokevirtual 211, 3) := by decide +kernel
theorem dX4_count_171 : decode cX4_count 171 = .ok (.ireturn, 1) := by decide +kernel
theorem dX4_count_172 : decode cX4_count 172 = .ok (.aload_n 0, 1) := by decide +kernel
theorem dX4_count_173 : decode cX4_count 173 = .ok (.getfield 10, 3) := by decide +kernel
theorem dX4_count_176 : decode cX4_count 176 = .ok (.getfield 72, 3) := by decide +kernel
theorem dX4_count_179 : decode cX4_count 179 = .ok (.ireturn, 1) := by decide +kernel
theorem dX4_count_180 : decode cX4_count 180 = .ok (.aload_n 0, 1) := by decide +kernel
theorem dX4_count_181 : decode cX4_count 181 = .ok (.getfield 10, 3) := by decide +kernel
theorem dX4_count_184 : decode cX4_count 184 = .ok (.getfield 90, 3) := by decide +kernel
theorem dX4_count_187 : decode cX4_count 187 = .ok (.ireturn, 1) := by decide +kernel
theorem dX4_count_188 : decode cX4_count 188 = .ok (.aload_n 0, 1) := by decide +kernel
theorem dX4_count_189 : decode cX4_count 189 = .ok (.getfield 10, 3) := by decide +kernel
theorem dX4_count_192 : decode cX4_count 192 = .ok (.invokevirtual 214, 3) := by decide +kernel
theorem dX4_count_195 : decode cX4_count 195 = .ok (.ireturn, 1) := by decide +kernel
theorem dX4_count_196 : decode cX4_count 196 = .ok (.aload_n 0, 1) := by decide +kernel
theorem dX4_count_197 : decode cX4_count 197 = .ok (.getfield 10, 3) := by decide +kernel
theorem dX4_count_200 : decode cX4_count 200 = .ok (.getfield 60, 3) := by decide +kernel
theorem dX4_count_203 : decode cX4_count 203 = .ok (.getfield 64, 3) := by decide +kernel
theorem dX4_count_206 : decode cX4_count 206 = .ok (.ireturn, 1) := by decide +kernel
theorem dX4_count_207 : decode cX4_count 207 = .ok (.aload_n 0, 1) := by decide +kernel
theorem dX4_count_208 : decode cX4_count 208 = .ok (.getfield 37, 3) := by decide +kernel
theorem dX4_count_211 : decode cX4_count 211 = .ok (.ireturn, 1) := by decide +kernel
theorem dX4_count_212 : decode cX4_count 212 = .ok (.aload_n 0, 1) := by decide +kernel
theorem dX4_count_213 : decode cX4_count 213 = .ok (.getfield 29, 3) := by decide +kernel
theorem dX4_count_216 : decode cX4_count 216 = .ok (.getfield 122, 3) := by decide +kernel
theorem dX4_count_219 : decode cX4_count 219 = .ok (.ireturn, 1) := by decide +kernel
theorem dX4_count_220 : decode cX4_count 220 = .ok (.aload_n 0, 1) := by decide +kernel
theorem dX4_count_221 : decode cX4_count 221 = .ok (.getfield 10, 3) := by decide +kernel
theorem dX4_count_224 : decode cX4_count 224 = .ok (.invokevirtual 217, 3) := by decide +kernel
theorem dX4_count_227 : decode cX4_count 227 = .ok (.ireturn, 1) := by decide +kernel
theorem dX4_count_228 : decode cX4_count 228 = .ok (.ldc 45, 2) := by decide +kernel
theorem dX4_count_230 : decode cX4_count 230 = .ok (.ireturn, 1) := by decide +kernel
theorem dX4_isOutside_0 : decode cX4_isOutside 0 = .ok (.iload_n 0, 1) := by decide +kernel
theorem dX4_isOutside_1 : decode cX4_isOutside 1 = .ok (.iload_n 1, 1) := by decide +kernel
theorem dX4_isOutside_2 : decode cX4_isOutside 2 = .ok (.if_icmp .lt 8, 3) := by decide +kernel
theorem dX4_isOutside_5 : decode cX4_isOutside 5 = .ok (.iload_n 0, 1) := by decide +kernel
theorem dX4_isOutside_6 : decode cX4_isOutside 6 = .ok (.iload_n 2, 1) := by decide +kernel
theorem dX4_isOutside_7 : decode cX4_isOutside 7 = .ok (.if_icmp .le 7, 3) := by decide +kernel
theorem dX4_isOutside_10 : decode cX4_isOutside 10 = .ok (.iconst 1, 1) := by decide +kernel
theorem dX4_isOutside_11 : decode cX4_isOutside 11 = .ok (.goto 4, 3) := by decide +kernel
theorem dX4_isOutside_14 : decode cX4_isOutside 14 = .ok (.iconst 0, 1) := by decide +kernel
theorem dX4_isOutside_15 : decode cX4_isOutside 15 = .ok (.ireturn, 1) := by decide +kernel
theorem dX4_isWalk_0 : decode cX4_isWalk 0 = .ok (.iload_n 0, 1) := by decide +kernel
theorem dX4_isWalk_1 : decode cX4_isWalk 1 = .ok (.iconst 0, 1) := by decide +kernel
theorem dX4_isWalk_2 : decode cX4_isWalk 2 = .ok (.bipush 15, 2) := by decide +kernel
theorem dX4_isWalk_4 : decode cX4_isWalk 4 = .ok (.invokestatic 41, 3) := by decide +kernel
theorem dX4_isWalk_7 : decode cX4_isWalk 7 = .ok (.ifCond .ne 14, 3) := by decide +kernel
theorem dX4_isWalk_10 : decode cX4_isWalk 10 = .ok (.iload_n 1, 1) := by decide +kernel
theorem dX4_isWalk_11 : decode cX4_isWalk 11 = .ok (.iconst 0, 1) := by decide +kernel
theorem dX4_isWalk_12 : decode cX4_isWalk 12 = .ok (.sipush 9999, 3) := by decide +kernel
theorem dX4_isWalk_15 : decode cX4_isWalk 15 = .ok (.invokestatic 41, 3) := by decide +kernel
theorem dX4_isWalk_18 : decode cX4_isWalk 18 = .ok (.ifCond .eq 5, 3) := by decide +kernel
theorem dX4_isWalk_21 : decode cX4_isWalk 21 = .ok (.iconst 0, 1) := by decide +kernel
theorem dX4_isWalk_22 : decode cX4_isWalk 22 = .ok (.ireturn, 1) := by decide +kernel
theorem dX4_isWalk_23 : decode cX4_isWalk 23 = .ok (.iload_n 2, 1) := by decide +kernel
theorem dX4_isWalk_24 : decode cX4_isWalk 24 = .ok (.sipush (-999), 3) := by decide +kernel
theorem dX4_isWalk_27 : decode cX4_isWalk 27 = .ok (.sipush 999, 3) := by decide +kernel
theorem dX4_isWalk_30 : decode cX4_isWalk 30 = .ok (.invokestatic 41, 3) := by decide +kernel
theorem dX4_isWalk_33 : decode cX4_isWalk 33 = .ok (.ifCond .ne 13, 3) := by decide +kernel
theorem dX4_isWalk_36 : decode cX4_isWalk 36 = .ok (.iload_n 3, 1) := by decide +kernel
theorem dX4_isWalk_37 : decode cX4_isWalk 37 = .ok (.iconst 1, 1) := by decide +kernel
theorem dX4_isWalk_38 : decode cX4_isWalk 38 = .ok (.bipush 30, 2) := by decide +kernel
theorem dX4_isWalk_40 : decode cX4_isWalk 40 = .ok (.invokestatic 41, 3) := by decide +kernel
theorem dX4_isWalk_43 : decode cX4_isWalk 43 = .ok (.ifCond .eq 5, 3) := by decide +kernel
theorem dX4_isWalk_46 : decode cX4_isWalk 46 = .ok (.iconst 0, 1) := by decide +kernel
theorem dX4_isWalk_47 : decode cX4_isWalk 47 = .ok (.ireturn, 1) := by decide +kernel
theorem dX4_isWalk_48 : decode cX4_isWalk 48 = .ok (.iload_n 1, 1) := by decide +kernel
theorem dX4_isWalk_49 : decode cX4_isWalk 49 = .ok (.iload_n 2, 1) := by decide +kernel
theorem dX4_isWalk_50 : decode cX4_isWalk 50 = .ok (.iload_n 3, 1) := by decide +kernel
theorem dX4_isWalk_51 : decode cX4_isWalk 51 = .ok (.iconst 1, 1) := by decide +kernel
theorem dX4_isWalk_52 : decode cX4_isWalk 52 = .ok (.isub, 1) := by decide +kernel
theorem dX4_isWalk_53 : decode cX4_isWalk 53 = .ok (.imul, 1) := by decide +kernel
theorem dX4_isWalk_54 : decode cX4_isWalk 54 = .ok (.iadd, 1) := by decide +kernel
theorem dX4_isWalk_55 : decode cX4_isWalk 55 = .ok (.iconst 0, 1) := by decide +kernel
theorem dX4_isWalk_56 : decode cX4_isWalk 56 = .ok (.sipush 9999, 3) := by decide +kernel
theorem dX4_isWalk_59 : decode cX4_isWalk 59 = .ok (.invokestatic 41, 3) := by decide +kernel
theorem dX4_isWalk_62 : decode cX4_isWalk 62 = .ok (.ifCond .ne 7, 3) := by decide +kernel
theorem dX4_isWalk_65 : decode cX4_isWalk 65 = .ok (.iconst 1, 1) := by decide +kernel
theorem dX4_isWalk_66 : decode cX4_isWalk 66 = .ok (.goto 4, 3) := by decide +kernel
theorem dX4_isWalk_69 : decode cX4_isWalk 69 = .ok (.iconst 0, 1) := by decide +kernel
theorem dX4_isWalk_70 : decode cX4_isWalk 70 = .ok (.ireturn, 1) := by decide +kernel
theorem dX4_remember_0 : decode cX4_remember 0 = .ok (.aload_n 0, 1) := by decide +kernel
theorem dX4_remember_1 : decode cX4_remember 1 = .ok (.getfield 37, 3) := by decide +kernel
theorem dX4_remember_4 : decode cX4_remember 4 = .ok (.iconst 4, 1) := by decide +kernel
theorem dX4_remember_5 : decode cX4_remember 5 = .ok (.if_icmp .lt 51, 3) := by decide +kernel
theorem dX4_remember_8 : decode cX4_remember 8 = .ok (.aload_n 0, 1) := by decide +kernel
theorem dX4_remember_9 : decode cX4_remember 9 = .ok (.getfield 22, 3) := by decide +kernel
theorem dX4_remember_12 : decode cX4_remember 12 = .ok (.iconst 0, 1) := by decide +kernel
theorem dX4_remember_13 : decode cX4_remember 13 = .ok (.aaload, 1) := by decide +kernel
theorem dX4_remember_14 : decode cX4_remember 14 = .ok (.astore_n 1, 1) := by decide +kernel
theorem dX4_remember_15 : decode cX4_remember 15 = .ok (.iconst 0, 1) := by decide +kernel
theorem dX4_remember_16 : decode cX4_remember 16 = .ok (.istore_n 2, 1) := by decide +kernel
theorem dX4_remember_17 : decode cX4_remember 17 = .ok (.iload_n 2, 1) := by decide +kernel
theorem dX4_remember_18 : decode cX4_remember 18 = .ok (.iconst 1, 1) := by decide +kernel
theorem dX4_remember_19 : decode cX4_remember 19 = .ok (.iadd, 1) := by decide +kernel
theorem dX4_remember_20 : decode cX4_remember 20 = .ok (.iconst 4, 1) := by decide +kernel
theorem dX4_remember_21 : decode cX4_remember 21 = .ok (.if_icmp .ge 23, 3) := by decide +kernel
theorem dX4_remember_24 : decode cX4_remember 24 = .ok (.aload_n 0, 1) := by decide +kernel
theorem dX4_remember_25 : decode cX4_remember 25 = .ok (.getfield 22, 3) := by decide +kernel
theorem dX4_remember_28 : decode cX4_remember 28 = .ok (.iload_n 2, 1) := by decide +kernel
theorem dX4_remember_29 : decode cX4_remember 29 = .ok (.aload_n 0, 1) := by decide +kernel
theorem dX4_remember_30 : decode cX4_remember 30 = .ok (.getfield 22, 3) := by decide +kernel
theorem dX4_remember_33 : decode cX4_remember 33 = .ok (.iload_n 2, 1) := by decide +kernel
theorem dX4_remember_34 : decode cX4_remember 34 = .ok (.iconst 1, 1) := by decide +kernel
theorem dX4_remember_35 : decode cX4_remember 35 = .ok (.iadd, 1) := by decide +kernel
theorem dX4_remember_36 : decode cX4_remember 36 = .ok (.aaload, 1) := by decide +kernel
theorem dX4_remember_37 : decode cX4_remember 37 = .ok (.aastore, 1) := by decide +kernel
theorem dX4_remember_38 : decode cX4_remember 38 = .ok (.iinc 2 1, 3) := by decide +kernel
theorem dX4_remember_41 : decode cX4_remember 41 = .ok (.goto (-24), 3) := by decide +kernel
theorem dX4_remember_44 : decode cX4_remember 44 = .ok (.aload_n 0, 1) := by decide +kernel
theorem dX4_remember_45 : decode cX4_remember 45 = .ok (.getfield 22, 3) := by decide +kernel
theorem dX4_remember_48 : decode cX4_remember 48 = .ok (.iconst 3, 1) := by decide +kernel
theorem dX4_remember_49 : decode cX4_remember 49 = .ok (.aload_n 1, 1) := by decide +kernel
theorem dX4_remember_50 : decode cX4_remember 50 = .ok (.aastore, 1) := by decide +kernel
theorem dX4_remember_51 : decode cX4_remember 51 = .ok (.aload_n 0, 1) := by decide +kernel
theorem dX4_remember_52 : decode cX4_remember 52 = .ok (.iconst 3, 1) := by decide +kernel
theorem dX4_remember_53 : decode cX4_remember 53 = .ok (.putfield 37, 3) := by decide +kernel
theorem dX4_remember_56 : decode cX4_remember 56 = .ok (.aload_n 0, 1) := by decide +kernel
theorem dX4_remember_57 : decode cX4_remember 57 = .ok (.getfield 22, 3) := by decide +kernel
theorem dX4_remember_60 : decode cX4_remember 60 = .ok (.aload_n 0, 1) := by decide +kernel
theorem dX4_remember_61 : decode cX4_remember 61 = .ok (.getfield 37, 3) := by decide +kernel
theorem dX4_remember_64 : decode cX4_remember 64 = .ok (.aaload, 1) := by decide +kernel
theorem dX4_remember_65 : decode cX4_remember 65 = .ok (.aload_n 0, 1) := by decide +kernel
theorem dX4_remember_66 : decode cX4_remember 66 = .ok (.getfield 10, 3) := by decide +kernel
theorem dX4_remember_69 : decode cX4_remember 69 = .ok (.invokevirtual 132, 3) := by decide +kernel
theorem dX4_remember_72 : decode cX4_remember 72 = .ok (.aload_n 0, 1) := by decide +kernel
theorem dX4_remember_73 : decode cX4_remember 73 = .ok (.dup, 1) := by decide +kernel
theorem dX4_remember_74 : decode cX4_remember 74 = .ok (.getfield 37, 3) := by decide +kernel
theorem dX4_remember_77 : decode cX4_remember 77 = .ok (.iconst 1, 1) := by decide +kernel
theorem dX4_remember_78 : decode cX4_remember 78 = .ok (.iadd, 1) := by decide +kernel
theorem dX4_remember_79 : decode cX4_remember 79 = .ok (.putfield 37, 3) := by decide +kernel
theorem dX4_remember_82 : decode cX4_remember 82 = .ok (.return_, 1) := by decide +kernel
theorem dX5_init_0 : decode cX5_init 0 = .ok (.aload_n 0, 1) := by decide +kernel
theorem dX5_init_1 : decode cX5_init 1 = .ok (.invokespecial 1, 3) := by decide +kernel
theorem dX5_init_4 : decode cX5_init 4 = .ok (.aload_n 0, 1) := by decide +kernel
theorem dX5_init_5 : decode cX5_init 5 = .ok (.sipush 2506, 3) := by decide +kernel
theorem dX5_init_8 : decode cX5_init 8 = .ok (.newarray .int, 2) := by decide +kernel
theorem dX5_init_10 : decode cX5_init 10 = .ok (.putfield 7, 3) := by decide +kernel
theorem dX5_init_13 : decode cX5_init 13 = .ok (.aload_n 0, 1) := by decide +kernel
theorem dX5_init_14 : decode cX5_init 14 = .ok (.bipush 80, 2) := by decide +kernel
theorem dX5_init_16 : decode cX5_init 16 = .ok (.newarray .int, 2) := by decide +kernel
theorem dX5_init_18 : decode cX5_init 18 = .ok (.putfield 13, 3) := by decide +kernel
theorem dX5_init_21 : decode cX5_init 21 = .ok (.aload_n 0, 1) := by decide +kernel
theorem dX5_init_22 : decode cX5_init 22 = .ok (.iconst (-1), 1) := by decide +kernel
theorem dX5_init_23 : decode cX5_init 23 = .ok (.putfield 16, 3) := by decide +kernel
theorem dX5_init_26 : decode cX5_init 26 = .ok (.aload_n 0, 1) := by decide +kernel
theorem dX5_init_27 : decode cX5_init 27 = .ok (.iconst 4, 1) := by decide +kernel
theorem dX5_init_28 : decode cX5_init 28 = .ok (.newarray .int, 2) := by decide +kernel
theorem dX5_init_30 : decode cX5_init 30 = .ok (.putfield 20, 3) := by decide +kernel
theorem dX5_init_33 : decode cX5_init 33 = .ok (.aload_n 0, 1) := by decide +kernel
theorem dX5_init_34 : decode cX5_init 34 = .ok (.getfield 7, 3) := by decide +kernel
theorem dX5_init_37 : decode cX5_init 37 = .ok (.sipush 349, 3) := by decide +kernel
theorem dX5_init_40 : decode cX5_init 40 = .ok (.iconst 4, 1) := by decide +kernel
theorem dX5_init_41 : decode cX5_init 41 = .ok (.iastore, 1) := by decide +kernel
theorem dX5_init_42 : decode cX5_init 42 = .ok (.aload_n 0, 1) := by decide +kernel
theorem dX5_init_43 : decode cX5_init 43 = .ok (.getfield 7, 3) := by decide +kernel
theorem dX5_init_46 : decode cX5_init 46 = .ok (.sipush 350, 3) := by decide +kernel
theorem dX5_init_49 : decode cX5_init 49 = .ok (.iconst 2, 1) := by decide +kernel
theorem dX5_init_50 : decode cX5_init 50 = .ok (.iastore, 1) := by decide +kernel
theorem dX5_init_51 : decode cX5_init 51 = .ok (.aload_n 0, 1) := by decide +kernel
theorem dX5_init_52 : decode cX5_init 52 = .ok (.getfield 7, 3) := by decide +kernel
theorem dX5_init_55 : decode cX5_init 55 = .ok (.sipush 352, 3) := by decide +kernel
theorem dX5_init_58 : decode cX5_init 58 = .ok (.iconst 3, 1) := by decide +kernel
theorem dX5_init_59 : decode cX5_init 59 = .ok (.iastore, 1) := by decide +kernel
theorem dX5_init_60 : decode cX5_init 60 = .ok (.return_, 1) := by decide +kernel
theorem dX5_in_0 : decode cX5_in 0 = .ok (.iload_n 0, 1) := by decide +kernel
theorem dX5_in_1 : decode cX5_in 1 = .ok (.iload_n 1, 1) := by decide +kernel
theorem dX5_in_2 : decode cX5_in 2 = .ok (.if_icmp .lt 12, 3) := by decide +kernel
theorem dX5_in_5 : decode cX5_in 5 = .ok (.iload_n 0, 1) := by decide +kernel
theorem dX5_in_6 : decode cX5_in 6 = .ok (.iload_n 2, 1) := by decide +kernel
theorem dX5_in_7 : decode cX5_in 7 = .ok (.if_icmp .gt 7, 3) := by decide +kernel
theorem dX5_in_10 : decode cX5_in 10 = .ok (.iconst 1, 1) := by decide +kernel
theorem dX5_in_11 : decode cX5_in 11 = .ok (.goto 4, 3) := by decide +kernel
theorem dX5_in_14 : decode cX5_in 14 = .ok (.iconst 0, 1) := by decide +kernel
theorem dX5_in_15 : decode cX5_in 15 = .ok (.ireturn, 1) := by decide +kernel
theorem dX5_isLine_0 : decode cX5_isLine 0 = .ok (.iload_n 0, 1) := by decide +kernel
theorem dX5_isLine_1 : decode cX5_isLine 1 = .ok (.iconst 0, 1) := by decide +kernel
theorem dX5_isLine_2 : decode cX5_isLine 2 = .ok (.sipush 9999, 3) := by decide +kernel
theorem dX5_isLine_5 : decode cX5_isLine 5 = .ok (.invokestatic 23, 3) := by decide +kernel
theorem dX5_isLine_8 : decode cX5_isLine 8 = .ok (.ireturn, 1) := by decide +kernel
theorem dX5_isHelper_0 : decode cX5_isHelper 0 = .ok (.iload_n 1, 1) := by decide +kernel
theorem dX5_isHelper_1 : decode cX5_isHelper 1 = .ok (.iconst 0, 1) := by decide +kernel
theorem dX5_isHelper_2 : decode cX5_isHelper 2 = .ok (.aload_n 0, 1) := by decide +kernel
theorem dX5_isHelper_3 : decode cX5_isHelper 3 = .ok (.getfield 7, 3) := by decide +kernel
theorem dX5_isHelper_6 : decode cX5_isHelper 6 = .ok (.sipush 351, 3) := by decide +kernel
theorem dX5_isHelper_9 : decode cX5_isHelper 9 = .ok (.iaload, 1) := by decide +kernel
theorem dX5_isHelper_10 : decode cX5_isHelper 10 = .ok (.iconst 1, 1) := by decide +kernel
theorem dX5_isHelper_11 : decode cX5_isHelper 11 = .ok (.isub, 1) := by decide +kernel
theorem dX5_isHelper_12 : decode cX5_isHelper 12 = .ok (.invokestatic 23, 3) := by decide +kernel
theorem dX5_isHelper_15 : decode cX5_isHelper 15 = .ok (.ireturn, 1) := by decide +kernel
theorem dX5_of_0 : decode cX5_of 0 = .ok (.bipush 120, 2) := by decide +kernel
theorem dX5_of_2 : decode cX5_of 2 = .ok (.bipush 14, 2) := by decide +kernel
theorem dX5_of_4 : decode cX5_of 4 = .ok (.iload_n 0, 1) := by decide +kernel
theorem dX5_of_5 : decode cX5_of 5 = .ok (.imul, 1) := by decide +kernel
theorem dX5_of_6 : decode cX5_of 6 = .ok (.iadd, 1) := by decide +kernel
theorem dX5_of_7 : decode cX5_of 7 = .ok (.iload_n 1, 1) := by decide +kernel
theorem dX5_of_8 : decode cX5_of 8 = .ok (.iadd, 1) := by decide +kernel
theorem dX5_of_9 : decode cX5_of 9 = .ok (.ireturn, 1) := by decide +kernel
theorem dX5_copy_0 : decode cX5_copy 0 = .ok (.iconst 0, 1) := by decide +kernel
theorem dX5_copy_1 : decode cX5_copy 1 = .ok (.istore_n 3, 1) := by decide +kernel
theorem dX5_copy_2 : decode cX5_copy 2 = .ok (.iload_n 3, 1) := by decide +kernel
theorem dX5_copy_3 : decode cX5_copy 3 = .ok (.sipush 358, 3) := by decide +kernel
theorem dX5_copy_6 : decode cX5_copy 6 = .ok (.if_icmp .ge 25, 3) := by decide +kernel
theorem dX5_copy_9 : decode cX5_copy 9 = .ok (.aload_n 0, 1) := by decide +kernel
theorem dX5_copy_10 : decode cX5_copy 10 = .ok (.getfield 7, 3) := by decide +kernel
theorem dX5_copy_13 : decode cX5_copy 13 = .ok (.iload_n 2, 1) := by decide +kernel
theorem dX5_copy_14 : decode cX5_copy 14 = .ok (.iload_n 3, 1) := by decide +kernel
theorem dX5_copy_15 : decode cX5_copy 15 = .ok (.iadd, 1) := by decide +kernel
theorem dX5_copy_16 : decode cX5_copy 16 = .ok (.aload_n 0, 1) := by decide +kernel
theorem dX5_copy_17 : decode cX5_copy 17 = .ok (.getfield 7, 3) := by decide +kernel
theorem dX5_copy_20 : decode cX5_copy 20 = .ok (.iload_n 1, 1) := by decide +kernel
theorem dX5_copy_21 : decode cX5_copy 21 = .ok (.iload_n 3, 1) := by decide +kernel
theorem dX5_copy_22 : decode cX5_copy 22 = .ok (.iadd, 1) := by decide +kernel
theorem dX5_copy_23 : decode cX5_copy 23 = .ok (.iaload, 1) := by decide +kernel
theorem dX5_copy_24 : decode cX5_copy 24 = .ok (.iastore, 1) := by decide +kernel
theorem dX5_copy_25 : decode cX5_copy 25 = .ok (.iinc 3 1, 3) := by decide +kernel
theorem dX5_copy_28 : decode cX5_copy 28 = .ok (.goto (-26), 3) := by decide +kernel
theorem dX5_copy_31 : decode cX5_copy 31 = .ok (.return_, 1) := by decide +kernel
theorem dX5_record_0 : decode cX5_record 0 = .ok (.aload_n 0, 1) := by decide +kernel
theorem dX5_record_1 : decode cX5_record 1 = .ok (.getfield 27, 3) := by decide +kernel
theorem dX5_record_4 : decode cX5_record 4 = .ok (.iconst 4, 1) := by decide +kernel
theorem dX5_record_5 : decode cX5_record 5 = .ok (.if_icmp .ne 44, 3) := by decide +kernel
theorem dX5_record_8 : decode cX5_record 8 = .ok (.iconst 1, 1) := by decide +kernel
theorem dX5_record_9 : decode cX5_record 9 = .ok (.istore_n 1, 1) := by decide +kernel
theorem dX5_record_10 : decode cX5_record 10 = .ok (.iload_n 1, 1) := by decide +kernel
theorem dX5_record_11 : decode cX5_record 11 = .ok (.iconst 4, 1) := by decide +kernel
theorem dX5_record_12 : decode cX5_record 12 = .ok (.if_icmp .ge 27, 3) := by decide +kernel
theorem dX5_record_15 : decode cX5_record 15 = .ok (.aload_n 0, 1) := by decide +kernel
theorem dX5_record_16 : decode cX5_record 16 = .ok (.sipush 358, 3) := by decide +kernel
theorem dX5_record_19 : decode cX5_record 19 = .ok (.sipush 358, 3) := by decide +kernel
theorem dX5_record_22 : decode cX5_record 22 = .ok (.iload_n 1, 1) := by decide +kernel
theorem dX5_record_23 : decode cX5_record 23 = .ok (.imul, 1) := by decide +kernel
theorem dX5_record_24 : decode cX5_record 24 = .ok (.iadd, 1) := by decide +kernel
theorem dX5_record_25 : decode cX5_record 25 = .ok (.sipush 358, 3) := by decide +kernel
theorem dX5_record_28 : decode cX5_record 28 = .ok (.iload_n 1, 1) := by decide +kernel
theorem dX5_record_29 : decode cX5_record 29 = .ok (.imul, 1) := by decide +kernel
theorem dX5_record_30 : decode cX5_record 30 = .ok (.invokevirtual 30, 3) := by decide +kernel
theorem dX5_record_33 : decode cX5_record 33 = .ok (.iinc 1 1, 3) := by decide +kernel
theorem dX5_record_36 : decode cX5_record 36 = .ok (.goto (-26), 3) := by decide +kernel
theorem dX5_record_39 : decode cX5_record 39 = .ok (.aload_n 0, 1) := by decide +kernel
theorem dX5_record_40 : decode cX5_record 40 = .ok (.dup, 1) := by decide +kernel
theorem dX5_record_41 : decode cX5_record 41 = .ok (.getfield 27, 3) := by decide +kernel
theorem dX5_record_44 : decode cX5_record 44 = .ok (.iconst 1, 1) := by decide +kernel
theorem dX5_record_45 : decode cX5_record 45 = .ok (.isub, 1) := by decide +kernel
theorem dX5_record_46 : decode cX5_record 46 = .ok (.putfield 27, 3) := by decide +kernel
theorem dX5_record_49 : decode cX5_record 49 = .ok (.aload_n 0, 1) := by decide +kernel
theorem dX5_record_50 : decode cX5_record 50 = .ok (.iconst 0, 1) := by decide +kernel
theorem dX5_record_51 : decode cX5_record 51 = .ok (.sipush 358, 3) := by decide +kernel
theorem dX5_record_54 : decode cX5_record 54 = .ok (.sipush 358, 3) := by decide +kernel
theorem dX5_record_57 : decode cX5_record 57 = .ok (.aload_n 0, 1) := by decide +kernel
theorem dX5_record_58 : decode cX5_record 58 = .ok (.getfield 27, 3) := by decide +kernel
theorem dX5_record_61 : decode cX5_record 61 = .ok (.imul, 1) := by decide +kernel
theorem dX5_record_62 : decode cX5_record 62 = .ok (.iadd, 1) := by decide +kernel
theorem dX5_record_63 : decode cX5_record 63 = .ok (.invokevirtual 30, 3) := by decide +kernel
theorem dX5_record_66 : decode cX5_record 66 = .ok (.aload_n 0, 1) := by decide +kernel
theorem dX5_record_67 : decode cX5_record 67 = .ok (.dup, 1) := by decide +kernel
theorem dX5_record_68 : decode cX5_record 68 = .ok (.getfield 27, 3) := by decide +kernel
theorem dX5_record_71 : decode cX5_record 71 = .ok (.iconst 1, 1) := by decide +kernel
theorem dX5_record_72 : decode cX5_record 72 = .ok (.iadd, 1) := by decide +kernel
theorem dX5_record_73 : decode cX5_record 73 = .ok (.putfield 27, 3) := by decide +kernel
theorem dX5_record_76 : decode cX5_record 76 = .ok (.return_, 1) := by decide +kernel
theorem dX5_undo_0 : decode cX5_undo 0 = .ok (.aload_n 0, 1) := by decide +kernel
theorem dX5_undo_1 : decode cX5_undo 1 = .ok (.getfield 27, 3) := by decide +kernel
theorem dX5_undo_4 : decode cX5_undo 4 = .ok (.ifCond .ne 6, 3) := by decide +kernel
theorem dX5_undo_7 : decode cX5_undo 7 = .ok (.ldc 34, 2) := by decide +kernel
theorem dX5_undo_9 : decode cX5_undo 9 = .ok (.ireturn, 1) := by decide +kernel
theorem dX5_undo_10 : decode cX5_undo 10 = .ok (.aload_n 0, 1) := by decide +kernel
theorem dX5_undo_11 : decode cX5_undo 11 = .ok (.dup, 1) := by decide +kernel
theorem dX5_undo_12 : decode cX5_undo 12 = .ok (.getfield 27, 3) := by decide +kernel
theorem dX5_undo_15 : decode cX5_undo 15 = .ok (.iconst 1, 1) := by decide +kernel
theorem dX5_undo_16 : decode cX5_undo 16 = .ok (.isub, 1) := by decide +kernel
theorem dX5_undo_17 : decode cX5_undo 17 = .ok (.putfield 27, 3) := by decide +kernel
theorem dX5_undo_20 : decode cX5_undo 20 = .ok (.aload_n 0, 1) := by decide +kernel
theorem dX5_undo_21 : decode cX5_undo 21 = .ok (.sipush 358, 3) := by decide +kernel
theorem dX5_undo_24 : decode cX5_undo 24 = .ok (.sipush 358, 3) := by decide +kernel
theorem dX5_undo_27 : decode cX5_undo 27 = .ok (.aload_n 0, 1) := by decide +kernel
theorem dX5_undo_28 : decode cX5_undo 28 = .ok (.getfield 27, 3) := by decide +kernel
theorem dX5_undo_31 : decode cX5_undo 31 = .ok (.imul, 1) := by decide +kernel
theorem dX5_undo_32 : decode cX5_undo 32 = .ok (.iadd, 1) := by decide +kernel
theorem dX5_undo_33 : decode cX5_undo 33 = .ok (.iconst 0, 1) := by decide +kernel
theorem dX5_undo_34 : decode cX5_undo 34 = .ok (.invokevirtual 30, 3) := by decide +kernel
theorem dX5_undo_37 : decode cX5_undo 37 = .ok (.aload_n 0, 1) := by decide +kernel
theorem dX5_undo_38 : decode cX5_undo 38 = .ok (.getfield 27, 3) := by decide +kernel
theorem dX5_undo_41 : decode cX5_undo 41 = .ok (.ireturn, 1) := by decide +kernel
theorem dX5_keep_0 : decode cX5_keep 0 = .ok (.aload_n 0, 1) := by decide +kernel
theorem dX5_keep_1 : decode cX5_keep 1 = .ok (.iconst 0, 1) := by decide +kernel
theorem dX5_keep_2 : decode cX5_keep 2 = .ok (.sipush 1790, 3) := by decide +kernel
theorem dX5_keep_5 : decode cX5_keep 5 = .ok (.invokevirtual 30, 3) := by decide +kernel
theorem dX5_keep_8 : decode cX5_keep 8 = .ok (.aload_n 0, 1) := by decide +kernel
theorem dX5_keep_9 : decode cX5_keep 9 = .ok (.iconst 1, 1) := by decide +kernel
theorem dX5_keep_10 : decode cX5_keep 10 = .ok (.putfield 35, 3) := by decide +kernel
theorem dX5_keep_13 : decode cX5_keep 13 = .ok (.aload_n 0, 1) := by decide +kernel
theorem dX5_keep_14 : decode cX5_keep 14 = .ok (.getfield 7, 3) := by decide +kernel
theorem dX5_keep_17 : decode cX5_keep 17 = .ok (.sipush 353, 3) := by decide +kernel
theorem dX5_keep_20 : decode cX5_keep 20 = .ok (.iaload, 1) := by decide +kernel
theorem dX5_keep_21 : decode cX5_keep 21 = .ok (.ireturn, 1) := by decide +kernel
theorem dX5_restore_0 : decode cX5_restore 0 = .ok (.aload_n 0, 1) := by decide +kernel
theorem dX5_restore_1 : decode cX5_restore 1 = .ok (.getfield 35, 3) := by decide +kernel
theorem dX5_restore_4 : decode cX5_restore 4 = .ok (.ifCond .ne 6, 3) := by decide +kernel
theorem dX5_restore_7 : decode cX5_restore 7 = .ok (.ldc 34, 2) := by decide +kernel
theorem dX5_restore_9 : decode cX5_restore 9 = .ok (.ireturn, 1) := by decide +kernel
theorem dX5_restore_10 : decode cX5_restore 10 = .ok (.aload_n 0, 1) := by decide +kernel
theorem dX5_restore_11 : decode cX5_restore 11 = .ok (.invokevirtual 39, 3) := by decide +kernel
theorem dX5_restore_14 : decode cX5_restore 14 = .ok (.aload_n 0, 1) := by decide +kernel
theorem dX5_restore_15 : decode cX5_restore 15 = .ok (.sipush 1790, 3) := by decide +kernel
theorem dX5_restore_18 : decode cX5_restore 18 = .ok (.iconst 0, 1) := by decide +kernel
theorem dX5_restore_19 : decode cX5_restore 19 = .ok (.invokevirtual 30, 3) := by decide +kernel
theorem dX5_restore_22 : decode cX5_restore 22 = .ok (.aload_n 0, 1) := by decide +kernel
theorem dX5_restore_23 : decode cX5_restore 23 = .ok (.getfield 7, 3) := by decide +kernel
theorem dX5_restore_26 : decode cX5_restore 26 = .ok (.sipush 353, 3) := by decide +kernel
theorem dX5_restore_29 : decode cX5_restore 29 = .ok (.iaload, 1) := by decide +kernel
theorem dX5_restore_30 : decode cX5_restore 30 = .ok (.ireturn, 1) := by decide +kernel
theorem dX5_cellOf_0 : decode cX5_cellOf 0 = .ok (.bipush 8, 2) := by decide +kernel
theorem dX5_cellOf_2 : decode cX5_cellOf 2 = .ok (.iconst 3, 1) := by decide +kernel
theorem dX5_cellOf_3 : decode cX5_cellOf 3 = .ok (.iconst 4, 1) := by decide +kernel
theorem dX5_cellOf_4 : decode cX5_cellOf 4 = .ok (.iload_n 0, 1) := by decide +kernel
theorem dX5_cellOf_5 : decode cX5_cellOf 5 = .ok (.imul, 1) := by decide +kernel
theorem dX5_cellOf_6 : decode cX5_cellOf 6 = .ok (.iload_n 1, 1) := by decide +kernel
theorem dX5_cellOf_7 : decode cX5_cellOf 7 = .ok (.iadd, 1) := by decide +kernel
theorem dX5_cellOf_8 : decode cX5_cellOf 8 = .ok (.imul, 1) := by decide +kernel
theorem dX5_cellOf_9 : decode cX5_cellOf 9 = .ok (.iadd, 1) := by decide +kernel
theorem dX5_cellOf_10 : decode cX5_cellOf 10 = .ok (.ireturn, 1) := by decide +kernel
theorem dX5_placeOf_0 : decode cX5_placeOf 0 = .ok (.iload_n 1, 1) := by decide +kernel
theorem dX5_placeOf_1 : decode cX5_placeOf 1 = .ok (.aload_n 0, 1) := by decide +kernel
theorem dX5_placeOf_2 : decode cX5_placeOf 2 = .ok (.getfield 7, 3) := by decide +kernel
theorem dX5_placeOf_5 : decode cX5_placeOf 5 = .ok (.sipush 349, 3) := by decide +kernel
theorem dX5_placeOf_8 : decode cX5_placeOf 8 = .ok (.iaload, 1) := by decide +kernel
theorem dX5_placeOf_9 : decode cX5_placeOf 9 = .ok (.irem, 1) := by decide +kernel
theorem dX5_placeOf_10 : decode cX5_placeOf 10 = .ok (.istore_n 2, 1) := by decide +kernel
theorem dX5_placeOf_11 : decode cX5_placeOf 11 = .ok (.iconst (-1), 1) := by decide +kernel
theorem dX5_placeOf_12 : decode cX5_placeOf 12 = .ok (.istore_n 3, 1) := by decide +kernel
theorem dX5_placeOf_13 : decode cX5_placeOf 13 = .ok (.iconst 0, 1) := by decide +kernel
theorem dX5_placeOf_14 : decode cX5_placeOf 14 = .ok (.istore 4, 2) := by decide +kernel
theorem dX5_placeOf_16 : decode cX5_placeOf 16 = .ok (.iload 4, 2) := by decide +kernel
theorem dX5_placeOf_18 : decode cX5_placeOf 18 = .ok (.aload_n 0, 1) := by decide +kernel
theorem dX5_placeOf_19 : decode cX5_placeOf 19 = .ok (.getfield 7, 3) := by decide +kernel
theorem dX5_placeOf_22 : decode cX5_placeOf 22 = .ok (.iconst 0, 1) := by decide +kernel
theorem dX5_placeOf_23 : decode cX5_placeOf 23 = .ok (.iload_n 2, 1) := by decide +kernel
theorem dX5_placeOf_24 : decode cX5_placeOf 24 = .ok (.iadd, 1) := by decide +kernel
theorem dX5_placeOf_25 : decode cX5_placeOf 25 = .ok (.iaload, 1) := by decide +kernel
theorem dX5_placeOf_26 : decode cX5_placeOf 26 = .ok (.if_icmp .ge 31, 3) := by decide +kernel
theorem dX5_placeOf_29 : decode cX5_placeOf 29 = .ok (.aload_n 0, 1) := by decide +kernel
theorem dX5_placeOf_30 : decode cX5_placeOf 30 = .ok (.getfield 7, 3) := by decide +kernel
theorem dX5_placeOf_33 : decode cX5_placeOf 33 = .ok (.iload_n 2, 1) := by decide +kernel
theorem dX5_placeOf_34 : decode cX5_placeOf 34 = .ok (.iload 4, 2) := by decide +kernel
theorem dX5_placeOf_36 : decode cX5_placeOf 36 = .ok (.invokestatic 42, 3) := by decide +kernel
theorem dX5_placeOf_39 : decode cX5_placeOf 39 = .ok (.iaload, 1) := by decide +kernel
theorem dX5_placeOf_40 : decode cX5_placeOf 40 = .ok (.iload_n 1, 1) := by decide +kernel
theorem dX5_placeOf_41 : decode cX5_placeOf 41 = .ok (.if_icmp .ne 8, 3) := by decide +kernel
theorem dX5_placeOf_44 : decode cX5_placeOf 44 = .ok (.iload 4, 2) := by decide +kernel
theorem dX5_placeOf_46 : decode cX5_placeOf 46 = .ok (.goto 4, 3) := by decide +kernel
theorem dX5_placeOf_49 : decode cX5_placeOf 49 = .ok (.iload_n 3, 1) := by decide +kernel
theorem dX5_placeOf_50 : decode cX5_placeOf 50 = .ok (.istore_n 3, 1) := by decide +kernel
theorem dX5_placeOf_51 : decode cX5_placeOf 51 = .ok (.iinc 4 1, 3) := by decide +kernel
theorem dX5_placeOf_54 : decode cX5_placeOf 54 = .ok (.goto (-38), 3) := by decide +kernel
theorem dX5_placeOf_57 : decode cX5_placeOf 57 = .ok (.iload_n 3, 1) := by decide +kernel
theorem dX5_placeOf_58 : decode cX5_placeOf 58 = .ok (.ireturn, 1) := by decide +kernel
theorem dX5_outPlaceOf_0 : decode cX5_outPlaceOf 0 = .ok (.iconst (-1), 1) := by decide +kernel
theorem dX5_outPlaceOf_1 : decode cX5_outPlaceOf 1 = .ok (.istore_n 2, 1) := by decide +kernel
theorem dX5_outPlaceOf_2 : decode cX5_outPlaceOf 2 = .ok (.iconst 0, 1) := by decide +kernel
theorem dX5_outPlaceOf_3 : decode cX5_outPlaceOf 3 = .ok (.istore_n 3, 1) := by decide +kernel
theorem dX5_outPlaceOf_4 : decode cX5_outPlaceOf 4 = .ok (.iload_n 3, 1) := by decide +kernel
theorem dX5_outPlaceOf_5 : decode cX5_outPlaceOf 5 = .ok (.aload_n 0, 1) := by decide +kernel
theorem dX5_outPlaceOf_6 : decode cX5_outPlaceOf 6 = .ok (.getfield 7, 3) := by decide +kernel
theorem dX5_outPlaceOf_9 : decode cX5_outPlaceOf 9 = .ok (.sipush 348, 3) := by decide +kernel
theorem dX5_outPlaceOf_12 : decode cX5_outPlaceOf 12 = .ok (.iaload, 1) := by decide +kernel
theorem dX5_outPlaceOf_13 : decode cX5_outPlaceOf 13 = .ok (.if_icmp .ge 30, 3) := by decide +kernel
theorem dX5_outPlaceOf_16 : decode cX5_outPlaceOf 16 = .ok (.aload_n 0, 1) := by decide +kernel
theorem dX5_outPlaceOf_17 : decode cX5_outPlaceOf 17 = .ok (.getfield 7, 3) := by decide +kernel
theorem dX5_outPlaceOf_20 : decode cX5_outPlaceOf 20 = .ok (.bipush 104, 2) := by decide +kernel
theorem dX5_outPlaceOf_22 : decode cX5_outPlaceOf 22 = .ok (.iconst 2, 1) := by decide +kernel
theorem dX5_outPlaceOf_23 : decode cX5_outPlaceOf 23 = .ok (.iload_n 3, 1) := by decide +kernel
theorem dX5_outPlaceOf_24 : decode cX5_outPlaceOf 24 = .ok (.imul, 1) := by decide +kernel
theorem dX5_outPlaceOf_25 : decode cX5_outPlaceOf 25 = .ok (.iadd, 1) := by decide +kernel
theorem dX5_outPlaceOf_26 : decode cX5_outPlaceOf 26 = .ok (.iaload, 1) := by decide +kernel
theorem dX5_outPlaceOf_27 : decode cX5_outPlaceOf 27 = .ok (.iload_n 1, 1) := by decide +kernel
theorem dX5_outPlaceOf_28 : decode cX5_outPlaceOf 28 = .ok (.if_icmp .ne 7, 3) := by decide +kernel
theorem dX5_outPlaceOf_31 : decode cX5_outPlaceOf 31 = .ok (.iload_n 3, 1) := by decide +kernel
theorem dX5_outPlaceOf_32 : decode cX5_outPlaceOf 32 = .ok (.goto 4, 3) := by decide +kernel
theorem dX5_outPlaceOf_35 : decode cX5_outPlaceOf 35 = .ok (.iload_n 2, 1) := by decide +kernel
theorem dX5_outPlaceOf_36 : decode cX5_outPlaceOf 36 = .ok (.istore_n 2, 1) := by decide +kernel
theorem dX5_outPlaceOf_37 : decode cX5_outPlaceOf 37 = .ok (.iinc 3 1, 3) := by decide +kernel
theorem dX5_outPlaceOf_40 : decode cX5_outPlaceOf 40 = .ok (.goto (-36), 3) := by decide +kernel
theorem dX5_outPlaceOf_43 : decode cX5_outPlaceOf 43 = .ok (.iload_n 2, 1) := by decide +kernel
theorem dX5_outPlaceOf_44 : decode cX5_outPlaceOf 44 = .ok (.ireturn, 1) := by decide +kernel
theorem dX5_forgetOut_0 : decode cX5_forgetOut 0 = .ok (.iconst 2, 1) := by decide +kernel
theorem dX5_forgetOut_1 : decode cX5_forgetOut 1 = .ok (.iload_n 1, 1) := by decide +kernel
theorem dX5_forgetOut_2 : decode cX5_forgetOut 2 = .ok (.imul, 1) := by decide +kernel
theorem dX5_forgetOut_3 : decode cX5_forgetOut 3 = .ok (.istore_n 2, 1) := by decide +kernel
theorem dX5_forgetOut_4 : decode cX5_forgetOut 4 = .ok (.iload_n 2, 1) := by decide +kernel
theorem dX5_forgetOut_5 : decode cX5_forgetOut 5 = .ok (.iconst 2, 1) := by decide +kernel
theorem dX5_forgetOut_6 : decode cX5_forgetOut 6 = .ok (.aload_n 0, 1) := by decide +kernel
theorem dX5_forgetOut_7 : decode cX5_forgetOut 7 = .ok (.getfield 7, 3) := by decide +kernel
theorem dX5_forgetOut_10 : decode cX5_forgetOut 10 = .ok (.sipush 348, 3) := by decide +kernel
theorem dX5_forgetOut_13 : decode cX5_forgetOut 13 = .ok (.iaload, 1) := by decide +kernel
theorem dX5_forgetOut_14 : decode cX5_forgetOut 14 = .ok (.imul, 1) := by decide +kernel
theorem dX5_forgetOut_15 : decode cX5_forgetOut 15 = .ok (.iconst 2, 1) := by decide +kernel
theorem dX5_forgetOut_16 : decode cX5_forgetOut 16 = .ok (.isub, 1) := by decide +kernel
theorem dX5_forgetOut_17 : decode cX5_forgetOut 17 = .ok (.if_icmp .ge 29, 3) := by decide +kernel
theorem dX5_forgetOut_20 : decode cX5_forgetOut 20 = .ok (.aload_n 0, 1) := by decide +kernel
theorem dX5_forgetOut_21 : decode cX5_forgetOut 21 = .ok (.getfield 7, 3) := by decide +kernel
theorem dX5_forgetOut_24 : decode cX5_forgetOut 24 = .ok (.bipush 104, 2) := by decide +kernel
theorem dX5_forgetOut_26 : decode cX5_forgetOut 26 = .ok (.iload_n 2, 1) := by decide +kernel
theorem dX5_forgetOut_27 : decode cX5_forgetOut 27 = .ok (.iadd, 1) := by decide +kernel
theorem dX5_forgetOut_28 : decode cX5_forgetOut 28 = .ok (.aload_n 0, 1) := by decide +kernel
theorem dX5_forgetOut_29 : decode cX5_forgetOut 29 = .ok (.getfield 7, 3) := by decide +kernel
theorem dX5_forgetOut_32 : decode cX5_forgetOut 32 = .ok (.bipush 104, 2) := by decide +kernel
theorem dX5_forgetOut_34 : decode cX5_forgetOut 34 = .ok (.iload_n 2, 1) := by decide +kernel
theorem dX5_forgetOut_35 : decode cX5_forgetOut 35 = .ok (.iadd, 1) := by decide +kernel
theorem dX5_forgetOut_36 : decode cX5_forgetOut 36 = .ok (.iconst 2, 1) := by decide +kernel
theorem dX5_forgetOut_37 : decode cX5_forgetOut 37 = .ok (.iadd, 1) := by decide +kernel
theorem dX5_forgetOut_38 : decode cX5_forgetOut 38 = .ok (.iaload, 1) := by decide +kernel
theorem dX5_forgetOut_39 : decode cX5_forgetOut 39 = .ok (.iastore, 1) := by decide +kernel
theorem dX5_forgetOut_40 : decode cX5_forgetOut 40 = .ok (.iinc 2 1, 3) := by decide +kernel
theorem dX5_forgetOut_43 : decode cX5_forgetOut 43 = .ok (.goto (-39), 3) := by decide +kernel
theorem dX5_forgetOut_46 : decode cX5_forgetOut 46 = .ok (.aload_n 0, 1) := by decide +kernel
theorem dX5_forgetOut_47 : decode cX5_forgetOut 47 = .ok (.getfield 7, 3) := by decide +kernel
theorem dX5_forgetOut_50 : decode cX5_forgetOut 50 = .ok (.sipush 348, 3) := by decide +kernel
theorem dX5_forgetOut_53 : decode cX5_forgetOut 53 = .ok (.dup2, 1) := by decide +kernel
theorem dX5_forgetOut_54 : decode cX5_forgetOut 54 = .ok (.iaload, 1) := by decide +kernel
theorem dX5_forgetOut_55 : decode cX5_forgetOut 55 = .ok (.iconst 1, 1) := by decide +kernel
theorem dX5_forgetOut_56 : decode cX5_forgetOut 56 = .ok (.isub, 1) := by decide +kernel
theorem dX5_forgetOut_57 : decode cX5_forgetOut 57 = .ok (.iastore, 1) := by decide +kernel
theorem dX5_forgetOut_58 : decode cX5_forgetOut 58 = .ok (.return_, 1) := by decide +kernel
theorem dX5_forgetLine_0 : decode cX5_forgetLine 0 = .ok (.aload_n 0, 1) := by decide +kernel
theorem dX5_forgetLine_1 : decode cX5_forgetLine 1 = .ok (.iload_n 1, 1) := by decide +kernel
theorem dX5_forgetLine_2 : decode cX5_forgetLine 2 = .ok (.invokevirtual 46, 3) := by decide +kernel
theorem dX5_forgetLine_5 : decode cX5_forgetLine 5 = .ok (.ifCond .lt 12, 3) := by decide +kernel
theorem dX5_forgetLine_8 : decode cX5_forgetLine 8 = .ok (.aload_n 0, 1) := by decide +kernel
theorem dX5_forgetLine_9 : decode cX5_forgetLine 9 = .ok (.aload_n 0, 1) := by decide +kernel
theorem dX5_forgetLine_10 : decode cX5_forgetLine 10 = .ok (.iload_n 1, 1) := by decide +kernel
theorem dX5_forgetLine_11 : decode cX5_forgetLine 11 = .ok (.invokevirtual 46, 3) := by decide +kernel
theorem dX5_forgetLine_14 : decode cX5_forgetLine 14 = .ok (.invokevirtual 50, 3) := by decide +kernel
theorem dX5_forgetLine_17 : decode cX5_forgetLine 17 = .ok (.return_, 1) := by decide +kernel
theorem dX5_giveHours_0 : decode cX5_giveHours 0 = .ok (.aload_n 0, 1) := by decide +kernel
theorem dX5_giveHours_1 : decode cX5_giveHours 1 = .ok (.getfield 7, 3) := by decide +kernel
theorem dX5_giveHours_4 : decode cX5_giveHours 4 = .ok (.iload_n 1, 1) := by decide +kernel
theorem dX5_giveHours_5 : decode cX5_giveHours 5 = .ok (.iconst 4, 1) := by decide +kernel
theorem dX5_giveHours_6 : decode cX5_giveHours 6 = .ok (.invokestatic 54, 3) := by decide +kernel
theorem dX5_giveHours_9 : decode cX5_giveHours 9 = .ok (.dup2, 1) := by decide +kernel
theorem dX5_giveHours_10 : decode cX5_giveHours 10 = .ok (.iaload, 1) := by decide +kernel
theorem dX5_giveHours_11 : decode cX5_giveHours 11 = .ok (.iload_n 2, 1) := by decide +kernel
theorem dX5_giveHours_12 : decode cX5_giveHours 12 = .ok (.iadd, 1) := by decide +kernel
theorem dX5_giveHours_13 : decode cX5_giveHours 13 = .ok (.iastore, 1) := by decide +kernel
theorem dX5_giveHours_14 : decode cX5_giveHours 14 = .ok (.aload_n 0, 1) := by decide +kernel
theorem dX5_giveHours_15 : decode cX5_giveHours 15 = .ok (.getfield 7, 3) := by decide +kernel
theorem dX5_giveHours_18 : decode cX5_giveHours 18 = .ok (.iload_n 1, 1) := by decide +kernel
theorem dX5_giveHours_19 : decode cX5_giveHours 19 = .ok (.iconst 3, 1) := by decide +kernel
theorem dX5_giveHours_20 : decode cX5_giveHours 20 = .ok (.invokestatic 54, 3) := by decide +kernel
theorem dX5_giveHours_23 : decode cX5_giveHours 23 = .ok (.iconst 2, 1) := by decide +kernel
theorem dX5_giveHours_24 : decode cX5_giveHours 24 = .ok (.iastore, 1) := by decide +kernel
theorem dX5_giveHours_25 : decode cX5_giveHours 25 = .ok (.aload_n 0, 1) := by decide +kernel
theorem dX5_giveHours_26 : decode cX5_giveHours 26 = .ok (.getfield 7, 3) := by decide +kernel
theorem dX5_giveHours_29 : decode cX5_giveHours 29 = .ok (.iload_n 1, 1) := by decide +kernel
theorem dX5_giveHours_30 : decode cX5_giveHours 30 = .ok (.iconst 5, 1) := by decide +kernel
theorem dX5_giveHours_31 : decode cX5_giveHours 31 = .ok (.invokestatic 54, 3) := by decide +kernel
theorem dX5_giveHours_34 : decode cX5_giveHours 34 = .ok (.iconst 0, 1) := by decide +kernel
theorem dX5_giveHours_35 : decode cX5_giveHours 35 = .ok (.iastore, 1) := by decide +kernel
theorem dX5_giveHours_36 : decode cX5_giveHours 36 = .ok (.return_, 1) := by decide +kernel
theorem dX5_closeUp_0 : decode cX5_closeUp 0 = .ok (.aload_n 0, 1) := by decide +kernel
theorem dX5_closeUp_1 : decode cX5_closeUp 1 = .ok (.getfield 7, 3) := by decide +kernel
theorem dX5_closeUp_4 : decode cX5_closeUp 4 = .ok (.iconst 0, 1) := by decide +kernel
theorem dX5_closeUp_5 : decode cX5_closeUp 5 = .ok (.iload_n 1, 1) := by decide +kernel
theorem dX5_closeUp_6 : decode cX5_closeUp 6 = .ok (.iadd, 1) := by decide +kernel
theorem dX5_closeUp_7 : decode cX5_closeUp 7 = .ok (.dup2, 1) := by decide +kernel
theorem dX5_closeUp_8 : decode cX5_closeUp 8 = .ok (.iaload, 1) := by decide +kernel
theorem dX5_closeUp_9 : decode cX5_closeUp 9 = .ok (.iconst 1, 1) := by decide +kernel
theorem dX5_closeUp_10 : decode cX5_closeUp 10 = .ok (.isub, 1) := by decide +kernel
theorem dX5_closeUp_11 : decode cX5_closeUp 11 = .ok (.iastore, 1) := by decide +kernel
theorem dX5_closeUp_12 : decode cX5_closeUp 12 = .ok (.iload_n 1, 1) := by decide +kernel
theorem dX5_closeUp_13 : decode cX5_closeUp 13 = .ok (.iload_n 2, 1) := by decide +kernel
theorem dX5_closeUp_14 : decode cX5_closeUp 14 = .ok (.invokestatic 42, 3) := by decide +kernel
theorem dX5_closeUp_17 : decode cX5_closeUp 17 = .ok (.istore_n 3, 1) := by decide +kernel
theorem dX5_closeUp_18 : decode cX5_closeUp 18 = .ok (.iload_n 3, 1) := by decide +kernel
theorem dX5_closeUp_19 : decode cX5_closeUp 19 = .ok (.iload_n 1, 1) := by decide +kernel
theorem dX5_closeUp_20 : decode cX5_closeUp 20 = .ok (.aload_n 0, 1) := by decide +kernel
theorem dX5_closeUp_21 : decode cX5_closeUp 21 = .ok (.getfield 7, 3) := by decide +kernel
theorem dX5_closeUp_24 : decode cX5_closeUp 24 = .ok (.iconst 0, 1) := by decide +kernel
theorem dX5_closeUp_25 : decode cX5_closeUp 25 = .ok (.iload_n 1, 1) := by decide +kernel
theorem dX5_closeUp_26 : decode cX5_closeUp 26 = .ok (.iadd, 1) := by decide +kernel
theorem dX5_closeUp_27 : decode cX5_closeUp 27 = .ok (.iaload, 1) := by decide +kernel
theorem dX5_closeUp_28 : decode cX5_closeUp 28 = .ok (.invokestatic 42, 3) := by decide +kernel
theorem dX5_closeUp_31 : decode cX5_closeUp 31 = .ok (.if_icmp .ge 23, 3) := by decide +kernel
theorem dX5_closeUp_34 : decode cX5_closeUp 34 = .ok (.aload_n 0, 1) := by decide +kernel
theorem dX5_closeUp_35 : decode cX5_closeUp 35 = .ok (.getfield 7, 3) := by decide +kernel
theorem dX5_closeUp_38 : decode cX5_closeUp 38 = .ok (.iload_n 3, 1) := by decide +kernel
theorem dX5_closeUp_39 : decode cX5_closeUp 39 = .ok (.aload_n 0, 1) := by decide +kernel
theorem dX5_closeUp_40 : decode cX5_closeUp 40 = .ok (.getfield 7, 3) := by decide +kernel
theorem dX5_closeUp_43 : decode cX5_closeUp 43 = .ok (.iload_n 3, 1) := by decide +kernel
theorem dX5_closeUp_44 : decode cX5_closeUp 44 = .ok (.iconst 3, 1) := by decide +kernel
theorem dX5_closeUp_45 : decode cX5_closeUp 45 = .ok (.iadd, 1) := by decide +kernel
theorem dX5_closeUp_46 : decode cX5_closeUp 46 = .ok (.iaload, 1) := by decide +kernel
theorem dX5_closeUp_47 : decode cX5_closeUp 47 = .ok (.iastore, 1) := by decide +kernel
theorem dX5_closeUp_48 : decode cX5_closeUp 48 = .ok (.iinc 3 1, 3) := by decide +kernel
theorem dX5_closeUp_51 : decode cX5_closeUp 51 = .ok (.goto (-33), 3) := by decide +kernel
theorem dX5_closeUp_54 : decode cX5_closeUp 54 = .ok (.return_, 1) := by decide +kernel
theorem dX5_append_0 : decode cX5_append 0 = .ok (.iload_n 1, 1) := by decide +kernel
theorem dX5_append_1 : decode cX5_append 1 = .ok (.aload_n 0, 1) := by decide +kernel
theorem dX5_append_2 : decode cX5_append 2 = .ok (.getfield 7, 3) := by decide +kernel
theorem dX5_append_5 : decode cX5_append 5 = .ok (.iconst 0, 1) := by decide +kernel
theorem dX5_append_6 : decode cX5_append 6 = .ok (.iload_n 1, 1) := by decide +kernel
theorem dX5_append_7 : decode cX5_append 7 = .ok (.iadd, 1) := by decide +kernel
theorem dX5_append_8 : decode cX5_append 8 = .ok (.iaload, 1) := by decide +kernel
theorem dX5_append_9 : decode cX5_append 9 = .ok (.invokestatic 42, 3) := by decide +kernel
theorem dX5_append_12 : decode cX5_append 12 = .ok (.istore 5, 2) := by decide +kernel
theorem dX5_append_14 : decode cX5_append 14 = .ok (.aload_n 0, 1) := by decide +kernel
theorem dX5_append_15 : decode cX5_append 15 = .ok (.getfield 7, 3) := by decide +kernel
theorem dX5_append_18 : decode cX5_append 18 = .ok (.iload 5, 2) := by decide +kernel
theorem dX5_append_20 : decode cX5_append 20 = .ok (.iload_n 2, 1) := by decide +kernel
theorem dX5_append_21 : decode cX5_append 21 = .ok (.iastore, 1) := by decide +kernel
theorem dX5_append_22 : decode cX5_append 22 = .ok (.aload_n 0, 1) := by decide +kernel
theorem dX5_append_23 : decode cX5_append 23 = .ok (.getfield 7, 3) := by decide +kernel
theorem dX5_append_26 : decode cX5_append 26 = .ok (.iload 5, 2) := by decide +kernel
theorem dX5_append_28 : decode cX5_append 28 = .ok (.iconst 1, 1) := by decide +kernel
theorem dX5_append_29 : decode cX5_append 29 = .ok (.iadd, 1) := by decide +kernel
theorem dX5_append_30 : decode cX5_append 30 = .ok (.iload_n 3, 1) := by decide +kernel
theorem dX5_append_31 : decode cX5_append 31 = .ok (.iastore, 1) := by decide +kernel
theorem dX5_append_32 : decode cX5_append 32 = .ok (.aload_n 0, 1) := by decide +kernel
theorem dX5_append_33 : decode cX5_append 33 = .ok (.getfield 7, 3) := by decide +kernel
theorem dX5_append_36 : decode cX5_append 36 = .ok (.iload 5, 2) := by decide +kernel
theorem dX5_append_38 : decode cX5_append 38 = .ok (.iconst 2, 1) := by decide +kernel
theorem dX5_append_39 : decode cX5_append 39 = .ok (.iadd, 1) := by decide +kernel
theorem dX5_append_40 : decode cX5_append 40 = .ok (.iload 4, 2) := by decide +kernel
theorem dX5_append_42 : decode cX5_append 42 = .ok (.iastore, 1) := by decide +kernel
theorem dX5_append_43 : decode cX5_append 43 = .ok (.aload_n 0, 1) := by decide +kernel
theorem dX5_append_44 : decode cX5_append 44 = .ok (.getfield 7, 3) := by decide +kernel
theorem dX5_append_47 : decode cX5_append 47 = .ok (.iconst 0, 1) := by decide +kernel
theorem dX5_append_48 : decode cX5_append 48 = .ok (.iload_n 1, 1) := by decide +kernel
theorem dX5_append_49 : decode cX5_append 49 = .ok (.iadd, 1) := by decide +kernel
theorem dX5_append_50 : decode cX5_append 50 = .ok (.dup2, 1) := by decide +kernel
theorem dX5_append_51 : decode cX5_append 51 = .ok (.iaload, 1) := by decide +kernel
theorem dX5_append_52 : decode cX5_append 52 = .ok (.iconst 1, 1) := by decide +kernel
theorem dX5_append_53 : decode cX5_append 53 = .ok (.iadd, 1) := by decide +kernel
theorem dX5_append_54 : decode cX5_append 54 = .ok (.iastore, 1) := by decide +kernel
theorem dX5_append_55 : decode cX5_append 55 = .ok (.return_, 1) := by decide +kernel
theorem dX5_throwOut_0 : decode cX5_throwOut 0 = .ok (.iload_n 1, 1) := by decide +kernel
theorem dX5_throwOut_1 : decode cX5_throwOut 1 = .ok (.iconst 0, 1) := by decide +kernel
theorem dX5_throwOut_2 : decode cX5_throwOut 2 = .ok (.invokestatic 42, 3) := by decide +kernel
theorem dX5_throwOut_5 : decode cX5_throwOut 5 = .ok (.istore_n 3, 1) := by decide +kernel
theorem dX5_throwOut_6 : decode cX5_throwOut 6 = .ok (.aload_n 0, 1) := by decide +kernel
theorem dX5_throwOut_7 : decode cX5_throwOut 7 = .ok (.getfield 7, 3) := by decide +kernel
theorem dX5_throwOut_10 : decode cX5_throwOut 10 = .ok (.iload_n 3, 1) := by decide +kernel
theorem dX5_throwOut_11 : decode cX5_throwOut 11 = .ok (.iaload, 1) := by decide +kernel
theorem dX5_throwOut_12 : decode cX5_throwOut 12 = .ok (.istore 4, 2) := by decide +kernel
theorem dX5_throwOut_14 : decode cX5_throwOut 14 = .ok (.aload_n 0, 1) := by decide +kernel
theorem dX5_throwOut_15 : decode cX5_throwOut 15 = .ok (.getfield 7, 3) := by decide +kernel
theorem dX5_throwOut_18 : decode cX5_throwOut 18 = .ok (.iload_n 3, 1) := by decide +kernel
theorem dX5_throwOut_19 : decode cX5_throwOut 19 = .ok (.iconst 1, 1) := by decide +kernel
theorem dX5_throwOut_20 : decode cX5_throwOut 20 = .ok (.iadd, 1) := by decide +kernel
theorem dX5_throwOut_21 : decode cX5_throwOut 21 = .ok (.iaload, 1) := by decide +kernel
theorem dX5_throwOut_22 : decode cX5_throwOut 22 = .ok (.istore 5, 2) := by decide +kernel
theorem dX5_throwOut_24 : decode cX5_throwOut 24 = .ok (.aload_n 0, 1) := by decide +kernel
theorem dX5_throwOut_25 : decode cX5_throwOut 25 = .ok (.getfield 7, 3) := by decide +kernel
theorem dX5_throwOut_28 : decode cX5_throwOut 28 = .ok (.iload_n 3, 1) := by decide +kernel
theorem dX5_throwOut_29 : decode cX5_throwOut 29 = .ok (.iconst 2, 1) := by decide +kernel
theorem dX5_throwOut_30 : decode cX5_throwOut 30 = .ok (.iadd, 1) := by decide +kernel
theorem dX5_throwOut_31 : decode cX5_throwOut 31 = .ok (.iaload, 1) := by decide +kernel
theorem dX5_throwOut_32 : decode cX5_throwOut 32 = .ok (.iconst 1, 1) := by decide +kernel
theorem dX5_throwOut_33 : decode cX5_throwOut 33 = .ok (.if_icmp .ne 36, 3) := by decide +kernel
theorem dX5_throwOut_36 : decode cX5_throwOut 36 = .ok (.aload_n 0, 1) := by decide +kernel
theorem dX5_throwOut_37 : decode cX5_throwOut 37 = .ok (.getfield 7, 3) := by decide +kernel
theorem dX5_throwOut_40 : decode cX5_throwOut 40 = .ok (.iload 5, 2) := by decide +kernel
theorem dX5_throwOut_42 : decode cX5_throwOut 42 = .ok (.bipush 8, 2) := by decide +kernel
theorem dX5_throwOut_44 : decode cX5_throwOut 44 = .ok (.invokestatic 54, 3) := by decide +kernel
theorem dX5_throwOut_47 : decode cX5_throwOut 47 = .ok (.dup2, 1) := by decide +kernel
theorem dX5_throwOut_48 : decode cX5_throwOut 48 = .ok (.iaload, 1) := by decide +kernel
theorem dX5_throwOut_49 : decode cX5_throwOut 49 = .ok (.iconst 1, 1) := by decide +kernel
theorem dX5_throwOut_50 : decode cX5_throwOut 50 = .ok (.iadd, 1) := by decide +kernel
theorem dX5_throwOut_51 : decode cX5_throwOut 51 = .ok (.iastore, 1) := by decide +kernel
theorem dX5_throwOut_52 : decode cX5_throwOut 52 = .ok (.aload_n 0, 1) := by decide +kernel
theorem dX5_throwOut_53 : decode cX5_throwOut 53 = .ok (.iload 5, 2) := by decide +kernel
theorem dX5_throwOut_55 : decode cX5_throwOut 55 = .ok (.aload_n 0, 1) := by decide +kernel
theorem dX5_throwOut_56 : decode cX5_throwOut 56 = .ok (.getfield 7, 3) := by decide +kernel
theorem dX5_throwOut_59 : decode cX5_throwOut 59 = .ok (.iload 5, 2) := by decide +kernel
theorem dX5_throwOut_61 : decode cX5_throwOut 61 = .ok (.iconst 2, 1) := by decide +kernel
theorem dX5_throwOut_62 : decode cX5_throwOut 62 = .ok (.invokestatic 54, 3) := by decide +kernel
theorem dX5_throwOut_65 : decode cX5_throwOut 65 = .ok (.iaload, 1) := by decide +kernel
theorem dX5_throwOut_66 : decode cX5_throwOut 66 = .ok (.invokevirtual 57, 3) := by decide +kernel
theorem dX5_throwOut_69 : decode cX5_throwOut 69 = .ok (.aload_n 0, 1) := by decide +kernel
theorem dX5_throwOut_70 : decode cX5_throwOut 70 = .ok (.iload_n 1, 1) := by decide +kernel
theorem dX5_throwOut_71 : decode cX5_throwOut 71 = .ok (.iconst 0, 1) := by decide +kernel
theorem dX5_throwOut_72 : decode cX5_throwOut 72 = .ok (.invokevirtual 60, 3) := by decide +kernel
theorem dX5_throwOut_75 : decode cX5_throwOut 75 = .ok (.aload_n 0, 1) := by decide +kernel
theorem dX5_throwOut_76 : decode cX5_throwOut 76 = .ok (.iload 4, 2) := by decide +kernel
theorem dX5_throwOut_78 : decode cX5_throwOut 78 = .ok (.invokevirtual 63, 3) := by decide +kernel
theorem dX5_throwOut_81 : decode cX5_throwOut 81 = .ok (.aload_n 0, 1) := by decide +kernel
theorem dX5_throwOut_82 : decode cX5_throwOut 82 = .ok (.getfield 7, 3) := by decide +kernel
theorem dX5_throwOut_85 : decode cX5_throwOut 85 = .ok (.sipush 348, 3) := by decide +kernel
theorem dX5_throwOut_88 : decode cX5_throwOut 88 = .ok (.iaload, 1) := by decide +kernel
theorem dX5_throwOut_89 : decode cX5_throwOut 89 = .ok (.bipush 8, 2) := by decide +kernel
theorem dX5_throwOut_91 : decode cX5_throwOut 91 = .ok (.if_icmp .ne 8, 3) := by decide +kernel
theorem dX5_throwOut_94 : decode cX5_throwOut 94 = .ok (.aload_n 0, 1) := by decide +kernel
theorem dX5_throwOut_95 : decode cX5_throwOut 95 = .ok (.iconst 0, 1) := by decide +kernel
theorem dX5_throwOut_96 : decode cX5_throwOut 96 = .ok (.invokevirtual 50, 3) := by decide +kernel
theorem dX5_throwOut_99 : decode cX5_throwOut 99 = .ok (.aload_n 0, 1) := by decide +kernel
theorem dX5_throwOut_100 : decode cX5_throwOut 100 = .ok (.getfield 7, 3) := by decide +kernel
theorem dX5_throwOut_103 : decode cX5_throwOut 103 = .ok (.bipush 104, 2) := by decide +kernel
theorem dX5_throwOut_105 : decode cX5_throwOut 105 = .ok (.iconst 2, 1) := by decide +kernel
theorem dX5_throwOut_106 : decode cX5_throwOut 106 = .ok (.aload_n 0, 1) := by decide +kernel
theorem dX5_throwOut_107 : decode cX5_throwOut 107 = .ok (.getfield 7, 3) := by decide +kernel
theorem dX5_throwOut_110 : decode cX5_throwOut 110 = .ok (.sipush 348, 3) := by decide +kernel
theorem dX5_throwOut_113 : decode cX5_throwOut 113 = .ok (.iaload, 1) := by decide +kernel
theorem dX5_throwOut_114 : decode cX5_throwOut 114 = .ok (.imul, 1) := by decide +kernel
theorem dX5_throwOut_115 : decode cX5_throwOut 115 = .ok (.iadd, 1) := by decide +kernel
theorem dX5_throwOut_116 : decode cX5_throwOut 116 = .ok (.iload 4, 2) := by decide +kernel
theorem dX5_throwOut_118 : decode cX5_throwOut 118 = .ok (.iastore, 1) := by decide +kernel
theorem dX5_throwOut_119 : decode cX5_throwOut 119 = .ok (.aload_n 0, 1) := by decide +kernel
theorem dX5_throwOut_120 : decode cX5_throwOut 120 = .ok (.getfield 7, 3) := by decide +kernel
theorem dX5_throwOut_123 : decode cX5_throwOut 123 = .ok (.bipush 104, 2) := by decide +kernel
theorem dX5_throwOut_125 : decode cX5_throwOut 125 = .ok (.iconst 2, 1) := by decide +kernel
theorem dX5_throwOut_126 : decode cX5_throwOut 126 = .ok (.aload_n 0, 1) := by decide +kernel
theorem dX5_throwOut_127 : decode cX5_throwOut 127 = .ok (.getfield 7, 3) := by decide +kernel
theorem dX5_throwOut_130 : decode cX5_throwOut 130 = .ok (.sipush 348, 3) := by decide +kernel
theorem dX5_throwOut_133 : decode cX5_throwOut 133 = .ok (.iaload, 1) := by decide +kernel
theorem dX5_throwOut_134 : decode cX5_throwOut 134 = .ok (.imul, 1) := by decide +kernel
theorem dX5_throwOut_135 : decode cX5_throwOut 135 = .ok (.iadd, 1) := by decide +kernel
theorem dX5_throwOut_136 : decode cX5_throwOut 136 = .ok (.iconst 1, 1) := by decide +kernel
theorem dX5_throwOut_137 : decode cX5_throwOut 137 = .ok (.iadd, 1) := by decide +kernel
theorem dX5_throwOut_138 : decode cX5_throwOut 138 = .ok (.iload_n 2, 1) := by decide +kernel
theorem dX5_throwOut_139 : decode cX5_throwOut 139 = .ok (.iastore, 1) := by decide +kernel
theorem dX5_throwOut_140 : decode cX5_throwOut 140 = .ok (.aload_n 0, 1) := by decide +kernel
theorem dX5_throwOut_141 : decode cX5_throwOut 141 = .ok (.getfield 7, 3) := by decide +kernel
theorem dX5_throwOut_144 : decode cX5_throwOut 144 = .ok (.sipush 348, 3) := by decide +kernel
theorem dX5_throwOut_147 : decode cX5_throwOut 147 = .ok (.dup2, 1) := by decide +kernel
theorem dX5_throwOut_148 : decode cX5_throwOut 148 = .ok (.iaload, 1) := by decide +kernel
theorem dX5_throwOut_149 : decode cX5_throwOut 149 = .ok (.iconst 1, 1) := by decide +kernel
theorem dX5_throwOut_150 : decode cX5_throwOut 150 = .ok (.iadd, 1) := by decide +kernel
theorem dX5_throwOut_151 : decode cX5_throwOut 151 = .ok (.iastore, 1) := by decide +kernel
theorem dX5_throwOut_152 : decode cX5_throwOut 152 = .ok (.aload_n 0, 1) := by decide +kernel
theorem dX5_throwOut_153 : decode cX5_throwOut 153 = .ok (.getfield 7, 3) := by decide +kernel
theorem dX5_throwOut_156 : decode cX5_throwOut 156 = .ok (.sipush 357, 3) := by decide +kernel
theorem dX5_throwOut_159 : decode cX5_throwOut 159 = .ok (.dup2, 1) := by decide +kernel
theorem dX5_throwOut_160 : decode cX5_throwOut 160 = .ok (.iaload, 1) := by decide +kernel
theorem dX5_throwOut_161 : decode cX5_throwOut 161 = .ok (.iconst 1, 1) := by decide +kernel
theorem dX5_throwOut_162 : decode cX5_throwOut 162 = .ok (.iadd, 1) := by decide +kernel
theorem dX5_throwOut_163 : decode cX5_throwOut 163 = .ok (.iastore, 1) := by decide +kernel
theorem dX5_throwOut_164 : decode cX5_throwOut 164 = .ok (.return_, 1) := by decide +kernel
theorem dX5_fetch_0 : decode cX5_fetch 0 = .ok (.iload_n 1, 1) := by decide +kernel
theorem dX5_fetch_1 : decode cX5_fetch 1 = .ok (.aload_n 0, 1) := by decide +kernel
theorem dX5_fetch_2 : decode cX5_fetch 2 = .ok (.getfield 7, 3) := by decide +kernel
theorem dX5_fetch_5 : decode cX5_fetch 5 = .ok (.sipush 349, 3) := by decide +kernel
theorem dX5_fetch_8 : decode cX5_fetch 8 = .ok (.iaload, 1) := by decide +kernel
theorem dX5_fetch_9 : decode cX5_fetch 9 = .ok (.irem, 1) := by decide +kernel
theorem dX5_fetch_10 : decode cX5_fetch 10 = .ok (.istore_n 3, 1) := by decide +kernel
theorem dX5_fetch_11 : decode cX5_fetch 11 = .ok (.aload_n 0, 1) := by decide +kernel
theorem dX5_fetch_12 : decode cX5_fetch 12 = .ok (.iload_n 1, 1) := by decide +kernel
theorem dX5_fetch_13 : decode cX5_fetch 13 = .ok (.invokevirtual 63, 3) := by decide +kernel
theorem dX5_fetch_16 : decode cX5_fetch 16 = .ok (.aload_n 0, 1) := by decide +kernel
theorem dX5_fetch_17 : decode cX5_fetch 17 = .ok (.getfield 7, 3) := by decide +kernel
theorem dX5_fetch_20 : decode cX5_fetch 20 = .ok (.iconst 0, 1) := by decide +kernel
theorem dX5_fetch_21 : decode cX5_fetch 21 = .ok (.iload_n 3, 1) := by decide +kernel
theorem dX5_fetch_22 : decode cX5_fetch 22 = .ok (.iadd, 1) := by decide +kernel
theorem dX5_fetch_23 : decode cX5_fetch 23 = .ok (.iaload, 1) := by decide +kernel
theorem dX5_fetch_24 : decode cX5_fetch 24 = .ok (.aload_n 0, 1) := by decide +kernel
theorem dX5_fetch_25 : decode cX5_fetch 25 = .ok (.getfield 7, 3) := by decide +kernel
theorem dX5_fetch_28 : decode cX5_fetch 28 = .ok (.sipush 350, 3) := by decide +kernel
theorem dX5_fetch_31 : decode cX5_fetch 31 = .ok (.iaload, 1) := by decide +kernel
theorem dX5_fetch_32 : decode cX5_fetch 32 = .ok (.if_icmp .ne 9, 3) := by decide +kernel
theorem dX5_fetch_35 : decode cX5_fetch 35 = .ok (.aload_n 0, 1) := by decide +kernel
theorem dX5_fetch_36 : decode cX5_fetch 36 = .ok (.iload_n 3, 1) := by decide +kernel
theorem dX5_fetch_37 : decode cX5_fetch 37 = .ok (.iload_n 2, 1) := by decide +kernel
theorem dX5_fetch_38 : decode cX5_fetch 38 = .ok (.invokevirtual 66, 3) := by decide +kernel
theorem dX5_fetch_41 : decode cX5_fetch 41 = .ok (.aload_n 0, 1) := by decide +kernel
theorem dX5_fetch_42 : decode cX5_fetch 42 = .ok (.iload_n 3, 1) := by decide +kernel
theorem dX5_fetch_43 : decode cX5_fetch 43 = .ok (.iload_n 1, 1) := by decide +kernel
theorem dX5_fetch_44 : decode cX5_fetch 44 = .ok (.iload_n 2, 1) := by decide +kernel
theorem dX5_fetch_45 : decode cX5_fetch 45 = .ok (.iload_n 2, 1) := by decide +kernel
theorem dX5_fetch_46 : decode cX5_fetch 46 = .ok (.iconst (-1), 1) := by decide +kernel
theorem dX5_fetch_47 : decode cX5_fetch 47 = .ok (.if_icmp .ne 7, 3) := by decide +kernel
theorem dX5_fetch_50 : decode cX5_fetch 50 = .ok (.iconst 0, 1) := by decide +kernel
theorem dX5_fetch_51 : decode cX5_fetch 51 = .ok (.goto 4, 3) := by decide +kernel
theorem dX5_fetch_54 : decode cX5_fetch 54 = .ok (.iconst 1, 1) := by decide +kernel
theorem dX5_fetch_55 : decode cX5_fetch 55 = .ok (.invokevirtual 69, 3) := by decide +kernel
theorem dX5_fetch_58 : decode cX5_fetch 58 = .ok (.return_, 1) := by decide +kernel
theorem dX5_linesIn_0 : decode cX5_linesIn 0 = .ok (.iconst 0, 1) := by decide +kernel
theorem dX5_linesIn_1 : decode cX5_linesIn 1 = .ok (.istore_n 1, 1) := by decide +kernel
theorem dX5_linesIn_2 : decode cX5_linesIn 2 = .ok (.iconst 0, 1) := by decide +kernel
theorem dX5_linesIn_3 : decode cX5_linesIn 3 = .ok (.istore_n 2, 1) := by decide +kernel
theorem dX5_linesIn_4 : decode cX5_linesIn 4 = .ok (.iload_n 2, 1) := by decide +kernel
theorem dX5_linesIn_5 : decode cX5_linesIn 5 = .ok (.bipush 8, 2) := by decide +kernel
theorem dX5_linesIn_7 : decode cX5_linesIn 7 = .ok (.if_icmp .ge 20, 3) := by decide +kernel
theorem dX5_linesIn_10 : decode cX5_linesIn 10 = .ok (.iload_n 1, 1) := by decide +kernel
theorem dX5_linesIn_11 : decode cX5_linesIn 11 = .ok (.aload_n 0, 1) := by decide +kernel
theorem dX5_linesIn_12 : decode cX5_linesIn 12 = .ok (.getfield 7, 3) := by decide +kernel
theorem dX5_linesIn_15 : decode cX5_linesIn 15 = .ok (.iconst 0, 1) := by decide +kernel
theorem dX5_linesIn_16 : decode cX5_linesIn 16 = .ok (.iload_n 2, 1) := by decide +kernel
theorem dX5_linesIn_17 : decode cX5_linesIn 17 = .ok (.iadd, 1) := by decide +kernel
theorem dX5_linesIn_18 : decode cX5_linesIn 18 = .ok (.iaload, 1) := by decide +kernel
theorem dX5_linesIn_19 : decode cX5_linesIn 19 = .ok (.iadd, 1) := by decide +kernel
theorem dX5_linesIn_20 : decode cX5_linesIn 20 = .ok (.istore_n 1, 1) := by decide +kernel
theorem dX5_linesIn_21 : decode cX5_linesIn 21 = .ok (.iinc 2 1, 3) := by decide +kernel
theorem dX5_linesIn_24 : decode cX5_linesIn 24 = .ok (.goto (-20), 3) := by decide +kernel
theorem dX5_linesIn_27 : decode cX5_linesIn 27 = .ok (.iload_n 1, 1) := by decide +kernel
theorem dX5_linesIn_28 : decode cX5_linesIn 28 = .ok (.ireturn, 1) := by decide +kernel
theorem dX5_empty_0 : decode cX5_empty 0 = .ok (.aload_n 0, 1) := by decide +kernel
theorem dX5_empty_1 : decode cX5_empty 1 = .ok (.invokevirtual 73, 3) := by decide +kernel
theorem dX5_empty_4 : decode cX5_empty 4 = .ok (.istore_n 1, 1) := by decide +kernel
theorem dX5_empty_5 : decode cX5_empty 5 = .ok (.iconst 0, 1) := by decide +kernel
theorem dX5_empty_6 : decode cX5_empty 6 = .ok (.istore_n 2, 1) := by decide +kernel
theorem dX5_empty_7 : decode cX5_empty 7 = .ok (.iload_n 2, 1) := by decide +kernel
theorem dX5_empty_8 : decode cX5_empty 8 = .ok (.aload_n 0, 1) := by decide +kernel
theorem dX5_empty_9 : decode cX5_empty 9 = .ok (.getfield 7, 3) := by decide +kernel
theorem dX5_empty_12 : decode cX5_empty 12 = .ok (.sipush 349, 3) := by decide +kernel
theorem dX5_empty_15 : decode cX5_empty 15 = .ok (.iaload, 1) := by decide +kernel
theorem dX5_empty_16 : decode cX5_empty 16 = .ok (.if_icmp .ge 29, 3) := by decide +kernel
theorem dX5_empty_19 : decode cX5_empty 19 = .ok (.aload_n 0, 1) := by decide +kernel
theorem dX5_empty_20 : decode cX5_empty 20 = .ok (.getfield 7, 3) := by decide +kernel
theorem dX5_empty_23 : decode cX5_empty 23 = .ok (.iconst 0, 1) := by decide +kernel
theorem dX5_empty_24 : decode cX5_empty 24 = .ok (.iload_n 2, 1) := by decide +kernel
theorem dX5_empty_25 : decode cX5_empty 25 = .ok (.iadd, 1) := by decide +kernel
theorem dX5_empty_26 : decode cX5_empty 26 = .ok (.iaload, 1) := by decide +kernel
theorem dX5_empty_27 : decode cX5_empty 27 = .ok (.ifCond .le 12, 3) := by decide +kernel
theorem dX5_empty_30 : decode cX5_empty 30 = .ok (.aload_n 0, 1) := by decide +kernel
theorem dX5_empty_31 : decode cX5_empty 31 = .ok (.iload_n 2, 1) := by decide +kernel
theorem dX5_empty_32 : decode cX5_empty 32 = .ok (.iconst (-1), 1) := by decide +kernel
theorem dX5_empty_33 : decode cX5_empty 33 = .ok (.invokevirtual 66, 3) := by decide +kernel
theorem dX5_empty_36 : decode cX5_empty 36 = .ok (.goto (-17), 3) := by decide +kernel
theorem dX5_empty_39 : decode cX5_empty 39 = .ok (.iinc 2 1, 3) := by decide +kernel
theorem dX5_empty_42 : decode cX5_empty 42 = .ok (.goto (-35), 3) := by decide +kernel
theorem dX5_empty_45 : decode cX5_empty 45 = .ok (.iload_n 1, 1) := by decide +kernel
theorem dX5_empty_46 : decode cX5_empty 46 = .ok (.ireturn, 1) := by decide +kernel
theorem dX5_shape_0 : decode cX5_shape 0 = .ok (.iload_n 1, 1) := by decide +kernel
theorem dX5_shape_1 : decode cX5_shape 1 = .ok (.iconst 1, 1) := by decide +kernel
theorem dX5_shape_2 : decode cX5_shape 2 = .ok (.bipush 8, 2) := by decide +kernel
theorem dX5_shape_4 : decode cX5_shape 4 = .ok (.invokestatic 23, 3) := by decide +kernel
theorem dX5_shape_7 : decode cX5_shape 7 = .ok (.ifCond .eq 12, 3) := by decide +kernel
theorem dX5_shape_10 : decode cX5_shape 10 = .ok (.iload_n 2, 1) := by decide +kernel
theorem dX5_shape_11 : decode cX5_shape 11 = .ok (.iconst 1, 1) := by decide +kernel
theorem dX5_shape_12 : decode cX5_shape 12 = .ok (.iconst 4, 1) := by decide +kernel
theorem dX5_shape_13 : decode cX5_shape 13 = .ok (.invokestatic 23, 3) := by decide +kernel
theorem dX5_shape_16 : decode cX5_shape 16 = .ok (.ifCond .ne 6, 3) := by decide +kernel
theorem dX5_shape_19 : decode cX5_shape 19 = .ok (.ldc 77, 2) := by decide +kernel
theorem dX5_shape_21 : decode cX5_shape 21 = .ok (.ireturn, 1) := by decide +kernel
theorem dX5_shape_22 : decode cX5_shape 22 = .ok (.aload_n 0, 1) := by decide +kernel
theorem dX5_shape_23 : decode cX5_shape 23 = .ok (.getfield 7, 3) := by decide +kernel
theorem dX5_shape_26 : decode cX5_shape 26 = .ok (.sipush 349, 3) := by decide +kernel
theorem dX5_shape_29 : decode cX5_shape 29 = .ok (.iaload, 1) := by decide +kernel
theorem dX5_shape_30 : decode cX5_shape 30 = .ok (.iload_n 1, 1) := by decide +kernel
theorem dX5_shape_31 : decode cX5_shape 31 = .ok (.if_icmp .ne 18, 3) := by decide +kernel
theorem dX5_shape_34 : decode cX5_shape 34 = .ok (.aload_n 0, 1) := by decide +kernel
theorem dX5_shape_35 : decode cX5_shape 35 = .ok (.getfield 7, 3) := by decide +kernel
theorem dX5_shape_38 : decode cX5_shape 38 = .ok (.sipush 350, 3) := by decide +kernel
theorem dX5_shape_41 : decode cX5_shape 41 = .ok (.iaload, 1) := by decide +kernel
theorem dX5_shape_42 : decode cX5_shape 42 = .ok (.iload_n 2, 1) := by decide +kernel
theorem dX5_shape_43 : decode cX5_shape 43 = .ok (.if_icmp .ne 6, 3) := by decide +kernel
theorem dX5_shape_46 : decode cX5_shape 46 = .ok (.ldc 34, 2) := by decide +kernel
theorem dX5_shape_48 : decode cX5_shape 48 = .ok (.ireturn, 1) := by decide +kernel
theorem dX5_shape_49 : decode cX5_shape 49 = .ok (.aload_n 0, 1) := by decide +kernel
theorem dX5_shape_50 : decode cX5_shape 50 = .ok (.invokevirtual 39, 3) := by decide +kernel
theorem dX5_shape_53 : decode cX5_shape 53 = .ok (.aload_n 0, 1) := by decide +kernel
theorem dX5_shape_54 : decode cX5_shape 54 = .ok (.invokevirtual 78, 3) := by decide +kernel
theorem dX5_shape_57 : decode cX5_shape 57 = .ok (.istore_n 3, 1) := by decide +kernel
theorem dX5_shape_58 : decode cX5_shape 58 = .ok (.aload_n 0, 1) := by decide +kernel
theorem dX5_shape_59 : decode cX5_shape 59 = .ok (.getfield 7, 3) := by decide +kernel
theorem dX5_shape_62 : decode cX5_shape 62 = .ok (.sipush 348, 3) := by decide +kernel
theorem dX5_shape_65 : decode cX5_shape 65 = .ok (.iconst 0, 1) := by decide +kernel
theorem dX5_shape_66 : decode cX5_shape 66 = .ok (.iastore, 1) := by decide +kernel
theorem dX5_shape_67 : decode cX5_shape 67 = .ok (.aload_n 0, 1) := by decide +kernel
theorem dX5_shape_68 : decode cX5_shape 68 = .ok (.getfield 7, 3) := by decide +kernel
theorem dX5_shape_71 : decode cX5_shape 71 = .ok (.sipush 349, 3) := by decide +kernel
theorem dX5_shape_74 : decode cX5_shape 74 = .ok (.iload_n 1, 1) := by decide +kernel
theorem dX5_shape_75 : decode cX5_shape 75 = .ok (.iastore, 1) := by decide +kernel
theorem dX5_shape_76 : decode cX5_shape 76 = .ok (.aload_n 0, 1) := by decide +kernel
theorem dX5_shape_77 : decode cX5_shape 77 = .ok (.getfield 7, 3) := by decide +kernel
theorem dX5_shape_80 : decode cX5_shape 80 = .ok (.sipush 350, 3) := by decide +kernel
theorem dX5_shape_83 : decode cX5_shape 83 = .ok (.iload_n 2, 1) := by decide +kernel
theorem dX5_shape_84 : decode cX5_shape 84 = .ok (.iastore, 1) := by decide +kernel
theorem dX5_shape_85 : decode cX5_shape 85 = .ok (.iload_n 3, 1) := by decide +kernel
theorem dX5_shape_86 : decode cX5_shape 86 = .ok (.ireturn, 1) := by decide +kernel
theorem dX5_flush_0 : decode cX5_flush 0 = .ok (.aload_n 0, 1) := by decide +kernel
theorem dX5_flush_1 : decode cX5_flush 1 = .ok (.invokevirtual 73, 3) := by decide +kernel
theorem dX5_flush_4 : decode cX5_flush 4 = .ok (.ifCond .ne 6, 3) := by decide +kernel
theorem dX5_flush_7 : decode cX5_flush 7 = .ok (.ldc 34, 2) := by decide +kernel
theorem dX5_flush_9 : decode cX5_flush 9 = .ok (.ireturn, 1) := by decide +kernel
theorem dX5_flush_10 : decode cX5_flush 10 = .ok (.aload_n 0, 1) := by decide +kernel
theorem dX5_flush_11 : decode cX5_flush 11 = .ok (.invokevirtual 39, 3) := by decide +kernel
theorem dX5_flush_14 : decode cX5_flush 14 = .ok (.aload_n 0, 1) := by decide +kernel
theorem dX5_flush_15 : decode cX5_flush 15 = .ok (.invokevirtual 78, 3) := by decide +kernel
theorem dX5_flush_18 : decode cX5_flush 18 = .ok (.ireturn, 1) := by decide +kernel
theorem dX5_addHelper_0 : decode cX5_addHelper 0 = .ok (.iload_n 1, 1) := by decide +kernel
theorem dX5_addHelper_1 : decode cX5_addHelper 1 = .ok (.iconst 0, 1) := by decide +kernel
theorem dX5_addHelper_2 : decode cX5_addHelper 2 = .ok (.iconst 2, 1) := by decide +kernel
theorem dX5_addHelper_3 : decode cX5_addHelper 3 = .ok (.invokestatic 23, 3) := by decide +kernel
theorem dX5_addHelper_6 : decode cX5_addHelper 6 = .ok (.ifCond .eq 22, 3) := by decide +kernel
theorem dX5_addHelper_9 : decode cX5_addHelper 9 = .ok (.iload_n 2, 1) := by decide +kernel
theorem dX5_addHelper_10 : decode cX5_addHelper 10 = .ok (.iconst 1, 1) := by decide +kernel
theorem dX5_addHelper_11 : decode cX5_addHelper 11 = .ok (.iconst 4, 1) := by decide +kernel
theorem dX5_addHelper_12 : decode cX5_addHelper 12 = .ok (.invokestatic 23, 3) := by decide +kernel
theorem dX5_addHelper_15 : decode cX5_addHelper 15 = .ok (.ifCond .eq 13, 3) := by decide +kernel
theorem dX5_addHelper_18 : decode cX5_addHelper 18 = .ok (.iload_n 3, 1) := by decide +kernel
theorem dX5_addHelper_19 : decode cX5_addHelper 19 = .ok (.iconst 1, 1) := by decide +kernel
theorem dX5_addHelper_20 : decode cX5_addHelper 20 = .ok (.bipush 9, 2) := by decide +kernel
theorem dX5_addHelper_22 : decode cX5_addHelper 22 = .ok (.invokestatic 23, 3) := by decide +kernel
theorem dX5_addHelper_25 : decode cX5_addHelper 25 = .ok (.ifCond .ne 6, 3) := by decide +kernel
theorem dX5_addHelper_28 : decode cX5_addHelper 28 = .ok (.ldc 77, 2) := by decide +kernel
theorem dX5_addHelper_30 : decode cX5_addHelper 30 = .ok (.ireturn, 1) := by decide +kernel
theorem dX5_addHelper_31 : decode cX5_addHelper 31 = .ok (.aload_n 0, 1) := by decide +kernel
theorem dX5_addHelper_32 : decode cX5_addHelper 32 = .ok (.getfield 7, 3) := by decide +kernel
theorem dX5_addHelper_35 : decode cX5_addHelper 35 = .ok (.sipush 351, 3) := by decide +kernel
theorem dX5_addHelper_38 : decode cX5_addHelper 38 = .ok (.iaload, 1) := by decide +kernel
theorem dX5_addHelper_39 : decode cX5_addHelper 39 = .ok (.bipush 6, 2) := by decide +kernel
theorem dX5_addHelper_41 : decode cX5_addHelper 41 = .ok (.if_icmp .ne 6, 3) := by decide +kernel
theorem dX5_addHelper_44 : decode cX5_addHelper 44 = .ok (.ldc 81, 2) := by decide +kernel
theorem dX5_addHelper_46 : decode cX5_addHelper 46 = .ok (.ireturn, 1) := by decide +kernel
theorem dX5_addHelper_47 : decode cX5_addHelper 47 = .ok (.aload_n 0, 1) := by decide +kernel
theorem dX5_addHelper_48 : decode cX5_addHelper 48 = .ok (.invokevirtual 39, 3) := by decide +kernel
theorem dX5_addHelper_51 : decode cX5_addHelper 51 = .ok (.aload_n 0, 1) := by decide +kernel
theorem dX5_addHelper_52 : decode cX5_addHelper 52 = .ok (.getfield 7, 3) := by decide +kernel
theorem dX5_addHelper_55 : decode cX5_addHelper 55 = .ok (.sipush 351, 3) := by decide +kernel
theorem dX5_addHelper_58 : decode cX5_addHelper 58 = .ok (.iaload, 1) := by decide +kernel
theorem dX5_addHelper_59 : decode cX5_addHelper 59 = .ok (.istore 4, 2) := by decide +kernel
theorem dX5_addHelper_61 : decode cX5_addHelper 61 = .ok (.iconst 0, 1) := by decide +kernel
theorem dX5_addHelper_62 : decode cX5_addHelper 62 = .ok (.istore 5, 2) := by decide +kernel
theorem dX5_addHelper_64 : decode cX5_addHelper 64 = .ok (.iload 5, 2) := by decide +kernel
theorem dX5_addHelper_66 : decode cX5_addHelper 66 = .ok (.bipush 14, 2) := by decide +kernel
theorem dX5_addHelper_68 : decode cX5_addHelper 68 = .ok (.if_icmp .ge 22, 3) := by decide +kernel
theorem dX5_addHelper_71 : decode cX5_addHelper 71 = .ok (.aload_n 0, 1) := by decide +kernel
theorem dX5_addHelper_72 : decode cX5_addHelper 72 = .ok (.getfield 7, 3) := by decide +kernel
theorem dX5_addHelper_75 : decode cX5_addHelper 75 = .ok (.iload 4, 2) := by decide +kernel
theorem dX5_addHelper_77 : decode cX5_addHelper 77 = .ok (.iload 5, 2) := by decide +kernel
theorem dX5_addHelper_79 : decode cX5_addHelper 79 = .ok (.invokestatic 54, 3) := by decide +kernel
theorem dX5_addHelper_82 : decode cX5_addHelper 82 = .ok (.iconst 0, 1) := by decide +kernel
theorem dX5_addHelper_83 : decode cX5_addHelper 83 = .ok (.iastore, 1) := by decide +kernel
theorem dX5_addHelper_84 : decode cX5_addHelper 84 = .ok (.iinc 5 1, 3) := by decide +kernel
theorem dX5_addHelper_87 : decode cX5_addHelper 87 = .ok (.goto (-23), 3) := by decide +kernel
theorem dX5_addHelper_90 : decode cX5_addHelper 90 = .ok (.aload_n 0, 1) := by decide +kernel
theorem dX5_addHelper_91 : decode cX5_addHelper 91 = .ok (.getfield 7, 3) := by decide +kernel
theorem dX5_addHelper_94 : decode cX5_addHelper 94 = .ok (.iload 4, 2) := by decide +kernel
theorem dX5_addHelper_96 : decode cX5_addHelper 96 = .ok (.iconst 0, 1) := by decide +kernel
theorem dX5_addHelper_97 : decode cX5_addHelper 97 = .ok (.invokestatic 54, 3) := by decide +kernel
theorem dX5_addHelper_100 : decode cX5_addHelper 100 = .ok (.iload_n 1, 1) := by decide +kernel
theorem dX5_addHelper_101 : decode cX5_addHelper 101 = .ok (.iastore, 1) := by decide +kernel
theorem dX5_addHelper_102 : decode cX5_addHelper 102 = .ok (.aload_n 0, 1) := by decide +kernel
theorem dX5_addHelper_103 : decode cX5_addHelper 103 = .ok (.getfield 7, 3) := by decide +kernel
theorem dX5_addHelper_106 : decode cX5_addHelper 106 = .ok (.iload 4, 2) := by decide +kernel
theorem dX5_addHelper_108 : decode cX5_addHelper 108 = .ok (.iconst 1, 1) := by decide +kernel
theorem dX5_addHelper_109 : decode cX5_addHelper 109 = .ok (.invokestatic 54, 3) := by decide +kernel
theorem dX5_addHelper_112 : decode cX5_addHelper 112 = .ok (.iload_n 2, 1) := by decide +kernel
theorem dX5_addHelper_113 : decode cX5_addHelper 113 = .ok (.iastore, 1) := by decide +kernel
theorem dX5_addHelper_114 : decode cX5_addHelper 114 = .ok (.aload_n 0, 1) := by decide +kernel
theorem dX5_addHelper_115 : decode cX5_addHelper 115 = .ok (.getfield 7, 3) := by decide +kernel
theorem dX5_addHelper_118 : decode cX5_addHelper 118 = .ok (.iload 4, 2) := by decide +kernel
theorem dX5_addHelper_120 : decode cX5_addHelper 120 = .ok (.iconst 2, 1) := by decide +kernel
theorem dX5_addHelper_121 : decode cX5_addHelper 121 = .ok (.invokestatic 54, 3) := by decide +kernel
theorem dX5_addHelper_124 : decode cX5_addHelper 124 = .ok (.iload_n 3, 1) := by decide +kernel
theorem dX5_addHelper_125 : decode cX5_addHelper 125 = .ok (.iastore, 1) := by decide +kernel
theorem dX5_addHelper_126 : decode cX5_addHelper 126 = .ok (.aload_n 0, 1) := by decide +kernel
theorem dX5_addHelper_127 : decode cX5_addHelper 127 = .ok (.getfield 7, 3) := by decide +kernel
theorem dX5_addHelper_130 : decode cX5_addHelper 130 = .ok (.sipush 351, 3) := by decide +kernel
theorem dX5_addHelper_133 : decode cX5_addHelper 133 = .ok (.dup2, 1) := by decide +kernel
theorem dX5_addHelper_134 : decode cX5_addHelper 134 = .ok (.iaload, 1) := by decide +kernel
theorem dX5_addHelper_135 : decode cX5_addHelper 135 = .ok (.iconst 1, 1) := by decide +kernel
theorem dX5_addHelper_136 : decode cX5_addHelper 136 = .ok (.iadd, 1) := by decide +kernel
theorem dX5_addHelper_137 : decode cX5_addHelper 137 = .ok (.iastore, 1) := by decide +kernel
theorem dX5_addHelper_138 : decode cX5_addHelper 138 = .ok (.iload 4, 2) := by decide +kernel
theorem dX5_addHelper_140 : decode cX5_addHelper 140 = .ok (.ireturn, 1) := by decide +kernel
theorem dX5_setDegree_0 : decode cX5_setDegree 0 = .ok (.aload_n 0, 1) := by decide +kernel
theorem dX5_setDegree_1 : decode cX5_setDegree 1 = .ok (.iload_n 1, 1) := by decide +kernel
theorem dX5_setDegree_2 : decode cX5_setDegree 2 = .ok (.invokevirtual 82, 3) := by decide +kernel
theorem dX5_setDegree_5 : decode cX5_setDegree 5 = .ok (.ifCond .ne 6, 3) := by decide +kernel
theorem dX5_setDegree_8 : decode cX5_setDegree 8 = .ok (.ldc 86, 2) := by decide +kernel
theorem dX5_setDegree_10 : decode cX5_setDegree 10 = .ok (.ireturn, 1) := by decide +kernel
theorem dX5_setDegree_11 : decode cX5_setDegree 11 = .ok (.iload_n 2, 1) := by decide +kernel
theorem dX5_setDegree_12 : decode cX5_setDegree 12 = .ok (.iconst 1, 1) := by decide +kernel
theorem dX5_setDegree_13 : decode cX5_setDegree 13 = .ok (.iconst 4, 1) := by decide +kernel
theorem dX5_setDegree_14 : decode cX5_setDegree 14 = .ok (.invokestatic 23, 3) := by decide +kernel
theorem dX5_setDegree_17 : decode cX5_setDegree 17 = .ok (.ifCond .ne 6, 3) := by decide +kernel
theorem dX5_setDegree_20 : decode cX5_setDegree 20 = .ok (.ldc 77, 2) := by decide +kernel
theorem dX5_setDegree_22 : decode cX5_setDegree 22 = .ok (.ireturn, 1) := by decide +kernel
theorem dX5_setDegree_23 : decode cX5_setDegree 23 = .ok (.aload_n 0, 1) := by decide +kernel
theorem dX5_setDegree_24 : decode cX5_setDegree 24 = .ok (.getfield 7, 3) := by decide +kernel
theorem dX5_setDegree_27 : decode cX5_setDegree 27 = .ok (.iload_n 1, 1) := by decide +kernel
theorem dX5_setDegree_28 : decode cX5_setDegree 28 = .ok (.iconst 1, 1) := by decide +kernel
theorem dX5_setDegree_29 : decode cX5_setDegree 29 = .ok (.invokestatic 54, 3) := by decide +kernel
theorem dX5_setDegree_32 : decode cX5_setDegree 32 = .ok (.iaload, 1) := by decide +kernel
theorem dX5_setDegree_33 : decode cX5_setDegree 33 = .ok (.istore_n 3, 1) := by decide +kernel
theorem dX5_setDegree_34 : decode cX5_setDegree 34 = .ok (.iload_n 3, 1) := by decide +kernel
theorem dX5_setDegree_35 : decode cX5_setDegree 35 = .ok (.iload_n 2, 1) := by decide +kernel
theorem dX5_setDegree_36 : decode cX5_setDegree 36 = .ok (.if_icmp .ne 6, 3) := by decide +kernel
theorem dX5_setDegree_39 : decode cX5_setDegree 39 = .ok (.ldc 34, 2) := by decide +kernel
theorem dX5_setDegree_41 : decode cX5_setDegree 41 = .ok (.ireturn, 1) := by decide +kernel
theorem dX5_setDegree_42 : decode cX5_setDegree 42 = .ok (.aload_n 0, 1) := by decide +kernel
theorem dX5_setDegree_43 : decode cX5_setDegree 43 = .ok (.invokevirtual 39, 3) := by decide +kernel
theorem dX5_setDegree_46 : decode cX5_setDegree 46 = .ok (.aload_n 0, 1) := by decide +kernel
theorem dX5_setDegree_47 : decode cX5_setDegree 47 = .ok (.getfield 7, 3) := by decide +kernel
theorem dX5_setDegree_50 : decode cX5_setDegree 50 = .ok (.iload_n 1, 1) := by decide +kernel
theorem dX5_setDegree_51 : decode cX5_setDegree 51 = .ok (.iconst 1, 1) := by decide +kernel
theorem dX5_setDegree_52 : decode cX5_setDegree 52 = .ok (.invokestatic 54, 3) := by decide +kernel
theorem dX5_setDegree_55 : decode cX5_setDegree 55 = .ok (.iload_n 2, 1) := by decide +kernel
theorem dX5_setDegree_56 : decode cX5_setDegree 56 = .ok (.iastore, 1) := by decide +kernel
theorem dX5_setDegree_57 : decode cX5_setDegree 57 = .ok (.iload_n 3, 1) := by decide +kernel
theorem dX5_setDegree_58 : decode cX5_setDegree 58 = .ok (.ireturn, 1) := by decide +kernel
theorem dX5_setTrial_0 : decode cX5_setTrial 0 = .ok (.iload_n 1, 1) := by decide +kernel
theorem dX5_setTrial_1 : decode cX5_setTrial 1 = .ok (.iconst 1, 1) := by decide +kernel
theorem dX5_setTrial_2 : decode cX5_setTrial 2 = .ok (.bipush 9, 2) := by decide +kernel
theorem dX5_setTrial_4 : decode cX5_setTrial 4 = .ok (.invokestatic 23, 3) := by decide +kernel
theorem dX5_setTrial_7 : decode cX5_setTrial 7 = .ok (.ifCond .ne 6, 3) := by decide +kernel
theorem dX5_setTrial_10 : decode cX5_setTrial 10 = .ok (.ldc 77, 2) := by decide +kernel
theorem dX5_setTrial_12 : decode cX5_setTrial 12 = .ok (.ireturn, 1) := by decide +kernel
theorem dX5_setTrial_13 : decode cX5_setTrial 13 = .ok (.aload_n 0, 1) := by decide +kernel
theorem dX5_setTrial_14 : decode cX5_setTrial 14 = .ok (.getfield 7, 3) := by decide +kernel
theorem dX5_setTrial_17 : decode cX5_setTrial 17 = .ok (.sipush 352, 3) := by decide +kernel
theorem dX5_setTrial_20 : decode cX5_setTrial 20 = .ok (.iaload, 1) := by decide +kernel
theorem dX5_setTrial_21 : decode cX5_setTrial 21 = .ok (.istore_n 2, 1) := by decide +kernel
theorem dX5_setTrial_22 : decode cX5_setTrial 22 = .ok (.iload_n 2, 1) := by decide +kernel
theorem dX5_setTrial_23 : decode cX5_setTrial 23 = .ok (.iload_n 1, 1) := by decide +kernel
theorem dX5_setTrial_24 : decode cX5_setTrial 24 = .ok (.if_icmp .ne 6, 3) := by decide +kernel
theorem dX5_setTrial_27 : decode cX5_setTrial 27 = .ok (.ldc 34, 2) := by decide +kernel
theorem dX5_setTrial_29 : decode cX5_setTrial 29 = .ok (.ireturn, 1) := by decide +kernel
theorem dX5_setTrial_30 : decode cX5_setTrial 30 = .ok (.aload_n 0, 1) := by decide +kernel
theorem dX5_setTrial_31 : decode cX5_setTrial 31 = .ok (.invokevirtual 39, 3) := by decide +kernel
theorem dX5_setTrial_34 : decode cX5_setTrial 34 = .ok (.aload_n 0, 1) := by decide +kernel
theorem dX5_setTrial_35 : decode cX5_setTrial 35 = .ok (.getfield 7, 3) := by decide +kernel
theorem dX5_setTrial_38 : decode cX5_setTrial 38 = .ok (.sipush 352, 3) := by decide +kernel
theorem dX5_setTrial_41 : decode cX5_setTrial 41 = .ok (.iload_n 1, 1) := by decide +kernel
theorem dX5_setTrial_42 : decode cX5_setTrial 42 = .ok (.iastore, 1) := by decide +kernel
theorem dX5_setTrial_43 : decode cX5_setTrial 43 = .ok (.iload_n 2, 1) := by decide +kernel
theorem dX5_setTrial_44 : decode cX5_setTrial 44 = .ok (.ireturn, 1) := by decide +kernel
theorem dX5_pardon_0 : decode cX5_pardon 0 = .ok (.aload_n 0, 1) := by decide +kernel
theorem dX5_pardon_1 : decode cX5_pardon 1 = .ok (.iload_n 1, 1) := by decide +kernel
theorem dX5_pardon_2 : decode cX5_pardon 2 = .ok (.invokevirtual 82, 3) := by decide +kernel
theorem dX5_pardon_5 : decode cX5_pardon 5 = .ok (.ifCond .ne 6, 3) := by decide +kernel
theorem dX5_pardon_8 : decode cX5_pardon 8 = .ok (.ldc 86, 2) := by decide +kernel
theorem dX5_pardon_10 : decode cX5_pardon 10 = .ok (.ireturn, 1) := by decide +kernel
theorem dX5_pardon_11 : decode cX5_pardon 11 = .ok (.aload_n 0, 1) := by decide +kernel
theorem dX5_pardon_12 : decode cX5_pardon 12 = .ok (.getfield 7, 3) := by decide +kernel
theorem dX5_pardon_15 : decode cX5_pardon 15 = .ok (.iload_n 1, 1) := by decide +kernel
theorem dX5_pardon_16 : decode cX5_pardon 16 = .ok (.iconst 3, 1) := by decide +kernel
theorem dX5_pardon_17 : decode cX5_pardon 17 = .ok (.invokestatic 54, 3) := by decide +kernel
theorem dX5_pardon_20 : decode cX5_pardon 20 = .ok (.iaload, 1) := by decide +kernel
theorem dX5_pardon_21 : decode cX5_pardon 21 = .ok (.ifCond .ne 6, 3) := by decide +kernel
theorem dX5_pardon_24 : decode cX5_pardon 24 = .ok (.ldc 34, 2) := by decide +kernel
theorem dX5_pardon_26 : decode cX5_pardon 26 = .ok (.ireturn, 1) := by decide +kernel
theorem dX5_pardon_27 : decode cX5_pardon 27 = .ok (.aload_n 0, 1) := by decide +kernel
theorem dX5_pardon_28 : decode cX5_pardon 28 = .ok (.invokevirtual 39, 3) := by decide +kernel
theorem dX5_pardon_31 : decode cX5_pardon 31 = .ok (.aload_n 0, 1) := by decide +kernel
theorem dX5_pardon_32 : decode cX5_pardon 32 = .ok (.getfield 7, 3) := by decide +kernel
theorem dX5_pardon_35 : decode cX5_pardon 35 = .ok (.iload_n 1, 1) := by decide +kernel
theorem dX5_pardon_36 : decode cX5_pardon 36 = .ok (.iconst 4, 1) := by decide +kernel
theorem dX5_pardon_37 : decode cX5_pardon 37 = .ok (.invokestatic 54, 3) := by decide +kernel
theorem dX5_pardon_40 : decode cX5_pardon 40 = .ok (.iaload, 1) := by decide +kernel
theorem dX5_pardon_41 : decode cX5_pardon 41 = .ok (.istore_n 2, 1) := by decide +kernel
theorem dX5_pardon_42 : decode cX5_pardon 42 = .ok (.aload_n 0, 1) := by decide +kernel
theorem dX5_pardon_43 : decode cX5_pardon 43 = .ok (.getfield 7, 3) := by decide +kernel
theorem dX5_pardon_46 : decode cX5_pardon 46 = .ok (.iload_n 1, 1) := by decide +kernel
theorem dX5_pardon_47 : decode cX5_pardon 47 = .ok (.bipush 11, 2) := by decide +kernel
theorem dX5_pardon_49 : decode cX5_pardon 49 = .ok (.invokestatic 54, 3) := by decide +kernel
theorem dX5_pardon_52 : decode cX5_pardon 52 = .ok (.dup2, 1) := by decide +kernel
theorem dX5_pardon_53 : decode cX5_pardon 53 = .ok (.iaload, 1) := by decide +kernel
theorem dX5_pardon_54 : decode cX5_pardon 54 = .ok (.iload_n 2, 1) := by decide +kernel
theorem dX5_pardon_55 : decode cX5_pardon 55 = .ok (.iadd, 1) := by decide +kernel
theorem dX5_pardon_56 : decode cX5_pardon 56 = .ok (.iastore, 1) := by decide +kernel
theorem dX5_pardon_57 : decode cX5_pardon 57 = .ok (.aload_n 0, 1) := by decide +kernel
theorem dX5_pardon_58 : decode cX5_pardon 58 = .ok (.getfield 7, 3) := by decide +kernel
theorem dX5_pardon_61 : decode cX5_pardon 61 = .ok (.iload_n 1, 1) := by decide +kernel
theorem dX5_pardon_62 : decode cX5_pardon 62 = .ok (.iconst 4, 1) := by decide +kernel
theorem dX5_pardon_63 : decode cX5_pardon 63 = .ok (.invokestatic 54, 3) := by decide +kernel
theorem dX5_pardon_66 : decode cX5_pardon 66 = .ok (.iconst 0, 1) := by decide +kernel
theorem dX5_pardon_67 : decode cX5_pardon 67 = .ok (.iastore, 1) := by decide +kernel
theorem dX5_pardon_68 : decode cX5_pardon 68 = .ok (.aload_n 0, 1) := by decide +kernel
theorem dX5_pardon_69 : decode cX5_pardon 69 = .ok (.getfield 7, 3) := by decide +kernel
theorem dX5_pardon_72 : decode cX5_pardon 72 = .ok (.iload_n 1, 1) := by decide +kernel
theorem dX5_pardon_73 : decode cX5_pardon 73 = .ok (.iconst 5, 1) := by decide +kernel
theorem dX5_pardon_74 : decode cX5_pardon 74 = .ok (.invokestatic 54, 3) := by decide +kernel
theorem dX5_pardon_77 : decode cX5_pardon 77 = .ok (.iconst 0, 1) := by decide +kernel
theorem dX5_pardon_78 : decode cX5_pardon 78 = .ok (.iastore, 1) := by decide +kernel
theorem dX5_pardon_79 : decode cX5_pardon 79 = .ok (.aload_n 0, 1) := by decide +kernel
theorem dX5_pardon_80 : decode cX5_pardon 80 = .ok (.getfield 7, 3) := by decide +kernel
theorem dX5_pardon_83 : decode cX5_pardon 83 = .ok (.iload_n 1, 1) := by decide +kernel
theorem dX5_pardon_84 : decode cX5_pardon 84 = .ok (.iconst 3, 1) := by decide +kernel
theorem dX5_pardon_85 : decode cX5_pardon 85 = .ok (.invokestatic 54, 3) := by decide +kernel
theorem dX5_pardon_88 : decode cX5_pardon 88 = .ok (.iconst 0, 1) := by decide +kernel
theorem dX5_pardon_89 : decode cX5_pardon 89 = .ok (.iastore, 1) := by decide +kernel
theorem dX5_pardon_90 : decode cX5_pardon 90 = .ok (.iload_n 2, 1) := by decide +kernel
theorem dX5_pardon_91 : decode cX5_pardon 91 = .ok (.ireturn, 1) := by decide +kernel
theorem dX5_forget_0 : decode cX5_forget 0 = .ok (.aload_n 0, 1) := by decide +kernel
theorem dX5_forget_1 : decode cX5_forget 1 = .ok (.iload_n 1, 1) := by decide +kernel
theorem dX5_forget_2 : decode cX5_forget 2 = .ok (.invokevirtual 82, 3) := by decide +kernel
theorem dX5_forget_5 : decode cX5_forget 5 = .ok (.ifCond .ne 6, 3) := by decide +kernel
theorem dX5_forget_8 : decode cX5_forget 8 = .ok (.ldc 86, 2) := by decide +kernel
theorem dX5_forget_10 : decode cX5_forget 10 = .ok (.ireturn, 1) := by decide +kernel
theorem dX5_forget_11 : decode cX5_forget 11 = .ok (.aload_n 0, 1) := by decide +kernel
theorem dX5_forget_12 : decode cX5_forget 12 = .ok (.getfield 7, 3) := by decide +kernel
theorem dX5_forget_15 : decode cX5_forget 15 = .ok (.iload_n 1, 1) := by decide +kernel
theorem dX5_forget_16 : decode cX5_forget 16 = .ok (.iconst 0, 1) := by decide +kernel
theorem dX5_forget_17 : decode cX5_forget 17 = .ok (.invokestatic 54, 3) := by decide +kernel
theorem dX5_forget_20 : decode cX5_forget 20 = .ok (.iaload, 1) := by decide +kernel
theorem dX5_forget_21 : decode cX5_forget 21 = .ok (.iconst 2, 1) := by decide +kernel
theorem dX5_forget_22 : decode cX5_forget 22 = .ok (.if_icmp .ne 6, 3) := by decide +kernel
theorem dX5_forget_25 : decode cX5_forget 25 = .ok (.ldc 87, 2) := by decide +kernel
theorem dX5_forget_27 : decode cX5_forget 27 = .ok (.ireturn, 1) := by decide +kernel
theorem dX5_forget_28 : decode cX5_forget 28 = .ok (.aload_n 0, 1) := by decide +kernel
theorem dX5_forget_29 : decode cX5_forget 29 = .ok (.getfield 7, 3) := by decide +kernel
theorem dX5_forget_32 : decode cX5_forget 32 = .ok (.iload_n 1, 1) := by decide +kernel
theorem dX5_forget_33 : decode cX5_forget 33 = .ok (.bipush 13, 2) := by decide +kernel
theorem dX5_forget_35 : decode cX5_forget 35 = .ok (.invokestatic 54, 3) := by decide +kernel
theorem dX5_forget_38 : decode cX5_forget 38 = .ok (.iaload, 1) := by decide +kernel
theorem dX5_forget_39 : decode cX5_forget 39 = .ok (.istore_n 2, 1) := by decide +kernel
theorem dX5_forget_40 : decode cX5_forget 40 = .ok (.iload_n 2, 1) := by decide +kernel
theorem dX5_forget_41 : decode cX5_forget 41 = .ok (.ifCond .ne 6, 3) := by decide +kernel
theorem dX5_forget_44 : decode cX5_forget 44 = .ok (.ldc 34, 2) := by decide +kernel
theorem dX5_forget_46 : decode cX5_forget 46 = .ok (.ireturn, 1) := by decide +kernel
theorem dX5_forget_47 : decode cX5_forget 47 = .ok (.aload_n 0, 1) := by decide +kernel
theorem dX5_forget_48 : decode cX5_forget 48 = .ok (.invokevirtual 39, 3) := by decide +kernel
theorem dX5_forget_51 : decode cX5_forget 51 = .ok (.aload_n 0, 1) := by decide +kernel
theorem dX5_forget_52 : decode cX5_forget 52 = .ok (.getfield 7, 3) := by decide +kernel
theorem dX5_forget_55 : decode cX5_forget 55 = .ok (.iload_n 1, 1) := by decide +kernel
theorem dX5_forget_56 : decode cX5_forget 56 = .ok (.bipush 13, 2) := by decide +kernel
theorem dX5_forget_58 : decode cX5_forget 58 = .ok (.invokestatic 54, 3) := by decide +kernel
theorem dX5_forget_61 : decode cX5_forget 61 = .ok (.iconst 0, 1) := by decide +kernel
theorem dX5_forget_62 : decode cX5_forget 62 = .ok (.iastore, 1) := by decide +kernel
theorem dX5_forget_63 : decode cX5_forget 63 = .ok (.iload_n 2, 1) := by decide +kernel
theorem dX5_forget_64 : decode cX5_forget 64 = .ok (.ireturn, 1) := by decide +kernel
theorem dX5_reachOf_0 : decode cX5_reachOf 0 = .ok (.aload_n 0, 1) := by decide +kernel
theorem dX5_reachOf_1 : decode cX5_reachOf 1 = .ok (.getfield 7, 3) := by decide +kernel
theorem dX5_reachOf_4 : decode cX5_reachOf 4 = .ok (.iload_n 1, 1) := by decide +kernel
theorem dX5_reachOf_5 : decode cX5_reachOf 5 = .ok (.iconst 3, 1) := by decide +kernel
theorem dX5_reachOf_6 : decode cX5_reachOf 6 = .ok (.invokestatic 54, 3) := by decide +kernel
theorem dX5_reachOf_9 : decode cX5_reachOf 9 = .ok (.iaload, 1) := by decide +kernel
theorem dX5_reachOf_10 : decode cX5_reachOf 10 = .ok (.istore_n 2, 1) := by decide +kernel
theorem dX5_reachOf_11 : decode cX5_reachOf 11 = .ok (.iload_n 2, 1) := by decide +kernel
theorem dX5_reachOf_12 : decode cX5_reachOf 12 = .ok (.ifCond .ne 16, 3) := by decide +kernel
theorem dX5_reachOf_15 : decode cX5_reachOf 15 = .ok (.aload_n 0, 1) := by decide +kernel
theorem dX5_reachOf_16 : decode cX5_reachOf 16 = .ok (.getfield 7, 3) := by decide +kernel
theorem dX5_reachOf_19 : decode cX5_reachOf 19 = .ok (.iload_n 1, 1) := by decide +kernel
theorem dX5_reachOf_20 : decode cX5_reachOf 20 = .ok (.iconst 1, 1) := by decide +kernel
theorem dX5_reachOf_21 : decode cX5_reachOf 21 = .ok (.invokestatic 54, 3) := by decide +kernel
theorem dX5_reachOf_24 : decode cX5_reachOf 24 = .ok (.iaload, 1) := by decide +kernel
theorem dX5_reachOf_25 : decode cX5_reachOf 25 = .ok (.goto 13, 3) := by decide +kernel
theorem dX5_reachOf_28 : decode cX5_reachOf 28 = .ok (.iload_n 2, 1) := by decide +kernel
theorem dX5_reachOf_29 : decode cX5_reachOf 29 = .ok (.iconst 1, 1) := by decide +kernel
theorem dX5_reachOf_30 : decode cX5_reachOf 30 = .ok (.if_icmp .ne 7, 3) := by decide +kernel
theorem dX5_reachOf_33 : decode cX5_reachOf 33 = .ok (.iconst 1, 1) := by decide +kernel
theorem dX5_reachOf_34 : decode cX5_reachOf 34 = .ok (.goto 4, 3) := by decide +kernel
theorem dX5_reachOf_37 : decode cX5_reachOf 37 = .ok (.iconst 0, 1) := by decide +kernel
theorem dX5_reachOf_38 : decode cX5_reachOf 38 = .ok (.ireturn, 1) := by decide +kernel
theorem dX5_rowOf_0 : decode cX5_rowOf 0 = .ok (.sipush 204, 3) := by decide +kernel
theorem dX5_rowOf_3 : decode cX5_rowOf 3 = .ok (.bipush 16, 2) := by decide +kernel
theorem dX5_rowOf_5 : decode cX5_rowOf 5 = .ok (.iload_n 0, 1) := by decide +kernel
theorem dX5_rowOf_6 : decode cX5_rowOf 6 = .ok (.imul, 1) := by decide +kernel
theorem dX5_rowOf_7 : decode cX5_rowOf 7 = .ok (.iadd, 1) := by decide +kernel
theorem dX5_rowOf_8 : decode cX5_rowOf 8 = .ok (.iconst 4, 1) := by decide +kernel
theorem dX5_rowOf_9 : decode cX5_rowOf 9 = .ok (.iload_n 1, 1) := by decide +kernel
theorem dX5_rowOf_10 : decode cX5_rowOf 10 = .ok (.imul, 1) := by decide +kernel
theorem dX5_rowOf_11 : decode cX5_rowOf 11 = .ok (.iadd, 1) := by decide +kernel
theorem dX5_rowOf_12 : decode cX5_rowOf 12 = .ok (.ireturn, 1) := by decide +kernel
theorem dX5_dropRow_0 : decode cX5_dropRow 0 = .ok (.aload_n 0, 1) := by decide +kernel
theorem dX5_dropRow_1 : decode cX5_dropRow 1 = .ok (.getfield 7, 3) := by decide +kernel
theorem dX5_dropRow_4 : decode cX5_dropRow 4 = .ok (.iload_n 1, 1) := by decide +kernel
theorem dX5_dropRow_5 : decode cX5_dropRow 5 = .ok (.bipush 13, 2) := by decide +kernel
theorem dX5_dropRow_7 : decode cX5_dropRow 7 = .ok (.invokestatic 54, 3) := by decide +kernel
theorem dX5_dropRow_10 : decode cX5_dropRow 10 = .ok (.dup2, 1) := by decide +kernel
theorem dX5_dropRow_11 : decode cX5_dropRow 11 = .ok (.iaload, 1) := by decide +kernel
theorem dX5_dropRow_12 : decode cX5_dropRow 12 = .ok (.iconst 1, 1) := by decide +kernel
theorem dX5_dropRow_13 : decode cX5_dropRow 13 = .ok (.isub, 1) := by decide +kernel
theorem dX5_dropRow_14 : decode cX5_dropRow 14 = .ok (.iastore, 1) := by decide +kernel
theorem dX5_dropRow_15 : decode cX5_dropRow 15 = .ok (.iload_n 1, 1) := by decide +kernel
theorem dX5_dropRow_16 : decode cX5_dropRow 16 = .ok (.iload_n 2, 1) := by decide +kernel
theorem dX5_dropRow_17 : decode cX5_dropRow 17 = .ok (.invokestatic 88, 3) := by decide +kernel
theorem dX5_dropRow_20 : decode cX5_dropRow 20 = .ok (.istore_n 3, 1) := by decide +kernel
theorem dX5_dropRow_21 : decode cX5_dropRow 21 = .ok (.iload_n 3, 1) := by decide +kernel
theorem dX5_dropRow_22 : decode cX5_dropRow 22 = .ok (.iload_n 1, 1) := by decide +kernel
theorem dX5_dropRow_23 : decode cX5_dropRow 23 = .ok (.aload_n 0, 1) := by decide +kernel
theorem dX5_dropRow_24 : decode cX5_dropRow 24 = .ok (.getfield 7, 3) := by decide +kernel
theorem dX5_dropRow_27 : decode cX5_dropRow 27 = .ok (.iload_n 1, 1) := by decide +kernel
theorem dX5_dropRow_28 : decode cX5_dropRow 28 = .ok (.bipush 13, 2) := by decide +kernel
theorem dX5_dropRow_30 : decode cX5_dropRow 30 = .ok (.invokestatic 54, 3) := by decide +kernel
theorem dX5_dropRow_33 : decode cX5_dropRow 33 = .ok (.iaload, 1) := by decide +kernel
theorem dX5_dropRow_34 : decode cX5_dropRow 34 = .ok (.invokestatic 88, 3) := by decide +kernel
theorem dX5_dropRow_37 : decode cX5_dropRow 37 = .ok (.if_icmp .ge 23, 3) := by decide +kernel
theorem dX5_dropRow_40 : decode cX5_dropRow 40 = .ok (.aload_n 0, 1) := by decide +kernel
theorem dX5_dropRow_41 : decode cX5_dropRow 41 = .ok (.getfield 7, 3) := by decide +kernel
theorem dX5_dropRow_44 : decode cX5_dropRow 44 = .ok (.iload_n 3, 1) := by decide +kernel
theorem dX5_dropRow_45 : decode cX5_dropRow 45 = .ok (.aload_n 0, 1) := by decide +kernel
theorem dX5_dropRow_46 : decode cX5_dropRow 46 = .ok (.getfield 7, 3) := by decide +kernel
theorem dX5_dropRow_49 : decode cX5_dropRow 49 = .ok (.iload_n 3, 1) := by decide +kernel
theorem dX5_dropRow_50 : decode cX5_dropRow 50 = .ok (.iconst 4, 1) := by decide +kernel
theorem dX5_dropRow_51 : decode cX5_dropRow 51 = .ok (.iadd, 1) := by decide +kernel
theorem dX5_dropRow_52 : decode cX5_dropRow 52 = .ok (.iaload, 1) := by decide +kernel
theorem dX5_dropRow_53 : decode cX5_dropRow 53 = .ok (.iastore, 1) := by decide +kernel
theorem dX5_dropRow_54 : decode cX5_dropRow 54 = .ok (.iinc 3 1, 3) := by decide +kernel
theorem dX5_dropRow_57 : decode cX5_dropRow 57 = .ok (.goto (-36), 3) := by decide +kernel
theorem dX5_dropRow_60 : decode cX5_dropRow 60 = .ok (.return_, 1) := by decide +kernel
theorem dX5_addRow_0 : decode cX5_addRow 0 = .ok (.iload_n 1, 1) := by decide +kernel
theorem dX5_addRow_1 : decode cX5_addRow 1 = .ok (.aload_n 0, 1) := by decide +kernel
theorem dX5_addRow_2 : decode cX5_addRow 2 = .ok (.getfield 7, 3) := by decide +kernel
theorem dX5_addRow_5 : decode cX5_addRow 5 = .ok (.iload_n 1, 1) := by decide +kernel
theorem dX5_addRow_6 : decode cX5_addRow 6 = .ok (.bipush 13, 2) := by decide +kernel
theorem dX5_addRow_8 : decode cX5_addRow 8 = .ok (.invokestatic 54, 3) := by decide +kernel
theorem dX5_addRow_11 : decode cX5_addRow 11 = .ok (.iaload, 1) := by decide +kernel
theorem dX5_addRow_12 : decode cX5_addRow 12 = .ok (.invokestatic 88, 3) := by decide +kernel
theorem dX5_addRow_15 : decode cX5_addRow 15 = .ok (.istore 6, 2) := by decide +kernel
theorem dX5_addRow_17 : decode cX5_addRow 17 = .ok (.aload_n 0, 1) := by decide +kernel
theorem dX5_addRow_18 : decode cX5_addRow 18 = .ok (.getfield 7, 3) := by decide +kernel
theorem dX5_addRow_21 : decode cX5_addRow 21 = .ok (.iload 6, 2) := by decide +kernel
theorem dX5_addRow_23 : decode cX5_addRow 23 = .ok (.iload_n 2, 1) := by decide +kernel
theorem dX5_addRow_24 : decode cX5_addRow 24 = .ok (.iastore, 1) := by decide +kernel
theorem dX5_addRow_25 : decode cX5_addRow 25 = .ok (.aload_n 0, 1) := by decide +kernel
theorem dX5_addRow_26 : decode cX5_addRow 26 = .ok (.getfield 7, 3) := by decide +kernel
theorem dX5_addRow_29 : decode cX5_addRow 29 = .ok (.iload 6, 2) := by decide +kernel
theorem dX5_addRow_31 : decode cX5_addRow 31 = .ok (.iconst 1, 1) := by decide +kernel
theorem dX5_addRow_32 : decode cX5_addRow 32 = .ok (.iadd, 1) := by decide +kernel
theorem dX5_addRow_33 : decode cX5_addRow 33 = .ok (.iload_n 3, 1) := by decide +kernel
theorem dX5_addRow_34 : decode cX5_addRow 34 = .ok (.iastore, 1) := by decide +kernel
theorem dX5_addRow_35 : decode cX5_addRow 35 = .ok (.aload_n 0, 1) := by decide +kernel
theorem dX5_addRow_36 : decode cX5_addRow 36 = .ok (.getfield 7, 3) := by decide +kernel
theorem dX5_addRow_39 : decode cX5_addRow 39 = .ok (.iload 6, 2) := by decide +kernel
theorem dX5_addRow_41 : decode cX5_addRow 41 = .ok (.iconst 2, 1) := by decide +kernel
theorem dX5_addRow_42 : decode cX5_addRow 42 = .ok (.iadd, 1) := by decide +kernel
theorem dX5_addRow_43 : decode cX5_addRow 43 = .ok (.iload 4, 2) := by decide +kernel
theorem dX5_addRow_45 : decode cX5_addRow 45 = .ok (.iastore, 1) := by decide +kernel
theorem dX5_addRow_46 : decode cX5_addRow 46 = .ok (.aload_n 0, 1) := by decide +kernel
theorem dX5_addRow_47 : decode cX5_addRow 47 = .ok (.getfield 7, 3) := by decide +kernel
theorem dX5_addRow_50 : decode cX5_addRow 50 = .ok (.iload 6, 2) := by decide +kernel
theorem dX5_addRow_52 : decode cX5_addRow 52 = .ok (.iconst 3, 1) := by decide +kernel
theorem dX5_addRow_53 : decode cX5_addRow 53 = .ok (.iadd, 1) := by decide +kernel
theorem dX5_addRow_54 : decode cX5_addRow 54 = .ok (.iload 5, 2) := by decide +kernel
theorem dX5_addRow_56 : decode cX5_addRow 56 = .ok (.iastore, 1) := by decide +kernel
theorem dX5_addRow_57 : decode cX5_addRow 57 = .ok (.aload_n 0, 1) := by decide +kernel
theorem dX5_addRow_58 : decode cX5_addRow 58 = .ok (.getfield 7, 3) := by decide +kernel
theorem dX5_addRow_61 : decode cX5_addRow 61 = .ok (.iload_n 1, 1) := by decide +kernel
theorem dX5_addRow_62 : decode cX5_addRow 62 = .ok (.bipush 13, 2) := by decide +kernel
theorem dX5_addRow_64 : decode cX5_addRow 64 = .ok (.invokestatic 54, 3) := by decide +kernel
theorem dX5_addRow_67 : decode cX5_addRow 67 = .ok (.dup2, 1) := by decide +kernel
theorem dX5_addRow_68 : decode cX5_addRow 68 = .ok (.iaload, 1) := by decide +kernel
theorem dX5_addRow_69 : decode cX5_addRow 69 = .ok (.iconst 1, 1) := by decide +kernel
theorem dX5_addRow_70 : decode cX5_addRow 70 = .ok (.iadd, 1) := by decide +kernel
theorem dX5_addRow_71 : decode cX5_addRow 71 = .ok (.iastore, 1) := by decide +kernel
theorem dX5_addRow_72 : decode cX5_addRow 72 = .ok (.return_, 1) := by decide +kernel
theorem dX5_learnStride_0 : decode cX5_learnStride 0 = .ok (.iconst (-1), 1) := by decide +kernel
theorem dX5_learnStride_1 : decode cX5_learnStride 1 = .ok (.istore 4, 2) := by decide +kernel
theorem dX5_learnStride_3 : decode cX5_learnStride 3 = .ok (.iconst 0, 1) := by decide +kernel
theorem dX5_learnStride_4 : decode cX5_learnStride 4 = .ok (.istore 5, 2) := by decide +kernel
theorem dX5_learnStride_6 : decode cX5_learnStride 6 = .ok (.iload 5, 2) := by decide +kernel
theorem dX5_learnStride_8 : decode cX5_learnStride 8 = .ok (.aload_n 0, 1) := by decide +kernel
theorem dX5_learnStride_9 : decode cX5_learnStride 9 = .ok (.getfield 7, 3) := by decide +kernel
theorem dX5_learnStride_12 : decode cX5_learnStride 12 = .ok (.iload_n 1, 1) := by decide +kernel
theorem dX5_learnStride_13 : decode cX5_learnStride 13 = .ok (.bipush 13, 2) := by decide +kernel
theorem dX5_learnStride_15 : decode cX5_learnStride 15 = .ok (.invokestatic 54, 3) := by decide +kernel
theorem dX5_learnStride_18 : decode cX5_learnStride 18 = .ok (.iaload, 1) := by decide +kernel
theorem dX5_learnStride_19 : decode cX5_learnStride 19 = .ok (.if_icmp .ge 33, 3) := by decide +kernel
theorem dX5_learnStride_22 : decode cX5_learnStride 22 = .ok (.aload_n 0, 1) := by decide +kernel
theorem dX5_learnStride_23 : decode cX5_learnStride 23 = .ok (.getfield 7, 3) := by decide +kernel
theorem dX5_learnStride_26 : decode cX5_learnStride 26 = .ok (.iload_n 1, 1) := by decide +kernel
theorem dX5_learnStride_27 : decode cX5_learnStride 27 = .ok (.iload 5, 2) := by decide +kernel
theorem dX5_learnStride_29 : decode cX5_learnStride 29 = .ok (.invokestatic 88, 3) := by decide +kernel
theorem dX5_learnStride_32 : decode cX5_learnStride 32 = .ok (.iaload, 1) := by decide +kernel
theorem dX5_learnStride_33 : decode cX5_learnStride 33 = .ok (.iload_n 2, 1) := by decide +kernel
theorem dX5_learnStride_34 : decode cX5_learnStride 34 = .ok (.if_icmp .ne 8, 3) := by decide +kernel
theorem dX5_learnStride_37 : decode cX5_learnStride 37 = .ok (.iload 5, 2) := by decide +kernel
theorem dX5_learnStride_39 : decode cX5_learnStride 39 = .ok (.goto 5, 3) := by decide +kernel
theorem dX5_learnStride_42 : decode cX5_learnStride 42 = .ok (.iload 4, 2) := by decide +kernel
theorem dX5_learnStride_44 : decode cX5_learnStride 44 = .ok (.istore 4, 2) := by decide +kernel
theorem dX5_learnStride_46 : decode cX5_learnStride 46 = .ok (.iinc 5 1, 3) := by decide +kernel
theorem dX5_learnStride_49 : decode cX5_learnStride 49 = .ok (.goto (-43), 3) := by decide +kernel
theorem dX5_learnStride_52 : decode cX5_learnStride 52 = .ok (.iload 4, 2) := by decide +kernel
theorem dX5_learnStride_54 : decode cX5_learnStride 54 = .ok (.ifCond .ge 34, 3) := by decide +kernel
theorem dX5_learnStride_57 : decode cX5_learnStride 57 = .ok (.aload_n 0, 1) := by decide +kernel
theorem dX5_learnStride_58 : decode cX5_learnStride 58 = .ok (.getfield 7, 3) := by decide +kernel
theorem dX5_learnStride_61 : decode cX5_learnStride 61 = .ok (.iload_n 1, 1) := by decide +kernel
theorem dX5_learnStride_62 : decode cX5_learnStride 62 = .ok (.bipush 13, 2) := by decide +kernel
theorem dX5_learnStride_64 : decode cX5_learnStride 64 = .ok (.invokestatic 54, 3) := by decide +kernel
theorem dX5_learnStride_67 : decode cX5_learnStride 67 = .ok (.iaload, 1) := by decide +kernel
theorem dX5_learnStride_68 : decode cX5_learnStride 68 = .ok (.iconst 4, 1) := by decide +kernel
theorem dX5_learnStride_69 : decode cX5_learnStride 69 = .ok (.if_icmp .ne 9, 3) := by decide +kernel
theorem dX5_learnStride_72 : decode cX5_learnStride 72 = .ok (.aload_n 0, 1) := by decide +kernel
theorem dX5_learnStride_73 : decode cX5_learnStride 73 = .ok (.iload_n 1, 1) := by decide +kernel
theorem dX5_learnStride_74 : decode cX5_learnStride 74 = .ok (.iconst 0, 1) := by decide +kernel
theorem dX5_learnStride_75 : decode cX5_learnStride 75 = .ok (.invokevirtual 91, 3) := by decide +kernel
theorem dX5_learnStride_78 : decode cX5_learnStride 78 = .ok (.aload_n 0, 1) := by decide +kernel
theorem dX5_learnStride_79 : decode cX5_learnStride 79 = .ok (.iload_n 1, 1) := by decide +kernel
theorem dX5_learnStride_80 : decode cX5_learnStride 80 = .ok (.iload_n 2, 1) := by decide +kernel
theorem dX5_learnStride_81 : decode cX5_learnStride 81 = .ok (.iload_n 3, 1) := by decide +kernel
theorem dX5_learnStride_82 : decode cX5_learnStride 82 = .ok (.iconst 0, 1) := by decide +kernel
theorem dX5_learnStride_83 : decode cX5_learnStride 83 = .ok (.iconst 0, 1) := by decide +kernel
theorem dX5_learnStride_84 : decode cX5_learnStride 84 = .ok (.invokevirtual 94, 3) := by decide +kernel
theorem dX5_learnStride_87 : decode cX5_learnStride 87 = .ok (.return_, 1) := by decide +kernel
theorem dX5_learnStride_88 : decode cX5_learnStride 88 = .ok (.iload_n 3, 1) := by decide +kernel
theorem dX5_learnStride_89 : decode cX5_learnStride 89 = .ok (.aload_n 0, 1) := by decide +kernel
theorem dX5_learnStride_90 : decode cX5_learnStride 90 = .ok (.getfield 7, 3) := by decide +kernel
theorem dX5_learnStride_93 : decode cX5_learnStride 93 = .ok (.iload_n 1, 1) := by decide +kernel
theorem dX5_learnStride_94 : decode cX5_learnStride 94 = .ok (.iload 4, 2) := by decide +kernel
theorem dX5_learnStride_96 : decode cX5_learnStride 96 = .ok (.invokestatic 88, 3) := by decide +kernel
theorem dX5_learnStride_99 : decode cX5_learnStride 99 = .ok (.iconst 1, 1) := by decide +kernel
theorem dX5_learnStride_100 : decode cX5_learnStride 100 = .ok (.iadd, 1) := by decide +kernel
theorem dX5_learnStride_101 : decode cX5_learnStride 101 = .ok (.iaload, 1) := by decide +kernel
theorem dX5_learnStride_102 : decode cX5_learnStride 102 = .ok (.isub, 1) := by decide +kernel
theorem dX5_learnStride_103 : decode cX5_learnStride 103 = .ok (.istore 5, 2) := by decide +kernel
theorem dX5_learnStride_105 : decode cX5_learnStride 105 = .ok (.aload_n 0, 1) := by decide +kernel
theorem dX5_learnStride_106 : decode cX5_learnStride 106 = .ok (.getfield 7, 3) := by decide +kernel
theorem dX5_learnStride_109 : decode cX5_learnStride 109 = .ok (.iload_n 1, 1) := by decide +kernel
theorem dX5_learnStride_110 : decode cX5_learnStride 110 = .ok (.iload 4, 2) := by decide +kernel
theorem dX5_learnStride_112 : decode cX5_learnStride 112 = .ok (.invokestatic 88, 3) := by decide +kernel
theorem dX5_learnStride_115 : decode cX5_learnStride 115 = .ok (.iconst 2, 1) := by decide +kernel
theorem dX5_learnStride_116 : decode cX5_learnStride 116 = .ok (.iadd, 1) := by decide +kernel
theorem dX5_learnStride_117 : decode cX5_learnStride 117 = .ok (.iaload, 1) := by decide +kernel
theorem dX5_learnStride_118 : decode cX5_learnStride 118 = .ok (.istore 6, 2) := by decide +kernel
theorem dX5_learnStride_120 : decode cX5_learnStride 120 = .ok (.aload_n 0, 1) := by decide +kernel
theorem dX5_learnStride_121 : decode cX5_learnStride 121 = .ok (.getfield 7, 3) := by decide +kernel
theorem dX5_learnStride_124 : decode cX5_learnStride 124 = .ok (.iload_n 1, 1) := by decide +kernel
theorem dX5_learnStride_125 : decode cX5_learnStride 125 = .ok (.iload 4, 2) := by decide +kernel
theorem dX5_learnStride_127 : decode cX5_learnStride 127 = .ok (.invokestatic 88, 3) := by decide +kernel
theorem dX5_learnStride_130 : decode cX5_learnStride 130 = .ok (.iconst 3, 1) := by decide +kernel
theorem dX5_learnStride_131 : decode cX5_learnStride 131 = .ok (.iadd, 1) := by decide +kernel
theorem dX5_learnStride_132 : decode cX5_learnStride 132 = .ok (.iaload, 1) := by decide +kernel
theorem dX5_learnStride_133 : decode cX5_learnStride 133 = .ok (.istore 7, 2) := by decide +kernel
theorem dX5_learnStride_135 : decode cX5_learnStride 135 = .ok (.iload 5, 2) := by decide +kernel
theorem dX5_learnStride_137 : decode cX5_learnStride 137 = .ok (.iload 6, 2) := by decide +kernel
theorem dX5_learnStride_139 : decode cX5_learnStride 139 = .ok (.if_icmp .ne 27, 3) := by decide +kernel
theorem dX5_learnStride_142 : decode cX5_learnStride 142 = .ok (.iload 5, 2) := by decide +kernel
theorem dX5_learnStride_144 : decode cX5_learnStride 144 = .ok (.ifCond .eq 22, 3) := by decide +kernel
theorem dX5_learnStride_147 : decode cX5_learnStride 147 = .ok (.iload 7, 2) := by decide +kernel
theorem dX5_learnStride_149 : decode cX5_learnStride 149 = .ok (.iload 7, 2) := by decide +kernel
theorem dX5_learnStride_151 : decode cX5_learnStride 151 = .ok (.iconst 3, 1) := by decide +kernel
theorem dX5_learnStride_152 : decode cX5_learnStride 152 = .ok (.if_icmp .ge 7, 3) := by decide +kernel
theorem dX5_learnStride_155 : decode cX5_learnStride 155 = .ok (.iconst 1, 1) := by decide +kernel
theorem dX5_learnStride_156 : decode cX5_learnStride 156 = .ok (.goto 4, 3) := by decide +kernel
theorem dX5_learnStride_159 : decode cX5_learnStride 159 = .ok (.iconst 0, 1) := by decide +kernel
theorem dX5_learnStride_160 : decode cX5_learnStride 160 = .ok (.iadd, 1) := by decide +kernel
theorem dX5_learnStride_161 : decode cX5_learnStride 161 = .ok (.istore 7, 2) := by decide +kernel
theorem dX5_learnStride_163 : decode cX5_learnStride 163 = .ok (.goto 32, 3) := by decide +kernel
theorem dX5_learnStride_166 : decode cX5_learnStride 166 = .ok (.iload 7, 2) := by decide +kernel
theorem dX5_learnStride_168 : decode cX5_learnStride 168 = .ok (.iload 7, 2) := by decide +kernel
theorem dX5_learnStride_170 : decode cX5_learnStride 170 = .ok (.ifCond .le 7, 3) := by decide +kernel
theorem dX5_learnStride_173 : decode cX5_learnStride 173 = .ok (.iconst 1, 1) := by decide +kernel
theorem dX5_learnStride_174 : decode cX5_learnStride 174 = .ok (.goto 4, 3) := by decide +kernel
theorem dX5_learnStride_177 : decode cX5_learnStride 177 = .ok (.iconst 0, 1) := by decide +kernel
theorem dX5_learnStride_178 : decode cX5_learnStride 178 = .ok (.isub, 1) := by decide +kernel
theorem dX5_learnStride_179 : decode cX5_learnStride 179 = .ok (.istore 7, 2) := by decide +kernel
theorem dX5_learnStride_181 : decode cX5_learnStride 181 = .ok (.iload 7, 2) := by decide +kernel
theorem dX5_learnStride_183 : decode cX5_learnStride 183 = .ok (.ifCond .ne 8, 3) := by decide +kernel
theorem dX5_learnStride_186 : decode cX5_learnStride 186 = .ok (.iload 5, 2) := by decide +kernel
theorem dX5_learnStride_188 : decode cX5_learnStride 188 = .ok (.goto 5, 3) := by decide +kernel
theorem dX5_learnStride_191 : decode cX5_learnStride 191 = .ok (.iload 6, 2) := by decide +kernel
theorem dX5_learnStride_193 : decode cX5_learnStride 193 = .ok (.istore 6, 2) := by decide +kernel
theorem dX5_learnStride_195 : decode cX5_learnStride 195 = .ok (.aload_n 0, 1) := by decide +kernel
theorem dX5_learnStride_196 : decode cX5_learnStride 196 = .ok (.iload_n 1, 1) := by decide +kernel
theorem dX5_learnStride_197 : decode cX5_learnStride 197 = .ok (.iload 4, 2) := by decide +kernel
theorem dX5_learnStride_199 : decode cX5_learnStride 199 = .ok (.invokevirtual 91, 3) := by decide +kernel
theorem dX5_learnStride_202 : decode cX5_learnStride 202 = .ok (.aload_n 0, 1) := by decide +kernel
theorem dX5_learnStride_203 : decode cX5_learnStride 203 = .ok (.iload_n 1, 1) := by decide +kernel
theorem dX5_learnStride_204 : decode cX5_learnStride 204 = .ok (.iload_n 2, 1) := by decide +kernel
theorem dX5_learnStride_205 : decode cX5_learnStride 205 = .ok (.iload_n 3, 1) := by decide +kernel
theorem dX5_learnStride_206 : decode cX5_learnStride 206 = .ok (.iload 6, 2) := by decide +kernel
theorem dX5_learnStride_208 : decode cX5_learnStride 208 = .ok (.iload 7, 2) := by decide +kernel
theorem dX5_learnStride_210 : decode cX5_learnStride 210 = .ok (.invokevirtual 94, 3) := by decide +kernel
theorem dX5_learnStride_213 : decode cX5_learnStride 213 = .ok (.aload_n 0, 1) := by decide +kernel
theorem dX5_learnStride_214 : decode cX5_learnStride 214 = .ok (.iload 7, 2) := by decide +kernel
theorem dX5_learnStride_216 : decode cX5_learnStride 216 = .ok (.iconst 1, 1) := by decide +kernel
theorem dX5_learnStride_217 : decode cX5_learnStride 217 = .ok (.if_icmp .le 8, 3) := by decide +kernel
theorem dX5_learnStride_220 : decode cX5_learnStride 220 = .ok (.iload 6, 2) := by decide +kernel
theorem dX5_learnStride_222 : decode cX5_learnStride 222 = .ok (.goto 4, 3) := by decide +kernel
theorem dX5_learnStride_225 : decode cX5_learnStride 225 = .ok (.iconst 0, 1) := by decide +kernel
theorem dX5_learnStride_226 : decode cX5_learnStride 226 = .ok (.putfield 98, 3) := by decide +kernel
theorem dX5_learnStride_229 : decode cX5_learnStride 229 = .ok (.return_, 1) := by decide +kernel
theorem dX5_learnStream_0 : decode cX5_learnStream 0 = .ok (.iconst (-1), 1) := by decide +kernel
theorem dX5_learnStream_1 : decode cX5_learnStream 1 = .ok (.istore_n 3, 1) := by decide +kernel
theorem dX5_learnStream_2 : decode cX5_learnStream 2 = .ok (.iconst 0, 1) := by decide +kernel
theorem dX5_learnStream_3 : decode cX5_learnStream 3 = .ok (.istore 4, 2) := by decide +kernel
theorem dX5_learnStream_5 : decode cX5_learnStream 5 = .ok (.iload 4, 2) := by decide +kernel
theorem dX5_learnStream_7 : decode cX5_learnStream 7 = .ok (.aload_n 0, 1) := by decide +kernel
theorem dX5_learnStream_8 : decode cX5_learnStream 8 = .ok (.getfield 7, 3) := by decide +kernel
theorem dX5_learnStream_11 : decode cX5_learnStream 11 = .ok (.iload_n 1, 1) := by decide +kernel
theorem dX5_learnStream_12 : decode cX5_learnStream 12 = .ok (.bipush 13, 2) := by decide +kernel
theorem dX5_learnStream_14 : decode cX5_learnStream 14 = .ok (.invokestatic 54, 3) := by decide +kernel
theorem dX5_learnStream_17 : decode cX5_learnStream 17 = .ok (.iaload, 1) := by decide +kernel
theorem dX5_learnStream_18 : decode cX5_learnStream 18 = .ok (.if_icmp .ge 49, 3) := by decide +kernel
theorem dX5_learnStream_21 : decode cX5_learnStream 21 = .ok (.iload_n 2, 1) := by decide +kernel
theorem dX5_learnStream_22 : decode cX5_learnStream 22 = .ok (.aload_n 0, 1) := by decide +kernel
theorem dX5_learnStream_23 : decode cX5_learnStream 23 = .ok (.getfield 7, 3) := by decide +kernel
theorem dX5_learnStream_26 : decode cX5_learnStream 26 = .ok (.iload_n 1, 1) := by decide +kernel
theorem dX5_learnStream_27 : decode cX5_learnStream 27 = .ok (.iload 4, 2) := by decide +kernel
theorem dX5_learnStream_29 : decode cX5_learnStream 29 = .ok (.invokestatic 88, 3) := by decide +kernel
theorem dX5_learnStream_32 : decode cX5_learnStream 32 = .ok (.iconst 1, 1) := by decide +kernel
theorem dX5_learnStream_33 : decode cX5_learnStream 33 = .ok (.iadd, 1) := by decide +kernel
theorem dX5_learnStream_34 : decode cX5_learnStream 34 = .ok (.iaload, 1) := by decide +kernel
theorem dX5_learnStream_35 : decode cX5_learnStream 35 = .ok (.isub, 1) := by decide +kernel
theorem dX5_learnStream_36 : decode cX5_learnStream 36 = .ok (.istore 5, 2) := by decide +kernel
theorem dX5_learnStream_38 : decode cX5_learnStream 38 = .ok (.iload 5, 2) := by decide +kernel
theorem dX5_learnStream_40 : decode cX5_learnStream 40 = .ok (.ifCond .eq 19, 3) := by decide +kernel
theorem dX5_learnStream_43 : decode cX5_learnStream 43 = .ok (.iload 5, 2) := by decide +kernel
theorem dX5_learnStream_45 : decode cX5_learnStream 45 = .ok (.bipush (-4), 2) := by decide +kernel
theorem dX5_learnStream_47 : decode cX5_learnStream 47 = .ok (.iconst 4, 1) := by decide +kernel
theorem dX5_learnStream_48 : decode cX5_learnStream 48 = .ok (.invokestatic 23, 3) := by decide +kernel
theorem dX5_learnStream_51 : decode cX5_learnStream 51 = .ok (.ifCond .eq 8, 3) := by decide +kernel
theorem dX5_learnStream_54 : decode cX5_learnStream 54 = .ok (.iload 4, 2) := by decide +kernel
theorem dX5_learnStream_56 : decode cX5_learnStream 56 = .ok (.goto 4, 3) := by decide +kernel
theorem dX5_learnStream_59 : decode cX5_learnStream 59 = .ok (.iload_n 3, 1) := by decide +kernel
theorem dX5_learnStream_60 : decode cX5_learnStream 60 = .ok (.istore_n 3, 1) := by decide +kernel
theorem dX5_learnStream_61 : decode cX5_learnStream 61 = .ok (.iinc 4 1, 3) := by decide +kernel
theorem dX5_learnStream_64 : decode cX5_learnStream 64 = .ok (.goto (-59), 3) := by decide +kernel
theorem dX5_learnStream_67 : decode cX5_learnStream 67 = .ok (.iload_n 3, 1) := by decide +kernel
theorem dX5_learnStream_68 : decode cX5_learnStream 68 = .ok (.ifCond .ge 34, 3) := by decide +kernel
theorem dX5_learnStream_71 : decode cX5_learnStream 71 = .ok (.aload_n 0, 1) := by decide +kernel
theorem dX5_learnStream_72 : decode cX5_learnStream 72 = .ok (.getfield 7, 3) := by decide +kernel
theorem dX5_learnStream_75 : decode cX5_learnStream 75 = .ok (.iload_n 1, 1) := by decide +kernel
theorem dX5_learnStream_76 : decode cX5_learnStream 76 = .ok (.bipush 13, 2) := by decide +kernel
theorem dX5_learnStream_78 : decode cX5_learnStream 78 = .ok (.invokestatic 54, 3) := by decide +kernel
theorem dX5_learnStream_81 : decode cX5_learnStream 81 = .ok (.iaload, 1) := by decide +kernel
theorem dX5_learnStream_82 : decode cX5_learnStream 82 = .ok (.iconst 3, 1) := by decide +kernel
theorem dX5_learnStream_83 : decode cX5_learnStream 83 = .ok (.if_icmp .ne 9, 3) := by decide +kernel
theorem dX5_learnStream_86 : decode cX5_learnStream 86 = .ok (.aload_n 0, 1) := by decide +kernel
theorem dX5_learnStream_87 : decode cX5_learnStream 87 = .ok (.iload_n 1, 1) := by decide +kernel
theorem dX5_learnStream_88 : decode cX5_learnStream 88 = .ok (.iconst 0, 1) := by decide +kernel
theorem dX5_learnStream_89 : decode cX5_learnStream 89 = .ok (.invokevirtual 91, 3) := by decide +kernel
theorem dX5_learnStream_92 : decode cX5_learnStream 92 = .ok (.aload_n 0, 1) := by decide +kernel
theorem dX5_learnStream_93 : decode cX5_learnStream 93 = .ok (.iload_n 1, 1) := by decide +kernel
theorem dX5_learnStream_94 : decode cX5_learnStream 94 = .ok (.iconst 0, 1) := by decide +kernel
theorem dX5_learnStream_95 : decode cX5_learnStream 95 = .ok (.iload_n 2, 1) := by decide +kernel
theorem dX5_learnStream_96 : decode cX5_learnStream 96 = .ok (.iconst 0, 1) := by decide +kernel
theorem dX5_learnStream_97 : decode cX5_learnStream 97 = .ok (.iconst 0, 1) := by decide +kernel
theorem dX5_learnStream_98 : decode cX5_learnStream 98 = .ok (.invokevirtual 94, 3) := by decide +kernel
theorem dX5_learnStream_101 : decode cX5_learnStream 101 = .ok (.return_, 1) := by decide +kernel
theorem dX5_learnStream_102 : decode cX5_learnStream 102 = .ok (.iload_n 2, 1) := by decide +kernel
theorem dX5_learnStream_103 : decode cX5_learnStream 103 = .ok (.aload_n 0, 1) := by decide +kernel
theorem dX5_learnStream_104 : decode cX5_learnStream 104 = .ok (.getfield 7, 3) := by decide +kernel
theorem dX5_learnStream_107 : decode cX5_learnStream 107 = .ok (.iload_n 1, 1) := by decide +kernel
theorem dX5_learnStream_108 : decode cX5_learnStream 108 = .ok (.iload_n 3, 1) := by decide +kernel
theorem dX5_learnStream_109 : decode cX5_learnStream 109 = .ok (.invokestatic 88, 3) := by decide +kernel
theorem dX5_learnStream_112 : decode cX5_learnStream 112 = .ok (.iconst 1, 1) := by decide +kernel
theorem dX5_learnStream_113 : decode cX5_learnStream 113 = .ok (.iadd, 1) := by decide +kernel
theorem dX5_learnStream_114 : decode cX5_learnStream 114 = .ok (.iaload, 1) := by decide +kernel
theorem dX5_learnStream_115 : decode cX5_learnStream 115 = .ok (.if_icmp .le 7, 3) := by decide +kernel
theorem dX5_learnStream_118 : decode cX5_learnStream 118 = .ok (.iconst 1, 1) := by decide +kernel
theorem dX5_learnStream_119 : decode cX5_learnStream 119 = .ok (.goto 4, 3) := by decide +kernel
theorem dX5_learnStream_122 : decode cX5_learnStream 122 = .ok (.iconst (-1), 1) := by decide +kernel
theorem dX5_learnStream_123 : decode cX5_learnStream 123 = .ok (.istore 4, 2) := by decide +kernel
theorem dX5_learnStream_125 : decode cX5_learnStream 125 = .ok (.aload_n 0, 1) := by decide +kernel
theorem dX5_learnStream_126 : decode cX5_learnStream 126 = .ok (.getfield 7, 3) := by decide +kernel
theorem dX5_learnStream_129 : decode cX5_learnStream 129 = .ok (.iload_n 1, 1) := by decide +kernel
theorem dX5_learnStream_130 : decode cX5_learnStream 130 = .ok (.iload_n 3, 1) := by decide +kernel
theorem dX5_learnStream_131 : decode cX5_learnStream 131 = .ok (.invokestatic 88, 3) := by decide +kernel
theorem dX5_learnStream_134 : decode cX5_learnStream 134 = .ok (.iconst 3, 1) := by decide +kernel
theorem dX5_learnStream_135 : decode cX5_learnStream 135 = .ok (.iadd, 1) := by decide +kernel
theorem dX5_learnStream_136 : decode cX5_learnStream 136 = .ok (.iaload, 1) := by decide +kernel
theorem dX5_learnStream_137 : decode cX5_learnStream 137 = .ok (.istore 5, 2) := by decide +kernel
theorem dX5_learnStream_139 : decode cX5_learnStream 139 = .ok (.iload 4, 2) := by decide +kernel
theorem dX5_learnStream_141 : decode cX5_learnStream 141 = .ok (.aload_n 0, 1) := by decide +kernel
theorem dX5_learnStream_142 : decode cX5_learnStream 142 = .ok (.getfield 7, 3) := by decide +kernel
theorem dX5_learnStream_145 : decode cX5_learnStream 145 = .ok (.iload_n 1, 1) := by decide +kernel
theorem dX5_learnStream_146 : decode cX5_learnStream 146 = .ok (.iload_n 3, 1) := by decide +kernel
theorem dX5_learnStream_147 : decode cX5_learnStream 147 = .ok (.invokestatic 88, 3) := by decide +kernel
theorem dX5_learnStream_150 : decode cX5_learnStream 150 = .ok (.iconst 2, 1) := by decide +kernel
theorem dX5_learnStream_151 : decode cX5_learnStream 151 = .ok (.iadd, 1) := by decide +kernel
theorem dX5_learnStream_152 : decode cX5_learnStream 152 = .ok (.iaload, 1) := by decide +kernel
theorem dX5_learnStream_153 : decode cX5_learnStream 153 = .ok (.if_icmp .eq 7, 3) := by decide +kernel
theorem dX5_learnStream_156 : decode cX5_learnStream 156 = .ok (.iconst 1, 1) := by decide +kernel
theorem dX5_learnStream_157 : decode cX5_learnStream 157 = .ok (.goto 19, 3) := by decide +kernel
theorem dX5_learnStream_160 : decode cX5_learnStream 160 = .ok (.iload 5, 2) := by decide +kernel
theorem dX5_learnStream_162 : decode cX5_learnStream 162 = .ok (.bipush 9, 2) := by decide +kernel
theorem dX5_learnStream_164 : decode cX5_learnStream 164 = .ok (.if_icmp .ge 10, 3) := by decide +kernel
theorem dX5_learnStream_167 : decode cX5_learnStream 167 = .ok (.iload 5, 2) := by decide +kernel
theorem dX5_learnStream_169 : decode cX5_learnStream 169 = .ok (.iconst 1, 1) := by decide +kernel
theorem dX5_learnStream_170 : decode cX5_learnStream 170 = .ok (.iadd, 1) := by decide +kernel
theorem dX5_learnStream_171 : decode cX5_learnStream 171 = .ok (.goto 5, 3) := by decide +kernel
theorem dX5_learnStream_174 : decode cX5_learnStream 174 = .ok (.bipush 9, 2) := by decide +kernel
theorem dX5_learnStream_176 : decode cX5_learnStream 176 = .ok (.istore 5, 2) := by decide +kernel
theorem dX5_learnStream_178 : decode cX5_learnStream 178 = .ok (.aload_n 0, 1) := by decide +kernel
theorem dX5_learnStream_179 : decode cX5_learnStream 179 = .ok (.iload_n 1, 1) := by decide +kernel
theorem dX5_learnStream_180 : decode cX5_learnStream 180 = .ok (.iload_n 3, 1) := by decide +kernel
theorem dX5_learnStream_181 : decode cX5_learnStream 181 = .ok (.invokevirtual 91, 3) := by decide +kernel
theorem dX5_learnStream_184 : decode cX5_learnStream 184 = .ok (.aload_n 0, 1) := by decide +kernel
theorem dX5_learnStream_185 : decode cX5_learnStream 185 = .ok (.iload_n 1, 1) := by decide +kernel
theorem dX5_learnStream_186 : decode cX5_learnStream 186 = .ok (.iconst 0, 1) := by decide +kernel
theorem dX5_learnStream_187 : decode cX5_learnStream 187 = .ok (.iload_n 2, 1) := by decide +kernel
theorem dX5_learnStream_188 : decode cX5_learnStream 188 = .ok (.iload 4, 2) := by decide +kernel
theorem dX5_learnStream_190 : decode cX5_learnStream 190 = .ok (.iload 5, 2) := by decide +kernel
theorem dX5_learnStream_192 : decode cX5_learnStream 192 = .ok (.invokevirtual 94, 3) := by decide +kernel
theorem dX5_learnStream_195 : decode cX5_learnStream 195 = .ok (.aload_n 0, 1) := by decide +kernel
theorem dX5_learnStream_196 : decode cX5_learnStream 196 = .ok (.iload 5, 2) := by decide +kernel
theorem dX5_learnStream_198 : decode cX5_learnStream 198 = .ok (.iconst 1, 1) := by decide +kernel
theorem dX5_learnStream_199 : decode cX5_learnStream 199 = .ok (.if_icmp .le 8, 3) := by decide +kernel
theorem dX5_learnStream_202 : decode cX5_learnStream 202 = .ok (.iload 4, 2) := by decide +kernel
theorem dX5_learnStream_204 : decode cX5_learnStream 204 = .ok (.goto 4, 3) := by decide +kernel
theorem dX5_learnStream_207 : decode cX5_learnStream 207 = .ok (.iconst 0, 1) := by decide +kernel
theorem dX5_learnStream_208 : decode cX5_learnStream 208 = .ok (.putfield 98, 3) := by decide +kernel
theorem dX5_learnStream_211 : decode cX5_learnStream 211 = .ok (.return_, 1) := by decide +kernel
theorem dX5_learn_0 : decode cX5_learn 0 = .ok (.aload_n 0, 1) := by decide +kernel
theorem dX5_learn_1 : decode cX5_learn 1 = .ok (.iconst 0, 1) := by decide +kernel
theorem dX5_learn_2 : decode cX5_learn 2 = .ok (.putfield 98, 3) := by decide +kernel
theorem dX5_learn_5 : decode cX5_learn 5 = .ok (.aload_n 0, 1) := by decide +kernel
theorem dX5_learn_6 : decode cX5_learn 6 = .ok (.getfield 7, 3) := by decide +kernel
theorem dX5_learn_9 : decode cX5_learn 9 = .ok (.iload_n 1, 1) := by decide +kernel
theorem dX5_learn_10 : decode cX5_learn 10 = .ok (.iconst 0, 1) := by decide +kernel
theorem dX5_learn_11 : decode cX5_learn 11 = .ok (.invokestatic 54, 3) := by decide +kernel
theorem dX5_learn_14 : decode cX5_learn 14 = .ok (.iaload, 1) := by decide +kernel
theorem dX5_learn_15 : decode cX5_learn 15 = .ok (.lookupswitch 50 #[(0, 25), (1, 35)], 25) := by decide +kernel
theorem dX5_learn_40 : decode cX5_learn 40 = .ok (.aload_n 0, 1) := by decide +kernel
theorem dX5_learn_41 : decode cX5_learn 41 = .ok (.iload_n 1, 1) := by decide +kernel
theorem dX5_learn_42 : decode cX5_learn 42 = .ok (.iload_n 2, 1) := by decide +kernel
theorem dX5_learn_43 : decode cX5_learn 43 = .ok (.iload_n 3, 1) := by decide +kernel
theorem dX5_learn_44 : decode cX5_learn 44 = .ok (.invokevirtual 101, 3) := by decide +kernel
theorem dX5_learn_47 : decode cX5_learn 47 = .ok (.goto 32, 3) := by decide +kernel
theorem dX5_learn_50 : decode cX5_learn 50 = .ok (.iload 4, 2) := by decide +kernel
theorem dX5_learn_52 : decode cX5_learn 52 = .ok (.iconst 1, 1) := by decide +kernel
theorem dX5_learn_53 : decode cX5_learn 53 = .ok (.if_icmp .eq 26, 3) := by decide +kernel
theorem dX5_learn_56 : decode cX5_learn 56 = .ok (.aload_n 0, 1) := by decide +kernel
theorem dX5_learn_57 : decode cX5_learn 57 = .ok (.iload_n 1, 1) := by decide +kernel
theorem dX5_learn_58 : decode cX5_learn 58 = .ok (.iload_n 3, 1) := by decide +kernel
theorem dX5_learn_59 : decode cX5_learn 59 = .ok (.invokevirtual 105, 3) := by decide +kernel
theorem dX5_learn_62 : decode cX5_learn 62 = .ok (.goto 17, 3) := by decide +kernel
theorem dX5_learn_65 : decode cX5_learn 65 = .ok (.aload_n 0, 1) := by decide +kernel
theorem dX5_learn_66 : decode cX5_learn 66 = .ok (.iload 4, 2) := by decide +kernel
theorem dX5_learn_68 : decode cX5_learn 68 = .ok (.ifCond .ne 7, 3) := by decide +kernel
theorem dX5_learn_71 : decode cX5_learn 71 = .ok (.iconst 1, 1) := by decide +kernel
theorem dX5_learn_72 : decode cX5_learn 72 = .ok (.goto 4, 3) := by decide +kernel
theorem dX5_learn_75 : decode cX5_learn 75 = .ok (.iconst 0, 1) := by decide +kernel
theorem dX5_learn_76 : decode cX5_learn 76 = .ok (.putfield 98, 3) := by decide +kernel
theorem dX5_learn_79 : decode cX5_learn 79 = .ok (.return_, 1) := by decide +kernel
theorem dX5_fetchAhead_0 : decode cX5_fetchAhead 0 = .ok (.aload_n 0, 1) := by decide +kernel
theorem dX5_fetchAhead_1 : decode cX5_fetchAhead 1 = .ok (.getfield 98, 3) := by decide +kernel
theorem dX5_fetchAhead_4 : decode cX5_fetchAhead 4 = .ok (.ifCond .ne 7, 3) := by decide +kernel
theorem dX5_fetchAhead_7 : decode cX5_fetchAhead 7 = .ok (.iconst 0, 1) := by decide +kernel
theorem dX5_fetchAhead_8 : decode cX5_fetchAhead 8 = .ok (.goto 8, 3) := by decide +kernel
theorem dX5_fetchAhead_11 : decode cX5_fetchAhead 11 = .ok (.aload_n 0, 1) := by decide +kernel
theorem dX5_fetchAhead_12 : decode cX5_fetchAhead 12 = .ok (.iload_n 1, 1) := by decide +kernel
theorem dX5_fetchAhead_13 : decode cX5_fetchAhead 13 = .ok (.invokevirtual 108, 3) := by decide +kernel
theorem dX5_fetchAhead_16 : decode cX5_fetchAhead 16 = .ok (.istore_n 3, 1) := by decide +kernel
theorem dX5_fetchAhead_17 : decode cX5_fetchAhead 17 = .ok (.iconst 0, 1) := by decide +kernel
theorem dX5_fetchAhead_18 : decode cX5_fetchAhead 18 = .ok (.istore 4, 2) := by decide +kernel
theorem dX5_fetchAhead_20 : decode cX5_fetchAhead 20 = .ok (.iconst 1, 1) := by decide +kernel
theorem dX5_fetchAhead_21 : decode cX5_fetchAhead 21 = .ok (.istore 5, 2) := by decide +kernel
theorem dX5_fetchAhead_23 : decode cX5_fetchAhead 23 = .ok (.iload 5, 2) := by decide +kernel
theorem dX5_fetchAhead_25 : decode cX5_fetchAhead 25 = .ok (.iload_n 3, 1) := by decide +kernel
theorem dX5_fetchAhead_26 : decode cX5_fetchAhead 26 = .ok (.if_icmp .gt 99, 3) := by decide +kernel
theorem dX5_fetchAhead_29 : decode cX5_fetchAhead 29 = .ok (.iload_n 2, 1) := by decide +kernel
theorem dX5_fetchAhead_30 : decode cX5_fetchAhead 30 = .ok (.iload 5, 2) := by decide +kernel
theorem dX5_fetchAhead_32 : decode cX5_fetchAhead 32 = .ok (.aload_n 0, 1) := by decide +kernel
theorem dX5_fetchAhead_33 : decode cX5_fetchAhead 33 = .ok (.getfield 98, 3) := by decide +kernel
theorem dX5_fetchAhead_36 : decode cX5_fetchAhead 36 = .ok (.imul, 1) := by decide +kernel
theorem dX5_fetchAhead_37 : decode cX5_fetchAhead 37 = .ok (.iadd, 1) := by decide +kernel
theorem dX5_fetchAhead_38 : decode cX5_fetchAhead 38 = .ok (.istore 6, 2) := by decide +kernel
theorem dX5_fetchAhead_40 : decode cX5_fetchAhead 40 = .ok (.iload 6, 2) := by decide +kernel
theorem dX5_fetchAhead_42 : decode cX5_fetchAhead 42 = .ok (.invokestatic 111, 3) := by decide +kernel
theorem dX5_fetchAhead_45 : decode cX5_fetchAhead 45 = .ok (.ifCond .eq 32, 3) := by decide +kernel
theorem dX5_fetchAhead_48 : decode cX5_fetchAhead 48 = .ok (.iload_n 1, 1) := by decide +kernel
theorem dX5_fetchAhead_49 : decode cX5_fetchAhead 49 = .ok (.aload_n 0, 1) := by decide +kernel
theorem dX5_fetchAhead_50 : decode cX5_fetchAhead 50 = .ok (.getfield 16, 3) := by decide +kernel
theorem dX5_fetchAhead_53 : decode cX5_fetchAhead 53 = .ok (.if_icmp .ne 24, 3) := by decide +kernel
theorem dX5_fetchAhead_56 : decode cX5_fetchAhead 56 = .ok (.aload_n 0, 1) := by decide +kernel
theorem dX5_fetchAhead_57 : decode cX5_fetchAhead 57 = .ok (.getfield 20, 3) := by decide +kernel
theorem dX5_fetchAhead_60 : decode cX5_fetchAhead 60 = .ok (.aload_n 0, 1) := by decide +kernel
theorem dX5_fetchAhead_61 : decode cX5_fetchAhead 61 = .ok (.getfield 114, 3) := by decide +kernel
theorem dX5_fetchAhead_64 : decode cX5_fetchAhead 64 = .ok (.iload 6, 2) := by decide +kernel
theorem dX5_fetchAhead_66 : decode cX5_fetchAhead 66 = .ok (.iastore, 1) := by decide +kernel
theorem dX5_fetchAhead_67 : decode cX5_fetchAhead 67 = .ok (.aload_n 0, 1) := by decide +kernel
theorem dX5_fetchAhead_68 : decode cX5_fetchAhead 68 = .ok (.dup, 1) := by decide +kernel
theorem dX5_fetchAhead_69 : decode cX5_fetchAhead 69 = .ok (.getfield 114, 3) := by decide +kernel
theorem dX5_fetchAhead_72 : decode cX5_fetchAhead 72 = .ok (.iconst 1, 1) := by decide +kernel
theorem dX5_fetchAhead_73 : decode cX5_fetchAhead 73 = .ok (.iadd, 1) := by decide +kernel
theorem dX5_fetchAhead_74 : decode cX5_fetchAhead 74 = .ok (.putfield 114, 3) := by decide +kernel
theorem dX5_fetchAhead_77 : decode cX5_fetchAhead 77 = .ok (.iload 6, 2) := by decide +kernel
theorem dX5_fetchAhead_79 : decode cX5_fetchAhead 79 = .ok (.invokestatic 111, 3) := by decide +kernel
theorem dX5_fetchAhead_82 : decode cX5_fetchAhead 82 = .ok (.ifCond .eq 37, 3) := by decide +kernel
theorem dX5_fetchAhead_85 : decode cX5_fetchAhead 85 = .ok (.aload_n 0, 1) := by decide +kernel
theorem dX5_fetchAhead_86 : decode cX5_fetchAhead 86 = .ok (.iload 6, 2) := by decide +kernel
theorem dX5_fetchAhead_88 : decode cX5_fetchAhead 88 = .ok (.invokevirtual 117, 3) := by decide +kernel
theorem dX5_fetchAhead_91 : decode cX5_fetchAhead 91 = .ok (.ifCond .ge 28, 3) := by decide +kernel
theorem dX5_fetchAhead_94 : decode cX5_fetchAhead 94 = .ok (.aload_n 0, 1) := by decide +kernel
theorem dX5_fetchAhead_95 : decode cX5_fetchAhead 95 = .ok (.iload 6, 2) := by decide +kernel
theorem dX5_fetchAhead_97 : decode cX5_fetchAhead 97 = .ok (.iload_n 1, 1) := by decide +kernel
theorem dX5_fetchAhead_98 : decode cX5_fetchAhead 98 = .ok (.invokevirtual 120, 3) := by decide +kernel
theorem dX5_fetchAhead_101 : decode cX5_fetchAhead 101 = .ok (.aload_n 0, 1) := by decide +kernel
theorem dX5_fetchAhead_102 : decode cX5_fetchAhead 102 = .ok (.getfield 7, 3) := by decide +kernel
theorem dX5_fetchAhead_105 : decode cX5_fetchAhead 105 = .ok (.iload_n 1, 1) := by decide +kernel
theorem dX5_fetchAhead_106 : decode cX5_fetchAhead 106 = .ok (.bipush 6, 2) := by decide +kernel
theorem dX5_fetchAhead_108 : decode cX5_fetchAhead 108 = .ok (.invokestatic 54, 3) := by decide +kernel
theorem dX5_fetchAhead_111 : decode cX5_fetchAhead 111 = .ok (.dup2, 1) := by decide +kernel
theorem dX5_fetchAhead_112 : decode cX5_fetchAhead 112 = .ok (.iaload, 1) := by decide +kernel
theorem dX5_fetchAhead_113 : decode cX5_fetchAhead 113 = .ok (.iconst 1, 1) := by decide +kernel
theorem dX5_fetchAhead_114 : decode cX5_fetchAhead 114 = .ok (.iadd, 1) := by decide +kernel
theorem dX5_fetchAhead_115 : decode cX5_fetchAhead 115 = .ok (.iastore, 1) := by decide +kernel
theorem dX5_fetchAhead_116 : decode cX5_fetchAhead 116 = .ok (.iinc 4 1, 3) := by decide +kernel
theorem dX5_fetchAhead_119 : decode cX5_fetchAhead 119 = .ok (.iinc 5 1, 3) := by decide +kernel
theorem dX5_fetchAhead_122 : decode cX5_fetchAhead 122 = .ok (.goto (-99), 3) := by decide +kernel
theorem dX5_fetchAhead_125 : decode cX5_fetchAhead 125 = .ok (.iload 4, 2) := by decide +kernel
theorem dX5_fetchAhead_127 : decode cX5_fetchAhead 127 = .ok (.ireturn, 1) := by decide +kernel
theorem dX5_work_0 : decode cX5_work 0 = .ok (.iconst 0, 1) := by decide +kernel
theorem dX5_work_1 : decode cX5_work 1 = .ok (.istore_n 1, 1) := by decide +kernel
theorem dX5_work_2 : decode cX5_work 2 = .ok (.iload_n 1, 1) := by decide +kernel
theorem dX5_work_3 : decode cX5_work 3 = .ok (.aload_n 0, 1) := by decide +kernel
theorem dX5_work_4 : decode cX5_work 4 = .ok (.getfield 7, 3) := by decide +kernel
theorem dX5_work_7 : decode cX5_work 7 = .ok (.sipush 351, 3) := by decide +kernel
theorem dX5_work_10 : decode cX5_work 10 = .ok (.iaload, 1) := by decide +kernel
theorem dX5_work_11 : decode cX5_work 11 = .ok (.if_icmp .ge 109, 3) := by decide +kernel
theorem dX5_work_14 : decode cX5_work 14 = .ok (.aload_n 0, 1) := by decide +kernel
theorem dX5_work_15 : decode cX5_work 15 = .ok (.getfield 7, 3) := by decide +kernel
theorem dX5_work_18 : decode cX5_work 18 = .ok (.iload_n 1, 1) := by decide +kernel
theorem dX5_work_19 : decode cX5_work 19 = .ok (.iconst 3, 1) := by decide +kernel
theorem dX5_work_20 : decode cX5_work 20 = .ok (.invokestatic 54, 3) := by decide +kernel
theorem dX5_work_23 : decode cX5_work 23 = .ok (.iaload, 1) := by decide +kernel
theorem dX5_work_24 : decode cX5_work 24 = .ok (.iconst 2, 1) := by decide +kernel
theorem dX5_work_25 : decode cX5_work 25 = .ok (.if_icmp .ne 89, 3) := by decide +kernel
theorem dX5_work_28 : decode cX5_work 28 = .ok (.aload_n 0, 1) := by decide +kernel
theorem dX5_work_29 : decode cX5_work 29 = .ok (.getfield 7, 3) := by decide +kernel
theorem dX5_work_32 : decode cX5_work 32 = .ok (.iload_n 1, 1) := by decide +kernel
theorem dX5_work_33 : decode cX5_work 33 = .ok (.iconst 4, 1) := by decide +kernel
theorem dX5_work_34 : decode cX5_work 34 = .ok (.invokestatic 54, 3) := by decide +kernel
theorem dX5_work_37 : decode cX5_work 37 = .ok (.dup2, 1) := by decide +kernel
theorem dX5_work_38 : decode cX5_work 38 = .ok (.iaload, 1) := by decide +kernel
theorem dX5_work_39 : decode cX5_work 39 = .ok (.iconst 1, 1) := by decide +kernel
theorem dX5_work_40 : decode cX5_work 40 = .ok (.isub, 1) := by decide +kernel
theorem dX5_work_41 : decode cX5_work 41 = .ok (.iastore, 1) := by decide +kernel
theorem dX5_work_42 : decode cX5_work 42 = .ok (.aload_n 0, 1) := by decide +kernel
theorem dX5_work_43 : decode cX5_work 43 = .ok (.getfield 7, 3) := by decide +kernel
theorem dX5_work_46 : decode cX5_work 46 = .ok (.iload_n 1, 1) := by decide +kernel
theorem dX5_work_47 : decode cX5_work 47 = .ok (.bipush 10, 2) := by decide +kernel
theorem dX5_work_49 : decode cX5_work 49 = .ok (.invokestatic 54, 3) := by decide +kernel
theorem dX5_work_52 : decode cX5_work 52 = .ok (.dup2, 1) := by decide +kernel
theorem dX5_work_53 : decode cX5_work 53 = .ok (.iaload, 1) := by decide +kernel
theorem dX5_work_54 : decode cX5_work 54 = .ok (.iconst 1, 1) := by decide +kernel
theorem dX5_work_55 : decode cX5_work 55 = .ok (.iadd, 1) := by decide +kernel
theorem dX5_work_56 : decode cX5_work 56 = .ok (.iastore, 1) := by decide +kernel
theorem dX5_work_57 : decode cX5_work 57 = .ok (.aload_n 0, 1) := by decide +kernel
theorem dX5_work_58 : decode cX5_work 58 = .ok (.getfield 7, 3) := by decide +kernel
theorem dX5_work_61 : decode cX5_work 61 = .ok (.iload_n 1, 1) := by decide +kernel
theorem dX5_work_62 : decode cX5_work 62 = .ok (.iconst 4, 1) := by decide +kernel
theorem dX5_work_63 : decode cX5_work 63 = .ok (.invokestatic 54, 3) := by decide +kernel
theorem dX5_work_66 : decode cX5_work 66 = .ok (.iaload, 1) := by decide +kernel
theorem dX5_work_67 : decode cX5_work 67 = .ok (.ifCond .ne 47, 3) := by decide +kernel
theorem dX5_work_70 : decode cX5_work 70 = .ok (.aload_n 0, 1) := by decide +kernel
theorem dX5_work_71 : decode cX5_work 71 = .ok (.getfield 7, 3) := by decide +kernel
theorem dX5_work_74 : decode cX5_work 74 = .ok (.iload_n 1, 1) := by decide +kernel
theorem dX5_work_75 : decode cX5_work 75 = .ok (.iconst 3, 1) := by decide +kernel
theorem dX5_work_76 : decode cX5_work 76 = .ok (.invokestatic 54, 3) := by decide +kernel
theorem dX5_work_79 : decode cX5_work 79 = .ok (.iconst 1, 1) := by decide +kernel
theorem dX5_work_80 : decode cX5_work 80 = .ok (.iastore, 1) := by decide +kernel
theorem dX5_work_81 : decode cX5_work 81 = .ok (.aload_n 0, 1) := by decide +kernel
theorem dX5_work_82 : decode cX5_work 82 = .ok (.getfield 7, 3) := by decide +kernel
theorem dX5_work_85 : decode cX5_work 85 = .ok (.iload_n 1, 1) := by decide +kernel
theorem dX5_work_86 : decode cX5_work 86 = .ok (.iconst 5, 1) := by decide +kernel
theorem dX5_work_87 : decode cX5_work 87 = .ok (.invokestatic 54, 3) := by decide +kernel
theorem dX5_work_90 : decode cX5_work 90 = .ok (.aload_n 0, 1) := by decide +kernel
theorem dX5_work_91 : decode cX5_work 91 = .ok (.getfield 7, 3) := by decide +kernel
theorem dX5_work_94 : decode cX5_work 94 = .ok (.sipush 352, 3) := by decide +kernel
theorem dX5_work_97 : decode cX5_work 97 = .ok (.iaload, 1) := by decide +kernel
theorem dX5_work_98 : decode cX5_work 98 = .ok (.iastore, 1) := by decide +kernel
theorem dX5_work_99 : decode cX5_work 99 = .ok (.aload_n 0, 1) := by decide +kernel
theorem dX5_work_100 : decode cX5_work 100 = .ok (.getfield 7, 3) := by decide +kernel
theorem dX5_work_103 : decode cX5_work 103 = .ok (.iload_n 1, 1) := by decide +kernel
theorem dX5_work_104 : decode cX5_work 104 = .ok (.bipush 12, 2) := by decide +kernel
theorem dX5_work_106 : decode cX5_work 106 = .ok (.invokestatic 54, 3) := by decide +kernel
theorem dX5_work_109 : decode cX5_work 109 = .ok (.dup2, 1) := by decide +kernel
theorem dX5_work_110 : decode cX5_work 110 = .ok (.iaload, 1) := by decide +kernel
theorem dX5_work_111 : decode cX5_work 111 = .ok (.iconst 1, 1) := by decide +kernel
theorem dX5_work_112 : decode cX5_work 112 = .ok (.iadd, 1) := by decide +kernel
theorem dX5_work_113 : decode cX5_work 113 = .ok (.iastore, 1) := by decide +kernel
theorem dX5_work_114 : decode cX5_work 114 = .ok (.iinc 1 1, 3) := by decide +kernel
theorem dX5_work_117 : decode cX5_work 117 = .ok (.goto (-115), 3) := by decide +kernel
theorem dX5_work_120 : decode cX5_work 120 = .ok (.return_, 1) := by decide +kernel
theorem dX5_use_0 : decode cX5_use 0 = .ok (.aload_n 0, 1) := by decide +kernel
theorem dX5_use_1 : decode cX5_use 1 = .ok (.getfield 7, 3) := by decide +kernel
theorem dX5_use_4 : decode cX5_use 4 = .ok (.iload_n 1, 1) := by decide +kernel
theorem dX5_use_5 : decode cX5_use 5 = .ok (.bipush 7, 2) := by decide +kernel
theorem dX5_use_7 : decode cX5_use 7 = .ok (.invokestatic 54, 3) := by decide +kernel
theorem dX5_use_10 : decode cX5_use 10 = .ok (.dup2, 1) := by decide +kernel
theorem dX5_use_11 : decode cX5_use 11 = .ok (.iaload, 1) := by decide +kernel
theorem dX5_use_12 : decode cX5_use 12 = .ok (.iconst 1, 1) := by decide +kernel
theorem dX5_use_13 : decode cX5_use 13 = .ok (.iadd, 1) := by decide +kernel
theorem dX5_use_14 : decode cX5_use 14 = .ok (.iastore, 1) := by decide +kernel
theorem dX5_use_15 : decode cX5_use 15 = .ok (.aload_n 0, 1) := by decide +kernel
theorem dX5_use_16 : decode cX5_use 16 = .ok (.getfield 7, 3) := by decide +kernel
theorem dX5_use_19 : decode cX5_use 19 = .ok (.iload_n 1, 1) := by decide +kernel
theorem dX5_use_20 : decode cX5_use 20 = .ok (.iconst 3, 1) := by decide +kernel
theorem dX5_use_21 : decode cX5_use 21 = .ok (.invokestatic 54, 3) := by decide +kernel
theorem dX5_use_24 : decode cX5_use 24 = .ok (.iaload, 1) := by decide +kernel
theorem dX5_use_25 : decode cX5_use 25 = .ok (.iconst 1, 1) := by decide +kernel
theorem dX5_use_26 : decode cX5_use 26 = .ok (.if_icmp .ne 45, 3) := by decide +kernel
theorem dX5_use_29 : decode cX5_use 29 = .ok (.aload_n 0, 1) := by decide +kernel
theorem dX5_use_30 : decode cX5_use 30 = .ok (.getfield 7, 3) := by decide +kernel
theorem dX5_use_33 : decode cX5_use 33 = .ok (.iload_n 1, 1) := by decide +kernel
theorem dX5_use_34 : decode cX5_use 34 = .ok (.iconst 5, 1) := by decide +kernel
theorem dX5_use_35 : decode cX5_use 35 = .ok (.invokestatic 54, 3) := by decide +kernel
theorem dX5_use_38 : decode cX5_use 38 = .ok (.dup2, 1) := by decide +kernel
theorem dX5_use_39 : decode cX5_use 39 = .ok (.iaload, 1) := by decide +kernel
theorem dX5_use_40 : decode cX5_use 40 = .ok (.iconst 1, 1) := by decide +kernel
theorem dX5_use_41 : decode cX5_use 41 = .ok (.isub, 1) := by decide +kernel
theorem dX5_use_42 : decode cX5_use 42 = .ok (.iastore, 1) := by decide +kernel
theorem dX5_use_43 : decode cX5_use 43 = .ok (.aload_n 0, 1) := by decide +kernel
theorem dX5_use_44 : decode cX5_use 44 = .ok (.getfield 7, 3) := by decide +kernel
theorem dX5_use_47 : decode cX5_use 47 = .ok (.iload_n 1, 1) := by decide +kernel
theorem dX5_use_48 : decode cX5_use 48 = .ok (.iconst 3, 1) := by decide +kernel
theorem dX5_use_49 : decode cX5_use 49 = .ok (.invokestatic 54, 3) := by decide +kernel
theorem dX5_use_52 : decode cX5_use 52 = .ok (.aload_n 0, 1) := by decide +kernel
theorem dX5_use_53 : decode cX5_use 53 = .ok (.getfield 7, 3) := by decide +kernel
theorem dX5_use_56 : decode cX5_use 56 = .ok (.iload_n 1, 1) := by decide +kernel
theorem dX5_use_57 : decode cX5_use 57 = .ok (.iconst 5, 1) := by decide +kernel
theorem dX5_use_58 : decode cX5_use 58 = .ok (.invokestatic 54, 3) := by decide +kernel
theorem dX5_use_61 : decode cX5_use 61 = .ok (.iaload, 1) := by decide +kernel
theorem dX5_use_62 : decode cX5_use 62 = .ok (.ifCond .ne 7, 3) := by decide +kernel
theorem dX5_use_65 : decode cX5_use 65 = .ok (.iconst 0, 1) := by decide +kernel
theorem dX5_use_66 : decode cX5_use 66 = .ok (.goto 4, 3) := by decide +kernel
theorem dX5_use_69 : decode cX5_use 69 = .ok (.iconst 1, 1) := by decide +kernel
theorem dX5_use_70 : decode cX5_use 70 = .ok (.iastore, 1) := by decide +kernel
theorem dX5_use_71 : decode cX5_use 71 = .ok (.return_, 1) := by decide +kernel
theorem dX5_find_0 : decode cX5_find 0 = .ok (.iload_n 1, 1) := by decide +kernel
theorem dX5_find_1 : decode cX5_find 1 = .ok (.aload_n 0, 1) := by decide +kernel
theorem dX5_find_2 : decode cX5_find 2 = .ok (.getfield 7, 3) := by decide +kernel
theorem dX5_find_5 : decode cX5_find 5 = .ok (.sipush 349, 3) := by decide +kernel
theorem dX5_find_8 : decode cX5_find 8 = .ok (.iaload, 1) := by decide +kernel
theorem dX5_find_9 : decode cX5_find 9 = .ok (.irem, 1) := by decide +kernel
theorem dX5_find_10 : decode cX5_find 10 = .ok (.istore_n 2, 1) := by decide +kernel
theorem dX5_find_11 : decode cX5_find 11 = .ok (.aload_n 0, 1) := by decide +kernel
theorem dX5_find_12 : decode cX5_find 12 = .ok (.iload_n 1, 1) := by decide +kernel
theorem dX5_find_13 : decode cX5_find 13 = .ok (.invokevirtual 117, 3) := by decide +kernel
theorem dX5_find_16 : decode cX5_find 16 = .ok (.istore_n 3, 1) := by decide +kernel
theorem dX5_find_17 : decode cX5_find 17 = .ok (.iload_n 3, 1) := by decide +kernel
theorem dX5_find_18 : decode cX5_find 18 = .ok (.ifCond .ge 72, 3) := by decide +kernel
theorem dX5_find_21 : decode cX5_find 21 = .ok (.aload_n 0, 1) := by decide +kernel
theorem dX5_find_22 : decode cX5_find 22 = .ok (.iload_n 1, 1) := by decide +kernel
theorem dX5_find_23 : decode cX5_find 23 = .ok (.invokevirtual 46, 3) := by decide +kernel
theorem dX5_find_26 : decode cX5_find 26 = .ok (.istore 4, 2) := by decide +kernel
theorem dX5_find_28 : decode cX5_find 28 = .ok (.iload 4, 2) := by decide +kernel
theorem dX5_find_30 : decode cX5_find 30 = .ok (.ifCond .ge 7, 3) := by decide +kernel
theorem dX5_find_33 : decode cX5_find 33 = .ok (.iconst (-1), 1) := by decide +kernel
theorem dX5_find_34 : decode cX5_find 34 = .ok (.goto 17, 3) := by decide +kernel
theorem dX5_find_37 : decode cX5_find 37 = .ok (.aload_n 0, 1) := by decide +kernel
theorem dX5_find_38 : decode cX5_find 38 = .ok (.getfield 7, 3) := by decide +kernel
theorem dX5_find_41 : decode cX5_find 41 = .ok (.bipush 104, 2) := by decide +kernel
theorem dX5_find_43 : decode cX5_find 43 = .ok (.iconst 2, 1) := by decide +kernel
theorem dX5_find_44 : decode cX5_find 44 = .ok (.iload 4, 2) := by decide +kernel
theorem dX5_find_46 : decode cX5_find 46 = .ok (.imul, 1) := by decide +kernel
theorem dX5_find_47 : decode cX5_find 47 = .ok (.iadd, 1) := by decide +kernel
theorem dX5_find_48 : decode cX5_find 48 = .ok (.iconst 1, 1) := by decide +kernel
theorem dX5_find_49 : decode cX5_find 49 = .ok (.iadd, 1) := by decide +kernel
theorem dX5_find_50 : decode cX5_find 50 = .ok (.iaload, 1) := by decide +kernel
theorem dX5_find_51 : decode cX5_find 51 = .ok (.istore 5, 2) := by decide +kernel
theorem dX5_find_53 : decode cX5_find 53 = .ok (.iload 5, 2) := by decide +kernel
theorem dX5_find_55 : decode cX5_find 55 = .ok (.iconst (-1), 1) := by decide +kernel
theorem dX5_find_56 : decode cX5_find 56 = .ok (.if_icmp .eq 26, 3) := by decide +kernel
theorem dX5_find_59 : decode cX5_find 59 = .ok (.aload_n 0, 1) := by decide +kernel
theorem dX5_find_60 : decode cX5_find 60 = .ok (.iload 5, 2) := by decide +kernel
theorem dX5_find_62 : decode cX5_find 62 = .ok (.iconst 2, 1) := by decide +kernel
theorem dX5_find_63 : decode cX5_find 63 = .ok (.invokevirtual 57, 3) := by decide +kernel
theorem dX5_find_66 : decode cX5_find 66 = .ok (.aload_n 0, 1) := by decide +kernel
theorem dX5_find_67 : decode cX5_find 67 = .ok (.getfield 7, 3) := by decide +kernel
theorem dX5_find_70 : decode cX5_find 70 = .ok (.iload 5, 2) := by decide +kernel
theorem dX5_find_72 : decode cX5_find 72 = .ok (.bipush 9, 2) := by decide +kernel
theorem dX5_find_74 : decode cX5_find 74 = .ok (.invokestatic 54, 3) := by decide +kernel
theorem dX5_find_77 : decode cX5_find 77 = .ok (.dup2, 1) := by decide +kernel
theorem dX5_find_78 : decode cX5_find 78 = .ok (.iaload, 1) := by decide +kernel
theorem dX5_find_79 : decode cX5_find 79 = .ok (.iconst 1, 1) := by decide +kernel
theorem dX5_find_80 : decode cX5_find 80 = .ok (.iadd, 1) := by decide +kernel
theorem dX5_find_81 : decode cX5_find 81 = .ok (.iastore, 1) := by decide +kernel
theorem dX5_find_82 : decode cX5_find 82 = .ok (.aload_n 0, 1) := by decide +kernel
theorem dX5_find_83 : decode cX5_find 83 = .ok (.iload_n 1, 1) := by decide +kernel
theorem dX5_find_84 : decode cX5_find 84 = .ok (.iconst (-1), 1) := by decide +kernel
theorem dX5_find_85 : decode cX5_find 85 = .ok (.invokevirtual 120, 3) := by decide +kernel
theorem dX5_find_88 : decode cX5_find 88 = .ok (.iconst 0, 1) := by decide +kernel
theorem dX5_find_89 : decode cX5_find 89 = .ok (.ireturn, 1) := by decide +kernel
theorem dX5_find_90 : decode cX5_find 90 = .ok (.aload_n 0, 1) := by decide +kernel
theorem dX5_find_91 : decode cX5_find 91 = .ok (.getfield 7, 3) := by decide +kernel
theorem dX5_find_94 : decode cX5_find 94 = .ok (.iload_n 2, 1) := by decide +kernel
theorem dX5_find_95 : decode cX5_find 95 = .ok (.iload_n 3, 1) := by decide +kernel
theorem dX5_find_96 : decode cX5_find 96 = .ok (.invokestatic 42, 3) := by decide +kernel
theorem dX5_find_99 : decode cX5_find 99 = .ok (.iconst 1, 1) := by decide +kernel
theorem dX5_find_100 : decode cX5_find 100 = .ok (.iadd, 1) := by decide +kernel
theorem dX5_find_101 : decode cX5_find 101 = .ok (.iaload, 1) := by decide +kernel
theorem dX5_find_102 : decode cX5_find 102 = .ok (.istore 4, 2) := by decide +kernel
theorem dX5_find_104 : decode cX5_find 104 = .ok (.aload_n 0, 1) := by decide +kernel
theorem dX5_find_105 : decode cX5_find 105 = .ok (.getfield 7, 3) := by decide +kernel
theorem dX5_find_108 : decode cX5_find 108 = .ok (.iload_n 2, 1) := by decide +kernel
theorem dX5_find_109 : decode cX5_find 109 = .ok (.iload_n 3, 1) := by decide +kernel
theorem dX5_find_110 : decode cX5_find 110 = .ok (.invokestatic 42, 3) := by decide +kernel
theorem dX5_find_113 : decode cX5_find 113 = .ok (.iconst 2, 1) := by decide +kernel
theorem dX5_find_114 : decode cX5_find 114 = .ok (.iadd, 1) := by decide +kernel
theorem dX5_find_115 : decode cX5_find 115 = .ok (.iaload, 1) := by decide +kernel
theorem dX5_find_116 : decode cX5_find 116 = .ok (.iconst 1, 1) := by decide +kernel
theorem dX5_find_117 : decode cX5_find 117 = .ok (.if_icmp .ne 7, 3) := by decide +kernel
theorem dX5_find_120 : decode cX5_find 120 = .ok (.iconst 1, 1) := by decide +kernel
theorem dX5_find_121 : decode cX5_find 121 = .ok (.goto 4, 3) := by decide +kernel
theorem dX5_find_124 : decode cX5_find 124 = .ok (.iconst 0, 1) := by decide +kernel
theorem dX5_find_125 : decode cX5_find 125 = .ok (.istore 5, 2) := by decide +kernel
theorem dX5_find_127 : decode cX5_find 127 = .ok (.aload_n 0, 1) := by decide +kernel
theorem dX5_find_128 : decode cX5_find 128 = .ok (.iload_n 2, 1) := by decide +kernel
theorem dX5_find_129 : decode cX5_find 129 = .ok (.iload_n 3, 1) := by decide +kernel
theorem dX5_find_130 : decode cX5_find 130 = .ok (.invokevirtual 60, 3) := by decide +kernel
theorem dX5_find_133 : decode cX5_find 133 = .ok (.aload_n 0, 1) := by decide +kernel
theorem dX5_find_134 : decode cX5_find 134 = .ok (.iload_n 2, 1) := by decide +kernel
theorem dX5_find_135 : decode cX5_find 135 = .ok (.iload_n 1, 1) := by decide +kernel
theorem dX5_find_136 : decode cX5_find 136 = .ok (.iload 4, 2) := by decide +kernel
theorem dX5_find_138 : decode cX5_find 138 = .ok (.iconst 0, 1) := by decide +kernel
theorem dX5_find_139 : decode cX5_find 139 = .ok (.invokevirtual 69, 3) := by decide +kernel
theorem dX5_find_142 : decode cX5_find 142 = .ok (.iload 5, 2) := by decide +kernel
theorem dX5_find_144 : decode cX5_find 144 = .ok (.ifCond .eq 9, 3) := by decide +kernel
theorem dX5_find_147 : decode cX5_find 147 = .ok (.aload_n 0, 1) := by decide +kernel
theorem dX5_find_148 : decode cX5_find 148 = .ok (.iload 4, 2) := by decide +kernel
theorem dX5_find_150 : decode cX5_find 150 = .ok (.invokevirtual 123, 3) := by decide +kernel
theorem dX5_find_153 : decode cX5_find 153 = .ok (.iload 5, 2) := by decide +kernel
theorem dX5_find_155 : decode cX5_find 155 = .ok (.ifCond .eq 7, 3) := by decide +kernel
theorem dX5_find_158 : decode cX5_find 158 = .ok (.iconst 2, 1) := by decide +kernel
theorem dX5_find_159 : decode cX5_find 159 = .ok (.goto 4, 3) := by decide +kernel
theorem dX5_find_162 : decode cX5_find 162 = .ok (.iconst 1, 1) := by decide +kernel
theorem dX5_find_163 : decode cX5_find 163 = .ok (.ireturn, 1) := by decide +kernel
theorem dX5_go_0 : decode cX5_go 0 = .ok (.aload_n 0, 1) := by decide +kernel
theorem dX5_go_1 : decode cX5_go 1 = .ok (.invokevirtual 126, 3) := by decide +kernel
theorem dX5_go_4 : decode cX5_go 4 = .ok (.aload_n 0, 1) := by decide +kernel
theorem dX5_go_5 : decode cX5_go 5 = .ok (.iload_n 2, 1) := by decide +kernel
theorem dX5_go_6 : decode cX5_go 6 = .ok (.invokevirtual 129, 3) := by decide +kernel
theorem dX5_go_9 : decode cX5_go 9 = .ok (.istore_n 3, 1) := by decide +kernel
theorem dX5_go_10 : decode cX5_go 10 = .ok (.iconst 0, 1) := by decide +kernel
theorem dX5_go_11 : decode cX5_go 11 = .ok (.istore 4, 2) := by decide +kernel
theorem dX5_go_13 : decode cX5_go 13 = .ok (.iconst 0, 1) := by decide +kernel
theorem dX5_go_14 : decode cX5_go 14 = .ok (.istore 5, 2) := by decide +kernel
theorem dX5_go_16 : decode cX5_go 16 = .ok (.iload 5, 2) := by decide +kernel
theorem dX5_go_18 : decode cX5_go 18 = .ok (.aload_n 0, 1) := by decide +kernel
theorem dX5_go_19 : decode cX5_go 19 = .ok (.getfield 7, 3) := by decide +kernel
theorem dX5_go_22 : decode cX5_go 22 = .ok (.sipush 351, 3) := by decide +kernel
theorem dX5_go_25 : decode cX5_go 25 = .ok (.iaload, 1) := by decide +kernel
theorem dX5_go_26 : decode cX5_go 26 = .ok (.if_icmp .ge 30, 3) := by decide +kernel
theorem dX5_go_29 : decode cX5_go 29 = .ok (.aload_n 0, 1) := by decide +kernel
theorem dX5_go_30 : decode cX5_go 30 = .ok (.iload 5, 2) := by decide +kernel
theorem dX5_go_32 : decode cX5_go 32 = .ok (.iload_n 1, 1) := by decide +kernel
theorem dX5_go_33 : decode cX5_go 33 = .ok (.iload_n 2, 1) := by decide +kernel
theorem dX5_go_34 : decode cX5_go 34 = .ok (.iload_n 3, 1) := by decide +kernel
theorem dX5_go_35 : decode cX5_go 35 = .ok (.invokevirtual 132, 3) := by decide +kernel
theorem dX5_go_38 : decode cX5_go 38 = .ok (.iload 4, 2) := by decide +kernel
theorem dX5_go_40 : decode cX5_go 40 = .ok (.aload_n 0, 1) := by decide +kernel
theorem dX5_go_41 : decode cX5_go 41 = .ok (.iload 5, 2) := by decide +kernel
theorem dX5_go_43 : decode cX5_go 43 = .ok (.iload_n 2, 1) := by decide +kernel
theorem dX5_go_44 : decode cX5_go 44 = .ok (.invokevirtual 135, 3) := by decide +kernel
theorem dX5_go_47 : decode cX5_go 47 = .ok (.iadd, 1) := by decide +kernel
theorem dX5_go_48 : decode cX5_go 48 = .ok (.istore 4, 2) := by decide +kernel
theorem dX5_go_50 : decode cX5_go 50 = .ok (.iinc 5 1, 3) := by decide +kernel
theorem dX5_go_53 : decode cX5_go 53 = .ok (.goto (-37), 3) := by decide +kernel
theorem dX5_go_56 : decode cX5_go 56 = .ok (.sipush 300, 3) := by decide +kernel
theorem dX5_go_59 : decode cX5_go 59 = .ok (.iconst 4, 1) := by decide +kernel
theorem dX5_go_60 : decode cX5_go 60 = .ok (.aload_n 0, 1) := by decide +kernel
theorem dX5_go_61 : decode cX5_go 61 = .ok (.getfield 7, 3) := by decide +kernel
theorem dX5_go_64 : decode cX5_go 64 = .ok (.sipush 353, 3) := by decide +kernel
theorem dX5_go_67 : decode cX5_go 67 = .ok (.iaload, 1) := by decide +kernel
theorem dX5_go_68 : decode cX5_go 68 = .ok (.bipush 12, 2) := by decide +kernel
theorem dX5_go_70 : decode cX5_go 70 = .ok (.irem, 1) := by decide +kernel
theorem dX5_go_71 : decode cX5_go 71 = .ok (.imul, 1) := by decide +kernel
theorem dX5_go_72 : decode cX5_go 72 = .ok (.iadd, 1) := by decide +kernel
theorem dX5_go_73 : decode cX5_go 73 = .ok (.istore 5, 2) := by decide +kernel
theorem dX5_go_75 : decode cX5_go 75 = .ok (.aload_n 0, 1) := by decide +kernel
theorem dX5_go_76 : decode cX5_go 76 = .ok (.getfield 7, 3) := by decide +kernel
theorem dX5_go_79 : decode cX5_go 79 = .ok (.iload 5, 2) := by decide +kernel
theorem dX5_go_81 : decode cX5_go 81 = .ok (.iload_n 1, 1) := by decide +kernel
theorem dX5_go_82 : decode cX5_go 82 = .ok (.iastore, 1) := by decide +kernel
theorem dX5_go_83 : decode cX5_go 83 = .ok (.aload_n 0, 1) := by decide +kernel
theorem dX5_go_84 : decode cX5_go 84 = .ok (.getfield 7, 3) := by decide +kernel
theorem dX5_go_87 : decode cX5_go 87 = .ok (.iload 5, 2) := by decide +kernel
theorem dX5_go_89 : decode cX5_go 89 = .ok (.iconst 1, 1) := by decide +kernel
theorem dX5_go_90 : decode cX5_go 90 = .ok (.iadd, 1) := by decide +kernel
theorem dX5_go_91 : decode cX5_go 91 = .ok (.iload_n 2, 1) := by decide +kernel
theorem dX5_go_92 : decode cX5_go 92 = .ok (.iastore, 1) := by decide +kernel
theorem dX5_go_93 : decode cX5_go 93 = .ok (.aload_n 0, 1) := by decide +kernel
theorem dX5_go_94 : decode cX5_go 94 = .ok (.getfield 7, 3) := by decide +kernel
theorem dX5_go_97 : decode cX5_go 97 = .ok (.iload 5, 2) := by decide +kernel
theorem dX5_go_99 : decode cX5_go 99 = .ok (.iconst 2, 1) := by decide +kernel
theorem dX5_go_100 : decode cX5_go 100 = .ok (.iadd, 1) := by decide +kernel
theorem dX5_go_101 : decode cX5_go 101 = .ok (.iload_n 3, 1) := by decide +kernel
theorem dX5_go_102 : decode cX5_go 102 = .ok (.iastore, 1) := by decide +kernel
theorem dX5_go_103 : decode cX5_go 103 = .ok (.aload_n 0, 1) := by decide +kernel
theorem dX5_go_104 : decode cX5_go 104 = .ok (.getfield 7, 3) := by decide +kernel
theorem dX5_go_107 : decode cX5_go 107 = .ok (.iload 5, 2) := by decide +kernel
theorem dX5_go_109 : decode cX5_go 109 = .ok (.iconst 3, 1) := by decide +kernel
theorem dX5_go_110 : decode cX5_go 110 = .ok (.iadd, 1) := by decide +kernel
theorem dX5_go_111 : decode cX5_go 111 = .ok (.iload 4, 2) := by decide +kernel
theorem dX5_go_113 : decode cX5_go 113 = .ok (.iastore, 1) := by decide +kernel
theorem dX5_go_114 : decode cX5_go 114 = .ok (.aload_n 0, 1) := by decide +kernel
theorem dX5_go_115 : decode cX5_go 115 = .ok (.getfield 7, 3) := by decide +kernel
theorem dX5_go_118 : decode cX5_go 118 = .ok (.sipush 353, 3) := by decide +kernel
theorem dX5_go_121 : decode cX5_go 121 = .ok (.dup2, 1) := by decide +kernel
theorem dX5_go_122 : decode cX5_go 122 = .ok (.iaload, 1) := by decide +kernel
theorem dX5_go_123 : decode cX5_go 123 = .ok (.iconst 1, 1) := by decide +kernel
theorem dX5_go_124 : decode cX5_go 124 = .ok (.iadd, 1) := by decide +kernel
theorem dX5_go_125 : decode cX5_go 125 = .ok (.iastore, 1) := by decide +kernel
theorem dX5_go_126 : decode cX5_go 126 = .ok (.aload_n 0, 1) := by decide +kernel
theorem dX5_go_127 : decode cX5_go 127 = .ok (.getfield 7, 3) := by decide +kernel
theorem dX5_go_130 : decode cX5_go 130 = .ok (.sipush 354, 3) := by decide +kernel
theorem dX5_go_133 : decode cX5_go 133 = .ok (.dup2, 1) := by decide +kernel
theorem dX5_go_134 : decode cX5_go 134 = .ok (.iaload, 1) := by decide +kernel
theorem dX5_go_135 : decode cX5_go 135 = .ok (.iload_n 3, 1) := by decide +kernel
theorem dX5_go_136 : decode cX5_go 136 = .ok (.ifCond .ne 7, 3) := by decide +kernel
theorem dX5_go_139 : decode cX5_go 139 = .ok (.iconst 0, 1) := by decide +kernel
theorem dX5_go_140 : decode cX5_go 140 = .ok (.goto 4, 3) := by decide +kernel
theorem dX5_go_143 : decode cX5_go 143 = .ok (.iconst 1, 1) := by decide +kernel
theorem dX5_go_144 : decode cX5_go 144 = .ok (.iadd, 1) := by decide +kernel
theorem dX5_go_145 : decode cX5_go 145 = .ok (.iastore, 1) := by decide +kernel
theorem dX5_go_146 : decode cX5_go 146 = .ok (.aload_n 0, 1) := by decide +kernel
theorem dX5_go_147 : decode cX5_go 147 = .ok (.getfield 7, 3) := by decide +kernel
theorem dX5_go_150 : decode cX5_go 150 = .ok (.sipush 355, 3) := by decide +kernel
theorem dX5_go_153 : decode cX5_go 153 = .ok (.dup2, 1) := by decide +kernel
theorem dX5_go_154 : decode cX5_go 154 = .ok (.iaload, 1) := by decide +kernel
theorem dX5_go_155 : decode cX5_go 155 = .ok (.iload_n 3, 1) := by decide +kernel
theorem dX5_go_156 : decode cX5_go 156 = .ok (.iconst 2, 1) := by decide +kernel
theorem dX5_go_157 : decode cX5_go 157 = .ok (.if_icmp .ne 7, 3) := by decide +kernel
theorem dX5_go_160 : decode cX5_go 160 = .ok (.iconst 1, 1) := by decide +kernel
theorem dX5_go_161 : decode cX5_go 161 = .ok (.goto 4, 3) := by decide +kernel
theorem dX5_go_164 : decode cX5_go 164 = .ok (.iconst 0, 1) := by decide +kernel
theorem dX5_go_165 : decode cX5_go 165 = .ok (.iadd, 1) := by decide +kernel
theorem dX5_go_166 : decode cX5_go 166 = .ok (.iastore, 1) := by decide +kernel
theorem dX5_go_167 : decode cX5_go 167 = .ok (.aload_n 0, 1) := by decide +kernel
theorem dX5_go_168 : decode cX5_go 168 = .ok (.getfield 7, 3) := by decide +kernel
theorem dX5_go_171 : decode cX5_go 171 = .ok (.sipush 356, 3) := by decide +kernel
theorem dX5_go_174 : decode cX5_go 174 = .ok (.dup2, 1) := by decide +kernel
theorem dX5_go_175 : decode cX5_go 175 = .ok (.iaload, 1) := by decide +kernel
theorem dX5_go_176 : decode cX5_go 176 = .ok (.iload 4, 2) := by decide +kernel
theorem dX5_go_178 : decode cX5_go 178 = .ok (.iadd, 1) := by decide +kernel
theorem dX5_go_179 : decode cX5_go 179 = .ok (.iastore, 1) := by decide +kernel
theorem dX5_go_180 : decode cX5_go 180 = .ok (.iload_n 3, 1) := by decide +kernel
theorem dX5_go_181 : decode cX5_go 181 = .ok (.ireturn, 1) := by decide +kernel
theorem dX5_isAccess_0 : decode cX5_isAccess 0 = .ok (.iload_n 0, 1) := by decide +kernel
theorem dX5_isAccess_1 : decode cX5_isAccess 1 = .ok (.iconst 0, 1) := by decide +kernel
theorem dX5_isAccess_2 : decode cX5_isAccess 2 = .ok (.bipush 15, 2) := by decide +kernel
theorem dX5_isAccess_4 : decode cX5_isAccess 4 = .ok (.invokestatic 23, 3) := by decide +kernel
theorem dX5_isAccess_7 : decode cX5_isAccess 7 = .ok (.ifCond .eq 14, 3) := by decide +kernel
theorem dX5_isAccess_10 : decode cX5_isAccess 10 = .ok (.iload_n 1, 1) := by decide +kernel
theorem dX5_isAccess_11 : decode cX5_isAccess 11 = .ok (.invokestatic 111, 3) := by decide +kernel
theorem dX5_isAccess_14 : decode cX5_isAccess 14 = .ok (.ifCond .eq 7, 3) := by decide +kernel
theorem dX5_isAccess_17 : decode cX5_isAccess 17 = .ok (.iconst 1, 1) := by decide +kernel
theorem dX5_isAccess_18 : decode cX5_isAccess 18 = .ok (.goto 4, 3) := by decide +kernel
theorem dX5_isAccess_21 : decode cX5_isAccess 21 = .ok (.iconst 0, 1) := by decide +kernel
theorem dX5_isAccess_22 : decode cX5_isAccess 22 = .ok (.ireturn, 1) := by decide +kernel
theorem dX5_access_0 : decode cX5_access 0 = .ok (.iload_n 1, 1) := by decide +kernel
theorem dX5_access_1 : decode cX5_access 1 = .ok (.iload_n 2, 1) := by decide +kernel
theorem dX5_access_2 : decode cX5_access 2 = .ok (.invokestatic 138, 3) := by decide +kernel
theorem dX5_access_5 : decode cX5_access 5 = .ok (.ifCond .ne 6, 3) := by decide +kernel
theorem dX5_access_8 : decode cX5_access 8 = .ok (.ldc 77, 2) := by decide +kernel
theorem dX5_access_10 : decode cX5_access 10 = .ok (.ireturn, 1) := by decide +kernel
theorem dX5_access_11 : decode cX5_access 11 = .ok (.aload_n 0, 1) := by decide +kernel
theorem dX5_access_12 : decode cX5_access 12 = .ok (.invokevirtual 39, 3) := by decide +kernel
theorem dX5_access_15 : decode cX5_access 15 = .ok (.aload_n 0, 1) := by decide +kernel
theorem dX5_access_16 : decode cX5_access 16 = .ok (.iload_n 1, 1) := by decide +kernel
theorem dX5_access_17 : decode cX5_access 17 = .ok (.iload_n 2, 1) := by decide +kernel
theorem dX5_access_18 : decode cX5_access 18 = .ok (.invokevirtual 142, 3) := by decide +kernel
theorem dX5_access_21 : decode cX5_access 21 = .ok (.ireturn, 1) := by decide +kernel
theorem dX5_isWalk_0 : decode cX5_isWalk 0 = .ok (.iload_n 0, 1) := by decide +kernel
theorem dX5_isWalk_1 : decode cX5_isWalk 1 = .ok (.iload_n 1, 1) := by decide +kernel
theorem dX5_isWalk_2 : decode cX5_isWalk 2 = .ok (.invokestatic 138, 3) := by decide +kernel
theorem dX5_isWalk_5 : decode cX5_isWalk 5 = .ok (.ifCond .eq 43, 3) := by decide +kernel
theorem dX5_isWalk_8 : decode cX5_isWalk 8 = .ok (.iload_n 2, 1) := by decide +kernel
theorem dX5_isWalk_9 : decode cX5_isWalk 9 = .ok (.sipush (-999), 3) := by decide +kernel
theorem dX5_isWalk_12 : decode cX5_isWalk 12 = .ok (.sipush 999, 3) := by decide +kernel
theorem dX5_isWalk_15 : decode cX5_isWalk 15 = .ok (.invokestatic 23, 3) := by decide +kernel
theorem dX5_isWalk_18 : decode cX5_isWalk 18 = .ok (.ifCond .eq 30, 3) := by decide +kernel
theorem dX5_isWalk_21 : decode cX5_isWalk 21 = .ok (.iload_n 3, 1) := by decide +kernel
theorem dX5_isWalk_22 : decode cX5_isWalk 22 = .ok (.iconst 1, 1) := by decide +kernel
theorem dX5_isWalk_23 : decode cX5_isWalk 23 = .ok (.bipush 30, 2) := by decide +kernel
theorem dX5_isWalk_25 : decode cX5_isWalk 25 = .ok (.invokestatic 23, 3) := by decide +kernel
theorem dX5_isWalk_28 : decode cX5_isWalk 28 = .ok (.ifCond .eq 20, 3) := by decide +kernel
theorem dX5_isWalk_31 : decode cX5_isWalk 31 = .ok (.iload_n 1, 1) := by decide +kernel
theorem dX5_isWalk_32 : decode cX5_isWalk 32 = .ok (.iload_n 2, 1) := by decide +kernel
theorem dX5_isWalk_33 : decode cX5_isWalk 33 = .ok (.iload_n 3, 1) := by decide +kernel
theorem dX5_isWalk_34 : decode cX5_isWalk 34 = .ok (.iconst 1, 1) := by decide +kernel
theorem dX5_isWalk_35 : decode cX5_isWalk 35 = .ok (.isub, 1) := by decide +kernel
theorem dX5_isWalk_36 : decode cX5_isWalk 36 = .ok (.imul, 1) := by decide +kernel
theorem dX5_isWalk_37 : decode cX5_isWalk 37 = .ok (.iadd, 1) := by decide +kernel
theorem dX5_isWalk_38 : decode cX5_isWalk 38 = .ok (.invokestatic 111, 3) := by decide +kernel
theorem dX5_isWalk_41 : decode cX5_isWalk 41 = .ok (.ifCond .eq 7, 3) := by decide +kernel
theorem dX5_isWalk_44 : decode cX5_isWalk 44 = .ok (.iconst 1, 1) := by decide +kernel
theorem dX5_isWalk_45 : decode cX5_isWalk 45 = .ok (.goto 4, 3) := by decide +kernel
theorem dX5_isWalk_48 : decode cX5_isWalk 48 = .ok (.iconst 0, 1) := by decide +kernel
theorem dX5_isWalk_49 : decode cX5_isWalk 49 = .ok (.ireturn, 1) := by decide +kernel
theorem dX5_goOn_0 : decode cX5_goOn 0 = .ok (.iconst 0, 1) := by decide +kernel
theorem dX5_goOn_1 : decode cX5_goOn 1 = .ok (.istore 5, 2) := by decide +kernel
theorem dX5_goOn_3 : decode cX5_goOn 3 = .ok (.iconst 0, 1) := by decide +kernel
theorem dX5_goOn_4 : decode cX5_goOn 4 = .ok (.istore 6, 2) := by decide +kernel
theorem dX5_goOn_6 : decode cX5_goOn 6 = .ok (.iload 6, 2) := by decide +kernel
theorem dX5_goOn_8 : decode cX5_goOn 8 = .ok (.iload 4, 2) := by decide +kernel
theorem dX5_goOn_10 : decode cX5_goOn 10 = .ok (.if_icmp .ge 33, 3) := by decide +kernel
theorem dX5_goOn_13 : decode cX5_goOn 13 = .ok (.iload 5, 2) := by decide +kernel
theorem dX5_goOn_15 : decode cX5_goOn 15 = .ok (.aload_n 0, 1) := by decide +kernel
theorem dX5_goOn_16 : decode cX5_goOn 16 = .ok (.iload_n 1, 1) := by decide +kernel
theorem dX5_goOn_17 : decode cX5_goOn 17 = .ok (.iload_n 2, 1) := by decide +kernel
theorem dX5_goOn_18 : decode cX5_goOn 18 = .ok (.iload 6, 2) := by decide +kernel
theorem dX5_goOn_20 : decode cX5_goOn 20 = .ok (.iload_n 3, 1) := by decide +kernel
theorem dX5_goOn_21 : decode cX5_goOn 21 = .ok (.imul, 1) := by decide +kernel
theorem dX5_goOn_22 : decode cX5_goOn 22 = .ok (.iadd, 1) := by decide +kernel
theorem dX5_goOn_23 : decode cX5_goOn 23 = .ok (.invokevirtual 142, 3) := by decide +kernel
theorem dX5_goOn_26 : decode cX5_goOn 26 = .ok (.ifCond .ne 7, 3) := by decide +kernel
theorem dX5_goOn_29 : decode cX5_goOn 29 = .ok (.iconst 0, 1) := by decide +kernel
theorem dX5_goOn_30 : decode cX5_goOn 30 = .ok (.goto 4, 3) := by decide +kernel
theorem dX5_goOn_33 : decode cX5_goOn 33 = .ok (.iconst 1, 1) := by decide +kernel
theorem dX5_goOn_34 : decode cX5_goOn 34 = .ok (.iadd, 1) := by decide +kernel
theorem dX5_goOn_35 : decode cX5_goOn 35 = .ok (.istore 5, 2) := by decide +kernel
theorem dX5_goOn_37 : decode cX5_goOn 37 = .ok (.iinc 6 1, 3) := by decide +kernel
theorem dX5_goOn_40 : decode cX5_goOn 40 = .ok (.goto (-34), 3) := by decide +kernel
theorem dX5_goOn_43 : decode cX5_goOn 43 = .ok (.iload 5, 2) := by decide +kernel
theorem dX5_goOn_45 : decode cX5_goOn 45 = .ok (.ireturn, 1) := by decide +kernel
theorem dX5_walk_0 : decode cX5_walk 0 = .ok (.iload_n 1, 1) := by decide +kernel
theorem dX5_walk_1 : decode cX5_walk 1 = .ok (.iload_n 2, 1) := by decide +kernel
theorem dX5_walk_2 : decode cX5_walk 2 = .ok (.iload_n 3, 1) := by decide +kernel
theorem dX5_walk_3 : decode cX5_walk 3 = .ok (.iload 4, 2) := by decide +kernel
theorem dX5_walk_5 : decode cX5_walk 5 = .ok (.invokestatic 145, 3) := by decide +kernel
theorem dX5_walk_8 : decode cX5_walk 8 = .ok (.ifCond .ne 6, 3) := by decide +kernel
theorem dX5_walk_11 : decode cX5_walk 11 = .ok (.ldc 77, 2) := by decide +kernel
theorem dX5_walk_13 : decode cX5_walk 13 = .ok (.ireturn, 1) := by decide +kernel
theorem dX5_walk_14 : decode cX5_walk 14 = .ok (.aload_n 0, 1) := by decide +kernel
theorem dX5_walk_15 : decode cX5_walk 15 = .ok (.invokevirtual 39, 3) := by decide +kernel
theorem dX5_walk_18 : decode cX5_walk 18 = .ok (.aload_n 0, 1) := by decide +kernel
theorem dX5_walk_19 : decode cX5_walk 19 = .ok (.iload_n 1, 1) := by decide +kernel
theorem dX5_walk_20 : decode cX5_walk 20 = .ok (.iload_n 2, 1) := by decide +kernel
theorem dX5_walk_21 : decode cX5_walk 21 = .ok (.iload_n 3, 1) := by decide +kernel
theorem dX5_walk_22 : decode cX5_walk 22 = .ok (.iload 4, 2) := by decide +kernel
theorem dX5_walk_24 : decode cX5_walk 24 = .ok (.invokevirtual 149, 3) := by decide +kernel
theorem dX5_walk_27 : decode cX5_walk 27 = .ok (.ireturn, 1) := by decide +kernel
theorem dX5_wouldHit_0 : decode cX5_wouldHit 0 = .ok (.iload_n 1, 1) := by decide +kernel
theorem dX5_wouldHit_1 : decode cX5_wouldHit 1 = .ok (.iload_n 2, 1) := by decide +kernel
theorem dX5_wouldHit_2 : decode cX5_wouldHit 2 = .ok (.iload_n 3, 1) := by decide +kernel
theorem dX5_wouldHit_3 : decode cX5_wouldHit 3 = .ok (.iload 4, 2) := by decide +kernel
theorem dX5_wouldHit_5 : decode cX5_wouldHit 5 = .ok (.invokestatic 145, 3) := by decide +kernel
theorem dX5_wouldHit_8 : decode cX5_wouldHit 8 = .ok (.ifCond .ne 6, 3) := by decide +kernel
theorem dX5_wouldHit_11 : decode cX5_wouldHit 11 = .ok (.ldc 77, 2) := by decide +kernel
theorem dX5_wouldHit_13 : decode cX5_wouldHit 13 = .ok (.ireturn, 1) := by decide +kernel
theorem dX5_wouldHit_14 : decode cX5_wouldHit 14 = .ok (.aload_n 0, 1) := by decide +kernel
theorem dX5_wouldHit_15 : decode cX5_wouldHit 15 = .ok (.iconst 0, 1) := by decide +kernel
theorem dX5_wouldHit_16 : decode cX5_wouldHit 16 = .ok (.sipush 2148, 3) := by decide +kernel
theorem dX5_wouldHit_19 : decode cX5_wouldHit 19 = .ok (.invokevirtual 30, 3) := by decide +kernel
theorem dX5_wouldHit_22 : decode cX5_wouldHit 22 = .ok (.aload_n 0, 1) := by decide +kernel
theorem dX5_wouldHit_23 : decode cX5_wouldHit 23 = .ok (.iload_n 1, 1) := by decide +kernel
theorem dX5_wouldHit_24 : decode cX5_wouldHit 24 = .ok (.iload_n 2, 1) := by decide +kernel
theorem dX5_wouldHit_25 : decode cX5_wouldHit 25 = .ok (.iload_n 3, 1) := by decide +kernel
theorem dX5_wouldHit_26 : decode cX5_wouldHit 26 = .ok (.iload 4, 2) := by decide +kernel
theorem dX5_wouldHit_28 : decode cX5_wouldHit 28 = .ok (.invokevirtual 149, 3) := by decide +kernel
theorem dX5_wouldHit_31 : decode cX5_wouldHit 31 = .ok (.istore 5, 2) := by decide +kernel
theorem dX5_wouldHit_33 : decode cX5_wouldHit 33 = .ok (.aload_n 0, 1) := by decide +kernel
theorem dX5_wouldHit_34 : decode cX5_wouldHit 34 = .ok (.sipush 2148, 3) := by decide +kernel
theorem dX5_wouldHit_37 : decode cX5_wouldHit 37 = .ok (.iconst 0, 1) := by decide +kernel
theorem dX5_wouldHit_38 : decode cX5_wouldHit 38 = .ok (.invokevirtual 30, 3) := by decide +kernel
theorem dX5_wouldHit_41 : decode cX5_wouldHit 41 = .ok (.iload 5, 2) := by decide +kernel
theorem dX5_wouldHit_43 : decode cX5_wouldHit 43 = .ok (.ireturn, 1) := by decide +kernel
theorem dX5_wouldAsk_0 : decode cX5_wouldAsk 0 = .ok (.aload_n 0, 1) := by decide +kernel
theorem dX5_wouldAsk_1 : decode cX5_wouldAsk 1 = .ok (.iload_n 1, 1) := by decide +kernel
theorem dX5_wouldAsk_2 : decode cX5_wouldAsk 2 = .ok (.invokevirtual 82, 3) := by decide +kernel
theorem dX5_wouldAsk_5 : decode cX5_wouldAsk 5 = .ok (.ifCond .ne 6, 3) := by decide +kernel
theorem dX5_wouldAsk_8 : decode cX5_wouldAsk 8 = .ok (.ldc 86, 2) := by decide +kernel
theorem dX5_wouldAsk_10 : decode cX5_wouldAsk 10 = .ok (.ireturn, 1) := by decide +kernel
theorem dX5_wouldAsk_11 : decode cX5_wouldAsk 11 = .ok (.iload_n 2, 1) := by decide +kernel
theorem dX5_wouldAsk_12 : decode cX5_wouldAsk 12 = .ok (.iload_n 3, 1) := by decide +kernel
theorem dX5_wouldAsk_13 : decode cX5_wouldAsk 13 = .ok (.invokestatic 138, 3) := by decide +kernel
theorem dX5_wouldAsk_16 : decode cX5_wouldAsk 16 = .ok (.ifCond .eq 8, 3) := by decide +kernel
theorem dX5_wouldAsk_19 : decode cX5_wouldAsk 19 = .ok (.iload 4, 2) := by decide +kernel
theorem dX5_wouldAsk_21 : decode cX5_wouldAsk 21 = .ok (.ifCond .ge 6, 3) := by decide +kernel
theorem dX5_wouldAsk_24 : decode cX5_wouldAsk 24 = .ok (.ldc 77, 2) := by decide +kernel
theorem dX5_wouldAsk_26 : decode cX5_wouldAsk 26 = .ok (.ireturn, 1) := by decide +kernel
theorem dX5_wouldAsk_27 : decode cX5_wouldAsk 27 = .ok (.aload_n 0, 1) := by decide +kernel
theorem dX5_wouldAsk_28 : decode cX5_wouldAsk 28 = .ok (.iconst 0, 1) := by decide +kernel
theorem dX5_wouldAsk_29 : decode cX5_wouldAsk 29 = .ok (.sipush 2148, 3) := by decide +kernel
theorem dX5_wouldAsk_32 : decode cX5_wouldAsk 32 = .ok (.invokevirtual 30, 3) := by decide +kernel
theorem dX5_wouldAsk_35 : decode cX5_wouldAsk 35 = .ok (.aload_n 0, 1) := by decide +kernel
theorem dX5_wouldAsk_36 : decode cX5_wouldAsk 36 = .ok (.iload_n 1, 1) := by decide +kernel
theorem dX5_wouldAsk_37 : decode cX5_wouldAsk 37 = .ok (.putfield 16, 3) := by decide +kernel
theorem dX5_wouldAsk_40 : decode cX5_wouldAsk 40 = .ok (.aload_n 0, 1) := by decide +kernel
theorem dX5_wouldAsk_41 : decode cX5_wouldAsk 41 = .ok (.iconst 0, 1) := by decide +kernel
theorem dX5_wouldAsk_42 : decode cX5_wouldAsk 42 = .ok (.putfield 114, 3) := by decide +kernel
theorem dX5_wouldAsk_45 : decode cX5_wouldAsk 45 = .ok (.aload_n 0, 1) := by decide +kernel
theorem dX5_wouldAsk_46 : decode cX5_wouldAsk 46 = .ok (.iload_n 2, 1) := by decide +kernel
theorem dX5_wouldAsk_47 : decode cX5_wouldAsk 47 = .ok (.iload_n 3, 1) := by decide +kernel
theorem dX5_wouldAsk_48 : decode cX5_wouldAsk 48 = .ok (.invokevirtual 142, 3) := by decide +kernel
theorem dX5_wouldAsk_51 : decode cX5_wouldAsk 51 = .ok (.pop, 1) := by decide +kernel
theorem dX5_wouldAsk_52 : decode cX5_wouldAsk 52 = .ok (.aload_n 0, 1) := by decide +kernel
theorem dX5_wouldAsk_53 : decode cX5_wouldAsk 53 = .ok (.iconst (-1), 1) := by decide +kernel
theorem dX5_wouldAsk_54 : decode cX5_wouldAsk 54 = .ok (.putfield 16, 3) := by decide +kernel
theorem dX5_wouldAsk_57 : decode cX5_wouldAsk 57 = .ok (.aload_n 0, 1) := by decide +kernel
theorem dX5_wouldAsk_58 : decode cX5_wouldAsk 58 = .ok (.sipush 2148, 3) := by decide +kernel
theorem dX5_wouldAsk_61 : decode cX5_wouldAsk 61 = .ok (.iconst 0, 1) := by decide +kernel
theorem dX5_wouldAsk_62 : decode cX5_wouldAsk 62 = .ok (.invokevirtual 30, 3) := by decide +kernel
theorem dX5_wouldAsk_65 : decode cX5_wouldAsk 65 = .ok (.iload 4, 2) := by decide +kernel
theorem dX5_wouldAsk_67 : decode cX5_wouldAsk 67 = .ok (.aload_n 0, 1) := by decide +kernel
theorem dX5_wouldAsk_68 : decode cX5_wouldAsk 68 = .ok (.getfield 114, 3) := by decide +kernel
theorem dX5_wouldAsk_71 : decode cX5_wouldAsk 71 = .ok (.if_icmp .ge 13, 3) := by decide +kernel
theorem dX5_wouldAsk_74 : decode cX5_wouldAsk 74 = .ok (.aload_n 0, 1) := by decide +kernel
theorem dX5_wouldAsk_75 : decode cX5_wouldAsk 75 = .ok (.getfield 20, 3) := by decide +kernel
theorem dX5_wouldAsk_78 : decode cX5_wouldAsk 78 = .ok (.iload 4, 2) := by decide +kernel
theorem dX5_wouldAsk_80 : decode cX5_wouldAsk 80 = .ok (.iaload, 1) := by decide +kernel
theorem dX5_wouldAsk_81 : decode cX5_wouldAsk 81 = .ok (.goto 5, 3) := by decide +kernel
theorem dX5_wouldAsk_84 : decode cX5_wouldAsk 84 = .ok (.ldc 34, 2) := by decide +kernel
theorem dX5_wouldAsk_86 : decode cX5_wouldAsk 86 = .ok (.ireturn, 1) := by decide +kernel
theorem dX5_type_0 : decode cX5_type 0 = .ok (.aload_n 0, 1) := by decide +kernel
theorem dX5_type_1 : decode cX5_type 1 = .ok (.getfield 153, 3) := by decide +kernel
theorem dX5_type_4 : decode cX5_type 4 = .ok (.bipush 80, 2) := by decide +kernel
theorem dX5_type_6 : decode cX5_type 6 = .ok (.if_icmp .ne 6, 3) := by decide +kernel
theorem dX5_type_9 : decode cX5_type 9 = .ok (.ldc 81, 2) := by decide +kernel
theorem dX5_type_11 : decode cX5_type 11 = .ok (.ireturn, 1) := by decide +kernel
theorem dX5_type_12 : decode cX5_type 12 = .ok (.aload_n 0, 1) := by decide +kernel
theorem dX5_type_13 : decode cX5_type 13 = .ok (.getfield 13, 3) := by decide +kernel
theorem dX5_type_16 : decode cX5_type 16 = .ok (.aload_n 0, 1) := by decide +kernel
theorem dX5_type_17 : decode cX5_type 17 = .ok (.getfield 153, 3) := by decide +kernel
theorem dX5_type_20 : decode cX5_type 20 = .ok (.iload_n 1, 1) := by decide +kernel
theorem dX5_type_21 : decode cX5_type 21 = .ok (.iastore, 1) := by decide +kernel
theorem dX5_type_22 : decode cX5_type 22 = .ok (.aload_n 0, 1) := by decide +kernel
theorem dX5_type_23 : decode cX5_type 23 = .ok (.dup, 1) := by decide +kernel
theorem dX5_type_24 : decode cX5_type 24 = .ok (.getfield 153, 3) := by decide +kernel
theorem dX5_type_27 : decode cX5_type 27 = .ok (.iconst 1, 1) := by decide +kernel
theorem dX5_type_28 : decode cX5_type 28 = .ok (.iadd, 1) := by decide +kernel
theorem dX5_type_29 : decode cX5_type 29 = .ok (.putfield 153, 3) := by decide +kernel
theorem dX5_type_32 : decode cX5_type 32 = .ok (.aload_n 0, 1) := by decide +kernel
theorem dX5_type_33 : decode cX5_type 33 = .ok (.getfield 153, 3) := by decide +kernel
theorem dX5_type_36 : decode cX5_type 36 = .ok (.ireturn, 1) := by decide +kernel
theorem dX5_clearText_0 : decode cX5_clearText 0 = .ok (.aload_n 0, 1) := by decide +kernel
theorem dX5_clearText_1 : decode cX5_clearText 1 = .ok (.getfield 153, 3) := by decide +kernel
theorem dX5_clearText_4 : decode cX5_clearText 4 = .ok (.istore_n 1, 1) := by decide +kernel
theorem dX5_clearText_5 : decode cX5_clearText 5 = .ok (.aload_n 0, 1) := by decide +kernel
theorem dX5_clearText_6 : decode cX5_clearText 6 = .ok (.iconst 0, 1) := by decide +kernel
theorem dX5_clearText_7 : decode cX5_clearText 7 = .ok (.putfield 153, 3) := by decide +kernel
theorem dX5_clearText_10 : decode cX5_clearText 10 = .ok (.iload_n 1, 1) := by decide +kernel
theorem dX5_clearText_11 : decode cX5_clearText 11 = .ok (.ireturn, 1) := by decide +kernel
theorem dX5_faultOf_0 : decode cX5_faultOf 0 = .ok (.bipush (-2), 2) := by decide +kernel
theorem dX5_faultOf_2 : decode cX5_faultOf 2 = .ok (.istore_n 1, 1) := by decide +kernel
theorem dX5_faultOf_3 : decode cX5_faultOf 3 = .ok (.iconst 0, 1) := by decide +kernel
theorem dX5_faultOf_4 : decode cX5_faultOf 4 = .ok (.istore_n 2, 1) := by decide +kernel
theorem dX5_faultOf_5 : decode cX5_faultOf 5 = .ok (.iconst 0, 1) := by decide +kernel
theorem dX5_faultOf_6 : decode cX5_faultOf 6 = .ok (.istore_n 3, 1) := by decide +kernel
theorem dX5_faultOf_7 : decode cX5_faultOf 7 = .ok (.iload_n 3, 1) := by decide +kernel
theorem dX5_faultOf_8 : decode cX5_faultOf 8 = .ok (.aload_n 0, 1) := by decide +kernel
theorem dX5_faultOf_9 : decode cX5_faultOf 9 = .ok (.getfield 153, 3) := by decide +kernel
theorem dX5_faultOf_12 : decode cX5_faultOf 12 = .ok (.if_icmp .ge 111, 3) := by decide +kernel
theorem dX5_faultOf_15 : decode cX5_faultOf 15 = .ok (.aload_n 0, 1) := by decide +kernel
theorem dX5_faultOf_16 : decode cX5_faultOf 16 = .ok (.getfield 13, 3) := by decide +kernel
theorem dX5_faultOf_19 : decode cX5_faultOf 19 = .ok (.iload_n 3, 1) := by decide +kernel
theorem dX5_faultOf_20 : decode cX5_faultOf 20 = .ok (.iaload, 1) := by decide +kernel
theorem dX5_faultOf_21 : decode cX5_faultOf 21 = .ok (.istore 4, 2) := by decide +kernel
theorem dX5_faultOf_23 : decode cX5_faultOf 23 = .ok (.iload 4, 2) := by decide +kernel
theorem dX5_faultOf_25 : decode cX5_faultOf 25 = .ok (.bipush 48, 2) := by decide +kernel
theorem dX5_faultOf_27 : decode cX5_faultOf 27 = .ok (.bipush 57, 2) := by decide +kernel
theorem dX5_faultOf_29 : decode cX5_faultOf 29 = .ok (.invokestatic 23, 3) := by decide +kernel
theorem dX5_faultOf_32 : decode cX5_faultOf 32 = .ok (.istore 5, 2) := by decide +kernel
theorem dX5_faultOf_34 : decode cX5_faultOf 34 = .ok (.iload_n 1, 1) := by decide +kernel
theorem dX5_faultOf_35 : decode cX5_faultOf 35 = .ok (.bipush (-2), 2) := by decide +kernel
theorem dX5_faultOf_37 : decode cX5_faultOf 37 = .ok (.if_icmp .ne 24, 3) := by decide +kernel
theorem dX5_faultOf_40 : decode cX5_faultOf 40 = .ok (.iload 4, 2) := by decide +kernel
theorem dX5_faultOf_42 : decode cX5_faultOf 42 = .ok (.bipush 97, 2) := by decide +kernel
theorem dX5_faultOf_44 : decode cX5_faultOf 44 = .ok (.bipush 112, 2) := by decide +kernel
theorem dX5_faultOf_46 : decode cX5_faultOf 46 = .ok (.invokestatic 23, 3) := by decide +kernel
theorem dX5_faultOf_49 : decode cX5_faultOf 49 = .ok (.ifCond .ne 5, 3) := by decide +kernel
theorem dX5_faultOf_52 : decode cX5_faultOf 52 = .ok (.iload_n 3, 1) := by decide +kernel
theorem dX5_faultOf_53 : decode cX5_faultOf 53 = .ok (.ireturn, 1) := by decide +kernel
theorem dX5_faultOf_54 : decode cX5_faultOf 54 = .ok (.iconst 0, 1) := by decide +kernel
theorem dX5_faultOf_55 : decode cX5_faultOf 55 = .ok (.istore_n 1, 1) := by decide +kernel
theorem dX5_faultOf_56 : decode cX5_faultOf 56 = .ok (.iconst 0, 1) := by decide +kernel
theorem dX5_faultOf_57 : decode cX5_faultOf 57 = .ok (.istore_n 2, 1) := by decide +kernel
theorem dX5_faultOf_58 : decode cX5_faultOf 58 = .ok (.goto 59, 3) := by decide +kernel
theorem dX5_faultOf_61 : decode cX5_faultOf 61 = .ok (.iload 5, 2) := by decide +kernel
theorem dX5_faultOf_63 : decode cX5_faultOf 63 = .ok (.ifCond .eq 35, 3) := by decide +kernel
theorem dX5_faultOf_66 : decode cX5_faultOf 66 = .ok (.iload_n 1, 1) := by decide +kernel
theorem dX5_faultOf_67 : decode cX5_faultOf 67 = .ok (.iconst 4, 1) := by decide +kernel
theorem dX5_faultOf_68 : decode cX5_faultOf 68 = .ok (.if_icmp .ge 30, 3) := by decide +kernel
theorem dX5_faultOf_71 : decode cX5_faultOf 71 = .ok (.iload_n 2, 1) := by decide +kernel
theorem dX5_faultOf_72 : decode cX5_faultOf 72 = .ok (.ifCond .ne 26, 3) := by decide +kernel
theorem dX5_faultOf_75 : decode cX5_faultOf 75 = .ok (.iload_n 1, 1) := by decide +kernel
theorem dX5_faultOf_76 : decode cX5_faultOf 76 = .ok (.ifCond .ne 14, 3) := by decide +kernel
theorem dX5_faultOf_79 : decode cX5_faultOf 79 = .ok (.iload 4, 2) := by decide +kernel
theorem dX5_faultOf_81 : decode cX5_faultOf 81 = .ok (.bipush 48, 2) := by decide +kernel
theorem dX5_faultOf_83 : decode cX5_faultOf 83 = .ok (.if_icmp .ne 7, 3) := by decide +kernel
theorem dX5_faultOf_86 : decode cX5_faultOf 86 = .ok (.iconst 1, 1) := by decide +kernel
theorem dX5_faultOf_87 : decode cX5_faultOf 87 = .ok (.goto 4, 3) := by decide +kernel
theorem dX5_faultOf_90 : decode cX5_faultOf 90 = .ok (.iconst 0, 1) := by decide +kernel
theorem dX5_faultOf_91 : decode cX5_faultOf 91 = .ok (.istore_n 2, 1) := by decide +kernel
theorem dX5_faultOf_92 : decode cX5_faultOf 92 = .ok (.iinc 1 1, 3) := by decide +kernel
theorem dX5_faultOf_95 : decode cX5_faultOf 95 = .ok (.goto 22, 3) := by decide +kernel
theorem dX5_faultOf_98 : decode cX5_faultOf 98 = .ok (.iload 4, 2) := by decide +kernel
theorem dX5_faultOf_100 : decode cX5_faultOf 100 = .ok (.bipush 44, 2) := by decide +kernel
theorem dX5_faultOf_102 : decode cX5_faultOf 102 = .ok (.if_icmp .ne 13, 3) := by decide +kernel
theorem dX5_faultOf_105 : decode cX5_faultOf 105 = .ok (.iload_n 1, 1) := by decide +kernel
theorem dX5_faultOf_106 : decode cX5_faultOf 106 = .ok (.ifCond .le 9, 3) := by decide +kernel
theorem dX5_faultOf_109 : decode cX5_faultOf 109 = .ok (.bipush (-2), 2) := by decide +kernel
theorem dX5_faultOf_111 : decode cX5_faultOf 111 = .ok (.istore_n 1, 1) := by decide +kernel
theorem dX5_faultOf_112 : decode cX5_faultOf 112 = .ok (.goto 5, 3) := by decide +kernel
theorem dX5_faultOf_115 : decode cX5_faultOf 115 = .ok (.iload_n 3, 1) := by decide +kernel
theorem dX5_faultOf_116 : decode cX5_faultOf 116 = .ok (.ireturn, 1) := by decide +kernel
theorem dX5_faultOf_117 : decode cX5_faultOf 117 = .ok (.iinc 3 1, 3) := by decide +kernel
theorem dX5_faultOf_120 : decode cX5_faultOf 120 = .ok (.goto (-113), 3) := by decide +kernel
theorem dX5_faultOf_123 : decode cX5_faultOf 123 = .ok (.iload_n 1, 1) := by decide +kernel
theorem dX5_faultOf_124 : decode cX5_faultOf 124 = .ok (.ifCond .le 7, 3) := by decide +kernel
theorem dX5_faultOf_127 : decode cX5_faultOf 127 = .ok (.iconst (-1), 1) := by decide +kernel
theorem dX5_faultOf_128 : decode cX5_faultOf 128 = .ok (.goto 7, 3) := by decide +kernel
theorem dX5_faultOf_131 : decode cX5_faultOf 131 = .ok (.aload_n 0, 1) := by decide +kernel
theorem dX5_faultOf_132 : decode cX5_faultOf 132 = .ok (.getfield 153, 3) := by decide +kernel
theorem dX5_faultOf_135 : decode cX5_faultOf 135 = .ok (.ireturn, 1) := by decide +kernel
theorem dX5_run_0 : decode cX5_run 0 = .ok (.aload_n 0, 1) := by decide +kernel
theorem dX5_run_1 : decode cX5_run 1 = .ok (.invokevirtual 156, 3) := by decide +kernel
theorem dX5_run_4 : decode cX5_run 4 = .ok (.istore_n 1, 1) := by decide +kernel
theorem dX5_run_5 : decode cX5_run 5 = .ok (.iload_n 1, 1) := by decide +kernel
theorem dX5_run_6 : decode cX5_run 6 = .ok (.ifCond .lt 8, 3) := by decide +kernel
theorem dX5_run_9 : decode cX5_run 9 = .ok (.bipush (-100), 2) := by decide +kernel
theorem dX5_run_11 : decode cX5_run 11 = .ok (.iload_n 1, 1) := by decide +kernel
theorem dX5_run_12 : decode cX5_run 12 = .ok (.isub, 1) := by decide +kernel
theorem dX5_run_13 : decode cX5_run 13 = .ok (.ireturn, 1) := by decide +kernel
theorem dX5_run_14 : decode cX5_run 14 = .ok (.aload_n 0, 1) := by decide +kernel
theorem dX5_run_15 : decode cX5_run 15 = .ok (.invokevirtual 39, 3) := by decide +kernel
theorem dX5_run_18 : decode cX5_run 18 = .ok (.iconst 0, 1) := by decide +kernel
theorem dX5_run_19 : decode cX5_run 19 = .ok (.istore_n 2, 1) := by decide +kernel
theorem dX5_run_20 : decode cX5_run 20 = .ok (.iconst 0, 1) := by decide +kernel
theorem dX5_run_21 : decode cX5_run 21 = .ok (.istore_n 3, 1) := by decide +kernel
theorem dX5_run_22 : decode cX5_run 22 = .ok (.iconst 0, 1) := by decide +kernel
theorem dX5_run_23 : decode cX5_run 23 = .ok (.istore 4, 2) := by decide +kernel
theorem dX5_run_25 : decode cX5_run 25 = .ok (.iconst 0, 1) := by decide +kernel
theorem dX5_run_26 : decode cX5_run 26 = .ok (.istore 5, 2) := by decide +kernel
theorem dX5_run_28 : decode cX5_run 28 = .ok (.iload 5, 2) := by decide +kernel
theorem dX5_run_30 : decode cX5_run 30 = .ok (.aload_n 0, 1) := by decide +kernel
theorem dX5_run_31 : decode cX5_run 31 = .ok (.getfield 153, 3) := by decide +kernel
theorem dX5_run_34 : decode cX5_run 34 = .ok (.if_icmp .gt 97, 3) := by decide +kernel
theorem dX5_run_37 : decode cX5_run 37 = .ok (.iload 5, 2) := by decide +kernel
theorem dX5_run_39 : decode cX5_run 39 = .ok (.aload_n 0, 1) := by decide +kernel
theorem dX5_run_40 : decode cX5_run 40 = .ok (.getfield 153, 3) := by decide +kernel
theorem dX5_run_43 : decode cX5_run 43 = .ok (.if_icmp .ge 13, 3) := by decide +kernel
theorem dX5_run_46 : decode cX5_run 46 = .ok (.aload_n 0, 1) := by decide +kernel
theorem dX5_run_47 : decode cX5_run 47 = .ok (.getfield 13, 3) := by decide +kernel
theorem dX5_run_50 : decode cX5_run 50 = .ok (.iload 5, 2) := by decide +kernel
theorem dX5_run_52 : decode cX5_run 52 = .ok (.iaload, 1) := by decide +kernel
theorem dX5_run_53 : decode cX5_run 53 = .ok (.goto 5, 3) := by decide +kernel
theorem dX5_run_56 : decode cX5_run 56 = .ok (.bipush 44, 2) := by decide +kernel
theorem dX5_run_58 : decode cX5_run 58 = .ok (.istore 6, 2) := by decide +kernel
theorem dX5_run_60 : decode cX5_run 60 = .ok (.iload 6, 2) := by decide +kernel
theorem dX5_run_62 : decode cX5_run 62 = .ok (.bipush 44, 2) := by decide +kernel
theorem dX5_run_64 : decode cX5_run 64 = .ok (.if_icmp .ne 27, 3) := by decide +kernel
theorem dX5_run_67 : decode cX5_run 67 = .ok (.iload_n 2, 1) := by decide +kernel
theorem dX5_run_68 : decode cX5_run 68 = .ok (.aload_n 0, 1) := by decide +kernel
theorem dX5_run_69 : decode cX5_run 69 = .ok (.iload_n 3, 1) := by decide +kernel
theorem dX5_run_70 : decode cX5_run 70 = .ok (.iload 4, 2) := by decide +kernel
theorem dX5_run_72 : decode cX5_run 72 = .ok (.invokevirtual 142, 3) := by decide +kernel
theorem dX5_run_75 : decode cX5_run 75 = .ok (.ifCond .ne 7, 3) := by decide +kernel
theorem dX5_run_78 : decode cX5_run 78 = .ok (.iconst 0, 1) := by decide +kernel
theorem dX5_run_79 : decode cX5_run 79 = .ok (.goto 4, 3) := by decide +kernel
theorem dX5_run_82 : decode cX5_run 82 = .ok (.iconst 1, 1) := by decide +kernel
theorem dX5_run_83 : decode cX5_run 83 = .ok (.iadd, 1) := by decide +kernel
theorem dX5_run_84 : decode cX5_run 84 = .ok (.istore_n 2, 1) := by decide +kernel
theorem dX5_run_85 : decode cX5_run 85 = .ok (.iconst 0, 1) := by decide +kernel
theorem dX5_run_86 : decode cX5_run 86 = .ok (.istore 4, 2) := by decide +kernel
theorem dX5_run_88 : decode cX5_run 88 = .ok (.goto 37, 3) := by decide +kernel
theorem dX5_run_91 : decode cX5_run 91 = .ok (.iload 6, 2) := by decide +kernel
theorem dX5_run_93 : decode cX5_run 93 = .ok (.bipush 48, 2) := by decide +kernel
theorem dX5_run_95 : decode cX5_run 95 = .ok (.bipush 57, 2) := by decide +kernel
theorem dX5_run_97 : decode cX5_run 97 = .ok (.invokestatic 23, 3) := by decide +kernel
theorem dX5_run_100 : decode cX5_run 100 = .ok (.ifCond .eq 19, 3) := by decide +kernel
theorem dX5_run_103 : decode cX5_run 103 = .ok (.bipush 10, 2) := by decide +kernel
theorem dX5_run_105 : decode cX5_run 105 = .ok (.iload 4, 2) := by decide +kernel
theorem dX5_run_107 : decode cX5_run 107 = .ok (.imul, 1) := by decide +kernel
theorem dX5_run_108 : decode cX5_run 108 = .ok (.iload 6, 2) := by decide +kernel
theorem dX5_run_110 : decode cX5_run 110 = .ok (.iadd, 1) := by decide +kernel
theorem dX5_run_111 : decode cX5_run 111 = .ok (.bipush 48, 2) := by decide +kernel
theorem dX5_run_113 : decode cX5_run 113 = .ok (.isub, 1) := by decide +kernel
theorem dX5_run_114 : decode cX5_run 114 = .ok (.istore 4, 2) := by decide +kernel
theorem dX5_run_116 : decode cX5_run 116 = .ok (.goto 9, 3) := by decide +kernel
theorem dX5_run_119 : decode cX5_run 119 = .ok (.iload 6, 2) := by decide +kernel
theorem dX5_run_121 : decode cX5_run 121 = .ok (.bipush 97, 2) := by decide +kernel
theorem dX5_run_123 : decode cX5_run 123 = .ok (.isub, 1) := by decide +kernel
theorem dX5_run_124 : decode cX5_run 124 = .ok (.istore_n 3, 1) := by decide +kernel
theorem dX5_run_125 : decode cX5_run 125 = .ok (.iinc 5 1, 3) := by decide +kernel
theorem dX5_run_128 : decode cX5_run 128 = .ok (.goto (-100), 3) := by decide +kernel
theorem dX5_run_131 : decode cX5_run 131 = .ok (.iload_n 2, 1) := by decide +kernel
theorem dX5_run_132 : decode cX5_run 132 = .ok (.ireturn, 1) := by decide +kernel
theorem dX5_line_0 : decode cX5_line 0 = .ok (.iload_n 1, 1) := by decide +kernel
theorem dX5_line_1 : decode cX5_line 1 = .ok (.invokestatic 111, 3) := by decide +kernel
theorem dX5_line_4 : decode cX5_line 4 = .ok (.ifCond .ne 6, 3) := by decide +kernel
theorem dX5_line_7 : decode cX5_line 7 = .ok (.ldc 86, 2) := by decide +kernel
theorem dX5_line_9 : decode cX5_line 9 = .ok (.ireturn, 1) := by decide +kernel
theorem dX5_line_10 : decode cX5_line 10 = .ok (.iload_n 2, 1) := by decide +kernel
theorem dX5_line_11 : decode cX5_line 11 = .ok (.iconst 0, 1) := by decide +kernel
theorem dX5_line_12 : decode cX5_line 12 = .ok (.iconst 5, 1) := by decide +kernel
theorem dX5_line_13 : decode cX5_line 13 = .ok (.invokestatic 23, 3) := by decide +kernel
theorem dX5_line_16 : decode cX5_line 16 = .ok (.ifCond .ne 6, 3) := by decide +kernel
theorem dX5_line_19 : decode cX5_line 19 = .ok (.ldc 77, 2) := by decide +kernel
theorem dX5_line_21 : decode cX5_line 21 = .ok (.ireturn, 1) := by decide +kernel
theorem dX5_line_22 : decode cX5_line 22 = .ok (.aload_n 0, 1) := by decide +kernel
theorem dX5_line_23 : decode cX5_line 23 = .ok (.iload_n 1, 1) := by decide +kernel
theorem dX5_line_24 : decode cX5_line 24 = .ok (.invokevirtual 117, 3) := by decide +kernel
theorem dX5_line_27 : decode cX5_line 27 = .ok (.istore_n 3, 1) := by decide +kernel
theorem dX5_line_28 : decode cX5_line 28 = .ok (.iload_n 3, 1) := by decide +kernel
theorem dX5_line_29 : decode cX5_line 29 = .ok (.ifCond .ge 7, 3) := by decide +kernel
theorem dX5_line_32 : decode cX5_line 32 = .ok (.iconst (-1), 1) := by decide +kernel
theorem dX5_line_33 : decode cX5_line 33 = .ok (.goto 17, 3) := by decide +kernel
theorem dX5_line_36 : decode cX5_line 36 = .ok (.iload_n 1, 1) := by decide +kernel
theorem dX5_line_37 : decode cX5_line 37 = .ok (.aload_n 0, 1) := by decide +kernel
theorem dX5_line_38 : decode cX5_line 38 = .ok (.getfield 7, 3) := by decide +kernel
theorem dX5_line_41 : decode cX5_line 41 = .ok (.sipush 349, 3) := by decide +kernel
theorem dX5_line_44 : decode cX5_line 44 = .ok (.iaload, 1) := by decide +kernel
theorem dX5_line_45 : decode cX5_line 45 = .ok (.irem, 1) := by decide +kernel
theorem dX5_line_46 : decode cX5_line 46 = .ok (.iload_n 3, 1) := by decide +kernel
theorem dX5_line_47 : decode cX5_line 47 = .ok (.invokestatic 42, 3) := by decide +kernel
theorem dX5_line_50 : decode cX5_line 50 = .ok (.istore 4, 2) := by decide +kernel
theorem dX5_line_52 : decode cX5_line 52 = .ok (.aload_n 0, 1) := by decide +kernel
theorem dX5_line_53 : decode cX5_line 53 = .ok (.iload_n 1, 1) := by decide +kernel
theorem dX5_line_54 : decode cX5_line 54 = .ok (.invokevirtual 46, 3) := by decide +kernel
theorem dX5_line_57 : decode cX5_line 57 = .ok (.istore 5, 2) := by decide +kernel
theorem dX5_line_59 : decode cX5_line 59 = .ok (.iload_n 2, 1) := by decide +kernel
theorem dX5_line_60 : decode cX5_line 60 = .ok (.iconst 5, 1) := by decide +kernel
theorem dX5_line_61 : decode cX5_line 61 = .ok (.if_icmp .ne 29, 3) := by decide +kernel
theorem dX5_line_64 : decode cX5_line 64 = .ok (.iload 5, 2) := by decide +kernel
theorem dX5_line_66 : decode cX5_line 66 = .ok (.ifCond .ge 7, 3) := by decide +kernel
theorem dX5_line_69 : decode cX5_line 69 = .ok (.iconst (-1), 1) := by decide +kernel
theorem dX5_line_70 : decode cX5_line 70 = .ok (.goto 38, 3) := by decide +kernel
theorem dX5_line_73 : decode cX5_line 73 = .ok (.aload_n 0, 1) := by decide +kernel
theorem dX5_line_74 : decode cX5_line 74 = .ok (.getfield 7, 3) := by decide +kernel
theorem dX5_line_77 : decode cX5_line 77 = .ok (.bipush 104, 2) := by decide +kernel
theorem dX5_line_79 : decode cX5_line 79 = .ok (.iconst 2, 1) := by decide +kernel
theorem dX5_line_80 : decode cX5_line 80 = .ok (.iload 5, 2) := by decide +kernel
theorem dX5_line_82 : decode cX5_line 82 = .ok (.imul, 1) := by decide +kernel
theorem dX5_line_83 : decode cX5_line 83 = .ok (.iadd, 1) := by decide +kernel
theorem dX5_line_84 : decode cX5_line 84 = .ok (.iconst 1, 1) := by decide +kernel
theorem dX5_line_85 : decode cX5_line 85 = .ok (.iadd, 1) := by decide +kernel
theorem dX5_line_86 : decode cX5_line 86 = .ok (.iaload, 1) := by decide +kernel
theorem dX5_line_87 : decode cX5_line 87 = .ok (.goto 21, 3) := by decide +kernel
theorem dX5_line_90 : decode cX5_line 90 = .ok (.iload 4, 2) := by decide +kernel
theorem dX5_line_92 : decode cX5_line 92 = .ok (.ifCond .ge 7, 3) := by decide +kernel
theorem dX5_line_95 : decode cX5_line 95 = .ok (.iconst (-1), 1) := by decide +kernel
theorem dX5_line_96 : decode cX5_line 96 = .ok (.goto 12, 3) := by decide +kernel
theorem dX5_line_99 : decode cX5_line 99 = .ok (.aload_n 0, 1) := by decide +kernel
theorem dX5_line_100 : decode cX5_line 100 = .ok (.getfield 7, 3) := by decide +kernel
theorem dX5_line_103 : decode cX5_line 103 = .ok (.iload 4, 2) := by decide +kernel
theorem dX5_line_105 : decode cX5_line 105 = .ok (.iconst 1, 1) := by decide +kernel
theorem dX5_line_106 : decode cX5_line 106 = .ok (.iadd, 1) := by decide +kernel
theorem dX5_line_107 : decode cX5_line 107 = .ok (.iaload, 1) := by decide +kernel
theorem dX5_line_108 : decode cX5_line 108 = .ok (.istore 6, 2) := by decide +kernel
theorem dX5_line_110 : decode cX5_line 110 = .ok (.iload_n 2, 1) := by decide +kernel
theorem dX5_line_111 : decode cX5_line 111 = .ok (.tableswitch 85 0 4 #[33, 43, 85, 61, 72], 33) := by decide +kernel
theorem dX5_line_144 : decode cX5_line 144 = .ok (.iload_n 3, 1) := by decide +kernel
theorem dX5_line_145 : decode cX5_line 145 = .ok (.ifCond .ge 7, 3) := by decide +kernel
theorem dX5_line_148 : decode cX5_line 148 = .ok (.iconst 0, 1) := by decide +kernel
theorem dX5_line_149 : decode cX5_line 149 = .ok (.goto 4, 3) := by decide +kernel
theorem dX5_line_152 : decode cX5_line 152 = .ok (.iconst 1, 1) := by decide +kernel
theorem dX5_line_153 : decode cX5_line 153 = .ok (.ireturn, 1) := by decide +kernel
theorem dX5_line_154 : decode cX5_line 154 = .ok (.iload_n 3, 1) := by decide +kernel
theorem dX5_line_155 : decode cX5_line 155 = .ok (.ifCond .ge 7, 3) := by decide +kernel
theorem dX5_line_158 : decode cX5_line 158 = .ok (.iconst 0, 1) := by decide +kernel
theorem dX5_line_159 : decode cX5_line 159 = .ok (.goto 12, 3) := by decide +kernel
theorem dX5_line_162 : decode cX5_line 162 = .ok (.aload_n 0, 1) := by decide +kernel
theorem dX5_line_163 : decode cX5_line 163 = .ok (.getfield 7, 3) := by decide +kernel
theorem dX5_line_166 : decode cX5_line 166 = .ok (.iload 4, 2) := by decide +kernel
theorem dX5_line_168 : decode cX5_line 168 = .ok (.iconst 2, 1) := by decide +kernel
theorem dX5_line_169 : decode cX5_line 169 = .ok (.iadd, 1) := by decide +kernel
theorem dX5_line_170 : decode cX5_line 170 = .ok (.iaload, 1) := by decide +kernel
theorem dX5_line_171 : decode cX5_line 171 = .ok (.ireturn, 1) := by decide +kernel
theorem dX5_line_172 : decode cX5_line 172 = .ok (.iload_n 3, 1) := by decide +kernel
theorem dX5_line_173 : decode cX5_line 173 = .ok (.ifCond .ge 8, 3) := by decide +kernel
theorem dX5_line_176 : decode cX5_line 176 = .ok (.ldc 34, 2) := by decide +kernel
theorem dX5_line_178 : decode cX5_line 178 = .ok (.goto 4, 3) := by decide +kernel
theorem dX5_line_181 : decode cX5_line 181 = .ok (.iload_n 3, 1) := by decide +kernel
theorem dX5_line_182 : decode cX5_line 182 = .ok (.ireturn, 1) := by decide +kernel
theorem dX5_line_183 : decode cX5_line 183 = .ok (.iload 5, 2) := by decide +kernel
theorem dX5_line_185 : decode cX5_line 185 = .ok (.ifCond .ge 8, 3) := by decide +kernel
theorem dX5_line_188 : decode cX5_line 188 = .ok (.ldc 34, 2) := by decide +kernel
theorem dX5_line_190 : decode cX5_line 190 = .ok (.goto 5, 3) := by decide +kernel
theorem dX5_line_193 : decode cX5_line 193 = .ok (.iload 5, 2) := by decide +kernel
theorem dX5_line_195 : decode cX5_line 195 = .ok (.ireturn, 1) := by decide +kernel
theorem dX5_line_196 : decode cX5_line 196 = .ok (.iload 6, 2) := by decide +kernel
theorem dX5_line_198 : decode cX5_line 198 = .ok (.iconst (-1), 1) := by decide +kernel
theorem dX5_line_199 : decode cX5_line 199 = .ok (.if_icmp .ne 8, 3) := by decide +kernel
theorem dX5_line_202 : decode cX5_line 202 = .ok (.ldc 34, 2) := by decide +kernel
theorem dX5_line_204 : decode cX5_line 204 = .ok (.goto 5, 3) := by decide +kernel
theorem dX5_line_207 : decode cX5_line 207 = .ok (.iload 6, 2) := by decide +kernel
theorem dX5_line_209 : decode cX5_line 209 = .ok (.ireturn, 1) := by decide +kernel
theorem dX5_inSet_0 : decode cX5_inSet 0 = .ok (.iload_n 1, 1) := by decide +kernel
theorem dX5_inSet_1 : decode cX5_inSet 1 = .ok (.iconst 0, 1) := by decide +kernel
theorem dX5_inSet_2 : decode cX5_inSet 2 = .ok (.aload_n 0, 1) := by decide +kernel
theorem dX5_inSet_3 : decode cX5_inSet 3 = .ok (.getfield 7, 3) := by decide +kernel
theorem dX5_inSet_6 : decode cX5_inSet 6 = .ok (.sipush 349, 3) := by decide +kernel
theorem dX5_inSet_9 : decode cX5_inSet 9 = .ok (.iaload, 1) := by decide +kernel
theorem dX5_inSet_10 : decode cX5_inSet 10 = .ok (.iconst 1, 1) := by decide +kernel
theorem dX5_inSet_11 : decode cX5_inSet 11 = .ok (.isub, 1) := by decide +kernel
theorem dX5_inSet_12 : decode cX5_inSet 12 = .ok (.invokestatic 23, 3) := by decide +kernel
theorem dX5_inSet_15 : decode cX5_inSet 15 = .ok (.ifCond .ne 6, 3) := by decide +kernel
theorem dX5_inSet_18 : decode cX5_inSet 18 = .ok (.ldc 86, 2) := by decide +kernel
theorem dX5_inSet_20 : decode cX5_inSet 20 = .ok (.ireturn, 1) := by decide +kernel
theorem dX5_inSet_21 : decode cX5_inSet 21 = .ok (.iload_n 2, 1) := by decide +kernel
theorem dX5_inSet_22 : decode cX5_inSet 22 = .ok (.ifCond .ge 6, 3) := by decide +kernel
theorem dX5_inSet_25 : decode cX5_inSet 25 = .ok (.ldc 77, 2) := by decide +kernel
theorem dX5_inSet_27 : decode cX5_inSet 27 = .ok (.ireturn, 1) := by decide +kernel
theorem dX5_inSet_28 : decode cX5_inSet 28 = .ok (.iload_n 2, 1) := by decide +kernel
theorem dX5_inSet_29 : decode cX5_inSet 29 = .ok (.aload_n 0, 1) := by decide +kernel
theorem dX5_inSet_30 : decode cX5_inSet 30 = .ok (.getfield 7, 3) := by decide +kernel
theorem dX5_inSet_33 : decode cX5_inSet 33 = .ok (.iconst 0, 1) := by decide +kernel
theorem dX5_inSet_34 : decode cX5_inSet 34 = .ok (.iload_n 1, 1) := by decide +kernel
theorem dX5_inSet_35 : decode cX5_inSet 35 = .ok (.iadd, 1) := by decide +kernel
theorem dX5_inSet_36 : decode cX5_inSet 36 = .ok (.iaload, 1) := by decide +kernel
theorem dX5_inSet_37 : decode cX5_inSet 37 = .ok (.if_icmp .ge 16, 3) := by decide +kernel
theorem dX5_inSet_40 : decode cX5_inSet 40 = .ok (.aload_n 0, 1) := by decide +kernel
theorem dX5_inSet_41 : decode cX5_inSet 41 = .ok (.getfield 7, 3) := by decide +kernel
theorem dX5_inSet_44 : decode cX5_inSet 44 = .ok (.iload_n 1, 1) := by decide +kernel
theorem dX5_inSet_45 : decode cX5_inSet 45 = .ok (.iload_n 2, 1) := by decide +kernel
theorem dX5_inSet_46 : decode cX5_inSet 46 = .ok (.invokestatic 42, 3) := by decide +kernel
theorem dX5_inSet_49 : decode cX5_inSet 49 = .ok (.iaload, 1) := by decide +kernel
theorem dX5_inSet_50 : decode cX5_inSet 50 = .ok (.goto 5, 3) := by decide +kernel
theorem dX5_inSet_53 : decode cX5_inSet 53 = .ok (.ldc 34, 2) := by decide +kernel
theorem dX5_inSet_55 : decode cX5_inSet 55 = .ok (.ireturn, 1) := by decide +kernel
theorem dX5_thrownOut_0 : decode cX5_thrownOut 0 = .ok (.iload_n 1, 1) := by decide +kernel
theorem dX5_thrownOut_1 : decode cX5_thrownOut 1 = .ok (.ifCond .ge 6, 3) := by decide +kernel
theorem dX5_thrownOut_4 : decode cX5_thrownOut 4 = .ok (.ldc 77, 2) := by decide +kernel
theorem dX5_thrownOut_6 : decode cX5_thrownOut 6 = .ok (.ireturn, 1) := by decide +kernel
theorem dX5_thrownOut_7 : decode cX5_thrownOut 7 = .ok (.iload_n 1, 1) := by decide +kernel
theorem dX5_thrownOut_8 : decode cX5_thrownOut 8 = .ok (.aload_n 0, 1) := by decide +kernel
theorem dX5_thrownOut_9 : decode cX5_thrownOut 9 = .ok (.getfield 7, 3) := by decide +kernel
theorem dX5_thrownOut_12 : decode cX5_thrownOut 12 = .ok (.sipush 348, 3) := by decide +kernel
theorem dX5_thrownOut_15 : decode cX5_thrownOut 15 = .ok (.iaload, 1) := by decide +kernel
theorem dX5_thrownOut_16 : decode cX5_thrownOut 16 = .ok (.if_icmp .ge 17, 3) := by decide +kernel
theorem dX5_thrownOut_19 : decode cX5_thrownOut 19 = .ok (.aload_n 0, 1) := by decide +kernel
theorem dX5_thrownOut_20 : decode cX5_thrownOut 20 = .ok (.getfield 7, 3) := by decide +kernel
theorem dX5_thrownOut_23 : decode cX5_thrownOut 23 = .ok (.bipush 104, 2) := by decide +kernel
theorem dX5_thrownOut_25 : decode cX5_thrownOut 25 = .ok (.iconst 2, 1) := by decide +kernel
theorem dX5_thrownOut_26 : decode cX5_thrownOut 26 = .ok (.iload_n 1, 1) := by decide +kernel
theorem dX5_thrownOut_27 : decode cX5_thrownOut 27 = .ok (.imul, 1) := by decide +kernel
theorem dX5_thrownOut_28 : decode cX5_thrownOut 28 = .ok (.iadd, 1) := by decide +kernel
theorem dX5_thrownOut_29 : decode cX5_thrownOut 29 = .ok (.iaload, 1) := by decide +kernel
theorem dX5_thrownOut_30 : decode cX5_thrownOut 30 = .ok (.goto 5, 3) := by decide +kernel
theorem dX5_thrownOut_33 : decode cX5_thrownOut 33 = .ok (.ldc 34, 2) := by decide +kernel
theorem dX5_thrownOut_35 : decode cX5_thrownOut 35 = .ok (.ireturn, 1) := by decide +kernel
theorem dX5_newOf_0 : decode cX5_newOf 0 = .ok (.iconst 0, 1) := by decide +kernel
theorem dX5_newOf_1 : decode cX5_newOf 1 = .ok (.istore_n 2, 1) := by decide +kernel
theorem dX5_newOf_2 : decode cX5_newOf 2 = .ok (.iconst 0, 1) := by decide +kernel
theorem dX5_newOf_3 : decode cX5_newOf 3 = .ok (.istore_n 3, 1) := by decide +kernel
theorem dX5_newOf_4 : decode cX5_newOf 4 = .ok (.iload_n 3, 1) := by decide +kernel
theorem dX5_newOf_5 : decode cX5_newOf 5 = .ok (.aload_n 0, 1) := by decide +kernel
theorem dX5_newOf_6 : decode cX5_newOf 6 = .ok (.getfield 7, 3) := by decide +kernel
theorem dX5_newOf_9 : decode cX5_newOf 9 = .ok (.sipush 349, 3) := by decide +kernel
theorem dX5_newOf_12 : decode cX5_newOf 12 = .ok (.iaload, 1) := by decide +kernel
theorem dX5_newOf_13 : decode cX5_newOf 13 = .ok (.if_icmp .ge 77, 3) := by decide +kernel
theorem dX5_newOf_16 : decode cX5_newOf 16 = .ok (.iconst 0, 1) := by decide +kernel
theorem dX5_newOf_17 : decode cX5_newOf 17 = .ok (.istore 4, 2) := by decide +kernel
theorem dX5_newOf_19 : decode cX5_newOf 19 = .ok (.iload 4, 2) := by decide +kernel
theorem dX5_newOf_21 : decode cX5_newOf 21 = .ok (.aload_n 0, 1) := by decide +kernel
theorem dX5_newOf_22 : decode cX5_newOf 22 = .ok (.getfield 7, 3) := by decide +kernel
theorem dX5_newOf_25 : decode cX5_newOf 25 = .ok (.iconst 0, 1) := by decide +kernel
theorem dX5_newOf_26 : decode cX5_newOf 26 = .ok (.iload_n 3, 1) := by decide +kernel
theorem dX5_newOf_27 : decode cX5_newOf 27 = .ok (.iadd, 1) := by decide +kernel
theorem dX5_newOf_28 : decode cX5_newOf 28 = .ok (.iaload, 1) := by decide +kernel
theorem dX5_newOf_29 : decode cX5_newOf 29 = .ok (.if_icmp .ge 55, 3) := by decide +kernel
theorem dX5_newOf_32 : decode cX5_newOf 32 = .ok (.iload_n 3, 1) := by decide +kernel
theorem dX5_newOf_33 : decode cX5_newOf 33 = .ok (.iload 4, 2) := by decide +kernel
theorem dX5_newOf_35 : decode cX5_newOf 35 = .ok (.invokestatic 42, 3) := by decide +kernel
theorem dX5_newOf_38 : decode cX5_newOf 38 = .ok (.istore 5, 2) := by decide +kernel
theorem dX5_newOf_40 : decode cX5_newOf 40 = .ok (.iload_n 2, 1) := by decide +kernel
theorem dX5_newOf_41 : decode cX5_newOf 41 = .ok (.aload_n 0, 1) := by decide +kernel
theorem dX5_newOf_42 : decode cX5_newOf 42 = .ok (.getfield 7, 3) := by decide +kernel
theorem dX5_newOf_45 : decode cX5_newOf 45 = .ok (.iload 5, 2) := by decide +kernel
theorem dX5_newOf_47 : decode cX5_newOf 47 = .ok (.iconst 2, 1) := by decide +kernel
theorem dX5_newOf_48 : decode cX5_newOf 48 = .ok (.iadd, 1) := by decide +kernel
theorem dX5_newOf_49 : decode cX5_newOf 49 = .ok (.iaload, 1) := by decide +kernel
theorem dX5_newOf_50 : decode cX5_newOf 50 = .ok (.iconst 1, 1) := by decide +kernel
theorem dX5_newOf_51 : decode cX5_newOf 51 = .ok (.if_icmp .ne 24, 3) := by decide +kernel
theorem dX5_newOf_54 : decode cX5_newOf 54 = .ok (.iload_n 1, 1) := by decide +kernel
theorem dX5_newOf_55 : decode cX5_newOf 55 = .ok (.ifCond .lt 16, 3) := by decide +kernel
theorem dX5_newOf_58 : decode cX5_newOf 58 = .ok (.aload_n 0, 1) := by decide +kernel
theorem dX5_newOf_59 : decode cX5_newOf 59 = .ok (.getfield 7, 3) := by decide +kernel
theorem dX5_newOf_62 : decode cX5_newOf 62 = .ok (.iload 5, 2) := by decide +kernel
theorem dX5_newOf_64 : decode cX5_newOf 64 = .ok (.iconst 1, 1) := by decide +kernel
theorem dX5_newOf_65 : decode cX5_newOf 65 = .ok (.iadd, 1) := by decide +kernel
theorem dX5_newOf_66 : decode cX5_newOf 66 = .ok (.iaload, 1) := by decide +kernel
theorem dX5_newOf_67 : decode cX5_newOf 67 = .ok (.iload_n 1, 1) := by decide +kernel
theorem dX5_newOf_68 : decode cX5_newOf 68 = .ok (.if_icmp .ne 7, 3) := by decide +kernel
theorem dX5_newOf_71 : decode cX5_newOf 71 = .ok (.iconst 1, 1) := by decide +kernel
theorem dX5_newOf_72 : decode cX5_newOf 72 = .ok (.goto 4, 3) := by decide +kernel
theorem dX5_newOf_75 : decode cX5_newOf 75 = .ok (.iconst 0, 1) := by decide +kernel
theorem dX5_newOf_76 : decode cX5_newOf 76 = .ok (.iadd, 1) := by decide +kernel
theorem dX5_newOf_77 : decode cX5_newOf 77 = .ok (.istore_n 2, 1) := by decide +kernel
theorem dX5_newOf_78 : decode cX5_newOf 78 = .ok (.iinc 4 1, 3) := by decide +kernel
theorem dX5_newOf_81 : decode cX5_newOf 81 = .ok (.goto (-62), 3) := by decide +kernel
theorem dX5_newOf_84 : decode cX5_newOf 84 = .ok (.iinc 3 1, 3) := by decide +kernel
theorem dX5_newOf_87 : decode cX5_newOf 87 = .ok (.goto (-83), 3) := by decide +kernel
theorem dX5_newOf_90 : decode cX5_newOf 90 = .ok (.iload_n 2, 1) := by decide +kernel
theorem dX5_newOf_91 : decode cX5_newOf 91 = .ok (.ireturn, 1) := by decide +kernel
theorem dX5_helper_0 : decode cX5_helper 0 = .ok (.aload_n 0, 1) := by decide +kernel
theorem dX5_helper_1 : decode cX5_helper 1 = .ok (.iload_n 1, 1) := by decide +kernel
theorem dX5_helper_2 : decode cX5_helper 2 = .ok (.invokevirtual 82, 3) := by decide +kernel
theorem dX5_helper_5 : decode cX5_helper 5 = .ok (.ifCond .ne 6, 3) := by decide +kernel
theorem dX5_helper_8 : decode cX5_helper 8 = .ok (.ldc 86, 2) := by decide +kernel
theorem dX5_helper_10 : decode cX5_helper 10 = .ok (.ireturn, 1) := by decide +kernel
theorem dX5_helper_11 : decode cX5_helper 11 = .ok (.iload_n 2, 1) := by decide +kernel
theorem dX5_helper_12 : decode cX5_helper 12 = .ok (.tableswitch 153 0 15 #[80, 80, 80, 80, 80, 80, 91, 97, 97, 97, 110, 116, 116, 116, 129, 141], 80) := by decide +kernel
theorem dX5_helper_92 : decode cX5_helper 92 = .ok (.aload_n 0, 1) := by decide +kernel
theorem dX5_helper_93 : decode cX5_helper 93 = .ok (.getfield 7, 3) := by decide +kernel
theorem dX5_helper_96 : decode cX5_helper 96 = .ok (.iload_n 1, 1) := by decide +kernel
theorem dX5_helper_97 : decode cX5_helper 97 = .ok (.iload_n 2, 1) := by decide +kernel
theorem dX5_helper_98 : decode cX5_helper 98 = .ok (.invokestatic 54, 3) := by decide +kernel
theorem dX5_helper_101 : decode cX5_helper 101 = .ok (.iaload, 1) := by decide +kernel
theorem dX5_helper_102 : decode cX5_helper 102 = .ok (.ireturn, 1) := by decide +kernel
theorem dX5_helper_103 : decode cX5_helper 103 = .ok (.aload_n 0, 1) := by decide +kernel
theorem dX5_helper_104 : decode cX5_helper 104 = .ok (.iload_n 1, 1) := by decide +kernel
theorem dX5_helper_105 : decode cX5_helper 105 = .ok (.invokevirtual 108, 3) := by decide +kernel
theorem dX5_helper_108 : decode cX5_helper 108 = .ok (.ireturn, 1) := by decide +kernel
theorem dX5_helper_109 : decode cX5_helper 109 = .ok (.aload_n 0, 1) := by decide +kernel
theorem dX5_helper_110 : decode cX5_helper 110 = .ok (.getfield 7, 3) := by decide +kernel
theorem dX5_helper_113 : decode cX5_helper 113 = .ok (.iload_n 1, 1) := by decide +kernel
theorem dX5_helper_114 : decode cX5_helper 114 = .ok (.iload_n 2, 1) := by decide +kernel
theorem dX5_helper_115 : decode cX5_helper 115 = .ok (.iconst 1, 1) := by decide +kernel
theorem dX5_helper_116 : decode cX5_helper 116 = .ok (.isub, 1) := by decide +kernel
theorem dX5_helper_117 : decode cX5_helper 117 = .ok (.invokestatic 54, 3) := by decide +kernel
theorem dX5_helper_120 : decode cX5_helper 120 = .ok (.iaload, 1) := by decide +kernel
theorem dX5_helper_121 : decode cX5_helper 121 = .ok (.ireturn, 1) := by decide +kernel
theorem dX5_helper_122 : decode cX5_helper 122 = .ok (.aload_n 0, 1) := by decide +kernel
theorem dX5_helper_123 : decode cX5_helper 123 = .ok (.iload_n 1, 1) := by decide +kernel
theorem dX5_helper_124 : decode cX5_helper 124 = .ok (.invokevirtual 159, 3) := by decide +kernel
theorem dX5_helper_127 : decode cX5_helper 127 = .ok (.ireturn, 1) := by decide +kernel
theorem dX5_helper_128 : decode cX5_helper 128 = .ok (.aload_n 0, 1) := by decide +kernel
theorem dX5_helper_129 : decode cX5_helper 129 = .ok (.getfield 7, 3) := by decide +kernel
theorem dX5_helper_132 : decode cX5_helper 132 = .ok (.iload_n 1, 1) := by decide +kernel
theorem dX5_helper_133 : decode cX5_helper 133 = .ok (.iload_n 2, 1) := by decide +kernel
theorem dX5_helper_134 : decode cX5_helper 134 = .ok (.iconst 2, 1) := by decide +kernel
theorem dX5_helper_135 : decode cX5_helper 135 = .ok (.isub, 1) := by decide +kernel
theorem dX5_helper_136 : decode cX5_helper 136 = .ok (.invokestatic 54, 3) := by decide +kernel
theorem dX5_helper_139 : decode cX5_helper 139 = .ok (.iaload, 1) := by decide +kernel
theorem dX5_helper_140 : decode cX5_helper 140 = .ok (.ireturn, 1) := by decide +kernel
theorem dX5_helper_141 : decode cX5_helper 141 = .ok (.aload_n 0, 1) := by decide +kernel
theorem dX5_helper_142 : decode cX5_helper 142 = .ok (.getfield 7, 3) := by decide +kernel
theorem dX5_helper_145 : decode cX5_helper 145 = .ok (.iload_n 1, 1) := by decide +kernel
theorem dX5_helper_146 : decode cX5_helper 146 = .ok (.bipush 13, 2) := by decide +kernel
theorem dX5_helper_148 : decode cX5_helper 148 = .ok (.invokestatic 54, 3) := by decide +kernel
theorem dX5_helper_151 : decode cX5_helper 151 = .ok (.iaload, 1) := by decide +kernel
theorem dX5_helper_152 : decode cX5_helper 152 = .ok (.ireturn, 1) := by decide +kernel
theorem dX5_helper_153 : decode cX5_helper 153 = .ok (.aload_n 0, 1) := by decide +kernel
theorem dX5_helper_154 : decode cX5_helper 154 = .ok (.getfield 7, 3) := by decide +kernel
theorem dX5_helper_157 : decode cX5_helper 157 = .ok (.iload_n 1, 1) := by decide +kernel
theorem dX5_helper_158 : decode cX5_helper 158 = .ok (.bipush 12, 2) := by decide +kernel
theorem dX5_helper_160 : decode cX5_helper 160 = .ok (.invokestatic 54, 3) := by decide +kernel
theorem dX5_helper_163 : decode cX5_helper 163 = .ok (.iaload, 1) := by decide +kernel
theorem dX5_helper_164 : decode cX5_helper 164 = .ok (.ireturn, 1) := by decide +kernel
theorem dX5_helper_165 : decode cX5_helper 165 = .ok (.ldc 77, 2) := by decide +kernel
theorem dX5_helper_167 : decode cX5_helper 167 = .ok (.ireturn, 1) := by decide +kernel
theorem dX5_table_0 : decode cX5_table 0 = .ok (.aload_n 0, 1) := by decide +kernel
theorem dX5_table_1 : decode cX5_table 1 = .ok (.iload_n 1, 1) := by decide +kernel
theorem dX5_table_2 : decode cX5_table 2 = .ok (.invokevirtual 82, 3) := by decide +kernel
theorem dX5_table_5 : decode cX5_table 5 = .ok (.ifCond .ne 6, 3) := by decide +kernel
theorem dX5_table_8 : decode cX5_table 8 = .ok (.ldc 86, 2) := by decide +kernel
theorem dX5_table_10 : decode cX5_table 10 = .ok (.ireturn, 1) := by decide +kernel
theorem dX5_table_11 : decode cX5_table 11 = .ok (.iload_n 2, 1) := by decide +kernel
theorem dX5_table_12 : decode cX5_table 12 = .ok (.ifCond .lt 12, 3) := by decide +kernel
theorem dX5_table_15 : decode cX5_table 15 = .ok (.iload_n 3, 1) := by decide +kernel
theorem dX5_table_16 : decode cX5_table 16 = .ok (.iconst 0, 1) := by decide +kernel
theorem dX5_table_17 : decode cX5_table 17 = .ok (.iconst 3, 1) := by decide +kernel
theorem dX5_table_18 : decode cX5_table 18 = .ok (.invokestatic 23, 3) := by decide +kernel
theorem dX5_table_21 : decode cX5_table 21 = .ok (.ifCond .ne 6, 3) := by decide +kernel
theorem dX5_table_24 : decode cX5_table 24 = .ok (.ldc 77, 2) := by decide +kernel
theorem dX5_table_26 : decode cX5_table 26 = .ok (.ireturn, 1) := by decide +kernel
theorem dX5_table_27 : decode cX5_table 27 = .ok (.iload_n 2, 1) := by decide +kernel
theorem dX5_table_28 : decode cX5_table 28 = .ok (.aload_n 0, 1) := by decide +kernel
theorem dX5_table_29 : decode cX5_table 29 = .ok (.getfield 7, 3) := by decide +kernel
theorem dX5_table_32 : decode cX5_table 32 = .ok (.iload_n 1, 1) := by decide +kernel
theorem dX5_table_33 : decode cX5_table 33 = .ok (.bipush 13, 2) := by decide +kernel
theorem dX5_table_35 : decode cX5_table 35 = .ok (.invokestatic 54, 3) := by decide +kernel
theorem dX5_table_38 : decode cX5_table 38 = .ok (.iaload, 1) := by decide +kernel
theorem dX5_table_39 : decode cX5_table 39 = .ok (.if_icmp .lt 6, 3) := by decide +kernel
theorem dX5_table_42 : decode cX5_table 42 = .ok (.ldc 34, 2) := by decide +kernel
theorem dX5_table_44 : decode cX5_table 44 = .ok (.ireturn, 1) := by decide +kernel
theorem dX5_table_45 : decode cX5_table 45 = .ok (.iload_n 3, 1) := by decide +kernel
theorem dX5_table_46 : decode cX5_table 46 = .ok (.ifCond .ne 22, 3) := by decide +kernel
theorem dX5_table_49 : decode cX5_table 49 = .ok (.aload_n 0, 1) := by decide +kernel
theorem dX5_table_50 : decode cX5_table 50 = .ok (.getfield 7, 3) := by decide +kernel
theorem dX5_table_53 : decode cX5_table 53 = .ok (.iload_n 1, 1) := by decide +kernel
theorem dX5_table_54 : decode cX5_table 54 = .ok (.iconst 0, 1) := by decide +kernel
theorem dX5_table_55 : decode cX5_table 55 = .ok (.invokestatic 54, 3) := by decide +kernel
theorem dX5_table_58 : decode cX5_table 58 = .ok (.iaload, 1) := by decide +kernel
theorem dX5_table_59 : decode cX5_table 59 = .ok (.iconst 1, 1) := by decide +kernel
theorem dX5_table_60 : decode cX5_table 60 = .ok (.if_icmp .ne 8, 3) := by decide +kernel
theorem dX5_table_63 : decode cX5_table 63 = .ok (.ldc 34, 2) := by decide +kernel
theorem dX5_table_65 : decode cX5_table 65 = .ok (.goto 15, 3) := by decide +kernel
theorem dX5_table_68 : decode cX5_table 68 = .ok (.aload_n 0, 1) := by decide +kernel
theorem dX5_table_69 : decode cX5_table 69 = .ok (.getfield 7, 3) := by decide +kernel
theorem dX5_table_72 : decode cX5_table 72 = .ok (.iload_n 1, 1) := by decide +kernel
theorem dX5_table_73 : decode cX5_table 73 = .ok (.iload_n 2, 1) := by decide +kernel
theorem dX5_table_74 : decode cX5_table 74 = .ok (.invokestatic 88, 3) := by decide +kernel
theorem dX5_table_77 : decode cX5_table 77 = .ok (.iload_n 3, 1) := by decide +kernel
theorem dX5_table_78 : decode cX5_table 78 = .ok (.iadd, 1) := by decide +kernel
theorem dX5_table_79 : decode cX5_table 79 = .ok (.iaload, 1) := by decide +kernel
theorem dX5_table_80 : decode cX5_table 80 = .ok (.ireturn, 1) := by decide +kernel
theorem dX5_bestHelper_0 : decode cX5_bestHelper 0 = .ok (.ldc 34, 2) := by decide +kernel
theorem dX5_bestHelper_2 : decode cX5_bestHelper 2 = .ok (.istore_n 1, 1) := by decide +kernel
theorem dX5_bestHelper_3 : decode cX5_bestHelper 3 = .ok (.iconst 0, 1) := by decide +kernel
theorem dX5_bestHelper_4 : decode cX5_bestHelper 4 = .ok (.istore_n 2, 1) := by decide +kernel
theorem dX5_bestHelper_5 : decode cX5_bestHelper 5 = .ok (.iconst 0, 1) := by decide +kernel
theorem dX5_bestHelper_6 : decode cX5_bestHelper 6 = .ok (.istore_n 3, 1) := by decide +kernel
theorem dX5_bestHelper_7 : decode cX5_bestHelper 7 = .ok (.iload_n 3, 1) := by decide +kernel
theorem dX5_bestHelper_8 : decode cX5_bestHelper 8 = .ok (.aload_n 0, 1) := by decide +kernel
theorem dX5_bestHelper_9 : decode cX5_bestHelper 9 = .ok (.getfield 7, 3) := by decide +kernel
theorem dX5_bestHelper_12 : decode cX5_bestHelper 12 = .ok (.sipush 351, 3) := by decide +kernel
theorem dX5_bestHelper_15 : decode cX5_bestHelper 15 = .ok (.iaload, 1) := by decide +kernel
theorem dX5_bestHelper_16 : decode cX5_bestHelper 16 = .ok (.if_icmp .ge 51, 3) := by decide +kernel
theorem dX5_bestHelper_19 : decode cX5_bestHelper 19 = .ok (.aload_n 0, 1) := by decide +kernel
theorem dX5_bestHelper_20 : decode cX5_bestHelper 20 = .ok (.getfield 7, 3) := by decide +kernel
theorem dX5_bestHelper_23 : decode cX5_bestHelper 23 = .ok (.iload_n 3, 1) := by decide +kernel
theorem dX5_bestHelper_24 : decode cX5_bestHelper 24 = .ok (.bipush 7, 2) := by decide +kernel
theorem dX5_bestHelper_26 : decode cX5_bestHelper 26 = .ok (.invokestatic 54, 3) := by decide +kernel
theorem dX5_bestHelper_29 : decode cX5_bestHelper 29 = .ok (.iaload, 1) := by decide +kernel
theorem dX5_bestHelper_30 : decode cX5_bestHelper 30 = .ok (.aload_n 0, 1) := by decide +kernel
theorem dX5_bestHelper_31 : decode cX5_bestHelper 31 = .ok (.getfield 7, 3) := by decide +kernel
theorem dX5_bestHelper_34 : decode cX5_bestHelper 34 = .ok (.iload_n 3, 1) := by decide +kernel
theorem dX5_bestHelper_35 : decode cX5_bestHelper 35 = .ok (.bipush 8, 2) := by decide +kernel
theorem dX5_bestHelper_37 : decode cX5_bestHelper 37 = .ok (.invokestatic 54, 3) := by decide +kernel
theorem dX5_bestHelper_40 : decode cX5_bestHelper 40 = .ok (.iaload, 1) := by decide +kernel
theorem dX5_bestHelper_41 : decode cX5_bestHelper 41 = .ok (.isub, 1) := by decide +kernel
theorem dX5_bestHelper_42 : decode cX5_bestHelper 42 = .ok (.istore 4, 2) := by decide +kernel
theorem dX5_bestHelper_44 : decode cX5_bestHelper 44 = .ok (.iload_n 1, 1) := by decide +kernel
theorem dX5_bestHelper_45 : decode cX5_bestHelper 45 = .ok (.ldc 34, 2) := by decide +kernel
theorem dX5_bestHelper_47 : decode cX5_bestHelper 47 = .ok (.if_icmp .eq 9, 3) := by decide +kernel
theorem dX5_bestHelper_50 : decode cX5_bestHelper 50 = .ok (.iload 4, 2) := by decide +kernel
theorem dX5_bestHelper_52 : decode cX5_bestHelper 52 = .ok (.iload_n 2, 1) := by decide +kernel
theorem dX5_bestHelper_53 : decode cX5_bestHelper 53 = .ok (.if_icmp .le 8, 3) := by decide +kernel
theorem dX5_bestHelper_56 : decode cX5_bestHelper 56 = .ok (.iload_n 3, 1) := by decide +kernel
theorem dX5_bestHelper_57 : decode cX5_bestHelper 57 = .ok (.istore_n 1, 1) := by decide +kernel
theorem dX5_bestHelper_58 : decode cX5_bestHelper 58 = .ok (.iload 4, 2) := by decide +kernel
theorem dX5_bestHelper_60 : decode cX5_bestHelper 60 = .ok (.istore_n 2, 1) := by decide +kernel
theorem dX5_bestHelper_61 : decode cX5_bestHelper 61 = .ok (.iinc 3 1, 3) := by decide +kernel
theorem dX5_bestHelper_64 : decode cX5_bestHelper 64 = .ok (.goto (-57), 3) := by decide +kernel
theorem dX5_bestHelper_67 : decode cX5_bestHelper 67 = .ok (.iload_n 1, 1) := by decide +kernel
theorem dX5_bestHelper_68 : decode cX5_bestHelper 68 = .ok (.ireturn, 1) := by decide +kernel
theorem dX5_loggedMany_0 : decode cX5_loggedMany 0 = .ok (.aload_n 0, 1) := by decide +kernel
theorem dX5_loggedMany_1 : decode cX5_loggedMany 1 = .ok (.getfield 7, 3) := by decide +kernel
theorem dX5_loggedMany_4 : decode cX5_loggedMany 4 = .ok (.sipush 353, 3) := by decide +kernel
theorem dX5_loggedMany_7 : decode cX5_loggedMany 7 = .ok (.iaload, 1) := by decide +kernel
theorem dX5_loggedMany_8 : decode cX5_loggedMany 8 = .ok (.bipush 12, 2) := by decide +kernel
theorem dX5_loggedMany_10 : decode cX5_loggedMany 10 = .ok (.if_icmp .ge 14, 3) := by decide +kernel
theorem dX5_loggedMany_13 : decode cX5_loggedMany 13 = .ok (.aload_n 0, 1) := by decide +kernel
theorem dX5_loggedMany_14 : decode cX5_loggedMany 14 = .ok (.getfield 7, 3) := by decide +kernel
theorem dX5_loggedMany_17 : decode cX5_loggedMany 17 = .ok (.sipush 353, 3) := by decide +kernel
theorem dX5_loggedMany_20 : decode cX5_loggedMany 20 = .ok (.iaload, 1) := by decide +kernel
theorem dX5_loggedMany_21 : decode cX5_loggedMany 21 = .ok (.goto 5, 3) := by decide +kernel
theorem dX5_loggedMany_24 : decode cX5_loggedMany 24 = .ok (.bipush 12, 2) := by decide +kernel
theorem dX5_loggedMany_26 : decode cX5_loggedMany 26 = .ok (.ireturn, 1) := by decide +kernel
theorem dX5_logged_0 : decode cX5_logged 0 = .ok (.iload_n 1, 1) := by decide +kernel
theorem dX5_logged_1 : decode cX5_logged 1 = .ok (.ifCond .lt 12, 3) := by decide +kernel
theorem dX5_logged_4 : decode cX5_logged 4 = .ok (.iload_n 2, 1) := by decide +kernel
theorem dX5_logged_5 : decode cX5_logged 5 = .ok (.iconst 0, 1) := by decide +kernel
theorem dX5_logged_6 : decode cX5_logged 6 = .ok (.iconst 4, 1) := by decide +kernel
theorem dX5_logged_7 : decode cX5_logged 7 = .ok (.invokestatic 23, 3) := by decide +kernel
theorem dX5_logged_10 : decode cX5_logged 10 = .ok (.ifCond .ne 6, 3) := by decide +kernel
theorem dX5_logged_13 : decode cX5_logged 13 = .ok (.ldc 77, 2) := by decide +kernel
theorem dX5_logged_15 : decode cX5_logged 15 = .ok (.ireturn, 1) := by decide +kernel
theorem dX5_logged_16 : decode cX5_logged 16 = .ok (.iload_n 1, 1) := by decide +kernel
theorem dX5_logged_17 : decode cX5_logged 17 = .ok (.aload_n 0, 1) := by decide +kernel
theorem dX5_logged_18 : decode cX5_logged 18 = .ok (.invokevirtual 162, 3) := by decide +kernel
theorem dX5_logged_21 : decode cX5_logged 21 = .ok (.if_icmp .lt 6, 3) := by decide +kernel
theorem dX5_logged_24 : decode cX5_logged 24 = .ok (.ldc 34, 2) := by decide +kernel
theorem dX5_logged_26 : decode cX5_logged 26 = .ok (.ireturn, 1) := by decide +kernel
theorem dX5_logged_27 : decode cX5_logged 27 = .ok (.aload_n 0, 1) := by decide +kernel
theorem dX5_logged_28 : decode cX5_logged 28 = .ok (.getfield 7, 3) := by decide +kernel
theorem dX5_logged_31 : decode cX5_logged 31 = .ok (.sipush 353, 3) := by decide +kernel
theorem dX5_logged_34 : decode cX5_logged 34 = .ok (.iaload, 1) := by decide +kernel
theorem dX5_logged_35 : decode cX5_logged 35 = .ok (.iconst 1, 1) := by decide +kernel
theorem dX5_logged_36 : decode cX5_logged 36 = .ok (.isub, 1) := by decide +kernel
theorem dX5_logged_37 : decode cX5_logged 37 = .ok (.iload_n 1, 1) := by decide +kernel
theorem dX5_logged_38 : decode cX5_logged 38 = .ok (.isub, 1) := by decide +kernel
theorem dX5_logged_39 : decode cX5_logged 39 = .ok (.istore_n 3, 1) := by decide +kernel
theorem dX5_logged_40 : decode cX5_logged 40 = .ok (.iload_n 2, 1) := by decide +kernel
theorem dX5_logged_41 : decode cX5_logged 41 = .ok (.iconst 4, 1) := by decide +kernel
theorem dX5_logged_42 : decode cX5_logged 42 = .ok (.if_icmp .ne 7, 3) := by decide +kernel
theorem dX5_logged_45 : decode cX5_logged 45 = .ok (.iload_n 3, 1) := by decide +kernel
theorem dX5_logged_46 : decode cX5_logged 46 = .ok (.goto 20, 3) := by decide +kernel
theorem dX5_logged_49 : decode cX5_logged 49 = .ok (.aload_n 0, 1) := by decide +kernel
theorem dX5_logged_50 : decode cX5_logged 50 = .ok (.getfield 7, 3) := by decide +kernel
theorem dX5_logged_53 : decode cX5_logged 53 = .ok (.sipush 300, 3) := by decide +kernel
theorem dX5_logged_56 : decode cX5_logged 56 = .ok (.iconst 4, 1) := by decide +kernel
theorem dX5_logged_57 : decode cX5_logged 57 = .ok (.iload_n 3, 1) := by decide +kernel
theorem dX5_logged_58 : decode cX5_logged 58 = .ok (.bipush 12, 2) := by decide +kernel
theorem dX5_logged_60 : decode cX5_logged 60 = .ok (.irem, 1) := by decide +kernel
theorem dX5_logged_61 : decode cX5_logged 61 = .ok (.imul, 1) := by decide +kernel
theorem dX5_logged_62 : decode cX5_logged 62 = .ok (.iadd, 1) := by decide +kernel
theorem dX5_logged_63 : decode cX5_logged 63 = .ok (.iload_n 2, 1) := by decide +kernel
theorem dX5_logged_64 : decode cX5_logged 64 = .ok (.iadd, 1) := by decide +kernel
theorem dX5_logged_65 : decode cX5_logged 65 = .ok (.iaload, 1) := by decide +kernel
theorem dX5_logged_66 : decode cX5_logged 66 = .ok (.ireturn, 1) := by decide +kernel
theorem dX5_programsLogged_0 : decode cX5_programsLogged 0 = .ok (.iconst 0, 1) := by decide +kernel
theorem dX5_programsLogged_1 : decode cX5_programsLogged 1 = .ok (.istore_n 1, 1) := by decide +kernel
theorem dX5_programsLogged_2 : decode cX5_programsLogged 2 = .ok (.iconst 0, 1) := by decide +kernel
theorem dX5_programsLogged_3 : decode cX5_programsLogged 3 = .ok (.istore_n 2, 1) := by decide +kernel
theorem dX5_programsLogged_4 : decode cX5_programsLogged 4 = .ok (.iconst 0, 1) := by decide +kernel
theorem dX5_programsLogged_5 : decode cX5_programsLogged 5 = .ok (.istore_n 3, 1) := by decide +kernel
theorem dX5_programsLogged_6 : decode cX5_programsLogged 6 = .ok (.iload_n 3, 1) := by decide +kernel
theorem dX5_programsLogged_7 : decode cX5_programsLogged 7 = .ok (.aload_n 0, 1) := by decide +kernel
theorem dX5_programsLogged_8 : decode cX5_programsLogged 8 = .ok (.invokevirtual 162, 3) := by decide +kernel
theorem dX5_programsLogged_11 : decode cX5_programsLogged 11 = .ok (.if_icmp .ge 47, 3) := by decide +kernel
theorem dX5_programsLogged_14 : decode cX5_programsLogged 14 = .ok (.aload_n 0, 1) := by decide +kernel
theorem dX5_programsLogged_15 : decode cX5_programsLogged 15 = .ok (.getfield 7, 3) := by decide +kernel
theorem dX5_programsLogged_18 : decode cX5_programsLogged 18 = .ok (.sipush 300, 3) := by decide +kernel
theorem dX5_programsLogged_21 : decode cX5_programsLogged 21 = .ok (.iconst 4, 1) := by decide +kernel
theorem dX5_programsLogged_22 : decode cX5_programsLogged 22 = .ok (.iload_n 3, 1) := by decide +kernel
theorem dX5_programsLogged_23 : decode cX5_programsLogged 23 = .ok (.imul, 1) := by decide +kernel
theorem dX5_programsLogged_24 : decode cX5_programsLogged 24 = .ok (.iadd, 1) := by decide +kernel
theorem dX5_programsLogged_25 : decode cX5_programsLogged 25 = .ok (.iaload, 1) := by decide +kernel
theorem dX5_programsLogged_26 : decode cX5_programsLogged 26 = .ok (.istore 4, 2) := by decide +kernel
theorem dX5_programsLogged_28 : decode cX5_programsLogged 28 = .ok (.iload_n 2, 1) := by decide +kernel
theorem dX5_programsLogged_29 : decode cX5_programsLogged 29 = .ok (.iload_n 1, 1) := by decide +kernel
theorem dX5_programsLogged_30 : decode cX5_programsLogged 30 = .ok (.iload 4, 2) := by decide +kernel
theorem dX5_programsLogged_32 : decode cX5_programsLogged 32 = .ok (.ishr, 1) := by decide +kernel
theorem dX5_programsLogged_33 : decode cX5_programsLogged 33 = .ok (.iconst 1, 1) := by decide +kernel
theorem dX5_programsLogged_34 : decode cX5_programsLogged 34 = .ok (.iand, 1) := by decide +kernel
theorem dX5_programsLogged_35 : decode cX5_programsLogged 35 = .ok (.ifCond .ne 7, 3) := by decide +kernel
theorem dX5_programsLogged_38 : decode cX5_programsLogged 38 = .ok (.iconst 1, 1) := by decide +kernel
theorem dX5_programsLogged_39 : decode cX5_programsLogged 39 = .ok (.goto 4, 3) := by decide +kernel
theorem dX5_programsLogged_42 : decode cX5_programsLogged 42 = .ok (.iconst 0, 1) := by decide +kernel
theorem dX5_programsLogged_43 : decode cX5_programsLogged 43 = .ok (.iadd, 1) := by decide +kernel
theorem dX5_programsLogged_44 : decode cX5_programsLogged 44 = .ok (.istore_n 2, 1) := by decide +kernel
theorem dX5_programsLogged_45 : decode cX5_programsLogged 45 = .ok (.iload_n 1, 1) := by decide +kernel
theorem dX5_programsLogged_46 : decode cX5_programsLogged 46 = .ok (.iconst 1, 1) := by decide +kernel
theorem dX5_programsLogged_47 : decode cX5_programsLogged 47 = .ok (.iload 4, 2) := by decide +kernel
theorem dX5_programsLogged_49 : decode cX5_programsLogged 49 = .ok (.ishl, 1) := by decide +kernel
theorem dX5_programsLogged_50 : decode cX5_programsLogged 50 = .ok (.ior, 1) := by decide +kernel
theorem dX5_programsLogged_51 : decode cX5_programsLogged 51 = .ok (.istore_n 1, 1) := by decide +kernel
theorem dX5_programsLogged_52 : decode cX5_programsLogged 52 = .ok (.iinc 3 1, 3) := by decide +kernel
theorem dX5_programsLogged_55 : decode cX5_programsLogged 55 = .ok (.goto (-49), 3) := by decide +kernel
theorem dX5_programsLogged_58 : decode cX5_programsLogged 58 = .ok (.iload_n 2, 1) := by decide +kernel
theorem dX5_programsLogged_59 : decode cX5_programsLogged 59 = .ok (.ireturn, 1) := by decide +kernel
theorem dX5_hoursOfAll_0 : decode cX5_hoursOfAll 0 = .ok (.iconst 0, 1) := by decide +kernel
theorem dX5_hoursOfAll_1 : decode cX5_hoursOfAll 1 = .ok (.istore_n 1, 1) := by decide +kernel
theorem dX5_hoursOfAll_2 : decode cX5_hoursOfAll 2 = .ok (.iconst 0, 1) := by decide +kernel
theorem dX5_hoursOfAll_3 : decode cX5_hoursOfAll 3 = .ok (.istore_n 2, 1) := by decide +kernel
theorem dX5_hoursOfAll_4 : decode cX5_hoursOfAll 4 = .ok (.iload_n 2, 1) := by decide +kernel
theorem dX5_hoursOfAll_5 : decode cX5_hoursOfAll 5 = .ok (.aload_n 0, 1) := by decide +kernel
theorem dX5_hoursOfAll_6 : decode cX5_hoursOfAll 6 = .ok (.getfield 7, 3) := by decide +kernel
theorem dX5_hoursOfAll_9 : decode cX5_hoursOfAll 9 = .ok (.sipush 351, 3) := by decide +kernel
theorem dX5_hoursOfAll_12 : decode cX5_hoursOfAll 12 = .ok (.iaload, 1) := by decide +kernel
theorem dX5_hoursOfAll_13 : decode cX5_hoursOfAll 13 = .ok (.if_icmp .ge 22, 3) := by decide +kernel
theorem dX5_hoursOfAll_16 : decode cX5_hoursOfAll 16 = .ok (.iload_n 1, 1) := by decide +kernel
theorem dX5_hoursOfAll_17 : decode cX5_hoursOfAll 17 = .ok (.aload_n 0, 1) := by decide +kernel
theorem dX5_hoursOfAll_18 : decode cX5_hoursOfAll 18 = .ok (.getfield 7, 3) := by decide +kernel
theorem dX5_hoursOfAll_21 : decode cX5_hoursOfAll 21 = .ok (.iload_n 2, 1) := by decide +kernel
theorem dX5_hoursOfAll_22 : decode cX5_hoursOfAll 22 = .ok (.iconst 4, 1) := by decide +kernel
theorem dX5_hoursOfAll_23 : decode cX5_hoursOfAll 23 = .ok (.invokestatic 54, 3) := by decide +kernel
theorem dX5_hoursOfAll_26 : decode cX5_hoursOfAll 26 = .ok (.iaload, 1) := by decide +kernel
theorem dX5_hoursOfAll_27 : decode cX5_hoursOfAll 27 = .ok (.iadd, 1) := by decide +kernel
theorem dX5_hoursOfAll_28 : decode cX5_hoursOfAll 28 = .ok (.istore_n 1, 1) := by decide +kernel
theorem dX5_hoursOfAll_29 : decode cX5_hoursOfAll 29 = .ok (.iinc 2 1, 3) := by decide +kernel
theorem dX5_hoursOfAll_32 : decode cX5_hoursOfAll 32 = .ok (.goto (-28), 3) := by decide +kernel
theorem dX5_hoursOfAll_35 : decode cX5_hoursOfAll 35 = .ok (.iload_n 1, 1) := by decide +kernel
theorem dX5_hoursOfAll_36 : decode cX5_hoursOfAll 36 = .ok (.ireturn, 1) := by decide +kernel
theorem dX5_count_0 : decode cX5_count 0 = .ok (.iload_n 1, 1) := by decide +kernel
theorem dX5_count_1 : decode cX5_count 1 = .ok (.tableswitch 222 0 16 #[83, 92, 101, 110, 128, 137, 146, 155, 164, 169, 175, 184, 193, 198, 207, 212, 217], 83) := by decide +kernel
theorem dX5_count_84 : decode cX5_count 84 = .ok (.aload_n 0, 1) := by decide +kernel
theorem dX5_count_85 : decode cX5_count 85 = .ok (.getfield 7, 3) := by decide +kernel
theorem dX5_count_88 : decode cX5_count 88 = .ok (.sipush 353, 3) := by decide +kernel
theorem dX5_count_91 : decode cX5_count 91 = .ok (.iaload, 1) := by decide +kernel
theorem dX5_count_92 : decode cX5_count 92 = .ok (.ireturn, 1) := by decide +kernel
theorem dX5_count_93 : decode cX5_count 93 = .ok (.aload_n 0, 1) := by decide +kernel
theorem dX5_count_94 : decode cX5_count 94 = .ok (.getfield 7, 3) := by decide +kernel
theorem dX5_count_97 : decode cX5_count 97 = .ok (.sipush 354, 3) := by decide +kernel
theorem dX5_count_100 : decode cX5_count 100 = .ok (.iaload, 1) := by decide +kernel
theorem dX5_count_101 : decode cX5_count 101 = .ok (.ireturn, 1) := by decide +kernel
theorem dX5_count_102 : decode cX5_count 102 = .ok (.aload_n 0, 1) := by decide +kernel
theorem dX5_count_103 : decode cX5_count 103 = .ok (.getfield 7, 3) := by decide +kernel
theorem dX5_count_106 : decode cX5_count 106 = .ok (.sipush 355, 3) := by decide +kernel
theorem dX5_count_109 : decode cX5_count 109 = .ok (.iaload, 1) := by decide +kernel
theorem dX5_count_110 : decode cX5_count 110 = .ok (.ireturn, 1) := by decide +kernel
theorem dX5_count_111 : decode cX5_count 111 = .ok (.aload_n 0, 1) := by decide +kernel
theorem dX5_count_112 : decode cX5_count 112 = .ok (.getfield 7, 3) := by decide +kernel
theorem dX5_count_115 : decode cX5_count 115 = .ok (.sipush 353, 3) := by decide +kernel
theorem dX5_count_118 : decode cX5_count 118 = .ok (.iaload, 1) := by decide +kernel
theorem dX5_count_119 : decode cX5_count 119 = .ok (.aload_n 0, 1) := by decide +kernel
theorem dX5_count_120 : decode cX5_count 120 = .ok (.getfield 7, 3) := by decide +kernel
theorem dX5_count_123 : decode cX5_count 123 = .ok (.sipush 354, 3) := by decide +kernel
theorem dX5_count_126 : decode cX5_count 126 = .ok (.iaload, 1) := by decide +kernel
theorem dX5_count_127 : decode cX5_count 127 = .ok (.isub, 1) := by decide +kernel
theorem dX5_count_128 : decode cX5_count 128 = .ok (.ireturn, 1) := by decide +kernel
theorem dX5_count_129 : decode cX5_count 129 = .ok (.aload_n 0, 1) := by decide +kernel
theorem dX5_count_130 : decode cX5_count 130 = .ok (.getfield 7, 3) := by decide +kernel
theorem dX5_count_133 : decode cX5_count 133 = .ok (.sipush 356, 3) := by decide +kernel
theorem dX5_count_136 : decode cX5_count 136 = .ok (.iaload, 1) := by decide +kernel
theorem dX5_count_137 : decode cX5_count 137 = .ok (.ireturn, 1) := by decide +kernel
theorem dX5_count_138 : decode cX5_count 138 = .ok (.aload_n 0, 1) := by decide +kernel
theorem dX5_count_139 : decode cX5_count 139 = .ok (.getfield 7, 3) := by decide +kernel
theorem dX5_count_142 : decode cX5_count 142 = .ok (.sipush 357, 3) := by decide +kernel
theorem dX5_count_145 : decode cX5_count 145 = .ok (.iaload, 1) := by decide +kernel
theorem dX5_count_146 : decode cX5_count 146 = .ok (.ireturn, 1) := by decide +kernel
theorem dX5_count_147 : decode cX5_count 147 = .ok (.aload_n 0, 1) := by decide +kernel
theorem dX5_count_148 : decode cX5_count 148 = .ok (.getfield 7, 3) := by decide +kernel
theorem dX5_count_151 : decode cX5_count 151 = .ok (.sipush 349, 3) := by decide +kernel
theorem dX5_count_154 : decode cX5_count 154 = .ok (.iaload, 1) := by decide +kernel
theorem dX5_count_155 : decode cX5_count 155 = .ok (.ireturn, 1) := by decide +kernel
theorem dX5_count_156 : decode cX5_count 156 = .ok (.aload_n 0, 1) := by decide +kernel
theorem dX5_count_157 : decode cX5_count 157 = .ok (.getfield 7, 3) := by decide +kernel
theorem dX5_count_160 : decode cX5_count 160 = .ok (.sipush 350, 3) := by decide +kernel
theorem dX5_count_163 : decode cX5_count 163 = .ok (.iaload, 1) := by decide +kernel
theorem dX5_count_164 : decode cX5_count 164 = .ok (.ireturn, 1) := by decide +kernel
theorem dX5_count_165 : decode cX5_count 165 = .ok (.aload_n 0, 1) := by decide +kernel
theorem dX5_count_166 : decode cX5_count 166 = .ok (.invokevirtual 73, 3) := by decide +kernel
theorem dX5_count_169 : decode cX5_count 169 = .ok (.ireturn, 1) := by decide +kernel
theorem dX5_count_170 : decode cX5_count 170 = .ok (.aload_n 0, 1) := by decide +kernel
theorem dX5_count_171 : decode cX5_count 171 = .ok (.iconst (-1), 1) := by decide +kernel
theorem dX5_count_172 : decode cX5_count 172 = .ok (.invokevirtual 159, 3) := by decide +kernel
theorem dX5_count_175 : decode cX5_count 175 = .ok (.ireturn, 1) := by decide +kernel
theorem dX5_count_176 : decode cX5_count 176 = .ok (.aload_n 0, 1) := by decide +kernel
theorem dX5_count_177 : decode cX5_count 177 = .ok (.getfield 7, 3) := by decide +kernel
theorem dX5_count_180 : decode cX5_count 180 = .ok (.sipush 351, 3) := by decide +kernel
theorem dX5_count_183 : decode cX5_count 183 = .ok (.iaload, 1) := by decide +kernel
theorem dX5_count_184 : decode cX5_count 184 = .ok (.ireturn, 1) := by decide +kernel
theorem dX5_count_185 : decode cX5_count 185 = .ok (.aload_n 0, 1) := by decide +kernel
theorem dX5_count_186 : decode cX5_count 186 = .ok (.getfield 7, 3) := by decide +kernel
theorem dX5_count_189 : decode cX5_count 189 = .ok (.sipush 352, 3) := by decide +kernel
theorem dX5_count_192 : decode cX5_count 192 = .ok (.iaload, 1) := by decide +kernel
theorem dX5_count_193 : decode cX5_count 193 = .ok (.ireturn, 1) := by decide +kernel
theorem dX5_count_194 : decode cX5_count 194 = .ok (.aload_n 0, 1) := by decide +kernel
theorem dX5_count_195 : decode cX5_count 195 = .ok (.invokevirtual 165, 3) := by decide +kernel
theorem dX5_count_198 : decode cX5_count 198 = .ok (.ireturn, 1) := by decide +kernel
theorem dX5_count_199 : decode cX5_count 199 = .ok (.aload_n 0, 1) := by decide +kernel
theorem dX5_count_200 : decode cX5_count 200 = .ok (.getfield 7, 3) := by decide +kernel
theorem dX5_count_203 : decode cX5_count 203 = .ok (.sipush 348, 3) := by decide +kernel
theorem dX5_count_206 : decode cX5_count 206 = .ok (.iaload, 1) := by decide +kernel
theorem dX5_count_207 : decode cX5_count 207 = .ok (.ireturn, 1) := by decide +kernel
theorem dX5_count_208 : decode cX5_count 208 = .ok (.aload_n 0, 1) := by decide +kernel
theorem dX5_count_209 : decode cX5_count 209 = .ok (.getfield 27, 3) := by decide +kernel
theorem dX5_count_212 : decode cX5_count 212 = .ok (.ireturn, 1) := by decide +kernel
theorem dX5_count_213 : decode cX5_count 213 = .ok (.aload_n 0, 1) := by decide +kernel
theorem dX5_count_214 : decode cX5_count 214 = .ok (.getfield 153, 3) := by decide +kernel
theorem dX5_count_217 : decode cX5_count 217 = .ok (.ireturn, 1) := by decide +kernel
theorem dX5_count_218 : decode cX5_count 218 = .ok (.aload_n 0, 1) := by decide +kernel
theorem dX5_count_219 : decode cX5_count 219 = .ok (.invokevirtual 168, 3) := by decide +kernel
theorem dX5_count_222 : decode cX5_count 222 = .ok (.ireturn, 1) := by decide +kernel
theorem dX5_count_223 : decode cX5_count 223 = .ok (.ldc 77, 2) := by decide +kernel
theorem dX5_count_225 : decode cX5_count 225 = .ok (.ireturn, 1) := by decide +kernel
theorem dJ6_bitCount_0f7a4_0 : decode cJ6_bitCount_0f7a4 0 = .ok (.iload_n 0, 1) := by decide +kernel
theorem dJ6_bitCount_0f7a4_1 : decode cJ6_bitCount_0f7a4 1 = .ok (.iload_n 0, 1) := by decide +kernel
theorem dJ6_bitCount_0f7a4_2 : decode cJ6_bitCount_0f7a4 2 = .ok (.iconst 1, 1) := by decide +kernel
theorem dJ6_bitCount_0f7a4_3 : decode cJ6_bitCount_0f7a4 3 = .ok (.iushr, 1) := by decide +kernel
theorem dJ6_bitCount_0f7a4_4 : decode cJ6_bitCount_0f7a4 4 = .ok (.ldc_w 265, 3) := by decide +kernel
theorem dJ6_bitCount_0f7a4_7 : decode cJ6_bitCount_0f7a4 7 = .ok (.iand, 1) := by decide +kernel
theorem dJ6_bitCount_0f7a4_8 : decode cJ6_bitCount_0f7a4 8 = .ok (.isub, 1) := by decide +kernel
theorem dJ6_bitCount_0f7a4_9 : decode cJ6_bitCount_0f7a4 9 = .ok (.istore_n 0, 1) := by decide +kernel
theorem dJ6_bitCount_0f7a4_10 : decode cJ6_bitCount_0f7a4 10 = .ok (.iload_n 0, 1) := by decide +kernel
theorem dJ6_bitCount_0f7a4_11 : decode cJ6_bitCount_0f7a4 11 = .ok (.ldc_w 266, 3) := by decide +kernel
theorem dJ6_bitCount_0f7a4_14 : decode cJ6_bitCount_0f7a4 14 = .ok (.iand, 1) := by decide +kernel
theorem dJ6_bitCount_0f7a4_15 : decode cJ6_bitCount_0f7a4 15 = .ok (.iload_n 0, 1) := by decide +kernel
theorem dJ6_bitCount_0f7a4_16 : decode cJ6_bitCount_0f7a4 16 = .ok (.iconst 2, 1) := by decide +kernel
theorem dJ6_bitCount_0f7a4_17 : decode cJ6_bitCount_0f7a4 17 = .ok (.iushr, 1) := by decide +kernel
theorem dJ6_bitCount_0f7a4_18 : decode cJ6_bitCount_0f7a4 18 = .ok (.ldc_w 266, 3) := by decide +kernel
theorem dJ6_bitCount_0f7a4_21 : decode cJ6_bitCount_0f7a4 21 = .ok (.iand, 1) := by decide +kernel
theorem dJ6_bitCount_0f7a4_22 : decode cJ6_bitCount_0f7a4 22 = .ok (.iadd, 1) := by decide +kernel
theorem dJ6_bitCount_0f7a4_23 : decode cJ6_bitCount_0f7a4 23 = .ok (.istore_n 0, 1) := by decide +kernel
theorem dJ6_bitCount_0f7a4_24 : decode cJ6_bitCount_0f7a4 24 = .ok (.iload_n 0, 1) := by decide +kernel
theorem dJ6_bitCount_0f7a4_25 : decode cJ6_bitCount_0f7a4 25 = .ok (.iload_n 0, 1) := by decide +kernel
theorem dJ6_bitCount_0f7a4_26 : decode cJ6_bitCount_0f7a4 26 = .ok (.iconst 4, 1) := by decide +kernel
theorem dJ6_bitCount_0f7a4_27 : decode cJ6_bitCount_0f7a4 27 = .ok (.iushr, 1) := by decide +kernel
theorem dJ6_bitCount_0f7a4_28 : decode cJ6_bitCount_0f7a4 28 = .ok (.iadd, 1) := by decide +kernel
theorem dJ6_bitCount_0f7a4_29 : decode cJ6_bitCount_0f7a4 29 = .ok (.ldc_w 267, 3) := by decide +kernel
theorem dJ6_bitCount_0f7a4_32 : decode cJ6_bitCount_0f7a4 32 = .ok (.iand, 1) := by decide +kernel
theorem dJ6_bitCount_0f7a4_33 : decode cJ6_bitCount_0f7a4 33 = .ok (.istore_n 0, 1) := by decide +kernel
theorem dJ6_bitCount_0f7a4_34 : decode cJ6_bitCount_0f7a4 34 = .ok (.iload_n 0, 1) := by decide +kernel
theorem dJ6_bitCount_0f7a4_35 : decode cJ6_bitCount_0f7a4 35 = .ok (.iload_n 0, 1) := by decide +kernel
theorem dJ6_bitCount_0f7a4_36 : decode cJ6_bitCount_0f7a4 36 = .ok (.bipush 8, 2) := by decide +kernel
theorem dJ6_bitCount_0f7a4_38 : decode cJ6_bitCount_0f7a4 38 = .ok (.iushr, 1) := by decide +kernel
theorem dJ6_bitCount_0f7a4_39 : decode cJ6_bitCount_0f7a4 39 = .ok (.iadd, 1) := by decide +kernel
theorem dJ6_bitCount_0f7a4_40 : decode cJ6_bitCount_0f7a4 40 = .ok (.istore_n 0, 1) := by decide +kernel
theorem dJ6_bitCount_0f7a4_41 : decode cJ6_bitCount_0f7a4 41 = .ok (.iload_n 0, 1) := by decide +kernel
theorem dJ6_bitCount_0f7a4_42 : decode cJ6_bitCount_0f7a4 42 = .ok (.iload_n 0, 1) := by decide +kernel
theorem dJ6_bitCount_0f7a4_43 : decode cJ6_bitCount_0f7a4 43 = .ok (.bipush 16, 2) := by decide +kernel
theorem dJ6_bitCount_0f7a4_45 : decode cJ6_bitCount_0f7a4 45 = .ok (.iushr, 1) := by decide +kernel
theorem dJ6_bitCount_0f7a4_46 : decode cJ6_bitCount_0f7a4 46 = .ok (.iadd, 1) := by decide +kernel
theorem dJ6_bitCount_0f7a4_47 : decode cJ6_bitCount_0f7a4 47 = .ok (.istore_n 0, 1) := by decide +kernel
theorem dJ6_bitCount_0f7a4_48 : decode cJ6_bitCount_0f7a4 48 = .ok (.iload_n 0, 1) := by decide +kernel
theorem dJ6_bitCount_0f7a4_49 : decode cJ6_bitCount_0f7a4 49 = .ok (.bipush 63, 2) := by decide +kernel
theorem dJ6_bitCount_0f7a4_51 : decode cJ6_bitCount_0f7a4 51 = .ok (.iand, 1) := by decide +kernel
theorem dJ6_bitCount_0f7a4_52 : decode cJ6_bitCount_0f7a4 52 = .ok (.ireturn, 1) := by decide +kernel
theorem dJ9_abs_0f7a4_0 : decode cJ9_abs_0f7a4 0 = .ok (.iload_n 0, 1) := by decide +kernel
theorem dJ9_abs_0f7a4_1 : decode cJ9_abs_0f7a4 1 = .ok (.ifCond .ge 8, 3) := by decide +kernel
theorem dJ9_abs_0f7a4_4 : decode cJ9_abs_0f7a4 4 = .ok (.iload_n 0, 1) := by decide +kernel
theorem dJ9_abs_0f7a4_5 : decode cJ9_abs_0f7a4 5 = .ok (.ineg, 1) := by decide +kernel
theorem dJ9_abs_0f7a4_6 : decode cJ9_abs_0f7a4 6 = .ok (.goto 4, 3) := by decide +kernel
theorem dJ9_abs_0f7a4_9 : decode cJ9_abs_0f7a4 9 = .ok (.iload_n 0, 1) := by decide +kernel
theorem dJ9_abs_0f7a4_10 : decode cJ9_abs_0f7a4 10 = .ok (.ireturn, 1) := by decide +kernel
theorem dJ9_max_7cf53_0 : decode cJ9_max_7cf53 0 = .ok (.iload_n 0, 1) := by decide +kernel
theorem dJ9_max_7cf53_1 : decode cJ9_max_7cf53 1 = .ok (.iload_n 1, 1) := by decide +kernel
theorem dJ9_max_7cf53_2 : decode cJ9_max_7cf53 2 = .ok (.if_icmp .lt 7, 3) := by decide +kernel
theorem dJ9_max_7cf53_5 : decode cJ9_max_7cf53 5 = .ok (.iload_n 0, 1) := by decide +kernel
theorem dJ9_max_7cf53_6 : decode cJ9_max_7cf53 6 = .ok (.goto 4, 3) := by decide +kernel
theorem dJ9_max_7cf53_9 : decode cJ9_max_7cf53 9 = .ok (.iload_n 1, 1) := by decide +kernel
theorem dJ9_max_7cf53_10 : decode cJ9_max_7cf53 10 = .ok (.ireturn, 1) := by decide +kernel
theorem dJ9_min_7cf53_0 : decode cJ9_min_7cf53 0 = .ok (.iload_n 0, 1) := by decide +kernel
theorem dJ9_min_7cf53_1 : decode cJ9_min_7cf53 1 = .ok (.iload_n 1, 1) := by decide +kernel
theorem dJ9_min_7cf53_2 : decode cJ9_min_7cf53 2 = .ok (.if_icmp .gt 7, 3) := by decide +kernel
theorem dJ9_min_7cf53_5 : decode cJ9_min_7cf53 5 = .ok (.iload_n 0, 1) := by decide +kernel
theorem dJ9_min_7cf53_6 : decode cJ9_min_7cf53 6 = .ok (.goto 4, 3) := by decide +kernel
theorem dJ9_min_7cf53_9 : decode cJ9_min_7cf53 9 = .ok (.iload_n 1, 1) := by decide +kernel
theorem dJ9_min_7cf53_10 : decode cJ9_min_7cf53 10 = .ok (.ireturn, 1) := by decide +kernel
