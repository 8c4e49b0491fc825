theorem dX0_init_0 : decode cX0_init 0 = .ok (.aload_n 0, 1) := by decide +kernel
theorem dX0_init_1 : decode cX0_init 1 = .ok (.invokespecial 3, 3) := by decide +kernel
theorem dX0_init_4 : decode cX0_init 4 = .ok (.aload_n 0, 1) := by decide +kernel
theorem dX0_init_5 : decode cX0_init 5 = .ok (.aload_n 1, 1) := by decide +kernel
theorem dX0_init_6 : decode cX0_init 6 = .ok (.invokevirtual 9, 3) := by decide +kernel
theorem dX0_init_9 : decode cX0_init 9 = .ok (.putfield 15, 3) := by decide +kernel
theorem dX0_init_12 : decode cX0_init 12 = .ok (.aload_n 0, 1) := by decide +kernel
theorem dX0_init_13 : decode cX0_init 13 = .ok (.aload_n 1, 1) := by decide +kernel
theorem dX0_init_14 : decode cX0_init 14 = .ok (.getfield 21, 3) := by decide +kernel
theorem dX0_init_17 : decode cX0_init 17 = .ok (.putfield 25, 3) := by decide +kernel
theorem dX0_init_20 : decode cX0_init 20 = .ok (.aload_n 0, 1) := by decide +kernel
theorem dX0_init_21 : decode cX0_init 21 = .ok (.aload_n 1, 1) := by decide +kernel
theorem dX0_init_22 : decode cX0_init 22 = .ok (.getfield 26, 3) := by decide +kernel
theorem dX0_init_25 : decode cX0_init 25 = .ok (.putfield 29, 3) := by decide +kernel
theorem dX0_init_28 : decode cX0_init 28 = .ok (.aload_n 0, 1) := by decide +kernel
theorem dX0_init_29 : decode cX0_init 29 = .ok (.aload_n 1, 1) := by decide +kernel
theorem dX0_init_30 : decode cX0_init 30 = .ok (.getfield 30, 3) := by decide +kernel
theorem dX0_init_33 : decode cX0_init 33 = .ok (.putfield 33, 3) := by decide +kernel
theorem dX0_init_36 : decode cX0_init 36 = .ok (.aload_n 0, 1) := by decide +kernel
theorem dX0_init_37 : decode cX0_init 37 = .ok (.aload_n 1, 1) := by decide +kernel
theorem dX0_init_38 : decode cX0_init 38 = .ok (.getfield 34, 3) := by decide +kernel
theorem dX0_init_41 : decode cX0_init 41 = .ok (.putfield 37, 3) := by decide +kernel
theorem dX0_init_44 : decode cX0_init 44 = .ok (.aload_n 0, 1) := by decide +kernel
theorem dX0_init_45 : decode cX0_init 45 = .ok (.aload_n 1, 1) := by decide +kernel
theorem dX0_init_46 : decode cX0_init 46 = .ok (.getfield 38, 3) := by decide +kernel
theorem dX0_init_49 : decode cX0_init 49 = .ok (.putfield 41, 3) := by decide +kernel
theorem dX0_init_52 : decode cX0_init 52 = .ok (.aload_n 0, 1) := by decide +kernel
theorem dX0_init_53 : decode cX0_init 53 = .ok (.aload_n 1, 1) := by decide +kernel
theorem dX0_init_54 : decode cX0_init 54 = .ok (.getfield 42, 3) := by decide +kernel
theorem dX0_init_57 : decode cX0_init 57 = .ok (.putfield 45, 3) := by decide +kernel
theorem dX0_init_60 : decode cX0_init 60 = .ok (.aload_n 0, 1) := by decide +kernel
theorem dX0_init_61 : decode cX0_init 61 = .ok (.aload_n 1, 1) := by decide +kernel
theorem dX0_init_62 : decode cX0_init 62 = .ok (.invokevirtual 46, 3) := by decide +kernel
theorem dX0_init_65 : decode cX0_init 65 = .ok (.putfield 49, 3) := by decide +kernel
theorem dX0_init_68 : decode cX0_init 68 = .ok (.aload_n 0, 1) := by decide +kernel
theorem dX0_init_69 : decode cX0_init 69 = .ok (.aload_n 0, 1) := by decide +kernel
theorem dX0_init_70 : decode cX0_init 70 = .ok (.getfield 49, 3) := by decide +kernel
theorem dX0_init_73 : decode cX0_init 73 = .ok (.arraylength, 1) := by decide +kernel
theorem dX0_init_74 : decode cX0_init 74 = .ok (.iconst 1, 1) := by decide +kernel
theorem dX0_init_75 : decode cX0_init 75 = .ok (.isub, 1) := by decide +kernel
theorem dX0_init_76 : decode cX0_init 76 = .ok (.putfield 52, 3) := by decide +kernel
theorem dX0_init_79 : decode cX0_init 79 = .ok (.aload_n 0, 1) := by decide +kernel
theorem dX0_init_80 : decode cX0_init 80 = .ok (.aload_n 1, 1) := by decide +kernel
theorem dX0_init_81 : decode cX0_init 81 = .ok (.getfield 55, 3) := by decide +kernel
theorem dX0_init_84 : decode cX0_init 84 = .ok (.putfield 58, 3) := by decide +kernel
theorem dX0_init_87 : decode cX0_init 87 = .ok (.aload_n 0, 1) := by decide +kernel
theorem dX0_init_88 : decode cX0_init 88 = .ok (.aload_n 1, 1) := by decide +kernel
theorem dX0_init_89 : decode cX0_init 89 = .ok (.getfield 59, 3) := by decide +kernel
theorem dX0_init_92 : decode cX0_init 92 = .ok (.putfield 62, 3) := by decide +kernel
theorem dX0_init_95 : decode cX0_init 95 = .ok (.aload_n 0, 1) := by decide +kernel
theorem dX0_init_96 : decode cX0_init 96 = .ok (.aload_n 1, 1) := by decide +kernel
theorem dX0_init_97 : decode cX0_init 97 = .ok (.getfield 63, 3) := by decide +kernel
theorem dX0_init_100 : decode cX0_init 100 = .ok (.putfield 66, 3) := by decide +kernel
theorem dX0_init_103 : decode cX0_init 103 = .ok (.aload_n 0, 1) := by decide +kernel
theorem dX0_init_104 : decode cX0_init 104 = .ok (.aload_n 0, 1) := by decide +kernel
theorem dX0_init_105 : decode cX0_init 105 = .ok (.getfield 29, 3) := by decide +kernel
theorem dX0_init_108 : decode cX0_init 108 = .ok (.aload_n 0, 1) := by decide +kernel
theorem dX0_init_109 : decode cX0_init 109 = .ok (.iconst 0, 1) := by decide +kernel
theorem dX0_init_110 : decode cX0_init 110 = .ok (.invokevirtual 67, 3) := by decide +kernel
theorem dX0_init_113 : decode cX0_init 113 = .ok (.isub, 1) := by decide +kernel
theorem dX0_init_114 : decode cX0_init 114 = .ok (.putfield 71, 3) := by decide +kernel
theorem dX0_init_117 : decode cX0_init 117 = .ok (.aload_n 0, 1) := by decide +kernel
theorem dX0_init_118 : decode cX0_init 118 = .ok (.aload_n 0, 1) := by decide +kernel
theorem dX0_init_119 : decode cX0_init 119 = .ok (.sipush (-2000), 3) := by decide +kernel
theorem dX0_init_122 : decode cX0_init 122 = .ok (.invokevirtual 74, 3) := by decide +kernel
theorem dX0_init_125 : decode cX0_init 125 = .ok (.putfield 77, 3) := by decide +kernel
theorem dX0_init_128 : decode cX0_init 128 = .ok (.aload_n 0, 1) := by decide +kernel
theorem dX0_init_129 : decode cX0_init 129 = .ok (.aload_n 0, 1) := by decide +kernel
theorem dX0_init_130 : decode cX0_init 130 = .ok (.sipush 2001, 3) := by decide +kernel
theorem dX0_init_133 : decode cX0_init 133 = .ok (.invokevirtual 74, 3) := by decide +kernel
theorem dX0_init_136 : decode cX0_init 136 = .ok (.putfield 80, 3) := by decide +kernel
theorem dX0_init_139 : decode cX0_init 139 = .ok (.return_, 1) := by decide +kernel
theorem dX0_commonMonths_0 : decode cX0_commonMonths 0 = .ok (.aload_n 0, 1) := by decide +kernel
theorem dX0_commonMonths_1 : decode cX0_commonMonths 1 = .ok (.getfield 15, 3) := by decide +kernel
theorem dX0_commonMonths_4 : decode cX0_commonMonths 4 = .ok (.arraylength, 1) := by decide +kernel
theorem dX0_commonMonths_5 : decode cX0_commonMonths 5 = .ok (.ireturn, 1) := by decide +kernel
theorem dX0_describe_0 : decode cX0_describe 0 = .ok (.iload_n 1, 1) := by decide +kernel
theorem dX0_describe_1 : decode cX0_describe 1 = .ok (.tableswitch 79 0 6 #[43, 49, 54, 59, 64, 69, 74], 43) := by decide +kernel
theorem dX0_describe_44 : decode cX0_describe 44 = .ok (.aload_n 0, 1) := by decide +kernel
theorem dX0_describe_45 : decode cX0_describe 45 = .ok (.getfield 15, 3) := by decide +kernel
theorem dX0_describe_48 : decode cX0_describe 48 = .ok (.arraylength, 1) := by decide +kernel
theorem dX0_describe_49 : decode cX0_describe 49 = .ok (.ireturn, 1) := by decide +kernel
theorem dX0_describe_50 : decode cX0_describe 50 = .ok (.aload_n 0, 1) := by decide +kernel
theorem dX0_describe_51 : decode cX0_describe 51 = .ok (.getfield 29, 3) := by decide +kernel
theorem dX0_describe_54 : decode cX0_describe 54 = .ok (.ireturn, 1) := by decide +kernel
theorem dX0_describe_55 : decode cX0_describe 55 = .ok (.aload_n 0, 1) := by decide +kernel
theorem dX0_describe_56 : decode cX0_describe 56 = .ok (.getfield 33, 3) := by decide +kernel
theorem dX0_describe_59 : decode cX0_describe 59 = .ok (.ireturn, 1) := by decide +kernel
theorem dX0_describe_60 : decode cX0_describe 60 = .ok (.aload_n 0, 1) := by decide +kernel
theorem dX0_describe_61 : decode cX0_describe 61 = .ok (.getfield 45, 3) := by decide +kernel
theorem dX0_describe_64 : decode cX0_describe 64 = .ok (.ireturn, 1) := by decide +kernel
theorem dX0_describe_65 : decode cX0_describe 65 = .ok (.aload_n 0, 1) := by decide +kernel
theorem dX0_describe_66 : decode cX0_describe 66 = .ok (.getfield 58, 3) := by decide +kernel
theorem dX0_describe_69 : decode cX0_describe 69 = .ok (.ireturn, 1) := by decide +kernel
theorem dX0_describe_70 : decode cX0_describe 70 = .ok (.aload_n 0, 1) := by decide +kernel
theorem dX0_describe_71 : decode cX0_describe 71 = .ok (.getfield 62, 3) := by decide +kernel
theorem dX0_describe_74 : decode cX0_describe 74 = .ok (.ireturn, 1) := by decide +kernel
theorem dX0_describe_75 : decode cX0_describe 75 = .ok (.aload_n 0, 1) := by decide +kernel
theorem dX0_describe_76 : decode cX0_describe 76 = .ok (.getfield 66, 3) := by decide +kernel
theorem dX0_describe_79 : decode cX0_describe 79 = .ok (.ireturn, 1) := by decide +kernel
theorem dX0_describe_80 : decode cX0_describe 80 = .ok (.aload_n 0, 1) := by decide +kernel
theorem dX0_describe_81 : decode cX0_describe 81 = .ok (.getfield 52, 3) := by decide +kernel
theorem dX0_describe_84 : decode cX0_describe 84 = .ok (.ireturn, 1) := by decide +kernel
set_option maxRecDepth 20000 in
theorem dX0_averageLength_0 : decode cX0_averageLength 0 = .ok (.aload_n 0, 1) := by decide +kernel
theorem dX0_averageLength_1 : decode cX0_averageLength 1 = .ok (.aload_n 0, 1) := by decide +kernel
theorem dX0_averageLength_2 : decode cX0_averageLength 2 = .ok (.getfield 52, 3) := by decide +kernel
theorem dX0_averageLength_5 : decode cX0_averageLength 5 = .ok (.invokevirtual 83, 3) := by decide +kernel
theorem dX0_averageLength_8 : decode cX0_averageLength 8 = .ok (.istore_n 1, 1) := by decide +kernel
theorem dX0_averageLength_9 : decode cX0_averageLength 9 = .ok (.aload_n 0, 1) := by decide +kernel
theorem dX0_averageLength_10 : decode cX0_averageLength 10 = .ok (.getfield 52, 3) := by decide +kernel
theorem dX0_averageLength_13 : decode cX0_averageLength 13 = .ok (.aload_n 0, 1) := by decide +kernel
theorem dX0_averageLength_14 : decode cX0_averageLength 14 = .ok (.getfield 25, 3) := by decide +kernel
theorem dX0_averageLength_17 : decode cX0_averageLength 17 = .ok (.imul, 1) := by decide +kernel
theorem dX0_averageLength_18 : decode cX0_averageLength 18 = .ok (.iload_n 1, 1) := by decide +kernel
theorem dX0_averageLength_19 : decode cX0_averageLength 19 = .ok (.aload_n 0, 1) := by decide +kernel
theorem dX0_averageLength_20 : decode cX0_averageLength 20 = .ok (.getfield 41, 3) := by decide +kernel
theorem dX0_averageLength_23 : decode cX0_averageLength 23 = .ok (.imul, 1) := by decide +kernel
theorem dX0_averageLength_24 : decode cX0_averageLength 24 = .ok (.iadd, 1) := by decide +kernel
theorem dX0_averageLength_25 : decode cX0_averageLength 25 = .ok (.istore_n 2, 1) := by decide +kernel
theorem dX0_averageLength_26 : decode cX0_averageLength 26 = .ok (.aload_n 0, 1) := by decide +kernel
theorem dX0_averageLength_27 : decode cX0_averageLength 27 = .ok (.getfield 52, 3) := by decide +kernel
theorem dX0_averageLength_30 : decode cX0_averageLength 30 = .ok (.ifCond .le 14, 3) := by decide +kernel
theorem dX0_averageLength_33 : decode cX0_averageLength 33 = .ok (.iload_n 2, 1) := by decide +kernel
theorem dX0_averageLength_34 : decode cX0_averageLength 34 = .ok (.i2d, 1) := by decide +kernel
theorem dX0_averageLength_35 : decode cX0_averageLength 35 = .ok (.aload_n 0, 1) := by decide +kernel
theorem dX0_averageLength_36 : decode cX0_averageLength 36 = .ok (.getfield 52, 3) := by decide +kernel
theorem dX0_averageLength_39 : decode cX0_averageLength 39 = .ok (.i2d, 1) := by decide +kernel
theorem dX0_averageLength_40 : decode cX0_averageLength 40 = .ok (.ddiv, 1) := by decide +kernel
theorem dX0_averageLength_41 : decode cX0_averageLength 41 = .ok (.goto 4, 3) := by decide +kernel
theorem dX0_averageLength_44 : decode cX0_averageLength 44 = .ok (.dconst 0, 1) := by decide +kernel
theorem dX0_averageLength_45 : decode cX0_averageLength 45 = .ok (.dreturn, 1) := by decide +kernel
set_option maxRecDepth 20000 in
theorem dX0_leaps_0 : decode cX0_leaps 0 = .ok (.aload_n 0, 1) := by decide +kernel
theorem dX0_leaps_1 : decode cX0_leaps 1 = .ok (.getfield 52, 3) := by decide +kernel
theorem dX0_leaps_4 : decode cX0_leaps 4 = .ok (.ifCond .le 14, 3) := by decide +kernel
theorem dX0_leaps_7 : decode cX0_leaps 7 = .ok (.iload_n 1, 1) := by decide +kernel
theorem dX0_leaps_8 : decode cX0_leaps 8 = .ok (.aload_n 0, 1) := by decide +kernel
theorem dX0_leaps_9 : decode cX0_leaps 9 = .ok (.getfield 52, 3) := by decide +kernel
theorem dX0_leaps_12 : decode cX0_leaps 12 = .ok (.invokestatic 86, 3) := by decide +kernel
theorem dX0_leaps_15 : decode cX0_leaps 15 = .ok (.goto 4, 3) := by decide +kernel
theorem dX0_leaps_18 : decode cX0_leaps 18 = .ok (.iconst 0, 1) := by decide +kernel
theorem dX0_leaps_19 : decode cX0_leaps 19 = .ok (.istore_n 2, 1) := by decide +kernel
theorem dX0_leaps_20 : decode cX0_leaps 20 = .ok (.iload_n 2, 1) := by decide +kernel
theorem dX0_leaps_21 : decode cX0_leaps 21 = .ok (.ifCond .lt 14, 3) := by decide +kernel
theorem dX0_leaps_24 : decode cX0_leaps 24 = .ok (.iload_n 2, 1) := by decide +kernel
theorem dX0_leaps_25 : decode cX0_leaps 25 = .ok (.iconst 1, 1) := by decide +kernel
theorem dX0_leaps_26 : decode cX0_leaps 26 = .ok (.iadd, 1) := by decide +kernel
theorem dX0_leaps_27 : decode cX0_leaps 27 = .ok (.aload_n 0, 1) := by decide +kernel
theorem dX0_leaps_28 : decode cX0_leaps 28 = .ok (.getfield 49, 3) := by decide +kernel
theorem dX0_leaps_31 : decode cX0_leaps 31 = .ok (.arraylength, 1) := by decide +kernel
theorem dX0_leaps_32 : decode cX0_leaps 32 = .ok (.if_icmp .lt 5, 3) := by decide +kernel
theorem dX0_leaps_35 : decode cX0_leaps 35 = .ok (.iconst 0, 1) := by decide +kernel
theorem dX0_leaps_36 : decode cX0_leaps 36 = .ok (.ireturn, 1) := by decide +kernel
theorem dX0_leaps_37 : decode cX0_leaps 37 = .ok (.aload_n 0, 1) := by decide +kernel
theorem dX0_leaps_38 : decode cX0_leaps 38 = .ok (.getfield 49, 3) := by decide +kernel
theorem dX0_leaps_41 : decode cX0_leaps 41 = .ok (.iload_n 2, 1) := by decide +kernel
theorem dX0_leaps_42 : decode cX0_leaps 42 = .ok (.iconst 1, 1) := by decide +kernel
theorem dX0_leaps_43 : decode cX0_leaps 43 = .ok (.iadd, 1) := by decide +kernel
theorem dX0_leaps_44 : decode cX0_leaps 44 = .ok (.iaload, 1) := by decide +kernel
theorem dX0_leaps_45 : decode cX0_leaps 45 = .ok (.aload_n 0, 1) := by decide +kernel
theorem dX0_leaps_46 : decode cX0_leaps 46 = .ok (.getfield 49, 3) := by decide +kernel
theorem dX0_leaps_49 : decode cX0_leaps 49 = .ok (.iload_n 2, 1) := by decide +kernel
theorem dX0_leaps_50 : decode cX0_leaps 50 = .ok (.iaload, 1) := by decide +kernel
theorem dX0_leaps_51 : decode cX0_leaps 51 = .ok (.if_icmp .le 7, 3) := by decide +kernel
theorem dX0_leaps_54 : decode cX0_leaps 54 = .ok (.iconst 1, 1) := by decide +kernel
theorem dX0_leaps_55 : decode cX0_leaps 55 = .ok (.goto 4, 3) := by decide +kernel
theorem dX0_leaps_58 : decode cX0_leaps 58 = .ok (.iconst 0, 1) := by decide +kernel
theorem dX0_leaps_59 : decode cX0_leaps 59 = .ok (.ireturn, 1) := by decide +kernel
set_option maxRecDepth 20000 in
theorem dX0_monthCount_0 : decode cX0_monthCount 0 = .ok (.aload_n 0, 1) := by decide +kernel
theorem dX0_monthCount_1 : decode cX0_monthCount 1 = .ok (.aload_n 0, 1) := by decide +kernel
theorem dX0_monthCount_2 : decode cX0_monthCount 2 = .ok (.iload_n 1, 1) := by decide +kernel
theorem dX0_monthCount_3 : decode cX0_monthCount 3 = .ok (.invokevirtual 92, 3) := by decide +kernel
theorem dX0_monthCount_6 : decode cX0_monthCount 6 = .ok (.invokevirtual 96, 3) := by decide +kernel
theorem dX0_monthCount_9 : decode cX0_monthCount 9 = .ok (.ireturn, 1) := by decide +kernel
set_option maxRecDepth 20000 in
theorem dX0_hasMonth_0 : decode cX0_hasMonth 0 = .ok (.iload_n 1, 1) := by decide +kernel
theorem dX0_hasMonth_1 : decode cX0_hasMonth 1 = .ok (.invokestatic 100, 3) := by decide +kernel
theorem dX0_hasMonth_4 : decode cX0_hasMonth 4 = .ok (.ifCond .eq 20, 3) := by decide +kernel
theorem dX0_hasMonth_7 : decode cX0_hasMonth 7 = .ok (.iload_n 2, 1) := by decide +kernel
theorem dX0_hasMonth_8 : decode cX0_hasMonth 8 = .ok (.iconst 1, 1) := by decide +kernel
theorem dX0_hasMonth_9 : decode cX0_hasMonth 9 = .ok (.aload_n 0, 1) := by decide +kernel
theorem dX0_hasMonth_10 : decode cX0_hasMonth 10 = .ok (.iload_n 1, 1) := by decide +kernel
theorem dX0_hasMonth_11 : decode cX0_hasMonth 11 = .ok (.invokevirtual 103, 3) := by decide +kernel
theorem dX0_hasMonth_14 : decode cX0_hasMonth 14 = .ok (.invokestatic 106, 3) := by decide +kernel
theorem dX0_hasMonth_17 : decode cX0_hasMonth 17 = .ok (.ifCond .eq 7, 3) := by decide +kernel
theorem dX0_hasMonth_20 : decode cX0_hasMonth 20 = .ok (.iconst 1, 1) := by decide +kernel
theorem dX0_hasMonth_21 : decode cX0_hasMonth 21 = .ok (.goto 4, 3) := by decide +kernel
theorem dX0_hasMonth_24 : decode cX0_hasMonth 24 = .ok (.iconst 0, 1) := by decide +kernel
theorem dX0_hasMonth_25 : decode cX0_hasMonth 25 = .ok (.ireturn, 1) := by decide +kernel
set_option maxRecDepth 20000 in
theorem dX0_lengthOfMonth_0 : decode cX0_lengthOfMonth 0 = .ok (.aload_n 0, 1) := by decide +kernel
theorem dX0_lengthOfMonth_1 : decode cX0_lengthOfMonth 1 = .ok (.aload_n 0, 1) := by decide +kernel
theorem dX0_lengthOfMonth_2 : decode cX0_lengthOfMonth 2 = .ok (.iload_n 1, 1) := by decide +kernel
theorem dX0_lengthOfMonth_3 : decode cX0_lengthOfMonth 3 = .ok (.invokevirtual 92, 3) := by decide +kernel
theorem dX0_lengthOfMonth_6 : decode cX0_lengthOfMonth 6 = .ok (.iload_n 2, 1) := by decide +kernel
theorem dX0_lengthOfMonth_7 : decode cX0_lengthOfMonth 7 = .ok (.invokevirtual 110, 3) := by decide +kernel
theorem dX0_lengthOfMonth_10 : decode cX0_lengthOfMonth 10 = .ok (.ireturn, 1) := by decide +kernel
set_option maxRecDepth 20000 in
theorem dX0_insertsMonth_0 : decode cX0_insertsMonth 0 = .ok (.aload_n 0, 1) := by decide +kernel
theorem dX0_insertsMonth_1 : decode cX0_insertsMonth 1 = .ok (.getfield 33, 3) := by decide +kernel
theorem dX0_insertsMonth_4 : decode cX0_insertsMonth 4 = .ok (.iconst 2, 1) := by decide +kernel
theorem dX0_insertsMonth_5 : decode cX0_insertsMonth 5 = .ok (.if_icmp .ne 25, 3) := by decide +kernel
theorem dX0_insertsMonth_8 : decode cX0_insertsMonth 8 = .ok (.iload_n 2, 1) := by decide +kernel
theorem dX0_insertsMonth_9 : decode cX0_insertsMonth 9 = .ok (.aload_n 0, 1) := by decide +kernel
theorem dX0_insertsMonth_10 : decode cX0_insertsMonth 10 = .ok (.getfield 37, 3) := by decide +kernel
theorem dX0_insertsMonth_13 : decode cX0_insertsMonth 13 = .ok (.iconst 1, 1) := by decide +kernel
theorem dX0_insertsMonth_14 : decode cX0_insertsMonth 14 = .ok (.iadd, 1) := by decide +kernel
theorem dX0_insertsMonth_15 : decode cX0_insertsMonth 15 = .ok (.if_icmp .ne 15, 3) := by decide +kernel
theorem dX0_insertsMonth_18 : decode cX0_insertsMonth 18 = .ok (.aload_n 0, 1) := by decide +kernel
theorem dX0_insertsMonth_19 : decode cX0_insertsMonth 19 = .ok (.iload_n 1, 1) := by decide +kernel
theorem dX0_insertsMonth_20 : decode cX0_insertsMonth 20 = .ok (.invokevirtual 92, 3) := by decide +kernel
theorem dX0_insertsMonth_23 : decode cX0_insertsMonth 23 = .ok (.ifCond .eq 7, 3) := by decide +kernel
theorem dX0_insertsMonth_26 : decode cX0_insertsMonth 26 = .ok (.iconst 1, 1) := by decide +kernel
theorem dX0_insertsMonth_27 : decode cX0_insertsMonth 27 = .ok (.goto 4, 3) := by decide +kernel
theorem dX0_insertsMonth_30 : decode cX0_insertsMonth 30 = .ok (.iconst 0, 1) := by decide +kernel
theorem dX0_insertsMonth_31 : decode cX0_insertsMonth 31 = .ok (.ireturn, 1) := by decide +kernel
set_option maxRecDepth 20000 in
theorem dX0_lengthOfYear_0 : decode cX0_lengthOfYear 0 = .ok (.aload_n 0, 1) := by decide +kernel
theorem dX0_lengthOfYear_1 : decode cX0_lengthOfYear 1 = .ok (.iload_n 1, 1) := by decide +kernel
theorem dX0_lengthOfYear_2 : decode cX0_lengthOfYear 2 = .ok (.invokevirtual 92, 3) := by decide +kernel
theorem dX0_lengthOfYear_5 : decode cX0_lengthOfYear 5 = .ok (.ifCond .eq 15, 3) := by decide +kernel
theorem dX0_lengthOfYear_8 : decode cX0_lengthOfYear 8 = .ok (.aload_n 0, 1) := by decide +kernel
theorem dX0_lengthOfYear_9 : decode cX0_lengthOfYear 9 = .ok (.getfield 25, 3) := by decide +kernel
theorem dX0_lengthOfYear_12 : decode cX0_lengthOfYear 12 = .ok (.aload_n 0, 1) := by decide +kernel
theorem dX0_lengthOfYear_13 : decode cX0_lengthOfYear 13 = .ok (.getfield 41, 3) := by decide +kernel
theorem dX0_lengthOfYear_16 : decode cX0_lengthOfYear 16 = .ok (.iadd, 1) := by decide +kernel
theorem dX0_lengthOfYear_17 : decode cX0_lengthOfYear 17 = .ok (.goto 7, 3) := by decide +kernel
theorem dX0_lengthOfYear_20 : decode cX0_lengthOfYear 20 = .ok (.aload_n 0, 1) := by decide +kernel
theorem dX0_lengthOfYear_21 : decode cX0_lengthOfYear 21 = .ok (.getfield 25, 3) := by decide +kernel
theorem dX0_lengthOfYear_24 : decode cX0_lengthOfYear 24 = .ok (.ireturn, 1) := by decide +kernel
set_option maxRecDepth 20000 in
theorem dX0_startOfYear_0 : decode cX0_startOfYear 0 = .ok (.aload_n 0, 1) := by decide +kernel
theorem dX0_startOfYear_1 : decode cX0_startOfYear 1 = .ok (.getfield 71, 3) := by decide +kernel
theorem dX0_startOfYear_4 : decode cX0_startOfYear 4 = .ok (.iload_n 1, 1) := by decide +kernel
theorem dX0_startOfYear_5 : decode cX0_startOfYear 5 = .ok (.aload_n 0, 1) := by decide +kernel
theorem dX0_startOfYear_6 : decode cX0_startOfYear 6 = .ok (.getfield 25, 3) := by decide +kernel
theorem dX0_startOfYear_9 : decode cX0_startOfYear 9 = .ok (.imul, 1) := by decide +kernel
theorem dX0_startOfYear_10 : decode cX0_startOfYear 10 = .ok (.iadd, 1) := by decide +kernel
theorem dX0_startOfYear_11 : decode cX0_startOfYear 11 = .ok (.aload_n 0, 1) := by decide +kernel
theorem dX0_startOfYear_12 : decode cX0_startOfYear 12 = .ok (.iload_n 1, 1) := by decide +kernel
theorem dX0_startOfYear_13 : decode cX0_startOfYear 13 = .ok (.invokevirtual 83, 3) := by decide +kernel
theorem dX0_startOfYear_16 : decode cX0_startOfYear 16 = .ok (.aload_n 0, 1) := by decide +kernel
theorem dX0_startOfYear_17 : decode cX0_startOfYear 17 = .ok (.getfield 41, 3) := by decide +kernel
theorem dX0_startOfYear_20 : decode cX0_startOfYear 20 = .ok (.imul, 1) := by decide +kernel
theorem dX0_startOfYear_21 : decode cX0_startOfYear 21 = .ok (.iadd, 1) := by decide +kernel
theorem dX0_startOfYear_22 : decode cX0_startOfYear 22 = .ok (.ireturn, 1) := by decide +kernel
set_option maxRecDepth 20000 in
theorem dX0_startOfMonth_0 : decode cX0_startOfMonth 0 = .ok (.aload_n 0, 1) := by decide +kernel
theorem dX0_startOfMonth_1 : decode cX0_startOfMonth 1 = .ok (.iload_n 1, 1) := by decide +kernel
theorem dX0_startOfMonth_2 : decode cX0_startOfMonth 2 = .ok (.invokevirtual 92, 3) := by decide +kernel
theorem dX0_startOfMonth_5 : decode cX0_startOfMonth 5 = .ok (.istore_n 3, 1) := by decide +kernel
theorem dX0_startOfMonth_6 : decode cX0_startOfMonth 6 = .ok (.aload_n 0, 1) := by decide +kernel
theorem dX0_startOfMonth_7 : decode cX0_startOfMonth 7 = .ok (.iload_n 1, 1) := by decide +kernel
theorem dX0_startOfMonth_8 : decode cX0_startOfMonth 8 = .ok (.invokevirtual 74, 3) := by decide +kernel
theorem dX0_startOfMonth_11 : decode cX0_startOfMonth 11 = .ok (.istore 4, 2) := by decide +kernel
theorem dX0_startOfMonth_13 : decode cX0_startOfMonth 13 = .ok (.iconst 1, 1) := by decide +kernel
theorem dX0_startOfMonth_14 : decode cX0_startOfMonth 14 = .ok (.istore 5, 2) := by decide +kernel
theorem dX0_startOfMonth_16 : decode cX0_startOfMonth 16 = .ok (.iload 5, 2) := by decide +kernel
theorem dX0_startOfMonth_18 : decode cX0_startOfMonth 18 = .ok (.iload_n 2, 1) := by decide +kernel
theorem dX0_startOfMonth_19 : decode cX0_startOfMonth 19 = .ok (.if_icmp .ge 28, 3) := by decide +kernel
theorem dX0_startOfMonth_22 : decode cX0_startOfMonth 22 = .ok (.iload 5, 2) := by decide +kernel
theorem dX0_startOfMonth_24 : decode cX0_startOfMonth 24 = .ok (.bipush 14, 2) := by decide +kernel
theorem dX0_startOfMonth_26 : decode cX0_startOfMonth 26 = .ok (.if_icmp .gt 21, 3) := by decide +kernel
theorem dX0_startOfMonth_29 : decode cX0_startOfMonth 29 = .ok (.iload 4, 2) := by decide +kernel
theorem dX0_startOfMonth_31 : decode cX0_startOfMonth 31 = .ok (.aload_n 0, 1) := by decide +kernel
theorem dX0_startOfMonth_32 : decode cX0_startOfMonth 32 = .ok (.iload_n 3, 1) := by decide +kernel
theorem dX0_startOfMonth_33 : decode cX0_startOfMonth 33 = .ok (.iload 5, 2) := by decide +kernel
theorem dX0_startOfMonth_35 : decode cX0_startOfMonth 35 = .ok (.invokevirtual 110, 3) := by decide +kernel
theorem dX0_startOfMonth_38 : decode cX0_startOfMonth 38 = .ok (.iadd, 1) := by decide +kernel
theorem dX0_startOfMonth_39 : decode cX0_startOfMonth 39 = .ok (.istore 4, 2) := by decide +kernel
theorem dX0_startOfMonth_41 : decode cX0_startOfMonth 41 = .ok (.iinc 5 1, 3) := by decide +kernel
theorem dX0_startOfMonth_44 : decode cX0_startOfMonth 44 = .ok (.goto (-28), 3) := by decide +kernel
theorem dX0_startOfMonth_47 : decode cX0_startOfMonth 47 = .ok (.iload 4, 2) := by decide +kernel
theorem dX0_startOfMonth_49 : decode cX0_startOfMonth 49 = .ok (.ireturn, 1) := by decide +kernel
set_option maxRecDepth 20000 in
theorem dX0_dayOfDate_0 : decode cX0_dayOfDate 0 = .ok (.aload_n 0, 1) := by decide +kernel
theorem dX0_dayOfDate_1 : decode cX0_dayOfDate 1 = .ok (.iload_n 1, 1) := by decide +kernel
theorem dX0_dayOfDate_2 : decode cX0_dayOfDate 2 = .ok (.iload_n 2, 1) := by decide +kernel
theorem dX0_dayOfDate_3 : decode cX0_dayOfDate 3 = .ok (.invokevirtual 114, 3) := by decide +kernel
theorem dX0_dayOfDate_6 : decode cX0_dayOfDate 6 = .ok (.ifCond .eq 17, 3) := by decide +kernel
theorem dX0_dayOfDate_9 : decode cX0_dayOfDate 9 = .ok (.iload_n 3, 1) := by decide +kernel
theorem dX0_dayOfDate_10 : decode cX0_dayOfDate 10 = .ok (.iconst 1, 1) := by decide +kernel
theorem dX0_dayOfDate_11 : decode cX0_dayOfDate 11 = .ok (.aload_n 0, 1) := by decide +kernel
theorem dX0_dayOfDate_12 : decode cX0_dayOfDate 12 = .ok (.iload_n 1, 1) := by decide +kernel
theorem dX0_dayOfDate_13 : decode cX0_dayOfDate 13 = .ok (.iload_n 2, 1) := by decide +kernel
theorem dX0_dayOfDate_14 : decode cX0_dayOfDate 14 = .ok (.invokevirtual 118, 3) := by decide +kernel
theorem dX0_dayOfDate_17 : decode cX0_dayOfDate 17 = .ok (.invokestatic 106, 3) := by decide +kernel
theorem dX0_dayOfDate_20 : decode cX0_dayOfDate 20 = .ok (.ifCond .ne 6, 3) := by decide +kernel
theorem dX0_dayOfDate_23 : decode cX0_dayOfDate 23 = .ok (.ldc 121, 2) := by decide +kernel
theorem dX0_dayOfDate_25 : decode cX0_dayOfDate 25 = .ok (.ireturn, 1) := by decide +kernel
theorem dX0_dayOfDate_26 : decode cX0_dayOfDate 26 = .ok (.aload_n 0, 1) := by decide +kernel
theorem dX0_dayOfDate_27 : decode cX0_dayOfDate 27 = .ok (.iload_n 1, 1) := by decide +kernel
theorem dX0_dayOfDate_28 : decode cX0_dayOfDate 28 = .ok (.iload_n 2, 1) := by decide +kernel
theorem dX0_dayOfDate_29 : decode cX0_dayOfDate 29 = .ok (.invokevirtual 122, 3) := by decide +kernel
theorem dX0_dayOfDate_32 : decode cX0_dayOfDate 32 = .ok (.iload_n 3, 1) := by decide +kernel
theorem dX0_dayOfDate_33 : decode cX0_dayOfDate 33 = .ok (.iadd, 1) := by decide +kernel
theorem dX0_dayOfDate_34 : decode cX0_dayOfDate 34 = .ok (.iconst 1, 1) := by decide +kernel
theorem dX0_dayOfDate_35 : decode cX0_dayOfDate 35 = .ok (.isub, 1) := by decide +kernel
theorem dX0_dayOfDate_36 : decode cX0_dayOfDate 36 = .ok (.ireturn, 1) := by decide +kernel
set_option maxRecDepth 20000 in
theorem dX0_nearestDay_0 : decode cX0_nearestDay 0 = .ok (.iload_n 2, 1) := by decide +kernel
theorem dX0_nearestDay_1 : decode cX0_nearestDay 1 = .ok (.aload_n 0, 1) := by decide +kernel
theorem dX0_nearestDay_2 : decode cX0_nearestDay 2 = .ok (.iload_n 1, 1) := by decide +kernel
theorem dX0_nearestDay_3 : decode cX0_nearestDay 3 = .ok (.invokevirtual 103, 3) := by decide +kernel
theorem dX0_nearestDay_6 : decode cX0_nearestDay 6 = .ok (.invokestatic 125, 3) := by decide +kernel
theorem dX0_nearestDay_9 : decode cX0_nearestDay 9 = .ok (.istore 4, 2) := by decide +kernel
theorem dX0_nearestDay_11 : decode cX0_nearestDay 11 = .ok (.iload_n 3, 1) := by decide +kernel
theorem dX0_nearestDay_12 : decode cX0_nearestDay 12 = .ok (.aload_n 0, 1) := by decide +kernel
theorem dX0_nearestDay_13 : decode cX0_nearestDay 13 = .ok (.iload_n 1, 1) := by decide +kernel
theorem dX0_nearestDay_14 : decode cX0_nearestDay 14 = .ok (.iload 4, 2) := by decide +kernel
theorem dX0_nearestDay_16 : decode cX0_nearestDay 16 = .ok (.invokevirtual 118, 3) := by decide +kernel
theorem dX0_nearestDay_19 : decode cX0_nearestDay 19 = .ok (.invokestatic 125, 3) := by decide +kernel
theorem dX0_nearestDay_22 : decode cX0_nearestDay 22 = .ok (.istore 5, 2) := by decide +kernel
theorem dX0_nearestDay_24 : decode cX0_nearestDay 24 = .ok (.aload_n 0, 1) := by decide +kernel
theorem dX0_nearestDay_25 : decode cX0_nearestDay 25 = .ok (.iload_n 1, 1) := by decide +kernel
theorem dX0_nearestDay_26 : decode cX0_nearestDay 26 = .ok (.iload 4, 2) := by decide +kernel
theorem dX0_nearestDay_28 : decode cX0_nearestDay 28 = .ok (.invokevirtual 122, 3) := by decide +kernel
theorem dX0_nearestDay_31 : decode cX0_nearestDay 31 = .ok (.iload 5, 2) := by decide +kernel
theorem dX0_nearestDay_33 : decode cX0_nearestDay 33 = .ok (.iadd, 1) := by decide +kernel
theorem dX0_nearestDay_34 : decode cX0_nearestDay 34 = .ok (.iconst 1, 1) := by decide +kernel
theorem dX0_nearestDay_35 : decode cX0_nearestDay 35 = .ok (.isub, 1) := by decide +kernel
theorem dX0_nearestDay_36 : decode cX0_nearestDay 36 = .ok (.ireturn, 1) := by decide +kernel
theorem dX0_holds_0 : decode cX0_holds 0 = .ok (.iload_n 1, 1) := by decide +kernel
theorem dX0_holds_1 : decode cX0_holds 1 = .ok (.aload_n 0, 1) := by decide +kernel
theorem dX0_holds_2 : decode cX0_holds 2 = .ok (.getfield 77, 3) := by decide +kernel
theorem dX0_holds_5 : decode cX0_holds 5 = .ok (.if_icmp .lt 15, 3) := by decide +kernel
theorem dX0_holds_8 : decode cX0_holds 8 = .ok (.iload_n 1, 1) := by decide +kernel
theorem dX0_holds_9 : decode cX0_holds 9 = .ok (.aload_n 0, 1) := by decide +kernel
theorem dX0_holds_10 : decode cX0_holds 10 = .ok (.getfield 80, 3) := by decide +kernel
theorem dX0_holds_13 : decode cX0_holds 13 = .ok (.if_icmp .ge 7, 3) := by decide +kernel
theorem dX0_holds_16 : decode cX0_holds 16 = .ok (.iconst 1, 1) := by decide +kernel
theorem dX0_holds_17 : decode cX0_holds 17 = .ok (.goto 4, 3) := by decide +kernel
theorem dX0_holds_20 : decode cX0_holds 20 = .ok (.iconst 0, 1) := by decide +kernel
theorem dX0_holds_21 : decode cX0_holds 21 = .ok (.ireturn, 1) := by decide +kernel
set_option maxRecDepth 20000 in
theorem dX0_yearOf_0 : decode cX0_yearOf 0 = .ok (.aload_n 0, 1) := by decide +kernel
theorem dX0_yearOf_1 : decode cX0_yearOf 1 = .ok (.iload_n 1, 1) := by decide +kernel
theorem dX0_yearOf_2 : decode cX0_yearOf 2 = .ok (.invokevirtual 128, 3) := by decide +kernel
theorem dX0_yearOf_5 : decode cX0_yearOf 5 = .ok (.ifCond .ne 6, 3) := by decide +kernel
theorem dX0_yearOf_8 : decode cX0_yearOf 8 = .ok (.ldc 121, 2) := by decide +kernel
theorem dX0_yearOf_10 : decode cX0_yearOf 10 = .ok (.ireturn, 1) := by decide +kernel
theorem dX0_yearOf_11 : decode cX0_yearOf 11 = .ok (.sipush (-2000), 3) := by decide +kernel
theorem dX0_yearOf_14 : decode cX0_yearOf 14 = .ok (.istore_n 2, 1) := by decide +kernel
theorem dX0_yearOf_15 : decode cX0_yearOf 15 = .ok (.sipush 2000, 3) := by decide +kernel
theorem dX0_yearOf_18 : decode cX0_yearOf 18 = .ok (.istore_n 3, 1) := by decide +kernel
theorem dX0_yearOf_19 : decode cX0_yearOf 19 = .ok (.iconst 0, 1) := by decide +kernel
theorem dX0_yearOf_20 : decode cX0_yearOf 20 = .ok (.istore 4, 2) := by decide +kernel
theorem dX0_yearOf_22 : decode cX0_yearOf 22 = .ok (.iload 4, 2) := by decide +kernel
theorem dX0_yearOf_24 : decode cX0_yearOf 24 = .ok (.bipush 32, 2) := by decide +kernel
theorem dX0_yearOf_26 : decode cX0_yearOf 26 = .ok (.if_icmp .ge 46, 3) := by decide +kernel
theorem dX0_yearOf_29 : decode cX0_yearOf 29 = .ok (.iload_n 2, 1) := by decide +kernel
theorem dX0_yearOf_30 : decode cX0_yearOf 30 = .ok (.iload_n 3, 1) := by decide +kernel
theorem dX0_yearOf_31 : decode cX0_yearOf 31 = .ok (.if_icmp .ge 41, 3) := by decide +kernel
theorem dX0_yearOf_34 : decode cX0_yearOf 34 = .ok (.iload_n 2, 1) := by decide +kernel
theorem dX0_yearOf_35 : decode cX0_yearOf 35 = .ok (.iload_n 3, 1) := by decide +kernel
theorem dX0_yearOf_36 : decode cX0_yearOf 36 = .ok (.iload_n 2, 1) := by decide +kernel
theorem dX0_yearOf_37 : decode cX0_yearOf 37 = .ok (.isub, 1) := by decide +kernel
theorem dX0_yearOf_38 : decode cX0_yearOf 38 = .ok (.iconst 1, 1) := by decide +kernel
theorem dX0_yearOf_39 : decode cX0_yearOf 39 = .ok (.iadd, 1) := by decide +kernel
theorem dX0_yearOf_40 : decode cX0_yearOf 40 = .ok (.iconst 2, 1) := by decide +kernel
theorem dX0_yearOf_41 : decode cX0_yearOf 41 = .ok (.idiv, 1) := by decide +kernel
theorem dX0_yearOf_42 : decode cX0_yearOf 42 = .ok (.iadd, 1) := by decide +kernel
theorem dX0_yearOf_43 : decode cX0_yearOf 43 = .ok (.istore 5, 2) := by decide +kernel
theorem dX0_yearOf_45 : decode cX0_yearOf 45 = .ok (.aload_n 0, 1) := by decide +kernel
theorem dX0_yearOf_46 : decode cX0_yearOf 46 = .ok (.iload 5, 2) := by decide +kernel
theorem dX0_yearOf_48 : decode cX0_yearOf 48 = .ok (.invokevirtual 74, 3) := by decide +kernel
theorem dX0_yearOf_51 : decode cX0_yearOf 51 = .ok (.iload_n 1, 1) := by decide +kernel
theorem dX0_yearOf_52 : decode cX0_yearOf 52 = .ok (.if_icmp .gt 9, 3) := by decide +kernel
theorem dX0_yearOf_55 : decode cX0_yearOf 55 = .ok (.iload 5, 2) := by decide +kernel
theorem dX0_yearOf_57 : decode cX0_yearOf 57 = .ok (.istore_n 2, 1) := by decide +kernel
theorem dX0_yearOf_58 : decode cX0_yearOf 58 = .ok (.goto 8, 3) := by decide +kernel
theorem dX0_yearOf_61 : decode cX0_yearOf 61 = .ok (.iload 5, 2) := by decide +kernel
theorem dX0_yearOf_63 : decode cX0_yearOf 63 = .ok (.iconst 1, 1) := by decide +kernel
theorem dX0_yearOf_64 : decode cX0_yearOf 64 = .ok (.isub, 1) := by decide +kernel
theorem dX0_yearOf_65 : decode cX0_yearOf 65 = .ok (.istore_n 3, 1) := by decide +kernel
theorem dX0_yearOf_66 : decode cX0_yearOf 66 = .ok (.iinc 4 1, 3) := by decide +kernel
theorem dX0_yearOf_69 : decode cX0_yearOf 69 = .ok (.goto (-47), 3) := by decide +kernel
theorem dX0_yearOf_72 : decode cX0_yearOf 72 = .ok (.iload_n 2, 1) := by decide +kernel
theorem dX0_yearOf_73 : decode cX0_yearOf 73 = .ok (.ireturn, 1) := by decide +kernel
set_option maxRecDepth 20000 in
theorem dX0_monthOf_0 : decode cX0_monthOf 0 = .ok (.aload_n 0, 1) := by decide +kernel
theorem dX0_monthOf_1 : decode cX0_monthOf 1 = .ok (.iload_n 1, 1) := by decide +kernel
theorem dX0_monthOf_2 : decode cX0_monthOf 2 = .ok (.invokevirtual 92, 3) := by decide +kernel
theorem dX0_monthOf_5 : decode cX0_monthOf 5 = .ok (.istore_n 3, 1) := by decide +kernel
theorem dX0_monthOf_6 : decode cX0_monthOf 6 = .ok (.aload_n 0, 1) := by decide +kernel
theorem dX0_monthOf_7 : decode cX0_monthOf 7 = .ok (.iload_n 3, 1) := by decide +kernel
theorem dX0_monthOf_8 : decode cX0_monthOf 8 = .ok (.invokevirtual 96, 3) := by decide +kernel
theorem dX0_monthOf_11 : decode cX0_monthOf 11 = .ok (.istore 4, 2) := by decide +kernel
theorem dX0_monthOf_13 : decode cX0_monthOf 13 = .ok (.aload_n 0, 1) := by decide +kernel
theorem dX0_monthOf_14 : decode cX0_monthOf 14 = .ok (.iload_n 1, 1) := by decide +kernel
theorem dX0_monthOf_15 : decode cX0_monthOf 15 = .ok (.invokevirtual 74, 3) := by decide +kernel
theorem dX0_monthOf_18 : decode cX0_monthOf 18 = .ok (.aload_n 0, 1) := by decide +kernel
theorem dX0_monthOf_19 : decode cX0_monthOf 19 = .ok (.iload_n 3, 1) := by decide +kernel
theorem dX0_monthOf_20 : decode cX0_monthOf 20 = .ok (.iconst 1, 1) := by decide +kernel
theorem dX0_monthOf_21 : decode cX0_monthOf 21 = .ok (.invokevirtual 110, 3) := by decide +kernel
theorem dX0_monthOf_24 : decode cX0_monthOf 24 = .ok (.iadd, 1) := by decide +kernel
theorem dX0_monthOf_25 : decode cX0_monthOf 25 = .ok (.istore 5, 2) := by decide +kernel
theorem dX0_monthOf_27 : decode cX0_monthOf 27 = .ok (.iconst 1, 1) := by decide +kernel
theorem dX0_monthOf_28 : decode cX0_monthOf 28 = .ok (.istore 6, 2) := by decide +kernel
theorem dX0_monthOf_30 : decode cX0_monthOf 30 = .ok (.iload 6, 2) := by decide +kernel
theorem dX0_monthOf_32 : decode cX0_monthOf 32 = .ok (.iload 4, 2) := by decide +kernel
theorem dX0_monthOf_34 : decode cX0_monthOf 34 = .ok (.if_icmp .ge 29, 3) := by decide +kernel
theorem dX0_monthOf_37 : decode cX0_monthOf 37 = .ok (.iload 5, 2) := by decide +kernel
theorem dX0_monthOf_39 : decode cX0_monthOf 39 = .ok (.iload_n 2, 1) := by decide +kernel
theorem dX0_monthOf_40 : decode cX0_monthOf 40 = .ok (.if_icmp .gt 23, 3) := by decide +kernel
theorem dX0_monthOf_43 : decode cX0_monthOf 43 = .ok (.iload 5, 2) := by decide +kernel
theorem dX0_monthOf_45 : decode cX0_monthOf 45 = .ok (.aload_n 0, 1) := by decide +kernel
theorem dX0_monthOf_46 : decode cX0_monthOf 46 = .ok (.iload_n 3, 1) := by decide +kernel
theorem dX0_monthOf_47 : decode cX0_monthOf 47 = .ok (.iload 6, 2) := by decide +kernel
theorem dX0_monthOf_49 : decode cX0_monthOf 49 = .ok (.iconst 1, 1) := by decide +kernel
theorem dX0_monthOf_50 : decode cX0_monthOf 50 = .ok (.iadd, 1) := by decide +kernel
theorem dX0_monthOf_51 : decode cX0_monthOf 51 = .ok (.invokevirtual 110, 3) := by decide +kernel
theorem dX0_monthOf_54 : decode cX0_monthOf 54 = .ok (.iadd, 1) := by decide +kernel
theorem dX0_monthOf_55 : decode cX0_monthOf 55 = .ok (.istore 5, 2) := by decide +kernel
theorem dX0_monthOf_57 : decode cX0_monthOf 57 = .ok (.iinc 6 1, 3) := by decide +kernel
theorem dX0_monthOf_60 : decode cX0_monthOf 60 = .ok (.goto (-30), 3) := by decide +kernel
theorem dX0_monthOf_63 : decode cX0_monthOf 63 = .ok (.iload 6, 2) := by decide +kernel
theorem dX0_monthOf_65 : decode cX0_monthOf 65 = .ok (.ireturn, 1) := by decide +kernel
set_option maxRecDepth 20000 in
theorem dX0_dayOfMonth_0 : decode cX0_dayOfMonth 0 = .ok (.iload_n 2, 1) := by decide +kernel
theorem dX0_dayOfMonth_1 : decode cX0_dayOfMonth 1 = .ok (.aload_n 0, 1) := by decide +kernel
theorem dX0_dayOfMonth_2 : decode cX0_dayOfMonth 2 = .ok (.iload_n 1, 1) := by decide +kernel
theorem dX0_dayOfMonth_3 : decode cX0_dayOfMonth 3 = .ok (.aload_n 0, 1) := by decide +kernel
theorem dX0_dayOfMonth_4 : decode cX0_dayOfMonth 4 = .ok (.iload_n 1, 1) := by decide +kernel
theorem dX0_dayOfMonth_5 : decode cX0_dayOfMonth 5 = .ok (.iload_n 2, 1) := by decide +kernel
theorem dX0_dayOfMonth_6 : decode cX0_dayOfMonth 6 = .ok (.invokevirtual 131, 3) := by decide +kernel
theorem dX0_dayOfMonth_9 : decode cX0_dayOfMonth 9 = .ok (.invokevirtual 122, 3) := by decide +kernel
theorem dX0_dayOfMonth_12 : decode cX0_dayOfMonth 12 = .ok (.isub, 1) := by decide +kernel
theorem dX0_dayOfMonth_13 : decode cX0_dayOfMonth 13 = .ok (.iconst 1, 1) := by decide +kernel
theorem dX0_dayOfMonth_14 : decode cX0_dayOfMonth 14 = .ok (.iadd, 1) := by decide +kernel
theorem dX0_dayOfMonth_15 : decode cX0_dayOfMonth 15 = .ok (.ireturn, 1) := by decide +kernel
set_option maxRecDepth 20000 in
theorem dX0_partOfDate_0 : decode cX0_partOfDate 0 = .ok (.iload_n 3, 1) := by decide +kernel
theorem dX0_partOfDate_1 : decode cX0_partOfDate 1 = .ok (.tableswitch 57 0 3 #[31, 33, 40, 47], 31) := by decide +kernel
theorem dX0_partOfDate_32 : decode cX0_partOfDate 32 = .ok (.iload_n 1, 1) := by decide +kernel
theorem dX0_partOfDate_33 : decode cX0_partOfDate 33 = .ok (.ireturn, 1) := by decide +kernel
theorem dX0_partOfDate_34 : decode cX0_partOfDate 34 = .ok (.aload_n 0, 1) := by decide +kernel
theorem dX0_partOfDate_35 : decode cX0_partOfDate 35 = .ok (.iload_n 1, 1) := by decide +kernel
theorem dX0_partOfDate_36 : decode cX0_partOfDate 36 = .ok (.iload_n 2, 1) := by decide +kernel
theorem dX0_partOfDate_37 : decode cX0_partOfDate 37 = .ok (.invokevirtual 131, 3) := by decide +kernel
theorem dX0_partOfDate_40 : decode cX0_partOfDate 40 = .ok (.ireturn, 1) := by decide +kernel
theorem dX0_partOfDate_41 : decode cX0_partOfDate 41 = .ok (.aload_n 0, 1) := by decide +kernel
theorem dX0_partOfDate_42 : decode cX0_partOfDate 42 = .ok (.iload_n 1, 1) := by decide +kernel
theorem dX0_partOfDate_43 : decode cX0_partOfDate 43 = .ok (.iload_n 2, 1) := by decide +kernel
theorem dX0_partOfDate_44 : decode cX0_partOfDate 44 = .ok (.invokevirtual 134, 3) := by decide +kernel
theorem dX0_partOfDate_47 : decode cX0_partOfDate 47 = .ok (.ireturn, 1) := by decide +kernel
theorem dX0_partOfDate_48 : decode cX0_partOfDate 48 = .ok (.iload_n 2, 1) := by decide +kernel
theorem dX0_partOfDate_49 : decode cX0_partOfDate 49 = .ok (.aload_n 0, 1) := by decide +kernel
theorem dX0_partOfDate_50 : decode cX0_partOfDate 50 = .ok (.iload_n 1, 1) := by decide +kernel
theorem dX0_partOfDate_51 : decode cX0_partOfDate 51 = .ok (.invokevirtual 74, 3) := by decide +kernel
theorem dX0_partOfDate_54 : decode cX0_partOfDate 54 = .ok (.isub, 1) := by decide +kernel
theorem dX0_partOfDate_55 : decode cX0_partOfDate 55 = .ok (.iconst 1, 1) := by decide +kernel
theorem dX0_partOfDate_56 : decode cX0_partOfDate 56 = .ok (.iadd, 1) := by decide +kernel
theorem dX0_partOfDate_57 : decode cX0_partOfDate 57 = .ok (.ireturn, 1) := by decide +kernel
theorem dX0_partOfDate_58 : decode cX0_partOfDate 58 = .ok (.aload_n 0, 1) := by decide +kernel
theorem dX0_partOfDate_59 : decode cX0_partOfDate 59 = .ok (.iload_n 2, 1) := by decide +kernel
theorem dX0_partOfDate_60 : decode cX0_partOfDate 60 = .ok (.invokevirtual 137, 3) := by decide +kernel
theorem dX0_partOfDate_63 : decode cX0_partOfDate 63 = .ok (.ireturn, 1) := by decide +kernel
set_option maxRecDepth 20000 in
theorem dX0_weekdayOf_0 : decode cX0_weekdayOf 0 = .ok (.aload_n 0, 1) := by decide +kernel
theorem dX0_weekdayOf_1 : decode cX0_weekdayOf 1 = .ok (.getfield 58, 3) := by decide +kernel
theorem dX0_weekdayOf_4 : decode cX0_weekdayOf 4 = .ok (.ifCond .le 19, 3) := by decide +kernel
theorem dX0_weekdayOf_7 : decode cX0_weekdayOf 7 = .ok (.iload_n 1, 1) := by decide +kernel
theorem dX0_weekdayOf_8 : decode cX0_weekdayOf 8 = .ok (.aload_n 0, 1) := by decide +kernel
theorem dX0_weekdayOf_9 : decode cX0_weekdayOf 9 = .ok (.getfield 62, 3) := by decide +kernel
theorem dX0_weekdayOf_12 : decode cX0_weekdayOf 12 = .ok (.iadd, 1) := by decide +kernel
theorem dX0_weekdayOf_13 : decode cX0_weekdayOf 13 = .ok (.aload_n 0, 1) := by decide +kernel
theorem dX0_weekdayOf_14 : decode cX0_weekdayOf 14 = .ok (.getfield 58, 3) := by decide +kernel
theorem dX0_weekdayOf_17 : decode cX0_weekdayOf 17 = .ok (.invokestatic 86, 3) := by decide +kernel
theorem dX0_weekdayOf_20 : decode cX0_weekdayOf 20 = .ok (.goto 4, 3) := by decide +kernel
theorem dX0_weekdayOf_23 : decode cX0_weekdayOf 23 = .ok (.iconst 0, 1) := by decide +kernel
theorem dX0_weekdayOf_24 : decode cX0_weekdayOf 24 = .ok (.ireturn, 1) := by decide +kernel
set_option maxRecDepth 20000 in
theorem dX0_startOfWeek_0 : decode cX0_startOfWeek 0 = .ok (.aload_n 0, 1) := by decide +kernel
theorem dX0_startOfWeek_1 : decode cX0_startOfWeek 1 = .ok (.iload_n 1, 1) := by decide +kernel
theorem dX0_startOfWeek_2 : decode cX0_startOfWeek 2 = .ok (.invokevirtual 74, 3) := by decide +kernel
theorem dX0_startOfWeek_5 : decode cX0_startOfWeek 5 = .ok (.aload_n 0, 1) := by decide +kernel
theorem dX0_startOfWeek_6 : decode cX0_startOfWeek 6 = .ok (.getfield 66, 3) := by decide +kernel
theorem dX0_startOfWeek_9 : decode cX0_startOfWeek 9 = .ok (.iadd, 1) := by decide +kernel
theorem dX0_startOfWeek_10 : decode cX0_startOfWeek 10 = .ok (.iconst 1, 1) := by decide +kernel
theorem dX0_startOfWeek_11 : decode cX0_startOfWeek 11 = .ok (.isub, 1) := by decide +kernel
theorem dX0_startOfWeek_12 : decode cX0_startOfWeek 12 = .ok (.istore_n 3, 1) := by decide +kernel
theorem dX0_startOfWeek_13 : decode cX0_startOfWeek 13 = .ok (.iload_n 3, 1) := by decide +kernel
theorem dX0_startOfWeek_14 : decode cX0_startOfWeek 14 = .ok (.aload_n 0, 1) := by decide +kernel
theorem dX0_startOfWeek_15 : decode cX0_startOfWeek 15 = .ok (.iload_n 3, 1) := by decide +kernel
theorem dX0_startOfWeek_16 : decode cX0_startOfWeek 16 = .ok (.invokevirtual 137, 3) := by decide +kernel
theorem dX0_startOfWeek_19 : decode cX0_startOfWeek 19 = .ok (.isub, 1) := by decide +kernel
theorem dX0_startOfWeek_20 : decode cX0_startOfWeek 20 = .ok (.iload_n 2, 1) := by decide +kernel
theorem dX0_startOfWeek_21 : decode cX0_startOfWeek 21 = .ok (.iconst 1, 1) := by decide +kernel
theorem dX0_startOfWeek_22 : decode cX0_startOfWeek 22 = .ok (.isub, 1) := by decide +kernel
theorem dX0_startOfWeek_23 : decode cX0_startOfWeek 23 = .ok (.aload_n 0, 1) := by decide +kernel
theorem dX0_startOfWeek_24 : decode cX0_startOfWeek 24 = .ok (.getfield 58, 3) := by decide +kernel
theorem dX0_startOfWeek_27 : decode cX0_startOfWeek 27 = .ok (.imul, 1) := by decide +kernel
theorem dX0_startOfWeek_28 : decode cX0_startOfWeek 28 = .ok (.iadd, 1) := by decide +kernel
theorem dX0_startOfWeek_29 : decode cX0_startOfWeek 29 = .ok (.ireturn, 1) := by decide +kernel
set_option maxRecDepth 20000 in
theorem dX0_weekCount_0 : decode cX0_weekCount 0 = .ok (.aload_n 0, 1) := by decide +kernel
theorem dX0_weekCount_1 : decode cX0_weekCount 1 = .ok (.iload_n 1, 1) := by decide +kernel
theorem dX0_weekCount_2 : decode cX0_weekCount 2 = .ok (.iconst 1, 1) := by decide +kernel
theorem dX0_weekCount_3 : decode cX0_weekCount 3 = .ok (.iadd, 1) := by decide +kernel
theorem dX0_weekCount_4 : decode cX0_weekCount 4 = .ok (.iconst 1, 1) := by decide +kernel
theorem dX0_weekCount_5 : decode cX0_weekCount 5 = .ok (.invokevirtual 140, 3) := by decide +kernel
theorem dX0_weekCount_8 : decode cX0_weekCount 8 = .ok (.aload_n 0, 1) := by decide +kernel
theorem dX0_weekCount_9 : decode cX0_weekCount 9 = .ok (.iload_n 1, 1) := by decide +kernel
theorem dX0_weekCount_10 : decode cX0_weekCount 10 = .ok (.iconst 1, 1) := by decide +kernel
theorem dX0_weekCount_11 : decode cX0_weekCount 11 = .ok (.invokevirtual 140, 3) := by decide +kernel
theorem dX0_weekCount_14 : decode cX0_weekCount 14 = .ok (.isub, 1) := by decide +kernel
theorem dX0_weekCount_15 : decode cX0_weekCount 15 = .ok (.istore_n 2, 1) := by decide +kernel
theorem dX0_weekCount_16 : decode cX0_weekCount 16 = .ok (.aload_n 0, 1) := by decide +kernel
theorem dX0_weekCount_17 : decode cX0_weekCount 17 = .ok (.getfield 58, 3) := by decide +kernel
theorem dX0_weekCount_20 : decode cX0_weekCount 20 = .ok (.ifCond .le 12, 3) := by decide +kernel
theorem dX0_weekCount_23 : decode cX0_weekCount 23 = .ok (.iload_n 2, 1) := by decide +kernel
theorem dX0_weekCount_24 : decode cX0_weekCount 24 = .ok (.aload_n 0, 1) := by decide +kernel
theorem dX0_weekCount_25 : decode cX0_weekCount 25 = .ok (.getfield 58, 3) := by decide +kernel
theorem dX0_weekCount_28 : decode cX0_weekCount 28 = .ok (.idiv, 1) := by decide +kernel
theorem dX0_weekCount_29 : decode cX0_weekCount 29 = .ok (.goto 4, 3) := by decide +kernel
theorem dX0_weekCount_32 : decode cX0_weekCount 32 = .ok (.iconst 0, 1) := by decide +kernel
theorem dX0_weekCount_33 : decode cX0_weekCount 33 = .ok (.ireturn, 1) := by decide +kernel
set_option maxRecDepth 20000 in
theorem dX0_weekYearOf_0 : decode cX0_weekYearOf 0 = .ok (.iload_n 2, 1) := by decide +kernel
theorem dX0_weekYearOf_1 : decode cX0_weekYearOf 1 = .ok (.aload_n 0, 1) := by decide +kernel
theorem dX0_weekYearOf_2 : decode cX0_weekYearOf 2 = .ok (.iload_n 1, 1) := by decide +kernel
theorem dX0_weekYearOf_3 : decode cX0_weekYearOf 3 = .ok (.iconst 1, 1) := by decide +kernel
theorem dX0_weekYearOf_4 : decode cX0_weekYearOf 4 = .ok (.invokevirtual 140, 3) := by decide +kernel
theorem dX0_weekYearOf_7 : decode cX0_weekYearOf 7 = .ok (.if_icmp .ge 7, 3) := by decide +kernel
theorem dX0_weekYearOf_10 : decode cX0_weekYearOf 10 = .ok (.iload_n 1, 1) := by decide +kernel
theorem dX0_weekYearOf_11 : decode cX0_weekYearOf 11 = .ok (.iconst 1, 1) := by decide +kernel
theorem dX0_weekYearOf_12 : decode cX0_weekYearOf 12 = .ok (.isub, 1) := by decide +kernel
theorem dX0_weekYearOf_13 : decode cX0_weekYearOf 13 = .ok (.ireturn, 1) := by decide +kernel
theorem dX0_weekYearOf_14 : decode cX0_weekYearOf 14 = .ok (.iload_n 2, 1) := by decide +kernel
theorem dX0_weekYearOf_15 : decode cX0_weekYearOf 15 = .ok (.aload_n 0, 1) := by decide +kernel
theorem dX0_weekYearOf_16 : decode cX0_weekYearOf 16 = .ok (.iload_n 1, 1) := by decide +kernel
theorem dX0_weekYearOf_17 : decode cX0_weekYearOf 17 = .ok (.iconst 1, 1) := by decide +kernel
theorem dX0_weekYearOf_18 : decode cX0_weekYearOf 18 = .ok (.iadd, 1) := by decide +kernel
theorem dX0_weekYearOf_19 : decode cX0_weekYearOf 19 = .ok (.iconst 1, 1) := by decide +kernel
theorem dX0_weekYearOf_20 : decode cX0_weekYearOf 20 = .ok (.invokevirtual 140, 3) := by decide +kernel
theorem dX0_weekYearOf_23 : decode cX0_weekYearOf 23 = .ok (.if_icmp .lt 9, 3) := by decide +kernel
theorem dX0_weekYearOf_26 : decode cX0_weekYearOf 26 = .ok (.iload_n 1, 1) := by decide +kernel
theorem dX0_weekYearOf_27 : decode cX0_weekYearOf 27 = .ok (.iconst 1, 1) := by decide +kernel
theorem dX0_weekYearOf_28 : decode cX0_weekYearOf 28 = .ok (.iadd, 1) := by decide +kernel
theorem dX0_weekYearOf_29 : decode cX0_weekYearOf 29 = .ok (.goto 4, 3) := by decide +kernel
theorem dX0_weekYearOf_32 : decode cX0_weekYearOf 32 = .ok (.iload_n 1, 1) := by decide +kernel
theorem dX0_weekYearOf_33 : decode cX0_weekYearOf 33 = .ok (.ireturn, 1) := by decide +kernel
set_option maxRecDepth 20000 in
theorem dX0_weekNumber_0 : decode cX0_weekNumber 0 = .ok (.iload_n 2, 1) := by decide +kernel
theorem dX0_weekNumber_1 : decode cX0_weekNumber 1 = .ok (.aload_n 0, 1) := by decide +kernel
theorem dX0_weekNumber_2 : decode cX0_weekNumber 2 = .ok (.iload_n 1, 1) := by decide +kernel
theorem dX0_weekNumber_3 : decode cX0_weekNumber 3 = .ok (.iconst 1, 1) := by decide +kernel
theorem dX0_weekNumber_4 : decode cX0_weekNumber 4 = .ok (.invokevirtual 140, 3) := by decide +kernel
theorem dX0_weekNumber_7 : decode cX0_weekNumber 7 = .ok (.isub, 1) := by decide +kernel
theorem dX0_weekNumber_8 : decode cX0_weekNumber 8 = .ok (.istore_n 3, 1) := by decide +kernel
theorem dX0_weekNumber_9 : decode cX0_weekNumber 9 = .ok (.aload_n 0, 1) := by decide +kernel
theorem dX0_weekNumber_10 : decode cX0_weekNumber 10 = .ok (.getfield 58, 3) := by decide +kernel
theorem dX0_weekNumber_13 : decode cX0_weekNumber 13 = .ok (.ifCond .le 14, 3) := by decide +kernel
theorem dX0_weekNumber_16 : decode cX0_weekNumber 16 = .ok (.iload_n 3, 1) := by decide +kernel
theorem dX0_weekNumber_17 : decode cX0_weekNumber 17 = .ok (.aload_n 0, 1) := by decide +kernel
theorem dX0_weekNumber_18 : decode cX0_weekNumber 18 = .ok (.getfield 58, 3) := by decide +kernel
theorem dX0_weekNumber_21 : decode cX0_weekNumber 21 = .ok (.idiv, 1) := by decide +kernel
theorem dX0_weekNumber_22 : decode cX0_weekNumber 22 = .ok (.iconst 1, 1) := by decide +kernel
theorem dX0_weekNumber_23 : decode cX0_weekNumber 23 = .ok (.iadd, 1) := by decide +kernel
theorem dX0_weekNumber_24 : decode cX0_weekNumber 24 = .ok (.goto 4, 3) := by decide +kernel
theorem dX0_weekNumber_27 : decode cX0_weekNumber 27 = .ok (.iconst 1, 1) := by decide +kernel
theorem dX0_weekNumber_28 : decode cX0_weekNumber 28 = .ok (.ireturn, 1) := by decide +kernel
set_option maxRecDepth 20000 in
theorem dX0_yearsLater_0 : decode cX0_yearsLater 0 = .ok (.aload_n 0, 1) := by decide +kernel
theorem dX0_yearsLater_1 : decode cX0_yearsLater 1 = .ok (.iload_n 1, 1) := by decide +kernel
theorem dX0_yearsLater_2 : decode cX0_yearsLater 2 = .ok (.invokevirtual 143, 3) := by decide +kernel
theorem dX0_yearsLater_5 : decode cX0_yearsLater 5 = .ok (.istore_n 3, 1) := by decide +kernel
theorem dX0_yearsLater_6 : decode cX0_yearsLater 6 = .ok (.iload_n 3, 1) := by decide +kernel
theorem dX0_yearsLater_7 : decode cX0_yearsLater 7 = .ok (.ldc 121, 2) := by decide +kernel
theorem dX0_yearsLater_9 : decode cX0_yearsLater 9 = .ok (.if_icmp .eq 12, 3) := by decide +kernel
theorem dX0_yearsLater_12 : decode cX0_yearsLater 12 = .ok (.iload_n 3, 1) := by decide +kernel
theorem dX0_yearsLater_13 : decode cX0_yearsLater 13 = .ok (.iload_n 2, 1) := by decide +kernel
theorem dX0_yearsLater_14 : decode cX0_yearsLater 14 = .ok (.iadd, 1) := by decide +kernel
theorem dX0_yearsLater_15 : decode cX0_yearsLater 15 = .ok (.invokestatic 100, 3) := by decide +kernel
theorem dX0_yearsLater_18 : decode cX0_yearsLater 18 = .ok (.ifCond .ne 6, 3) := by decide +kernel
theorem dX0_yearsLater_21 : decode cX0_yearsLater 21 = .ok (.ldc 121, 2) := by decide +kernel
theorem dX0_yearsLater_23 : decode cX0_yearsLater 23 = .ok (.ireturn, 1) := by decide +kernel
theorem dX0_yearsLater_24 : decode cX0_yearsLater 24 = .ok (.aload_n 0, 1) := by decide +kernel
theorem dX0_yearsLater_25 : decode cX0_yearsLater 25 = .ok (.iload_n 3, 1) := by decide +kernel
theorem dX0_yearsLater_26 : decode cX0_yearsLater 26 = .ok (.iload_n 2, 1) := by decide +kernel
theorem dX0_yearsLater_27 : decode cX0_yearsLater 27 = .ok (.iadd, 1) := by decide +kernel
theorem dX0_yearsLater_28 : decode cX0_yearsLater 28 = .ok (.aload_n 0, 1) := by decide +kernel
theorem dX0_yearsLater_29 : decode cX0_yearsLater 29 = .ok (.iload_n 3, 1) := by decide +kernel
theorem dX0_yearsLater_30 : decode cX0_yearsLater 30 = .ok (.iload_n 1, 1) := by decide +kernel
theorem dX0_yearsLater_31 : decode cX0_yearsLater 31 = .ok (.invokevirtual 131, 3) := by decide +kernel
theorem dX0_yearsLater_34 : decode cX0_yearsLater 34 = .ok (.aload_n 0, 1) := by decide +kernel
theorem dX0_yearsLater_35 : decode cX0_yearsLater 35 = .ok (.iload_n 3, 1) := by decide +kernel
theorem dX0_yearsLater_36 : decode cX0_yearsLater 36 = .ok (.iload_n 1, 1) := by decide +kernel
theorem dX0_yearsLater_37 : decode cX0_yearsLater 37 = .ok (.invokevirtual 134, 3) := by decide +kernel
theorem dX0_yearsLater_40 : decode cX0_yearsLater 40 = .ok (.invokevirtual 146, 3) := by decide +kernel
theorem dX0_yearsLater_43 : decode cX0_yearsLater 43 = .ok (.ireturn, 1) := by decide +kernel
set_option maxRecDepth 20000 in
theorem dX0_monthsLater_0 : decode cX0_monthsLater 0 = .ok (.aload_n 0, 1) := by decide +kernel
theorem dX0_monthsLater_1 : decode cX0_monthsLater 1 = .ok (.iload_n 1, 1) := by decide +kernel
theorem dX0_monthsLater_2 : decode cX0_monthsLater 2 = .ok (.invokevirtual 143, 3) := by decide +kernel
theorem dX0_monthsLater_5 : decode cX0_monthsLater 5 = .ok (.istore_n 3, 1) := by decide +kernel
theorem dX0_monthsLater_6 : decode cX0_monthsLater 6 = .ok (.iload_n 3, 1) := by decide +kernel
theorem dX0_monthsLater_7 : decode cX0_monthsLater 7 = .ok (.ldc 121, 2) := by decide +kernel
theorem dX0_monthsLater_9 : decode cX0_monthsLater 9 = .ok (.if_icmp .ne 6, 3) := by decide +kernel
theorem dX0_monthsLater_12 : decode cX0_monthsLater 12 = .ok (.ldc 121, 2) := by decide +kernel
theorem dX0_monthsLater_14 : decode cX0_monthsLater 14 = .ok (.ireturn, 1) := by decide +kernel
theorem dX0_monthsLater_15 : decode cX0_monthsLater 15 = .ok (.aload_n 0, 1) := by decide +kernel
theorem dX0_monthsLater_16 : decode cX0_monthsLater 16 = .ok (.iload_n 3, 1) := by decide +kernel
theorem dX0_monthsLater_17 : decode cX0_monthsLater 17 = .ok (.invokevirtual 150, 3) := by decide +kernel
theorem dX0_monthsLater_20 : decode cX0_monthsLater 20 = .ok (.aload_n 0, 1) := by decide +kernel
theorem dX0_monthsLater_21 : decode cX0_monthsLater 21 = .ok (.iload_n 3, 1) := by decide +kernel
theorem dX0_monthsLater_22 : decode cX0_monthsLater 22 = .ok (.iload_n 1, 1) := by decide +kernel
theorem dX0_monthsLater_23 : decode cX0_monthsLater 23 = .ok (.invokevirtual 131, 3) := by decide +kernel
theorem dX0_monthsLater_26 : decode cX0_monthsLater 26 = .ok (.iadd, 1) := by decide +kernel
theorem dX0_monthsLater_27 : decode cX0_monthsLater 27 = .ok (.iconst 1, 1) := by decide +kernel
theorem dX0_monthsLater_28 : decode cX0_monthsLater 28 = .ok (.isub, 1) := by decide +kernel
theorem dX0_monthsLater_29 : decode cX0_monthsLater 29 = .ok (.iload_n 2, 1) := by decide +kernel
theorem dX0_monthsLater_30 : decode cX0_monthsLater 30 = .ok (.iadd, 1) := by decide +kernel
theorem dX0_monthsLater_31 : decode cX0_monthsLater 31 = .ok (.istore 4, 2) := by decide +kernel
theorem dX0_monthsLater_33 : decode cX0_monthsLater 33 = .ok (.aload_n 0, 1) := by decide +kernel
theorem dX0_monthsLater_34 : decode cX0_monthsLater 34 = .ok (.iload 4, 2) := by decide +kernel
theorem dX0_monthsLater_36 : decode cX0_monthsLater 36 = .ok (.invokevirtual 153, 3) := by decide +kernel
theorem dX0_monthsLater_39 : decode cX0_monthsLater 39 = .ok (.istore 5, 2) := by decide +kernel
theorem dX0_monthsLater_41 : decode cX0_monthsLater 41 = .ok (.iload 5, 2) := by decide +kernel
theorem dX0_monthsLater_43 : decode cX0_monthsLater 43 = .ok (.ldc 121, 2) := by decide +kernel
theorem dX0_monthsLater_45 : decode cX0_monthsLater 45 = .ok (.if_icmp .ne 6, 3) := by decide +kernel
theorem dX0_monthsLater_48 : decode cX0_monthsLater 48 = .ok (.ldc 121, 2) := by decide +kernel
theorem dX0_monthsLater_50 : decode cX0_monthsLater 50 = .ok (.ireturn, 1) := by decide +kernel
theorem dX0_monthsLater_51 : decode cX0_monthsLater 51 = .ok (.aload_n 0, 1) := by decide +kernel
theorem dX0_monthsLater_52 : decode cX0_monthsLater 52 = .ok (.iload 5, 2) := by decide +kernel
theorem dX0_monthsLater_54 : decode cX0_monthsLater 54 = .ok (.iload 4, 2) := by decide +kernel
theorem dX0_monthsLater_56 : decode cX0_monthsLater 56 = .ok (.aload_n 0, 1) := by decide +kernel
theorem dX0_monthsLater_57 : decode cX0_monthsLater 57 = .ok (.iload 5, 2) := by decide +kernel
theorem dX0_monthsLater_59 : decode cX0_monthsLater 59 = .ok (.invokevirtual 150, 3) := by decide +kernel
theorem dX0_monthsLater_62 : decode cX0_monthsLater 62 = .ok (.isub, 1) := by decide +kernel
theorem dX0_monthsLater_63 : decode cX0_monthsLater 63 = .ok (.iconst 1, 1) := by decide +kernel
theorem dX0_monthsLater_64 : decode cX0_monthsLater 64 = .ok (.iadd, 1) := by decide +kernel
theorem dX0_monthsLater_65 : decode cX0_monthsLater 65 = .ok (.aload_n 0, 1) := by decide +kernel
theorem dX0_monthsLater_66 : decode cX0_monthsLater 66 = .ok (.iload_n 3, 1) := by decide +kernel
theorem dX0_monthsLater_67 : decode cX0_monthsLater 67 = .ok (.iload_n 1, 1) := by decide +kernel
theorem dX0_monthsLater_68 : decode cX0_monthsLater 68 = .ok (.invokevirtual 134, 3) := by decide +kernel
theorem dX0_monthsLater_71 : decode cX0_monthsLater 71 = .ok (.invokevirtual 146, 3) := by decide +kernel
theorem dX0_monthsLater_74 : decode cX0_monthsLater 74 = .ok (.ireturn, 1) := by decide +kernel
set_option maxRecDepth 20000 in
theorem dX0_monthsBetween_0 : decode cX0_monthsBetween 0 = .ok (.aload_n 0, 1) := by decide +kernel
theorem dX0_monthsBetween_1 : decode cX0_monthsBetween 1 = .ok (.iload_n 2, 1) := by decide +kernel
theorem dX0_monthsBetween_2 : decode cX0_monthsBetween 2 = .ok (.invokevirtual 156, 3) := by decide +kernel
theorem dX0_monthsBetween_5 : decode cX0_monthsBetween 5 = .ok (.aload_n 0, 1) := by decide +kernel
theorem dX0_monthsBetween_6 : decode cX0_monthsBetween 6 = .ok (.iload_n 1, 1) := by decide +kernel
theorem dX0_monthsBetween_7 : decode cX0_monthsBetween 7 = .ok (.invokevirtual 156, 3) := by decide +kernel
theorem dX0_monthsBetween_10 : decode cX0_monthsBetween 10 = .ok (.isub, 1) := by decide +kernel
theorem dX0_monthsBetween_11 : decode cX0_monthsBetween 11 = .ok (.istore_n 3, 1) := by decide +kernel
theorem dX0_monthsBetween_12 : decode cX0_monthsBetween 12 = .ok (.aload_n 0, 1) := by decide +kernel
theorem dX0_monthsBetween_13 : decode cX0_monthsBetween 13 = .ok (.iload_n 1, 1) := by decide +kernel
theorem dX0_monthsBetween_14 : decode cX0_monthsBetween 14 = .ok (.iload_n 3, 1) := by decide +kernel
theorem dX0_monthsBetween_15 : decode cX0_monthsBetween 15 = .ok (.invokevirtual 159, 3) := by decide +kernel
theorem dX0_monthsBetween_18 : decode cX0_monthsBetween 18 = .ok (.iload_n 2, 1) := by decide +kernel
theorem dX0_monthsBetween_19 : decode cX0_monthsBetween 19 = .ok (.if_icmp .le 9, 3) := by decide +kernel
theorem dX0_monthsBetween_22 : decode cX0_monthsBetween 22 = .ok (.iload_n 3, 1) := by decide +kernel
theorem dX0_monthsBetween_23 : decode cX0_monthsBetween 23 = .ok (.iconst 1, 1) := by decide +kernel
theorem dX0_monthsBetween_24 : decode cX0_monthsBetween 24 = .ok (.isub, 1) := by decide +kernel
theorem dX0_monthsBetween_25 : decode cX0_monthsBetween 25 = .ok (.goto 4, 3) := by decide +kernel
theorem dX0_monthsBetween_28 : decode cX0_monthsBetween 28 = .ok (.iload_n 3, 1) := by decide +kernel
theorem dX0_monthsBetween_29 : decode cX0_monthsBetween 29 = .ok (.ireturn, 1) := by decide +kernel
set_option maxRecDepth 20000 in
theorem dX0_weekdayInMonth_0 : decode cX0_weekdayInMonth 0 = .ok (.iload 4, 2) := by decide +kernel
theorem dX0_weekdayInMonth_2 : decode cX0_weekdayInMonth 2 = .ok (.aload_n 0, 1) := by decide +kernel
theorem dX0_weekdayInMonth_3 : decode cX0_weekdayInMonth 3 = .ok (.getfield 58, 3) := by decide +kernel
theorem dX0_weekdayInMonth_6 : decode cX0_weekdayInMonth 6 = .ok (.if_icmp .ge 11, 3) := by decide +kernel
theorem dX0_weekdayInMonth_9 : decode cX0_weekdayInMonth 9 = .ok (.aload_n 0, 1) := by decide +kernel
theorem dX0_weekdayInMonth_10 : decode cX0_weekdayInMonth 10 = .ok (.getfield 58, 3) := by decide +kernel
theorem dX0_weekdayInMonth_13 : decode cX0_weekdayInMonth 13 = .ok (.iconst 1, 1) := by decide +kernel
theorem dX0_weekdayInMonth_14 : decode cX0_weekdayInMonth 14 = .ok (.if_icmp .ge 6, 3) := by decide +kernel
theorem dX0_weekdayInMonth_17 : decode cX0_weekdayInMonth 17 = .ok (.ldc 121, 2) := by decide +kernel
theorem dX0_weekdayInMonth_19 : decode cX0_weekdayInMonth 19 = .ok (.ireturn, 1) := by decide +kernel
theorem dX0_weekdayInMonth_20 : decode cX0_weekdayInMonth 20 = .ok (.iload_n 2, 1) := by decide +kernel
theorem dX0_weekdayInMonth_21 : decode cX0_weekdayInMonth 21 = .ok (.aload_n 0, 1) := by decide +kernel
theorem dX0_weekdayInMonth_22 : decode cX0_weekdayInMonth 22 = .ok (.iload_n 1, 1) := by decide +kernel
theorem dX0_weekdayInMonth_23 : decode cX0_weekdayInMonth 23 = .ok (.invokevirtual 103, 3) := by decide +kernel
theorem dX0_weekdayInMonth_26 : decode cX0_weekdayInMonth 26 = .ok (.invokestatic 125, 3) := by decide +kernel
theorem dX0_weekdayInMonth_29 : decode cX0_weekdayInMonth 29 = .ok (.istore 5, 2) := by decide +kernel
theorem dX0_weekdayInMonth_31 : decode cX0_weekdayInMonth 31 = .ok (.aload_n 0, 1) := by decide +kernel
theorem dX0_weekdayInMonth_32 : decode cX0_weekdayInMonth 32 = .ok (.iload_n 1, 1) := by decide +kernel
theorem dX0_weekdayInMonth_33 : decode cX0_weekdayInMonth 33 = .ok (.iload 5, 2) := by decide +kernel
theorem dX0_weekdayInMonth_35 : decode cX0_weekdayInMonth 35 = .ok (.invokevirtual 122, 3) := by decide +kernel
theorem dX0_weekdayInMonth_38 : decode cX0_weekdayInMonth 38 = .ok (.istore 6, 2) := by decide +kernel
theorem dX0_weekdayInMonth_40 : decode cX0_weekdayInMonth 40 = .ok (.iload 6, 2) := by decide +kernel
theorem dX0_weekdayInMonth_42 : decode cX0_weekdayInMonth 42 = .ok (.aload_n 0, 1) := by decide +kernel
theorem dX0_weekdayInMonth_43 : decode cX0_weekdayInMonth 43 = .ok (.iload_n 1, 1) := by decide +kernel
theorem dX0_weekdayInMonth_44 : decode cX0_weekdayInMonth 44 = .ok (.iload 5, 2) := by decide +kernel
theorem dX0_weekdayInMonth_46 : decode cX0_weekdayInMonth 46 = .ok (.invokevirtual 118, 3) := by decide +kernel
theorem dX0_weekdayInMonth_49 : decode cX0_weekdayInMonth 49 = .ok (.iadd, 1) := by decide +kernel
theorem dX0_weekdayInMonth_50 : decode cX0_weekdayInMonth 50 = .ok (.iconst 1, 1) := by decide +kernel
theorem dX0_weekdayInMonth_51 : decode cX0_weekdayInMonth 51 = .ok (.isub, 1) := by decide +kernel
theorem dX0_weekdayInMonth_52 : decode cX0_weekdayInMonth 52 = .ok (.istore 7, 2) := by decide +kernel
theorem dX0_weekdayInMonth_54 : decode cX0_weekdayInMonth 54 = .ok (.iload_n 3, 1) := by decide +kernel
theorem dX0_weekdayInMonth_55 : decode cX0_weekdayInMonth 55 = .ok (.ifCond .ge 27, 3) := by decide +kernel
theorem dX0_weekdayInMonth_58 : decode cX0_weekdayInMonth 58 = .ok (.iload 7, 2) := by decide +kernel
theorem dX0_weekdayInMonth_60 : decode cX0_weekdayInMonth 60 = .ok (.aload_n 0, 1) := by decide +kernel
theorem dX0_weekdayInMonth_61 : decode cX0_weekdayInMonth 61 = .ok (.iload 7, 2) := by decide +kernel
theorem dX0_weekdayInMonth_63 : decode cX0_weekdayInMonth 63 = .ok (.invokevirtual 137, 3) := by decide +kernel
theorem dX0_weekdayInMonth_66 : decode cX0_weekdayInMonth 66 = .ok (.iload 4, 2) := by decide +kernel
theorem dX0_weekdayInMonth_68 : decode cX0_weekdayInMonth 68 = .ok (.isub, 1) := by decide +kernel
theorem dX0_weekdayInMonth_69 : decode cX0_weekdayInMonth 69 = .ok (.aload_n 0, 1) := by decide +kernel
theorem dX0_weekdayInMonth_70 : decode cX0_weekdayInMonth 70 = .ok (.getfield 58, 3) := by decide +kernel
theorem dX0_weekdayInMonth_73 : decode cX0_weekdayInMonth 73 = .ok (.invokestatic 86, 3) := by decide +kernel
theorem dX0_weekdayInMonth_76 : decode cX0_weekdayInMonth 76 = .ok (.isub, 1) := by decide +kernel
theorem dX0_weekdayInMonth_77 : decode cX0_weekdayInMonth 77 = .ok (.istore 8, 2) := by decide +kernel
theorem dX0_weekdayInMonth_79 : decode cX0_weekdayInMonth 79 = .ok (.goto 33, 3) := by decide +kernel
theorem dX0_weekdayInMonth_82 : decode cX0_weekdayInMonth 82 = .ok (.iload 6, 2) := by decide +kernel
theorem dX0_weekdayInMonth_84 : decode cX0_weekdayInMonth 84 = .ok (.iload 4, 2) := by decide +kernel
theorem dX0_weekdayInMonth_86 : decode cX0_weekdayInMonth 86 = .ok (.aload_n 0, 1) := by decide +kernel
theorem dX0_weekdayInMonth_87 : decode cX0_weekdayInMonth 87 = .ok (.iload 6, 2) := by decide +kernel
theorem dX0_weekdayInMonth_89 : decode cX0_weekdayInMonth 89 = .ok (.invokevirtual 137, 3) := by decide +kernel
theorem dX0_weekdayInMonth_92 : decode cX0_weekdayInMonth 92 = .ok (.isub, 1) := by decide +kernel
theorem dX0_weekdayInMonth_93 : decode cX0_weekdayInMonth 93 = .ok (.aload_n 0, 1) := by decide +kernel
theorem dX0_weekdayInMonth_94 : decode cX0_weekdayInMonth 94 = .ok (.getfield 58, 3) := by decide +kernel
theorem dX0_weekdayInMonth_97 : decode cX0_weekdayInMonth 97 = .ok (.invokestatic 86, 3) := by decide +kernel
theorem dX0_weekdayInMonth_100 : decode cX0_weekdayInMonth 100 = .ok (.iadd, 1) := by decide +kernel
theorem dX0_weekdayInMonth_101 : decode cX0_weekdayInMonth 101 = .ok (.iload_n 3, 1) := by decide +kernel
theorem dX0_weekdayInMonth_102 : decode cX0_weekdayInMonth 102 = .ok (.iconst 1, 1) := by decide +kernel
theorem dX0_weekdayInMonth_103 : decode cX0_weekdayInMonth 103 = .ok (.isub, 1) := by decide +kernel
theorem dX0_weekdayInMonth_104 : decode cX0_weekdayInMonth 104 = .ok (.aload_n 0, 1) := by decide +kernel
theorem dX0_weekdayInMonth_105 : decode cX0_weekdayInMonth 105 = .ok (.getfield 58, 3) := by decide +kernel
theorem dX0_weekdayInMonth_108 : decode cX0_weekdayInMonth 108 = .ok (.imul, 1) := by decide +kernel
theorem dX0_weekdayInMonth_109 : decode cX0_weekdayInMonth 109 = .ok (.iadd, 1) := by decide +kernel
theorem dX0_weekdayInMonth_110 : decode cX0_weekdayInMonth 110 = .ok (.istore 8, 2) := by decide +kernel
theorem dX0_weekdayInMonth_112 : decode cX0_weekdayInMonth 112 = .ok (.iload 8, 2) := by decide +kernel
theorem dX0_weekdayInMonth_114 : decode cX0_weekdayInMonth 114 = .ok (.iload 6, 2) := by decide +kernel
theorem dX0_weekdayInMonth_116 : decode cX0_weekdayInMonth 116 = .ok (.iload 7, 2) := by decide +kernel
theorem dX0_weekdayInMonth_118 : decode cX0_weekdayInMonth 118 = .ok (.invokestatic 106, 3) := by decide +kernel
theorem dX0_weekdayInMonth_121 : decode cX0_weekdayInMonth 121 = .ok (.ifCond .eq 8, 3) := by decide +kernel
theorem dX0_weekdayInMonth_124 : decode cX0_weekdayInMonth 124 = .ok (.iload 8, 2) := by decide +kernel
theorem dX0_weekdayInMonth_126 : decode cX0_weekdayInMonth 126 = .ok (.goto 5, 3) := by decide +kernel
theorem dX0_weekdayInMonth_129 : decode cX0_weekdayInMonth 129 = .ok (.ldc 121, 2) := by decide +kernel
theorem dX0_weekdayInMonth_131 : decode cX0_weekdayInMonth 131 = .ok (.ireturn, 1) := by decide +kernel
set_option maxRecDepth 20000 in
theorem dX0_nextWeekday_0 : decode cX0_nextWeekday 0 = .ok (.iload_n 2, 1) := by decide +kernel
theorem dX0_nextWeekday_1 : decode cX0_nextWeekday 1 = .ok (.aload_n 0, 1) := by decide +kernel
theorem dX0_nextWeekday_2 : decode cX0_nextWeekday 2 = .ok (.getfield 58, 3) := by decide +kernel
theorem dX0_nextWeekday_5 : decode cX0_nextWeekday 5 = .ok (.if_icmp .ge 19, 3) := by decide +kernel
theorem dX0_nextWeekday_8 : decode cX0_nextWeekday 8 = .ok (.aload_n 0, 1) := by decide +kernel
theorem dX0_nextWeekday_9 : decode cX0_nextWeekday 9 = .ok (.getfield 58, 3) := by decide +kernel
theorem dX0_nextWeekday_12 : decode cX0_nextWeekday 12 = .ok (.iconst 1, 1) := by decide +kernel
theorem dX0_nextWeekday_13 : decode cX0_nextWeekday 13 = .ok (.if_icmp .lt 11, 3) := by decide +kernel
theorem dX0_nextWeekday_16 : decode cX0_nextWeekday 16 = .ok (.aload_n 0, 1) := by decide +kernel
theorem dX0_nextWeekday_17 : decode cX0_nextWeekday 17 = .ok (.iload_n 1, 1) := by decide +kernel
theorem dX0_nextWeekday_18 : decode cX0_nextWeekday 18 = .ok (.invokevirtual 128, 3) := by decide +kernel
theorem dX0_nextWeekday_21 : decode cX0_nextWeekday 21 = .ok (.ifCond .ne 6, 3) := by decide +kernel
theorem dX0_nextWeekday_24 : decode cX0_nextWeekday 24 = .ok (.ldc 121, 2) := by decide +kernel
theorem dX0_nextWeekday_26 : decode cX0_nextWeekday 26 = .ok (.ireturn, 1) := by decide +kernel
theorem dX0_nextWeekday_27 : decode cX0_nextWeekday 27 = .ok (.iload_n 1, 1) := by decide +kernel
theorem dX0_nextWeekday_28 : decode cX0_nextWeekday 28 = .ok (.iload_n 2, 1) := by decide +kernel
theorem dX0_nextWeekday_29 : decode cX0_nextWeekday 29 = .ok (.aload_n 0, 1) := by decide +kernel
theorem dX0_nextWeekday_30 : decode cX0_nextWeekday 30 = .ok (.iload_n 1, 1) := by decide +kernel
theorem dX0_nextWeekday_31 : decode cX0_nextWeekday 31 = .ok (.invokevirtual 137, 3) := by decide +kernel
theorem dX0_nextWeekday_34 : decode cX0_nextWeekday 34 = .ok (.isub, 1) := by decide +kernel
theorem dX0_nextWeekday_35 : decode cX0_nextWeekday 35 = .ok (.aload_n 0, 1) := by decide +kernel
theorem dX0_nextWeekday_36 : decode cX0_nextWeekday 36 = .ok (.getfield 58, 3) := by decide +kernel
theorem dX0_nextWeekday_39 : decode cX0_nextWeekday 39 = .ok (.invokestatic 86, 3) := by decide +kernel
theorem dX0_nextWeekday_42 : decode cX0_nextWeekday 42 = .ok (.iadd, 1) := by decide +kernel
theorem dX0_nextWeekday_43 : decode cX0_nextWeekday 43 = .ok (.istore_n 3, 1) := by decide +kernel
theorem dX0_nextWeekday_44 : decode cX0_nextWeekday 44 = .ok (.aload_n 0, 1) := by decide +kernel
theorem dX0_nextWeekday_45 : decode cX0_nextWeekday 45 = .ok (.iload_n 3, 1) := by decide +kernel
theorem dX0_nextWeekday_46 : decode cX0_nextWeekday 46 = .ok (.invokevirtual 128, 3) := by decide +kernel
theorem dX0_nextWeekday_49 : decode cX0_nextWeekday 49 = .ok (.ifCond .eq 7, 3) := by decide +kernel
theorem dX0_nextWeekday_52 : decode cX0_nextWeekday 52 = .ok (.iload_n 3, 1) := by decide +kernel
theorem dX0_nextWeekday_53 : decode cX0_nextWeekday 53 = .ok (.goto 5, 3) := by decide +kernel
theorem dX0_nextWeekday_56 : decode cX0_nextWeekday 56 = .ok (.ldc 121, 2) := by decide +kernel
theorem dX0_nextWeekday_58 : decode cX0_nextWeekday 58 = .ok (.ireturn, 1) := by decide +kernel
set_option maxRecDepth 20000 in
theorem dX0_nextNumbered_0 : decode cX0_nextNumbered 0 = .ok (.aload_n 0, 1) := by decide +kernel
theorem dX0_nextNumbered_1 : decode cX0_nextNumbered 1 = .ok (.iload_n 1, 1) := by decide +kernel
theorem dX0_nextNumbered_2 : decode cX0_nextNumbered 2 = .ok (.invokevirtual 143, 3) := by decide +kernel
theorem dX0_nextNumbered_5 : decode cX0_nextNumbered 5 = .ok (.istore_n 3, 1) := by decide +kernel
theorem dX0_nextNumbered_6 : decode cX0_nextNumbered 6 = .ok (.iload_n 3, 1) := by decide +kernel
theorem dX0_nextNumbered_7 : decode cX0_nextNumbered 7 = .ok (.ldc 121, 2) := by decide +kernel
theorem dX0_nextNumbered_9 : decode cX0_nextNumbered 9 = .ok (.if_icmp .ne 6, 3) := by decide +kernel
theorem dX0_nextNumbered_12 : decode cX0_nextNumbered 12 = .ok (.ldc 121, 2) := by decide +kernel
theorem dX0_nextNumbered_14 : decode cX0_nextNumbered 14 = .ok (.ireturn, 1) := by decide +kernel
theorem dX0_nextNumbered_15 : decode cX0_nextNumbered 15 = .ok (.aload_n 0, 1) := by decide +kernel
theorem dX0_nextNumbered_16 : decode cX0_nextNumbered 16 = .ok (.iload_n 3, 1) := by decide +kernel
theorem dX0_nextNumbered_17 : decode cX0_nextNumbered 17 = .ok (.iload_n 1, 1) := by decide +kernel
theorem dX0_nextNumbered_18 : decode cX0_nextNumbered 18 = .ok (.invokevirtual 131, 3) := by decide +kernel
theorem dX0_nextNumbered_21 : decode cX0_nextNumbered 21 = .ok (.istore 4, 2) := by decide +kernel
theorem dX0_nextNumbered_23 : decode cX0_nextNumbered 23 = .ok (.aload_n 0, 1) := by decide +kernel
theorem dX0_nextNumbered_24 : decode cX0_nextNumbered 24 = .ok (.iload_n 3, 1) := by decide +kernel
theorem dX0_nextNumbered_25 : decode cX0_nextNumbered 25 = .ok (.iload 4, 2) := by decide +kernel
theorem dX0_nextNumbered_27 : decode cX0_nextNumbered 27 = .ok (.invokevirtual 122, 3) := by decide +kernel
theorem dX0_nextNumbered_30 : decode cX0_nextNumbered 30 = .ok (.istore 5, 2) := by decide +kernel
theorem dX0_nextNumbered_32 : decode cX0_nextNumbered 32 = .ok (.aload_n 0, 1) := by decide +kernel
theorem dX0_nextNumbered_33 : decode cX0_nextNumbered 33 = .ok (.iload_n 3, 1) := by decide +kernel
theorem dX0_nextNumbered_34 : decode cX0_nextNumbered 34 = .ok (.invokevirtual 92, 3) := by decide +kernel
theorem dX0_nextNumbered_37 : decode cX0_nextNumbered 37 = .ok (.istore 6, 2) := by decide +kernel
theorem dX0_nextNumbered_39 : decode cX0_nextNumbered 39 = .ok (.iconst 0, 1) := by decide +kernel
theorem dX0_nextNumbered_40 : decode cX0_nextNumbered 40 = .ok (.istore 7, 2) := by decide +kernel
theorem dX0_nextNumbered_42 : decode cX0_nextNumbered 42 = .ok (.iload 7, 2) := by decide +kernel
theorem dX0_nextNumbered_44 : decode cX0_nextNumbered 44 = .ok (.sipush 800, 3) := by decide +kernel
theorem dX0_nextNumbered_47 : decode cX0_nextNumbered 47 = .ok (.if_icmp .ge 111, 3) := by decide +kernel
theorem dX0_nextNumbered_50 : decode cX0_nextNumbered 50 = .ok (.iload 5, 2) := by decide +kernel
theorem dX0_nextNumbered_52 : decode cX0_nextNumbered 52 = .ok (.iload_n 1, 1) := by decide +kernel
theorem dX0_nextNumbered_53 : decode cX0_nextNumbered 53 = .ok (.sipush 400, 3) := by decide +kernel
theorem dX0_nextNumbered_56 : decode cX0_nextNumbered 56 = .ok (.iadd, 1) := by decide +kernel
theorem dX0_nextNumbered_57 : decode cX0_nextNumbered 57 = .ok (.if_icmp .ge 101, 3) := by decide +kernel
theorem dX0_nextNumbered_60 : decode cX0_nextNumbered 60 = .ok (.aload_n 0, 1) := by decide +kernel
theorem dX0_nextNumbered_61 : decode cX0_nextNumbered 61 = .ok (.iload 6, 2) := by decide +kernel
theorem dX0_nextNumbered_63 : decode cX0_nextNumbered 63 = .ok (.iload 4, 2) := by decide +kernel
theorem dX0_nextNumbered_65 : decode cX0_nextNumbered 65 = .ok (.invokevirtual 110, 3) := by decide +kernel
theorem dX0_nextNumbered_68 : decode cX0_nextNumbered 68 = .ok (.istore 8, 2) := by decide +kernel
theorem dX0_nextNumbered_70 : decode cX0_nextNumbered 70 = .ok (.iload 5, 2) := by decide +kernel
theorem dX0_nextNumbered_72 : decode cX0_nextNumbered 72 = .ok (.iload_n 2, 1) := by decide +kernel
theorem dX0_nextNumbered_73 : decode cX0_nextNumbered 73 = .ok (.iadd, 1) := by decide +kernel
theorem dX0_nextNumbered_74 : decode cX0_nextNumbered 74 = .ok (.iconst 1, 1) := by decide +kernel
theorem dX0_nextNumbered_75 : decode cX0_nextNumbered 75 = .ok (.isub, 1) := by decide +kernel
theorem dX0_nextNumbered_76 : decode cX0_nextNumbered 76 = .ok (.istore 9, 2) := by decide +kernel
theorem dX0_nextNumbered_78 : decode cX0_nextNumbered 78 = .ok (.iload_n 2, 1) := by decide +kernel
theorem dX0_nextNumbered_79 : decode cX0_nextNumbered 79 = .ok (.iload 8, 2) := by decide +kernel
theorem dX0_nextNumbered_81 : decode cX0_nextNumbered 81 = .ok (.if_icmp .gt 27, 3) := by decide +kernel
theorem dX0_nextNumbered_84 : decode cX0_nextNumbered 84 = .ok (.iload 9, 2) := by decide +kernel
theorem dX0_nextNumbered_86 : decode cX0_nextNumbered 86 = .ok (.iload_n 1, 1) := by decide +kernel
theorem dX0_nextNumbered_87 : decode cX0_nextNumbered 87 = .ok (.if_icmp .lt 21, 3) := by decide +kernel
theorem dX0_nextNumbered_90 : decode cX0_nextNumbered 90 = .ok (.iload 9, 2) := by decide +kernel
theorem dX0_nextNumbered_92 : decode cX0_nextNumbered 92 = .ok (.iload_n 1, 1) := by decide +kernel
theorem dX0_nextNumbered_93 : decode cX0_nextNumbered 93 = .ok (.sipush 400, 3) := by decide +kernel
theorem dX0_nextNumbered_96 : decode cX0_nextNumbered 96 = .ok (.iadd, 1) := by decide +kernel
theorem dX0_nextNumbered_97 : decode cX0_nextNumbered 97 = .ok (.if_icmp .ge 8, 3) := by decide +kernel
theorem dX0_nextNumbered_100 : decode cX0_nextNumbered 100 = .ok (.iload 9, 2) := by decide +kernel
theorem dX0_nextNumbered_102 : decode cX0_nextNumbered 102 = .ok (.goto 5, 3) := by decide +kernel
theorem dX0_nextNumbered_105 : decode cX0_nextNumbered 105 = .ok (.ldc 121, 2) := by decide +kernel
theorem dX0_nextNumbered_107 : decode cX0_nextNumbered 107 = .ok (.ireturn, 1) := by decide +kernel
theorem dX0_nextNumbered_108 : decode cX0_nextNumbered 108 = .ok (.iload 5, 2) := by decide +kernel
theorem dX0_nextNumbered_110 : decode cX0_nextNumbered 110 = .ok (.iload 8, 2) := by decide +kernel
theorem dX0_nextNumbered_112 : decode cX0_nextNumbered 112 = .ok (.iadd, 1) := by decide +kernel
theorem dX0_nextNumbered_113 : decode cX0_nextNumbered 113 = .ok (.istore 5, 2) := by decide +kernel
theorem dX0_nextNumbered_115 : decode cX0_nextNumbered 115 = .ok (.iinc 4 1, 3) := by decide +kernel
theorem dX0_nextNumbered_118 : decode cX0_nextNumbered 118 = .ok (.iload 4, 2) := by decide +kernel
theorem dX0_nextNumbered_120 : decode cX0_nextNumbered 120 = .ok (.aload_n 0, 1) := by decide +kernel
theorem dX0_nextNumbered_121 : decode cX0_nextNumbered 121 = .ok (.iload 6, 2) := by decide +kernel
theorem dX0_nextNumbered_123 : decode cX0_nextNumbered 123 = .ok (.invokevirtual 96, 3) := by decide +kernel
theorem dX0_nextNumbered_126 : decode cX0_nextNumbered 126 = .ok (.if_icmp .le 16, 3) := by decide +kernel
theorem dX0_nextNumbered_129 : decode cX0_nextNumbered 129 = .ok (.iconst 1, 1) := by decide +kernel
theorem dX0_nextNumbered_130 : decode cX0_nextNumbered 130 = .ok (.istore 4, 2) := by decide +kernel
theorem dX0_nextNumbered_132 : decode cX0_nextNumbered 132 = .ok (.iinc 3 1, 3) := by decide +kernel
theorem dX0_nextNumbered_135 : decode cX0_nextNumbered 135 = .ok (.aload_n 0, 1) := by decide +kernel
theorem dX0_nextNumbered_136 : decode cX0_nextNumbered 136 = .ok (.iload_n 3, 1) := by decide +kernel
theorem dX0_nextNumbered_137 : decode cX0_nextNumbered 137 = .ok (.invokevirtual 92, 3) := by decide +kernel
theorem dX0_nextNumbered_140 : decode cX0_nextNumbered 140 = .ok (.istore 6, 2) := by decide +kernel
theorem dX0_nextNumbered_142 : decode cX0_nextNumbered 142 = .ok (.iload_n 3, 1) := by decide +kernel
theorem dX0_nextNumbered_143 : decode cX0_nextNumbered 143 = .ok (.sipush 2000, 3) := by decide +kernel
theorem dX0_nextNumbered_146 : decode cX0_nextNumbered 146 = .ok (.if_icmp .le 6, 3) := by decide +kernel
theorem dX0_nextNumbered_149 : decode cX0_nextNumbered 149 = .ok (.ldc 121, 2) := by decide +kernel
theorem dX0_nextNumbered_151 : decode cX0_nextNumbered 151 = .ok (.ireturn, 1) := by decide +kernel
theorem dX0_nextNumbered_152 : decode cX0_nextNumbered 152 = .ok (.iinc 7 1, 3) := by decide +kernel
theorem dX0_nextNumbered_155 : decode cX0_nextNumbered 155 = .ok (.goto (-113), 3) := by decide +kernel
theorem dX0_nextNumbered_158 : decode cX0_nextNumbered 158 = .ok (.ldc 121, 2) := by decide +kernel
theorem dX0_nextNumbered_160 : decode cX0_nextNumbered 160 = .ok (.ireturn, 1) := by decide +kernel
theorem dX0_monthCountIn_0 : decode cX0_monthCountIn 0 = .ok (.iload_n 1, 1) := by decide +kernel
theorem dX0_monthCountIn_1 : decode cX0_monthCountIn 1 = .ok (.ifCond .eq 21, 3) := by decide +kernel
theorem dX0_monthCountIn_4 : decode cX0_monthCountIn 4 = .ok (.aload_n 0, 1) := by decide +kernel
theorem dX0_monthCountIn_5 : decode cX0_monthCountIn 5 = .ok (.getfield 33, 3) := by decide +kernel
theorem dX0_monthCountIn_8 : decode cX0_monthCountIn 8 = .ok (.iconst 2, 1) := by decide +kernel
theorem dX0_monthCountIn_9 : decode cX0_monthCountIn 9 = .ok (.if_icmp .ne 13, 3) := by decide +kernel
theorem dX0_monthCountIn_12 : decode cX0_monthCountIn 12 = .ok (.aload_n 0, 1) := by decide +kernel
theorem dX0_monthCountIn_13 : decode cX0_monthCountIn 13 = .ok (.getfield 15, 3) := by decide +kernel
theorem dX0_monthCountIn_16 : decode cX0_monthCountIn 16 = .ok (.arraylength, 1) := by decide +kernel
theorem dX0_monthCountIn_17 : decode cX0_monthCountIn 17 = .ok (.iconst 1, 1) := by decide +kernel
theorem dX0_monthCountIn_18 : decode cX0_monthCountIn 18 = .ok (.iadd, 1) := by decide +kernel
theorem dX0_monthCountIn_19 : decode cX0_monthCountIn 19 = .ok (.goto 8, 3) := by decide +kernel
theorem dX0_monthCountIn_22 : decode cX0_monthCountIn 22 = .ok (.aload_n 0, 1) := by decide +kernel
theorem dX0_monthCountIn_23 : decode cX0_monthCountIn 23 = .ok (.getfield 15, 3) := by decide +kernel
theorem dX0_monthCountIn_26 : decode cX0_monthCountIn 26 = .ok (.arraylength, 1) := by decide +kernel
theorem dX0_monthCountIn_27 : decode cX0_monthCountIn 27 = .ok (.ireturn, 1) := by decide +kernel
theorem dX0_lengthIn_0 : decode cX0_lengthIn 0 = .ok (.iload_n 2, 1) := by decide +kernel
theorem dX0_lengthIn_1 : decode cX0_lengthIn 1 = .ok (.iconst 1, 1) := by decide +kernel
theorem dX0_lengthIn_2 : decode cX0_lengthIn 2 = .ok (.isub, 1) := by decide +kernel
theorem dX0_lengthIn_3 : decode cX0_lengthIn 3 = .ok (.istore_n 3, 1) := by decide +kernel
theorem dX0_lengthIn_4 : decode cX0_lengthIn 4 = .ok (.iload_n 1, 1) := by decide +kernel
theorem dX0_lengthIn_5 : decode cX0_lengthIn 5 = .ok (.ifCond .eq 37, 3) := by decide +kernel
theorem dX0_lengthIn_8 : decode cX0_lengthIn 8 = .ok (.aload_n 0, 1) := by decide +kernel
theorem dX0_lengthIn_9 : decode cX0_lengthIn 9 = .ok (.getfield 33, 3) := by decide +kernel
theorem dX0_lengthIn_12 : decode cX0_lengthIn 12 = .ok (.iconst 2, 1) := by decide +kernel
theorem dX0_lengthIn_13 : decode cX0_lengthIn 13 = .ok (.if_icmp .ne 29, 3) := by decide +kernel
theorem dX0_lengthIn_16 : decode cX0_lengthIn 16 = .ok (.iload_n 2, 1) := by decide +kernel
theorem dX0_lengthIn_17 : decode cX0_lengthIn 17 = .ok (.aload_n 0, 1) := by decide +kernel
theorem dX0_lengthIn_18 : decode cX0_lengthIn 18 = .ok (.getfield 37, 3) := by decide +kernel
theorem dX0_lengthIn_21 : decode cX0_lengthIn 21 = .ok (.if_icmp .le 21, 3) := by decide +kernel
theorem dX0_lengthIn_24 : decode cX0_lengthIn 24 = .ok (.iload_n 2, 1) := by decide +kernel
theorem dX0_lengthIn_25 : decode cX0_lengthIn 25 = .ok (.aload_n 0, 1) := by decide +kernel
theorem dX0_lengthIn_26 : decode cX0_lengthIn 26 = .ok (.getfield 37, 3) := by decide +kernel
theorem dX0_lengthIn_29 : decode cX0_lengthIn 29 = .ok (.iconst 1, 1) := by decide +kernel
theorem dX0_lengthIn_30 : decode cX0_lengthIn 30 = .ok (.iadd, 1) := by decide +kernel
theorem dX0_lengthIn_31 : decode cX0_lengthIn 31 = .ok (.if_icmp .ne 8, 3) := by decide +kernel
theorem dX0_lengthIn_34 : decode cX0_lengthIn 34 = .ok (.aload_n 0, 1) := by decide +kernel
theorem dX0_lengthIn_35 : decode cX0_lengthIn 35 = .ok (.getfield 41, 3) := by decide +kernel
theorem dX0_lengthIn_38 : decode cX0_lengthIn 38 = .ok (.ireturn, 1) := by decide +kernel
theorem dX0_lengthIn_39 : decode cX0_lengthIn 39 = .ok (.iinc 3 (-1), 3) := by decide +kernel
theorem dX0_lengthIn_42 : decode cX0_lengthIn 42 = .ok (.iload_n 3, 1) := by decide +kernel
theorem dX0_lengthIn_43 : decode cX0_lengthIn 43 = .ok (.ifCond .lt 21, 3) := by decide +kernel
theorem dX0_lengthIn_46 : decode cX0_lengthIn 46 = .ok (.iload_n 3, 1) := by decide +kernel
theorem dX0_lengthIn_47 : decode cX0_lengthIn 47 = .ok (.aload_n 0, 1) := by decide +kernel
theorem dX0_lengthIn_48 : decode cX0_lengthIn 48 = .ok (.getfield 15, 3) := by decide +kernel
theorem dX0_lengthIn_51 : decode cX0_lengthIn 51 = .ok (.arraylength, 1) := by decide +kernel
theorem dX0_lengthIn_52 : decode cX0_lengthIn 52 = .ok (.if_icmp .ge 12, 3) := by decide +kernel
theorem dX0_lengthIn_55 : decode cX0_lengthIn 55 = .ok (.aload_n 0, 1) := by decide +kernel
theorem dX0_lengthIn_56 : decode cX0_lengthIn 56 = .ok (.getfield 15, 3) := by decide +kernel
theorem dX0_lengthIn_59 : decode cX0_lengthIn 59 = .ok (.iload_n 3, 1) := by decide +kernel
theorem dX0_lengthIn_60 : decode cX0_lengthIn 60 = .ok (.iaload, 1) := by decide +kernel
theorem dX0_lengthIn_61 : decode cX0_lengthIn 61 = .ok (.goto 4, 3) := by decide +kernel
theorem dX0_lengthIn_64 : decode cX0_lengthIn 64 = .ok (.iconst 0, 1) := by decide +kernel
theorem dX0_lengthIn_65 : decode cX0_lengthIn 65 = .ok (.istore 4, 2) := by decide +kernel
theorem dX0_lengthIn_67 : decode cX0_lengthIn 67 = .ok (.iload_n 1, 1) := by decide +kernel
theorem dX0_lengthIn_68 : decode cX0_lengthIn 68 = .ok (.ifCond .eq 29, 3) := by decide +kernel
theorem dX0_lengthIn_71 : decode cX0_lengthIn 71 = .ok (.aload_n 0, 1) := by decide +kernel
theorem dX0_lengthIn_72 : decode cX0_lengthIn 72 = .ok (.getfield 33, 3) := by decide +kernel
theorem dX0_lengthIn_75 : decode cX0_lengthIn 75 = .ok (.iconst 1, 1) := by decide +kernel
theorem dX0_lengthIn_76 : decode cX0_lengthIn 76 = .ok (.if_icmp .ne 21, 3) := by decide +kernel
theorem dX0_lengthIn_79 : decode cX0_lengthIn 79 = .ok (.iload_n 2, 1) := by decide +kernel
theorem dX0_lengthIn_80 : decode cX0_lengthIn 80 = .ok (.aload_n 0, 1) := by decide +kernel
theorem dX0_lengthIn_81 : decode cX0_lengthIn 81 = .ok (.getfield 37, 3) := by decide +kernel
theorem dX0_lengthIn_84 : decode cX0_lengthIn 84 = .ok (.if_icmp .ne 13, 3) := by decide +kernel
theorem dX0_lengthIn_87 : decode cX0_lengthIn 87 = .ok (.iload 4, 2) := by decide +kernel
theorem dX0_lengthIn_89 : decode cX0_lengthIn 89 = .ok (.aload_n 0, 1) := by decide +kernel
theorem dX0_lengthIn_90 : decode cX0_lengthIn 90 = .ok (.getfield 41, 3) := by decide +kernel
theorem dX0_lengthIn_93 : decode cX0_lengthIn 93 = .ok (.iadd, 1) := by decide +kernel
theorem dX0_lengthIn_94 : decode cX0_lengthIn 94 = .ok (.goto 5, 3) := by decide +kernel
theorem dX0_lengthIn_97 : decode cX0_lengthIn 97 = .ok (.iload 4, 2) := by decide +kernel
theorem dX0_lengthIn_99 : decode cX0_lengthIn 99 = .ok (.ireturn, 1) := by decide +kernel
set_option maxRecDepth 20000 in
theorem dX0_leapYearsBefore_0 : decode cX0_leapYearsBefore 0 = .ok (.aload_n 0, 1) := by decide +kernel
theorem dX0_leapYearsBefore_1 : decode cX0_leapYearsBefore 1 = .ok (.getfield 52, 3) := by decide +kernel
theorem dX0_leapYearsBefore_4 : decode cX0_leapYearsBefore 4 = .ok (.iconst 1, 1) := by decide +kernel
theorem dX0_leapYearsBefore_5 : decode cX0_leapYearsBefore 5 = .ok (.if_icmp .lt 15, 3) := by decide +kernel
theorem dX0_leapYearsBefore_8 : decode cX0_leapYearsBefore 8 = .ok (.aload_n 0, 1) := by decide +kernel
theorem dX0_leapYearsBefore_9 : decode cX0_leapYearsBefore 9 = .ok (.getfield 52, 3) := by decide +kernel
theorem dX0_leapYearsBefore_12 : decode cX0_leapYearsBefore 12 = .ok (.aload_n 0, 1) := by decide +kernel
theorem dX0_leapYearsBefore_13 : decode cX0_leapYearsBefore 13 = .ok (.getfield 49, 3) := by decide +kernel
theorem dX0_leapYearsBefore_16 : decode cX0_leapYearsBefore 16 = .ok (.arraylength, 1) := by decide +kernel
theorem dX0_leapYearsBefore_17 : decode cX0_leapYearsBefore 17 = .ok (.if_icmp .lt 5, 3) := by decide +kernel
theorem dX0_leapYearsBefore_20 : decode cX0_leapYearsBefore 20 = .ok (.iconst 0, 1) := by decide +kernel
theorem dX0_leapYearsBefore_21 : decode cX0_leapYearsBefore 21 = .ok (.ireturn, 1) := by decide +kernel
theorem dX0_leapYearsBefore_22 : decode cX0_leapYearsBefore 22 = .ok (.iload_n 1, 1) := by decide +kernel
theorem dX0_leapYearsBefore_23 : decode cX0_leapYearsBefore 23 = .ok (.aload_n 0, 1) := by decide +kernel
theorem dX0_leapYearsBefore_24 : decode cX0_leapYearsBefore 24 = .ok (.getfield 52, 3) := by decide +kernel
theorem dX0_leapYearsBefore_27 : decode cX0_leapYearsBefore 27 = .ok (.invokestatic 162, 3) := by decide +kernel
theorem dX0_leapYearsBefore_30 : decode cX0_leapYearsBefore 30 = .ok (.istore_n 2, 1) := by decide +kernel
theorem dX0_leapYearsBefore_31 : decode cX0_leapYearsBefore 31 = .ok (.iload_n 1, 1) := by decide +kernel
theorem dX0_leapYearsBefore_32 : decode cX0_leapYearsBefore 32 = .ok (.iload_n 2, 1) := by decide +kernel
theorem dX0_leapYearsBefore_33 : decode cX0_leapYearsBefore 33 = .ok (.aload_n 0, 1) := by decide +kernel
theorem dX0_leapYearsBefore_34 : decode cX0_leapYearsBefore 34 = .ok (.getfield 52, 3) := by decide +kernel
theorem dX0_leapYearsBefore_37 : decode cX0_leapYearsBefore 37 = .ok (.imul, 1) := by decide +kernel
theorem dX0_leapYearsBefore_38 : decode cX0_leapYearsBefore 38 = .ok (.isub, 1) := by decide +kernel
theorem dX0_leapYearsBefore_39 : decode cX0_leapYearsBefore 39 = .ok (.istore_n 3, 1) := by decide +kernel
theorem dX0_leapYearsBefore_40 : decode cX0_leapYearsBefore 40 = .ok (.iload_n 3, 1) := by decide +kernel
theorem dX0_leapYearsBefore_41 : decode cX0_leapYearsBefore 41 = .ok (.ifCond .lt 12, 3) := by decide +kernel
theorem dX0_leapYearsBefore_44 : decode cX0_leapYearsBefore 44 = .ok (.iload_n 3, 1) := by decide +kernel
theorem dX0_leapYearsBefore_45 : decode cX0_leapYearsBefore 45 = .ok (.aload_n 0, 1) := by decide +kernel
theorem dX0_leapYearsBefore_46 : decode cX0_leapYearsBefore 46 = .ok (.getfield 49, 3) := by decide +kernel
theorem dX0_leapYearsBefore_49 : decode cX0_leapYearsBefore 49 = .ok (.arraylength, 1) := by decide +kernel
theorem dX0_leapYearsBefore_50 : decode cX0_leapYearsBefore 50 = .ok (.if_icmp .lt 5, 3) := by decide +kernel
theorem dX0_leapYearsBefore_53 : decode cX0_leapYearsBefore 53 = .ok (.iconst 0, 1) := by decide +kernel
theorem dX0_leapYearsBefore_54 : decode cX0_leapYearsBefore 54 = .ok (.ireturn, 1) := by decide +kernel
theorem dX0_leapYearsBefore_55 : decode cX0_leapYearsBefore 55 = .ok (.iload_n 2, 1) := by decide +kernel
theorem dX0_leapYearsBefore_56 : decode cX0_leapYearsBefore 56 = .ok (.aload_n 0, 1) := by decide +kernel
theorem dX0_leapYearsBefore_57 : decode cX0_leapYearsBefore 57 = .ok (.getfield 49, 3) := by decide +kernel
theorem dX0_leapYearsBefore_60 : decode cX0_leapYearsBefore 60 = .ok (.aload_n 0, 1) := by decide +kernel
theorem dX0_leapYearsBefore_61 : decode cX0_leapYearsBefore 61 = .ok (.getfield 52, 3) := by decide +kernel
theorem dX0_leapYearsBefore_64 : decode cX0_leapYearsBefore 64 = .ok (.iaload, 1) := by decide +kernel
theorem dX0_leapYearsBefore_65 : decode cX0_leapYearsBefore 65 = .ok (.imul, 1) := by decide +kernel
theorem dX0_leapYearsBefore_66 : decode cX0_leapYearsBefore 66 = .ok (.aload_n 0, 1) := by decide +kernel
theorem dX0_leapYearsBefore_67 : decode cX0_leapYearsBefore 67 = .ok (.getfield 49, 3) := by decide +kernel
theorem dX0_leapYearsBefore_70 : decode cX0_leapYearsBefore 70 = .ok (.iload_n 3, 1) := by decide +kernel
theorem dX0_leapYearsBefore_71 : decode cX0_leapYearsBefore 71 = .ok (.iaload, 1) := by decide +kernel
theorem dX0_leapYearsBefore_72 : decode cX0_leapYearsBefore 72 = .ok (.iadd, 1) := by decide +kernel
theorem dX0_leapYearsBefore_73 : decode cX0_leapYearsBefore 73 = .ok (.ireturn, 1) := by decide +kernel
set_option maxRecDepth 20000 in
theorem dX0_monthsBefore_0 : decode cX0_monthsBefore 0 = .ok (.iload_n 1, 1) := by decide +kernel
theorem dX0_monthsBefore_1 : decode cX0_monthsBefore 1 = .ok (.aload_n 0, 1) := by decide +kernel
theorem dX0_monthsBefore_2 : decode cX0_monthsBefore 2 = .ok (.getfield 15, 3) := by decide +kernel
theorem dX0_monthsBefore_5 : decode cX0_monthsBefore 5 = .ok (.arraylength, 1) := by decide +kernel
theorem dX0_monthsBefore_6 : decode cX0_monthsBefore 6 = .ok (.imul, 1) := by decide +kernel
theorem dX0_monthsBefore_7 : decode cX0_monthsBefore 7 = .ok (.istore_n 2, 1) := by decide +kernel
theorem dX0_monthsBefore_8 : decode cX0_monthsBefore 8 = .ok (.aload_n 0, 1) := by decide +kernel
theorem dX0_monthsBefore_9 : decode cX0_monthsBefore 9 = .ok (.getfield 33, 3) := by decide +kernel
theorem dX0_monthsBefore_12 : decode cX0_monthsBefore 12 = .ok (.iconst 2, 1) := by decide +kernel
theorem dX0_monthsBefore_13 : decode cX0_monthsBefore 13 = .ok (.if_icmp .ne 13, 3) := by decide +kernel
theorem dX0_monthsBefore_16 : decode cX0_monthsBefore 16 = .ok (.iload_n 2, 1) := by decide +kernel
theorem dX0_monthsBefore_17 : decode cX0_monthsBefore 17 = .ok (.aload_n 0, 1) := by decide +kernel
theorem dX0_monthsBefore_18 : decode cX0_monthsBefore 18 = .ok (.iload_n 1, 1) := by decide +kernel
theorem dX0_monthsBefore_19 : decode cX0_monthsBefore 19 = .ok (.invokevirtual 83, 3) := by decide +kernel
theorem dX0_monthsBefore_22 : decode cX0_monthsBefore 22 = .ok (.iadd, 1) := by decide +kernel
theorem dX0_monthsBefore_23 : decode cX0_monthsBefore 23 = .ok (.goto 4, 3) := by decide +kernel
theorem dX0_monthsBefore_26 : decode cX0_monthsBefore 26 = .ok (.iload_n 2, 1) := by decide +kernel
theorem dX0_monthsBefore_27 : decode cX0_monthsBefore 27 = .ok (.ireturn, 1) := by decide +kernel
set_option maxRecDepth 20000 in
theorem dX0_countedMonthOf_0 : decode cX0_countedMonthOf 0 = .ok (.aload_n 0, 1) := by decide +kernel
theorem dX0_countedMonthOf_1 : decode cX0_countedMonthOf 1 = .ok (.iload_n 1, 1) := by decide +kernel
theorem dX0_countedMonthOf_2 : decode cX0_countedMonthOf 2 = .ok (.invokevirtual 143, 3) := by decide +kernel
theorem dX0_countedMonthOf_5 : decode cX0_countedMonthOf 5 = .ok (.istore_n 2, 1) := by decide +kernel
theorem dX0_countedMonthOf_6 : decode cX0_countedMonthOf 6 = .ok (.iload_n 2, 1) := by decide +kernel
theorem dX0_countedMonthOf_7 : decode cX0_countedMonthOf 7 = .ok (.ldc 121, 2) := by decide +kernel
theorem dX0_countedMonthOf_9 : decode cX0_countedMonthOf 9 = .ok (.if_icmp .ne 7, 3) := by decide +kernel
theorem dX0_countedMonthOf_12 : decode cX0_countedMonthOf 12 = .ok (.iconst 0, 1) := by decide +kernel
theorem dX0_countedMonthOf_13 : decode cX0_countedMonthOf 13 = .ok (.goto 17, 3) := by decide +kernel
theorem dX0_countedMonthOf_16 : decode cX0_countedMonthOf 16 = .ok (.aload_n 0, 1) := by decide +kernel
theorem dX0_countedMonthOf_17 : decode cX0_countedMonthOf 17 = .ok (.iload_n 2, 1) := by decide +kernel
theorem dX0_countedMonthOf_18 : decode cX0_countedMonthOf 18 = .ok (.invokevirtual 150, 3) := by decide +kernel
theorem dX0_countedMonthOf_21 : decode cX0_countedMonthOf 21 = .ok (.aload_n 0, 1) := by decide +kernel
theorem dX0_countedMonthOf_22 : decode cX0_countedMonthOf 22 = .ok (.iload_n 2, 1) := by decide +kernel
theorem dX0_countedMonthOf_23 : decode cX0_countedMonthOf 23 = .ok (.iload_n 1, 1) := by decide +kernel
theorem dX0_countedMonthOf_24 : decode cX0_countedMonthOf 24 = .ok (.invokevirtual 131, 3) := by decide +kernel
theorem dX0_countedMonthOf_27 : decode cX0_countedMonthOf 27 = .ok (.iadd, 1) := by decide +kernel
theorem dX0_countedMonthOf_28 : decode cX0_countedMonthOf 28 = .ok (.iconst 1, 1) := by decide +kernel
theorem dX0_countedMonthOf_29 : decode cX0_countedMonthOf 29 = .ok (.isub, 1) := by decide +kernel
theorem dX0_countedMonthOf_30 : decode cX0_countedMonthOf 30 = .ok (.ireturn, 1) := by decide +kernel
set_option maxRecDepth 20000 in
theorem dX0_yearOfCountedMonth_0 : decode cX0_yearOfCountedMonth 0 = .ok (.iload_n 1, 1) := by decide +kernel
theorem dX0_yearOfCountedMonth_1 : decode cX0_yearOfCountedMonth 1 = .ok (.aload_n 0, 1) := by decide +kernel
theorem dX0_yearOfCountedMonth_2 : decode cX0_yearOfCountedMonth 2 = .ok (.sipush (-2000), 3) := by decide +kernel
theorem dX0_yearOfCountedMonth_5 : decode cX0_yearOfCountedMonth 5 = .ok (.invokevirtual 150, 3) := by decide +kernel
theorem dX0_yearOfCountedMonth_8 : decode cX0_yearOfCountedMonth 8 = .ok (.if_icmp .lt 14, 3) := by decide +kernel
theorem dX0_yearOfCountedMonth_11 : decode cX0_yearOfCountedMonth 11 = .ok (.iload_n 1, 1) := by decide +kernel
theorem dX0_yearOfCountedMonth_12 : decode cX0_yearOfCountedMonth 12 = .ok (.aload_n 0, 1) := by decide +kernel
theorem dX0_yearOfCountedMonth_13 : decode cX0_yearOfCountedMonth 13 = .ok (.sipush 2001, 3) := by decide +kernel
theorem dX0_yearOfCountedMonth_16 : decode cX0_yearOfCountedMonth 16 = .ok (.invokevirtual 150, 3) := by decide +kernel
theorem dX0_yearOfCountedMonth_19 : decode cX0_yearOfCountedMonth 19 = .ok (.if_icmp .lt 6, 3) := by decide +kernel
theorem dX0_yearOfCountedMonth_22 : decode cX0_yearOfCountedMonth 22 = .ok (.ldc 121, 2) := by decide +kernel
theorem dX0_yearOfCountedMonth_24 : decode cX0_yearOfCountedMonth 24 = .ok (.ireturn, 1) := by decide +kernel
theorem dX0_yearOfCountedMonth_25 : decode cX0_yearOfCountedMonth 25 = .ok (.sipush (-2000), 3) := by decide +kernel
theorem dX0_yearOfCountedMonth_28 : decode cX0_yearOfCountedMonth 28 = .ok (.istore_n 2, 1) := by decide +kernel
theorem dX0_yearOfCountedMonth_29 : decode cX0_yearOfCountedMonth 29 = .ok (.sipush 2000, 3) := by decide +kernel
theorem dX0_yearOfCountedMonth_32 : decode cX0_yearOfCountedMonth 32 = .ok (.istore_n 3, 1) := by decide +kernel
theorem dX0_yearOfCountedMonth_33 : decode cX0_yearOfCountedMonth 33 = .ok (.iconst 0, 1) := by decide +kernel
theorem dX0_yearOfCountedMonth_34 : decode cX0_yearOfCountedMonth 34 = .ok (.istore 4, 2) := by decide +kernel
theorem dX0_yearOfCountedMonth_36 : decode cX0_yearOfCountedMonth 36 = .ok (.iload 4, 2) := by decide +kernel
theorem dX0_yearOfCountedMonth_38 : decode cX0_yearOfCountedMonth 38 = .ok (.bipush 32, 2) := by decide +kernel
theorem dX0_yearOfCountedMonth_40 : decode cX0_yearOfCountedMonth 40 = .ok (.if_icmp .ge 46, 3) := by decide +kernel
theorem dX0_yearOfCountedMonth_43 : decode cX0_yearOfCountedMonth 43 = .ok (.iload_n 2, 1) := by decide +kernel
theorem dX0_yearOfCountedMonth_44 : decode cX0_yearOfCountedMonth 44 = .ok (.iload_n 3, 1) := by decide +kernel
theorem dX0_yearOfCountedMonth_45 : decode cX0_yearOfCountedMonth 45 = .ok (.if_icmp .ge 41, 3) := by decide +kernel
theorem dX0_yearOfCountedMonth_48 : decode cX0_yearOfCountedMonth 48 = .ok (.iload_n 2, 1) := by decide +kernel
theorem dX0_yearOfCountedMonth_49 : decode cX0_yearOfCountedMonth 49 = .ok (.iload_n 3, 1) := by decide +kernel
theorem dX0_yearOfCountedMonth_50 : decode cX0_yearOfCountedMonth 50 = .ok (.iload_n 2, 1) := by decide +kernel
theorem dX0_yearOfCountedMonth_51 : decode cX0_yearOfCountedMonth 51 = .ok (.isub, 1) := by decide +kernel
theorem dX0_yearOfCountedMonth_52 : decode cX0_yearOfCountedMonth 52 = .ok (.iconst 1, 1) := by decide +kernel
theorem dX0_yearOfCountedMonth_53 : decode cX0_yearOfCountedMonth 53 = .ok (.iadd, 1) := by decide +kernel
theorem dX0_yearOfCountedMonth_54 : decode cX0_yearOfCountedMonth 54 = .ok (.iconst 2, 1) := by decide +kernel
theorem dX0_yearOfCountedMonth_55 : decode cX0_yearOfCountedMonth 55 = .ok (.idiv, 1) := by decide +kernel
theorem dX0_yearOfCountedMonth_56 : decode cX0_yearOfCountedMonth 56 = .ok (.iadd, 1) := by decide +kernel
theorem dX0_yearOfCountedMonth_57 : decode cX0_yearOfCountedMonth 57 = .ok (.istore 5, 2) := by decide +kernel
theorem dX0_yearOfCountedMonth_59 : decode cX0_yearOfCountedMonth 59 = .ok (.aload_n 0, 1) := by decide +kernel
theorem dX0_yearOfCountedMonth_60 : decode cX0_yearOfCountedMonth 60 = .ok (.iload 5, 2) := by decide +kernel
theorem dX0_yearOfCountedMonth_62 : decode cX0_yearOfCountedMonth 62 = .ok (.invokevirtual 150, 3) := by decide +kernel
theorem dX0_yearOfCountedMonth_65 : decode cX0_yearOfCountedMonth 65 = .ok (.iload_n 1, 1) := by decide +kernel
theorem dX0_yearOfCountedMonth_66 : decode cX0_yearOfCountedMonth 66 = .ok (.if_icmp .gt 9, 3) := by decide +kernel
theorem dX0_yearOfCountedMonth_69 : decode cX0_yearOfCountedMonth 69 = .ok (.iload 5, 2) := by decide +kernel
theorem dX0_yearOfCountedMonth_71 : decode cX0_yearOfCountedMonth 71 = .ok (.istore_n 2, 1) := by decide +kernel
theorem dX0_yearOfCountedMonth_72 : decode cX0_yearOfCountedMonth 72 = .ok (.goto 8, 3) := by decide +kernel
theorem dX0_yearOfCountedMonth_75 : decode cX0_yearOfCountedMonth 75 = .ok (.iload 5, 2) := by decide +kernel
theorem dX0_yearOfCountedMonth_77 : decode cX0_yearOfCountedMonth 77 = .ok (.iconst 1, 1) := by decide +kernel
theorem dX0_yearOfCountedMonth_78 : decode cX0_yearOfCountedMonth 78 = .ok (.isub, 1) := by decide +kernel
theorem dX0_yearOfCountedMonth_79 : decode cX0_yearOfCountedMonth 79 = .ok (.istore_n 3, 1) := by decide +kernel
theorem dX0_yearOfCountedMonth_80 : decode cX0_yearOfCountedMonth 80 = .ok (.iinc 4 1, 3) := by decide +kernel
theorem dX0_yearOfCountedMonth_83 : decode cX0_yearOfCountedMonth 83 = .ok (.goto (-47), 3) := by decide +kernel
theorem dX0_yearOfCountedMonth_86 : decode cX0_yearOfCountedMonth 86 = .ok (.iload_n 2, 1) := by decide +kernel
theorem dX0_yearOfCountedMonth_87 : decode cX0_yearOfCountedMonth 87 = .ok (.ireturn, 1) := by decide +kernel
theorem dX1_init_0 : decode cX1_init 0 = .ok (.aload_n 0, 1) := by decide +kernel
theorem dX1_init_1 : decode cX1_init 1 = .ok (.invokespecial 1, 3) := by decide +kernel
theorem dX1_init_4 : decode cX1_init 4 = .ok (.aload_n 0, 1) := by decide +kernel
theorem dX1_init_5 : decode cX1_init 5 = .ok (.iload_n 1, 1) := by decide +kernel
theorem dX1_init_6 : decode cX1_init 6 = .ok (.putfield 7, 3) := by decide +kernel
theorem dX1_init_9 : decode cX1_init 9 = .ok (.aload_n 0, 1) := by decide +kernel
theorem dX1_init_10 : decode cX1_init 10 = .ok (.iload_n 2, 1) := by decide +kernel
theorem dX1_init_11 : decode cX1_init 11 = .ok (.putfield 13, 3) := by decide +kernel
theorem dX1_init_14 : decode cX1_init 14 = .ok (.aload_n 0, 1) := by decide +kernel
theorem dX1_init_15 : decode cX1_init 15 = .ok (.iload_n 3, 1) := by decide +kernel
theorem dX1_init_16 : decode cX1_init 16 = .ok (.putfield 16, 3) := by decide +kernel
theorem dX1_init_19 : decode cX1_init 19 = .ok (.aload_n 0, 1) := by decide +kernel
theorem dX1_init_20 : decode cX1_init 20 = .ok (.iload 4, 2) := by decide +kernel
theorem dX1_init_22 : decode cX1_init 22 = .ok (.putfield 19, 3) := by decide +kernel
theorem dX1_init_25 : decode cX1_init 25 = .ok (.aload_n 0, 1) := by decide +kernel
theorem dX1_init_26 : decode cX1_init 26 = .ok (.iload 5, 2) := by decide +kernel
theorem dX1_init_28 : decode cX1_init 28 = .ok (.putfield 22, 3) := by decide +kernel
theorem dX1_init_31 : decode cX1_init 31 = .ok (.aload_n 0, 1) := by decide +kernel
theorem dX1_init_32 : decode cX1_init 32 = .ok (.iload 6, 2) := by decide +kernel
theorem dX1_init_34 : decode cX1_init 34 = .ok (.putfield 25, 3) := by decide +kernel
theorem dX1_init_37 : decode cX1_init 37 = .ok (.return_, 1) := by decide +kernel
theorem dX2_init_0 : decode cX2_init 0 = .ok (.aload_n 0, 1) := by decide +kernel
theorem dX2_init_1 : decode cX2_init 1 = .ok (.invokespecial 3, 3) := by decide +kernel
theorem dX2_init_4 : decode cX2_init 4 = .ok (.aload_n 0, 1) := by decide +kernel
theorem dX2_init_5 : decode cX2_init 5 = .ok (.bipush 8, 2) := by decide +kernel
theorem dX2_init_7 : decode cX2_init 7 = .ok (.newarray .int, 2) := by decide +kernel
theorem dX2_init_9 : decode cX2_init 9 = .ok (.putfield 9, 3) := by decide +kernel
theorem dX2_init_12 : decode cX2_init 12 = .ok (.aload_n 0, 1) := by decide +kernel
theorem dX2_init_13 : decode cX2_init 13 = .ok (.bipush 8, 2) := by decide +kernel
theorem dX2_init_15 : decode cX2_init 15 = .ok (.newarray .int, 2) := by decide +kernel
theorem dX2_init_17 : decode cX2_init 17 = .ok (.putfield 15, 3) := by decide +kernel
theorem dX2_init_20 : decode cX2_init 20 = .ok (.return_, 1) := by decide +kernel
set_option maxRecDepth 20000 in
theorem dX2_find_0 : decode cX2_find 0 = .ok (.aload_n 0, 1) := by decide +kernel
theorem dX2_find_1 : decode cX2_find 1 = .ok (.getfield 9, 3) := by decide +kernel
theorem dX2_find_4 : decode cX2_find 4 = .ok (.ldc 18, 2) := by decide +kernel
theorem dX2_find_6 : decode cX2_find 6 = .ok (.invokestatic 19, 3) := by decide +kernel
theorem dX2_find_9 : decode cX2_find 9 = .ok (.iconst 0, 1) := by decide +kernel
theorem dX2_find_10 : decode cX2_find 10 = .ok (.istore 4, 2) := by decide +kernel
theorem dX2_find_12 : decode cX2_find 12 = .ok (.iload 4, 2) := by decide +kernel
theorem dX2_find_14 : decode cX2_find 14 = .ok (.iload_n 2, 1) := by decide +kernel
theorem dX2_find_15 : decode cX2_find 15 = .ok (.if_icmp .ge 64, 3) := by decide +kernel
theorem dX2_find_18 : decode cX2_find 18 = .ok (.iload 4, 2) := by decide +kernel
theorem dX2_find_20 : decode cX2_find 20 = .ok (.aload_n 0, 1) := by decide +kernel
theorem dX2_find_21 : decode cX2_find 21 = .ok (.getfield 9, 3) := by decide +kernel
theorem dX2_find_24 : decode cX2_find 24 = .ok (.arraylength, 1) := by decide +kernel
theorem dX2_find_25 : decode cX2_find 25 = .ok (.if_icmp .ge 54, 3) := by decide +kernel
theorem dX2_find_28 : decode cX2_find 28 = .ok (.aload_n 1, 1) := by decide +kernel
theorem dX2_find_29 : decode cX2_find 29 = .ok (.iload 4, 2) := by decide +kernel
theorem dX2_find_31 : decode cX2_find 31 = .ok (.invokevirtual 25, 3) := by decide +kernel
theorem dX2_find_34 : decode cX2_find 34 = .ok (.astore 5, 2) := by decide +kernel
theorem dX2_find_36 : decode cX2_find 36 = .ok (.aload 5, 2) := by decide +kernel
theorem dX2_find_38 : decode cX2_find 38 = .ok (.ifnull 35, 3) := by decide +kernel
theorem dX2_find_41 : decode cX2_find 41 = .ok (.aload_n 0, 1) := by decide +kernel
theorem dX2_find_42 : decode cX2_find 42 = .ok (.aload_n 1, 1) := by decide +kernel
theorem dX2_find_43 : decode cX2_find 43 = .ok (.aload 5, 2) := by decide +kernel
theorem dX2_find_45 : decode cX2_find 45 = .ok (.iload_n 3, 1) := by decide +kernel
theorem dX2_find_46 : decode cX2_find 46 = .ok (.invokevirtual 31, 3) := by decide +kernel
theorem dX2_find_49 : decode cX2_find 49 = .ok (.istore 6, 2) := by decide +kernel
theorem dX2_find_51 : decode cX2_find 51 = .ok (.aload_n 0, 1) := by decide +kernel
theorem dX2_find_52 : decode cX2_find 52 = .ok (.getfield 9, 3) := by decide +kernel
theorem dX2_find_55 : decode cX2_find 55 = .ok (.iload 4, 2) := by decide +kernel
theorem dX2_find_57 : decode cX2_find 57 = .ok (.iload 6, 2) := by decide +kernel
theorem dX2_find_59 : decode cX2_find 59 = .ok (.invokestatic 35, 3) := by decide +kernel
theorem dX2_find_62 : decode cX2_find 62 = .ok (.ifCond .eq 8, 3) := by decide +kernel
theorem dX2_find_65 : decode cX2_find 65 = .ok (.iload 6, 2) := by decide +kernel
theorem dX2_find_67 : decode cX2_find 67 = .ok (.goto 5, 3) := by decide +kernel
theorem dX2_find_70 : decode cX2_find 70 = .ok (.ldc 18, 2) := by decide +kernel
theorem dX2_find_72 : decode cX2_find 72 = .ok (.iastore, 1) := by decide +kernel
theorem dX2_find_73 : decode cX2_find 73 = .ok (.iinc 4 1, 3) := by decide +kernel
theorem dX2_find_76 : decode cX2_find 76 = .ok (.goto (-64), 3) := by decide +kernel
theorem dX2_find_79 : decode cX2_find 79 = .ok (.return_, 1) := by decide +kernel
set_option maxRecDepth 20000 in
theorem dX2_place_0 : decode cX2_place 0 = .ok (.aload_n 0, 1) := by decide +kernel
theorem dX2_place_1 : decode cX2_place 1 = .ok (.getfield 15, 3) := by decide +kernel
theorem dX2_place_4 : decode cX2_place 4 = .ok (.ldc 18, 2) := by decide +kernel
theorem dX2_place_6 : decode cX2_place 6 = .ok (.invokestatic 19, 3) := by decide +kernel
theorem dX2_place_9 : decode cX2_place 9 = .ok (.bipush 9, 2) := by decide +kernel
theorem dX2_place_11 : decode cX2_place 11 = .ok (.istore_n 2, 1) := by decide +kernel
theorem dX2_place_12 : decode cX2_place 12 = .ok (.iload_n 2, 1) := by decide +kernel
theorem dX2_place_13 : decode cX2_place 13 = .ok (.ifCond .lt 83, 3) := by decide +kernel
theorem dX2_place_16 : decode cX2_place 16 = .ok (.iconst 0, 1) := by decide +kernel
theorem dX2_place_17 : decode cX2_place 17 = .ok (.istore_n 3, 1) := by decide +kernel
theorem dX2_place_18 : decode cX2_place 18 = .ok (.iload_n 3, 1) := by decide +kernel
theorem dX2_place_19 : decode cX2_place 19 = .ok (.aload_n 0, 1) := by decide +kernel
theorem dX2_place_20 : decode cX2_place 20 = .ok (.getfield 15, 3) := by decide +kernel
theorem dX2_place_23 : decode cX2_place 23 = .ok (.arraylength, 1) := by decide +kernel
theorem dX2_place_24 : decode cX2_place 24 = .ok (.if_icmp .ge 66, 3) := by decide +kernel
theorem dX2_place_27 : decode cX2_place 27 = .ok (.iload_n 3, 1) := by decide +kernel
theorem dX2_place_28 : decode cX2_place 28 = .ok (.aload_n 0, 1) := by decide +kernel
theorem dX2_place_29 : decode cX2_place 29 = .ok (.getfield 9, 3) := by decide +kernel
theorem dX2_place_32 : decode cX2_place 32 = .ok (.arraylength, 1) := by decide +kernel
theorem dX2_place_33 : decode cX2_place 33 = .ok (.if_icmp .ge 57, 3) := by decide +kernel
theorem dX2_place_36 : decode cX2_place 36 = .ok (.aload_n 1, 1) := by decide +kernel
theorem dX2_place_37 : decode cX2_place 37 = .ok (.iload_n 3, 1) := by decide +kernel
theorem dX2_place_38 : decode cX2_place 38 = .ok (.invokevirtual 25, 3) := by decide +kernel
theorem dX2_place_41 : decode cX2_place 41 = .ok (.astore 4, 2) := by decide +kernel
theorem dX2_place_43 : decode cX2_place 43 = .ok (.aload 4, 2) := by decide +kernel
theorem dX2_place_45 : decode cX2_place 45 = .ok (.ifnull 39, 3) := by decide +kernel
theorem dX2_place_48 : decode cX2_place 48 = .ok (.aload 4, 2) := by decide +kernel
theorem dX2_place_50 : decode cX2_place 50 = .ok (.getfield 39, 3) := by decide +kernel
theorem dX2_place_53 : decode cX2_place 53 = .ok (.iload_n 2, 1) := by decide +kernel
theorem dX2_place_54 : decode cX2_place 54 = .ok (.if_icmp .ne 30, 3) := by decide +kernel
theorem dX2_place_57 : decode cX2_place 57 = .ok (.aload_n 0, 1) := by decide +kernel
theorem dX2_place_58 : decode cX2_place 58 = .ok (.getfield 9, 3) := by decide +kernel
theorem dX2_place_61 : decode cX2_place 61 = .ok (.iload_n 3, 1) := by decide +kernel
theorem dX2_place_62 : decode cX2_place 62 = .ok (.iaload, 1) := by decide +kernel
theorem dX2_place_63 : decode cX2_place 63 = .ok (.ldc 18, 2) := by decide +kernel
theorem dX2_place_65 : decode cX2_place 65 = .ok (.if_icmp .eq 19, 3) := by decide +kernel
theorem dX2_place_68 : decode cX2_place 68 = .ok (.aload_n 0, 1) := by decide +kernel
theorem dX2_place_69 : decode cX2_place 69 = .ok (.getfield 15, 3) := by decide +kernel
theorem dX2_place_72 : decode cX2_place 72 = .ok (.iload_n 3, 1) := by decide +kernel
theorem dX2_place_73 : decode cX2_place 73 = .ok (.aload_n 0, 1) := by decide +kernel
theorem dX2_place_74 : decode cX2_place 74 = .ok (.aload_n 0, 1) := by decide +kernel
theorem dX2_place_75 : decode cX2_place 75 = .ok (.getfield 9, 3) := by decide +kernel
theorem dX2_place_78 : decode cX2_place 78 = .ok (.iload_n 3, 1) := by decide +kernel
theorem dX2_place_79 : decode cX2_place 79 = .ok (.iaload, 1) := by decide +kernel
theorem dX2_place_80 : decode cX2_place 80 = .ok (.invokevirtual 45, 3) := by decide +kernel
theorem dX2_place_83 : decode cX2_place 83 = .ok (.iastore, 1) := by decide +kernel
theorem dX2_place_84 : decode cX2_place 84 = .ok (.iinc 3 1, 3) := by decide +kernel
theorem dX2_place_87 : decode cX2_place 87 = .ok (.goto (-69), 3) := by decide +kernel
theorem dX2_place_90 : decode cX2_place 90 = .ok (.iinc 2 (-1), 3) := by decide +kernel
theorem dX2_place_93 : decode cX2_place 93 = .ok (.goto (-81), 3) := by decide +kernel
theorem dX2_place_96 : decode cX2_place 96 = .ok (.return_, 1) := by decide +kernel
theorem dX2_dayAt_0 : decode cX2_dayAt 0 = .ok (.iload_n 1, 1) := by decide +kernel
theorem dX2_dayAt_1 : decode cX2_dayAt 1 = .ok (.ifCond .lt 21, 3) := by decide +kernel
theorem dX2_dayAt_4 : decode cX2_dayAt 4 = .ok (.iload_n 1, 1) := by decide +kernel
theorem dX2_dayAt_5 : decode cX2_dayAt 5 = .ok (.aload_n 0, 1) := by decide +kernel
theorem dX2_dayAt_6 : decode cX2_dayAt 6 = .ok (.getfield 9, 3) := by decide +kernel
theorem dX2_dayAt_9 : decode cX2_dayAt 9 = .ok (.arraylength, 1) := by decide +kernel
theorem dX2_dayAt_10 : decode cX2_dayAt 10 = .ok (.if_icmp .ge 12, 3) := by decide +kernel
theorem dX2_dayAt_13 : decode cX2_dayAt 13 = .ok (.aload_n 0, 1) := by decide +kernel
theorem dX2_dayAt_14 : decode cX2_dayAt 14 = .ok (.getfield 9, 3) := by decide +kernel
theorem dX2_dayAt_17 : decode cX2_dayAt 17 = .ok (.iload_n 1, 1) := by decide +kernel
theorem dX2_dayAt_18 : decode cX2_dayAt 18 = .ok (.iaload, 1) := by decide +kernel
theorem dX2_dayAt_19 : decode cX2_dayAt 19 = .ok (.goto 5, 3) := by decide +kernel
theorem dX2_dayAt_22 : decode cX2_dayAt 22 = .ok (.ldc 18, 2) := by decide +kernel
theorem dX2_dayAt_24 : decode cX2_dayAt 24 = .ok (.ireturn, 1) := by decide +kernel
theorem dX2_placeAt_0 : decode cX2_placeAt 0 = .ok (.iload_n 1, 1) := by decide +kernel
theorem dX2_placeAt_1 : decode cX2_placeAt 1 = .ok (.ifCond .lt 21, 3) := by decide +kernel
theorem dX2_placeAt_4 : decode cX2_placeAt 4 = .ok (.iload_n 1, 1) := by decide +kernel
theorem dX2_placeAt_5 : decode cX2_placeAt 5 = .ok (.aload_n 0, 1) := by decide +kernel
theorem dX2_placeAt_6 : decode cX2_placeAt 6 = .ok (.getfield 15, 3) := by decide +kernel
theorem dX2_placeAt_9 : decode cX2_placeAt 9 = .ok (.arraylength, 1) := by decide +kernel
theorem dX2_placeAt_10 : decode cX2_placeAt 10 = .ok (.if_icmp .ge 12, 3) := by decide +kernel
theorem dX2_placeAt_13 : decode cX2_placeAt 13 = .ok (.aload_n 0, 1) := by decide +kernel
theorem dX2_placeAt_14 : decode cX2_placeAt 14 = .ok (.getfield 15, 3) := by decide +kernel
theorem dX2_placeAt_17 : decode cX2_placeAt 17 = .ok (.iload_n 1, 1) := by decide +kernel
theorem dX2_placeAt_18 : decode cX2_placeAt 18 = .ok (.iaload, 1) := by decide +kernel
theorem dX2_placeAt_19 : decode cX2_placeAt 19 = .ok (.goto 5, 3) := by decide +kernel
theorem dX2_placeAt_22 : decode cX2_placeAt 22 = .ok (.ldc 18, 2) := by decide +kernel
theorem dX2_placeAt_24 : decode cX2_placeAt 24 = .ok (.ireturn, 1) := by decide +kernel
theorem dX2_feastPlacedOn_0 : decode cX2_feastPlacedOn 0 = .ok (.iconst 0, 1) := by decide +kernel
theorem dX2_feastPlacedOn_1 : decode cX2_feastPlacedOn 1 = .ok (.istore_n 2, 1) := by decide +kernel
theorem dX2_feastPlacedOn_2 : decode cX2_feastPlacedOn 2 = .ok (.iload_n 2, 1) := by decide +kernel
theorem dX2_feastPlacedOn_3 : decode cX2_feastPlacedOn 3 = .ok (.aload_n 0, 1) := by decide +kernel
theorem dX2_feastPlacedOn_4 : decode cX2_feastPlacedOn 4 = .ok (.getfield 15, 3) := by decide +kernel
theorem dX2_feastPlacedOn_7 : decode cX2_feastPlacedOn 7 = .ok (.arraylength, 1) := by decide +kernel
theorem dX2_feastPlacedOn_8 : decode cX2_feastPlacedOn 8 = .ok (.if_icmp .ge 21, 3) := by decide +kernel
theorem dX2_feastPlacedOn_11 : decode cX2_feastPlacedOn 11 = .ok (.aload_n 0, 1) := by decide +kernel
theorem dX2_feastPlacedOn_12 : decode cX2_feastPlacedOn 12 = .ok (.getfield 15, 3) := by decide +kernel
theorem dX2_feastPlacedOn_15 : decode cX2_feastPlacedOn 15 = .ok (.iload_n 2, 1) := by decide +kernel
theorem dX2_feastPlacedOn_16 : decode cX2_feastPlacedOn 16 = .ok (.iaload, 1) := by decide +kernel
theorem dX2_feastPlacedOn_17 : decode cX2_feastPlacedOn 17 = .ok (.iload_n 1, 1) := by decide +kernel
theorem dX2_feastPlacedOn_18 : decode cX2_feastPlacedOn 18 = .ok (.if_icmp .ne 5, 3) := by decide +kernel
theorem dX2_feastPlacedOn_21 : decode cX2_feastPlacedOn 21 = .ok (.iload_n 2, 1) := by decide +kernel
theorem dX2_feastPlacedOn_22 : decode cX2_feastPlacedOn 22 = .ok (.ireturn, 1) := by decide +kernel
theorem dX2_feastPlacedOn_23 : decode cX2_feastPlacedOn 23 = .ok (.iinc 2 1, 3) := by decide +kernel
theorem dX2_feastPlacedOn_26 : decode cX2_feastPlacedOn 26 = .ok (.goto (-24), 3) := by decide +kernel
theorem dX2_feastPlacedOn_29 : decode cX2_feastPlacedOn 29 = .ok (.iconst (-1), 1) := by decide +kernel
theorem dX2_feastPlacedOn_30 : decode cX2_feastPlacedOn 30 = .ok (.ireturn, 1) := by decide +kernel
set_option maxRecDepth 20000 in
theorem dX2_dayBy_0 : decode cX2_dayBy 0 = .ok (.aload_n 2, 1) := by decide +kernel
theorem dX2_dayBy_1 : decode cX2_dayBy 1 = .ok (.getfield 49, 3) := by decide +kernel
theorem dX2_dayBy_4 : decode cX2_dayBy 4 = .ok (.ifCond .eq 11, 3) := by decide +kernel
theorem dX2_dayBy_7 : decode cX2_dayBy 7 = .ok (.aload_n 2, 1) := by decide +kernel
theorem dX2_dayBy_8 : decode cX2_dayBy 8 = .ok (.getfield 49, 3) := by decide +kernel
theorem dX2_dayBy_11 : decode cX2_dayBy 11 = .ok (.iconst 1, 1) := by decide +kernel
theorem dX2_dayBy_12 : decode cX2_dayBy 12 = .ok (.if_icmp .ne 7, 3) := by decide +kernel
theorem dX2_dayBy_15 : decode cX2_dayBy 15 = .ok (.iconst 1, 1) := by decide +kernel
theorem dX2_dayBy_16 : decode cX2_dayBy 16 = .ok (.goto 4, 3) := by decide +kernel
theorem dX2_dayBy_19 : decode cX2_dayBy 19 = .ok (.iconst 0, 1) := by decide +kernel
theorem dX2_dayBy_20 : decode cX2_dayBy 20 = .ok (.istore 4, 2) := by decide +kernel
theorem dX2_dayBy_22 : decode cX2_dayBy 22 = .ok (.iload 4, 2) := by decide +kernel
theorem dX2_dayBy_24 : decode cX2_dayBy 24 = .ok (.ifCond .eq 8, 3) := by decide +kernel
theorem dX2_dayBy_27 : decode cX2_dayBy 27 = .ok (.ldc 18, 2) := by decide +kernel
theorem dX2_dayBy_29 : decode cX2_dayBy 29 = .ok (.goto 11, 3) := by decide +kernel
theorem dX2_dayBy_32 : decode cX2_dayBy 32 = .ok (.aload_n 0, 1) := by decide +kernel
theorem dX2_dayBy_33 : decode cX2_dayBy 33 = .ok (.aload_n 2, 1) := by decide +kernel
theorem dX2_dayBy_34 : decode cX2_dayBy 34 = .ok (.getfield 52, 3) := by decide +kernel
theorem dX2_dayBy_37 : decode cX2_dayBy 37 = .ok (.invokevirtual 55, 3) := by decide +kernel
theorem dX2_dayBy_40 : decode cX2_dayBy 40 = .ok (.istore 5, 2) := by decide +kernel
theorem dX2_dayBy_42 : decode cX2_dayBy 42 = .ok (.iload 4, 2) := by decide +kernel
theorem dX2_dayBy_44 : decode cX2_dayBy 44 = .ok (.ifCond .ne 13, 3) := by decide +kernel
theorem dX2_dayBy_47 : decode cX2_dayBy 47 = .ok (.iload 5, 2) := by decide +kernel
theorem dX2_dayBy_49 : decode cX2_dayBy 49 = .ok (.ldc 18, 2) := by decide +kernel
theorem dX2_dayBy_51 : decode cX2_dayBy 51 = .ok (.if_icmp .ne 6, 3) := by decide +kernel
theorem dX2_dayBy_54 : decode cX2_dayBy 54 = .ok (.ldc 18, 2) := by decide +kernel
theorem dX2_dayBy_56 : decode cX2_dayBy 56 = .ok (.ireturn, 1) := by decide +kernel
theorem dX2_dayBy_57 : decode cX2_dayBy 57 = .ok (.aload_n 2, 1) := by decide +kernel
theorem dX2_dayBy_58 : decode cX2_dayBy 58 = .ok (.getfield 49, 3) := by decide +kernel
theorem dX2_dayBy_61 : decode cX2_dayBy 61 = .ok (.iconst 2, 1) := by decide +kernel
theorem dX2_dayBy_62 : decode cX2_dayBy 62 = .ok (.if_icmp .ne 11, 3) := by decide +kernel
theorem dX2_dayBy_65 : decode cX2_dayBy 65 = .ok (.iload 5, 2) := by decide +kernel
theorem dX2_dayBy_67 : decode cX2_dayBy 67 = .ok (.aload_n 2, 1) := by decide +kernel
theorem dX2_dayBy_68 : decode cX2_dayBy 68 = .ok (.getfield 58, 3) := by decide +kernel
theorem dX2_dayBy_71 : decode cX2_dayBy 71 = .ok (.iadd, 1) := by decide +kernel
theorem dX2_dayBy_72 : decode cX2_dayBy 72 = .ok (.ireturn, 1) := by decide +kernel
theorem dX2_dayBy_73 : decode cX2_dayBy 73 = .ok (.aload_n 1, 1) := by decide +kernel
theorem dX2_dayBy_74 : decode cX2_dayBy 74 = .ok (.iload 4, 2) := by decide +kernel
theorem dX2_dayBy_76 : decode cX2_dayBy 76 = .ok (.ifCond .eq 10, 3) := by decide +kernel
theorem dX2_dayBy_79 : decode cX2_dayBy 79 = .ok (.aload_n 2, 1) := by decide +kernel
theorem dX2_dayBy_80 : decode cX2_dayBy 80 = .ok (.getfield 52, 3) := by decide +kernel
theorem dX2_dayBy_83 : decode cX2_dayBy 83 = .ok (.goto 7, 3) := by decide +kernel
theorem dX2_dayBy_86 : decode cX2_dayBy 86 = .ok (.aload_n 2, 1) := by decide +kernel
theorem dX2_dayBy_87 : decode cX2_dayBy 87 = .ok (.getfield 58, 3) := by decide +kernel
theorem dX2_dayBy_90 : decode cX2_dayBy 90 = .ok (.invokevirtual 61, 3) := by decide +kernel
theorem dX2_dayBy_93 : decode cX2_dayBy 93 = .ok (.astore 6, 2) := by decide +kernel
theorem dX2_dayBy_95 : decode cX2_dayBy 95 = .ok (.aload 6, 2) := by decide +kernel
theorem dX2_dayBy_97 : decode cX2_dayBy 97 = .ok (.ifnonnull 6, 3) := by decide +kernel
theorem dX2_dayBy_100 : decode cX2_dayBy 100 = .ok (.ldc 18, 2) := by decide +kernel
theorem dX2_dayBy_102 : decode cX2_dayBy 102 = .ok (.ireturn, 1) := by decide +kernel
theorem dX2_dayBy_103 : decode cX2_dayBy 103 = .ok (.aload_n 2, 1) := by decide +kernel
theorem dX2_dayBy_104 : decode cX2_dayBy 104 = .ok (.getfield 49, 3) := by decide +kernel
theorem dX2_dayBy_107 : decode cX2_dayBy 107 = .ok (.tableswitch 75 0 3 #[29, 44, 75, 63], 29) := by decide +kernel
theorem dX2_dayBy_136 : decode cX2_dayBy 136 = .ok (.aload 6, 2) := by decide +kernel
theorem dX2_dayBy_138 : decode cX2_dayBy 138 = .ok (.iload_n 3, 1) := by decide +kernel
theorem dX2_dayBy_139 : decode cX2_dayBy 139 = .ok (.aload_n 2, 1) := by decide +kernel
theorem dX2_dayBy_140 : decode cX2_dayBy 140 = .ok (.getfield 58, 3) := by decide +kernel
theorem dX2_dayBy_143 : decode cX2_dayBy 143 = .ok (.aload_n 2, 1) := by decide +kernel
theorem dX2_dayBy_144 : decode cX2_dayBy 144 = .ok (.getfield 65, 3) := by decide +kernel
theorem dX2_dayBy_147 : decode cX2_dayBy 147 = .ok (.invokevirtual 68, 3) := by decide +kernel
theorem dX2_dayBy_150 : decode cX2_dayBy 150 = .ok (.ireturn, 1) := by decide +kernel
theorem dX2_dayBy_151 : decode cX2_dayBy 151 = .ok (.aload 6, 2) := by decide +kernel
theorem dX2_dayBy_153 : decode cX2_dayBy 153 = .ok (.iload_n 3, 1) := by decide +kernel
theorem dX2_dayBy_154 : decode cX2_dayBy 154 = .ok (.aload_n 2, 1) := by decide +kernel
theorem dX2_dayBy_155 : decode cX2_dayBy 155 = .ok (.getfield 58, 3) := by decide +kernel
theorem dX2_dayBy_158 : decode cX2_dayBy 158 = .ok (.aload_n 2, 1) := by decide +kernel
theorem dX2_dayBy_159 : decode cX2_dayBy 159 = .ok (.getfield 65, 3) := by decide +kernel
theorem dX2_dayBy_162 : decode cX2_dayBy 162 = .ok (.aload_n 2, 1) := by decide +kernel
theorem dX2_dayBy_163 : decode cX2_dayBy 163 = .ok (.getfield 74, 3) := by decide +kernel
theorem dX2_dayBy_166 : decode cX2_dayBy 166 = .ok (.invokevirtual 77, 3) := by decide +kernel
theorem dX2_dayBy_169 : decode cX2_dayBy 169 = .ok (.ireturn, 1) := by decide +kernel
theorem dX2_dayBy_170 : decode cX2_dayBy 170 = .ok (.aload 6, 2) := by decide +kernel
theorem dX2_dayBy_172 : decode cX2_dayBy 172 = .ok (.iload 5, 2) := by decide +kernel
theorem dX2_dayBy_174 : decode cX2_dayBy 174 = .ok (.aload_n 2, 1) := by decide +kernel
theorem dX2_dayBy_175 : decode cX2_dayBy 175 = .ok (.getfield 65, 3) := by decide +kernel
theorem dX2_dayBy_178 : decode cX2_dayBy 178 = .ok (.invokevirtual 81, 3) := by decide +kernel
theorem dX2_dayBy_181 : decode cX2_dayBy 181 = .ok (.ireturn, 1) := by decide +kernel
theorem dX2_dayBy_182 : decode cX2_dayBy 182 = .ok (.aload 6, 2) := by decide +kernel
theorem dX2_dayBy_184 : decode cX2_dayBy 184 = .ok (.iload 5, 2) := by decide +kernel
theorem dX2_dayBy_186 : decode cX2_dayBy 186 = .ok (.aload_n 2, 1) := by decide +kernel
theorem dX2_dayBy_187 : decode cX2_dayBy 187 = .ok (.getfield 65, 3) := by decide +kernel
theorem dX2_dayBy_190 : decode cX2_dayBy 190 = .ok (.invokevirtual 85, 3) := by decide +kernel
theorem dX2_dayBy_193 : decode cX2_dayBy 193 = .ok (.ireturn, 1) := by decide +kernel
set_option maxRecDepth 20000 in
theorem dX2_firstFree_0 : decode cX2_firstFree 0 = .ok (.iload_n 1, 1) := by decide +kernel
theorem dX2_firstFree_1 : decode cX2_firstFree 1 = .ok (.istore_n 2, 1) := by decide +kernel
theorem dX2_firstFree_2 : decode cX2_firstFree 2 = .ok (.iconst 0, 1) := by decide +kernel
theorem dX2_firstFree_3 : decode cX2_firstFree 3 = .ok (.istore_n 3, 1) := by decide +kernel
theorem dX2_firstFree_4 : decode cX2_firstFree 4 = .ok (.iload_n 3, 1) := by decide +kernel
theorem dX2_firstFree_5 : decode cX2_firstFree 5 = .ok (.bipush 8, 2) := by decide +kernel
theorem dX2_firstFree_7 : decode cX2_firstFree 7 = .ok (.if_icmp .ge 20, 3) := by decide +kernel
theorem dX2_firstFree_10 : decode cX2_firstFree 10 = .ok (.aload_n 0, 1) := by decide +kernel
theorem dX2_firstFree_11 : decode cX2_firstFree 11 = .ok (.iload_n 2, 1) := by decide +kernel
theorem dX2_firstFree_12 : decode cX2_firstFree 12 = .ok (.invokevirtual 88, 3) := by decide +kernel
theorem dX2_firstFree_15 : decode cX2_firstFree 15 = .ok (.ifCond .lt 12, 3) := by decide +kernel
theorem dX2_firstFree_18 : decode cX2_firstFree 18 = .ok (.iinc 2 1, 3) := by decide +kernel
theorem dX2_firstFree_21 : decode cX2_firstFree 21 = .ok (.iinc 3 1, 3) := by decide +kernel
theorem dX2_firstFree_24 : decode cX2_firstFree 24 = .ok (.goto (-20), 3) := by decide +kernel
theorem dX2_firstFree_27 : decode cX2_firstFree 27 = .ok (.iload_n 2, 1) := by decide +kernel
theorem dX2_firstFree_28 : decode cX2_firstFree 28 = .ok (.ireturn, 1) := by decide +kernel
set_option maxRecDepth 20000 in
theorem dX3_init_0 : decode cX3_init 0 = .ok (.aload_n 0, 1) := by decide +kernel
theorem dX3_init_1 : decode cX3_init 1 = .ok (.invokespecial 3, 3) := by decide +kernel
theorem dX3_init_4 : decode cX3_init 4 = .ok (.aload_n 0, 1) := by decide +kernel
theorem dX3_init_5 : decode cX3_init 5 = .ok (.bipush 6, 2) := by decide +kernel
theorem dX3_init_7 : decode cX3_init 7 = .ok (.anewarray 9, 3) := by decide +kernel
theorem dX3_init_10 : decode cX3_init 10 = .ok (.putfield 11, 3) := by decide +kernel
theorem dX3_init_13 : decode cX3_init 13 = .ok (.iconst 0, 1) := by decide +kernel
theorem dX3_init_14 : decode cX3_init 14 = .ok (.istore_n 1, 1) := by decide +kernel
theorem dX3_init_15 : decode cX3_init 15 = .ok (.iload_n 1, 1) := by decide +kernel
theorem dX3_init_16 : decode cX3_init 16 = .ok (.aload_n 0, 1) := by decide +kernel
theorem dX3_init_17 : decode cX3_init 17 = .ok (.getfield 11, 3) := by decide +kernel
theorem dX3_init_20 : decode cX3_init 20 = .ok (.arraylength, 1) := by decide +kernel
theorem dX3_init_21 : decode cX3_init 21 = .ok (.if_icmp .ge 22, 3) := by decide +kernel
theorem dX3_init_24 : decode cX3_init 24 = .ok (.aload_n 0, 1) := by decide +kernel
theorem dX3_init_25 : decode cX3_init 25 = .ok (.getfield 11, 3) := by decide +kernel
theorem dX3_init_28 : decode cX3_init 28 = .ok (.iload_n 1, 1) := by decide +kernel
theorem dX3_init_29 : decode cX3_init 29 = .ok (.new 9, 3) := by decide +kernel
theorem dX3_init_32 : decode cX3_init 32 = .ok (.dup, 1) := by decide +kernel
theorem dX3_init_33 : decode cX3_init 33 = .ok (.invokespecial 17, 3) := by decide +kernel
theorem dX3_init_36 : decode cX3_init 36 = .ok (.aastore, 1) := by decide +kernel
theorem dX3_init_37 : decode cX3_init 37 = .ok (.iinc 1 1, 3) := by decide +kernel
theorem dX3_init_40 : decode cX3_init 40 = .ok (.goto (-25), 3) := by decide +kernel
theorem dX3_init_43 : decode cX3_init 43 = .ok (.return_, 1) := by decide +kernel
theorem dX3_count_0 : decode cX3_count 0 = .ok (.aload_n 0, 1) := by decide +kernel
theorem dX3_count_1 : decode cX3_count 1 = .ok (.getfield 18, 3) := by decide +kernel
theorem dX3_count_4 : decode cX3_count 4 = .ok (.ireturn, 1) := by decide +kernel
set_option maxRecDepth 20000 in
theorem dX3_keep_0 : decode cX3_keep 0 = .ok (.aload_n 0, 1) := by decide +kernel
theorem dX3_keep_1 : decode cX3_keep 1 = .ok (.getfield 18, 3) := by decide +kernel
theorem dX3_keep_4 : decode cX3_keep 4 = .ok (.aload_n 0, 1) := by decide +kernel
theorem dX3_keep_5 : decode cX3_keep 5 = .ok (.getfield 11, 3) := by decide +kernel
theorem dX3_keep_8 : decode cX3_keep 8 = .ok (.arraylength, 1) := by decide +kernel
theorem dX3_keep_9 : decode cX3_keep 9 = .ok (.if_icmp .lt 7, 3) := by decide +kernel
theorem dX3_keep_12 : decode cX3_keep 12 = .ok (.aload_n 0, 1) := by decide +kernel
theorem dX3_keep_13 : decode cX3_keep 13 = .ok (.invokevirtual 22, 3) := by decide +kernel
theorem dX3_keep_16 : decode cX3_keep 16 = .ok (.aload_n 0, 1) := by decide +kernel
theorem dX3_keep_17 : decode cX3_keep 17 = .ok (.aload_n 0, 1) := by decide +kernel
theorem dX3_keep_18 : decode cX3_keep 18 = .ok (.getfield 18, 3) := by decide +kernel
theorem dX3_keep_21 : decode cX3_keep 21 = .ok (.invokevirtual 25, 3) := by decide +kernel
theorem dX3_keep_24 : decode cX3_keep 24 = .ok (.astore_n 2, 1) := by decide +kernel
theorem dX3_keep_25 : decode cX3_keep 25 = .ok (.aload_n 2, 1) := by decide +kernel
theorem dX3_keep_26 : decode cX3_keep 26 = .ok (.ifnull 18, 3) := by decide +kernel
theorem dX3_keep_29 : decode cX3_keep 29 = .ok (.aload_n 2, 1) := by decide +kernel
theorem dX3_keep_30 : decode cX3_keep 30 = .ok (.aload_n 1, 1) := by decide +kernel
theorem dX3_keep_31 : decode cX3_keep 31 = .ok (.invokevirtual 29, 3) := by decide +kernel
theorem dX3_keep_34 : decode cX3_keep 34 = .ok (.aload_n 0, 1) := by decide +kernel
theorem dX3_keep_35 : decode cX3_keep 35 = .ok (.dup, 1) := by decide +kernel
theorem dX3_keep_36 : decode cX3_keep 36 = .ok (.getfield 18, 3) := by decide +kernel
theorem dX3_keep_39 : decode cX3_keep 39 = .ok (.iconst 1, 1) := by decide +kernel
theorem dX3_keep_40 : decode cX3_keep 40 = .ok (.iadd, 1) := by decide +kernel
theorem dX3_keep_41 : decode cX3_keep 41 = .ok (.putfield 18, 3) := by decide +kernel
theorem dX3_keep_44 : decode cX3_keep 44 = .ok (.return_, 1) := by decide +kernel
set_option maxRecDepth 20000 in
theorem dX3_takeBack_0 : decode cX3_takeBack 0 = .ok (.aload_n 0, 1) := by decide +kernel
theorem dX3_takeBack_1 : decode cX3_takeBack 1 = .ok (.aload_n 0, 1) := by decide +kernel
theorem dX3_takeBack_2 : decode cX3_takeBack 2 = .ok (.getfield 18, 3) := by decide +kernel
theorem dX3_takeBack_5 : decode cX3_takeBack 5 = .ok (.iconst 1, 1) := by decide +kernel
theorem dX3_takeBack_6 : decode cX3_takeBack 6 = .ok (.isub, 1) := by decide +kernel
theorem dX3_takeBack_7 : decode cX3_takeBack 7 = .ok (.invokevirtual 25, 3) := by decide +kernel
theorem dX3_takeBack_10 : decode cX3_takeBack 10 = .ok (.astore_n 2, 1) := by decide +kernel
theorem dX3_takeBack_11 : decode cX3_takeBack 11 = .ok (.aload_n 2, 1) := by decide +kernel
theorem dX3_takeBack_12 : decode cX3_takeBack 12 = .ok (.ifnull 18, 3) := by decide +kernel
theorem dX3_takeBack_15 : decode cX3_takeBack 15 = .ok (.aload_n 1, 1) := by decide +kernel
theorem dX3_takeBack_16 : decode cX3_takeBack 16 = .ok (.aload_n 2, 1) := by decide +kernel
theorem dX3_takeBack_17 : decode cX3_takeBack 17 = .ok (.invokevirtual 29, 3) := by decide +kernel
theorem dX3_takeBack_20 : decode cX3_takeBack 20 = .ok (.aload_n 0, 1) := by decide +kernel
theorem dX3_takeBack_21 : decode cX3_takeBack 21 = .ok (.dup, 1) := by decide +kernel
theorem dX3_takeBack_22 : decode cX3_takeBack 22 = .ok (.getfield 18, 3) := by decide +kernel
theorem dX3_takeBack_25 : decode cX3_takeBack 25 = .ok (.iconst 1, 1) := by decide +kernel
theorem dX3_takeBack_26 : decode cX3_takeBack 26 = .ok (.isub, 1) := by decide +kernel
theorem dX3_takeBack_27 : decode cX3_takeBack 27 = .ok (.putfield 18, 3) := by decide +kernel
theorem dX3_takeBack_30 : decode cX3_takeBack 30 = .ok (.return_, 1) := by decide +kernel
set_option maxRecDepth 20000 in
theorem dX3_forgetOldest_0 : decode cX3_forgetOldest 0 = .ok (.aload_n 0, 1) := by decide +kernel
theorem dX3_forgetOldest_1 : decode cX3_forgetOldest 1 = .ok (.iconst 0, 1) := by decide +kernel
theorem dX3_forgetOldest_2 : decode cX3_forgetOldest 2 = .ok (.invokevirtual 25, 3) := by decide +kernel
theorem dX3_forgetOldest_5 : decode cX3_forgetOldest 5 = .ok (.astore_n 1, 1) := by decide +kernel
theorem dX3_forgetOldest_6 : decode cX3_forgetOldest 6 = .ok (.iconst 0, 1) := by decide +kernel
theorem dX3_forgetOldest_7 : decode cX3_forgetOldest 7 = .ok (.istore_n 2, 1) := by decide +kernel
theorem dX3_forgetOldest_8 : decode cX3_forgetOldest 8 = .ok (.iload_n 2, 1) := by decide +kernel
theorem dX3_forgetOldest_9 : decode cX3_forgetOldest 9 = .ok (.iconst 1, 1) := by decide +kernel
theorem dX3_forgetOldest_10 : decode cX3_forgetOldest 10 = .ok (.iadd, 1) := by decide +kernel
theorem dX3_forgetOldest_11 : decode cX3_forgetOldest 11 = .ok (.aload_n 0, 1) := by decide +kernel
theorem dX3_forgetOldest_12 : decode cX3_forgetOldest 12 = .ok (.getfield 11, 3) := by decide +kernel
theorem dX3_forgetOldest_15 : decode cX3_forgetOldest 15 = .ok (.arraylength, 1) := by decide +kernel
theorem dX3_forgetOldest_16 : decode cX3_forgetOldest 16 = .ok (.if_icmp .ge 23, 3) := by decide +kernel
theorem dX3_forgetOldest_19 : decode cX3_forgetOldest 19 = .ok (.aload_n 0, 1) := by decide +kernel
theorem dX3_forgetOldest_20 : decode cX3_forgetOldest 20 = .ok (.getfield 11, 3) := by decide +kernel
theorem dX3_forgetOldest_23 : decode cX3_forgetOldest 23 = .ok (.iload_n 2, 1) := by decide +kernel
theorem dX3_forgetOldest_24 : decode cX3_forgetOldest 24 = .ok (.aload_n 0, 1) := by decide +kernel
theorem dX3_forgetOldest_25 : decode cX3_forgetOldest 25 = .ok (.getfield 11, 3) := by decide +kernel
theorem dX3_forgetOldest_28 : decode cX3_forgetOldest 28 = .ok (.iload_n 2, 1) := by decide +kernel
theorem dX3_forgetOldest_29 : decode cX3_forgetOldest 29 = .ok (.iconst 1, 1) := by decide +kernel
theorem dX3_forgetOldest_30 : decode cX3_forgetOldest 30 = .ok (.iadd, 1) := by decide +kernel
theorem dX3_forgetOldest_31 : decode cX3_forgetOldest 31 = .ok (.aaload, 1) := by decide +kernel
theorem dX3_forgetOldest_32 : decode cX3_forgetOldest 32 = .ok (.aastore, 1) := by decide +kernel
theorem dX3_forgetOldest_33 : decode cX3_forgetOldest 33 = .ok (.iinc 2 1, 3) := by decide +kernel
theorem dX3_forgetOldest_36 : decode cX3_forgetOldest 36 = .ok (.goto (-28), 3) := by decide +kernel
theorem dX3_forgetOldest_39 : decode cX3_forgetOldest 39 = .ok (.aload_n 0, 1) := by decide +kernel
theorem dX3_forgetOldest_40 : decode cX3_forgetOldest 40 = .ok (.getfield 11, 3) := by decide +kernel
theorem dX3_forgetOldest_43 : decode cX3_forgetOldest 43 = .ok (.arraylength, 1) := by decide +kernel
theorem dX3_forgetOldest_44 : decode cX3_forgetOldest 44 = .ok (.ifCond .le 16, 3) := by decide +kernel
theorem dX3_forgetOldest_47 : decode cX3_forgetOldest 47 = .ok (.aload_n 0, 1) := by decide +kernel
theorem dX3_forgetOldest_48 : decode cX3_forgetOldest 48 = .ok (.getfield 11, 3) := by decide +kernel
theorem dX3_forgetOldest_51 : decode cX3_forgetOldest 51 = .ok (.aload_n 0, 1) := by decide +kernel
theorem dX3_forgetOldest_52 : decode cX3_forgetOldest 52 = .ok (.getfield 11, 3) := by decide +kernel
theorem dX3_forgetOldest_55 : decode cX3_forgetOldest 55 = .ok (.arraylength, 1) := by decide +kernel
theorem dX3_forgetOldest_56 : decode cX3_forgetOldest 56 = .ok (.iconst 1, 1) := by decide +kernel
theorem dX3_forgetOldest_57 : decode cX3_forgetOldest 57 = .ok (.isub, 1) := by decide +kernel
theorem dX3_forgetOldest_58 : decode cX3_forgetOldest 58 = .ok (.aload_n 1, 1) := by decide +kernel
theorem dX3_forgetOldest_59 : decode cX3_forgetOldest 59 = .ok (.aastore, 1) := by decide +kernel
theorem dX3_forgetOldest_60 : decode cX3_forgetOldest 60 = .ok (.aload_n 0, 1) := by decide +kernel
theorem dX3_forgetOldest_61 : decode cX3_forgetOldest 61 = .ok (.aload_n 0, 1) := by decide +kernel
theorem dX3_forgetOldest_62 : decode cX3_forgetOldest 62 = .ok (.getfield 11, 3) := by decide +kernel
theorem dX3_forgetOldest_65 : decode cX3_forgetOldest 65 = .ok (.arraylength, 1) := by decide +kernel
theorem dX3_forgetOldest_66 : decode cX3_forgetOldest 66 = .ok (.iconst 1, 1) := by decide +kernel
theorem dX3_forgetOldest_67 : decode cX3_forgetOldest 67 = .ok (.isub, 1) := by decide +kernel
theorem dX3_forgetOldest_68 : decode cX3_forgetOldest 68 = .ok (.putfield 18, 3) := by decide +kernel
theorem dX3_forgetOldest_71 : decode cX3_forgetOldest 71 = .ok (.return_, 1) := by decide +kernel
theorem dX3_stateAt_0 : decode cX3_stateAt 0 = .ok (.iload_n 1, 1) := by decide +kernel
theorem dX3_stateAt_1 : decode cX3_stateAt 1 = .ok (.ifCond .lt 21, 3) := by decide +kernel
theorem dX3_stateAt_4 : decode cX3_stateAt 4 = .ok (.iload_n 1, 1) := by decide +kernel
theorem dX3_stateAt_5 : decode cX3_stateAt 5 = .ok (.aload_n 0, 1) := by decide +kernel
theorem dX3_stateAt_6 : decode cX3_stateAt 6 = .ok (.getfield 11, 3) := by decide +kernel
theorem dX3_stateAt_9 : decode cX3_stateAt 9 = .ok (.arraylength, 1) := by decide +kernel
theorem dX3_stateAt_10 : decode cX3_stateAt 10 = .ok (.if_icmp .ge 12, 3) := by decide +kernel
theorem dX3_stateAt_13 : decode cX3_stateAt 13 = .ok (.aload_n 0, 1) := by decide +kernel
theorem dX3_stateAt_14 : decode cX3_stateAt 14 = .ok (.getfield 11, 3) := by decide +kernel
theorem dX3_stateAt_17 : decode cX3_stateAt 17 = .ok (.iload_n 1, 1) := by decide +kernel
theorem dX3_stateAt_18 : decode cX3_stateAt 18 = .ok (.aaload, 1) := by decide +kernel
theorem dX3_stateAt_19 : decode cX3_stateAt 19 = .ok (.goto 4, 3) := by decide +kernel
theorem dX3_stateAt_22 : decode cX3_stateAt 22 = .ok (.aconst_null, 1) := by decide +kernel
theorem dX3_stateAt_23 : decode cX3_stateAt 23 = .ok (.areturn, 1) := by decide +kernel
theorem dX4_init_0 : decode cX4_init 0 = .ok (.aload_n 0, 1) := by decide +kernel
theorem dX4_init_1 : decode cX4_init 1 = .ok (.invokespecial 3, 3) := by decide +kernel
theorem dX4_init_4 : decode cX4_init 4 = .ok (.aload_n 0, 1) := by decide +kernel
theorem dX4_init_5 : decode cX4_init 5 = .ok (.bipush 14, 2) := by decide +kernel
theorem dX4_init_7 : decode cX4_init 7 = .ok (.newarray .int, 2) := by decide +kernel
theorem dX4_init_9 : decode cX4_init 9 = .ok (.putfield 9, 3) := by decide +kernel
theorem dX4_init_12 : decode cX4_init 12 = .ok (.aload_n 0, 1) := by decide +kernel
theorem dX4_init_13 : decode cX4_init 13 = .ok (.iconst 4, 1) := by decide +kernel
theorem dX4_init_14 : decode cX4_init 14 = .ok (.newarray .int, 2) := by decide +kernel
theorem dX4_init_16 : decode cX4_init 16 = .ok (.putfield 15, 3) := by decide +kernel
theorem dX4_init_19 : decode cX4_init 19 = .ok (.aload_n 0, 1) := by decide +kernel
theorem dX4_init_20 : decode cX4_init 20 = .ok (.iconst 4, 1) := by decide +kernel
theorem dX4_init_21 : decode cX4_init 21 = .ok (.newarray .boolean, 2) := by decide +kernel
theorem dX4_init_23 : decode cX4_init 23 = .ok (.putfield 18, 3) := by decide +kernel
theorem dX4_init_26 : decode cX4_init 26 = .ok (.aload_n 0, 1) := by decide +kernel
theorem dX4_init_27 : decode cX4_init 27 = .ok (.aload_n 1, 1) := by decide +kernel
theorem dX4_init_28 : decode cX4_init 28 = .ok (.putfield 22, 3) := by decide +kernel
theorem dX4_init_31 : decode cX4_init 31 = .ok (.return_, 1) := by decide +kernel
set_option maxRecDepth 20000 in
theorem dX4_read_0 : decode cX4_read 0 = .ok (.aload_n 0, 1) := by decide +kernel
theorem dX4_read_1 : decode cX4_read 1 = .ok (.invokevirtual 26, 3) := by decide +kernel
theorem dX4_read_4 : decode cX4_read 4 = .ok (.aload_n 0, 1) := by decide +kernel
theorem dX4_read_5 : decode cX4_read 5 = .ok (.invokevirtual 29, 3) := by decide +kernel
theorem dX4_read_8 : decode cX4_read 8 = .ok (.ifCond .eq 31, 3) := by decide +kernel
theorem dX4_read_11 : decode cX4_read 11 = .ok (.aload_n 0, 1) := by decide +kernel
theorem dX4_read_12 : decode cX4_read 12 = .ok (.invokevirtual 33, 3) := by decide +kernel
theorem dX4_read_15 : decode cX4_read 15 = .ok (.ifCond .eq 24, 3) := by decide +kernel
theorem dX4_read_18 : decode cX4_read 18 = .ok (.aload_n 0, 1) := by decide +kernel
theorem dX4_read_19 : decode cX4_read 19 = .ok (.invokevirtual 36, 3) := by decide +kernel
theorem dX4_read_22 : decode cX4_read 22 = .ok (.ifCond .eq 17, 3) := by decide +kernel
theorem dX4_read_25 : decode cX4_read 25 = .ok (.aload_n 0, 1) := by decide +kernel
theorem dX4_read_26 : decode cX4_read 26 = .ok (.getfield 22, 3) := by decide +kernel
theorem dX4_read_29 : decode cX4_read 29 = .ok (.invokevirtual 39, 3) := by decide +kernel
theorem dX4_read_32 : decode cX4_read 32 = .ok (.ifCond .eq 7, 3) := by decide +kernel
theorem dX4_read_35 : decode cX4_read 35 = .ok (.iconst 1, 1) := by decide +kernel
theorem dX4_read_36 : decode cX4_read 36 = .ok (.goto 4, 3) := by decide +kernel
theorem dX4_read_39 : decode cX4_read 39 = .ok (.iconst 0, 1) := by decide +kernel
theorem dX4_read_40 : decode cX4_read 40 = .ok (.ireturn, 1) := by decide +kernel
theorem dX4_isPossible_0 : decode cX4_isPossible 0 = .ok (.aload_n 0, 1) := by decide +kernel
theorem dX4_isPossible_1 : decode cX4_isPossible 1 = .ok (.getfield 44, 3) := by decide +kernel
theorem dX4_isPossible_4 : decode cX4_isPossible 4 = .ok (.ifCond .eq 16, 3) := by decide +kernel
theorem dX4_isPossible_7 : decode cX4_isPossible 7 = .ok (.aload_n 0, 1) := by decide +kernel
theorem dX4_isPossible_8 : decode cX4_isPossible 8 = .ok (.getfield 48, 3) := by decide +kernel
theorem dX4_isPossible_11 : decode cX4_isPossible 11 = .ok (.bipush 30, 2) := by decide +kernel
theorem dX4_isPossible_13 : decode cX4_isPossible 13 = .ok (.if_icmp .lt 7, 3) := by decide +kernel
theorem dX4_isPossible_16 : decode cX4_isPossible 16 = .ok (.iconst 1, 1) := by decide +kernel
theorem dX4_isPossible_17 : decode cX4_isPossible 17 = .ok (.goto 4, 3) := by decide +kernel
theorem dX4_isPossible_20 : decode cX4_isPossible 20 = .ok (.iconst 0, 1) := by decide +kernel
theorem dX4_isPossible_21 : decode cX4_isPossible 21 = .ok (.ireturn, 1) := by decide +kernel
set_option maxRecDepth 20000 in
theorem dX4_copyOfLengths_0 : decode cX4_copyOfLengths 0 = .ok (.aload_n 0, 1) := by decide +kernel
theorem dX4_copyOfLengths_1 : decode cX4_copyOfLengths 1 = .ok (.getfield 9, 3) := by decide +kernel
theorem dX4_copyOfLengths_4 : decode cX4_copyOfLengths 4 = .ok (.iconst 0, 1) := by decide +kernel
theorem dX4_copyOfLengths_5 : decode cX4_copyOfLengths 5 = .ok (.aload_n 0, 1) := by decide +kernel
theorem dX4_copyOfLengths_6 : decode cX4_copyOfLengths 6 = .ok (.getfield 52, 3) := by decide +kernel
theorem dX4_copyOfLengths_9 : decode cX4_copyOfLengths 9 = .ok (.bipush 14, 2) := by decide +kernel
theorem dX4_copyOfLengths_11 : decode cX4_copyOfLengths 11 = .ok (.invokestatic 55, 3) := by decide +kernel
theorem dX4_copyOfLengths_14 : decode cX4_copyOfLengths 14 = .ok (.invokestatic 61, 3) := by decide +kernel
theorem dX4_copyOfLengths_17 : decode cX4_copyOfLengths 17 = .ok (.invokestatic 64, 3) := by decide +kernel
theorem dX4_copyOfLengths_20 : decode cX4_copyOfLengths 20 = .ok (.areturn, 1) := by decide +kernel
set_option maxRecDepth 20000 in
theorem dX4_countLeaps_0 : decode cX4_countLeaps 0 = .ok (.iconst 1, 1) := by decide +kernel
theorem dX4_countLeaps_1 : decode cX4_countLeaps 1 = .ok (.aload_n 0, 1) := by decide +kernel
theorem dX4_countLeaps_2 : decode cX4_countLeaps 2 = .ok (.getfield 70, 3) := by decide +kernel
theorem dX4_countLeaps_5 : decode cX4_countLeaps 5 = .ok (.sipush 1000, 3) := by decide +kernel
theorem dX4_countLeaps_8 : decode cX4_countLeaps 8 = .ok (.invokestatic 55, 3) := by decide +kernel
theorem dX4_countLeaps_11 : decode cX4_countLeaps 11 = .ok (.invokestatic 61, 3) := by decide +kernel
theorem dX4_countLeaps_14 : decode cX4_countLeaps 14 = .ok (.iconst 1, 1) := by decide +kernel
theorem dX4_countLeaps_15 : decode cX4_countLeaps 15 = .ok (.iadd, 1) := by decide +kernel
theorem dX4_countLeaps_16 : decode cX4_countLeaps 16 = .ok (.newarray .int, 2) := by decide +kernel
theorem dX4_countLeaps_18 : decode cX4_countLeaps 18 = .ok (.astore_n 1, 1) := by decide +kernel
theorem dX4_countLeaps_19 : decode cX4_countLeaps 19 = .ok (.iconst 0, 1) := by decide +kernel
theorem dX4_countLeaps_20 : decode cX4_countLeaps 20 = .ok (.istore_n 2, 1) := by decide +kernel
theorem dX4_countLeaps_21 : decode cX4_countLeaps 21 = .ok (.iload_n 2, 1) := by decide +kernel
theorem dX4_countLeaps_22 : decode cX4_countLeaps 22 = .ok (.iconst 1, 1) := by decide +kernel
theorem dX4_countLeaps_23 : decode cX4_countLeaps 23 = .ok (.iadd, 1) := by decide +kernel
theorem dX4_countLeaps_24 : decode cX4_countLeaps 24 = .ok (.aload_n 1, 1) := by decide +kernel
theorem dX4_countLeaps_25 : decode cX4_countLeaps 25 = .ok (.arraylength, 1) := by decide +kernel
theorem dX4_countLeaps_26 : decode cX4_countLeaps 26 = .ok (.if_icmp .ge 31, 3) := by decide +kernel
theorem dX4_countLeaps_29 : decode cX4_countLeaps 29 = .ok (.aload_n 1, 1) := by decide +kernel
theorem dX4_countLeaps_30 : decode cX4_countLeaps 30 = .ok (.iload_n 2, 1) := by decide +kernel
theorem dX4_countLeaps_31 : decode cX4_countLeaps 31 = .ok (.iconst 1, 1) := by decide +kernel
theorem dX4_countLeaps_32 : decode cX4_countLeaps 32 = .ok (.iadd, 1) := by decide +kernel
theorem dX4_countLeaps_33 : decode cX4_countLeaps 33 = .ok (.aload_n 1, 1) := by decide +kernel
theorem dX4_countLeaps_34 : decode cX4_countLeaps 34 = .ok (.iload_n 2, 1) := by decide +kernel
theorem dX4_countLeaps_35 : decode cX4_countLeaps 35 = .ok (.iaload, 1) := by decide +kernel
theorem dX4_countLeaps_36 : decode cX4_countLeaps 36 = .ok (.aload_n 0, 1) := by decide +kernel
theorem dX4_countLeaps_37 : decode cX4_countLeaps 37 = .ok (.iload_n 2, 1) := by decide +kernel
theorem dX4_countLeaps_38 : decode cX4_countLeaps 38 = .ok (.invokevirtual 73, 3) := by decide +kernel
theorem dX4_countLeaps_41 : decode cX4_countLeaps 41 = .ok (.ifCond .eq 7, 3) := by decide +kernel
theorem dX4_countLeaps_44 : decode cX4_countLeaps 44 = .ok (.iconst 1, 1) := by decide +kernel
theorem dX4_countLeaps_45 : decode cX4_countLeaps 45 = .ok (.goto 4, 3) := by decide +kernel
theorem dX4_countLeaps_48 : decode cX4_countLeaps 48 = .ok (.iconst 0, 1) := by decide +kernel
theorem dX4_countLeaps_49 : decode cX4_countLeaps 49 = .ok (.iadd, 1) := by decide +kernel
theorem dX4_countLeaps_50 : decode cX4_countLeaps 50 = .ok (.iastore, 1) := by decide +kernel
theorem dX4_countLeaps_51 : decode cX4_countLeaps 51 = .ok (.iinc 2 1, 3) := by decide +kernel
theorem dX4_countLeaps_54 : decode cX4_countLeaps 54 = .ok (.goto (-33), 3) := by decide +kernel
theorem dX4_countLeaps_57 : decode cX4_countLeaps 57 = .ok (.aload_n 1, 1) := by decide +kernel
theorem dX4_countLeaps_58 : decode cX4_countLeaps 58 = .ok (.areturn, 1) := by decide +kernel
theorem dX4_leapsBy_0 : decode cX4_leapsBy 0 = .ok (.aload_n 0, 1) := by decide +kernel
theorem dX4_leapsBy_1 : decode cX4_leapsBy 1 = .ok (.getfield 77, 3) := by decide +kernel
theorem dX4_leapsBy_4 : decode cX4_leapsBy 4 = .ok (.iconst 2, 1) := by decide +kernel
theorem dX4_leapsBy_5 : decode cX4_leapsBy 5 = .ok (.if_icmp .ne 21, 3) := by decide +kernel
theorem dX4_leapsBy_8 : decode cX4_leapsBy 8 = .ok (.aload_n 0, 1) := by decide +kernel
theorem dX4_leapsBy_9 : decode cX4_leapsBy 9 = .ok (.getfield 80, 3) := by decide +kernel
theorem dX4_leapsBy_12 : decode cX4_leapsBy 12 = .ok (.iload_n 1, 1) := by decide +kernel
theorem dX4_leapsBy_13 : decode cX4_leapsBy 13 = .ok (.ishr, 1) := by decide +kernel
theorem dX4_leapsBy_14 : decode cX4_leapsBy 14 = .ok (.iconst 1, 1) := by decide +kernel
theorem dX4_leapsBy_15 : decode cX4_leapsBy 15 = .ok (.iand, 1) := by decide +kernel
theorem dX4_leapsBy_16 : decode cX4_leapsBy 16 = .ok (.iconst 1, 1) := by decide +kernel
theorem dX4_leapsBy_17 : decode cX4_leapsBy 17 = .ok (.if_icmp .ne 7, 3) := by decide +kernel
theorem dX4_leapsBy_20 : decode cX4_leapsBy 20 = .ok (.iconst 1, 1) := by decide +kernel
theorem dX4_leapsBy_21 : decode cX4_leapsBy 21 = .ok (.goto 4, 3) := by decide +kernel
theorem dX4_leapsBy_24 : decode cX4_leapsBy 24 = .ok (.iconst 0, 1) := by decide +kernel
theorem dX4_leapsBy_25 : decode cX4_leapsBy 25 = .ok (.ireturn, 1) := by decide +kernel
theorem dX4_leapsBy_26 : decode cX4_leapsBy 26 = .ok (.iconst 0, 1) := by decide +kernel
theorem dX4_leapsBy_27 : decode cX4_leapsBy 27 = .ok (.istore_n 2, 1) := by decide +kernel
theorem dX4_leapsBy_28 : decode cX4_leapsBy 28 = .ok (.iconst 0, 1) := by decide +kernel
theorem dX4_leapsBy_29 : decode cX4_leapsBy 29 = .ok (.istore_n 3, 1) := by decide +kernel
theorem dX4_leapsBy_30 : decode cX4_leapsBy 30 = .ok (.iload_n 3, 1) := by decide +kernel
theorem dX4_leapsBy_31 : decode cX4_leapsBy 31 = .ok (.aload_n 0, 1) := by decide +kernel
theorem dX4_leapsBy_32 : decode cX4_leapsBy 32 = .ok (.getfield 83, 3) := by decide +kernel
theorem dX4_leapsBy_35 : decode cX4_leapsBy 35 = .ok (.if_icmp .ge 54, 3) := by decide +kernel
theorem dX4_leapsBy_38 : decode cX4_leapsBy 38 = .ok (.iload_n 3, 1) := by decide +kernel
theorem dX4_leapsBy_39 : decode cX4_leapsBy 39 = .ok (.aload_n 0, 1) := by decide +kernel
theorem dX4_leapsBy_40 : decode cX4_leapsBy 40 = .ok (.getfield 15, 3) := by decide +kernel
theorem dX4_leapsBy_43 : decode cX4_leapsBy 43 = .ok (.arraylength, 1) := by decide +kernel
theorem dX4_leapsBy_44 : decode cX4_leapsBy 44 = .ok (.if_icmp .ge 45, 3) := by decide +kernel
theorem dX4_leapsBy_47 : decode cX4_leapsBy 47 = .ok (.iload_n 3, 1) := by decide +kernel
theorem dX4_leapsBy_48 : decode cX4_leapsBy 48 = .ok (.aload_n 0, 1) := by decide +kernel
theorem dX4_leapsBy_49 : decode cX4_leapsBy 49 = .ok (.getfield 18, 3) := by decide +kernel
theorem dX4_leapsBy_52 : decode cX4_leapsBy 52 = .ok (.arraylength, 1) := by decide +kernel
theorem dX4_leapsBy_53 : decode cX4_leapsBy 53 = .ok (.if_icmp .ge 36, 3) := by decide +kernel
theorem dX4_leapsBy_56 : decode cX4_leapsBy 56 = .ok (.aload_n 0, 1) := by decide +kernel
theorem dX4_leapsBy_57 : decode cX4_leapsBy 57 = .ok (.getfield 15, 3) := by decide +kernel
theorem dX4_leapsBy_60 : decode cX4_leapsBy 60 = .ok (.iload_n 3, 1) := by decide +kernel
theorem dX4_leapsBy_61 : decode cX4_leapsBy 61 = .ok (.iaload, 1) := by decide +kernel
theorem dX4_leapsBy_62 : decode cX4_leapsBy 62 = .ok (.ifCond .le 21, 3) := by decide +kernel
theorem dX4_leapsBy_65 : decode cX4_leapsBy 65 = .ok (.iload_n 1, 1) := by decide +kernel
theorem dX4_leapsBy_66 : decode cX4_leapsBy 66 = .ok (.aload_n 0, 1) := by decide +kernel
theorem dX4_leapsBy_67 : decode cX4_leapsBy 67 = .ok (.getfield 15, 3) := by decide +kernel
theorem dX4_leapsBy_70 : decode cX4_leapsBy 70 = .ok (.iload_n 3, 1) := by decide +kernel
theorem dX4_leapsBy_71 : decode cX4_leapsBy 71 = .ok (.iaload, 1) := by decide +kernel
theorem dX4_leapsBy_72 : decode cX4_leapsBy 72 = .ok (.irem, 1) := by decide +kernel
theorem dX4_leapsBy_73 : decode cX4_leapsBy 73 = .ok (.ifCond .ne 10, 3) := by decide +kernel
theorem dX4_leapsBy_76 : decode cX4_leapsBy 76 = .ok (.aload_n 0, 1) := by decide +kernel
theorem dX4_leapsBy_77 : decode cX4_leapsBy 77 = .ok (.getfield 18, 3) := by decide +kernel
theorem dX4_leapsBy_80 : decode cX4_leapsBy 80 = .ok (.iload_n 3, 1) := by decide +kernel
theorem dX4_leapsBy_81 : decode cX4_leapsBy 81 = .ok (.baload, 1) := by decide +kernel
theorem dX4_leapsBy_82 : decode cX4_leapsBy 82 = .ok (.istore_n 2, 1) := by decide +kernel
theorem dX4_leapsBy_83 : decode cX4_leapsBy 83 = .ok (.iinc 3 1, 3) := by decide +kernel
theorem dX4_leapsBy_86 : decode cX4_leapsBy 86 = .ok (.goto (-56), 3) := by decide +kernel
theorem dX4_leapsBy_89 : decode cX4_leapsBy 89 = .ok (.iload_n 2, 1) := by decide +kernel
theorem dX4_leapsBy_90 : decode cX4_leapsBy 90 = .ok (.ireturn, 1) := by decide +kernel
set_option maxRecDepth 20000 in
theorem dX4_reset_0 : decode cX4_reset 0 = .ok (.aload_n 0, 1) := by decide +kernel
theorem dX4_reset_1 : decode cX4_reset 1 = .ok (.getfield 22, 3) := by decide +kernel
theorem dX4_reset_4 : decode cX4_reset 4 = .ok (.invokevirtual 86, 3) := by decide +kernel
theorem dX4_reset_7 : decode cX4_reset 7 = .ok (.aload_n 0, 1) := by decide +kernel
theorem dX4_reset_8 : decode cX4_reset 8 = .ok (.iconst 1, 1) := by decide +kernel
theorem dX4_reset_9 : decode cX4_reset 9 = .ok (.putfield 44, 3) := by decide +kernel
theorem dX4_reset_12 : decode cX4_reset 12 = .ok (.aload_n 0, 1) := by decide +kernel
theorem dX4_reset_13 : decode cX4_reset 13 = .ok (.iconst 0, 1) := by decide +kernel
theorem dX4_reset_14 : decode cX4_reset 14 = .ok (.putfield 52, 3) := by decide +kernel
theorem dX4_reset_17 : decode cX4_reset 17 = .ok (.aload_n 0, 1) := by decide +kernel
theorem dX4_reset_18 : decode cX4_reset 18 = .ok (.iconst 0, 1) := by decide +kernel
theorem dX4_reset_19 : decode cX4_reset 19 = .ok (.putfield 48, 3) := by decide +kernel
theorem dX4_reset_22 : decode cX4_reset 22 = .ok (.aload_n 0, 1) := by decide +kernel
theorem dX4_reset_23 : decode cX4_reset 23 = .ok (.iconst 0, 1) := by decide +kernel
theorem dX4_reset_24 : decode cX4_reset 24 = .ok (.putfield 89, 3) := by decide +kernel
theorem dX4_reset_27 : decode cX4_reset 27 = .ok (.aload_n 0, 1) := by decide +kernel
theorem dX4_reset_28 : decode cX4_reset 28 = .ok (.iconst 0, 1) := by decide +kernel
theorem dX4_reset_29 : decode cX4_reset 29 = .ok (.putfield 92, 3) := by decide +kernel
theorem dX4_reset_32 : decode cX4_reset 32 = .ok (.aload_n 0, 1) := by decide +kernel
theorem dX4_reset_33 : decode cX4_reset 33 = .ok (.iconst 0, 1) := by decide +kernel
theorem dX4_reset_34 : decode cX4_reset 34 = .ok (.putfield 95, 3) := by decide +kernel
theorem dX4_reset_37 : decode cX4_reset 37 = .ok (.aload_n 0, 1) := by decide +kernel
theorem dX4_reset_38 : decode cX4_reset 38 = .ok (.iconst 0, 1) := by decide +kernel
theorem dX4_reset_39 : decode cX4_reset 39 = .ok (.putfield 98, 3) := by decide +kernel
theorem dX4_reset_42 : decode cX4_reset 42 = .ok (.aload_n 0, 1) := by decide +kernel
theorem dX4_reset_43 : decode cX4_reset 43 = .ok (.iconst 0, 1) := by decide +kernel
theorem dX4_reset_44 : decode cX4_reset 44 = .ok (.putfield 77, 3) := by decide +kernel
theorem dX4_reset_47 : decode cX4_reset 47 = .ok (.aload_n 0, 1) := by decide +kernel
theorem dX4_reset_48 : decode cX4_reset 48 = .ok (.iconst 0, 1) := by decide +kernel
theorem dX4_reset_49 : decode cX4_reset 49 = .ok (.putfield 83, 3) := by decide +kernel
theorem dX4_reset_52 : decode cX4_reset 52 = .ok (.aload_n 0, 1) := by decide +kernel
theorem dX4_reset_53 : decode cX4_reset 53 = .ok (.iconst 0, 1) := by decide +kernel
theorem dX4_reset_54 : decode cX4_reset 54 = .ok (.putfield 80, 3) := by decide +kernel
theorem dX4_reset_57 : decode cX4_reset 57 = .ok (.aload_n 0, 1) := by decide +kernel
theorem dX4_reset_58 : decode cX4_reset 58 = .ok (.iconst 1, 1) := by decide +kernel
theorem dX4_reset_59 : decode cX4_reset 59 = .ok (.putfield 70, 3) := by decide +kernel
theorem dX4_reset_62 : decode cX4_reset 62 = .ok (.aload_n 0, 1) := by decide +kernel
theorem dX4_reset_63 : decode cX4_reset 63 = .ok (.bipush 7, 2) := by decide +kernel
theorem dX4_reset_65 : decode cX4_reset 65 = .ok (.putfield 101, 3) := by decide +kernel
theorem dX4_reset_68 : decode cX4_reset 68 = .ok (.aload_n 0, 1) := by decide +kernel
theorem dX4_reset_69 : decode cX4_reset 69 = .ok (.iconst 0, 1) := by decide +kernel
theorem dX4_reset_70 : decode cX4_reset 70 = .ok (.putfield 104, 3) := by decide +kernel
theorem dX4_reset_73 : decode cX4_reset 73 = .ok (.aload_n 0, 1) := by decide +kernel
theorem dX4_reset_74 : decode cX4_reset 74 = .ok (.iconst 4, 1) := by decide +kernel
theorem dX4_reset_75 : decode cX4_reset 75 = .ok (.putfield 107, 3) := by decide +kernel
theorem dX4_reset_78 : decode cX4_reset 78 = .ok (.return_, 1) := by decide +kernel
set_option maxRecDepth 20000 in
theorem dX4_allow_0 : decode cX4_allow 0 = .ok (.iload_n 1, 1) := by decide +kernel
theorem dX4_allow_1 : decode cX4_allow 1 = .ok (.iload_n 2, 1) := by decide +kernel
theorem dX4_allow_2 : decode cX4_allow 2 = .ok (.iload_n 3, 1) := by decide +kernel
theorem dX4_allow_3 : decode cX4_allow 3 = .ok (.invokestatic 110, 3) := by decide +kernel
theorem dX4_allow_6 : decode cX4_allow 6 = .ok (.ifCond .ne 8, 3) := by decide +kernel
theorem dX4_allow_9 : decode cX4_allow 9 = .ok (.aload_n 0, 1) := by decide +kernel
theorem dX4_allow_10 : decode cX4_allow 10 = .ok (.iconst 0, 1) := by decide +kernel
theorem dX4_allow_11 : decode cX4_allow 11 = .ok (.putfield 44, 3) := by decide +kernel
theorem dX4_allow_14 : decode cX4_allow 14 = .ok (.return_, 1) := by decide +kernel
set_option maxRecDepth 20000 in
theorem dX4_readMonths_0 : decode cX4_readMonths 0 = .ok (.aload_n 0, 1) := by decide +kernel
theorem dX4_readMonths_1 : decode cX4_readMonths 1 = .ok (.getfield 22, 3) := by decide +kernel
theorem dX4_readMonths_4 : decode cX4_readMonths 4 = .ok (.bipush 109, 2) := by decide +kernel
theorem dX4_readMonths_6 : decode cX4_readMonths 6 = .ok (.invokevirtual 114, 3) := by decide +kernel
theorem dX4_readMonths_9 : decode cX4_readMonths 9 = .ok (.ifCond .eq 10, 3) := by decide +kernel
theorem dX4_readMonths_12 : decode cX4_readMonths 12 = .ok (.aload_n 0, 1) := by decide +kernel
theorem dX4_readMonths_13 : decode cX4_readMonths 13 = .ok (.invokevirtual 118, 3) := by decide +kernel
theorem dX4_readMonths_16 : decode cX4_readMonths 16 = .ok (.ifCond .ne 5, 3) := by decide +kernel
theorem dX4_readMonths_19 : decode cX4_readMonths 19 = .ok (.iconst 0, 1) := by decide +kernel
theorem dX4_readMonths_20 : decode cX4_readMonths 20 = .ok (.ireturn, 1) := by decide +kernel
theorem dX4_readMonths_21 : decode cX4_readMonths 21 = .ok (.iconst 1, 1) := by decide +kernel
theorem dX4_readMonths_22 : decode cX4_readMonths 22 = .ok (.istore_n 1, 1) := by decide +kernel
theorem dX4_readMonths_23 : decode cX4_readMonths 23 = .ok (.iload_n 1, 1) := by decide +kernel
theorem dX4_readMonths_24 : decode cX4_readMonths 24 = .ok (.bipush 14, 2) := by decide +kernel
theorem dX4_readMonths_26 : decode cX4_readMonths 26 = .ok (.if_icmp .ge 30, 3) := by decide +kernel
theorem dX4_readMonths_29 : decode cX4_readMonths 29 = .ok (.aload_n 0, 1) := by decide +kernel
theorem dX4_readMonths_30 : decode cX4_readMonths 30 = .ok (.getfield 22, 3) := by decide +kernel
theorem dX4_readMonths_33 : decode cX4_readMonths 33 = .ok (.bipush 44, 2) := by decide +kernel
theorem dX4_readMonths_35 : decode cX4_readMonths 35 = .ok (.invokevirtual 114, 3) := by decide +kernel
theorem dX4_readMonths_38 : decode cX4_readMonths 38 = .ok (.ifCond .eq 18, 3) := by decide +kernel
theorem dX4_readMonths_41 : decode cX4_readMonths 41 = .ok (.aload_n 0, 1) := by decide +kernel
theorem dX4_readMonths_42 : decode cX4_readMonths 42 = .ok (.invokevirtual 118, 3) := by decide +kernel
theorem dX4_readMonths_45 : decode cX4_readMonths 45 = .ok (.ifCond .ne 5, 3) := by decide +kernel
theorem dX4_readMonths_48 : decode cX4_readMonths 48 = .ok (.iconst 0, 1) := by decide +kernel
theorem dX4_readMonths_49 : decode cX4_readMonths 49 = .ok (.ireturn, 1) := by decide +kernel
theorem dX4_readMonths_50 : decode cX4_readMonths 50 = .ok (.iinc 1 1, 3) := by decide +kernel
theorem dX4_readMonths_53 : decode cX4_readMonths 53 = .ok (.goto (-30), 3) := by decide +kernel
theorem dX4_readMonths_56 : decode cX4_readMonths 56 = .ok (.iconst 1, 1) := by decide +kernel
theorem dX4_readMonths_57 : decode cX4_readMonths 57 = .ok (.ireturn, 1) := by decide +kernel
set_option maxRecDepth 20000 in
theorem dX4_readMonth_0 : decode cX4_readMonth 0 = .ok (.aload_n 0, 1) := by decide +kernel
theorem dX4_readMonth_1 : decode cX4_readMonth 1 = .ok (.getfield 22, 3) := by decide +kernel
theorem dX4_readMonth_4 : decode cX4_readMonth 4 = .ok (.invokevirtual 121, 3) := by decide +kernel
theorem dX4_readMonth_7 : decode cX4_readMonth 7 = .ok (.ifCond .ne 5, 3) := by decide +kernel
theorem dX4_readMonth_10 : decode cX4_readMonth 10 = .ok (.iconst 0, 1) := by decide +kernel
theorem dX4_readMonth_11 : decode cX4_readMonth 11 = .ok (.ireturn, 1) := by decide +kernel
theorem dX4_readMonth_12 : decode cX4_readMonth 12 = .ok (.aload_n 0, 1) := by decide +kernel
theorem dX4_readMonth_13 : decode cX4_readMonth 13 = .ok (.aload_n 0, 1) := by decide +kernel
theorem dX4_readMonth_14 : decode cX4_readMonth 14 = .ok (.getfield 22, 3) := by decide +kernel
theorem dX4_readMonth_17 : decode cX4_readMonth 17 = .ok (.invokevirtual 124, 3) := by decide +kernel
theorem dX4_readMonth_20 : decode cX4_readMonth 20 = .ok (.iconst 1, 1) := by decide +kernel
theorem dX4_readMonth_21 : decode cX4_readMonth 21 = .ok (.bipush 60, 2) := by decide +kernel
theorem dX4_readMonth_23 : decode cX4_readMonth 23 = .ok (.invokevirtual 128, 3) := by decide +kernel
theorem dX4_readMonth_26 : decode cX4_readMonth 26 = .ok (.aload_n 0, 1) := by decide +kernel
theorem dX4_readMonth_27 : decode cX4_readMonth 27 = .ok (.dup, 1) := by decide +kernel
theorem dX4_readMonth_28 : decode cX4_readMonth 28 = .ok (.getfield 48, 3) := by decide +kernel
theorem dX4_readMonth_31 : decode cX4_readMonth 31 = .ok (.aload_n 0, 1) := by decide +kernel
theorem dX4_readMonth_32 : decode cX4_readMonth 32 = .ok (.getfield 22, 3) := by decide +kernel
theorem dX4_readMonth_35 : decode cX4_readMonth 35 = .ok (.invokevirtual 124, 3) := by decide +kernel
theorem dX4_readMonth_38 : decode cX4_readMonth 38 = .ok (.iadd, 1) := by decide +kernel
theorem dX4_readMonth_39 : decode cX4_readMonth 39 = .ok (.putfield 48, 3) := by decide +kernel
theorem dX4_readMonth_42 : decode cX4_readMonth 42 = .ok (.aload_n 0, 1) := by decide +kernel
theorem dX4_readMonth_43 : decode cX4_readMonth 43 = .ok (.getfield 52, 3) := by decide +kernel
theorem dX4_readMonth_46 : decode cX4_readMonth 46 = .ok (.ifCond .lt 41, 3) := by decide +kernel
theorem dX4_readMonth_49 : decode cX4_readMonth 49 = .ok (.aload_n 0, 1) := by decide +kernel
theorem dX4_readMonth_50 : decode cX4_readMonth 50 = .ok (.getfield 52, 3) := by decide +kernel
theorem dX4_readMonth_53 : decode cX4_readMonth 53 = .ok (.aload_n 0, 1) := by decide +kernel
theorem dX4_readMonth_54 : decode cX4_readMonth 54 = .ok (.getfield 9, 3) := by decide +kernel
theorem dX4_readMonth_57 : decode cX4_readMonth 57 = .ok (.arraylength, 1) := by decide +kernel
theorem dX4_readMonth_58 : decode cX4_readMonth 58 = .ok (.if_icmp .ge 29, 3) := by decide +kernel
theorem dX4_readMonth_61 : decode cX4_readMonth 61 = .ok (.aload_n 0, 1) := by decide +kernel
theorem dX4_readMonth_62 : decode cX4_readMonth 62 = .ok (.getfield 9, 3) := by decide +kernel
theorem dX4_readMonth_65 : decode cX4_readMonth 65 = .ok (.aload_n 0, 1) := by decide +kernel
theorem dX4_readMonth_66 : decode cX4_readMonth 66 = .ok (.getfield 52, 3) := by decide +kernel
theorem dX4_readMonth_69 : decode cX4_readMonth 69 = .ok (.aload_n 0, 1) := by decide +kernel
theorem dX4_readMonth_70 : decode cX4_readMonth 70 = .ok (.getfield 22, 3) := by decide +kernel
theorem dX4_readMonth_73 : decode cX4_readMonth 73 = .ok (.invokevirtual 124, 3) := by decide +kernel
theorem dX4_readMonth_76 : decode cX4_readMonth 76 = .ok (.iastore, 1) := by decide +kernel
theorem dX4_readMonth_77 : decode cX4_readMonth 77 = .ok (.aload_n 0, 1) := by decide +kernel
theorem dX4_readMonth_78 : decode cX4_readMonth 78 = .ok (.dup, 1) := by decide +kernel
theorem dX4_readMonth_79 : decode cX4_readMonth 79 = .ok (.getfield 52, 3) := by decide +kernel
theorem dX4_readMonth_82 : decode cX4_readMonth 82 = .ok (.iconst 1, 1) := by decide +kernel
theorem dX4_readMonth_83 : decode cX4_readMonth 83 = .ok (.iadd, 1) := by decide +kernel
theorem dX4_readMonth_84 : decode cX4_readMonth 84 = .ok (.putfield 52, 3) := by decide +kernel
theorem dX4_readMonth_87 : decode cX4_readMonth 87 = .ok (.iconst 1, 1) := by decide +kernel
theorem dX4_readMonth_88 : decode cX4_readMonth 88 = .ok (.ireturn, 1) := by decide +kernel
set_option maxRecDepth 20000 in
theorem dX4_readFirstDay_0 : decode cX4_readFirstDay 0 = .ok (.aload_n 0, 1) := by decide +kernel
theorem dX4_readFirstDay_1 : decode cX4_readFirstDay 1 = .ok (.getfield 22, 3) := by decide +kernel
theorem dX4_readFirstDay_4 : decode cX4_readFirstDay 4 = .ok (.bipush 59, 2) := by decide +kernel
theorem dX4_readFirstDay_6 : decode cX4_readFirstDay 6 = .ok (.invokevirtual 114, 3) := by decide +kernel
theorem dX4_readFirstDay_9 : decode cX4_readFirstDay 9 = .ok (.ifCond .eq 15, 3) := by decide +kernel
theorem dX4_readFirstDay_12 : decode cX4_readFirstDay 12 = .ok (.aload_n 0, 1) := by decide +kernel
theorem dX4_readFirstDay_13 : decode cX4_readFirstDay 13 = .ok (.getfield 22, 3) := by decide +kernel
theorem dX4_readFirstDay_16 : decode cX4_readFirstDay 16 = .ok (.bipush 101, 2) := by decide +kernel
theorem dX4_readFirstDay_18 : decode cX4_readFirstDay 18 = .ok (.invokevirtual 114, 3) := by decide +kernel
theorem dX4_readFirstDay_21 : decode cX4_readFirstDay 21 = .ok (.ifCond .ne 5, 3) := by decide +kernel
theorem dX4_readFirstDay_24 : decode cX4_readFirstDay 24 = .ok (.iconst 0, 1) := by decide +kernel
theorem dX4_readFirstDay_25 : decode cX4_readFirstDay 25 = .ok (.ireturn, 1) := by decide +kernel
theorem dX4_readFirstDay_26 : decode cX4_readFirstDay 26 = .ok (.aload_n 0, 1) := by decide +kernel
theorem dX4_readFirstDay_27 : decode cX4_readFirstDay 27 = .ok (.getfield 22, 3) := by decide +kernel
theorem dX4_readFirstDay_30 : decode cX4_readFirstDay 30 = .ok (.bipush 45, 2) := by decide +kernel
theorem dX4_readFirstDay_32 : decode cX4_readFirstDay 32 = .ok (.invokevirtual 114, 3) := by decide +kernel
theorem dX4_readFirstDay_35 : decode cX4_readFirstDay 35 = .ok (.istore_n 1, 1) := by decide +kernel
theorem dX4_readFirstDay_36 : decode cX4_readFirstDay 36 = .ok (.aload_n 0, 1) := by decide +kernel
theorem dX4_readFirstDay_37 : decode cX4_readFirstDay 37 = .ok (.getfield 22, 3) := by decide +kernel
theorem dX4_readFirstDay_40 : decode cX4_readFirstDay 40 = .ok (.invokevirtual 121, 3) := by decide +kernel
theorem dX4_readFirstDay_43 : decode cX4_readFirstDay 43 = .ok (.ifCond .ne 5, 3) := by decide +kernel
theorem dX4_readFirstDay_46 : decode cX4_readFirstDay 46 = .ok (.iconst 0, 1) := by decide +kernel
theorem dX4_readFirstDay_47 : decode cX4_readFirstDay 47 = .ok (.ireturn, 1) := by decide +kernel
theorem dX4_readFirstDay_48 : decode cX4_readFirstDay 48 = .ok (.aload_n 0, 1) := by decide +kernel
theorem dX4_readFirstDay_49 : decode cX4_readFirstDay 49 = .ok (.iload_n 1, 1) := by decide +kernel
theorem dX4_readFirstDay_50 : decode cX4_readFirstDay 50 = .ok (.ifCond .eq 14, 3) := by decide +kernel
theorem dX4_readFirstDay_53 : decode cX4_readFirstDay 53 = .ok (.aload_n 0, 1) := by decide +kernel
theorem dX4_readFirstDay_54 : decode cX4_readFirstDay 54 = .ok (.getfield 22, 3) := by decide +kernel
theorem dX4_readFirstDay_57 : decode cX4_readFirstDay 57 = .ok (.invokevirtual 124, 3) := by decide +kernel
theorem dX4_readFirstDay_60 : decode cX4_readFirstDay 60 = .ok (.ineg, 1) := by decide +kernel
theorem dX4_readFirstDay_61 : decode cX4_readFirstDay 61 = .ok (.goto 10, 3) := by decide +kernel
theorem dX4_readFirstDay_64 : decode cX4_readFirstDay 64 = .ok (.aload_n 0, 1) := by decide +kernel
theorem dX4_readFirstDay_65 : decode cX4_readFirstDay 65 = .ok (.getfield 22, 3) := by decide +kernel
theorem dX4_readFirstDay_68 : decode cX4_readFirstDay 68 = .ok (.invokevirtual 124, 3) := by decide +kernel
theorem dX4_readFirstDay_71 : decode cX4_readFirstDay 71 = .ok (.putfield 89, 3) := by decide +kernel
theorem dX4_readFirstDay_74 : decode cX4_readFirstDay 74 = .ok (.aload_n 0, 1) := by decide +kernel
theorem dX4_readFirstDay_75 : decode cX4_readFirstDay 75 = .ok (.aload_n 0, 1) := by decide +kernel
theorem dX4_readFirstDay_76 : decode cX4_readFirstDay 76 = .ok (.getfield 89, 3) := by decide +kernel
theorem dX4_readFirstDay_79 : decode cX4_readFirstDay 79 = .ok (.ldc 132, 2) := by decide +kernel
theorem dX4_readFirstDay_81 : decode cX4_readFirstDay 81 = .ok (.ldc 133, 2) := by decide +kernel
theorem dX4_readFirstDay_83 : decode cX4_readFirstDay 83 = .ok (.invokevirtual 128, 3) := by decide +kernel
theorem dX4_readFirstDay_86 : decode cX4_readFirstDay 86 = .ok (.iconst 1, 1) := by decide +kernel
theorem dX4_readFirstDay_87 : decode cX4_readFirstDay 87 = .ok (.ireturn, 1) := by decide +kernel
set_option maxRecDepth 20000 in
theorem dX4_readParts_0 : decode cX4_readParts 0 = .ok (.iconst 0, 1) := by decide +kernel
theorem dX4_readParts_1 : decode cX4_readParts 1 = .ok (.istore_n 1, 1) := by decide +kernel
theorem dX4_readParts_2 : decode cX4_readParts 2 = .ok (.iconst 0, 1) := by decide +kernel
theorem dX4_readParts_3 : decode cX4_readParts 3 = .ok (.istore_n 2, 1) := by decide +kernel
theorem dX4_readParts_4 : decode cX4_readParts 4 = .ok (.iload_n 2, 1) := by decide +kernel
theorem dX4_readParts_5 : decode cX4_readParts 5 = .ok (.iconst 3, 1) := by decide +kernel
theorem dX4_readParts_6 : decode cX4_readParts 6 = .ok (.if_icmp .ge 161, 3) := by decide +kernel
theorem dX4_readParts_9 : decode cX4_readParts 9 = .ok (.iload_n 1, 1) := by decide +kernel
theorem dX4_readParts_10 : decode cX4_readParts 10 = .ok (.iconst 3, 1) := by decide +kernel
theorem dX4_readParts_11 : decode cX4_readParts 11 = .ok (.if_icmp .ge 156, 3) := by decide +kernel
theorem dX4_readParts_14 : decode cX4_readParts 14 = .ok (.aload_n 0, 1) := by decide +kernel
theorem dX4_readParts_15 : decode cX4_readParts 15 = .ok (.getfield 22, 3) := by decide +kernel
theorem dX4_readParts_18 : decode cX4_readParts 18 = .ok (.bipush 59, 2) := by decide +kernel
theorem dX4_readParts_20 : decode cX4_readParts 20 = .ok (.invokevirtual 114, 3) := by decide +kernel
theorem dX4_readParts_23 : decode cX4_readParts 23 = .ok (.ifCond .eq 144, 3) := by decide +kernel
theorem dX4_readParts_26 : decode cX4_readParts 26 = .ok (.iconst 0, 1) := by decide +kernel
theorem dX4_readParts_27 : decode cX4_readParts 27 = .ok (.istore_n 3, 1) := by decide +kernel
theorem dX4_readParts_28 : decode cX4_readParts 28 = .ok (.iload_n 1, 1) := by decide +kernel
theorem dX4_readParts_29 : decode cX4_readParts 29 = .ok (.iconst 1, 1) := by decide +kernel
theorem dX4_readParts_30 : decode cX4_readParts 30 = .ok (.if_icmp .ge 25, 3) := by decide +kernel
theorem dX4_readParts_33 : decode cX4_readParts 33 = .ok (.aload_n 0, 1) := by decide +kernel
theorem dX4_readParts_34 : decode cX4_readParts 34 = .ok (.getfield 22, 3) := by decide +kernel
theorem dX4_readParts_37 : decode cX4_readParts 37 = .ok (.bipush 100, 2) := by decide +kernel
theorem dX4_readParts_39 : decode cX4_readParts 39 = .ok (.invokevirtual 114, 3) := by decide +kernel
theorem dX4_readParts_42 : decode cX4_readParts 42 = .ok (.ifCond .eq 13, 3) := by decide +kernel
theorem dX4_readParts_45 : decode cX4_readParts 45 = .ok (.iconst 1, 1) := by decide +kernel
theorem dX4_readParts_46 : decode cX4_readParts 46 = .ok (.istore_n 1, 1) := by decide +kernel
theorem dX4_readParts_47 : decode cX4_readParts 47 = .ok (.aload_n 0, 1) := by decide +kernel
theorem dX4_readParts_48 : decode cX4_readParts 48 = .ok (.invokevirtual 134, 3) := by decide +kernel
theorem dX4_readParts_51 : decode cX4_readParts 51 = .ok (.istore_n 3, 1) := by decide +kernel
theorem dX4_readParts_52 : decode cX4_readParts 52 = .ok (.goto 103, 3) := by decide +kernel
theorem dX4_readParts_55 : decode cX4_readParts 55 = .ok (.iload_n 1, 1) := by decide +kernel
theorem dX4_readParts_56 : decode cX4_readParts 56 = .ok (.iconst 1, 1) := by decide +kernel
theorem dX4_readParts_57 : decode cX4_readParts 57 = .ok (.if_icmp .ge 25, 3) := by decide +kernel
theorem dX4_readParts_60 : decode cX4_readParts 60 = .ok (.aload_n 0, 1) := by decide +kernel
theorem dX4_readParts_61 : decode cX4_readParts 61 = .ok (.getfield 22, 3) := by decide +kernel
theorem dX4_readParts_64 : decode cX4_readParts 64 = .ok (.bipush 105, 2) := by decide +kernel
theorem dX4_readParts_66 : decode cX4_readParts 66 = .ok (.invokevirtual 114, 3) := by decide +kernel
theorem dX4_readParts_69 : decode cX4_readParts 69 = .ok (.ifCond .eq 13, 3) := by decide +kernel
theorem dX4_readParts_72 : decode cX4_readParts 72 = .ok (.iconst 1, 1) := by decide +kernel
theorem dX4_readParts_73 : decode cX4_readParts 73 = .ok (.istore_n 1, 1) := by decide +kernel
theorem dX4_readParts_74 : decode cX4_readParts 74 = .ok (.aload_n 0, 1) := by decide +kernel
theorem dX4_readParts_75 : decode cX4_readParts 75 = .ok (.invokevirtual 137, 3) := by decide +kernel
theorem dX4_readParts_78 : decode cX4_readParts 78 = .ok (.istore_n 3, 1) := by decide +kernel
theorem dX4_readParts_79 : decode cX4_readParts 79 = .ok (.goto 76, 3) := by decide +kernel
theorem dX4_readParts_82 : decode cX4_readParts 82 = .ok (.iload_n 1, 1) := by decide +kernel
theorem dX4_readParts_83 : decode cX4_readParts 83 = .ok (.iconst 2, 1) := by decide +kernel
theorem dX4_readParts_84 : decode cX4_readParts 84 = .ok (.if_icmp .ge 25, 3) := by decide +kernel
theorem dX4_readParts_87 : decode cX4_readParts 87 = .ok (.aload_n 0, 1) := by decide +kernel
theorem dX4_readParts_88 : decode cX4_readParts 88 = .ok (.getfield 22, 3) := by decide +kernel
theorem dX4_readParts_91 : decode cX4_readParts 91 = .ok (.bipush 108, 2) := by decide +kernel
theorem dX4_readParts_93 : decode cX4_readParts 93 = .ok (.invokevirtual 114, 3) := by decide +kernel
theorem dX4_readParts_96 : decode cX4_readParts 96 = .ok (.ifCond .eq 13, 3) := by decide +kernel
theorem dX4_readParts_99 : decode cX4_readParts 99 = .ok (.iconst 2, 1) := by decide +kernel
theorem dX4_readParts_100 : decode cX4_readParts 100 = .ok (.istore_n 1, 1) := by decide +kernel
theorem dX4_readParts_101 : decode cX4_readParts 101 = .ok (.aload_n 0, 1) := by decide +kernel
theorem dX4_readParts_102 : decode cX4_readParts 102 = .ok (.invokevirtual 140, 3) := by decide +kernel
theorem dX4_readParts_105 : decode cX4_readParts 105 = .ok (.istore_n 3, 1) := by decide +kernel
theorem dX4_readParts_106 : decode cX4_readParts 106 = .ok (.goto 49, 3) := by decide +kernel
theorem dX4_readParts_109 : decode cX4_readParts 109 = .ok (.iload_n 1, 1) := by decide +kernel
theorem dX4_readParts_110 : decode cX4_readParts 110 = .ok (.iconst 2, 1) := by decide +kernel
theorem dX4_readParts_111 : decode cX4_readParts 111 = .ok (.if_icmp .ge 25, 3) := by decide +kernel
theorem dX4_readParts_114 : decode cX4_readParts 114 = .ok (.aload_n 0, 1) := by decide +kernel
theorem dX4_readParts_115 : decode cX4_readParts 115 = .ok (.getfield 22, 3) := by decide +kernel
theorem dX4_readParts_118 : decode cX4_readParts 118 = .ok (.bipush 99, 2) := by decide +kernel
theorem dX4_readParts_120 : decode cX4_readParts 120 = .ok (.invokevirtual 114, 3) := by decide +kernel
theorem dX4_readParts_123 : decode cX4_readParts 123 = .ok (.ifCond .eq 13, 3) := by decide +kernel
theorem dX4_readParts_126 : decode cX4_readParts 126 = .ok (.iconst 2, 1) := by decide +kernel
theorem dX4_readParts_127 : decode cX4_readParts 127 = .ok (.istore_n 1, 1) := by decide +kernel
theorem dX4_readParts_128 : decode cX4_readParts 128 = .ok (.aload_n 0, 1) := by decide +kernel
theorem dX4_readParts_129 : decode cX4_readParts 129 = .ok (.invokevirtual 143, 3) := by decide +kernel
theorem dX4_readParts_132 : decode cX4_readParts 132 = .ok (.istore_n 3, 1) := by decide +kernel
theorem dX4_readParts_133 : decode cX4_readParts 133 = .ok (.goto 22, 3) := by decide +kernel
theorem dX4_readParts_136 : decode cX4_readParts 136 = .ok (.aload_n 0, 1) := by decide +kernel
theorem dX4_readParts_137 : decode cX4_readParts 137 = .ok (.getfield 22, 3) := by decide +kernel
theorem dX4_readParts_140 : decode cX4_readParts 140 = .ok (.bipush 119, 2) := by decide +kernel
theorem dX4_readParts_142 : decode cX4_readParts 142 = .ok (.invokevirtual 114, 3) := by decide +kernel
theorem dX4_readParts_145 : decode cX4_readParts 145 = .ok (.ifCond .eq 10, 3) := by decide +kernel
theorem dX4_readParts_148 : decode cX4_readParts 148 = .ok (.iconst 3, 1) := by decide +kernel
theorem dX4_readParts_149 : decode cX4_readParts 149 = .ok (.istore_n 1, 1) := by decide +kernel
theorem dX4_readParts_150 : decode cX4_readParts 150 = .ok (.aload_n 0, 1) := by decide +kernel
theorem dX4_readParts_151 : decode cX4_readParts 151 = .ok (.invokevirtual 146, 3) := by decide +kernel
theorem dX4_readParts_154 : decode cX4_readParts 154 = .ok (.istore_n 3, 1) := by decide +kernel
theorem dX4_readParts_155 : decode cX4_readParts 155 = .ok (.iload_n 3, 1) := by decide +kernel
theorem dX4_readParts_156 : decode cX4_readParts 156 = .ok (.ifCond .ne 5, 3) := by decide +kernel
theorem dX4_readParts_159 : decode cX4_readParts 159 = .ok (.iconst 0, 1) := by decide +kernel
theorem dX4_readParts_160 : decode cX4_readParts 160 = .ok (.ireturn, 1) := by decide +kernel
theorem dX4_readParts_161 : decode cX4_readParts 161 = .ok (.iinc 2 1, 3) := by decide +kernel
theorem dX4_readParts_164 : decode cX4_readParts 164 = .ok (.goto (-160), 3) := by decide +kernel
theorem dX4_readParts_167 : decode cX4_readParts 167 = .ok (.iconst 1, 1) := by decide +kernel
theorem dX4_readParts_168 : decode cX4_readParts 168 = .ok (.ireturn, 1) := by decide +kernel
set_option maxRecDepth 20000 in
theorem dX4_readLeapDay_0 : decode cX4_readLeapDay 0 = .ok (.aload_n 0, 1) := by decide +kernel
theorem dX4_readLeapDay_1 : decode cX4_readLeapDay 1 = .ok (.getfield 22, 3) := by decide +kernel
theorem dX4_readLeapDay_4 : decode cX4_readLeapDay 4 = .ok (.invokevirtual 121, 3) := by decide +kernel
theorem dX4_readLeapDay_7 : decode cX4_readLeapDay 7 = .ok (.ifCond .ne 5, 3) := by decide +kernel
theorem dX4_readLeapDay_10 : decode cX4_readLeapDay 10 = .ok (.iconst 0, 1) := by decide +kernel
theorem dX4_readLeapDay_11 : decode cX4_readLeapDay 11 = .ok (.ireturn, 1) := by decide +kernel
theorem dX4_readLeapDay_12 : decode cX4_readLeapDay 12 = .ok (.aload_n 0, 1) := by decide +kernel
theorem dX4_readLeapDay_13 : decode cX4_readLeapDay 13 = .ok (.iconst 1, 1) := by decide +kernel
theorem dX4_readLeapDay_14 : decode cX4_readLeapDay 14 = .ok (.putfield 92, 3) := by decide +kernel
theorem dX4_readLeapDay_17 : decode cX4_readLeapDay 17 = .ok (.aload_n 0, 1) := by decide +kernel
theorem dX4_readLeapDay_18 : decode cX4_readLeapDay 18 = .ok (.aload_n 0, 1) := by decide +kernel
theorem dX4_readLeapDay_19 : decode cX4_readLeapDay 19 = .ok (.getfield 22, 3) := by decide +kernel
theorem dX4_readLeapDay_22 : decode cX4_readLeapDay 22 = .ok (.invokevirtual 124, 3) := by decide +kernel
theorem dX4_readLeapDay_25 : decode cX4_readLeapDay 25 = .ok (.putfield 95, 3) := by decide +kernel
theorem dX4_readLeapDay_28 : decode cX4_readLeapDay 28 = .ok (.aload_n 0, 1) := by decide +kernel
theorem dX4_readLeapDay_29 : decode cX4_readLeapDay 29 = .ok (.iconst 1, 1) := by decide +kernel
theorem dX4_readLeapDay_30 : decode cX4_readLeapDay 30 = .ok (.putfield 98, 3) := by decide +kernel
theorem dX4_readLeapDay_33 : decode cX4_readLeapDay 33 = .ok (.aload_n 0, 1) := by decide +kernel
theorem dX4_readLeapDay_34 : decode cX4_readLeapDay 34 = .ok (.aload_n 0, 1) := by decide +kernel
theorem dX4_readLeapDay_35 : decode cX4_readLeapDay 35 = .ok (.getfield 95, 3) := by decide +kernel
theorem dX4_readLeapDay_38 : decode cX4_readLeapDay 38 = .ok (.iconst 1, 1) := by decide +kernel
theorem dX4_readLeapDay_39 : decode cX4_readLeapDay 39 = .ok (.aload_n 0, 1) := by decide +kernel
theorem dX4_readLeapDay_40 : decode cX4_readLeapDay 40 = .ok (.getfield 52, 3) := by decide +kernel
theorem dX4_readLeapDay_43 : decode cX4_readLeapDay 43 = .ok (.invokevirtual 128, 3) := by decide +kernel
theorem dX4_readLeapDay_46 : decode cX4_readLeapDay 46 = .ok (.iconst 1, 1) := by decide +kernel
theorem dX4_readLeapDay_47 : decode cX4_readLeapDay 47 = .ok (.ireturn, 1) := by decide +kernel
set_option maxRecDepth 20000 in
theorem dX4_readIntercalaryMonth_0 : decode cX4_readIntercalaryMonth 0 = .ok (.aload_n 0, 1) := by decide +kernel
theorem dX4_readIntercalaryMonth_1 : decode cX4_readIntercalaryMonth 1 = .ok (.getfield 22, 3) := by decide +kernel
theorem dX4_readIntercalaryMonth_4 : decode cX4_readIntercalaryMonth 4 = .ok (.invokevirtual 121, 3) := by decide +kernel
theorem dX4_readIntercalaryMonth_7 : decode cX4_readIntercalaryMonth 7 = .ok (.ifCond .ne 5, 3) := by decide +kernel
theorem dX4_readIntercalaryMonth_10 : decode cX4_readIntercalaryMonth 10 = .ok (.iconst 0, 1) := by decide +kernel
theorem dX4_readIntercalaryMonth_11 : decode cX4_readIntercalaryMonth 11 = .ok (.ireturn, 1) := by decide +kernel
theorem dX4_readIntercalaryMonth_12 : decode cX4_readIntercalaryMonth 12 = .ok (.aload_n 0, 1) := by decide +kernel
theorem dX4_readIntercalaryMonth_13 : decode cX4_readIntercalaryMonth 13 = .ok (.iconst 2, 1) := by decide +kernel
theorem dX4_readIntercalaryMonth_14 : decode cX4_readIntercalaryMonth 14 = .ok (.putfield 92, 3) := by decide +kernel
theorem dX4_readIntercalaryMonth_17 : decode cX4_readIntercalaryMonth 17 = .ok (.aload_n 0, 1) := by decide +kernel
theorem dX4_readIntercalaryMonth_18 : decode cX4_readIntercalaryMonth 18 = .ok (.aload_n 0, 1) := by decide +kernel
theorem dX4_readIntercalaryMonth_19 : decode cX4_readIntercalaryMonth 19 = .ok (.getfield 22, 3) := by decide +kernel
theorem dX4_readIntercalaryMonth_22 : decode cX4_readIntercalaryMonth 22 = .ok (.invokevirtual 124, 3) := by decide +kernel
theorem dX4_readIntercalaryMonth_25 : decode cX4_readIntercalaryMonth 25 = .ok (.putfield 95, 3) := by decide +kernel
theorem dX4_readIntercalaryMonth_28 : decode cX4_readIntercalaryMonth 28 = .ok (.aload_n 0, 1) := by decide +kernel
theorem dX4_readIntercalaryMonth_29 : decode cX4_readIntercalaryMonth 29 = .ok (.aload_n 0, 1) := by decide +kernel
theorem dX4_readIntercalaryMonth_30 : decode cX4_readIntercalaryMonth 30 = .ok (.getfield 95, 3) := by decide +kernel
theorem dX4_readIntercalaryMonth_33 : decode cX4_readIntercalaryMonth 33 = .ok (.iconst 1, 1) := by decide +kernel
theorem dX4_readIntercalaryMonth_34 : decode cX4_readIntercalaryMonth 34 = .ok (.aload_n 0, 1) := by decide +kernel
theorem dX4_readIntercalaryMonth_35 : decode cX4_readIntercalaryMonth 35 = .ok (.getfield 52, 3) := by decide +kernel
theorem dX4_readIntercalaryMonth_38 : decode cX4_readIntercalaryMonth 38 = .ok (.invokevirtual 128, 3) := by decide +kernel
theorem dX4_readIntercalaryMonth_41 : decode cX4_readIntercalaryMonth 41 = .ok (.aload_n 0, 1) := by decide +kernel
theorem dX4_readIntercalaryMonth_42 : decode cX4_readIntercalaryMonth 42 = .ok (.getfield 22, 3) := by decide +kernel
theorem dX4_readIntercalaryMonth_45 : decode cX4_readIntercalaryMonth 45 = .ok (.bipush 44, 2) := by decide +kernel
theorem dX4_readIntercalaryMonth_47 : decode cX4_readIntercalaryMonth 47 = .ok (.invokevirtual 114, 3) := by decide +kernel
theorem dX4_readIntercalaryMonth_50 : decode cX4_readIntercalaryMonth 50 = .ok (.ifCond .eq 13, 3) := by decide +kernel
theorem dX4_readIntercalaryMonth_53 : decode cX4_readIntercalaryMonth 53 = .ok (.aload_n 0, 1) := by decide +kernel
theorem dX4_readIntercalaryMonth_54 : decode cX4_readIntercalaryMonth 54 = .ok (.getfield 22, 3) := by decide +kernel
theorem dX4_readIntercalaryMonth_57 : decode cX4_readIntercalaryMonth 57 = .ok (.invokevirtual 121, 3) := by decide +kernel
theorem dX4_readIntercalaryMonth_60 : decode cX4_readIntercalaryMonth 60 = .ok (.ifCond .ne 5, 3) := by decide +kernel
theorem dX4_readIntercalaryMonth_63 : decode cX4_readIntercalaryMonth 63 = .ok (.iconst 0, 1) := by decide +kernel
theorem dX4_readIntercalaryMonth_64 : decode cX4_readIntercalaryMonth 64 = .ok (.ireturn, 1) := by decide +kernel
theorem dX4_readIntercalaryMonth_65 : decode cX4_readIntercalaryMonth 65 = .ok (.aload_n 0, 1) := by decide +kernel
theorem dX4_readIntercalaryMonth_66 : decode cX4_readIntercalaryMonth 66 = .ok (.aload_n 0, 1) := by decide +kernel
theorem dX4_readIntercalaryMonth_67 : decode cX4_readIntercalaryMonth 67 = .ok (.getfield 22, 3) := by decide +kernel
theorem dX4_readIntercalaryMonth_70 : decode cX4_readIntercalaryMonth 70 = .ok (.invokevirtual 124, 3) := by decide +kernel
theorem dX4_readIntercalaryMonth_73 : decode cX4_readIntercalaryMonth 73 = .ok (.putfield 98, 3) := by decide +kernel
theorem dX4_readIntercalaryMonth_76 : decode cX4_readIntercalaryMonth 76 = .ok (.aload_n 0, 1) := by decide +kernel
theorem dX4_readIntercalaryMonth_77 : decode cX4_readIntercalaryMonth 77 = .ok (.aload_n 0, 1) := by decide +kernel
theorem dX4_readIntercalaryMonth_78 : decode cX4_readIntercalaryMonth 78 = .ok (.getfield 98, 3) := by decide +kernel
theorem dX4_readIntercalaryMonth_81 : decode cX4_readIntercalaryMonth 81 = .ok (.iconst 1, 1) := by decide +kernel
theorem dX4_readIntercalaryMonth_82 : decode cX4_readIntercalaryMonth 82 = .ok (.bipush 60, 2) := by decide +kernel
theorem dX4_readIntercalaryMonth_84 : decode cX4_readIntercalaryMonth 84 = .ok (.invokevirtual 128, 3) := by decide +kernel
theorem dX4_readIntercalaryMonth_87 : decode cX4_readIntercalaryMonth 87 = .ok (.iconst 1, 1) := by decide +kernel
theorem dX4_readIntercalaryMonth_88 : decode cX4_readIntercalaryMonth 88 = .ok (.ireturn, 1) := by decide +kernel
set_option maxRecDepth 20000 in
theorem dX4_readDivisors_0 : decode cX4_readDivisors 0 = .ok (.aload_n 0, 1) := by decide +kernel
theorem dX4_readDivisors_1 : decode cX4_readDivisors 1 = .ok (.iconst 1, 1) := by decide +kernel
theorem dX4_readDivisors_2 : decode cX4_readDivisors 2 = .ok (.putfield 77, 3) := by decide +kernel
theorem dX4_readDivisors_5 : decode cX4_readDivisors 5 = .ok (.aload_n 0, 1) := by decide +kernel
theorem dX4_readDivisors_6 : decode cX4_readDivisors 6 = .ok (.invokevirtual 149, 3) := by decide +kernel
theorem dX4_readDivisors_9 : decode cX4_readDivisors 9 = .ok (.ifCond .ne 5, 3) := by decide +kernel
theorem dX4_readDivisors_12 : decode cX4_readDivisors 12 = .ok (.iconst 0, 1) := by decide +kernel
theorem dX4_readDivisors_13 : decode cX4_readDivisors 13 = .ok (.ireturn, 1) := by decide +kernel
theorem dX4_readDivisors_14 : decode cX4_readDivisors 14 = .ok (.iconst 1, 1) := by decide +kernel
theorem dX4_readDivisors_15 : decode cX4_readDivisors 15 = .ok (.istore_n 1, 1) := by decide +kernel
theorem dX4_readDivisors_16 : decode cX4_readDivisors 16 = .ok (.iload_n 1, 1) := by decide +kernel
theorem dX4_readDivisors_17 : decode cX4_readDivisors 17 = .ok (.iconst 4, 1) := by decide +kernel
theorem dX4_readDivisors_18 : decode cX4_readDivisors 18 = .ok (.if_icmp .ge 28, 3) := by decide +kernel
theorem dX4_readDivisors_21 : decode cX4_readDivisors 21 = .ok (.aload_n 0, 1) := by decide +kernel
theorem dX4_readDivisors_22 : decode cX4_readDivisors 22 = .ok (.getfield 22, 3) := by decide +kernel
theorem dX4_readDivisors_25 : decode cX4_readDivisors 25 = .ok (.invokevirtual 152, 3) := by decide +kernel
theorem dX4_readDivisors_28 : decode cX4_readDivisors 28 = .ok (.ifCond .eq 18, 3) := by decide +kernel
theorem dX4_readDivisors_31 : decode cX4_readDivisors 31 = .ok (.aload_n 0, 1) := by decide +kernel
theorem dX4_readDivisors_32 : decode cX4_readDivisors 32 = .ok (.invokevirtual 149, 3) := by decide +kernel
theorem dX4_readDivisors_35 : decode cX4_readDivisors 35 = .ok (.ifCond .ne 5, 3) := by decide +kernel
theorem dX4_readDivisors_38 : decode cX4_readDivisors 38 = .ok (.iconst 0, 1) := by decide +kernel
theorem dX4_readDivisors_39 : decode cX4_readDivisors 39 = .ok (.ireturn, 1) := by decide +kernel
theorem dX4_readDivisors_40 : decode cX4_readDivisors 40 = .ok (.iinc 1 1, 3) := by decide +kernel
theorem dX4_readDivisors_43 : decode cX4_readDivisors 43 = .ok (.goto (-27), 3) := by decide +kernel
theorem dX4_readDivisors_46 : decode cX4_readDivisors 46 = .ok (.iconst 1, 1) := by decide +kernel
theorem dX4_readDivisors_47 : decode cX4_readDivisors 47 = .ok (.ireturn, 1) := by decide +kernel
set_option maxRecDepth 20000 in
theorem dX4_readDivisor_0 : decode cX4_readDivisor 0 = .ok (.aload_n 0, 1) := by decide +kernel
theorem dX4_readDivisor_1 : decode cX4_readDivisor 1 = .ok (.getfield 22, 3) := by decide +kernel
theorem dX4_readDivisor_4 : decode cX4_readDivisor 4 = .ok (.invokevirtual 121, 3) := by decide +kernel
theorem dX4_readDivisor_7 : decode cX4_readDivisor 7 = .ok (.ifCond .ne 5, 3) := by decide +kernel
theorem dX4_readDivisor_10 : decode cX4_readDivisor 10 = .ok (.iconst 0, 1) := by decide +kernel
theorem dX4_readDivisor_11 : decode cX4_readDivisor 11 = .ok (.ireturn, 1) := by decide +kernel
theorem dX4_readDivisor_12 : decode cX4_readDivisor 12 = .ok (.aload_n 0, 1) := by decide +kernel
theorem dX4_readDivisor_13 : decode cX4_readDivisor 13 = .ok (.getfield 22, 3) := by decide +kernel
theorem dX4_readDivisor_16 : decode cX4_readDivisor 16 = .ok (.invokevirtual 124, 3) := by decide +kernel
theorem dX4_readDivisor_19 : decode cX4_readDivisor 19 = .ok (.istore_n 1, 1) := by decide +kernel
theorem dX4_readDivisor_20 : decode cX4_readDivisor 20 = .ok (.aload_n 0, 1) := by decide +kernel
theorem dX4_readDivisor_21 : decode cX4_readDivisor 21 = .ok (.getfield 22, 3) := by decide +kernel
theorem dX4_readDivisor_24 : decode cX4_readDivisor 24 = .ok (.bipush 43, 2) := by decide +kernel
theorem dX4_readDivisor_26 : decode cX4_readDivisor 26 = .ok (.invokevirtual 114, 3) := by decide +kernel
theorem dX4_readDivisor_29 : decode cX4_readDivisor 29 = .ok (.istore_n 2, 1) := by decide +kernel
theorem dX4_readDivisor_30 : decode cX4_readDivisor 30 = .ok (.iload_n 2, 1) := by decide +kernel
theorem dX4_readDivisor_31 : decode cX4_readDivisor 31 = .ok (.ifCond .ne 17, 3) := by decide +kernel
theorem dX4_readDivisor_34 : decode cX4_readDivisor 34 = .ok (.aload_n 0, 1) := by decide +kernel
theorem dX4_readDivisor_35 : decode cX4_readDivisor 35 = .ok (.getfield 22, 3) := by decide +kernel
theorem dX4_readDivisor_38 : decode cX4_readDivisor 38 = .ok (.bipush 45, 2) := by decide +kernel
theorem dX4_readDivisor_40 : decode cX4_readDivisor 40 = .ok (.invokevirtual 114, 3) := by decide +kernel
theorem dX4_readDivisor_43 : decode cX4_readDivisor 43 = .ok (.ifCond .ne 5, 3) := by decide +kernel
theorem dX4_readDivisor_46 : decode cX4_readDivisor 46 = .ok (.iconst 0, 1) := by decide +kernel
theorem dX4_readDivisor_47 : decode cX4_readDivisor 47 = .ok (.ireturn, 1) := by decide +kernel
theorem dX4_readDivisor_48 : decode cX4_readDivisor 48 = .ok (.aload_n 0, 1) := by decide +kernel
theorem dX4_readDivisor_49 : decode cX4_readDivisor 49 = .ok (.getfield 83, 3) := by decide +kernel
theorem dX4_readDivisor_52 : decode cX4_readDivisor 52 = .ok (.ifCond .lt 57, 3) := by decide +kernel
theorem dX4_readDivisor_55 : decode cX4_readDivisor 55 = .ok (.aload_n 0, 1) := by decide +kernel
theorem dX4_readDivisor_56 : decode cX4_readDivisor 56 = .ok (.getfield 83, 3) := by decide +kernel
theorem dX4_readDivisor_59 : decode cX4_readDivisor 59 = .ok (.aload_n 0, 1) := by decide +kernel
theorem dX4_readDivisor_60 : decode cX4_readDivisor 60 = .ok (.getfield 15, 3) := by decide +kernel
theorem dX4_readDivisor_63 : decode cX4_readDivisor 63 = .ok (.arraylength, 1) := by decide +kernel
theorem dX4_readDivisor_64 : decode cX4_readDivisor 64 = .ok (.if_icmp .ge 45, 3) := by decide +kernel
theorem dX4_readDivisor_67 : decode cX4_readDivisor 67 = .ok (.aload_n 0, 1) := by decide +kernel
theorem dX4_readDivisor_68 : decode cX4_readDivisor 68 = .ok (.getfield 83, 3) := by decide +kernel
theorem dX4_readDivisor_71 : decode cX4_readDivisor 71 = .ok (.aload_n 0, 1) := by decide +kernel
theorem dX4_readDivisor_72 : decode cX4_readDivisor 72 = .ok (.getfield 18, 3) := by decide +kernel
theorem dX4_readDivisor_75 : decode cX4_readDivisor 75 = .ok (.arraylength, 1) := by decide +kernel
theorem dX4_readDivisor_76 : decode cX4_readDivisor 76 = .ok (.if_icmp .ge 33, 3) := by decide +kernel
theorem dX4_readDivisor_79 : decode cX4_readDivisor 79 = .ok (.aload_n 0, 1) := by decide +kernel
theorem dX4_readDivisor_80 : decode cX4_readDivisor 80 = .ok (.getfield 15, 3) := by decide +kernel
theorem dX4_readDivisor_83 : decode cX4_readDivisor 83 = .ok (.aload_n 0, 1) := by decide +kernel
theorem dX4_readDivisor_84 : decode cX4_readDivisor 84 = .ok (.getfield 83, 3) := by decide +kernel
theorem dX4_readDivisor_87 : decode cX4_readDivisor 87 = .ok (.iload_n 1, 1) := by decide +kernel
theorem dX4_readDivisor_88 : decode cX4_readDivisor 88 = .ok (.iastore, 1) := by decide +kernel
theorem dX4_readDivisor_89 : decode cX4_readDivisor 89 = .ok (.aload_n 0, 1) := by decide +kernel
theorem dX4_readDivisor_90 : decode cX4_readDivisor 90 = .ok (.getfield 18, 3) := by decide +kernel
theorem dX4_readDivisor_93 : decode cX4_readDivisor 93 = .ok (.aload_n 0, 1) := by decide +kernel
theorem dX4_readDivisor_94 : decode cX4_readDivisor 94 = .ok (.getfield 83, 3) := by decide +kernel
theorem dX4_readDivisor_97 : decode cX4_readDivisor 97 = .ok (.iload_n 2, 1) := by decide +kernel
theorem dX4_readDivisor_98 : decode cX4_readDivisor 98 = .ok (.bastore, 1) := by decide +kernel
theorem dX4_readDivisor_99 : decode cX4_readDivisor 99 = .ok (.aload_n 0, 1) := by decide +kernel
theorem dX4_readDivisor_100 : decode cX4_readDivisor 100 = .ok (.dup, 1) := by decide +kernel
theorem dX4_readDivisor_101 : decode cX4_readDivisor 101 = .ok (.getfield 83, 3) := by decide +kernel
theorem dX4_readDivisor_104 : decode cX4_readDivisor 104 = .ok (.iconst 1, 1) := by decide +kernel
theorem dX4_readDivisor_105 : decode cX4_readDivisor 105 = .ok (.iadd, 1) := by decide +kernel
theorem dX4_readDivisor_106 : decode cX4_readDivisor 106 = .ok (.putfield 83, 3) := by decide +kernel
theorem dX4_readDivisor_109 : decode cX4_readDivisor 109 = .ok (.aload_n 0, 1) := by decide +kernel
theorem dX4_readDivisor_110 : decode cX4_readDivisor 110 = .ok (.iload_n 1, 1) := by decide +kernel
theorem dX4_readDivisor_111 : decode cX4_readDivisor 111 = .ok (.invokevirtual 155, 3) := by decide +kernel
theorem dX4_readDivisor_114 : decode cX4_readDivisor 114 = .ok (.iconst 1, 1) := by decide +kernel
theorem dX4_readDivisor_115 : decode cX4_readDivisor 115 = .ok (.ireturn, 1) := by decide +kernel
theorem dX4_widenPeriod_0 : decode cX4_widenPeriod 0 = .ok (.iload_n 1, 1) := by decide +kernel
theorem dX4_widenPeriod_1 : decode cX4_widenPeriod 1 = .ok (.iconst 1, 1) := by decide +kernel
theorem dX4_widenPeriod_2 : decode cX4_widenPeriod 2 = .ok (.if_icmp .lt 10, 3) := by decide +kernel
theorem dX4_widenPeriod_5 : decode cX4_widenPeriod 5 = .ok (.iload_n 1, 1) := by decide +kernel
theorem dX4_widenPeriod_6 : decode cX4_widenPeriod 6 = .ok (.sipush 400, 3) := by decide +kernel
theorem dX4_widenPeriod_9 : decode cX4_widenPeriod 9 = .ok (.if_icmp .le 9, 3) := by decide +kernel
theorem dX4_widenPeriod_12 : decode cX4_widenPeriod 12 = .ok (.aload_n 0, 1) := by decide +kernel
theorem dX4_widenPeriod_13 : decode cX4_widenPeriod 13 = .ok (.iconst 0, 1) := by decide +kernel
theorem dX4_widenPeriod_14 : decode cX4_widenPeriod 14 = .ok (.putfield 44, 3) := by decide +kernel
theorem dX4_widenPeriod_17 : decode cX4_widenPeriod 17 = .ok (.return_, 1) := by decide +kernel
theorem dX4_widenPeriod_18 : decode cX4_widenPeriod 18 = .ok (.aload_n 0, 1) := by decide +kernel
theorem dX4_widenPeriod_19 : decode cX4_widenPeriod 19 = .ok (.getfield 70, 3) := by decide +kernel
theorem dX4_widenPeriod_22 : decode cX4_widenPeriod 22 = .ok (.istore_n 2, 1) := by decide +kernel
theorem dX4_widenPeriod_23 : decode cX4_widenPeriod 23 = .ok (.iconst 0, 1) := by decide +kernel
theorem dX4_widenPeriod_24 : decode cX4_widenPeriod 24 = .ok (.istore_n 3, 1) := by decide +kernel
theorem dX4_widenPeriod_25 : decode cX4_widenPeriod 25 = .ok (.iload_n 3, 1) := by decide +kernel
theorem dX4_widenPeriod_26 : decode cX4_widenPeriod 26 = .ok (.sipush 1000, 3) := by decide +kernel
theorem dX4_widenPeriod_29 : decode cX4_widenPeriod 29 = .ok (.if_icmp .ge 29, 3) := by decide +kernel
theorem dX4_widenPeriod_32 : decode cX4_widenPeriod 32 = .ok (.iload_n 2, 1) := by decide +kernel
theorem dX4_widenPeriod_33 : decode cX4_widenPeriod 33 = .ok (.sipush 1000, 3) := by decide +kernel
theorem dX4_widenPeriod_36 : decode cX4_widenPeriod 36 = .ok (.if_icmp .gt 22, 3) := by decide +kernel
theorem dX4_widenPeriod_39 : decode cX4_widenPeriod 39 = .ok (.iload_n 2, 1) := by decide +kernel
theorem dX4_widenPeriod_40 : decode cX4_widenPeriod 40 = .ok (.iload_n 1, 1) := by decide +kernel
theorem dX4_widenPeriod_41 : decode cX4_widenPeriod 41 = .ok (.irem, 1) := by decide +kernel
theorem dX4_widenPeriod_42 : decode cX4_widenPeriod 42 = .ok (.ifCond .eq 16, 3) := by decide +kernel
theorem dX4_widenPeriod_45 : decode cX4_widenPeriod 45 = .ok (.iload_n 2, 1) := by decide +kernel
theorem dX4_widenPeriod_46 : decode cX4_widenPeriod 46 = .ok (.aload_n 0, 1) := by decide +kernel
theorem dX4_widenPeriod_47 : decode cX4_widenPeriod 47 = .ok (.getfield 70, 3) := by decide +kernel
theorem dX4_widenPeriod_50 : decode cX4_widenPeriod 50 = .ok (.iadd, 1) := by decide +kernel
theorem dX4_widenPeriod_51 : decode cX4_widenPeriod 51 = .ok (.istore_n 2, 1) := by decide +kernel
theorem dX4_widenPeriod_52 : decode cX4_widenPeriod 52 = .ok (.iinc 3 1, 3) := by decide +kernel
theorem dX4_widenPeriod_55 : decode cX4_widenPeriod 55 = .ok (.goto (-30), 3) := by decide +kernel
theorem dX4_widenPeriod_58 : decode cX4_widenPeriod 58 = .ok (.iload_n 2, 1) := by decide +kernel
theorem dX4_widenPeriod_59 : decode cX4_widenPeriod 59 = .ok (.sipush 1000, 3) := by decide +kernel
theorem dX4_widenPeriod_62 : decode cX4_widenPeriod 62 = .ok (.if_icmp .le 11, 3) := by decide +kernel
theorem dX4_widenPeriod_65 : decode cX4_widenPeriod 65 = .ok (.aload_n 0, 1) := by decide +kernel
theorem dX4_widenPeriod_66 : decode cX4_widenPeriod 66 = .ok (.iconst 0, 1) := by decide +kernel
theorem dX4_widenPeriod_67 : decode cX4_widenPeriod 67 = .ok (.putfield 44, 3) := by decide +kernel
theorem dX4_widenPeriod_70 : decode cX4_widenPeriod 70 = .ok (.goto 8, 3) := by decide +kernel
theorem dX4_widenPeriod_73 : decode cX4_widenPeriod 73 = .ok (.aload_n 0, 1) := by decide +kernel
theorem dX4_widenPeriod_74 : decode cX4_widenPeriod 74 = .ok (.iload_n 2, 1) := by decide +kernel
theorem dX4_widenPeriod_75 : decode cX4_widenPeriod 75 = .ok (.putfield 70, 3) := by decide +kernel
theorem dX4_widenPeriod_78 : decode cX4_widenPeriod 78 = .ok (.return_, 1) := by decide +kernel
set_option maxRecDepth 20000 in
theorem dX4_readCycle_0 : decode cX4_readCycle 0 = .ok (.aload_n 0, 1) := by decide +kernel
theorem dX4_readCycle_1 : decode cX4_readCycle 1 = .ok (.getfield 22, 3) := by decide +kernel
theorem dX4_readCycle_4 : decode cX4_readCycle 4 = .ok (.invokevirtual 121, 3) := by decide +kernel
theorem dX4_readCycle_7 : decode cX4_readCycle 7 = .ok (.ifCond .ne 5, 3) := by decide +kernel
theorem dX4_readCycle_10 : decode cX4_readCycle 10 = .ok (.iconst 0, 1) := by decide +kernel
theorem dX4_readCycle_11 : decode cX4_readCycle 11 = .ok (.ireturn, 1) := by decide +kernel
theorem dX4_readCycle_12 : decode cX4_readCycle 12 = .ok (.aload_n 0, 1) := by decide +kernel
theorem dX4_readCycle_13 : decode cX4_readCycle 13 = .ok (.iconst 2, 1) := by decide +kernel
theorem dX4_readCycle_14 : decode cX4_readCycle 14 = .ok (.putfield 77, 3) := by decide +kernel
theorem dX4_readCycle_17 : decode cX4_readCycle 17 = .ok (.aload_n 0, 1) := by decide +kernel
theorem dX4_readCycle_18 : decode cX4_readCycle 18 = .ok (.aload_n 0, 1) := by decide +kernel
theorem dX4_readCycle_19 : decode cX4_readCycle 19 = .ok (.getfield 22, 3) := by decide +kernel
theorem dX4_readCycle_22 : decode cX4_readCycle 22 = .ok (.invokevirtual 124, 3) := by decide +kernel
theorem dX4_readCycle_25 : decode cX4_readCycle 25 = .ok (.putfield 70, 3) := by decide +kernel
theorem dX4_readCycle_28 : decode cX4_readCycle 28 = .ok (.aload_n 0, 1) := by decide +kernel
theorem dX4_readCycle_29 : decode cX4_readCycle 29 = .ok (.aload_n 0, 1) := by decide +kernel
theorem dX4_readCycle_30 : decode cX4_readCycle 30 = .ok (.getfield 70, 3) := by decide +kernel
theorem dX4_readCycle_33 : decode cX4_readCycle 33 = .ok (.iconst 1, 1) := by decide +kernel
theorem dX4_readCycle_34 : decode cX4_readCycle 34 = .ok (.bipush 30, 2) := by decide +kernel
theorem dX4_readCycle_36 : decode cX4_readCycle 36 = .ok (.invokevirtual 128, 3) := by decide +kernel
theorem dX4_readCycle_39 : decode cX4_readCycle 39 = .ok (.aload_n 0, 1) := by decide +kernel
theorem dX4_readCycle_40 : decode cX4_readCycle 40 = .ok (.getfield 22, 3) := by decide +kernel
theorem dX4_readCycle_43 : decode cX4_readCycle 43 = .ok (.bipush 58, 2) := by decide +kernel
theorem dX4_readCycle_45 : decode cX4_readCycle 45 = .ok (.invokevirtual 114, 3) := by decide +kernel
theorem dX4_readCycle_48 : decode cX4_readCycle 48 = .ok (.ifCond .eq 10, 3) := by decide +kernel
theorem dX4_readCycle_51 : decode cX4_readCycle 51 = .ok (.aload_n 0, 1) := by decide +kernel
theorem dX4_readCycle_52 : decode cX4_readCycle 52 = .ok (.invokevirtual 159, 3) := by decide +kernel
theorem dX4_readCycle_55 : decode cX4_readCycle 55 = .ok (.ifCond .ne 5, 3) := by decide +kernel
theorem dX4_readCycle_58 : decode cX4_readCycle 58 = .ok (.iconst 0, 1) := by decide +kernel
theorem dX4_readCycle_59 : decode cX4_readCycle 59 = .ok (.ireturn, 1) := by decide +kernel
theorem dX4_readCycle_60 : decode cX4_readCycle 60 = .ok (.iconst 0, 1) := by decide +kernel
theorem dX4_readCycle_61 : decode cX4_readCycle 61 = .ok (.istore_n 1, 1) := by decide +kernel
theorem dX4_readCycle_62 : decode cX4_readCycle 62 = .ok (.iload_n 1, 1) := by decide +kernel
theorem dX4_readCycle_63 : decode cX4_readCycle 63 = .ok (.bipush 100, 2) := by decide +kernel
theorem dX4_readCycle_65 : decode cX4_readCycle 65 = .ok (.if_icmp .ge 30, 3) := by decide +kernel
theorem dX4_readCycle_68 : decode cX4_readCycle 68 = .ok (.aload_n 0, 1) := by decide +kernel
theorem dX4_readCycle_69 : decode cX4_readCycle 69 = .ok (.getfield 22, 3) := by decide +kernel
theorem dX4_readCycle_72 : decode cX4_readCycle 72 = .ok (.bipush 44, 2) := by decide +kernel
theorem dX4_readCycle_74 : decode cX4_readCycle 74 = .ok (.invokevirtual 114, 3) := by decide +kernel
theorem dX4_readCycle_77 : decode cX4_readCycle 77 = .ok (.ifCond .eq 18, 3) := by decide +kernel
theorem dX4_readCycle_80 : decode cX4_readCycle 80 = .ok (.aload_n 0, 1) := by decide +kernel
theorem dX4_readCycle_81 : decode cX4_readCycle 81 = .ok (.invokevirtual 159, 3) := by decide +kernel
theorem dX4_readCycle_84 : decode cX4_readCycle 84 = .ok (.ifCond .ne 5, 3) := by decide +kernel
theorem dX4_readCycle_87 : decode cX4_readCycle 87 = .ok (.iconst 0, 1) := by decide +kernel
theorem dX4_readCycle_88 : decode cX4_readCycle 88 = .ok (.ireturn, 1) := by decide +kernel
theorem dX4_readCycle_89 : decode cX4_readCycle 89 = .ok (.iinc 1 1, 3) := by decide +kernel
theorem dX4_readCycle_92 : decode cX4_readCycle 92 = .ok (.goto (-30), 3) := by decide +kernel
theorem dX4_readCycle_95 : decode cX4_readCycle 95 = .ok (.iconst 1, 1) := by decide +kernel
theorem dX4_readCycle_96 : decode cX4_readCycle 96 = .ok (.ireturn, 1) := by decide +kernel
set_option maxRecDepth 20000 in
theorem dX4_readRemainder_0 : decode cX4_readRemainder 0 = .ok (.aload_n 0, 1) := by decide +kernel
theorem dX4_readRemainder_1 : decode cX4_readRemainder 1 = .ok (.getfield 22, 3) := by decide +kernel
theorem dX4_readRemainder_4 : decode cX4_readRemainder 4 = .ok (.invokevirtual 121, 3) := by decide +kernel
theorem dX4_readRemainder_7 : decode cX4_readRemainder 7 = .ok (.ifCond .ne 5, 3) := by decide +kernel
theorem dX4_readRemainder_10 : decode cX4_readRemainder 10 = .ok (.iconst 0, 1) := by decide +kernel
theorem dX4_readRemainder_11 : decode cX4_readRemainder 11 = .ok (.ireturn, 1) := by decide +kernel
theorem dX4_readRemainder_12 : decode cX4_readRemainder 12 = .ok (.aload_n 0, 1) := by decide +kernel
theorem dX4_readRemainder_13 : decode cX4_readRemainder 13 = .ok (.aload_n 0, 1) := by decide +kernel
theorem dX4_readRemainder_14 : decode cX4_readRemainder 14 = .ok (.getfield 22, 3) := by decide +kernel
theorem dX4_readRemainder_17 : decode cX4_readRemainder 17 = .ok (.invokevirtual 124, 3) := by decide +kernel
theorem dX4_readRemainder_20 : decode cX4_readRemainder 20 = .ok (.iconst 0, 1) := by decide +kernel
theorem dX4_readRemainder_21 : decode cX4_readRemainder 21 = .ok (.aload_n 0, 1) := by decide +kernel
theorem dX4_readRemainder_22 : decode cX4_readRemainder 22 = .ok (.getfield 70, 3) := by decide +kernel
theorem dX4_readRemainder_25 : decode cX4_readRemainder 25 = .ok (.iconst 1, 1) := by decide +kernel
theorem dX4_readRemainder_26 : decode cX4_readRemainder 26 = .ok (.isub, 1) := by decide +kernel
theorem dX4_readRemainder_27 : decode cX4_readRemainder 27 = .ok (.invokevirtual 128, 3) := by decide +kernel
theorem dX4_readRemainder_30 : decode cX4_readRemainder 30 = .ok (.aload_n 0, 1) := by decide +kernel
theorem dX4_readRemainder_31 : decode cX4_readRemainder 31 = .ok (.getfield 22, 3) := by decide +kernel
theorem dX4_readRemainder_34 : decode cX4_readRemainder 34 = .ok (.invokevirtual 124, 3) := by decide +kernel
theorem dX4_readRemainder_37 : decode cX4_readRemainder 37 = .ok (.bipush 30, 2) := by decide +kernel
theorem dX4_readRemainder_39 : decode cX4_readRemainder 39 = .ok (.if_icmp .ge 21, 3) := by decide +kernel
theorem dX4_readRemainder_42 : decode cX4_readRemainder 42 = .ok (.aload_n 0, 1) := by decide +kernel
theorem dX4_readRemainder_43 : decode cX4_readRemainder 43 = .ok (.dup, 1) := by decide +kernel
theorem dX4_readRemainder_44 : decode cX4_readRemainder 44 = .ok (.getfield 80, 3) := by decide +kernel
theorem dX4_readRemainder_47 : decode cX4_readRemainder 47 = .ok (.iconst 1, 1) := by decide +kernel
theorem dX4_readRemainder_48 : decode cX4_readRemainder 48 = .ok (.aload_n 0, 1) := by decide +kernel
theorem dX4_readRemainder_49 : decode cX4_readRemainder 49 = .ok (.getfield 22, 3) := by decide +kernel
theorem dX4_readRemainder_52 : decode cX4_readRemainder 52 = .ok (.invokevirtual 124, 3) := by decide +kernel
theorem dX4_readRemainder_55 : decode cX4_readRemainder 55 = .ok (.ishl, 1) := by decide +kernel
theorem dX4_readRemainder_56 : decode cX4_readRemainder 56 = .ok (.ior, 1) := by decide +kernel
theorem dX4_readRemainder_57 : decode cX4_readRemainder 57 = .ok (.putfield 80, 3) := by decide +kernel
theorem dX4_readRemainder_60 : decode cX4_readRemainder 60 = .ok (.iconst 1, 1) := by decide +kernel
theorem dX4_readRemainder_61 : decode cX4_readRemainder 61 = .ok (.ireturn, 1) := by decide +kernel
set_option maxRecDepth 20000 in
theorem dX4_readWeeks_0 : decode cX4_readWeeks 0 = .ok (.aload_n 0, 1) := by decide +kernel
theorem dX4_readWeeks_1 : decode cX4_readWeeks 1 = .ok (.getfield 22, 3) := by decide +kernel
theorem dX4_readWeeks_4 : decode cX4_readWeeks 4 = .ok (.invokevirtual 121, 3) := by decide +kernel
theorem dX4_readWeeks_7 : decode cX4_readWeeks 7 = .ok (.ifCond .ne 5, 3) := by decide +kernel
theorem dX4_readWeeks_10 : decode cX4_readWeeks 10 = .ok (.iconst 0, 1) := by decide +kernel
theorem dX4_readWeeks_11 : decode cX4_readWeeks 11 = .ok (.ireturn, 1) := by decide +kernel
theorem dX4_readWeeks_12 : decode cX4_readWeeks 12 = .ok (.aload_n 0, 1) := by decide +kernel
theorem dX4_readWeeks_13 : decode cX4_readWeeks 13 = .ok (.aload_n 0, 1) := by decide +kernel
theorem dX4_readWeeks_14 : decode cX4_readWeeks 14 = .ok (.getfield 22, 3) := by decide +kernel
theorem dX4_readWeeks_17 : decode cX4_readWeeks 17 = .ok (.invokevirtual 124, 3) := by decide +kernel
theorem dX4_readWeeks_20 : decode cX4_readWeeks 20 = .ok (.putfield 101, 3) := by decide +kernel
theorem dX4_readWeeks_23 : decode cX4_readWeeks 23 = .ok (.aload_n 0, 1) := by decide +kernel
theorem dX4_readWeeks_24 : decode cX4_readWeeks 24 = .ok (.aload_n 0, 1) := by decide +kernel
theorem dX4_readWeeks_25 : decode cX4_readWeeks 25 = .ok (.getfield 101, 3) := by decide +kernel
theorem dX4_readWeeks_28 : decode cX4_readWeeks 28 = .ok (.iconst 2, 1) := by decide +kernel
theorem dX4_readWeeks_29 : decode cX4_readWeeks 29 = .ok (.bipush 10, 2) := by decide +kernel
theorem dX4_readWeeks_31 : decode cX4_readWeeks 31 = .ok (.invokevirtual 128, 3) := by decide +kernel
theorem dX4_readWeeks_34 : decode cX4_readWeeks 34 = .ok (.aload_n 0, 1) := by decide +kernel
theorem dX4_readWeeks_35 : decode cX4_readWeeks 35 = .ok (.getfield 22, 3) := by decide +kernel
theorem dX4_readWeeks_38 : decode cX4_readWeeks 38 = .ok (.bipush 44, 2) := by decide +kernel
theorem dX4_readWeeks_40 : decode cX4_readWeeks 40 = .ok (.invokevirtual 114, 3) := by decide +kernel
theorem dX4_readWeeks_43 : decode cX4_readWeeks 43 = .ok (.ifCond .eq 13, 3) := by decide +kernel
theorem dX4_readWeeks_46 : decode cX4_readWeeks 46 = .ok (.aload_n 0, 1) := by decide +kernel
theorem dX4_readWeeks_47 : decode cX4_readWeeks 47 = .ok (.getfield 22, 3) := by decide +kernel
theorem dX4_readWeeks_50 : decode cX4_readWeeks 50 = .ok (.invokevirtual 121, 3) := by decide +kernel
theorem dX4_readWeeks_53 : decode cX4_readWeeks 53 = .ok (.ifCond .ne 5, 3) := by decide +kernel
theorem dX4_readWeeks_56 : decode cX4_readWeeks 56 = .ok (.iconst 0, 1) := by decide +kernel
theorem dX4_readWeeks_57 : decode cX4_readWeeks 57 = .ok (.ireturn, 1) := by decide +kernel
theorem dX4_readWeeks_58 : decode cX4_readWeeks 58 = .ok (.aload_n 0, 1) := by decide +kernel
theorem dX4_readWeeks_59 : decode cX4_readWeeks 59 = .ok (.aload_n 0, 1) := by decide +kernel
theorem dX4_readWeeks_60 : decode cX4_readWeeks 60 = .ok (.getfield 22, 3) := by decide +kernel
theorem dX4_readWeeks_63 : decode cX4_readWeeks 63 = .ok (.invokevirtual 124, 3) := by decide +kernel
theorem dX4_readWeeks_66 : decode cX4_readWeeks 66 = .ok (.putfield 104, 3) := by decide +kernel
theorem dX4_readWeeks_69 : decode cX4_readWeeks 69 = .ok (.aload_n 0, 1) := by decide +kernel
theorem dX4_readWeeks_70 : decode cX4_readWeeks 70 = .ok (.aload_n 0, 1) := by decide +kernel
theorem dX4_readWeeks_71 : decode cX4_readWeeks 71 = .ok (.getfield 104, 3) := by decide +kernel
theorem dX4_readWeeks_74 : decode cX4_readWeeks 74 = .ok (.iconst 0, 1) := by decide +kernel
theorem dX4_readWeeks_75 : decode cX4_readWeeks 75 = .ok (.aload_n 0, 1) := by decide +kernel
theorem dX4_readWeeks_76 : decode cX4_readWeeks 76 = .ok (.getfield 101, 3) := by decide +kernel
theorem dX4_readWeeks_79 : decode cX4_readWeeks 79 = .ok (.iconst 1, 1) := by decide +kernel
theorem dX4_readWeeks_80 : decode cX4_readWeeks 80 = .ok (.isub, 1) := by decide +kernel
theorem dX4_readWeeks_81 : decode cX4_readWeeks 81 = .ok (.invokevirtual 128, 3) := by decide +kernel
theorem dX4_readWeeks_84 : decode cX4_readWeeks 84 = .ok (.aload_n 0, 1) := by decide +kernel
theorem dX4_readWeeks_85 : decode cX4_readWeeks 85 = .ok (.getfield 22, 3) := by decide +kernel
theorem dX4_readWeeks_88 : decode cX4_readWeeks 88 = .ok (.bipush 44, 2) := by decide +kernel
theorem dX4_readWeeks_90 : decode cX4_readWeeks 90 = .ok (.invokevirtual 114, 3) := by decide +kernel
theorem dX4_readWeeks_93 : decode cX4_readWeeks 93 = .ok (.ifCond .eq 13, 3) := by decide +kernel
theorem dX4_readWeeks_96 : decode cX4_readWeeks 96 = .ok (.aload_n 0, 1) := by decide +kernel
theorem dX4_readWeeks_97 : decode cX4_readWeeks 97 = .ok (.getfield 22, 3) := by decide +kernel
theorem dX4_readWeeks_100 : decode cX4_readWeeks 100 = .ok (.invokevirtual 121, 3) := by decide +kernel
theorem dX4_readWeeks_103 : decode cX4_readWeeks 103 = .ok (.ifCond .ne 5, 3) := by decide +kernel
theorem dX4_readWeeks_106 : decode cX4_readWeeks 106 = .ok (.iconst 0, 1) := by decide +kernel
theorem dX4_readWeeks_107 : decode cX4_readWeeks 107 = .ok (.ireturn, 1) := by decide +kernel
theorem dX4_readWeeks_108 : decode cX4_readWeeks 108 = .ok (.aload_n 0, 1) := by decide +kernel
theorem dX4_readWeeks_109 : decode cX4_readWeeks 109 = .ok (.aload_n 0, 1) := by decide +kernel
theorem dX4_readWeeks_110 : decode cX4_readWeeks 110 = .ok (.getfield 22, 3) := by decide +kernel
theorem dX4_readWeeks_113 : decode cX4_readWeeks 113 = .ok (.invokevirtual 124, 3) := by decide +kernel
theorem dX4_readWeeks_116 : decode cX4_readWeeks 116 = .ok (.putfield 107, 3) := by decide +kernel
theorem dX4_readWeeks_119 : decode cX4_readWeeks 119 = .ok (.aload_n 0, 1) := by decide +kernel
theorem dX4_readWeeks_120 : decode cX4_readWeeks 120 = .ok (.aload_n 0, 1) := by decide +kernel
theorem dX4_readWeeks_121 : decode cX4_readWeeks 121 = .ok (.getfield 107, 3) := by decide +kernel
theorem dX4_readWeeks_124 : decode cX4_readWeeks 124 = .ok (.iconst 1, 1) := by decide +kernel
theorem dX4_readWeeks_125 : decode cX4_readWeeks 125 = .ok (.aload_n 0, 1) := by decide +kernel
theorem dX4_readWeeks_126 : decode cX4_readWeeks 126 = .ok (.getfield 101, 3) := by decide +kernel
theorem dX4_readWeeks_129 : decode cX4_readWeeks 129 = .ok (.invokevirtual 128, 3) := by decide +kernel
theorem dX4_readWeeks_132 : decode cX4_readWeeks 132 = .ok (.iconst 1, 1) := by decide +kernel
theorem dX4_readWeeks_133 : decode cX4_readWeeks 133 = .ok (.ireturn, 1) := by decide +kernel
theorem dX5_init_0 : decode cX5_init 0 = .ok (.aload_n 0, 1) := by decide +kernel
theorem dX5_init_1 : decode cX5_init 1 = .ok (.invokespecial 3, 3) := by decide +kernel
theorem dX5_init_4 : decode cX5_init 4 = .ok (.aload_n 0, 1) := by decide +kernel
theorem dX5_init_5 : decode cX5_init 5 = .ok (.bipush 18, 2) := by decide +kernel
theorem dX5_init_7 : decode cX5_init 7 = .ok (.newarray .int, 2) := by decide +kernel
theorem dX5_init_9 : decode cX5_init 9 = .ok (.putfield 9, 3) := by decide +kernel
theorem dX5_init_12 : decode cX5_init 12 = .ok (.aload_n 0, 1) := by decide +kernel
theorem dX5_init_13 : decode cX5_init 13 = .ok (.bipush 18, 2) := by decide +kernel
theorem dX5_init_15 : decode cX5_init 15 = .ok (.newarray .int, 2) := by decide +kernel
theorem dX5_init_17 : decode cX5_init 17 = .ok (.putfield 15, 3) := by decide +kernel
theorem dX5_init_20 : decode cX5_init 20 = .ok (.aload_n 0, 1) := by decide +kernel
theorem dX5_init_21 : decode cX5_init 21 = .ok (.bipush 18, 2) := by decide +kernel
theorem dX5_init_23 : decode cX5_init 23 = .ok (.newarray .int, 2) := by decide +kernel
theorem dX5_init_25 : decode cX5_init 25 = .ok (.putfield 18, 3) := by decide +kernel
theorem dX5_init_28 : decode cX5_init 28 = .ok (.return_, 1) := by decide +kernel
theorem dX5_count_0 : decode cX5_count 0 = .ok (.aload_n 0, 1) := by decide +kernel
theorem dX5_count_1 : decode cX5_count 1 = .ok (.getfield 21, 3) := by decide +kernel
theorem dX5_count_4 : decode cX5_count 4 = .ok (.ireturn, 1) := by decide +kernel
theorem dX5_clear_0 : decode cX5_clear 0 = .ok (.aload_n 0, 1) := by decide +kernel
theorem dX5_clear_1 : decode cX5_clear 1 = .ok (.iconst 0, 1) := by decide +kernel
theorem dX5_clear_2 : decode cX5_clear 2 = .ok (.putfield 21, 3) := by decide +kernel
theorem dX5_clear_5 : decode cX5_clear 5 = .ok (.return_, 1) := by decide +kernel
set_option maxRecDepth 20000 in
theorem dX5_addIfDay_0 : decode cX5_addIfDay 0 = .ok (.iload_n 3, 1) := by decide +kernel
theorem dX5_addIfDay_1 : decode cX5_addIfDay 1 = .ok (.invokestatic 25, 3) := by decide +kernel
theorem dX5_addIfDay_4 : decode cX5_addIfDay 4 = .ok (.ifCond .eq 19, 3) := by decide +kernel
theorem dX5_addIfDay_7 : decode cX5_addIfDay 7 = .ok (.aload_n 0, 1) := by decide +kernel
theorem dX5_addIfDay_8 : decode cX5_addIfDay 8 = .ok (.getfield 21, 3) := by decide +kernel
theorem dX5_addIfDay_11 : decode cX5_addIfDay 11 = .ok (.ifCond .lt 12, 3) := by decide +kernel
theorem dX5_addIfDay_14 : decode cX5_addIfDay 14 = .ok (.aload_n 0, 1) := by decide +kernel
theorem dX5_addIfDay_15 : decode cX5_addIfDay 15 = .ok (.getfield 21, 3) := by decide +kernel
theorem dX5_addIfDay_18 : decode cX5_addIfDay 18 = .ok (.bipush 18, 2) := by decide +kernel
theorem dX5_addIfDay_20 : decode cX5_addIfDay 20 = .ok (.if_icmp .lt 4, 3) := by decide +kernel
theorem dX5_addIfDay_23 : decode cX5_addIfDay 23 = .ok (.return_, 1) := by decide +kernel
theorem dX5_addIfDay_24 : decode cX5_addIfDay 24 = .ok (.aload_n 0, 1) := by decide +kernel
theorem dX5_addIfDay_25 : decode cX5_addIfDay 25 = .ok (.getfield 21, 3) := by decide +kernel
theorem dX5_addIfDay_28 : decode cX5_addIfDay 28 = .ok (.istore 4, 2) := by decide +kernel
theorem dX5_addIfDay_30 : decode cX5_addIfDay 30 = .ok (.iload 4, 2) := by decide +kernel
theorem dX5_addIfDay_32 : decode cX5_addIfDay 32 = .ok (.ifCond .le 77, 3) := by decide +kernel
theorem dX5_addIfDay_35 : decode cX5_addIfDay 35 = .ok (.iload 4, 2) := by decide +kernel
theorem dX5_addIfDay_37 : decode cX5_addIfDay 37 = .ok (.bipush 18, 2) := by decide +kernel
theorem dX5_addIfDay_39 : decode cX5_addIfDay 39 = .ok (.if_icmp .ge 70, 3) := by decide +kernel
theorem dX5_addIfDay_42 : decode cX5_addIfDay 42 = .ok (.aload_n 0, 1) := by decide +kernel
theorem dX5_addIfDay_43 : decode cX5_addIfDay 43 = .ok (.getfield 18, 3) := by decide +kernel
theorem dX5_addIfDay_46 : decode cX5_addIfDay 46 = .ok (.iload 4, 2) := by decide +kernel
theorem dX5_addIfDay_48 : decode cX5_addIfDay 48 = .ok (.iconst 1, 1) := by decide +kernel
theorem dX5_addIfDay_49 : decode cX5_addIfDay 49 = .ok (.isub, 1) := by decide +kernel
theorem dX5_addIfDay_50 : decode cX5_addIfDay 50 = .ok (.iaload, 1) := by decide +kernel
theorem dX5_addIfDay_51 : decode cX5_addIfDay 51 = .ok (.iload_n 3, 1) := by decide +kernel
theorem dX5_addIfDay_52 : decode cX5_addIfDay 52 = .ok (.if_icmp .le 57, 3) := by decide +kernel
theorem dX5_addIfDay_55 : decode cX5_addIfDay 55 = .ok (.aload_n 0, 1) := by decide +kernel
theorem dX5_addIfDay_56 : decode cX5_addIfDay 56 = .ok (.getfield 9, 3) := by decide +kernel
theorem dX5_addIfDay_59 : decode cX5_addIfDay 59 = .ok (.iload 4, 2) := by decide +kernel
theorem dX5_addIfDay_61 : decode cX5_addIfDay 61 = .ok (.aload_n 0, 1) := by decide +kernel
theorem dX5_addIfDay_62 : decode cX5_addIfDay 62 = .ok (.getfield 9, 3) := by decide +kernel
theorem dX5_addIfDay_65 : decode cX5_addIfDay 65 = .ok (.iload 4, 2) := by decide +kernel
theorem dX5_addIfDay_67 : decode cX5_addIfDay 67 = .ok (.iconst 1, 1) := by decide +kernel
theorem dX5_addIfDay_68 : decode cX5_addIfDay 68 = .ok (.isub, 1) := by decide +kernel
theorem dX5_addIfDay_69 : decode cX5_addIfDay 69 = .ok (.iaload, 1) := by decide +kernel
theorem dX5_addIfDay_70 : decode cX5_addIfDay 70 = .ok (.iastore, 1) := by decide +kernel
theorem dX5_addIfDay_71 : decode cX5_addIfDay 71 = .ok (.aload_n 0, 1) := by decide +kernel
theorem dX5_addIfDay_72 : decode cX5_addIfDay 72 = .ok (.getfield 15, 3) := by decide +kernel
theorem dX5_addIfDay_75 : decode cX5_addIfDay 75 = .ok (.iload 4, 2) := by decide +kernel
theorem dX5_addIfDay_77 : decode cX5_addIfDay 77 = .ok (.aload_n 0, 1) := by decide +kernel
theorem dX5_addIfDay_78 : decode cX5_addIfDay 78 = .ok (.getfield 15, 3) := by decide +kernel
theorem dX5_addIfDay_81 : decode cX5_addIfDay 81 = .ok (.iload 4, 2) := by decide +kernel
theorem dX5_addIfDay_83 : decode cX5_addIfDay 83 = .ok (.iconst 1, 1) := by decide +kernel
theorem dX5_addIfDay_84 : decode cX5_addIfDay 84 = .ok (.isub, 1) := by decide +kernel
theorem dX5_addIfDay_85 : decode cX5_addIfDay 85 = .ok (.iaload, 1) := by decide +kernel
theorem dX5_addIfDay_86 : decode cX5_addIfDay 86 = .ok (.iastore, 1) := by decide +kernel
theorem dX5_addIfDay_87 : decode cX5_addIfDay 87 = .ok (.aload_n 0, 1) := by decide +kernel
theorem dX5_addIfDay_88 : decode cX5_addIfDay 88 = .ok (.getfield 18, 3) := by decide +kernel
theorem dX5_addIfDay_91 : decode cX5_addIfDay 91 = .ok (.iload 4, 2) := by decide +kernel
theorem dX5_addIfDay_93 : decode cX5_addIfDay 93 = .ok (.aload_n 0, 1) := by decide +kernel
theorem dX5_addIfDay_94 : decode cX5_addIfDay 94 = .ok (.getfield 18, 3) := by decide +kernel
theorem dX5_addIfDay_97 : decode cX5_addIfDay 97 = .ok (.iload 4, 2) := by decide +kernel
theorem dX5_addIfDay_99 : decode cX5_addIfDay 99 = .ok (.iconst 1, 1) := by decide +kernel
theorem dX5_addIfDay_100 : decode cX5_addIfDay 100 = .ok (.isub, 1) := by decide +kernel
theorem dX5_addIfDay_101 : decode cX5_addIfDay 101 = .ok (.iaload, 1) := by decide +kernel
theorem dX5_addIfDay_102 : decode cX5_addIfDay 102 = .ok (.iastore, 1) := by decide +kernel
theorem dX5_addIfDay_103 : decode cX5_addIfDay 103 = .ok (.iinc 4 (-1), 3) := by decide +kernel
theorem dX5_addIfDay_106 : decode cX5_addIfDay 106 = .ok (.goto (-76), 3) := by decide +kernel
theorem dX5_addIfDay_109 : decode cX5_addIfDay 109 = .ok (.iload 4, 2) := by decide +kernel
theorem dX5_addIfDay_111 : decode cX5_addIfDay 111 = .ok (.ifCond .lt 34, 3) := by decide +kernel
theorem dX5_addIfDay_114 : decode cX5_addIfDay 114 = .ok (.iload 4, 2) := by decide +kernel
theorem dX5_addIfDay_116 : decode cX5_addIfDay 116 = .ok (.bipush 18, 2) := by decide +kernel
theorem dX5_addIfDay_118 : decode cX5_addIfDay 118 = .ok (.if_icmp .ge 27, 3) := by decide +kernel
theorem dX5_addIfDay_121 : decode cX5_addIfDay 121 = .ok (.aload_n 0, 1) := by decide +kernel
theorem dX5_addIfDay_122 : decode cX5_addIfDay 122 = .ok (.getfield 9, 3) := by decide +kernel
theorem dX5_addIfDay_125 : decode cX5_addIfDay 125 = .ok (.iload 4, 2) := by decide +kernel
theorem dX5_addIfDay_127 : decode cX5_addIfDay 127 = .ok (.iload_n 1, 1) := by decide +kernel
theorem dX5_addIfDay_128 : decode cX5_addIfDay 128 = .ok (.iastore, 1) := by decide +kernel
theorem dX5_addIfDay_129 : decode cX5_addIfDay 129 = .ok (.aload_n 0, 1) := by decide +kernel
theorem dX5_addIfDay_130 : decode cX5_addIfDay 130 = .ok (.getfield 15, 3) := by decide +kernel
theorem dX5_addIfDay_133 : decode cX5_addIfDay 133 = .ok (.iload 4, 2) := by decide +kernel
theorem dX5_addIfDay_135 : decode cX5_addIfDay 135 = .ok (.iload_n 2, 1) := by decide +kernel
theorem dX5_addIfDay_136 : decode cX5_addIfDay 136 = .ok (.iastore, 1) := by decide +kernel
theorem dX5_addIfDay_137 : decode cX5_addIfDay 137 = .ok (.aload_n 0, 1) := by decide +kernel
theorem dX5_addIfDay_138 : decode cX5_addIfDay 138 = .ok (.getfield 18, 3) := by decide +kernel
theorem dX5_addIfDay_141 : decode cX5_addIfDay 141 = .ok (.iload 4, 2) := by decide +kernel
theorem dX5_addIfDay_143 : decode cX5_addIfDay 143 = .ok (.iload_n 3, 1) := by decide +kernel
theorem dX5_addIfDay_144 : decode cX5_addIfDay 144 = .ok (.iastore, 1) := by decide +kernel
theorem dX5_addIfDay_145 : decode cX5_addIfDay 145 = .ok (.aload_n 0, 1) := by decide +kernel
theorem dX5_addIfDay_146 : decode cX5_addIfDay 146 = .ok (.dup, 1) := by decide +kernel
theorem dX5_addIfDay_147 : decode cX5_addIfDay 147 = .ok (.getfield 21, 3) := by decide +kernel
theorem dX5_addIfDay_150 : decode cX5_addIfDay 150 = .ok (.iconst 1, 1) := by decide +kernel
theorem dX5_addIfDay_151 : decode cX5_addIfDay 151 = .ok (.iadd, 1) := by decide +kernel
theorem dX5_addIfDay_152 : decode cX5_addIfDay 152 = .ok (.putfield 21, 3) := by decide +kernel
theorem dX5_addIfDay_155 : decode cX5_addIfDay 155 = .ok (.return_, 1) := by decide +kernel
theorem dX5_partAt_0 : decode cX5_partAt 0 = .ok (.iload_n 1, 1) := by decide +kernel
theorem dX5_partAt_1 : decode cX5_partAt 1 = .ok (.ifCond .lt 9, 3) := by decide +kernel
theorem dX5_partAt_4 : decode cX5_partAt 4 = .ok (.iload_n 1, 1) := by decide +kernel
theorem dX5_partAt_5 : decode cX5_partAt 5 = .ok (.bipush 18, 2) := by decide +kernel
theorem dX5_partAt_7 : decode cX5_partAt 7 = .ok (.if_icmp .lt 5, 3) := by decide +kernel
theorem dX5_partAt_10 : decode cX5_partAt 10 = .ok (.iconst 0, 1) := by decide +kernel
theorem dX5_partAt_11 : decode cX5_partAt 11 = .ok (.ireturn, 1) := by decide +kernel
theorem dX5_partAt_12 : decode cX5_partAt 12 = .ok (.iload_n 2, 1) := by decide +kernel
theorem dX5_partAt_13 : decode cX5_partAt 13 = .ok (.ifCond .ne 10, 3) := by decide +kernel
theorem dX5_partAt_16 : decode cX5_partAt 16 = .ok (.aload_n 0, 1) := by decide +kernel
theorem dX5_partAt_17 : decode cX5_partAt 17 = .ok (.getfield 9, 3) := by decide +kernel
theorem dX5_partAt_20 : decode cX5_partAt 20 = .ok (.iload_n 1, 1) := by decide +kernel
theorem dX5_partAt_21 : decode cX5_partAt 21 = .ok (.iaload, 1) := by decide +kernel
theorem dX5_partAt_22 : decode cX5_partAt 22 = .ok (.ireturn, 1) := by decide +kernel
theorem dX5_partAt_23 : decode cX5_partAt 23 = .ok (.iload_n 2, 1) := by decide +kernel
theorem dX5_partAt_24 : decode cX5_partAt 24 = .ok (.iconst 1, 1) := by decide +kernel
theorem dX5_partAt_25 : decode cX5_partAt 25 = .ok (.if_icmp .ne 12, 3) := by decide +kernel
theorem dX5_partAt_28 : decode cX5_partAt 28 = .ok (.aload_n 0, 1) := by decide +kernel
theorem dX5_partAt_29 : decode cX5_partAt 29 = .ok (.getfield 15, 3) := by decide +kernel
theorem dX5_partAt_32 : decode cX5_partAt 32 = .ok (.iload_n 1, 1) := by decide +kernel
theorem dX5_partAt_33 : decode cX5_partAt 33 = .ok (.iaload, 1) := by decide +kernel
theorem dX5_partAt_34 : decode cX5_partAt 34 = .ok (.goto 9, 3) := by decide +kernel
theorem dX5_partAt_37 : decode cX5_partAt 37 = .ok (.aload_n 0, 1) := by decide +kernel
theorem dX5_partAt_38 : decode cX5_partAt 38 = .ok (.getfield 18, 3) := by decide +kernel
theorem dX5_partAt_41 : decode cX5_partAt 41 = .ok (.iload_n 1, 1) := by decide +kernel
theorem dX5_partAt_42 : decode cX5_partAt 42 = .ok (.iaload, 1) := by decide +kernel
theorem dX5_partAt_43 : decode cX5_partAt 43 = .ok (.ireturn, 1) := by decide +kernel
theorem dX5_distinctDays_0 : decode cX5_distinctDays 0 = .ok (.iconst 0, 1) := by decide +kernel
theorem dX5_distinctDays_1 : decode cX5_distinctDays 1 = .ok (.istore_n 1, 1) := by decide +kernel
theorem dX5_distinctDays_2 : decode cX5_distinctDays 2 = .ok (.iconst 0, 1) := by decide +kernel
theorem dX5_distinctDays_3 : decode cX5_distinctDays 3 = .ok (.istore_n 2, 1) := by decide +kernel
theorem dX5_distinctDays_4 : decode cX5_distinctDays 4 = .ok (.iload_n 2, 1) := by decide +kernel
theorem dX5_distinctDays_5 : decode cX5_distinctDays 5 = .ok (.aload_n 0, 1) := by decide +kernel
theorem dX5_distinctDays_6 : decode cX5_distinctDays 6 = .ok (.getfield 21, 3) := by decide +kernel
theorem dX5_distinctDays_9 : decode cX5_distinctDays 9 = .ok (.if_icmp .ge 39, 3) := by decide +kernel
theorem dX5_distinctDays_12 : decode cX5_distinctDays 12 = .ok (.iload_n 2, 1) := by decide +kernel
theorem dX5_distinctDays_13 : decode cX5_distinctDays 13 = .ok (.bipush 18, 2) := by decide +kernel
theorem dX5_distinctDays_15 : decode cX5_distinctDays 15 = .ok (.if_icmp .ge 33, 3) := by decide +kernel
theorem dX5_distinctDays_18 : decode cX5_distinctDays 18 = .ok (.iload_n 2, 1) := by decide +kernel
theorem dX5_distinctDays_19 : decode cX5_distinctDays 19 = .ok (.ifCond .eq 20, 3) := by decide +kernel
theorem dX5_distinctDays_22 : decode cX5_distinctDays 22 = .ok (.aload_n 0, 1) := by decide +kernel
theorem dX5_distinctDays_23 : decode cX5_distinctDays 23 = .ok (.getfield 18, 3) := by decide +kernel
theorem dX5_distinctDays_26 : decode cX5_distinctDays 26 = .ok (.iload_n 2, 1) := by decide +kernel
theorem dX5_distinctDays_27 : decode cX5_distinctDays 27 = .ok (.iaload, 1) := by decide +kernel
theorem dX5_distinctDays_28 : decode cX5_distinctDays 28 = .ok (.aload_n 0, 1) := by decide +kernel
theorem dX5_distinctDays_29 : decode cX5_distinctDays 29 = .ok (.getfield 18, 3) := by decide +kernel
theorem dX5_distinctDays_32 : decode cX5_distinctDays 32 = .ok (.iload_n 2, 1) := by decide +kernel
theorem dX5_distinctDays_33 : decode cX5_distinctDays 33 = .ok (.iconst 1, 1) := by decide +kernel
theorem dX5_distinctDays_34 : decode cX5_distinctDays 34 = .ok (.isub, 1) := by decide +kernel
theorem dX5_distinctDays_35 : decode cX5_distinctDays 35 = .ok (.iaload, 1) := by decide +kernel
theorem dX5_distinctDays_36 : decode cX5_distinctDays 36 = .ok (.if_icmp .eq 6, 3) := by decide +kernel
theorem dX5_distinctDays_39 : decode cX5_distinctDays 39 = .ok (.iinc 1 1, 3) := by decide +kernel
theorem dX5_distinctDays_42 : decode cX5_distinctDays 42 = .ok (.iinc 2 1, 3) := by decide +kernel
theorem dX5_distinctDays_45 : decode cX5_distinctDays 45 = .ok (.goto (-41), 3) := by decide +kernel
theorem dX5_distinctDays_48 : decode cX5_distinctDays 48 = .ok (.iload_n 1, 1) := by decide +kernel
theorem dX5_distinctDays_49 : decode cX5_distinctDays 49 = .ok (.ireturn, 1) := by decide +kernel
theorem dX6_init_0 : decode cX6_init 0 = .ok (.aload_n 0, 1) := by decide +kernel
theorem dX6_init_1 : decode cX6_init 1 = .ok (.invokespecial 3, 3) := by decide +kernel
theorem dX6_init_4 : decode cX6_init 4 = .ok (.aload_n 0, 1) := by decide +kernel
theorem dX6_init_5 : decode cX6_init 5 = .ok (.bipush 6, 2) := by decide +kernel
theorem dX6_init_7 : decode cX6_init 7 = .ok (.anewarray 9, 3) := by decide +kernel
theorem dX6_init_10 : decode cX6_init 10 = .ok (.putfield 11, 3) := by decide +kernel
theorem dX6_init_13 : decode cX6_init 13 = .ok (.aload_n 0, 1) := by decide +kernel
theorem dX6_init_14 : decode cX6_init 14 = .ok (.bipush 8, 2) := by decide +kernel
theorem dX6_init_16 : decode cX6_init 16 = .ok (.anewarray 17, 3) := by decide +kernel
theorem dX6_init_19 : decode cX6_init 19 = .ok (.putfield 19, 3) := by decide +kernel
theorem dX6_init_22 : decode cX6_init 22 = .ok (.return_, 1) := by decide +kernel
theorem dX6_calendarCount_0 : decode cX6_calendarCount 0 = .ok (.aload_n 0, 1) := by decide +kernel
theorem dX6_calendarCount_1 : decode cX6_calendarCount 1 = .ok (.getfield 23, 3) := by decide +kernel
theorem dX6_calendarCount_4 : decode cX6_calendarCount 4 = .ok (.ireturn, 1) := by decide +kernel
theorem dX6_feastCount_0 : decode cX6_feastCount 0 = .ok (.aload_n 0, 1) := by decide +kernel
theorem dX6_feastCount_1 : decode cX6_feastCount 1 = .ok (.getfield 27, 3) := by decide +kernel
theorem dX6_feastCount_4 : decode cX6_feastCount 4 = .ok (.ireturn, 1) := by decide +kernel
theorem dX6_calendarAt_0 : decode cX6_calendarAt 0 = .ok (.iload_n 1, 1) := by decide +kernel
theorem dX6_calendarAt_1 : decode cX6_calendarAt 1 = .ok (.ifCond .lt 24, 3) := by decide +kernel
theorem dX6_calendarAt_4 : decode cX6_calendarAt 4 = .ok (.iload_n 1, 1) := by decide +kernel
theorem dX6_calendarAt_5 : decode cX6_calendarAt 5 = .ok (.aload_n 0, 1) := by decide +kernel
theorem dX6_calendarAt_6 : decode cX6_calendarAt 6 = .ok (.getfield 23, 3) := by decide +kernel
theorem dX6_calendarAt_9 : decode cX6_calendarAt 9 = .ok (.if_icmp .ge 16, 3) := by decide +kernel
theorem dX6_calendarAt_12 : decode cX6_calendarAt 12 = .ok (.iload_n 1, 1) := by decide +kernel
theorem dX6_calendarAt_13 : decode cX6_calendarAt 13 = .ok (.aload_n 0, 1) := by decide +kernel
theorem dX6_calendarAt_14 : decode cX6_calendarAt 14 = .ok (.getfield 11, 3) := by decide +kernel
theorem dX6_calendarAt_17 : decode cX6_calendarAt 17 = .ok (.arraylength, 1) := by decide +kernel
theorem dX6_calendarAt_18 : decode cX6_calendarAt 18 = .ok (.if_icmp .ge 7, 3) := by decide +kernel
theorem dX6_calendarAt_21 : decode cX6_calendarAt 21 = .ok (.iconst 1, 1) := by decide +kernel
theorem dX6_calendarAt_22 : decode cX6_calendarAt 22 = .ok (.goto 4, 3) := by decide +kernel
theorem dX6_calendarAt_25 : decode cX6_calendarAt 25 = .ok (.iconst 0, 1) := by decide +kernel
theorem dX6_calendarAt_26 : decode cX6_calendarAt 26 = .ok (.istore_n 2, 1) := by decide +kernel
theorem dX6_calendarAt_27 : decode cX6_calendarAt 27 = .ok (.iload_n 2, 1) := by decide +kernel
theorem dX6_calendarAt_28 : decode cX6_calendarAt 28 = .ok (.ifCond .eq 12, 3) := by decide +kernel
theorem dX6_calendarAt_31 : decode cX6_calendarAt 31 = .ok (.aload_n 0, 1) := by decide +kernel
theorem dX6_calendarAt_32 : decode cX6_calendarAt 32 = .ok (.getfield 11, 3) := by decide +kernel
theorem dX6_calendarAt_35 : decode cX6_calendarAt 35 = .ok (.iload_n 1, 1) := by decide +kernel
theorem dX6_calendarAt_36 : decode cX6_calendarAt 36 = .ok (.aaload, 1) := by decide +kernel
theorem dX6_calendarAt_37 : decode cX6_calendarAt 37 = .ok (.goto 4, 3) := by decide +kernel
theorem dX6_calendarAt_40 : decode cX6_calendarAt 40 = .ok (.aconst_null, 1) := by decide +kernel
theorem dX6_calendarAt_41 : decode cX6_calendarAt 41 = .ok (.areturn, 1) := by decide +kernel
theorem dX6_feastAt_0 : decode cX6_feastAt 0 = .ok (.iload_n 1, 1) := by decide +kernel
theorem dX6_feastAt_1 : decode cX6_feastAt 1 = .ok (.ifCond .lt 24, 3) := by decide +kernel
theorem dX6_feastAt_4 : decode cX6_feastAt 4 = .ok (.iload_n 1, 1) := by decide +kernel
theorem dX6_feastAt_5 : decode cX6_feastAt 5 = .ok (.aload_n 0, 1) := by decide +kernel
theorem dX6_feastAt_6 : decode cX6_feastAt 6 = .ok (.getfield 27, 3) := by decide +kernel
theorem dX6_feastAt_9 : decode cX6_feastAt 9 = .ok (.if_icmp .ge 16, 3) := by decide +kernel
theorem dX6_feastAt_12 : decode cX6_feastAt 12 = .ok (.iload_n 1, 1) := by decide +kernel
theorem dX6_feastAt_13 : decode cX6_feastAt 13 = .ok (.aload_n 0, 1) := by decide +kernel
theorem dX6_feastAt_14 : decode cX6_feastAt 14 = .ok (.getfield 19, 3) := by decide +kernel
theorem dX6_feastAt_17 : decode cX6_feastAt 17 = .ok (.arraylength, 1) := by decide +kernel
theorem dX6_feastAt_18 : decode cX6_feastAt 18 = .ok (.if_icmp .ge 7, 3) := by decide +kernel
theorem dX6_feastAt_21 : decode cX6_feastAt 21 = .ok (.iconst 1, 1) := by decide +kernel
theorem dX6_feastAt_22 : decode cX6_feastAt 22 = .ok (.goto 4, 3) := by decide +kernel
theorem dX6_feastAt_25 : decode cX6_feastAt 25 = .ok (.iconst 0, 1) := by decide +kernel
theorem dX6_feastAt_26 : decode cX6_feastAt 26 = .ok (.istore_n 2, 1) := by decide +kernel
theorem dX6_feastAt_27 : decode cX6_feastAt 27 = .ok (.iload_n 2, 1) := by decide +kernel
theorem dX6_feastAt_28 : decode cX6_feastAt 28 = .ok (.ifCond .eq 12, 3) := by decide +kernel
theorem dX6_feastAt_31 : decode cX6_feastAt 31 = .ok (.aload_n 0, 1) := by decide +kernel
theorem dX6_feastAt_32 : decode cX6_feastAt 32 = .ok (.getfield 19, 3) := by decide +kernel
theorem dX6_feastAt_35 : decode cX6_feastAt 35 = .ok (.iload_n 1, 1) := by decide +kernel
theorem dX6_feastAt_36 : decode cX6_feastAt 36 = .ok (.aaload, 1) := by decide +kernel
theorem dX6_feastAt_37 : decode cX6_feastAt 37 = .ok (.goto 4, 3) := by decide +kernel
theorem dX6_feastAt_40 : decode cX6_feastAt 40 = .ok (.aconst_null, 1) := by decide +kernel
theorem dX6_feastAt_41 : decode cX6_feastAt 41 = .ok (.areturn, 1) := by decide +kernel
theorem dX6_setCalendarAt_0 : decode cX6_setCalendarAt 0 = .ok (.iload_n 1, 1) := by decide +kernel
theorem dX6_setCalendarAt_1 : decode cX6_setCalendarAt 1 = .ok (.ifCond .lt 33, 3) := by decide +kernel
theorem dX6_setCalendarAt_4 : decode cX6_setCalendarAt 4 = .ok (.iload_n 1, 1) := by decide +kernel
theorem dX6_setCalendarAt_5 : decode cX6_setCalendarAt 5 = .ok (.aload_n 0, 1) := by decide +kernel
theorem dX6_setCalendarAt_6 : decode cX6_setCalendarAt 6 = .ok (.getfield 11, 3) := by decide +kernel
theorem dX6_setCalendarAt_9 : decode cX6_setCalendarAt 9 = .ok (.arraylength, 1) := by decide +kernel
theorem dX6_setCalendarAt_10 : decode cX6_setCalendarAt 10 = .ok (.if_icmp .ge 24, 3) := by decide +kernel
theorem dX6_setCalendarAt_13 : decode cX6_setCalendarAt 13 = .ok (.aload_n 0, 1) := by decide +kernel
theorem dX6_setCalendarAt_14 : decode cX6_setCalendarAt 14 = .ok (.getfield 11, 3) := by decide +kernel
theorem dX6_setCalendarAt_17 : decode cX6_setCalendarAt 17 = .ok (.iload_n 1, 1) := by decide +kernel
theorem dX6_setCalendarAt_18 : decode cX6_setCalendarAt 18 = .ok (.aload_n 2, 1) := by decide +kernel
theorem dX6_setCalendarAt_19 : decode cX6_setCalendarAt 19 = .ok (.aastore, 1) := by decide +kernel
theorem dX6_setCalendarAt_20 : decode cX6_setCalendarAt 20 = .ok (.aload_n 0, 1) := by decide +kernel
theorem dX6_setCalendarAt_21 : decode cX6_setCalendarAt 21 = .ok (.aload_n 0, 1) := by decide +kernel
theorem dX6_setCalendarAt_22 : decode cX6_setCalendarAt 22 = .ok (.getfield 23, 3) := by decide +kernel
theorem dX6_setCalendarAt_25 : decode cX6_setCalendarAt 25 = .ok (.iload_n 1, 1) := by decide +kernel
theorem dX6_setCalendarAt_26 : decode cX6_setCalendarAt 26 = .ok (.iconst 1, 1) := by decide +kernel
theorem dX6_setCalendarAt_27 : decode cX6_setCalendarAt 27 = .ok (.iadd, 1) := by decide +kernel
theorem dX6_setCalendarAt_28 : decode cX6_setCalendarAt 28 = .ok (.invokestatic 30, 3) := by decide +kernel
theorem dX6_setCalendarAt_31 : decode cX6_setCalendarAt 31 = .ok (.putfield 23, 3) := by decide +kernel
theorem dX6_setCalendarAt_34 : decode cX6_setCalendarAt 34 = .ok (.return_, 1) := by decide +kernel
theorem dX6_addLastFeast_0 : decode cX6_addLastFeast 0 = .ok (.aload_n 0, 1) := by decide +kernel
theorem dX6_addLastFeast_1 : decode cX6_addLastFeast 1 = .ok (.getfield 27, 3) := by decide +kernel
theorem dX6_addLastFeast_4 : decode cX6_addLastFeast 4 = .ok (.ifCond .lt 35, 3) := by decide +kernel
theorem dX6_addLastFeast_7 : decode cX6_addLastFeast 7 = .ok (.aload_n 0, 1) := by decide +kernel
theorem dX6_addLastFeast_8 : decode cX6_addLastFeast 8 = .ok (.getfield 27, 3) := by decide +kernel
theorem dX6_addLastFeast_11 : decode cX6_addLastFeast 11 = .ok (.aload_n 0, 1) := by decide +kernel
theorem dX6_addLastFeast_12 : decode cX6_addLastFeast 12 = .ok (.getfield 19, 3) := by decide +kernel
theorem dX6_addLastFeast_15 : decode cX6_addLastFeast 15 = .ok (.arraylength, 1) := by decide +kernel
theorem dX6_addLastFeast_16 : decode cX6_addLastFeast 16 = .ok (.if_icmp .ge 23, 3) := by decide +kernel
theorem dX6_addLastFeast_19 : decode cX6_addLastFeast 19 = .ok (.aload_n 0, 1) := by decide +kernel
theorem dX6_addLastFeast_20 : decode cX6_addLastFeast 20 = .ok (.getfield 19, 3) := by decide +kernel
theorem dX6_addLastFeast_23 : decode cX6_addLastFeast 23 = .ok (.aload_n 0, 1) := by decide +kernel
theorem dX6_addLastFeast_24 : decode cX6_addLastFeast 24 = .ok (.getfield 27, 3) := by decide +kernel
theorem dX6_addLastFeast_27 : decode cX6_addLastFeast 27 = .ok (.aload_n 1, 1) := by decide +kernel
theorem dX6_addLastFeast_28 : decode cX6_addLastFeast 28 = .ok (.aastore, 1) := by decide +kernel
theorem dX6_addLastFeast_29 : decode cX6_addLastFeast 29 = .ok (.aload_n 0, 1) := by decide +kernel
theorem dX6_addLastFeast_30 : decode cX6_addLastFeast 30 = .ok (.dup, 1) := by decide +kernel
theorem dX6_addLastFeast_31 : decode cX6_addLastFeast 31 = .ok (.getfield 27, 3) := by decide +kernel
theorem dX6_addLastFeast_34 : decode cX6_addLastFeast 34 = .ok (.iconst 1, 1) := by decide +kernel
theorem dX6_addLastFeast_35 : decode cX6_addLastFeast 35 = .ok (.iadd, 1) := by decide +kernel
theorem dX6_addLastFeast_36 : decode cX6_addLastFeast 36 = .ok (.putfield 27, 3) := by decide +kernel
theorem dX6_addLastFeast_39 : decode cX6_addLastFeast 39 = .ok (.return_, 1) := by decide +kernel
theorem dX6_removeLastFeast_0 : decode cX6_removeLastFeast 0 = .ok (.aload_n 0, 1) := by decide +kernel
theorem dX6_removeLastFeast_1 : decode cX6_removeLastFeast 1 = .ok (.iconst 0, 1) := by decide +kernel
theorem dX6_removeLastFeast_2 : decode cX6_removeLastFeast 2 = .ok (.aload_n 0, 1) := by decide +kernel
theorem dX6_removeLastFeast_3 : decode cX6_removeLastFeast 3 = .ok (.getfield 27, 3) := by decide +kernel
theorem dX6_removeLastFeast_6 : decode cX6_removeLastFeast 6 = .ok (.iconst 1, 1) := by decide +kernel
theorem dX6_removeLastFeast_7 : decode cX6_removeLastFeast 7 = .ok (.isub, 1) := by decide +kernel
theorem dX6_removeLastFeast_8 : decode cX6_removeLastFeast 8 = .ok (.invokestatic 30, 3) := by decide +kernel
theorem dX6_removeLastFeast_11 : decode cX6_removeLastFeast 11 = .ok (.putfield 27, 3) := by decide +kernel
theorem dX6_removeLastFeast_14 : decode cX6_removeLastFeast 14 = .ok (.return_, 1) := by decide +kernel
set_option maxRecDepth 20000 in
theorem dX6_copyFrom_0 : decode cX6_copyFrom 0 = .ok (.iconst 0, 1) := by decide +kernel
theorem dX6_copyFrom_1 : decode cX6_copyFrom 1 = .ok (.istore_n 2, 1) := by decide +kernel
theorem dX6_copyFrom_2 : decode cX6_copyFrom 2 = .ok (.iload_n 2, 1) := by decide +kernel
theorem dX6_copyFrom_3 : decode cX6_copyFrom 3 = .ok (.aload_n 0, 1) := by decide +kernel
theorem dX6_copyFrom_4 : decode cX6_copyFrom 4 = .ok (.getfield 11, 3) := by decide +kernel
theorem dX6_copyFrom_7 : decode cX6_copyFrom 7 = .ok (.arraylength, 1) := by decide +kernel
theorem dX6_copyFrom_8 : decode cX6_copyFrom 8 = .ok (.if_icmp .ge 20, 3) := by decide +kernel
theorem dX6_copyFrom_11 : decode cX6_copyFrom 11 = .ok (.aload_n 0, 1) := by decide +kernel
theorem dX6_copyFrom_12 : decode cX6_copyFrom 12 = .ok (.getfield 11, 3) := by decide +kernel
theorem dX6_copyFrom_15 : decode cX6_copyFrom 15 = .ok (.iload_n 2, 1) := by decide +kernel
theorem dX6_copyFrom_16 : decode cX6_copyFrom 16 = .ok (.aload_n 1, 1) := by decide +kernel
theorem dX6_copyFrom_17 : decode cX6_copyFrom 17 = .ok (.iload_n 2, 1) := by decide +kernel
theorem dX6_copyFrom_18 : decode cX6_copyFrom 18 = .ok (.invokevirtual 36, 3) := by decide +kernel
theorem dX6_copyFrom_21 : decode cX6_copyFrom 21 = .ok (.aastore, 1) := by decide +kernel
theorem dX6_copyFrom_22 : decode cX6_copyFrom 22 = .ok (.iinc 2 1, 3) := by decide +kernel
theorem dX6_copyFrom_25 : decode cX6_copyFrom 25 = .ok (.goto (-23), 3) := by decide +kernel
theorem dX6_copyFrom_28 : decode cX6_copyFrom 28 = .ok (.iconst 0, 1) := by decide +kernel
theorem dX6_copyFrom_29 : decode cX6_copyFrom 29 = .ok (.istore_n 2, 1) := by decide +kernel
theorem dX6_copyFrom_30 : decode cX6_copyFrom 30 = .ok (.iload_n 2, 1) := by decide +kernel
theorem dX6_copyFrom_31 : decode cX6_copyFrom 31 = .ok (.aload_n 0, 1) := by decide +kernel
theorem dX6_copyFrom_32 : decode cX6_copyFrom 32 = .ok (.getfield 19, 3) := by decide +kernel
theorem dX6_copyFrom_35 : decode cX6_copyFrom 35 = .ok (.arraylength, 1) := by decide +kernel
theorem dX6_copyFrom_36 : decode cX6_copyFrom 36 = .ok (.if_icmp .ge 20, 3) := by decide +kernel
theorem dX6_copyFrom_39 : decode cX6_copyFrom 39 = .ok (.aload_n 0, 1) := by decide +kernel
theorem dX6_copyFrom_40 : decode cX6_copyFrom 40 = .ok (.getfield 19, 3) := by decide +kernel
theorem dX6_copyFrom_43 : decode cX6_copyFrom 43 = .ok (.iload_n 2, 1) := by decide +kernel
theorem dX6_copyFrom_44 : decode cX6_copyFrom 44 = .ok (.aload_n 1, 1) := by decide +kernel
theorem dX6_copyFrom_45 : decode cX6_copyFrom 45 = .ok (.iload_n 2, 1) := by decide +kernel
theorem dX6_copyFrom_46 : decode cX6_copyFrom 46 = .ok (.invokevirtual 40, 3) := by decide +kernel
theorem dX6_copyFrom_49 : decode cX6_copyFrom 49 = .ok (.aastore, 1) := by decide +kernel
theorem dX6_copyFrom_50 : decode cX6_copyFrom 50 = .ok (.iinc 2 1, 3) := by decide +kernel
theorem dX6_copyFrom_53 : decode cX6_copyFrom 53 = .ok (.goto (-23), 3) := by decide +kernel
theorem dX6_copyFrom_56 : decode cX6_copyFrom 56 = .ok (.aload_n 0, 1) := by decide +kernel
theorem dX6_copyFrom_57 : decode cX6_copyFrom 57 = .ok (.aload_n 1, 1) := by decide +kernel
theorem dX6_copyFrom_58 : decode cX6_copyFrom 58 = .ok (.getfield 23, 3) := by decide +kernel
theorem dX6_copyFrom_61 : decode cX6_copyFrom 61 = .ok (.putfield 23, 3) := by decide +kernel
theorem dX6_copyFrom_64 : decode cX6_copyFrom 64 = .ok (.aload_n 0, 1) := by decide +kernel
theorem dX6_copyFrom_65 : decode cX6_copyFrom 65 = .ok (.aload_n 1, 1) := by decide +kernel
theorem dX6_copyFrom_66 : decode cX6_copyFrom 66 = .ok (.getfield 27, 3) := by decide +kernel
theorem dX6_copyFrom_69 : decode cX6_copyFrom 69 = .ok (.putfield 27, 3) := by decide +kernel
theorem dX6_copyFrom_72 : decode cX6_copyFrom 72 = .ok (.return_, 1) := by decide +kernel
theorem dX7_init_0 : decode cX7_init 0 = .ok (.aload_n 0, 1) := by decide +kernel
theorem dX7_init_1 : decode cX7_init 1 = .ok (.invokespecial 3, 3) := by decide +kernel
theorem dX7_init_4 : decode cX7_init 4 = .ok (.aload_n 0, 1) := by decide +kernel
theorem dX7_init_5 : decode cX7_init 5 = .ok (.bipush 100, 2) := by decide +kernel
theorem dX7_init_7 : decode cX7_init 7 = .ok (.newarray .char, 2) := by decide +kernel
theorem dX7_init_9 : decode cX7_init 9 = .ok (.putfield 9, 3) := by decide +kernel
theorem dX7_init_12 : decode cX7_init 12 = .ok (.return_, 1) := by decide +kernel
theorem dX7_length_0 : decode cX7_length 0 = .ok (.aload_n 0, 1) := by decide +kernel
theorem dX7_length_1 : decode cX7_length 1 = .ok (.getfield 15, 3) := by decide +kernel
theorem dX7_length_4 : decode cX7_length 4 = .ok (.ireturn, 1) := by decide +kernel
theorem dX7_position_0 : decode cX7_position 0 = .ok (.aload_n 0, 1) := by decide +kernel
theorem dX7_position_1 : decode cX7_position 1 = .ok (.getfield 19, 3) := by decide +kernel
theorem dX7_position_4 : decode cX7_position 4 = .ok (.ireturn, 1) := by decide +kernel
theorem dX7_number_0 : decode cX7_number 0 = .ok (.aload_n 0, 1) := by decide +kernel
theorem dX7_number_1 : decode cX7_number 1 = .ok (.getfield 22, 3) := by decide +kernel
theorem dX7_number_4 : decode cX7_number 4 = .ok (.ireturn, 1) := by decide +kernel
theorem dX7_append_0 : decode cX7_append 0 = .ok (.aload_n 0, 1) := by decide +kernel
theorem dX7_append_1 : decode cX7_append 1 = .ok (.getfield 15, 3) := by decide +kernel
theorem dX7_append_4 : decode cX7_append 4 = .ok (.ifCond .lt 36, 3) := by decide +kernel
theorem dX7_append_7 : decode cX7_append 7 = .ok (.aload_n 0, 1) := by decide +kernel
theorem dX7_append_8 : decode cX7_append 8 = .ok (.getfield 15, 3) := by decide +kernel
theorem dX7_append_11 : decode cX7_append 11 = .ok (.aload_n 0, 1) := by decide +kernel
theorem dX7_append_12 : decode cX7_append 12 = .ok (.getfield 9, 3) := by decide +kernel
theorem dX7_append_15 : decode cX7_append 15 = .ok (.arraylength, 1) := by decide +kernel
theorem dX7_append_16 : decode cX7_append 16 = .ok (.if_icmp .ge 24, 3) := by decide +kernel
theorem dX7_append_19 : decode cX7_append 19 = .ok (.aload_n 0, 1) := by decide +kernel
theorem dX7_append_20 : decode cX7_append 20 = .ok (.getfield 9, 3) := by decide +kernel
theorem dX7_append_23 : decode cX7_append 23 = .ok (.aload_n 0, 1) := by decide +kernel
theorem dX7_append_24 : decode cX7_append 24 = .ok (.getfield 15, 3) := by decide +kernel
theorem dX7_append_27 : decode cX7_append 27 = .ok (.iload_n 1, 1) := by decide +kernel
theorem dX7_append_28 : decode cX7_append 28 = .ok (.i2c, 1) := by decide +kernel
theorem dX7_append_29 : decode cX7_append 29 = .ok (.castore, 1) := by decide +kernel
theorem dX7_append_30 : decode cX7_append 30 = .ok (.aload_n 0, 1) := by decide +kernel
theorem dX7_append_31 : decode cX7_append 31 = .ok (.dup, 1) := by decide +kernel
theorem dX7_append_32 : decode cX7_append 32 = .ok (.getfield 15, 3) := by decide +kernel
theorem dX7_append_35 : decode cX7_append 35 = .ok (.iconst 1, 1) := by decide +kernel
theorem dX7_append_36 : decode cX7_append 36 = .ok (.iadd, 1) := by decide +kernel
theorem dX7_append_37 : decode cX7_append 37 = .ok (.putfield 15, 3) := by decide +kernel
theorem dX7_append_40 : decode cX7_append 40 = .ok (.return_, 1) := by decide +kernel
theorem dX7_clear_0 : decode cX7_clear 0 = .ok (.aload_n 0, 1) := by decide +kernel
theorem dX7_clear_1 : decode cX7_clear 1 = .ok (.iconst 0, 1) := by decide +kernel
theorem dX7_clear_2 : decode cX7_clear 2 = .ok (.putfield 15, 3) := by decide +kernel
theorem dX7_clear_5 : decode cX7_clear 5 = .ok (.return_, 1) := by decide +kernel
theorem dX7_rewind_0 : decode cX7_rewind 0 = .ok (.aload_n 0, 1) := by decide +kernel
theorem dX7_rewind_1 : decode cX7_rewind 1 = .ok (.iconst 0, 1) := by decide +kernel
theorem dX7_rewind_2 : decode cX7_rewind 2 = .ok (.putfield 19, 3) := by decide +kernel
theorem dX7_rewind_5 : decode cX7_rewind 5 = .ok (.return_, 1) := by decide +kernel
theorem dX7_isAtEnd_0 : decode cX7_isAtEnd 0 = .ok (.aload_n 0, 1) := by decide +kernel
theorem dX7_isAtEnd_1 : decode cX7_isAtEnd 1 = .ok (.getfield 19, 3) := by decide +kernel
theorem dX7_isAtEnd_4 : decode cX7_isAtEnd 4 = .ok (.aload_n 0, 1) := by decide +kernel
theorem dX7_isAtEnd_5 : decode cX7_isAtEnd 5 = .ok (.getfield 15, 3) := by decide +kernel
theorem dX7_isAtEnd_8 : decode cX7_isAtEnd 8 = .ok (.if_icmp .lt 7, 3) := by decide +kernel
theorem dX7_isAtEnd_11 : decode cX7_isAtEnd 11 = .ok (.iconst 1, 1) := by decide +kernel
theorem dX7_isAtEnd_12 : decode cX7_isAtEnd 12 = .ok (.goto 4, 3) := by decide +kernel
theorem dX7_isAtEnd_15 : decode cX7_isAtEnd 15 = .ok (.iconst 0, 1) := by decide +kernel
theorem dX7_isAtEnd_16 : decode cX7_isAtEnd 16 = .ok (.ireturn, 1) := by decide +kernel
set_option maxRecDepth 20000 in
theorem dX7_accept_0 : decode cX7_accept 0 = .ok (.aload_n 0, 1) := by decide +kernel
theorem dX7_accept_1 : decode cX7_accept 1 = .ok (.invokevirtual 25, 3) := by decide +kernel
theorem dX7_accept_4 : decode cX7_accept 4 = .ok (.iload_n 1, 1) := by decide +kernel
theorem dX7_accept_5 : decode cX7_accept 5 = .ok (.if_icmp .eq 5, 3) := by decide +kernel
theorem dX7_accept_8 : decode cX7_accept 8 = .ok (.iconst 0, 1) := by decide +kernel
theorem dX7_accept_9 : decode cX7_accept 9 = .ok (.ireturn, 1) := by decide +kernel
theorem dX7_accept_10 : decode cX7_accept 10 = .ok (.aload_n 0, 1) := by decide +kernel
theorem dX7_accept_11 : decode cX7_accept 11 = .ok (.dup, 1) := by decide +kernel
theorem dX7_accept_12 : decode cX7_accept 12 = .ok (.getfield 19, 3) := by decide +kernel
theorem dX7_accept_15 : decode cX7_accept 15 = .ok (.iconst 1, 1) := by decide +kernel
theorem dX7_accept_16 : decode cX7_accept 16 = .ok (.iadd, 1) := by decide +kernel
theorem dX7_accept_17 : decode cX7_accept 17 = .ok (.putfield 19, 3) := by decide +kernel
theorem dX7_accept_20 : decode cX7_accept 20 = .ok (.iconst 1, 1) := by decide +kernel
theorem dX7_accept_21 : decode cX7_accept 21 = .ok (.ireturn, 1) := by decide +kernel
set_option maxRecDepth 20000 in
theorem dX7_seesDigit_0 : decode cX7_seesDigit 0 = .ok (.aload_n 0, 1) := by decide +kernel
theorem dX7_seesDigit_1 : decode cX7_seesDigit 1 = .ok (.invokevirtual 25, 3) := by decide +kernel
theorem dX7_seesDigit_4 : decode cX7_seesDigit 4 = .ok (.istore_n 1, 1) := by decide +kernel
theorem dX7_seesDigit_5 : decode cX7_seesDigit 5 = .ok (.iload_n 1, 1) := by decide +kernel
theorem dX7_seesDigit_6 : decode cX7_seesDigit 6 = .ok (.bipush 48, 2) := by decide +kernel
theorem dX7_seesDigit_8 : decode cX7_seesDigit 8 = .ok (.if_icmp .lt 13, 3) := by decide +kernel
theorem dX7_seesDigit_11 : decode cX7_seesDigit 11 = .ok (.iload_n 1, 1) := by decide +kernel
theorem dX7_seesDigit_12 : decode cX7_seesDigit 12 = .ok (.bipush 57, 2) := by decide +kernel
theorem dX7_seesDigit_14 : decode cX7_seesDigit 14 = .ok (.if_icmp .gt 7, 3) := by decide +kernel
theorem dX7_seesDigit_17 : decode cX7_seesDigit 17 = .ok (.iconst 1, 1) := by decide +kernel
theorem dX7_seesDigit_18 : decode cX7_seesDigit 18 = .ok (.goto 4, 3) := by decide +kernel
theorem dX7_seesDigit_21 : decode cX7_seesDigit 21 = .ok (.iconst 0, 1) := by decide +kernel
theorem dX7_seesDigit_22 : decode cX7_seesDigit 22 = .ok (.ireturn, 1) := by decide +kernel
set_option maxRecDepth 20000 in
theorem dX7_readNumber_0 : decode cX7_readNumber 0 = .ok (.aload_n 0, 1) := by decide +kernel
theorem dX7_readNumber_1 : decode cX7_readNumber 1 = .ok (.iconst 0, 1) := by decide +kernel
theorem dX7_readNumber_2 : decode cX7_readNumber 2 = .ok (.putfield 22, 3) := by decide +kernel
theorem dX7_readNumber_5 : decode cX7_readNumber 5 = .ok (.iconst 0, 1) := by decide +kernel
theorem dX7_readNumber_6 : decode cX7_readNumber 6 = .ok (.istore_n 1, 1) := by decide +kernel
theorem dX7_readNumber_7 : decode cX7_readNumber 7 = .ok (.iload_n 1, 1) := by decide +kernel
theorem dX7_readNumber_8 : decode cX7_readNumber 8 = .ok (.bipush 6, 2) := by decide +kernel
theorem dX7_readNumber_10 : decode cX7_readNumber 10 = .ok (.if_icmp .ge 45, 3) := by decide +kernel
theorem dX7_readNumber_13 : decode cX7_readNumber 13 = .ok (.aload_n 0, 1) := by decide +kernel
theorem dX7_readNumber_14 : decode cX7_readNumber 14 = .ok (.invokevirtual 29, 3) := by decide +kernel
theorem dX7_readNumber_17 : decode cX7_readNumber 17 = .ok (.ifCond .eq 38, 3) := by decide +kernel
theorem dX7_readNumber_20 : decode cX7_readNumber 20 = .ok (.aload_n 0, 1) := by decide +kernel
theorem dX7_readNumber_21 : decode cX7_readNumber 21 = .ok (.aload_n 0, 1) := by decide +kernel
theorem dX7_readNumber_22 : decode cX7_readNumber 22 = .ok (.getfield 22, 3) := by decide +kernel
theorem dX7_readNumber_25 : decode cX7_readNumber 25 = .ok (.bipush 10, 2) := by decide +kernel
theorem dX7_readNumber_27 : decode cX7_readNumber 27 = .ok (.imul, 1) := by decide +kernel
theorem dX7_readNumber_28 : decode cX7_readNumber 28 = .ok (.aload_n 0, 1) := by decide +kernel
theorem dX7_readNumber_29 : decode cX7_readNumber 29 = .ok (.invokevirtual 25, 3) := by decide +kernel
theorem dX7_readNumber_32 : decode cX7_readNumber 32 = .ok (.bipush 48, 2) := by decide +kernel
theorem dX7_readNumber_34 : decode cX7_readNumber 34 = .ok (.isub, 1) := by decide +kernel
theorem dX7_readNumber_35 : decode cX7_readNumber 35 = .ok (.iadd, 1) := by decide +kernel
theorem dX7_readNumber_36 : decode cX7_readNumber 36 = .ok (.putfield 22, 3) := by decide +kernel
theorem dX7_readNumber_39 : decode cX7_readNumber 39 = .ok (.aload_n 0, 1) := by decide +kernel
theorem dX7_readNumber_40 : decode cX7_readNumber 40 = .ok (.dup, 1) := by decide +kernel
theorem dX7_readNumber_41 : decode cX7_readNumber 41 = .ok (.getfield 19, 3) := by decide +kernel
theorem dX7_readNumber_44 : decode cX7_readNumber 44 = .ok (.iconst 1, 1) := by decide +kernel
theorem dX7_readNumber_45 : decode cX7_readNumber 45 = .ok (.iadd, 1) := by decide +kernel
theorem dX7_readNumber_46 : decode cX7_readNumber 46 = .ok (.putfield 19, 3) := by decide +kernel
theorem dX7_readNumber_49 : decode cX7_readNumber 49 = .ok (.iinc 1 1, 3) := by decide +kernel
theorem dX7_readNumber_52 : decode cX7_readNumber 52 = .ok (.goto (-45), 3) := by decide +kernel
theorem dX7_readNumber_55 : decode cX7_readNumber 55 = .ok (.iload_n 1, 1) := by decide +kernel
theorem dX7_readNumber_56 : decode cX7_readNumber 56 = .ok (.ifCond .le 7, 3) := by decide +kernel
theorem dX7_readNumber_59 : decode cX7_readNumber 59 = .ok (.iconst 1, 1) := by decide +kernel
theorem dX7_readNumber_60 : decode cX7_readNumber 60 = .ok (.goto 4, 3) := by decide +kernel
theorem dX7_readNumber_63 : decode cX7_readNumber 63 = .ok (.iconst 0, 1) := by decide +kernel
theorem dX7_readNumber_64 : decode cX7_readNumber 64 = .ok (.ireturn, 1) := by decide +kernel
theorem dX7_next_0 : decode cX7_next 0 = .ok (.aload_n 0, 1) := by decide +kernel
theorem dX7_next_1 : decode cX7_next 1 = .ok (.getfield 19, 3) := by decide +kernel
theorem dX7_next_4 : decode cX7_next 4 = .ok (.ifCond .lt 30, 3) := by decide +kernel
theorem dX7_next_7 : decode cX7_next 7 = .ok (.aload_n 0, 1) := by decide +kernel
theorem dX7_next_8 : decode cX7_next 8 = .ok (.getfield 19, 3) := by decide +kernel
theorem dX7_next_11 : decode cX7_next 11 = .ok (.aload_n 0, 1) := by decide +kernel
theorem dX7_next_12 : decode cX7_next 12 = .ok (.getfield 15, 3) := by decide +kernel
theorem dX7_next_15 : decode cX7_next 15 = .ok (.if_icmp .ge 19, 3) := by decide +kernel
theorem dX7_next_18 : decode cX7_next 18 = .ok (.aload_n 0, 1) := by decide +kernel
theorem dX7_next_19 : decode cX7_next 19 = .ok (.getfield 19, 3) := by decide +kernel
theorem dX7_next_22 : decode cX7_next 22 = .ok (.aload_n 0, 1) := by decide +kernel
theorem dX7_next_23 : decode cX7_next 23 = .ok (.getfield 9, 3) := by decide +kernel
theorem dX7_next_26 : decode cX7_next 26 = .ok (.arraylength, 1) := by decide +kernel
theorem dX7_next_27 : decode cX7_next 27 = .ok (.if_icmp .ge 7, 3) := by decide +kernel
theorem dX7_next_30 : decode cX7_next 30 = .ok (.iconst 1, 1) := by decide +kernel
theorem dX7_next_31 : decode cX7_next 31 = .ok (.goto 4, 3) := by decide +kernel
theorem dX7_next_34 : decode cX7_next 34 = .ok (.iconst 0, 1) := by decide +kernel
theorem dX7_next_35 : decode cX7_next 35 = .ok (.istore_n 1, 1) := by decide +kernel
theorem dX7_next_36 : decode cX7_next 36 = .ok (.iload_n 1, 1) := by decide +kernel
theorem dX7_next_37 : decode cX7_next 37 = .ok (.ifCond .eq 15, 3) := by decide +kernel
theorem dX7_next_40 : decode cX7_next 40 = .ok (.aload_n 0, 1) := by decide +kernel
theorem dX7_next_41 : decode cX7_next 41 = .ok (.getfield 9, 3) := by decide +kernel
theorem dX7_next_44 : decode cX7_next 44 = .ok (.aload_n 0, 1) := by decide +kernel
theorem dX7_next_45 : decode cX7_next 45 = .ok (.getfield 19, 3) := by decide +kernel
theorem dX7_next_48 : decode cX7_next 48 = .ok (.caload, 1) := by decide +kernel
theorem dX7_next_49 : decode cX7_next 49 = .ok (.goto 4, 3) := by decide +kernel
theorem dX7_next_52 : decode cX7_next 52 = .ok (.iconst 0, 1) := by decide +kernel
theorem dX7_next_53 : decode cX7_next 53 = .ok (.ireturn, 1) := by decide +kernel
set_option maxRecDepth 20000 in
theorem dX8_init_0 : decode cX8_init 0 = .ok (.aload_n 0, 1) := by decide +kernel
theorem dX8_init_1 : decode cX8_init 1 = .ok (.invokespecial 1, 3) := by decide +kernel
theorem dX8_init_4 : decode cX8_init 4 = .ok (.aload_n 0, 1) := by decide +kernel
theorem dX8_init_5 : decode cX8_init 5 = .ok (.new 7, 3) := by decide +kernel
theorem dX8_init_8 : decode cX8_init 8 = .ok (.dup, 1) := by decide +kernel
theorem dX8_init_9 : decode cX8_init 9 = .ok (.invokespecial 9, 3) := by decide +kernel
theorem dX8_init_12 : decode cX8_init 12 = .ok (.putfield 10, 3) := by decide +kernel
theorem dX8_init_15 : decode cX8_init 15 = .ok (.aload_n 0, 1) := by decide +kernel
theorem dX8_init_16 : decode cX8_init 16 = .ok (.new 16, 3) := by decide +kernel
theorem dX8_init_19 : decode cX8_init 19 = .ok (.dup, 1) := by decide +kernel
theorem dX8_init_20 : decode cX8_init 20 = .ok (.aload_n 0, 1) := by decide +kernel
theorem dX8_init_21 : decode cX8_init 21 = .ok (.getfield 10, 3) := by decide +kernel
theorem dX8_init_24 : decode cX8_init 24 = .ok (.invokespecial 18, 3) := by decide +kernel
theorem dX8_init_27 : decode cX8_init 27 = .ok (.putfield 21, 3) := by decide +kernel
theorem dX8_init_30 : decode cX8_init 30 = .ok (.aload_n 0, 1) := by decide +kernel
theorem dX8_init_31 : decode cX8_init 31 = .ok (.new 25, 3) := by decide +kernel
theorem dX8_init_34 : decode cX8_init 34 = .ok (.dup, 1) := by decide +kernel
theorem dX8_init_35 : decode cX8_init 35 = .ok (.invokespecial 27, 3) := by decide +kernel
theorem dX8_init_38 : decode cX8_init 38 = .ok (.putfield 28, 3) := by decide +kernel
theorem dX8_init_41 : decode cX8_init 41 = .ok (.aload_n 0, 1) := by decide +kernel
theorem dX8_init_42 : decode cX8_init 42 = .ok (.new 25, 3) := by decide +kernel
theorem dX8_init_45 : decode cX8_init 45 = .ok (.dup, 1) := by decide +kernel
theorem dX8_init_46 : decode cX8_init 46 = .ok (.invokespecial 27, 3) := by decide +kernel
theorem dX8_init_49 : decode cX8_init 49 = .ok (.putfield 32, 3) := by decide +kernel
theorem dX8_init_52 : decode cX8_init 52 = .ok (.aload_n 0, 1) := by decide +kernel
theorem dX8_init_53 : decode cX8_init 53 = .ok (.new 35, 3) := by decide +kernel
theorem dX8_init_56 : decode cX8_init 56 = .ok (.dup, 1) := by decide +kernel
theorem dX8_init_57 : decode cX8_init 57 = .ok (.invokespecial 37, 3) := by decide +kernel
theorem dX8_init_60 : decode cX8_init 60 = .ok (.putfield 38, 3) := by decide +kernel
theorem dX8_init_63 : decode cX8_init 63 = .ok (.aload_n 0, 1) := by decide +kernel
theorem dX8_init_64 : decode cX8_init 64 = .ok (.new 42, 3) := by decide +kernel
theorem dX8_init_67 : decode cX8_init 67 = .ok (.dup, 1) := by decide +kernel
theorem dX8_init_68 : decode cX8_init 68 = .ok (.invokespecial 44, 3) := by decide +kernel
theorem dX8_init_71 : decode cX8_init 71 = .ok (.putfield 45, 3) := by decide +kernel
theorem dX8_init_74 : decode cX8_init 74 = .ok (.aload_n 0, 1) := by decide +kernel
theorem dX8_init_75 : decode cX8_init 75 = .ok (.new 49, 3) := by decide +kernel
theorem dX8_init_78 : decode cX8_init 78 = .ok (.dup, 1) := by decide +kernel
theorem dX8_init_79 : decode cX8_init 79 = .ok (.invokespecial 51, 3) := by decide +kernel
theorem dX8_init_82 : decode cX8_init 82 = .ok (.putfield 52, 3) := by decide +kernel
theorem dX8_init_85 : decode cX8_init 85 = .ok (.aload_n 0, 1) := by decide +kernel
theorem dX8_init_86 : decode cX8_init 86 = .ok (.new 56, 3) := by decide +kernel
theorem dX8_init_89 : decode cX8_init 89 = .ok (.dup, 1) := by decide +kernel
theorem dX8_init_90 : decode cX8_init 90 = .ok (.invokespecial 58, 3) := by decide +kernel
theorem dX8_init_93 : decode cX8_init 93 = .ok (.putfield 59, 3) := by decide +kernel
theorem dX8_init_96 : decode cX8_init 96 = .ok (.aload_n 0, 1) := by decide +kernel
theorem dX8_init_97 : decode cX8_init 97 = .ok (.iconst (-1), 1) := by decide +kernel
theorem dX8_init_98 : decode cX8_init 98 = .ok (.putfield 63, 3) := by decide +kernel
theorem dX8_init_101 : decode cX8_init 101 = .ok (.iconst 0, 1) := by decide +kernel
theorem dX8_init_102 : decode cX8_init 102 = .ok (.istore_n 1, 1) := by decide +kernel
theorem dX8_init_103 : decode cX8_init 103 = .ok (.iload_n 1, 1) := by decide +kernel
theorem dX8_init_104 : decode cX8_init 104 = .ok (.ldc 67, 2) := by decide +kernel
theorem dX8_init_106 : decode cX8_init 106 = .ok (.invokevirtual 69, 3) := by decide +kernel
theorem dX8_init_109 : decode cX8_init 109 = .ok (.if_icmp .ge 22, 3) := by decide +kernel
theorem dX8_init_112 : decode cX8_init 112 = .ok (.aload_n 0, 1) := by decide +kernel
theorem dX8_init_113 : decode cX8_init 113 = .ok (.getfield 10, 3) := by decide +kernel
theorem dX8_init_116 : decode cX8_init 116 = .ok (.ldc 67, 2) := by decide +kernel
theorem dX8_init_118 : decode cX8_init 118 = .ok (.iload_n 1, 1) := by decide +kernel
theorem dX8_init_119 : decode cX8_init 119 = .ok (.invokevirtual 75, 3) := by decide +kernel
theorem dX8_init_122 : decode cX8_init 122 = .ok (.invokevirtual 79, 3) := by decide +kernel
theorem dX8_init_125 : decode cX8_init 125 = .ok (.iinc 1 1, 3) := by decide +kernel
theorem dX8_init_128 : decode cX8_init 128 = .ok (.goto (-25), 3) := by decide +kernel
theorem dX8_init_131 : decode cX8_init 131 = .ok (.aload_n 0, 1) := by decide +kernel
theorem dX8_init_132 : decode cX8_init 132 = .ok (.getfield 21, 3) := by decide +kernel
theorem dX8_init_135 : decode cX8_init 135 = .ok (.invokevirtual 83, 3) := by decide +kernel
theorem dX8_init_138 : decode cX8_init 138 = .ok (.pop, 1) := by decide +kernel
theorem dX8_init_139 : decode cX8_init 139 = .ok (.aload_n 0, 1) := by decide +kernel
theorem dX8_init_140 : decode cX8_init 140 = .ok (.getfield 28, 3) := by decide +kernel
theorem dX8_init_143 : decode cX8_init 143 = .ok (.iconst 0, 1) := by decide +kernel
theorem dX8_init_144 : decode cX8_init 144 = .ok (.new 87, 3) := by decide +kernel
theorem dX8_init_147 : decode cX8_init 147 = .ok (.dup, 1) := by decide +kernel
theorem dX8_init_148 : decode cX8_init 148 = .ok (.aload_n 0, 1) := by decide +kernel
theorem dX8_init_149 : decode cX8_init 149 = .ok (.getfield 21, 3) := by decide +kernel
theorem dX8_init_152 : decode cX8_init 152 = .ok (.invokespecial 89, 3) := by decide +kernel
theorem dX8_init_155 : decode cX8_init 155 = .ok (.invokevirtual 92, 3) := by decide +kernel
theorem dX8_init_158 : decode cX8_init 158 = .ok (.aload_n 0, 1) := by decide +kernel
theorem dX8_init_159 : decode cX8_init 159 = .ok (.getfield 10, 3) := by decide +kernel
theorem dX8_init_162 : decode cX8_init 162 = .ok (.invokevirtual 96, 3) := by decide +kernel
theorem dX8_init_165 : decode cX8_init 165 = .ok (.return_, 1) := by decide +kernel
set_option maxRecDepth 20000 in
theorem dX8_appendCharacter_0 : decode cX8_appendCharacter 0 = .ok (.iload_n 1, 1) := by decide +kernel
theorem dX8_appendCharacter_1 : decode cX8_appendCharacter 1 = .ok (.bipush 33, 2) := by decide +kernel
theorem dX8_appendCharacter_3 : decode cX8_appendCharacter 3 = .ok (.bipush 126, 2) := by decide +kernel
theorem dX8_appendCharacter_5 : decode cX8_appendCharacter 5 = .ok (.invokestatic 99, 3) := by decide +kernel
theorem dX8_appendCharacter_8 : decode cX8_appendCharacter 8 = .ok (.invokestatic 103, 3) := by decide +kernel
theorem dX8_appendCharacter_11 : decode cX8_appendCharacter 11 = .ok (.aload_n 0, 1) := by decide +kernel
theorem dX8_appendCharacter_12 : decode cX8_appendCharacter 12 = .ok (.getfield 10, 3) := by decide +kernel
theorem dX8_appendCharacter_15 : decode cX8_appendCharacter 15 = .ok (.invokevirtual 107, 3) := by decide +kernel
theorem dX8_appendCharacter_18 : decode cX8_appendCharacter 18 = .ok (.bipush 100, 2) := by decide +kernel
theorem dX8_appendCharacter_20 : decode cX8_appendCharacter 20 = .ok (.if_icmp .lt 13, 3) := by decide +kernel
theorem dX8_appendCharacter_23 : decode cX8_appendCharacter 23 = .ok (.new 108, 3) := by decide +kernel
theorem dX8_appendCharacter_26 : decode cX8_appendCharacter 26 = .ok (.dup, 1) := by decide +kernel
theorem dX8_appendCharacter_27 : decode cX8_appendCharacter 27 = .ok (.ldc 110, 2) := by decide +kernel
theorem dX8_appendCharacter_29 : decode cX8_appendCharacter 29 = .ok (.invokespecial 112, 3) := by decide +kernel
theorem dX8_appendCharacter_32 : decode cX8_appendCharacter 32 = .ok (.athrow, 1) := by decide +kernel
theorem dX8_appendCharacter_33 : decode cX8_appendCharacter 33 = .ok (.aload_n 0, 1) := by decide +kernel
theorem dX8_appendCharacter_34 : decode cX8_appendCharacter 34 = .ok (.getfield 10, 3) := by decide +kernel
theorem dX8_appendCharacter_37 : decode cX8_appendCharacter 37 = .ok (.iload_n 1, 1) := by decide +kernel
theorem dX8_appendCharacter_38 : decode cX8_appendCharacter 38 = .ok (.invokevirtual 79, 3) := by decide +kernel
theorem dX8_appendCharacter_41 : decode cX8_appendCharacter 41 = .ok (.aload_n 0, 1) := by decide +kernel
theorem dX8_appendCharacter_42 : decode cX8_appendCharacter 42 = .ok (.getfield 10, 3) := by decide +kernel
theorem dX8_appendCharacter_45 : decode cX8_appendCharacter 45 = .ok (.invokevirtual 107, 3) := by decide +kernel
theorem dX8_appendCharacter_48 : decode cX8_appendCharacter 48 = .ok (.ireturn, 1) := by decide +kernel
set_option maxRecDepth 20000 in
theorem dX8_setCalendar_0 : decode cX8_setCalendar 0 = .ok (.aload_n 0, 1) := by decide +kernel
theorem dX8_setCalendar_1 : decode cX8_setCalendar 1 = .ok (.getfield 28, 3) := by decide +kernel
theorem dX8_setCalendar_4 : decode cX8_setCalendar 4 = .ok (.invokevirtual 115, 3) := by decide +kernel
theorem dX8_setCalendar_7 : decode cX8_setCalendar 7 = .ok (.iconst 5, 1) := by decide +kernel
theorem dX8_setCalendar_8 : decode cX8_setCalendar 8 = .ok (.invokestatic 118, 3) := by decide +kernel
theorem dX8_setCalendar_11 : decode cX8_setCalendar 11 = .ok (.istore_n 2, 1) := by decide +kernel
theorem dX8_setCalendar_12 : decode cX8_setCalendar 12 = .ok (.iload_n 1, 1) := by decide +kernel
theorem dX8_setCalendar_13 : decode cX8_setCalendar 13 = .ok (.iconst 0, 1) := by decide +kernel
theorem dX8_setCalendar_14 : decode cX8_setCalendar 14 = .ok (.iload_n 2, 1) := by decide +kernel
theorem dX8_setCalendar_15 : decode cX8_setCalendar 15 = .ok (.invokestatic 99, 3) := by decide +kernel
theorem dX8_setCalendar_18 : decode cX8_setCalendar 18 = .ok (.ifCond .ne 20, 3) := by decide +kernel
theorem dX8_setCalendar_21 : decode cX8_setCalendar 21 = .ok (.aload_n 0, 1) := by decide +kernel
theorem dX8_setCalendar_22 : decode cX8_setCalendar 22 = .ok (.getfield 10, 3) := by decide +kernel
theorem dX8_setCalendar_25 : decode cX8_setCalendar 25 = .ok (.invokevirtual 96, 3) := by decide +kernel
theorem dX8_setCalendar_28 : decode cX8_setCalendar 28 = .ok (.new 124, 3) := by decide +kernel
theorem dX8_setCalendar_31 : decode cX8_setCalendar 31 = .ok (.dup, 1) := by decide +kernel
theorem dX8_setCalendar_32 : decode cX8_setCalendar 32 = .ok (.ldc 126, 2) := by decide +kernel
theorem dX8_setCalendar_34 : decode cX8_setCalendar 34 = .ok (.invokespecial 128, 3) := by decide +kernel
theorem dX8_setCalendar_37 : decode cX8_setCalendar 37 = .ok (.athrow, 1) := by decide +kernel
theorem dX8_setCalendar_38 : decode cX8_setCalendar 38 = .ok (.aload_n 0, 1) := by decide +kernel
theorem dX8_setCalendar_39 : decode cX8_setCalendar 39 = .ok (.getfield 21, 3) := by decide +kernel
theorem dX8_setCalendar_42 : decode cX8_setCalendar 42 = .ok (.invokevirtual 83, 3) := by decide +kernel
theorem dX8_setCalendar_45 : decode cX8_setCalendar 45 = .ok (.istore_n 3, 1) := by decide +kernel
theorem dX8_setCalendar_46 : decode cX8_setCalendar 46 = .ok (.aload_n 0, 1) := by decide +kernel
theorem dX8_setCalendar_47 : decode cX8_setCalendar 47 = .ok (.iload_n 3, 1) := by decide +kernel
theorem dX8_setCalendar_48 : decode cX8_setCalendar 48 = .ok (.ifCond .eq 7, 3) := by decide +kernel
theorem dX8_setCalendar_51 : decode cX8_setCalendar 51 = .ok (.iconst (-1), 1) := by decide +kernel
theorem dX8_setCalendar_52 : decode cX8_setCalendar 52 = .ok (.goto 10, 3) := by decide +kernel
theorem dX8_setCalendar_55 : decode cX8_setCalendar 55 = .ok (.aload_n 0, 1) := by decide +kernel
theorem dX8_setCalendar_56 : decode cX8_setCalendar 56 = .ok (.getfield 10, 3) := by decide +kernel
theorem dX8_setCalendar_59 : decode cX8_setCalendar 59 = .ok (.invokevirtual 129, 3) := by decide +kernel
theorem dX8_setCalendar_62 : decode cX8_setCalendar 62 = .ok (.putfield 63, 3) := by decide +kernel
theorem dX8_setCalendar_65 : decode cX8_setCalendar 65 = .ok (.aload_n 0, 1) := by decide +kernel
theorem dX8_setCalendar_66 : decode cX8_setCalendar 66 = .ok (.getfield 10, 3) := by decide +kernel
theorem dX8_setCalendar_69 : decode cX8_setCalendar 69 = .ok (.invokevirtual 96, 3) := by decide +kernel
theorem dX8_setCalendar_72 : decode cX8_setCalendar 72 = .ok (.iload_n 3, 1) := by decide +kernel
theorem dX8_setCalendar_73 : decode cX8_setCalendar 73 = .ok (.ifCond .ne 13, 3) := by decide +kernel
theorem dX8_setCalendar_76 : decode cX8_setCalendar 76 = .ok (.new 132, 3) := by decide +kernel
theorem dX8_setCalendar_79 : decode cX8_setCalendar 79 = .ok (.dup, 1) := by decide +kernel
theorem dX8_setCalendar_80 : decode cX8_setCalendar 80 = .ok (.ldc 134, 2) := by decide +kernel
theorem dX8_setCalendar_82 : decode cX8_setCalendar 82 = .ok (.invokespecial 136, 3) := by decide +kernel
theorem dX8_setCalendar_85 : decode cX8_setCalendar 85 = .ok (.athrow, 1) := by decide +kernel
theorem dX8_setCalendar_86 : decode cX8_setCalendar 86 = .ok (.aload_n 0, 1) := by decide +kernel
theorem dX8_setCalendar_87 : decode cX8_setCalendar 87 = .ok (.getfield 21, 3) := by decide +kernel
theorem dX8_setCalendar_90 : decode cX8_setCalendar 90 = .ok (.invokevirtual 137, 3) := by decide +kernel
theorem dX8_setCalendar_93 : decode cX8_setCalendar 93 = .ok (.ifCond .ne 13, 3) := by decide +kernel
theorem dX8_setCalendar_96 : decode cX8_setCalendar 96 = .ok (.new 108, 3) := by decide +kernel
theorem dX8_setCalendar_99 : decode cX8_setCalendar 99 = .ok (.dup, 1) := by decide +kernel
theorem dX8_setCalendar_100 : decode cX8_setCalendar 100 = .ok (.ldc 140, 2) := by decide +kernel
theorem dX8_setCalendar_102 : decode cX8_setCalendar 102 = .ok (.invokespecial 112, 3) := by decide +kernel
theorem dX8_setCalendar_105 : decode cX8_setCalendar 105 = .ok (.athrow, 1) := by decide +kernel
theorem dX8_setCalendar_106 : decode cX8_setCalendar 106 = .ok (.new 87, 3) := by decide +kernel
theorem dX8_setCalendar_109 : decode cX8_setCalendar 109 = .ok (.dup, 1) := by decide +kernel
theorem dX8_setCalendar_110 : decode cX8_setCalendar 110 = .ok (.aload_n 0, 1) := by decide +kernel
theorem dX8_setCalendar_111 : decode cX8_setCalendar 111 = .ok (.getfield 21, 3) := by decide +kernel
theorem dX8_setCalendar_114 : decode cX8_setCalendar 114 = .ok (.invokespecial 89, 3) := by decide +kernel
theorem dX8_setCalendar_117 : decode cX8_setCalendar 117 = .ok (.astore 4, 2) := by decide +kernel
theorem dX8_setCalendar_119 : decode cX8_setCalendar 119 = .ok (.aload_n 0, 1) := by decide +kernel
theorem dX8_setCalendar_120 : decode cX8_setCalendar 120 = .ok (.getfield 38, 3) := by decide +kernel
theorem dX8_setCalendar_123 : decode cX8_setCalendar 123 = .ok (.aload_n 0, 1) := by decide +kernel
theorem dX8_setCalendar_124 : decode cX8_setCalendar 124 = .ok (.getfield 28, 3) := by decide +kernel
theorem dX8_setCalendar_127 : decode cX8_setCalendar 127 = .ok (.invokevirtual 142, 3) := by decide +kernel
theorem dX8_setCalendar_130 : decode cX8_setCalendar 130 = .ok (.aload_n 0, 1) := by decide +kernel
theorem dX8_setCalendar_131 : decode cX8_setCalendar 131 = .ok (.getfield 28, 3) := by decide +kernel
theorem dX8_setCalendar_134 : decode cX8_setCalendar 134 = .ok (.iload_n 1, 1) := by decide +kernel
theorem dX8_setCalendar_135 : decode cX8_setCalendar 135 = .ok (.aload 4, 2) := by decide +kernel
theorem dX8_setCalendar_137 : decode cX8_setCalendar 137 = .ok (.invokevirtual 92, 3) := by decide +kernel
theorem dX8_setCalendar_140 : decode cX8_setCalendar 140 = .ok (.aload 4, 2) := by decide +kernel
theorem dX8_setCalendar_142 : decode cX8_setCalendar 142 = .ok (.invokevirtual 146, 3) := by decide +kernel
theorem dX8_setCalendar_145 : decode cX8_setCalendar 145 = .ok (.ireturn, 1) := by decide +kernel
theorem dX8_faultPosition_0 : decode cX8_faultPosition 0 = .ok (.aload_n 0, 1) := by decide +kernel
theorem dX8_faultPosition_1 : decode cX8_faultPosition 1 = .ok (.getfield 63, 3) := by decide +kernel
theorem dX8_faultPosition_4 : decode cX8_faultPosition 4 = .ok (.ireturn, 1) := by decide +kernel
set_option maxRecDepth 20000 in
theorem dX8_calendarCount_0 : decode cX8_calendarCount 0 = .ok (.aload_n 0, 1) := by decide +kernel
theorem dX8_calendarCount_1 : decode cX8_calendarCount 1 = .ok (.getfield 28, 3) := by decide +kernel
theorem dX8_calendarCount_4 : decode cX8_calendarCount 4 = .ok (.invokevirtual 115, 3) := by decide +kernel
theorem dX8_calendarCount_7 : decode cX8_calendarCount 7 = .ok (.ireturn, 1) := by decide +kernel
set_option maxRecDepth 20000 in
theorem dX8_calendar_0 : decode cX8_calendar 0 = .ok (.aload_n 0, 1) := by decide +kernel
theorem dX8_calendar_1 : decode cX8_calendar 1 = .ok (.iload_n 1, 1) := by decide +kernel
theorem dX8_calendar_2 : decode cX8_calendar 2 = .ok (.invokevirtual 149, 3) := by decide +kernel
theorem dX8_calendar_5 : decode cX8_calendar 5 = .ok (.astore_n 3, 1) := by decide +kernel
theorem dX8_calendar_6 : decode cX8_calendar 6 = .ok (.iload_n 2, 1) := by decide +kernel
theorem dX8_calendar_7 : decode cX8_calendar 7 = .ok (.iconst 0, 1) := by decide +kernel
theorem dX8_calendar_8 : decode cX8_calendar 8 = .ok (.bipush 7, 2) := by decide +kernel
theorem dX8_calendar_10 : decode cX8_calendar 10 = .ok (.invokestatic 99, 3) := by decide +kernel
theorem dX8_calendar_13 : decode cX8_calendar 13 = .ok (.invokestatic 103, 3) := by decide +kernel
theorem dX8_calendar_16 : decode cX8_calendar 16 = .ok (.aload_n 3, 1) := by decide +kernel
theorem dX8_calendar_17 : decode cX8_calendar 17 = .ok (.iload_n 2, 1) := by decide +kernel
theorem dX8_calendar_18 : decode cX8_calendar 18 = .ok (.invokevirtual 153, 3) := by decide +kernel
theorem dX8_calendar_21 : decode cX8_calendar 21 = .ok (.ireturn, 1) := by decide +kernel
set_option maxRecDepth 20000 in
theorem dX8_isLeapYear_0 : decode cX8_isLeapYear 0 = .ok (.aload_n 0, 1) := by decide +kernel
theorem dX8_isLeapYear_1 : decode cX8_isLeapYear 1 = .ok (.iload_n 1, 1) := by decide +kernel
theorem dX8_isLeapYear_2 : decode cX8_isLeapYear 2 = .ok (.invokevirtual 149, 3) := by decide +kernel
theorem dX8_isLeapYear_5 : decode cX8_isLeapYear 5 = .ok (.astore_n 3, 1) := by decide +kernel
theorem dX8_isLeapYear_6 : decode cX8_isLeapYear 6 = .ok (.iload_n 2, 1) := by decide +kernel
theorem dX8_isLeapYear_7 : decode cX8_isLeapYear 7 = .ok (.invokestatic 157, 3) := by decide +kernel
theorem dX8_isLeapYear_10 : decode cX8_isLeapYear 10 = .ok (.invokestatic 103, 3) := by decide +kernel
theorem dX8_isLeapYear_13 : decode cX8_isLeapYear 13 = .ok (.aload_n 3, 1) := by decide +kernel
theorem dX8_isLeapYear_14 : decode cX8_isLeapYear 14 = .ok (.iload_n 2, 1) := by decide +kernel
theorem dX8_isLeapYear_15 : decode cX8_isLeapYear 15 = .ok (.invokevirtual 161, 3) := by decide +kernel
theorem dX8_isLeapYear_18 : decode cX8_isLeapYear 18 = .ok (.ireturn, 1) := by decide +kernel
set_option maxRecDepth 20000 in
theorem dX8_months_0 : decode cX8_months 0 = .ok (.aload_n 0, 1) := by decide +kernel
theorem dX8_months_1 : decode cX8_months 1 = .ok (.iload_n 1, 1) := by decide +kernel
theorem dX8_months_2 : decode cX8_months 2 = .ok (.invokevirtual 149, 3) := by decide +kernel
theorem dX8_months_5 : decode cX8_months 5 = .ok (.astore_n 3, 1) := by decide +kernel
theorem dX8_months_6 : decode cX8_months 6 = .ok (.iload_n 2, 1) := by decide +kernel
theorem dX8_months_7 : decode cX8_months 7 = .ok (.invokestatic 157, 3) := by decide +kernel
theorem dX8_months_10 : decode cX8_months 10 = .ok (.invokestatic 103, 3) := by decide +kernel
theorem dX8_months_13 : decode cX8_months 13 = .ok (.aload_n 3, 1) := by decide +kernel
theorem dX8_months_14 : decode cX8_months 14 = .ok (.iload_n 2, 1) := by decide +kernel
theorem dX8_months_15 : decode cX8_months 15 = .ok (.invokevirtual 164, 3) := by decide +kernel
theorem dX8_months_18 : decode cX8_months 18 = .ok (.ireturn, 1) := by decide +kernel
set_option maxRecDepth 20000 in
theorem dX8_monthLength_0 : decode cX8_monthLength 0 = .ok (.aload_n 0, 1) := by decide +kernel
theorem dX8_monthLength_1 : decode cX8_monthLength 1 = .ok (.iload_n 1, 1) := by decide +kernel
theorem dX8_monthLength_2 : decode cX8_monthLength 2 = .ok (.invokevirtual 149, 3) := by decide +kernel
theorem dX8_monthLength_5 : decode cX8_monthLength 5 = .ok (.astore 4, 2) := by decide +kernel
theorem dX8_monthLength_7 : decode cX8_monthLength 7 = .ok (.aload 4, 2) := by decide +kernel
theorem dX8_monthLength_9 : decode cX8_monthLength 9 = .ok (.iload_n 2, 1) := by decide +kernel
theorem dX8_monthLength_10 : decode cX8_monthLength 10 = .ok (.iload_n 3, 1) := by decide +kernel
theorem dX8_monthLength_11 : decode cX8_monthLength 11 = .ok (.invokevirtual 167, 3) := by decide +kernel
theorem dX8_monthLength_14 : decode cX8_monthLength 14 = .ok (.invokestatic 103, 3) := by decide +kernel
theorem dX8_monthLength_17 : decode cX8_monthLength 17 = .ok (.aload 4, 2) := by decide +kernel
theorem dX8_monthLength_19 : decode cX8_monthLength 19 = .ok (.iload_n 2, 1) := by decide +kernel
theorem dX8_monthLength_20 : decode cX8_monthLength 20 = .ok (.iload_n 3, 1) := by decide +kernel
theorem dX8_monthLength_21 : decode cX8_monthLength 21 = .ok (.invokevirtual 171, 3) := by decide +kernel
theorem dX8_monthLength_24 : decode cX8_monthLength 24 = .ok (.ireturn, 1) := by decide +kernel
set_option maxRecDepth 20000 in
theorem dX8_isIntercalary_0 : decode cX8_isIntercalary 0 = .ok (.aload_n 0, 1) := by decide +kernel
theorem dX8_isIntercalary_1 : decode cX8_isIntercalary 1 = .ok (.iload_n 1, 1) := by decide +kernel
theorem dX8_isIntercalary_2 : decode cX8_isIntercalary 2 = .ok (.invokevirtual 149, 3) := by decide +kernel
theorem dX8_isIntercalary_5 : decode cX8_isIntercalary 5 = .ok (.astore 4, 2) := by decide +kernel
theorem dX8_isIntercalary_7 : decode cX8_isIntercalary 7 = .ok (.aload 4, 2) := by decide +kernel
theorem dX8_isIntercalary_9 : decode cX8_isIntercalary 9 = .ok (.iload_n 2, 1) := by decide +kernel
theorem dX8_isIntercalary_10 : decode cX8_isIntercalary 10 = .ok (.iload_n 3, 1) := by decide +kernel
theorem dX8_isIntercalary_11 : decode cX8_isIntercalary 11 = .ok (.invokevirtual 167, 3) := by decide +kernel
theorem dX8_isIntercalary_14 : decode cX8_isIntercalary 14 = .ok (.invokestatic 103, 3) := by decide +kernel
theorem dX8_isIntercalary_17 : decode cX8_isIntercalary 17 = .ok (.aload 4, 2) := by decide +kernel
theorem dX8_isIntercalary_19 : decode cX8_isIntercalary 19 = .ok (.iload_n 2, 1) := by decide +kernel
theorem dX8_isIntercalary_20 : decode cX8_isIntercalary 20 = .ok (.iload_n 3, 1) := by decide +kernel
theorem dX8_isIntercalary_21 : decode cX8_isIntercalary 21 = .ok (.invokevirtual 174, 3) := by decide +kernel
theorem dX8_isIntercalary_24 : decode cX8_isIntercalary 24 = .ok (.ireturn, 1) := by decide +kernel
set_option maxRecDepth 20000 in
theorem dX8_yearLength_0 : decode cX8_yearLength 0 = .ok (.aload_n 0, 1) := by decide +kernel
theorem dX8_yearLength_1 : decode cX8_yearLength 1 = .ok (.iload_n 1, 1) := by decide +kernel
theorem dX8_yearLength_2 : decode cX8_yearLength 2 = .ok (.invokevirtual 149, 3) := by decide +kernel
theorem dX8_yearLength_5 : decode cX8_yearLength 5 = .ok (.astore_n 3, 1) := by decide +kernel
theorem dX8_yearLength_6 : decode cX8_yearLength 6 = .ok (.iload_n 2, 1) := by decide +kernel
theorem dX8_yearLength_7 : decode cX8_yearLength 7 = .ok (.invokestatic 157, 3) := by decide +kernel
theorem dX8_yearLength_10 : decode cX8_yearLength 10 = .ok (.invokestatic 103, 3) := by decide +kernel
theorem dX8_yearLength_13 : decode cX8_yearLength 13 = .ok (.aload_n 3, 1) := by decide +kernel
theorem dX8_yearLength_14 : decode cX8_yearLength 14 = .ok (.iload_n 2, 1) := by decide +kernel
theorem dX8_yearLength_15 : decode cX8_yearLength 15 = .ok (.invokevirtual 177, 3) := by decide +kernel
theorem dX8_yearLength_18 : decode cX8_yearLength 18 = .ok (.ireturn, 1) := by decide +kernel
set_option maxRecDepth 20000 in
theorem dX8_firstDay_0 : decode cX8_firstDay 0 = .ok (.aload_n 0, 1) := by decide +kernel
theorem dX8_firstDay_1 : decode cX8_firstDay 1 = .ok (.iload_n 1, 1) := by decide +kernel
theorem dX8_firstDay_2 : decode cX8_firstDay 2 = .ok (.invokevirtual 149, 3) := by decide +kernel
theorem dX8_firstDay_5 : decode cX8_firstDay 5 = .ok (.astore_n 3, 1) := by decide +kernel
theorem dX8_firstDay_6 : decode cX8_firstDay 6 = .ok (.iload_n 2, 1) := by decide +kernel
theorem dX8_firstDay_7 : decode cX8_firstDay 7 = .ok (.invokestatic 157, 3) := by decide +kernel
theorem dX8_firstDay_10 : decode cX8_firstDay 10 = .ok (.invokestatic 103, 3) := by decide +kernel
theorem dX8_firstDay_13 : decode cX8_firstDay 13 = .ok (.aload_n 3, 1) := by decide +kernel
theorem dX8_firstDay_14 : decode cX8_firstDay 14 = .ok (.iload_n 2, 1) := by decide +kernel
theorem dX8_firstDay_15 : decode cX8_firstDay 15 = .ok (.invokevirtual 180, 3) := by decide +kernel
theorem dX8_firstDay_18 : decode cX8_firstDay 18 = .ok (.ireturn, 1) := by decide +kernel
set_option maxRecDepth 20000 in
theorem dX8_dayOf_0 : decode cX8_dayOf 0 = .ok (.aload_n 0, 1) := by decide +kernel
theorem dX8_dayOf_1 : decode cX8_dayOf 1 = .ok (.iload_n 1, 1) := by decide +kernel
theorem dX8_dayOf_2 : decode cX8_dayOf 2 = .ok (.invokevirtual 149, 3) := by decide +kernel
theorem dX8_dayOf_5 : decode cX8_dayOf 5 = .ok (.iload_n 2, 1) := by decide +kernel
theorem dX8_dayOf_6 : decode cX8_dayOf 6 = .ok (.iload_n 3, 1) := by decide +kernel
theorem dX8_dayOf_7 : decode cX8_dayOf 7 = .ok (.iload 4, 2) := by decide +kernel
theorem dX8_dayOf_9 : decode cX8_dayOf 9 = .ok (.invokevirtual 183, 3) := by decide +kernel
theorem dX8_dayOf_12 : decode cX8_dayOf 12 = .ok (.istore 5, 2) := by decide +kernel
theorem dX8_dayOf_14 : decode cX8_dayOf 14 = .ok (.iload 5, 2) := by decide +kernel
theorem dX8_dayOf_16 : decode cX8_dayOf 16 = .ok (.invokestatic 187, 3) := by decide +kernel
theorem dX8_dayOf_19 : decode cX8_dayOf 19 = .ok (.invokestatic 103, 3) := by decide +kernel
theorem dX8_dayOf_22 : decode cX8_dayOf 22 = .ok (.iload 5, 2) := by decide +kernel
theorem dX8_dayOf_24 : decode cX8_dayOf 24 = .ok (.ireturn, 1) := by decide +kernel
set_option maxRecDepth 20000 in
theorem dX8_date_0 : decode cX8_date 0 = .ok (.aload_n 0, 1) := by decide +kernel
theorem dX8_date_1 : decode cX8_date 1 = .ok (.iload_n 1, 1) := by decide +kernel
theorem dX8_date_2 : decode cX8_date 2 = .ok (.invokevirtual 149, 3) := by decide +kernel
theorem dX8_date_5 : decode cX8_date 5 = .ok (.astore 4, 2) := by decide +kernel
theorem dX8_date_7 : decode cX8_date 7 = .ok (.iload_n 2, 1) := by decide +kernel
theorem dX8_date_8 : decode cX8_date 8 = .ok (.invokestatic 187, 3) := by decide +kernel
theorem dX8_date_11 : decode cX8_date 11 = .ok (.ifCond .eq 16, 3) := by decide +kernel
theorem dX8_date_14 : decode cX8_date 14 = .ok (.iload_n 3, 1) := by decide +kernel
theorem dX8_date_15 : decode cX8_date 15 = .ok (.iconst 0, 1) := by decide +kernel
theorem dX8_date_16 : decode cX8_date 16 = .ok (.iconst 4, 1) := by decide +kernel
theorem dX8_date_17 : decode cX8_date 17 = .ok (.invokestatic 99, 3) := by decide +kernel
theorem dX8_date_20 : decode cX8_date 20 = .ok (.ifCond .eq 7, 3) := by decide +kernel
theorem dX8_date_23 : decode cX8_date 23 = .ok (.iconst 1, 1) := by decide +kernel
theorem dX8_date_24 : decode cX8_date 24 = .ok (.goto 4, 3) := by decide +kernel
theorem dX8_date_27 : decode cX8_date 27 = .ok (.iconst 0, 1) := by decide +kernel
theorem dX8_date_28 : decode cX8_date 28 = .ok (.invokestatic 103, 3) := by decide +kernel
theorem dX8_date_31 : decode cX8_date 31 = .ok (.aload 4, 2) := by decide +kernel
theorem dX8_date_33 : decode cX8_date 33 = .ok (.aload 4, 2) := by decide +kernel
theorem dX8_date_35 : decode cX8_date 35 = .ok (.iload_n 2, 1) := by decide +kernel
theorem dX8_date_36 : decode cX8_date 36 = .ok (.invokestatic 190, 3) := by decide +kernel
theorem dX8_date_39 : decode cX8_date 39 = .ok (.iload_n 2, 1) := by decide +kernel
theorem dX8_date_40 : decode cX8_date 40 = .ok (.iload_n 3, 1) := by decide +kernel
theorem dX8_date_41 : decode cX8_date 41 = .ok (.invokevirtual 194, 3) := by decide +kernel
theorem dX8_date_44 : decode cX8_date 44 = .ok (.ireturn, 1) := by decide +kernel
set_option maxRecDepth 20000 in
theorem dX8_convert_0 : decode cX8_convert 0 = .ok (.aload_n 0, 1) := by decide +kernel
theorem dX8_convert_1 : decode cX8_convert 1 = .ok (.iload_n 1, 1) := by decide +kernel
theorem dX8_convert_2 : decode cX8_convert 2 = .ok (.invokevirtual 149, 3) := by decide +kernel
theorem dX8_convert_5 : decode cX8_convert 5 = .ok (.astore 7, 2) := by decide +kernel
theorem dX8_convert_7 : decode cX8_convert 7 = .ok (.aload_n 0, 1) := by decide +kernel
theorem dX8_convert_8 : decode cX8_convert 8 = .ok (.iload 5, 2) := by decide +kernel
theorem dX8_convert_10 : decode cX8_convert 10 = .ok (.invokevirtual 149, 3) := by decide +kernel
theorem dX8_convert_13 : decode cX8_convert 13 = .ok (.astore 8, 2) := by decide +kernel
theorem dX8_convert_15 : decode cX8_convert 15 = .ok (.aload 7, 2) := by decide +kernel
theorem dX8_convert_17 : decode cX8_convert 17 = .ok (.iload_n 2, 1) := by decide +kernel
theorem dX8_convert_18 : decode cX8_convert 18 = .ok (.iload_n 3, 1) := by decide +kernel
theorem dX8_convert_19 : decode cX8_convert 19 = .ok (.iload 4, 2) := by decide +kernel
theorem dX8_convert_21 : decode cX8_convert 21 = .ok (.invokevirtual 183, 3) := by decide +kernel
theorem dX8_convert_24 : decode cX8_convert 24 = .ok (.istore 9, 2) := by decide +kernel
theorem dX8_convert_26 : decode cX8_convert 26 = .ok (.iload 9, 2) := by decide +kernel
theorem dX8_convert_28 : decode cX8_convert 28 = .ok (.invokestatic 187, 3) := by decide +kernel
theorem dX8_convert_31 : decode cX8_convert 31 = .ok (.ifCond .eq 17, 3) := by decide +kernel
theorem dX8_convert_34 : decode cX8_convert 34 = .ok (.iload 6, 2) := by decide +kernel
theorem dX8_convert_36 : decode cX8_convert 36 = .ok (.iconst 0, 1) := by decide +kernel
theorem dX8_convert_37 : decode cX8_convert 37 = .ok (.iconst 4, 1) := by decide +kernel
theorem dX8_convert_38 : decode cX8_convert 38 = .ok (.invokestatic 99, 3) := by decide +kernel
theorem dX8_convert_41 : decode cX8_convert 41 = .ok (.ifCond .eq 7, 3) := by decide +kernel
theorem dX8_convert_44 : decode cX8_convert 44 = .ok (.iconst 1, 1) := by decide +kernel
theorem dX8_convert_45 : decode cX8_convert 45 = .ok (.goto 4, 3) := by decide +kernel
theorem dX8_convert_48 : decode cX8_convert 48 = .ok (.iconst 0, 1) := by decide +kernel
theorem dX8_convert_49 : decode cX8_convert 49 = .ok (.invokestatic 103, 3) := by decide +kernel
theorem dX8_convert_52 : decode cX8_convert 52 = .ok (.aload 8, 2) := by decide +kernel
theorem dX8_convert_54 : decode cX8_convert 54 = .ok (.aload 8, 2) := by decide +kernel
theorem dX8_convert_56 : decode cX8_convert 56 = .ok (.iload 9, 2) := by decide +kernel
theorem dX8_convert_58 : decode cX8_convert 58 = .ok (.invokestatic 190, 3) := by decide +kernel
theorem dX8_convert_61 : decode cX8_convert 61 = .ok (.iload 9, 2) := by decide +kernel
theorem dX8_convert_63 : decode cX8_convert 63 = .ok (.iload 6, 2) := by decide +kernel
theorem dX8_convert_65 : decode cX8_convert 65 = .ok (.invokevirtual 194, 3) := by decide +kernel
theorem dX8_convert_68 : decode cX8_convert 68 = .ok (.ireturn, 1) := by decide +kernel
set_option maxRecDepth 20000 in
theorem dX8_week_0 : decode cX8_week 0 = .ok (.aload_n 0, 1) := by decide +kernel
theorem dX8_week_1 : decode cX8_week 1 = .ok (.iload_n 1, 1) := by decide +kernel
theorem dX8_week_2 : decode cX8_week 2 = .ok (.invokevirtual 149, 3) := by decide +kernel
theorem dX8_week_5 : decode cX8_week 5 = .ok (.astore 4, 2) := by decide +kernel
theorem dX8_week_7 : decode cX8_week 7 = .ok (.iload_n 2, 1) := by decide +kernel
theorem dX8_week_8 : decode cX8_week 8 = .ok (.invokestatic 187, 3) := by decide +kernel
theorem dX8_week_11 : decode cX8_week 11 = .ok (.ifCond .eq 16, 3) := by decide +kernel
theorem dX8_week_14 : decode cX8_week 14 = .ok (.iload_n 3, 1) := by decide +kernel
theorem dX8_week_15 : decode cX8_week 15 = .ok (.iconst 0, 1) := by decide +kernel
theorem dX8_week_16 : decode cX8_week 16 = .ok (.iconst 1, 1) := by decide +kernel
theorem dX8_week_17 : decode cX8_week 17 = .ok (.invokestatic 99, 3) := by decide +kernel
theorem dX8_week_20 : decode cX8_week 20 = .ok (.ifCond .eq 7, 3) := by decide +kernel
theorem dX8_week_23 : decode cX8_week 23 = .ok (.iconst 1, 1) := by decide +kernel
theorem dX8_week_24 : decode cX8_week 24 = .ok (.goto 4, 3) := by decide +kernel
theorem dX8_week_27 : decode cX8_week 27 = .ok (.iconst 0, 1) := by decide +kernel
theorem dX8_week_28 : decode cX8_week 28 = .ok (.invokestatic 103, 3) := by decide +kernel
theorem dX8_week_31 : decode cX8_week 31 = .ok (.aload 4, 2) := by decide +kernel
theorem dX8_week_33 : decode cX8_week 33 = .ok (.aload 4, 2) := by decide +kernel
theorem dX8_week_35 : decode cX8_week 35 = .ok (.iload_n 2, 1) := by decide +kernel
theorem dX8_week_36 : decode cX8_week 36 = .ok (.invokestatic 190, 3) := by decide +kernel
theorem dX8_week_39 : decode cX8_week 39 = .ok (.iload_n 2, 1) := by decide +kernel
theorem dX8_week_40 : decode cX8_week 40 = .ok (.invokevirtual 197, 3) := by decide +kernel
theorem dX8_week_43 : decode cX8_week 43 = .ok (.istore 5, 2) := by decide +kernel
theorem dX8_week_45 : decode cX8_week 45 = .ok (.iload_n 3, 1) := by decide +kernel
theorem dX8_week_46 : decode cX8_week 46 = .ok (.ifCond .ne 8, 3) := by decide +kernel
theorem dX8_week_49 : decode cX8_week 49 = .ok (.iload 5, 2) := by decide +kernel
theorem dX8_week_51 : decode cX8_week 51 = .ok (.goto 11, 3) := by decide +kernel
theorem dX8_week_54 : decode cX8_week 54 = .ok (.aload 4, 2) := by decide +kernel
theorem dX8_week_56 : decode cX8_week 56 = .ok (.iload 5, 2) := by decide +kernel
theorem dX8_week_58 : decode cX8_week 58 = .ok (.iload_n 2, 1) := by decide +kernel
theorem dX8_week_59 : decode cX8_week 59 = .ok (.invokevirtual 200, 3) := by decide +kernel
theorem dX8_week_62 : decode cX8_week 62 = .ok (.ireturn, 1) := by decide +kernel
set_option maxRecDepth 20000 in
theorem dX8_weeks_0 : decode cX8_weeks 0 = .ok (.aload_n 0, 1) := by decide +kernel
theorem dX8_weeks_1 : decode cX8_weeks 1 = .ok (.iload_n 1, 1) := by decide +kernel
theorem dX8_weeks_2 : decode cX8_weeks 2 = .ok (.invokevirtual 149, 3) := by decide +kernel
theorem dX8_weeks_5 : decode cX8_weeks 5 = .ok (.astore_n 3, 1) := by decide +kernel
theorem dX8_weeks_6 : decode cX8_weeks 6 = .ok (.iload_n 2, 1) := by decide +kernel
theorem dX8_weeks_7 : decode cX8_weeks 7 = .ok (.invokestatic 157, 3) := by decide +kernel
theorem dX8_weeks_10 : decode cX8_weeks 10 = .ok (.invokestatic 103, 3) := by decide +kernel
theorem dX8_weeks_13 : decode cX8_weeks 13 = .ok (.aload_n 3, 1) := by decide +kernel
theorem dX8_weeks_14 : decode cX8_weeks 14 = .ok (.iload_n 2, 1) := by decide +kernel
theorem dX8_weeks_15 : decode cX8_weeks 15 = .ok (.invokevirtual 203, 3) := by decide +kernel
theorem dX8_weeks_18 : decode cX8_weeks 18 = .ok (.ireturn, 1) := by decide +kernel
set_option maxRecDepth 20000 in
theorem dX8_firstDayOfWeek_0 : decode cX8_firstDayOfWeek 0 = .ok (.aload_n 0, 1) := by decide +kernel
theorem dX8_firstDayOfWeek_1 : decode cX8_firstDayOfWeek 1 = .ok (.iload_n 1, 1) := by decide +kernel
theorem dX8_firstDayOfWeek_2 : decode cX8_firstDayOfWeek 2 = .ok (.invokevirtual 149, 3) := by decide +kernel
theorem dX8_firstDayOfWeek_5 : decode cX8_firstDayOfWeek 5 = .ok (.astore 4, 2) := by decide +kernel
theorem dX8_firstDayOfWeek_7 : decode cX8_firstDayOfWeek 7 = .ok (.iload_n 2, 1) := by decide +kernel
theorem dX8_firstDayOfWeek_8 : decode cX8_firstDayOfWeek 8 = .ok (.invokestatic 157, 3) := by decide +kernel
theorem dX8_firstDayOfWeek_11 : decode cX8_firstDayOfWeek 11 = .ok (.ifCond .eq 21, 3) := by decide +kernel
theorem dX8_firstDayOfWeek_14 : decode cX8_firstDayOfWeek 14 = .ok (.iload_n 3, 1) := by decide +kernel
theorem dX8_firstDayOfWeek_15 : decode cX8_firstDayOfWeek 15 = .ok (.iconst 1, 1) := by decide +kernel
theorem dX8_firstDayOfWeek_16 : decode cX8_firstDayOfWeek 16 = .ok (.aload 4, 2) := by decide +kernel
theorem dX8_firstDayOfWeek_18 : decode cX8_firstDayOfWeek 18 = .ok (.iload_n 2, 1) := by decide +kernel
theorem dX8_firstDayOfWeek_19 : decode cX8_firstDayOfWeek 19 = .ok (.invokevirtual 203, 3) := by decide +kernel
theorem dX8_firstDayOfWeek_22 : decode cX8_firstDayOfWeek 22 = .ok (.invokestatic 99, 3) := by decide +kernel
theorem dX8_firstDayOfWeek_25 : decode cX8_firstDayOfWeek 25 = .ok (.ifCond .eq 7, 3) := by decide +kernel
theorem dX8_firstDayOfWeek_28 : decode cX8_firstDayOfWeek 28 = .ok (.iconst 1, 1) := by decide +kernel
theorem dX8_firstDayOfWeek_29 : decode cX8_firstDayOfWeek 29 = .ok (.goto 4, 3) := by decide +kernel
theorem dX8_firstDayOfWeek_32 : decode cX8_firstDayOfWeek 32 = .ok (.iconst 0, 1) := by decide +kernel
theorem dX8_firstDayOfWeek_33 : decode cX8_firstDayOfWeek 33 = .ok (.invokestatic 103, 3) := by decide +kernel
theorem dX8_firstDayOfWeek_36 : decode cX8_firstDayOfWeek 36 = .ok (.aload 4, 2) := by decide +kernel
theorem dX8_firstDayOfWeek_38 : decode cX8_firstDayOfWeek 38 = .ok (.iload_n 2, 1) := by decide +kernel
theorem dX8_firstDayOfWeek_39 : decode cX8_firstDayOfWeek 39 = .ok (.iload_n 3, 1) := by decide +kernel
theorem dX8_firstDayOfWeek_40 : decode cX8_firstDayOfWeek 40 = .ok (.invokevirtual 206, 3) := by decide +kernel
theorem dX8_firstDayOfWeek_43 : decode cX8_firstDayOfWeek 43 = .ok (.ireturn, 1) := by decide +kernel
set_option maxRecDepth 20000 in
theorem dX8_plus_0 : decode cX8_plus 0 = .ok (.aload_n 0, 1) := by decide +kernel
theorem dX8_plus_1 : decode cX8_plus 1 = .ok (.iload_n 1, 1) := by decide +kernel
theorem dX8_plus_2 : decode cX8_plus 2 = .ok (.invokevirtual 149, 3) := by decide +kernel
theorem dX8_plus_5 : decode cX8_plus 5 = .ok (.astore 4, 2) := by decide +kernel
theorem dX8_plus_7 : decode cX8_plus 7 = .ok (.iload_n 2, 1) := by decide +kernel
theorem dX8_plus_8 : decode cX8_plus 8 = .ok (.invokestatic 187, 3) := by decide +kernel
theorem dX8_plus_11 : decode cX8_plus 11 = .ok (.ifCond .eq 20, 3) := by decide +kernel
theorem dX8_plus_14 : decode cX8_plus 14 = .ok (.iload_n 3, 1) := by decide +kernel
theorem dX8_plus_15 : decode cX8_plus 15 = .ok (.sipush (-9999), 3) := by decide +kernel
theorem dX8_plus_18 : decode cX8_plus 18 = .ok (.sipush 9999, 3) := by decide +kernel
theorem dX8_plus_21 : decode cX8_plus 21 = .ok (.invokestatic 99, 3) := by decide +kernel
theorem dX8_plus_24 : decode cX8_plus 24 = .ok (.ifCond .eq 7, 3) := by decide +kernel
theorem dX8_plus_27 : decode cX8_plus 27 = .ok (.iconst 1, 1) := by decide +kernel
theorem dX8_plus_28 : decode cX8_plus 28 = .ok (.goto 4, 3) := by decide +kernel
theorem dX8_plus_31 : decode cX8_plus 31 = .ok (.iconst 0, 1) := by decide +kernel
theorem dX8_plus_32 : decode cX8_plus 32 = .ok (.invokestatic 103, 3) := by decide +kernel
theorem dX8_plus_35 : decode cX8_plus 35 = .ok (.aload 4, 2) := by decide +kernel
theorem dX8_plus_37 : decode cX8_plus 37 = .ok (.iload_n 2, 1) := by decide +kernel
theorem dX8_plus_38 : decode cX8_plus 38 = .ok (.iload_n 3, 1) := by decide +kernel
theorem dX8_plus_39 : decode cX8_plus 39 = .ok (.invokevirtual 209, 3) := by decide +kernel
theorem dX8_plus_42 : decode cX8_plus 42 = .ok (.invokestatic 212, 3) := by decide +kernel
theorem dX8_plus_45 : decode cX8_plus 45 = .ok (.ireturn, 1) := by decide +kernel
set_option maxRecDepth 20000 in
theorem dX8_plusYears_0 : decode cX8_plusYears 0 = .ok (.aload_n 0, 1) := by decide +kernel
theorem dX8_plusYears_1 : decode cX8_plusYears 1 = .ok (.iload_n 1, 1) := by decide +kernel
theorem dX8_plusYears_2 : decode cX8_plusYears 2 = .ok (.invokevirtual 149, 3) := by decide +kernel
theorem dX8_plusYears_5 : decode cX8_plusYears 5 = .ok (.astore 4, 2) := by decide +kernel
theorem dX8_plusYears_7 : decode cX8_plusYears 7 = .ok (.iload_n 2, 1) := by decide +kernel
theorem dX8_plusYears_8 : decode cX8_plusYears 8 = .ok (.invokestatic 187, 3) := by decide +kernel
theorem dX8_plusYears_11 : decode cX8_plusYears 11 = .ok (.ifCond .eq 20, 3) := by decide +kernel
theorem dX8_plusYears_14 : decode cX8_plusYears 14 = .ok (.iload_n 3, 1) := by decide +kernel
theorem dX8_plusYears_15 : decode cX8_plusYears 15 = .ok (.sipush (-4000), 3) := by decide +kernel
theorem dX8_plusYears_18 : decode cX8_plusYears 18 = .ok (.sipush 4000, 3) := by decide +kernel
theorem dX8_plusYears_21 : decode cX8_plusYears 21 = .ok (.invokestatic 99, 3) := by decide +kernel
theorem dX8_plusYears_24 : decode cX8_plusYears 24 = .ok (.ifCond .eq 7, 3) := by decide +kernel
theorem dX8_plusYears_27 : decode cX8_plusYears 27 = .ok (.iconst 1, 1) := by decide +kernel
theorem dX8_plusYears_28 : decode cX8_plusYears 28 = .ok (.goto 4, 3) := by decide +kernel
theorem dX8_plusYears_31 : decode cX8_plusYears 31 = .ok (.iconst 0, 1) := by decide +kernel
theorem dX8_plusYears_32 : decode cX8_plusYears 32 = .ok (.invokestatic 103, 3) := by decide +kernel
theorem dX8_plusYears_35 : decode cX8_plusYears 35 = .ok (.aload 4, 2) := by decide +kernel
theorem dX8_plusYears_37 : decode cX8_plusYears 37 = .ok (.iload_n 2, 1) := by decide +kernel
theorem dX8_plusYears_38 : decode cX8_plusYears 38 = .ok (.iload_n 3, 1) := by decide +kernel
theorem dX8_plusYears_39 : decode cX8_plusYears 39 = .ok (.invokevirtual 215, 3) := by decide +kernel
theorem dX8_plusYears_42 : decode cX8_plusYears 42 = .ok (.invokestatic 212, 3) := by decide +kernel
theorem dX8_plusYears_45 : decode cX8_plusYears 45 = .ok (.ireturn, 1) := by decide +kernel
set_option maxRecDepth 20000 in
theorem dX8_span_0 : decode cX8_span 0 = .ok (.aload_n 0, 1) := by decide +kernel
theorem dX8_span_1 : decode cX8_span 1 = .ok (.iload_n 1, 1) := by decide +kernel
theorem dX8_span_2 : decode cX8_span 2 = .ok (.invokevirtual 149, 3) := by decide +kernel
theorem dX8_span_5 : decode cX8_span 5 = .ok (.astore 5, 2) := by decide +kernel
theorem dX8_span_7 : decode cX8_span 7 = .ok (.iload_n 2, 1) := by decide +kernel
theorem dX8_span_8 : decode cX8_span 8 = .ok (.invokestatic 187, 3) := by decide +kernel
theorem dX8_span_11 : decode cX8_span 11 = .ok (.ifCond .eq 29, 3) := by decide +kernel
theorem dX8_span_14 : decode cX8_span 14 = .ok (.iload_n 3, 1) := by decide +kernel
theorem dX8_span_15 : decode cX8_span 15 = .ok (.invokestatic 187, 3) := by decide +kernel
theorem dX8_span_18 : decode cX8_span 18 = .ok (.ifCond .eq 22, 3) := by decide +kernel
theorem dX8_span_21 : decode cX8_span 21 = .ok (.iload_n 2, 1) := by decide +kernel
theorem dX8_span_22 : decode cX8_span 22 = .ok (.iload_n 3, 1) := by decide +kernel
theorem dX8_span_23 : decode cX8_span 23 = .ok (.if_icmp .gt 17, 3) := by decide +kernel
theorem dX8_span_26 : decode cX8_span 26 = .ok (.iload 4, 2) := by decide +kernel
theorem dX8_span_28 : decode cX8_span 28 = .ok (.iconst 0, 1) := by decide +kernel
theorem dX8_span_29 : decode cX8_span 29 = .ok (.iconst 2, 1) := by decide +kernel
theorem dX8_span_30 : decode cX8_span 30 = .ok (.invokestatic 99, 3) := by decide +kernel
theorem dX8_span_33 : decode cX8_span 33 = .ok (.ifCond .eq 7, 3) := by decide +kernel
theorem dX8_span_36 : decode cX8_span 36 = .ok (.iconst 1, 1) := by decide +kernel
theorem dX8_span_37 : decode cX8_span 37 = .ok (.goto 4, 3) := by decide +kernel
theorem dX8_span_40 : decode cX8_span 40 = .ok (.iconst 0, 1) := by decide +kernel
theorem dX8_span_41 : decode cX8_span 41 = .ok (.invokestatic 103, 3) := by decide +kernel
theorem dX8_span_44 : decode cX8_span 44 = .ok (.aload 5, 2) := by decide +kernel
theorem dX8_span_46 : decode cX8_span 46 = .ok (.iload_n 3, 1) := by decide +kernel
theorem dX8_span_47 : decode cX8_span 47 = .ok (.invokestatic 190, 3) := by decide +kernel
theorem dX8_span_50 : decode cX8_span 50 = .ok (.aload 5, 2) := by decide +kernel
theorem dX8_span_52 : decode cX8_span 52 = .ok (.iload_n 2, 1) := by decide +kernel
theorem dX8_span_53 : decode cX8_span 53 = .ok (.invokestatic 190, 3) := by decide +kernel
theorem dX8_span_56 : decode cX8_span 56 = .ok (.isub, 1) := by decide +kernel
theorem dX8_span_57 : decode cX8_span 57 = .ok (.istore 6, 2) := by decide +kernel
theorem dX8_span_59 : decode cX8_span 59 = .ok (.aload 5, 2) := by decide +kernel
theorem dX8_span_61 : decode cX8_span 61 = .ok (.iload_n 2, 1) := by decide +kernel
theorem dX8_span_62 : decode cX8_span 62 = .ok (.iload 6, 2) := by decide +kernel
theorem dX8_span_64 : decode cX8_span 64 = .ok (.invokevirtual 215, 3) := by decide +kernel
theorem dX8_span_67 : decode cX8_span 67 = .ok (.iload_n 3, 1) := by decide +kernel
theorem dX8_span_68 : decode cX8_span 68 = .ok (.if_icmp .le 6, 3) := by decide +kernel
theorem dX8_span_71 : decode cX8_span 71 = .ok (.iinc 6 (-1), 3) := by decide +kernel
theorem dX8_span_74 : decode cX8_span 74 = .ok (.iload 4, 2) := by decide +kernel
theorem dX8_span_76 : decode cX8_span 76 = .ok (.ifCond .ne 6, 3) := by decide +kernel
theorem dX8_span_79 : decode cX8_span 79 = .ok (.iload 6, 2) := by decide +kernel
theorem dX8_span_81 : decode cX8_span 81 = .ok (.ireturn, 1) := by decide +kernel
theorem dX8_span_82 : decode cX8_span 82 = .ok (.aload 5, 2) := by decide +kernel
theorem dX8_span_84 : decode cX8_span 84 = .ok (.iload_n 2, 1) := by decide +kernel
theorem dX8_span_85 : decode cX8_span 85 = .ok (.iload 6, 2) := by decide +kernel
theorem dX8_span_87 : decode cX8_span 87 = .ok (.invokevirtual 215, 3) := by decide +kernel
theorem dX8_span_90 : decode cX8_span 90 = .ok (.istore 7, 2) := by decide +kernel
theorem dX8_span_92 : decode cX8_span 92 = .ok (.aload 5, 2) := by decide +kernel
theorem dX8_span_94 : decode cX8_span 94 = .ok (.iload 7, 2) := by decide +kernel
theorem dX8_span_96 : decode cX8_span 96 = .ok (.iload_n 3, 1) := by decide +kernel
theorem dX8_span_97 : decode cX8_span 97 = .ok (.invokevirtual 218, 3) := by decide +kernel
theorem dX8_span_100 : decode cX8_span 100 = .ok (.istore 8, 2) := by decide +kernel
theorem dX8_span_102 : decode cX8_span 102 = .ok (.iload 4, 2) := by decide +kernel
theorem dX8_span_104 : decode cX8_span 104 = .ok (.iconst 1, 1) := by decide +kernel
theorem dX8_span_105 : decode cX8_span 105 = .ok (.if_icmp .ne 8, 3) := by decide +kernel
theorem dX8_span_108 : decode cX8_span 108 = .ok (.iload 8, 2) := by decide +kernel
theorem dX8_span_110 : decode cX8_span 110 = .ok (.goto 14, 3) := by decide +kernel
theorem dX8_span_113 : decode cX8_span 113 = .ok (.iload_n 3, 1) := by decide +kernel
theorem dX8_span_114 : decode cX8_span 114 = .ok (.aload 5, 2) := by decide +kernel
theorem dX8_span_116 : decode cX8_span 116 = .ok (.iload 7, 2) := by decide +kernel
theorem dX8_span_118 : decode cX8_span 118 = .ok (.iload 8, 2) := by decide +kernel
theorem dX8_span_120 : decode cX8_span 120 = .ok (.invokevirtual 209, 3) := by decide +kernel
theorem dX8_span_123 : decode cX8_span 123 = .ok (.isub, 1) := by decide +kernel
theorem dX8_span_124 : decode cX8_span 124 = .ok (.ireturn, 1) := by decide +kernel
set_option maxRecDepth 20000 in
theorem dX8_addFeast_0 : decode cX8_addFeast 0 = .ok (.iload_n 1, 1) := by decide +kernel
theorem dX8_addFeast_1 : decode cX8_addFeast 1 = .ok (.iconst 0, 1) := by decide +kernel
theorem dX8_addFeast_2 : decode cX8_addFeast 2 = .ok (.iconst 4, 1) := by decide +kernel
theorem dX8_addFeast_3 : decode cX8_addFeast 3 = .ok (.invokestatic 99, 3) := by decide +kernel
theorem dX8_addFeast_6 : decode cX8_addFeast 6 = .ok (.ifCond .eq 17, 3) := by decide +kernel
theorem dX8_addFeast_9 : decode cX8_addFeast 9 = .ok (.iload_n 2, 1) := by decide +kernel
theorem dX8_addFeast_10 : decode cX8_addFeast 10 = .ok (.iconst 0, 1) := by decide +kernel
theorem dX8_addFeast_11 : decode cX8_addFeast 11 = .ok (.bipush 9, 2) := by decide +kernel
theorem dX8_addFeast_13 : decode cX8_addFeast 13 = .ok (.invokestatic 99, 3) := by decide +kernel
theorem dX8_addFeast_16 : decode cX8_addFeast 16 = .ok (.ifCond .eq 7, 3) := by decide +kernel
theorem dX8_addFeast_19 : decode cX8_addFeast 19 = .ok (.iconst 1, 1) := by decide +kernel
theorem dX8_addFeast_20 : decode cX8_addFeast 20 = .ok (.goto 4, 3) := by decide +kernel
theorem dX8_addFeast_23 : decode cX8_addFeast 23 = .ok (.iconst 0, 1) := by decide +kernel
theorem dX8_addFeast_24 : decode cX8_addFeast 24 = .ok (.invokestatic 103, 3) := by decide +kernel
theorem dX8_addFeast_27 : decode cX8_addFeast 27 = .ok (.iload_n 3, 1) := by decide +kernel
theorem dX8_addFeast_28 : decode cX8_addFeast 28 = .ok (.iconst 0, 1) := by decide +kernel
theorem dX8_addFeast_29 : decode cX8_addFeast 29 = .ok (.iload_n 1, 1) := by decide +kernel
theorem dX8_addFeast_30 : decode cX8_addFeast 30 = .ok (.iconst 1, 1) := by decide +kernel
theorem dX8_addFeast_31 : decode cX8_addFeast 31 = .ok (.if_icmp .gt 13, 3) := by decide +kernel
theorem dX8_addFeast_34 : decode cX8_addFeast 34 = .ok (.aload_n 0, 1) := by decide +kernel
theorem dX8_addFeast_35 : decode cX8_addFeast 35 = .ok (.getfield 28, 3) := by decide +kernel
theorem dX8_addFeast_38 : decode cX8_addFeast 38 = .ok (.invokevirtual 115, 3) := by decide +kernel
theorem dX8_addFeast_41 : decode cX8_addFeast 41 = .ok (.goto 10, 3) := by decide +kernel
theorem dX8_addFeast_44 : decode cX8_addFeast 44 = .ok (.aload_n 0, 1) := by decide +kernel
theorem dX8_addFeast_45 : decode cX8_addFeast 45 = .ok (.getfield 28, 3) := by decide +kernel
theorem dX8_addFeast_48 : decode cX8_addFeast 48 = .ok (.invokevirtual 221, 3) := by decide +kernel
theorem dX8_addFeast_51 : decode cX8_addFeast 51 = .ok (.iconst 1, 1) := by decide +kernel
theorem dX8_addFeast_52 : decode cX8_addFeast 52 = .ok (.isub, 1) := by decide +kernel
theorem dX8_addFeast_53 : decode cX8_addFeast 53 = .ok (.invokestatic 99, 3) := by decide +kernel
theorem dX8_addFeast_56 : decode cX8_addFeast 56 = .ok (.invokestatic 103, 3) := by decide +kernel
theorem dX8_addFeast_59 : decode cX8_addFeast 59 = .ok (.aload_n 0, 1) := by decide +kernel
theorem dX8_addFeast_60 : decode cX8_addFeast 60 = .ok (.iload_n 1, 1) := by decide +kernel
theorem dX8_addFeast_61 : decode cX8_addFeast 61 = .ok (.iload 4, 2) := by decide +kernel
theorem dX8_addFeast_63 : decode cX8_addFeast 63 = .ok (.iload 5, 2) := by decide +kernel
theorem dX8_addFeast_65 : decode cX8_addFeast 65 = .ok (.iload 6, 2) := by decide +kernel
theorem dX8_addFeast_67 : decode cX8_addFeast 67 = .ok (.invokevirtual 224, 3) := by decide +kernel
theorem dX8_addFeast_70 : decode cX8_addFeast 70 = .ok (.invokestatic 103, 3) := by decide +kernel
theorem dX8_addFeast_73 : decode cX8_addFeast 73 = .ok (.aload_n 0, 1) := by decide +kernel
theorem dX8_addFeast_74 : decode cX8_addFeast 74 = .ok (.getfield 28, 3) := by decide +kernel
theorem dX8_addFeast_77 : decode cX8_addFeast 77 = .ok (.invokevirtual 221, 3) := by decide +kernel
theorem dX8_addFeast_80 : decode cX8_addFeast 80 = .ok (.bipush 8, 2) := by decide +kernel
theorem dX8_addFeast_82 : decode cX8_addFeast 82 = .ok (.if_icmp .lt 13, 3) := by decide +kernel
theorem dX8_addFeast_85 : decode cX8_addFeast 85 = .ok (.new 108, 3) := by decide +kernel
theorem dX8_addFeast_88 : decode cX8_addFeast 88 = .ok (.dup, 1) := by decide +kernel
theorem dX8_addFeast_89 : decode cX8_addFeast 89 = .ok (.ldc 228, 2) := by decide +kernel
theorem dX8_addFeast_91 : decode cX8_addFeast 91 = .ok (.invokespecial 112, 3) := by decide +kernel
theorem dX8_addFeast_94 : decode cX8_addFeast 94 = .ok (.athrow, 1) := by decide +kernel
theorem dX8_addFeast_95 : decode cX8_addFeast 95 = .ok (.aload_n 0, 1) := by decide +kernel
theorem dX8_addFeast_96 : decode cX8_addFeast 96 = .ok (.getfield 38, 3) := by decide +kernel
theorem dX8_addFeast_99 : decode cX8_addFeast 99 = .ok (.aload_n 0, 1) := by decide +kernel
theorem dX8_addFeast_100 : decode cX8_addFeast 100 = .ok (.getfield 28, 3) := by decide +kernel
theorem dX8_addFeast_103 : decode cX8_addFeast 103 = .ok (.invokevirtual 142, 3) := by decide +kernel
theorem dX8_addFeast_106 : decode cX8_addFeast 106 = .ok (.aload_n 0, 1) := by decide +kernel
theorem dX8_addFeast_107 : decode cX8_addFeast 107 = .ok (.getfield 28, 3) := by decide +kernel
theorem dX8_addFeast_110 : decode cX8_addFeast 110 = .ok (.new 230, 3) := by decide +kernel
theorem dX8_addFeast_113 : decode cX8_addFeast 113 = .ok (.dup, 1) := by decide +kernel
theorem dX8_addFeast_114 : decode cX8_addFeast 114 = .ok (.iload_n 1, 1) := by decide +kernel
theorem dX8_addFeast_115 : decode cX8_addFeast 115 = .ok (.iload_n 2, 1) := by decide +kernel
theorem dX8_addFeast_116 : decode cX8_addFeast 116 = .ok (.iload_n 3, 1) := by decide +kernel
theorem dX8_addFeast_117 : decode cX8_addFeast 117 = .ok (.iload 4, 2) := by decide +kernel
theorem dX8_addFeast_119 : decode cX8_addFeast 119 = .ok (.iload 5, 2) := by decide +kernel
theorem dX8_addFeast_121 : decode cX8_addFeast 121 = .ok (.iload 6, 2) := by decide +kernel
theorem dX8_addFeast_123 : decode cX8_addFeast 123 = .ok (.invokespecial 232, 3) := by decide +kernel
theorem dX8_addFeast_126 : decode cX8_addFeast 126 = .ok (.invokevirtual 235, 3) := by decide +kernel
theorem dX8_addFeast_129 : decode cX8_addFeast 129 = .ok (.aload_n 0, 1) := by decide +kernel
theorem dX8_addFeast_130 : decode cX8_addFeast 130 = .ok (.getfield 28, 3) := by decide +kernel
theorem dX8_addFeast_133 : decode cX8_addFeast 133 = .ok (.invokevirtual 221, 3) := by decide +kernel
theorem dX8_addFeast_136 : decode cX8_addFeast 136 = .ok (.iconst 1, 1) := by decide +kernel
theorem dX8_addFeast_137 : decode cX8_addFeast 137 = .ok (.isub, 1) := by decide +kernel
theorem dX8_addFeast_138 : decode cX8_addFeast 138 = .ok (.ireturn, 1) := by decide +kernel
set_option maxRecDepth 20000 in
theorem dX8_removeFeast_0 : decode cX8_removeFeast 0 = .ok (.aload_n 0, 1) := by decide +kernel
theorem dX8_removeFeast_1 : decode cX8_removeFeast 1 = .ok (.getfield 28, 3) := by decide +kernel
theorem dX8_removeFeast_4 : decode cX8_removeFeast 4 = .ok (.invokevirtual 221, 3) := by decide +kernel
theorem dX8_removeFeast_7 : decode cX8_removeFeast 7 = .ok (.iconst 1, 1) := by decide +kernel
theorem dX8_removeFeast_8 : decode cX8_removeFeast 8 = .ok (.if_icmp .ge 13, 3) := by decide +kernel
theorem dX8_removeFeast_11 : decode cX8_removeFeast 11 = .ok (.new 108, 3) := by decide +kernel
theorem dX8_removeFeast_14 : decode cX8_removeFeast 14 = .ok (.dup, 1) := by decide +kernel
theorem dX8_removeFeast_15 : decode cX8_removeFeast 15 = .ok (.ldc 239, 2) := by decide +kernel
theorem dX8_removeFeast_17 : decode cX8_removeFeast 17 = .ok (.invokespecial 112, 3) := by decide +kernel
theorem dX8_removeFeast_20 : decode cX8_removeFeast 20 = .ok (.athrow, 1) := by decide +kernel
theorem dX8_removeFeast_21 : decode cX8_removeFeast 21 = .ok (.aload_n 0, 1) := by decide +kernel
theorem dX8_removeFeast_22 : decode cX8_removeFeast 22 = .ok (.getfield 38, 3) := by decide +kernel
theorem dX8_removeFeast_25 : decode cX8_removeFeast 25 = .ok (.aload_n 0, 1) := by decide +kernel
theorem dX8_removeFeast_26 : decode cX8_removeFeast 26 = .ok (.getfield 28, 3) := by decide +kernel
theorem dX8_removeFeast_29 : decode cX8_removeFeast 29 = .ok (.invokevirtual 142, 3) := by decide +kernel
theorem dX8_removeFeast_32 : decode cX8_removeFeast 32 = .ok (.aload_n 0, 1) := by decide +kernel
theorem dX8_removeFeast_33 : decode cX8_removeFeast 33 = .ok (.getfield 28, 3) := by decide +kernel
theorem dX8_removeFeast_36 : decode cX8_removeFeast 36 = .ok (.invokevirtual 241, 3) := by decide +kernel
theorem dX8_removeFeast_39 : decode cX8_removeFeast 39 = .ok (.aload_n 0, 1) := by decide +kernel
theorem dX8_removeFeast_40 : decode cX8_removeFeast 40 = .ok (.getfield 28, 3) := by decide +kernel
theorem dX8_removeFeast_43 : decode cX8_removeFeast 43 = .ok (.invokevirtual 221, 3) := by decide +kernel
theorem dX8_removeFeast_46 : decode cX8_removeFeast 46 = .ok (.ireturn, 1) := by decide +kernel
set_option maxRecDepth 20000 in
theorem dX8_feastCount_0 : decode cX8_feastCount 0 = .ok (.aload_n 0, 1) := by decide +kernel
theorem dX8_feastCount_1 : decode cX8_feastCount 1 = .ok (.getfield 28, 3) := by decide +kernel
theorem dX8_feastCount_4 : decode cX8_feastCount 4 = .ok (.invokevirtual 221, 3) := by decide +kernel
theorem dX8_feastCount_7 : decode cX8_feastCount 7 = .ok (.ireturn, 1) := by decide +kernel
set_option maxRecDepth 20000 in
theorem dX8_feast_0 : decode cX8_feast 0 = .ok (.aload_n 0, 1) := by decide +kernel
theorem dX8_feast_1 : decode cX8_feast 1 = .ok (.iload_n 1, 1) := by decide +kernel
theorem dX8_feast_2 : decode cX8_feast 2 = .ok (.invokevirtual 244, 3) := by decide +kernel
theorem dX8_feast_5 : decode cX8_feast 5 = .ok (.iload_n 2, 1) := by decide +kernel
theorem dX8_feast_6 : decode cX8_feast 6 = .ok (.invokestatic 157, 3) := by decide +kernel
theorem dX8_feast_9 : decode cX8_feast 9 = .ok (.invokestatic 103, 3) := by decide +kernel
theorem dX8_feast_12 : decode cX8_feast 12 = .ok (.aload_n 0, 1) := by decide +kernel
theorem dX8_feast_13 : decode cX8_feast 13 = .ok (.getfield 45, 3) := by decide +kernel
theorem dX8_feast_16 : decode cX8_feast 16 = .ok (.aload_n 0, 1) := by decide +kernel
theorem dX8_feast_17 : decode cX8_feast 17 = .ok (.getfield 28, 3) := by decide +kernel
theorem dX8_feast_20 : decode cX8_feast 20 = .ok (.iload_n 1, 1) := by decide +kernel
theorem dX8_feast_21 : decode cX8_feast 21 = .ok (.iconst 1, 1) := by decide +kernel
theorem dX8_feast_22 : decode cX8_feast 22 = .ok (.iadd, 1) := by decide +kernel
theorem dX8_feast_23 : decode cX8_feast 23 = .ok (.iload_n 2, 1) := by decide +kernel
theorem dX8_feast_24 : decode cX8_feast 24 = .ok (.invokevirtual 247, 3) := by decide +kernel
theorem dX8_feast_27 : decode cX8_feast 27 = .ok (.aload_n 0, 1) := by decide +kernel
theorem dX8_feast_28 : decode cX8_feast 28 = .ok (.getfield 45, 3) := by decide +kernel
theorem dX8_feast_31 : decode cX8_feast 31 = .ok (.iload_n 1, 1) := by decide +kernel
theorem dX8_feast_32 : decode cX8_feast 32 = .ok (.invokevirtual 251, 3) := by decide +kernel
theorem dX8_feast_35 : decode cX8_feast 35 = .ok (.invokestatic 212, 3) := by decide +kernel
theorem dX8_feast_38 : decode cX8_feast 38 = .ok (.ireturn, 1) := by decide +kernel
set_option maxRecDepth 20000 in
theorem dX8_placedFeast_0 : decode cX8_placedFeast 0 = .ok (.aload_n 0, 1) := by decide +kernel
theorem dX8_placedFeast_1 : decode cX8_placedFeast 1 = .ok (.iload_n 1, 1) := by decide +kernel
theorem dX8_placedFeast_2 : decode cX8_placedFeast 2 = .ok (.invokevirtual 244, 3) := by decide +kernel
theorem dX8_placedFeast_5 : decode cX8_placedFeast 5 = .ok (.iload_n 2, 1) := by decide +kernel
theorem dX8_placedFeast_6 : decode cX8_placedFeast 6 = .ok (.invokestatic 157, 3) := by decide +kernel
theorem dX8_placedFeast_9 : decode cX8_placedFeast 9 = .ok (.invokestatic 103, 3) := by decide +kernel
theorem dX8_placedFeast_12 : decode cX8_placedFeast 12 = .ok (.aload_n 0, 1) := by decide +kernel
theorem dX8_placedFeast_13 : decode cX8_placedFeast 13 = .ok (.getfield 45, 3) := by decide +kernel
theorem dX8_placedFeast_16 : decode cX8_placedFeast 16 = .ok (.aload_n 0, 1) := by decide +kernel
theorem dX8_placedFeast_17 : decode cX8_placedFeast 17 = .ok (.getfield 28, 3) := by decide +kernel
theorem dX8_placedFeast_20 : decode cX8_placedFeast 20 = .ok (.aload_n 0, 1) := by decide +kernel
theorem dX8_placedFeast_21 : decode cX8_placedFeast 21 = .ok (.getfield 28, 3) := by decide +kernel
theorem dX8_placedFeast_24 : decode cX8_placedFeast 24 = .ok (.invokevirtual 221, 3) := by decide +kernel
theorem dX8_placedFeast_27 : decode cX8_placedFeast 27 = .ok (.iload_n 2, 1) := by decide +kernel
theorem dX8_placedFeast_28 : decode cX8_placedFeast 28 = .ok (.invokevirtual 247, 3) := by decide +kernel
theorem dX8_placedFeast_31 : decode cX8_placedFeast 31 = .ok (.aload_n 0, 1) := by decide +kernel
theorem dX8_placedFeast_32 : decode cX8_placedFeast 32 = .ok (.getfield 45, 3) := by decide +kernel
theorem dX8_placedFeast_35 : decode cX8_placedFeast 35 = .ok (.aload_n 0, 1) := by decide +kernel
theorem dX8_placedFeast_36 : decode cX8_placedFeast 36 = .ok (.getfield 28, 3) := by decide +kernel
theorem dX8_placedFeast_39 : decode cX8_placedFeast 39 = .ok (.invokevirtual 254, 3) := by decide +kernel
theorem dX8_placedFeast_42 : decode cX8_placedFeast 42 = .ok (.aload_n 0, 1) := by decide +kernel
theorem dX8_placedFeast_43 : decode cX8_placedFeast 43 = .ok (.getfield 45, 3) := by decide +kernel
theorem dX8_placedFeast_46 : decode cX8_placedFeast 46 = .ok (.iload_n 1, 1) := by decide +kernel
theorem dX8_placedFeast_47 : decode cX8_placedFeast 47 = .ok (.invokevirtual 257, 3) := by decide +kernel
theorem dX8_placedFeast_50 : decode cX8_placedFeast 50 = .ok (.istore_n 3, 1) := by decide +kernel
theorem dX8_placedFeast_51 : decode cX8_placedFeast 51 = .ok (.iload_n 3, 1) := by decide +kernel
theorem dX8_placedFeast_52 : decode cX8_placedFeast 52 = .ok (.ldc_w 260, 3) := by decide +kernel
theorem dX8_placedFeast_55 : decode cX8_placedFeast 55 = .ok (.if_icmp .ne 14, 3) := by decide +kernel
theorem dX8_placedFeast_58 : decode cX8_placedFeast 58 = .ok (.new 261, 3) := by decide +kernel
theorem dX8_placedFeast_61 : decode cX8_placedFeast 61 = .ok (.dup, 1) := by decide +kernel
theorem dX8_placedFeast_62 : decode cX8_placedFeast 62 = .ok (.ldc_w 263, 3) := by decide +kernel
theorem dX8_placedFeast_65 : decode cX8_placedFeast 65 = .ok (.invokespecial 265, 3) := by decide +kernel
theorem dX8_placedFeast_68 : decode cX8_placedFeast 68 = .ok (.athrow, 1) := by decide +kernel
theorem dX8_placedFeast_69 : decode cX8_placedFeast 69 = .ok (.iload_n 3, 1) := by decide +kernel
theorem dX8_placedFeast_70 : decode cX8_placedFeast 70 = .ok (.ireturn, 1) := by decide +kernel
set_option maxRecDepth 20000 in
theorem dX8_feastOn_0 : decode cX8_feastOn 0 = .ok (.iload_n 1, 1) := by decide +kernel
theorem dX8_feastOn_1 : decode cX8_feastOn 1 = .ok (.invokestatic 157, 3) := by decide +kernel
theorem dX8_feastOn_4 : decode cX8_feastOn 4 = .ok (.ifCond .eq 14, 3) := by decide +kernel
theorem dX8_feastOn_7 : decode cX8_feastOn 7 = .ok (.iload_n 2, 1) := by decide +kernel
theorem dX8_feastOn_8 : decode cX8_feastOn 8 = .ok (.invokestatic 187, 3) := by decide +kernel
theorem dX8_feastOn_11 : decode cX8_feastOn 11 = .ok (.ifCond .eq 7, 3) := by decide +kernel
theorem dX8_feastOn_14 : decode cX8_feastOn 14 = .ok (.iconst 1, 1) := by decide +kernel
theorem dX8_feastOn_15 : decode cX8_feastOn 15 = .ok (.goto 4, 3) := by decide +kernel
theorem dX8_feastOn_18 : decode cX8_feastOn 18 = .ok (.iconst 0, 1) := by decide +kernel
theorem dX8_feastOn_19 : decode cX8_feastOn 19 = .ok (.invokestatic 103, 3) := by decide +kernel
theorem dX8_feastOn_22 : decode cX8_feastOn 22 = .ok (.aload_n 0, 1) := by decide +kernel
theorem dX8_feastOn_23 : decode cX8_feastOn 23 = .ok (.getfield 45, 3) := by decide +kernel
theorem dX8_feastOn_26 : decode cX8_feastOn 26 = .ok (.aload_n 0, 1) := by decide +kernel
theorem dX8_feastOn_27 : decode cX8_feastOn 27 = .ok (.getfield 28, 3) := by decide +kernel
theorem dX8_feastOn_30 : decode cX8_feastOn 30 = .ok (.aload_n 0, 1) := by decide +kernel
theorem dX8_feastOn_31 : decode cX8_feastOn 31 = .ok (.getfield 28, 3) := by decide +kernel
theorem dX8_feastOn_34 : decode cX8_feastOn 34 = .ok (.invokevirtual 221, 3) := by decide +kernel
theorem dX8_feastOn_37 : decode cX8_feastOn 37 = .ok (.iload_n 1, 1) := by decide +kernel
theorem dX8_feastOn_38 : decode cX8_feastOn 38 = .ok (.invokevirtual 247, 3) := by decide +kernel
theorem dX8_feastOn_41 : decode cX8_feastOn 41 = .ok (.aload_n 0, 1) := by decide +kernel
theorem dX8_feastOn_42 : decode cX8_feastOn 42 = .ok (.getfield 45, 3) := by decide +kernel
theorem dX8_feastOn_45 : decode cX8_feastOn 45 = .ok (.aload_n 0, 1) := by decide +kernel
theorem dX8_feastOn_46 : decode cX8_feastOn 46 = .ok (.getfield 28, 3) := by decide +kernel
theorem dX8_feastOn_49 : decode cX8_feastOn 49 = .ok (.invokevirtual 254, 3) := by decide +kernel
theorem dX8_feastOn_52 : decode cX8_feastOn 52 = .ok (.aload_n 0, 1) := by decide +kernel
theorem dX8_feastOn_53 : decode cX8_feastOn 53 = .ok (.getfield 45, 3) := by decide +kernel
theorem dX8_feastOn_56 : decode cX8_feastOn 56 = .ok (.iload_n 2, 1) := by decide +kernel
theorem dX8_feastOn_57 : decode cX8_feastOn 57 = .ok (.invokevirtual 266, 3) := by decide +kernel
theorem dX8_feastOn_60 : decode cX8_feastOn 60 = .ok (.istore_n 3, 1) := by decide +kernel
theorem dX8_feastOn_61 : decode cX8_feastOn 61 = .ok (.iload_n 3, 1) := by decide +kernel
theorem dX8_feastOn_62 : decode cX8_feastOn 62 = .ok (.ifCond .ge 14, 3) := by decide +kernel
theorem dX8_feastOn_65 : decode cX8_feastOn 65 = .ok (.new 261, 3) := by decide +kernel
theorem dX8_feastOn_68 : decode cX8_feastOn 68 = .ok (.dup, 1) := by decide +kernel
theorem dX8_feastOn_69 : decode cX8_feastOn 69 = .ok (.ldc_w 269, 3) := by decide +kernel
theorem dX8_feastOn_72 : decode cX8_feastOn 72 = .ok (.invokespecial 265, 3) := by decide +kernel
theorem dX8_feastOn_75 : decode cX8_feastOn 75 = .ok (.athrow, 1) := by decide +kernel
theorem dX8_feastOn_76 : decode cX8_feastOn 76 = .ok (.iload_n 3, 1) := by decide +kernel
theorem dX8_feastOn_77 : decode cX8_feastOn 77 = .ok (.ireturn, 1) := by decide +kernel
set_option maxRecDepth 20000 in
theorem dX8_meetingYear_0 : decode cX8_meetingYear 0 = .ok (.aload_n 0, 1) := by decide +kernel
theorem dX8_meetingYear_1 : decode cX8_meetingYear 1 = .ok (.iload_n 1, 1) := by decide +kernel
theorem dX8_meetingYear_2 : decode cX8_meetingYear 2 = .ok (.invokevirtual 244, 3) := by decide +kernel
theorem dX8_meetingYear_5 : decode cX8_meetingYear 5 = .ok (.aload_n 0, 1) := by decide +kernel
theorem dX8_meetingYear_6 : decode cX8_meetingYear 6 = .ok (.iload_n 2, 1) := by decide +kernel
theorem dX8_meetingYear_7 : decode cX8_meetingYear 7 = .ok (.invokevirtual 244, 3) := by decide +kernel
theorem dX8_meetingYear_10 : decode cX8_meetingYear 10 = .ok (.iload_n 1, 1) := by decide +kernel
theorem dX8_meetingYear_11 : decode cX8_meetingYear 11 = .ok (.iload_n 2, 1) := by decide +kernel
theorem dX8_meetingYear_12 : decode cX8_meetingYear 12 = .ok (.if_icmp .eq 20, 3) := by decide +kernel
theorem dX8_meetingYear_15 : decode cX8_meetingYear 15 = .ok (.iload_n 3, 1) := by decide +kernel
theorem dX8_meetingYear_16 : decode cX8_meetingYear 16 = .ok (.sipush (-2000), 3) := by decide +kernel
theorem dX8_meetingYear_19 : decode cX8_meetingYear 19 = .ok (.sipush 1801, 3) := by decide +kernel
theorem dX8_meetingYear_22 : decode cX8_meetingYear 22 = .ok (.invokestatic 99, 3) := by decide +kernel
theorem dX8_meetingYear_25 : decode cX8_meetingYear 25 = .ok (.ifCond .eq 7, 3) := by decide +kernel
theorem dX8_meetingYear_28 : decode cX8_meetingYear 28 = .ok (.iconst 1, 1) := by decide +kernel
theorem dX8_meetingYear_29 : decode cX8_meetingYear 29 = .ok (.goto 4, 3) := by decide +kernel
theorem dX8_meetingYear_32 : decode cX8_meetingYear 32 = .ok (.iconst 0, 1) := by decide +kernel
theorem dX8_meetingYear_33 : decode cX8_meetingYear 33 = .ok (.invokestatic 103, 3) := by decide +kernel
theorem dX8_meetingYear_36 : decode cX8_meetingYear 36 = .ok (.iload_n 1, 1) := by decide +kernel
theorem dX8_meetingYear_37 : decode cX8_meetingYear 37 = .ok (.iload_n 2, 1) := by decide +kernel
theorem dX8_meetingYear_38 : decode cX8_meetingYear 38 = .ok (.invokestatic 271, 3) := by decide +kernel
theorem dX8_meetingYear_41 : decode cX8_meetingYear 41 = .ok (.iconst 1, 1) := by decide +kernel
theorem dX8_meetingYear_42 : decode cX8_meetingYear 42 = .ok (.iadd, 1) := by decide +kernel
theorem dX8_meetingYear_43 : decode cX8_meetingYear 43 = .ok (.istore 4, 2) := by decide +kernel
theorem dX8_meetingYear_45 : decode cX8_meetingYear 45 = .ok (.iconst 0, 1) := by decide +kernel
theorem dX8_meetingYear_46 : decode cX8_meetingYear 46 = .ok (.istore 5, 2) := by decide +kernel
theorem dX8_meetingYear_48 : decode cX8_meetingYear 48 = .ok (.iload 5, 2) := by decide +kernel
theorem dX8_meetingYear_50 : decode cX8_meetingYear 50 = .ok (.sipush 200, 3) := by decide +kernel
theorem dX8_meetingYear_53 : decode cX8_meetingYear 53 = .ok (.if_icmp .ge 62, 3) := by decide +kernel
theorem dX8_meetingYear_56 : decode cX8_meetingYear 56 = .ok (.aload_n 0, 1) := by decide +kernel
theorem dX8_meetingYear_57 : decode cX8_meetingYear 57 = .ok (.getfield 45, 3) := by decide +kernel
theorem dX8_meetingYear_60 : decode cX8_meetingYear 60 = .ok (.aload_n 0, 1) := by decide +kernel
theorem dX8_meetingYear_61 : decode cX8_meetingYear 61 = .ok (.getfield 28, 3) := by decide +kernel
theorem dX8_meetingYear_64 : decode cX8_meetingYear 64 = .ok (.iload 4, 2) := by decide +kernel
theorem dX8_meetingYear_66 : decode cX8_meetingYear 66 = .ok (.iload_n 3, 1) := by decide +kernel
theorem dX8_meetingYear_67 : decode cX8_meetingYear 67 = .ok (.iload 5, 2) := by decide +kernel
theorem dX8_meetingYear_69 : decode cX8_meetingYear 69 = .ok (.iadd, 1) := by decide +kernel
theorem dX8_meetingYear_70 : decode cX8_meetingYear 70 = .ok (.invokevirtual 247, 3) := by decide +kernel
theorem dX8_meetingYear_73 : decode cX8_meetingYear 73 = .ok (.aload_n 0, 1) := by decide +kernel
theorem dX8_meetingYear_74 : decode cX8_meetingYear 74 = .ok (.getfield 45, 3) := by decide +kernel
theorem dX8_meetingYear_77 : decode cX8_meetingYear 77 = .ok (.iload_n 1, 1) := by decide +kernel
theorem dX8_meetingYear_78 : decode cX8_meetingYear 78 = .ok (.invokevirtual 251, 3) := by decide +kernel
theorem dX8_meetingYear_81 : decode cX8_meetingYear 81 = .ok (.istore 6, 2) := by decide +kernel
theorem dX8_meetingYear_83 : decode cX8_meetingYear 83 = .ok (.iload 6, 2) := by decide +kernel
theorem dX8_meetingYear_85 : decode cX8_meetingYear 85 = .ok (.ldc_w 260, 3) := by decide +kernel
theorem dX8_meetingYear_88 : decode cX8_meetingYear 88 = .ok (.if_icmp .eq 21, 3) := by decide +kernel
theorem dX8_meetingYear_91 : decode cX8_meetingYear 91 = .ok (.iload 6, 2) := by decide +kernel
theorem dX8_meetingYear_93 : decode cX8_meetingYear 93 = .ok (.aload_n 0, 1) := by decide +kernel
theorem dX8_meetingYear_94 : decode cX8_meetingYear 94 = .ok (.getfield 45, 3) := by decide +kernel
theorem dX8_meetingYear_97 : decode cX8_meetingYear 97 = .ok (.iload_n 2, 1) := by decide +kernel
theorem dX8_meetingYear_98 : decode cX8_meetingYear 98 = .ok (.invokevirtual 251, 3) := by decide +kernel
theorem dX8_meetingYear_101 : decode cX8_meetingYear 101 = .ok (.if_icmp .ne 8, 3) := by decide +kernel
theorem dX8_meetingYear_104 : decode cX8_meetingYear 104 = .ok (.iload_n 3, 1) := by decide +kernel
theorem dX8_meetingYear_105 : decode cX8_meetingYear 105 = .ok (.iload 5, 2) := by decide +kernel
theorem dX8_meetingYear_107 : decode cX8_meetingYear 107 = .ok (.iadd, 1) := by decide +kernel
theorem dX8_meetingYear_108 : decode cX8_meetingYear 108 = .ok (.ireturn, 1) := by decide +kernel
theorem dX8_meetingYear_109 : decode cX8_meetingYear 109 = .ok (.iinc 5 1, 3) := by decide +kernel
theorem dX8_meetingYear_112 : decode cX8_meetingYear 112 = .ok (.goto (-64), 3) := by decide +kernel
theorem dX8_meetingYear_115 : decode cX8_meetingYear 115 = .ok (.new 261, 3) := by decide +kernel
theorem dX8_meetingYear_118 : decode cX8_meetingYear 118 = .ok (.dup, 1) := by decide +kernel
theorem dX8_meetingYear_119 : decode cX8_meetingYear 119 = .ok (.ldc_w 274, 3) := by decide +kernel
theorem dX8_meetingYear_122 : decode cX8_meetingYear 122 = .ok (.invokespecial 265, 3) := by decide +kernel
theorem dX8_meetingYear_125 : decode cX8_meetingYear 125 = .ok (.athrow, 1) := by decide +kernel
set_option maxRecDepth 20000 in
theorem dX8_readings_0 : decode cX8_readings 0 = .ok (.aload_n 0, 1) := by decide +kernel
theorem dX8_readings_1 : decode cX8_readings 1 = .ok (.getfield 52, 3) := by decide +kernel
theorem dX8_readings_4 : decode cX8_readings 4 = .ok (.invokevirtual 276, 3) := by decide +kernel
theorem dX8_readings_7 : decode cX8_readings 7 = .ok (.iconst 0, 1) := by decide +kernel
theorem dX8_readings_8 : decode cX8_readings 8 = .ok (.istore 4, 2) := by decide +kernel
theorem dX8_readings_10 : decode cX8_readings 10 = .ok (.iload 4, 2) := by decide +kernel
theorem dX8_readings_12 : decode cX8_readings 12 = .ok (.aload_n 0, 1) := by decide +kernel
theorem dX8_readings_13 : decode cX8_readings 13 = .ok (.getfield 28, 3) := by decide +kernel
theorem dX8_readings_16 : decode cX8_readings 16 = .ok (.invokevirtual 115, 3) := by decide +kernel
theorem dX8_readings_19 : decode cX8_readings 19 = .ok (.if_icmp .ge 79, 3) := by decide +kernel
theorem dX8_readings_22 : decode cX8_readings 22 = .ok (.aload_n 0, 1) := by decide +kernel
theorem dX8_readings_23 : decode cX8_readings 23 = .ok (.getfield 28, 3) := by decide +kernel
theorem dX8_readings_26 : decode cX8_readings 26 = .ok (.iload 4, 2) := by decide +kernel
theorem dX8_readings_28 : decode cX8_readings 28 = .ok (.invokevirtual 277, 3) := by decide +kernel
theorem dX8_readings_31 : decode cX8_readings 31 = .ok (.astore 5, 2) := by decide +kernel
theorem dX8_readings_33 : decode cX8_readings 33 = .ok (.aload 5, 2) := by decide +kernel
theorem dX8_readings_35 : decode cX8_readings 35 = .ok (.ifnull 57, 3) := by decide +kernel
theorem dX8_readings_38 : decode cX8_readings 38 = .ok (.aload_n 0, 1) := by decide +kernel
theorem dX8_readings_39 : decode cX8_readings 39 = .ok (.getfield 52, 3) := by decide +kernel
theorem dX8_readings_42 : decode cX8_readings 42 = .ok (.iload 4, 2) := by decide +kernel
theorem dX8_readings_44 : decode cX8_readings 44 = .ok (.iconst 0, 1) := by decide +kernel
theorem dX8_readings_45 : decode cX8_readings 45 = .ok (.aload 5, 2) := by decide +kernel
theorem dX8_readings_47 : decode cX8_readings 47 = .ok (.iload_n 3, 1) := by decide +kernel
theorem dX8_readings_48 : decode cX8_readings 48 = .ok (.iload_n 2, 1) := by decide +kernel
theorem dX8_readings_49 : decode cX8_readings 49 = .ok (.iload_n 1, 1) := by decide +kernel
theorem dX8_readings_50 : decode cX8_readings 50 = .ok (.invokevirtual 183, 3) := by decide +kernel
theorem dX8_readings_53 : decode cX8_readings 53 = .ok (.invokevirtual 280, 3) := by decide +kernel
theorem dX8_readings_56 : decode cX8_readings 56 = .ok (.aload_n 0, 1) := by decide +kernel
theorem dX8_readings_57 : decode cX8_readings 57 = .ok (.getfield 52, 3) := by decide +kernel
theorem dX8_readings_60 : decode cX8_readings 60 = .ok (.iload 4, 2) := by decide +kernel
theorem dX8_readings_62 : decode cX8_readings 62 = .ok (.iconst 1, 1) := by decide +kernel
theorem dX8_readings_63 : decode cX8_readings 63 = .ok (.aload 5, 2) := by decide +kernel
theorem dX8_readings_65 : decode cX8_readings 65 = .ok (.iload_n 3, 1) := by decide +kernel
theorem dX8_readings_66 : decode cX8_readings 66 = .ok (.iload_n 1, 1) := by decide +kernel
theorem dX8_readings_67 : decode cX8_readings 67 = .ok (.iload_n 2, 1) := by decide +kernel
theorem dX8_readings_68 : decode cX8_readings 68 = .ok (.invokevirtual 183, 3) := by decide +kernel
theorem dX8_readings_71 : decode cX8_readings 71 = .ok (.invokevirtual 280, 3) := by decide +kernel
theorem dX8_readings_74 : decode cX8_readings 74 = .ok (.aload_n 0, 1) := by decide +kernel
theorem dX8_readings_75 : decode cX8_readings 75 = .ok (.getfield 52, 3) := by decide +kernel
theorem dX8_readings_78 : decode cX8_readings 78 = .ok (.iload 4, 2) := by decide +kernel
theorem dX8_readings_80 : decode cX8_readings 80 = .ok (.iconst 2, 1) := by decide +kernel
theorem dX8_readings_81 : decode cX8_readings 81 = .ok (.aload 5, 2) := by decide +kernel
theorem dX8_readings_83 : decode cX8_readings 83 = .ok (.iload_n 1, 1) := by decide +kernel
theorem dX8_readings_84 : decode cX8_readings 84 = .ok (.iload_n 2, 1) := by decide +kernel
theorem dX8_readings_85 : decode cX8_readings 85 = .ok (.iload_n 3, 1) := by decide +kernel
theorem dX8_readings_86 : decode cX8_readings 86 = .ok (.invokevirtual 183, 3) := by decide +kernel
theorem dX8_readings_89 : decode cX8_readings 89 = .ok (.invokevirtual 280, 3) := by decide +kernel
theorem dX8_readings_92 : decode cX8_readings 92 = .ok (.iinc 4 1, 3) := by decide +kernel
theorem dX8_readings_95 : decode cX8_readings 95 = .ok (.goto (-85), 3) := by decide +kernel
theorem dX8_readings_98 : decode cX8_readings 98 = .ok (.aload_n 0, 1) := by decide +kernel
theorem dX8_readings_99 : decode cX8_readings 99 = .ok (.getfield 52, 3) := by decide +kernel
theorem dX8_readings_102 : decode cX8_readings 102 = .ok (.invokevirtual 284, 3) := by decide +kernel
theorem dX8_readings_105 : decode cX8_readings 105 = .ok (.ireturn, 1) := by decide +kernel
set_option maxRecDepth 20000 in
theorem dX8_reading_0 : decode cX8_reading 0 = .ok (.iload_n 1, 1) := by decide +kernel
theorem dX8_reading_1 : decode cX8_reading 1 = .ok (.iconst 0, 1) := by decide +kernel
theorem dX8_reading_2 : decode cX8_reading 2 = .ok (.aload_n 0, 1) := by decide +kernel
theorem dX8_reading_3 : decode cX8_reading 3 = .ok (.getfield 52, 3) := by decide +kernel
theorem dX8_reading_6 : decode cX8_reading 6 = .ok (.invokevirtual 284, 3) := by decide +kernel
theorem dX8_reading_9 : decode cX8_reading 9 = .ok (.iconst 1, 1) := by decide +kernel
theorem dX8_reading_10 : decode cX8_reading 10 = .ok (.isub, 1) := by decide +kernel
theorem dX8_reading_11 : decode cX8_reading 11 = .ok (.invokestatic 99, 3) := by decide +kernel
theorem dX8_reading_14 : decode cX8_reading 14 = .ok (.ifCond .ne 14, 3) := by decide +kernel
theorem dX8_reading_17 : decode cX8_reading 17 = .ok (.new 124, 3) := by decide +kernel
theorem dX8_reading_20 : decode cX8_reading 20 = .ok (.dup, 1) := by decide +kernel
theorem dX8_reading_21 : decode cX8_reading 21 = .ok (.ldc_w 287, 3) := by decide +kernel
theorem dX8_reading_24 : decode cX8_reading 24 = .ok (.invokespecial 128, 3) := by decide +kernel
theorem dX8_reading_27 : decode cX8_reading 27 = .ok (.athrow, 1) := by decide +kernel
theorem dX8_reading_28 : decode cX8_reading 28 = .ok (.iload_n 2, 1) := by decide +kernel
theorem dX8_reading_29 : decode cX8_reading 29 = .ok (.iconst 0, 1) := by decide +kernel
theorem dX8_reading_30 : decode cX8_reading 30 = .ok (.iconst 2, 1) := by decide +kernel
theorem dX8_reading_31 : decode cX8_reading 31 = .ok (.invokestatic 99, 3) := by decide +kernel
theorem dX8_reading_34 : decode cX8_reading 34 = .ok (.invokestatic 103, 3) := by decide +kernel
theorem dX8_reading_37 : decode cX8_reading 37 = .ok (.aload_n 0, 1) := by decide +kernel
theorem dX8_reading_38 : decode cX8_reading 38 = .ok (.getfield 52, 3) := by decide +kernel
theorem dX8_reading_41 : decode cX8_reading 41 = .ok (.iload_n 1, 1) := by decide +kernel
theorem dX8_reading_42 : decode cX8_reading 42 = .ok (.iload_n 2, 1) := by decide +kernel
theorem dX8_reading_43 : decode cX8_reading 43 = .ok (.invokevirtual 289, 3) := by decide +kernel
theorem dX8_reading_46 : decode cX8_reading 46 = .ok (.ireturn, 1) := by decide +kernel
set_option maxRecDepth 20000 in
theorem dX8_differentDays_0 : decode cX8_differentDays 0 = .ok (.aload_n 0, 1) := by decide +kernel
theorem dX8_differentDays_1 : decode cX8_differentDays 1 = .ok (.getfield 52, 3) := by decide +kernel
theorem dX8_differentDays_4 : decode cX8_differentDays 4 = .ok (.invokevirtual 292, 3) := by decide +kernel
theorem dX8_differentDays_7 : decode cX8_differentDays 7 = .ok (.ireturn, 1) := by decide +kernel
set_option maxRecDepth 20000 in
theorem dX8_write_0 : decode cX8_write 0 = .ok (.aload_n 0, 1) := by decide +kernel
theorem dX8_write_1 : decode cX8_write 1 = .ok (.iload_n 1, 1) := by decide +kernel
theorem dX8_write_2 : decode cX8_write 2 = .ok (.invokevirtual 149, 3) := by decide +kernel
theorem dX8_write_5 : decode cX8_write 5 = .ok (.astore_n 3, 1) := by decide +kernel
theorem dX8_write_6 : decode cX8_write 6 = .ok (.iload_n 2, 1) := by decide +kernel
theorem dX8_write_7 : decode cX8_write 7 = .ok (.invokestatic 187, 3) := by decide +kernel
theorem dX8_write_10 : decode cX8_write 10 = .ok (.invokestatic 103, 3) := by decide +kernel
theorem dX8_write_13 : decode cX8_write 13 = .ok (.aload_n 3, 1) := by decide +kernel
theorem dX8_write_14 : decode cX8_write 14 = .ok (.iload_n 2, 1) := by decide +kernel
theorem dX8_write_15 : decode cX8_write 15 = .ok (.invokestatic 190, 3) := by decide +kernel
theorem dX8_write_18 : decode cX8_write 18 = .ok (.istore 4, 2) := by decide +kernel
theorem dX8_write_20 : decode cX8_write 20 = .ok (.aload_n 3, 1) := by decide +kernel
theorem dX8_write_21 : decode cX8_write 21 = .ok (.iload 4, 2) := by decide +kernel
theorem dX8_write_23 : decode cX8_write 23 = .ok (.iload_n 2, 1) := by decide +kernel
theorem dX8_write_24 : decode cX8_write 24 = .ok (.invokevirtual 295, 3) := by decide +kernel
theorem dX8_write_27 : decode cX8_write 27 = .ok (.istore 5, 2) := by decide +kernel
theorem dX8_write_29 : decode cX8_write 29 = .ok (.aload_n 0, 1) := by decide +kernel
theorem dX8_write_30 : decode cX8_write 30 = .ok (.getfield 59, 3) := by decide +kernel
theorem dX8_write_33 : decode cX8_write 33 = .ok (.iconst 0, 1) := by decide +kernel
theorem dX8_write_34 : decode cX8_write 34 = .ok (.invokevirtual 298, 3) := by decide +kernel
theorem dX8_write_37 : decode cX8_write 37 = .ok (.aload_n 0, 1) := by decide +kernel
theorem dX8_write_38 : decode cX8_write 38 = .ok (.getfield 59, 3) := by decide +kernel
theorem dX8_write_41 : decode cX8_write 41 = .ok (.aload_n 3, 1) := by decide +kernel
theorem dX8_write_42 : decode cX8_write 42 = .ok (.iload 4, 2) := by decide +kernel
theorem dX8_write_44 : decode cX8_write 44 = .ok (.iload_n 2, 1) := by decide +kernel
theorem dX8_write_45 : decode cX8_write 45 = .ok (.iconst 2, 1) := by decide +kernel
theorem dX8_write_46 : decode cX8_write 46 = .ok (.invokevirtual 194, 3) := by decide +kernel
theorem dX8_write_49 : decode cX8_write 49 = .ok (.invokevirtual 301, 3) := by decide +kernel
theorem dX8_write_52 : decode cX8_write 52 = .ok (.bipush 46, 2) := by decide +kernel
theorem dX8_write_54 : decode cX8_write 54 = .ok (.invokevirtual 304, 3) := by decide +kernel
theorem dX8_write_57 : decode cX8_write 57 = .ok (.iload 5, 2) := by decide +kernel
theorem dX8_write_59 : decode cX8_write 59 = .ok (.invokevirtual 301, 3) := by decide +kernel
theorem dX8_write_62 : decode cX8_write 62 = .ok (.pop, 1) := by decide +kernel
theorem dX8_write_63 : decode cX8_write 63 = .ok (.aload_n 3, 1) := by decide +kernel
theorem dX8_write_64 : decode cX8_write 64 = .ok (.iload 4, 2) := by decide +kernel
theorem dX8_write_66 : decode cX8_write 66 = .ok (.iload 5, 2) := by decide +kernel
theorem dX8_write_68 : decode cX8_write 68 = .ok (.invokevirtual 174, 3) := by decide +kernel
theorem dX8_write_71 : decode cX8_write 71 = .ok (.ifCond .eq 13, 3) := by decide +kernel
theorem dX8_write_74 : decode cX8_write 74 = .ok (.aload_n 0, 1) := by decide +kernel
theorem dX8_write_75 : decode cX8_write 75 = .ok (.getfield 59, 3) := by decide +kernel
theorem dX8_write_78 : decode cX8_write 78 = .ok (.bipush 105, 2) := by decide +kernel
theorem dX8_write_80 : decode cX8_write 80 = .ok (.invokevirtual 304, 3) := by decide +kernel
theorem dX8_write_83 : decode cX8_write 83 = .ok (.pop, 1) := by decide +kernel
theorem dX8_write_84 : decode cX8_write 84 = .ok (.aload_n 0, 1) := by decide +kernel
theorem dX8_write_85 : decode cX8_write 85 = .ok (.getfield 59, 3) := by decide +kernel
theorem dX8_write_88 : decode cX8_write 88 = .ok (.bipush 46, 2) := by decide +kernel
theorem dX8_write_90 : decode cX8_write 90 = .ok (.invokevirtual 304, 3) := by decide +kernel
theorem dX8_write_93 : decode cX8_write 93 = .ok (.iload 4, 2) := by decide +kernel
theorem dX8_write_95 : decode cX8_write 95 = .ok (.invokevirtual 301, 3) := by decide +kernel
theorem dX8_write_98 : decode cX8_write 98 = .ok (.pop, 1) := by decide +kernel
theorem dX8_write_99 : decode cX8_write 99 = .ok (.aload_n 0, 1) := by decide +kernel
theorem dX8_write_100 : decode cX8_write 100 = .ok (.getfield 59, 3) := by decide +kernel
theorem dX8_write_103 : decode cX8_write 103 = .ok (.invokevirtual 307, 3) := by decide +kernel
theorem dX8_write_106 : decode cX8_write 106 = .ok (.ireturn, 1) := by decide +kernel
set_option maxRecDepth 20000 in
theorem dX8_output_0 : decode cX8_output 0 = .ok (.iload_n 1, 1) := by decide +kernel
theorem dX8_output_1 : decode cX8_output 1 = .ok (.iconst 0, 1) := by decide +kernel
theorem dX8_output_2 : decode cX8_output 2 = .ok (.aload_n 0, 1) := by decide +kernel
theorem dX8_output_3 : decode cX8_output 3 = .ok (.getfield 59, 3) := by decide +kernel
theorem dX8_output_6 : decode cX8_output 6 = .ok (.invokevirtual 307, 3) := by decide +kernel
theorem dX8_output_9 : decode cX8_output 9 = .ok (.iconst 1, 1) := by decide +kernel
theorem dX8_output_10 : decode cX8_output 10 = .ok (.isub, 1) := by decide +kernel
theorem dX8_output_11 : decode cX8_output 11 = .ok (.invokestatic 99, 3) := by decide +kernel
theorem dX8_output_14 : decode cX8_output 14 = .ok (.ifCond .ne 14, 3) := by decide +kernel
theorem dX8_output_17 : decode cX8_output 17 = .ok (.new 124, 3) := by decide +kernel
theorem dX8_output_20 : decode cX8_output 20 = .ok (.dup, 1) := by decide +kernel
theorem dX8_output_21 : decode cX8_output 21 = .ok (.ldc_w 308, 3) := by decide +kernel
theorem dX8_output_24 : decode cX8_output 24 = .ok (.invokespecial 128, 3) := by decide +kernel
theorem dX8_output_27 : decode cX8_output 27 = .ok (.athrow, 1) := by decide +kernel
theorem dX8_output_28 : decode cX8_output 28 = .ok (.aload_n 0, 1) := by decide +kernel
theorem dX8_output_29 : decode cX8_output 29 = .ok (.getfield 59, 3) := by decide +kernel
theorem dX8_output_32 : decode cX8_output 32 = .ok (.iload_n 1, 1) := by decide +kernel
theorem dX8_output_33 : decode cX8_output 33 = .ok (.invokevirtual 310, 3) := by decide +kernel
theorem dX8_output_36 : decode cX8_output 36 = .ok (.ireturn, 1) := by decide +kernel
set_option maxRecDepth 20000 in
theorem dX8_newYears_0 : decode cX8_newYears 0 = .ok (.aload_n 0, 1) := by decide +kernel
theorem dX8_newYears_1 : decode cX8_newYears 1 = .ok (.iload_n 1, 1) := by decide +kernel
theorem dX8_newYears_2 : decode cX8_newYears 2 = .ok (.invokevirtual 149, 3) := by decide +kernel
theorem dX8_newYears_5 : decode cX8_newYears 5 = .ok (.astore 5, 2) := by decide +kernel
theorem dX8_newYears_7 : decode cX8_newYears 7 = .ok (.aload_n 0, 1) := by decide +kernel
theorem dX8_newYears_8 : decode cX8_newYears 8 = .ok (.iload_n 2, 1) := by decide +kernel
theorem dX8_newYears_9 : decode cX8_newYears 9 = .ok (.invokevirtual 149, 3) := by decide +kernel
theorem dX8_newYears_12 : decode cX8_newYears 12 = .ok (.astore 6, 2) := by decide +kernel
theorem dX8_newYears_14 : decode cX8_newYears 14 = .ok (.iload_n 3, 1) := by decide +kernel
theorem dX8_newYears_15 : decode cX8_newYears 15 = .ok (.invokestatic 157, 3) := by decide +kernel
theorem dX8_newYears_18 : decode cX8_newYears 18 = .ok (.ifCond .eq 21, 3) := by decide +kernel
theorem dX8_newYears_21 : decode cX8_newYears 21 = .ok (.iload 4, 2) := by decide +kernel
theorem dX8_newYears_23 : decode cX8_newYears 23 = .ok (.invokestatic 157, 3) := by decide +kernel
theorem dX8_newYears_26 : decode cX8_newYears 26 = .ok (.ifCond .eq 13, 3) := by decide +kernel
theorem dX8_newYears_29 : decode cX8_newYears 29 = .ok (.iload_n 3, 1) := by decide +kernel
theorem dX8_newYears_30 : decode cX8_newYears 30 = .ok (.iload 4, 2) := by decide +kernel
theorem dX8_newYears_32 : decode cX8_newYears 32 = .ok (.if_icmp .gt 7, 3) := by decide +kernel
theorem dX8_newYears_35 : decode cX8_newYears 35 = .ok (.iconst 1, 1) := by decide +kernel
theorem dX8_newYears_36 : decode cX8_newYears 36 = .ok (.goto 4, 3) := by decide +kernel
theorem dX8_newYears_39 : decode cX8_newYears 39 = .ok (.iconst 0, 1) := by decide +kernel
theorem dX8_newYears_40 : decode cX8_newYears 40 = .ok (.invokestatic 103, 3) := by decide +kernel
theorem dX8_newYears_43 : decode cX8_newYears 43 = .ok (.iconst 0, 1) := by decide +kernel
theorem dX8_newYears_44 : decode cX8_newYears 44 = .ok (.istore 7, 2) := by decide +kernel
theorem dX8_newYears_46 : decode cX8_newYears 46 = .ok (.aload 5, 2) := by decide +kernel
theorem dX8_newYears_48 : decode cX8_newYears 48 = .ok (.iload_n 3, 1) := by decide +kernel
theorem dX8_newYears_49 : decode cX8_newYears 49 = .ok (.invokevirtual 180, 3) := by decide +kernel
theorem dX8_newYears_52 : decode cX8_newYears 52 = .ok (.istore 8, 2) := by decide +kernel
theorem dX8_newYears_54 : decode cX8_newYears 54 = .ok (.sipush (-2000), 3) := by decide +kernel
theorem dX8_newYears_57 : decode cX8_newYears 57 = .ok (.istore 9, 2) := by decide +kernel
theorem dX8_newYears_59 : decode cX8_newYears 59 = .ok (.aload 6, 2) := by decide +kernel
theorem dX8_newYears_61 : decode cX8_newYears 61 = .ok (.iload 9, 2) := by decide +kernel
theorem dX8_newYears_63 : decode cX8_newYears 63 = .ok (.invokevirtual 180, 3) := by decide +kernel
theorem dX8_newYears_66 : decode cX8_newYears 66 = .ok (.istore 10, 2) := by decide +kernel
theorem dX8_newYears_68 : decode cX8_newYears 68 = .ok (.iload_n 3, 1) := by decide +kernel
theorem dX8_newYears_69 : decode cX8_newYears 69 = .ok (.istore 11, 2) := by decide +kernel
theorem dX8_newYears_71 : decode cX8_newYears 71 = .ok (.iload 11, 2) := by decide +kernel
theorem dX8_newYears_73 : decode cX8_newYears 73 = .ok (.iload 4, 2) := by decide +kernel
theorem dX8_newYears_75 : decode cX8_newYears 75 = .ok (.if_icmp .gt 64, 3) := by decide +kernel
theorem dX8_newYears_78 : decode cX8_newYears 78 = .ok (.iload 9, 2) := by decide +kernel
theorem dX8_newYears_80 : decode cX8_newYears 80 = .ok (.sipush 2000, 3) := by decide +kernel
theorem dX8_newYears_83 : decode cX8_newYears 83 = .ok (.if_icmp .ge 28, 3) := by decide +kernel
theorem dX8_newYears_86 : decode cX8_newYears 86 = .ok (.iload 10, 2) := by decide +kernel
theorem dX8_newYears_88 : decode cX8_newYears 88 = .ok (.iload 8, 2) := by decide +kernel
theorem dX8_newYears_90 : decode cX8_newYears 90 = .ok (.if_icmp .ge 21, 3) := by decide +kernel
theorem dX8_newYears_93 : decode cX8_newYears 93 = .ok (.iload 10, 2) := by decide +kernel
theorem dX8_newYears_95 : decode cX8_newYears 95 = .ok (.aload 6, 2) := by decide +kernel
theorem dX8_newYears_97 : decode cX8_newYears 97 = .ok (.iload 9, 2) := by decide +kernel
theorem dX8_newYears_99 : decode cX8_newYears 99 = .ok (.invokevirtual 177, 3) := by decide +kernel
theorem dX8_newYears_102 : decode cX8_newYears 102 = .ok (.iadd, 1) := by decide +kernel
theorem dX8_newYears_103 : decode cX8_newYears 103 = .ok (.istore 10, 2) := by decide +kernel
theorem dX8_newYears_105 : decode cX8_newYears 105 = .ok (.iinc 9 1, 3) := by decide +kernel
theorem dX8_newYears_108 : decode cX8_newYears 108 = .ok (.goto (-30), 3) := by decide +kernel
theorem dX8_newYears_111 : decode cX8_newYears 111 = .ok (.iload 10, 2) := by decide +kernel
theorem dX8_newYears_113 : decode cX8_newYears 113 = .ok (.iload 8, 2) := by decide +kernel
theorem dX8_newYears_115 : decode cX8_newYears 115 = .ok (.if_icmp .ne 6, 3) := by decide +kernel
theorem dX8_newYears_118 : decode cX8_newYears 118 = .ok (.iinc 7 1, 3) := by decide +kernel
theorem dX8_newYears_121 : decode cX8_newYears 121 = .ok (.iload 8, 2) := by decide +kernel
theorem dX8_newYears_123 : decode cX8_newYears 123 = .ok (.aload 5, 2) := by decide +kernel
theorem dX8_newYears_125 : decode cX8_newYears 125 = .ok (.iload 11, 2) := by decide +kernel
theorem dX8_newYears_127 : decode cX8_newYears 127 = .ok (.invokevirtual 177, 3) := by decide +kernel
theorem dX8_newYears_130 : decode cX8_newYears 130 = .ok (.iadd, 1) := by decide +kernel
theorem dX8_newYears_131 : decode cX8_newYears 131 = .ok (.istore 8, 2) := by decide +kernel
theorem dX8_newYears_133 : decode cX8_newYears 133 = .ok (.iinc 11 1, 3) := by decide +kernel
theorem dX8_newYears_136 : decode cX8_newYears 136 = .ok (.goto (-65), 3) := by decide +kernel
theorem dX8_newYears_139 : decode cX8_newYears 139 = .ok (.iload 7, 2) := by decide +kernel
theorem dX8_newYears_141 : decode cX8_newYears 141 = .ok (.ireturn, 1) := by decide +kernel
set_option maxRecDepth 20000 in
theorem dX8_averageYear_0 : decode cX8_averageYear 0 = .ok (.aload_n 0, 1) := by decide +kernel
theorem dX8_averageYear_1 : decode cX8_averageYear 1 = .ok (.iload_n 1, 1) := by decide +kernel
theorem dX8_averageYear_2 : decode cX8_averageYear 2 = .ok (.invokevirtual 149, 3) := by decide +kernel
theorem dX8_averageYear_5 : decode cX8_averageYear 5 = .ok (.invokevirtual 311, 3) := by decide +kernel
theorem dX8_averageYear_8 : decode cX8_averageYear 8 = .ok (.dreturn, 1) := by decide +kernel
set_option maxRecDepth 20000 in
theorem dX8_drift_0 : decode cX8_drift 0 = .ok (.aload_n 0, 1) := by decide +kernel
theorem dX8_drift_1 : decode cX8_drift 1 = .ok (.iload_n 1, 1) := by decide +kernel
theorem dX8_drift_2 : decode cX8_drift 2 = .ok (.invokevirtual 149, 3) := by decide +kernel
theorem dX8_drift_5 : decode cX8_drift 5 = .ok (.astore_n 3, 1) := by decide +kernel
theorem dX8_drift_6 : decode cX8_drift 6 = .ok (.aload_n 0, 1) := by decide +kernel
theorem dX8_drift_7 : decode cX8_drift 7 = .ok (.iload_n 2, 1) := by decide +kernel
theorem dX8_drift_8 : decode cX8_drift 8 = .ok (.invokevirtual 149, 3) := by decide +kernel
theorem dX8_drift_11 : decode cX8_drift 11 = .ok (.astore 4, 2) := by decide +kernel
theorem dX8_drift_13 : decode cX8_drift 13 = .ok (.aload_n 3, 1) := by decide +kernel
theorem dX8_drift_14 : decode cX8_drift 14 = .ok (.invokevirtual 311, 3) := by decide +kernel
theorem dX8_drift_17 : decode cX8_drift 17 = .ok (.aload 4, 2) := by decide +kernel
theorem dX8_drift_19 : decode cX8_drift 19 = .ok (.invokevirtual 311, 3) := by decide +kernel
theorem dX8_drift_22 : decode cX8_drift 22 = .ok (.dsub, 1) := by decide +kernel
theorem dX8_drift_23 : decode cX8_drift 23 = .ok (.ldc2_w 315, 3) := by decide +kernel
theorem dX8_drift_26 : decode cX8_drift 26 = .ok (.dmul, 1) := by decide +kernel
theorem dX8_drift_27 : decode cX8_drift 27 = .ok (.d2f, 1) := by decide +kernel
theorem dX8_drift_28 : decode cX8_drift 28 = .ok (.freturn, 1) := by decide +kernel
set_option maxRecDepth 20000 in
theorem dX8_undo_0 : decode cX8_undo 0 = .ok (.aload_n 0, 1) := by decide +kernel
theorem dX8_undo_1 : decode cX8_undo 1 = .ok (.getfield 38, 3) := by decide +kernel
theorem dX8_undo_4 : decode cX8_undo 4 = .ok (.invokevirtual 317, 3) := by decide +kernel
theorem dX8_undo_7 : decode cX8_undo 7 = .ok (.iconst 1, 1) := by decide +kernel
theorem dX8_undo_8 : decode cX8_undo 8 = .ok (.if_icmp .ge 14, 3) := by decide +kernel
theorem dX8_undo_11 : decode cX8_undo 11 = .ok (.new 108, 3) := by decide +kernel
theorem dX8_undo_14 : decode cX8_undo 14 = .ok (.dup, 1) := by decide +kernel
theorem dX8_undo_15 : decode cX8_undo 15 = .ok (.ldc_w 318, 3) := by decide +kernel
theorem dX8_undo_18 : decode cX8_undo 18 = .ok (.invokespecial 112, 3) := by decide +kernel
theorem dX8_undo_21 : decode cX8_undo 21 = .ok (.athrow, 1) := by decide +kernel
theorem dX8_undo_22 : decode cX8_undo 22 = .ok (.aload_n 0, 1) := by decide +kernel
theorem dX8_undo_23 : decode cX8_undo 23 = .ok (.getfield 38, 3) := by decide +kernel
theorem dX8_undo_26 : decode cX8_undo 26 = .ok (.aload_n 0, 1) := by decide +kernel
theorem dX8_undo_27 : decode cX8_undo 27 = .ok (.getfield 28, 3) := by decide +kernel
theorem dX8_undo_30 : decode cX8_undo 30 = .ok (.invokevirtual 320, 3) := by decide +kernel
theorem dX8_undo_33 : decode cX8_undo 33 = .ok (.aload_n 0, 1) := by decide +kernel
theorem dX8_undo_34 : decode cX8_undo 34 = .ok (.getfield 38, 3) := by decide +kernel
theorem dX8_undo_37 : decode cX8_undo 37 = .ok (.invokevirtual 317, 3) := by decide +kernel
theorem dX8_undo_40 : decode cX8_undo 40 = .ok (.ireturn, 1) := by decide +kernel
set_option maxRecDepth 20000 in
theorem dX8_save_0 : decode cX8_save 0 = .ok (.aload_n 0, 1) := by decide +kernel
theorem dX8_save_1 : decode cX8_save 1 = .ok (.getfield 32, 3) := by decide +kernel
theorem dX8_save_4 : decode cX8_save 4 = .ok (.aload_n 0, 1) := by decide +kernel
theorem dX8_save_5 : decode cX8_save 5 = .ok (.getfield 28, 3) := by decide +kernel
theorem dX8_save_8 : decode cX8_save 8 = .ok (.invokevirtual 323, 3) := by decide +kernel
theorem dX8_save_11 : decode cX8_save 11 = .ok (.aload_n 0, 1) := by decide +kernel
theorem dX8_save_12 : decode cX8_save 12 = .ok (.iconst 1, 1) := by decide +kernel
theorem dX8_save_13 : decode cX8_save 13 = .ok (.putfield 326, 3) := by decide +kernel
theorem dX8_save_16 : decode cX8_save 16 = .ok (.aload_n 0, 1) := by decide +kernel
theorem dX8_save_17 : decode cX8_save 17 = .ok (.getfield 28, 3) := by decide +kernel
theorem dX8_save_20 : decode cX8_save 20 = .ok (.invokevirtual 115, 3) := by decide +kernel
theorem dX8_save_23 : decode cX8_save 23 = .ok (.ireturn, 1) := by decide +kernel
set_option maxRecDepth 20000 in
theorem dX8_restore_0 : decode cX8_restore 0 = .ok (.aload_n 0, 1) := by decide +kernel
theorem dX8_restore_1 : decode cX8_restore 1 = .ok (.getfield 326, 3) := by decide +kernel
theorem dX8_restore_4 : decode cX8_restore 4 = .ok (.ifCond .ne 14, 3) := by decide +kernel
theorem dX8_restore_7 : decode cX8_restore 7 = .ok (.new 108, 3) := by decide +kernel
theorem dX8_restore_10 : decode cX8_restore 10 = .ok (.dup, 1) := by decide +kernel
theorem dX8_restore_11 : decode cX8_restore 11 = .ok (.ldc_w 330, 3) := by decide +kernel
theorem dX8_restore_14 : decode cX8_restore 14 = .ok (.invokespecial 112, 3) := by decide +kernel
theorem dX8_restore_17 : decode cX8_restore 17 = .ok (.athrow, 1) := by decide +kernel
theorem dX8_restore_18 : decode cX8_restore 18 = .ok (.aload_n 0, 1) := by decide +kernel
theorem dX8_restore_19 : decode cX8_restore 19 = .ok (.getfield 38, 3) := by decide +kernel
theorem dX8_restore_22 : decode cX8_restore 22 = .ok (.aload_n 0, 1) := by decide +kernel
theorem dX8_restore_23 : decode cX8_restore 23 = .ok (.getfield 28, 3) := by decide +kernel
theorem dX8_restore_26 : decode cX8_restore 26 = .ok (.invokevirtual 142, 3) := by decide +kernel
theorem dX8_restore_29 : decode cX8_restore 29 = .ok (.aload_n 0, 1) := by decide +kernel
theorem dX8_restore_30 : decode cX8_restore 30 = .ok (.getfield 28, 3) := by decide +kernel
theorem dX8_restore_33 : decode cX8_restore 33 = .ok (.aload_n 0, 1) := by decide +kernel
theorem dX8_restore_34 : decode cX8_restore 34 = .ok (.getfield 32, 3) := by decide +kernel
theorem dX8_restore_37 : decode cX8_restore 37 = .ok (.invokevirtual 323, 3) := by decide +kernel
theorem dX8_restore_40 : decode cX8_restore 40 = .ok (.aload_n 0, 1) := by decide +kernel
theorem dX8_restore_41 : decode cX8_restore 41 = .ok (.getfield 28, 3) := by decide +kernel
theorem dX8_restore_44 : decode cX8_restore 44 = .ok (.invokevirtual 115, 3) := by decide +kernel
theorem dX8_restore_47 : decode cX8_restore 47 = .ok (.ireturn, 1) := by decide +kernel
set_option maxRecDepth 20000 in
theorem dX8_existing_0 : decode cX8_existing 0 = .ok (.aload_n 0, 1) := by decide +kernel
theorem dX8_existing_1 : decode cX8_existing 1 = .ok (.getfield 28, 3) := by decide +kernel
theorem dX8_existing_4 : decode cX8_existing 4 = .ok (.iload_n 1, 1) := by decide +kernel
theorem dX8_existing_5 : decode cX8_existing 5 = .ok (.invokevirtual 277, 3) := by decide +kernel
theorem dX8_existing_8 : decode cX8_existing 8 = .ok (.astore_n 2, 1) := by decide +kernel
theorem dX8_existing_9 : decode cX8_existing 9 = .ok (.aload_n 2, 1) := by decide +kernel
theorem dX8_existing_10 : decode cX8_existing 10 = .ok (.ifnonnull 14, 3) := by decide +kernel
theorem dX8_existing_13 : decode cX8_existing 13 = .ok (.new 124, 3) := by decide +kernel
theorem dX8_existing_16 : decode cX8_existing 16 = .ok (.dup, 1) := by decide +kernel
theorem dX8_existing_17 : decode cX8_existing 17 = .ok (.ldc_w 332, 3) := by decide +kernel
theorem dX8_existing_20 : decode cX8_existing 20 = .ok (.invokespecial 128, 3) := by decide +kernel
theorem dX8_existing_23 : decode cX8_existing 23 = .ok (.athrow, 1) := by decide +kernel
theorem dX8_existing_24 : decode cX8_existing 24 = .ok (.aload_n 2, 1) := by decide +kernel
theorem dX8_existing_25 : decode cX8_existing 25 = .ok (.areturn, 1) := by decide +kernel
set_option maxRecDepth 20000 in
theorem dX8_checkFeast_0 : decode cX8_checkFeast 0 = .ok (.iload_n 1, 1) := by decide +kernel
theorem dX8_checkFeast_1 : decode cX8_checkFeast 1 = .ok (.iconst 0, 1) := by decide +kernel
theorem dX8_checkFeast_2 : decode cX8_checkFeast 2 = .ok (.aload_n 0, 1) := by decide +kernel
theorem dX8_checkFeast_3 : decode cX8_checkFeast 3 = .ok (.getfield 28, 3) := by decide +kernel
theorem dX8_checkFeast_6 : decode cX8_checkFeast 6 = .ok (.invokevirtual 221, 3) := by decide +kernel
theorem dX8_checkFeast_9 : decode cX8_checkFeast 9 = .ok (.iconst 1, 1) := by decide +kernel
theorem dX8_checkFeast_10 : decode cX8_checkFeast 10 = .ok (.isub, 1) := by decide +kernel
theorem dX8_checkFeast_11 : decode cX8_checkFeast 11 = .ok (.invokestatic 99, 3) := by decide +kernel
theorem dX8_checkFeast_14 : decode cX8_checkFeast 14 = .ok (.ifCond .ne 14, 3) := by decide +kernel
theorem dX8_checkFeast_17 : decode cX8_checkFeast 17 = .ok (.new 124, 3) := by decide +kernel
theorem dX8_checkFeast_20 : decode cX8_checkFeast 20 = .ok (.dup, 1) := by decide +kernel
theorem dX8_checkFeast_21 : decode cX8_checkFeast 21 = .ok (.ldc_w 334, 3) := by decide +kernel
theorem dX8_checkFeast_24 : decode cX8_checkFeast 24 = .ok (.invokespecial 128, 3) := by decide +kernel
theorem dX8_checkFeast_27 : decode cX8_checkFeast 27 = .ok (.athrow, 1) := by decide +kernel
theorem dX8_checkFeast_28 : decode cX8_checkFeast 28 = .ok (.return_, 1) := by decide +kernel
set_option maxRecDepth 20000 in
theorem dX8_areNumbersOfRule_0 : decode cX8_areNumbersOfRule 0 = .ok (.aload_n 0, 1) := by decide +kernel
theorem dX8_areNumbersOfRule_1 : decode cX8_areNumbersOfRule 1 = .ok (.getfield 28, 3) := by decide +kernel
theorem dX8_areNumbersOfRule_4 : decode cX8_areNumbersOfRule 4 = .ok (.invokevirtual 115, 3) := by decide +kernel
theorem dX8_areNumbersOfRule_7 : decode cX8_areNumbersOfRule 7 = .ok (.iconst 1, 1) := by decide +kernel
theorem dX8_areNumbersOfRule_8 : decode cX8_areNumbersOfRule 8 = .ok (.isub, 1) := by decide +kernel
theorem dX8_areNumbersOfRule_9 : decode cX8_areNumbersOfRule 9 = .ok (.istore 5, 2) := by decide +kernel
theorem dX8_areNumbersOfRule_11 : decode cX8_areNumbersOfRule 11 = .ok (.iload_n 1, 1) := by decide +kernel
theorem dX8_areNumbersOfRule_12 : decode cX8_areNumbersOfRule 12 = .ok (.tableswitch 163 0 3 #[32, 63, 104, 132], 32) := by decide +kernel
theorem dX8_areNumbersOfRule_44 : decode cX8_areNumbersOfRule 44 = .ok (.iload_n 2, 1) := by decide +kernel
theorem dX8_areNumbersOfRule_45 : decode cX8_areNumbersOfRule 45 = .ok (.iconst 1, 1) := by decide +kernel
theorem dX8_areNumbersOfRule_46 : decode cX8_areNumbersOfRule 46 = .ok (.bipush 15, 2) := by decide +kernel
theorem dX8_areNumbersOfRule_48 : decode cX8_areNumbersOfRule 48 = .ok (.invokestatic 99, 3) := by decide +kernel
theorem dX8_areNumbersOfRule_51 : decode cX8_areNumbersOfRule 51 = .ok (.ifCond .eq 22, 3) := by decide +kernel
theorem dX8_areNumbersOfRule_54 : decode cX8_areNumbersOfRule 54 = .ok (.iload_n 3, 1) := by decide +kernel
theorem dX8_areNumbersOfRule_55 : decode cX8_areNumbersOfRule 55 = .ok (.iconst 1, 1) := by decide +kernel
theorem dX8_areNumbersOfRule_56 : decode cX8_areNumbersOfRule 56 = .ok (.bipush 60, 2) := by decide +kernel
theorem dX8_areNumbersOfRule_58 : decode cX8_areNumbersOfRule 58 = .ok (.invokestatic 99, 3) := by decide +kernel
theorem dX8_areNumbersOfRule_61 : decode cX8_areNumbersOfRule 61 = .ok (.ifCond .eq 12, 3) := by decide +kernel
theorem dX8_areNumbersOfRule_64 : decode cX8_areNumbersOfRule 64 = .ok (.iload 4, 2) := by decide +kernel
theorem dX8_areNumbersOfRule_66 : decode cX8_areNumbersOfRule 66 = .ok (.ifCond .ne 7, 3) := by decide +kernel
theorem dX8_areNumbersOfRule_69 : decode cX8_areNumbersOfRule 69 = .ok (.iconst 1, 1) := by decide +kernel
theorem dX8_areNumbersOfRule_70 : decode cX8_areNumbersOfRule 70 = .ok (.goto 4, 3) := by decide +kernel
theorem dX8_areNumbersOfRule_73 : decode cX8_areNumbersOfRule 73 = .ok (.iconst 0, 1) := by decide +kernel
theorem dX8_areNumbersOfRule_74 : decode cX8_areNumbersOfRule 74 = .ok (.ireturn, 1) := by decide +kernel
theorem dX8_areNumbersOfRule_75 : decode cX8_areNumbersOfRule 75 = .ok (.iload_n 2, 1) := by decide +kernel
theorem dX8_areNumbersOfRule_76 : decode cX8_areNumbersOfRule 76 = .ok (.iconst 1, 1) := by decide +kernel
theorem dX8_areNumbersOfRule_77 : decode cX8_areNumbersOfRule 77 = .ok (.bipush 15, 2) := by decide +kernel
theorem dX8_areNumbersOfRule_79 : decode cX8_areNumbersOfRule 79 = .ok (.invokestatic 99, 3) := by decide +kernel
theorem dX8_areNumbersOfRule_82 : decode cX8_areNumbersOfRule 82 = .ok (.ifCond .eq 32, 3) := by decide +kernel
theorem dX8_areNumbersOfRule_85 : decode cX8_areNumbersOfRule 85 = .ok (.iload_n 3, 1) := by decide +kernel
theorem dX8_areNumbersOfRule_86 : decode cX8_areNumbersOfRule 86 = .ok (.iconst (-1), 1) := by decide +kernel
theorem dX8_areNumbersOfRule_87 : decode cX8_areNumbersOfRule 87 = .ok (.if_icmp .eq 12, 3) := by decide +kernel
theorem dX8_areNumbersOfRule_90 : decode cX8_areNumbersOfRule 90 = .ok (.iload_n 3, 1) := by decide +kernel
theorem dX8_areNumbersOfRule_91 : decode cX8_areNumbersOfRule 91 = .ok (.iconst 1, 1) := by decide +kernel
theorem dX8_areNumbersOfRule_92 : decode cX8_areNumbersOfRule 92 = .ok (.iconst 5, 1) := by decide +kernel
theorem dX8_areNumbersOfRule_93 : decode cX8_areNumbersOfRule 93 = .ok (.invokestatic 99, 3) := by decide +kernel
theorem dX8_areNumbersOfRule_96 : decode cX8_areNumbersOfRule 96 = .ok (.ifCond .eq 18, 3) := by decide +kernel
theorem dX8_areNumbersOfRule_99 : decode cX8_areNumbersOfRule 99 = .ok (.iload 4, 2) := by decide +kernel
theorem dX8_areNumbersOfRule_101 : decode cX8_areNumbersOfRule 101 = .ok (.iconst 0, 1) := by decide +kernel
theorem dX8_areNumbersOfRule_102 : decode cX8_areNumbersOfRule 102 = .ok (.bipush 9, 2) := by decide +kernel
theorem dX8_areNumbersOfRule_104 : decode cX8_areNumbersOfRule 104 = .ok (.invokestatic 99, 3) := by decide +kernel
theorem dX8_areNumbersOfRule_107 : decode cX8_areNumbersOfRule 107 = .ok (.ifCond .eq 7, 3) := by decide +kernel
theorem dX8_areNumbersOfRule_110 : decode cX8_areNumbersOfRule 110 = .ok (.iconst 1, 1) := by decide +kernel
theorem dX8_areNumbersOfRule_111 : decode cX8_areNumbersOfRule 111 = .ok (.goto 4, 3) := by decide +kernel
theorem dX8_areNumbersOfRule_114 : decode cX8_areNumbersOfRule 114 = .ok (.iconst 0, 1) := by decide +kernel
theorem dX8_areNumbersOfRule_115 : decode cX8_areNumbersOfRule 115 = .ok (.ireturn, 1) := by decide +kernel
theorem dX8_areNumbersOfRule_116 : decode cX8_areNumbersOfRule 116 = .ok (.iload_n 2, 1) := by decide +kernel
theorem dX8_areNumbersOfRule_117 : decode cX8_areNumbersOfRule 117 = .ok (.sipush (-400), 3) := by decide +kernel
theorem dX8_areNumbersOfRule_120 : decode cX8_areNumbersOfRule 120 = .ok (.sipush 400, 3) := by decide +kernel
theorem dX8_areNumbersOfRule_123 : decode cX8_areNumbersOfRule 123 = .ok (.invokestatic 99, 3) := by decide +kernel
theorem dX8_areNumbersOfRule_126 : decode cX8_areNumbersOfRule 126 = .ok (.ifCond .eq 16, 3) := by decide +kernel
theorem dX8_areNumbersOfRule_129 : decode cX8_areNumbersOfRule 129 = .ok (.iload_n 3, 1) := by decide +kernel
theorem dX8_areNumbersOfRule_130 : decode cX8_areNumbersOfRule 130 = .ok (.ifCond .ne 12, 3) := by decide +kernel
theorem dX8_areNumbersOfRule_133 : decode cX8_areNumbersOfRule 133 = .ok (.iload 4, 2) := by decide +kernel
theorem dX8_areNumbersOfRule_135 : decode cX8_areNumbersOfRule 135 = .ok (.ifCond .ne 7, 3) := by decide +kernel
theorem dX8_areNumbersOfRule_138 : decode cX8_areNumbersOfRule 138 = .ok (.iconst 1, 1) := by decide +kernel
theorem dX8_areNumbersOfRule_139 : decode cX8_areNumbersOfRule 139 = .ok (.goto 4, 3) := by decide +kernel
theorem dX8_areNumbersOfRule_142 : decode cX8_areNumbersOfRule 142 = .ok (.iconst 0, 1) := by decide +kernel
theorem dX8_areNumbersOfRule_143 : decode cX8_areNumbersOfRule 143 = .ok (.ireturn, 1) := by decide +kernel
theorem dX8_areNumbersOfRule_144 : decode cX8_areNumbersOfRule 144 = .ok (.iload_n 2, 1) := by decide +kernel
theorem dX8_areNumbersOfRule_145 : decode cX8_areNumbersOfRule 145 = .ok (.iconst 0, 1) := by decide +kernel
theorem dX8_areNumbersOfRule_146 : decode cX8_areNumbersOfRule 146 = .ok (.iload 5, 2) := by decide +kernel
theorem dX8_areNumbersOfRule_148 : decode cX8_areNumbersOfRule 148 = .ok (.invokestatic 99, 3) := by decide +kernel
theorem dX8_areNumbersOfRule_151 : decode cX8_areNumbersOfRule 151 = .ok (.ifCond .eq 22, 3) := by decide +kernel
theorem dX8_areNumbersOfRule_154 : decode cX8_areNumbersOfRule 154 = .ok (.iload_n 3, 1) := by decide +kernel
theorem dX8_areNumbersOfRule_155 : decode cX8_areNumbersOfRule 155 = .ok (.iconst 0, 1) := by decide +kernel
theorem dX8_areNumbersOfRule_156 : decode cX8_areNumbersOfRule 156 = .ok (.bipush 9, 2) := by decide +kernel
theorem dX8_areNumbersOfRule_158 : decode cX8_areNumbersOfRule 158 = .ok (.invokestatic 99, 3) := by decide +kernel
theorem dX8_areNumbersOfRule_161 : decode cX8_areNumbersOfRule 161 = .ok (.ifCond .eq 12, 3) := by decide +kernel
theorem dX8_areNumbersOfRule_164 : decode cX8_areNumbersOfRule 164 = .ok (.iload 4, 2) := by decide +kernel
theorem dX8_areNumbersOfRule_166 : decode cX8_areNumbersOfRule 166 = .ok (.ifCond .ne 7, 3) := by decide +kernel
theorem dX8_areNumbersOfRule_169 : decode cX8_areNumbersOfRule 169 = .ok (.iconst 1, 1) := by decide +kernel
theorem dX8_areNumbersOfRule_170 : decode cX8_areNumbersOfRule 170 = .ok (.goto 4, 3) := by decide +kernel
theorem dX8_areNumbersOfRule_173 : decode cX8_areNumbersOfRule 173 = .ok (.iconst 0, 1) := by decide +kernel
theorem dX8_areNumbersOfRule_174 : decode cX8_areNumbersOfRule 174 = .ok (.ireturn, 1) := by decide +kernel
theorem dX8_areNumbersOfRule_175 : decode cX8_areNumbersOfRule 175 = .ok (.iload_n 2, 1) := by decide +kernel
theorem dX8_areNumbersOfRule_176 : decode cX8_areNumbersOfRule 176 = .ok (.iconst 0, 1) := by decide +kernel
theorem dX8_areNumbersOfRule_177 : decode cX8_areNumbersOfRule 177 = .ok (.iload 5, 2) := by decide +kernel
theorem dX8_areNumbersOfRule_179 : decode cX8_areNumbersOfRule 179 = .ok (.invokestatic 99, 3) := by decide +kernel
theorem dX8_areNumbersOfRule_182 : decode cX8_areNumbersOfRule 182 = .ok (.ifCond .eq 22, 3) := by decide +kernel
theorem dX8_areNumbersOfRule_185 : decode cX8_areNumbersOfRule 185 = .ok (.iload_n 3, 1) := by decide +kernel
theorem dX8_areNumbersOfRule_186 : decode cX8_areNumbersOfRule 186 = .ok (.iconst 1, 1) := by decide +kernel
theorem dX8_areNumbersOfRule_187 : decode cX8_areNumbersOfRule 187 = .ok (.bipush 60, 2) := by decide +kernel
theorem dX8_areNumbersOfRule_189 : decode cX8_areNumbersOfRule 189 = .ok (.invokestatic 99, 3) := by decide +kernel
theorem dX8_areNumbersOfRule_192 : decode cX8_areNumbersOfRule 192 = .ok (.ifCond .eq 12, 3) := by decide +kernel
theorem dX8_areNumbersOfRule_195 : decode cX8_areNumbersOfRule 195 = .ok (.iload 4, 2) := by decide +kernel
theorem dX8_areNumbersOfRule_197 : decode cX8_areNumbersOfRule 197 = .ok (.ifCond .ne 7, 3) := by decide +kernel
theorem dX8_areNumbersOfRule_200 : decode cX8_areNumbersOfRule 200 = .ok (.iconst 1, 1) := by decide +kernel
theorem dX8_areNumbersOfRule_201 : decode cX8_areNumbersOfRule 201 = .ok (.goto 4, 3) := by decide +kernel
theorem dX8_areNumbersOfRule_204 : decode cX8_areNumbersOfRule 204 = .ok (.iconst 0, 1) := by decide +kernel
theorem dX8_areNumbersOfRule_205 : decode cX8_areNumbersOfRule 205 = .ok (.ireturn, 1) := by decide +kernel
set_option maxRecDepth 20000 in
theorem dX8_yearInside_0 : decode cX8_yearInside 0 = .ok (.aload_n 0, 1) := by decide +kernel
theorem dX8_yearInside_1 : decode cX8_yearInside 1 = .ok (.iload_n 1, 1) := by decide +kernel
theorem dX8_yearInside_2 : decode cX8_yearInside 2 = .ok (.invokevirtual 336, 3) := by decide +kernel
theorem dX8_yearInside_5 : decode cX8_yearInside 5 = .ok (.istore_n 2, 1) := by decide +kernel
theorem dX8_yearInside_6 : decode cX8_yearInside 6 = .ok (.iload_n 2, 1) := by decide +kernel
theorem dX8_yearInside_7 : decode cX8_yearInside 7 = .ok (.ldc_w 260, 3) := by decide +kernel
theorem dX8_yearInside_10 : decode cX8_yearInside 10 = .ok (.if_icmp .ne 14, 3) := by decide +kernel
theorem dX8_yearInside_13 : decode cX8_yearInside 13 = .ok (.new 261, 3) := by decide +kernel
theorem dX8_yearInside_16 : decode cX8_yearInside 16 = .ok (.dup, 1) := by decide +kernel
theorem dX8_yearInside_17 : decode cX8_yearInside 17 = .ok (.ldc_w 339, 3) := by decide +kernel
theorem dX8_yearInside_20 : decode cX8_yearInside 20 = .ok (.invokespecial 265, 3) := by decide +kernel
theorem dX8_yearInside_23 : decode cX8_yearInside 23 = .ok (.athrow, 1) := by decide +kernel
theorem dX8_yearInside_24 : decode cX8_yearInside 24 = .ok (.iload_n 2, 1) := by decide +kernel
theorem dX8_yearInside_25 : decode cX8_yearInside 25 = .ok (.ireturn, 1) := by decide +kernel
set_option maxRecDepth 20000 in
theorem dX8_present_0 : decode cX8_present 0 = .ok (.iload_n 0, 1) := by decide +kernel
theorem dX8_present_1 : decode cX8_present 1 = .ok (.invokestatic 187, 3) := by decide +kernel
theorem dX8_present_4 : decode cX8_present 4 = .ok (.ifCond .ne 14, 3) := by decide +kernel
theorem dX8_present_7 : decode cX8_present 7 = .ok (.new 261, 3) := by decide +kernel
theorem dX8_present_10 : decode cX8_present 10 = .ok (.dup, 1) := by decide +kernel
theorem dX8_present_11 : decode cX8_present 11 = .ok (.ldc_w 341, 3) := by decide +kernel
theorem dX8_present_14 : decode cX8_present 14 = .ok (.invokespecial 265, 3) := by decide +kernel
theorem dX8_present_17 : decode cX8_present 17 = .ok (.athrow, 1) := by decide +kernel
theorem dX8_present_18 : decode cX8_present 18 = .ok (.iload_n 0, 1) := by decide +kernel
theorem dX8_present_19 : decode cX8_present 19 = .ok (.ireturn, 1) := by decide +kernel
theorem dX8_demand_0 : decode cX8_demand 0 = .ok (.iload_n 0, 1) := by decide +kernel
theorem dX8_demand_1 : decode cX8_demand 1 = .ok (.ifCond .ne 14, 3) := by decide +kernel
theorem dX8_demand_4 : decode cX8_demand 4 = .ok (.new 132, 3) := by decide +kernel
theorem dX8_demand_7 : decode cX8_demand 7 = .ok (.dup, 1) := by decide +kernel
theorem dX8_demand_8 : decode cX8_demand 8 = .ok (.ldc_w 343, 3) := by decide +kernel
theorem dX8_demand_11 : decode cX8_demand 11 = .ok (.invokespecial 136, 3) := by decide +kernel
theorem dX8_demand_14 : decode cX8_demand 14 = .ok (.athrow, 1) := by decide +kernel
theorem dX8_demand_15 : decode cX8_demand 15 = .ok (.return_, 1) := by decide +kernel
theorem dX8_isFrom_0 : decode cX8_isFrom 0 = .ok (.iload_n 0, 1) := by decide +kernel
theorem dX8_isFrom_1 : decode cX8_isFrom 1 = .ok (.iload_n 1, 1) := by decide +kernel
theorem dX8_isFrom_2 : decode cX8_isFrom 2 = .ok (.if_icmp .lt 12, 3) := by decide +kernel
theorem dX8_isFrom_5 : decode cX8_isFrom 5 = .ok (.iload_n 0, 1) := by decide +kernel
theorem dX8_isFrom_6 : decode cX8_isFrom 6 = .ok (.iload_n 2, 1) := by decide +kernel
theorem dX8_isFrom_7 : decode cX8_isFrom 7 = .ok (.if_icmp .gt 7, 3) := by decide +kernel
theorem dX8_isFrom_10 : decode cX8_isFrom 10 = .ok (.iconst 1, 1) := by decide +kernel
theorem dX8_isFrom_11 : decode cX8_isFrom 11 = .ok (.goto 4, 3) := by decide +kernel
theorem dX8_isFrom_14 : decode cX8_isFrom 14 = .ok (.iconst 0, 1) := by decide +kernel
theorem dX8_isFrom_15 : decode cX8_isFrom 15 = .ok (.ireturn, 1) := by decide +kernel
theorem dX8_isYear_0 : decode cX8_isYear 0 = .ok (.iload_n 0, 1) := by decide +kernel
theorem dX8_isYear_1 : decode cX8_isYear 1 = .ok (.sipush (-2000), 3) := by decide +kernel
theorem dX8_isYear_4 : decode cX8_isYear 4 = .ok (.if_icmp .lt 14, 3) := by decide +kernel
theorem dX8_isYear_7 : decode cX8_isYear 7 = .ok (.iload_n 0, 1) := by decide +kernel
theorem dX8_isYear_8 : decode cX8_isYear 8 = .ok (.sipush 2000, 3) := by decide +kernel
theorem dX8_isYear_11 : decode cX8_isYear 11 = .ok (.if_icmp .gt 7, 3) := by decide +kernel
theorem dX8_isYear_14 : decode cX8_isYear 14 = .ok (.iconst 1, 1) := by decide +kernel
theorem dX8_isYear_15 : decode cX8_isYear 15 = .ok (.goto 4, 3) := by decide +kernel
theorem dX8_isYear_18 : decode cX8_isYear 18 = .ok (.iconst 0, 1) := by decide +kernel
theorem dX8_isYear_19 : decode cX8_isYear 19 = .ok (.ireturn, 1) := by decide +kernel
theorem dX8_isDay_0 : decode cX8_isDay 0 = .ok (.iload_n 0, 1) := by decide +kernel
theorem dX8_isDay_1 : decode cX8_isDay 1 = .ok (.ldc_w 345, 3) := by decide +kernel
theorem dX8_isDay_4 : decode cX8_isDay 4 = .ok (.if_icmp .lt 14, 3) := by decide +kernel
theorem dX8_isDay_7 : decode cX8_isDay 7 = .ok (.iload_n 0, 1) := by decide +kernel
theorem dX8_isDay_8 : decode cX8_isDay 8 = .ok (.ldc_w 346, 3) := by decide +kernel
theorem dX8_isDay_11 : decode cX8_isDay 11 = .ok (.if_icmp .gt 7, 3) := by decide +kernel
theorem dX8_isDay_14 : decode cX8_isDay 14 = .ok (.iconst 1, 1) := by decide +kernel
theorem dX8_isDay_15 : decode cX8_isDay 15 = .ok (.goto 4, 3) := by decide +kernel
theorem dX8_isDay_18 : decode cX8_isDay 18 = .ok (.iconst 0, 1) := by decide +kernel
theorem dX8_isDay_19 : decode cX8_isDay 19 = .ok (.ireturn, 1) := by decide +kernel
set_option maxRecDepth 20000 in
theorem dX9_init_0 : decode cX9_init 0 = .ok (.aload_n 0, 1) := by decide +kernel
theorem dX9_init_1 : decode cX9_init 1 = .ok (.invokespecial 1, 3) := by decide +kernel
theorem dX9_init_4 : decode cX9_init 4 = .ok (.aload_n 0, 1) := by decide +kernel
theorem dX9_init_5 : decode cX9_init 5 = .ok (.bipush 12, 2) := by decide +kernel
theorem dX9_init_7 : decode cX9_init 7 = .ok (.newarray .int, 2) := by decide +kernel
theorem dX9_init_9 : decode cX9_init 9 = .ok (.dup, 1) := by decide +kernel
theorem dX9_init_10 : decode cX9_init 10 = .ok (.iconst 0, 1) := by decide +kernel
theorem dX9_init_11 : decode cX9_init 11 = .ok (.bipush 31, 2) := by decide +kernel
theorem dX9_init_13 : decode cX9_init 13 = .ok (.iastore, 1) := by decide +kernel
theorem dX9_init_14 : decode cX9_init 14 = .ok (.dup, 1) := by decide +kernel
theorem dX9_init_15 : decode cX9_init 15 = .ok (.iconst 1, 1) := by decide +kernel
theorem dX9_init_16 : decode cX9_init 16 = .ok (.bipush 28, 2) := by decide +kernel
theorem dX9_init_18 : decode cX9_init 18 = .ok (.iastore, 1) := by decide +kernel
theorem dX9_init_19 : decode cX9_init 19 = .ok (.dup, 1) := by decide +kernel
theorem dX9_init_20 : decode cX9_init 20 = .ok (.iconst 2, 1) := by decide +kernel
theorem dX9_init_21 : decode cX9_init 21 = .ok (.bipush 31, 2) := by decide +kernel
theorem dX9_init_23 : decode cX9_init 23 = .ok (.iastore, 1) := by decide +kernel
theorem dX9_init_24 : decode cX9_init 24 = .ok (.dup, 1) := by decide +kernel
theorem dX9_init_25 : decode cX9_init 25 = .ok (.iconst 3, 1) := by decide +kernel
theorem dX9_init_26 : decode cX9_init 26 = .ok (.bipush 30, 2) := by decide +kernel
theorem dX9_init_28 : decode cX9_init 28 = .ok (.iastore, 1) := by decide +kernel
theorem dX9_init_29 : decode cX9_init 29 = .ok (.dup, 1) := by decide +kernel
theorem dX9_init_30 : decode cX9_init 30 = .ok (.iconst 4, 1) := by decide +kernel
theorem dX9_init_31 : decode cX9_init 31 = .ok (.bipush 31, 2) := by decide +kernel
theorem dX9_init_33 : decode cX9_init 33 = .ok (.iastore, 1) := by decide +kernel
theorem dX9_init_34 : decode cX9_init 34 = .ok (.dup, 1) := by decide +kernel
theorem dX9_init_35 : decode cX9_init 35 = .ok (.iconst 5, 1) := by decide +kernel
theorem dX9_init_36 : decode cX9_init 36 = .ok (.bipush 30, 2) := by decide +kernel
theorem dX9_init_38 : decode cX9_init 38 = .ok (.iastore, 1) := by decide +kernel
theorem dX9_init_39 : decode cX9_init 39 = .ok (.dup, 1) := by decide +kernel
theorem dX9_init_40 : decode cX9_init 40 = .ok (.bipush 6, 2) := by decide +kernel
theorem dX9_init_42 : decode cX9_init 42 = .ok (.bipush 31, 2) := by decide +kernel
theorem dX9_init_44 : decode cX9_init 44 = .ok (.iastore, 1) := by decide +kernel
theorem dX9_init_45 : decode cX9_init 45 = .ok (.dup, 1) := by decide +kernel
theorem dX9_init_46 : decode cX9_init 46 = .ok (.bipush 7, 2) := by decide +kernel
theorem dX9_init_48 : decode cX9_init 48 = .ok (.bipush 31, 2) := by decide +kernel
theorem dX9_init_50 : decode cX9_init 50 = .ok (.iastore, 1) := by decide +kernel
theorem dX9_init_51 : decode cX9_init 51 = .ok (.dup, 1) := by decide +kernel
theorem dX9_init_52 : decode cX9_init 52 = .ok (.bipush 8, 2) := by decide +kernel
theorem dX9_init_54 : decode cX9_init 54 = .ok (.bipush 30, 2) := by decide +kernel
theorem dX9_init_56 : decode cX9_init 56 = .ok (.iastore, 1) := by decide +kernel
theorem dX9_init_57 : decode cX9_init 57 = .ok (.dup, 1) := by decide +kernel
theorem dX9_init_58 : decode cX9_init 58 = .ok (.bipush 9, 2) := by decide +kernel
theorem dX9_init_60 : decode cX9_init 60 = .ok (.bipush 31, 2) := by decide +kernel
theorem dX9_init_62 : decode cX9_init 62 = .ok (.iastore, 1) := by decide +kernel
theorem dX9_init_63 : decode cX9_init 63 = .ok (.dup, 1) := by decide +kernel
theorem dX9_init_64 : decode cX9_init 64 = .ok (.bipush 10, 2) := by decide +kernel
theorem dX9_init_66 : decode cX9_init 66 = .ok (.bipush 30, 2) := by decide +kernel
theorem dX9_init_68 : decode cX9_init 68 = .ok (.iastore, 1) := by decide +kernel
theorem dX9_init_69 : decode cX9_init 69 = .ok (.dup, 1) := by decide +kernel
theorem dX9_init_70 : decode cX9_init 70 = .ok (.bipush 11, 2) := by decide +kernel
theorem dX9_init_72 : decode cX9_init 72 = .ok (.bipush 31, 2) := by decide +kernel
theorem dX9_init_74 : decode cX9_init 74 = .ok (.iastore, 1) := by decide +kernel
theorem dX9_init_75 : decode cX9_init 75 = .ok (.putfield 7, 3) := by decide +kernel
theorem dX9_init_78 : decode cX9_init 78 = .ok (.aload_n 0, 1) := by decide +kernel
theorem dX9_init_79 : decode cX9_init 79 = .ok (.sipush 198, 3) := by decide +kernel
theorem dX9_init_82 : decode cX9_init 82 = .ok (.newarray .int, 2) := by decide +kernel
theorem dX9_init_84 : decode cX9_init 84 = .ok (.putfield 13, 3) := by decide +kernel
theorem dX9_init_87 : decode cX9_init 87 = .ok (.aload_n 0, 1) := by decide +kernel
theorem dX9_init_88 : decode cX9_init 88 = .ok (.bipush 33, 2) := by decide +kernel
theorem dX9_init_90 : decode cX9_init 90 = .ok (.newarray .int, 2) := by decide +kernel
theorem dX9_init_92 : decode cX9_init 92 = .ok (.putfield 16, 3) := by decide +kernel
theorem dX9_init_95 : decode cX9_init 95 = .ok (.aload_n 0, 1) := by decide +kernel
theorem dX9_init_96 : decode cX9_init 96 = .ok (.sipush 24252, 3) := by decide +kernel
theorem dX9_init_99 : decode cX9_init 99 = .ok (.newarray .int, 2) := by decide +kernel
theorem dX9_init_101 : decode cX9_init 101 = .ok (.putfield 19, 3) := by decide +kernel
theorem dX9_init_104 : decode cX9_init 104 = .ok (.aload_n 0, 1) := by decide +kernel
theorem dX9_init_105 : decode cX9_init 105 = .ok (.bipush 100, 2) := by decide +kernel
theorem dX9_init_107 : decode cX9_init 107 = .ok (.newarray .int, 2) := by decide +kernel
theorem dX9_init_109 : decode cX9_init 109 = .ok (.putfield 22, 3) := by decide +kernel
theorem dX9_init_112 : decode cX9_init 112 = .ok (.aload_n 0, 1) := by decide +kernel
theorem dX9_init_113 : decode cX9_init 113 = .ok (.iconst (-1), 1) := by decide +kernel
theorem dX9_init_114 : decode cX9_init 114 = .ok (.putfield 25, 3) := by decide +kernel
theorem dX9_init_117 : decode cX9_init 117 = .ok (.aload_n 0, 1) := by decide +kernel
theorem dX9_init_118 : decode cX9_init 118 = .ok (.bipush 48, 2) := by decide +kernel
theorem dX9_init_120 : decode cX9_init 120 = .ok (.newarray .int, 2) := by decide +kernel
theorem dX9_init_122 : decode cX9_init 122 = .ok (.putfield 29, 3) := by decide +kernel
theorem dX9_init_125 : decode cX9_init 125 = .ok (.aload_n 0, 1) := by decide +kernel
theorem dX9_init_126 : decode cX9_init 126 = .ok (.bipush 8, 2) := by decide +kernel
theorem dX9_init_128 : decode cX9_init 128 = .ok (.newarray .int, 2) := by decide +kernel
theorem dX9_init_130 : decode cX9_init 130 = .ok (.putfield 32, 3) := by decide +kernel
theorem dX9_init_133 : decode cX9_init 133 = .ok (.aload_n 0, 1) := by decide +kernel
theorem dX9_init_134 : decode cX9_init 134 = .ok (.bipush 8, 2) := by decide +kernel
theorem dX9_init_136 : decode cX9_init 136 = .ok (.newarray .int, 2) := by decide +kernel
theorem dX9_init_138 : decode cX9_init 138 = .ok (.putfield 35, 3) := by decide +kernel
theorem dX9_init_141 : decode cX9_init 141 = .ok (.aload_n 0, 1) := by decide +kernel
theorem dX9_init_142 : decode cX9_init 142 = .ok (.bipush 18, 2) := by decide +kernel
theorem dX9_init_144 : decode cX9_init 144 = .ok (.newarray .int, 2) := by decide +kernel
theorem dX9_init_146 : decode cX9_init 146 = .ok (.putfield 38, 3) := by decide +kernel
theorem dX9_init_149 : decode cX9_init 149 = .ok (.aload_n 0, 1) := by decide +kernel
theorem dX9_init_150 : decode cX9_init 150 = .ok (.bipush 18, 2) := by decide +kernel
theorem dX9_init_152 : decode cX9_init 152 = .ok (.newarray .int, 2) := by decide +kernel
theorem dX9_init_154 : decode cX9_init 154 = .ok (.putfield 41, 3) := by decide +kernel
theorem dX9_init_157 : decode cX9_init 157 = .ok (.aload_n 0, 1) := by decide +kernel
theorem dX9_init_158 : decode cX9_init 158 = .ok (.bipush 18, 2) := by decide +kernel
theorem dX9_init_160 : decode cX9_init 160 = .ok (.newarray .int, 2) := by decide +kernel
theorem dX9_init_162 : decode cX9_init 162 = .ok (.putfield 44, 3) := by decide +kernel
theorem dX9_init_165 : decode cX9_init 165 = .ok (.aload_n 0, 1) := by decide +kernel
theorem dX9_init_166 : decode cX9_init 166 = .ok (.bipush 20, 2) := by decide +kernel
theorem dX9_init_168 : decode cX9_init 168 = .ok (.newarray .char, 2) := by decide +kernel
theorem dX9_init_170 : decode cX9_init 170 = .ok (.putfield 47, 3) := by decide +kernel
theorem dX9_init_173 : decode cX9_init 173 = .ok (.aload_n 0, 1) := by decide +kernel
theorem dX9_init_174 : decode cX9_init 174 = .ok (.sipush 1572, 3) := by decide +kernel
theorem dX9_init_177 : decode cX9_init 177 = .ok (.newarray .int, 2) := by decide +kernel
theorem dX9_init_179 : decode cX9_init 179 = .ok (.putfield 51, 3) := by decide +kernel
theorem dX9_init_182 : decode cX9_init 182 = .ok (.aload_n 0, 1) := by decide +kernel
theorem dX9_init_183 : decode cX9_init 183 = .ok (.sipush 262, 3) := by decide +kernel
theorem dX9_init_186 : decode cX9_init 186 = .ok (.newarray .int, 2) := by decide +kernel
theorem dX9_init_188 : decode cX9_init 188 = .ok (.putfield 54, 3) := by decide +kernel
theorem dX9_init_191 : decode cX9_init 191 = .ok (.aload_n 0, 1) := by decide +kernel
theorem dX9_init_192 : decode cX9_init 192 = .ok (.invokevirtual 57, 3) := by decide +kernel
theorem dX9_init_195 : decode cX9_init 195 = .ok (.aload_n 0, 1) := by decide +kernel
theorem dX9_init_196 : decode cX9_init 196 = .ok (.getfield 16, 3) := by decide +kernel
theorem dX9_init_199 : decode cX9_init 199 = .ok (.iconst 0, 1) := by decide +kernel
theorem dX9_init_200 : decode cX9_init 200 = .ok (.bipush 12, 2) := by decide +kernel
theorem dX9_init_202 : decode cX9_init 202 = .ok (.iastore, 1) := by decide +kernel
theorem dX9_init_203 : decode cX9_init 203 = .ok (.iconst 0, 1) := by decide +kernel
theorem dX9_init_204 : decode cX9_init 204 = .ok (.istore_n 1, 1) := by decide +kernel
theorem dX9_init_205 : decode cX9_init 205 = .ok (.iload_n 1, 1) := by decide +kernel
theorem dX9_init_206 : decode cX9_init 206 = .ok (.bipush 12, 2) := by decide +kernel
theorem dX9_init_208 : decode cX9_init 208 = .ok (.if_icmp .ge 23, 3) := by decide +kernel
theorem dX9_init_211 : decode cX9_init 211 = .ok (.aload_n 0, 1) := by decide +kernel
theorem dX9_init_212 : decode cX9_init 212 = .ok (.getfield 16, 3) := by decide +kernel
theorem dX9_init_215 : decode cX9_init 215 = .ok (.iconst 1, 1) := by decide +kernel
theorem dX9_init_216 : decode cX9_init 216 = .ok (.iload_n 1, 1) := by decide +kernel
theorem dX9_init_217 : decode cX9_init 217 = .ok (.iadd, 1) := by decide +kernel
theorem dX9_init_218 : decode cX9_init 218 = .ok (.aload_n 0, 1) := by decide +kernel
theorem dX9_init_219 : decode cX9_init 219 = .ok (.getfield 7, 3) := by decide +kernel
theorem dX9_init_222 : decode cX9_init 222 = .ok (.iload_n 1, 1) := by decide +kernel
theorem dX9_init_223 : decode cX9_init 223 = .ok (.iaload, 1) := by decide +kernel
theorem dX9_init_224 : decode cX9_init 224 = .ok (.iastore, 1) := by decide +kernel
theorem dX9_init_225 : decode cX9_init 225 = .ok (.iinc 1 1, 3) := by decide +kernel
theorem dX9_init_228 : decode cX9_init 228 = .ok (.goto (-23), 3) := by decide +kernel
theorem dX9_init_231 : decode cX9_init 231 = .ok (.aload_n 0, 1) := by decide +kernel
theorem dX9_init_232 : decode cX9_init 232 = .ok (.getfield 16, 3) := by decide +kernel
theorem dX9_init_235 : decode cX9_init 235 = .ok (.bipush 16, 2) := by decide +kernel
theorem dX9_init_237 : decode cX9_init 237 = .ok (.iconst 1, 1) := by decide +kernel
theorem dX9_init_238 : decode cX9_init 238 = .ok (.iastore, 1) := by decide +kernel
theorem dX9_init_239 : decode cX9_init 239 = .ok (.aload_n 0, 1) := by decide +kernel
theorem dX9_init_240 : decode cX9_init 240 = .ok (.getfield 16, 3) := by decide +kernel
theorem dX9_init_243 : decode cX9_init 243 = .ok (.bipush 17, 2) := by decide +kernel
theorem dX9_init_245 : decode cX9_init 245 = .ok (.iconst 2, 1) := by decide +kernel
theorem dX9_init_246 : decode cX9_init 246 = .ok (.iastore, 1) := by decide +kernel
theorem dX9_init_247 : decode cX9_init 247 = .ok (.aload_n 0, 1) := by decide +kernel
theorem dX9_init_248 : decode cX9_init 248 = .ok (.getfield 16, 3) := by decide +kernel
theorem dX9_init_251 : decode cX9_init 251 = .ok (.bipush 19, 2) := by decide +kernel
theorem dX9_init_253 : decode cX9_init 253 = .ok (.iconst 1, 1) := by decide +kernel
theorem dX9_init_254 : decode cX9_init 254 = .ok (.iastore, 1) := by decide +kernel
theorem dX9_init_255 : decode cX9_init 255 = .ok (.aload_n 0, 1) := by decide +kernel
theorem dX9_init_256 : decode cX9_init 256 = .ok (.getfield 16, 3) := by decide +kernel
theorem dX9_init_259 : decode cX9_init 259 = .ok (.bipush 20, 2) := by decide +kernel
theorem dX9_init_261 : decode cX9_init 261 = .ok (.iconst 4, 1) := by decide +kernel
theorem dX9_init_262 : decode cX9_init 262 = .ok (.iastore, 1) := by decide +kernel
theorem dX9_init_263 : decode cX9_init 263 = .ok (.aload_n 0, 1) := by decide +kernel
theorem dX9_init_264 : decode cX9_init 264 = .ok (.getfield 16, 3) := by decide +kernel
theorem dX9_init_267 : decode cX9_init 267 = .ok (.bipush 21, 2) := by decide +kernel
theorem dX9_init_269 : decode cX9_init 269 = .ok (.bipush 100, 2) := by decide +kernel
theorem dX9_init_271 : decode cX9_init 271 = .ok (.iastore, 1) := by decide +kernel
theorem dX9_init_272 : decode cX9_init 272 = .ok (.aload_n 0, 1) := by decide +kernel
theorem dX9_init_273 : decode cX9_init 273 = .ok (.getfield 16, 3) := by decide +kernel
theorem dX9_init_276 : decode cX9_init 276 = .ok (.bipush 22, 2) := by decide +kernel
theorem dX9_init_278 : decode cX9_init 278 = .ok (.sipush 400, 3) := by decide +kernel
theorem dX9_init_281 : decode cX9_init 281 = .ok (.iastore, 1) := by decide +kernel
theorem dX9_init_282 : decode cX9_init 282 = .ok (.aload_n 0, 1) := by decide +kernel
theorem dX9_init_283 : decode cX9_init 283 = .ok (.getfield 16, 3) := by decide +kernel
theorem dX9_init_286 : decode cX9_init 286 = .ok (.bipush 24, 2) := by decide +kernel
theorem dX9_init_288 : decode cX9_init 288 = .ok (.iconst 1, 1) := by decide +kernel
theorem dX9_init_289 : decode cX9_init 289 = .ok (.iastore, 1) := by decide +kernel
theorem dX9_init_290 : decode cX9_init 290 = .ok (.aload_n 0, 1) := by decide +kernel
theorem dX9_init_291 : decode cX9_init 291 = .ok (.getfield 16, 3) := by decide +kernel
theorem dX9_init_294 : decode cX9_init 294 = .ok (.bipush 25, 2) := by decide +kernel
theorem dX9_init_296 : decode cX9_init 296 = .ok (.iconst (-1), 1) := by decide +kernel
theorem dX9_init_297 : decode cX9_init 297 = .ok (.iastore, 1) := by decide +kernel
theorem dX9_init_298 : decode cX9_init 298 = .ok (.aload_n 0, 1) := by decide +kernel
theorem dX9_init_299 : decode cX9_init 299 = .ok (.getfield 16, 3) := by decide +kernel
theorem dX9_init_302 : decode cX9_init 302 = .ok (.bipush 26, 2) := by decide +kernel
theorem dX9_init_304 : decode cX9_init 304 = .ok (.iconst 1, 1) := by decide +kernel
theorem dX9_init_305 : decode cX9_init 305 = .ok (.iastore, 1) := by decide +kernel
theorem dX9_init_306 : decode cX9_init 306 = .ok (.aload_n 0, 1) := by decide +kernel
theorem dX9_init_307 : decode cX9_init 307 = .ok (.iconst 0, 1) := by decide +kernel
theorem dX9_init_308 : decode cX9_init 308 = .ok (.invokevirtual 60, 3) := by decide +kernel
theorem dX9_init_311 : decode cX9_init 311 = .ok (.aload_n 0, 1) := by decide +kernel
theorem dX9_init_312 : decode cX9_init 312 = .ok (.iconst 1, 1) := by decide +kernel
theorem dX9_init_313 : decode cX9_init 313 = .ok (.putfield 64, 3) := by decide +kernel
theorem dX9_init_316 : decode cX9_init 316 = .ok (.return_, 1) := by decide +kernel
theorem dX9_thrown_0 : decode cX9_thrown 0 = .ok (.aload_n 0, 1) := by decide +kernel
theorem dX9_thrown_1 : decode cX9_thrown 1 = .ok (.getfield 67, 3) := by decide +kernel
theorem dX9_thrown_4 : decode cX9_thrown 4 = .ok (.ireturn, 1) := by decide +kernel
theorem dX9_fails_0 : decode cX9_fails 0 = .ok (.aload_n 0, 1) := by decide +kernel
theorem dX9_fails_1 : decode cX9_fails 1 = .ok (.iload_n 1, 1) := by decide +kernel
theorem dX9_fails_2 : decode cX9_fails 2 = .ok (.putfield 67, 3) := by decide +kernel
theorem dX9_fails_5 : decode cX9_fails 5 = .ok (.iconst 0, 1) := by decide +kernel
theorem dX9_fails_6 : decode cX9_fails 6 = .ok (.ireturn, 1) := by decide +kernel
theorem dX9_isBetween_0 : decode cX9_isBetween 0 = .ok (.iload_n 0, 1) := by decide +kernel
theorem dX9_isBetween_1 : decode cX9_isBetween 1 = .ok (.iload_n 1, 1) := by decide +kernel
theorem dX9_isBetween_2 : decode cX9_isBetween 2 = .ok (.if_icmp .lt 12, 3) := by decide +kernel
theorem dX9_isBetween_5 : decode cX9_isBetween 5 = .ok (.iload_n 0, 1) := by decide +kernel
theorem dX9_isBetween_6 : decode cX9_isBetween 6 = .ok (.iload_n 2, 1) := by decide +kernel
theorem dX9_isBetween_7 : decode cX9_isBetween 7 = .ok (.if_icmp .gt 7, 3) := by decide +kernel
theorem dX9_isBetween_10 : decode cX9_isBetween 10 = .ok (.iconst 1, 1) := by decide +kernel
theorem dX9_isBetween_11 : decode cX9_isBetween 11 = .ok (.goto 4, 3) := by decide +kernel
theorem dX9_isBetween_14 : decode cX9_isBetween 14 = .ok (.iconst 0, 1) := by decide +kernel
theorem dX9_isBetween_15 : decode cX9_isBetween 15 = .ok (.ireturn, 1) := by decide +kernel
set_option maxRecDepth 20000 in
theorem dX9_isYear_0 : decode cX9_isYear 0 = .ok (.iload_n 0, 1) := by decide +kernel
theorem dX9_isYear_1 : decode cX9_isYear 1 = .ok (.sipush (-2000), 3) := by decide +kernel
theorem dX9_isYear_4 : decode cX9_isYear 4 = .ok (.sipush 2000, 3) := by decide +kernel
theorem dX9_isYear_7 : decode cX9_isYear 7 = .ok (.invokestatic 70, 3) := by decide +kernel
theorem dX9_isYear_10 : decode cX9_isYear 10 = .ok (.ireturn, 1) := by decide +kernel
set_option maxRecDepth 20000 in
theorem dX9_isDay_0 : decode cX9_isDay 0 = .ok (.iload_n 0, 1) := by decide +kernel
theorem dX9_isDay_1 : decode cX9_isDay 1 = .ok (.ldc 74, 2) := by decide +kernel
theorem dX9_isDay_3 : decode cX9_isDay 3 = .ok (.ldc 75, 2) := by decide +kernel
theorem dX9_isDay_5 : decode cX9_isDay 5 = .ok (.invokestatic 70, 3) := by decide +kernel
theorem dX9_isDay_8 : decode cX9_isDay 8 = .ok (.ireturn, 1) := by decide +kernel
theorem dX9_of_0 : decode cX9_of 0 = .ok (.aload_n 0, 1) := by decide +kernel
theorem dX9_of_1 : decode cX9_of 1 = .ok (.getfield 13, 3) := by decide +kernel
theorem dX9_of_4 : decode cX9_of 4 = .ok (.bipush 33, 2) := by decide +kernel
theorem dX9_of_6 : decode cX9_of 6 = .ok (.iload_n 1, 1) := by decide +kernel
theorem dX9_of_7 : decode cX9_of 7 = .ok (.imul, 1) := by decide +kernel
theorem dX9_of_8 : decode cX9_of 8 = .ok (.iload_n 2, 1) := by decide +kernel
theorem dX9_of_9 : decode cX9_of 9 = .ok (.iadd, 1) := by decide +kernel
theorem dX9_of_10 : decode cX9_of 10 = .ok (.iaload, 1) := by decide +kernel
theorem dX9_of_11 : decode cX9_of 11 = .ok (.ireturn, 1) := by decide +kernel
theorem dX9_isCalendar_0 : decode cX9_isCalendar 0 = .ok (.iload_n 1, 1) := by decide +kernel
theorem dX9_isCalendar_1 : decode cX9_isCalendar 1 = .ok (.ifCond .lt 15, 3) := by decide +kernel
theorem dX9_isCalendar_4 : decode cX9_isCalendar 4 = .ok (.iload_n 1, 1) := by decide +kernel
theorem dX9_isCalendar_5 : decode cX9_isCalendar 5 = .ok (.aload_n 0, 1) := by decide +kernel
theorem dX9_isCalendar_6 : decode cX9_isCalendar 6 = .ok (.getfield 64, 3) := by decide +kernel
theorem dX9_isCalendar_9 : decode cX9_isCalendar 9 = .ok (.if_icmp .ge 7, 3) := by decide +kernel
theorem dX9_isCalendar_12 : decode cX9_isCalendar 12 = .ok (.iconst 1, 1) := by decide +kernel
theorem dX9_isCalendar_13 : decode cX9_isCalendar 13 = .ok (.goto 4, 3) := by decide +kernel
theorem dX9_isCalendar_16 : decode cX9_isCalendar 16 = .ok (.iconst 0, 1) := by decide +kernel
theorem dX9_isCalendar_17 : decode cX9_isCalendar 17 = .ok (.ireturn, 1) := by decide +kernel
theorem dX9_divisor_0 : decode cX9_divisor 0 = .ok (.iload_n 0, 1) := by decide +kernel
theorem dX9_divisor_1 : decode cX9_divisor 1 = .ok (.istore_n 2, 1) := by decide +kernel
theorem dX9_divisor_2 : decode cX9_divisor 2 = .ok (.iload_n 1, 1) := by decide +kernel
theorem dX9_divisor_3 : decode cX9_divisor 3 = .ok (.istore_n 3, 1) := by decide +kernel
theorem dX9_divisor_4 : decode cX9_divisor 4 = .ok (.iload_n 3, 1) := by decide +kernel
theorem dX9_divisor_5 : decode cX9_divisor 5 = .ok (.ifCond .eq 16, 3) := by decide +kernel
theorem dX9_divisor_8 : decode cX9_divisor 8 = .ok (.iload_n 2, 1) := by decide +kernel
theorem dX9_divisor_9 : decode cX9_divisor 9 = .ok (.iload_n 3, 1) := by decide +kernel
theorem dX9_divisor_10 : decode cX9_divisor 10 = .ok (.irem, 1) := by decide +kernel
theorem dX9_divisor_11 : decode cX9_divisor 11 = .ok (.istore 4, 2) := by decide +kernel
theorem dX9_divisor_13 : decode cX9_divisor 13 = .ok (.iload_n 3, 1) := by decide +kernel
theorem dX9_divisor_14 : decode cX9_divisor 14 = .ok (.istore_n 2, 1) := by decide +kernel
theorem dX9_divisor_15 : decode cX9_divisor 15 = .ok (.iload 4, 2) := by decide +kernel
theorem dX9_divisor_17 : decode cX9_divisor 17 = .ok (.istore_n 3, 1) := by decide +kernel
theorem dX9_divisor_18 : decode cX9_divisor 18 = .ok (.goto (-14), 3) := by decide +kernel
theorem dX9_divisor_21 : decode cX9_divisor 21 = .ok (.iload_n 2, 1) := by decide +kernel
theorem dX9_divisor_22 : decode cX9_divisor 22 = .ok (.ireturn, 1) := by decide +kernel
set_option maxRecDepth 20000 in
theorem dX9_repeats_0 : decode cX9_repeats 0 = .ok (.aload_n 0, 1) := by decide +kernel
theorem dX9_repeats_1 : decode cX9_repeats 1 = .ok (.iload_n 1, 1) := by decide +kernel
theorem dX9_repeats_2 : decode cX9_repeats 2 = .ok (.bipush 19, 2) := by decide +kernel
theorem dX9_repeats_4 : decode cX9_repeats 4 = .ok (.iadd, 1) := by decide +kernel
theorem dX9_repeats_5 : decode cX9_repeats 5 = .ok (.iaload, 1) := by decide +kernel
theorem dX9_repeats_6 : decode cX9_repeats 6 = .ok (.iconst 2, 1) := by decide +kernel
theorem dX9_repeats_7 : decode cX9_repeats 7 = .ok (.if_icmp .ne 10, 3) := by decide +kernel
theorem dX9_repeats_10 : decode cX9_repeats 10 = .ok (.aload_n 0, 1) := by decide +kernel
theorem dX9_repeats_11 : decode cX9_repeats 11 = .ok (.iload_n 1, 1) := by decide +kernel
theorem dX9_repeats_12 : decode cX9_repeats 12 = .ok (.bipush 28, 2) := by decide +kernel
theorem dX9_repeats_14 : decode cX9_repeats 14 = .ok (.iadd, 1) := by decide +kernel
theorem dX9_repeats_15 : decode cX9_repeats 15 = .ok (.iaload, 1) := by decide +kernel
theorem dX9_repeats_16 : decode cX9_repeats 16 = .ok (.ireturn, 1) := by decide +kernel
theorem dX9_repeats_17 : decode cX9_repeats 17 = .ok (.iconst 1, 1) := by decide +kernel
theorem dX9_repeats_18 : decode cX9_repeats 18 = .ok (.istore_n 2, 1) := by decide +kernel
theorem dX9_repeats_19 : decode cX9_repeats 19 = .ok (.iconst 0, 1) := by decide +kernel
theorem dX9_repeats_20 : decode cX9_repeats 20 = .ok (.istore_n 3, 1) := by decide +kernel
theorem dX9_repeats_21 : decode cX9_repeats 21 = .ok (.iload_n 3, 1) := by decide +kernel
theorem dX9_repeats_22 : decode cX9_repeats 22 = .ok (.iconst 4, 1) := by decide +kernel
theorem dX9_repeats_23 : decode cX9_repeats 23 = .ok (.if_icmp .ge 61, 3) := by decide +kernel
theorem dX9_repeats_26 : decode cX9_repeats 26 = .ok (.aload_n 0, 1) := by decide +kernel
theorem dX9_repeats_27 : decode cX9_repeats 27 = .ok (.iload_n 1, 1) := by decide +kernel
theorem dX9_repeats_28 : decode cX9_repeats 28 = .ok (.bipush 19, 2) := by decide +kernel
theorem dX9_repeats_30 : decode cX9_repeats 30 = .ok (.iadd, 1) := by decide +kernel
theorem dX9_repeats_31 : decode cX9_repeats 31 = .ok (.iaload, 1) := by decide +kernel
theorem dX9_repeats_32 : decode cX9_repeats 32 = .ok (.iconst 1, 1) := by decide +kernel
theorem dX9_repeats_33 : decode cX9_repeats 33 = .ok (.if_icmp .ne 51, 3) := by decide +kernel
theorem dX9_repeats_36 : decode cX9_repeats 36 = .ok (.aload_n 0, 1) := by decide +kernel
theorem dX9_repeats_37 : decode cX9_repeats 37 = .ok (.iload_n 1, 1) := by decide +kernel
theorem dX9_repeats_38 : decode cX9_repeats 38 = .ok (.bipush 20, 2) := by decide +kernel
theorem dX9_repeats_40 : decode cX9_repeats 40 = .ok (.iadd, 1) := by decide +kernel
theorem dX9_repeats_41 : decode cX9_repeats 41 = .ok (.iload_n 3, 1) := by decide +kernel
theorem dX9_repeats_42 : decode cX9_repeats 42 = .ok (.iadd, 1) := by decide +kernel
theorem dX9_repeats_43 : decode cX9_repeats 43 = .ok (.iaload, 1) := by decide +kernel
theorem dX9_repeats_44 : decode cX9_repeats 44 = .ok (.istore 4, 2) := by decide +kernel
theorem dX9_repeats_46 : decode cX9_repeats 46 = .ok (.aload_n 0, 1) := by decide +kernel
theorem dX9_repeats_47 : decode cX9_repeats 47 = .ok (.iload_n 1, 1) := by decide +kernel
theorem dX9_repeats_48 : decode cX9_repeats 48 = .ok (.bipush 24, 2) := by decide +kernel
theorem dX9_repeats_50 : decode cX9_repeats 50 = .ok (.iadd, 1) := by decide +kernel
theorem dX9_repeats_51 : decode cX9_repeats 51 = .ok (.iload_n 3, 1) := by decide +kernel
theorem dX9_repeats_52 : decode cX9_repeats 52 = .ok (.iadd, 1) := by decide +kernel
theorem dX9_repeats_53 : decode cX9_repeats 53 = .ok (.iaload, 1) := by decide +kernel
theorem dX9_repeats_54 : decode cX9_repeats 54 = .ok (.ifCond .eq 15, 3) := by decide +kernel
theorem dX9_repeats_57 : decode cX9_repeats 57 = .ok (.iload_n 2, 1) := by decide +kernel
theorem dX9_repeats_58 : decode cX9_repeats 58 = .ok (.iload_n 2, 1) := by decide +kernel
theorem dX9_repeats_59 : decode cX9_repeats 59 = .ok (.iload 4, 2) := by decide +kernel
theorem dX9_repeats_61 : decode cX9_repeats 61 = .ok (.invokestatic 76, 3) := by decide +kernel
theorem dX9_repeats_64 : decode cX9_repeats 64 = .ok (.idiv, 1) := by decide +kernel
theorem dX9_repeats_65 : decode cX9_repeats 65 = .ok (.iload 4, 2) := by decide +kernel
theorem dX9_repeats_67 : decode cX9_repeats 67 = .ok (.imul, 1) := by decide +kernel
theorem dX9_repeats_68 : decode cX9_repeats 68 = .ok (.istore_n 2, 1) := by decide +kernel
theorem dX9_repeats_69 : decode cX9_repeats 69 = .ok (.iload_n 2, 1) := by decide +kernel
theorem dX9_repeats_70 : decode cX9_repeats 70 = .ok (.sipush 1000, 3) := by decide +kernel
theorem dX9_repeats_73 : decode cX9_repeats 73 = .ok (.if_icmp .le 5, 3) := by decide +kernel
theorem dX9_repeats_76 : decode cX9_repeats 76 = .ok (.iconst 0, 1) := by decide +kernel
theorem dX9_repeats_77 : decode cX9_repeats 77 = .ok (.ireturn, 1) := by decide +kernel
theorem dX9_repeats_78 : decode cX9_repeats 78 = .ok (.iinc 3 1, 3) := by decide +kernel
theorem dX9_repeats_81 : decode cX9_repeats 81 = .ok (.goto (-60), 3) := by decide +kernel
theorem dX9_repeats_84 : decode cX9_repeats 84 = .ok (.iload_n 2, 1) := by decide +kernel
theorem dX9_repeats_85 : decode cX9_repeats 85 = .ok (.ireturn, 1) := by decide +kernel
set_option maxRecDepth 20000 in
theorem dX9_isLeap_0 : decode cX9_isLeap 0 = .ok (.aload_n 0, 1) := by decide +kernel
theorem dX9_isLeap_1 : decode cX9_isLeap 1 = .ok (.iload_n 1, 1) := by decide +kernel
theorem dX9_isLeap_2 : decode cX9_isLeap 2 = .ok (.bipush 19, 2) := by decide +kernel
theorem dX9_isLeap_4 : decode cX9_isLeap 4 = .ok (.invokevirtual 80, 3) := by decide +kernel
theorem dX9_isLeap_7 : decode cX9_isLeap 7 = .ok (.iconst 2, 1) := by decide +kernel
theorem dX9_isLeap_8 : decode cX9_isLeap 8 = .ok (.if_icmp .ne 34, 3) := by decide +kernel
theorem dX9_isLeap_11 : decode cX9_isLeap 11 = .ok (.aload_n 0, 1) := by decide +kernel
theorem dX9_isLeap_12 : decode cX9_isLeap 12 = .ok (.iload_n 1, 1) := by decide +kernel
theorem dX9_isLeap_13 : decode cX9_isLeap 13 = .ok (.bipush 29, 2) := by decide +kernel
theorem dX9_isLeap_15 : decode cX9_isLeap 15 = .ok (.invokevirtual 80, 3) := by decide +kernel
theorem dX9_isLeap_18 : decode cX9_isLeap 18 = .ok (.iload_n 2, 1) := by decide +kernel
theorem dX9_isLeap_19 : decode cX9_isLeap 19 = .ok (.aload_n 0, 1) := by decide +kernel
theorem dX9_isLeap_20 : decode cX9_isLeap 20 = .ok (.iload_n 1, 1) := by decide +kernel
theorem dX9_isLeap_21 : decode cX9_isLeap 21 = .ok (.bipush 28, 2) := by decide +kernel
theorem dX9_isLeap_23 : decode cX9_isLeap 23 = .ok (.invokevirtual 80, 3) := by decide +kernel
theorem dX9_isLeap_26 : decode cX9_isLeap 26 = .ok (.invokestatic 83, 3) := by decide +kernel
theorem dX9_isLeap_29 : decode cX9_isLeap 29 = .ok (.ishr, 1) := by decide +kernel
theorem dX9_isLeap_30 : decode cX9_isLeap 30 = .ok (.iconst 1, 1) := by decide +kernel
theorem dX9_isLeap_31 : decode cX9_isLeap 31 = .ok (.iand, 1) := by decide +kernel
theorem dX9_isLeap_32 : decode cX9_isLeap 32 = .ok (.iconst 1, 1) := by decide +kernel
theorem dX9_isLeap_33 : decode cX9_isLeap 33 = .ok (.if_icmp .ne 7, 3) := by decide +kernel
theorem dX9_isLeap_36 : decode cX9_isLeap 36 = .ok (.iconst 1, 1) := by decide +kernel
theorem dX9_isLeap_37 : decode cX9_isLeap 37 = .ok (.goto 4, 3) := by decide +kernel
theorem dX9_isLeap_40 : decode cX9_isLeap 40 = .ok (.iconst 0, 1) := by decide +kernel
theorem dX9_isLeap_41 : decode cX9_isLeap 41 = .ok (.ireturn, 1) := by decide +kernel
theorem dX9_isLeap_42 : decode cX9_isLeap 42 = .ok (.iconst (-1), 1) := by decide +kernel
theorem dX9_isLeap_43 : decode cX9_isLeap 43 = .ok (.istore_n 3, 1) := by decide +kernel
theorem dX9_isLeap_44 : decode cX9_isLeap 44 = .ok (.iconst 0, 1) := by decide +kernel
theorem dX9_isLeap_45 : decode cX9_isLeap 45 = .ok (.istore 4, 2) := by decide +kernel
theorem dX9_isLeap_47 : decode cX9_isLeap 47 = .ok (.iload 4, 2) := by decide +kernel
theorem dX9_isLeap_49 : decode cX9_isLeap 49 = .ok (.iconst 4, 1) := by decide +kernel
theorem dX9_isLeap_50 : decode cX9_isLeap 50 = .ok (.if_icmp .ge 50, 3) := by decide +kernel
theorem dX9_isLeap_53 : decode cX9_isLeap 53 = .ok (.aload_n 0, 1) := by decide +kernel
theorem dX9_isLeap_54 : decode cX9_isLeap 54 = .ok (.iload_n 1, 1) := by decide +kernel
theorem dX9_isLeap_55 : decode cX9_isLeap 55 = .ok (.bipush 24, 2) := by decide +kernel
theorem dX9_isLeap_57 : decode cX9_isLeap 57 = .ok (.iload 4, 2) := by decide +kernel
theorem dX9_isLeap_59 : decode cX9_isLeap 59 = .ok (.iadd, 1) := by decide +kernel
theorem dX9_isLeap_60 : decode cX9_isLeap 60 = .ok (.invokevirtual 80, 3) := by decide +kernel
theorem dX9_isLeap_63 : decode cX9_isLeap 63 = .ok (.ifCond .eq 31, 3) := by decide +kernel
theorem dX9_isLeap_66 : decode cX9_isLeap 66 = .ok (.iload_n 2, 1) := by decide +kernel
theorem dX9_isLeap_67 : decode cX9_isLeap 67 = .ok (.aload_n 0, 1) := by decide +kernel
theorem dX9_isLeap_68 : decode cX9_isLeap 68 = .ok (.iload_n 1, 1) := by decide +kernel
theorem dX9_isLeap_69 : decode cX9_isLeap 69 = .ok (.bipush 20, 2) := by decide +kernel
theorem dX9_isLeap_71 : decode cX9_isLeap 71 = .ok (.iload 4, 2) := by decide +kernel
theorem dX9_isLeap_73 : decode cX9_isLeap 73 = .ok (.iadd, 1) := by decide +kernel
theorem dX9_isLeap_74 : decode cX9_isLeap 74 = .ok (.invokevirtual 80, 3) := by decide +kernel
theorem dX9_isLeap_77 : decode cX9_isLeap 77 = .ok (.invokestatic 83, 3) := by decide +kernel
theorem dX9_isLeap_80 : decode cX9_isLeap 80 = .ok (.ifCond .ne 14, 3) := by decide +kernel
theorem dX9_isLeap_83 : decode cX9_isLeap 83 = .ok (.aload_n 0, 1) := by decide +kernel
theorem dX9_isLeap_84 : decode cX9_isLeap 84 = .ok (.iload_n 1, 1) := by decide +kernel
theorem dX9_isLeap_85 : decode cX9_isLeap 85 = .ok (.bipush 24, 2) := by decide +kernel
theorem dX9_isLeap_87 : decode cX9_isLeap 87 = .ok (.iload 4, 2) := by decide +kernel
theorem dX9_isLeap_89 : decode cX9_isLeap 89 = .ok (.iadd, 1) := by decide +kernel
theorem dX9_isLeap_90 : decode cX9_isLeap 90 = .ok (.invokevirtual 80, 3) := by decide +kernel
theorem dX9_isLeap_93 : decode cX9_isLeap 93 = .ok (.istore_n 3, 1) := by decide +kernel
theorem dX9_isLeap_94 : decode cX9_isLeap 94 = .ok (.iinc 4 1, 3) := by decide +kernel
theorem dX9_isLeap_97 : decode cX9_isLeap 97 = .ok (.goto (-50), 3) := by decide +kernel
theorem dX9_isLeap_100 : decode cX9_isLeap 100 = .ok (.aload_n 0, 1) := by decide +kernel
theorem dX9_isLeap_101 : decode cX9_isLeap 101 = .ok (.iload_n 1, 1) := by decide +kernel
theorem dX9_isLeap_102 : decode cX9_isLeap 102 = .ok (.bipush 19, 2) := by decide +kernel
theorem dX9_isLeap_104 : decode cX9_isLeap 104 = .ok (.invokevirtual 80, 3) := by decide +kernel
theorem dX9_isLeap_107 : decode cX9_isLeap 107 = .ok (.iconst 1, 1) := by decide +kernel
theorem dX9_isLeap_108 : decode cX9_isLeap 108 = .ok (.if_icmp .ne 11, 3) := by decide +kernel
theorem dX9_isLeap_111 : decode cX9_isLeap 111 = .ok (.iload_n 3, 1) := by decide +kernel
theorem dX9_isLeap_112 : decode cX9_isLeap 112 = .ok (.ifCond .le 7, 3) := by decide +kernel
theorem dX9_isLeap_115 : decode cX9_isLeap 115 = .ok (.iconst 1, 1) := by decide +kernel
theorem dX9_isLeap_116 : decode cX9_isLeap 116 = .ok (.goto 4, 3) := by decide +kernel
theorem dX9_isLeap_119 : decode cX9_isLeap 119 = .ok (.iconst 0, 1) := by decide +kernel
theorem dX9_isLeap_120 : decode cX9_isLeap 120 = .ok (.ireturn, 1) := by decide +kernel
set_option maxRecDepth 20000 in
theorem dX9_lengthOf_0 : decode cX9_lengthOf 0 = .ok (.iconst 0, 1) := by decide +kernel
theorem dX9_lengthOf_1 : decode cX9_lengthOf 1 = .ok (.istore_n 3, 1) := by decide +kernel
theorem dX9_lengthOf_2 : decode cX9_lengthOf 2 = .ok (.iconst 0, 1) := by decide +kernel
theorem dX9_lengthOf_3 : decode cX9_lengthOf 3 = .ok (.istore 4, 2) := by decide +kernel
theorem dX9_lengthOf_5 : decode cX9_lengthOf 5 = .ok (.iload 4, 2) := by decide +kernel
theorem dX9_lengthOf_7 : decode cX9_lengthOf 7 = .ok (.aload_n 0, 1) := by decide +kernel
theorem dX9_lengthOf_8 : decode cX9_lengthOf 8 = .ok (.iload_n 1, 1) := by decide +kernel
theorem dX9_lengthOf_9 : decode cX9_lengthOf 9 = .ok (.iconst 0, 1) := by decide +kernel
theorem dX9_lengthOf_10 : decode cX9_lengthOf 10 = .ok (.invokevirtual 80, 3) := by decide +kernel
theorem dX9_lengthOf_13 : decode cX9_lengthOf 13 = .ok (.if_icmp .ge 21, 3) := by decide +kernel
theorem dX9_lengthOf_16 : decode cX9_lengthOf 16 = .ok (.iload_n 3, 1) := by decide +kernel
theorem dX9_lengthOf_17 : decode cX9_lengthOf 17 = .ok (.aload_n 0, 1) := by decide +kernel
theorem dX9_lengthOf_18 : decode cX9_lengthOf 18 = .ok (.iload_n 1, 1) := by decide +kernel
theorem dX9_lengthOf_19 : decode cX9_lengthOf 19 = .ok (.iconst 1, 1) := by decide +kernel
theorem dX9_lengthOf_20 : decode cX9_lengthOf 20 = .ok (.iload 4, 2) := by decide +kernel
theorem dX9_lengthOf_22 : decode cX9_lengthOf 22 = .ok (.iadd, 1) := by decide +kernel
theorem dX9_lengthOf_23 : decode cX9_lengthOf 23 = .ok (.invokevirtual 80, 3) := by decide +kernel
theorem dX9_lengthOf_26 : decode cX9_lengthOf 26 = .ok (.iadd, 1) := by decide +kernel
theorem dX9_lengthOf_27 : decode cX9_lengthOf 27 = .ok (.istore_n 3, 1) := by decide +kernel
theorem dX9_lengthOf_28 : decode cX9_lengthOf 28 = .ok (.iinc 4 1, 3) := by decide +kernel
theorem dX9_lengthOf_31 : decode cX9_lengthOf 31 = .ok (.goto (-26), 3) := by decide +kernel
theorem dX9_lengthOf_34 : decode cX9_lengthOf 34 = .ok (.aload_n 0, 1) := by decide +kernel
theorem dX9_lengthOf_35 : decode cX9_lengthOf 35 = .ok (.iload_n 1, 1) := by decide +kernel
theorem dX9_lengthOf_36 : decode cX9_lengthOf 36 = .ok (.bipush 16, 2) := by decide +kernel
theorem dX9_lengthOf_38 : decode cX9_lengthOf 38 = .ok (.invokevirtual 80, 3) := by decide +kernel
theorem dX9_lengthOf_41 : decode cX9_lengthOf 41 = .ok (.ifCond .eq 12, 3) := by decide +kernel
theorem dX9_lengthOf_44 : decode cX9_lengthOf 44 = .ok (.aload_n 0, 1) := by decide +kernel
theorem dX9_lengthOf_45 : decode cX9_lengthOf 45 = .ok (.iload_n 1, 1) := by decide +kernel
theorem dX9_lengthOf_46 : decode cX9_lengthOf 46 = .ok (.iload_n 2, 1) := by decide +kernel
theorem dX9_lengthOf_47 : decode cX9_lengthOf 47 = .ok (.invokevirtual 88, 3) := by decide +kernel
theorem dX9_lengthOf_50 : decode cX9_lengthOf 50 = .ok (.ifCond .ne 5, 3) := by decide +kernel
theorem dX9_lengthOf_53 : decode cX9_lengthOf 53 = .ok (.iload_n 3, 1) := by decide +kernel
theorem dX9_lengthOf_54 : decode cX9_lengthOf 54 = .ok (.ireturn, 1) := by decide +kernel
theorem dX9_lengthOf_55 : decode cX9_lengthOf 55 = .ok (.iload_n 3, 1) := by decide +kernel
theorem dX9_lengthOf_56 : decode cX9_lengthOf 56 = .ok (.aload_n 0, 1) := by decide +kernel
theorem dX9_lengthOf_57 : decode cX9_lengthOf 57 = .ok (.iload_n 1, 1) := by decide +kernel
theorem dX9_lengthOf_58 : decode cX9_lengthOf 58 = .ok (.bipush 16, 2) := by decide +kernel
theorem dX9_lengthOf_60 : decode cX9_lengthOf 60 = .ok (.invokevirtual 80, 3) := by decide +kernel
theorem dX9_lengthOf_63 : decode cX9_lengthOf 63 = .ok (.iconst 1, 1) := by decide +kernel
theorem dX9_lengthOf_64 : decode cX9_lengthOf 64 = .ok (.if_icmp .ne 7, 3) := by decide +kernel
theorem dX9_lengthOf_67 : decode cX9_lengthOf 67 = .ok (.iconst 1, 1) := by decide +kernel
theorem dX9_lengthOf_68 : decode cX9_lengthOf 68 = .ok (.goto 10, 3) := by decide +kernel
theorem dX9_lengthOf_71 : decode cX9_lengthOf 71 = .ok (.aload_n 0, 1) := by decide +kernel
theorem dX9_lengthOf_72 : decode cX9_lengthOf 72 = .ok (.iload_n 1, 1) := by decide +kernel
theorem dX9_lengthOf_73 : decode cX9_lengthOf 73 = .ok (.bipush 18, 2) := by decide +kernel
theorem dX9_lengthOf_75 : decode cX9_lengthOf 75 = .ok (.invokevirtual 80, 3) := by decide +kernel
theorem dX9_lengthOf_78 : decode cX9_lengthOf 78 = .ok (.iadd, 1) := by decide +kernel
theorem dX9_lengthOf_79 : decode cX9_lengthOf 79 = .ok (.ireturn, 1) := by decide +kernel
theorem dX9_first_0 : decode cX9_first 0 = .ok (.aload_n 0, 1) := by decide +kernel
theorem dX9_first_1 : decode cX9_first 1 = .ok (.getfield 19, 3) := by decide +kernel
theorem dX9_first_4 : decode cX9_first 4 = .ok (.sipush 4042, 3) := by decide +kernel
theorem dX9_first_7 : decode cX9_first 7 = .ok (.iload_n 1, 1) := by decide +kernel
theorem dX9_first_8 : decode cX9_first 8 = .ok (.imul, 1) := by decide +kernel
theorem dX9_first_9 : decode cX9_first 9 = .ok (.iload_n 2, 1) := by decide +kernel
theorem dX9_first_10 : decode cX9_first 10 = .ok (.iadd, 1) := by decide +kernel
theorem dX9_first_11 : decode cX9_first 11 = .ok (.sipush (-2020), 3) := by decide +kernel
theorem dX9_first_14 : decode cX9_first 14 = .ok (.isub, 1) := by decide +kernel
theorem dX9_first_15 : decode cX9_first 15 = .ok (.iaload, 1) := by decide +kernel
theorem dX9_first_16 : decode cX9_first 16 = .ok (.ireturn, 1) := by decide +kernel
set_option maxRecDepth 20000 in
theorem dX9_findFirsts_0 : decode cX9_findFirsts 0 = .ok (.sipush 4042, 3) := by decide +kernel
theorem dX9_findFirsts_3 : decode cX9_findFirsts 3 = .ok (.iload_n 1, 1) := by decide +kernel
theorem dX9_findFirsts_4 : decode cX9_findFirsts 4 = .ok (.imul, 1) := by decide +kernel
theorem dX9_findFirsts_5 : decode cX9_findFirsts 5 = .ok (.sipush (-2020), 3) := by decide +kernel
theorem dX9_findFirsts_8 : decode cX9_findFirsts 8 = .ok (.isub, 1) := by decide +kernel
theorem dX9_findFirsts_9 : decode cX9_findFirsts 9 = .ok (.istore_n 2, 1) := by decide +kernel
theorem dX9_findFirsts_10 : decode cX9_findFirsts 10 = .ok (.aload_n 0, 1) := by decide +kernel
theorem dX9_findFirsts_11 : decode cX9_findFirsts 11 = .ok (.getfield 19, 3) := by decide +kernel
theorem dX9_findFirsts_14 : decode cX9_findFirsts 14 = .ok (.iload_n 2, 1) := by decide +kernel
theorem dX9_findFirsts_15 : decode cX9_findFirsts 15 = .ok (.iconst 1, 1) := by decide +kernel
theorem dX9_findFirsts_16 : decode cX9_findFirsts 16 = .ok (.iadd, 1) := by decide +kernel
theorem dX9_findFirsts_17 : decode cX9_findFirsts 17 = .ok (.aload_n 0, 1) := by decide +kernel
theorem dX9_findFirsts_18 : decode cX9_findFirsts 18 = .ok (.iload_n 1, 1) := by decide +kernel
theorem dX9_findFirsts_19 : decode cX9_findFirsts 19 = .ok (.bipush 15, 2) := by decide +kernel
theorem dX9_findFirsts_21 : decode cX9_findFirsts 21 = .ok (.invokevirtual 80, 3) := by decide +kernel
theorem dX9_findFirsts_24 : decode cX9_findFirsts 24 = .ok (.iastore, 1) := by decide +kernel
theorem dX9_findFirsts_25 : decode cX9_findFirsts 25 = .ok (.iconst 1, 1) := by decide +kernel
theorem dX9_findFirsts_26 : decode cX9_findFirsts 26 = .ok (.istore_n 3, 1) := by decide +kernel
theorem dX9_findFirsts_27 : decode cX9_findFirsts 27 = .ok (.iload_n 3, 1) := by decide +kernel
theorem dX9_findFirsts_28 : decode cX9_findFirsts 28 = .ok (.sipush 2021, 3) := by decide +kernel
theorem dX9_findFirsts_31 : decode cX9_findFirsts 31 = .ok (.if_icmp .ge 34, 3) := by decide +kernel
theorem dX9_findFirsts_34 : decode cX9_findFirsts 34 = .ok (.aload_n 0, 1) := by decide +kernel
theorem dX9_findFirsts_35 : decode cX9_findFirsts 35 = .ok (.getfield 19, 3) := by decide +kernel
theorem dX9_findFirsts_38 : decode cX9_findFirsts 38 = .ok (.iload_n 2, 1) := by decide +kernel
theorem dX9_findFirsts_39 : decode cX9_findFirsts 39 = .ok (.iload_n 3, 1) := by decide +kernel
theorem dX9_findFirsts_40 : decode cX9_findFirsts 40 = .ok (.iadd, 1) := by decide +kernel
theorem dX9_findFirsts_41 : decode cX9_findFirsts 41 = .ok (.iconst 1, 1) := by decide +kernel
theorem dX9_findFirsts_42 : decode cX9_findFirsts 42 = .ok (.iadd, 1) := by decide +kernel
theorem dX9_findFirsts_43 : decode cX9_findFirsts 43 = .ok (.aload_n 0, 1) := by decide +kernel
theorem dX9_findFirsts_44 : decode cX9_findFirsts 44 = .ok (.getfield 19, 3) := by decide +kernel
theorem dX9_findFirsts_47 : decode cX9_findFirsts 47 = .ok (.iload_n 2, 1) := by decide +kernel
theorem dX9_findFirsts_48 : decode cX9_findFirsts 48 = .ok (.iload_n 3, 1) := by decide +kernel
theorem dX9_findFirsts_49 : decode cX9_findFirsts 49 = .ok (.iadd, 1) := by decide +kernel
theorem dX9_findFirsts_50 : decode cX9_findFirsts 50 = .ok (.iaload, 1) := by decide +kernel
theorem dX9_findFirsts_51 : decode cX9_findFirsts 51 = .ok (.aload_n 0, 1) := by decide +kernel
theorem dX9_findFirsts_52 : decode cX9_findFirsts 52 = .ok (.iload_n 1, 1) := by decide +kernel
theorem dX9_findFirsts_53 : decode cX9_findFirsts 53 = .ok (.iload_n 3, 1) := by decide +kernel
theorem dX9_findFirsts_54 : decode cX9_findFirsts 54 = .ok (.invokevirtual 92, 3) := by decide +kernel
theorem dX9_findFirsts_57 : decode cX9_findFirsts 57 = .ok (.iadd, 1) := by decide +kernel
theorem dX9_findFirsts_58 : decode cX9_findFirsts 58 = .ok (.iastore, 1) := by decide +kernel
theorem dX9_findFirsts_59 : decode cX9_findFirsts 59 = .ok (.iinc 3 1, 3) := by decide +kernel
theorem dX9_findFirsts_62 : decode cX9_findFirsts 62 = .ok (.goto (-35), 3) := by decide +kernel
theorem dX9_findFirsts_65 : decode cX9_findFirsts 65 = .ok (.iconst 0, 1) := by decide +kernel
theorem dX9_findFirsts_66 : decode cX9_findFirsts 66 = .ok (.istore_n 3, 1) := by decide +kernel
theorem dX9_findFirsts_67 : decode cX9_findFirsts 67 = .ok (.iload_n 3, 1) := by decide +kernel
theorem dX9_findFirsts_68 : decode cX9_findFirsts 68 = .ok (.sipush (-2020), 3) := by decide +kernel
theorem dX9_findFirsts_71 : decode cX9_findFirsts 71 = .ok (.if_icmp .lt 34, 3) := by decide +kernel
theorem dX9_findFirsts_74 : decode cX9_findFirsts 74 = .ok (.aload_n 0, 1) := by decide +kernel
theorem dX9_findFirsts_75 : decode cX9_findFirsts 75 = .ok (.getfield 19, 3) := by decide +kernel
theorem dX9_findFirsts_78 : decode cX9_findFirsts 78 = .ok (.iload_n 2, 1) := by decide +kernel
theorem dX9_findFirsts_79 : decode cX9_findFirsts 79 = .ok (.iload_n 3, 1) := by decide +kernel
theorem dX9_findFirsts_80 : decode cX9_findFirsts 80 = .ok (.iadd, 1) := by decide +kernel
theorem dX9_findFirsts_81 : decode cX9_findFirsts 81 = .ok (.aload_n 0, 1) := by decide +kernel
theorem dX9_findFirsts_82 : decode cX9_findFirsts 82 = .ok (.getfield 19, 3) := by decide +kernel
theorem dX9_findFirsts_85 : decode cX9_findFirsts 85 = .ok (.iload_n 2, 1) := by decide +kernel
theorem dX9_findFirsts_86 : decode cX9_findFirsts 86 = .ok (.iload_n 3, 1) := by decide +kernel
theorem dX9_findFirsts_87 : decode cX9_findFirsts 87 = .ok (.iadd, 1) := by decide +kernel
theorem dX9_findFirsts_88 : decode cX9_findFirsts 88 = .ok (.iconst 1, 1) := by decide +kernel
theorem dX9_findFirsts_89 : decode cX9_findFirsts 89 = .ok (.iadd, 1) := by decide +kernel
theorem dX9_findFirsts_90 : decode cX9_findFirsts 90 = .ok (.iaload, 1) := by decide +kernel
theorem dX9_findFirsts_91 : decode cX9_findFirsts 91 = .ok (.aload_n 0, 1) := by decide +kernel
theorem dX9_findFirsts_92 : decode cX9_findFirsts 92 = .ok (.iload_n 1, 1) := by decide +kernel
theorem dX9_findFirsts_93 : decode cX9_findFirsts 93 = .ok (.iload_n 3, 1) := by decide +kernel
theorem dX9_findFirsts_94 : decode cX9_findFirsts 94 = .ok (.invokevirtual 92, 3) := by decide +kernel
theorem dX9_findFirsts_97 : decode cX9_findFirsts 97 = .ok (.isub, 1) := by decide +kernel
theorem dX9_findFirsts_98 : decode cX9_findFirsts 98 = .ok (.iastore, 1) := by decide +kernel
theorem dX9_findFirsts_99 : decode cX9_findFirsts 99 = .ok (.iinc 3 (-1), 3) := by decide +kernel
theorem dX9_findFirsts_102 : decode cX9_findFirsts 102 = .ok (.goto (-35), 3) := by decide +kernel
theorem dX9_findFirsts_105 : decode cX9_findFirsts 105 = .ok (.return_, 1) := by decide +kernel
set_option maxRecDepth 20000 in
theorem dX9_lays_0 : decode cX9_lays 0 = .ok (.iconst 0, 1) := by decide +kernel
theorem dX9_lays_1 : decode cX9_lays 1 = .ok (.istore_n 2, 1) := by decide +kernel
theorem dX9_lays_2 : decode cX9_lays 2 = .ok (.iload_n 2, 1) := by decide +kernel
theorem dX9_lays_3 : decode cX9_lays 3 = .ok (.bipush 33, 2) := by decide +kernel
theorem dX9_lays_5 : decode cX9_lays 5 = .ok (.if_icmp .ge 26, 3) := by decide +kernel
theorem dX9_lays_8 : decode cX9_lays 8 = .ok (.aload_n 0, 1) := by decide +kernel
theorem dX9_lays_9 : decode cX9_lays 9 = .ok (.getfield 13, 3) := by decide +kernel
theorem dX9_lays_12 : decode cX9_lays 12 = .ok (.bipush 33, 2) := by decide +kernel
theorem dX9_lays_14 : decode cX9_lays 14 = .ok (.iload_n 1, 1) := by decide +kernel
theorem dX9_lays_15 : decode cX9_lays 15 = .ok (.imul, 1) := by decide +kernel
theorem dX9_lays_16 : decode cX9_lays 16 = .ok (.iload_n 2, 1) := by decide +kernel
theorem dX9_lays_17 : decode cX9_lays 17 = .ok (.iadd, 1) := by decide +kernel
theorem dX9_lays_18 : decode cX9_lays 18 = .ok (.aload_n 0, 1) := by decide +kernel
theorem dX9_lays_19 : decode cX9_lays 19 = .ok (.getfield 16, 3) := by decide +kernel
theorem dX9_lays_22 : decode cX9_lays 22 = .ok (.iload_n 2, 1) := by decide +kernel
theorem dX9_lays_23 : decode cX9_lays 23 = .ok (.iaload, 1) := by decide +kernel
theorem dX9_lays_24 : decode cX9_lays 24 = .ok (.iastore, 1) := by decide +kernel
theorem dX9_lays_25 : decode cX9_lays 25 = .ok (.iinc 2 1, 3) := by decide +kernel
theorem dX9_lays_28 : decode cX9_lays 28 = .ok (.goto (-26), 3) := by decide +kernel
theorem dX9_lays_31 : decode cX9_lays 31 = .ok (.aload_n 0, 1) := by decide +kernel
theorem dX9_lays_32 : decode cX9_lays 32 = .ok (.iload_n 1, 1) := by decide +kernel
theorem dX9_lays_33 : decode cX9_lays 33 = .ok (.invokevirtual 95, 3) := by decide +kernel
theorem dX9_lays_36 : decode cX9_lays 36 = .ok (.return_, 1) := by decide +kernel
set_option maxRecDepth 20000 in
theorem dX9_yearOf_0 : decode cX9_yearOf 0 = .ok (.sipush (-2020), 3) := by decide +kernel
theorem dX9_yearOf_3 : decode cX9_yearOf 3 = .ok (.istore_n 3, 1) := by decide +kernel
theorem dX9_yearOf_4 : decode cX9_yearOf 4 = .ok (.sipush 2021, 3) := by decide +kernel
theorem dX9_yearOf_7 : decode cX9_yearOf 7 = .ok (.istore 4, 2) := by decide +kernel
theorem dX9_yearOf_9 : decode cX9_yearOf 9 = .ok (.iload_n 3, 1) := by decide +kernel
theorem dX9_yearOf_10 : decode cX9_yearOf 10 = .ok (.iload 4, 2) := by decide +kernel
theorem dX9_yearOf_12 : decode cX9_yearOf 12 = .ok (.if_icmp .ge 41, 3) := by decide +kernel
theorem dX9_yearOf_15 : decode cX9_yearOf 15 = .ok (.iload_n 3, 1) := by decide +kernel
theorem dX9_yearOf_16 : decode cX9_yearOf 16 = .ok (.iload 4, 2) := by decide +kernel
theorem dX9_yearOf_18 : decode cX9_yearOf 18 = .ok (.iadd, 1) := by decide +kernel
theorem dX9_yearOf_19 : decode cX9_yearOf 19 = .ok (.iconst 1, 1) := by decide +kernel
theorem dX9_yearOf_20 : decode cX9_yearOf 20 = .ok (.iadd, 1) := by decide +kernel
theorem dX9_yearOf_21 : decode cX9_yearOf 21 = .ok (.iconst 2, 1) := by decide +kernel
theorem dX9_yearOf_22 : decode cX9_yearOf 22 = .ok (.invokestatic 98, 3) := by decide +kernel
theorem dX9_yearOf_25 : decode cX9_yearOf 25 = .ok (.istore 5, 2) := by decide +kernel
theorem dX9_yearOf_27 : decode cX9_yearOf 27 = .ok (.aload_n 0, 1) := by decide +kernel
theorem dX9_yearOf_28 : decode cX9_yearOf 28 = .ok (.iload_n 1, 1) := by decide +kernel
theorem dX9_yearOf_29 : decode cX9_yearOf 29 = .ok (.iload 5, 2) := by decide +kernel
theorem dX9_yearOf_31 : decode cX9_yearOf 31 = .ok (.invokevirtual 101, 3) := by decide +kernel
theorem dX9_yearOf_34 : decode cX9_yearOf 34 = .ok (.iload_n 2, 1) := by decide +kernel
theorem dX9_yearOf_35 : decode cX9_yearOf 35 = .ok (.if_icmp .gt 9, 3) := by decide +kernel
theorem dX9_yearOf_38 : decode cX9_yearOf 38 = .ok (.iload 5, 2) := by decide +kernel
theorem dX9_yearOf_40 : decode cX9_yearOf 40 = .ok (.istore_n 3, 1) := by decide +kernel
theorem dX9_yearOf_41 : decode cX9_yearOf 41 = .ok (.goto 9, 3) := by decide +kernel
theorem dX9_yearOf_44 : decode cX9_yearOf 44 = .ok (.iload 5, 2) := by decide +kernel
theorem dX9_yearOf_46 : decode cX9_yearOf 46 = .ok (.iconst 1, 1) := by decide +kernel
theorem dX9_yearOf_47 : decode cX9_yearOf 47 = .ok (.isub, 1) := by decide +kernel
theorem dX9_yearOf_48 : decode cX9_yearOf 48 = .ok (.istore 4, 2) := by decide +kernel
theorem dX9_yearOf_50 : decode cX9_yearOf 50 = .ok (.goto (-41), 3) := by decide +kernel
theorem dX9_yearOf_53 : decode cX9_yearOf 53 = .ok (.iload_n 3, 1) := by decide +kernel
theorem dX9_yearOf_54 : decode cX9_yearOf 54 = .ok (.ireturn, 1) := by decide +kernel
set_option maxRecDepth 20000 in
theorem dX9_isInside_0 : decode cX9_isInside 0 = .ok (.iload_n 2, 1) := by decide +kernel
theorem dX9_isInside_1 : decode cX9_isInside 1 = .ok (.aload_n 0, 1) := by decide +kernel
theorem dX9_isInside_2 : decode cX9_isInside 2 = .ok (.iload_n 1, 1) := by decide +kernel
theorem dX9_isInside_3 : decode cX9_isInside 3 = .ok (.sipush (-2000), 3) := by decide +kernel
theorem dX9_isInside_6 : decode cX9_isInside 6 = .ok (.invokevirtual 101, 3) := by decide +kernel
theorem dX9_isInside_9 : decode cX9_isInside 9 = .ok (.if_icmp .lt 19, 3) := by decide +kernel
theorem dX9_isInside_12 : decode cX9_isInside 12 = .ok (.iload_n 2, 1) := by decide +kernel
theorem dX9_isInside_13 : decode cX9_isInside 13 = .ok (.aload_n 0, 1) := by decide +kernel
theorem dX9_isInside_14 : decode cX9_isInside 14 = .ok (.iload_n 1, 1) := by decide +kernel
theorem dX9_isInside_15 : decode cX9_isInside 15 = .ok (.sipush 2001, 3) := by decide +kernel
theorem dX9_isInside_18 : decode cX9_isInside 18 = .ok (.invokevirtual 101, 3) := by decide +kernel
theorem dX9_isInside_21 : decode cX9_isInside 21 = .ok (.if_icmp .ge 7, 3) := by decide +kernel
theorem dX9_isInside_24 : decode cX9_isInside 24 = .ok (.iconst 1, 1) := by decide +kernel
theorem dX9_isInside_25 : decode cX9_isInside 25 = .ok (.goto 4, 3) := by decide +kernel
theorem dX9_isInside_28 : decode cX9_isInside 28 = .ok (.iconst 0, 1) := by decide +kernel
theorem dX9_isInside_29 : decode cX9_isInside 29 = .ok (.ireturn, 1) := by decide +kernel
set_option maxRecDepth 20000 in
theorem dX9_hasMore_0 : decode cX9_hasMore 0 = .ok (.aload_n 0, 1) := by decide +kernel
theorem dX9_hasMore_1 : decode cX9_hasMore 1 = .ok (.iload_n 1, 1) := by decide +kernel
theorem dX9_hasMore_2 : decode cX9_hasMore 2 = .ok (.bipush 16, 2) := by decide +kernel
theorem dX9_hasMore_4 : decode cX9_hasMore 4 = .ok (.invokevirtual 80, 3) := by decide +kernel
theorem dX9_hasMore_7 : decode cX9_hasMore 7 = .ok (.iconst 2, 1) := by decide +kernel
theorem dX9_hasMore_8 : decode cX9_hasMore 8 = .ok (.if_icmp .ne 16, 3) := by decide +kernel
theorem dX9_hasMore_11 : decode cX9_hasMore 11 = .ok (.aload_n 0, 1) := by decide +kernel
theorem dX9_hasMore_12 : decode cX9_hasMore 12 = .ok (.iload_n 1, 1) := by decide +kernel
theorem dX9_hasMore_13 : decode cX9_hasMore 13 = .ok (.iload_n 2, 1) := by decide +kernel
theorem dX9_hasMore_14 : decode cX9_hasMore 14 = .ok (.invokevirtual 88, 3) := by decide +kernel
theorem dX9_hasMore_17 : decode cX9_hasMore 17 = .ok (.ifCond .eq 7, 3) := by decide +kernel
theorem dX9_hasMore_20 : decode cX9_hasMore 20 = .ok (.iconst 1, 1) := by decide +kernel
theorem dX9_hasMore_21 : decode cX9_hasMore 21 = .ok (.goto 4, 3) := by decide +kernel
theorem dX9_hasMore_24 : decode cX9_hasMore 24 = .ok (.iconst 0, 1) := by decide +kernel
theorem dX9_hasMore_25 : decode cX9_hasMore 25 = .ok (.ireturn, 1) := by decide +kernel
set_option maxRecDepth 20000 in
theorem dX9_monthsOf_0 : decode cX9_monthsOf 0 = .ok (.aload_n 0, 1) := by decide +kernel
theorem dX9_monthsOf_1 : decode cX9_monthsOf 1 = .ok (.iload_n 1, 1) := by decide +kernel
theorem dX9_monthsOf_2 : decode cX9_monthsOf 2 = .ok (.iconst 0, 1) := by decide +kernel
theorem dX9_monthsOf_3 : decode cX9_monthsOf 3 = .ok (.invokevirtual 80, 3) := by decide +kernel
theorem dX9_monthsOf_6 : decode cX9_monthsOf 6 = .ok (.aload_n 0, 1) := by decide +kernel
theorem dX9_monthsOf_7 : decode cX9_monthsOf 7 = .ok (.iload_n 1, 1) := by decide +kernel
theorem dX9_monthsOf_8 : decode cX9_monthsOf 8 = .ok (.iload_n 2, 1) := by decide +kernel
theorem dX9_monthsOf_9 : decode cX9_monthsOf 9 = .ok (.invokevirtual 104, 3) := by decide +kernel
theorem dX9_monthsOf_12 : decode cX9_monthsOf 12 = .ok (.ifCond .eq 7, 3) := by decide +kernel
theorem dX9_monthsOf_15 : decode cX9_monthsOf 15 = .ok (.iconst 1, 1) := by decide +kernel
theorem dX9_monthsOf_16 : decode cX9_monthsOf 16 = .ok (.goto 4, 3) := by decide +kernel
theorem dX9_monthsOf_19 : decode cX9_monthsOf 19 = .ok (.iconst 0, 1) := by decide +kernel
theorem dX9_monthsOf_20 : decode cX9_monthsOf 20 = .ok (.iadd, 1) := by decide +kernel
theorem dX9_monthsOf_21 : decode cX9_monthsOf 21 = .ok (.ireturn, 1) := by decide +kernel
set_option maxRecDepth 20000 in
theorem dX9_isMore_0 : decode cX9_isMore 0 = .ok (.aload_n 0, 1) := by decide +kernel
theorem dX9_isMore_1 : decode cX9_isMore 1 = .ok (.iload_n 1, 1) := by decide +kernel
theorem dX9_isMore_2 : decode cX9_isMore 2 = .ok (.iload_n 2, 1) := by decide +kernel
theorem dX9_isMore_3 : decode cX9_isMore 3 = .ok (.invokevirtual 104, 3) := by decide +kernel
theorem dX9_isMore_6 : decode cX9_isMore 6 = .ok (.ifCond .eq 20, 3) := by decide +kernel
theorem dX9_isMore_9 : decode cX9_isMore 9 = .ok (.iload_n 3, 1) := by decide +kernel
theorem dX9_isMore_10 : decode cX9_isMore 10 = .ok (.aload_n 0, 1) := by decide +kernel
theorem dX9_isMore_11 : decode cX9_isMore 11 = .ok (.iload_n 1, 1) := by decide +kernel
theorem dX9_isMore_12 : decode cX9_isMore 12 = .ok (.bipush 17, 2) := by decide +kernel
theorem dX9_isMore_14 : decode cX9_isMore 14 = .ok (.invokevirtual 80, 3) := by decide +kernel
theorem dX9_isMore_17 : decode cX9_isMore 17 = .ok (.iconst 1, 1) := by decide +kernel
theorem dX9_isMore_18 : decode cX9_isMore 18 = .ok (.iadd, 1) := by decide +kernel
theorem dX9_isMore_19 : decode cX9_isMore 19 = .ok (.if_icmp .ne 7, 3) := by decide +kernel
theorem dX9_isMore_22 : decode cX9_isMore 22 = .ok (.iconst 1, 1) := by decide +kernel
theorem dX9_isMore_23 : decode cX9_isMore 23 = .ok (.goto 4, 3) := by decide +kernel
theorem dX9_isMore_26 : decode cX9_isMore 26 = .ok (.iconst 0, 1) := by decide +kernel
theorem dX9_isMore_27 : decode cX9_isMore 27 = .ok (.ireturn, 1) := by decide +kernel
set_option maxRecDepth 20000 in
theorem dX9_lengthOfMonth_0 : decode cX9_lengthOfMonth 0 = .ok (.aload_n 0, 1) := by decide +kernel
theorem dX9_lengthOfMonth_1 : decode cX9_lengthOfMonth 1 = .ok (.iload_n 1, 1) := by decide +kernel
theorem dX9_lengthOfMonth_2 : decode cX9_lengthOfMonth 2 = .ok (.iload_n 2, 1) := by decide +kernel
theorem dX9_lengthOfMonth_3 : decode cX9_lengthOfMonth 3 = .ok (.iload_n 3, 1) := by decide +kernel
theorem dX9_lengthOfMonth_4 : decode cX9_lengthOfMonth 4 = .ok (.invokevirtual 107, 3) := by decide +kernel
theorem dX9_lengthOfMonth_7 : decode cX9_lengthOfMonth 7 = .ok (.ifCond .eq 11, 3) := by decide +kernel
theorem dX9_lengthOfMonth_10 : decode cX9_lengthOfMonth 10 = .ok (.aload_n 0, 1) := by decide +kernel
theorem dX9_lengthOfMonth_11 : decode cX9_lengthOfMonth 11 = .ok (.iload_n 1, 1) := by decide +kernel
theorem dX9_lengthOfMonth_12 : decode cX9_lengthOfMonth 12 = .ok (.bipush 18, 2) := by decide +kernel
theorem dX9_lengthOfMonth_14 : decode cX9_lengthOfMonth 14 = .ok (.invokevirtual 80, 3) := by decide +kernel
theorem dX9_lengthOfMonth_17 : decode cX9_lengthOfMonth 17 = .ok (.ireturn, 1) := by decide +kernel
theorem dX9_lengthOfMonth_18 : decode cX9_lengthOfMonth 18 = .ok (.aload_n 0, 1) := by decide +kernel
theorem dX9_lengthOfMonth_19 : decode cX9_lengthOfMonth 19 = .ok (.iload_n 1, 1) := by decide +kernel
theorem dX9_lengthOfMonth_20 : decode cX9_lengthOfMonth 20 = .ok (.iload_n 2, 1) := by decide +kernel
theorem dX9_lengthOfMonth_21 : decode cX9_lengthOfMonth 21 = .ok (.invokevirtual 104, 3) := by decide +kernel
theorem dX9_lengthOfMonth_24 : decode cX9_lengthOfMonth 24 = .ok (.ifCond .eq 20, 3) := by decide +kernel
theorem dX9_lengthOfMonth_27 : decode cX9_lengthOfMonth 27 = .ok (.iload_n 3, 1) := by decide +kernel
theorem dX9_lengthOfMonth_28 : decode cX9_lengthOfMonth 28 = .ok (.aload_n 0, 1) := by decide +kernel
theorem dX9_lengthOfMonth_29 : decode cX9_lengthOfMonth 29 = .ok (.iload_n 1, 1) := by decide +kernel
theorem dX9_lengthOfMonth_30 : decode cX9_lengthOfMonth 30 = .ok (.bipush 17, 2) := by decide +kernel
theorem dX9_lengthOfMonth_32 : decode cX9_lengthOfMonth 32 = .ok (.invokevirtual 80, 3) := by decide +kernel
theorem dX9_lengthOfMonth_35 : decode cX9_lengthOfMonth 35 = .ok (.if_icmp .le 9, 3) := by decide +kernel
theorem dX9_lengthOfMonth_38 : decode cX9_lengthOfMonth 38 = .ok (.iload_n 3, 1) := by decide +kernel
theorem dX9_lengthOfMonth_39 : decode cX9_lengthOfMonth 39 = .ok (.iconst 1, 1) := by decide +kernel
theorem dX9_lengthOfMonth_40 : decode cX9_lengthOfMonth 40 = .ok (.isub, 1) := by decide +kernel
theorem dX9_lengthOfMonth_41 : decode cX9_lengthOfMonth 41 = .ok (.goto 4, 3) := by decide +kernel
theorem dX9_lengthOfMonth_44 : decode cX9_lengthOfMonth 44 = .ok (.iload_n 3, 1) := by decide +kernel
theorem dX9_lengthOfMonth_45 : decode cX9_lengthOfMonth 45 = .ok (.istore 4, 2) := by decide +kernel
theorem dX9_lengthOfMonth_47 : decode cX9_lengthOfMonth 47 = .ok (.aload_n 0, 1) := by decide +kernel
theorem dX9_lengthOfMonth_48 : decode cX9_lengthOfMonth 48 = .ok (.iload_n 1, 1) := by decide +kernel
theorem dX9_lengthOfMonth_49 : decode cX9_lengthOfMonth 49 = .ok (.iconst 1, 1) := by decide +kernel
theorem dX9_lengthOfMonth_50 : decode cX9_lengthOfMonth 50 = .ok (.iload 4, 2) := by decide +kernel
theorem dX9_lengthOfMonth_52 : decode cX9_lengthOfMonth 52 = .ok (.iadd, 1) := by decide +kernel
theorem dX9_lengthOfMonth_53 : decode cX9_lengthOfMonth 53 = .ok (.iconst 1, 1) := by decide +kernel
theorem dX9_lengthOfMonth_54 : decode cX9_lengthOfMonth 54 = .ok (.isub, 1) := by decide +kernel
theorem dX9_lengthOfMonth_55 : decode cX9_lengthOfMonth 55 = .ok (.invokevirtual 80, 3) := by decide +kernel
theorem dX9_lengthOfMonth_58 : decode cX9_lengthOfMonth 58 = .ok (.aload_n 0, 1) := by decide +kernel
theorem dX9_lengthOfMonth_59 : decode cX9_lengthOfMonth 59 = .ok (.iload_n 1, 1) := by decide +kernel
theorem dX9_lengthOfMonth_60 : decode cX9_lengthOfMonth 60 = .ok (.bipush 16, 2) := by decide +kernel
theorem dX9_lengthOfMonth_62 : decode cX9_lengthOfMonth 62 = .ok (.invokevirtual 80, 3) := by decide +kernel
theorem dX9_lengthOfMonth_65 : decode cX9_lengthOfMonth 65 = .ok (.iconst 1, 1) := by decide +kernel
theorem dX9_lengthOfMonth_66 : decode cX9_lengthOfMonth 66 = .ok (.if_icmp .ne 28, 3) := by decide +kernel
theorem dX9_lengthOfMonth_69 : decode cX9_lengthOfMonth 69 = .ok (.iload 4, 2) := by decide +kernel
theorem dX9_lengthOfMonth_71 : decode cX9_lengthOfMonth 71 = .ok (.aload_n 0, 1) := by decide +kernel
theorem dX9_lengthOfMonth_72 : decode cX9_lengthOfMonth 72 = .ok (.iload_n 1, 1) := by decide +kernel
theorem dX9_lengthOfMonth_73 : decode cX9_lengthOfMonth 73 = .ok (.bipush 17, 2) := by decide +kernel
theorem dX9_lengthOfMonth_75 : decode cX9_lengthOfMonth 75 = .ok (.invokevirtual 80, 3) := by decide +kernel
theorem dX9_lengthOfMonth_78 : decode cX9_lengthOfMonth 78 = .ok (.if_icmp .ne 16, 3) := by decide +kernel
theorem dX9_lengthOfMonth_81 : decode cX9_lengthOfMonth 81 = .ok (.aload_n 0, 1) := by decide +kernel
theorem dX9_lengthOfMonth_82 : decode cX9_lengthOfMonth 82 = .ok (.iload_n 1, 1) := by decide +kernel
theorem dX9_lengthOfMonth_83 : decode cX9_lengthOfMonth 83 = .ok (.iload_n 2, 1) := by decide +kernel
theorem dX9_lengthOfMonth_84 : decode cX9_lengthOfMonth 84 = .ok (.invokevirtual 88, 3) := by decide +kernel
theorem dX9_lengthOfMonth_87 : decode cX9_lengthOfMonth 87 = .ok (.ifCond .eq 7, 3) := by decide +kernel
theorem dX9_lengthOfMonth_90 : decode cX9_lengthOfMonth 90 = .ok (.iconst 1, 1) := by decide +kernel
theorem dX9_lengthOfMonth_91 : decode cX9_lengthOfMonth 91 = .ok (.goto 4, 3) := by decide +kernel
theorem dX9_lengthOfMonth_94 : decode cX9_lengthOfMonth 94 = .ok (.iconst 0, 1) := by decide +kernel
theorem dX9_lengthOfMonth_95 : decode cX9_lengthOfMonth 95 = .ok (.iadd, 1) := by decide +kernel
theorem dX9_lengthOfMonth_96 : decode cX9_lengthOfMonth 96 = .ok (.ireturn, 1) := by decide +kernel
set_option maxRecDepth 20000 in
theorem dX9_isMonth_0 : decode cX9_isMonth 0 = .ok (.iload_n 2, 1) := by decide +kernel
theorem dX9_isMonth_1 : decode cX9_isMonth 1 = .ok (.invokestatic 110, 3) := by decide +kernel
theorem dX9_isMonth_4 : decode cX9_isMonth 4 = .ok (.ifCond .eq 21, 3) := by decide +kernel
theorem dX9_isMonth_7 : decode cX9_isMonth 7 = .ok (.iload_n 3, 1) := by decide +kernel
theorem dX9_isMonth_8 : decode cX9_isMonth 8 = .ok (.iconst 1, 1) := by decide +kernel
theorem dX9_isMonth_9 : decode cX9_isMonth 9 = .ok (.aload_n 0, 1) := by decide +kernel
theorem dX9_isMonth_10 : decode cX9_isMonth 10 = .ok (.iload_n 1, 1) := by decide +kernel
theorem dX9_isMonth_11 : decode cX9_isMonth 11 = .ok (.iload_n 2, 1) := by decide +kernel
theorem dX9_isMonth_12 : decode cX9_isMonth 12 = .ok (.invokevirtual 114, 3) := by decide +kernel
theorem dX9_isMonth_15 : decode cX9_isMonth 15 = .ok (.invokestatic 70, 3) := by decide +kernel
theorem dX9_isMonth_18 : decode cX9_isMonth 18 = .ok (.ifCond .eq 7, 3) := by decide +kernel
theorem dX9_isMonth_21 : decode cX9_isMonth 21 = .ok (.iconst 1, 1) := by decide +kernel
theorem dX9_isMonth_22 : decode cX9_isMonth 22 = .ok (.goto 4, 3) := by decide +kernel
theorem dX9_isMonth_25 : decode cX9_isMonth 25 = .ok (.iconst 0, 1) := by decide +kernel
theorem dX9_isMonth_26 : decode cX9_isMonth 26 = .ok (.ireturn, 1) := by decide +kernel
set_option maxRecDepth 20000 in
theorem dX9_isDate_0 : decode cX9_isDate 0 = .ok (.aload_n 0, 1) := by decide +kernel
theorem dX9_isDate_1 : decode cX9_isDate 1 = .ok (.iload_n 1, 1) := by decide +kernel
theorem dX9_isDate_2 : decode cX9_isDate 2 = .ok (.iload_n 2, 1) := by decide +kernel
theorem dX9_isDate_3 : decode cX9_isDate 3 = .ok (.iload_n 3, 1) := by decide +kernel
theorem dX9_isDate_4 : decode cX9_isDate 4 = .ok (.invokevirtual 117, 3) := by decide +kernel
theorem dX9_isDate_7 : decode cX9_isDate 7 = .ok (.ifCond .eq 23, 3) := by decide +kernel
theorem dX9_isDate_10 : decode cX9_isDate 10 = .ok (.iload 4, 2) := by decide +kernel
theorem dX9_isDate_12 : decode cX9_isDate 12 = .ok (.iconst 1, 1) := by decide +kernel
theorem dX9_isDate_13 : decode cX9_isDate 13 = .ok (.aload_n 0, 1) := by decide +kernel
theorem dX9_isDate_14 : decode cX9_isDate 14 = .ok (.iload_n 1, 1) := by decide +kernel
theorem dX9_isDate_15 : decode cX9_isDate 15 = .ok (.iload_n 2, 1) := by decide +kernel
theorem dX9_isDate_16 : decode cX9_isDate 16 = .ok (.iload_n 3, 1) := by decide +kernel
theorem dX9_isDate_17 : decode cX9_isDate 17 = .ok (.invokevirtual 120, 3) := by decide +kernel
theorem dX9_isDate_20 : decode cX9_isDate 20 = .ok (.invokestatic 70, 3) := by decide +kernel
theorem dX9_isDate_23 : decode cX9_isDate 23 = .ok (.ifCond .eq 7, 3) := by decide +kernel
theorem dX9_isDate_26 : decode cX9_isDate 26 = .ok (.iconst 1, 1) := by decide +kernel
theorem dX9_isDate_27 : decode cX9_isDate 27 = .ok (.goto 4, 3) := by decide +kernel
theorem dX9_isDate_30 : decode cX9_isDate 30 = .ok (.iconst 0, 1) := by decide +kernel
theorem dX9_isDate_31 : decode cX9_isDate 31 = .ok (.ireturn, 1) := by decide +kernel
set_option maxRecDepth 20000 in
theorem dX9_dayAt_0 : decode cX9_dayAt 0 = .ok (.aload_n 0, 1) := by decide +kernel
theorem dX9_dayAt_1 : decode cX9_dayAt 1 = .ok (.iload_n 1, 1) := by decide +kernel
theorem dX9_dayAt_2 : decode cX9_dayAt 2 = .ok (.iload_n 2, 1) := by decide +kernel
theorem dX9_dayAt_3 : decode cX9_dayAt 3 = .ok (.invokevirtual 101, 3) := by decide +kernel
theorem dX9_dayAt_6 : decode cX9_dayAt 6 = .ok (.iload 4, 2) := by decide +kernel
theorem dX9_dayAt_8 : decode cX9_dayAt 8 = .ok (.iadd, 1) := by decide +kernel
theorem dX9_dayAt_9 : decode cX9_dayAt 9 = .ok (.iconst 1, 1) := by decide +kernel
theorem dX9_dayAt_10 : decode cX9_dayAt 10 = .ok (.isub, 1) := by decide +kernel
theorem dX9_dayAt_11 : decode cX9_dayAt 11 = .ok (.istore 5, 2) := by decide +kernel
theorem dX9_dayAt_13 : decode cX9_dayAt 13 = .ok (.iconst 1, 1) := by decide +kernel
theorem dX9_dayAt_14 : decode cX9_dayAt 14 = .ok (.istore 6, 2) := by decide +kernel
theorem dX9_dayAt_16 : decode cX9_dayAt 16 = .ok (.iload 6, 2) := by decide +kernel
theorem dX9_dayAt_18 : decode cX9_dayAt 18 = .ok (.iload_n 3, 1) := by decide +kernel
theorem dX9_dayAt_19 : decode cX9_dayAt 19 = .ok (.if_icmp .ge 22, 3) := by decide +kernel
theorem dX9_dayAt_22 : decode cX9_dayAt 22 = .ok (.iload 5, 2) := by decide +kernel
theorem dX9_dayAt_24 : decode cX9_dayAt 24 = .ok (.aload_n 0, 1) := by decide +kernel
theorem dX9_dayAt_25 : decode cX9_dayAt 25 = .ok (.iload_n 1, 1) := by decide +kernel
theorem dX9_dayAt_26 : decode cX9_dayAt 26 = .ok (.iload_n 2, 1) := by decide +kernel
theorem dX9_dayAt_27 : decode cX9_dayAt 27 = .ok (.iload 6, 2) := by decide +kernel
theorem dX9_dayAt_29 : decode cX9_dayAt 29 = .ok (.invokevirtual 120, 3) := by decide +kernel
theorem dX9_dayAt_32 : decode cX9_dayAt 32 = .ok (.iadd, 1) := by decide +kernel
theorem dX9_dayAt_33 : decode cX9_dayAt 33 = .ok (.istore 5, 2) := by decide +kernel
theorem dX9_dayAt_35 : decode cX9_dayAt 35 = .ok (.iinc 6 1, 3) := by decide +kernel
theorem dX9_dayAt_38 : decode cX9_dayAt 38 = .ok (.goto (-22), 3) := by decide +kernel
theorem dX9_dayAt_41 : decode cX9_dayAt 41 = .ok (.iload 5, 2) := by decide +kernel
theorem dX9_dayAt_43 : decode cX9_dayAt 43 = .ok (.ireturn, 1) := by decide +kernel
set_option maxRecDepth 20000 in
theorem dX9_findDate_0 : decode cX9_findDate 0 = .ok (.aload_n 0, 1) := by decide +kernel
theorem dX9_findDate_1 : decode cX9_findDate 1 = .ok (.aload_n 0, 1) := by decide +kernel
theorem dX9_findDate_2 : decode cX9_findDate 2 = .ok (.iload_n 1, 1) := by decide +kernel
theorem dX9_findDate_3 : decode cX9_findDate 3 = .ok (.iload_n 2, 1) := by decide +kernel
theorem dX9_findDate_4 : decode cX9_findDate 4 = .ok (.invokevirtual 124, 3) := by decide +kernel
theorem dX9_findDate_7 : decode cX9_findDate 7 = .ok (.putfield 127, 3) := by decide +kernel
theorem dX9_findDate_10 : decode cX9_findDate 10 = .ok (.aload_n 0, 1) := by decide +kernel
theorem dX9_findDate_11 : decode cX9_findDate 11 = .ok (.iconst 1, 1) := by decide +kernel
theorem dX9_findDate_12 : decode cX9_findDate 12 = .ok (.putfield 130, 3) := by decide +kernel
theorem dX9_findDate_15 : decode cX9_findDate 15 = .ok (.aload_n 0, 1) := by decide +kernel
theorem dX9_findDate_16 : decode cX9_findDate 16 = .ok (.iload_n 2, 1) := by decide +kernel
theorem dX9_findDate_17 : decode cX9_findDate 17 = .ok (.aload_n 0, 1) := by decide +kernel
theorem dX9_findDate_18 : decode cX9_findDate 18 = .ok (.iload_n 1, 1) := by decide +kernel
theorem dX9_findDate_19 : decode cX9_findDate 19 = .ok (.aload_n 0, 1) := by decide +kernel
theorem dX9_findDate_20 : decode cX9_findDate 20 = .ok (.getfield 127, 3) := by decide +kernel
theorem dX9_findDate_23 : decode cX9_findDate 23 = .ok (.invokevirtual 101, 3) := by decide +kernel
theorem dX9_findDate_26 : decode cX9_findDate 26 = .ok (.isub, 1) := by decide +kernel
theorem dX9_findDate_27 : decode cX9_findDate 27 = .ok (.iconst 1, 1) := by decide +kernel
theorem dX9_findDate_28 : decode cX9_findDate 28 = .ok (.iadd, 1) := by decide +kernel
theorem dX9_findDate_29 : decode cX9_findDate 29 = .ok (.putfield 133, 3) := by decide +kernel
theorem dX9_findDate_32 : decode cX9_findDate 32 = .ok (.aload_n 0, 1) := by decide +kernel
theorem dX9_findDate_33 : decode cX9_findDate 33 = .ok (.getfield 133, 3) := by decide +kernel
theorem dX9_findDate_36 : decode cX9_findDate 36 = .ok (.aload_n 0, 1) := by decide +kernel
theorem dX9_findDate_37 : decode cX9_findDate 37 = .ok (.iload_n 1, 1) := by decide +kernel
theorem dX9_findDate_38 : decode cX9_findDate 38 = .ok (.aload_n 0, 1) := by decide +kernel
theorem dX9_findDate_39 : decode cX9_findDate 39 = .ok (.getfield 127, 3) := by decide +kernel
theorem dX9_findDate_42 : decode cX9_findDate 42 = .ok (.aload_n 0, 1) := by decide +kernel
theorem dX9_findDate_43 : decode cX9_findDate 43 = .ok (.getfield 130, 3) := by decide +kernel
theorem dX9_findDate_46 : decode cX9_findDate 46 = .ok (.invokevirtual 120, 3) := by decide +kernel
theorem dX9_findDate_49 : decode cX9_findDate 49 = .ok (.if_icmp .le 38, 3) := by decide +kernel
theorem dX9_findDate_52 : decode cX9_findDate 52 = .ok (.aload_n 0, 1) := by decide +kernel
theorem dX9_findDate_53 : decode cX9_findDate 53 = .ok (.dup, 1) := by decide +kernel
theorem dX9_findDate_54 : decode cX9_findDate 54 = .ok (.getfield 133, 3) := by decide +kernel
theorem dX9_findDate_57 : decode cX9_findDate 57 = .ok (.aload_n 0, 1) := by decide +kernel
theorem dX9_findDate_58 : decode cX9_findDate 58 = .ok (.iload_n 1, 1) := by decide +kernel
theorem dX9_findDate_59 : decode cX9_findDate 59 = .ok (.aload_n 0, 1) := by decide +kernel
theorem dX9_findDate_60 : decode cX9_findDate 60 = .ok (.getfield 127, 3) := by decide +kernel
theorem dX9_findDate_63 : decode cX9_findDate 63 = .ok (.aload_n 0, 1) := by decide +kernel
theorem dX9_findDate_64 : decode cX9_findDate 64 = .ok (.getfield 130, 3) := by decide +kernel
theorem dX9_findDate_67 : decode cX9_findDate 67 = .ok (.invokevirtual 120, 3) := by decide +kernel
theorem dX9_findDate_70 : decode cX9_findDate 70 = .ok (.isub, 1) := by decide +kernel
theorem dX9_findDate_71 : decode cX9_findDate 71 = .ok (.putfield 133, 3) := by decide +kernel
theorem dX9_findDate_74 : decode cX9_findDate 74 = .ok (.aload_n 0, 1) := by decide +kernel
theorem dX9_findDate_75 : decode cX9_findDate 75 = .ok (.dup, 1) := by decide +kernel
theorem dX9_findDate_76 : decode cX9_findDate 76 = .ok (.getfield 130, 3) := by decide +kernel
theorem dX9_findDate_79 : decode cX9_findDate 79 = .ok (.iconst 1, 1) := by decide +kernel
theorem dX9_findDate_80 : decode cX9_findDate 80 = .ok (.iadd, 1) := by decide +kernel
theorem dX9_findDate_81 : decode cX9_findDate 81 = .ok (.putfield 130, 3) := by decide +kernel
theorem dX9_findDate_84 : decode cX9_findDate 84 = .ok (.goto (-52), 3) := by decide +kernel
theorem dX9_findDate_87 : decode cX9_findDate 87 = .ok (.return_, 1) := by decide +kernel
set_option maxRecDepth 20000 in
theorem dX9_weekday_0 : decode cX9_weekday 0 = .ok (.aload_n 0, 1) := by decide +kernel
theorem dX9_weekday_1 : decode cX9_weekday 1 = .ok (.iload_n 1, 1) := by decide +kernel
theorem dX9_weekday_2 : decode cX9_weekday 2 = .ok (.bipush 31, 2) := by decide +kernel
theorem dX9_weekday_4 : decode cX9_weekday 4 = .ok (.invokevirtual 80, 3) := by decide +kernel
theorem dX9_weekday_7 : decode cX9_weekday 7 = .ok (.iload_n 2, 1) := by decide +kernel
theorem dX9_weekday_8 : decode cX9_weekday 8 = .ok (.iadd, 1) := by decide +kernel
theorem dX9_weekday_9 : decode cX9_weekday 9 = .ok (.aload_n 0, 1) := by decide +kernel
theorem dX9_weekday_10 : decode cX9_weekday 10 = .ok (.iload_n 1, 1) := by decide +kernel
theorem dX9_weekday_11 : decode cX9_weekday 11 = .ok (.bipush 30, 2) := by decide +kernel
theorem dX9_weekday_13 : decode cX9_weekday 13 = .ok (.invokevirtual 80, 3) := by decide +kernel
theorem dX9_weekday_16 : decode cX9_weekday 16 = .ok (.invokestatic 83, 3) := by decide +kernel
theorem dX9_weekday_19 : decode cX9_weekday 19 = .ok (.ireturn, 1) := by decide +kernel
set_option maxRecDepth 20000 in
theorem dX9_partOf_0 : decode cX9_partOf 0 = .ok (.aload_n 0, 1) := by decide +kernel
theorem dX9_partOf_1 : decode cX9_partOf 1 = .ok (.iload_n 1, 1) := by decide +kernel
theorem dX9_partOf_2 : decode cX9_partOf 2 = .ok (.iload_n 2, 1) := by decide +kernel
theorem dX9_partOf_3 : decode cX9_partOf 3 = .ok (.invokevirtual 136, 3) := by decide +kernel
theorem dX9_partOf_6 : decode cX9_partOf 6 = .ok (.iload_n 3, 1) := by decide +kernel
theorem dX9_partOf_7 : decode cX9_partOf 7 = .ok (.tableswitch 58 0 3 #[29, 34, 39, 44], 29) := by decide +kernel
theorem dX9_partOf_36 : decode cX9_partOf 36 = .ok (.aload_n 0, 1) := by decide +kernel
theorem dX9_partOf_37 : decode cX9_partOf 37 = .ok (.getfield 127, 3) := by decide +kernel
theorem dX9_partOf_40 : decode cX9_partOf 40 = .ok (.ireturn, 1) := by decide +kernel
theorem dX9_partOf_41 : decode cX9_partOf 41 = .ok (.aload_n 0, 1) := by decide +kernel
theorem dX9_partOf_42 : decode cX9_partOf 42 = .ok (.getfield 130, 3) := by decide +kernel
theorem dX9_partOf_45 : decode cX9_partOf 45 = .ok (.ireturn, 1) := by decide +kernel
theorem dX9_partOf_46 : decode cX9_partOf 46 = .ok (.aload_n 0, 1) := by decide +kernel
theorem dX9_partOf_47 : decode cX9_partOf 47 = .ok (.getfield 133, 3) := by decide +kernel
theorem dX9_partOf_50 : decode cX9_partOf 50 = .ok (.ireturn, 1) := by decide +kernel
theorem dX9_partOf_51 : decode cX9_partOf 51 = .ok (.iload_n 2, 1) := by decide +kernel
theorem dX9_partOf_52 : decode cX9_partOf 52 = .ok (.aload_n 0, 1) := by decide +kernel
theorem dX9_partOf_53 : decode cX9_partOf 53 = .ok (.iload_n 1, 1) := by decide +kernel
theorem dX9_partOf_54 : decode cX9_partOf 54 = .ok (.aload_n 0, 1) := by decide +kernel
theorem dX9_partOf_55 : decode cX9_partOf 55 = .ok (.getfield 127, 3) := by decide +kernel
theorem dX9_partOf_58 : decode cX9_partOf 58 = .ok (.invokevirtual 101, 3) := by decide +kernel
theorem dX9_partOf_61 : decode cX9_partOf 61 = .ok (.isub, 1) := by decide +kernel
theorem dX9_partOf_62 : decode cX9_partOf 62 = .ok (.iconst 1, 1) := by decide +kernel
theorem dX9_partOf_63 : decode cX9_partOf 63 = .ok (.iadd, 1) := by decide +kernel
theorem dX9_partOf_64 : decode cX9_partOf 64 = .ok (.ireturn, 1) := by decide +kernel
theorem dX9_partOf_65 : decode cX9_partOf 65 = .ok (.aload_n 0, 1) := by decide +kernel
theorem dX9_partOf_66 : decode cX9_partOf 66 = .ok (.iload_n 1, 1) := by decide +kernel
theorem dX9_partOf_67 : decode cX9_partOf 67 = .ok (.iload_n 2, 1) := by decide +kernel
theorem dX9_partOf_68 : decode cX9_partOf 68 = .ok (.invokevirtual 140, 3) := by decide +kernel
theorem dX9_partOf_71 : decode cX9_partOf 71 = .ok (.ireturn, 1) := by decide +kernel
set_option maxRecDepth 20000 in
theorem dX9_appendCharacter_0 : decode cX9_appendCharacter 0 = .ok (.iload_n 1, 1) := by decide +kernel
theorem dX9_appendCharacter_1 : decode cX9_appendCharacter 1 = .ok (.bipush 33, 2) := by decide +kernel
theorem dX9_appendCharacter_3 : decode cX9_appendCharacter 3 = .ok (.bipush 126, 2) := by decide +kernel
theorem dX9_appendCharacter_5 : decode cX9_appendCharacter 5 = .ok (.invokestatic 70, 3) := by decide +kernel
theorem dX9_appendCharacter_8 : decode cX9_appendCharacter 8 = .ok (.ifCond .ne 9, 3) := by decide +kernel
theorem dX9_appendCharacter_11 : decode cX9_appendCharacter 11 = .ok (.aload_n 0, 1) := by decide +kernel
theorem dX9_appendCharacter_12 : decode cX9_appendCharacter 12 = .ok (.iconst 1, 1) := by decide +kernel
theorem dX9_appendCharacter_13 : decode cX9_appendCharacter 13 = .ok (.invokevirtual 143, 3) := by decide +kernel
theorem dX9_appendCharacter_16 : decode cX9_appendCharacter 16 = .ok (.ireturn, 1) := by decide +kernel
theorem dX9_appendCharacter_17 : decode cX9_appendCharacter 17 = .ok (.aload_n 0, 1) := by decide +kernel
theorem dX9_appendCharacter_18 : decode cX9_appendCharacter 18 = .ok (.getfield 147, 3) := by decide +kernel
theorem dX9_appendCharacter_21 : decode cX9_appendCharacter 21 = .ok (.bipush 100, 2) := by decide +kernel
theorem dX9_appendCharacter_23 : decode cX9_appendCharacter 23 = .ok (.if_icmp .ne 9, 3) := by decide +kernel
theorem dX9_appendCharacter_26 : decode cX9_appendCharacter 26 = .ok (.aload_n 0, 1) := by decide +kernel
theorem dX9_appendCharacter_27 : decode cX9_appendCharacter 27 = .ok (.iconst 2, 1) := by decide +kernel
theorem dX9_appendCharacter_28 : decode cX9_appendCharacter 28 = .ok (.invokevirtual 143, 3) := by decide +kernel
theorem dX9_appendCharacter_31 : decode cX9_appendCharacter 31 = .ok (.ireturn, 1) := by decide +kernel
theorem dX9_appendCharacter_32 : decode cX9_appendCharacter 32 = .ok (.aload_n 0, 1) := by decide +kernel
theorem dX9_appendCharacter_33 : decode cX9_appendCharacter 33 = .ok (.iconst 0, 1) := by decide +kernel
theorem dX9_appendCharacter_34 : decode cX9_appendCharacter 34 = .ok (.putfield 67, 3) := by decide +kernel
theorem dX9_appendCharacter_37 : decode cX9_appendCharacter 37 = .ok (.aload_n 0, 1) := by decide +kernel
theorem dX9_appendCharacter_38 : decode cX9_appendCharacter 38 = .ok (.getfield 22, 3) := by decide +kernel
theorem dX9_appendCharacter_41 : decode cX9_appendCharacter 41 = .ok (.aload_n 0, 1) := by decide +kernel
theorem dX9_appendCharacter_42 : decode cX9_appendCharacter 42 = .ok (.getfield 147, 3) := by decide +kernel
theorem dX9_appendCharacter_45 : decode cX9_appendCharacter 45 = .ok (.iload_n 1, 1) := by decide +kernel
theorem dX9_appendCharacter_46 : decode cX9_appendCharacter 46 = .ok (.iastore, 1) := by decide +kernel
theorem dX9_appendCharacter_47 : decode cX9_appendCharacter 47 = .ok (.aload_n 0, 1) := by decide +kernel
theorem dX9_appendCharacter_48 : decode cX9_appendCharacter 48 = .ok (.dup, 1) := by decide +kernel
theorem dX9_appendCharacter_49 : decode cX9_appendCharacter 49 = .ok (.getfield 147, 3) := by decide +kernel
theorem dX9_appendCharacter_52 : decode cX9_appendCharacter 52 = .ok (.iconst 1, 1) := by decide +kernel
theorem dX9_appendCharacter_53 : decode cX9_appendCharacter 53 = .ok (.iadd, 1) := by decide +kernel
theorem dX9_appendCharacter_54 : decode cX9_appendCharacter 54 = .ok (.putfield 147, 3) := by decide +kernel
theorem dX9_appendCharacter_57 : decode cX9_appendCharacter 57 = .ok (.aload_n 0, 1) := by decide +kernel
theorem dX9_appendCharacter_58 : decode cX9_appendCharacter 58 = .ok (.getfield 147, 3) := by decide +kernel
theorem dX9_appendCharacter_61 : decode cX9_appendCharacter 61 = .ok (.ireturn, 1) := by decide +kernel
theorem dX9_clears_0 : decode cX9_clears 0 = .ok (.iconst 0, 1) := by decide +kernel
theorem dX9_clears_1 : decode cX9_clears 1 = .ok (.istore_n 1, 1) := by decide +kernel
theorem dX9_clears_2 : decode cX9_clears 2 = .ok (.iload_n 1, 1) := by decide +kernel
theorem dX9_clears_3 : decode cX9_clears 3 = .ok (.bipush 33, 2) := by decide +kernel
theorem dX9_clears_5 : decode cX9_clears 5 = .ok (.if_icmp .ge 16, 3) := by decide +kernel
theorem dX9_clears_8 : decode cX9_clears 8 = .ok (.aload_n 0, 1) := by decide +kernel
theorem dX9_clears_9 : decode cX9_clears 9 = .ok (.getfield 16, 3) := by decide +kernel
theorem dX9_clears_12 : decode cX9_clears 12 = .ok (.iload_n 1, 1) := by decide +kernel
theorem dX9_clears_13 : decode cX9_clears 13 = .ok (.iconst 0, 1) := by decide +kernel
theorem dX9_clears_14 : decode cX9_clears 14 = .ok (.iastore, 1) := by decide +kernel
theorem dX9_clears_15 : decode cX9_clears 15 = .ok (.iinc 1 1, 3) := by decide +kernel
theorem dX9_clears_18 : decode cX9_clears 18 = .ok (.goto (-16), 3) := by decide +kernel
theorem dX9_clears_21 : decode cX9_clears 21 = .ok (.aload_n 0, 1) := by decide +kernel
theorem dX9_clears_22 : decode cX9_clears 22 = .ok (.getfield 16, 3) := by decide +kernel
theorem dX9_clears_25 : decode cX9_clears 25 = .ok (.bipush 30, 2) := by decide +kernel
theorem dX9_clears_27 : decode cX9_clears 27 = .ok (.bipush 7, 2) := by decide +kernel
theorem dX9_clears_29 : decode cX9_clears 29 = .ok (.iastore, 1) := by decide +kernel
theorem dX9_clears_30 : decode cX9_clears 30 = .ok (.aload_n 0, 1) := by decide +kernel
theorem dX9_clears_31 : decode cX9_clears 31 = .ok (.getfield 16, 3) := by decide +kernel
theorem dX9_clears_34 : decode cX9_clears 34 = .ok (.bipush 32, 2) := by decide +kernel
theorem dX9_clears_36 : decode cX9_clears 36 = .ok (.iconst 4, 1) := by decide +kernel
theorem dX9_clears_37 : decode cX9_clears 37 = .ok (.iastore, 1) := by decide +kernel
theorem dX9_clears_38 : decode cX9_clears 38 = .ok (.return_, 1) := by decide +kernel
theorem dX9_isAt_0 : decode cX9_isAt 0 = .ok (.iload_n 1, 1) := by decide +kernel
theorem dX9_isAt_1 : decode cX9_isAt 1 = .ok (.aload_n 0, 1) := by decide +kernel
theorem dX9_isAt_2 : decode cX9_isAt 2 = .ok (.getfield 147, 3) := by decide +kernel
theorem dX9_isAt_5 : decode cX9_isAt 5 = .ok (.if_icmp .ge 17, 3) := by decide +kernel
theorem dX9_isAt_8 : decode cX9_isAt 8 = .ok (.aload_n 0, 1) := by decide +kernel
theorem dX9_isAt_9 : decode cX9_isAt 9 = .ok (.getfield 22, 3) := by decide +kernel
theorem dX9_isAt_12 : decode cX9_isAt 12 = .ok (.iload_n 1, 1) := by decide +kernel
theorem dX9_isAt_13 : decode cX9_isAt 13 = .ok (.iaload, 1) := by decide +kernel
theorem dX9_isAt_14 : decode cX9_isAt 14 = .ok (.iload_n 2, 1) := by decide +kernel
theorem dX9_isAt_15 : decode cX9_isAt 15 = .ok (.if_icmp .ne 7, 3) := by decide +kernel
theorem dX9_isAt_18 : decode cX9_isAt 18 = .ok (.iconst 1, 1) := by decide +kernel
theorem dX9_isAt_19 : decode cX9_isAt 19 = .ok (.goto 4, 3) := by decide +kernel
theorem dX9_isAt_22 : decode cX9_isAt 22 = .ok (.iconst 0, 1) := by decide +kernel
theorem dX9_isAt_23 : decode cX9_isAt 23 = .ok (.ireturn, 1) := by decide +kernel
set_option maxRecDepth 20000 in
theorem dX9_skips_0 : decode cX9_skips 0 = .ok (.aload_n 0, 1) := by decide +kernel
theorem dX9_skips_1 : decode cX9_skips 1 = .ok (.aload_n 0, 1) := by decide +kernel
theorem dX9_skips_2 : decode cX9_skips 2 = .ok (.getfield 150, 3) := by decide +kernel
theorem dX9_skips_5 : decode cX9_skips 5 = .ok (.iload_n 1, 1) := by decide +kernel
theorem dX9_skips_6 : decode cX9_skips 6 = .ok (.invokevirtual 153, 3) := by decide +kernel
theorem dX9_skips_9 : decode cX9_skips 9 = .ok (.ifCond .ne 5, 3) := by decide +kernel
theorem dX9_skips_12 : decode cX9_skips 12 = .ok (.iconst 0, 1) := by decide +kernel
theorem dX9_skips_13 : decode cX9_skips 13 = .ok (.ireturn, 1) := by decide +kernel
theorem dX9_skips_14 : decode cX9_skips 14 = .ok (.aload_n 0, 1) := by decide +kernel
theorem dX9_skips_15 : decode cX9_skips 15 = .ok (.dup, 1) := by decide +kernel
theorem dX9_skips_16 : decode cX9_skips 16 = .ok (.getfield 150, 3) := by decide +kernel
theorem dX9_skips_19 : decode cX9_skips 19 = .ok (.iconst 1, 1) := by decide +kernel
theorem dX9_skips_20 : decode cX9_skips 20 = .ok (.iadd, 1) := by decide +kernel
theorem dX9_skips_21 : decode cX9_skips 21 = .ok (.putfield 150, 3) := by decide +kernel
theorem dX9_skips_24 : decode cX9_skips 24 = .ok (.iconst 1, 1) := by decide +kernel
theorem dX9_skips_25 : decode cX9_skips 25 = .ok (.ireturn, 1) := by decide +kernel
set_option maxRecDepth 20000 in
theorem dX9_isDigit_0 : decode cX9_isDigit 0 = .ok (.aload_n 0, 1) := by decide +kernel
theorem dX9_isDigit_1 : decode cX9_isDigit 1 = .ok (.getfield 150, 3) := by decide +kernel
theorem dX9_isDigit_4 : decode cX9_isDigit 4 = .ok (.aload_n 0, 1) := by decide +kernel
theorem dX9_isDigit_5 : decode cX9_isDigit 5 = .ok (.getfield 147, 3) := by decide +kernel
theorem dX9_isDigit_8 : decode cX9_isDigit 8 = .ok (.if_icmp .ge 26, 3) := by decide +kernel
theorem dX9_isDigit_11 : decode cX9_isDigit 11 = .ok (.aload_n 0, 1) := by decide +kernel
theorem dX9_isDigit_12 : decode cX9_isDigit 12 = .ok (.getfield 22, 3) := by decide +kernel
theorem dX9_isDigit_15 : decode cX9_isDigit 15 = .ok (.aload_n 0, 1) := by decide +kernel
theorem dX9_isDigit_16 : decode cX9_isDigit 16 = .ok (.getfield 150, 3) := by decide +kernel
theorem dX9_isDigit_19 : decode cX9_isDigit 19 = .ok (.iaload, 1) := by decide +kernel
theorem dX9_isDigit_20 : decode cX9_isDigit 20 = .ok (.bipush 48, 2) := by decide +kernel
theorem dX9_isDigit_22 : decode cX9_isDigit 22 = .ok (.bipush 57, 2) := by decide +kernel
theorem dX9_isDigit_24 : decode cX9_isDigit 24 = .ok (.invokestatic 70, 3) := by decide +kernel
theorem dX9_isDigit_27 : decode cX9_isDigit 27 = .ok (.ifCond .eq 7, 3) := by decide +kernel
theorem dX9_isDigit_30 : decode cX9_isDigit 30 = .ok (.iconst 1, 1) := by decide +kernel
theorem dX9_isDigit_31 : decode cX9_isDigit 31 = .ok (.goto 4, 3) := by decide +kernel
theorem dX9_isDigit_34 : decode cX9_isDigit 34 = .ok (.iconst 0, 1) := by decide +kernel
theorem dX9_isDigit_35 : decode cX9_isDigit 35 = .ok (.ireturn, 1) := by decide +kernel
set_option maxRecDepth 20000 in
theorem dX9_takes_0 : decode cX9_takes 0 = .ok (.aload_n 0, 1) := by decide +kernel
theorem dX9_takes_1 : decode cX9_takes 1 = .ok (.invokevirtual 156, 3) := by decide +kernel
theorem dX9_takes_4 : decode cX9_takes 4 = .ok (.ifCond .ne 5, 3) := by decide +kernel
theorem dX9_takes_7 : decode cX9_takes 7 = .ok (.iconst 0, 1) := by decide +kernel
theorem dX9_takes_8 : decode cX9_takes 8 = .ok (.ireturn, 1) := by decide +kernel
theorem dX9_takes_9 : decode cX9_takes 9 = .ok (.iconst 0, 1) := by decide +kernel
theorem dX9_takes_10 : decode cX9_takes 10 = .ok (.istore_n 2, 1) := by decide +kernel
theorem dX9_takes_11 : decode cX9_takes 11 = .ok (.iconst 0, 1) := by decide +kernel
theorem dX9_takes_12 : decode cX9_takes 12 = .ok (.istore_n 3, 1) := by decide +kernel
theorem dX9_takes_13 : decode cX9_takes 13 = .ok (.iload_n 3, 1) := by decide +kernel
theorem dX9_takes_14 : decode cX9_takes 14 = .ok (.bipush 6, 2) := by decide +kernel
theorem dX9_takes_16 : decode cX9_takes 16 = .ok (.if_icmp .ge 44, 3) := by decide +kernel
theorem dX9_takes_19 : decode cX9_takes 19 = .ok (.aload_n 0, 1) := by decide +kernel
theorem dX9_takes_20 : decode cX9_takes 20 = .ok (.invokevirtual 156, 3) := by decide +kernel
theorem dX9_takes_23 : decode cX9_takes 23 = .ok (.ifCond .eq 37, 3) := by decide +kernel
theorem dX9_takes_26 : decode cX9_takes 26 = .ok (.bipush 10, 2) := by decide +kernel
theorem dX9_takes_28 : decode cX9_takes 28 = .ok (.iload_n 2, 1) := by decide +kernel
theorem dX9_takes_29 : decode cX9_takes 29 = .ok (.imul, 1) := by decide +kernel
theorem dX9_takes_30 : decode cX9_takes 30 = .ok (.aload_n 0, 1) := by decide +kernel
theorem dX9_takes_31 : decode cX9_takes 31 = .ok (.getfield 22, 3) := by decide +kernel
theorem dX9_takes_34 : decode cX9_takes 34 = .ok (.aload_n 0, 1) := by decide +kernel
theorem dX9_takes_35 : decode cX9_takes 35 = .ok (.getfield 150, 3) := by decide +kernel
theorem dX9_takes_38 : decode cX9_takes 38 = .ok (.iaload, 1) := by decide +kernel
theorem dX9_takes_39 : decode cX9_takes 39 = .ok (.iadd, 1) := by decide +kernel
theorem dX9_takes_40 : decode cX9_takes 40 = .ok (.bipush 48, 2) := by decide +kernel
theorem dX9_takes_42 : decode cX9_takes 42 = .ok (.isub, 1) := by decide +kernel
theorem dX9_takes_43 : decode cX9_takes 43 = .ok (.istore_n 2, 1) := by decide +kernel
theorem dX9_takes_44 : decode cX9_takes 44 = .ok (.aload_n 0, 1) := by decide +kernel
theorem dX9_takes_45 : decode cX9_takes 45 = .ok (.dup, 1) := by decide +kernel
theorem dX9_takes_46 : decode cX9_takes 46 = .ok (.getfield 150, 3) := by decide +kernel
theorem dX9_takes_49 : decode cX9_takes 49 = .ok (.iconst 1, 1) := by decide +kernel
theorem dX9_takes_50 : decode cX9_takes 50 = .ok (.iadd, 1) := by decide +kernel
theorem dX9_takes_51 : decode cX9_takes 51 = .ok (.putfield 150, 3) := by decide +kernel
theorem dX9_takes_54 : decode cX9_takes 54 = .ok (.iinc 3 1, 3) := by decide +kernel
theorem dX9_takes_57 : decode cX9_takes 57 = .ok (.goto (-44), 3) := by decide +kernel
theorem dX9_takes_60 : decode cX9_takes 60 = .ok (.aload_n 0, 1) := by decide +kernel
theorem dX9_takes_61 : decode cX9_takes 61 = .ok (.getfield 16, 3) := by decide +kernel
theorem dX9_takes_64 : decode cX9_takes 64 = .ok (.iload_n 1, 1) := by decide +kernel
theorem dX9_takes_65 : decode cX9_takes 65 = .ok (.iload_n 2, 1) := by decide +kernel
theorem dX9_takes_66 : decode cX9_takes 66 = .ok (.iastore, 1) := by decide +kernel
theorem dX9_takes_67 : decode cX9_takes 67 = .ok (.iconst 1, 1) := by decide +kernel
theorem dX9_takes_68 : decode cX9_takes 68 = .ok (.ireturn, 1) := by decide +kernel
set_option maxRecDepth 20000 in
theorem dX9_begins_0 : decode cX9_begins 0 = .ok (.aload_n 0, 1) := by decide +kernel
theorem dX9_begins_1 : decode cX9_begins 1 = .ok (.aload_n 0, 1) := by decide +kernel
theorem dX9_begins_2 : decode cX9_begins 2 = .ok (.getfield 150, 3) := by decide +kernel
theorem dX9_begins_5 : decode cX9_begins 5 = .ok (.bipush 59, 2) := by decide +kernel
theorem dX9_begins_7 : decode cX9_begins 7 = .ok (.invokevirtual 153, 3) := by decide +kernel
theorem dX9_begins_10 : decode cX9_begins 10 = .ok (.ifCond .eq 17, 3) := by decide +kernel
theorem dX9_begins_13 : decode cX9_begins 13 = .ok (.aload_n 0, 1) := by decide +kernel
theorem dX9_begins_14 : decode cX9_begins 14 = .ok (.aload_n 0, 1) := by decide +kernel
theorem dX9_begins_15 : decode cX9_begins 15 = .ok (.getfield 150, 3) := by decide +kernel
theorem dX9_begins_18 : decode cX9_begins 18 = .ok (.iconst 1, 1) := by decide +kernel
theorem dX9_begins_19 : decode cX9_begins 19 = .ok (.iadd, 1) := by decide +kernel
theorem dX9_begins_20 : decode cX9_begins 20 = .ok (.iload_n 1, 1) := by decide +kernel
theorem dX9_begins_21 : decode cX9_begins 21 = .ok (.invokevirtual 153, 3) := by decide +kernel
theorem dX9_begins_24 : decode cX9_begins 24 = .ok (.ifCond .ne 5, 3) := by decide +kernel
theorem dX9_begins_27 : decode cX9_begins 27 = .ok (.iconst 0, 1) := by decide +kernel
theorem dX9_begins_28 : decode cX9_begins 28 = .ok (.ireturn, 1) := by decide +kernel
theorem dX9_begins_29 : decode cX9_begins 29 = .ok (.aload_n 0, 1) := by decide +kernel
theorem dX9_begins_30 : decode cX9_begins 30 = .ok (.dup, 1) := by decide +kernel
theorem dX9_begins_31 : decode cX9_begins 31 = .ok (.getfield 150, 3) := by decide +kernel
theorem dX9_begins_34 : decode cX9_begins 34 = .ok (.iconst 2, 1) := by decide +kernel
theorem dX9_begins_35 : decode cX9_begins 35 = .ok (.iadd, 1) := by decide +kernel
theorem dX9_begins_36 : decode cX9_begins 36 = .ok (.putfield 150, 3) := by decide +kernel
theorem dX9_begins_39 : decode cX9_begins 39 = .ok (.iconst 1, 1) := by decide +kernel
theorem dX9_begins_40 : decode cX9_begins 40 = .ok (.ireturn, 1) := by decide +kernel
set_option maxRecDepth 20000 in
theorem dX9_takesMonths_0 : decode cX9_takesMonths 0 = .ok (.aload_n 0, 1) := by decide +kernel
theorem dX9_takesMonths_1 : decode cX9_takesMonths 1 = .ok (.bipush 109, 2) := by decide +kernel
theorem dX9_takesMonths_3 : decode cX9_takesMonths 3 = .ok (.invokevirtual 160, 3) := by decide +kernel
theorem dX9_takesMonths_6 : decode cX9_takesMonths 6 = .ok (.ifCond .eq 11, 3) := by decide +kernel
theorem dX9_takesMonths_9 : decode cX9_takesMonths 9 = .ok (.aload_n 0, 1) := by decide +kernel
theorem dX9_takesMonths_10 : decode cX9_takesMonths 10 = .ok (.iconst 1, 1) := by decide +kernel
theorem dX9_takesMonths_11 : decode cX9_takesMonths 11 = .ok (.invokevirtual 163, 3) := by decide +kernel
theorem dX9_takesMonths_14 : decode cX9_takesMonths 14 = .ok (.ifCond .ne 5, 3) := by decide +kernel
theorem dX9_takesMonths_17 : decode cX9_takesMonths 17 = .ok (.iconst 0, 1) := by decide +kernel
theorem dX9_takesMonths_18 : decode cX9_takesMonths 18 = .ok (.ireturn, 1) := by decide +kernel
theorem dX9_takesMonths_19 : decode cX9_takesMonths 19 = .ok (.aload_n 0, 1) := by decide +kernel
theorem dX9_takesMonths_20 : decode cX9_takesMonths 20 = .ok (.getfield 16, 3) := by decide +kernel
theorem dX9_takesMonths_23 : decode cX9_takesMonths 23 = .ok (.iconst 0, 1) := by decide +kernel
theorem dX9_takesMonths_24 : decode cX9_takesMonths 24 = .ok (.iconst 1, 1) := by decide +kernel
theorem dX9_takesMonths_25 : decode cX9_takesMonths 25 = .ok (.iastore, 1) := by decide +kernel
theorem dX9_takesMonths_26 : decode cX9_takesMonths 26 = .ok (.aload_n 0, 1) := by decide +kernel
theorem dX9_takesMonths_27 : decode cX9_takesMonths 27 = .ok (.getfield 16, 3) := by decide +kernel
theorem dX9_takesMonths_30 : decode cX9_takesMonths 30 = .ok (.iconst 0, 1) := by decide +kernel
theorem dX9_takesMonths_31 : decode cX9_takesMonths 31 = .ok (.iaload, 1) := by decide +kernel
theorem dX9_takesMonths_32 : decode cX9_takesMonths 32 = .ok (.bipush 14, 2) := by decide +kernel
theorem dX9_takesMonths_34 : decode cX9_takesMonths 34 = .ok (.if_icmp .ge 42, 3) := by decide +kernel
theorem dX9_takesMonths_37 : decode cX9_takesMonths 37 = .ok (.aload_n 0, 1) := by decide +kernel
theorem dX9_takesMonths_38 : decode cX9_takesMonths 38 = .ok (.bipush 44, 2) := by decide +kernel
theorem dX9_takesMonths_40 : decode cX9_takesMonths 40 = .ok (.invokevirtual 160, 3) := by decide +kernel
theorem dX9_takesMonths_43 : decode cX9_takesMonths 43 = .ok (.ifCond .eq 33, 3) := by decide +kernel
theorem dX9_takesMonths_46 : decode cX9_takesMonths 46 = .ok (.aload_n 0, 1) := by decide +kernel
theorem dX9_takesMonths_47 : decode cX9_takesMonths 47 = .ok (.iconst 1, 1) := by decide +kernel
theorem dX9_takesMonths_48 : decode cX9_takesMonths 48 = .ok (.aload_n 0, 1) := by decide +kernel
theorem dX9_takesMonths_49 : decode cX9_takesMonths 49 = .ok (.getfield 16, 3) := by decide +kernel
theorem dX9_takesMonths_52 : decode cX9_takesMonths 52 = .ok (.iconst 0, 1) := by decide +kernel
theorem dX9_takesMonths_53 : decode cX9_takesMonths 53 = .ok (.iaload, 1) := by decide +kernel
theorem dX9_takesMonths_54 : decode cX9_takesMonths 54 = .ok (.iadd, 1) := by decide +kernel
theorem dX9_takesMonths_55 : decode cX9_takesMonths 55 = .ok (.invokevirtual 163, 3) := by decide +kernel
theorem dX9_takesMonths_58 : decode cX9_takesMonths 58 = .ok (.ifCond .ne 5, 3) := by decide +kernel
theorem dX9_takesMonths_61 : decode cX9_takesMonths 61 = .ok (.iconst 0, 1) := by decide +kernel
theorem dX9_takesMonths_62 : decode cX9_takesMonths 62 = .ok (.ireturn, 1) := by decide +kernel
theorem dX9_takesMonths_63 : decode cX9_takesMonths 63 = .ok (.aload_n 0, 1) := by decide +kernel
theorem dX9_takesMonths_64 : decode cX9_takesMonths 64 = .ok (.getfield 16, 3) := by decide +kernel
theorem dX9_takesMonths_67 : decode cX9_takesMonths 67 = .ok (.iconst 0, 1) := by decide +kernel
theorem dX9_takesMonths_68 : decode cX9_takesMonths 68 = .ok (.dup2, 1) := by decide +kernel
theorem dX9_takesMonths_69 : decode cX9_takesMonths 69 = .ok (.iaload, 1) := by decide +kernel
theorem dX9_takesMonths_70 : decode cX9_takesMonths 70 = .ok (.iconst 1, 1) := by decide +kernel
theorem dX9_takesMonths_71 : decode cX9_takesMonths 71 = .ok (.iadd, 1) := by decide +kernel
theorem dX9_takesMonths_72 : decode cX9_takesMonths 72 = .ok (.iastore, 1) := by decide +kernel
theorem dX9_takesMonths_73 : decode cX9_takesMonths 73 = .ok (.goto (-47), 3) := by decide +kernel
theorem dX9_takesMonths_76 : decode cX9_takesMonths 76 = .ok (.iconst 1, 1) := by decide +kernel
theorem dX9_takesMonths_77 : decode cX9_takesMonths 77 = .ok (.ireturn, 1) := by decide +kernel
set_option maxRecDepth 20000 in
theorem dX9_takesFirst_0 : decode cX9_takesFirst 0 = .ok (.aload_n 0, 1) := by decide +kernel
theorem dX9_takesFirst_1 : decode cX9_takesFirst 1 = .ok (.bipush 59, 2) := by decide +kernel
theorem dX9_takesFirst_3 : decode cX9_takesFirst 3 = .ok (.invokevirtual 160, 3) := by decide +kernel
theorem dX9_takesFirst_6 : decode cX9_takesFirst 6 = .ok (.ifCond .eq 12, 3) := by decide +kernel
theorem dX9_takesFirst_9 : decode cX9_takesFirst 9 = .ok (.aload_n 0, 1) := by decide +kernel
theorem dX9_takesFirst_10 : decode cX9_takesFirst 10 = .ok (.bipush 101, 2) := by decide +kernel
theorem dX9_takesFirst_12 : decode cX9_takesFirst 12 = .ok (.invokevirtual 160, 3) := by decide +kernel
theorem dX9_takesFirst_15 : decode cX9_takesFirst 15 = .ok (.ifCond .ne 5, 3) := by decide +kernel
theorem dX9_takesFirst_18 : decode cX9_takesFirst 18 = .ok (.iconst 0, 1) := by decide +kernel
theorem dX9_takesFirst_19 : decode cX9_takesFirst 19 = .ok (.ireturn, 1) := by decide +kernel
theorem dX9_takesFirst_20 : decode cX9_takesFirst 20 = .ok (.aload_n 0, 1) := by decide +kernel
theorem dX9_takesFirst_21 : decode cX9_takesFirst 21 = .ok (.bipush 45, 2) := by decide +kernel
theorem dX9_takesFirst_23 : decode cX9_takesFirst 23 = .ok (.invokevirtual 160, 3) := by decide +kernel
theorem dX9_takesFirst_26 : decode cX9_takesFirst 26 = .ok (.istore_n 1, 1) := by decide +kernel
theorem dX9_takesFirst_27 : decode cX9_takesFirst 27 = .ok (.aload_n 0, 1) := by decide +kernel
theorem dX9_takesFirst_28 : decode cX9_takesFirst 28 = .ok (.bipush 15, 2) := by decide +kernel
theorem dX9_takesFirst_30 : decode cX9_takesFirst 30 = .ok (.invokevirtual 163, 3) := by decide +kernel
theorem dX9_takesFirst_33 : decode cX9_takesFirst 33 = .ok (.ifCond .ne 5, 3) := by decide +kernel
theorem dX9_takesFirst_36 : decode cX9_takesFirst 36 = .ok (.iconst 0, 1) := by decide +kernel
theorem dX9_takesFirst_37 : decode cX9_takesFirst 37 = .ok (.ireturn, 1) := by decide +kernel
theorem dX9_takesFirst_38 : decode cX9_takesFirst 38 = .ok (.aload_n 0, 1) := by decide +kernel
theorem dX9_takesFirst_39 : decode cX9_takesFirst 39 = .ok (.getfield 16, 3) := by decide +kernel
theorem dX9_takesFirst_42 : decode cX9_takesFirst 42 = .ok (.bipush 15, 2) := by decide +kernel
theorem dX9_takesFirst_44 : decode cX9_takesFirst 44 = .ok (.iload_n 1, 1) := by decide +kernel
theorem dX9_takesFirst_45 : decode cX9_takesFirst 45 = .ok (.ifCond .eq 14, 3) := by decide +kernel
theorem dX9_takesFirst_48 : decode cX9_takesFirst 48 = .ok (.aload_n 0, 1) := by decide +kernel
theorem dX9_takesFirst_49 : decode cX9_takesFirst 49 = .ok (.getfield 16, 3) := by decide +kernel
theorem dX9_takesFirst_52 : decode cX9_takesFirst 52 = .ok (.bipush 15, 2) := by decide +kernel
theorem dX9_takesFirst_54 : decode cX9_takesFirst 54 = .ok (.iaload, 1) := by decide +kernel
theorem dX9_takesFirst_55 : decode cX9_takesFirst 55 = .ok (.ineg, 1) := by decide +kernel
theorem dX9_takesFirst_56 : decode cX9_takesFirst 56 = .ok (.goto 10, 3) := by decide +kernel
theorem dX9_takesFirst_59 : decode cX9_takesFirst 59 = .ok (.aload_n 0, 1) := by decide +kernel
theorem dX9_takesFirst_60 : decode cX9_takesFirst 60 = .ok (.getfield 16, 3) := by decide +kernel
theorem dX9_takesFirst_63 : decode cX9_takesFirst 63 = .ok (.bipush 15, 2) := by decide +kernel
theorem dX9_takesFirst_65 : decode cX9_takesFirst 65 = .ok (.iaload, 1) := by decide +kernel
theorem dX9_takesFirst_66 : decode cX9_takesFirst 66 = .ok (.iastore, 1) := by decide +kernel
theorem dX9_takesFirst_67 : decode cX9_takesFirst 67 = .ok (.iconst 1, 1) := by decide +kernel
theorem dX9_takesFirst_68 : decode cX9_takesFirst 68 = .ok (.ireturn, 1) := by decide +kernel
set_option maxRecDepth 20000 in
theorem dX9_takesLeap_0 : decode cX9_takesLeap 0 = .ok (.aload_n 0, 1) := by decide +kernel
theorem dX9_takesLeap_1 : decode cX9_takesLeap 1 = .ok (.bipush 100, 2) := by decide +kernel
theorem dX9_takesLeap_3 : decode cX9_takesLeap 3 = .ok (.invokevirtual 166, 3) := by decide +kernel
theorem dX9_takesLeap_6 : decode cX9_takesLeap 6 = .ok (.ifCond .eq 18, 3) := by decide +kernel
theorem dX9_takesLeap_9 : decode cX9_takesLeap 9 = .ok (.aload_n 0, 1) := by decide +kernel
theorem dX9_takesLeap_10 : decode cX9_takesLeap 10 = .ok (.getfield 16, 3) := by decide +kernel
theorem dX9_takesLeap_13 : decode cX9_takesLeap 13 = .ok (.bipush 16, 2) := by decide +kernel
theorem dX9_takesLeap_15 : decode cX9_takesLeap 15 = .ok (.iconst 1, 1) := by decide +kernel
theorem dX9_takesLeap_16 : decode cX9_takesLeap 16 = .ok (.iastore, 1) := by decide +kernel
theorem dX9_takesLeap_17 : decode cX9_takesLeap 17 = .ok (.aload_n 0, 1) := by decide +kernel
theorem dX9_takesLeap_18 : decode cX9_takesLeap 18 = .ok (.bipush 17, 2) := by decide +kernel
theorem dX9_takesLeap_20 : decode cX9_takesLeap 20 = .ok (.invokevirtual 163, 3) := by decide +kernel
theorem dX9_takesLeap_23 : decode cX9_takesLeap 23 = .ok (.ireturn, 1) := by decide +kernel
theorem dX9_takesLeap_24 : decode cX9_takesLeap 24 = .ok (.aload_n 0, 1) := by decide +kernel
theorem dX9_takesLeap_25 : decode cX9_takesLeap 25 = .ok (.bipush 105, 2) := by decide +kernel
theorem dX9_takesLeap_27 : decode cX9_takesLeap 27 = .ok (.invokevirtual 166, 3) := by decide +kernel
theorem dX9_takesLeap_30 : decode cX9_takesLeap 30 = .ok (.ifCond .ne 5, 3) := by decide +kernel
theorem dX9_takesLeap_33 : decode cX9_takesLeap 33 = .ok (.iconst 1, 1) := by decide +kernel
theorem dX9_takesLeap_34 : decode cX9_takesLeap 34 = .ok (.ireturn, 1) := by decide +kernel
theorem dX9_takesLeap_35 : decode cX9_takesLeap 35 = .ok (.aload_n 0, 1) := by decide +kernel
theorem dX9_takesLeap_36 : decode cX9_takesLeap 36 = .ok (.getfield 16, 3) := by decide +kernel
theorem dX9_takesLeap_39 : decode cX9_takesLeap 39 = .ok (.bipush 16, 2) := by decide +kernel
theorem dX9_takesLeap_41 : decode cX9_takesLeap 41 = .ok (.iconst 2, 1) := by decide +kernel
theorem dX9_takesLeap_42 : decode cX9_takesLeap 42 = .ok (.iastore, 1) := by decide +kernel
theorem dX9_takesLeap_43 : decode cX9_takesLeap 43 = .ok (.aload_n 0, 1) := by decide +kernel
theorem dX9_takesLeap_44 : decode cX9_takesLeap 44 = .ok (.bipush 17, 2) := by decide +kernel
theorem dX9_takesLeap_46 : decode cX9_takesLeap 46 = .ok (.invokevirtual 163, 3) := by decide +kernel
theorem dX9_takesLeap_49 : decode cX9_takesLeap 49 = .ok (.ifCond .eq 25, 3) := by decide +kernel
theorem dX9_takesLeap_52 : decode cX9_takesLeap 52 = .ok (.aload_n 0, 1) := by decide +kernel
theorem dX9_takesLeap_53 : decode cX9_takesLeap 53 = .ok (.bipush 44, 2) := by decide +kernel
theorem dX9_takesLeap_55 : decode cX9_takesLeap 55 = .ok (.invokevirtual 160, 3) := by decide +kernel
theorem dX9_takesLeap_58 : decode cX9_takesLeap 58 = .ok (.ifCond .eq 16, 3) := by decide +kernel
theorem dX9_takesLeap_61 : decode cX9_takesLeap 61 = .ok (.aload_n 0, 1) := by decide +kernel
theorem dX9_takesLeap_62 : decode cX9_takesLeap 62 = .ok (.bipush 18, 2) := by decide +kernel
theorem dX9_takesLeap_64 : decode cX9_takesLeap 64 = .ok (.invokevirtual 163, 3) := by decide +kernel
theorem dX9_takesLeap_67 : decode cX9_takesLeap 67 = .ok (.ifCond .eq 7, 3) := by decide +kernel
theorem dX9_takesLeap_70 : decode cX9_takesLeap 70 = .ok (.iconst 1, 1) := by decide +kernel
theorem dX9_takesLeap_71 : decode cX9_takesLeap 71 = .ok (.goto 4, 3) := by decide +kernel
theorem dX9_takesLeap_74 : decode cX9_takesLeap 74 = .ok (.iconst 0, 1) := by decide +kernel
theorem dX9_takesLeap_75 : decode cX9_takesLeap 75 = .ok (.ireturn, 1) := by decide +kernel
set_option maxRecDepth 20000 in
theorem dX9_takesDivisors_0 : decode cX9_takesDivisors 0 = .ok (.aload_n 0, 1) := by decide +kernel
theorem dX9_takesDivisors_1 : decode cX9_takesDivisors 1 = .ok (.getfield 16, 3) := by decide +kernel
theorem dX9_takesDivisors_4 : decode cX9_takesDivisors 4 = .ok (.bipush 19, 2) := by decide +kernel
theorem dX9_takesDivisors_6 : decode cX9_takesDivisors 6 = .ok (.iconst 1, 1) := by decide +kernel
theorem dX9_takesDivisors_7 : decode cX9_takesDivisors 7 = .ok (.iastore, 1) := by decide +kernel
theorem dX9_takesDivisors_8 : decode cX9_takesDivisors 8 = .ok (.iconst 0, 1) := by decide +kernel
theorem dX9_takesDivisors_9 : decode cX9_takesDivisors 9 = .ok (.istore_n 1, 1) := by decide +kernel
theorem dX9_takesDivisors_10 : decode cX9_takesDivisors 10 = .ok (.aload_n 0, 1) := by decide +kernel
theorem dX9_takesDivisors_11 : decode cX9_takesDivisors 11 = .ok (.bipush 20, 2) := by decide +kernel
theorem dX9_takesDivisors_13 : decode cX9_takesDivisors 13 = .ok (.iload_n 1, 1) := by decide +kernel
theorem dX9_takesDivisors_14 : decode cX9_takesDivisors 14 = .ok (.iadd, 1) := by decide +kernel
theorem dX9_takesDivisors_15 : decode cX9_takesDivisors 15 = .ok (.invokevirtual 163, 3) := by decide +kernel
theorem dX9_takesDivisors_18 : decode cX9_takesDivisors 18 = .ok (.ifCond .ne 5, 3) := by decide +kernel
theorem dX9_takesDivisors_21 : decode cX9_takesDivisors 21 = .ok (.iconst 0, 1) := by decide +kernel
theorem dX9_takesDivisors_22 : decode cX9_takesDivisors 22 = .ok (.ireturn, 1) := by decide +kernel
theorem dX9_takesDivisors_23 : decode cX9_takesDivisors 23 = .ok (.aload_n 0, 1) := by decide +kernel
theorem dX9_takesDivisors_24 : decode cX9_takesDivisors 24 = .ok (.getfield 16, 3) := by decide +kernel
theorem dX9_takesDivisors_27 : decode cX9_takesDivisors 27 = .ok (.bipush 24, 2) := by decide +kernel
theorem dX9_takesDivisors_29 : decode cX9_takesDivisors 29 = .ok (.iload_n 1, 1) := by decide +kernel
theorem dX9_takesDivisors_30 : decode cX9_takesDivisors 30 = .ok (.iadd, 1) := by decide +kernel
theorem dX9_takesDivisors_31 : decode cX9_takesDivisors 31 = .ok (.aload_n 0, 1) := by decide +kernel
theorem dX9_takesDivisors_32 : decode cX9_takesDivisors 32 = .ok (.aload_n 0, 1) := by decide +kernel
theorem dX9_takesDivisors_33 : decode cX9_takesDivisors 33 = .ok (.getfield 150, 3) := by decide +kernel
theorem dX9_takesDivisors_36 : decode cX9_takesDivisors 36 = .ok (.bipush 43, 2) := by decide +kernel
theorem dX9_takesDivisors_38 : decode cX9_takesDivisors 38 = .ok (.invokevirtual 153, 3) := by decide +kernel
theorem dX9_takesDivisors_41 : decode cX9_takesDivisors 41 = .ok (.ifCond .eq 7, 3) := by decide +kernel
theorem dX9_takesDivisors_44 : decode cX9_takesDivisors 44 = .ok (.iconst 1, 1) := by decide +kernel
theorem dX9_takesDivisors_45 : decode cX9_takesDivisors 45 = .ok (.goto 4, 3) := by decide +kernel
theorem dX9_takesDivisors_48 : decode cX9_takesDivisors 48 = .ok (.iconst (-1), 1) := by decide +kernel
theorem dX9_takesDivisors_49 : decode cX9_takesDivisors 49 = .ok (.iastore, 1) := by decide +kernel
theorem dX9_takesDivisors_50 : decode cX9_takesDivisors 50 = .ok (.aload_n 0, 1) := by decide +kernel
theorem dX9_takesDivisors_51 : decode cX9_takesDivisors 51 = .ok (.bipush 43, 2) := by decide +kernel
theorem dX9_takesDivisors_53 : decode cX9_takesDivisors 53 = .ok (.invokevirtual 160, 3) := by decide +kernel
theorem dX9_takesDivisors_56 : decode cX9_takesDivisors 56 = .ok (.ifCond .ne 14, 3) := by decide +kernel
theorem dX9_takesDivisors_59 : decode cX9_takesDivisors 59 = .ok (.aload_n 0, 1) := by decide +kernel
theorem dX9_takesDivisors_60 : decode cX9_takesDivisors 60 = .ok (.bipush 45, 2) := by decide +kernel
theorem dX9_takesDivisors_62 : decode cX9_takesDivisors 62 = .ok (.invokevirtual 160, 3) := by decide +kernel
theorem dX9_takesDivisors_65 : decode cX9_takesDivisors 65 = .ok (.ifCond .ne 5, 3) := by decide +kernel
theorem dX9_takesDivisors_68 : decode cX9_takesDivisors 68 = .ok (.iconst 0, 1) := by decide +kernel
theorem dX9_takesDivisors_69 : decode cX9_takesDivisors 69 = .ok (.ireturn, 1) := by decide +kernel
theorem dX9_takesDivisors_70 : decode cX9_takesDivisors 70 = .ok (.iinc 1 1, 3) := by decide +kernel
theorem dX9_takesDivisors_73 : decode cX9_takesDivisors 73 = .ok (.iload_n 1, 1) := by decide +kernel
theorem dX9_takesDivisors_74 : decode cX9_takesDivisors 74 = .ok (.iconst 4, 1) := by decide +kernel
theorem dX9_takesDivisors_75 : decode cX9_takesDivisors 75 = .ok (.if_icmp .ge 10, 3) := by decide +kernel
theorem dX9_takesDivisors_78 : decode cX9_takesDivisors 78 = .ok (.aload_n 0, 1) := by decide +kernel
theorem dX9_takesDivisors_79 : decode cX9_takesDivisors 79 = .ok (.invokevirtual 156, 3) := by decide +kernel
theorem dX9_takesDivisors_82 : decode cX9_takesDivisors 82 = .ok (.ifCond .ne (-72), 3) := by decide +kernel
theorem dX9_takesDivisors_85 : decode cX9_takesDivisors 85 = .ok (.iconst 1, 1) := by decide +kernel
theorem dX9_takesDivisors_86 : decode cX9_takesDivisors 86 = .ok (.ireturn, 1) := by decide +kernel
set_option maxRecDepth 20000 in
theorem dX9_takesRemainder_0 : decode cX9_takesRemainder 0 = .ok (.aload_n 0, 1) := by decide +kernel
theorem dX9_takesRemainder_1 : decode cX9_takesRemainder 1 = .ok (.getfield 16, 3) := by decide +kernel
theorem dX9_takesRemainder_4 : decode cX9_takesRemainder 4 = .ok (.bipush 29, 2) := by decide +kernel
theorem dX9_takesRemainder_6 : decode cX9_takesRemainder 6 = .ok (.iaload, 1) := by decide +kernel
theorem dX9_takesRemainder_7 : decode cX9_takesRemainder 7 = .ok (.istore_n 1, 1) := by decide +kernel
theorem dX9_takesRemainder_8 : decode cX9_takesRemainder 8 = .ok (.aload_n 0, 1) := by decide +kernel
theorem dX9_takesRemainder_9 : decode cX9_takesRemainder 9 = .ok (.bipush 29, 2) := by decide +kernel
theorem dX9_takesRemainder_11 : decode cX9_takesRemainder 11 = .ok (.invokevirtual 163, 3) := by decide +kernel
theorem dX9_takesRemainder_14 : decode cX9_takesRemainder 14 = .ok (.ifCond .ne 5, 3) := by decide +kernel
theorem dX9_takesRemainder_17 : decode cX9_takesRemainder 17 = .ok (.iconst 0, 1) := by decide +kernel
theorem dX9_takesRemainder_18 : decode cX9_takesRemainder 18 = .ok (.ireturn, 1) := by decide +kernel
theorem dX9_takesRemainder_19 : decode cX9_takesRemainder 19 = .ok (.aload_n 0, 1) := by decide +kernel
theorem dX9_takesRemainder_20 : decode cX9_takesRemainder 20 = .ok (.aload_n 0, 1) := by decide +kernel
theorem dX9_takesRemainder_21 : decode cX9_takesRemainder 21 = .ok (.getfield 16, 3) := by decide +kernel
theorem dX9_takesRemainder_24 : decode cX9_takesRemainder 24 = .ok (.bipush 29, 2) := by decide +kernel
theorem dX9_takesRemainder_26 : decode cX9_takesRemainder 26 = .ok (.iaload, 1) := by decide +kernel
theorem dX9_takesRemainder_27 : decode cX9_takesRemainder 27 = .ok (.putfield 169, 3) := by decide +kernel
theorem dX9_takesRemainder_30 : decode cX9_takesRemainder 30 = .ok (.aload_n 0, 1) := by decide +kernel
theorem dX9_takesRemainder_31 : decode cX9_takesRemainder 31 = .ok (.getfield 16, 3) := by decide +kernel
theorem dX9_takesRemainder_34 : decode cX9_takesRemainder 34 = .ok (.bipush 29, 2) := by decide +kernel
theorem dX9_takesRemainder_36 : decode cX9_takesRemainder 36 = .ok (.iload_n 1, 1) := by decide +kernel
theorem dX9_takesRemainder_37 : decode cX9_takesRemainder 37 = .ok (.iastore, 1) := by decide +kernel
theorem dX9_takesRemainder_38 : decode cX9_takesRemainder 38 = .ok (.aload_n 0, 1) := by decide +kernel
theorem dX9_takesRemainder_39 : decode cX9_takesRemainder 39 = .ok (.aload_n 0, 1) := by decide +kernel
theorem dX9_takesRemainder_40 : decode cX9_takesRemainder 40 = .ok (.getfield 172, 3) := by decide +kernel
theorem dX9_takesRemainder_43 : decode cX9_takesRemainder 43 = .ok (.ifCond .ne 17, 3) := by decide +kernel
theorem dX9_takesRemainder_46 : decode cX9_takesRemainder 46 = .ok (.aload_n 0, 1) := by decide +kernel
theorem dX9_takesRemainder_47 : decode cX9_takesRemainder 47 = .ok (.getfield 169, 3) := by decide +kernel
theorem dX9_takesRemainder_50 : decode cX9_takesRemainder 50 = .ok (.aload_n 0, 1) := by decide +kernel
theorem dX9_takesRemainder_51 : decode cX9_takesRemainder 51 = .ok (.getfield 16, 3) := by decide +kernel
theorem dX9_takesRemainder_54 : decode cX9_takesRemainder 54 = .ok (.bipush 28, 2) := by decide +kernel
theorem dX9_takesRemainder_56 : decode cX9_takesRemainder 56 = .ok (.iaload, 1) := by decide +kernel
theorem dX9_takesRemainder_57 : decode cX9_takesRemainder 57 = .ok (.if_icmp .lt 7, 3) := by decide +kernel
theorem dX9_takesRemainder_60 : decode cX9_takesRemainder 60 = .ok (.iconst 1, 1) := by decide +kernel
theorem dX9_takesRemainder_61 : decode cX9_takesRemainder 61 = .ok (.goto 4, 3) := by decide +kernel
theorem dX9_takesRemainder_64 : decode cX9_takesRemainder 64 = .ok (.iconst 0, 1) := by decide +kernel
theorem dX9_takesRemainder_65 : decode cX9_takesRemainder 65 = .ok (.putfield 172, 3) := by decide +kernel
theorem dX9_takesRemainder_68 : decode cX9_takesRemainder 68 = .ok (.aload_n 0, 1) := by decide +kernel
theorem dX9_takesRemainder_69 : decode cX9_takesRemainder 69 = .ok (.getfield 169, 3) := by decide +kernel
theorem dX9_takesRemainder_72 : decode cX9_takesRemainder 72 = .ok (.bipush 30, 2) := by decide +kernel
theorem dX9_takesRemainder_74 : decode cX9_takesRemainder 74 = .ok (.if_icmp .ge 19, 3) := by decide +kernel
theorem dX9_takesRemainder_77 : decode cX9_takesRemainder 77 = .ok (.aload_n 0, 1) := by decide +kernel
theorem dX9_takesRemainder_78 : decode cX9_takesRemainder 78 = .ok (.getfield 16, 3) := by decide +kernel
theorem dX9_takesRemainder_81 : decode cX9_takesRemainder 81 = .ok (.bipush 29, 2) := by decide +kernel
theorem dX9_takesRemainder_83 : decode cX9_takesRemainder 83 = .ok (.dup2, 1) := by decide +kernel
theorem dX9_takesRemainder_84 : decode cX9_takesRemainder 84 = .ok (.iaload, 1) := by decide +kernel
theorem dX9_takesRemainder_85 : decode cX9_takesRemainder 85 = .ok (.iconst 1, 1) := by decide +kernel
theorem dX9_takesRemainder_86 : decode cX9_takesRemainder 86 = .ok (.aload_n 0, 1) := by decide +kernel
theorem dX9_takesRemainder_87 : decode cX9_takesRemainder 87 = .ok (.getfield 169, 3) := by decide +kernel
theorem dX9_takesRemainder_90 : decode cX9_takesRemainder 90 = .ok (.ishl, 1) := by decide +kernel
theorem dX9_takesRemainder_91 : decode cX9_takesRemainder 91 = .ok (.ior, 1) := by decide +kernel
theorem dX9_takesRemainder_92 : decode cX9_takesRemainder 92 = .ok (.iastore, 1) := by decide +kernel
theorem dX9_takesRemainder_93 : decode cX9_takesRemainder 93 = .ok (.iconst 1, 1) := by decide +kernel
theorem dX9_takesRemainder_94 : decode cX9_takesRemainder 94 = .ok (.ireturn, 1) := by decide +kernel
set_option maxRecDepth 20000 in
theorem dX9_takesCycle_0 : decode cX9_takesCycle 0 = .ok (.aload_n 0, 1) := by decide +kernel
theorem dX9_takesCycle_1 : decode cX9_takesCycle 1 = .ok (.getfield 16, 3) := by decide +kernel
theorem dX9_takesCycle_4 : decode cX9_takesCycle 4 = .ok (.bipush 19, 2) := by decide +kernel
theorem dX9_takesCycle_6 : decode cX9_takesCycle 6 = .ok (.iconst 2, 1) := by decide +kernel
theorem dX9_takesCycle_7 : decode cX9_takesCycle 7 = .ok (.iastore, 1) := by decide +kernel
theorem dX9_takesCycle_8 : decode cX9_takesCycle 8 = .ok (.aload_n 0, 1) := by decide +kernel
theorem dX9_takesCycle_9 : decode cX9_takesCycle 9 = .ok (.bipush 28, 2) := by decide +kernel
theorem dX9_takesCycle_11 : decode cX9_takesCycle 11 = .ok (.invokevirtual 163, 3) := by decide +kernel
theorem dX9_takesCycle_14 : decode cX9_takesCycle 14 = .ok (.ifCond .eq 12, 3) := by decide +kernel
theorem dX9_takesCycle_17 : decode cX9_takesCycle 17 = .ok (.aload_n 0, 1) := by decide +kernel
theorem dX9_takesCycle_18 : decode cX9_takesCycle 18 = .ok (.bipush 58, 2) := by decide +kernel
theorem dX9_takesCycle_20 : decode cX9_takesCycle 20 = .ok (.invokevirtual 160, 3) := by decide +kernel
theorem dX9_takesCycle_23 : decode cX9_takesCycle 23 = .ok (.ifCond .ne 5, 3) := by decide +kernel
theorem dX9_takesCycle_26 : decode cX9_takesCycle 26 = .ok (.iconst 0, 1) := by decide +kernel
theorem dX9_takesCycle_27 : decode cX9_takesCycle 27 = .ok (.ireturn, 1) := by decide +kernel
theorem dX9_takesCycle_28 : decode cX9_takesCycle 28 = .ok (.aload_n 0, 1) := by decide +kernel
theorem dX9_takesCycle_29 : decode cX9_takesCycle 29 = .ok (.invokevirtual 176, 3) := by decide +kernel
theorem dX9_takesCycle_32 : decode cX9_takesCycle 32 = .ok (.ifCond .ne 5, 3) := by decide +kernel
theorem dX9_takesCycle_35 : decode cX9_takesCycle 35 = .ok (.iconst 0, 1) := by decide +kernel
theorem dX9_takesCycle_36 : decode cX9_takesCycle 36 = .ok (.ireturn, 1) := by decide +kernel
theorem dX9_takesCycle_37 : decode cX9_takesCycle 37 = .ok (.aload_n 0, 1) := by decide +kernel
theorem dX9_takesCycle_38 : decode cX9_takesCycle 38 = .ok (.bipush 44, 2) := by decide +kernel
theorem dX9_takesCycle_40 : decode cX9_takesCycle 40 = .ok (.invokevirtual 160, 3) := by decide +kernel
theorem dX9_takesCycle_43 : decode cX9_takesCycle 43 = .ok (.ifCond .ne (-15), 3) := by decide +kernel
theorem dX9_takesCycle_46 : decode cX9_takesCycle 46 = .ok (.iconst 1, 1) := by decide +kernel
theorem dX9_takesCycle_47 : decode cX9_takesCycle 47 = .ok (.ireturn, 1) := by decide +kernel
set_option maxRecDepth 20000 in
theorem dX9_takesRule_0 : decode cX9_takesRule 0 = .ok (.aload_n 0, 1) := by decide +kernel
theorem dX9_takesRule_1 : decode cX9_takesRule 1 = .ok (.bipush 108, 2) := by decide +kernel
theorem dX9_takesRule_3 : decode cX9_takesRule 3 = .ok (.invokevirtual 166, 3) := by decide +kernel
theorem dX9_takesRule_6 : decode cX9_takesRule 6 = .ok (.ifCond .eq 10, 3) := by decide +kernel
theorem dX9_takesRule_9 : decode cX9_takesRule 9 = .ok (.aload_n 0, 1) := by decide +kernel
theorem dX9_takesRule_10 : decode cX9_takesRule 10 = .ok (.invokevirtual 179, 3) := by decide +kernel
theorem dX9_takesRule_13 : decode cX9_takesRule 13 = .ok (.goto 24, 3) := by decide +kernel
theorem dX9_takesRule_16 : decode cX9_takesRule 16 = .ok (.aload_n 0, 1) := by decide +kernel
theorem dX9_takesRule_17 : decode cX9_takesRule 17 = .ok (.bipush 99, 2) := by decide +kernel
theorem dX9_takesRule_19 : decode cX9_takesRule 19 = .ok (.invokevirtual 166, 3) := by decide +kernel
theorem dX9_takesRule_22 : decode cX9_takesRule 22 = .ok (.ifCond .eq 10, 3) := by decide +kernel
theorem dX9_takesRule_25 : decode cX9_takesRule 25 = .ok (.aload_n 0, 1) := by decide +kernel
theorem dX9_takesRule_26 : decode cX9_takesRule 26 = .ok (.invokevirtual 182, 3) := by decide +kernel
theorem dX9_takesRule_29 : decode cX9_takesRule 29 = .ok (.ifCond .eq 7, 3) := by decide +kernel
theorem dX9_takesRule_32 : decode cX9_takesRule 32 = .ok (.iconst 1, 1) := by decide +kernel
theorem dX9_takesRule_33 : decode cX9_takesRule 33 = .ok (.goto 4, 3) := by decide +kernel
theorem dX9_takesRule_36 : decode cX9_takesRule 36 = .ok (.iconst 0, 1) := by decide +kernel
theorem dX9_takesRule_37 : decode cX9_takesRule 37 = .ok (.ireturn, 1) := by decide +kernel
set_option maxRecDepth 20000 in
theorem dX9_takesWeeks_0 : decode cX9_takesWeeks 0 = .ok (.aload_n 0, 1) := by decide +kernel
theorem dX9_takesWeeks_1 : decode cX9_takesWeeks 1 = .ok (.bipush 119, 2) := by decide +kernel
theorem dX9_takesWeeks_3 : decode cX9_takesWeeks 3 = .ok (.invokevirtual 166, 3) := by decide +kernel
theorem dX9_takesWeeks_6 : decode cX9_takesWeeks 6 = .ok (.ifCond .eq 48, 3) := by decide +kernel
theorem dX9_takesWeeks_9 : decode cX9_takesWeeks 9 = .ok (.aload_n 0, 1) := by decide +kernel
theorem dX9_takesWeeks_10 : decode cX9_takesWeeks 10 = .ok (.bipush 30, 2) := by decide +kernel
theorem dX9_takesWeeks_12 : decode cX9_takesWeeks 12 = .ok (.invokevirtual 163, 3) := by decide +kernel
theorem dX9_takesWeeks_15 : decode cX9_takesWeeks 15 = .ok (.ifCond .eq 43, 3) := by decide +kernel
theorem dX9_takesWeeks_18 : decode cX9_takesWeeks 18 = .ok (.aload_n 0, 1) := by decide +kernel
theorem dX9_takesWeeks_19 : decode cX9_takesWeeks 19 = .ok (.bipush 44, 2) := by decide +kernel
theorem dX9_takesWeeks_21 : decode cX9_takesWeeks 21 = .ok (.invokevirtual 160, 3) := by decide +kernel
theorem dX9_takesWeeks_24 : decode cX9_takesWeeks 24 = .ok (.ifCond .eq 34, 3) := by decide +kernel
theorem dX9_takesWeeks_27 : decode cX9_takesWeeks 27 = .ok (.aload_n 0, 1) := by decide +kernel
theorem dX9_takesWeeks_28 : decode cX9_takesWeeks 28 = .ok (.bipush 31, 2) := by decide +kernel
theorem dX9_takesWeeks_30 : decode cX9_takesWeeks 30 = .ok (.invokevirtual 163, 3) := by decide +kernel
theorem dX9_takesWeeks_33 : decode cX9_takesWeeks 33 = .ok (.ifCond .eq 25, 3) := by decide +kernel
theorem dX9_takesWeeks_36 : decode cX9_takesWeeks 36 = .ok (.aload_n 0, 1) := by decide +kernel
theorem dX9_takesWeeks_37 : decode cX9_takesWeeks 37 = .ok (.bipush 44, 2) := by decide +kernel
theorem dX9_takesWeeks_39 : decode cX9_takesWeeks 39 = .ok (.invokevirtual 160, 3) := by decide +kernel
theorem dX9_takesWeeks_42 : decode cX9_takesWeeks 42 = .ok (.ifCond .eq 16, 3) := by decide +kernel
theorem dX9_takesWeeks_45 : decode cX9_takesWeeks 45 = .ok (.aload_n 0, 1) := by decide +kernel
theorem dX9_takesWeeks_46 : decode cX9_takesWeeks 46 = .ok (.bipush 32, 2) := by decide +kernel
theorem dX9_takesWeeks_48 : decode cX9_takesWeeks 48 = .ok (.invokevirtual 163, 3) := by decide +kernel
theorem dX9_takesWeeks_51 : decode cX9_takesWeeks 51 = .ok (.ifCond .eq 7, 3) := by decide +kernel
theorem dX9_takesWeeks_54 : decode cX9_takesWeeks 54 = .ok (.iconst 1, 1) := by decide +kernel
theorem dX9_takesWeeks_55 : decode cX9_takesWeeks 55 = .ok (.goto 4, 3) := by decide +kernel
theorem dX9_takesWeeks_58 : decode cX9_takesWeeks 58 = .ok (.iconst 0, 1) := by decide +kernel
theorem dX9_takesWeeks_59 : decode cX9_takesWeeks 59 = .ok (.ireturn, 1) := by decide +kernel
set_option maxRecDepth 20000 in
theorem dX9_endsHere_0 : decode cX9_endsHere 0 = .ok (.aload_n 0, 1) := by decide +kernel
theorem dX9_endsHere_1 : decode cX9_endsHere 1 = .ok (.getfield 150, 3) := by decide +kernel
theorem dX9_endsHere_4 : decode cX9_endsHere 4 = .ok (.aload_n 0, 1) := by decide +kernel
theorem dX9_endsHere_5 : decode cX9_endsHere 5 = .ok (.getfield 147, 3) := by decide +kernel
theorem dX9_endsHere_8 : decode cX9_endsHere 8 = .ok (.if_icmp .ne 5, 3) := by decide +kernel
theorem dX9_endsHere_11 : decode cX9_endsHere 11 = .ok (.iconst 1, 1) := by decide +kernel
theorem dX9_endsHere_12 : decode cX9_endsHere 12 = .ok (.ireturn, 1) := by decide +kernel
theorem dX9_endsHere_13 : decode cX9_endsHere 13 = .ok (.aload_n 0, 1) := by decide +kernel
theorem dX9_endsHere_14 : decode cX9_endsHere 14 = .ok (.aload_n 0, 1) := by decide +kernel
theorem dX9_endsHere_15 : decode cX9_endsHere 15 = .ok (.getfield 150, 3) := by decide +kernel
theorem dX9_endsHere_18 : decode cX9_endsHere 18 = .ok (.bipush 59, 2) := by decide +kernel
theorem dX9_endsHere_20 : decode cX9_endsHere 20 = .ok (.invokevirtual 153, 3) := by decide +kernel
theorem dX9_endsHere_23 : decode cX9_endsHere 23 = .ok (.ifCond .eq 20, 3) := by decide +kernel
theorem dX9_endsHere_26 : decode cX9_endsHere 26 = .ok (.aload_n 0, 1) := by decide +kernel
theorem dX9_endsHere_27 : decode cX9_endsHere 27 = .ok (.getfield 185, 3) := by decide +kernel
theorem dX9_endsHere_30 : decode cX9_endsHere 30 = .ok (.ifCond .ne 13, 3) := by decide +kernel
theorem dX9_endsHere_33 : decode cX9_endsHere 33 = .ok (.aload_n 0, 1) := by decide +kernel
theorem dX9_endsHere_34 : decode cX9_endsHere 34 = .ok (.dup, 1) := by decide +kernel
theorem dX9_endsHere_35 : decode cX9_endsHere 35 = .ok (.getfield 150, 3) := by decide +kernel
theorem dX9_endsHere_38 : decode cX9_endsHere 38 = .ok (.iconst 1, 1) := by decide +kernel
theorem dX9_endsHere_39 : decode cX9_endsHere 39 = .ok (.iadd, 1) := by decide +kernel
theorem dX9_endsHere_40 : decode cX9_endsHere 40 = .ok (.putfield 150, 3) := by decide +kernel
theorem dX9_endsHere_43 : decode cX9_endsHere 43 = .ok (.iconst 0, 1) := by decide +kernel
theorem dX9_endsHere_44 : decode cX9_endsHere 44 = .ok (.ireturn, 1) := by decide +kernel
set_option maxRecDepth 20000 in
theorem dX9_takesCalendar_0 : decode cX9_takesCalendar 0 = .ok (.aload_n 0, 1) := by decide +kernel
theorem dX9_takesCalendar_1 : decode cX9_takesCalendar 1 = .ok (.iconst 0, 1) := by decide +kernel
theorem dX9_takesCalendar_2 : decode cX9_takesCalendar 2 = .ok (.putfield 150, 3) := by decide +kernel
theorem dX9_takesCalendar_5 : decode cX9_takesCalendar 5 = .ok (.aload_n 0, 1) := by decide +kernel
theorem dX9_takesCalendar_6 : decode cX9_takesCalendar 6 = .ok (.iconst 0, 1) := by decide +kernel
theorem dX9_takesCalendar_7 : decode cX9_takesCalendar 7 = .ok (.putfield 172, 3) := by decide +kernel
theorem dX9_takesCalendar_10 : decode cX9_takesCalendar 10 = .ok (.aload_n 0, 1) := by decide +kernel
theorem dX9_takesCalendar_11 : decode cX9_takesCalendar 11 = .ok (.iconst 0, 1) := by decide +kernel
theorem dX9_takesCalendar_12 : decode cX9_takesCalendar 12 = .ok (.putfield 185, 3) := by decide +kernel
theorem dX9_takesCalendar_15 : decode cX9_takesCalendar 15 = .ok (.aload_n 0, 1) := by decide +kernel
theorem dX9_takesCalendar_16 : decode cX9_takesCalendar 16 = .ok (.invokevirtual 57, 3) := by decide +kernel
theorem dX9_takesCalendar_19 : decode cX9_takesCalendar 19 = .ok (.aload_n 0, 1) := by decide +kernel
theorem dX9_takesCalendar_20 : decode cX9_takesCalendar 20 = .ok (.invokevirtual 188, 3) := by decide +kernel
theorem dX9_takesCalendar_23 : decode cX9_takesCalendar 23 = .ok (.ifCond .eq 24, 3) := by decide +kernel
theorem dX9_takesCalendar_26 : decode cX9_takesCalendar 26 = .ok (.aload_n 0, 1) := by decide +kernel
theorem dX9_takesCalendar_27 : decode cX9_takesCalendar 27 = .ok (.invokevirtual 191, 3) := by decide +kernel
theorem dX9_takesCalendar_30 : decode cX9_takesCalendar 30 = .ok (.ifCond .eq 17, 3) := by decide +kernel
theorem dX9_takesCalendar_33 : decode cX9_takesCalendar 33 = .ok (.aload_n 0, 1) := by decide +kernel
theorem dX9_takesCalendar_34 : decode cX9_takesCalendar 34 = .ok (.invokevirtual 194, 3) := by decide +kernel
theorem dX9_takesCalendar_37 : decode cX9_takesCalendar 37 = .ok (.ifCond .eq 10, 3) := by decide +kernel
theorem dX9_takesCalendar_40 : decode cX9_takesCalendar 40 = .ok (.aload_n 0, 1) := by decide +kernel
theorem dX9_takesCalendar_41 : decode cX9_takesCalendar 41 = .ok (.invokevirtual 197, 3) := by decide +kernel
theorem dX9_takesCalendar_44 : decode cX9_takesCalendar 44 = .ok (.ifCond .ne 5, 3) := by decide +kernel
theorem dX9_takesCalendar_47 : decode cX9_takesCalendar 47 = .ok (.iconst 0, 1) := by decide +kernel
theorem dX9_takesCalendar_48 : decode cX9_takesCalendar 48 = .ok (.ireturn, 1) := by decide +kernel
theorem dX9_takesCalendar_49 : decode cX9_takesCalendar 49 = .ok (.aload_n 0, 1) := by decide +kernel
theorem dX9_takesCalendar_50 : decode cX9_takesCalendar 50 = .ok (.getfield 150, 3) := by decide +kernel
theorem dX9_takesCalendar_53 : decode cX9_takesCalendar 53 = .ok (.istore_n 1, 1) := by decide +kernel
theorem dX9_takesCalendar_54 : decode cX9_takesCalendar 54 = .ok (.aload_n 0, 1) := by decide +kernel
theorem dX9_takesCalendar_55 : decode cX9_takesCalendar 55 = .ok (.invokevirtual 200, 3) := by decide +kernel
theorem dX9_takesCalendar_58 : decode cX9_takesCalendar 58 = .ok (.ifCond .ne 5, 3) := by decide +kernel
theorem dX9_takesCalendar_61 : decode cX9_takesCalendar 61 = .ok (.iconst 0, 1) := by decide +kernel
theorem dX9_takesCalendar_62 : decode cX9_takesCalendar 62 = .ok (.ireturn, 1) := by decide +kernel
theorem dX9_takesCalendar_63 : decode cX9_takesCalendar 63 = .ok (.aload_n 0, 1) := by decide +kernel
theorem dX9_takesCalendar_64 : decode cX9_takesCalendar 64 = .ok (.aload_n 0, 1) := by decide +kernel
theorem dX9_takesCalendar_65 : decode cX9_takesCalendar 65 = .ok (.getfield 150, 3) := by decide +kernel
theorem dX9_takesCalendar_68 : decode cX9_takesCalendar 68 = .ok (.iload_n 1, 1) := by decide +kernel
theorem dX9_takesCalendar_69 : decode cX9_takesCalendar 69 = .ok (.if_icmp .le 7, 3) := by decide +kernel
theorem dX9_takesCalendar_72 : decode cX9_takesCalendar 72 = .ok (.iconst 1, 1) := by decide +kernel
theorem dX9_takesCalendar_73 : decode cX9_takesCalendar 73 = .ok (.goto 4, 3) := by decide +kernel
theorem dX9_takesCalendar_76 : decode cX9_takesCalendar 76 = .ok (.iconst 0, 1) := by decide +kernel
theorem dX9_takesCalendar_77 : decode cX9_takesCalendar 77 = .ok (.putfield 185, 3) := by decide +kernel
theorem dX9_takesCalendar_80 : decode cX9_takesCalendar 80 = .ok (.aload_n 0, 1) := by decide +kernel
theorem dX9_takesCalendar_81 : decode cX9_takesCalendar 81 = .ok (.invokevirtual 203, 3) := by decide +kernel
theorem dX9_takesCalendar_84 : decode cX9_takesCalendar 84 = .ok (.ireturn, 1) := by decide +kernel
set_option maxRecDepth 20000 in
theorem dX9_isPossible_0 : decode cX9_isPossible 0 = .ok (.aload_n 0, 1) := by decide +kernel
theorem dX9_isPossible_1 : decode cX9_isPossible 1 = .ok (.getfield 16, 3) := by decide +kernel
theorem dX9_isPossible_4 : decode cX9_isPossible 4 = .ok (.iconst 0, 1) := by decide +kernel
theorem dX9_isPossible_5 : decode cX9_isPossible 5 = .ok (.iaload, 1) := by decide +kernel
theorem dX9_isPossible_6 : decode cX9_isPossible 6 = .ok (.istore_n 1, 1) := by decide +kernel
theorem dX9_isPossible_7 : decode cX9_isPossible 7 = .ok (.iconst 0, 1) := by decide +kernel
theorem dX9_isPossible_8 : decode cX9_isPossible 8 = .ok (.istore_n 2, 1) := by decide +kernel
theorem dX9_isPossible_9 : decode cX9_isPossible 9 = .ok (.iconst 0, 1) := by decide +kernel
theorem dX9_isPossible_10 : decode cX9_isPossible 10 = .ok (.istore_n 3, 1) := by decide +kernel
theorem dX9_isPossible_11 : decode cX9_isPossible 11 = .ok (.iload_n 3, 1) := by decide +kernel
theorem dX9_isPossible_12 : decode cX9_isPossible 12 = .ok (.iload_n 1, 1) := by decide +kernel
theorem dX9_isPossible_13 : decode cX9_isPossible 13 = .ok (.if_icmp .ge 39, 3) := by decide +kernel
theorem dX9_isPossible_16 : decode cX9_isPossible 16 = .ok (.aload_n 0, 1) := by decide +kernel
theorem dX9_isPossible_17 : decode cX9_isPossible 17 = .ok (.getfield 16, 3) := by decide +kernel
theorem dX9_isPossible_20 : decode cX9_isPossible 20 = .ok (.iconst 1, 1) := by decide +kernel
theorem dX9_isPossible_21 : decode cX9_isPossible 21 = .ok (.iload_n 3, 1) := by decide +kernel
theorem dX9_isPossible_22 : decode cX9_isPossible 22 = .ok (.iadd, 1) := by decide +kernel
theorem dX9_isPossible_23 : decode cX9_isPossible 23 = .ok (.iaload, 1) := by decide +kernel
theorem dX9_isPossible_24 : decode cX9_isPossible 24 = .ok (.iconst 1, 1) := by decide +kernel
theorem dX9_isPossible_25 : decode cX9_isPossible 25 = .ok (.bipush 60, 2) := by decide +kernel
theorem dX9_isPossible_27 : decode cX9_isPossible 27 = .ok (.invokestatic 70, 3) := by decide +kernel
theorem dX9_isPossible_30 : decode cX9_isPossible 30 = .ok (.ifCond .ne 5, 3) := by decide +kernel
theorem dX9_isPossible_33 : decode cX9_isPossible 33 = .ok (.iconst 0, 1) := by decide +kernel
theorem dX9_isPossible_34 : decode cX9_isPossible 34 = .ok (.ireturn, 1) := by decide +kernel
theorem dX9_isPossible_35 : decode cX9_isPossible 35 = .ok (.iload_n 2, 1) := by decide +kernel
theorem dX9_isPossible_36 : decode cX9_isPossible 36 = .ok (.aload_n 0, 1) := by decide +kernel
theorem dX9_isPossible_37 : decode cX9_isPossible 37 = .ok (.getfield 16, 3) := by decide +kernel
theorem dX9_isPossible_40 : decode cX9_isPossible 40 = .ok (.iconst 1, 1) := by decide +kernel
theorem dX9_isPossible_41 : decode cX9_isPossible 41 = .ok (.iload_n 3, 1) := by decide +kernel
theorem dX9_isPossible_42 : decode cX9_isPossible 42 = .ok (.iadd, 1) := by decide +kernel
theorem dX9_isPossible_43 : decode cX9_isPossible 43 = .ok (.iaload, 1) := by decide +kernel
theorem dX9_isPossible_44 : decode cX9_isPossible 44 = .ok (.iadd, 1) := by decide +kernel
theorem dX9_isPossible_45 : decode cX9_isPossible 45 = .ok (.istore_n 2, 1) := by decide +kernel
theorem dX9_isPossible_46 : decode cX9_isPossible 46 = .ok (.iinc 3 1, 3) := by decide +kernel
theorem dX9_isPossible_49 : decode cX9_isPossible 49 = .ok (.goto (-38), 3) := by decide +kernel
theorem dX9_isPossible_52 : decode cX9_isPossible 52 = .ok (.iload_n 2, 1) := by decide +kernel
theorem dX9_isPossible_53 : decode cX9_isPossible 53 = .ok (.bipush 30, 2) := by decide +kernel
theorem dX9_isPossible_55 : decode cX9_isPossible 55 = .ok (.if_icmp .ge 5, 3) := by decide +kernel
theorem dX9_isPossible_58 : decode cX9_isPossible 58 = .ok (.iconst 0, 1) := by decide +kernel
theorem dX9_isPossible_59 : decode cX9_isPossible 59 = .ok (.ireturn, 1) := by decide +kernel
theorem dX9_isPossible_60 : decode cX9_isPossible 60 = .ok (.aload_n 0, 1) := by decide +kernel
theorem dX9_isPossible_61 : decode cX9_isPossible 61 = .ok (.getfield 16, 3) := by decide +kernel
theorem dX9_isPossible_64 : decode cX9_isPossible 64 = .ok (.bipush 15, 2) := by decide +kernel
theorem dX9_isPossible_66 : decode cX9_isPossible 66 = .ok (.iaload, 1) := by decide +kernel
theorem dX9_isPossible_67 : decode cX9_isPossible 67 = .ok (.ldc 206, 2) := by decide +kernel
theorem dX9_isPossible_69 : decode cX9_isPossible 69 = .ok (.ldc 207, 2) := by decide +kernel
theorem dX9_isPossible_71 : decode cX9_isPossible 71 = .ok (.invokestatic 70, 3) := by decide +kernel
theorem dX9_isPossible_74 : decode cX9_isPossible 74 = .ok (.ifCond .ne 5, 3) := by decide +kernel
theorem dX9_isPossible_77 : decode cX9_isPossible 77 = .ok (.iconst 0, 1) := by decide +kernel
theorem dX9_isPossible_78 : decode cX9_isPossible 78 = .ok (.ireturn, 1) := by decide +kernel
theorem dX9_isPossible_79 : decode cX9_isPossible 79 = .ok (.aload_n 0, 1) := by decide +kernel
theorem dX9_isPossible_80 : decode cX9_isPossible 80 = .ok (.getfield 16, 3) := by decide +kernel
theorem dX9_isPossible_83 : decode cX9_isPossible 83 = .ok (.bipush 16, 2) := by decide +kernel
theorem dX9_isPossible_85 : decode cX9_isPossible 85 = .ok (.iaload, 1) := by decide +kernel
theorem dX9_isPossible_86 : decode cX9_isPossible 86 = .ok (.ifCond .eq 20, 3) := by decide +kernel
theorem dX9_isPossible_89 : decode cX9_isPossible 89 = .ok (.aload_n 0, 1) := by decide +kernel
theorem dX9_isPossible_90 : decode cX9_isPossible 90 = .ok (.getfield 16, 3) := by decide +kernel
theorem dX9_isPossible_93 : decode cX9_isPossible 93 = .ok (.bipush 17, 2) := by decide +kernel
theorem dX9_isPossible_95 : decode cX9_isPossible 95 = .ok (.iaload, 1) := by decide +kernel
theorem dX9_isPossible_96 : decode cX9_isPossible 96 = .ok (.iconst 1, 1) := by decide +kernel
theorem dX9_isPossible_97 : decode cX9_isPossible 97 = .ok (.iload_n 1, 1) := by decide +kernel
theorem dX9_isPossible_98 : decode cX9_isPossible 98 = .ok (.invokestatic 70, 3) := by decide +kernel
theorem dX9_isPossible_101 : decode cX9_isPossible 101 = .ok (.ifCond .ne 5, 3) := by decide +kernel
theorem dX9_isPossible_104 : decode cX9_isPossible 104 = .ok (.iconst 0, 1) := by decide +kernel
theorem dX9_isPossible_105 : decode cX9_isPossible 105 = .ok (.ireturn, 1) := by decide +kernel
theorem dX9_isPossible_106 : decode cX9_isPossible 106 = .ok (.aload_n 0, 1) := by decide +kernel
theorem dX9_isPossible_107 : decode cX9_isPossible 107 = .ok (.getfield 16, 3) := by decide +kernel
theorem dX9_isPossible_110 : decode cX9_isPossible 110 = .ok (.bipush 16, 2) := by decide +kernel
theorem dX9_isPossible_112 : decode cX9_isPossible 112 = .ok (.iaload, 1) := by decide +kernel
theorem dX9_isPossible_113 : decode cX9_isPossible 113 = .ok (.iconst 2, 1) := by decide +kernel
theorem dX9_isPossible_114 : decode cX9_isPossible 114 = .ok (.if_icmp .ne 21, 3) := by decide +kernel
theorem dX9_isPossible_117 : decode cX9_isPossible 117 = .ok (.aload_n 0, 1) := by decide +kernel
theorem dX9_isPossible_118 : decode cX9_isPossible 118 = .ok (.getfield 16, 3) := by decide +kernel
theorem dX9_isPossible_121 : decode cX9_isPossible 121 = .ok (.bipush 18, 2) := by decide +kernel
theorem dX9_isPossible_123 : decode cX9_isPossible 123 = .ok (.iaload, 1) := by decide +kernel
theorem dX9_isPossible_124 : decode cX9_isPossible 124 = .ok (.iconst 1, 1) := by decide +kernel
theorem dX9_isPossible_125 : decode cX9_isPossible 125 = .ok (.bipush 60, 2) := by decide +kernel
theorem dX9_isPossible_127 : decode cX9_isPossible 127 = .ok (.invokestatic 70, 3) := by decide +kernel
theorem dX9_isPossible_130 : decode cX9_isPossible 130 = .ok (.ifCond .ne 5, 3) := by decide +kernel
theorem dX9_isPossible_133 : decode cX9_isPossible 133 = .ok (.iconst 0, 1) := by decide +kernel
theorem dX9_isPossible_134 : decode cX9_isPossible 134 = .ok (.ireturn, 1) := by decide +kernel
theorem dX9_isPossible_135 : decode cX9_isPossible 135 = .ok (.iconst 0, 1) := by decide +kernel
theorem dX9_isPossible_136 : decode cX9_isPossible 136 = .ok (.istore_n 3, 1) := by decide +kernel
theorem dX9_isPossible_137 : decode cX9_isPossible 137 = .ok (.iload_n 3, 1) := by decide +kernel
theorem dX9_isPossible_138 : decode cX9_isPossible 138 = .ok (.iconst 4, 1) := by decide +kernel
theorem dX9_isPossible_139 : decode cX9_isPossible 139 = .ok (.if_icmp .ge 42, 3) := by decide +kernel
theorem dX9_isPossible_142 : decode cX9_isPossible 142 = .ok (.aload_n 0, 1) := by decide +kernel
theorem dX9_isPossible_143 : decode cX9_isPossible 143 = .ok (.getfield 16, 3) := by decide +kernel
theorem dX9_isPossible_146 : decode cX9_isPossible 146 = .ok (.bipush 24, 2) := by decide +kernel
theorem dX9_isPossible_148 : decode cX9_isPossible 148 = .ok (.iload_n 3, 1) := by decide +kernel
theorem dX9_isPossible_149 : decode cX9_isPossible 149 = .ok (.iadd, 1) := by decide +kernel
theorem dX9_isPossible_150 : decode cX9_isPossible 150 = .ok (.iaload, 1) := by decide +kernel
theorem dX9_isPossible_151 : decode cX9_isPossible 151 = .ok (.ifCond .eq 24, 3) := by decide +kernel
theorem dX9_isPossible_154 : decode cX9_isPossible 154 = .ok (.aload_n 0, 1) := by decide +kernel
theorem dX9_isPossible_155 : decode cX9_isPossible 155 = .ok (.getfield 16, 3) := by decide +kernel
theorem dX9_isPossible_158 : decode cX9_isPossible 158 = .ok (.bipush 20, 2) := by decide +kernel
theorem dX9_isPossible_160 : decode cX9_isPossible 160 = .ok (.iload_n 3, 1) := by decide +kernel
theorem dX9_isPossible_161 : decode cX9_isPossible 161 = .ok (.iadd, 1) := by decide +kernel
theorem dX9_isPossible_162 : decode cX9_isPossible 162 = .ok (.iaload, 1) := by decide +kernel
theorem dX9_isPossible_163 : decode cX9_isPossible 163 = .ok (.iconst 1, 1) := by decide +kernel
theorem dX9_isPossible_164 : decode cX9_isPossible 164 = .ok (.sipush 400, 3) := by decide +kernel
theorem dX9_isPossible_167 : decode cX9_isPossible 167 = .ok (.invokestatic 70, 3) := by decide +kernel
theorem dX9_isPossible_170 : decode cX9_isPossible 170 = .ok (.ifCond .ne 5, 3) := by decide +kernel
theorem dX9_isPossible_173 : decode cX9_isPossible 173 = .ok (.iconst 0, 1) := by decide +kernel
theorem dX9_isPossible_174 : decode cX9_isPossible 174 = .ok (.ireturn, 1) := by decide +kernel
theorem dX9_isPossible_175 : decode cX9_isPossible 175 = .ok (.iinc 3 1, 3) := by decide +kernel
theorem dX9_isPossible_178 : decode cX9_isPossible 178 = .ok (.goto (-41), 3) := by decide +kernel
theorem dX9_isPossible_181 : decode cX9_isPossible 181 = .ok (.aload_n 0, 1) := by decide +kernel
theorem dX9_isPossible_182 : decode cX9_isPossible 182 = .ok (.getfield 16, 3) := by decide +kernel
theorem dX9_isPossible_185 : decode cX9_isPossible 185 = .ok (.bipush 19, 2) := by decide +kernel
theorem dX9_isPossible_187 : decode cX9_isPossible 187 = .ok (.iaload, 1) := by decide +kernel
theorem dX9_isPossible_188 : decode cX9_isPossible 188 = .ok (.iconst 2, 1) := by decide +kernel
theorem dX9_isPossible_189 : decode cX9_isPossible 189 = .ok (.if_icmp .ne 28, 3) := by decide +kernel
theorem dX9_isPossible_192 : decode cX9_isPossible 192 = .ok (.aload_n 0, 1) := by decide +kernel
theorem dX9_isPossible_193 : decode cX9_isPossible 193 = .ok (.getfield 16, 3) := by decide +kernel
theorem dX9_isPossible_196 : decode cX9_isPossible 196 = .ok (.bipush 28, 2) := by decide +kernel
theorem dX9_isPossible_198 : decode cX9_isPossible 198 = .ok (.iaload, 1) := by decide +kernel
theorem dX9_isPossible_199 : decode cX9_isPossible 199 = .ok (.iconst 1, 1) := by decide +kernel
theorem dX9_isPossible_200 : decode cX9_isPossible 200 = .ok (.bipush 30, 2) := by decide +kernel
theorem dX9_isPossible_202 : decode cX9_isPossible 202 = .ok (.invokestatic 70, 3) := by decide +kernel
theorem dX9_isPossible_205 : decode cX9_isPossible 205 = .ok (.ifCond .eq 10, 3) := by decide +kernel
theorem dX9_isPossible_208 : decode cX9_isPossible 208 = .ok (.aload_n 0, 1) := by decide +kernel
theorem dX9_isPossible_209 : decode cX9_isPossible 209 = .ok (.getfield 172, 3) := by decide +kernel
theorem dX9_isPossible_212 : decode cX9_isPossible 212 = .ok (.ifCond .eq 5, 3) := by decide +kernel
theorem dX9_isPossible_215 : decode cX9_isPossible 215 = .ok (.iconst 0, 1) := by decide +kernel
theorem dX9_isPossible_216 : decode cX9_isPossible 216 = .ok (.ireturn, 1) := by decide +kernel
theorem dX9_isPossible_217 : decode cX9_isPossible 217 = .ok (.aload_n 0, 1) := by decide +kernel
theorem dX9_isPossible_218 : decode cX9_isPossible 218 = .ok (.getfield 16, 3) := by decide +kernel
theorem dX9_isPossible_221 : decode cX9_isPossible 221 = .ok (.iconst 0, 1) := by decide +kernel
theorem dX9_isPossible_222 : decode cX9_isPossible 222 = .ok (.invokestatic 208, 3) := by decide +kernel
theorem dX9_isPossible_225 : decode cX9_isPossible 225 = .ok (.ifCond .ne 5, 3) := by decide +kernel
theorem dX9_isPossible_228 : decode cX9_isPossible 228 = .ok (.iconst 0, 1) := by decide +kernel
theorem dX9_isPossible_229 : decode cX9_isPossible 229 = .ok (.ireturn, 1) := by decide +kernel
theorem dX9_isPossible_230 : decode cX9_isPossible 230 = .ok (.aload_n 0, 1) := by decide +kernel
theorem dX9_isPossible_231 : decode cX9_isPossible 231 = .ok (.getfield 16, 3) := by decide +kernel
theorem dX9_isPossible_234 : decode cX9_isPossible 234 = .ok (.bipush 30, 2) := by decide +kernel
theorem dX9_isPossible_236 : decode cX9_isPossible 236 = .ok (.iaload, 1) := by decide +kernel
theorem dX9_isPossible_237 : decode cX9_isPossible 237 = .ok (.iconst 2, 1) := by decide +kernel
theorem dX9_isPossible_238 : decode cX9_isPossible 238 = .ok (.bipush 10, 2) := by decide +kernel
theorem dX9_isPossible_240 : decode cX9_isPossible 240 = .ok (.invokestatic 70, 3) := by decide +kernel
theorem dX9_isPossible_243 : decode cX9_isPossible 243 = .ok (.ifCond .eq 45, 3) := by decide +kernel
theorem dX9_isPossible_246 : decode cX9_isPossible 246 = .ok (.aload_n 0, 1) := by decide +kernel
theorem dX9_isPossible_247 : decode cX9_isPossible 247 = .ok (.getfield 16, 3) := by decide +kernel
theorem dX9_isPossible_250 : decode cX9_isPossible 250 = .ok (.bipush 31, 2) := by decide +kernel
theorem dX9_isPossible_252 : decode cX9_isPossible 252 = .ok (.iaload, 1) := by decide +kernel
theorem dX9_isPossible_253 : decode cX9_isPossible 253 = .ok (.aload_n 0, 1) := by decide +kernel
theorem dX9_isPossible_254 : decode cX9_isPossible 254 = .ok (.getfield 16, 3) := by decide +kernel
theorem dX9_isPossible_257 : decode cX9_isPossible 257 = .ok (.bipush 30, 2) := by decide +kernel
theorem dX9_isPossible_259 : decode cX9_isPossible 259 = .ok (.iaload, 1) := by decide +kernel
theorem dX9_isPossible_260 : decode cX9_isPossible 260 = .ok (.if_icmp .ge 28, 3) := by decide +kernel
theorem dX9_isPossible_263 : decode cX9_isPossible 263 = .ok (.aload_n 0, 1) := by decide +kernel
theorem dX9_isPossible_264 : decode cX9_isPossible 264 = .ok (.getfield 16, 3) := by decide +kernel
theorem dX9_isPossible_267 : decode cX9_isPossible 267 = .ok (.bipush 32, 2) := by decide +kernel
theorem dX9_isPossible_269 : decode cX9_isPossible 269 = .ok (.iaload, 1) := by decide +kernel
theorem dX9_isPossible_270 : decode cX9_isPossible 270 = .ok (.iconst 1, 1) := by decide +kernel
theorem dX9_isPossible_271 : decode cX9_isPossible 271 = .ok (.aload_n 0, 1) := by decide +kernel
theorem dX9_isPossible_272 : decode cX9_isPossible 272 = .ok (.getfield 16, 3) := by decide +kernel
theorem dX9_isPossible_275 : decode cX9_isPossible 275 = .ok (.bipush 30, 2) := by decide +kernel
theorem dX9_isPossible_277 : decode cX9_isPossible 277 = .ok (.iaload, 1) := by decide +kernel
theorem dX9_isPossible_278 : decode cX9_isPossible 278 = .ok (.invokestatic 70, 3) := by decide +kernel
theorem dX9_isPossible_281 : decode cX9_isPossible 281 = .ok (.ifCond .eq 7, 3) := by decide +kernel
theorem dX9_isPossible_284 : decode cX9_isPossible 284 = .ok (.iconst 1, 1) := by decide +kernel
theorem dX9_isPossible_285 : decode cX9_isPossible 285 = .ok (.goto 4, 3) := by decide +kernel
theorem dX9_isPossible_288 : decode cX9_isPossible 288 = .ok (.iconst 0, 1) := by decide +kernel
theorem dX9_isPossible_289 : decode cX9_isPossible 289 = .ok (.ireturn, 1) := by decide +kernel
set_option maxRecDepth 20000 in
theorem dX9_setCalendar_0 : decode cX9_setCalendar 0 = .ok (.iload_n 1, 1) := by decide +kernel
theorem dX9_setCalendar_1 : decode cX9_setCalendar 1 = .ok (.iconst 0, 1) := by decide +kernel
theorem dX9_setCalendar_2 : decode cX9_setCalendar 2 = .ok (.aload_n 0, 1) := by decide +kernel
theorem dX9_setCalendar_3 : decode cX9_setCalendar 3 = .ok (.getfield 64, 3) := by decide +kernel
theorem dX9_setCalendar_6 : decode cX9_setCalendar 6 = .ok (.bipush 6, 2) := by decide +kernel
theorem dX9_setCalendar_8 : decode cX9_setCalendar 8 = .ok (.if_icmp .ge 10, 3) := by decide +kernel
theorem dX9_setCalendar_11 : decode cX9_setCalendar 11 = .ok (.aload_n 0, 1) := by decide +kernel
theorem dX9_setCalendar_12 : decode cX9_setCalendar 12 = .ok (.getfield 64, 3) := by decide +kernel
theorem dX9_setCalendar_15 : decode cX9_setCalendar 15 = .ok (.goto 4, 3) := by decide +kernel
theorem dX9_setCalendar_18 : decode cX9_setCalendar 18 = .ok (.iconst 5, 1) := by decide +kernel
theorem dX9_setCalendar_19 : decode cX9_setCalendar 19 = .ok (.invokestatic 70, 3) := by decide +kernel
theorem dX9_setCalendar_22 : decode cX9_setCalendar 22 = .ok (.ifCond .ne 14, 3) := by decide +kernel
theorem dX9_setCalendar_25 : decode cX9_setCalendar 25 = .ok (.aload_n 0, 1) := by decide +kernel
theorem dX9_setCalendar_26 : decode cX9_setCalendar 26 = .ok (.iconst 0, 1) := by decide +kernel
theorem dX9_setCalendar_27 : decode cX9_setCalendar 27 = .ok (.putfield 147, 3) := by decide +kernel
theorem dX9_setCalendar_30 : decode cX9_setCalendar 30 = .ok (.aload_n 0, 1) := by decide +kernel
theorem dX9_setCalendar_31 : decode cX9_setCalendar 31 = .ok (.iconst 1, 1) := by decide +kernel
theorem dX9_setCalendar_32 : decode cX9_setCalendar 32 = .ok (.invokevirtual 143, 3) := by decide +kernel
theorem dX9_setCalendar_35 : decode cX9_setCalendar 35 = .ok (.ireturn, 1) := by decide +kernel
theorem dX9_setCalendar_36 : decode cX9_setCalendar 36 = .ok (.aload_n 0, 1) := by decide +kernel
theorem dX9_setCalendar_37 : decode cX9_setCalendar 37 = .ok (.invokevirtual 212, 3) := by decide +kernel
theorem dX9_setCalendar_40 : decode cX9_setCalendar 40 = .ok (.istore_n 2, 1) := by decide +kernel
theorem dX9_setCalendar_41 : decode cX9_setCalendar 41 = .ok (.aload_n 0, 1) := by decide +kernel
theorem dX9_setCalendar_42 : decode cX9_setCalendar 42 = .ok (.iconst 0, 1) := by decide +kernel
theorem dX9_setCalendar_43 : decode cX9_setCalendar 43 = .ok (.putfield 147, 3) := by decide +kernel
theorem dX9_setCalendar_46 : decode cX9_setCalendar 46 = .ok (.aload_n 0, 1) := by decide +kernel
theorem dX9_setCalendar_47 : decode cX9_setCalendar 47 = .ok (.iload_n 2, 1) := by decide +kernel
theorem dX9_setCalendar_48 : decode cX9_setCalendar 48 = .ok (.ifCond .eq 7, 3) := by decide +kernel
theorem dX9_setCalendar_51 : decode cX9_setCalendar 51 = .ok (.iconst (-1), 1) := by decide +kernel
theorem dX9_setCalendar_52 : decode cX9_setCalendar 52 = .ok (.goto 7, 3) := by decide +kernel
theorem dX9_setCalendar_55 : decode cX9_setCalendar 55 = .ok (.aload_n 0, 1) := by decide +kernel
theorem dX9_setCalendar_56 : decode cX9_setCalendar 56 = .ok (.getfield 150, 3) := by decide +kernel
theorem dX9_setCalendar_59 : decode cX9_setCalendar 59 = .ok (.putfield 25, 3) := by decide +kernel
theorem dX9_setCalendar_62 : decode cX9_setCalendar 62 = .ok (.iload_n 2, 1) := by decide +kernel
theorem dX9_setCalendar_63 : decode cX9_setCalendar 63 = .ok (.ifCond .ne 9, 3) := by decide +kernel
theorem dX9_setCalendar_66 : decode cX9_setCalendar 66 = .ok (.aload_n 0, 1) := by decide +kernel
theorem dX9_setCalendar_67 : decode cX9_setCalendar 67 = .ok (.iconst 2, 1) := by decide +kernel
theorem dX9_setCalendar_68 : decode cX9_setCalendar 68 = .ok (.invokevirtual 143, 3) := by decide +kernel
theorem dX9_setCalendar_71 : decode cX9_setCalendar 71 = .ok (.ireturn, 1) := by decide +kernel
theorem dX9_setCalendar_72 : decode cX9_setCalendar 72 = .ok (.aload_n 0, 1) := by decide +kernel
theorem dX9_setCalendar_73 : decode cX9_setCalendar 73 = .ok (.invokevirtual 215, 3) := by decide +kernel
theorem dX9_setCalendar_76 : decode cX9_setCalendar 76 = .ok (.ifCond .ne 9, 3) := by decide +kernel
theorem dX9_setCalendar_79 : decode cX9_setCalendar 79 = .ok (.aload_n 0, 1) := by decide +kernel
theorem dX9_setCalendar_80 : decode cX9_setCalendar 80 = .ok (.iconst 3, 1) := by decide +kernel
theorem dX9_setCalendar_81 : decode cX9_setCalendar 81 = .ok (.invokevirtual 143, 3) := by decide +kernel
theorem dX9_setCalendar_84 : decode cX9_setCalendar 84 = .ok (.ireturn, 1) := by decide +kernel
theorem dX9_setCalendar_85 : decode cX9_setCalendar 85 = .ok (.aload_n 0, 1) := by decide +kernel
theorem dX9_setCalendar_86 : decode cX9_setCalendar 86 = .ok (.iconst 0, 1) := by decide +kernel
theorem dX9_setCalendar_87 : decode cX9_setCalendar 87 = .ok (.putfield 67, 3) := by decide +kernel
theorem dX9_setCalendar_90 : decode cX9_setCalendar 90 = .ok (.aload_n 0, 1) := by decide +kernel
theorem dX9_setCalendar_91 : decode cX9_setCalendar 91 = .ok (.invokevirtual 218, 3) := by decide +kernel
theorem dX9_setCalendar_94 : decode cX9_setCalendar 94 = .ok (.aload_n 0, 1) := by decide +kernel
theorem dX9_setCalendar_95 : decode cX9_setCalendar 95 = .ok (.iload_n 1, 1) := by decide +kernel
theorem dX9_setCalendar_96 : decode cX9_setCalendar 96 = .ok (.invokevirtual 60, 3) := by decide +kernel
theorem dX9_setCalendar_99 : decode cX9_setCalendar 99 = .ok (.iload_n 1, 1) := by decide +kernel
theorem dX9_setCalendar_100 : decode cX9_setCalendar 100 = .ok (.aload_n 0, 1) := by decide +kernel
theorem dX9_setCalendar_101 : decode cX9_setCalendar 101 = .ok (.getfield 64, 3) := by decide +kernel
theorem dX9_setCalendar_104 : decode cX9_setCalendar 104 = .ok (.if_icmp .ne 13, 3) := by decide +kernel
theorem dX9_setCalendar_107 : decode cX9_setCalendar 107 = .ok (.aload_n 0, 1) := by decide +kernel
theorem dX9_setCalendar_108 : decode cX9_setCalendar 108 = .ok (.dup, 1) := by decide +kernel
theorem dX9_setCalendar_109 : decode cX9_setCalendar 109 = .ok (.getfield 64, 3) := by decide +kernel
theorem dX9_setCalendar_112 : decode cX9_setCalendar 112 = .ok (.iconst 1, 1) := by decide +kernel
theorem dX9_setCalendar_113 : decode cX9_setCalendar 113 = .ok (.iadd, 1) := by decide +kernel
theorem dX9_setCalendar_114 : decode cX9_setCalendar 114 = .ok (.putfield 64, 3) := by decide +kernel
theorem dX9_setCalendar_117 : decode cX9_setCalendar 117 = .ok (.aload_n 0, 1) := by decide +kernel
theorem dX9_setCalendar_118 : decode cX9_setCalendar 118 = .ok (.getfield 16, 3) := by decide +kernel
theorem dX9_setCalendar_121 : decode cX9_setCalendar 121 = .ok (.iconst 0, 1) := by decide +kernel
theorem dX9_setCalendar_122 : decode cX9_setCalendar 122 = .ok (.iaload, 1) := by decide +kernel
theorem dX9_setCalendar_123 : decode cX9_setCalendar 123 = .ok (.ireturn, 1) := by decide +kernel
theorem dX9_faultPosition_0 : decode cX9_faultPosition 0 = .ok (.aload_n 0, 1) := by decide +kernel
theorem dX9_faultPosition_1 : decode cX9_faultPosition 1 = .ok (.iconst 0, 1) := by decide +kernel
theorem dX9_faultPosition_2 : decode cX9_faultPosition 2 = .ok (.putfield 67, 3) := by decide +kernel
theorem dX9_faultPosition_5 : decode cX9_faultPosition 5 = .ok (.aload_n 0, 1) := by decide +kernel
theorem dX9_faultPosition_6 : decode cX9_faultPosition 6 = .ok (.getfield 25, 3) := by decide +kernel
theorem dX9_faultPosition_9 : decode cX9_faultPosition 9 = .ok (.ireturn, 1) := by decide +kernel
theorem dX9_calendarCount_0 : decode cX9_calendarCount 0 = .ok (.aload_n 0, 1) := by decide +kernel
theorem dX9_calendarCount_1 : decode cX9_calendarCount 1 = .ok (.iconst 0, 1) := by decide +kernel
theorem dX9_calendarCount_2 : decode cX9_calendarCount 2 = .ok (.putfield 67, 3) := by decide +kernel
theorem dX9_calendarCount_5 : decode cX9_calendarCount 5 = .ok (.aload_n 0, 1) := by decide +kernel
theorem dX9_calendarCount_6 : decode cX9_calendarCount 6 = .ok (.getfield 64, 3) := by decide +kernel
theorem dX9_calendarCount_9 : decode cX9_calendarCount 9 = .ok (.ireturn, 1) := by decide +kernel
set_option maxRecDepth 20000 in
theorem dX9_calendar_0 : decode cX9_calendar 0 = .ok (.aload_n 0, 1) := by decide +kernel
theorem dX9_calendar_1 : decode cX9_calendar 1 = .ok (.iload_n 1, 1) := by decide +kernel
theorem dX9_calendar_2 : decode cX9_calendar 2 = .ok (.invokevirtual 221, 3) := by decide +kernel
theorem dX9_calendar_5 : decode cX9_calendar 5 = .ok (.ifCond .ne 9, 3) := by decide +kernel
theorem dX9_calendar_8 : decode cX9_calendar 8 = .ok (.aload_n 0, 1) := by decide +kernel
theorem dX9_calendar_9 : decode cX9_calendar 9 = .ok (.iconst 1, 1) := by decide +kernel
theorem dX9_calendar_10 : decode cX9_calendar 10 = .ok (.invokevirtual 143, 3) := by decide +kernel
theorem dX9_calendar_13 : decode cX9_calendar 13 = .ok (.ireturn, 1) := by decide +kernel
theorem dX9_calendar_14 : decode cX9_calendar 14 = .ok (.iload_n 2, 1) := by decide +kernel
theorem dX9_calendar_15 : decode cX9_calendar 15 = .ok (.iconst 0, 1) := by decide +kernel
theorem dX9_calendar_16 : decode cX9_calendar 16 = .ok (.bipush 7, 2) := by decide +kernel
theorem dX9_calendar_18 : decode cX9_calendar 18 = .ok (.invokestatic 70, 3) := by decide +kernel
theorem dX9_calendar_21 : decode cX9_calendar 21 = .ok (.ifCond .ne 9, 3) := by decide +kernel
theorem dX9_calendar_24 : decode cX9_calendar 24 = .ok (.aload_n 0, 1) := by decide +kernel
theorem dX9_calendar_25 : decode cX9_calendar 25 = .ok (.iconst 2, 1) := by decide +kernel
theorem dX9_calendar_26 : decode cX9_calendar 26 = .ok (.invokevirtual 143, 3) := by decide +kernel
theorem dX9_calendar_29 : decode cX9_calendar 29 = .ok (.ireturn, 1) := by decide +kernel
theorem dX9_calendar_30 : decode cX9_calendar 30 = .ok (.aload_n 0, 1) := by decide +kernel
theorem dX9_calendar_31 : decode cX9_calendar 31 = .ok (.iconst 0, 1) := by decide +kernel
theorem dX9_calendar_32 : decode cX9_calendar 32 = .ok (.putfield 67, 3) := by decide +kernel
theorem dX9_calendar_35 : decode cX9_calendar 35 = .ok (.iload_n 2, 1) := by decide +kernel
theorem dX9_calendar_36 : decode cX9_calendar 36 = .ok (.tableswitch 91 0 7 #[48, 55, 63, 71, 91, 91, 91, 79], 48) := by decide +kernel
theorem dX9_calendar_84 : decode cX9_calendar 84 = .ok (.aload_n 0, 1) := by decide +kernel
theorem dX9_calendar_85 : decode cX9_calendar 85 = .ok (.iload_n 1, 1) := by decide +kernel
theorem dX9_calendar_86 : decode cX9_calendar 86 = .ok (.iconst 0, 1) := by decide +kernel
theorem dX9_calendar_87 : decode cX9_calendar 87 = .ok (.invokevirtual 80, 3) := by decide +kernel
theorem dX9_calendar_90 : decode cX9_calendar 90 = .ok (.ireturn, 1) := by decide +kernel
theorem dX9_calendar_91 : decode cX9_calendar 91 = .ok (.aload_n 0, 1) := by decide +kernel
theorem dX9_calendar_92 : decode cX9_calendar 92 = .ok (.iload_n 1, 1) := by decide +kernel
theorem dX9_calendar_93 : decode cX9_calendar 93 = .ok (.bipush 15, 2) := by decide +kernel
theorem dX9_calendar_95 : decode cX9_calendar 95 = .ok (.invokevirtual 80, 3) := by decide +kernel
theorem dX9_calendar_98 : decode cX9_calendar 98 = .ok (.ireturn, 1) := by decide +kernel
theorem dX9_calendar_99 : decode cX9_calendar 99 = .ok (.aload_n 0, 1) := by decide +kernel
theorem dX9_calendar_100 : decode cX9_calendar 100 = .ok (.iload_n 1, 1) := by decide +kernel
theorem dX9_calendar_101 : decode cX9_calendar 101 = .ok (.bipush 16, 2) := by decide +kernel
theorem dX9_calendar_103 : decode cX9_calendar 103 = .ok (.invokevirtual 80, 3) := by decide +kernel
theorem dX9_calendar_106 : decode cX9_calendar 106 = .ok (.ireturn, 1) := by decide +kernel
theorem dX9_calendar_107 : decode cX9_calendar 107 = .ok (.aload_n 0, 1) := by decide +kernel
theorem dX9_calendar_108 : decode cX9_calendar 108 = .ok (.iload_n 1, 1) := by decide +kernel
theorem dX9_calendar_109 : decode cX9_calendar 109 = .ok (.bipush 19, 2) := by decide +kernel
theorem dX9_calendar_111 : decode cX9_calendar 111 = .ok (.invokevirtual 80, 3) := by decide +kernel
theorem dX9_calendar_114 : decode cX9_calendar 114 = .ok (.ireturn, 1) := by decide +kernel
theorem dX9_calendar_115 : decode cX9_calendar 115 = .ok (.aload_n 0, 1) := by decide +kernel
theorem dX9_calendar_116 : decode cX9_calendar 116 = .ok (.getfield 13, 3) := by decide +kernel
theorem dX9_calendar_119 : decode cX9_calendar 119 = .ok (.bipush 33, 2) := by decide +kernel
theorem dX9_calendar_121 : decode cX9_calendar 121 = .ok (.iload_n 1, 1) := by decide +kernel
theorem dX9_calendar_122 : decode cX9_calendar 122 = .ok (.imul, 1) := by decide +kernel
theorem dX9_calendar_123 : decode cX9_calendar 123 = .ok (.invokestatic 208, 3) := by decide +kernel
theorem dX9_calendar_126 : decode cX9_calendar 126 = .ok (.ireturn, 1) := by decide +kernel
theorem dX9_calendar_127 : decode cX9_calendar 127 = .ok (.aload_n 0, 1) := by decide +kernel
theorem dX9_calendar_128 : decode cX9_calendar 128 = .ok (.iload_n 1, 1) := by decide +kernel
theorem dX9_calendar_129 : decode cX9_calendar 129 = .ok (.bipush 30, 2) := by decide +kernel
theorem dX9_calendar_131 : decode cX9_calendar 131 = .ok (.iload_n 2, 1) := by decide +kernel
theorem dX9_calendar_132 : decode cX9_calendar 132 = .ok (.iadd, 1) := by decide +kernel
theorem dX9_calendar_133 : decode cX9_calendar 133 = .ok (.iconst 4, 1) := by decide +kernel
theorem dX9_calendar_134 : decode cX9_calendar 134 = .ok (.isub, 1) := by decide +kernel
theorem dX9_calendar_135 : decode cX9_calendar 135 = .ok (.invokevirtual 80, 3) := by decide +kernel
theorem dX9_calendar_138 : decode cX9_calendar 138 = .ok (.ireturn, 1) := by decide +kernel
set_option maxRecDepth 20000 in
theorem dX9_notYear_0 : decode cX9_notYear 0 = .ok (.aload_n 0, 1) := by decide +kernel
theorem dX9_notYear_1 : decode cX9_notYear 1 = .ok (.iload_n 1, 1) := by decide +kernel
theorem dX9_notYear_2 : decode cX9_notYear 2 = .ok (.invokevirtual 221, 3) := by decide +kernel
theorem dX9_notYear_5 : decode cX9_notYear 5 = .ok (.ifCond .ne 7, 3) := by decide +kernel
theorem dX9_notYear_8 : decode cX9_notYear 8 = .ok (.iconst 1, 1) := by decide +kernel
theorem dX9_notYear_9 : decode cX9_notYear 9 = .ok (.goto 15, 3) := by decide +kernel
theorem dX9_notYear_12 : decode cX9_notYear 12 = .ok (.iload_n 2, 1) := by decide +kernel
theorem dX9_notYear_13 : decode cX9_notYear 13 = .ok (.invokestatic 110, 3) := by decide +kernel
theorem dX9_notYear_16 : decode cX9_notYear 16 = .ok (.ifCond .eq 7, 3) := by decide +kernel
theorem dX9_notYear_19 : decode cX9_notYear 19 = .ok (.iconst 0, 1) := by decide +kernel
theorem dX9_notYear_20 : decode cX9_notYear 20 = .ok (.goto 4, 3) := by decide +kernel
theorem dX9_notYear_23 : decode cX9_notYear 23 = .ok (.iconst 2, 1) := by decide +kernel
theorem dX9_notYear_24 : decode cX9_notYear 24 = .ok (.ireturn, 1) := by decide +kernel
set_option maxRecDepth 20000 in
theorem dX9_notMonth_0 : decode cX9_notMonth 0 = .ok (.aload_n 0, 1) := by decide +kernel
theorem dX9_notMonth_1 : decode cX9_notMonth 1 = .ok (.iload_n 1, 1) := by decide +kernel
theorem dX9_notMonth_2 : decode cX9_notMonth 2 = .ok (.invokevirtual 221, 3) := by decide +kernel
theorem dX9_notMonth_5 : decode cX9_notMonth 5 = .ok (.ifCond .ne 7, 3) := by decide +kernel
theorem dX9_notMonth_8 : decode cX9_notMonth 8 = .ok (.iconst 1, 1) := by decide +kernel
theorem dX9_notMonth_9 : decode cX9_notMonth 9 = .ok (.goto 18, 3) := by decide +kernel
theorem dX9_notMonth_12 : decode cX9_notMonth 12 = .ok (.aload_n 0, 1) := by decide +kernel
theorem dX9_notMonth_13 : decode cX9_notMonth 13 = .ok (.iload_n 1, 1) := by decide +kernel
theorem dX9_notMonth_14 : decode cX9_notMonth 14 = .ok (.iload_n 2, 1) := by decide +kernel
theorem dX9_notMonth_15 : decode cX9_notMonth 15 = .ok (.iload_n 3, 1) := by decide +kernel
theorem dX9_notMonth_16 : decode cX9_notMonth 16 = .ok (.invokevirtual 117, 3) := by decide +kernel
theorem dX9_notMonth_19 : decode cX9_notMonth 19 = .ok (.ifCond .eq 7, 3) := by decide +kernel
theorem dX9_notMonth_22 : decode cX9_notMonth 22 = .ok (.iconst 0, 1) := by decide +kernel
theorem dX9_notMonth_23 : decode cX9_notMonth 23 = .ok (.goto 4, 3) := by decide +kernel
theorem dX9_notMonth_26 : decode cX9_notMonth 26 = .ok (.iconst 2, 1) := by decide +kernel
theorem dX9_notMonth_27 : decode cX9_notMonth 27 = .ok (.ireturn, 1) := by decide +kernel
set_option maxRecDepth 20000 in
theorem dX9_isLeapYear_0 : decode cX9_isLeapYear 0 = .ok (.aload_n 0, 1) := by decide +kernel
theorem dX9_isLeapYear_1 : decode cX9_isLeapYear 1 = .ok (.aload_n 0, 1) := by decide +kernel
theorem dX9_isLeapYear_2 : decode cX9_isLeapYear 2 = .ok (.iload_n 1, 1) := by decide +kernel
theorem dX9_isLeapYear_3 : decode cX9_isLeapYear 3 = .ok (.iload_n 2, 1) := by decide +kernel
theorem dX9_isLeapYear_4 : decode cX9_isLeapYear 4 = .ok (.invokevirtual 224, 3) := by decide +kernel
theorem dX9_isLeapYear_7 : decode cX9_isLeapYear 7 = .ok (.putfield 67, 3) := by decide +kernel
theorem dX9_isLeapYear_10 : decode cX9_isLeapYear 10 = .ok (.aload_n 0, 1) := by decide +kernel
theorem dX9_isLeapYear_11 : decode cX9_isLeapYear 11 = .ok (.getfield 67, 3) := by decide +kernel
theorem dX9_isLeapYear_14 : decode cX9_isLeapYear 14 = .ok (.ifCond .ne 16, 3) := by decide +kernel
theorem dX9_isLeapYear_17 : decode cX9_isLeapYear 17 = .ok (.aload_n 0, 1) := by decide +kernel
theorem dX9_isLeapYear_18 : decode cX9_isLeapYear 18 = .ok (.iload_n 1, 1) := by decide +kernel
theorem dX9_isLeapYear_19 : decode cX9_isLeapYear 19 = .ok (.iload_n 2, 1) := by decide +kernel
theorem dX9_isLeapYear_20 : decode cX9_isLeapYear 20 = .ok (.invokevirtual 88, 3) := by decide +kernel
theorem dX9_isLeapYear_23 : decode cX9_isLeapYear 23 = .ok (.ifCond .eq 7, 3) := by decide +kernel
theorem dX9_isLeapYear_26 : decode cX9_isLeapYear 26 = .ok (.iconst 1, 1) := by decide +kernel
theorem dX9_isLeapYear_27 : decode cX9_isLeapYear 27 = .ok (.goto 4, 3) := by decide +kernel
theorem dX9_isLeapYear_30 : decode cX9_isLeapYear 30 = .ok (.iconst 0, 1) := by decide +kernel
theorem dX9_isLeapYear_31 : decode cX9_isLeapYear 31 = .ok (.ireturn, 1) := by decide +kernel
set_option maxRecDepth 20000 in
theorem dX9_months_0 : decode cX9_months 0 = .ok (.aload_n 0, 1) := by decide +kernel
theorem dX9_months_1 : decode cX9_months 1 = .ok (.aload_n 0, 1) := by decide +kernel
theorem dX9_months_2 : decode cX9_months 2 = .ok (.iload_n 1, 1) := by decide +kernel
theorem dX9_months_3 : decode cX9_months 3 = .ok (.iload_n 2, 1) := by decide +kernel
theorem dX9_months_4 : decode cX9_months 4 = .ok (.invokevirtual 224, 3) := by decide +kernel
theorem dX9_months_7 : decode cX9_months 7 = .ok (.putfield 67, 3) := by decide +kernel
theorem dX9_months_10 : decode cX9_months 10 = .ok (.aload_n 0, 1) := by decide +kernel
theorem dX9_months_11 : decode cX9_months 11 = .ok (.getfield 67, 3) := by decide +kernel
theorem dX9_months_14 : decode cX9_months 14 = .ok (.ifCond .le 7, 3) := by decide +kernel
theorem dX9_months_17 : decode cX9_months 17 = .ok (.iconst 0, 1) := by decide +kernel
theorem dX9_months_18 : decode cX9_months 18 = .ok (.goto 9, 3) := by decide +kernel
theorem dX9_months_21 : decode cX9_months 21 = .ok (.aload_n 0, 1) := by decide +kernel
theorem dX9_months_22 : decode cX9_months 22 = .ok (.iload_n 1, 1) := by decide +kernel
theorem dX9_months_23 : decode cX9_months 23 = .ok (.iload_n 2, 1) := by decide +kernel
theorem dX9_months_24 : decode cX9_months 24 = .ok (.invokevirtual 114, 3) := by decide +kernel
theorem dX9_months_27 : decode cX9_months 27 = .ok (.ireturn, 1) := by decide +kernel
set_option maxRecDepth 20000 in
theorem dX9_monthLength_0 : decode cX9_monthLength 0 = .ok (.aload_n 0, 1) := by decide +kernel
theorem dX9_monthLength_1 : decode cX9_monthLength 1 = .ok (.aload_n 0, 1) := by decide +kernel
theorem dX9_monthLength_2 : decode cX9_monthLength 2 = .ok (.iload_n 1, 1) := by decide +kernel
theorem dX9_monthLength_3 : decode cX9_monthLength 3 = .ok (.iload_n 2, 1) := by decide +kernel
theorem dX9_monthLength_4 : decode cX9_monthLength 4 = .ok (.iload_n 3, 1) := by decide +kernel
theorem dX9_monthLength_5 : decode cX9_monthLength 5 = .ok (.invokevirtual 227, 3) := by decide +kernel
theorem dX9_monthLength_8 : decode cX9_monthLength 8 = .ok (.putfield 67, 3) := by decide +kernel
theorem dX9_monthLength_11 : decode cX9_monthLength 11 = .ok (.aload_n 0, 1) := by decide +kernel
theorem dX9_monthLength_12 : decode cX9_monthLength 12 = .ok (.getfield 67, 3) := by decide +kernel
theorem dX9_monthLength_15 : decode cX9_monthLength 15 = .ok (.ifCond .le 7, 3) := by decide +kernel
theorem dX9_monthLength_18 : decode cX9_monthLength 18 = .ok (.iconst 0, 1) := by decide +kernel
theorem dX9_monthLength_19 : decode cX9_monthLength 19 = .ok (.goto 10, 3) := by decide +kernel
theorem dX9_monthLength_22 : decode cX9_monthLength 22 = .ok (.aload_n 0, 1) := by decide +kernel
theorem dX9_monthLength_23 : decode cX9_monthLength 23 = .ok (.iload_n 1, 1) := by decide +kernel
theorem dX9_monthLength_24 : decode cX9_monthLength 24 = .ok (.iload_n 2, 1) := by decide +kernel
theorem dX9_monthLength_25 : decode cX9_monthLength 25 = .ok (.iload_n 3, 1) := by decide +kernel
theorem dX9_monthLength_26 : decode cX9_monthLength 26 = .ok (.invokevirtual 120, 3) := by decide +kernel
theorem dX9_monthLength_29 : decode cX9_monthLength 29 = .ok (.ireturn, 1) := by decide +kernel
set_option maxRecDepth 20000 in
theorem dX9_isIntercalary_0 : decode cX9_isIntercalary 0 = .ok (.aload_n 0, 1) := by decide +kernel
theorem dX9_isIntercalary_1 : decode cX9_isIntercalary 1 = .ok (.aload_n 0, 1) := by decide +kernel
theorem dX9_isIntercalary_2 : decode cX9_isIntercalary 2 = .ok (.iload_n 1, 1) := by decide +kernel
theorem dX9_isIntercalary_3 : decode cX9_isIntercalary 3 = .ok (.iload_n 2, 1) := by decide +kernel
theorem dX9_isIntercalary_4 : decode cX9_isIntercalary 4 = .ok (.iload_n 3, 1) := by decide +kernel
theorem dX9_isIntercalary_5 : decode cX9_isIntercalary 5 = .ok (.invokevirtual 227, 3) := by decide +kernel
theorem dX9_isIntercalary_8 : decode cX9_isIntercalary 8 = .ok (.putfield 67, 3) := by decide +kernel
theorem dX9_isIntercalary_11 : decode cX9_isIntercalary 11 = .ok (.aload_n 0, 1) := by decide +kernel
theorem dX9_isIntercalary_12 : decode cX9_isIntercalary 12 = .ok (.getfield 67, 3) := by decide +kernel
theorem dX9_isIntercalary_15 : decode cX9_isIntercalary 15 = .ok (.ifCond .ne 17, 3) := by decide +kernel
theorem dX9_isIntercalary_18 : decode cX9_isIntercalary 18 = .ok (.aload_n 0, 1) := by decide +kernel
theorem dX9_isIntercalary_19 : decode cX9_isIntercalary 19 = .ok (.iload_n 1, 1) := by decide +kernel
theorem dX9_isIntercalary_20 : decode cX9_isIntercalary 20 = .ok (.iload_n 2, 1) := by decide +kernel
theorem dX9_isIntercalary_21 : decode cX9_isIntercalary 21 = .ok (.iload_n 3, 1) := by decide +kernel
theorem dX9_isIntercalary_22 : decode cX9_isIntercalary 22 = .ok (.invokevirtual 107, 3) := by decide +kernel
theorem dX9_isIntercalary_25 : decode cX9_isIntercalary 25 = .ok (.ifCond .eq 7, 3) := by decide +kernel
theorem dX9_isIntercalary_28 : decode cX9_isIntercalary 28 = .ok (.iconst 1, 1) := by decide +kernel
theorem dX9_isIntercalary_29 : decode cX9_isIntercalary 29 = .ok (.goto 4, 3) := by decide +kernel
theorem dX9_isIntercalary_32 : decode cX9_isIntercalary 32 = .ok (.iconst 0, 1) := by decide +kernel
theorem dX9_isIntercalary_33 : decode cX9_isIntercalary 33 = .ok (.ireturn, 1) := by decide +kernel
set_option maxRecDepth 20000 in
theorem dX9_yearLength_0 : decode cX9_yearLength 0 = .ok (.aload_n 0, 1) := by decide +kernel
theorem dX9_yearLength_1 : decode cX9_yearLength 1 = .ok (.aload_n 0, 1) := by decide +kernel
theorem dX9_yearLength_2 : decode cX9_yearLength 2 = .ok (.iload_n 1, 1) := by decide +kernel
theorem dX9_yearLength_3 : decode cX9_yearLength 3 = .ok (.iload_n 2, 1) := by decide +kernel
theorem dX9_yearLength_4 : decode cX9_yearLength 4 = .ok (.invokevirtual 224, 3) := by decide +kernel
theorem dX9_yearLength_7 : decode cX9_yearLength 7 = .ok (.putfield 67, 3) := by decide +kernel
theorem dX9_yearLength_10 : decode cX9_yearLength 10 = .ok (.aload_n 0, 1) := by decide +kernel
theorem dX9_yearLength_11 : decode cX9_yearLength 11 = .ok (.getfield 67, 3) := by decide +kernel
theorem dX9_yearLength_14 : decode cX9_yearLength 14 = .ok (.ifCond .le 7, 3) := by decide +kernel
theorem dX9_yearLength_17 : decode cX9_yearLength 17 = .ok (.iconst 0, 1) := by decide +kernel
theorem dX9_yearLength_18 : decode cX9_yearLength 18 = .ok (.goto 9, 3) := by decide +kernel
theorem dX9_yearLength_21 : decode cX9_yearLength 21 = .ok (.aload_n 0, 1) := by decide +kernel
theorem dX9_yearLength_22 : decode cX9_yearLength 22 = .ok (.iload_n 1, 1) := by decide +kernel
theorem dX9_yearLength_23 : decode cX9_yearLength 23 = .ok (.iload_n 2, 1) := by decide +kernel
theorem dX9_yearLength_24 : decode cX9_yearLength 24 = .ok (.invokevirtual 92, 3) := by decide +kernel
theorem dX9_yearLength_27 : decode cX9_yearLength 27 = .ok (.ireturn, 1) := by decide +kernel
set_option maxRecDepth 20000 in
theorem dX9_firstDay_0 : decode cX9_firstDay 0 = .ok (.aload_n 0, 1) := by decide +kernel
theorem dX9_firstDay_1 : decode cX9_firstDay 1 = .ok (.aload_n 0, 1) := by decide +kernel
theorem dX9_firstDay_2 : decode cX9_firstDay 2 = .ok (.iload_n 1, 1) := by decide +kernel
theorem dX9_firstDay_3 : decode cX9_firstDay 3 = .ok (.iload_n 2, 1) := by decide +kernel
theorem dX9_firstDay_4 : decode cX9_firstDay 4 = .ok (.invokevirtual 224, 3) := by decide +kernel
theorem dX9_firstDay_7 : decode cX9_firstDay 7 = .ok (.putfield 67, 3) := by decide +kernel
theorem dX9_firstDay_10 : decode cX9_firstDay 10 = .ok (.aload_n 0, 1) := by decide +kernel
theorem dX9_firstDay_11 : decode cX9_firstDay 11 = .ok (.getfield 67, 3) := by decide +kernel
theorem dX9_firstDay_14 : decode cX9_firstDay 14 = .ok (.ifCond .le 7, 3) := by decide +kernel
theorem dX9_firstDay_17 : decode cX9_firstDay 17 = .ok (.iconst 0, 1) := by decide +kernel
theorem dX9_firstDay_18 : decode cX9_firstDay 18 = .ok (.goto 9, 3) := by decide +kernel
theorem dX9_firstDay_21 : decode cX9_firstDay 21 = .ok (.aload_n 0, 1) := by decide +kernel
theorem dX9_firstDay_22 : decode cX9_firstDay 22 = .ok (.iload_n 1, 1) := by decide +kernel
theorem dX9_firstDay_23 : decode cX9_firstDay 23 = .ok (.iload_n 2, 1) := by decide +kernel
theorem dX9_firstDay_24 : decode cX9_firstDay 24 = .ok (.invokevirtual 101, 3) := by decide +kernel
theorem dX9_firstDay_27 : decode cX9_firstDay 27 = .ok (.ireturn, 1) := by decide +kernel
set_option maxRecDepth 20000 in
theorem dX9_isDatedDay_0 : decode cX9_isDatedDay 0 = .ok (.aload_n 0, 1) := by decide +kernel
theorem dX9_isDatedDay_1 : decode cX9_isDatedDay 1 = .ok (.iload_n 1, 1) := by decide +kernel
theorem dX9_isDatedDay_2 : decode cX9_isDatedDay 2 = .ok (.iload_n 2, 1) := by decide +kernel
theorem dX9_isDatedDay_3 : decode cX9_isDatedDay 3 = .ok (.iload_n 3, 1) := by decide +kernel
theorem dX9_isDatedDay_4 : decode cX9_isDatedDay 4 = .ok (.iload 4, 2) := by decide +kernel
theorem dX9_isDatedDay_6 : decode cX9_isDatedDay 6 = .ok (.invokevirtual 230, 3) := by decide +kernel
theorem dX9_isDatedDay_9 : decode cX9_isDatedDay 9 = .ok (.ifCond .eq 22, 3) := by decide +kernel
theorem dX9_isDatedDay_12 : decode cX9_isDatedDay 12 = .ok (.aload_n 0, 1) := by decide +kernel
theorem dX9_isDatedDay_13 : decode cX9_isDatedDay 13 = .ok (.iload_n 1, 1) := by decide +kernel
theorem dX9_isDatedDay_14 : decode cX9_isDatedDay 14 = .ok (.iload_n 2, 1) := by decide +kernel
theorem dX9_isDatedDay_15 : decode cX9_isDatedDay 15 = .ok (.iload_n 3, 1) := by decide +kernel
theorem dX9_isDatedDay_16 : decode cX9_isDatedDay 16 = .ok (.iload 4, 2) := by decide +kernel
theorem dX9_isDatedDay_18 : decode cX9_isDatedDay 18 = .ok (.invokevirtual 234, 3) := by decide +kernel
theorem dX9_isDatedDay_21 : decode cX9_isDatedDay 21 = .ok (.invokestatic 238, 3) := by decide +kernel
theorem dX9_isDatedDay_24 : decode cX9_isDatedDay 24 = .ok (.ifCond .eq 7, 3) := by decide +kernel
theorem dX9_isDatedDay_27 : decode cX9_isDatedDay 27 = .ok (.iconst 1, 1) := by decide +kernel
theorem dX9_isDatedDay_28 : decode cX9_isDatedDay 28 = .ok (.goto 4, 3) := by decide +kernel
theorem dX9_isDatedDay_31 : decode cX9_isDatedDay 31 = .ok (.iconst 0, 1) := by decide +kernel
theorem dX9_isDatedDay_32 : decode cX9_isDatedDay 32 = .ok (.ireturn, 1) := by decide +kernel
set_option maxRecDepth 20000 in
theorem dX9_dayOf_0 : decode cX9_dayOf 0 = .ok (.aload_n 0, 1) := by decide +kernel
theorem dX9_dayOf_1 : decode cX9_dayOf 1 = .ok (.iload_n 1, 1) := by decide +kernel
theorem dX9_dayOf_2 : decode cX9_dayOf 2 = .ok (.invokevirtual 221, 3) := by decide +kernel
theorem dX9_dayOf_5 : decode cX9_dayOf 5 = .ok (.ifCond .ne 9, 3) := by decide +kernel
theorem dX9_dayOf_8 : decode cX9_dayOf 8 = .ok (.aload_n 0, 1) := by decide +kernel
theorem dX9_dayOf_9 : decode cX9_dayOf 9 = .ok (.iconst 1, 1) := by decide +kernel
theorem dX9_dayOf_10 : decode cX9_dayOf 10 = .ok (.invokevirtual 143, 3) := by decide +kernel
theorem dX9_dayOf_13 : decode cX9_dayOf 13 = .ok (.ireturn, 1) := by decide +kernel
theorem dX9_dayOf_14 : decode cX9_dayOf 14 = .ok (.aload_n 0, 1) := by decide +kernel
theorem dX9_dayOf_15 : decode cX9_dayOf 15 = .ok (.iload_n 1, 1) := by decide +kernel
theorem dX9_dayOf_16 : decode cX9_dayOf 16 = .ok (.iload_n 2, 1) := by decide +kernel
theorem dX9_dayOf_17 : decode cX9_dayOf 17 = .ok (.iload_n 3, 1) := by decide +kernel
theorem dX9_dayOf_18 : decode cX9_dayOf 18 = .ok (.iload 4, 2) := by decide +kernel
theorem dX9_dayOf_20 : decode cX9_dayOf 20 = .ok (.invokevirtual 241, 3) := by decide +kernel
theorem dX9_dayOf_23 : decode cX9_dayOf 23 = .ok (.ifCond .ne 9, 3) := by decide +kernel
theorem dX9_dayOf_26 : decode cX9_dayOf 26 = .ok (.aload_n 0, 1) := by decide +kernel
theorem dX9_dayOf_27 : decode cX9_dayOf 27 = .ok (.iconst 2, 1) := by decide +kernel
theorem dX9_dayOf_28 : decode cX9_dayOf 28 = .ok (.invokevirtual 143, 3) := by decide +kernel
theorem dX9_dayOf_31 : decode cX9_dayOf 31 = .ok (.ireturn, 1) := by decide +kernel
theorem dX9_dayOf_32 : decode cX9_dayOf 32 = .ok (.aload_n 0, 1) := by decide +kernel
theorem dX9_dayOf_33 : decode cX9_dayOf 33 = .ok (.iconst 0, 1) := by decide +kernel
theorem dX9_dayOf_34 : decode cX9_dayOf 34 = .ok (.putfield 67, 3) := by decide +kernel
theorem dX9_dayOf_37 : decode cX9_dayOf 37 = .ok (.aload_n 0, 1) := by decide +kernel
theorem dX9_dayOf_38 : decode cX9_dayOf 38 = .ok (.iload_n 1, 1) := by decide +kernel
theorem dX9_dayOf_39 : decode cX9_dayOf 39 = .ok (.iload_n 2, 1) := by decide +kernel
theorem dX9_dayOf_40 : decode cX9_dayOf 40 = .ok (.iload_n 3, 1) := by decide +kernel
theorem dX9_dayOf_41 : decode cX9_dayOf 41 = .ok (.iload 4, 2) := by decide +kernel
theorem dX9_dayOf_43 : decode cX9_dayOf 43 = .ok (.invokevirtual 234, 3) := by decide +kernel
theorem dX9_dayOf_46 : decode cX9_dayOf 46 = .ok (.ireturn, 1) := by decide +kernel
set_option maxRecDepth 20000 in
theorem dX9_date_0 : decode cX9_date 0 = .ok (.aload_n 0, 1) := by decide +kernel
theorem dX9_date_1 : decode cX9_date 1 = .ok (.iload_n 1, 1) := by decide +kernel
theorem dX9_date_2 : decode cX9_date 2 = .ok (.invokevirtual 221, 3) := by decide +kernel
theorem dX9_date_5 : decode cX9_date 5 = .ok (.ifCond .ne 9, 3) := by decide +kernel
theorem dX9_date_8 : decode cX9_date 8 = .ok (.aload_n 0, 1) := by decide +kernel
theorem dX9_date_9 : decode cX9_date 9 = .ok (.iconst 1, 1) := by decide +kernel
theorem dX9_date_10 : decode cX9_date 10 = .ok (.invokevirtual 143, 3) := by decide +kernel
theorem dX9_date_13 : decode cX9_date 13 = .ok (.ireturn, 1) := by decide +kernel
theorem dX9_date_14 : decode cX9_date 14 = .ok (.iload_n 2, 1) := by decide +kernel
theorem dX9_date_15 : decode cX9_date 15 = .ok (.invokestatic 238, 3) := by decide +kernel
theorem dX9_date_18 : decode cX9_date 18 = .ok (.ifCond .eq 12, 3) := by decide +kernel
theorem dX9_date_21 : decode cX9_date 21 = .ok (.iload_n 3, 1) := by decide +kernel
theorem dX9_date_22 : decode cX9_date 22 = .ok (.iconst 0, 1) := by decide +kernel
theorem dX9_date_23 : decode cX9_date 23 = .ok (.iconst 4, 1) := by decide +kernel
theorem dX9_date_24 : decode cX9_date 24 = .ok (.invokestatic 70, 3) := by decide +kernel
theorem dX9_date_27 : decode cX9_date 27 = .ok (.ifCond .ne 9, 3) := by decide +kernel
theorem dX9_date_30 : decode cX9_date 30 = .ok (.aload_n 0, 1) := by decide +kernel
theorem dX9_date_31 : decode cX9_date 31 = .ok (.iconst 2, 1) := by decide +kernel
theorem dX9_date_32 : decode cX9_date 32 = .ok (.invokevirtual 143, 3) := by decide +kernel
theorem dX9_date_35 : decode cX9_date 35 = .ok (.ireturn, 1) := by decide +kernel
theorem dX9_date_36 : decode cX9_date 36 = .ok (.aload_n 0, 1) := by decide +kernel
theorem dX9_date_37 : decode cX9_date 37 = .ok (.iload_n 1, 1) := by decide +kernel
theorem dX9_date_38 : decode cX9_date 38 = .ok (.iload_n 2, 1) := by decide +kernel
theorem dX9_date_39 : decode cX9_date 39 = .ok (.invokevirtual 244, 3) := by decide +kernel
theorem dX9_date_42 : decode cX9_date 42 = .ok (.ifCond .ne 9, 3) := by decide +kernel
theorem dX9_date_45 : decode cX9_date 45 = .ok (.aload_n 0, 1) := by decide +kernel
theorem dX9_date_46 : decode cX9_date 46 = .ok (.iconst 3, 1) := by decide +kernel
theorem dX9_date_47 : decode cX9_date 47 = .ok (.invokevirtual 143, 3) := by decide +kernel
theorem dX9_date_50 : decode cX9_date 50 = .ok (.ireturn, 1) := by decide +kernel
theorem dX9_date_51 : decode cX9_date 51 = .ok (.aload_n 0, 1) := by decide +kernel
theorem dX9_date_52 : decode cX9_date 52 = .ok (.iconst 0, 1) := by decide +kernel
theorem dX9_date_53 : decode cX9_date 53 = .ok (.putfield 67, 3) := by decide +kernel
theorem dX9_date_56 : decode cX9_date 56 = .ok (.aload_n 0, 1) := by decide +kernel
theorem dX9_date_57 : decode cX9_date 57 = .ok (.iload_n 1, 1) := by decide +kernel
theorem dX9_date_58 : decode cX9_date 58 = .ok (.iload_n 2, 1) := by decide +kernel
theorem dX9_date_59 : decode cX9_date 59 = .ok (.iload_n 3, 1) := by decide +kernel
theorem dX9_date_60 : decode cX9_date 60 = .ok (.invokevirtual 247, 3) := by decide +kernel
theorem dX9_date_63 : decode cX9_date 63 = .ok (.ireturn, 1) := by decide +kernel
set_option maxRecDepth 20000 in
theorem dX9_convert_0 : decode cX9_convert 0 = .ok (.aload_n 0, 1) := by decide +kernel
theorem dX9_convert_1 : decode cX9_convert 1 = .ok (.iload_n 1, 1) := by decide +kernel
theorem dX9_convert_2 : decode cX9_convert 2 = .ok (.invokevirtual 221, 3) := by decide +kernel
theorem dX9_convert_5 : decode cX9_convert 5 = .ok (.ifCond .eq 12, 3) := by decide +kernel
theorem dX9_convert_8 : decode cX9_convert 8 = .ok (.aload_n 0, 1) := by decide +kernel
theorem dX9_convert_9 : decode cX9_convert 9 = .ok (.iload 5, 2) := by decide +kernel
theorem dX9_convert_11 : decode cX9_convert 11 = .ok (.invokevirtual 221, 3) := by decide +kernel
theorem dX9_convert_14 : decode cX9_convert 14 = .ok (.ifCond .ne 9, 3) := by decide +kernel
theorem dX9_convert_17 : decode cX9_convert 17 = .ok (.aload_n 0, 1) := by decide +kernel
theorem dX9_convert_18 : decode cX9_convert 18 = .ok (.iconst 1, 1) := by decide +kernel
theorem dX9_convert_19 : decode cX9_convert 19 = .ok (.invokevirtual 143, 3) := by decide +kernel
theorem dX9_convert_22 : decode cX9_convert 22 = .ok (.ireturn, 1) := by decide +kernel
theorem dX9_convert_23 : decode cX9_convert 23 = .ok (.aload_n 0, 1) := by decide +kernel
theorem dX9_convert_24 : decode cX9_convert 24 = .ok (.iload_n 1, 1) := by decide +kernel
theorem dX9_convert_25 : decode cX9_convert 25 = .ok (.iload_n 2, 1) := by decide +kernel
theorem dX9_convert_26 : decode cX9_convert 26 = .ok (.iload_n 3, 1) := by decide +kernel
theorem dX9_convert_27 : decode cX9_convert 27 = .ok (.iload 4, 2) := by decide +kernel
theorem dX9_convert_29 : decode cX9_convert 29 = .ok (.invokevirtual 241, 3) := by decide +kernel
theorem dX9_convert_32 : decode cX9_convert 32 = .ok (.ifCond .eq 13, 3) := by decide +kernel
theorem dX9_convert_35 : decode cX9_convert 35 = .ok (.iload 6, 2) := by decide +kernel
theorem dX9_convert_37 : decode cX9_convert 37 = .ok (.iconst 0, 1) := by decide +kernel
theorem dX9_convert_38 : decode cX9_convert 38 = .ok (.iconst 4, 1) := by decide +kernel
theorem dX9_convert_39 : decode cX9_convert 39 = .ok (.invokestatic 70, 3) := by decide +kernel
theorem dX9_convert_42 : decode cX9_convert 42 = .ok (.ifCond .ne 9, 3) := by decide +kernel
theorem dX9_convert_45 : decode cX9_convert 45 = .ok (.aload_n 0, 1) := by decide +kernel
theorem dX9_convert_46 : decode cX9_convert 46 = .ok (.iconst 2, 1) := by decide +kernel
theorem dX9_convert_47 : decode cX9_convert 47 = .ok (.invokevirtual 143, 3) := by decide +kernel
theorem dX9_convert_50 : decode cX9_convert 50 = .ok (.ireturn, 1) := by decide +kernel
theorem dX9_convert_51 : decode cX9_convert 51 = .ok (.aload_n 0, 1) := by decide +kernel
theorem dX9_convert_52 : decode cX9_convert 52 = .ok (.iload_n 1, 1) := by decide +kernel
theorem dX9_convert_53 : decode cX9_convert 53 = .ok (.iload_n 2, 1) := by decide +kernel
theorem dX9_convert_54 : decode cX9_convert 54 = .ok (.iload_n 3, 1) := by decide +kernel
theorem dX9_convert_55 : decode cX9_convert 55 = .ok (.iload 4, 2) := by decide +kernel
theorem dX9_convert_57 : decode cX9_convert 57 = .ok (.invokevirtual 234, 3) := by decide +kernel
theorem dX9_convert_60 : decode cX9_convert 60 = .ok (.istore 7, 2) := by decide +kernel
theorem dX9_convert_62 : decode cX9_convert 62 = .ok (.aload_n 0, 1) := by decide +kernel
theorem dX9_convert_63 : decode cX9_convert 63 = .ok (.iload 5, 2) := by decide +kernel
theorem dX9_convert_65 : decode cX9_convert 65 = .ok (.iload 7, 2) := by decide +kernel
theorem dX9_convert_67 : decode cX9_convert 67 = .ok (.invokevirtual 244, 3) := by decide +kernel
theorem dX9_convert_70 : decode cX9_convert 70 = .ok (.ifCond .ne 9, 3) := by decide +kernel
theorem dX9_convert_73 : decode cX9_convert 73 = .ok (.aload_n 0, 1) := by decide +kernel
theorem dX9_convert_74 : decode cX9_convert 74 = .ok (.iconst 3, 1) := by decide +kernel
theorem dX9_convert_75 : decode cX9_convert 75 = .ok (.invokevirtual 143, 3) := by decide +kernel
theorem dX9_convert_78 : decode cX9_convert 78 = .ok (.ireturn, 1) := by decide +kernel
theorem dX9_convert_79 : decode cX9_convert 79 = .ok (.aload_n 0, 1) := by decide +kernel
theorem dX9_convert_80 : decode cX9_convert 80 = .ok (.iconst 0, 1) := by decide +kernel
theorem dX9_convert_81 : decode cX9_convert 81 = .ok (.putfield 67, 3) := by decide +kernel
theorem dX9_convert_84 : decode cX9_convert 84 = .ok (.aload_n 0, 1) := by decide +kernel
theorem dX9_convert_85 : decode cX9_convert 85 = .ok (.iload 5, 2) := by decide +kernel
theorem dX9_convert_87 : decode cX9_convert 87 = .ok (.iload 7, 2) := by decide +kernel
theorem dX9_convert_89 : decode cX9_convert 89 = .ok (.iload 6, 2) := by decide +kernel
theorem dX9_convert_91 : decode cX9_convert 91 = .ok (.invokevirtual 247, 3) := by decide +kernel
theorem dX9_convert_94 : decode cX9_convert 94 = .ok (.ireturn, 1) := by decide +kernel
set_option maxRecDepth 20000 in
theorem dX9_firstWeek_0 : decode cX9_firstWeek 0 = .ok (.aload_n 0, 1) := by decide +kernel
theorem dX9_firstWeek_1 : decode cX9_firstWeek 1 = .ok (.iload_n 1, 1) := by decide +kernel
theorem dX9_firstWeek_2 : decode cX9_firstWeek 2 = .ok (.iload_n 2, 1) := by decide +kernel
theorem dX9_firstWeek_3 : decode cX9_firstWeek 3 = .ok (.invokevirtual 101, 3) := by decide +kernel
theorem dX9_firstWeek_6 : decode cX9_firstWeek 6 = .ok (.aload_n 0, 1) := by decide +kernel
theorem dX9_firstWeek_7 : decode cX9_firstWeek 7 = .ok (.iload_n 1, 1) := by decide +kernel
theorem dX9_firstWeek_8 : decode cX9_firstWeek 8 = .ok (.bipush 32, 2) := by decide +kernel
theorem dX9_firstWeek_10 : decode cX9_firstWeek 10 = .ok (.invokevirtual 80, 3) := by decide +kernel
theorem dX9_firstWeek_13 : decode cX9_firstWeek 13 = .ok (.iadd, 1) := by decide +kernel
theorem dX9_firstWeek_14 : decode cX9_firstWeek 14 = .ok (.iconst 1, 1) := by decide +kernel
theorem dX9_firstWeek_15 : decode cX9_firstWeek 15 = .ok (.isub, 1) := by decide +kernel
theorem dX9_firstWeek_16 : decode cX9_firstWeek 16 = .ok (.istore_n 3, 1) := by decide +kernel
theorem dX9_firstWeek_17 : decode cX9_firstWeek 17 = .ok (.iload_n 3, 1) := by decide +kernel
theorem dX9_firstWeek_18 : decode cX9_firstWeek 18 = .ok (.aload_n 0, 1) := by decide +kernel
theorem dX9_firstWeek_19 : decode cX9_firstWeek 19 = .ok (.iload_n 1, 1) := by decide +kernel
theorem dX9_firstWeek_20 : decode cX9_firstWeek 20 = .ok (.iload_n 3, 1) := by decide +kernel
theorem dX9_firstWeek_21 : decode cX9_firstWeek 21 = .ok (.invokevirtual 140, 3) := by decide +kernel
theorem dX9_firstWeek_24 : decode cX9_firstWeek 24 = .ok (.isub, 1) := by decide +kernel
theorem dX9_firstWeek_25 : decode cX9_firstWeek 25 = .ok (.ireturn, 1) := by decide +kernel
set_option maxRecDepth 20000 in
theorem dX9_weekYear_0 : decode cX9_weekYear 0 = .ok (.aload_n 0, 1) := by decide +kernel
theorem dX9_weekYear_1 : decode cX9_weekYear 1 = .ok (.iload_n 1, 1) := by decide +kernel
theorem dX9_weekYear_2 : decode cX9_weekYear 2 = .ok (.iload_n 2, 1) := by decide +kernel
theorem dX9_weekYear_3 : decode cX9_weekYear 3 = .ok (.invokevirtual 124, 3) := by decide +kernel
theorem dX9_weekYear_6 : decode cX9_weekYear 6 = .ok (.bipush 12, 2) := by decide +kernel
theorem dX9_weekYear_8 : decode cX9_weekYear 8 = .ok (.isub, 1) := by decide +kernel
theorem dX9_weekYear_9 : decode cX9_weekYear 9 = .ok (.istore_n 3, 1) := by decide +kernel
theorem dX9_weekYear_10 : decode cX9_weekYear 10 = .ok (.iload_n 3, 1) := by decide +kernel
theorem dX9_weekYear_11 : decode cX9_weekYear 11 = .ok (.sipush (-2020), 3) := by decide +kernel
theorem dX9_weekYear_14 : decode cX9_weekYear 14 = .ok (.if_icmp .ge 9, 3) := by decide +kernel
theorem dX9_weekYear_17 : decode cX9_weekYear 17 = .ok (.sipush (-2020), 3) := by decide +kernel
theorem dX9_weekYear_20 : decode cX9_weekYear 20 = .ok (.goto 4, 3) := by decide +kernel
theorem dX9_weekYear_23 : decode cX9_weekYear 23 = .ok (.iload_n 3, 1) := by decide +kernel
theorem dX9_weekYear_24 : decode cX9_weekYear 24 = .ok (.istore_n 3, 1) := by decide +kernel
theorem dX9_weekYear_25 : decode cX9_weekYear 25 = .ok (.iload_n 3, 1) := by decide +kernel
theorem dX9_weekYear_26 : decode cX9_weekYear 26 = .ok (.iconst 1, 1) := by decide +kernel
theorem dX9_weekYear_27 : decode cX9_weekYear 27 = .ok (.iadd, 1) := by decide +kernel
theorem dX9_weekYear_28 : decode cX9_weekYear 28 = .ok (.sipush 2022, 3) := by decide +kernel
theorem dX9_weekYear_31 : decode cX9_weekYear 31 = .ok (.if_icmp .ge 21, 3) := by decide +kernel
theorem dX9_weekYear_34 : decode cX9_weekYear 34 = .ok (.aload_n 0, 1) := by decide +kernel
theorem dX9_weekYear_35 : decode cX9_weekYear 35 = .ok (.iload_n 1, 1) := by decide +kernel
theorem dX9_weekYear_36 : decode cX9_weekYear 36 = .ok (.iload_n 3, 1) := by decide +kernel
theorem dX9_weekYear_37 : decode cX9_weekYear 37 = .ok (.iconst 1, 1) := by decide +kernel
theorem dX9_weekYear_38 : decode cX9_weekYear 38 = .ok (.iadd, 1) := by decide +kernel
theorem dX9_weekYear_39 : decode cX9_weekYear 39 = .ok (.invokevirtual 250, 3) := by decide +kernel
theorem dX9_weekYear_42 : decode cX9_weekYear 42 = .ok (.iload_n 2, 1) := by decide +kernel
theorem dX9_weekYear_43 : decode cX9_weekYear 43 = .ok (.if_icmp .gt 9, 3) := by decide +kernel
theorem dX9_weekYear_46 : decode cX9_weekYear 46 = .ok (.iinc 3 1, 3) := by decide +kernel
theorem dX9_weekYear_49 : decode cX9_weekYear 49 = .ok (.goto (-24), 3) := by decide +kernel
theorem dX9_weekYear_52 : decode cX9_weekYear 52 = .ok (.iload_n 3, 1) := by decide +kernel
theorem dX9_weekYear_53 : decode cX9_weekYear 53 = .ok (.ireturn, 1) := by decide +kernel
set_option maxRecDepth 20000 in
theorem dX9_week_0 : decode cX9_week 0 = .ok (.aload_n 0, 1) := by decide +kernel
theorem dX9_week_1 : decode cX9_week 1 = .ok (.iload_n 1, 1) := by decide +kernel
theorem dX9_week_2 : decode cX9_week 2 = .ok (.invokevirtual 221, 3) := by decide +kernel
theorem dX9_week_5 : decode cX9_week 5 = .ok (.ifCond .ne 9, 3) := by decide +kernel
theorem dX9_week_8 : decode cX9_week 8 = .ok (.aload_n 0, 1) := by decide +kernel
theorem dX9_week_9 : decode cX9_week 9 = .ok (.iconst 1, 1) := by decide +kernel
theorem dX9_week_10 : decode cX9_week 10 = .ok (.invokevirtual 143, 3) := by decide +kernel
theorem dX9_week_13 : decode cX9_week 13 = .ok (.ireturn, 1) := by decide +kernel
theorem dX9_week_14 : decode cX9_week 14 = .ok (.iload_n 2, 1) := by decide +kernel
theorem dX9_week_15 : decode cX9_week 15 = .ok (.invokestatic 238, 3) := by decide +kernel
theorem dX9_week_18 : decode cX9_week 18 = .ok (.ifCond .eq 12, 3) := by decide +kernel
theorem dX9_week_21 : decode cX9_week 21 = .ok (.iload_n 3, 1) := by decide +kernel
theorem dX9_week_22 : decode cX9_week 22 = .ok (.iconst 0, 1) := by decide +kernel
theorem dX9_week_23 : decode cX9_week 23 = .ok (.iconst 1, 1) := by decide +kernel
theorem dX9_week_24 : decode cX9_week 24 = .ok (.invokestatic 70, 3) := by decide +kernel
theorem dX9_week_27 : decode cX9_week 27 = .ok (.ifCond .ne 9, 3) := by decide +kernel
theorem dX9_week_30 : decode cX9_week 30 = .ok (.aload_n 0, 1) := by decide +kernel
theorem dX9_week_31 : decode cX9_week 31 = .ok (.iconst 2, 1) := by decide +kernel
theorem dX9_week_32 : decode cX9_week 32 = .ok (.invokevirtual 143, 3) := by decide +kernel
theorem dX9_week_35 : decode cX9_week 35 = .ok (.ireturn, 1) := by decide +kernel
theorem dX9_week_36 : decode cX9_week 36 = .ok (.aload_n 0, 1) := by decide +kernel
theorem dX9_week_37 : decode cX9_week 37 = .ok (.iload_n 1, 1) := by decide +kernel
theorem dX9_week_38 : decode cX9_week 38 = .ok (.iload_n 2, 1) := by decide +kernel
theorem dX9_week_39 : decode cX9_week 39 = .ok (.invokevirtual 244, 3) := by decide +kernel
theorem dX9_week_42 : decode cX9_week 42 = .ok (.ifCond .ne 9, 3) := by decide +kernel
theorem dX9_week_45 : decode cX9_week 45 = .ok (.aload_n 0, 1) := by decide +kernel
theorem dX9_week_46 : decode cX9_week 46 = .ok (.iconst 3, 1) := by decide +kernel
theorem dX9_week_47 : decode cX9_week 47 = .ok (.invokevirtual 143, 3) := by decide +kernel
theorem dX9_week_50 : decode cX9_week 50 = .ok (.ireturn, 1) := by decide +kernel
theorem dX9_week_51 : decode cX9_week 51 = .ok (.aload_n 0, 1) := by decide +kernel
theorem dX9_week_52 : decode cX9_week 52 = .ok (.iconst 0, 1) := by decide +kernel
theorem dX9_week_53 : decode cX9_week 53 = .ok (.putfield 67, 3) := by decide +kernel
theorem dX9_week_56 : decode cX9_week 56 = .ok (.aload_n 0, 1) := by decide +kernel
theorem dX9_week_57 : decode cX9_week 57 = .ok (.iload_n 1, 1) := by decide +kernel
theorem dX9_week_58 : decode cX9_week 58 = .ok (.iload_n 2, 1) := by decide +kernel
theorem dX9_week_59 : decode cX9_week 59 = .ok (.invokevirtual 253, 3) := by decide +kernel
theorem dX9_week_62 : decode cX9_week 62 = .ok (.istore 4, 2) := by decide +kernel
theorem dX9_week_64 : decode cX9_week 64 = .ok (.iload_n 3, 1) := by decide +kernel
theorem dX9_week_65 : decode cX9_week 65 = .ok (.ifCond .ne 8, 3) := by decide +kernel
theorem dX9_week_68 : decode cX9_week 68 = .ok (.iload 4, 2) := by decide +kernel
theorem dX9_week_70 : decode cX9_week 70 = .ok (.goto 22, 3) := by decide +kernel
theorem dX9_week_73 : decode cX9_week 73 = .ok (.iload_n 2, 1) := by decide +kernel
theorem dX9_week_74 : decode cX9_week 74 = .ok (.aload_n 0, 1) := by decide +kernel
theorem dX9_week_75 : decode cX9_week 75 = .ok (.iload_n 1, 1) := by decide +kernel
theorem dX9_week_76 : decode cX9_week 76 = .ok (.iload 4, 2) := by decide +kernel
theorem dX9_week_78 : decode cX9_week 78 = .ok (.invokevirtual 250, 3) := by decide +kernel
theorem dX9_week_81 : decode cX9_week 81 = .ok (.isub, 1) := by decide +kernel
theorem dX9_week_82 : decode cX9_week 82 = .ok (.aload_n 0, 1) := by decide +kernel
theorem dX9_week_83 : decode cX9_week 83 = .ok (.iload_n 1, 1) := by decide +kernel
theorem dX9_week_84 : decode cX9_week 84 = .ok (.bipush 30, 2) := by decide +kernel
theorem dX9_week_86 : decode cX9_week 86 = .ok (.invokevirtual 80, 3) := by decide +kernel
theorem dX9_week_89 : decode cX9_week 89 = .ok (.idiv, 1) := by decide +kernel
theorem dX9_week_90 : decode cX9_week 90 = .ok (.iconst 1, 1) := by decide +kernel
theorem dX9_week_91 : decode cX9_week 91 = .ok (.iadd, 1) := by decide +kernel
theorem dX9_week_92 : decode cX9_week 92 = .ok (.ireturn, 1) := by decide +kernel
set_option maxRecDepth 20000 in
theorem dX9_weeksOf_0 : decode cX9_weeksOf 0 = .ok (.aload_n 0, 1) := by decide +kernel
theorem dX9_weeksOf_1 : decode cX9_weeksOf 1 = .ok (.iload_n 1, 1) := by decide +kernel
theorem dX9_weeksOf_2 : decode cX9_weeksOf 2 = .ok (.iload_n 2, 1) := by decide +kernel
theorem dX9_weeksOf_3 : decode cX9_weeksOf 3 = .ok (.iconst 1, 1) := by decide +kernel
theorem dX9_weeksOf_4 : decode cX9_weeksOf 4 = .ok (.iadd, 1) := by decide +kernel
theorem dX9_weeksOf_5 : decode cX9_weeksOf 5 = .ok (.invokevirtual 250, 3) := by decide +kernel
theorem dX9_weeksOf_8 : decode cX9_weeksOf 8 = .ok (.aload_n 0, 1) := by decide +kernel
theorem dX9_weeksOf_9 : decode cX9_weeksOf 9 = .ok (.iload_n 1, 1) := by decide +kernel
theorem dX9_weeksOf_10 : decode cX9_weeksOf 10 = .ok (.iload_n 2, 1) := by decide +kernel
theorem dX9_weeksOf_11 : decode cX9_weeksOf 11 = .ok (.invokevirtual 250, 3) := by decide +kernel
theorem dX9_weeksOf_14 : decode cX9_weeksOf 14 = .ok (.isub, 1) := by decide +kernel
theorem dX9_weeksOf_15 : decode cX9_weeksOf 15 = .ok (.aload_n 0, 1) := by decide +kernel
theorem dX9_weeksOf_16 : decode cX9_weeksOf 16 = .ok (.iload_n 1, 1) := by decide +kernel
theorem dX9_weeksOf_17 : decode cX9_weeksOf 17 = .ok (.bipush 30, 2) := by decide +kernel
theorem dX9_weeksOf_19 : decode cX9_weeksOf 19 = .ok (.invokevirtual 80, 3) := by decide +kernel
theorem dX9_weeksOf_22 : decode cX9_weeksOf 22 = .ok (.idiv, 1) := by decide +kernel
theorem dX9_weeksOf_23 : decode cX9_weeksOf 23 = .ok (.ireturn, 1) := by decide +kernel
set_option maxRecDepth 20000 in
theorem dX9_weeks_0 : decode cX9_weeks 0 = .ok (.aload_n 0, 1) := by decide +kernel
theorem dX9_weeks_1 : decode cX9_weeks 1 = .ok (.aload_n 0, 1) := by decide +kernel
theorem dX9_weeks_2 : decode cX9_weeks 2 = .ok (.iload_n 1, 1) := by decide +kernel
theorem dX9_weeks_3 : decode cX9_weeks 3 = .ok (.iload_n 2, 1) := by decide +kernel
theorem dX9_weeks_4 : decode cX9_weeks 4 = .ok (.invokevirtual 224, 3) := by decide +kernel
theorem dX9_weeks_7 : decode cX9_weeks 7 = .ok (.putfield 67, 3) := by decide +kernel
theorem dX9_weeks_10 : decode cX9_weeks 10 = .ok (.aload_n 0, 1) := by decide +kernel
theorem dX9_weeks_11 : decode cX9_weeks 11 = .ok (.getfield 67, 3) := by decide +kernel
theorem dX9_weeks_14 : decode cX9_weeks 14 = .ok (.ifCond .le 7, 3) := by decide +kernel
theorem dX9_weeks_17 : decode cX9_weeks 17 = .ok (.iconst 0, 1) := by decide +kernel
theorem dX9_weeks_18 : decode cX9_weeks 18 = .ok (.goto 9, 3) := by decide +kernel
theorem dX9_weeks_21 : decode cX9_weeks 21 = .ok (.aload_n 0, 1) := by decide +kernel
theorem dX9_weeks_22 : decode cX9_weeks 22 = .ok (.iload_n 1, 1) := by decide +kernel
theorem dX9_weeks_23 : decode cX9_weeks 23 = .ok (.iload_n 2, 1) := by decide +kernel
theorem dX9_weeks_24 : decode cX9_weeks 24 = .ok (.invokevirtual 256, 3) := by decide +kernel
theorem dX9_weeks_27 : decode cX9_weeks 27 = .ok (.ireturn, 1) := by decide +kernel
set_option maxRecDepth 20000 in
theorem dX9_firstDayOfWeek_0 : decode cX9_firstDayOfWeek 0 = .ok (.aload_n 0, 1) := by decide +kernel
theorem dX9_firstDayOfWeek_1 : decode cX9_firstDayOfWeek 1 = .ok (.iload_n 1, 1) := by decide +kernel
theorem dX9_firstDayOfWeek_2 : decode cX9_firstDayOfWeek 2 = .ok (.invokevirtual 221, 3) := by decide +kernel
theorem dX9_firstDayOfWeek_5 : decode cX9_firstDayOfWeek 5 = .ok (.ifCond .ne 9, 3) := by decide +kernel
theorem dX9_firstDayOfWeek_8 : decode cX9_firstDayOfWeek 8 = .ok (.aload_n 0, 1) := by decide +kernel
theorem dX9_firstDayOfWeek_9 : decode cX9_firstDayOfWeek 9 = .ok (.iconst 1, 1) := by decide +kernel
theorem dX9_firstDayOfWeek_10 : decode cX9_firstDayOfWeek 10 = .ok (.invokevirtual 143, 3) := by decide +kernel
theorem dX9_firstDayOfWeek_13 : decode cX9_firstDayOfWeek 13 = .ok (.ireturn, 1) := by decide +kernel
theorem dX9_firstDayOfWeek_14 : decode cX9_firstDayOfWeek 14 = .ok (.iload_n 2, 1) := by decide +kernel
theorem dX9_firstDayOfWeek_15 : decode cX9_firstDayOfWeek 15 = .ok (.invokestatic 110, 3) := by decide +kernel
theorem dX9_firstDayOfWeek_18 : decode cX9_firstDayOfWeek 18 = .ok (.ifCond .eq 17, 3) := by decide +kernel
theorem dX9_firstDayOfWeek_21 : decode cX9_firstDayOfWeek 21 = .ok (.iload_n 3, 1) := by decide +kernel
theorem dX9_firstDayOfWeek_22 : decode cX9_firstDayOfWeek 22 = .ok (.iconst 1, 1) := by decide +kernel
theorem dX9_firstDayOfWeek_23 : decode cX9_firstDayOfWeek 23 = .ok (.aload_n 0, 1) := by decide +kernel
theorem dX9_firstDayOfWeek_24 : decode cX9_firstDayOfWeek 24 = .ok (.iload_n 1, 1) := by decide +kernel
theorem dX9_firstDayOfWeek_25 : decode cX9_firstDayOfWeek 25 = .ok (.iload_n 2, 1) := by decide +kernel
theorem dX9_firstDayOfWeek_26 : decode cX9_firstDayOfWeek 26 = .ok (.invokevirtual 256, 3) := by decide +kernel
theorem dX9_firstDayOfWeek_29 : decode cX9_firstDayOfWeek 29 = .ok (.invokestatic 70, 3) := by decide +kernel
theorem dX9_firstDayOfWeek_32 : decode cX9_firstDayOfWeek 32 = .ok (.ifCond .ne 9, 3) := by decide +kernel
theorem dX9_firstDayOfWeek_35 : decode cX9_firstDayOfWeek 35 = .ok (.aload_n 0, 1) := by decide +kernel
theorem dX9_firstDayOfWeek_36 : decode cX9_firstDayOfWeek 36 = .ok (.iconst 2, 1) := by decide +kernel
theorem dX9_firstDayOfWeek_37 : decode cX9_firstDayOfWeek 37 = .ok (.invokevirtual 143, 3) := by decide +kernel
theorem dX9_firstDayOfWeek_40 : decode cX9_firstDayOfWeek 40 = .ok (.ireturn, 1) := by decide +kernel
theorem dX9_firstDayOfWeek_41 : decode cX9_firstDayOfWeek 41 = .ok (.aload_n 0, 1) := by decide +kernel
theorem dX9_firstDayOfWeek_42 : decode cX9_firstDayOfWeek 42 = .ok (.iconst 0, 1) := by decide +kernel
theorem dX9_firstDayOfWeek_43 : decode cX9_firstDayOfWeek 43 = .ok (.putfield 67, 3) := by decide +kernel
theorem dX9_firstDayOfWeek_46 : decode cX9_firstDayOfWeek 46 = .ok (.aload_n 0, 1) := by decide +kernel
theorem dX9_firstDayOfWeek_47 : decode cX9_firstDayOfWeek 47 = .ok (.iload_n 1, 1) := by decide +kernel
theorem dX9_firstDayOfWeek_48 : decode cX9_firstDayOfWeek 48 = .ok (.iload_n 2, 1) := by decide +kernel
theorem dX9_firstDayOfWeek_49 : decode cX9_firstDayOfWeek 49 = .ok (.invokevirtual 250, 3) := by decide +kernel
theorem dX9_firstDayOfWeek_52 : decode cX9_firstDayOfWeek 52 = .ok (.aload_n 0, 1) := by decide +kernel
theorem dX9_firstDayOfWeek_53 : decode cX9_firstDayOfWeek 53 = .ok (.iload_n 1, 1) := by decide +kernel
theorem dX9_firstDayOfWeek_54 : decode cX9_firstDayOfWeek 54 = .ok (.bipush 30, 2) := by decide +kernel
theorem dX9_firstDayOfWeek_56 : decode cX9_firstDayOfWeek 56 = .ok (.invokevirtual 80, 3) := by decide +kernel
theorem dX9_firstDayOfWeek_59 : decode cX9_firstDayOfWeek 59 = .ok (.iload_n 3, 1) := by decide +kernel
theorem dX9_firstDayOfWeek_60 : decode cX9_firstDayOfWeek 60 = .ok (.iconst 1, 1) := by decide +kernel
theorem dX9_firstDayOfWeek_61 : decode cX9_firstDayOfWeek 61 = .ok (.isub, 1) := by decide +kernel
theorem dX9_firstDayOfWeek_62 : decode cX9_firstDayOfWeek 62 = .ok (.imul, 1) := by decide +kernel
theorem dX9_firstDayOfWeek_63 : decode cX9_firstDayOfWeek 63 = .ok (.iadd, 1) := by decide +kernel
theorem dX9_firstDayOfWeek_64 : decode cX9_firstDayOfWeek 64 = .ok (.ireturn, 1) := by decide +kernel
set_option maxRecDepth 20000 in
theorem dX9_cutDate_0 : decode cX9_cutDate 0 = .ok (.iload_n 2, 1) := by decide +kernel
theorem dX9_cutDate_1 : decode cX9_cutDate 1 = .ok (.invokestatic 110, 3) := by decide +kernel
theorem dX9_cutDate_4 : decode cX9_cutDate 4 = .ok (.ifCond .ne 7, 3) := by decide +kernel
theorem dX9_cutDate_7 : decode cX9_cutDate 7 = .ok (.ldc_w 259, 3) := by decide +kernel
theorem dX9_cutDate_10 : decode cX9_cutDate 10 = .ok (.ireturn, 1) := by decide +kernel
theorem dX9_cutDate_11 : decode cX9_cutDate 11 = .ok (.aload_n 0, 1) := by decide +kernel
theorem dX9_cutDate_12 : decode cX9_cutDate 12 = .ok (.iload_n 1, 1) := by decide +kernel
theorem dX9_cutDate_13 : decode cX9_cutDate 13 = .ok (.iload_n 2, 1) := by decide +kernel
theorem dX9_cutDate_14 : decode cX9_cutDate 14 = .ok (.iload_n 3, 1) := by decide +kernel
theorem dX9_cutDate_15 : decode cX9_cutDate 15 = .ok (.invokevirtual 120, 3) := by decide +kernel
theorem dX9_cutDate_18 : decode cX9_cutDate 18 = .ok (.istore 5, 2) := by decide +kernel
theorem dX9_cutDate_20 : decode cX9_cutDate 20 = .ok (.aload_n 0, 1) := by decide +kernel
theorem dX9_cutDate_21 : decode cX9_cutDate 21 = .ok (.iload_n 1, 1) := by decide +kernel
theorem dX9_cutDate_22 : decode cX9_cutDate 22 = .ok (.iload_n 2, 1) := by decide +kernel
theorem dX9_cutDate_23 : decode cX9_cutDate 23 = .ok (.iload_n 3, 1) := by decide +kernel
theorem dX9_cutDate_24 : decode cX9_cutDate 24 = .ok (.iload 4, 2) := by decide +kernel
theorem dX9_cutDate_26 : decode cX9_cutDate 26 = .ok (.iload 5, 2) := by decide +kernel
theorem dX9_cutDate_28 : decode cX9_cutDate 28 = .ok (.if_icmp .ge 8, 3) := by decide +kernel
theorem dX9_cutDate_31 : decode cX9_cutDate 31 = .ok (.iload 4, 2) := by decide +kernel
theorem dX9_cutDate_33 : decode cX9_cutDate 33 = .ok (.goto 5, 3) := by decide +kernel
theorem dX9_cutDate_36 : decode cX9_cutDate 36 = .ok (.iload 5, 2) := by decide +kernel
theorem dX9_cutDate_38 : decode cX9_cutDate 38 = .ok (.invokevirtual 234, 3) := by decide +kernel
theorem dX9_cutDate_41 : decode cX9_cutDate 41 = .ok (.istore 6, 2) := by decide +kernel
theorem dX9_cutDate_43 : decode cX9_cutDate 43 = .ok (.iload 6, 2) := by decide +kernel
theorem dX9_cutDate_45 : decode cX9_cutDate 45 = .ok (.invokestatic 238, 3) := by decide +kernel
theorem dX9_cutDate_48 : decode cX9_cutDate 48 = .ok (.ifCond .eq 8, 3) := by decide +kernel
theorem dX9_cutDate_51 : decode cX9_cutDate 51 = .ok (.iload 6, 2) := by decide +kernel
theorem dX9_cutDate_53 : decode cX9_cutDate 53 = .ok (.goto 6, 3) := by decide +kernel
theorem dX9_cutDate_56 : decode cX9_cutDate 56 = .ok (.ldc_w 259, 3) := by decide +kernel
theorem dX9_cutDate_59 : decode cX9_cutDate 59 = .ok (.ireturn, 1) := by decide +kernel
set_option maxRecDepth 20000 in
theorem dX9_monthsLater_0 : decode cX9_monthsLater 0 = .ok (.aload_n 0, 1) := by decide +kernel
theorem dX9_monthsLater_1 : decode cX9_monthsLater 1 = .ok (.iload_n 1, 1) := by decide +kernel
theorem dX9_monthsLater_2 : decode cX9_monthsLater 2 = .ok (.iload_n 2, 1) := by decide +kernel
theorem dX9_monthsLater_3 : decode cX9_monthsLater 3 = .ok (.invokevirtual 136, 3) := by decide +kernel
theorem dX9_monthsLater_6 : decode cX9_monthsLater 6 = .ok (.aload_n 0, 1) := by decide +kernel
theorem dX9_monthsLater_7 : decode cX9_monthsLater 7 = .ok (.getfield 127, 3) := by decide +kernel
theorem dX9_monthsLater_10 : decode cX9_monthsLater 10 = .ok (.istore 4, 2) := by decide +kernel
theorem dX9_monthsLater_12 : decode cX9_monthsLater 12 = .ok (.aload_n 0, 1) := by decide +kernel
theorem dX9_monthsLater_13 : decode cX9_monthsLater 13 = .ok (.getfield 130, 3) := by decide +kernel
theorem dX9_monthsLater_16 : decode cX9_monthsLater 16 = .ok (.iload_n 3, 1) := by decide +kernel
theorem dX9_monthsLater_17 : decode cX9_monthsLater 17 = .ok (.iadd, 1) := by decide +kernel
theorem dX9_monthsLater_18 : decode cX9_monthsLater 18 = .ok (.istore 5, 2) := by decide +kernel
theorem dX9_monthsLater_20 : decode cX9_monthsLater 20 = .ok (.iload 4, 2) := by decide +kernel
theorem dX9_monthsLater_22 : decode cX9_monthsLater 22 = .ok (.invokestatic 110, 3) := by decide +kernel
theorem dX9_monthsLater_25 : decode cX9_monthsLater 25 = .ok (.ifCond .eq 39, 3) := by decide +kernel
theorem dX9_monthsLater_28 : decode cX9_monthsLater 28 = .ok (.iload 5, 2) := by decide +kernel
theorem dX9_monthsLater_30 : decode cX9_monthsLater 30 = .ok (.iconst 1, 1) := by decide +kernel
theorem dX9_monthsLater_31 : decode cX9_monthsLater 31 = .ok (.if_icmp .ge 33, 3) := by decide +kernel
theorem dX9_monthsLater_34 : decode cX9_monthsLater 34 = .ok (.iinc 4 (-1), 3) := by decide +kernel
theorem dX9_monthsLater_37 : decode cX9_monthsLater 37 = .ok (.iload 5, 2) := by decide +kernel
theorem dX9_monthsLater_39 : decode cX9_monthsLater 39 = .ok (.iload 4, 2) := by decide +kernel
theorem dX9_monthsLater_41 : decode cX9_monthsLater 41 = .ok (.invokestatic 110, 3) := by decide +kernel
theorem dX9_monthsLater_44 : decode cX9_monthsLater 44 = .ok (.ifCond .eq 13, 3) := by decide +kernel
theorem dX9_monthsLater_47 : decode cX9_monthsLater 47 = .ok (.aload_n 0, 1) := by decide +kernel
theorem dX9_monthsLater_48 : decode cX9_monthsLater 48 = .ok (.iload_n 1, 1) := by decide +kernel
theorem dX9_monthsLater_49 : decode cX9_monthsLater 49 = .ok (.iload 4, 2) := by decide +kernel
theorem dX9_monthsLater_51 : decode cX9_monthsLater 51 = .ok (.invokevirtual 114, 3) := by decide +kernel
theorem dX9_monthsLater_54 : decode cX9_monthsLater 54 = .ok (.goto 4, 3) := by decide +kernel
theorem dX9_monthsLater_57 : decode cX9_monthsLater 57 = .ok (.iconst 0, 1) := by decide +kernel
theorem dX9_monthsLater_58 : decode cX9_monthsLater 58 = .ok (.iadd, 1) := by decide +kernel
theorem dX9_monthsLater_59 : decode cX9_monthsLater 59 = .ok (.istore 5, 2) := by decide +kernel
theorem dX9_monthsLater_61 : decode cX9_monthsLater 61 = .ok (.goto (-41), 3) := by decide +kernel
theorem dX9_monthsLater_64 : decode cX9_monthsLater 64 = .ok (.iload 4, 2) := by decide +kernel
theorem dX9_monthsLater_66 : decode cX9_monthsLater 66 = .ok (.invokestatic 110, 3) := by decide +kernel
theorem dX9_monthsLater_69 : decode cX9_monthsLater 69 = .ok (.ifCond .eq 33, 3) := by decide +kernel
theorem dX9_monthsLater_72 : decode cX9_monthsLater 72 = .ok (.iload 5, 2) := by decide +kernel
theorem dX9_monthsLater_74 : decode cX9_monthsLater 74 = .ok (.aload_n 0, 1) := by decide +kernel
theorem dX9_monthsLater_75 : decode cX9_monthsLater 75 = .ok (.iload_n 1, 1) := by decide +kernel
theorem dX9_monthsLater_76 : decode cX9_monthsLater 76 = .ok (.iload 4, 2) := by decide +kernel
theorem dX9_monthsLater_78 : decode cX9_monthsLater 78 = .ok (.invokevirtual 114, 3) := by decide +kernel
theorem dX9_monthsLater_81 : decode cX9_monthsLater 81 = .ok (.if_icmp .le 21, 3) := by decide +kernel
theorem dX9_monthsLater_84 : decode cX9_monthsLater 84 = .ok (.iload 5, 2) := by decide +kernel
theorem dX9_monthsLater_86 : decode cX9_monthsLater 86 = .ok (.aload_n 0, 1) := by decide +kernel
theorem dX9_monthsLater_87 : decode cX9_monthsLater 87 = .ok (.iload_n 1, 1) := by decide +kernel
theorem dX9_monthsLater_88 : decode cX9_monthsLater 88 = .ok (.iload 4, 2) := by decide +kernel
theorem dX9_monthsLater_90 : decode cX9_monthsLater 90 = .ok (.invokevirtual 114, 3) := by decide +kernel
theorem dX9_monthsLater_93 : decode cX9_monthsLater 93 = .ok (.isub, 1) := by decide +kernel
theorem dX9_monthsLater_94 : decode cX9_monthsLater 94 = .ok (.istore 5, 2) := by decide +kernel
theorem dX9_monthsLater_96 : decode cX9_monthsLater 96 = .ok (.iinc 4 1, 3) := by decide +kernel
theorem dX9_monthsLater_99 : decode cX9_monthsLater 99 = .ok (.goto (-35), 3) := by decide +kernel
theorem dX9_monthsLater_102 : decode cX9_monthsLater 102 = .ok (.aload_n 0, 1) := by decide +kernel
theorem dX9_monthsLater_103 : decode cX9_monthsLater 103 = .ok (.iload_n 1, 1) := by decide +kernel
theorem dX9_monthsLater_104 : decode cX9_monthsLater 104 = .ok (.iload 4, 2) := by decide +kernel
theorem dX9_monthsLater_106 : decode cX9_monthsLater 106 = .ok (.iload 5, 2) := by decide +kernel
theorem dX9_monthsLater_108 : decode cX9_monthsLater 108 = .ok (.aload_n 0, 1) := by decide +kernel
theorem dX9_monthsLater_109 : decode cX9_monthsLater 109 = .ok (.getfield 133, 3) := by decide +kernel
theorem dX9_monthsLater_112 : decode cX9_monthsLater 112 = .ok (.invokevirtual 260, 3) := by decide +kernel
theorem dX9_monthsLater_115 : decode cX9_monthsLater 115 = .ok (.ireturn, 1) := by decide +kernel
set_option maxRecDepth 20000 in
theorem dX9_yearsLater_0 : decode cX9_yearsLater 0 = .ok (.aload_n 0, 1) := by decide +kernel
theorem dX9_yearsLater_1 : decode cX9_yearsLater 1 = .ok (.iload_n 1, 1) := by decide +kernel
theorem dX9_yearsLater_2 : decode cX9_yearsLater 2 = .ok (.iload_n 2, 1) := by decide +kernel
theorem dX9_yearsLater_3 : decode cX9_yearsLater 3 = .ok (.invokevirtual 136, 3) := by decide +kernel
theorem dX9_yearsLater_6 : decode cX9_yearsLater 6 = .ok (.aload_n 0, 1) := by decide +kernel
theorem dX9_yearsLater_7 : decode cX9_yearsLater 7 = .ok (.getfield 127, 3) := by decide +kernel
theorem dX9_yearsLater_10 : decode cX9_yearsLater 10 = .ok (.iload_n 3, 1) := by decide +kernel
theorem dX9_yearsLater_11 : decode cX9_yearsLater 11 = .ok (.iadd, 1) := by decide +kernel
theorem dX9_yearsLater_12 : decode cX9_yearsLater 12 = .ok (.istore 4, 2) := by decide +kernel
theorem dX9_yearsLater_14 : decode cX9_yearsLater 14 = .ok (.iload 4, 2) := by decide +kernel
theorem dX9_yearsLater_16 : decode cX9_yearsLater 16 = .ok (.invokestatic 110, 3) := by decide +kernel
theorem dX9_yearsLater_19 : decode cX9_yearsLater 19 = .ok (.ifCond .ne 7, 3) := by decide +kernel
theorem dX9_yearsLater_22 : decode cX9_yearsLater 22 = .ok (.ldc_w 259, 3) := by decide +kernel
theorem dX9_yearsLater_25 : decode cX9_yearsLater 25 = .ok (.ireturn, 1) := by decide +kernel
theorem dX9_yearsLater_26 : decode cX9_yearsLater 26 = .ok (.aload_n 0, 1) := by decide +kernel
theorem dX9_yearsLater_27 : decode cX9_yearsLater 27 = .ok (.iload_n 1, 1) := by decide +kernel
theorem dX9_yearsLater_28 : decode cX9_yearsLater 28 = .ok (.iload 4, 2) := by decide +kernel
theorem dX9_yearsLater_30 : decode cX9_yearsLater 30 = .ok (.invokevirtual 114, 3) := by decide +kernel
theorem dX9_yearsLater_33 : decode cX9_yearsLater 33 = .ok (.istore 5, 2) := by decide +kernel
theorem dX9_yearsLater_35 : decode cX9_yearsLater 35 = .ok (.aload_n 0, 1) := by decide +kernel
theorem dX9_yearsLater_36 : decode cX9_yearsLater 36 = .ok (.iload_n 1, 1) := by decide +kernel
theorem dX9_yearsLater_37 : decode cX9_yearsLater 37 = .ok (.iload 4, 2) := by decide +kernel
theorem dX9_yearsLater_39 : decode cX9_yearsLater 39 = .ok (.aload_n 0, 1) := by decide +kernel
theorem dX9_yearsLater_40 : decode cX9_yearsLater 40 = .ok (.getfield 130, 3) := by decide +kernel
theorem dX9_yearsLater_43 : decode cX9_yearsLater 43 = .ok (.iload 5, 2) := by decide +kernel
theorem dX9_yearsLater_45 : decode cX9_yearsLater 45 = .ok (.if_icmp .ge 10, 3) := by decide +kernel
theorem dX9_yearsLater_48 : decode cX9_yearsLater 48 = .ok (.aload_n 0, 1) := by decide +kernel
theorem dX9_yearsLater_49 : decode cX9_yearsLater 49 = .ok (.getfield 130, 3) := by decide +kernel
theorem dX9_yearsLater_52 : decode cX9_yearsLater 52 = .ok (.goto 5, 3) := by decide +kernel
theorem dX9_yearsLater_55 : decode cX9_yearsLater 55 = .ok (.iload 5, 2) := by decide +kernel
theorem dX9_yearsLater_57 : decode cX9_yearsLater 57 = .ok (.aload_n 0, 1) := by decide +kernel
theorem dX9_yearsLater_58 : decode cX9_yearsLater 58 = .ok (.getfield 133, 3) := by decide +kernel
theorem dX9_yearsLater_61 : decode cX9_yearsLater 61 = .ok (.invokevirtual 260, 3) := by decide +kernel
theorem dX9_yearsLater_64 : decode cX9_yearsLater 64 = .ok (.ireturn, 1) := by decide +kernel
set_option maxRecDepth 20000 in
theorem dX9_notShift_0 : decode cX9_notShift 0 = .ok (.aload_n 0, 1) := by decide +kernel
theorem dX9_notShift_1 : decode cX9_notShift 1 = .ok (.iload_n 1, 1) := by decide +kernel
theorem dX9_notShift_2 : decode cX9_notShift 2 = .ok (.invokevirtual 221, 3) := by decide +kernel
theorem dX9_notShift_5 : decode cX9_notShift 5 = .ok (.ifCond .ne 7, 3) := by decide +kernel
theorem dX9_notShift_8 : decode cX9_notShift 8 = .ok (.iconst 1, 1) := by decide +kernel
theorem dX9_notShift_9 : decode cX9_notShift 9 = .ok (.goto 40, 3) := by decide +kernel
theorem dX9_notShift_12 : decode cX9_notShift 12 = .ok (.iload_n 2, 1) := by decide +kernel
theorem dX9_notShift_13 : decode cX9_notShift 13 = .ok (.invokestatic 238, 3) := by decide +kernel
theorem dX9_notShift_16 : decode cX9_notShift 16 = .ok (.ifCond .eq 15, 3) := by decide +kernel
theorem dX9_notShift_19 : decode cX9_notShift 19 = .ok (.iload_n 3, 1) := by decide +kernel
theorem dX9_notShift_20 : decode cX9_notShift 20 = .ok (.iload 4, 2) := by decide +kernel
theorem dX9_notShift_22 : decode cX9_notShift 22 = .ok (.ineg, 1) := by decide +kernel
theorem dX9_notShift_23 : decode cX9_notShift 23 = .ok (.iload 4, 2) := by decide +kernel
theorem dX9_notShift_25 : decode cX9_notShift 25 = .ok (.invokestatic 70, 3) := by decide +kernel
theorem dX9_notShift_28 : decode cX9_notShift 28 = .ok (.ifCond .ne 7, 3) := by decide +kernel
theorem dX9_notShift_31 : decode cX9_notShift 31 = .ok (.iconst 2, 1) := by decide +kernel
theorem dX9_notShift_32 : decode cX9_notShift 32 = .ok (.goto 17, 3) := by decide +kernel
theorem dX9_notShift_35 : decode cX9_notShift 35 = .ok (.aload_n 0, 1) := by decide +kernel
theorem dX9_notShift_36 : decode cX9_notShift 36 = .ok (.iload_n 1, 1) := by decide +kernel
theorem dX9_notShift_37 : decode cX9_notShift 37 = .ok (.iload_n 2, 1) := by decide +kernel
theorem dX9_notShift_38 : decode cX9_notShift 38 = .ok (.invokevirtual 244, 3) := by decide +kernel
theorem dX9_notShift_41 : decode cX9_notShift 41 = .ok (.ifCond .eq 7, 3) := by decide +kernel
theorem dX9_notShift_44 : decode cX9_notShift 44 = .ok (.iconst 0, 1) := by decide +kernel
theorem dX9_notShift_45 : decode cX9_notShift 45 = .ok (.goto 4, 3) := by decide +kernel
theorem dX9_notShift_48 : decode cX9_notShift 48 = .ok (.iconst 3, 1) := by decide +kernel
theorem dX9_notShift_49 : decode cX9_notShift 49 = .ok (.ireturn, 1) := by decide +kernel
theorem dX9_told_0 : decode cX9_told 0 = .ok (.aload_n 0, 1) := by decide +kernel
theorem dX9_told_1 : decode cX9_told 1 = .ok (.iload_n 1, 1) := by decide +kernel
theorem dX9_told_2 : decode cX9_told 2 = .ok (.ldc_w 259, 3) := by decide +kernel
theorem dX9_told_5 : decode cX9_told 5 = .ok (.if_icmp .ne 7, 3) := by decide +kernel
theorem dX9_told_8 : decode cX9_told 8 = .ok (.iconst 3, 1) := by decide +kernel
theorem dX9_told_9 : decode cX9_told 9 = .ok (.goto 4, 3) := by decide +kernel
theorem dX9_told_12 : decode cX9_told 12 = .ok (.iconst 0, 1) := by decide +kernel
theorem dX9_told_13 : decode cX9_told 13 = .ok (.putfield 67, 3) := by decide +kernel
theorem dX9_told_16 : decode cX9_told 16 = .ok (.aload_n 0, 1) := by decide +kernel
theorem dX9_told_17 : decode cX9_told 17 = .ok (.getfield 67, 3) := by decide +kernel
theorem dX9_told_20 : decode cX9_told 20 = .ok (.ifCond .le 7, 3) := by decide +kernel
theorem dX9_told_23 : decode cX9_told 23 = .ok (.iconst 0, 1) := by decide +kernel
theorem dX9_told_24 : decode cX9_told 24 = .ok (.goto 4, 3) := by decide +kernel
theorem dX9_told_27 : decode cX9_told 27 = .ok (.iload_n 1, 1) := by decide +kernel
theorem dX9_told_28 : decode cX9_told 28 = .ok (.ireturn, 1) := by decide +kernel
set_option maxRecDepth 20000 in
theorem dX9_plus_0 : decode cX9_plus 0 = .ok (.aload_n 0, 1) := by decide +kernel
theorem dX9_plus_1 : decode cX9_plus 1 = .ok (.iload_n 1, 1) := by decide +kernel
theorem dX9_plus_2 : decode cX9_plus 2 = .ok (.iload_n 2, 1) := by decide +kernel
theorem dX9_plus_3 : decode cX9_plus 3 = .ok (.iload_n 3, 1) := by decide +kernel
theorem dX9_plus_4 : decode cX9_plus 4 = .ok (.sipush 9999, 3) := by decide +kernel
theorem dX9_plus_7 : decode cX9_plus 7 = .ok (.invokevirtual 263, 3) := by decide +kernel
theorem dX9_plus_10 : decode cX9_plus 10 = .ok (.istore 4, 2) := by decide +kernel
theorem dX9_plus_12 : decode cX9_plus 12 = .ok (.iload 4, 2) := by decide +kernel
theorem dX9_plus_14 : decode cX9_plus 14 = .ok (.ifCond .le 12, 3) := by decide +kernel
theorem dX9_plus_17 : decode cX9_plus 17 = .ok (.aload_n 0, 1) := by decide +kernel
theorem dX9_plus_18 : decode cX9_plus 18 = .ok (.iload 4, 2) := by decide +kernel
theorem dX9_plus_20 : decode cX9_plus 20 = .ok (.invokevirtual 143, 3) := by decide +kernel
theorem dX9_plus_23 : decode cX9_plus 23 = .ok (.goto 14, 3) := by decide +kernel
theorem dX9_plus_26 : decode cX9_plus 26 = .ok (.aload_n 0, 1) := by decide +kernel
theorem dX9_plus_27 : decode cX9_plus 27 = .ok (.aload_n 0, 1) := by decide +kernel
theorem dX9_plus_28 : decode cX9_plus 28 = .ok (.iload_n 1, 1) := by decide +kernel
theorem dX9_plus_29 : decode cX9_plus 29 = .ok (.iload_n 2, 1) := by decide +kernel
theorem dX9_plus_30 : decode cX9_plus 30 = .ok (.iload_n 3, 1) := by decide +kernel
theorem dX9_plus_31 : decode cX9_plus 31 = .ok (.invokevirtual 266, 3) := by decide +kernel
theorem dX9_plus_34 : decode cX9_plus 34 = .ok (.invokevirtual 269, 3) := by decide +kernel
theorem dX9_plus_37 : decode cX9_plus 37 = .ok (.ireturn, 1) := by decide +kernel
set_option maxRecDepth 20000 in
theorem dX9_plusYears_0 : decode cX9_plusYears 0 = .ok (.aload_n 0, 1) := by decide +kernel
theorem dX9_plusYears_1 : decode cX9_plusYears 1 = .ok (.iload_n 1, 1) := by decide +kernel
theorem dX9_plusYears_2 : decode cX9_plusYears 2 = .ok (.iload_n 2, 1) := by decide +kernel
theorem dX9_plusYears_3 : decode cX9_plusYears 3 = .ok (.iload_n 3, 1) := by decide +kernel
theorem dX9_plusYears_4 : decode cX9_plusYears 4 = .ok (.sipush 4000, 3) := by decide +kernel
theorem dX9_plusYears_7 : decode cX9_plusYears 7 = .ok (.invokevirtual 263, 3) := by decide +kernel
theorem dX9_plusYears_10 : decode cX9_plusYears 10 = .ok (.istore 4, 2) := by decide +kernel
theorem dX9_plusYears_12 : decode cX9_plusYears 12 = .ok (.iload 4, 2) := by decide +kernel
theorem dX9_plusYears_14 : decode cX9_plusYears 14 = .ok (.ifCond .le 12, 3) := by decide +kernel
theorem dX9_plusYears_17 : decode cX9_plusYears 17 = .ok (.aload_n 0, 1) := by decide +kernel
theorem dX9_plusYears_18 : decode cX9_plusYears 18 = .ok (.iload 4, 2) := by decide +kernel
theorem dX9_plusYears_20 : decode cX9_plusYears 20 = .ok (.invokevirtual 143, 3) := by decide +kernel
theorem dX9_plusYears_23 : decode cX9_plusYears 23 = .ok (.goto 14, 3) := by decide +kernel
theorem dX9_plusYears_26 : decode cX9_plusYears 26 = .ok (.aload_n 0, 1) := by decide +kernel
theorem dX9_plusYears_27 : decode cX9_plusYears 27 = .ok (.aload_n 0, 1) := by decide +kernel
theorem dX9_plusYears_28 : decode cX9_plusYears 28 = .ok (.iload_n 1, 1) := by decide +kernel
theorem dX9_plusYears_29 : decode cX9_plusYears 29 = .ok (.iload_n 2, 1) := by decide +kernel
theorem dX9_plusYears_30 : decode cX9_plusYears 30 = .ok (.iload_n 3, 1) := by decide +kernel
theorem dX9_plusYears_31 : decode cX9_plusYears 31 = .ok (.invokevirtual 272, 3) := by decide +kernel
theorem dX9_plusYears_34 : decode cX9_plusYears 34 = .ok (.invokevirtual 269, 3) := by decide +kernel
theorem dX9_plusYears_37 : decode cX9_plusYears 37 = .ok (.ireturn, 1) := by decide +kernel
theorem dX9_isThere_0 : decode cX9_isThere 0 = .ok (.iload_n 0, 1) := by decide +kernel
theorem dX9_isThere_1 : decode cX9_isThere 1 = .ok (.ldc_w 259, 3) := by decide +kernel
theorem dX9_isThere_4 : decode cX9_isThere 4 = .ok (.if_icmp .eq 12, 3) := by decide +kernel
theorem dX9_isThere_7 : decode cX9_isThere 7 = .ok (.iload_n 0, 1) := by decide +kernel
theorem dX9_isThere_8 : decode cX9_isThere 8 = .ok (.iload_n 1, 1) := by decide +kernel
theorem dX9_isThere_9 : decode cX9_isThere 9 = .ok (.if_icmp .gt 7, 3) := by decide +kernel
theorem dX9_isThere_12 : decode cX9_isThere 12 = .ok (.iconst 1, 1) := by decide +kernel
theorem dX9_isThere_13 : decode cX9_isThere 13 = .ok (.goto 4, 3) := by decide +kernel
theorem dX9_isThere_16 : decode cX9_isThere 16 = .ok (.iconst 0, 1) := by decide +kernel
theorem dX9_isThere_17 : decode cX9_isThere 17 = .ok (.ireturn, 1) := by decide +kernel
set_option maxRecDepth 20000 in
theorem dX9_span_0 : decode cX9_span 0 = .ok (.aload_n 0, 1) := by decide +kernel
theorem dX9_span_1 : decode cX9_span 1 = .ok (.iload_n 1, 1) := by decide +kernel
theorem dX9_span_2 : decode cX9_span 2 = .ok (.invokevirtual 221, 3) := by decide +kernel
theorem dX9_span_5 : decode cX9_span 5 = .ok (.ifCond .ne 9, 3) := by decide +kernel
theorem dX9_span_8 : decode cX9_span 8 = .ok (.aload_n 0, 1) := by decide +kernel
theorem dX9_span_9 : decode cX9_span 9 = .ok (.iconst 1, 1) := by decide +kernel
theorem dX9_span_10 : decode cX9_span 10 = .ok (.invokevirtual 143, 3) := by decide +kernel
theorem dX9_span_13 : decode cX9_span 13 = .ok (.ireturn, 1) := by decide +kernel
theorem dX9_span_14 : decode cX9_span 14 = .ok (.iload_n 2, 1) := by decide +kernel
theorem dX9_span_15 : decode cX9_span 15 = .ok (.invokestatic 238, 3) := by decide +kernel
theorem dX9_span_18 : decode cX9_span 18 = .ok (.ifCond .eq 23, 3) := by decide +kernel
theorem dX9_span_21 : decode cX9_span 21 = .ok (.iload_n 3, 1) := by decide +kernel
theorem dX9_span_22 : decode cX9_span 22 = .ok (.iload_n 2, 1) := by decide +kernel
theorem dX9_span_23 : decode cX9_span 23 = .ok (.ldc 75, 2) := by decide +kernel
theorem dX9_span_25 : decode cX9_span 25 = .ok (.invokestatic 70, 3) := by decide +kernel
theorem dX9_span_28 : decode cX9_span 28 = .ok (.ifCond .eq 13, 3) := by decide +kernel
theorem dX9_span_31 : decode cX9_span 31 = .ok (.iload 4, 2) := by decide +kernel
theorem dX9_span_33 : decode cX9_span 33 = .ok (.iconst 0, 1) := by decide +kernel
theorem dX9_span_34 : decode cX9_span 34 = .ok (.iconst 2, 1) := by decide +kernel
theorem dX9_span_35 : decode cX9_span 35 = .ok (.invokestatic 70, 3) := by decide +kernel
theorem dX9_span_38 : decode cX9_span 38 = .ok (.ifCond .ne 9, 3) := by decide +kernel
theorem dX9_span_41 : decode cX9_span 41 = .ok (.aload_n 0, 1) := by decide +kernel
theorem dX9_span_42 : decode cX9_span 42 = .ok (.iconst 2, 1) := by decide +kernel
theorem dX9_span_43 : decode cX9_span 43 = .ok (.invokevirtual 143, 3) := by decide +kernel
theorem dX9_span_46 : decode cX9_span 46 = .ok (.ireturn, 1) := by decide +kernel
theorem dX9_span_47 : decode cX9_span 47 = .ok (.aload_n 0, 1) := by decide +kernel
theorem dX9_span_48 : decode cX9_span 48 = .ok (.iload_n 1, 1) := by decide +kernel
theorem dX9_span_49 : decode cX9_span 49 = .ok (.iload_n 2, 1) := by decide +kernel
theorem dX9_span_50 : decode cX9_span 50 = .ok (.invokevirtual 244, 3) := by decide +kernel
theorem dX9_span_53 : decode cX9_span 53 = .ok (.ifCond .eq 12, 3) := by decide +kernel
theorem dX9_span_56 : decode cX9_span 56 = .ok (.aload_n 0, 1) := by decide +kernel
theorem dX9_span_57 : decode cX9_span 57 = .ok (.iload_n 1, 1) := by decide +kernel
theorem dX9_span_58 : decode cX9_span 58 = .ok (.iload_n 3, 1) := by decide +kernel
theorem dX9_span_59 : decode cX9_span 59 = .ok (.invokevirtual 244, 3) := by decide +kernel
theorem dX9_span_62 : decode cX9_span 62 = .ok (.ifCond .ne 9, 3) := by decide +kernel
theorem dX9_span_65 : decode cX9_span 65 = .ok (.aload_n 0, 1) := by decide +kernel
theorem dX9_span_66 : decode cX9_span 66 = .ok (.iconst 3, 1) := by decide +kernel
theorem dX9_span_67 : decode cX9_span 67 = .ok (.invokevirtual 143, 3) := by decide +kernel
theorem dX9_span_70 : decode cX9_span 70 = .ok (.ireturn, 1) := by decide +kernel
theorem dX9_span_71 : decode cX9_span 71 = .ok (.aload_n 0, 1) := by decide +kernel
theorem dX9_span_72 : decode cX9_span 72 = .ok (.iconst 0, 1) := by decide +kernel
theorem dX9_span_73 : decode cX9_span 73 = .ok (.putfield 67, 3) := by decide +kernel
theorem dX9_span_76 : decode cX9_span 76 = .ok (.aload_n 0, 1) := by decide +kernel
theorem dX9_span_77 : decode cX9_span 77 = .ok (.iload_n 1, 1) := by decide +kernel
theorem dX9_span_78 : decode cX9_span 78 = .ok (.iload_n 3, 1) := by decide +kernel
theorem dX9_span_79 : decode cX9_span 79 = .ok (.invokevirtual 124, 3) := by decide +kernel
theorem dX9_span_82 : decode cX9_span 82 = .ok (.aload_n 0, 1) := by decide +kernel
theorem dX9_span_83 : decode cX9_span 83 = .ok (.iload_n 1, 1) := by decide +kernel
theorem dX9_span_84 : decode cX9_span 84 = .ok (.iload_n 2, 1) := by decide +kernel
theorem dX9_span_85 : decode cX9_span 85 = .ok (.invokevirtual 124, 3) := by decide +kernel
theorem dX9_span_88 : decode cX9_span 88 = .ok (.isub, 1) := by decide +kernel
theorem dX9_span_89 : decode cX9_span 89 = .ok (.istore 5, 2) := by decide +kernel
theorem dX9_span_91 : decode cX9_span 91 = .ok (.iload 5, 2) := by decide +kernel
theorem dX9_span_93 : decode cX9_span 93 = .ok (.ifCond .le 24, 3) := by decide +kernel
theorem dX9_span_96 : decode cX9_span 96 = .ok (.aload_n 0, 1) := by decide +kernel
theorem dX9_span_97 : decode cX9_span 97 = .ok (.iload_n 1, 1) := by decide +kernel
theorem dX9_span_98 : decode cX9_span 98 = .ok (.iload_n 2, 1) := by decide +kernel
theorem dX9_span_99 : decode cX9_span 99 = .ok (.iload 5, 2) := by decide +kernel
theorem dX9_span_101 : decode cX9_span 101 = .ok (.invokevirtual 272, 3) := by decide +kernel
theorem dX9_span_104 : decode cX9_span 104 = .ok (.iload_n 3, 1) := by decide +kernel
theorem dX9_span_105 : decode cX9_span 105 = .ok (.invokestatic 275, 3) := by decide +kernel
theorem dX9_span_108 : decode cX9_span 108 = .ok (.ifCond .ne 9, 3) := by decide +kernel
theorem dX9_span_111 : decode cX9_span 111 = .ok (.iinc 5 (-1), 3) := by decide +kernel
theorem dX9_span_114 : decode cX9_span 114 = .ok (.goto (-23), 3) := by decide +kernel
theorem dX9_span_117 : decode cX9_span 117 = .ok (.aload_n 0, 1) := by decide +kernel
theorem dX9_span_118 : decode cX9_span 118 = .ok (.iload_n 1, 1) := by decide +kernel
theorem dX9_span_119 : decode cX9_span 119 = .ok (.iload_n 2, 1) := by decide +kernel
theorem dX9_span_120 : decode cX9_span 120 = .ok (.iload 5, 2) := by decide +kernel
theorem dX9_span_122 : decode cX9_span 122 = .ok (.invokevirtual 272, 3) := by decide +kernel
theorem dX9_span_125 : decode cX9_span 125 = .ok (.istore 6, 2) := by decide +kernel
theorem dX9_span_127 : decode cX9_span 127 = .ok (.iconst 0, 1) := by decide +kernel
theorem dX9_span_128 : decode cX9_span 128 = .ok (.istore 7, 2) := by decide +kernel
theorem dX9_span_130 : decode cX9_span 130 = .ok (.aload_n 0, 1) := by decide +kernel
theorem dX9_span_131 : decode cX9_span 131 = .ok (.iload_n 1, 1) := by decide +kernel
theorem dX9_span_132 : decode cX9_span 132 = .ok (.iload 6, 2) := by decide +kernel
theorem dX9_span_134 : decode cX9_span 134 = .ok (.iload 7, 2) := by decide +kernel
theorem dX9_span_136 : decode cX9_span 136 = .ok (.iconst 1, 1) := by decide +kernel
theorem dX9_span_137 : decode cX9_span 137 = .ok (.iadd, 1) := by decide +kernel
theorem dX9_span_138 : decode cX9_span 138 = .ok (.invokevirtual 266, 3) := by decide +kernel
theorem dX9_span_141 : decode cX9_span 141 = .ok (.iload_n 3, 1) := by decide +kernel
theorem dX9_span_142 : decode cX9_span 142 = .ok (.invokestatic 275, 3) := by decide +kernel
theorem dX9_span_145 : decode cX9_span 145 = .ok (.ifCond .eq 9, 3) := by decide +kernel
theorem dX9_span_148 : decode cX9_span 148 = .ok (.iinc 7 1, 3) := by decide +kernel
theorem dX9_span_151 : decode cX9_span 151 = .ok (.goto (-21), 3) := by decide +kernel
theorem dX9_span_154 : decode cX9_span 154 = .ok (.iload 4, 2) := by decide +kernel
theorem dX9_span_156 : decode cX9_span 156 = .ok (.ifCond .ne 8, 3) := by decide +kernel
theorem dX9_span_159 : decode cX9_span 159 = .ok (.iload 5, 2) := by decide +kernel
theorem dX9_span_161 : decode cX9_span 161 = .ok (.goto 25, 3) := by decide +kernel
theorem dX9_span_164 : decode cX9_span 164 = .ok (.iload 4, 2) := by decide +kernel
theorem dX9_span_166 : decode cX9_span 166 = .ok (.iconst 1, 1) := by decide +kernel
theorem dX9_span_167 : decode cX9_span 167 = .ok (.if_icmp .ne 8, 3) := by decide +kernel
theorem dX9_span_170 : decode cX9_span 170 = .ok (.iload 7, 2) := by decide +kernel
theorem dX9_span_172 : decode cX9_span 172 = .ok (.goto 14, 3) := by decide +kernel
theorem dX9_span_175 : decode cX9_span 175 = .ok (.iload_n 3, 1) := by decide +kernel
theorem dX9_span_176 : decode cX9_span 176 = .ok (.aload_n 0, 1) := by decide +kernel
theorem dX9_span_177 : decode cX9_span 177 = .ok (.iload_n 1, 1) := by decide +kernel
theorem dX9_span_178 : decode cX9_span 178 = .ok (.iload 6, 2) := by decide +kernel
theorem dX9_span_180 : decode cX9_span 180 = .ok (.iload 7, 2) := by decide +kernel
theorem dX9_span_182 : decode cX9_span 182 = .ok (.invokevirtual 266, 3) := by decide +kernel
theorem dX9_span_185 : decode cX9_span 185 = .ok (.isub, 1) := by decide +kernel
theorem dX9_span_186 : decode cX9_span 186 = .ok (.ireturn, 1) := by decide +kernel
theorem dX9_ofFeast_0 : decode cX9_ofFeast 0 = .ok (.aload_n 0, 1) := by decide +kernel
theorem dX9_ofFeast_1 : decode cX9_ofFeast 1 = .ok (.getfield 29, 3) := by decide +kernel
theorem dX9_ofFeast_4 : decode cX9_ofFeast 4 = .ok (.bipush 6, 2) := by decide +kernel
theorem dX9_ofFeast_6 : decode cX9_ofFeast 6 = .ok (.iload_n 1, 1) := by decide +kernel
theorem dX9_ofFeast_7 : decode cX9_ofFeast 7 = .ok (.imul, 1) := by decide +kernel
theorem dX9_ofFeast_8 : decode cX9_ofFeast 8 = .ok (.iload_n 2, 1) := by decide +kernel
theorem dX9_ofFeast_9 : decode cX9_ofFeast 9 = .ok (.iadd, 1) := by decide +kernel
theorem dX9_ofFeast_10 : decode cX9_ofFeast 10 = .ok (.iaload, 1) := by decide +kernel
theorem dX9_ofFeast_11 : decode cX9_ofFeast 11 = .ok (.ireturn, 1) := by decide +kernel
theorem dX9_isFeast_0 : decode cX9_isFeast 0 = .ok (.iload_n 1, 1) := by decide +kernel
theorem dX9_isFeast_1 : decode cX9_isFeast 1 = .ok (.ifCond .lt 15, 3) := by decide +kernel
theorem dX9_isFeast_4 : decode cX9_isFeast 4 = .ok (.iload_n 1, 1) := by decide +kernel
theorem dX9_isFeast_5 : decode cX9_isFeast 5 = .ok (.aload_n 0, 1) := by decide +kernel
theorem dX9_isFeast_6 : decode cX9_isFeast 6 = .ok (.getfield 278, 3) := by decide +kernel
theorem dX9_isFeast_9 : decode cX9_isFeast 9 = .ok (.if_icmp .ge 7, 3) := by decide +kernel
theorem dX9_isFeast_12 : decode cX9_isFeast 12 = .ok (.iconst 1, 1) := by decide +kernel
theorem dX9_isFeast_13 : decode cX9_isFeast 13 = .ok (.goto 4, 3) := by decide +kernel
theorem dX9_isFeast_16 : decode cX9_isFeast 16 = .ok (.iconst 0, 1) := by decide +kernel
theorem dX9_isFeast_17 : decode cX9_isFeast 17 = .ok (.ireturn, 1) := by decide +kernel
set_option maxRecDepth 20000 in
theorem dX9_canBeFeast_0 : decode cX9_canBeFeast 0 = .ok (.iload_n 1, 1) := by decide +kernel
theorem dX9_canBeFeast_1 : decode cX9_canBeFeast 1 = .ok (.tableswitch 197 0 3 #[31, 71, 122, 159], 31) := by decide +kernel
theorem dX9_canBeFeast_32 : decode cX9_canBeFeast 32 = .ok (.aload_n 0, 1) := by decide +kernel
theorem dX9_canBeFeast_33 : decode cX9_canBeFeast 33 = .ok (.iload_n 2, 1) := by decide +kernel
theorem dX9_canBeFeast_34 : decode cX9_canBeFeast 34 = .ok (.invokevirtual 221, 3) := by decide +kernel
theorem dX9_canBeFeast_37 : decode cX9_canBeFeast 37 = .ok (.ifCond .eq 33, 3) := by decide +kernel
theorem dX9_canBeFeast_40 : decode cX9_canBeFeast 40 = .ok (.iload_n 3, 1) := by decide +kernel
theorem dX9_canBeFeast_41 : decode cX9_canBeFeast 41 = .ok (.iconst 1, 1) := by decide +kernel
theorem dX9_canBeFeast_42 : decode cX9_canBeFeast 42 = .ok (.bipush 15, 2) := by decide +kernel
theorem dX9_canBeFeast_44 : decode cX9_canBeFeast 44 = .ok (.invokestatic 70, 3) := by decide +kernel
theorem dX9_canBeFeast_47 : decode cX9_canBeFeast 47 = .ok (.ifCond .eq 23, 3) := by decide +kernel
theorem dX9_canBeFeast_50 : decode cX9_canBeFeast 50 = .ok (.iload 4, 2) := by decide +kernel
theorem dX9_canBeFeast_52 : decode cX9_canBeFeast 52 = .ok (.iconst 1, 1) := by decide +kernel
theorem dX9_canBeFeast_53 : decode cX9_canBeFeast 53 = .ok (.bipush 60, 2) := by decide +kernel
theorem dX9_canBeFeast_55 : decode cX9_canBeFeast 55 = .ok (.invokestatic 70, 3) := by decide +kernel
theorem dX9_canBeFeast_58 : decode cX9_canBeFeast 58 = .ok (.ifCond .eq 12, 3) := by decide +kernel
theorem dX9_canBeFeast_61 : decode cX9_canBeFeast 61 = .ok (.iload 5, 2) := by decide +kernel
theorem dX9_canBeFeast_63 : decode cX9_canBeFeast 63 = .ok (.ifCond .ne 7, 3) := by decide +kernel
theorem dX9_canBeFeast_66 : decode cX9_canBeFeast 66 = .ok (.iconst 1, 1) := by decide +kernel
theorem dX9_canBeFeast_67 : decode cX9_canBeFeast 67 = .ok (.goto 4, 3) := by decide +kernel
theorem dX9_canBeFeast_70 : decode cX9_canBeFeast 70 = .ok (.iconst 0, 1) := by decide +kernel
theorem dX9_canBeFeast_71 : decode cX9_canBeFeast 71 = .ok (.ireturn, 1) := by decide +kernel
theorem dX9_canBeFeast_72 : decode cX9_canBeFeast 72 = .ok (.aload_n 0, 1) := by decide +kernel
theorem dX9_canBeFeast_73 : decode cX9_canBeFeast 73 = .ok (.iload_n 2, 1) := by decide +kernel
theorem dX9_canBeFeast_74 : decode cX9_canBeFeast 74 = .ok (.invokevirtual 221, 3) := by decide +kernel
theorem dX9_canBeFeast_77 : decode cX9_canBeFeast 77 = .ok (.ifCond .eq 44, 3) := by decide +kernel
theorem dX9_canBeFeast_80 : decode cX9_canBeFeast 80 = .ok (.iload_n 3, 1) := by decide +kernel
theorem dX9_canBeFeast_81 : decode cX9_canBeFeast 81 = .ok (.iconst 1, 1) := by decide +kernel
theorem dX9_canBeFeast_82 : decode cX9_canBeFeast 82 = .ok (.bipush 15, 2) := by decide +kernel
theorem dX9_canBeFeast_84 : decode cX9_canBeFeast 84 = .ok (.invokestatic 70, 3) := by decide +kernel
theorem dX9_canBeFeast_87 : decode cX9_canBeFeast 87 = .ok (.ifCond .eq 34, 3) := by decide +kernel
theorem dX9_canBeFeast_90 : decode cX9_canBeFeast 90 = .ok (.iload 4, 2) := by decide +kernel
theorem dX9_canBeFeast_92 : decode cX9_canBeFeast 92 = .ok (.iconst 1, 1) := by decide +kernel
theorem dX9_canBeFeast_93 : decode cX9_canBeFeast 93 = .ok (.iconst 5, 1) := by decide +kernel
theorem dX9_canBeFeast_94 : decode cX9_canBeFeast 94 = .ok (.invokestatic 70, 3) := by decide +kernel
theorem dX9_canBeFeast_97 : decode cX9_canBeFeast 97 = .ok (.ifCond .ne 9, 3) := by decide +kernel
theorem dX9_canBeFeast_100 : decode cX9_canBeFeast 100 = .ok (.iload 4, 2) := by decide +kernel
theorem dX9_canBeFeast_102 : decode cX9_canBeFeast 102 = .ok (.iconst (-1), 1) := by decide +kernel
theorem dX9_canBeFeast_103 : decode cX9_canBeFeast 103 = .ok (.if_icmp .ne 18, 3) := by decide +kernel
theorem dX9_canBeFeast_106 : decode cX9_canBeFeast 106 = .ok (.iload 5, 2) := by decide +kernel
theorem dX9_canBeFeast_108 : decode cX9_canBeFeast 108 = .ok (.iconst 0, 1) := by decide +kernel
theorem dX9_canBeFeast_109 : decode cX9_canBeFeast 109 = .ok (.bipush 9, 2) := by decide +kernel
theorem dX9_canBeFeast_111 : decode cX9_canBeFeast 111 = .ok (.invokestatic 70, 3) := by decide +kernel
theorem dX9_canBeFeast_114 : decode cX9_canBeFeast 114 = .ok (.ifCond .eq 7, 3) := by decide +kernel
theorem dX9_canBeFeast_117 : decode cX9_canBeFeast 117 = .ok (.iconst 1, 1) := by decide +kernel
theorem dX9_canBeFeast_118 : decode cX9_canBeFeast 118 = .ok (.goto 4, 3) := by decide +kernel
theorem dX9_canBeFeast_121 : decode cX9_canBeFeast 121 = .ok (.iconst 0, 1) := by decide +kernel
theorem dX9_canBeFeast_122 : decode cX9_canBeFeast 122 = .ok (.ireturn, 1) := by decide +kernel
theorem dX9_canBeFeast_123 : decode cX9_canBeFeast 123 = .ok (.aload_n 0, 1) := by decide +kernel
theorem dX9_canBeFeast_124 : decode cX9_canBeFeast 124 = .ok (.iload_n 2, 1) := by decide +kernel
theorem dX9_canBeFeast_125 : decode cX9_canBeFeast 125 = .ok (.invokevirtual 281, 3) := by decide +kernel
theorem dX9_canBeFeast_128 : decode cX9_canBeFeast 128 = .ok (.ifCond .eq 30, 3) := by decide +kernel
theorem dX9_canBeFeast_131 : decode cX9_canBeFeast 131 = .ok (.iload_n 3, 1) := by decide +kernel
theorem dX9_canBeFeast_132 : decode cX9_canBeFeast 132 = .ok (.sipush (-400), 3) := by decide +kernel
theorem dX9_canBeFeast_135 : decode cX9_canBeFeast 135 = .ok (.sipush 400, 3) := by decide +kernel
theorem dX9_canBeFeast_138 : decode cX9_canBeFeast 138 = .ok (.invokestatic 70, 3) := by decide +kernel
theorem dX9_canBeFeast_141 : decode cX9_canBeFeast 141 = .ok (.ifCond .eq 17, 3) := by decide +kernel
theorem dX9_canBeFeast_144 : decode cX9_canBeFeast 144 = .ok (.iload 4, 2) := by decide +kernel
theorem dX9_canBeFeast_146 : decode cX9_canBeFeast 146 = .ok (.ifCond .ne 12, 3) := by decide +kernel
theorem dX9_canBeFeast_149 : decode cX9_canBeFeast 149 = .ok (.iload 5, 2) := by decide +kernel
theorem dX9_canBeFeast_151 : decode cX9_canBeFeast 151 = .ok (.ifCond .ne 7, 3) := by decide +kernel
theorem dX9_canBeFeast_154 : decode cX9_canBeFeast 154 = .ok (.iconst 1, 1) := by decide +kernel
theorem dX9_canBeFeast_155 : decode cX9_canBeFeast 155 = .ok (.goto 4, 3) := by decide +kernel
theorem dX9_canBeFeast_158 : decode cX9_canBeFeast 158 = .ok (.iconst 0, 1) := by decide +kernel
theorem dX9_canBeFeast_159 : decode cX9_canBeFeast 159 = .ok (.ireturn, 1) := by decide +kernel
theorem dX9_canBeFeast_160 : decode cX9_canBeFeast 160 = .ok (.aload_n 0, 1) := by decide +kernel
theorem dX9_canBeFeast_161 : decode cX9_canBeFeast 161 = .ok (.iload_n 2, 1) := by decide +kernel
theorem dX9_canBeFeast_162 : decode cX9_canBeFeast 162 = .ok (.invokevirtual 281, 3) := by decide +kernel
theorem dX9_canBeFeast_165 : decode cX9_canBeFeast 165 = .ok (.ifCond .eq 31, 3) := by decide +kernel
theorem dX9_canBeFeast_168 : decode cX9_canBeFeast 168 = .ok (.aload_n 0, 1) := by decide +kernel
theorem dX9_canBeFeast_169 : decode cX9_canBeFeast 169 = .ok (.iload_n 3, 1) := by decide +kernel
theorem dX9_canBeFeast_170 : decode cX9_canBeFeast 170 = .ok (.invokevirtual 221, 3) := by decide +kernel
theorem dX9_canBeFeast_173 : decode cX9_canBeFeast 173 = .ok (.ifCond .eq 23, 3) := by decide +kernel
theorem dX9_canBeFeast_176 : decode cX9_canBeFeast 176 = .ok (.iload 4, 2) := by decide +kernel
theorem dX9_canBeFeast_178 : decode cX9_canBeFeast 178 = .ok (.iconst 0, 1) := by decide +kernel
theorem dX9_canBeFeast_179 : decode cX9_canBeFeast 179 = .ok (.bipush 9, 2) := by decide +kernel
theorem dX9_canBeFeast_181 : decode cX9_canBeFeast 181 = .ok (.invokestatic 70, 3) := by decide +kernel
theorem dX9_canBeFeast_184 : decode cX9_canBeFeast 184 = .ok (.ifCond .eq 12, 3) := by decide +kernel
theorem dX9_canBeFeast_187 : decode cX9_canBeFeast 187 = .ok (.iload 5, 2) := by decide +kernel
theorem dX9_canBeFeast_189 : decode cX9_canBeFeast 189 = .ok (.ifCond .ne 7, 3) := by decide +kernel
theorem dX9_canBeFeast_192 : decode cX9_canBeFeast 192 = .ok (.iconst 1, 1) := by decide +kernel
theorem dX9_canBeFeast_193 : decode cX9_canBeFeast 193 = .ok (.goto 4, 3) := by decide +kernel
theorem dX9_canBeFeast_196 : decode cX9_canBeFeast 196 = .ok (.iconst 0, 1) := by decide +kernel
theorem dX9_canBeFeast_197 : decode cX9_canBeFeast 197 = .ok (.ireturn, 1) := by decide +kernel
theorem dX9_canBeFeast_198 : decode cX9_canBeFeast 198 = .ok (.aload_n 0, 1) := by decide +kernel
theorem dX9_canBeFeast_199 : decode cX9_canBeFeast 199 = .ok (.iload_n 2, 1) := by decide +kernel
theorem dX9_canBeFeast_200 : decode cX9_canBeFeast 200 = .ok (.invokevirtual 281, 3) := by decide +kernel
theorem dX9_canBeFeast_203 : decode cX9_canBeFeast 203 = .ok (.ifCond .eq 31, 3) := by decide +kernel
theorem dX9_canBeFeast_206 : decode cX9_canBeFeast 206 = .ok (.aload_n 0, 1) := by decide +kernel
theorem dX9_canBeFeast_207 : decode cX9_canBeFeast 207 = .ok (.iload_n 3, 1) := by decide +kernel
theorem dX9_canBeFeast_208 : decode cX9_canBeFeast 208 = .ok (.invokevirtual 221, 3) := by decide +kernel
theorem dX9_canBeFeast_211 : decode cX9_canBeFeast 211 = .ok (.ifCond .eq 23, 3) := by decide +kernel
theorem dX9_canBeFeast_214 : decode cX9_canBeFeast 214 = .ok (.iload 4, 2) := by decide +kernel
theorem dX9_canBeFeast_216 : decode cX9_canBeFeast 216 = .ok (.iconst 1, 1) := by decide +kernel
theorem dX9_canBeFeast_217 : decode cX9_canBeFeast 217 = .ok (.bipush 60, 2) := by decide +kernel
theorem dX9_canBeFeast_219 : decode cX9_canBeFeast 219 = .ok (.invokestatic 70, 3) := by decide +kernel
theorem dX9_canBeFeast_222 : decode cX9_canBeFeast 222 = .ok (.ifCond .eq 12, 3) := by decide +kernel
theorem dX9_canBeFeast_225 : decode cX9_canBeFeast 225 = .ok (.iload 5, 2) := by decide +kernel
theorem dX9_canBeFeast_227 : decode cX9_canBeFeast 227 = .ok (.ifCond .ne 7, 3) := by decide +kernel
theorem dX9_canBeFeast_230 : decode cX9_canBeFeast 230 = .ok (.iconst 1, 1) := by decide +kernel
theorem dX9_canBeFeast_231 : decode cX9_canBeFeast 231 = .ok (.goto 4, 3) := by decide +kernel
theorem dX9_canBeFeast_234 : decode cX9_canBeFeast 234 = .ok (.iconst 0, 1) := by decide +kernel
theorem dX9_canBeFeast_235 : decode cX9_canBeFeast 235 = .ok (.ireturn, 1) := by decide +kernel
set_option maxRecDepth 20000 in
theorem dX9_addFeast_0 : decode cX9_addFeast 0 = .ok (.iload_n 1, 1) := by decide +kernel
theorem dX9_addFeast_1 : decode cX9_addFeast 1 = .ok (.iconst 0, 1) := by decide +kernel
theorem dX9_addFeast_2 : decode cX9_addFeast 2 = .ok (.iconst 4, 1) := by decide +kernel
theorem dX9_addFeast_3 : decode cX9_addFeast 3 = .ok (.invokestatic 70, 3) := by decide +kernel
theorem dX9_addFeast_6 : decode cX9_addFeast 6 = .ok (.ifCond .eq 28, 3) := by decide +kernel
theorem dX9_addFeast_9 : decode cX9_addFeast 9 = .ok (.iload_n 2, 1) := by decide +kernel
theorem dX9_addFeast_10 : decode cX9_addFeast 10 = .ok (.iconst 0, 1) := by decide +kernel
theorem dX9_addFeast_11 : decode cX9_addFeast 11 = .ok (.bipush 9, 2) := by decide +kernel
theorem dX9_addFeast_13 : decode cX9_addFeast 13 = .ok (.invokestatic 70, 3) := by decide +kernel
theorem dX9_addFeast_16 : decode cX9_addFeast 16 = .ok (.ifCond .eq 18, 3) := by decide +kernel
theorem dX9_addFeast_19 : decode cX9_addFeast 19 = .ok (.aload_n 0, 1) := by decide +kernel
theorem dX9_addFeast_20 : decode cX9_addFeast 20 = .ok (.iload_n 1, 1) := by decide +kernel
theorem dX9_addFeast_21 : decode cX9_addFeast 21 = .ok (.iload_n 3, 1) := by decide +kernel
theorem dX9_addFeast_22 : decode cX9_addFeast 22 = .ok (.iload 4, 2) := by decide +kernel
theorem dX9_addFeast_24 : decode cX9_addFeast 24 = .ok (.iload 5, 2) := by decide +kernel
theorem dX9_addFeast_26 : decode cX9_addFeast 26 = .ok (.iload 6, 2) := by decide +kernel
theorem dX9_addFeast_28 : decode cX9_addFeast 28 = .ok (.invokevirtual 284, 3) := by decide +kernel
theorem dX9_addFeast_31 : decode cX9_addFeast 31 = .ok (.ifCond .ne 9, 3) := by decide +kernel
theorem dX9_addFeast_34 : decode cX9_addFeast 34 = .ok (.aload_n 0, 1) := by decide +kernel
theorem dX9_addFeast_35 : decode cX9_addFeast 35 = .ok (.iconst 1, 1) := by decide +kernel
theorem dX9_addFeast_36 : decode cX9_addFeast 36 = .ok (.invokevirtual 143, 3) := by decide +kernel
theorem dX9_addFeast_39 : decode cX9_addFeast 39 = .ok (.ireturn, 1) := by decide +kernel
theorem dX9_addFeast_40 : decode cX9_addFeast 40 = .ok (.aload_n 0, 1) := by decide +kernel
theorem dX9_addFeast_41 : decode cX9_addFeast 41 = .ok (.getfield 278, 3) := by decide +kernel
theorem dX9_addFeast_44 : decode cX9_addFeast 44 = .ok (.bipush 8, 2) := by decide +kernel
theorem dX9_addFeast_46 : decode cX9_addFeast 46 = .ok (.if_icmp .ne 9, 3) := by decide +kernel
theorem dX9_addFeast_49 : decode cX9_addFeast 49 = .ok (.aload_n 0, 1) := by decide +kernel
theorem dX9_addFeast_50 : decode cX9_addFeast 50 = .ok (.iconst 2, 1) := by decide +kernel
theorem dX9_addFeast_51 : decode cX9_addFeast 51 = .ok (.invokevirtual 143, 3) := by decide +kernel
theorem dX9_addFeast_54 : decode cX9_addFeast 54 = .ok (.ireturn, 1) := by decide +kernel
theorem dX9_addFeast_55 : decode cX9_addFeast 55 = .ok (.aload_n 0, 1) := by decide +kernel
theorem dX9_addFeast_56 : decode cX9_addFeast 56 = .ok (.iconst 0, 1) := by decide +kernel
theorem dX9_addFeast_57 : decode cX9_addFeast 57 = .ok (.putfield 67, 3) := by decide +kernel
theorem dX9_addFeast_60 : decode cX9_addFeast 60 = .ok (.aload_n 0, 1) := by decide +kernel
theorem dX9_addFeast_61 : decode cX9_addFeast 61 = .ok (.invokevirtual 218, 3) := by decide +kernel
theorem dX9_addFeast_64 : decode cX9_addFeast 64 = .ok (.bipush 6, 2) := by decide +kernel
theorem dX9_addFeast_66 : decode cX9_addFeast 66 = .ok (.aload_n 0, 1) := by decide +kernel
theorem dX9_addFeast_67 : decode cX9_addFeast 67 = .ok (.getfield 278, 3) := by decide +kernel
theorem dX9_addFeast_70 : decode cX9_addFeast 70 = .ok (.imul, 1) := by decide +kernel
theorem dX9_addFeast_71 : decode cX9_addFeast 71 = .ok (.istore 7, 2) := by decide +kernel
theorem dX9_addFeast_73 : decode cX9_addFeast 73 = .ok (.aload_n 0, 1) := by decide +kernel
theorem dX9_addFeast_74 : decode cX9_addFeast 74 = .ok (.getfield 29, 3) := by decide +kernel
theorem dX9_addFeast_77 : decode cX9_addFeast 77 = .ok (.iload 7, 2) := by decide +kernel
theorem dX9_addFeast_79 : decode cX9_addFeast 79 = .ok (.iload_n 1, 1) := by decide +kernel
theorem dX9_addFeast_80 : decode cX9_addFeast 80 = .ok (.iastore, 1) := by decide +kernel
theorem dX9_addFeast_81 : decode cX9_addFeast 81 = .ok (.aload_n 0, 1) := by decide +kernel
theorem dX9_addFeast_82 : decode cX9_addFeast 82 = .ok (.getfield 29, 3) := by decide +kernel
theorem dX9_addFeast_85 : decode cX9_addFeast 85 = .ok (.iload 7, 2) := by decide +kernel
theorem dX9_addFeast_87 : decode cX9_addFeast 87 = .ok (.iconst 1, 1) := by decide +kernel
theorem dX9_addFeast_88 : decode cX9_addFeast 88 = .ok (.iadd, 1) := by decide +kernel
theorem dX9_addFeast_89 : decode cX9_addFeast 89 = .ok (.iload_n 2, 1) := by decide +kernel
theorem dX9_addFeast_90 : decode cX9_addFeast 90 = .ok (.iastore, 1) := by decide +kernel
theorem dX9_addFeast_91 : decode cX9_addFeast 91 = .ok (.aload_n 0, 1) := by decide +kernel
theorem dX9_addFeast_92 : decode cX9_addFeast 92 = .ok (.getfield 29, 3) := by decide +kernel
theorem dX9_addFeast_95 : decode cX9_addFeast 95 = .ok (.iload 7, 2) := by decide +kernel
theorem dX9_addFeast_97 : decode cX9_addFeast 97 = .ok (.iconst 2, 1) := by decide +kernel
theorem dX9_addFeast_98 : decode cX9_addFeast 98 = .ok (.iadd, 1) := by decide +kernel
theorem dX9_addFeast_99 : decode cX9_addFeast 99 = .ok (.iload_n 3, 1) := by decide +kernel
theorem dX9_addFeast_100 : decode cX9_addFeast 100 = .ok (.iastore, 1) := by decide +kernel
theorem dX9_addFeast_101 : decode cX9_addFeast 101 = .ok (.aload_n 0, 1) := by decide +kernel
theorem dX9_addFeast_102 : decode cX9_addFeast 102 = .ok (.getfield 29, 3) := by decide +kernel
theorem dX9_addFeast_105 : decode cX9_addFeast 105 = .ok (.iload 7, 2) := by decide +kernel
theorem dX9_addFeast_107 : decode cX9_addFeast 107 = .ok (.iconst 3, 1) := by decide +kernel
theorem dX9_addFeast_108 : decode cX9_addFeast 108 = .ok (.iadd, 1) := by decide +kernel
theorem dX9_addFeast_109 : decode cX9_addFeast 109 = .ok (.iload 4, 2) := by decide +kernel
theorem dX9_addFeast_111 : decode cX9_addFeast 111 = .ok (.iastore, 1) := by decide +kernel
theorem dX9_addFeast_112 : decode cX9_addFeast 112 = .ok (.aload_n 0, 1) := by decide +kernel
theorem dX9_addFeast_113 : decode cX9_addFeast 113 = .ok (.getfield 29, 3) := by decide +kernel
theorem dX9_addFeast_116 : decode cX9_addFeast 116 = .ok (.iload 7, 2) := by decide +kernel
theorem dX9_addFeast_118 : decode cX9_addFeast 118 = .ok (.iconst 4, 1) := by decide +kernel
theorem dX9_addFeast_119 : decode cX9_addFeast 119 = .ok (.iadd, 1) := by decide +kernel
theorem dX9_addFeast_120 : decode cX9_addFeast 120 = .ok (.iload 5, 2) := by decide +kernel
theorem dX9_addFeast_122 : decode cX9_addFeast 122 = .ok (.iastore, 1) := by decide +kernel
theorem dX9_addFeast_123 : decode cX9_addFeast 123 = .ok (.aload_n 0, 1) := by decide +kernel
theorem dX9_addFeast_124 : decode cX9_addFeast 124 = .ok (.getfield 29, 3) := by decide +kernel
theorem dX9_addFeast_127 : decode cX9_addFeast 127 = .ok (.iload 7, 2) := by decide +kernel
theorem dX9_addFeast_129 : decode cX9_addFeast 129 = .ok (.iconst 5, 1) := by decide +kernel
theorem dX9_addFeast_130 : decode cX9_addFeast 130 = .ok (.iadd, 1) := by decide +kernel
theorem dX9_addFeast_131 : decode cX9_addFeast 131 = .ok (.iload 6, 2) := by decide +kernel
theorem dX9_addFeast_133 : decode cX9_addFeast 133 = .ok (.iastore, 1) := by decide +kernel
theorem dX9_addFeast_134 : decode cX9_addFeast 134 = .ok (.aload_n 0, 1) := by decide +kernel
theorem dX9_addFeast_135 : decode cX9_addFeast 135 = .ok (.dup, 1) := by decide +kernel
theorem dX9_addFeast_136 : decode cX9_addFeast 136 = .ok (.getfield 278, 3) := by decide +kernel
theorem dX9_addFeast_139 : decode cX9_addFeast 139 = .ok (.iconst 1, 1) := by decide +kernel
theorem dX9_addFeast_140 : decode cX9_addFeast 140 = .ok (.iadd, 1) := by decide +kernel
theorem dX9_addFeast_141 : decode cX9_addFeast 141 = .ok (.putfield 278, 3) := by decide +kernel
theorem dX9_addFeast_144 : decode cX9_addFeast 144 = .ok (.aload_n 0, 1) := by decide +kernel
theorem dX9_addFeast_145 : decode cX9_addFeast 145 = .ok (.getfield 278, 3) := by decide +kernel
theorem dX9_addFeast_148 : decode cX9_addFeast 148 = .ok (.iconst 1, 1) := by decide +kernel
theorem dX9_addFeast_149 : decode cX9_addFeast 149 = .ok (.isub, 1) := by decide +kernel
theorem dX9_addFeast_150 : decode cX9_addFeast 150 = .ok (.ireturn, 1) := by decide +kernel
set_option maxRecDepth 20000 in
theorem dX9_removeFeast_0 : decode cX9_removeFeast 0 = .ok (.aload_n 0, 1) := by decide +kernel
theorem dX9_removeFeast_1 : decode cX9_removeFeast 1 = .ok (.getfield 278, 3) := by decide +kernel
theorem dX9_removeFeast_4 : decode cX9_removeFeast 4 = .ok (.ifCond .ne 9, 3) := by decide +kernel
theorem dX9_removeFeast_7 : decode cX9_removeFeast 7 = .ok (.aload_n 0, 1) := by decide +kernel
theorem dX9_removeFeast_8 : decode cX9_removeFeast 8 = .ok (.iconst 1, 1) := by decide +kernel
theorem dX9_removeFeast_9 : decode cX9_removeFeast 9 = .ok (.invokevirtual 143, 3) := by decide +kernel
theorem dX9_removeFeast_12 : decode cX9_removeFeast 12 = .ok (.ireturn, 1) := by decide +kernel
theorem dX9_removeFeast_13 : decode cX9_removeFeast 13 = .ok (.aload_n 0, 1) := by decide +kernel
theorem dX9_removeFeast_14 : decode cX9_removeFeast 14 = .ok (.iconst 0, 1) := by decide +kernel
theorem dX9_removeFeast_15 : decode cX9_removeFeast 15 = .ok (.putfield 67, 3) := by decide +kernel
theorem dX9_removeFeast_18 : decode cX9_removeFeast 18 = .ok (.aload_n 0, 1) := by decide +kernel
theorem dX9_removeFeast_19 : decode cX9_removeFeast 19 = .ok (.invokevirtual 218, 3) := by decide +kernel
theorem dX9_removeFeast_22 : decode cX9_removeFeast 22 = .ok (.aload_n 0, 1) := by decide +kernel
theorem dX9_removeFeast_23 : decode cX9_removeFeast 23 = .ok (.dup, 1) := by decide +kernel
theorem dX9_removeFeast_24 : decode cX9_removeFeast 24 = .ok (.getfield 278, 3) := by decide +kernel
theorem dX9_removeFeast_27 : decode cX9_removeFeast 27 = .ok (.iconst 1, 1) := by decide +kernel
theorem dX9_removeFeast_28 : decode cX9_removeFeast 28 = .ok (.isub, 1) := by decide +kernel
theorem dX9_removeFeast_29 : decode cX9_removeFeast 29 = .ok (.putfield 278, 3) := by decide +kernel
theorem dX9_removeFeast_32 : decode cX9_removeFeast 32 = .ok (.aload_n 0, 1) := by decide +kernel
theorem dX9_removeFeast_33 : decode cX9_removeFeast 33 = .ok (.getfield 278, 3) := by decide +kernel
theorem dX9_removeFeast_36 : decode cX9_removeFeast 36 = .ok (.ireturn, 1) := by decide +kernel
theorem dX9_feastCount_0 : decode cX9_feastCount 0 = .ok (.aload_n 0, 1) := by decide +kernel
theorem dX9_feastCount_1 : decode cX9_feastCount 1 = .ok (.iconst 0, 1) := by decide +kernel
theorem dX9_feastCount_2 : decode cX9_feastCount 2 = .ok (.putfield 67, 3) := by decide +kernel
theorem dX9_feastCount_5 : decode cX9_feastCount 5 = .ok (.aload_n 0, 1) := by decide +kernel
theorem dX9_feastCount_6 : decode cX9_feastCount 6 = .ok (.getfield 278, 3) := by decide +kernel
theorem dX9_feastCount_9 : decode cX9_feastCount 9 = .ok (.ireturn, 1) := by decide +kernel
set_option maxRecDepth 20000 in
theorem dX9_weekdayIn_0 : decode cX9_weekdayIn 0 = .ok (.iload 5, 2) := by decide +kernel
theorem dX9_weekdayIn_2 : decode cX9_weekdayIn 2 = .ok (.aload_n 0, 1) := by decide +kernel
theorem dX9_weekdayIn_3 : decode cX9_weekdayIn 3 = .ok (.iload_n 1, 1) := by decide +kernel
theorem dX9_weekdayIn_4 : decode cX9_weekdayIn 4 = .ok (.bipush 30, 2) := by decide +kernel
theorem dX9_weekdayIn_6 : decode cX9_weekdayIn 6 = .ok (.invokevirtual 80, 3) := by decide +kernel
theorem dX9_weekdayIn_9 : decode cX9_weekdayIn 9 = .ok (.if_icmp .lt 7, 3) := by decide +kernel
theorem dX9_weekdayIn_12 : decode cX9_weekdayIn 12 = .ok (.ldc_w 259, 3) := by decide +kernel
theorem dX9_weekdayIn_15 : decode cX9_weekdayIn 15 = .ok (.ireturn, 1) := by decide +kernel
theorem dX9_weekdayIn_16 : decode cX9_weekdayIn 16 = .ok (.aload_n 0, 1) := by decide +kernel
theorem dX9_weekdayIn_17 : decode cX9_weekdayIn 17 = .ok (.iload_n 1, 1) := by decide +kernel
theorem dX9_weekdayIn_18 : decode cX9_weekdayIn 18 = .ok (.iload_n 2, 1) := by decide +kernel
theorem dX9_weekdayIn_19 : decode cX9_weekdayIn 19 = .ok (.iload_n 3, 1) := by decide +kernel
theorem dX9_weekdayIn_20 : decode cX9_weekdayIn 20 = .ok (.iconst 1, 1) := by decide +kernel
theorem dX9_weekdayIn_21 : decode cX9_weekdayIn 21 = .ok (.invokevirtual 234, 3) := by decide +kernel
theorem dX9_weekdayIn_24 : decode cX9_weekdayIn 24 = .ok (.istore 6, 2) := by decide +kernel
theorem dX9_weekdayIn_26 : decode cX9_weekdayIn 26 = .ok (.iload 6, 2) := by decide +kernel
theorem dX9_weekdayIn_28 : decode cX9_weekdayIn 28 = .ok (.aload_n 0, 1) := by decide +kernel
theorem dX9_weekdayIn_29 : decode cX9_weekdayIn 29 = .ok (.iload_n 1, 1) := by decide +kernel
theorem dX9_weekdayIn_30 : decode cX9_weekdayIn 30 = .ok (.iload_n 2, 1) := by decide +kernel
theorem dX9_weekdayIn_31 : decode cX9_weekdayIn 31 = .ok (.iload_n 3, 1) := by decide +kernel
theorem dX9_weekdayIn_32 : decode cX9_weekdayIn 32 = .ok (.invokevirtual 120, 3) := by decide +kernel
theorem dX9_weekdayIn_35 : decode cX9_weekdayIn 35 = .ok (.iadd, 1) := by decide +kernel
theorem dX9_weekdayIn_36 : decode cX9_weekdayIn 36 = .ok (.iconst 1, 1) := by decide +kernel
theorem dX9_weekdayIn_37 : decode cX9_weekdayIn 37 = .ok (.isub, 1) := by decide +kernel
theorem dX9_weekdayIn_38 : decode cX9_weekdayIn 38 = .ok (.istore 7, 2) := by decide +kernel
theorem dX9_weekdayIn_40 : decode cX9_weekdayIn 40 = .ok (.ldc_w 259, 3) := by decide +kernel
theorem dX9_weekdayIn_43 : decode cX9_weekdayIn 43 = .ok (.istore 8, 2) := by decide +kernel
theorem dX9_weekdayIn_45 : decode cX9_weekdayIn 45 = .ok (.iconst 0, 1) := by decide +kernel
theorem dX9_weekdayIn_46 : decode cX9_weekdayIn 46 = .ok (.istore 9, 2) := by decide +kernel
theorem dX9_weekdayIn_48 : decode cX9_weekdayIn 48 = .ok (.iload 6, 2) := by decide +kernel
theorem dX9_weekdayIn_50 : decode cX9_weekdayIn 50 = .ok (.istore 10, 2) := by decide +kernel
theorem dX9_weekdayIn_52 : decode cX9_weekdayIn 52 = .ok (.iload 10, 2) := by decide +kernel
theorem dX9_weekdayIn_54 : decode cX9_weekdayIn 54 = .ok (.iload 7, 2) := by decide +kernel
theorem dX9_weekdayIn_56 : decode cX9_weekdayIn 56 = .ok (.if_icmp .gt 44, 3) := by decide +kernel
theorem dX9_weekdayIn_59 : decode cX9_weekdayIn 59 = .ok (.aload_n 0, 1) := by decide +kernel
theorem dX9_weekdayIn_60 : decode cX9_weekdayIn 60 = .ok (.iload_n 1, 1) := by decide +kernel
theorem dX9_weekdayIn_61 : decode cX9_weekdayIn 61 = .ok (.iload 10, 2) := by decide +kernel
theorem dX9_weekdayIn_63 : decode cX9_weekdayIn 63 = .ok (.invokevirtual 140, 3) := by decide +kernel
theorem dX9_weekdayIn_66 : decode cX9_weekdayIn 66 = .ok (.iload 5, 2) := by decide +kernel
theorem dX9_weekdayIn_68 : decode cX9_weekdayIn 68 = .ok (.if_icmp .eq 6, 3) := by decide +kernel
theorem dX9_weekdayIn_71 : decode cX9_weekdayIn 71 = .ok (.goto 23, 3) := by decide +kernel
theorem dX9_weekdayIn_74 : decode cX9_weekdayIn 74 = .ok (.iinc 9 1, 3) := by decide +kernel
theorem dX9_weekdayIn_77 : decode cX9_weekdayIn 77 = .ok (.iload 4, 2) := by decide +kernel
theorem dX9_weekdayIn_79 : decode cX9_weekdayIn 79 = .ok (.iconst (-1), 1) := by decide +kernel
theorem dX9_weekdayIn_80 : decode cX9_weekdayIn 80 = .ok (.if_icmp .eq 10, 3) := by decide +kernel
theorem dX9_weekdayIn_83 : decode cX9_weekdayIn 83 = .ok (.iload 9, 2) := by decide +kernel
theorem dX9_weekdayIn_85 : decode cX9_weekdayIn 85 = .ok (.iload 4, 2) := by decide +kernel
theorem dX9_weekdayIn_87 : decode cX9_weekdayIn 87 = .ok (.if_icmp .ne 7, 3) := by decide +kernel
theorem dX9_weekdayIn_90 : decode cX9_weekdayIn 90 = .ok (.iload 10, 2) := by decide +kernel
theorem dX9_weekdayIn_92 : decode cX9_weekdayIn 92 = .ok (.istore 8, 2) := by decide +kernel
theorem dX9_weekdayIn_94 : decode cX9_weekdayIn 94 = .ok (.iinc 10 1, 3) := by decide +kernel
theorem dX9_weekdayIn_97 : decode cX9_weekdayIn 97 = .ok (.goto (-45), 3) := by decide +kernel
theorem dX9_weekdayIn_100 : decode cX9_weekdayIn 100 = .ok (.iload 8, 2) := by decide +kernel
theorem dX9_weekdayIn_102 : decode cX9_weekdayIn 102 = .ok (.ireturn, 1) := by decide +kernel
set_option maxRecDepth 20000 in
theorem dX9_weekdayFrom_0 : decode cX9_weekdayFrom 0 = .ok (.iload_n 3, 1) := by decide +kernel
theorem dX9_weekdayFrom_1 : decode cX9_weekdayFrom 1 = .ok (.aload_n 0, 1) := by decide +kernel
theorem dX9_weekdayFrom_2 : decode cX9_weekdayFrom 2 = .ok (.iload_n 1, 1) := by decide +kernel
theorem dX9_weekdayFrom_3 : decode cX9_weekdayFrom 3 = .ok (.bipush 30, 2) := by decide +kernel
theorem dX9_weekdayFrom_5 : decode cX9_weekdayFrom 5 = .ok (.invokevirtual 80, 3) := by decide +kernel
theorem dX9_weekdayFrom_8 : decode cX9_weekdayFrom 8 = .ok (.if_icmp .lt 7, 3) := by decide +kernel
theorem dX9_weekdayFrom_11 : decode cX9_weekdayFrom 11 = .ok (.ldc_w 259, 3) := by decide +kernel
theorem dX9_weekdayFrom_14 : decode cX9_weekdayFrom 14 = .ok (.ireturn, 1) := by decide +kernel
theorem dX9_weekdayFrom_15 : decode cX9_weekdayFrom 15 = .ok (.iload_n 2, 1) := by decide +kernel
theorem dX9_weekdayFrom_16 : decode cX9_weekdayFrom 16 = .ok (.iload_n 3, 1) := by decide +kernel
theorem dX9_weekdayFrom_17 : decode cX9_weekdayFrom 17 = .ok (.aload_n 0, 1) := by decide +kernel
theorem dX9_weekdayFrom_18 : decode cX9_weekdayFrom 18 = .ok (.iload_n 1, 1) := by decide +kernel
theorem dX9_weekdayFrom_19 : decode cX9_weekdayFrom 19 = .ok (.iload_n 2, 1) := by decide +kernel
theorem dX9_weekdayFrom_20 : decode cX9_weekdayFrom 20 = .ok (.invokevirtual 140, 3) := by decide +kernel
theorem dX9_weekdayFrom_23 : decode cX9_weekdayFrom 23 = .ok (.isub, 1) := by decide +kernel
theorem dX9_weekdayFrom_24 : decode cX9_weekdayFrom 24 = .ok (.aload_n 0, 1) := by decide +kernel
theorem dX9_weekdayFrom_25 : decode cX9_weekdayFrom 25 = .ok (.iload_n 1, 1) := by decide +kernel
theorem dX9_weekdayFrom_26 : decode cX9_weekdayFrom 26 = .ok (.bipush 30, 2) := by decide +kernel
theorem dX9_weekdayFrom_28 : decode cX9_weekdayFrom 28 = .ok (.invokevirtual 80, 3) := by decide +kernel
theorem dX9_weekdayFrom_31 : decode cX9_weekdayFrom 31 = .ok (.invokestatic 83, 3) := by decide +kernel
theorem dX9_weekdayFrom_34 : decode cX9_weekdayFrom 34 = .ok (.iadd, 1) := by decide +kernel
theorem dX9_weekdayFrom_35 : decode cX9_weekdayFrom 35 = .ok (.istore 4, 2) := by decide +kernel
theorem dX9_weekdayFrom_37 : decode cX9_weekdayFrom 37 = .ok (.aload_n 0, 1) := by decide +kernel
theorem dX9_weekdayFrom_38 : decode cX9_weekdayFrom 38 = .ok (.iload_n 1, 1) := by decide +kernel
theorem dX9_weekdayFrom_39 : decode cX9_weekdayFrom 39 = .ok (.iload_n 2, 1) := by decide +kernel
theorem dX9_weekdayFrom_40 : decode cX9_weekdayFrom 40 = .ok (.invokevirtual 244, 3) := by decide +kernel
theorem dX9_weekdayFrom_43 : decode cX9_weekdayFrom 43 = .ok (.ifCond .eq 18, 3) := by decide +kernel
theorem dX9_weekdayFrom_46 : decode cX9_weekdayFrom 46 = .ok (.aload_n 0, 1) := by decide +kernel
theorem dX9_weekdayFrom_47 : decode cX9_weekdayFrom 47 = .ok (.iload_n 1, 1) := by decide +kernel
theorem dX9_weekdayFrom_48 : decode cX9_weekdayFrom 48 = .ok (.iload 4, 2) := by decide +kernel
theorem dX9_weekdayFrom_50 : decode cX9_weekdayFrom 50 = .ok (.invokevirtual 244, 3) := by decide +kernel
theorem dX9_weekdayFrom_53 : decode cX9_weekdayFrom 53 = .ok (.ifCond .eq 8, 3) := by decide +kernel
theorem dX9_weekdayFrom_56 : decode cX9_weekdayFrom 56 = .ok (.iload 4, 2) := by decide +kernel
theorem dX9_weekdayFrom_58 : decode cX9_weekdayFrom 58 = .ok (.goto 6, 3) := by decide +kernel
theorem dX9_weekdayFrom_61 : decode cX9_weekdayFrom 61 = .ok (.ldc_w 259, 3) := by decide +kernel
theorem dX9_weekdayFrom_64 : decode cX9_weekdayFrom 64 = .ok (.ireturn, 1) := by decide +kernel
set_option maxRecDepth 20000 in
theorem dX9_numberFrom_0 : decode cX9_numberFrom 0 = .ok (.iload_n 2, 1) := by decide +kernel
theorem dX9_numberFrom_1 : decode cX9_numberFrom 1 = .ok (.istore 4, 2) := by decide +kernel
theorem dX9_numberFrom_3 : decode cX9_numberFrom 3 = .ok (.iload 4, 2) := by decide +kernel
theorem dX9_numberFrom_5 : decode cX9_numberFrom 5 = .ok (.iload_n 2, 1) := by decide +kernel
theorem dX9_numberFrom_6 : decode cX9_numberFrom 6 = .ok (.sipush 400, 3) := by decide +kernel
theorem dX9_numberFrom_9 : decode cX9_numberFrom 9 = .ok (.iadd, 1) := by decide +kernel
theorem dX9_numberFrom_10 : decode cX9_numberFrom 10 = .ok (.if_icmp .ge 34, 3) := by decide +kernel
theorem dX9_numberFrom_13 : decode cX9_numberFrom 13 = .ok (.aload_n 0, 1) := by decide +kernel
theorem dX9_numberFrom_14 : decode cX9_numberFrom 14 = .ok (.iload_n 1, 1) := by decide +kernel
theorem dX9_numberFrom_15 : decode cX9_numberFrom 15 = .ok (.iload 4, 2) := by decide +kernel
theorem dX9_numberFrom_17 : decode cX9_numberFrom 17 = .ok (.invokevirtual 244, 3) := by decide +kernel
theorem dX9_numberFrom_20 : decode cX9_numberFrom 20 = .ok (.ifCond .eq 24, 3) := by decide +kernel
theorem dX9_numberFrom_23 : decode cX9_numberFrom 23 = .ok (.aload_n 0, 1) := by decide +kernel
theorem dX9_numberFrom_24 : decode cX9_numberFrom 24 = .ok (.iload_n 1, 1) := by decide +kernel
theorem dX9_numberFrom_25 : decode cX9_numberFrom 25 = .ok (.iload 4, 2) := by decide +kernel
theorem dX9_numberFrom_27 : decode cX9_numberFrom 27 = .ok (.iconst 2, 1) := by decide +kernel
theorem dX9_numberFrom_28 : decode cX9_numberFrom 28 = .ok (.invokevirtual 247, 3) := by decide +kernel
theorem dX9_numberFrom_31 : decode cX9_numberFrom 31 = .ok (.iload_n 3, 1) := by decide +kernel
theorem dX9_numberFrom_32 : decode cX9_numberFrom 32 = .ok (.if_icmp .ne 6, 3) := by decide +kernel
theorem dX9_numberFrom_35 : decode cX9_numberFrom 35 = .ok (.iload 4, 2) := by decide +kernel
theorem dX9_numberFrom_37 : decode cX9_numberFrom 37 = .ok (.ireturn, 1) := by decide +kernel
theorem dX9_numberFrom_38 : decode cX9_numberFrom 38 = .ok (.iinc 4 1, 3) := by decide +kernel
theorem dX9_numberFrom_41 : decode cX9_numberFrom 41 = .ok (.goto (-38), 3) := by decide +kernel
theorem dX9_numberFrom_44 : decode cX9_numberFrom 44 = .ok (.ldc_w 259, 3) := by decide +kernel
theorem dX9_numberFrom_47 : decode cX9_numberFrom 47 = .ok (.ireturn, 1) := by decide +kernel
set_option maxRecDepth 20000 in
theorem dX9_ruledDay_0 : decode cX9_ruledDay 0 = .ok (.aload_n 0, 1) := by decide +kernel
theorem dX9_ruledDay_1 : decode cX9_ruledDay 1 = .ok (.iload_n 1, 1) := by decide +kernel
theorem dX9_ruledDay_2 : decode cX9_ruledDay 2 = .ok (.iconst 2, 1) := by decide +kernel
theorem dX9_ruledDay_3 : decode cX9_ruledDay 3 = .ok (.invokevirtual 288, 3) := by decide +kernel
theorem dX9_ruledDay_6 : decode cX9_ruledDay 6 = .ok (.istore_n 3, 1) := by decide +kernel
theorem dX9_ruledDay_7 : decode cX9_ruledDay 7 = .ok (.aload_n 0, 1) := by decide +kernel
theorem dX9_ruledDay_8 : decode cX9_ruledDay 8 = .ok (.iload_n 1, 1) := by decide +kernel
theorem dX9_ruledDay_9 : decode cX9_ruledDay 9 = .ok (.iconst 3, 1) := by decide +kernel
theorem dX9_ruledDay_10 : decode cX9_ruledDay 10 = .ok (.invokevirtual 288, 3) := by decide +kernel
theorem dX9_ruledDay_13 : decode cX9_ruledDay 13 = .ok (.istore 4, 2) := by decide +kernel
theorem dX9_ruledDay_15 : decode cX9_ruledDay 15 = .ok (.aload_n 0, 1) := by decide +kernel
theorem dX9_ruledDay_16 : decode cX9_ruledDay 16 = .ok (.iload_n 1, 1) := by decide +kernel
theorem dX9_ruledDay_17 : decode cX9_ruledDay 17 = .ok (.iconst 4, 1) := by decide +kernel
theorem dX9_ruledDay_18 : decode cX9_ruledDay 18 = .ok (.invokevirtual 288, 3) := by decide +kernel
theorem dX9_ruledDay_21 : decode cX9_ruledDay 21 = .ok (.istore 5, 2) := by decide +kernel
theorem dX9_ruledDay_23 : decode cX9_ruledDay 23 = .ok (.aload_n 0, 1) := by decide +kernel
theorem dX9_ruledDay_24 : decode cX9_ruledDay 24 = .ok (.iload_n 1, 1) := by decide +kernel
theorem dX9_ruledDay_25 : decode cX9_ruledDay 25 = .ok (.iconst 0, 1) := by decide +kernel
theorem dX9_ruledDay_26 : decode cX9_ruledDay 26 = .ok (.invokevirtual 288, 3) := by decide +kernel
theorem dX9_ruledDay_29 : decode cX9_ruledDay 29 = .ok (.iconst 2, 1) := by decide +kernel
theorem dX9_ruledDay_30 : decode cX9_ruledDay 30 = .ok (.if_icmp .ge 66, 3) := by decide +kernel
theorem dX9_ruledDay_33 : decode cX9_ruledDay 33 = .ok (.iload 4, 2) := by decide +kernel
theorem dX9_ruledDay_35 : decode cX9_ruledDay 35 = .ok (.aload_n 0, 1) := by decide +kernel
theorem dX9_ruledDay_36 : decode cX9_ruledDay 36 = .ok (.iload_n 3, 1) := by decide +kernel
theorem dX9_ruledDay_37 : decode cX9_ruledDay 37 = .ok (.iload_n 2, 1) := by decide +kernel
theorem dX9_ruledDay_38 : decode cX9_ruledDay 38 = .ok (.invokevirtual 114, 3) := by decide +kernel
theorem dX9_ruledDay_41 : decode cX9_ruledDay 41 = .ok (.if_icmp .ge 8, 3) := by decide +kernel
theorem dX9_ruledDay_44 : decode cX9_ruledDay 44 = .ok (.iload 4, 2) := by decide +kernel
theorem dX9_ruledDay_46 : decode cX9_ruledDay 46 = .ok (.goto 9, 3) := by decide +kernel
theorem dX9_ruledDay_49 : decode cX9_ruledDay 49 = .ok (.aload_n 0, 1) := by decide +kernel
theorem dX9_ruledDay_50 : decode cX9_ruledDay 50 = .ok (.iload_n 3, 1) := by decide +kernel
theorem dX9_ruledDay_51 : decode cX9_ruledDay 51 = .ok (.iload_n 2, 1) := by decide +kernel
theorem dX9_ruledDay_52 : decode cX9_ruledDay 52 = .ok (.invokevirtual 114, 3) := by decide +kernel
theorem dX9_ruledDay_55 : decode cX9_ruledDay 55 = .ok (.istore 6, 2) := by decide +kernel
theorem dX9_ruledDay_57 : decode cX9_ruledDay 57 = .ok (.aload_n 0, 1) := by decide +kernel
theorem dX9_ruledDay_58 : decode cX9_ruledDay 58 = .ok (.iload_n 1, 1) := by decide +kernel
theorem dX9_ruledDay_59 : decode cX9_ruledDay 59 = .ok (.iconst 0, 1) := by decide +kernel
theorem dX9_ruledDay_60 : decode cX9_ruledDay 60 = .ok (.invokevirtual 288, 3) := by decide +kernel
theorem dX9_ruledDay_63 : decode cX9_ruledDay 63 = .ok (.ifCond .ne 16, 3) := by decide +kernel
theorem dX9_ruledDay_66 : decode cX9_ruledDay 66 = .ok (.aload_n 0, 1) := by decide +kernel
theorem dX9_ruledDay_67 : decode cX9_ruledDay 67 = .ok (.iload_n 3, 1) := by decide +kernel
theorem dX9_ruledDay_68 : decode cX9_ruledDay 68 = .ok (.iload_n 2, 1) := by decide +kernel
theorem dX9_ruledDay_69 : decode cX9_ruledDay 69 = .ok (.iload 6, 2) := by decide +kernel
theorem dX9_ruledDay_71 : decode cX9_ruledDay 71 = .ok (.iload 5, 2) := by decide +kernel
theorem dX9_ruledDay_73 : decode cX9_ruledDay 73 = .ok (.invokevirtual 260, 3) := by decide +kernel
theorem dX9_ruledDay_76 : decode cX9_ruledDay 76 = .ok (.goto 19, 3) := by decide +kernel
theorem dX9_ruledDay_79 : decode cX9_ruledDay 79 = .ok (.aload_n 0, 1) := by decide +kernel
theorem dX9_ruledDay_80 : decode cX9_ruledDay 80 = .ok (.iload_n 3, 1) := by decide +kernel
theorem dX9_ruledDay_81 : decode cX9_ruledDay 81 = .ok (.iload_n 2, 1) := by decide +kernel
theorem dX9_ruledDay_82 : decode cX9_ruledDay 82 = .ok (.iload 6, 2) := by decide +kernel
theorem dX9_ruledDay_84 : decode cX9_ruledDay 84 = .ok (.iload 5, 2) := by decide +kernel
theorem dX9_ruledDay_86 : decode cX9_ruledDay 86 = .ok (.aload_n 0, 1) := by decide +kernel
theorem dX9_ruledDay_87 : decode cX9_ruledDay 87 = .ok (.iload_n 1, 1) := by decide +kernel
theorem dX9_ruledDay_88 : decode cX9_ruledDay 88 = .ok (.iconst 5, 1) := by decide +kernel
theorem dX9_ruledDay_89 : decode cX9_ruledDay 89 = .ok (.invokevirtual 288, 3) := by decide +kernel
theorem dX9_ruledDay_92 : decode cX9_ruledDay 92 = .ok (.invokevirtual 291, 3) := by decide +kernel
theorem dX9_ruledDay_95 : decode cX9_ruledDay 95 = .ok (.ireturn, 1) := by decide +kernel
theorem dX9_ruledDay_96 : decode cX9_ruledDay 96 = .ok (.aload_n 0, 1) := by decide +kernel
theorem dX9_ruledDay_97 : decode cX9_ruledDay 97 = .ok (.getfield 32, 3) := by decide +kernel
theorem dX9_ruledDay_100 : decode cX9_ruledDay 100 = .ok (.iload_n 3, 1) := by decide +kernel
theorem dX9_ruledDay_101 : decode cX9_ruledDay 101 = .ok (.iaload, 1) := by decide +kernel
theorem dX9_ruledDay_102 : decode cX9_ruledDay 102 = .ok (.ldc_w 259, 3) := by decide +kernel
theorem dX9_ruledDay_105 : decode cX9_ruledDay 105 = .ok (.if_icmp .ne 7, 3) := by decide +kernel
theorem dX9_ruledDay_108 : decode cX9_ruledDay 108 = .ok (.ldc_w 259, 3) := by decide +kernel
theorem dX9_ruledDay_111 : decode cX9_ruledDay 111 = .ok (.ireturn, 1) := by decide +kernel
theorem dX9_ruledDay_112 : decode cX9_ruledDay 112 = .ok (.aload_n 0, 1) := by decide +kernel
theorem dX9_ruledDay_113 : decode cX9_ruledDay 113 = .ok (.iload_n 1, 1) := by decide +kernel
theorem dX9_ruledDay_114 : decode cX9_ruledDay 114 = .ok (.iconst 0, 1) := by decide +kernel
theorem dX9_ruledDay_115 : decode cX9_ruledDay 115 = .ok (.invokevirtual 288, 3) := by decide +kernel
theorem dX9_ruledDay_118 : decode cX9_ruledDay 118 = .ok (.iconst 2, 1) := by decide +kernel
theorem dX9_ruledDay_119 : decode cX9_ruledDay 119 = .ok (.if_icmp .ne 15, 3) := by decide +kernel
theorem dX9_ruledDay_122 : decode cX9_ruledDay 122 = .ok (.aload_n 0, 1) := by decide +kernel
theorem dX9_ruledDay_123 : decode cX9_ruledDay 123 = .ok (.getfield 32, 3) := by decide +kernel
theorem dX9_ruledDay_126 : decode cX9_ruledDay 126 = .ok (.iload_n 3, 1) := by decide +kernel
theorem dX9_ruledDay_127 : decode cX9_ruledDay 127 = .ok (.iaload, 1) := by decide +kernel
theorem dX9_ruledDay_128 : decode cX9_ruledDay 128 = .ok (.iload 4, 2) := by decide +kernel
theorem dX9_ruledDay_130 : decode cX9_ruledDay 130 = .ok (.iadd, 1) := by decide +kernel
theorem dX9_ruledDay_131 : decode cX9_ruledDay 131 = .ok (.goto 44, 3) := by decide +kernel
theorem dX9_ruledDay_134 : decode cX9_ruledDay 134 = .ok (.aload_n 0, 1) := by decide +kernel
theorem dX9_ruledDay_135 : decode cX9_ruledDay 135 = .ok (.iload_n 1, 1) := by decide +kernel
theorem dX9_ruledDay_136 : decode cX9_ruledDay 136 = .ok (.iconst 0, 1) := by decide +kernel
theorem dX9_ruledDay_137 : decode cX9_ruledDay 137 = .ok (.invokevirtual 288, 3) := by decide +kernel
theorem dX9_ruledDay_140 : decode cX9_ruledDay 140 = .ok (.iconst 3, 1) := by decide +kernel
theorem dX9_ruledDay_141 : decode cX9_ruledDay 141 = .ok (.if_icmp .ne 20, 3) := by decide +kernel
theorem dX9_ruledDay_144 : decode cX9_ruledDay 144 = .ok (.aload_n 0, 1) := by decide +kernel
theorem dX9_ruledDay_145 : decode cX9_ruledDay 145 = .ok (.iload 4, 2) := by decide +kernel
theorem dX9_ruledDay_147 : decode cX9_ruledDay 147 = .ok (.aload_n 0, 1) := by decide +kernel
theorem dX9_ruledDay_148 : decode cX9_ruledDay 148 = .ok (.getfield 32, 3) := by decide +kernel
theorem dX9_ruledDay_151 : decode cX9_ruledDay 151 = .ok (.iload_n 3, 1) := by decide +kernel
theorem dX9_ruledDay_152 : decode cX9_ruledDay 152 = .ok (.iaload, 1) := by decide +kernel
theorem dX9_ruledDay_153 : decode cX9_ruledDay 153 = .ok (.iload 5, 2) := by decide +kernel
theorem dX9_ruledDay_155 : decode cX9_ruledDay 155 = .ok (.invokevirtual 295, 3) := by decide +kernel
theorem dX9_ruledDay_158 : decode cX9_ruledDay 158 = .ok (.goto 17, 3) := by decide +kernel
theorem dX9_ruledDay_161 : decode cX9_ruledDay 161 = .ok (.aload_n 0, 1) := by decide +kernel
theorem dX9_ruledDay_162 : decode cX9_ruledDay 162 = .ok (.iload 4, 2) := by decide +kernel
theorem dX9_ruledDay_164 : decode cX9_ruledDay 164 = .ok (.aload_n 0, 1) := by decide +kernel
theorem dX9_ruledDay_165 : decode cX9_ruledDay 165 = .ok (.getfield 32, 3) := by decide +kernel
theorem dX9_ruledDay_168 : decode cX9_ruledDay 168 = .ok (.iload_n 3, 1) := by decide +kernel
theorem dX9_ruledDay_169 : decode cX9_ruledDay 169 = .ok (.iaload, 1) := by decide +kernel
theorem dX9_ruledDay_170 : decode cX9_ruledDay 170 = .ok (.iload 5, 2) := by decide +kernel
theorem dX9_ruledDay_172 : decode cX9_ruledDay 172 = .ok (.invokevirtual 298, 3) := by decide +kernel
theorem dX9_ruledDay_175 : decode cX9_ruledDay 175 = .ok (.ireturn, 1) := by decide +kernel
set_option maxRecDepth 20000 in
theorem dX9_findFeasts_0 : decode cX9_findFeasts 0 = .ok (.iconst 0, 1) := by decide +kernel
theorem dX9_findFeasts_1 : decode cX9_findFeasts 1 = .ok (.istore_n 3, 1) := by decide +kernel
theorem dX9_findFeasts_2 : decode cX9_findFeasts 2 = .ok (.iload_n 3, 1) := by decide +kernel
theorem dX9_findFeasts_3 : decode cX9_findFeasts 3 = .ok (.iload_n 2, 1) := by decide +kernel
theorem dX9_findFeasts_4 : decode cX9_findFeasts 4 = .ok (.if_icmp .ge 47, 3) := by decide +kernel
theorem dX9_findFeasts_7 : decode cX9_findFeasts 7 = .ok (.aload_n 0, 1) := by decide +kernel
theorem dX9_findFeasts_8 : decode cX9_findFeasts 8 = .ok (.iload_n 3, 1) := by decide +kernel
theorem dX9_findFeasts_9 : decode cX9_findFeasts 9 = .ok (.iload_n 1, 1) := by decide +kernel
theorem dX9_findFeasts_10 : decode cX9_findFeasts 10 = .ok (.invokevirtual 301, 3) := by decide +kernel
theorem dX9_findFeasts_13 : decode cX9_findFeasts 13 = .ok (.istore 4, 2) := by decide +kernel
theorem dX9_findFeasts_15 : decode cX9_findFeasts 15 = .ok (.aload_n 0, 1) := by decide +kernel
theorem dX9_findFeasts_16 : decode cX9_findFeasts 16 = .ok (.getfield 32, 3) := by decide +kernel
theorem dX9_findFeasts_19 : decode cX9_findFeasts 19 = .ok (.iload_n 3, 1) := by decide +kernel
theorem dX9_findFeasts_20 : decode cX9_findFeasts 20 = .ok (.iload 4, 2) := by decide +kernel
theorem dX9_findFeasts_22 : decode cX9_findFeasts 22 = .ok (.ldc_w 259, 3) := by decide +kernel
theorem dX9_findFeasts_25 : decode cX9_findFeasts 25 = .ok (.if_icmp .eq 16, 3) := by decide +kernel
theorem dX9_findFeasts_28 : decode cX9_findFeasts 28 = .ok (.iload 4, 2) := by decide +kernel
theorem dX9_findFeasts_30 : decode cX9_findFeasts 30 = .ok (.invokestatic 238, 3) := by decide +kernel
theorem dX9_findFeasts_33 : decode cX9_findFeasts 33 = .ok (.ifCond .eq 8, 3) := by decide +kernel
theorem dX9_findFeasts_36 : decode cX9_findFeasts 36 = .ok (.iload 4, 2) := by decide +kernel
theorem dX9_findFeasts_38 : decode cX9_findFeasts 38 = .ok (.goto 6, 3) := by decide +kernel
theorem dX9_findFeasts_41 : decode cX9_findFeasts 41 = .ok (.ldc_w 259, 3) := by decide +kernel
theorem dX9_findFeasts_44 : decode cX9_findFeasts 44 = .ok (.iastore, 1) := by decide +kernel
theorem dX9_findFeasts_45 : decode cX9_findFeasts 45 = .ok (.iinc 3 1, 3) := by decide +kernel
theorem dX9_findFeasts_48 : decode cX9_findFeasts 48 = .ok (.goto (-46), 3) := by decide +kernel
theorem dX9_findFeasts_51 : decode cX9_findFeasts 51 = .ok (.return_, 1) := by decide +kernel
set_option maxRecDepth 20000 in
theorem dX9_notFeast_0 : decode cX9_notFeast 0 = .ok (.aload_n 0, 1) := by decide +kernel
theorem dX9_notFeast_1 : decode cX9_notFeast 1 = .ok (.iload_n 1, 1) := by decide +kernel
theorem dX9_notFeast_2 : decode cX9_notFeast 2 = .ok (.invokevirtual 281, 3) := by decide +kernel
theorem dX9_notFeast_5 : decode cX9_notFeast 5 = .ok (.ifCond .ne 7, 3) := by decide +kernel
theorem dX9_notFeast_8 : decode cX9_notFeast 8 = .ok (.iconst 1, 1) := by decide +kernel
theorem dX9_notFeast_9 : decode cX9_notFeast 9 = .ok (.goto 15, 3) := by decide +kernel
theorem dX9_notFeast_12 : decode cX9_notFeast 12 = .ok (.iload_n 2, 1) := by decide +kernel
theorem dX9_notFeast_13 : decode cX9_notFeast 13 = .ok (.invokestatic 110, 3) := by decide +kernel
theorem dX9_notFeast_16 : decode cX9_notFeast 16 = .ok (.ifCond .eq 7, 3) := by decide +kernel
theorem dX9_notFeast_19 : decode cX9_notFeast 19 = .ok (.iconst 0, 1) := by decide +kernel
theorem dX9_notFeast_20 : decode cX9_notFeast 20 = .ok (.goto 4, 3) := by decide +kernel
theorem dX9_notFeast_23 : decode cX9_notFeast 23 = .ok (.iconst 2, 1) := by decide +kernel
theorem dX9_notFeast_24 : decode cX9_notFeast 24 = .ok (.ireturn, 1) := by decide +kernel
set_option maxRecDepth 20000 in
theorem dX9_feast_0 : decode cX9_feast 0 = .ok (.aload_n 0, 1) := by decide +kernel
theorem dX9_feast_1 : decode cX9_feast 1 = .ok (.aload_n 0, 1) := by decide +kernel
theorem dX9_feast_2 : decode cX9_feast 2 = .ok (.iload_n 1, 1) := by decide +kernel
theorem dX9_feast_3 : decode cX9_feast 3 = .ok (.iload_n 2, 1) := by decide +kernel
theorem dX9_feast_4 : decode cX9_feast 4 = .ok (.invokevirtual 304, 3) := by decide +kernel
theorem dX9_feast_7 : decode cX9_feast 7 = .ok (.putfield 67, 3) := by decide +kernel
theorem dX9_feast_10 : decode cX9_feast 10 = .ok (.aload_n 0, 1) := by decide +kernel
theorem dX9_feast_11 : decode cX9_feast 11 = .ok (.getfield 67, 3) := by decide +kernel
theorem dX9_feast_14 : decode cX9_feast 14 = .ok (.ifCond .le 5, 3) := by decide +kernel
theorem dX9_feast_17 : decode cX9_feast 17 = .ok (.iconst 0, 1) := by decide +kernel
theorem dX9_feast_18 : decode cX9_feast 18 = .ok (.ireturn, 1) := by decide +kernel
theorem dX9_feast_19 : decode cX9_feast 19 = .ok (.aload_n 0, 1) := by decide +kernel
theorem dX9_feast_20 : decode cX9_feast 20 = .ok (.iload_n 2, 1) := by decide +kernel
theorem dX9_feast_21 : decode cX9_feast 21 = .ok (.iload_n 1, 1) := by decide +kernel
theorem dX9_feast_22 : decode cX9_feast 22 = .ok (.iconst 1, 1) := by decide +kernel
theorem dX9_feast_23 : decode cX9_feast 23 = .ok (.iadd, 1) := by decide +kernel
theorem dX9_feast_24 : decode cX9_feast 24 = .ok (.invokevirtual 307, 3) := by decide +kernel
theorem dX9_feast_27 : decode cX9_feast 27 = .ok (.aload_n 0, 1) := by decide +kernel
theorem dX9_feast_28 : decode cX9_feast 28 = .ok (.aload_n 0, 1) := by decide +kernel
theorem dX9_feast_29 : decode cX9_feast 29 = .ok (.getfield 32, 3) := by decide +kernel
theorem dX9_feast_32 : decode cX9_feast 32 = .ok (.iload_n 1, 1) := by decide +kernel
theorem dX9_feast_33 : decode cX9_feast 33 = .ok (.iaload, 1) := by decide +kernel
theorem dX9_feast_34 : decode cX9_feast 34 = .ok (.invokevirtual 269, 3) := by decide +kernel
theorem dX9_feast_37 : decode cX9_feast 37 = .ok (.ireturn, 1) := by decide +kernel
theorem dX9_isTaken_0 : decode cX9_isTaken 0 = .ok (.iconst 0, 1) := by decide +kernel
theorem dX9_isTaken_1 : decode cX9_isTaken 1 = .ok (.istore_n 2, 1) := by decide +kernel
theorem dX9_isTaken_2 : decode cX9_isTaken 2 = .ok (.iload_n 2, 1) := by decide +kernel
theorem dX9_isTaken_3 : decode cX9_isTaken 3 = .ok (.aload_n 0, 1) := by decide +kernel
theorem dX9_isTaken_4 : decode cX9_isTaken 4 = .ok (.getfield 278, 3) := by decide +kernel
theorem dX9_isTaken_7 : decode cX9_isTaken 7 = .ok (.if_icmp .ge 21, 3) := by decide +kernel
theorem dX9_isTaken_10 : decode cX9_isTaken 10 = .ok (.aload_n 0, 1) := by decide +kernel
theorem dX9_isTaken_11 : decode cX9_isTaken 11 = .ok (.getfield 35, 3) := by decide +kernel
theorem dX9_isTaken_14 : decode cX9_isTaken 14 = .ok (.iload_n 2, 1) := by decide +kernel
theorem dX9_isTaken_15 : decode cX9_isTaken 15 = .ok (.iaload, 1) := by decide +kernel
theorem dX9_isTaken_16 : decode cX9_isTaken 16 = .ok (.iload_n 1, 1) := by decide +kernel
theorem dX9_isTaken_17 : decode cX9_isTaken 17 = .ok (.if_icmp .ne 5, 3) := by decide +kernel
theorem dX9_isTaken_20 : decode cX9_isTaken 20 = .ok (.iconst 1, 1) := by decide +kernel
theorem dX9_isTaken_21 : decode cX9_isTaken 21 = .ok (.ireturn, 1) := by decide +kernel
theorem dX9_isTaken_22 : decode cX9_isTaken 22 = .ok (.iinc 2 1, 3) := by decide +kernel
theorem dX9_isTaken_25 : decode cX9_isTaken 25 = .ok (.goto (-23), 3) := by decide +kernel
theorem dX9_isTaken_28 : decode cX9_isTaken 28 = .ok (.iconst 0, 1) := by decide +kernel
theorem dX9_isTaken_29 : decode cX9_isTaken 29 = .ok (.ireturn, 1) := by decide +kernel
set_option maxRecDepth 20000 in
theorem dX9_findPlaced_0 : decode cX9_findPlaced 0 = .ok (.aload_n 0, 1) := by decide +kernel
theorem dX9_findPlaced_1 : decode cX9_findPlaced 1 = .ok (.iload_n 1, 1) := by decide +kernel
theorem dX9_findPlaced_2 : decode cX9_findPlaced 2 = .ok (.aload_n 0, 1) := by decide +kernel
theorem dX9_findPlaced_3 : decode cX9_findPlaced 3 = .ok (.getfield 278, 3) := by decide +kernel
theorem dX9_findPlaced_6 : decode cX9_findPlaced 6 = .ok (.invokevirtual 307, 3) := by decide +kernel
theorem dX9_findPlaced_9 : decode cX9_findPlaced 9 = .ok (.iconst 0, 1) := by decide +kernel
theorem dX9_findPlaced_10 : decode cX9_findPlaced 10 = .ok (.istore_n 2, 1) := by decide +kernel
theorem dX9_findPlaced_11 : decode cX9_findPlaced 11 = .ok (.iload_n 2, 1) := by decide +kernel
theorem dX9_findPlaced_12 : decode cX9_findPlaced 12 = .ok (.aload_n 0, 1) := by decide +kernel
theorem dX9_findPlaced_13 : decode cX9_findPlaced 13 = .ok (.getfield 278, 3) := by decide +kernel
theorem dX9_findPlaced_16 : decode cX9_findPlaced 16 = .ok (.if_icmp .ge 18, 3) := by decide +kernel
theorem dX9_findPlaced_19 : decode cX9_findPlaced 19 = .ok (.aload_n 0, 1) := by decide +kernel
theorem dX9_findPlaced_20 : decode cX9_findPlaced 20 = .ok (.getfield 35, 3) := by decide +kernel
theorem dX9_findPlaced_23 : decode cX9_findPlaced 23 = .ok (.iload_n 2, 1) := by decide +kernel
theorem dX9_findPlaced_24 : decode cX9_findPlaced 24 = .ok (.ldc_w 259, 3) := by decide +kernel
theorem dX9_findPlaced_27 : decode cX9_findPlaced 27 = .ok (.iastore, 1) := by decide +kernel
theorem dX9_findPlaced_28 : decode cX9_findPlaced 28 = .ok (.iinc 2 1, 3) := by decide +kernel
theorem dX9_findPlaced_31 : decode cX9_findPlaced 31 = .ok (.goto (-20), 3) := by decide +kernel
theorem dX9_findPlaced_34 : decode cX9_findPlaced 34 = .ok (.bipush 9, 2) := by decide +kernel
theorem dX9_findPlaced_36 : decode cX9_findPlaced 36 = .ok (.istore_n 2, 1) := by decide +kernel
theorem dX9_findPlaced_37 : decode cX9_findPlaced 37 = .ok (.iload_n 2, 1) := by decide +kernel
theorem dX9_findPlaced_38 : decode cX9_findPlaced 38 = .ok (.ifCond .lt 81, 3) := by decide +kernel
theorem dX9_findPlaced_41 : decode cX9_findPlaced 41 = .ok (.iconst 0, 1) := by decide +kernel
theorem dX9_findPlaced_42 : decode cX9_findPlaced 42 = .ok (.istore_n 3, 1) := by decide +kernel
theorem dX9_findPlaced_43 : decode cX9_findPlaced 43 = .ok (.iload_n 3, 1) := by decide +kernel
theorem dX9_findPlaced_44 : decode cX9_findPlaced 44 = .ok (.aload_n 0, 1) := by decide +kernel
theorem dX9_findPlaced_45 : decode cX9_findPlaced 45 = .ok (.getfield 278, 3) := by decide +kernel
theorem dX9_findPlaced_48 : decode cX9_findPlaced 48 = .ok (.if_icmp .ge 65, 3) := by decide +kernel
theorem dX9_findPlaced_51 : decode cX9_findPlaced 51 = .ok (.aload_n 0, 1) := by decide +kernel
theorem dX9_findPlaced_52 : decode cX9_findPlaced 52 = .ok (.iload_n 3, 1) := by decide +kernel
theorem dX9_findPlaced_53 : decode cX9_findPlaced 53 = .ok (.iconst 1, 1) := by decide +kernel
theorem dX9_findPlaced_54 : decode cX9_findPlaced 54 = .ok (.invokevirtual 288, 3) := by decide +kernel
theorem dX9_findPlaced_57 : decode cX9_findPlaced 57 = .ok (.iload_n 2, 1) := by decide +kernel
theorem dX9_findPlaced_58 : decode cX9_findPlaced 58 = .ok (.if_icmp .ne 49, 3) := by decide +kernel
theorem dX9_findPlaced_61 : decode cX9_findPlaced 61 = .ok (.aload_n 0, 1) := by decide +kernel
theorem dX9_findPlaced_62 : decode cX9_findPlaced 62 = .ok (.getfield 32, 3) := by decide +kernel
theorem dX9_findPlaced_65 : decode cX9_findPlaced 65 = .ok (.iload_n 3, 1) := by decide +kernel
theorem dX9_findPlaced_66 : decode cX9_findPlaced 66 = .ok (.iaload, 1) := by decide +kernel
theorem dX9_findPlaced_67 : decode cX9_findPlaced 67 = .ok (.ldc_w 259, 3) := by decide +kernel
theorem dX9_findPlaced_70 : decode cX9_findPlaced 70 = .ok (.if_icmp .ne 6, 3) := by decide +kernel
theorem dX9_findPlaced_73 : decode cX9_findPlaced 73 = .ok (.goto 34, 3) := by decide +kernel
theorem dX9_findPlaced_76 : decode cX9_findPlaced 76 = .ok (.aload_n 0, 1) := by decide +kernel
theorem dX9_findPlaced_77 : decode cX9_findPlaced 77 = .ok (.getfield 32, 3) := by decide +kernel
theorem dX9_findPlaced_80 : decode cX9_findPlaced 80 = .ok (.iload_n 3, 1) := by decide +kernel
theorem dX9_findPlaced_81 : decode cX9_findPlaced 81 = .ok (.iaload, 1) := by decide +kernel
theorem dX9_findPlaced_82 : decode cX9_findPlaced 82 = .ok (.istore 4, 2) := by decide +kernel
theorem dX9_findPlaced_84 : decode cX9_findPlaced 84 = .ok (.aload_n 0, 1) := by decide +kernel
theorem dX9_findPlaced_85 : decode cX9_findPlaced 85 = .ok (.iload 4, 2) := by decide +kernel
theorem dX9_findPlaced_87 : decode cX9_findPlaced 87 = .ok (.invokevirtual 310, 3) := by decide +kernel
theorem dX9_findPlaced_90 : decode cX9_findPlaced 90 = .ok (.ifCond .eq 9, 3) := by decide +kernel
theorem dX9_findPlaced_93 : decode cX9_findPlaced 93 = .ok (.iinc 4 1, 3) := by decide +kernel
theorem dX9_findPlaced_96 : decode cX9_findPlaced 96 = .ok (.goto (-12), 3) := by decide +kernel
theorem dX9_findPlaced_99 : decode cX9_findPlaced 99 = .ok (.aload_n 0, 1) := by decide +kernel
theorem dX9_findPlaced_100 : decode cX9_findPlaced 100 = .ok (.getfield 35, 3) := by decide +kernel
theorem dX9_findPlaced_103 : decode cX9_findPlaced 103 = .ok (.iload_n 3, 1) := by decide +kernel
theorem dX9_findPlaced_104 : decode cX9_findPlaced 104 = .ok (.iload 4, 2) := by decide +kernel
theorem dX9_findPlaced_106 : decode cX9_findPlaced 106 = .ok (.iastore, 1) := by decide +kernel
theorem dX9_findPlaced_107 : decode cX9_findPlaced 107 = .ok (.iinc 3 1, 3) := by decide +kernel
theorem dX9_findPlaced_110 : decode cX9_findPlaced 110 = .ok (.goto (-67), 3) := by decide +kernel
theorem dX9_findPlaced_113 : decode cX9_findPlaced 113 = .ok (.iinc 2 (-1), 3) := by decide +kernel
theorem dX9_findPlaced_116 : decode cX9_findPlaced 116 = .ok (.goto (-79), 3) := by decide +kernel
theorem dX9_findPlaced_119 : decode cX9_findPlaced 119 = .ok (.return_, 1) := by decide +kernel
set_option maxRecDepth 20000 in
theorem dX9_placedFeast_0 : decode cX9_placedFeast 0 = .ok (.aload_n 0, 1) := by decide +kernel
theorem dX9_placedFeast_1 : decode cX9_placedFeast 1 = .ok (.aload_n 0, 1) := by decide +kernel
theorem dX9_placedFeast_2 : decode cX9_placedFeast 2 = .ok (.iload_n 1, 1) := by decide +kernel
theorem dX9_placedFeast_3 : decode cX9_placedFeast 3 = .ok (.iload_n 2, 1) := by decide +kernel
theorem dX9_placedFeast_4 : decode cX9_placedFeast 4 = .ok (.invokevirtual 304, 3) := by decide +kernel
theorem dX9_placedFeast_7 : decode cX9_placedFeast 7 = .ok (.putfield 67, 3) := by decide +kernel
theorem dX9_placedFeast_10 : decode cX9_placedFeast 10 = .ok (.aload_n 0, 1) := by decide +kernel
theorem dX9_placedFeast_11 : decode cX9_placedFeast 11 = .ok (.getfield 67, 3) := by decide +kernel
theorem dX9_placedFeast_14 : decode cX9_placedFeast 14 = .ok (.ifCond .le 5, 3) := by decide +kernel
theorem dX9_placedFeast_17 : decode cX9_placedFeast 17 = .ok (.iconst 0, 1) := by decide +kernel
theorem dX9_placedFeast_18 : decode cX9_placedFeast 18 = .ok (.ireturn, 1) := by decide +kernel
theorem dX9_placedFeast_19 : decode cX9_placedFeast 19 = .ok (.aload_n 0, 1) := by decide +kernel
theorem dX9_placedFeast_20 : decode cX9_placedFeast 20 = .ok (.iload_n 2, 1) := by decide +kernel
theorem dX9_placedFeast_21 : decode cX9_placedFeast 21 = .ok (.invokevirtual 313, 3) := by decide +kernel
theorem dX9_placedFeast_24 : decode cX9_placedFeast 24 = .ok (.aload_n 0, 1) := by decide +kernel
theorem dX9_placedFeast_25 : decode cX9_placedFeast 25 = .ok (.aload_n 0, 1) := by decide +kernel
theorem dX9_placedFeast_26 : decode cX9_placedFeast 26 = .ok (.getfield 35, 3) := by decide +kernel
theorem dX9_placedFeast_29 : decode cX9_placedFeast 29 = .ok (.iload_n 1, 1) := by decide +kernel
theorem dX9_placedFeast_30 : decode cX9_placedFeast 30 = .ok (.iaload, 1) := by decide +kernel
theorem dX9_placedFeast_31 : decode cX9_placedFeast 31 = .ok (.invokevirtual 269, 3) := by decide +kernel
theorem dX9_placedFeast_34 : decode cX9_placedFeast 34 = .ok (.ireturn, 1) := by decide +kernel
set_option maxRecDepth 20000 in
theorem dX9_feastOn_0 : decode cX9_feastOn 0 = .ok (.iload_n 1, 1) := by decide +kernel
theorem dX9_feastOn_1 : decode cX9_feastOn 1 = .ok (.invokestatic 110, 3) := by decide +kernel
theorem dX9_feastOn_4 : decode cX9_feastOn 4 = .ok (.ifCond .eq 10, 3) := by decide +kernel
theorem dX9_feastOn_7 : decode cX9_feastOn 7 = .ok (.iload_n 2, 1) := by decide +kernel
theorem dX9_feastOn_8 : decode cX9_feastOn 8 = .ok (.invokestatic 238, 3) := by decide +kernel
theorem dX9_feastOn_11 : decode cX9_feastOn 11 = .ok (.ifCond .ne 9, 3) := by decide +kernel
theorem dX9_feastOn_14 : decode cX9_feastOn 14 = .ok (.aload_n 0, 1) := by decide +kernel
theorem dX9_feastOn_15 : decode cX9_feastOn 15 = .ok (.iconst 1, 1) := by decide +kernel
theorem dX9_feastOn_16 : decode cX9_feastOn 16 = .ok (.invokevirtual 143, 3) := by decide +kernel
theorem dX9_feastOn_19 : decode cX9_feastOn 19 = .ok (.ireturn, 1) := by decide +kernel
theorem dX9_feastOn_20 : decode cX9_feastOn 20 = .ok (.aload_n 0, 1) := by decide +kernel
theorem dX9_feastOn_21 : decode cX9_feastOn 21 = .ok (.iload_n 1, 1) := by decide +kernel
theorem dX9_feastOn_22 : decode cX9_feastOn 22 = .ok (.invokevirtual 313, 3) := by decide +kernel
theorem dX9_feastOn_25 : decode cX9_feastOn 25 = .ok (.iconst 0, 1) := by decide +kernel
theorem dX9_feastOn_26 : decode cX9_feastOn 26 = .ok (.istore_n 3, 1) := by decide +kernel
theorem dX9_feastOn_27 : decode cX9_feastOn 27 = .ok (.iload_n 3, 1) := by decide +kernel
theorem dX9_feastOn_28 : decode cX9_feastOn 28 = .ok (.aload_n 0, 1) := by decide +kernel
theorem dX9_feastOn_29 : decode cX9_feastOn 29 = .ok (.getfield 278, 3) := by decide +kernel
theorem dX9_feastOn_32 : decode cX9_feastOn 32 = .ok (.if_icmp .ge 29, 3) := by decide +kernel
theorem dX9_feastOn_35 : decode cX9_feastOn 35 = .ok (.aload_n 0, 1) := by decide +kernel
theorem dX9_feastOn_36 : decode cX9_feastOn 36 = .ok (.getfield 35, 3) := by decide +kernel
theorem dX9_feastOn_39 : decode cX9_feastOn 39 = .ok (.iload_n 3, 1) := by decide +kernel
theorem dX9_feastOn_40 : decode cX9_feastOn 40 = .ok (.iaload, 1) := by decide +kernel
theorem dX9_feastOn_41 : decode cX9_feastOn 41 = .ok (.iload_n 2, 1) := by decide +kernel
theorem dX9_feastOn_42 : decode cX9_feastOn 42 = .ok (.if_icmp .eq 6, 3) := by decide +kernel
theorem dX9_feastOn_45 : decode cX9_feastOn 45 = .ok (.goto 10, 3) := by decide +kernel
theorem dX9_feastOn_48 : decode cX9_feastOn 48 = .ok (.aload_n 0, 1) := by decide +kernel
theorem dX9_feastOn_49 : decode cX9_feastOn 49 = .ok (.iconst 0, 1) := by decide +kernel
theorem dX9_feastOn_50 : decode cX9_feastOn 50 = .ok (.putfield 67, 3) := by decide +kernel
theorem dX9_feastOn_53 : decode cX9_feastOn 53 = .ok (.iload_n 3, 1) := by decide +kernel
theorem dX9_feastOn_54 : decode cX9_feastOn 54 = .ok (.ireturn, 1) := by decide +kernel
theorem dX9_feastOn_55 : decode cX9_feastOn 55 = .ok (.iinc 3 1, 3) := by decide +kernel
theorem dX9_feastOn_58 : decode cX9_feastOn 58 = .ok (.goto (-31), 3) := by decide +kernel
theorem dX9_feastOn_61 : decode cX9_feastOn 61 = .ok (.aload_n 0, 1) := by decide +kernel
theorem dX9_feastOn_62 : decode cX9_feastOn 62 = .ok (.iconst 2, 1) := by decide +kernel
theorem dX9_feastOn_63 : decode cX9_feastOn 63 = .ok (.invokevirtual 143, 3) := by decide +kernel
theorem dX9_feastOn_66 : decode cX9_feastOn 66 = .ok (.ireturn, 1) := by decide +kernel
set_option maxRecDepth 20000 in
theorem dX9_meetingYear_0 : decode cX9_meetingYear 0 = .ok (.aload_n 0, 1) := by decide +kernel
theorem dX9_meetingYear_1 : decode cX9_meetingYear 1 = .ok (.iload_n 1, 1) := by decide +kernel
theorem dX9_meetingYear_2 : decode cX9_meetingYear 2 = .ok (.invokevirtual 281, 3) := by decide +kernel
theorem dX9_meetingYear_5 : decode cX9_meetingYear 5 = .ok (.ifCond .eq 11, 3) := by decide +kernel
theorem dX9_meetingYear_8 : decode cX9_meetingYear 8 = .ok (.aload_n 0, 1) := by decide +kernel
theorem dX9_meetingYear_9 : decode cX9_meetingYear 9 = .ok (.iload_n 2, 1) := by decide +kernel
theorem dX9_meetingYear_10 : decode cX9_meetingYear 10 = .ok (.invokevirtual 281, 3) := by decide +kernel
theorem dX9_meetingYear_13 : decode cX9_meetingYear 13 = .ok (.ifCond .ne 9, 3) := by decide +kernel
theorem dX9_meetingYear_16 : decode cX9_meetingYear 16 = .ok (.aload_n 0, 1) := by decide +kernel
theorem dX9_meetingYear_17 : decode cX9_meetingYear 17 = .ok (.iconst 1, 1) := by decide +kernel
theorem dX9_meetingYear_18 : decode cX9_meetingYear 18 = .ok (.invokevirtual 143, 3) := by decide +kernel
theorem dX9_meetingYear_21 : decode cX9_meetingYear 21 = .ok (.ireturn, 1) := by decide +kernel
theorem dX9_meetingYear_22 : decode cX9_meetingYear 22 = .ok (.iload_n 1, 1) := by decide +kernel
theorem dX9_meetingYear_23 : decode cX9_meetingYear 23 = .ok (.iload_n 2, 1) := by decide +kernel
theorem dX9_meetingYear_24 : decode cX9_meetingYear 24 = .ok (.if_icmp .eq 16, 3) := by decide +kernel
theorem dX9_meetingYear_27 : decode cX9_meetingYear 27 = .ok (.iload_n 3, 1) := by decide +kernel
theorem dX9_meetingYear_28 : decode cX9_meetingYear 28 = .ok (.sipush (-2000), 3) := by decide +kernel
theorem dX9_meetingYear_31 : decode cX9_meetingYear 31 = .ok (.sipush 1801, 3) := by decide +kernel
theorem dX9_meetingYear_34 : decode cX9_meetingYear 34 = .ok (.invokestatic 70, 3) := by decide +kernel
theorem dX9_meetingYear_37 : decode cX9_meetingYear 37 = .ok (.ifCond .ne 9, 3) := by decide +kernel
theorem dX9_meetingYear_40 : decode cX9_meetingYear 40 = .ok (.aload_n 0, 1) := by decide +kernel
theorem dX9_meetingYear_41 : decode cX9_meetingYear 41 = .ok (.iconst 2, 1) := by decide +kernel
theorem dX9_meetingYear_42 : decode cX9_meetingYear 42 = .ok (.invokevirtual 143, 3) := by decide +kernel
theorem dX9_meetingYear_45 : decode cX9_meetingYear 45 = .ok (.ireturn, 1) := by decide +kernel
theorem dX9_meetingYear_46 : decode cX9_meetingYear 46 = .ok (.aload_n 0, 1) := by decide +kernel
theorem dX9_meetingYear_47 : decode cX9_meetingYear 47 = .ok (.iconst 0, 1) := by decide +kernel
theorem dX9_meetingYear_48 : decode cX9_meetingYear 48 = .ok (.putfield 67, 3) := by decide +kernel
theorem dX9_meetingYear_51 : decode cX9_meetingYear 51 = .ok (.iload_n 3, 1) := by decide +kernel
theorem dX9_meetingYear_52 : decode cX9_meetingYear 52 = .ok (.istore 4, 2) := by decide +kernel
theorem dX9_meetingYear_54 : decode cX9_meetingYear 54 = .ok (.iload 4, 2) := by decide +kernel
theorem dX9_meetingYear_56 : decode cX9_meetingYear 56 = .ok (.iload_n 3, 1) := by decide +kernel
theorem dX9_meetingYear_57 : decode cX9_meetingYear 57 = .ok (.sipush 200, 3) := by decide +kernel
theorem dX9_meetingYear_60 : decode cX9_meetingYear 60 = .ok (.iadd, 1) := by decide +kernel
theorem dX9_meetingYear_61 : decode cX9_meetingYear 61 = .ok (.if_icmp .ge 57, 3) := by decide +kernel
theorem dX9_meetingYear_64 : decode cX9_meetingYear 64 = .ok (.aload_n 0, 1) := by decide +kernel
theorem dX9_meetingYear_65 : decode cX9_meetingYear 65 = .ok (.iload 4, 2) := by decide +kernel
theorem dX9_meetingYear_67 : decode cX9_meetingYear 67 = .ok (.iload_n 1, 1) := by decide +kernel
theorem dX9_meetingYear_68 : decode cX9_meetingYear 68 = .ok (.iload_n 2, 1) := by decide +kernel
theorem dX9_meetingYear_69 : decode cX9_meetingYear 69 = .ok (.if_icmp .le 7, 3) := by decide +kernel
theorem dX9_meetingYear_72 : decode cX9_meetingYear 72 = .ok (.iload_n 1, 1) := by decide +kernel
theorem dX9_meetingYear_73 : decode cX9_meetingYear 73 = .ok (.goto 4, 3) := by decide +kernel
theorem dX9_meetingYear_76 : decode cX9_meetingYear 76 = .ok (.iload_n 2, 1) := by decide +kernel
theorem dX9_meetingYear_77 : decode cX9_meetingYear 77 = .ok (.iconst 1, 1) := by decide +kernel
theorem dX9_meetingYear_78 : decode cX9_meetingYear 78 = .ok (.iadd, 1) := by decide +kernel
theorem dX9_meetingYear_79 : decode cX9_meetingYear 79 = .ok (.invokevirtual 307, 3) := by decide +kernel
theorem dX9_meetingYear_82 : decode cX9_meetingYear 82 = .ok (.aload_n 0, 1) := by decide +kernel
theorem dX9_meetingYear_83 : decode cX9_meetingYear 83 = .ok (.getfield 32, 3) := by decide +kernel
theorem dX9_meetingYear_86 : decode cX9_meetingYear 86 = .ok (.iload_n 1, 1) := by decide +kernel
theorem dX9_meetingYear_87 : decode cX9_meetingYear 87 = .ok (.iaload, 1) := by decide +kernel
theorem dX9_meetingYear_88 : decode cX9_meetingYear 88 = .ok (.ldc_w 259, 3) := by decide +kernel
theorem dX9_meetingYear_91 : decode cX9_meetingYear 91 = .ok (.if_icmp .eq 21, 3) := by decide +kernel
theorem dX9_meetingYear_94 : decode cX9_meetingYear 94 = .ok (.aload_n 0, 1) := by decide +kernel
theorem dX9_meetingYear_95 : decode cX9_meetingYear 95 = .ok (.getfield 32, 3) := by decide +kernel
theorem dX9_meetingYear_98 : decode cX9_meetingYear 98 = .ok (.iload_n 1, 1) := by decide +kernel
theorem dX9_meetingYear_99 : decode cX9_meetingYear 99 = .ok (.iaload, 1) := by decide +kernel
theorem dX9_meetingYear_100 : decode cX9_meetingYear 100 = .ok (.aload_n 0, 1) := by decide +kernel
theorem dX9_meetingYear_101 : decode cX9_meetingYear 101 = .ok (.getfield 32, 3) := by decide +kernel
theorem dX9_meetingYear_104 : decode cX9_meetingYear 104 = .ok (.iload_n 2, 1) := by decide +kernel
theorem dX9_meetingYear_105 : decode cX9_meetingYear 105 = .ok (.iaload, 1) := by decide +kernel
theorem dX9_meetingYear_106 : decode cX9_meetingYear 106 = .ok (.if_icmp .ne 6, 3) := by decide +kernel
theorem dX9_meetingYear_109 : decode cX9_meetingYear 109 = .ok (.iload 4, 2) := by decide +kernel
theorem dX9_meetingYear_111 : decode cX9_meetingYear 111 = .ok (.ireturn, 1) := by decide +kernel
theorem dX9_meetingYear_112 : decode cX9_meetingYear 112 = .ok (.iinc 4 1, 3) := by decide +kernel
theorem dX9_meetingYear_115 : decode cX9_meetingYear 115 = .ok (.goto (-61), 3) := by decide +kernel
theorem dX9_meetingYear_118 : decode cX9_meetingYear 118 = .ok (.aload_n 0, 1) := by decide +kernel
theorem dX9_meetingYear_119 : decode cX9_meetingYear 119 = .ok (.iconst 3, 1) := by decide +kernel
theorem dX9_meetingYear_120 : decode cX9_meetingYear 120 = .ok (.invokevirtual 143, 3) := by decide +kernel
theorem dX9_meetingYear_123 : decode cX9_meetingYear 123 = .ok (.ireturn, 1) := by decide +kernel
theorem dX9_comesReading_0 : decode cX9_comesReading 0 = .ok (.aload_n 0, 1) := by decide +kernel
theorem dX9_comesReading_1 : decode cX9_comesReading 1 = .ok (.getfield 316, 3) := by decide +kernel
theorem dX9_comesReading_4 : decode cX9_comesReading 4 = .ok (.istore 4, 2) := by decide +kernel
theorem dX9_comesReading_6 : decode cX9_comesReading 6 = .ok (.iload 4, 2) := by decide +kernel
theorem dX9_comesReading_8 : decode cX9_comesReading 8 = .ok (.ifCond .le 70, 3) := by decide +kernel
theorem dX9_comesReading_11 : decode cX9_comesReading 11 = .ok (.aload_n 0, 1) := by decide +kernel
theorem dX9_comesReading_12 : decode cX9_comesReading 12 = .ok (.getfield 44, 3) := by decide +kernel
theorem dX9_comesReading_15 : decode cX9_comesReading 15 = .ok (.iload 4, 2) := by decide +kernel
theorem dX9_comesReading_17 : decode cX9_comesReading 17 = .ok (.iconst 1, 1) := by decide +kernel
theorem dX9_comesReading_18 : decode cX9_comesReading 18 = .ok (.isub, 1) := by decide +kernel
theorem dX9_comesReading_19 : decode cX9_comesReading 19 = .ok (.iaload, 1) := by decide +kernel
theorem dX9_comesReading_20 : decode cX9_comesReading 20 = .ok (.iload_n 3, 1) := by decide +kernel
theorem dX9_comesReading_21 : decode cX9_comesReading 21 = .ok (.if_icmp .le 57, 3) := by decide +kernel
theorem dX9_comesReading_24 : decode cX9_comesReading 24 = .ok (.aload_n 0, 1) := by decide +kernel
theorem dX9_comesReading_25 : decode cX9_comesReading 25 = .ok (.getfield 38, 3) := by decide +kernel
theorem dX9_comesReading_28 : decode cX9_comesReading 28 = .ok (.iload 4, 2) := by decide +kernel
theorem dX9_comesReading_30 : decode cX9_comesReading 30 = .ok (.aload_n 0, 1) := by decide +kernel
theorem dX9_comesReading_31 : decode cX9_comesReading 31 = .ok (.getfield 38, 3) := by decide +kernel
theorem dX9_comesReading_34 : decode cX9_comesReading 34 = .ok (.iload 4, 2) := by decide +kernel
theorem dX9_comesReading_36 : decode cX9_comesReading 36 = .ok (.iconst 1, 1) := by decide +kernel
theorem dX9_comesReading_37 : decode cX9_comesReading 37 = .ok (.isub, 1) := by decide +kernel
theorem dX9_comesReading_38 : decode cX9_comesReading 38 = .ok (.iaload, 1) := by decide +kernel
theorem dX9_comesReading_39 : decode cX9_comesReading 39 = .ok (.iastore, 1) := by decide +kernel
theorem dX9_comesReading_40 : decode cX9_comesReading 40 = .ok (.aload_n 0, 1) := by decide +kernel
theorem dX9_comesReading_41 : decode cX9_comesReading 41 = .ok (.getfield 41, 3) := by decide +kernel
theorem dX9_comesReading_44 : decode cX9_comesReading 44 = .ok (.iload 4, 2) := by decide +kernel
theorem dX9_comesReading_46 : decode cX9_comesReading 46 = .ok (.aload_n 0, 1) := by decide +kernel
theorem dX9_comesReading_47 : decode cX9_comesReading 47 = .ok (.getfield 41, 3) := by decide +kernel
theorem dX9_comesReading_50 : decode cX9_comesReading 50 = .ok (.iload 4, 2) := by decide +kernel
theorem dX9_comesReading_52 : decode cX9_comesReading 52 = .ok (.iconst 1, 1) := by decide +kernel
theorem dX9_comesReading_53 : decode cX9_comesReading 53 = .ok (.isub, 1) := by decide +kernel
theorem dX9_comesReading_54 : decode cX9_comesReading 54 = .ok (.iaload, 1) := by decide +kernel
theorem dX9_comesReading_55 : decode cX9_comesReading 55 = .ok (.iastore, 1) := by decide +kernel
theorem dX9_comesReading_56 : decode cX9_comesReading 56 = .ok (.aload_n 0, 1) := by decide +kernel
theorem dX9_comesReading_57 : decode cX9_comesReading 57 = .ok (.getfield 44, 3) := by decide +kernel
theorem dX9_comesReading_60 : decode cX9_comesReading 60 = .ok (.iload 4, 2) := by decide +kernel
theorem dX9_comesReading_62 : decode cX9_comesReading 62 = .ok (.aload_n 0, 1) := by decide +kernel
theorem dX9_comesReading_63 : decode cX9_comesReading 63 = .ok (.getfield 44, 3) := by decide +kernel
theorem dX9_comesReading_66 : decode cX9_comesReading 66 = .ok (.iload 4, 2) := by decide +kernel
theorem dX9_comesReading_68 : decode cX9_comesReading 68 = .ok (.iconst 1, 1) := by decide +kernel
theorem dX9_comesReading_69 : decode cX9_comesReading 69 = .ok (.isub, 1) := by decide +kernel
theorem dX9_comesReading_70 : decode cX9_comesReading 70 = .ok (.iaload, 1) := by decide +kernel
theorem dX9_comesReading_71 : decode cX9_comesReading 71 = .ok (.iastore, 1) := by decide +kernel
theorem dX9_comesReading_72 : decode cX9_comesReading 72 = .ok (.iinc 4 (-1), 3) := by decide +kernel
theorem dX9_comesReading_75 : decode cX9_comesReading 75 = .ok (.goto (-69), 3) := by decide +kernel
theorem dX9_comesReading_78 : decode cX9_comesReading 78 = .ok (.aload_n 0, 1) := by decide +kernel
theorem dX9_comesReading_79 : decode cX9_comesReading 79 = .ok (.getfield 38, 3) := by decide +kernel
theorem dX9_comesReading_82 : decode cX9_comesReading 82 = .ok (.iload 4, 2) := by decide +kernel
theorem dX9_comesReading_84 : decode cX9_comesReading 84 = .ok (.iload_n 1, 1) := by decide +kernel
theorem dX9_comesReading_85 : decode cX9_comesReading 85 = .ok (.iastore, 1) := by decide +kernel
theorem dX9_comesReading_86 : decode cX9_comesReading 86 = .ok (.aload_n 0, 1) := by decide +kernel
theorem dX9_comesReading_87 : decode cX9_comesReading 87 = .ok (.getfield 41, 3) := by decide +kernel
theorem dX9_comesReading_90 : decode cX9_comesReading 90 = .ok (.iload 4, 2) := by decide +kernel
theorem dX9_comesReading_92 : decode cX9_comesReading 92 = .ok (.iload_n 2, 1) := by decide +kernel
theorem dX9_comesReading_93 : decode cX9_comesReading 93 = .ok (.iastore, 1) := by decide +kernel
theorem dX9_comesReading_94 : decode cX9_comesReading 94 = .ok (.aload_n 0, 1) := by decide +kernel
theorem dX9_comesReading_95 : decode cX9_comesReading 95 = .ok (.getfield 44, 3) := by decide +kernel
theorem dX9_comesReading_98 : decode cX9_comesReading 98 = .ok (.iload 4, 2) := by decide +kernel
theorem dX9_comesReading_100 : decode cX9_comesReading 100 = .ok (.iload_n 3, 1) := by decide +kernel
theorem dX9_comesReading_101 : decode cX9_comesReading 101 = .ok (.iastore, 1) := by decide +kernel
theorem dX9_comesReading_102 : decode cX9_comesReading 102 = .ok (.aload_n 0, 1) := by decide +kernel
theorem dX9_comesReading_103 : decode cX9_comesReading 103 = .ok (.dup, 1) := by decide +kernel
theorem dX9_comesReading_104 : decode cX9_comesReading 104 = .ok (.getfield 316, 3) := by decide +kernel
theorem dX9_comesReading_107 : decode cX9_comesReading 107 = .ok (.iconst 1, 1) := by decide +kernel
theorem dX9_comesReading_108 : decode cX9_comesReading 108 = .ok (.iadd, 1) := by decide +kernel
theorem dX9_comesReading_109 : decode cX9_comesReading 109 = .ok (.putfield 316, 3) := by decide +kernel
theorem dX9_comesReading_112 : decode cX9_comesReading 112 = .ok (.return_, 1) := by decide +kernel
set_option maxRecDepth 20000 in
theorem dX9_readings_0 : decode cX9_readings 0 = .ok (.aload_n 0, 1) := by decide +kernel
theorem dX9_readings_1 : decode cX9_readings 1 = .ok (.iconst 0, 1) := by decide +kernel
theorem dX9_readings_2 : decode cX9_readings 2 = .ok (.putfield 67, 3) := by decide +kernel
theorem dX9_readings_5 : decode cX9_readings 5 = .ok (.aload_n 0, 1) := by decide +kernel
theorem dX9_readings_6 : decode cX9_readings 6 = .ok (.iconst 0, 1) := by decide +kernel
theorem dX9_readings_7 : decode cX9_readings 7 = .ok (.putfield 316, 3) := by decide +kernel
theorem dX9_readings_10 : decode cX9_readings 10 = .ok (.iconst 0, 1) := by decide +kernel
theorem dX9_readings_11 : decode cX9_readings 11 = .ok (.istore 4, 2) := by decide +kernel
theorem dX9_readings_13 : decode cX9_readings 13 = .ok (.iload 4, 2) := by decide +kernel
theorem dX9_readings_15 : decode cX9_readings 15 = .ok (.aload_n 0, 1) := by decide +kernel
theorem dX9_readings_16 : decode cX9_readings 16 = .ok (.getfield 64, 3) := by decide +kernel
theorem dX9_readings_19 : decode cX9_readings 19 = .ok (.if_icmp .ge 107, 3) := by decide +kernel
theorem dX9_readings_22 : decode cX9_readings 22 = .ok (.iconst 0, 1) := by decide +kernel
theorem dX9_readings_23 : decode cX9_readings 23 = .ok (.istore 5, 2) := by decide +kernel
theorem dX9_readings_25 : decode cX9_readings 25 = .ok (.iload 5, 2) := by decide +kernel
theorem dX9_readings_27 : decode cX9_readings 27 = .ok (.iconst 3, 1) := by decide +kernel
theorem dX9_readings_28 : decode cX9_readings 28 = .ok (.if_icmp .ge 92, 3) := by decide +kernel
theorem dX9_readings_31 : decode cX9_readings 31 = .ok (.iload 5, 2) := by decide +kernel
theorem dX9_readings_33 : decode cX9_readings 33 = .ok (.iconst 2, 1) := by decide +kernel
theorem dX9_readings_34 : decode cX9_readings 34 = .ok (.if_icmp .ne 7, 3) := by decide +kernel
theorem dX9_readings_37 : decode cX9_readings 37 = .ok (.iload_n 1, 1) := by decide +kernel
theorem dX9_readings_38 : decode cX9_readings 38 = .ok (.goto 4, 3) := by decide +kernel
theorem dX9_readings_41 : decode cX9_readings 41 = .ok (.iload_n 3, 1) := by decide +kernel
theorem dX9_readings_42 : decode cX9_readings 42 = .ok (.istore 6, 2) := by decide +kernel
theorem dX9_readings_44 : decode cX9_readings 44 = .ok (.iload 5, 2) := by decide +kernel
theorem dX9_readings_46 : decode cX9_readings 46 = .ok (.iconst 1, 1) := by decide +kernel
theorem dX9_readings_47 : decode cX9_readings 47 = .ok (.if_icmp .ne 7, 3) := by decide +kernel
theorem dX9_readings_50 : decode cX9_readings 50 = .ok (.iload_n 1, 1) := by decide +kernel
theorem dX9_readings_51 : decode cX9_readings 51 = .ok (.goto 4, 3) := by decide +kernel
theorem dX9_readings_54 : decode cX9_readings 54 = .ok (.iload_n 2, 1) := by decide +kernel
theorem dX9_readings_55 : decode cX9_readings 55 = .ok (.istore 7, 2) := by decide +kernel
theorem dX9_readings_57 : decode cX9_readings 57 = .ok (.iload 5, 2) := by decide +kernel
theorem dX9_readings_59 : decode cX9_readings 59 = .ok (.ifCond .ne 7, 3) := by decide +kernel
theorem dX9_readings_62 : decode cX9_readings 62 = .ok (.iload_n 1, 1) := by decide +kernel
theorem dX9_readings_63 : decode cX9_readings 63 = .ok (.goto 14, 3) := by decide +kernel
theorem dX9_readings_66 : decode cX9_readings 66 = .ok (.iload 5, 2) := by decide +kernel
theorem dX9_readings_68 : decode cX9_readings 68 = .ok (.iconst 1, 1) := by decide +kernel
theorem dX9_readings_69 : decode cX9_readings 69 = .ok (.if_icmp .ne 7, 3) := by decide +kernel
theorem dX9_readings_72 : decode cX9_readings 72 = .ok (.iload_n 2, 1) := by decide +kernel
theorem dX9_readings_73 : decode cX9_readings 73 = .ok (.goto 4, 3) := by decide +kernel
theorem dX9_readings_76 : decode cX9_readings 76 = .ok (.iload_n 3, 1) := by decide +kernel
theorem dX9_readings_77 : decode cX9_readings 77 = .ok (.istore 8, 2) := by decide +kernel
theorem dX9_readings_79 : decode cX9_readings 79 = .ok (.aload_n 0, 1) := by decide +kernel
theorem dX9_readings_80 : decode cX9_readings 80 = .ok (.iload 4, 2) := by decide +kernel
theorem dX9_readings_82 : decode cX9_readings 82 = .ok (.iload 6, 2) := by decide +kernel
theorem dX9_readings_84 : decode cX9_readings 84 = .ok (.iload 7, 2) := by decide +kernel
theorem dX9_readings_86 : decode cX9_readings 86 = .ok (.iload 8, 2) := by decide +kernel
theorem dX9_readings_88 : decode cX9_readings 88 = .ok (.invokevirtual 241, 3) := by decide +kernel
theorem dX9_readings_91 : decode cX9_readings 91 = .ok (.ifCond .eq 23, 3) := by decide +kernel
theorem dX9_readings_94 : decode cX9_readings 94 = .ok (.aload_n 0, 1) := by decide +kernel
theorem dX9_readings_95 : decode cX9_readings 95 = .ok (.iload 4, 2) := by decide +kernel
theorem dX9_readings_97 : decode cX9_readings 97 = .ok (.iload 5, 2) := by decide +kernel
theorem dX9_readings_99 : decode cX9_readings 99 = .ok (.aload_n 0, 1) := by decide +kernel
theorem dX9_readings_100 : decode cX9_readings 100 = .ok (.iload 4, 2) := by decide +kernel
theorem dX9_readings_102 : decode cX9_readings 102 = .ok (.iload 6, 2) := by decide +kernel
theorem dX9_readings_104 : decode cX9_readings 104 = .ok (.iload 7, 2) := by decide +kernel
theorem dX9_readings_106 : decode cX9_readings 106 = .ok (.iload 8, 2) := by decide +kernel
theorem dX9_readings_108 : decode cX9_readings 108 = .ok (.invokevirtual 234, 3) := by decide +kernel
theorem dX9_readings_111 : decode cX9_readings 111 = .ok (.invokevirtual 319, 3) := by decide +kernel
theorem dX9_readings_114 : decode cX9_readings 114 = .ok (.iinc 5 1, 3) := by decide +kernel
theorem dX9_readings_117 : decode cX9_readings 117 = .ok (.goto (-92), 3) := by decide +kernel
theorem dX9_readings_120 : decode cX9_readings 120 = .ok (.iinc 4 1, 3) := by decide +kernel
theorem dX9_readings_123 : decode cX9_readings 123 = .ok (.goto (-110), 3) := by decide +kernel
theorem dX9_readings_126 : decode cX9_readings 126 = .ok (.aload_n 0, 1) := by decide +kernel
theorem dX9_readings_127 : decode cX9_readings 127 = .ok (.getfield 316, 3) := by decide +kernel
theorem dX9_readings_130 : decode cX9_readings 130 = .ok (.ireturn, 1) := by decide +kernel
set_option maxRecDepth 20000 in
theorem dX9_reading_0 : decode cX9_reading 0 = .ok (.iload_n 1, 1) := by decide +kernel
theorem dX9_reading_1 : decode cX9_reading 1 = .ok (.iconst 0, 1) := by decide +kernel
theorem dX9_reading_2 : decode cX9_reading 2 = .ok (.aload_n 0, 1) := by decide +kernel
theorem dX9_reading_3 : decode cX9_reading 3 = .ok (.getfield 316, 3) := by decide +kernel
theorem dX9_reading_6 : decode cX9_reading 6 = .ok (.iconst 1, 1) := by decide +kernel
theorem dX9_reading_7 : decode cX9_reading 7 = .ok (.isub, 1) := by decide +kernel
theorem dX9_reading_8 : decode cX9_reading 8 = .ok (.invokestatic 70, 3) := by decide +kernel
theorem dX9_reading_11 : decode cX9_reading 11 = .ok (.ifCond .ne 9, 3) := by decide +kernel
theorem dX9_reading_14 : decode cX9_reading 14 = .ok (.aload_n 0, 1) := by decide +kernel
theorem dX9_reading_15 : decode cX9_reading 15 = .ok (.iconst 1, 1) := by decide +kernel
theorem dX9_reading_16 : decode cX9_reading 16 = .ok (.invokevirtual 143, 3) := by decide +kernel
theorem dX9_reading_19 : decode cX9_reading 19 = .ok (.ireturn, 1) := by decide +kernel
theorem dX9_reading_20 : decode cX9_reading 20 = .ok (.iload_n 2, 1) := by decide +kernel
theorem dX9_reading_21 : decode cX9_reading 21 = .ok (.iconst 0, 1) := by decide +kernel
theorem dX9_reading_22 : decode cX9_reading 22 = .ok (.iconst 2, 1) := by decide +kernel
theorem dX9_reading_23 : decode cX9_reading 23 = .ok (.invokestatic 70, 3) := by decide +kernel
theorem dX9_reading_26 : decode cX9_reading 26 = .ok (.ifCond .ne 9, 3) := by decide +kernel
theorem dX9_reading_29 : decode cX9_reading 29 = .ok (.aload_n 0, 1) := by decide +kernel
theorem dX9_reading_30 : decode cX9_reading 30 = .ok (.iconst 2, 1) := by decide +kernel
theorem dX9_reading_31 : decode cX9_reading 31 = .ok (.invokevirtual 143, 3) := by decide +kernel
theorem dX9_reading_34 : decode cX9_reading 34 = .ok (.ireturn, 1) := by decide +kernel
theorem dX9_reading_35 : decode cX9_reading 35 = .ok (.aload_n 0, 1) := by decide +kernel
theorem dX9_reading_36 : decode cX9_reading 36 = .ok (.iconst 0, 1) := by decide +kernel
theorem dX9_reading_37 : decode cX9_reading 37 = .ok (.putfield 67, 3) := by decide +kernel
theorem dX9_reading_40 : decode cX9_reading 40 = .ok (.iload_n 2, 1) := by decide +kernel
theorem dX9_reading_41 : decode cX9_reading 41 = .ok (.ifCond .ne 12, 3) := by decide +kernel
theorem dX9_reading_44 : decode cX9_reading 44 = .ok (.aload_n 0, 1) := by decide +kernel
theorem dX9_reading_45 : decode cX9_reading 45 = .ok (.getfield 38, 3) := by decide +kernel
theorem dX9_reading_48 : decode cX9_reading 48 = .ok (.iload_n 1, 1) := by decide +kernel
theorem dX9_reading_49 : decode cX9_reading 49 = .ok (.iaload, 1) := by decide +kernel
theorem dX9_reading_50 : decode cX9_reading 50 = .ok (.goto 23, 3) := by decide +kernel
theorem dX9_reading_53 : decode cX9_reading 53 = .ok (.iload_n 2, 1) := by decide +kernel
theorem dX9_reading_54 : decode cX9_reading 54 = .ok (.iconst 1, 1) := by decide +kernel
theorem dX9_reading_55 : decode cX9_reading 55 = .ok (.if_icmp .ne 12, 3) := by decide +kernel
theorem dX9_reading_58 : decode cX9_reading 58 = .ok (.aload_n 0, 1) := by decide +kernel
theorem dX9_reading_59 : decode cX9_reading 59 = .ok (.getfield 41, 3) := by decide +kernel
theorem dX9_reading_62 : decode cX9_reading 62 = .ok (.iload_n 1, 1) := by decide +kernel
theorem dX9_reading_63 : decode cX9_reading 63 = .ok (.iaload, 1) := by decide +kernel
theorem dX9_reading_64 : decode cX9_reading 64 = .ok (.goto 9, 3) := by decide +kernel
theorem dX9_reading_67 : decode cX9_reading 67 = .ok (.aload_n 0, 1) := by decide +kernel
theorem dX9_reading_68 : decode cX9_reading 68 = .ok (.getfield 44, 3) := by decide +kernel
theorem dX9_reading_71 : decode cX9_reading 71 = .ok (.iload_n 1, 1) := by decide +kernel
theorem dX9_reading_72 : decode cX9_reading 72 = .ok (.iaload, 1) := by decide +kernel
theorem dX9_reading_73 : decode cX9_reading 73 = .ok (.ireturn, 1) := by decide +kernel
theorem dX9_differentDays_0 : decode cX9_differentDays 0 = .ok (.aload_n 0, 1) := by decide +kernel
theorem dX9_differentDays_1 : decode cX9_differentDays 1 = .ok (.iconst 0, 1) := by decide +kernel
theorem dX9_differentDays_2 : decode cX9_differentDays 2 = .ok (.putfield 67, 3) := by decide +kernel
theorem dX9_differentDays_5 : decode cX9_differentDays 5 = .ok (.iconst 0, 1) := by decide +kernel
theorem dX9_differentDays_6 : decode cX9_differentDays 6 = .ok (.istore_n 1, 1) := by decide +kernel
theorem dX9_differentDays_7 : decode cX9_differentDays 7 = .ok (.iconst 0, 1) := by decide +kernel
theorem dX9_differentDays_8 : decode cX9_differentDays 8 = .ok (.istore_n 2, 1) := by decide +kernel
theorem dX9_differentDays_9 : decode cX9_differentDays 9 = .ok (.iload_n 2, 1) := by decide +kernel
theorem dX9_differentDays_10 : decode cX9_differentDays 10 = .ok (.aload_n 0, 1) := by decide +kernel
theorem dX9_differentDays_11 : decode cX9_differentDays 11 = .ok (.getfield 316, 3) := by decide +kernel
theorem dX9_differentDays_14 : decode cX9_differentDays 14 = .ok (.if_icmp .ge 38, 3) := by decide +kernel
theorem dX9_differentDays_17 : decode cX9_differentDays 17 = .ok (.iload_n 1, 1) := by decide +kernel
theorem dX9_differentDays_18 : decode cX9_differentDays 18 = .ok (.iload_n 2, 1) := by decide +kernel
theorem dX9_differentDays_19 : decode cX9_differentDays 19 = .ok (.ifCond .eq 20, 3) := by decide +kernel
theorem dX9_differentDays_22 : decode cX9_differentDays 22 = .ok (.aload_n 0, 1) := by decide +kernel
theorem dX9_differentDays_23 : decode cX9_differentDays 23 = .ok (.getfield 44, 3) := by decide +kernel
theorem dX9_differentDays_26 : decode cX9_differentDays 26 = .ok (.iload_n 2, 1) := by decide +kernel
theorem dX9_differentDays_27 : decode cX9_differentDays 27 = .ok (.iaload, 1) := by decide +kernel
theorem dX9_differentDays_28 : decode cX9_differentDays 28 = .ok (.aload_n 0, 1) := by decide +kernel
theorem dX9_differentDays_29 : decode cX9_differentDays 29 = .ok (.getfield 44, 3) := by decide +kernel
theorem dX9_differentDays_32 : decode cX9_differentDays 32 = .ok (.iload_n 2, 1) := by decide +kernel
theorem dX9_differentDays_33 : decode cX9_differentDays 33 = .ok (.iconst 1, 1) := by decide +kernel
theorem dX9_differentDays_34 : decode cX9_differentDays 34 = .ok (.isub, 1) := by decide +kernel
theorem dX9_differentDays_35 : decode cX9_differentDays 35 = .ok (.iaload, 1) := by decide +kernel
theorem dX9_differentDays_36 : decode cX9_differentDays 36 = .ok (.if_icmp .eq 7, 3) := by decide +kernel
theorem dX9_differentDays_39 : decode cX9_differentDays 39 = .ok (.iconst 1, 1) := by decide +kernel
theorem dX9_differentDays_40 : decode cX9_differentDays 40 = .ok (.goto 4, 3) := by decide +kernel
theorem dX9_differentDays_43 : decode cX9_differentDays 43 = .ok (.iconst 0, 1) := by decide +kernel
theorem dX9_differentDays_44 : decode cX9_differentDays 44 = .ok (.iadd, 1) := by decide +kernel
theorem dX9_differentDays_45 : decode cX9_differentDays 45 = .ok (.istore_n 1, 1) := by decide +kernel
theorem dX9_differentDays_46 : decode cX9_differentDays 46 = .ok (.iinc 2 1, 3) := by decide +kernel
theorem dX9_differentDays_49 : decode cX9_differentDays 49 = .ok (.goto (-40), 3) := by decide +kernel
theorem dX9_differentDays_52 : decode cX9_differentDays 52 = .ok (.iload_n 1, 1) := by decide +kernel
theorem dX9_differentDays_53 : decode cX9_differentDays 53 = .ok (.ireturn, 1) := by decide +kernel
theorem dX9_prints_0 : decode cX9_prints 0 = .ok (.aload_n 0, 1) := by decide +kernel
theorem dX9_prints_1 : decode cX9_prints 1 = .ok (.getfield 47, 3) := by decide +kernel
theorem dX9_prints_4 : decode cX9_prints 4 = .ok (.aload_n 0, 1) := by decide +kernel
theorem dX9_prints_5 : decode cX9_prints 5 = .ok (.getfield 323, 3) := by decide +kernel
theorem dX9_prints_8 : decode cX9_prints 8 = .ok (.iload_n 1, 1) := by decide +kernel
theorem dX9_prints_9 : decode cX9_prints 9 = .ok (.castore, 1) := by decide +kernel
theorem dX9_prints_10 : decode cX9_prints 10 = .ok (.aload_n 0, 1) := by decide +kernel
theorem dX9_prints_11 : decode cX9_prints 11 = .ok (.dup, 1) := by decide +kernel
theorem dX9_prints_12 : decode cX9_prints 12 = .ok (.getfield 323, 3) := by decide +kernel
theorem dX9_prints_15 : decode cX9_prints 15 = .ok (.iconst 1, 1) := by decide +kernel
theorem dX9_prints_16 : decode cX9_prints 16 = .ok (.iadd, 1) := by decide +kernel
theorem dX9_prints_17 : decode cX9_prints 17 = .ok (.putfield 323, 3) := by decide +kernel
theorem dX9_prints_20 : decode cX9_prints 20 = .ok (.return_, 1) := by decide +kernel
set_option maxRecDepth 20000 in
theorem dX9_printsNumber_0 : decode cX9_printsNumber 0 = .ok (.iconst 1, 1) := by decide +kernel
theorem dX9_printsNumber_1 : decode cX9_printsNumber 1 = .ok (.istore_n 2, 1) := by decide +kernel
theorem dX9_printsNumber_2 : decode cX9_printsNumber 2 = .ok (.iload_n 1, 1) := by decide +kernel
theorem dX9_printsNumber_3 : decode cX9_printsNumber 3 = .ok (.iload_n 2, 1) := by decide +kernel
theorem dX9_printsNumber_4 : decode cX9_printsNumber 4 = .ok (.idiv, 1) := by decide +kernel
theorem dX9_printsNumber_5 : decode cX9_printsNumber 5 = .ok (.bipush 9, 2) := by decide +kernel
theorem dX9_printsNumber_7 : decode cX9_printsNumber 7 = .ok (.if_icmp .le 11, 3) := by decide +kernel
theorem dX9_printsNumber_10 : decode cX9_printsNumber 10 = .ok (.iload_n 2, 1) := by decide +kernel
theorem dX9_printsNumber_11 : decode cX9_printsNumber 11 = .ok (.bipush 10, 2) := by decide +kernel
theorem dX9_printsNumber_13 : decode cX9_printsNumber 13 = .ok (.imul, 1) := by decide +kernel
theorem dX9_printsNumber_14 : decode cX9_printsNumber 14 = .ok (.istore_n 2, 1) := by decide +kernel
theorem dX9_printsNumber_15 : decode cX9_printsNumber 15 = .ok (.goto (-13), 3) := by decide +kernel
theorem dX9_printsNumber_18 : decode cX9_printsNumber 18 = .ok (.iload_n 2, 1) := by decide +kernel
theorem dX9_printsNumber_19 : decode cX9_printsNumber 19 = .ok (.ifCond .le 25, 3) := by decide +kernel
theorem dX9_printsNumber_22 : decode cX9_printsNumber 22 = .ok (.aload_n 0, 1) := by decide +kernel
theorem dX9_printsNumber_23 : decode cX9_printsNumber 23 = .ok (.bipush 48, 2) := by decide +kernel
theorem dX9_printsNumber_25 : decode cX9_printsNumber 25 = .ok (.iload_n 1, 1) := by decide +kernel
theorem dX9_printsNumber_26 : decode cX9_printsNumber 26 = .ok (.iload_n 2, 1) := by decide +kernel
theorem dX9_printsNumber_27 : decode cX9_printsNumber 27 = .ok (.idiv, 1) := by decide +kernel
theorem dX9_printsNumber_28 : decode cX9_printsNumber 28 = .ok (.bipush 10, 2) := by decide +kernel
theorem dX9_printsNumber_30 : decode cX9_printsNumber 30 = .ok (.irem, 1) := by decide +kernel
theorem dX9_printsNumber_31 : decode cX9_printsNumber 31 = .ok (.iadd, 1) := by decide +kernel
theorem dX9_printsNumber_32 : decode cX9_printsNumber 32 = .ok (.i2c, 1) := by decide +kernel
theorem dX9_printsNumber_33 : decode cX9_printsNumber 33 = .ok (.invokevirtual 326, 3) := by decide +kernel
theorem dX9_printsNumber_36 : decode cX9_printsNumber 36 = .ok (.iload_n 2, 1) := by decide +kernel
theorem dX9_printsNumber_37 : decode cX9_printsNumber 37 = .ok (.bipush 10, 2) := by decide +kernel
theorem dX9_printsNumber_39 : decode cX9_printsNumber 39 = .ok (.idiv, 1) := by decide +kernel
theorem dX9_printsNumber_40 : decode cX9_printsNumber 40 = .ok (.istore_n 2, 1) := by decide +kernel
theorem dX9_printsNumber_41 : decode cX9_printsNumber 41 = .ok (.goto (-23), 3) := by decide +kernel
theorem dX9_printsNumber_44 : decode cX9_printsNumber 44 = .ok (.return_, 1) := by decide +kernel
set_option maxRecDepth 20000 in
theorem dX9_write_0 : decode cX9_write 0 = .ok (.aload_n 0, 1) := by decide +kernel
theorem dX9_write_1 : decode cX9_write 1 = .ok (.iload_n 1, 1) := by decide +kernel
theorem dX9_write_2 : decode cX9_write 2 = .ok (.invokevirtual 221, 3) := by decide +kernel
theorem dX9_write_5 : decode cX9_write 5 = .ok (.ifCond .ne 9, 3) := by decide +kernel
theorem dX9_write_8 : decode cX9_write 8 = .ok (.aload_n 0, 1) := by decide +kernel
theorem dX9_write_9 : decode cX9_write 9 = .ok (.iconst 1, 1) := by decide +kernel
theorem dX9_write_10 : decode cX9_write 10 = .ok (.invokevirtual 143, 3) := by decide +kernel
theorem dX9_write_13 : decode cX9_write 13 = .ok (.ireturn, 1) := by decide +kernel
theorem dX9_write_14 : decode cX9_write 14 = .ok (.iload_n 2, 1) := by decide +kernel
theorem dX9_write_15 : decode cX9_write 15 = .ok (.invokestatic 238, 3) := by decide +kernel
theorem dX9_write_18 : decode cX9_write 18 = .ok (.ifCond .ne 9, 3) := by decide +kernel
theorem dX9_write_21 : decode cX9_write 21 = .ok (.aload_n 0, 1) := by decide +kernel
theorem dX9_write_22 : decode cX9_write 22 = .ok (.iconst 2, 1) := by decide +kernel
theorem dX9_write_23 : decode cX9_write 23 = .ok (.invokevirtual 143, 3) := by decide +kernel
theorem dX9_write_26 : decode cX9_write 26 = .ok (.ireturn, 1) := by decide +kernel
theorem dX9_write_27 : decode cX9_write 27 = .ok (.aload_n 0, 1) := by decide +kernel
theorem dX9_write_28 : decode cX9_write 28 = .ok (.iload_n 1, 1) := by decide +kernel
theorem dX9_write_29 : decode cX9_write 29 = .ok (.iload_n 2, 1) := by decide +kernel
theorem dX9_write_30 : decode cX9_write 30 = .ok (.invokevirtual 244, 3) := by decide +kernel
theorem dX9_write_33 : decode cX9_write 33 = .ok (.ifCond .ne 9, 3) := by decide +kernel
theorem dX9_write_36 : decode cX9_write 36 = .ok (.aload_n 0, 1) := by decide +kernel
theorem dX9_write_37 : decode cX9_write 37 = .ok (.iconst 3, 1) := by decide +kernel
theorem dX9_write_38 : decode cX9_write 38 = .ok (.invokevirtual 143, 3) := by decide +kernel
theorem dX9_write_41 : decode cX9_write 41 = .ok (.ireturn, 1) := by decide +kernel
theorem dX9_write_42 : decode cX9_write 42 = .ok (.aload_n 0, 1) := by decide +kernel
theorem dX9_write_43 : decode cX9_write 43 = .ok (.iconst 0, 1) := by decide +kernel
theorem dX9_write_44 : decode cX9_write 44 = .ok (.putfield 67, 3) := by decide +kernel
theorem dX9_write_47 : decode cX9_write 47 = .ok (.aload_n 0, 1) := by decide +kernel
theorem dX9_write_48 : decode cX9_write 48 = .ok (.iload_n 1, 1) := by decide +kernel
theorem dX9_write_49 : decode cX9_write 49 = .ok (.iload_n 2, 1) := by decide +kernel
theorem dX9_write_50 : decode cX9_write 50 = .ok (.invokevirtual 136, 3) := by decide +kernel
theorem dX9_write_53 : decode cX9_write 53 = .ok (.aload_n 0, 1) := by decide +kernel
theorem dX9_write_54 : decode cX9_write 54 = .ok (.iconst 0, 1) := by decide +kernel
theorem dX9_write_55 : decode cX9_write 55 = .ok (.putfield 323, 3) := by decide +kernel
theorem dX9_write_58 : decode cX9_write 58 = .ok (.aload_n 0, 1) := by decide +kernel
theorem dX9_write_59 : decode cX9_write 59 = .ok (.aload_n 0, 1) := by decide +kernel
theorem dX9_write_60 : decode cX9_write 60 = .ok (.getfield 133, 3) := by decide +kernel
theorem dX9_write_63 : decode cX9_write 63 = .ok (.invokevirtual 330, 3) := by decide +kernel
theorem dX9_write_66 : decode cX9_write 66 = .ok (.aload_n 0, 1) := by decide +kernel
theorem dX9_write_67 : decode cX9_write 67 = .ok (.bipush 46, 2) := by decide +kernel
theorem dX9_write_69 : decode cX9_write 69 = .ok (.invokevirtual 326, 3) := by decide +kernel
theorem dX9_write_72 : decode cX9_write 72 = .ok (.aload_n 0, 1) := by decide +kernel
theorem dX9_write_73 : decode cX9_write 73 = .ok (.aload_n 0, 1) := by decide +kernel
theorem dX9_write_74 : decode cX9_write 74 = .ok (.getfield 130, 3) := by decide +kernel
theorem dX9_write_77 : decode cX9_write 77 = .ok (.invokevirtual 330, 3) := by decide +kernel
theorem dX9_write_80 : decode cX9_write 80 = .ok (.aload_n 0, 1) := by decide +kernel
theorem dX9_write_81 : decode cX9_write 81 = .ok (.iload_n 1, 1) := by decide +kernel
theorem dX9_write_82 : decode cX9_write 82 = .ok (.aload_n 0, 1) := by decide +kernel
theorem dX9_write_83 : decode cX9_write 83 = .ok (.getfield 127, 3) := by decide +kernel
theorem dX9_write_86 : decode cX9_write 86 = .ok (.aload_n 0, 1) := by decide +kernel
theorem dX9_write_87 : decode cX9_write 87 = .ok (.getfield 130, 3) := by decide +kernel
theorem dX9_write_90 : decode cX9_write 90 = .ok (.invokevirtual 107, 3) := by decide +kernel
theorem dX9_write_93 : decode cX9_write 93 = .ok (.ifCond .eq 9, 3) := by decide +kernel
theorem dX9_write_96 : decode cX9_write 96 = .ok (.aload_n 0, 1) := by decide +kernel
theorem dX9_write_97 : decode cX9_write 97 = .ok (.bipush 105, 2) := by decide +kernel
theorem dX9_write_99 : decode cX9_write 99 = .ok (.invokevirtual 326, 3) := by decide +kernel
theorem dX9_write_102 : decode cX9_write 102 = .ok (.aload_n 0, 1) := by decide +kernel
theorem dX9_write_103 : decode cX9_write 103 = .ok (.bipush 46, 2) := by decide +kernel
theorem dX9_write_105 : decode cX9_write 105 = .ok (.invokevirtual 326, 3) := by decide +kernel
theorem dX9_write_108 : decode cX9_write 108 = .ok (.aload_n 0, 1) := by decide +kernel
theorem dX9_write_109 : decode cX9_write 109 = .ok (.getfield 127, 3) := by decide +kernel
theorem dX9_write_112 : decode cX9_write 112 = .ok (.ifCond .ge 9, 3) := by decide +kernel
theorem dX9_write_115 : decode cX9_write 115 = .ok (.aload_n 0, 1) := by decide +kernel
theorem dX9_write_116 : decode cX9_write 116 = .ok (.bipush 45, 2) := by decide +kernel
theorem dX9_write_118 : decode cX9_write 118 = .ok (.invokevirtual 326, 3) := by decide +kernel
theorem dX9_write_121 : decode cX9_write 121 = .ok (.aload_n 0, 1) := by decide +kernel
theorem dX9_write_122 : decode cX9_write 122 = .ok (.aload_n 0, 1) := by decide +kernel
theorem dX9_write_123 : decode cX9_write 123 = .ok (.getfield 127, 3) := by decide +kernel
theorem dX9_write_126 : decode cX9_write 126 = .ok (.ifCond .ge 11, 3) := by decide +kernel
theorem dX9_write_129 : decode cX9_write 129 = .ok (.aload_n 0, 1) := by decide +kernel
theorem dX9_write_130 : decode cX9_write 130 = .ok (.getfield 127, 3) := by decide +kernel
theorem dX9_write_133 : decode cX9_write 133 = .ok (.ineg, 1) := by decide +kernel
theorem dX9_write_134 : decode cX9_write 134 = .ok (.goto 7, 3) := by decide +kernel
theorem dX9_write_137 : decode cX9_write 137 = .ok (.aload_n 0, 1) := by decide +kernel
theorem dX9_write_138 : decode cX9_write 138 = .ok (.getfield 127, 3) := by decide +kernel
theorem dX9_write_141 : decode cX9_write 141 = .ok (.invokevirtual 330, 3) := by decide +kernel
theorem dX9_write_144 : decode cX9_write 144 = .ok (.aload_n 0, 1) := by decide +kernel
theorem dX9_write_145 : decode cX9_write 145 = .ok (.getfield 323, 3) := by decide +kernel
theorem dX9_write_148 : decode cX9_write 148 = .ok (.ireturn, 1) := by decide +kernel
set_option maxRecDepth 20000 in
theorem dX9_output_0 : decode cX9_output 0 = .ok (.aload_n 0, 1) := by decide +kernel
theorem dX9_output_1 : decode cX9_output 1 = .ok (.iload_n 1, 1) := by decide +kernel
theorem dX9_output_2 : decode cX9_output 2 = .ok (.iconst 0, 1) := by decide +kernel
theorem dX9_output_3 : decode cX9_output 3 = .ok (.aload_n 0, 1) := by decide +kernel
theorem dX9_output_4 : decode cX9_output 4 = .ok (.getfield 323, 3) := by decide +kernel
theorem dX9_output_7 : decode cX9_output 7 = .ok (.iconst 1, 1) := by decide +kernel
theorem dX9_output_8 : decode cX9_output 8 = .ok (.isub, 1) := by decide +kernel
theorem dX9_output_9 : decode cX9_output 9 = .ok (.invokestatic 70, 3) := by decide +kernel
theorem dX9_output_12 : decode cX9_output 12 = .ok (.ifCond .eq 7, 3) := by decide +kernel
theorem dX9_output_15 : decode cX9_output 15 = .ok (.iconst 0, 1) := by decide +kernel
theorem dX9_output_16 : decode cX9_output 16 = .ok (.goto 4, 3) := by decide +kernel
theorem dX9_output_19 : decode cX9_output 19 = .ok (.iconst 1, 1) := by decide +kernel
theorem dX9_output_20 : decode cX9_output 20 = .ok (.putfield 67, 3) := by decide +kernel
theorem dX9_output_23 : decode cX9_output 23 = .ok (.aload_n 0, 1) := by decide +kernel
theorem dX9_output_24 : decode cX9_output 24 = .ok (.getfield 67, 3) := by decide +kernel
theorem dX9_output_27 : decode cX9_output 27 = .ok (.ifCond .ne 12, 3) := by decide +kernel
theorem dX9_output_30 : decode cX9_output 30 = .ok (.aload_n 0, 1) := by decide +kernel
theorem dX9_output_31 : decode cX9_output 31 = .ok (.getfield 47, 3) := by decide +kernel
theorem dX9_output_34 : decode cX9_output 34 = .ok (.iload_n 1, 1) := by decide +kernel
theorem dX9_output_35 : decode cX9_output 35 = .ok (.caload, 1) := by decide +kernel
theorem dX9_output_36 : decode cX9_output 36 = .ok (.goto 4, 3) := by decide +kernel
theorem dX9_output_39 : decode cX9_output 39 = .ok (.iconst 0, 1) := by decide +kernel
theorem dX9_output_40 : decode cX9_output 40 = .ok (.ireturn, 1) := by decide +kernel
set_option maxRecDepth 20000 in
theorem dX9_newYears_0 : decode cX9_newYears 0 = .ok (.aload_n 0, 1) := by decide +kernel
theorem dX9_newYears_1 : decode cX9_newYears 1 = .ok (.iload_n 1, 1) := by decide +kernel
theorem dX9_newYears_2 : decode cX9_newYears 2 = .ok (.invokevirtual 221, 3) := by decide +kernel
theorem dX9_newYears_5 : decode cX9_newYears 5 = .ok (.ifCond .eq 11, 3) := by decide +kernel
theorem dX9_newYears_8 : decode cX9_newYears 8 = .ok (.aload_n 0, 1) := by decide +kernel
theorem dX9_newYears_9 : decode cX9_newYears 9 = .ok (.iload_n 2, 1) := by decide +kernel
theorem dX9_newYears_10 : decode cX9_newYears 10 = .ok (.invokevirtual 221, 3) := by decide +kernel
theorem dX9_newYears_13 : decode cX9_newYears 13 = .ok (.ifCond .ne 9, 3) := by decide +kernel
theorem dX9_newYears_16 : decode cX9_newYears 16 = .ok (.aload_n 0, 1) := by decide +kernel
theorem dX9_newYears_17 : decode cX9_newYears 17 = .ok (.iconst 1, 1) := by decide +kernel
theorem dX9_newYears_18 : decode cX9_newYears 18 = .ok (.invokevirtual 143, 3) := by decide +kernel
theorem dX9_newYears_21 : decode cX9_newYears 21 = .ok (.ireturn, 1) := by decide +kernel
theorem dX9_newYears_22 : decode cX9_newYears 22 = .ok (.iload_n 3, 1) := by decide +kernel
theorem dX9_newYears_23 : decode cX9_newYears 23 = .ok (.invokestatic 110, 3) := by decide +kernel
theorem dX9_newYears_26 : decode cX9_newYears 26 = .ok (.ifCond .eq 15, 3) := by decide +kernel
theorem dX9_newYears_29 : decode cX9_newYears 29 = .ok (.iload 4, 2) := by decide +kernel
theorem dX9_newYears_31 : decode cX9_newYears 31 = .ok (.iload_n 3, 1) := by decide +kernel
theorem dX9_newYears_32 : decode cX9_newYears 32 = .ok (.sipush 2000, 3) := by decide +kernel
theorem dX9_newYears_35 : decode cX9_newYears 35 = .ok (.invokestatic 70, 3) := by decide +kernel
theorem dX9_newYears_38 : decode cX9_newYears 38 = .ok (.ifCond .ne 9, 3) := by decide +kernel
theorem dX9_newYears_41 : decode cX9_newYears 41 = .ok (.aload_n 0, 1) := by decide +kernel
theorem dX9_newYears_42 : decode cX9_newYears 42 = .ok (.iconst 2, 1) := by decide +kernel
theorem dX9_newYears_43 : decode cX9_newYears 43 = .ok (.invokevirtual 143, 3) := by decide +kernel
theorem dX9_newYears_46 : decode cX9_newYears 46 = .ok (.ireturn, 1) := by decide +kernel
theorem dX9_newYears_47 : decode cX9_newYears 47 = .ok (.aload_n 0, 1) := by decide +kernel
theorem dX9_newYears_48 : decode cX9_newYears 48 = .ok (.iconst 0, 1) := by decide +kernel
theorem dX9_newYears_49 : decode cX9_newYears 49 = .ok (.putfield 67, 3) := by decide +kernel
theorem dX9_newYears_52 : decode cX9_newYears 52 = .ok (.iconst 0, 1) := by decide +kernel
theorem dX9_newYears_53 : decode cX9_newYears 53 = .ok (.istore 5, 2) := by decide +kernel
theorem dX9_newYears_55 : decode cX9_newYears 55 = .ok (.iload_n 3, 1) := by decide +kernel
theorem dX9_newYears_56 : decode cX9_newYears 56 = .ok (.istore 6, 2) := by decide +kernel
theorem dX9_newYears_58 : decode cX9_newYears 58 = .ok (.iload 6, 2) := by decide +kernel
theorem dX9_newYears_60 : decode cX9_newYears 60 = .ok (.iload 4, 2) := by decide +kernel
theorem dX9_newYears_62 : decode cX9_newYears 62 = .ok (.if_icmp .gt 57, 3) := by decide +kernel
theorem dX9_newYears_65 : decode cX9_newYears 65 = .ok (.aload_n 0, 1) := by decide +kernel
theorem dX9_newYears_66 : decode cX9_newYears 66 = .ok (.iload_n 1, 1) := by decide +kernel
theorem dX9_newYears_67 : decode cX9_newYears 67 = .ok (.iload 6, 2) := by decide +kernel
theorem dX9_newYears_69 : decode cX9_newYears 69 = .ok (.invokevirtual 101, 3) := by decide +kernel
theorem dX9_newYears_72 : decode cX9_newYears 72 = .ok (.istore 7, 2) := by decide +kernel
theorem dX9_newYears_74 : decode cX9_newYears 74 = .ok (.aload_n 0, 1) := by decide +kernel
theorem dX9_newYears_75 : decode cX9_newYears 75 = .ok (.iload_n 2, 1) := by decide +kernel
theorem dX9_newYears_76 : decode cX9_newYears 76 = .ok (.iload 7, 2) := by decide +kernel
theorem dX9_newYears_78 : decode cX9_newYears 78 = .ok (.invokevirtual 124, 3) := by decide +kernel
theorem dX9_newYears_81 : decode cX9_newYears 81 = .ok (.istore 8, 2) := by decide +kernel
theorem dX9_newYears_83 : decode cX9_newYears 83 = .ok (.iload 5, 2) := by decide +kernel
theorem dX9_newYears_85 : decode cX9_newYears 85 = .ok (.iload 8, 2) := by decide +kernel
theorem dX9_newYears_87 : decode cX9_newYears 87 = .ok (.invokestatic 110, 3) := by decide +kernel
theorem dX9_newYears_90 : decode cX9_newYears 90 = .ok (.ifCond .eq 19, 3) := by decide +kernel
theorem dX9_newYears_93 : decode cX9_newYears 93 = .ok (.aload_n 0, 1) := by decide +kernel
theorem dX9_newYears_94 : decode cX9_newYears 94 = .ok (.iload_n 2, 1) := by decide +kernel
theorem dX9_newYears_95 : decode cX9_newYears 95 = .ok (.iload 8, 2) := by decide +kernel
theorem dX9_newYears_97 : decode cX9_newYears 97 = .ok (.invokevirtual 101, 3) := by decide +kernel
theorem dX9_newYears_100 : decode cX9_newYears 100 = .ok (.iload 7, 2) := by decide +kernel
theorem dX9_newYears_102 : decode cX9_newYears 102 = .ok (.if_icmp .ne 7, 3) := by decide +kernel
theorem dX9_newYears_105 : decode cX9_newYears 105 = .ok (.iconst 1, 1) := by decide +kernel
theorem dX9_newYears_106 : decode cX9_newYears 106 = .ok (.goto 4, 3) := by decide +kernel
theorem dX9_newYears_109 : decode cX9_newYears 109 = .ok (.iconst 0, 1) := by decide +kernel
theorem dX9_newYears_110 : decode cX9_newYears 110 = .ok (.iadd, 1) := by decide +kernel
theorem dX9_newYears_111 : decode cX9_newYears 111 = .ok (.istore 5, 2) := by decide +kernel
theorem dX9_newYears_113 : decode cX9_newYears 113 = .ok (.iinc 6 1, 3) := by decide +kernel
theorem dX9_newYears_116 : decode cX9_newYears 116 = .ok (.goto (-58), 3) := by decide +kernel
theorem dX9_newYears_119 : decode cX9_newYears 119 = .ok (.iload 5, 2) := by decide +kernel
theorem dX9_newYears_121 : decode cX9_newYears 121 = .ok (.ireturn, 1) := by decide +kernel
set_option maxRecDepth 20000 in
theorem dX9_average_0 : decode cX9_average 0 = .ok (.aload_n 0, 1) := by decide +kernel
theorem dX9_average_1 : decode cX9_average 1 = .ok (.getfield 13, 3) := by decide +kernel
theorem dX9_average_4 : decode cX9_average 4 = .ok (.bipush 33, 2) := by decide +kernel
theorem dX9_average_6 : decode cX9_average 6 = .ok (.iload_n 1, 1) := by decide +kernel
theorem dX9_average_7 : decode cX9_average 7 = .ok (.imul, 1) := by decide +kernel
theorem dX9_average_8 : decode cX9_average 8 = .ok (.invokestatic 208, 3) := by decide +kernel
theorem dX9_average_11 : decode cX9_average 11 = .ok (.istore_n 2, 1) := by decide +kernel
theorem dX9_average_12 : decode cX9_average 12 = .ok (.aload_n 0, 1) := by decide +kernel
theorem dX9_average_13 : decode cX9_average 13 = .ok (.iload_n 1, 1) := by decide +kernel
theorem dX9_average_14 : decode cX9_average 14 = .ok (.iload_n 2, 1) := by decide +kernel
theorem dX9_average_15 : decode cX9_average 15 = .ok (.iconst 1, 1) := by decide +kernel
theorem dX9_average_16 : decode cX9_average 16 = .ok (.iadd, 1) := by decide +kernel
theorem dX9_average_17 : decode cX9_average 17 = .ok (.invokevirtual 101, 3) := by decide +kernel
theorem dX9_average_20 : decode cX9_average 20 = .ok (.aload_n 0, 1) := by decide +kernel
theorem dX9_average_21 : decode cX9_average 21 = .ok (.iload_n 1, 1) := by decide +kernel
theorem dX9_average_22 : decode cX9_average 22 = .ok (.iconst 1, 1) := by decide +kernel
theorem dX9_average_23 : decode cX9_average 23 = .ok (.invokevirtual 101, 3) := by decide +kernel
theorem dX9_average_26 : decode cX9_average 26 = .ok (.isub, 1) := by decide +kernel
theorem dX9_average_27 : decode cX9_average 27 = .ok (.i2d, 1) := by decide +kernel
theorem dX9_average_28 : decode cX9_average 28 = .ok (.iload_n 2, 1) := by decide +kernel
theorem dX9_average_29 : decode cX9_average 29 = .ok (.i2d, 1) := by decide +kernel
theorem dX9_average_30 : decode cX9_average 30 = .ok (.ddiv, 1) := by decide +kernel
theorem dX9_average_31 : decode cX9_average 31 = .ok (.dreturn, 1) := by decide +kernel
set_option maxRecDepth 20000 in
theorem dX9_averageYear_0 : decode cX9_averageYear 0 = .ok (.aload_n 0, 1) := by decide +kernel
theorem dX9_averageYear_1 : decode cX9_averageYear 1 = .ok (.aload_n 0, 1) := by decide +kernel
theorem dX9_averageYear_2 : decode cX9_averageYear 2 = .ok (.iload_n 1, 1) := by decide +kernel
theorem dX9_averageYear_3 : decode cX9_averageYear 3 = .ok (.invokevirtual 221, 3) := by decide +kernel
theorem dX9_averageYear_6 : decode cX9_averageYear 6 = .ok (.ifCond .eq 7, 3) := by decide +kernel
theorem dX9_averageYear_9 : decode cX9_averageYear 9 = .ok (.iconst 0, 1) := by decide +kernel
theorem dX9_averageYear_10 : decode cX9_averageYear 10 = .ok (.goto 4, 3) := by decide +kernel
theorem dX9_averageYear_13 : decode cX9_averageYear 13 = .ok (.iconst 1, 1) := by decide +kernel
theorem dX9_averageYear_14 : decode cX9_averageYear 14 = .ok (.putfield 67, 3) := by decide +kernel
theorem dX9_averageYear_17 : decode cX9_averageYear 17 = .ok (.aload_n 0, 1) := by decide +kernel
theorem dX9_averageYear_18 : decode cX9_averageYear 18 = .ok (.getfield 67, 3) := by decide +kernel
theorem dX9_averageYear_21 : decode cX9_averageYear 21 = .ok (.ifCond .le 7, 3) := by decide +kernel
theorem dX9_averageYear_24 : decode cX9_averageYear 24 = .ok (.dconst 0, 1) := by decide +kernel
theorem dX9_averageYear_25 : decode cX9_averageYear 25 = .ok (.goto 8, 3) := by decide +kernel
theorem dX9_averageYear_28 : decode cX9_averageYear 28 = .ok (.aload_n 0, 1) := by decide +kernel
theorem dX9_averageYear_29 : decode cX9_averageYear 29 = .ok (.iload_n 1, 1) := by decide +kernel
theorem dX9_averageYear_30 : decode cX9_averageYear 30 = .ok (.invokevirtual 333, 3) := by decide +kernel
theorem dX9_averageYear_33 : decode cX9_averageYear 33 = .ok (.dreturn, 1) := by decide +kernel
set_option maxRecDepth 20000 in
theorem dX9_drift_0 : decode cX9_drift 0 = .ok (.aload_n 0, 1) := by decide +kernel
theorem dX9_drift_1 : decode cX9_drift 1 = .ok (.aload_n 0, 1) := by decide +kernel
theorem dX9_drift_2 : decode cX9_drift 2 = .ok (.iload_n 1, 1) := by decide +kernel
theorem dX9_drift_3 : decode cX9_drift 3 = .ok (.invokevirtual 221, 3) := by decide +kernel
theorem dX9_drift_6 : decode cX9_drift 6 = .ok (.ifCond .eq 15, 3) := by decide +kernel
theorem dX9_drift_9 : decode cX9_drift 9 = .ok (.aload_n 0, 1) := by decide +kernel
theorem dX9_drift_10 : decode cX9_drift 10 = .ok (.iload_n 2, 1) := by decide +kernel
theorem dX9_drift_11 : decode cX9_drift 11 = .ok (.invokevirtual 221, 3) := by decide +kernel
theorem dX9_drift_14 : decode cX9_drift 14 = .ok (.ifCond .eq 7, 3) := by decide +kernel
theorem dX9_drift_17 : decode cX9_drift 17 = .ok (.iconst 0, 1) := by decide +kernel
theorem dX9_drift_18 : decode cX9_drift 18 = .ok (.goto 4, 3) := by decide +kernel
theorem dX9_drift_21 : decode cX9_drift 21 = .ok (.iconst 1, 1) := by decide +kernel
theorem dX9_drift_22 : decode cX9_drift 22 = .ok (.putfield 67, 3) := by decide +kernel
theorem dX9_drift_25 : decode cX9_drift 25 = .ok (.aload_n 0, 1) := by decide +kernel
theorem dX9_drift_26 : decode cX9_drift 26 = .ok (.getfield 67, 3) := by decide +kernel
theorem dX9_drift_29 : decode cX9_drift 29 = .ok (.ifCond .le 7, 3) := by decide +kernel
theorem dX9_drift_32 : decode cX9_drift 32 = .ok (.fconst 0, 1) := by decide +kernel
theorem dX9_drift_33 : decode cX9_drift 33 = .ok (.goto 19, 3) := by decide +kernel
theorem dX9_drift_36 : decode cX9_drift 36 = .ok (.aload_n 0, 1) := by decide +kernel
theorem dX9_drift_37 : decode cX9_drift 37 = .ok (.iload_n 1, 1) := by decide +kernel
theorem dX9_drift_38 : decode cX9_drift 38 = .ok (.invokevirtual 333, 3) := by decide +kernel
theorem dX9_drift_41 : decode cX9_drift 41 = .ok (.aload_n 0, 1) := by decide +kernel
theorem dX9_drift_42 : decode cX9_drift 42 = .ok (.iload_n 2, 1) := by decide +kernel
theorem dX9_drift_43 : decode cX9_drift 43 = .ok (.invokevirtual 333, 3) := by decide +kernel
theorem dX9_drift_46 : decode cX9_drift 46 = .ok (.dsub, 1) := by decide +kernel
theorem dX9_drift_47 : decode cX9_drift 47 = .ok (.ldc2_w 337, 3) := by decide +kernel
theorem dX9_drift_50 : decode cX9_drift 50 = .ok (.dmul, 1) := by decide +kernel
theorem dX9_drift_51 : decode cX9_drift 51 = .ok (.d2f, 1) := by decide +kernel
theorem dX9_drift_52 : decode cX9_drift 52 = .ok (.freturn, 1) := by decide +kernel
theorem dX9_hands_0 : decode cX9_hands 0 = .ok (.iconst 0, 1) := by decide +kernel
theorem dX9_hands_1 : decode cX9_hands 1 = .ok (.istore_n 3, 1) := by decide +kernel
theorem dX9_hands_2 : decode cX9_hands 2 = .ok (.iload_n 3, 1) := by decide +kernel
theorem dX9_hands_3 : decode cX9_hands 3 = .ok (.aload_n 1, 1) := by decide +kernel
theorem dX9_hands_4 : decode cX9_hands 4 = .ok (.arraylength, 1) := by decide +kernel
theorem dX9_hands_5 : decode cX9_hands 5 = .ok (.if_icmp .ge 47, 3) := by decide +kernel
theorem dX9_hands_8 : decode cX9_hands 8 = .ok (.aload_n 0, 1) := by decide +kernel
theorem dX9_hands_9 : decode cX9_hands 9 = .ok (.getfield 339, 3) := by decide +kernel
theorem dX9_hands_12 : decode cX9_hands 12 = .ok (.ifCond .eq 15, 3) := by decide +kernel
theorem dX9_hands_15 : decode cX9_hands 15 = .ok (.aload_n 2, 1) := by decide +kernel
theorem dX9_hands_16 : decode cX9_hands 16 = .ok (.aload_n 0, 1) := by decide +kernel
theorem dX9_hands_17 : decode cX9_hands 17 = .ok (.getfield 342, 3) := by decide +kernel
theorem dX9_hands_20 : decode cX9_hands 20 = .ok (.aload_n 1, 1) := by decide +kernel
theorem dX9_hands_21 : decode cX9_hands 21 = .ok (.iload_n 3, 1) := by decide +kernel
theorem dX9_hands_22 : decode cX9_hands 22 = .ok (.iaload, 1) := by decide +kernel
theorem dX9_hands_23 : decode cX9_hands 23 = .ok (.iastore, 1) := by decide +kernel
theorem dX9_hands_24 : decode cX9_hands 24 = .ok (.goto 12, 3) := by decide +kernel
theorem dX9_hands_27 : decode cX9_hands 27 = .ok (.aload_n 1, 1) := by decide +kernel
theorem dX9_hands_28 : decode cX9_hands 28 = .ok (.iload_n 3, 1) := by decide +kernel
theorem dX9_hands_29 : decode cX9_hands 29 = .ok (.aload_n 2, 1) := by decide +kernel
theorem dX9_hands_30 : decode cX9_hands 30 = .ok (.aload_n 0, 1) := by decide +kernel
theorem dX9_hands_31 : decode cX9_hands 31 = .ok (.getfield 342, 3) := by decide +kernel
theorem dX9_hands_34 : decode cX9_hands 34 = .ok (.iaload, 1) := by decide +kernel
theorem dX9_hands_35 : decode cX9_hands 35 = .ok (.iastore, 1) := by decide +kernel
theorem dX9_hands_36 : decode cX9_hands 36 = .ok (.aload_n 0, 1) := by decide +kernel
theorem dX9_hands_37 : decode cX9_hands 37 = .ok (.dup, 1) := by decide +kernel
theorem dX9_hands_38 : decode cX9_hands 38 = .ok (.getfield 342, 3) := by decide +kernel
theorem dX9_hands_41 : decode cX9_hands 41 = .ok (.iconst 1, 1) := by decide +kernel
theorem dX9_hands_42 : decode cX9_hands 42 = .ok (.iadd, 1) := by decide +kernel
theorem dX9_hands_43 : decode cX9_hands 43 = .ok (.putfield 342, 3) := by decide +kernel
theorem dX9_hands_46 : decode cX9_hands 46 = .ok (.iinc 3 1, 3) := by decide +kernel
theorem dX9_hands_49 : decode cX9_hands 49 = .ok (.goto (-47), 3) := by decide +kernel
theorem dX9_hands_52 : decode cX9_hands 52 = .ok (.return_, 1) := by decide +kernel
set_option maxRecDepth 20000 in
theorem dX9_handsAll_0 : decode cX9_handsAll 0 = .ok (.aload_n 0, 1) := by decide +kernel
theorem dX9_handsAll_1 : decode cX9_handsAll 1 = .ok (.iload_n 3, 1) := by decide +kernel
theorem dX9_handsAll_2 : decode cX9_handsAll 2 = .ok (.putfield 339, 3) := by decide +kernel
theorem dX9_handsAll_5 : decode cX9_handsAll 5 = .ok (.aload_n 0, 1) := by decide +kernel
theorem dX9_handsAll_6 : decode cX9_handsAll 6 = .ok (.iload_n 2, 1) := by decide +kernel
theorem dX9_handsAll_7 : decode cX9_handsAll 7 = .ok (.putfield 342, 3) := by decide +kernel
theorem dX9_handsAll_10 : decode cX9_handsAll 10 = .ok (.aload_n 0, 1) := by decide +kernel
theorem dX9_handsAll_11 : decode cX9_handsAll 11 = .ok (.aload_n 0, 1) := by decide +kernel
theorem dX9_handsAll_12 : decode cX9_handsAll 12 = .ok (.getfield 13, 3) := by decide +kernel
theorem dX9_handsAll_15 : decode cX9_handsAll 15 = .ok (.aload_n 1, 1) := by decide +kernel
theorem dX9_handsAll_16 : decode cX9_handsAll 16 = .ok (.invokevirtual 345, 3) := by decide +kernel
theorem dX9_handsAll_19 : decode cX9_handsAll 19 = .ok (.aload_n 0, 1) := by decide +kernel
theorem dX9_handsAll_20 : decode cX9_handsAll 20 = .ok (.aload_n 0, 1) := by decide +kernel
theorem dX9_handsAll_21 : decode cX9_handsAll 21 = .ok (.getfield 29, 3) := by decide +kernel
theorem dX9_handsAll_24 : decode cX9_handsAll 24 = .ok (.aload_n 1, 1) := by decide +kernel
theorem dX9_handsAll_25 : decode cX9_handsAll 25 = .ok (.invokevirtual 345, 3) := by decide +kernel
theorem dX9_handsAll_28 : decode cX9_handsAll 28 = .ok (.iload_n 3, 1) := by decide +kernel
theorem dX9_handsAll_29 : decode cX9_handsAll 29 = .ok (.ifCond .eq 26, 3) := by decide +kernel
theorem dX9_handsAll_32 : decode cX9_handsAll 32 = .ok (.aload_n 1, 1) := by decide +kernel
theorem dX9_handsAll_33 : decode cX9_handsAll 33 = .ok (.aload_n 0, 1) := by decide +kernel
theorem dX9_handsAll_34 : decode cX9_handsAll 34 = .ok (.getfield 342, 3) := by decide +kernel
theorem dX9_handsAll_37 : decode cX9_handsAll 37 = .ok (.aload_n 0, 1) := by decide +kernel
theorem dX9_handsAll_38 : decode cX9_handsAll 38 = .ok (.getfield 64, 3) := by decide +kernel
theorem dX9_handsAll_41 : decode cX9_handsAll 41 = .ok (.iastore, 1) := by decide +kernel
theorem dX9_handsAll_42 : decode cX9_handsAll 42 = .ok (.aload_n 1, 1) := by decide +kernel
theorem dX9_handsAll_43 : decode cX9_handsAll 43 = .ok (.aload_n 0, 1) := by decide +kernel
theorem dX9_handsAll_44 : decode cX9_handsAll 44 = .ok (.getfield 342, 3) := by decide +kernel
theorem dX9_handsAll_47 : decode cX9_handsAll 47 = .ok (.iconst 1, 1) := by decide +kernel
theorem dX9_handsAll_48 : decode cX9_handsAll 48 = .ok (.iadd, 1) := by decide +kernel
theorem dX9_handsAll_49 : decode cX9_handsAll 49 = .ok (.aload_n 0, 1) := by decide +kernel
theorem dX9_handsAll_50 : decode cX9_handsAll 50 = .ok (.getfield 278, 3) := by decide +kernel
theorem dX9_handsAll_53 : decode cX9_handsAll 53 = .ok (.iastore, 1) := by decide +kernel
theorem dX9_handsAll_54 : decode cX9_handsAll 54 = .ok (.return_, 1) := by decide +kernel
theorem dX9_handsAll_55 : decode cX9_handsAll 55 = .ok (.aload_n 0, 1) := by decide +kernel
theorem dX9_handsAll_56 : decode cX9_handsAll 56 = .ok (.aload_n 1, 1) := by decide +kernel
theorem dX9_handsAll_57 : decode cX9_handsAll 57 = .ok (.aload_n 0, 1) := by decide +kernel
theorem dX9_handsAll_58 : decode cX9_handsAll 58 = .ok (.getfield 342, 3) := by decide +kernel
theorem dX9_handsAll_61 : decode cX9_handsAll 61 = .ok (.iaload, 1) := by decide +kernel
theorem dX9_handsAll_62 : decode cX9_handsAll 62 = .ok (.putfield 64, 3) := by decide +kernel
theorem dX9_handsAll_65 : decode cX9_handsAll 65 = .ok (.aload_n 0, 1) := by decide +kernel
theorem dX9_handsAll_66 : decode cX9_handsAll 66 = .ok (.aload_n 1, 1) := by decide +kernel
theorem dX9_handsAll_67 : decode cX9_handsAll 67 = .ok (.aload_n 0, 1) := by decide +kernel
theorem dX9_handsAll_68 : decode cX9_handsAll 68 = .ok (.getfield 342, 3) := by decide +kernel
theorem dX9_handsAll_71 : decode cX9_handsAll 71 = .ok (.iconst 1, 1) := by decide +kernel
theorem dX9_handsAll_72 : decode cX9_handsAll 72 = .ok (.iadd, 1) := by decide +kernel
theorem dX9_handsAll_73 : decode cX9_handsAll 73 = .ok (.iaload, 1) := by decide +kernel
theorem dX9_handsAll_74 : decode cX9_handsAll 74 = .ok (.putfield 278, 3) := by decide +kernel
theorem dX9_handsAll_77 : decode cX9_handsAll 77 = .ok (.iconst 0, 1) := by decide +kernel
theorem dX9_handsAll_78 : decode cX9_handsAll 78 = .ok (.istore 4, 2) := by decide +kernel
theorem dX9_handsAll_80 : decode cX9_handsAll 80 = .ok (.iload 4, 2) := by decide +kernel
theorem dX9_handsAll_82 : decode cX9_handsAll 82 = .ok (.aload_n 0, 1) := by decide +kernel
theorem dX9_handsAll_83 : decode cX9_handsAll 83 = .ok (.getfield 64, 3) := by decide +kernel
theorem dX9_handsAll_86 : decode cX9_handsAll 86 = .ok (.if_icmp .ge 15, 3) := by decide +kernel
theorem dX9_handsAll_89 : decode cX9_handsAll 89 = .ok (.aload_n 0, 1) := by decide +kernel
theorem dX9_handsAll_90 : decode cX9_handsAll 90 = .ok (.iload 4, 2) := by decide +kernel
theorem dX9_handsAll_92 : decode cX9_handsAll 92 = .ok (.invokevirtual 95, 3) := by decide +kernel
theorem dX9_handsAll_95 : decode cX9_handsAll 95 = .ok (.iinc 4 1, 3) := by decide +kernel
theorem dX9_handsAll_98 : decode cX9_handsAll 98 = .ok (.goto (-18), 3) := by decide +kernel
theorem dX9_handsAll_101 : decode cX9_handsAll 101 = .ok (.return_, 1) := by decide +kernel
set_option maxRecDepth 20000 in
theorem dX9_remembers_0 : decode cX9_remembers 0 = .ok (.aload_n 0, 1) := by decide +kernel
theorem dX9_remembers_1 : decode cX9_remembers 1 = .ok (.getfield 349, 3) := by decide +kernel
theorem dX9_remembers_4 : decode cX9_remembers 4 = .ok (.bipush 6, 2) := by decide +kernel
theorem dX9_remembers_6 : decode cX9_remembers 6 = .ok (.if_icmp .ne 44, 3) := by decide +kernel
theorem dX9_remembers_9 : decode cX9_remembers 9 = .ok (.iconst 0, 1) := by decide +kernel
theorem dX9_remembers_10 : decode cX9_remembers 10 = .ok (.istore_n 1, 1) := by decide +kernel
theorem dX9_remembers_11 : decode cX9_remembers 11 = .ok (.iload_n 1, 1) := by decide +kernel
theorem dX9_remembers_12 : decode cX9_remembers 12 = .ok (.sipush 1310, 3) := by decide +kernel
theorem dX9_remembers_15 : decode cX9_remembers 15 = .ok (.if_icmp .ge 25, 3) := by decide +kernel
theorem dX9_remembers_18 : decode cX9_remembers 18 = .ok (.aload_n 0, 1) := by decide +kernel
theorem dX9_remembers_19 : decode cX9_remembers 19 = .ok (.getfield 51, 3) := by decide +kernel
theorem dX9_remembers_22 : decode cX9_remembers 22 = .ok (.iload_n 1, 1) := by decide +kernel
theorem dX9_remembers_23 : decode cX9_remembers 23 = .ok (.aload_n 0, 1) := by decide +kernel
theorem dX9_remembers_24 : decode cX9_remembers 24 = .ok (.getfield 51, 3) := by decide +kernel
theorem dX9_remembers_27 : decode cX9_remembers 27 = .ok (.iload_n 1, 1) := by decide +kernel
theorem dX9_remembers_28 : decode cX9_remembers 28 = .ok (.sipush 262, 3) := by decide +kernel
theorem dX9_remembers_31 : decode cX9_remembers 31 = .ok (.iadd, 1) := by decide +kernel
theorem dX9_remembers_32 : decode cX9_remembers 32 = .ok (.iaload, 1) := by decide +kernel
theorem dX9_remembers_33 : decode cX9_remembers 33 = .ok (.iastore, 1) := by decide +kernel
theorem dX9_remembers_34 : decode cX9_remembers 34 = .ok (.iinc 1 1, 3) := by decide +kernel
theorem dX9_remembers_37 : decode cX9_remembers 37 = .ok (.goto (-26), 3) := by decide +kernel
theorem dX9_remembers_40 : decode cX9_remembers 40 = .ok (.aload_n 0, 1) := by decide +kernel
theorem dX9_remembers_41 : decode cX9_remembers 41 = .ok (.dup, 1) := by decide +kernel
theorem dX9_remembers_42 : decode cX9_remembers 42 = .ok (.getfield 349, 3) := by decide +kernel
theorem dX9_remembers_45 : decode cX9_remembers 45 = .ok (.iconst 1, 1) := by decide +kernel
theorem dX9_remembers_46 : decode cX9_remembers 46 = .ok (.isub, 1) := by decide +kernel
theorem dX9_remembers_47 : decode cX9_remembers 47 = .ok (.putfield 349, 3) := by decide +kernel
theorem dX9_remembers_50 : decode cX9_remembers 50 = .ok (.aload_n 0, 1) := by decide +kernel
theorem dX9_remembers_51 : decode cX9_remembers 51 = .ok (.aload_n 0, 1) := by decide +kernel
theorem dX9_remembers_52 : decode cX9_remembers 52 = .ok (.getfield 51, 3) := by decide +kernel
theorem dX9_remembers_55 : decode cX9_remembers 55 = .ok (.sipush 262, 3) := by decide +kernel
theorem dX9_remembers_58 : decode cX9_remembers 58 = .ok (.aload_n 0, 1) := by decide +kernel
theorem dX9_remembers_59 : decode cX9_remembers 59 = .ok (.getfield 349, 3) := by decide +kernel
theorem dX9_remembers_62 : decode cX9_remembers 62 = .ok (.imul, 1) := by decide +kernel
theorem dX9_remembers_63 : decode cX9_remembers 63 = .ok (.iconst 1, 1) := by decide +kernel
theorem dX9_remembers_64 : decode cX9_remembers 64 = .ok (.invokevirtual 352, 3) := by decide +kernel
theorem dX9_remembers_67 : decode cX9_remembers 67 = .ok (.aload_n 0, 1) := by decide +kernel
theorem dX9_remembers_68 : decode cX9_remembers 68 = .ok (.dup, 1) := by decide +kernel
theorem dX9_remembers_69 : decode cX9_remembers 69 = .ok (.getfield 349, 3) := by decide +kernel
theorem dX9_remembers_72 : decode cX9_remembers 72 = .ok (.iconst 1, 1) := by decide +kernel
theorem dX9_remembers_73 : decode cX9_remembers 73 = .ok (.iadd, 1) := by decide +kernel
theorem dX9_remembers_74 : decode cX9_remembers 74 = .ok (.putfield 349, 3) := by decide +kernel
theorem dX9_remembers_77 : decode cX9_remembers 77 = .ok (.return_, 1) := by decide +kernel
set_option maxRecDepth 20000 in
theorem dX9_undo_0 : decode cX9_undo 0 = .ok (.aload_n 0, 1) := by decide +kernel
theorem dX9_undo_1 : decode cX9_undo 1 = .ok (.getfield 349, 3) := by decide +kernel
theorem dX9_undo_4 : decode cX9_undo 4 = .ok (.ifCond .ne 9, 3) := by decide +kernel
theorem dX9_undo_7 : decode cX9_undo 7 = .ok (.aload_n 0, 1) := by decide +kernel
theorem dX9_undo_8 : decode cX9_undo 8 = .ok (.iconst 1, 1) := by decide +kernel
theorem dX9_undo_9 : decode cX9_undo 9 = .ok (.invokevirtual 143, 3) := by decide +kernel
theorem dX9_undo_12 : decode cX9_undo 12 = .ok (.ireturn, 1) := by decide +kernel
theorem dX9_undo_13 : decode cX9_undo 13 = .ok (.aload_n 0, 1) := by decide +kernel
theorem dX9_undo_14 : decode cX9_undo 14 = .ok (.iconst 0, 1) := by decide +kernel
theorem dX9_undo_15 : decode cX9_undo 15 = .ok (.putfield 67, 3) := by decide +kernel
theorem dX9_undo_18 : decode cX9_undo 18 = .ok (.aload_n 0, 1) := by decide +kernel
theorem dX9_undo_19 : decode cX9_undo 19 = .ok (.dup, 1) := by decide +kernel
theorem dX9_undo_20 : decode cX9_undo 20 = .ok (.getfield 349, 3) := by decide +kernel
theorem dX9_undo_23 : decode cX9_undo 23 = .ok (.iconst 1, 1) := by decide +kernel
theorem dX9_undo_24 : decode cX9_undo 24 = .ok (.isub, 1) := by decide +kernel
theorem dX9_undo_25 : decode cX9_undo 25 = .ok (.putfield 349, 3) := by decide +kernel
theorem dX9_undo_28 : decode cX9_undo 28 = .ok (.aload_n 0, 1) := by decide +kernel
theorem dX9_undo_29 : decode cX9_undo 29 = .ok (.aload_n 0, 1) := by decide +kernel
theorem dX9_undo_30 : decode cX9_undo 30 = .ok (.getfield 51, 3) := by decide +kernel
theorem dX9_undo_33 : decode cX9_undo 33 = .ok (.sipush 262, 3) := by decide +kernel
theorem dX9_undo_36 : decode cX9_undo 36 = .ok (.aload_n 0, 1) := by decide +kernel
theorem dX9_undo_37 : decode cX9_undo 37 = .ok (.getfield 349, 3) := by decide +kernel
theorem dX9_undo_40 : decode cX9_undo 40 = .ok (.imul, 1) := by decide +kernel
theorem dX9_undo_41 : decode cX9_undo 41 = .ok (.iconst 0, 1) := by decide +kernel
theorem dX9_undo_42 : decode cX9_undo 42 = .ok (.invokevirtual 352, 3) := by decide +kernel
theorem dX9_undo_45 : decode cX9_undo 45 = .ok (.aload_n 0, 1) := by decide +kernel
theorem dX9_undo_46 : decode cX9_undo 46 = .ok (.getfield 349, 3) := by decide +kernel
theorem dX9_undo_49 : decode cX9_undo 49 = .ok (.ireturn, 1) := by decide +kernel
set_option maxRecDepth 20000 in
theorem dX9_save_0 : decode cX9_save 0 = .ok (.aload_n 0, 1) := by decide +kernel
theorem dX9_save_1 : decode cX9_save 1 = .ok (.iconst 0, 1) := by decide +kernel
theorem dX9_save_2 : decode cX9_save 2 = .ok (.putfield 67, 3) := by decide +kernel
theorem dX9_save_5 : decode cX9_save 5 = .ok (.aload_n 0, 1) := by decide +kernel
theorem dX9_save_6 : decode cX9_save 6 = .ok (.iconst 1, 1) := by decide +kernel
theorem dX9_save_7 : decode cX9_save 7 = .ok (.putfield 356, 3) := by decide +kernel
theorem dX9_save_10 : decode cX9_save 10 = .ok (.aload_n 0, 1) := by decide +kernel
theorem dX9_save_11 : decode cX9_save 11 = .ok (.aload_n 0, 1) := by decide +kernel
theorem dX9_save_12 : decode cX9_save 12 = .ok (.getfield 54, 3) := by decide +kernel
theorem dX9_save_15 : decode cX9_save 15 = .ok (.iconst 0, 1) := by decide +kernel
theorem dX9_save_16 : decode cX9_save 16 = .ok (.iconst 1, 1) := by decide +kernel
theorem dX9_save_17 : decode cX9_save 17 = .ok (.invokevirtual 352, 3) := by decide +kernel
theorem dX9_save_20 : decode cX9_save 20 = .ok (.aload_n 0, 1) := by decide +kernel
theorem dX9_save_21 : decode cX9_save 21 = .ok (.getfield 64, 3) := by decide +kernel
theorem dX9_save_24 : decode cX9_save 24 = .ok (.ireturn, 1) := by decide +kernel
set_option maxRecDepth 20000 in
theorem dX9_restore_0 : decode cX9_restore 0 = .ok (.aload_n 0, 1) := by decide +kernel
theorem dX9_restore_1 : decode cX9_restore 1 = .ok (.getfield 356, 3) := by decide +kernel
theorem dX9_restore_4 : decode cX9_restore 4 = .ok (.ifCond .ne 9, 3) := by decide +kernel
theorem dX9_restore_7 : decode cX9_restore 7 = .ok (.aload_n 0, 1) := by decide +kernel
theorem dX9_restore_8 : decode cX9_restore 8 = .ok (.iconst 1, 1) := by decide +kernel
theorem dX9_restore_9 : decode cX9_restore 9 = .ok (.invokevirtual 143, 3) := by decide +kernel
theorem dX9_restore_12 : decode cX9_restore 12 = .ok (.ireturn, 1) := by decide +kernel
theorem dX9_restore_13 : decode cX9_restore 13 = .ok (.aload_n 0, 1) := by decide +kernel
theorem dX9_restore_14 : decode cX9_restore 14 = .ok (.iconst 0, 1) := by decide +kernel
theorem dX9_restore_15 : decode cX9_restore 15 = .ok (.putfield 67, 3) := by decide +kernel
theorem dX9_restore_18 : decode cX9_restore 18 = .ok (.aload_n 0, 1) := by decide +kernel
theorem dX9_restore_19 : decode cX9_restore 19 = .ok (.invokevirtual 218, 3) := by decide +kernel
theorem dX9_restore_22 : decode cX9_restore 22 = .ok (.aload_n 0, 1) := by decide +kernel
theorem dX9_restore_23 : decode cX9_restore 23 = .ok (.aload_n 0, 1) := by decide +kernel
theorem dX9_restore_24 : decode cX9_restore 24 = .ok (.getfield 54, 3) := by decide +kernel
theorem dX9_restore_27 : decode cX9_restore 27 = .ok (.iconst 0, 1) := by decide +kernel
theorem dX9_restore_28 : decode cX9_restore 28 = .ok (.iconst 0, 1) := by decide +kernel
theorem dX9_restore_29 : decode cX9_restore 29 = .ok (.invokevirtual 352, 3) := by decide +kernel
theorem dX9_restore_32 : decode cX9_restore 32 = .ok (.aload_n 0, 1) := by decide +kernel
theorem dX9_restore_33 : decode cX9_restore 33 = .ok (.getfield 64, 3) := by decide +kernel
theorem dX9_restore_36 : decode cX9_restore 36 = .ok (.ireturn, 1) := by decide +kernel
set_option maxRecDepth 20000 in
theorem dL_appendCharacter_0 : decode cL_appendCharacter 0 = .ok (.aload_n 2, 1) := by decide +kernel
theorem dL_appendCharacter_1 : decode cL_appendCharacter 1 = .ok (.iconst 0, 1) := by decide +kernel
theorem dL_appendCharacter_2 : decode cL_appendCharacter 2 = .ok (.aload_n 0, 1) := by decide +kernel
theorem dL_appendCharacter_3 : decode cL_appendCharacter 3 = .ok (.iload_n 1, 1) := by decide +kernel
theorem dL_appendCharacter_4 : decode cL_appendCharacter 4 = .ok (.invokevirtual 7, 3) := by decide +kernel
theorem dL_appendCharacter_7 : decode cL_appendCharacter 7 = .ok (.i2l, 1) := by decide +kernel
theorem dL_appendCharacter_8 : decode cL_appendCharacter 8 = .ok (.lastore, 1) := by decide +kernel
theorem dL_appendCharacter_9 : decode cL_appendCharacter 9 = .ok (.goto 9, 3) := by decide +kernel
theorem dL_appendCharacter_12 : decode cL_appendCharacter 12 = .ok (.astore_n 3, 1) := by decide +kernel
theorem dL_appendCharacter_13 : decode cL_appendCharacter 13 = .ok (.iconst 1, 1) := by decide +kernel
theorem dL_appendCharacter_14 : decode cL_appendCharacter 14 = .ok (.ireturn, 1) := by decide +kernel
theorem dL_appendCharacter_15 : decode cL_appendCharacter 15 = .ok (.astore_n 3, 1) := by decide +kernel
theorem dL_appendCharacter_16 : decode cL_appendCharacter 16 = .ok (.iconst 2, 1) := by decide +kernel
theorem dL_appendCharacter_17 : decode cL_appendCharacter 17 = .ok (.ireturn, 1) := by decide +kernel
theorem dL_appendCharacter_18 : decode cL_appendCharacter 18 = .ok (.iconst 0, 1) := by decide +kernel
theorem dL_appendCharacter_19 : decode cL_appendCharacter 19 = .ok (.ireturn, 1) := by decide +kernel
set_option maxRecDepth 20000 in
theorem dL_setCalendar_0 : decode cL_setCalendar 0 = .ok (.aload_n 2, 1) := by decide +kernel
theorem dL_setCalendar_1 : decode cL_setCalendar 1 = .ok (.iconst 0, 1) := by decide +kernel
theorem dL_setCalendar_2 : decode cL_setCalendar 2 = .ok (.aload_n 0, 1) := by decide +kernel
theorem dL_setCalendar_3 : decode cL_setCalendar 3 = .ok (.iload_n 1, 1) := by decide +kernel
theorem dL_setCalendar_4 : decode cL_setCalendar 4 = .ok (.invokevirtual 17, 3) := by decide +kernel
theorem dL_setCalendar_7 : decode cL_setCalendar 7 = .ok (.i2l, 1) := by decide +kernel
theorem dL_setCalendar_8 : decode cL_setCalendar 8 = .ok (.lastore, 1) := by decide +kernel
theorem dL_setCalendar_9 : decode cL_setCalendar 9 = .ok (.goto 12, 3) := by decide +kernel
theorem dL_setCalendar_12 : decode cL_setCalendar 12 = .ok (.astore_n 3, 1) := by decide +kernel
theorem dL_setCalendar_13 : decode cL_setCalendar 13 = .ok (.iconst 1, 1) := by decide +kernel
theorem dL_setCalendar_14 : decode cL_setCalendar 14 = .ok (.ireturn, 1) := by decide +kernel
theorem dL_setCalendar_15 : decode cL_setCalendar 15 = .ok (.astore_n 3, 1) := by decide +kernel
theorem dL_setCalendar_16 : decode cL_setCalendar 16 = .ok (.iconst 2, 1) := by decide +kernel
theorem dL_setCalendar_17 : decode cL_setCalendar 17 = .ok (.ireturn, 1) := by decide +kernel
theorem dL_setCalendar_18 : decode cL_setCalendar 18 = .ok (.astore_n 3, 1) := by decide +kernel
theorem dL_setCalendar_19 : decode cL_setCalendar 19 = .ok (.iconst 3, 1) := by decide +kernel
theorem dL_setCalendar_20 : decode cL_setCalendar 20 = .ok (.ireturn, 1) := by decide +kernel
theorem dL_setCalendar_21 : decode cL_setCalendar 21 = .ok (.iconst 0, 1) := by decide +kernel
theorem dL_setCalendar_22 : decode cL_setCalendar 22 = .ok (.ireturn, 1) := by decide +kernel
set_option maxRecDepth 20000 in
theorem dL_calendar_0 : decode cL_calendar 0 = .ok (.aload_n 3, 1) := by decide +kernel
theorem dL_calendar_1 : decode cL_calendar 1 = .ok (.iconst 0, 1) := by decide +kernel
theorem dL_calendar_2 : decode cL_calendar 2 = .ok (.aload_n 0, 1) := by decide +kernel
theorem dL_calendar_3 : decode cL_calendar 3 = .ok (.iload_n 1, 1) := by decide +kernel
theorem dL_calendar_4 : decode cL_calendar 4 = .ok (.iload_n 2, 1) := by decide +kernel
theorem dL_calendar_5 : decode cL_calendar 5 = .ok (.invokevirtual 22, 3) := by decide +kernel
theorem dL_calendar_8 : decode cL_calendar 8 = .ok (.i2l, 1) := by decide +kernel
theorem dL_calendar_9 : decode cL_calendar 9 = .ok (.lastore, 1) := by decide +kernel
theorem dL_calendar_10 : decode cL_calendar 10 = .ok (.goto 11, 3) := by decide +kernel
theorem dL_calendar_13 : decode cL_calendar 13 = .ok (.astore 4, 2) := by decide +kernel
theorem dL_calendar_15 : decode cL_calendar 15 = .ok (.iconst 1, 1) := by decide +kernel
theorem dL_calendar_16 : decode cL_calendar 16 = .ok (.ireturn, 1) := by decide +kernel
theorem dL_calendar_17 : decode cL_calendar 17 = .ok (.astore 4, 2) := by decide +kernel
theorem dL_calendar_19 : decode cL_calendar 19 = .ok (.iconst 2, 1) := by decide +kernel
theorem dL_calendar_20 : decode cL_calendar 20 = .ok (.ireturn, 1) := by decide +kernel
theorem dL_calendar_21 : decode cL_calendar 21 = .ok (.iconst 0, 1) := by decide +kernel
theorem dL_calendar_22 : decode cL_calendar 22 = .ok (.ireturn, 1) := by decide +kernel
set_option maxRecDepth 20000 in
theorem dL_isLeapYear_0 : decode cL_isLeapYear 0 = .ok (.aload_n 3, 1) := by decide +kernel
theorem dL_isLeapYear_1 : decode cL_isLeapYear 1 = .ok (.iconst 0, 1) := by decide +kernel
theorem dL_isLeapYear_2 : decode cL_isLeapYear 2 = .ok (.aload_n 0, 1) := by decide +kernel
theorem dL_isLeapYear_3 : decode cL_isLeapYear 3 = .ok (.iload_n 1, 1) := by decide +kernel
theorem dL_isLeapYear_4 : decode cL_isLeapYear 4 = .ok (.iload_n 2, 1) := by decide +kernel
theorem dL_isLeapYear_5 : decode cL_isLeapYear 5 = .ok (.invokevirtual 26, 3) := by decide +kernel
theorem dL_isLeapYear_8 : decode cL_isLeapYear 8 = .ok (.ifCond .eq 7, 3) := by decide +kernel
theorem dL_isLeapYear_11 : decode cL_isLeapYear 11 = .ok (.lconst 1, 1) := by decide +kernel
theorem dL_isLeapYear_12 : decode cL_isLeapYear 12 = .ok (.goto 4, 3) := by decide +kernel
theorem dL_isLeapYear_15 : decode cL_isLeapYear 15 = .ok (.lconst 0, 1) := by decide +kernel
theorem dL_isLeapYear_16 : decode cL_isLeapYear 16 = .ok (.lastore, 1) := by decide +kernel
theorem dL_isLeapYear_17 : decode cL_isLeapYear 17 = .ok (.goto 11, 3) := by decide +kernel
theorem dL_isLeapYear_20 : decode cL_isLeapYear 20 = .ok (.astore 4, 2) := by decide +kernel
theorem dL_isLeapYear_22 : decode cL_isLeapYear 22 = .ok (.iconst 1, 1) := by decide +kernel
theorem dL_isLeapYear_23 : decode cL_isLeapYear 23 = .ok (.ireturn, 1) := by decide +kernel
theorem dL_isLeapYear_24 : decode cL_isLeapYear 24 = .ok (.astore 4, 2) := by decide +kernel
theorem dL_isLeapYear_26 : decode cL_isLeapYear 26 = .ok (.iconst 2, 1) := by decide +kernel
theorem dL_isLeapYear_27 : decode cL_isLeapYear 27 = .ok (.ireturn, 1) := by decide +kernel
theorem dL_isLeapYear_28 : decode cL_isLeapYear 28 = .ok (.iconst 0, 1) := by decide +kernel
theorem dL_isLeapYear_29 : decode cL_isLeapYear 29 = .ok (.ireturn, 1) := by decide +kernel
set_option maxRecDepth 20000 in
theorem dL_months_0 : decode cL_months 0 = .ok (.aload_n 3, 1) := by decide +kernel
theorem dL_months_1 : decode cL_months 1 = .ok (.iconst 0, 1) := by decide +kernel
theorem dL_months_2 : decode cL_months 2 = .ok (.aload_n 0, 1) := by decide +kernel
theorem dL_months_3 : decode cL_months 3 = .ok (.iload_n 1, 1) := by decide +kernel
theorem dL_months_4 : decode cL_months 4 = .ok (.iload_n 2, 1) := by decide +kernel
theorem dL_months_5 : decode cL_months 5 = .ok (.invokevirtual 30, 3) := by decide +kernel
theorem dL_months_8 : decode cL_months 8 = .ok (.i2l, 1) := by decide +kernel
theorem dL_months_9 : decode cL_months 9 = .ok (.lastore, 1) := by decide +kernel
theorem dL_months_10 : decode cL_months 10 = .ok (.goto 11, 3) := by decide +kernel
theorem dL_months_13 : decode cL_months 13 = .ok (.astore 4, 2) := by decide +kernel
theorem dL_months_15 : decode cL_months 15 = .ok (.iconst 1, 1) := by decide +kernel
theorem dL_months_16 : decode cL_months 16 = .ok (.ireturn, 1) := by decide +kernel
theorem dL_months_17 : decode cL_months 17 = .ok (.astore 4, 2) := by decide +kernel
theorem dL_months_19 : decode cL_months 19 = .ok (.iconst 2, 1) := by decide +kernel
theorem dL_months_20 : decode cL_months 20 = .ok (.ireturn, 1) := by decide +kernel
theorem dL_months_21 : decode cL_months 21 = .ok (.iconst 0, 1) := by decide +kernel
theorem dL_months_22 : decode cL_months 22 = .ok (.ireturn, 1) := by decide +kernel
set_option maxRecDepth 20000 in
theorem dL_monthLength_0 : decode cL_monthLength 0 = .ok (.aload 4, 2) := by decide +kernel
theorem dL_monthLength_2 : decode cL_monthLength 2 = .ok (.iconst 0, 1) := by decide +kernel
theorem dL_monthLength_3 : decode cL_monthLength 3 = .ok (.aload_n 0, 1) := by decide +kernel
theorem dL_monthLength_4 : decode cL_monthLength 4 = .ok (.iload_n 1, 1) := by decide +kernel
theorem dL_monthLength_5 : decode cL_monthLength 5 = .ok (.iload_n 2, 1) := by decide +kernel
theorem dL_monthLength_6 : decode cL_monthLength 6 = .ok (.iload_n 3, 1) := by decide +kernel
theorem dL_monthLength_7 : decode cL_monthLength 7 = .ok (.invokevirtual 33, 3) := by decide +kernel
theorem dL_monthLength_10 : decode cL_monthLength 10 = .ok (.i2l, 1) := by decide +kernel
theorem dL_monthLength_11 : decode cL_monthLength 11 = .ok (.lastore, 1) := by decide +kernel
theorem dL_monthLength_12 : decode cL_monthLength 12 = .ok (.goto 11, 3) := by decide +kernel
theorem dL_monthLength_15 : decode cL_monthLength 15 = .ok (.astore 5, 2) := by decide +kernel
theorem dL_monthLength_17 : decode cL_monthLength 17 = .ok (.iconst 1, 1) := by decide +kernel
theorem dL_monthLength_18 : decode cL_monthLength 18 = .ok (.ireturn, 1) := by decide +kernel
theorem dL_monthLength_19 : decode cL_monthLength 19 = .ok (.astore 5, 2) := by decide +kernel
theorem dL_monthLength_21 : decode cL_monthLength 21 = .ok (.iconst 2, 1) := by decide +kernel
theorem dL_monthLength_22 : decode cL_monthLength 22 = .ok (.ireturn, 1) := by decide +kernel
theorem dL_monthLength_23 : decode cL_monthLength 23 = .ok (.iconst 0, 1) := by decide +kernel
theorem dL_monthLength_24 : decode cL_monthLength 24 = .ok (.ireturn, 1) := by decide +kernel
set_option maxRecDepth 20000 in
theorem dL_isIntercalary_0 : decode cL_isIntercalary 0 = .ok (.aload 4, 2) := by decide +kernel
theorem dL_isIntercalary_2 : decode cL_isIntercalary 2 = .ok (.iconst 0, 1) := by decide +kernel
theorem dL_isIntercalary_3 : decode cL_isIntercalary 3 = .ok (.aload_n 0, 1) := by decide +kernel
theorem dL_isIntercalary_4 : decode cL_isIntercalary 4 = .ok (.iload_n 1, 1) := by decide +kernel
theorem dL_isIntercalary_5 : decode cL_isIntercalary 5 = .ok (.iload_n 2, 1) := by decide +kernel
theorem dL_isIntercalary_6 : decode cL_isIntercalary 6 = .ok (.iload_n 3, 1) := by decide +kernel
theorem dL_isIntercalary_7 : decode cL_isIntercalary 7 = .ok (.invokevirtual 37, 3) := by decide +kernel
theorem dL_isIntercalary_10 : decode cL_isIntercalary 10 = .ok (.ifCond .eq 7, 3) := by decide +kernel
theorem dL_isIntercalary_13 : decode cL_isIntercalary 13 = .ok (.lconst 1, 1) := by decide +kernel
theorem dL_isIntercalary_14 : decode cL_isIntercalary 14 = .ok (.goto 4, 3) := by decide +kernel
theorem dL_isIntercalary_17 : decode cL_isIntercalary 17 = .ok (.lconst 0, 1) := by decide +kernel
theorem dL_isIntercalary_18 : decode cL_isIntercalary 18 = .ok (.lastore, 1) := by decide +kernel
theorem dL_isIntercalary_19 : decode cL_isIntercalary 19 = .ok (.goto 11, 3) := by decide +kernel
theorem dL_isIntercalary_22 : decode cL_isIntercalary 22 = .ok (.astore 5, 2) := by decide +kernel
theorem dL_isIntercalary_24 : decode cL_isIntercalary 24 = .ok (.iconst 1, 1) := by decide +kernel
theorem dL_isIntercalary_25 : decode cL_isIntercalary 25 = .ok (.ireturn, 1) := by decide +kernel
theorem dL_isIntercalary_26 : decode cL_isIntercalary 26 = .ok (.astore 5, 2) := by decide +kernel
theorem dL_isIntercalary_28 : decode cL_isIntercalary 28 = .ok (.iconst 2, 1) := by decide +kernel
theorem dL_isIntercalary_29 : decode cL_isIntercalary 29 = .ok (.ireturn, 1) := by decide +kernel
theorem dL_isIntercalary_30 : decode cL_isIntercalary 30 = .ok (.iconst 0, 1) := by decide +kernel
theorem dL_isIntercalary_31 : decode cL_isIntercalary 31 = .ok (.ireturn, 1) := by decide +kernel
set_option maxRecDepth 20000 in
theorem dL_yearLength_0 : decode cL_yearLength 0 = .ok (.aload_n 3, 1) := by decide +kernel
theorem dL_yearLength_1 : decode cL_yearLength 1 = .ok (.iconst 0, 1) := by decide +kernel
theorem dL_yearLength_2 : decode cL_yearLength 2 = .ok (.aload_n 0, 1) := by decide +kernel
theorem dL_yearLength_3 : decode cL_yearLength 3 = .ok (.iload_n 1, 1) := by decide +kernel
theorem dL_yearLength_4 : decode cL_yearLength 4 = .ok (.iload_n 2, 1) := by decide +kernel
theorem dL_yearLength_5 : decode cL_yearLength 5 = .ok (.invokevirtual 41, 3) := by decide +kernel
theorem dL_yearLength_8 : decode cL_yearLength 8 = .ok (.i2l, 1) := by decide +kernel
theorem dL_yearLength_9 : decode cL_yearLength 9 = .ok (.lastore, 1) := by decide +kernel
theorem dL_yearLength_10 : decode cL_yearLength 10 = .ok (.goto 11, 3) := by decide +kernel
theorem dL_yearLength_13 : decode cL_yearLength 13 = .ok (.astore 4, 2) := by decide +kernel
theorem dL_yearLength_15 : decode cL_yearLength 15 = .ok (.iconst 1, 1) := by decide +kernel
theorem dL_yearLength_16 : decode cL_yearLength 16 = .ok (.ireturn, 1) := by decide +kernel
theorem dL_yearLength_17 : decode cL_yearLength 17 = .ok (.astore 4, 2) := by decide +kernel
theorem dL_yearLength_19 : decode cL_yearLength 19 = .ok (.iconst 2, 1) := by decide +kernel
theorem dL_yearLength_20 : decode cL_yearLength 20 = .ok (.ireturn, 1) := by decide +kernel
theorem dL_yearLength_21 : decode cL_yearLength 21 = .ok (.iconst 0, 1) := by decide +kernel
theorem dL_yearLength_22 : decode cL_yearLength 22 = .ok (.ireturn, 1) := by decide +kernel
set_option maxRecDepth 20000 in
theorem dL_firstDay_0 : decode cL_firstDay 0 = .ok (.aload_n 3, 1) := by decide +kernel
theorem dL_firstDay_1 : decode cL_firstDay 1 = .ok (.iconst 0, 1) := by decide +kernel
theorem dL_firstDay_2 : decode cL_firstDay 2 = .ok (.aload_n 0, 1) := by decide +kernel
theorem dL_firstDay_3 : decode cL_firstDay 3 = .ok (.iload_n 1, 1) := by decide +kernel
theorem dL_firstDay_4 : decode cL_firstDay 4 = .ok (.iload_n 2, 1) := by decide +kernel
theorem dL_firstDay_5 : decode cL_firstDay 5 = .ok (.invokevirtual 44, 3) := by decide +kernel
theorem dL_firstDay_8 : decode cL_firstDay 8 = .ok (.i2l, 1) := by decide +kernel
theorem dL_firstDay_9 : decode cL_firstDay 9 = .ok (.lastore, 1) := by decide +kernel
theorem dL_firstDay_10 : decode cL_firstDay 10 = .ok (.goto 11, 3) := by decide +kernel
theorem dL_firstDay_13 : decode cL_firstDay 13 = .ok (.astore 4, 2) := by decide +kernel
theorem dL_firstDay_15 : decode cL_firstDay 15 = .ok (.iconst 1, 1) := by decide +kernel
theorem dL_firstDay_16 : decode cL_firstDay 16 = .ok (.ireturn, 1) := by decide +kernel
theorem dL_firstDay_17 : decode cL_firstDay 17 = .ok (.astore 4, 2) := by decide +kernel
theorem dL_firstDay_19 : decode cL_firstDay 19 = .ok (.iconst 2, 1) := by decide +kernel
theorem dL_firstDay_20 : decode cL_firstDay 20 = .ok (.ireturn, 1) := by decide +kernel
theorem dL_firstDay_21 : decode cL_firstDay 21 = .ok (.iconst 0, 1) := by decide +kernel
theorem dL_firstDay_22 : decode cL_firstDay 22 = .ok (.ireturn, 1) := by decide +kernel
set_option maxRecDepth 20000 in
theorem dL_dayOf_0 : decode cL_dayOf 0 = .ok (.aload 5, 2) := by decide +kernel
theorem dL_dayOf_2 : decode cL_dayOf 2 = .ok (.iconst 0, 1) := by decide +kernel
theorem dL_dayOf_3 : decode cL_dayOf 3 = .ok (.aload_n 0, 1) := by decide +kernel
theorem dL_dayOf_4 : decode cL_dayOf 4 = .ok (.iload_n 1, 1) := by decide +kernel
theorem dL_dayOf_5 : decode cL_dayOf 5 = .ok (.iload_n 2, 1) := by decide +kernel
theorem dL_dayOf_6 : decode cL_dayOf 6 = .ok (.iload_n 3, 1) := by decide +kernel
theorem dL_dayOf_7 : decode cL_dayOf 7 = .ok (.iload 4, 2) := by decide +kernel
theorem dL_dayOf_9 : decode cL_dayOf 9 = .ok (.invokevirtual 47, 3) := by decide +kernel
theorem dL_dayOf_12 : decode cL_dayOf 12 = .ok (.i2l, 1) := by decide +kernel
theorem dL_dayOf_13 : decode cL_dayOf 13 = .ok (.lastore, 1) := by decide +kernel
theorem dL_dayOf_14 : decode cL_dayOf 14 = .ok (.goto 11, 3) := by decide +kernel
theorem dL_dayOf_17 : decode cL_dayOf 17 = .ok (.astore 6, 2) := by decide +kernel
theorem dL_dayOf_19 : decode cL_dayOf 19 = .ok (.iconst 1, 1) := by decide +kernel
theorem dL_dayOf_20 : decode cL_dayOf 20 = .ok (.ireturn, 1) := by decide +kernel
theorem dL_dayOf_21 : decode cL_dayOf 21 = .ok (.astore 6, 2) := by decide +kernel
theorem dL_dayOf_23 : decode cL_dayOf 23 = .ok (.iconst 2, 1) := by decide +kernel
theorem dL_dayOf_24 : decode cL_dayOf 24 = .ok (.ireturn, 1) := by decide +kernel
theorem dL_dayOf_25 : decode cL_dayOf 25 = .ok (.iconst 0, 1) := by decide +kernel
theorem dL_dayOf_26 : decode cL_dayOf 26 = .ok (.ireturn, 1) := by decide +kernel
set_option maxRecDepth 20000 in
theorem dL_date_0 : decode cL_date 0 = .ok (.aload 4, 2) := by decide +kernel
theorem dL_date_2 : decode cL_date 2 = .ok (.iconst 0, 1) := by decide +kernel
theorem dL_date_3 : decode cL_date 3 = .ok (.aload_n 0, 1) := by decide +kernel
theorem dL_date_4 : decode cL_date 4 = .ok (.iload_n 1, 1) := by decide +kernel
theorem dL_date_5 : decode cL_date 5 = .ok (.iload_n 2, 1) := by decide +kernel
theorem dL_date_6 : decode cL_date 6 = .ok (.iload_n 3, 1) := by decide +kernel
theorem dL_date_7 : decode cL_date 7 = .ok (.invokevirtual 51, 3) := by decide +kernel
theorem dL_date_10 : decode cL_date 10 = .ok (.i2l, 1) := by decide +kernel
theorem dL_date_11 : decode cL_date 11 = .ok (.lastore, 1) := by decide +kernel
theorem dL_date_12 : decode cL_date 12 = .ok (.goto 15, 3) := by decide +kernel
theorem dL_date_15 : decode cL_date 15 = .ok (.astore 5, 2) := by decide +kernel
theorem dL_date_17 : decode cL_date 17 = .ok (.iconst 1, 1) := by decide +kernel
theorem dL_date_18 : decode cL_date 18 = .ok (.ireturn, 1) := by decide +kernel
theorem dL_date_19 : decode cL_date 19 = .ok (.astore 5, 2) := by decide +kernel
theorem dL_date_21 : decode cL_date 21 = .ok (.iconst 2, 1) := by decide +kernel
theorem dL_date_22 : decode cL_date 22 = .ok (.ireturn, 1) := by decide +kernel
theorem dL_date_23 : decode cL_date 23 = .ok (.astore 5, 2) := by decide +kernel
theorem dL_date_25 : decode cL_date 25 = .ok (.iconst 3, 1) := by decide +kernel
theorem dL_date_26 : decode cL_date 26 = .ok (.ireturn, 1) := by decide +kernel
theorem dL_date_27 : decode cL_date 27 = .ok (.iconst 0, 1) := by decide +kernel
theorem dL_date_28 : decode cL_date 28 = .ok (.ireturn, 1) := by decide +kernel
set_option maxRecDepth 20000 in
theorem dL_convert_0 : decode cL_convert 0 = .ok (.aload 7, 2) := by decide +kernel
theorem dL_convert_2 : decode cL_convert 2 = .ok (.iconst 0, 1) := by decide +kernel
theorem dL_convert_3 : decode cL_convert 3 = .ok (.aload_n 0, 1) := by decide +kernel
theorem dL_convert_4 : decode cL_convert 4 = .ok (.iload_n 1, 1) := by decide +kernel
theorem dL_convert_5 : decode cL_convert 5 = .ok (.iload_n 2, 1) := by decide +kernel
theorem dL_convert_6 : decode cL_convert 6 = .ok (.iload_n 3, 1) := by decide +kernel
theorem dL_convert_7 : decode cL_convert 7 = .ok (.iload 4, 2) := by decide +kernel
theorem dL_convert_9 : decode cL_convert 9 = .ok (.iload 5, 2) := by decide +kernel
theorem dL_convert_11 : decode cL_convert 11 = .ok (.iload 6, 2) := by decide +kernel
theorem dL_convert_13 : decode cL_convert 13 = .ok (.invokevirtual 56, 3) := by decide +kernel
theorem dL_convert_16 : decode cL_convert 16 = .ok (.i2l, 1) := by decide +kernel
theorem dL_convert_17 : decode cL_convert 17 = .ok (.lastore, 1) := by decide +kernel
theorem dL_convert_18 : decode cL_convert 18 = .ok (.goto 15, 3) := by decide +kernel
theorem dL_convert_21 : decode cL_convert 21 = .ok (.astore 8, 2) := by decide +kernel
theorem dL_convert_23 : decode cL_convert 23 = .ok (.iconst 1, 1) := by decide +kernel
theorem dL_convert_24 : decode cL_convert 24 = .ok (.ireturn, 1) := by decide +kernel
theorem dL_convert_25 : decode cL_convert 25 = .ok (.astore 8, 2) := by decide +kernel
theorem dL_convert_27 : decode cL_convert 27 = .ok (.iconst 2, 1) := by decide +kernel
theorem dL_convert_28 : decode cL_convert 28 = .ok (.ireturn, 1) := by decide +kernel
theorem dL_convert_29 : decode cL_convert 29 = .ok (.astore 8, 2) := by decide +kernel
theorem dL_convert_31 : decode cL_convert 31 = .ok (.iconst 3, 1) := by decide +kernel
theorem dL_convert_32 : decode cL_convert 32 = .ok (.ireturn, 1) := by decide +kernel
theorem dL_convert_33 : decode cL_convert 33 = .ok (.iconst 0, 1) := by decide +kernel
theorem dL_convert_34 : decode cL_convert 34 = .ok (.ireturn, 1) := by decide +kernel
set_option maxRecDepth 20000 in
theorem dL_week_0 : decode cL_week 0 = .ok (.aload 4, 2) := by decide +kernel
theorem dL_week_2 : decode cL_week 2 = .ok (.iconst 0, 1) := by decide +kernel
theorem dL_week_3 : decode cL_week 3 = .ok (.aload_n 0, 1) := by decide +kernel
theorem dL_week_4 : decode cL_week 4 = .ok (.iload_n 1, 1) := by decide +kernel
theorem dL_week_5 : decode cL_week 5 = .ok (.iload_n 2, 1) := by decide +kernel
theorem dL_week_6 : decode cL_week 6 = .ok (.iload_n 3, 1) := by decide +kernel
theorem dL_week_7 : decode cL_week 7 = .ok (.invokevirtual 60, 3) := by decide +kernel
theorem dL_week_10 : decode cL_week 10 = .ok (.i2l, 1) := by decide +kernel
theorem dL_week_11 : decode cL_week 11 = .ok (.lastore, 1) := by decide +kernel
theorem dL_week_12 : decode cL_week 12 = .ok (.goto 15, 3) := by decide +kernel
theorem dL_week_15 : decode cL_week 15 = .ok (.astore 5, 2) := by decide +kernel
theorem dL_week_17 : decode cL_week 17 = .ok (.iconst 1, 1) := by decide +kernel
theorem dL_week_18 : decode cL_week 18 = .ok (.ireturn, 1) := by decide +kernel
theorem dL_week_19 : decode cL_week 19 = .ok (.astore 5, 2) := by decide +kernel
theorem dL_week_21 : decode cL_week 21 = .ok (.iconst 2, 1) := by decide +kernel
theorem dL_week_22 : decode cL_week 22 = .ok (.ireturn, 1) := by decide +kernel
theorem dL_week_23 : decode cL_week 23 = .ok (.astore 5, 2) := by decide +kernel
theorem dL_week_25 : decode cL_week 25 = .ok (.iconst 3, 1) := by decide +kernel
theorem dL_week_26 : decode cL_week 26 = .ok (.ireturn, 1) := by decide +kernel
theorem dL_week_27 : decode cL_week 27 = .ok (.iconst 0, 1) := by decide +kernel
theorem dL_week_28 : decode cL_week 28 = .ok (.ireturn, 1) := by decide +kernel
set_option maxRecDepth 20000 in
theorem dL_weeks_0 : decode cL_weeks 0 = .ok (.aload_n 3, 1) := by decide +kernel
theorem dL_weeks_1 : decode cL_weeks 1 = .ok (.iconst 0, 1) := by decide +kernel
theorem dL_weeks_2 : decode cL_weeks 2 = .ok (.aload_n 0, 1) := by decide +kernel
theorem dL_weeks_3 : decode cL_weeks 3 = .ok (.iload_n 1, 1) := by decide +kernel
theorem dL_weeks_4 : decode cL_weeks 4 = .ok (.iload_n 2, 1) := by decide +kernel
theorem dL_weeks_5 : decode cL_weeks 5 = .ok (.invokevirtual 63, 3) := by decide +kernel
theorem dL_weeks_8 : decode cL_weeks 8 = .ok (.i2l, 1) := by decide +kernel
theorem dL_weeks_9 : decode cL_weeks 9 = .ok (.lastore, 1) := by decide +kernel
theorem dL_weeks_10 : decode cL_weeks 10 = .ok (.goto 11, 3) := by decide +kernel
theorem dL_weeks_13 : decode cL_weeks 13 = .ok (.astore 4, 2) := by decide +kernel
theorem dL_weeks_15 : decode cL_weeks 15 = .ok (.iconst 1, 1) := by decide +kernel
theorem dL_weeks_16 : decode cL_weeks 16 = .ok (.ireturn, 1) := by decide +kernel
theorem dL_weeks_17 : decode cL_weeks 17 = .ok (.astore 4, 2) := by decide +kernel
theorem dL_weeks_19 : decode cL_weeks 19 = .ok (.iconst 2, 1) := by decide +kernel
theorem dL_weeks_20 : decode cL_weeks 20 = .ok (.ireturn, 1) := by decide +kernel
theorem dL_weeks_21 : decode cL_weeks 21 = .ok (.iconst 0, 1) := by decide +kernel
theorem dL_weeks_22 : decode cL_weeks 22 = .ok (.ireturn, 1) := by decide +kernel
set_option maxRecDepth 20000 in
theorem dL_firstDayOfWeek_0 : decode cL_firstDayOfWeek 0 = .ok (.aload 4, 2) := by decide +kernel
theorem dL_firstDayOfWeek_2 : decode cL_firstDayOfWeek 2 = .ok (.iconst 0, 1) := by decide +kernel
theorem dL_firstDayOfWeek_3 : decode cL_firstDayOfWeek 3 = .ok (.aload_n 0, 1) := by decide +kernel
theorem dL_firstDayOfWeek_4 : decode cL_firstDayOfWeek 4 = .ok (.iload_n 1, 1) := by decide +kernel
theorem dL_firstDayOfWeek_5 : decode cL_firstDayOfWeek 5 = .ok (.iload_n 2, 1) := by decide +kernel
theorem dL_firstDayOfWeek_6 : decode cL_firstDayOfWeek 6 = .ok (.iload_n 3, 1) := by decide +kernel
theorem dL_firstDayOfWeek_7 : decode cL_firstDayOfWeek 7 = .ok (.invokevirtual 66, 3) := by decide +kernel
theorem dL_firstDayOfWeek_10 : decode cL_firstDayOfWeek 10 = .ok (.i2l, 1) := by decide +kernel
theorem dL_firstDayOfWeek_11 : decode cL_firstDayOfWeek 11 = .ok (.lastore, 1) := by decide +kernel
theorem dL_firstDayOfWeek_12 : decode cL_firstDayOfWeek 12 = .ok (.goto 11, 3) := by decide +kernel
theorem dL_firstDayOfWeek_15 : decode cL_firstDayOfWeek 15 = .ok (.astore 5, 2) := by decide +kernel
theorem dL_firstDayOfWeek_17 : decode cL_firstDayOfWeek 17 = .ok (.iconst 1, 1) := by decide +kernel
theorem dL_firstDayOfWeek_18 : decode cL_firstDayOfWeek 18 = .ok (.ireturn, 1) := by decide +kernel
theorem dL_firstDayOfWeek_19 : decode cL_firstDayOfWeek 19 = .ok (.astore 5, 2) := by decide +kernel
theorem dL_firstDayOfWeek_21 : decode cL_firstDayOfWeek 21 = .ok (.iconst 2, 1) := by decide +kernel
theorem dL_firstDayOfWeek_22 : decode cL_firstDayOfWeek 22 = .ok (.ireturn, 1) := by decide +kernel
theorem dL_firstDayOfWeek_23 : decode cL_firstDayOfWeek 23 = .ok (.iconst 0, 1) := by decide +kernel
theorem dL_firstDayOfWeek_24 : decode cL_firstDayOfWeek 24 = .ok (.ireturn, 1) := by decide +kernel
set_option maxRecDepth 20000 in
theorem dL_plus_0 : decode cL_plus 0 = .ok (.aload 4, 2) := by decide +kernel
theorem dL_plus_2 : decode cL_plus 2 = .ok (.iconst 0, 1) := by decide +kernel
theorem dL_plus_3 : decode cL_plus 3 = .ok (.aload_n 0, 1) := by decide +kernel
theorem dL_plus_4 : decode cL_plus 4 = .ok (.iload_n 1, 1) := by decide +kernel
theorem dL_plus_5 : decode cL_plus 5 = .ok (.iload_n 2, 1) := by decide +kernel
theorem dL_plus_6 : decode cL_plus 6 = .ok (.iload_n 3, 1) := by decide +kernel
theorem dL_plus_7 : decode cL_plus 7 = .ok (.invokevirtual 69, 3) := by decide +kernel
theorem dL_plus_10 : decode cL_plus 10 = .ok (.i2l, 1) := by decide +kernel
theorem dL_plus_11 : decode cL_plus 11 = .ok (.lastore, 1) := by decide +kernel
theorem dL_plus_12 : decode cL_plus 12 = .ok (.goto 15, 3) := by decide +kernel
theorem dL_plus_15 : decode cL_plus 15 = .ok (.astore 5, 2) := by decide +kernel
theorem dL_plus_17 : decode cL_plus 17 = .ok (.iconst 1, 1) := by decide +kernel
theorem dL_plus_18 : decode cL_plus 18 = .ok (.ireturn, 1) := by decide +kernel
theorem dL_plus_19 : decode cL_plus 19 = .ok (.astore 5, 2) := by decide +kernel
theorem dL_plus_21 : decode cL_plus 21 = .ok (.iconst 2, 1) := by decide +kernel
theorem dL_plus_22 : decode cL_plus 22 = .ok (.ireturn, 1) := by decide +kernel
theorem dL_plus_23 : decode cL_plus 23 = .ok (.astore 5, 2) := by decide +kernel
theorem dL_plus_25 : decode cL_plus 25 = .ok (.iconst 3, 1) := by decide +kernel
theorem dL_plus_26 : decode cL_plus 26 = .ok (.ireturn, 1) := by decide +kernel
theorem dL_plus_27 : decode cL_plus 27 = .ok (.iconst 0, 1) := by decide +kernel
theorem dL_plus_28 : decode cL_plus 28 = .ok (.ireturn, 1) := by decide +kernel
set_option maxRecDepth 20000 in
theorem dL_plusYears_0 : decode cL_plusYears 0 = .ok (.aload 4, 2) := by decide +kernel
theorem dL_plusYears_2 : decode cL_plusYears 2 = .ok (.iconst 0, 1) := by decide +kernel
theorem dL_plusYears_3 : decode cL_plusYears 3 = .ok (.aload_n 0, 1) := by decide +kernel
theorem dL_plusYears_4 : decode cL_plusYears 4 = .ok (.iload_n 1, 1) := by decide +kernel
theorem dL_plusYears_5 : decode cL_plusYears 5 = .ok (.iload_n 2, 1) := by decide +kernel
theorem dL_plusYears_6 : decode cL_plusYears 6 = .ok (.iload_n 3, 1) := by decide +kernel
theorem dL_plusYears_7 : decode cL_plusYears 7 = .ok (.invokevirtual 72, 3) := by decide +kernel
theorem dL_plusYears_10 : decode cL_plusYears 10 = .ok (.i2l, 1) := by decide +kernel
theorem dL_plusYears_11 : decode cL_plusYears 11 = .ok (.lastore, 1) := by decide +kernel
theorem dL_plusYears_12 : decode cL_plusYears 12 = .ok (.goto 15, 3) := by decide +kernel
theorem dL_plusYears_15 : decode cL_plusYears 15 = .ok (.astore 5, 2) := by decide +kernel
theorem dL_plusYears_17 : decode cL_plusYears 17 = .ok (.iconst 1, 1) := by decide +kernel
theorem dL_plusYears_18 : decode cL_plusYears 18 = .ok (.ireturn, 1) := by decide +kernel
theorem dL_plusYears_19 : decode cL_plusYears 19 = .ok (.astore 5, 2) := by decide +kernel
theorem dL_plusYears_21 : decode cL_plusYears 21 = .ok (.iconst 2, 1) := by decide +kernel
theorem dL_plusYears_22 : decode cL_plusYears 22 = .ok (.ireturn, 1) := by decide +kernel
theorem dL_plusYears_23 : decode cL_plusYears 23 = .ok (.astore 5, 2) := by decide +kernel
theorem dL_plusYears_25 : decode cL_plusYears 25 = .ok (.iconst 3, 1) := by decide +kernel
theorem dL_plusYears_26 : decode cL_plusYears 26 = .ok (.ireturn, 1) := by decide +kernel
theorem dL_plusYears_27 : decode cL_plusYears 27 = .ok (.iconst 0, 1) := by decide +kernel
theorem dL_plusYears_28 : decode cL_plusYears 28 = .ok (.ireturn, 1) := by decide +kernel
set_option maxRecDepth 20000 in
theorem dL_span_0 : decode cL_span 0 = .ok (.aload 5, 2) := by decide +kernel
theorem dL_span_2 : decode cL_span 2 = .ok (.iconst 0, 1) := by decide +kernel
theorem dL_span_3 : decode cL_span 3 = .ok (.aload_n 0, 1) := by decide +kernel
theorem dL_span_4 : decode cL_span 4 = .ok (.iload_n 1, 1) := by decide +kernel
theorem dL_span_5 : decode cL_span 5 = .ok (.iload_n 2, 1) := by decide +kernel
theorem dL_span_6 : decode cL_span 6 = .ok (.iload_n 3, 1) := by decide +kernel
theorem dL_span_7 : decode cL_span 7 = .ok (.iload 4, 2) := by decide +kernel
theorem dL_span_9 : decode cL_span 9 = .ok (.invokevirtual 75, 3) := by decide +kernel
theorem dL_span_12 : decode cL_span 12 = .ok (.i2l, 1) := by decide +kernel
theorem dL_span_13 : decode cL_span 13 = .ok (.lastore, 1) := by decide +kernel
theorem dL_span_14 : decode cL_span 14 = .ok (.goto 15, 3) := by decide +kernel
theorem dL_span_17 : decode cL_span 17 = .ok (.astore 6, 2) := by decide +kernel
theorem dL_span_19 : decode cL_span 19 = .ok (.iconst 1, 1) := by decide +kernel
theorem dL_span_20 : decode cL_span 20 = .ok (.ireturn, 1) := by decide +kernel
theorem dL_span_21 : decode cL_span 21 = .ok (.astore 6, 2) := by decide +kernel
theorem dL_span_23 : decode cL_span 23 = .ok (.iconst 2, 1) := by decide +kernel
theorem dL_span_24 : decode cL_span 24 = .ok (.ireturn, 1) := by decide +kernel
theorem dL_span_25 : decode cL_span 25 = .ok (.astore 6, 2) := by decide +kernel
theorem dL_span_27 : decode cL_span 27 = .ok (.iconst 3, 1) := by decide +kernel
theorem dL_span_28 : decode cL_span 28 = .ok (.ireturn, 1) := by decide +kernel
theorem dL_span_29 : decode cL_span 29 = .ok (.iconst 0, 1) := by decide +kernel
theorem dL_span_30 : decode cL_span 30 = .ok (.ireturn, 1) := by decide +kernel
set_option maxRecDepth 20000 in
theorem dL_addFeast_0 : decode cL_addFeast 0 = .ok (.aload 7, 2) := by decide +kernel
theorem dL_addFeast_2 : decode cL_addFeast 2 = .ok (.iconst 0, 1) := by decide +kernel
theorem dL_addFeast_3 : decode cL_addFeast 3 = .ok (.aload_n 0, 1) := by decide +kernel
theorem dL_addFeast_4 : decode cL_addFeast 4 = .ok (.iload_n 1, 1) := by decide +kernel
theorem dL_addFeast_5 : decode cL_addFeast 5 = .ok (.iload_n 2, 1) := by decide +kernel
theorem dL_addFeast_6 : decode cL_addFeast 6 = .ok (.iload_n 3, 1) := by decide +kernel
theorem dL_addFeast_7 : decode cL_addFeast 7 = .ok (.iload 4, 2) := by decide +kernel
theorem dL_addFeast_9 : decode cL_addFeast 9 = .ok (.iload 5, 2) := by decide +kernel
theorem dL_addFeast_11 : decode cL_addFeast 11 = .ok (.iload 6, 2) := by decide +kernel
theorem dL_addFeast_13 : decode cL_addFeast 13 = .ok (.invokevirtual 78, 3) := by decide +kernel
theorem dL_addFeast_16 : decode cL_addFeast 16 = .ok (.i2l, 1) := by decide +kernel
theorem dL_addFeast_17 : decode cL_addFeast 17 = .ok (.lastore, 1) := by decide +kernel
theorem dL_addFeast_18 : decode cL_addFeast 18 = .ok (.goto 11, 3) := by decide +kernel
theorem dL_addFeast_21 : decode cL_addFeast 21 = .ok (.astore 8, 2) := by decide +kernel
theorem dL_addFeast_23 : decode cL_addFeast 23 = .ok (.iconst 1, 1) := by decide +kernel
theorem dL_addFeast_24 : decode cL_addFeast 24 = .ok (.ireturn, 1) := by decide +kernel
theorem dL_addFeast_25 : decode cL_addFeast 25 = .ok (.astore 8, 2) := by decide +kernel
theorem dL_addFeast_27 : decode cL_addFeast 27 = .ok (.iconst 2, 1) := by decide +kernel
theorem dL_addFeast_28 : decode cL_addFeast 28 = .ok (.ireturn, 1) := by decide +kernel
theorem dL_addFeast_29 : decode cL_addFeast 29 = .ok (.iconst 0, 1) := by decide +kernel
theorem dL_addFeast_30 : decode cL_addFeast 30 = .ok (.ireturn, 1) := by decide +kernel
set_option maxRecDepth 20000 in
theorem dL_removeFeast_0 : decode cL_removeFeast 0 = .ok (.aload_n 1, 1) := by decide +kernel
theorem dL_removeFeast_1 : decode cL_removeFeast 1 = .ok (.iconst 0, 1) := by decide +kernel
theorem dL_removeFeast_2 : decode cL_removeFeast 2 = .ok (.aload_n 0, 1) := by decide +kernel
theorem dL_removeFeast_3 : decode cL_removeFeast 3 = .ok (.invokevirtual 81, 3) := by decide +kernel
theorem dL_removeFeast_6 : decode cL_removeFeast 6 = .ok (.i2l, 1) := by decide +kernel
theorem dL_removeFeast_7 : decode cL_removeFeast 7 = .ok (.lastore, 1) := by decide +kernel
theorem dL_removeFeast_8 : decode cL_removeFeast 8 = .ok (.goto 6, 3) := by decide +kernel
theorem dL_removeFeast_11 : decode cL_removeFeast 11 = .ok (.astore_n 2, 1) := by decide +kernel
theorem dL_removeFeast_12 : decode cL_removeFeast 12 = .ok (.iconst 1, 1) := by decide +kernel
theorem dL_removeFeast_13 : decode cL_removeFeast 13 = .ok (.ireturn, 1) := by decide +kernel
theorem dL_removeFeast_14 : decode cL_removeFeast 14 = .ok (.iconst 0, 1) := by decide +kernel
theorem dL_removeFeast_15 : decode cL_removeFeast 15 = .ok (.ireturn, 1) := by decide +kernel
set_option maxRecDepth 20000 in
theorem dL_feast_0 : decode cL_feast 0 = .ok (.aload_n 3, 1) := by decide +kernel
theorem dL_feast_1 : decode cL_feast 1 = .ok (.iconst 0, 1) := by decide +kernel
theorem dL_feast_2 : decode cL_feast 2 = .ok (.aload_n 0, 1) := by decide +kernel
theorem dL_feast_3 : decode cL_feast 3 = .ok (.iload_n 1, 1) := by decide +kernel
theorem dL_feast_4 : decode cL_feast 4 = .ok (.iload_n 2, 1) := by decide +kernel
theorem dL_feast_5 : decode cL_feast 5 = .ok (.invokevirtual 85, 3) := by decide +kernel
theorem dL_feast_8 : decode cL_feast 8 = .ok (.i2l, 1) := by decide +kernel
theorem dL_feast_9 : decode cL_feast 9 = .ok (.lastore, 1) := by decide +kernel
theorem dL_feast_10 : decode cL_feast 10 = .ok (.goto 15, 3) := by decide +kernel
theorem dL_feast_13 : decode cL_feast 13 = .ok (.astore 4, 2) := by decide +kernel
theorem dL_feast_15 : decode cL_feast 15 = .ok (.iconst 1, 1) := by decide +kernel
theorem dL_feast_16 : decode cL_feast 16 = .ok (.ireturn, 1) := by decide +kernel
theorem dL_feast_17 : decode cL_feast 17 = .ok (.astore 4, 2) := by decide +kernel
theorem dL_feast_19 : decode cL_feast 19 = .ok (.iconst 2, 1) := by decide +kernel
theorem dL_feast_20 : decode cL_feast 20 = .ok (.ireturn, 1) := by decide +kernel
theorem dL_feast_21 : decode cL_feast 21 = .ok (.astore 4, 2) := by decide +kernel
theorem dL_feast_23 : decode cL_feast 23 = .ok (.iconst 3, 1) := by decide +kernel
theorem dL_feast_24 : decode cL_feast 24 = .ok (.ireturn, 1) := by decide +kernel
theorem dL_feast_25 : decode cL_feast 25 = .ok (.iconst 0, 1) := by decide +kernel
theorem dL_feast_26 : decode cL_feast 26 = .ok (.ireturn, 1) := by decide +kernel
set_option maxRecDepth 20000 in
theorem dL_placedFeast_0 : decode cL_placedFeast 0 = .ok (.aload_n 3, 1) := by decide +kernel
theorem dL_placedFeast_1 : decode cL_placedFeast 1 = .ok (.iconst 0, 1) := by decide +kernel
theorem dL_placedFeast_2 : decode cL_placedFeast 2 = .ok (.aload_n 0, 1) := by decide +kernel
theorem dL_placedFeast_3 : decode cL_placedFeast 3 = .ok (.iload_n 1, 1) := by decide +kernel
theorem dL_placedFeast_4 : decode cL_placedFeast 4 = .ok (.iload_n 2, 1) := by decide +kernel
theorem dL_placedFeast_5 : decode cL_placedFeast 5 = .ok (.invokevirtual 88, 3) := by decide +kernel
theorem dL_placedFeast_8 : decode cL_placedFeast 8 = .ok (.i2l, 1) := by decide +kernel
theorem dL_placedFeast_9 : decode cL_placedFeast 9 = .ok (.lastore, 1) := by decide +kernel
theorem dL_placedFeast_10 : decode cL_placedFeast 10 = .ok (.goto 15, 3) := by decide +kernel
theorem dL_placedFeast_13 : decode cL_placedFeast 13 = .ok (.astore 4, 2) := by decide +kernel
theorem dL_placedFeast_15 : decode cL_placedFeast 15 = .ok (.iconst 1, 1) := by decide +kernel
theorem dL_placedFeast_16 : decode cL_placedFeast 16 = .ok (.ireturn, 1) := by decide +kernel
theorem dL_placedFeast_17 : decode cL_placedFeast 17 = .ok (.astore 4, 2) := by decide +kernel
theorem dL_placedFeast_19 : decode cL_placedFeast 19 = .ok (.iconst 2, 1) := by decide +kernel
theorem dL_placedFeast_20 : decode cL_placedFeast 20 = .ok (.ireturn, 1) := by decide +kernel
theorem dL_placedFeast_21 : decode cL_placedFeast 21 = .ok (.astore 4, 2) := by decide +kernel
theorem dL_placedFeast_23 : decode cL_placedFeast 23 = .ok (.iconst 3, 1) := by decide +kernel
theorem dL_placedFeast_24 : decode cL_placedFeast 24 = .ok (.ireturn, 1) := by decide +kernel
theorem dL_placedFeast_25 : decode cL_placedFeast 25 = .ok (.iconst 0, 1) := by decide +kernel
theorem dL_placedFeast_26 : decode cL_placedFeast 26 = .ok (.ireturn, 1) := by decide +kernel
set_option maxRecDepth 20000 in
theorem dL_feastOn_0 : decode cL_feastOn 0 = .ok (.aload_n 3, 1) := by decide +kernel
theorem dL_feastOn_1 : decode cL_feastOn 1 = .ok (.iconst 0, 1) := by decide +kernel
theorem dL_feastOn_2 : decode cL_feastOn 2 = .ok (.aload_n 0, 1) := by decide +kernel
theorem dL_feastOn_3 : decode cL_feastOn 3 = .ok (.iload_n 1, 1) := by decide +kernel
theorem dL_feastOn_4 : decode cL_feastOn 4 = .ok (.iload_n 2, 1) := by decide +kernel
theorem dL_feastOn_5 : decode cL_feastOn 5 = .ok (.invokevirtual 91, 3) := by decide +kernel
theorem dL_feastOn_8 : decode cL_feastOn 8 = .ok (.i2l, 1) := by decide +kernel
theorem dL_feastOn_9 : decode cL_feastOn 9 = .ok (.lastore, 1) := by decide +kernel
theorem dL_feastOn_10 : decode cL_feastOn 10 = .ok (.goto 11, 3) := by decide +kernel
theorem dL_feastOn_13 : decode cL_feastOn 13 = .ok (.astore 4, 2) := by decide +kernel
theorem dL_feastOn_15 : decode cL_feastOn 15 = .ok (.iconst 1, 1) := by decide +kernel
theorem dL_feastOn_16 : decode cL_feastOn 16 = .ok (.ireturn, 1) := by decide +kernel
theorem dL_feastOn_17 : decode cL_feastOn 17 = .ok (.astore 4, 2) := by decide +kernel
theorem dL_feastOn_19 : decode cL_feastOn 19 = .ok (.iconst 2, 1) := by decide +kernel
theorem dL_feastOn_20 : decode cL_feastOn 20 = .ok (.ireturn, 1) := by decide +kernel
theorem dL_feastOn_21 : decode cL_feastOn 21 = .ok (.iconst 0, 1) := by decide +kernel
theorem dL_feastOn_22 : decode cL_feastOn 22 = .ok (.ireturn, 1) := by decide +kernel
set_option maxRecDepth 20000 in
theorem dL_meetingYear_0 : decode cL_meetingYear 0 = .ok (.aload 4, 2) := by decide +kernel
theorem dL_meetingYear_2 : decode cL_meetingYear 2 = .ok (.iconst 0, 1) := by decide +kernel
theorem dL_meetingYear_3 : decode cL_meetingYear 3 = .ok (.aload_n 0, 1) := by decide +kernel
theorem dL_meetingYear_4 : decode cL_meetingYear 4 = .ok (.iload_n 1, 1) := by decide +kernel
theorem dL_meetingYear_5 : decode cL_meetingYear 5 = .ok (.iload_n 2, 1) := by decide +kernel
theorem dL_meetingYear_6 : decode cL_meetingYear 6 = .ok (.iload_n 3, 1) := by decide +kernel
theorem dL_meetingYear_7 : decode cL_meetingYear 7 = .ok (.invokevirtual 94, 3) := by decide +kernel
theorem dL_meetingYear_10 : decode cL_meetingYear 10 = .ok (.i2l, 1) := by decide +kernel
theorem dL_meetingYear_11 : decode cL_meetingYear 11 = .ok (.lastore, 1) := by decide +kernel
theorem dL_meetingYear_12 : decode cL_meetingYear 12 = .ok (.goto 15, 3) := by decide +kernel
theorem dL_meetingYear_15 : decode cL_meetingYear 15 = .ok (.astore 5, 2) := by decide +kernel
theorem dL_meetingYear_17 : decode cL_meetingYear 17 = .ok (.iconst 1, 1) := by decide +kernel
theorem dL_meetingYear_18 : decode cL_meetingYear 18 = .ok (.ireturn, 1) := by decide +kernel
theorem dL_meetingYear_19 : decode cL_meetingYear 19 = .ok (.astore 5, 2) := by decide +kernel
theorem dL_meetingYear_21 : decode cL_meetingYear 21 = .ok (.iconst 2, 1) := by decide +kernel
theorem dL_meetingYear_22 : decode cL_meetingYear 22 = .ok (.ireturn, 1) := by decide +kernel
theorem dL_meetingYear_23 : decode cL_meetingYear 23 = .ok (.astore 5, 2) := by decide +kernel
theorem dL_meetingYear_25 : decode cL_meetingYear 25 = .ok (.iconst 3, 1) := by decide +kernel
theorem dL_meetingYear_26 : decode cL_meetingYear 26 = .ok (.ireturn, 1) := by decide +kernel
theorem dL_meetingYear_27 : decode cL_meetingYear 27 = .ok (.iconst 0, 1) := by decide +kernel
theorem dL_meetingYear_28 : decode cL_meetingYear 28 = .ok (.ireturn, 1) := by decide +kernel
set_option maxRecDepth 20000 in
theorem dL_reading_0 : decode cL_reading 0 = .ok (.aload_n 3, 1) := by decide +kernel
theorem dL_reading_1 : decode cL_reading 1 = .ok (.iconst 0, 1) := by decide +kernel
theorem dL_reading_2 : decode cL_reading 2 = .ok (.aload_n 0, 1) := by decide +kernel
theorem dL_reading_3 : decode cL_reading 3 = .ok (.iload_n 1, 1) := by decide +kernel
theorem dL_reading_4 : decode cL_reading 4 = .ok (.iload_n 2, 1) := by decide +kernel
theorem dL_reading_5 : decode cL_reading 5 = .ok (.invokevirtual 97, 3) := by decide +kernel
theorem dL_reading_8 : decode cL_reading 8 = .ok (.i2l, 1) := by decide +kernel
theorem dL_reading_9 : decode cL_reading 9 = .ok (.lastore, 1) := by decide +kernel
theorem dL_reading_10 : decode cL_reading 10 = .ok (.goto 11, 3) := by decide +kernel
theorem dL_reading_13 : decode cL_reading 13 = .ok (.astore 4, 2) := by decide +kernel
theorem dL_reading_15 : decode cL_reading 15 = .ok (.iconst 1, 1) := by decide +kernel
theorem dL_reading_16 : decode cL_reading 16 = .ok (.ireturn, 1) := by decide +kernel
theorem dL_reading_17 : decode cL_reading 17 = .ok (.astore 4, 2) := by decide +kernel
theorem dL_reading_19 : decode cL_reading 19 = .ok (.iconst 2, 1) := by decide +kernel
theorem dL_reading_20 : decode cL_reading 20 = .ok (.ireturn, 1) := by decide +kernel
theorem dL_reading_21 : decode cL_reading 21 = .ok (.iconst 0, 1) := by decide +kernel
theorem dL_reading_22 : decode cL_reading 22 = .ok (.ireturn, 1) := by decide +kernel
set_option maxRecDepth 20000 in
theorem dL_write_0 : decode cL_write 0 = .ok (.aload_n 3, 1) := by decide +kernel
theorem dL_write_1 : decode cL_write 1 = .ok (.iconst 0, 1) := by decide +kernel
theorem dL_write_2 : decode cL_write 2 = .ok (.aload_n 0, 1) := by decide +kernel
theorem dL_write_3 : decode cL_write 3 = .ok (.iload_n 1, 1) := by decide +kernel
theorem dL_write_4 : decode cL_write 4 = .ok (.iload_n 2, 1) := by decide +kernel
theorem dL_write_5 : decode cL_write 5 = .ok (.invokevirtual 100, 3) := by decide +kernel
theorem dL_write_8 : decode cL_write 8 = .ok (.i2l, 1) := by decide +kernel
theorem dL_write_9 : decode cL_write 9 = .ok (.lastore, 1) := by decide +kernel
theorem dL_write_10 : decode cL_write 10 = .ok (.goto 15, 3) := by decide +kernel
theorem dL_write_13 : decode cL_write 13 = .ok (.astore 4, 2) := by decide +kernel
theorem dL_write_15 : decode cL_write 15 = .ok (.iconst 1, 1) := by decide +kernel
theorem dL_write_16 : decode cL_write 16 = .ok (.ireturn, 1) := by decide +kernel
theorem dL_write_17 : decode cL_write 17 = .ok (.astore 4, 2) := by decide +kernel
theorem dL_write_19 : decode cL_write 19 = .ok (.iconst 2, 1) := by decide +kernel
theorem dL_write_20 : decode cL_write 20 = .ok (.ireturn, 1) := by decide +kernel
theorem dL_write_21 : decode cL_write 21 = .ok (.astore 4, 2) := by decide +kernel
theorem dL_write_23 : decode cL_write 23 = .ok (.iconst 3, 1) := by decide +kernel
theorem dL_write_24 : decode cL_write 24 = .ok (.ireturn, 1) := by decide +kernel
theorem dL_write_25 : decode cL_write 25 = .ok (.iconst 0, 1) := by decide +kernel
theorem dL_write_26 : decode cL_write 26 = .ok (.ireturn, 1) := by decide +kernel
set_option maxRecDepth 20000 in
theorem dL_output_0 : decode cL_output 0 = .ok (.aload_n 2, 1) := by decide +kernel
theorem dL_output_1 : decode cL_output 1 = .ok (.iconst 0, 1) := by decide +kernel
theorem dL_output_2 : decode cL_output 2 = .ok (.aload_n 0, 1) := by decide +kernel
theorem dL_output_3 : decode cL_output 3 = .ok (.iload_n 1, 1) := by decide +kernel
theorem dL_output_4 : decode cL_output 4 = .ok (.invokevirtual 103, 3) := by decide +kernel
theorem dL_output_7 : decode cL_output 7 = .ok (.i2l, 1) := by decide +kernel
theorem dL_output_8 : decode cL_output 8 = .ok (.lastore, 1) := by decide +kernel
theorem dL_output_9 : decode cL_output 9 = .ok (.goto 6, 3) := by decide +kernel
theorem dL_output_12 : decode cL_output 12 = .ok (.astore_n 3, 1) := by decide +kernel
theorem dL_output_13 : decode cL_output 13 = .ok (.iconst 1, 1) := by decide +kernel
theorem dL_output_14 : decode cL_output 14 = .ok (.ireturn, 1) := by decide +kernel
theorem dL_output_15 : decode cL_output 15 = .ok (.iconst 0, 1) := by decide +kernel
theorem dL_output_16 : decode cL_output 16 = .ok (.ireturn, 1) := by decide +kernel
set_option maxRecDepth 20000 in
theorem dL_newYears_0 : decode cL_newYears 0 = .ok (.aload 5, 2) := by decide +kernel
theorem dL_newYears_2 : decode cL_newYears 2 = .ok (.iconst 0, 1) := by decide +kernel
theorem dL_newYears_3 : decode cL_newYears 3 = .ok (.aload_n 0, 1) := by decide +kernel
theorem dL_newYears_4 : decode cL_newYears 4 = .ok (.iload_n 1, 1) := by decide +kernel
theorem dL_newYears_5 : decode cL_newYears 5 = .ok (.iload_n 2, 1) := by decide +kernel
theorem dL_newYears_6 : decode cL_newYears 6 = .ok (.iload_n 3, 1) := by decide +kernel
theorem dL_newYears_7 : decode cL_newYears 7 = .ok (.iload 4, 2) := by decide +kernel
theorem dL_newYears_9 : decode cL_newYears 9 = .ok (.invokevirtual 107, 3) := by decide +kernel
theorem dL_newYears_12 : decode cL_newYears 12 = .ok (.i2l, 1) := by decide +kernel
theorem dL_newYears_13 : decode cL_newYears 13 = .ok (.lastore, 1) := by decide +kernel
theorem dL_newYears_14 : decode cL_newYears 14 = .ok (.goto 11, 3) := by decide +kernel
theorem dL_newYears_17 : decode cL_newYears 17 = .ok (.astore 6, 2) := by decide +kernel
theorem dL_newYears_19 : decode cL_newYears 19 = .ok (.iconst 1, 1) := by decide +kernel
theorem dL_newYears_20 : decode cL_newYears 20 = .ok (.ireturn, 1) := by decide +kernel
theorem dL_newYears_21 : decode cL_newYears 21 = .ok (.astore 6, 2) := by decide +kernel
theorem dL_newYears_23 : decode cL_newYears 23 = .ok (.iconst 2, 1) := by decide +kernel
theorem dL_newYears_24 : decode cL_newYears 24 = .ok (.ireturn, 1) := by decide +kernel
theorem dL_newYears_25 : decode cL_newYears 25 = .ok (.iconst 0, 1) := by decide +kernel
theorem dL_newYears_26 : decode cL_newYears 26 = .ok (.ireturn, 1) := by decide +kernel
set_option maxRecDepth 20000 in
theorem dL_averageYear_0 : decode cL_averageYear 0 = .ok (.aload_n 2, 1) := by decide +kernel
theorem dL_averageYear_1 : decode cL_averageYear 1 = .ok (.iconst 0, 1) := by decide +kernel
theorem dL_averageYear_2 : decode cL_averageYear 2 = .ok (.aload_n 0, 1) := by decide +kernel
theorem dL_averageYear_3 : decode cL_averageYear 3 = .ok (.iload_n 1, 1) := by decide +kernel
theorem dL_averageYear_4 : decode cL_averageYear 4 = .ok (.invokevirtual 110, 3) := by decide +kernel
theorem dL_averageYear_7 : decode cL_averageYear 7 = .ok (.dastore, 1) := by decide +kernel
theorem dL_averageYear_8 : decode cL_averageYear 8 = .ok (.goto 6, 3) := by decide +kernel
theorem dL_averageYear_11 : decode cL_averageYear 11 = .ok (.astore_n 3, 1) := by decide +kernel
theorem dL_averageYear_12 : decode cL_averageYear 12 = .ok (.iconst 1, 1) := by decide +kernel
theorem dL_averageYear_13 : decode cL_averageYear 13 = .ok (.ireturn, 1) := by decide +kernel
theorem dL_averageYear_14 : decode cL_averageYear 14 = .ok (.iconst 0, 1) := by decide +kernel
theorem dL_averageYear_15 : decode cL_averageYear 15 = .ok (.ireturn, 1) := by decide +kernel
set_option maxRecDepth 20000 in
theorem dL_drift_0 : decode cL_drift 0 = .ok (.aload_n 3, 1) := by decide +kernel
theorem dL_drift_1 : decode cL_drift 1 = .ok (.iconst 0, 1) := by decide +kernel
theorem dL_drift_2 : decode cL_drift 2 = .ok (.aload_n 0, 1) := by decide +kernel
theorem dL_drift_3 : decode cL_drift 3 = .ok (.iload_n 1, 1) := by decide +kernel
theorem dL_drift_4 : decode cL_drift 4 = .ok (.iload_n 2, 1) := by decide +kernel
theorem dL_drift_5 : decode cL_drift 5 = .ok (.invokevirtual 114, 3) := by decide +kernel
theorem dL_drift_8 : decode cL_drift 8 = .ok (.f2d, 1) := by decide +kernel
theorem dL_drift_9 : decode cL_drift 9 = .ok (.dastore, 1) := by decide +kernel
theorem dL_drift_10 : decode cL_drift 10 = .ok (.goto 7, 3) := by decide +kernel
theorem dL_drift_13 : decode cL_drift 13 = .ok (.astore 4, 2) := by decide +kernel
theorem dL_drift_15 : decode cL_drift 15 = .ok (.iconst 1, 1) := by decide +kernel
theorem dL_drift_16 : decode cL_drift 16 = .ok (.ireturn, 1) := by decide +kernel
theorem dL_drift_17 : decode cL_drift 17 = .ok (.iconst 0, 1) := by decide +kernel
theorem dL_drift_18 : decode cL_drift 18 = .ok (.ireturn, 1) := by decide +kernel
set_option maxRecDepth 20000 in
theorem dL_undo_0 : decode cL_undo 0 = .ok (.aload_n 1, 1) := by decide +kernel
theorem dL_undo_1 : decode cL_undo 1 = .ok (.iconst 0, 1) := by decide +kernel
theorem dL_undo_2 : decode cL_undo 2 = .ok (.aload_n 0, 1) := by decide +kernel
theorem dL_undo_3 : decode cL_undo 3 = .ok (.invokevirtual 118, 3) := by decide +kernel
theorem dL_undo_6 : decode cL_undo 6 = .ok (.i2l, 1) := by decide +kernel
theorem dL_undo_7 : decode cL_undo 7 = .ok (.lastore, 1) := by decide +kernel
theorem dL_undo_8 : decode cL_undo 8 = .ok (.goto 6, 3) := by decide +kernel
theorem dL_undo_11 : decode cL_undo 11 = .ok (.astore_n 2, 1) := by decide +kernel
theorem dL_undo_12 : decode cL_undo 12 = .ok (.iconst 1, 1) := by decide +kernel
theorem dL_undo_13 : decode cL_undo 13 = .ok (.ireturn, 1) := by decide +kernel
theorem dL_undo_14 : decode cL_undo 14 = .ok (.iconst 0, 1) := by decide +kernel
theorem dL_undo_15 : decode cL_undo 15 = .ok (.ireturn, 1) := by decide +kernel
set_option maxRecDepth 20000 in
theorem dL_restore_0 : decode cL_restore 0 = .ok (.aload_n 1, 1) := by decide +kernel
theorem dL_restore_1 : decode cL_restore 1 = .ok (.iconst 0, 1) := by decide +kernel
theorem dL_restore_2 : decode cL_restore 2 = .ok (.aload_n 0, 1) := by decide +kernel
theorem dL_restore_3 : decode cL_restore 3 = .ok (.invokevirtual 121, 3) := by decide +kernel
theorem dL_restore_6 : decode cL_restore 6 = .ok (.i2l, 1) := by decide +kernel
theorem dL_restore_7 : decode cL_restore 7 = .ok (.lastore, 1) := by decide +kernel
theorem dL_restore_8 : decode cL_restore 8 = .ok (.goto 6, 3) := by decide +kernel
theorem dL_restore_11 : decode cL_restore 11 = .ok (.astore_n 2, 1) := by decide +kernel
theorem dL_restore_12 : decode cL_restore 12 = .ok (.iconst 1, 1) := by decide +kernel
theorem dL_restore_13 : decode cL_restore 13 = .ok (.ireturn, 1) := by decide +kernel
theorem dL_restore_14 : decode cL_restore 14 = .ok (.iconst 0, 1) := by decide +kernel
theorem dL_restore_15 : decode cL_restore 15 = .ok (.ireturn, 1) := by decide +kernel
set_option maxRecDepth 20000 in
theorem dL_law_0 : decode cL_law 0 = .ok (.new 8, 3) := by decide +kernel
theorem dL_law_3 : decode cL_law 3 = .ok (.dup, 1) := by decide +kernel
theorem dL_law_4 : decode cL_law 4 = .ok (.invokespecial 124, 3) := by decide +kernel
theorem dL_law_7 : decode cL_law 7 = .ok (.astore_n 1, 1) := by decide +kernel
theorem dL_law_8 : decode cL_law 8 = .ok (.new 125, 3) := by decide +kernel
theorem dL_law_11 : decode cL_law 11 = .ok (.dup, 1) := by decide +kernel
theorem dL_law_12 : decode cL_law 12 = .ok (.invokespecial 127, 3) := by decide +kernel
theorem dL_law_15 : decode cL_law 15 = .ok (.astore_n 2, 1) := by decide +kernel
theorem dL_law_16 : decode cL_law 16 = .ok (.iconst 1, 1) := by decide +kernel
theorem dL_law_17 : decode cL_law 17 = .ok (.newarray .long, 2) := by decide +kernel
theorem dL_law_19 : decode cL_law 19 = .ok (.astore_n 3, 1) := by decide +kernel
theorem dL_law_20 : decode cL_law 20 = .ok (.iconst 1, 1) := by decide +kernel
theorem dL_law_21 : decode cL_law 21 = .ok (.newarray .double, 2) := by decide +kernel
theorem dL_law_23 : decode cL_law 23 = .ok (.astore 4, 2) := by decide +kernel
theorem dL_law_25 : decode cL_law 25 = .ok (.iconst 0, 1) := by decide +kernel
theorem dL_law_26 : decode cL_law 26 = .ok (.istore 5, 2) := by decide +kernel
theorem dL_law_28 : decode cL_law 28 = .ok (.iload 5, 2) := by decide +kernel
theorem dL_law_30 : decode cL_law 30 = .ok (.aload_n 0, 1) := by decide +kernel
theorem dL_law_31 : decode cL_law 31 = .ok (.arraylength, 1) := by decide +kernel
theorem dL_law_32 : decode cL_law 32 = .ok (.bipush 7, 2) := by decide +kernel
theorem dL_law_34 : decode cL_law 34 = .ok (.isub, 1) := by decide +kernel
theorem dL_law_35 : decode cL_law 35 = .ok (.if_icmp .gt 2678, 3) := by decide +kernel
theorem dL_law_38 : decode cL_law 38 = .ok (.aload_n 0, 1) := by decide +kernel
theorem dL_law_39 : decode cL_law 39 = .ok (.iload 5, 2) := by decide +kernel
theorem dL_law_41 : decode cL_law 41 = .ok (.iaload, 1) := by decide +kernel
theorem dL_law_42 : decode cL_law 42 = .ok (.bipush 63, 2) := by decide +kernel
theorem dL_law_44 : decode cL_law 44 = .ok (.iand, 1) := by decide +kernel
theorem dL_law_45 : decode cL_law 45 = .ok (.tableswitch 2662 0 37 #[167, 223, 279, 292, 305, 373, 448, 516, 596, 683, 751, 819, 911, 991, 1109, 1189, 1257, 1337, 1417, 1497, 1589, 1707, 1751, 1764, 1832, 1900, 1968, 2048, 2097, 2165, 2178, 2246, 2302, 2394, 2471, 2561, 2605, 2618], 167) := by decide +kernel
theorem dL_law_212 : decode cL_law 212 = .ok (.aload_n 1, 1) := by decide +kernel
theorem dL_law_213 : decode cL_law 213 = .ok (.aload_n 0, 1) := by decide +kernel
theorem dL_law_214 : decode cL_law 214 = .ok (.iload 5, 2) := by decide +kernel
theorem dL_law_216 : decode cL_law 216 = .ok (.iconst 1, 1) := by decide +kernel
theorem dL_law_217 : decode cL_law 217 = .ok (.iadd, 1) := by decide +kernel
theorem dL_law_218 : decode cL_law 218 = .ok (.iaload, 1) := by decide +kernel
theorem dL_law_219 : decode cL_law 219 = .ok (.aload_n 3, 1) := by decide +kernel
theorem dL_law_220 : decode cL_law 220 = .ok (.invokestatic 128, 3) := by decide +kernel
theorem dL_law_223 : decode cL_law 223 = .ok (.istore 6, 2) := by decide +kernel
theorem dL_law_225 : decode cL_law 225 = .ok (.aload_n 2, 1) := by decide +kernel
theorem dL_law_226 : decode cL_law 226 = .ok (.aload_n 0, 1) := by decide +kernel
theorem dL_law_227 : decode cL_law 227 = .ok (.iload 5, 2) := by decide +kernel
theorem dL_law_229 : decode cL_law 229 = .ok (.iconst 1, 1) := by decide +kernel
theorem dL_law_230 : decode cL_law 230 = .ok (.iadd, 1) := by decide +kernel
theorem dL_law_231 : decode cL_law 231 = .ok (.iaload, 1) := by decide +kernel
theorem dL_law_232 : decode cL_law 232 = .ok (.invokevirtual 133, 3) := by decide +kernel
theorem dL_law_235 : decode cL_law 235 = .ok (.istore 7, 2) := by decide +kernel
theorem dL_law_237 : decode cL_law 237 = .ok (.aload_n 2, 1) := by decide +kernel
theorem dL_law_238 : decode cL_law 238 = .ok (.invokevirtual 134, 3) := by decide +kernel
theorem dL_law_241 : decode cL_law 241 = .ok (.iload 6, 2) := by decide +kernel
theorem dL_law_243 : decode cL_law 243 = .ok (.if_icmp .eq 5, 3) := by decide +kernel
theorem dL_law_246 : decode cL_law 246 = .ok (.iconst 0, 1) := by decide +kernel
theorem dL_law_247 : decode cL_law 247 = .ok (.ireturn, 1) := by decide +kernel
theorem dL_law_248 : decode cL_law 248 = .ok (.iload 6, 2) := by decide +kernel
theorem dL_law_250 : decode cL_law 250 = .ok (.ifCond .ne 15, 3) := by decide +kernel
theorem dL_law_253 : decode cL_law 253 = .ok (.aload_n 3, 1) := by decide +kernel
theorem dL_law_254 : decode cL_law 254 = .ok (.iconst 0, 1) := by decide +kernel
theorem dL_law_255 : decode cL_law 255 = .ok (.laload, 1) := by decide +kernel
theorem dL_law_256 : decode cL_law 256 = .ok (.iload 7, 2) := by decide +kernel
theorem dL_law_258 : decode cL_law 258 = .ok (.i2l, 1) := by decide +kernel
theorem dL_law_259 : decode cL_law 259 = .ok (.lcmp, 1) := by decide +kernel
theorem dL_law_260 : decode cL_law 260 = .ok (.ifCond .eq 5, 3) := by decide +kernel
theorem dL_law_263 : decode cL_law 263 = .ok (.iconst 0, 1) := by decide +kernel
theorem dL_law_264 : decode cL_law 264 = .ok (.ireturn, 1) := by decide +kernel
theorem dL_law_265 : decode cL_law 265 = .ok (.goto 2442, 3) := by decide +kernel
theorem dL_law_268 : decode cL_law 268 = .ok (.aload_n 1, 1) := by decide +kernel
theorem dL_law_269 : decode cL_law 269 = .ok (.aload_n 0, 1) := by decide +kernel
theorem dL_law_270 : decode cL_law 270 = .ok (.iload 5, 2) := by decide +kernel
theorem dL_law_272 : decode cL_law 272 = .ok (.iconst 1, 1) := by decide +kernel
theorem dL_law_273 : decode cL_law 273 = .ok (.iadd, 1) := by decide +kernel
theorem dL_law_274 : decode cL_law 274 = .ok (.iaload, 1) := by decide +kernel
theorem dL_law_275 : decode cL_law 275 = .ok (.aload_n 3, 1) := by decide +kernel
theorem dL_law_276 : decode cL_law 276 = .ok (.invokestatic 137, 3) := by decide +kernel
theorem dL_law_279 : decode cL_law 279 = .ok (.istore 6, 2) := by decide +kernel
theorem dL_law_281 : decode cL_law 281 = .ok (.aload_n 2, 1) := by decide +kernel
theorem dL_law_282 : decode cL_law 282 = .ok (.aload_n 0, 1) := by decide +kernel
theorem dL_law_283 : decode cL_law 283 = .ok (.iload 5, 2) := by decide +kernel
theorem dL_law_285 : decode cL_law 285 = .ok (.iconst 1, 1) := by decide +kernel
theorem dL_law_286 : decode cL_law 286 = .ok (.iadd, 1) := by decide +kernel
theorem dL_law_287 : decode cL_law 287 = .ok (.iaload, 1) := by decide +kernel
theorem dL_law_288 : decode cL_law 288 = .ok (.invokevirtual 139, 3) := by decide +kernel
theorem dL_law_291 : decode cL_law 291 = .ok (.istore 7, 2) := by decide +kernel
theorem dL_law_293 : decode cL_law 293 = .ok (.aload_n 2, 1) := by decide +kernel
theorem dL_law_294 : decode cL_law 294 = .ok (.invokevirtual 134, 3) := by decide +kernel
theorem dL_law_297 : decode cL_law 297 = .ok (.iload 6, 2) := by decide +kernel
theorem dL_law_299 : decode cL_law 299 = .ok (.if_icmp .eq 5, 3) := by decide +kernel
theorem dL_law_302 : decode cL_law 302 = .ok (.iconst 0, 1) := by decide +kernel
theorem dL_law_303 : decode cL_law 303 = .ok (.ireturn, 1) := by decide +kernel
theorem dL_law_304 : decode cL_law 304 = .ok (.iload 6, 2) := by decide +kernel
theorem dL_law_306 : decode cL_law 306 = .ok (.ifCond .ne 15, 3) := by decide +kernel
theorem dL_law_309 : decode cL_law 309 = .ok (.aload_n 3, 1) := by decide +kernel
theorem dL_law_310 : decode cL_law 310 = .ok (.iconst 0, 1) := by decide +kernel
theorem dL_law_311 : decode cL_law 311 = .ok (.laload, 1) := by decide +kernel
theorem dL_law_312 : decode cL_law 312 = .ok (.iload 7, 2) := by decide +kernel
theorem dL_law_314 : decode cL_law 314 = .ok (.i2l, 1) := by decide +kernel
theorem dL_law_315 : decode cL_law 315 = .ok (.lcmp, 1) := by decide +kernel
theorem dL_law_316 : decode cL_law 316 = .ok (.ifCond .eq 5, 3) := by decide +kernel
theorem dL_law_319 : decode cL_law 319 = .ok (.iconst 0, 1) := by decide +kernel
theorem dL_law_320 : decode cL_law 320 = .ok (.ireturn, 1) := by decide +kernel
theorem dL_law_321 : decode cL_law 321 = .ok (.goto 2386, 3) := by decide +kernel
theorem dL_law_324 : decode cL_law 324 = .ok (.aload_n 1, 1) := by decide +kernel
theorem dL_law_325 : decode cL_law 325 = .ok (.invokevirtual 140, 3) := by decide +kernel
theorem dL_law_328 : decode cL_law 328 = .ok (.aload_n 2, 1) := by decide +kernel
theorem dL_law_329 : decode cL_law 329 = .ok (.invokevirtual 143, 3) := by decide +kernel
theorem dL_law_332 : decode cL_law 332 = .ok (.if_icmp .eq 2375, 3) := by decide +kernel
theorem dL_law_335 : decode cL_law 335 = .ok (.iconst 0, 1) := by decide +kernel
theorem dL_law_336 : decode cL_law 336 = .ok (.ireturn, 1) := by decide +kernel
theorem dL_law_337 : decode cL_law 337 = .ok (.aload_n 1, 1) := by decide +kernel
theorem dL_law_338 : decode cL_law 338 = .ok (.invokevirtual 144, 3) := by decide +kernel
theorem dL_law_341 : decode cL_law 341 = .ok (.aload_n 2, 1) := by decide +kernel
theorem dL_law_342 : decode cL_law 342 = .ok (.invokevirtual 147, 3) := by decide +kernel
theorem dL_law_345 : decode cL_law 345 = .ok (.if_icmp .eq 2362, 3) := by decide +kernel
theorem dL_law_348 : decode cL_law 348 = .ok (.iconst 0, 1) := by decide +kernel
theorem dL_law_349 : decode cL_law 349 = .ok (.ireturn, 1) := by decide +kernel
theorem dL_law_350 : decode cL_law 350 = .ok (.aload_n 1, 1) := by decide +kernel
theorem dL_law_351 : decode cL_law 351 = .ok (.aload_n 0, 1) := by decide +kernel
theorem dL_law_352 : decode cL_law 352 = .ok (.iload 5, 2) := by decide +kernel
theorem dL_law_354 : decode cL_law 354 = .ok (.iconst 1, 1) := by decide +kernel
theorem dL_law_355 : decode cL_law 355 = .ok (.iadd, 1) := by decide +kernel
theorem dL_law_356 : decode cL_law 356 = .ok (.iaload, 1) := by decide +kernel
theorem dL_law_357 : decode cL_law 357 = .ok (.aload_n 0, 1) := by decide +kernel
theorem dL_law_358 : decode cL_law 358 = .ok (.iload 5, 2) := by decide +kernel
theorem dL_law_360 : decode cL_law 360 = .ok (.iconst 2, 1) := by decide +kernel
theorem dL_law_361 : decode cL_law 361 = .ok (.iadd, 1) := by decide +kernel
theorem dL_law_362 : decode cL_law 362 = .ok (.iaload, 1) := by decide +kernel
theorem dL_law_363 : decode cL_law 363 = .ok (.aload_n 3, 1) := by decide +kernel
theorem dL_law_364 : decode cL_law 364 = .ok (.invokestatic 148, 3) := by decide +kernel
theorem dL_law_367 : decode cL_law 367 = .ok (.istore 6, 2) := by decide +kernel
theorem dL_law_369 : decode cL_law 369 = .ok (.aload_n 2, 1) := by decide +kernel
theorem dL_law_370 : decode cL_law 370 = .ok (.aload_n 0, 1) := by decide +kernel
theorem dL_law_371 : decode cL_law 371 = .ok (.iload 5, 2) := by decide +kernel
theorem dL_law_373 : decode cL_law 373 = .ok (.iconst 1, 1) := by decide +kernel
theorem dL_law_374 : decode cL_law 374 = .ok (.iadd, 1) := by decide +kernel
theorem dL_law_375 : decode cL_law 375 = .ok (.iaload, 1) := by decide +kernel
theorem dL_law_376 : decode cL_law 376 = .ok (.aload_n 0, 1) := by decide +kernel
theorem dL_law_377 : decode cL_law 377 = .ok (.iload 5, 2) := by decide +kernel
theorem dL_law_379 : decode cL_law 379 = .ok (.iconst 2, 1) := by decide +kernel
theorem dL_law_380 : decode cL_law 380 = .ok (.iadd, 1) := by decide +kernel
theorem dL_law_381 : decode cL_law 381 = .ok (.iaload, 1) := by decide +kernel
theorem dL_law_382 : decode cL_law 382 = .ok (.invokevirtual 151, 3) := by decide +kernel
theorem dL_law_385 : decode cL_law 385 = .ok (.istore 7, 2) := by decide +kernel
theorem dL_law_387 : decode cL_law 387 = .ok (.aload_n 2, 1) := by decide +kernel
theorem dL_law_388 : decode cL_law 388 = .ok (.invokevirtual 134, 3) := by decide +kernel
theorem dL_law_391 : decode cL_law 391 = .ok (.iload 6, 2) := by decide +kernel
theorem dL_law_393 : decode cL_law 393 = .ok (.if_icmp .eq 5, 3) := by decide +kernel
theorem dL_law_396 : decode cL_law 396 = .ok (.iconst 0, 1) := by decide +kernel
theorem dL_law_397 : decode cL_law 397 = .ok (.ireturn, 1) := by decide +kernel
theorem dL_law_398 : decode cL_law 398 = .ok (.iload 6, 2) := by decide +kernel
theorem dL_law_400 : decode cL_law 400 = .ok (.ifCond .ne 15, 3) := by decide +kernel
theorem dL_law_403 : decode cL_law 403 = .ok (.aload_n 3, 1) := by decide +kernel
theorem dL_law_404 : decode cL_law 404 = .ok (.iconst 0, 1) := by decide +kernel
theorem dL_law_405 : decode cL_law 405 = .ok (.laload, 1) := by decide +kernel
theorem dL_law_406 : decode cL_law 406 = .ok (.iload 7, 2) := by decide +kernel
theorem dL_law_408 : decode cL_law 408 = .ok (.i2l, 1) := by decide +kernel
theorem dL_law_409 : decode cL_law 409 = .ok (.lcmp, 1) := by decide +kernel
theorem dL_law_410 : decode cL_law 410 = .ok (.ifCond .eq 5, 3) := by decide +kernel
theorem dL_law_413 : decode cL_law 413 = .ok (.iconst 0, 1) := by decide +kernel
theorem dL_law_414 : decode cL_law 414 = .ok (.ireturn, 1) := by decide +kernel
theorem dL_law_415 : decode cL_law 415 = .ok (.goto 2292, 3) := by decide +kernel
theorem dL_law_418 : decode cL_law 418 = .ok (.aload_n 1, 1) := by decide +kernel
theorem dL_law_419 : decode cL_law 419 = .ok (.aload_n 0, 1) := by decide +kernel
theorem dL_law_420 : decode cL_law 420 = .ok (.iload 5, 2) := by decide +kernel
theorem dL_law_422 : decode cL_law 422 = .ok (.iconst 1, 1) := by decide +kernel
theorem dL_law_423 : decode cL_law 423 = .ok (.iadd, 1) := by decide +kernel
theorem dL_law_424 : decode cL_law 424 = .ok (.iaload, 1) := by decide +kernel
theorem dL_law_425 : decode cL_law 425 = .ok (.aload_n 0, 1) := by decide +kernel
theorem dL_law_426 : decode cL_law 426 = .ok (.iload 5, 2) := by decide +kernel
theorem dL_law_428 : decode cL_law 428 = .ok (.iconst 2, 1) := by decide +kernel
theorem dL_law_429 : decode cL_law 429 = .ok (.iadd, 1) := by decide +kernel
theorem dL_law_430 : decode cL_law 430 = .ok (.iaload, 1) := by decide +kernel
theorem dL_law_431 : decode cL_law 431 = .ok (.aload_n 3, 1) := by decide +kernel
theorem dL_law_432 : decode cL_law 432 = .ok (.invokestatic 152, 3) := by decide +kernel
theorem dL_law_435 : decode cL_law 435 = .ok (.istore 6, 2) := by decide +kernel
theorem dL_law_437 : decode cL_law 437 = .ok (.aload_n 2, 1) := by decide +kernel
theorem dL_law_438 : decode cL_law 438 = .ok (.aload_n 0, 1) := by decide +kernel
theorem dL_law_439 : decode cL_law 439 = .ok (.iload 5, 2) := by decide +kernel
theorem dL_law_441 : decode cL_law 441 = .ok (.iconst 1, 1) := by decide +kernel
theorem dL_law_442 : decode cL_law 442 = .ok (.iadd, 1) := by decide +kernel
theorem dL_law_443 : decode cL_law 443 = .ok (.iaload, 1) := by decide +kernel
theorem dL_law_444 : decode cL_law 444 = .ok (.aload_n 0, 1) := by decide +kernel
theorem dL_law_445 : decode cL_law 445 = .ok (.iload 5, 2) := by decide +kernel
theorem dL_law_447 : decode cL_law 447 = .ok (.iconst 2, 1) := by decide +kernel
theorem dL_law_448 : decode cL_law 448 = .ok (.iadd, 1) := by decide +kernel
theorem dL_law_449 : decode cL_law 449 = .ok (.iaload, 1) := by decide +kernel
theorem dL_law_450 : decode cL_law 450 = .ok (.invokevirtual 154, 3) := by decide +kernel
theorem dL_law_453 : decode cL_law 453 = .ok (.istore 7, 2) := by decide +kernel
theorem dL_law_455 : decode cL_law 455 = .ok (.aload_n 2, 1) := by decide +kernel
theorem dL_law_456 : decode cL_law 456 = .ok (.invokevirtual 134, 3) := by decide +kernel
theorem dL_law_459 : decode cL_law 459 = .ok (.iload 6, 2) := by decide +kernel
theorem dL_law_461 : decode cL_law 461 = .ok (.if_icmp .eq 5, 3) := by decide +kernel
theorem dL_law_464 : decode cL_law 464 = .ok (.iconst 0, 1) := by decide +kernel
theorem dL_law_465 : decode cL_law 465 = .ok (.ireturn, 1) := by decide +kernel
theorem dL_law_466 : decode cL_law 466 = .ok (.iload 6, 2) := by decide +kernel
theorem dL_law_468 : decode cL_law 468 = .ok (.ifCond .ne 22, 3) := by decide +kernel
theorem dL_law_471 : decode cL_law 471 = .ok (.aload_n 3, 1) := by decide +kernel
theorem dL_law_472 : decode cL_law 472 = .ok (.iconst 0, 1) := by decide +kernel
theorem dL_law_473 : decode cL_law 473 = .ok (.laload, 1) := by decide +kernel
theorem dL_law_474 : decode cL_law 474 = .ok (.iload 7, 2) := by decide +kernel
theorem dL_law_476 : decode cL_law 476 = .ok (.ifCond .eq 7, 3) := by decide +kernel
theorem dL_law_479 : decode cL_law 479 = .ok (.lconst 1, 1) := by decide +kernel
theorem dL_law_480 : decode cL_law 480 = .ok (.goto 4, 3) := by decide +kernel
theorem dL_law_483 : decode cL_law 483 = .ok (.lconst 0, 1) := by decide +kernel
theorem dL_law_484 : decode cL_law 484 = .ok (.lcmp, 1) := by decide +kernel
theorem dL_law_485 : decode cL_law 485 = .ok (.ifCond .eq 5, 3) := by decide +kernel
theorem dL_law_488 : decode cL_law 488 = .ok (.iconst 0, 1) := by decide +kernel
theorem dL_law_489 : decode cL_law 489 = .ok (.ireturn, 1) := by decide +kernel
theorem dL_law_490 : decode cL_law 490 = .ok (.goto 2217, 3) := by decide +kernel
theorem dL_law_493 : decode cL_law 493 = .ok (.aload_n 1, 1) := by decide +kernel
theorem dL_law_494 : decode cL_law 494 = .ok (.aload_n 0, 1) := by decide +kernel
theorem dL_law_495 : decode cL_law 495 = .ok (.iload 5, 2) := by decide +kernel
theorem dL_law_497 : decode cL_law 497 = .ok (.iconst 1, 1) := by decide +kernel
theorem dL_law_498 : decode cL_law 498 = .ok (.iadd, 1) := by decide +kernel
theorem dL_law_499 : decode cL_law 499 = .ok (.iaload, 1) := by decide +kernel
theorem dL_law_500 : decode cL_law 500 = .ok (.aload_n 0, 1) := by decide +kernel
theorem dL_law_501 : decode cL_law 501 = .ok (.iload 5, 2) := by decide +kernel
theorem dL_law_503 : decode cL_law 503 = .ok (.iconst 2, 1) := by decide +kernel
theorem dL_law_504 : decode cL_law 504 = .ok (.iadd, 1) := by decide +kernel
theorem dL_law_505 : decode cL_law 505 = .ok (.iaload, 1) := by decide +kernel
theorem dL_law_506 : decode cL_law 506 = .ok (.aload_n 3, 1) := by decide +kernel
theorem dL_law_507 : decode cL_law 507 = .ok (.invokestatic 155, 3) := by decide +kernel
theorem dL_law_510 : decode cL_law 510 = .ok (.istore 6, 2) := by decide +kernel
theorem dL_law_512 : decode cL_law 512 = .ok (.aload_n 2, 1) := by decide +kernel
theorem dL_law_513 : decode cL_law 513 = .ok (.aload_n 0, 1) := by decide +kernel
theorem dL_law_514 : decode cL_law 514 = .ok (.iload 5, 2) := by decide +kernel
theorem dL_law_516 : decode cL_law 516 = .ok (.iconst 1, 1) := by decide +kernel
theorem dL_law_517 : decode cL_law 517 = .ok (.iadd, 1) := by decide +kernel
theorem dL_law_518 : decode cL_law 518 = .ok (.iaload, 1) := by decide +kernel
theorem dL_law_519 : decode cL_law 519 = .ok (.aload_n 0, 1) := by decide +kernel
theorem dL_law_520 : decode cL_law 520 = .ok (.iload 5, 2) := by decide +kernel
theorem dL_law_522 : decode cL_law 522 = .ok (.iconst 2, 1) := by decide +kernel
theorem dL_law_523 : decode cL_law 523 = .ok (.iadd, 1) := by decide +kernel
theorem dL_law_524 : decode cL_law 524 = .ok (.iaload, 1) := by decide +kernel
theorem dL_law_525 : decode cL_law 525 = .ok (.invokevirtual 157, 3) := by decide +kernel
theorem dL_law_528 : decode cL_law 528 = .ok (.istore 7, 2) := by decide +kernel
theorem dL_law_530 : decode cL_law 530 = .ok (.aload_n 2, 1) := by decide +kernel
theorem dL_law_531 : decode cL_law 531 = .ok (.invokevirtual 134, 3) := by decide +kernel
theorem dL_law_534 : decode cL_law 534 = .ok (.iload 6, 2) := by decide +kernel
theorem dL_law_536 : decode cL_law 536 = .ok (.if_icmp .eq 5, 3) := by decide +kernel
theorem dL_law_539 : decode cL_law 539 = .ok (.iconst 0, 1) := by decide +kernel
theorem dL_law_540 : decode cL_law 540 = .ok (.ireturn, 1) := by decide +kernel
theorem dL_law_541 : decode cL_law 541 = .ok (.iload 6, 2) := by decide +kernel
theorem dL_law_543 : decode cL_law 543 = .ok (.ifCond .ne 15, 3) := by decide +kernel
theorem dL_law_546 : decode cL_law 546 = .ok (.aload_n 3, 1) := by decide +kernel
theorem dL_law_547 : decode cL_law 547 = .ok (.iconst 0, 1) := by decide +kernel
theorem dL_law_548 : decode cL_law 548 = .ok (.laload, 1) := by decide +kernel
theorem dL_law_549 : decode cL_law 549 = .ok (.iload 7, 2) := by decide +kernel
theorem dL_law_551 : decode cL_law 551 = .ok (.i2l, 1) := by decide +kernel
theorem dL_law_552 : decode cL_law 552 = .ok (.lcmp, 1) := by decide +kernel
theorem dL_law_553 : decode cL_law 553 = .ok (.ifCond .eq 5, 3) := by decide +kernel
theorem dL_law_556 : decode cL_law 556 = .ok (.iconst 0, 1) := by decide +kernel
theorem dL_law_557 : decode cL_law 557 = .ok (.ireturn, 1) := by decide +kernel
theorem dL_law_558 : decode cL_law 558 = .ok (.goto 2149, 3) := by decide +kernel
theorem dL_law_561 : decode cL_law 561 = .ok (.aload_n 1, 1) := by decide +kernel
theorem dL_law_562 : decode cL_law 562 = .ok (.aload_n 0, 1) := by decide +kernel
theorem dL_law_563 : decode cL_law 563 = .ok (.iload 5, 2) := by decide +kernel
theorem dL_law_565 : decode cL_law 565 = .ok (.iconst 1, 1) := by decide +kernel
theorem dL_law_566 : decode cL_law 566 = .ok (.iadd, 1) := by decide +kernel
theorem dL_law_567 : decode cL_law 567 = .ok (.iaload, 1) := by decide +kernel
theorem dL_law_568 : decode cL_law 568 = .ok (.aload_n 0, 1) := by decide +kernel
theorem dL_law_569 : decode cL_law 569 = .ok (.iload 5, 2) := by decide +kernel
theorem dL_law_571 : decode cL_law 571 = .ok (.iconst 2, 1) := by decide +kernel
theorem dL_law_572 : decode cL_law 572 = .ok (.iadd, 1) := by decide +kernel
theorem dL_law_573 : decode cL_law 573 = .ok (.iaload, 1) := by decide +kernel
theorem dL_law_574 : decode cL_law 574 = .ok (.aload_n 0, 1) := by decide +kernel
theorem dL_law_575 : decode cL_law 575 = .ok (.iload 5, 2) := by decide +kernel
theorem dL_law_577 : decode cL_law 577 = .ok (.iconst 3, 1) := by decide +kernel
theorem dL_law_578 : decode cL_law 578 = .ok (.iadd, 1) := by decide +kernel
theorem dL_law_579 : decode cL_law 579 = .ok (.iaload, 1) := by decide +kernel
theorem dL_law_580 : decode cL_law 580 = .ok (.aload_n 3, 1) := by decide +kernel
theorem dL_law_581 : decode cL_law 581 = .ok (.invokestatic 158, 3) := by decide +kernel
theorem dL_law_584 : decode cL_law 584 = .ok (.istore 6, 2) := by decide +kernel
theorem dL_law_586 : decode cL_law 586 = .ok (.aload_n 2, 1) := by decide +kernel
theorem dL_law_587 : decode cL_law 587 = .ok (.aload_n 0, 1) := by decide +kernel
theorem dL_law_588 : decode cL_law 588 = .ok (.iload 5, 2) := by decide +kernel
theorem dL_law_590 : decode cL_law 590 = .ok (.iconst 1, 1) := by decide +kernel
theorem dL_law_591 : decode cL_law 591 = .ok (.iadd, 1) := by decide +kernel
theorem dL_law_592 : decode cL_law 592 = .ok (.iaload, 1) := by decide +kernel
theorem dL_law_593 : decode cL_law 593 = .ok (.aload_n 0, 1) := by decide +kernel
theorem dL_law_594 : decode cL_law 594 = .ok (.iload 5, 2) := by decide +kernel
theorem dL_law_596 : decode cL_law 596 = .ok (.iconst 2, 1) := by decide +kernel
theorem dL_law_597 : decode cL_law 597 = .ok (.iadd, 1) := by decide +kernel
theorem dL_law_598 : decode cL_law 598 = .ok (.iaload, 1) := by decide +kernel
theorem dL_law_599 : decode cL_law 599 = .ok (.aload_n 0, 1) := by decide +kernel
theorem dL_law_600 : decode cL_law 600 = .ok (.iload 5, 2) := by decide +kernel
theorem dL_law_602 : decode cL_law 602 = .ok (.iconst 3, 1) := by decide +kernel
theorem dL_law_603 : decode cL_law 603 = .ok (.iadd, 1) := by decide +kernel
theorem dL_law_604 : decode cL_law 604 = .ok (.iaload, 1) := by decide +kernel
theorem dL_law_605 : decode cL_law 605 = .ok (.invokevirtual 161, 3) := by decide +kernel
theorem dL_law_608 : decode cL_law 608 = .ok (.istore 7, 2) := by decide +kernel
theorem dL_law_610 : decode cL_law 610 = .ok (.aload_n 2, 1) := by decide +kernel
theorem dL_law_611 : decode cL_law 611 = .ok (.invokevirtual 134, 3) := by decide +kernel
theorem dL_law_614 : decode cL_law 614 = .ok (.iload 6, 2) := by decide +kernel
theorem dL_law_616 : decode cL_law 616 = .ok (.if_icmp .eq 5, 3) := by decide +kernel
theorem dL_law_619 : decode cL_law 619 = .ok (.iconst 0, 1) := by decide +kernel
theorem dL_law_620 : decode cL_law 620 = .ok (.ireturn, 1) := by decide +kernel
theorem dL_law_621 : decode cL_law 621 = .ok (.iload 6, 2) := by decide +kernel
theorem dL_law_623 : decode cL_law 623 = .ok (.ifCond .ne 15, 3) := by decide +kernel
theorem dL_law_626 : decode cL_law 626 = .ok (.aload_n 3, 1) := by decide +kernel
theorem dL_law_627 : decode cL_law 627 = .ok (.iconst 0, 1) := by decide +kernel
theorem dL_law_628 : decode cL_law 628 = .ok (.laload, 1) := by decide +kernel
theorem dL_law_629 : decode cL_law 629 = .ok (.iload 7, 2) := by decide +kernel
theorem dL_law_631 : decode cL_law 631 = .ok (.i2l, 1) := by decide +kernel
theorem dL_law_632 : decode cL_law 632 = .ok (.lcmp, 1) := by decide +kernel
theorem dL_law_633 : decode cL_law 633 = .ok (.ifCond .eq 5, 3) := by decide +kernel
theorem dL_law_636 : decode cL_law 636 = .ok (.iconst 0, 1) := by decide +kernel
theorem dL_law_637 : decode cL_law 637 = .ok (.ireturn, 1) := by decide +kernel
theorem dL_law_638 : decode cL_law 638 = .ok (.goto 2069, 3) := by decide +kernel
theorem dL_law_641 : decode cL_law 641 = .ok (.aload_n 1, 1) := by decide +kernel
theorem dL_law_642 : decode cL_law 642 = .ok (.aload_n 0, 1) := by decide +kernel
theorem dL_law_643 : decode cL_law 643 = .ok (.iload 5, 2) := by decide +kernel
theorem dL_law_645 : decode cL_law 645 = .ok (.iconst 1, 1) := by decide +kernel
theorem dL_law_646 : decode cL_law 646 = .ok (.iadd, 1) := by decide +kernel
theorem dL_law_647 : decode cL_law 647 = .ok (.iaload, 1) := by decide +kernel
theorem dL_law_648 : decode cL_law 648 = .ok (.aload_n 0, 1) := by decide +kernel
theorem dL_law_649 : decode cL_law 649 = .ok (.iload 5, 2) := by decide +kernel
theorem dL_law_651 : decode cL_law 651 = .ok (.iconst 2, 1) := by decide +kernel
theorem dL_law_652 : decode cL_law 652 = .ok (.iadd, 1) := by decide +kernel
theorem dL_law_653 : decode cL_law 653 = .ok (.iaload, 1) := by decide +kernel
theorem dL_law_654 : decode cL_law 654 = .ok (.aload_n 0, 1) := by decide +kernel
theorem dL_law_655 : decode cL_law 655 = .ok (.iload 5, 2) := by decide +kernel
theorem dL_law_657 : decode cL_law 657 = .ok (.iconst 3, 1) := by decide +kernel
theorem dL_law_658 : decode cL_law 658 = .ok (.iadd, 1) := by decide +kernel
theorem dL_law_659 : decode cL_law 659 = .ok (.iaload, 1) := by decide +kernel
theorem dL_law_660 : decode cL_law 660 = .ok (.aload_n 3, 1) := by decide +kernel
theorem dL_law_661 : decode cL_law 661 = .ok (.invokestatic 162, 3) := by decide +kernel
theorem dL_law_664 : decode cL_law 664 = .ok (.istore 6, 2) := by decide +kernel
theorem dL_law_666 : decode cL_law 666 = .ok (.aload_n 2, 1) := by decide +kernel
theorem dL_law_667 : decode cL_law 667 = .ok (.aload_n 0, 1) := by decide +kernel
theorem dL_law_668 : decode cL_law 668 = .ok (.iload 5, 2) := by decide +kernel
theorem dL_law_670 : decode cL_law 670 = .ok (.iconst 1, 1) := by decide +kernel
theorem dL_law_671 : decode cL_law 671 = .ok (.iadd, 1) := by decide +kernel
theorem dL_law_672 : decode cL_law 672 = .ok (.iaload, 1) := by decide +kernel
theorem dL_law_673 : decode cL_law 673 = .ok (.aload_n 0, 1) := by decide +kernel
theorem dL_law_674 : decode cL_law 674 = .ok (.iload 5, 2) := by decide +kernel
theorem dL_law_676 : decode cL_law 676 = .ok (.iconst 2, 1) := by decide +kernel
theorem dL_law_677 : decode cL_law 677 = .ok (.iadd, 1) := by decide +kernel
theorem dL_law_678 : decode cL_law 678 = .ok (.iaload, 1) := by decide +kernel
theorem dL_law_679 : decode cL_law 679 = .ok (.aload_n 0, 1) := by decide +kernel
theorem dL_law_680 : decode cL_law 680 = .ok (.iload 5, 2) := by decide +kernel
theorem dL_law_682 : decode cL_law 682 = .ok (.iconst 3, 1) := by decide +kernel
theorem dL_law_683 : decode cL_law 683 = .ok (.iadd, 1) := by decide +kernel
theorem dL_law_684 : decode cL_law 684 = .ok (.iaload, 1) := by decide +kernel
theorem dL_law_685 : decode cL_law 685 = .ok (.invokevirtual 164, 3) := by decide +kernel
theorem dL_law_688 : decode cL_law 688 = .ok (.istore 7, 2) := by decide +kernel
theorem dL_law_690 : decode cL_law 690 = .ok (.aload_n 2, 1) := by decide +kernel
theorem dL_law_691 : decode cL_law 691 = .ok (.invokevirtual 134, 3) := by decide +kernel
theorem dL_law_694 : decode cL_law 694 = .ok (.iload 6, 2) := by decide +kernel
theorem dL_law_696 : decode cL_law 696 = .ok (.if_icmp .eq 5, 3) := by decide +kernel
theorem dL_law_699 : decode cL_law 699 = .ok (.iconst 0, 1) := by decide +kernel
theorem dL_law_700 : decode cL_law 700 = .ok (.ireturn, 1) := by decide +kernel
theorem dL_law_701 : decode cL_law 701 = .ok (.iload 6, 2) := by decide +kernel
theorem dL_law_703 : decode cL_law 703 = .ok (.ifCond .ne 22, 3) := by decide +kernel
theorem dL_law_706 : decode cL_law 706 = .ok (.aload_n 3, 1) := by decide +kernel
theorem dL_law_707 : decode cL_law 707 = .ok (.iconst 0, 1) := by decide +kernel
theorem dL_law_708 : decode cL_law 708 = .ok (.laload, 1) := by decide +kernel
theorem dL_law_709 : decode cL_law 709 = .ok (.iload 7, 2) := by decide +kernel
theorem dL_law_711 : decode cL_law 711 = .ok (.ifCond .eq 7, 3) := by decide +kernel
theorem dL_law_714 : decode cL_law 714 = .ok (.lconst 1, 1) := by decide +kernel
theorem dL_law_715 : decode cL_law 715 = .ok (.goto 4, 3) := by decide +kernel
theorem dL_law_718 : decode cL_law 718 = .ok (.lconst 0, 1) := by decide +kernel
theorem dL_law_719 : decode cL_law 719 = .ok (.lcmp, 1) := by decide +kernel
theorem dL_law_720 : decode cL_law 720 = .ok (.ifCond .eq 5, 3) := by decide +kernel
theorem dL_law_723 : decode cL_law 723 = .ok (.iconst 0, 1) := by decide +kernel
theorem dL_law_724 : decode cL_law 724 = .ok (.ireturn, 1) := by decide +kernel
theorem dL_law_725 : decode cL_law 725 = .ok (.goto 1982, 3) := by decide +kernel
theorem dL_law_728 : decode cL_law 728 = .ok (.aload_n 1, 1) := by decide +kernel
theorem dL_law_729 : decode cL_law 729 = .ok (.aload_n 0, 1) := by decide +kernel
theorem dL_law_730 : decode cL_law 730 = .ok (.iload 5, 2) := by decide +kernel
theorem dL_law_732 : decode cL_law 732 = .ok (.iconst 1, 1) := by decide +kernel
theorem dL_law_733 : decode cL_law 733 = .ok (.iadd, 1) := by decide +kernel
theorem dL_law_734 : decode cL_law 734 = .ok (.iaload, 1) := by decide +kernel
theorem dL_law_735 : decode cL_law 735 = .ok (.aload_n 0, 1) := by decide +kernel
theorem dL_law_736 : decode cL_law 736 = .ok (.iload 5, 2) := by decide +kernel
theorem dL_law_738 : decode cL_law 738 = .ok (.iconst 2, 1) := by decide +kernel
theorem dL_law_739 : decode cL_law 739 = .ok (.iadd, 1) := by decide +kernel
theorem dL_law_740 : decode cL_law 740 = .ok (.iaload, 1) := by decide +kernel
theorem dL_law_741 : decode cL_law 741 = .ok (.aload_n 3, 1) := by decide +kernel
theorem dL_law_742 : decode cL_law 742 = .ok (.invokestatic 165, 3) := by decide +kernel
theorem dL_law_745 : decode cL_law 745 = .ok (.istore 6, 2) := by decide +kernel
theorem dL_law_747 : decode cL_law 747 = .ok (.aload_n 2, 1) := by decide +kernel
theorem dL_law_748 : decode cL_law 748 = .ok (.aload_n 0, 1) := by decide +kernel
theorem dL_law_749 : decode cL_law 749 = .ok (.iload 5, 2) := by decide +kernel
theorem dL_law_751 : decode cL_law 751 = .ok (.iconst 1, 1) := by decide +kernel
theorem dL_law_752 : decode cL_law 752 = .ok (.iadd, 1) := by decide +kernel
theorem dL_law_753 : decode cL_law 753 = .ok (.iaload, 1) := by decide +kernel
theorem dL_law_754 : decode cL_law 754 = .ok (.aload_n 0, 1) := by decide +kernel
theorem dL_law_755 : decode cL_law 755 = .ok (.iload 5, 2) := by decide +kernel
theorem dL_law_757 : decode cL_law 757 = .ok (.iconst 2, 1) := by decide +kernel
theorem dL_law_758 : decode cL_law 758 = .ok (.iadd, 1) := by decide +kernel
theorem dL_law_759 : decode cL_law 759 = .ok (.iaload, 1) := by decide +kernel
theorem dL_law_760 : decode cL_law 760 = .ok (.invokevirtual 167, 3) := by decide +kernel
theorem dL_law_763 : decode cL_law 763 = .ok (.istore 7, 2) := by decide +kernel
theorem dL_law_765 : decode cL_law 765 = .ok (.aload_n 2, 1) := by decide +kernel
theorem dL_law_766 : decode cL_law 766 = .ok (.invokevirtual 134, 3) := by decide +kernel
theorem dL_law_769 : decode cL_law 769 = .ok (.iload 6, 2) := by decide +kernel
theorem dL_law_771 : decode cL_law 771 = .ok (.if_icmp .eq 5, 3) := by decide +kernel
theorem dL_law_774 : decode cL_law 774 = .ok (.iconst 0, 1) := by decide +kernel
theorem dL_law_775 : decode cL_law 775 = .ok (.ireturn, 1) := by decide +kernel
theorem dL_law_776 : decode cL_law 776 = .ok (.iload 6, 2) := by decide +kernel
theorem dL_law_778 : decode cL_law 778 = .ok (.ifCond .ne 15, 3) := by decide +kernel
theorem dL_law_781 : decode cL_law 781 = .ok (.aload_n 3, 1) := by decide +kernel
theorem dL_law_782 : decode cL_law 782 = .ok (.iconst 0, 1) := by decide +kernel
theorem dL_law_783 : decode cL_law 783 = .ok (.laload, 1) := by decide +kernel
theorem dL_law_784 : decode cL_law 784 = .ok (.iload 7, 2) := by decide +kernel
theorem dL_law_786 : decode cL_law 786 = .ok (.i2l, 1) := by decide +kernel
theorem dL_law_787 : decode cL_law 787 = .ok (.lcmp, 1) := by decide +kernel
theorem dL_law_788 : decode cL_law 788 = .ok (.ifCond .eq 5, 3) := by decide +kernel
theorem dL_law_791 : decode cL_law 791 = .ok (.iconst 0, 1) := by decide +kernel
theorem dL_law_792 : decode cL_law 792 = .ok (.ireturn, 1) := by decide +kernel
theorem dL_law_793 : decode cL_law 793 = .ok (.goto 1914, 3) := by decide +kernel
theorem dL_law_796 : decode cL_law 796 = .ok (.aload_n 1, 1) := by decide +kernel
theorem dL_law_797 : decode cL_law 797 = .ok (.aload_n 0, 1) := by decide +kernel
theorem dL_law_798 : decode cL_law 798 = .ok (.iload 5, 2) := by decide +kernel
theorem dL_law_800 : decode cL_law 800 = .ok (.iconst 1, 1) := by decide +kernel
theorem dL_law_801 : decode cL_law 801 = .ok (.iadd, 1) := by decide +kernel
theorem dL_law_802 : decode cL_law 802 = .ok (.iaload, 1) := by decide +kernel
theorem dL_law_803 : decode cL_law 803 = .ok (.aload_n 0, 1) := by decide +kernel
theorem dL_law_804 : decode cL_law 804 = .ok (.iload 5, 2) := by decide +kernel
theorem dL_law_806 : decode cL_law 806 = .ok (.iconst 2, 1) := by decide +kernel
theorem dL_law_807 : decode cL_law 807 = .ok (.iadd, 1) := by decide +kernel
theorem dL_law_808 : decode cL_law 808 = .ok (.iaload, 1) := by decide +kernel
theorem dL_law_809 : decode cL_law 809 = .ok (.aload_n 3, 1) := by decide +kernel
theorem dL_law_810 : decode cL_law 810 = .ok (.invokestatic 168, 3) := by decide +kernel
theorem dL_law_813 : decode cL_law 813 = .ok (.istore 6, 2) := by decide +kernel
theorem dL_law_815 : decode cL_law 815 = .ok (.aload_n 2, 1) := by decide +kernel
theorem dL_law_816 : decode cL_law 816 = .ok (.aload_n 0, 1) := by decide +kernel
theorem dL_law_817 : decode cL_law 817 = .ok (.iload 5, 2) := by decide +kernel
theorem dL_law_819 : decode cL_law 819 = .ok (.iconst 1, 1) := by decide +kernel
theorem dL_law_820 : decode cL_law 820 = .ok (.iadd, 1) := by decide +kernel
theorem dL_law_821 : decode cL_law 821 = .ok (.iaload, 1) := by decide +kernel
theorem dL_law_822 : decode cL_law 822 = .ok (.aload_n 0, 1) := by decide +kernel
theorem dL_law_823 : decode cL_law 823 = .ok (.iload 5, 2) := by decide +kernel
theorem dL_law_825 : decode cL_law 825 = .ok (.iconst 2, 1) := by decide +kernel
theorem dL_law_826 : decode cL_law 826 = .ok (.iadd, 1) := by decide +kernel
theorem dL_law_827 : decode cL_law 827 = .ok (.iaload, 1) := by decide +kernel
theorem dL_law_828 : decode cL_law 828 = .ok (.invokevirtual 170, 3) := by decide +kernel
theorem dL_law_831 : decode cL_law 831 = .ok (.istore 7, 2) := by decide +kernel
theorem dL_law_833 : decode cL_law 833 = .ok (.aload_n 2, 1) := by decide +kernel
theorem dL_law_834 : decode cL_law 834 = .ok (.invokevirtual 134, 3) := by decide +kernel
theorem dL_law_837 : decode cL_law 837 = .ok (.iload 6, 2) := by decide +kernel
theorem dL_law_839 : decode cL_law 839 = .ok (.if_icmp .eq 5, 3) := by decide +kernel
theorem dL_law_842 : decode cL_law 842 = .ok (.iconst 0, 1) := by decide +kernel
theorem dL_law_843 : decode cL_law 843 = .ok (.ireturn, 1) := by decide +kernel
theorem dL_law_844 : decode cL_law 844 = .ok (.iload 6, 2) := by decide +kernel
theorem dL_law_846 : decode cL_law 846 = .ok (.ifCond .ne 15, 3) := by decide +kernel
theorem dL_law_849 : decode cL_law 849 = .ok (.aload_n 3, 1) := by decide +kernel
theorem dL_law_850 : decode cL_law 850 = .ok (.iconst 0, 1) := by decide +kernel
theorem dL_law_851 : decode cL_law 851 = .ok (.laload, 1) := by decide +kernel
theorem dL_law_852 : decode cL_law 852 = .ok (.iload 7, 2) := by decide +kernel
theorem dL_law_854 : decode cL_law 854 = .ok (.i2l, 1) := by decide +kernel
theorem dL_law_855 : decode cL_law 855 = .ok (.lcmp, 1) := by decide +kernel
theorem dL_law_856 : decode cL_law 856 = .ok (.ifCond .eq 5, 3) := by decide +kernel
theorem dL_law_859 : decode cL_law 859 = .ok (.iconst 0, 1) := by decide +kernel
theorem dL_law_860 : decode cL_law 860 = .ok (.ireturn, 1) := by decide +kernel
theorem dL_law_861 : decode cL_law 861 = .ok (.goto 1846, 3) := by decide +kernel
theorem dL_law_864 : decode cL_law 864 = .ok (.aload_n 1, 1) := by decide +kernel
theorem dL_law_865 : decode cL_law 865 = .ok (.aload_n 0, 1) := by decide +kernel
theorem dL_law_866 : decode cL_law 866 = .ok (.iload 5, 2) := by decide +kernel
theorem dL_law_868 : decode cL_law 868 = .ok (.iconst 1, 1) := by decide +kernel
theorem dL_law_869 : decode cL_law 869 = .ok (.iadd, 1) := by decide +kernel
theorem dL_law_870 : decode cL_law 870 = .ok (.iaload, 1) := by decide +kernel
theorem dL_law_871 : decode cL_law 871 = .ok (.aload_n 0, 1) := by decide +kernel
theorem dL_law_872 : decode cL_law 872 = .ok (.iload 5, 2) := by decide +kernel
theorem dL_law_874 : decode cL_law 874 = .ok (.iconst 2, 1) := by decide +kernel
theorem dL_law_875 : decode cL_law 875 = .ok (.iadd, 1) := by decide +kernel
theorem dL_law_876 : decode cL_law 876 = .ok (.iaload, 1) := by decide +kernel
theorem dL_law_877 : decode cL_law 877 = .ok (.aload_n 0, 1) := by decide +kernel
theorem dL_law_878 : decode cL_law 878 = .ok (.iload 5, 2) := by decide +kernel
theorem dL_law_880 : decode cL_law 880 = .ok (.iconst 3, 1) := by decide +kernel
theorem dL_law_881 : decode cL_law 881 = .ok (.iadd, 1) := by decide +kernel
theorem dL_law_882 : decode cL_law 882 = .ok (.iaload, 1) := by decide +kernel
theorem dL_law_883 : decode cL_law 883 = .ok (.aload_n 0, 1) := by decide +kernel
theorem dL_law_884 : decode cL_law 884 = .ok (.iload 5, 2) := by decide +kernel
theorem dL_law_886 : decode cL_law 886 = .ok (.iconst 4, 1) := by decide +kernel
theorem dL_law_887 : decode cL_law 887 = .ok (.iadd, 1) := by decide +kernel
theorem dL_law_888 : decode cL_law 888 = .ok (.iaload, 1) := by decide +kernel
theorem dL_law_889 : decode cL_law 889 = .ok (.aload_n 3, 1) := by decide +kernel
theorem dL_law_890 : decode cL_law 890 = .ok (.invokestatic 171, 3) := by decide +kernel
theorem dL_law_893 : decode cL_law 893 = .ok (.istore 6, 2) := by decide +kernel
theorem dL_law_895 : decode cL_law 895 = .ok (.aload_n 2, 1) := by decide +kernel
theorem dL_law_896 : decode cL_law 896 = .ok (.aload_n 0, 1) := by decide +kernel
theorem dL_law_897 : decode cL_law 897 = .ok (.iload 5, 2) := by decide +kernel
theorem dL_law_899 : decode cL_law 899 = .ok (.iconst 1, 1) := by decide +kernel
theorem dL_law_900 : decode cL_law 900 = .ok (.iadd, 1) := by decide +kernel
theorem dL_law_901 : decode cL_law 901 = .ok (.iaload, 1) := by decide +kernel
theorem dL_law_902 : decode cL_law 902 = .ok (.aload_n 0, 1) := by decide +kernel
theorem dL_law_903 : decode cL_law 903 = .ok (.iload 5, 2) := by decide +kernel
theorem dL_law_905 : decode cL_law 905 = .ok (.iconst 2, 1) := by decide +kernel
theorem dL_law_906 : decode cL_law 906 = .ok (.iadd, 1) := by decide +kernel
theorem dL_law_907 : decode cL_law 907 = .ok (.iaload, 1) := by decide +kernel
theorem dL_law_908 : decode cL_law 908 = .ok (.aload_n 0, 1) := by decide +kernel
theorem dL_law_909 : decode cL_law 909 = .ok (.iload 5, 2) := by decide +kernel
theorem dL_law_911 : decode cL_law 911 = .ok (.iconst 3, 1) := by decide +kernel
theorem dL_law_912 : decode cL_law 912 = .ok (.iadd, 1) := by decide +kernel
theorem dL_law_913 : decode cL_law 913 = .ok (.iaload, 1) := by decide +kernel
theorem dL_law_914 : decode cL_law 914 = .ok (.aload_n 0, 1) := by decide +kernel
theorem dL_law_915 : decode cL_law 915 = .ok (.iload 5, 2) := by decide +kernel
theorem dL_law_917 : decode cL_law 917 = .ok (.iconst 4, 1) := by decide +kernel
theorem dL_law_918 : decode cL_law 918 = .ok (.iadd, 1) := by decide +kernel
theorem dL_law_919 : decode cL_law 919 = .ok (.iaload, 1) := by decide +kernel
theorem dL_law_920 : decode cL_law 920 = .ok (.invokevirtual 174, 3) := by decide +kernel
theorem dL_law_923 : decode cL_law 923 = .ok (.istore 7, 2) := by decide +kernel
theorem dL_law_925 : decode cL_law 925 = .ok (.aload_n 2, 1) := by decide +kernel
theorem dL_law_926 : decode cL_law 926 = .ok (.invokevirtual 134, 3) := by decide +kernel
theorem dL_law_929 : decode cL_law 929 = .ok (.iload 6, 2) := by decide +kernel
theorem dL_law_931 : decode cL_law 931 = .ok (.if_icmp .eq 5, 3) := by decide +kernel
theorem dL_law_934 : decode cL_law 934 = .ok (.iconst 0, 1) := by decide +kernel
theorem dL_law_935 : decode cL_law 935 = .ok (.ireturn, 1) := by decide +kernel
theorem dL_law_936 : decode cL_law 936 = .ok (.iload 6, 2) := by decide +kernel
theorem dL_law_938 : decode cL_law 938 = .ok (.ifCond .ne 15, 3) := by decide +kernel
theorem dL_law_941 : decode cL_law 941 = .ok (.aload_n 3, 1) := by decide +kernel
theorem dL_law_942 : decode cL_law 942 = .ok (.iconst 0, 1) := by decide +kernel
theorem dL_law_943 : decode cL_law 943 = .ok (.laload, 1) := by decide +kernel
theorem dL_law_944 : decode cL_law 944 = .ok (.iload 7, 2) := by decide +kernel
theorem dL_law_946 : decode cL_law 946 = .ok (.i2l, 1) := by decide +kernel
theorem dL_law_947 : decode cL_law 947 = .ok (.lcmp, 1) := by decide +kernel
theorem dL_law_948 : decode cL_law 948 = .ok (.ifCond .eq 5, 3) := by decide +kernel
theorem dL_law_951 : decode cL_law 951 = .ok (.iconst 0, 1) := by decide +kernel
theorem dL_law_952 : decode cL_law 952 = .ok (.ireturn, 1) := by decide +kernel
theorem dL_law_953 : decode cL_law 953 = .ok (.goto 1754, 3) := by decide +kernel
theorem dL_law_956 : decode cL_law 956 = .ok (.aload_n 1, 1) := by decide +kernel
theorem dL_law_957 : decode cL_law 957 = .ok (.aload_n 0, 1) := by decide +kernel
theorem dL_law_958 : decode cL_law 958 = .ok (.iload 5, 2) := by decide +kernel
theorem dL_law_960 : decode cL_law 960 = .ok (.iconst 1, 1) := by decide +kernel
theorem dL_law_961 : decode cL_law 961 = .ok (.iadd, 1) := by decide +kernel
theorem dL_law_962 : decode cL_law 962 = .ok (.iaload, 1) := by decide +kernel
theorem dL_law_963 : decode cL_law 963 = .ok (.aload_n 0, 1) := by decide +kernel
theorem dL_law_964 : decode cL_law 964 = .ok (.iload 5, 2) := by decide +kernel
theorem dL_law_966 : decode cL_law 966 = .ok (.iconst 2, 1) := by decide +kernel
theorem dL_law_967 : decode cL_law 967 = .ok (.iadd, 1) := by decide +kernel
theorem dL_law_968 : decode cL_law 968 = .ok (.iaload, 1) := by decide +kernel
theorem dL_law_969 : decode cL_law 969 = .ok (.aload_n 0, 1) := by decide +kernel
theorem dL_law_970 : decode cL_law 970 = .ok (.iload 5, 2) := by decide +kernel
theorem dL_law_972 : decode cL_law 972 = .ok (.iconst 3, 1) := by decide +kernel
theorem dL_law_973 : decode cL_law 973 = .ok (.iadd, 1) := by decide +kernel
theorem dL_law_974 : decode cL_law 974 = .ok (.iaload, 1) := by decide +kernel
theorem dL_law_975 : decode cL_law 975 = .ok (.aload_n 3, 1) := by decide +kernel
theorem dL_law_976 : decode cL_law 976 = .ok (.invokestatic 175, 3) := by decide +kernel
theorem dL_law_979 : decode cL_law 979 = .ok (.istore 6, 2) := by decide +kernel
theorem dL_law_981 : decode cL_law 981 = .ok (.aload_n 2, 1) := by decide +kernel
theorem dL_law_982 : decode cL_law 982 = .ok (.aload_n 0, 1) := by decide +kernel
theorem dL_law_983 : decode cL_law 983 = .ok (.iload 5, 2) := by decide +kernel
theorem dL_law_985 : decode cL_law 985 = .ok (.iconst 1, 1) := by decide +kernel
theorem dL_law_986 : decode cL_law 986 = .ok (.iadd, 1) := by decide +kernel
theorem dL_law_987 : decode cL_law 987 = .ok (.iaload, 1) := by decide +kernel
theorem dL_law_988 : decode cL_law 988 = .ok (.aload_n 0, 1) := by decide +kernel
theorem dL_law_989 : decode cL_law 989 = .ok (.iload 5, 2) := by decide +kernel
theorem dL_law_991 : decode cL_law 991 = .ok (.iconst 2, 1) := by decide +kernel
theorem dL_law_992 : decode cL_law 992 = .ok (.iadd, 1) := by decide +kernel
theorem dL_law_993 : decode cL_law 993 = .ok (.iaload, 1) := by decide +kernel
theorem dL_law_994 : decode cL_law 994 = .ok (.aload_n 0, 1) := by decide +kernel
theorem dL_law_995 : decode cL_law 995 = .ok (.iload 5, 2) := by decide +kernel
theorem dL_law_997 : decode cL_law 997 = .ok (.iconst 3, 1) := by decide +kernel
theorem dL_law_998 : decode cL_law 998 = .ok (.iadd, 1) := by decide +kernel
theorem dL_law_999 : decode cL_law 999 = .ok (.iaload, 1) := by decide +kernel
theorem dL_law_1000 : decode cL_law 1000 = .ok (.invokevirtual 177, 3) := by decide +kernel
theorem dL_law_1003 : decode cL_law 1003 = .ok (.istore 7, 2) := by decide +kernel
theorem dL_law_1005 : decode cL_law 1005 = .ok (.aload_n 2, 1) := by decide +kernel
theorem dL_law_1006 : decode cL_law 1006 = .ok (.invokevirtual 134, 3) := by decide +kernel
theorem dL_law_1009 : decode cL_law 1009 = .ok (.iload 6, 2) := by decide +kernel
theorem dL_law_1011 : decode cL_law 1011 = .ok (.if_icmp .eq 5, 3) := by decide +kernel
theorem dL_law_1014 : decode cL_law 1014 = .ok (.iconst 0, 1) := by decide +kernel
theorem dL_law_1015 : decode cL_law 1015 = .ok (.ireturn, 1) := by decide +kernel
theorem dL_law_1016 : decode cL_law 1016 = .ok (.iload 6, 2) := by decide +kernel
theorem dL_law_1018 : decode cL_law 1018 = .ok (.ifCond .ne 15, 3) := by decide +kernel
theorem dL_law_1021 : decode cL_law 1021 = .ok (.aload_n 3, 1) := by decide +kernel
theorem dL_law_1022 : decode cL_law 1022 = .ok (.iconst 0, 1) := by decide +kernel
theorem dL_law_1023 : decode cL_law 1023 = .ok (.laload, 1) := by decide +kernel
theorem dL_law_1024 : decode cL_law 1024 = .ok (.iload 7, 2) := by decide +kernel
theorem dL_law_1026 : decode cL_law 1026 = .ok (.i2l, 1) := by decide +kernel
theorem dL_law_1027 : decode cL_law 1027 = .ok (.lcmp, 1) := by decide +kernel
theorem dL_law_1028 : decode cL_law 1028 = .ok (.ifCond .eq 5, 3) := by decide +kernel
theorem dL_law_1031 : decode cL_law 1031 = .ok (.iconst 0, 1) := by decide +kernel
theorem dL_law_1032 : decode cL_law 1032 = .ok (.ireturn, 1) := by decide +kernel
theorem dL_law_1033 : decode cL_law 1033 = .ok (.goto 1674, 3) := by decide +kernel
theorem dL_law_1036 : decode cL_law 1036 = .ok (.aload_n 1, 1) := by decide +kernel
theorem dL_law_1037 : decode cL_law 1037 = .ok (.aload_n 0, 1) := by decide +kernel
theorem dL_law_1038 : decode cL_law 1038 = .ok (.iload 5, 2) := by decide +kernel
theorem dL_law_1040 : decode cL_law 1040 = .ok (.iconst 1, 1) := by decide +kernel
theorem dL_law_1041 : decode cL_law 1041 = .ok (.iadd, 1) := by decide +kernel
theorem dL_law_1042 : decode cL_law 1042 = .ok (.iaload, 1) := by decide +kernel
theorem dL_law_1043 : decode cL_law 1043 = .ok (.aload_n 0, 1) := by decide +kernel
theorem dL_law_1044 : decode cL_law 1044 = .ok (.iload 5, 2) := by decide +kernel
theorem dL_law_1046 : decode cL_law 1046 = .ok (.iconst 2, 1) := by decide +kernel
theorem dL_law_1047 : decode cL_law 1047 = .ok (.iadd, 1) := by decide +kernel
theorem dL_law_1048 : decode cL_law 1048 = .ok (.iaload, 1) := by decide +kernel
theorem dL_law_1049 : decode cL_law 1049 = .ok (.aload_n 0, 1) := by decide +kernel
theorem dL_law_1050 : decode cL_law 1050 = .ok (.iload 5, 2) := by decide +kernel
theorem dL_law_1052 : decode cL_law 1052 = .ok (.iconst 3, 1) := by decide +kernel
theorem dL_law_1053 : decode cL_law 1053 = .ok (.iadd, 1) := by decide +kernel
theorem dL_law_1054 : decode cL_law 1054 = .ok (.iaload, 1) := by decide +kernel
theorem dL_law_1055 : decode cL_law 1055 = .ok (.aload_n 0, 1) := by decide +kernel
theorem dL_law_1056 : decode cL_law 1056 = .ok (.iload 5, 2) := by decide +kernel
theorem dL_law_1058 : decode cL_law 1058 = .ok (.iconst 4, 1) := by decide +kernel
theorem dL_law_1059 : decode cL_law 1059 = .ok (.iadd, 1) := by decide +kernel
theorem dL_law_1060 : decode cL_law 1060 = .ok (.iaload, 1) := by decide +kernel
theorem dL_law_1061 : decode cL_law 1061 = .ok (.aload_n 0, 1) := by decide +kernel
theorem dL_law_1062 : decode cL_law 1062 = .ok (.iload 5, 2) := by decide +kernel
theorem dL_law_1064 : decode cL_law 1064 = .ok (.iconst 5, 1) := by decide +kernel
theorem dL_law_1065 : decode cL_law 1065 = .ok (.iadd, 1) := by decide +kernel
theorem dL_law_1066 : decode cL_law 1066 = .ok (.iaload, 1) := by decide +kernel
theorem dL_law_1067 : decode cL_law 1067 = .ok (.aload_n 0, 1) := by decide +kernel
theorem dL_law_1068 : decode cL_law 1068 = .ok (.iload 5, 2) := by decide +kernel
theorem dL_law_1070 : decode cL_law 1070 = .ok (.bipush 6, 2) := by decide +kernel
theorem dL_law_1072 : decode cL_law 1072 = .ok (.iadd, 1) := by decide +kernel
theorem dL_law_1073 : decode cL_law 1073 = .ok (.iaload, 1) := by decide +kernel
theorem dL_law_1074 : decode cL_law 1074 = .ok (.aload_n 3, 1) := by decide +kernel
theorem dL_law_1075 : decode cL_law 1075 = .ok (.invokestatic 178, 3) := by decide +kernel
theorem dL_law_1078 : decode cL_law 1078 = .ok (.istore 6, 2) := by decide +kernel
theorem dL_law_1080 : decode cL_law 1080 = .ok (.aload_n 2, 1) := by decide +kernel
theorem dL_law_1081 : decode cL_law 1081 = .ok (.aload_n 0, 1) := by decide +kernel
theorem dL_law_1082 : decode cL_law 1082 = .ok (.iload 5, 2) := by decide +kernel
theorem dL_law_1084 : decode cL_law 1084 = .ok (.iconst 1, 1) := by decide +kernel
theorem dL_law_1085 : decode cL_law 1085 = .ok (.iadd, 1) := by decide +kernel
theorem dL_law_1086 : decode cL_law 1086 = .ok (.iaload, 1) := by decide +kernel
theorem dL_law_1087 : decode cL_law 1087 = .ok (.aload_n 0, 1) := by decide +kernel
theorem dL_law_1088 : decode cL_law 1088 = .ok (.iload 5, 2) := by decide +kernel
theorem dL_law_1090 : decode cL_law 1090 = .ok (.iconst 2, 1) := by decide +kernel
theorem dL_law_1091 : decode cL_law 1091 = .ok (.iadd, 1) := by decide +kernel
theorem dL_law_1092 : decode cL_law 1092 = .ok (.iaload, 1) := by decide +kernel
theorem dL_law_1093 : decode cL_law 1093 = .ok (.aload_n 0, 1) := by decide +kernel
theorem dL_law_1094 : decode cL_law 1094 = .ok (.iload 5, 2) := by decide +kernel
theorem dL_law_1096 : decode cL_law 1096 = .ok (.iconst 3, 1) := by decide +kernel
theorem dL_law_1097 : decode cL_law 1097 = .ok (.iadd, 1) := by decide +kernel
theorem dL_law_1098 : decode cL_law 1098 = .ok (.iaload, 1) := by decide +kernel
theorem dL_law_1099 : decode cL_law 1099 = .ok (.aload_n 0, 1) := by decide +kernel
theorem dL_law_1100 : decode cL_law 1100 = .ok (.iload 5, 2) := by decide +kernel
theorem dL_law_1102 : decode cL_law 1102 = .ok (.iconst 4, 1) := by decide +kernel
theorem dL_law_1103 : decode cL_law 1103 = .ok (.iadd, 1) := by decide +kernel
theorem dL_law_1104 : decode cL_law 1104 = .ok (.iaload, 1) := by decide +kernel
theorem dL_law_1105 : decode cL_law 1105 = .ok (.aload_n 0, 1) := by decide +kernel
theorem dL_law_1106 : decode cL_law 1106 = .ok (.iload 5, 2) := by decide +kernel
theorem dL_law_1108 : decode cL_law 1108 = .ok (.iconst 5, 1) := by decide +kernel
theorem dL_law_1109 : decode cL_law 1109 = .ok (.iadd, 1) := by decide +kernel
theorem dL_law_1110 : decode cL_law 1110 = .ok (.iaload, 1) := by decide +kernel
theorem dL_law_1111 : decode cL_law 1111 = .ok (.aload_n 0, 1) := by decide +kernel
theorem dL_law_1112 : decode cL_law 1112 = .ok (.iload 5, 2) := by decide +kernel
theorem dL_law_1114 : decode cL_law 1114 = .ok (.bipush 6, 2) := by decide +kernel
theorem dL_law_1116 : decode cL_law 1116 = .ok (.iadd, 1) := by decide +kernel
theorem dL_law_1117 : decode cL_law 1117 = .ok (.iaload, 1) := by decide +kernel
theorem dL_law_1118 : decode cL_law 1118 = .ok (.invokevirtual 181, 3) := by decide +kernel
theorem dL_law_1121 : decode cL_law 1121 = .ok (.istore 7, 2) := by decide +kernel
theorem dL_law_1123 : decode cL_law 1123 = .ok (.aload_n 2, 1) := by decide +kernel
theorem dL_law_1124 : decode cL_law 1124 = .ok (.invokevirtual 134, 3) := by decide +kernel
theorem dL_law_1127 : decode cL_law 1127 = .ok (.iload 6, 2) := by decide +kernel
theorem dL_law_1129 : decode cL_law 1129 = .ok (.if_icmp .eq 5, 3) := by decide +kernel
theorem dL_law_1132 : decode cL_law 1132 = .ok (.iconst 0, 1) := by decide +kernel
theorem dL_law_1133 : decode cL_law 1133 = .ok (.ireturn, 1) := by decide +kernel
theorem dL_law_1134 : decode cL_law 1134 = .ok (.iload 6, 2) := by decide +kernel
theorem dL_law_1136 : decode cL_law 1136 = .ok (.ifCond .ne 15, 3) := by decide +kernel
theorem dL_law_1139 : decode cL_law 1139 = .ok (.aload_n 3, 1) := by decide +kernel
theorem dL_law_1140 : decode cL_law 1140 = .ok (.iconst 0, 1) := by decide +kernel
theorem dL_law_1141 : decode cL_law 1141 = .ok (.laload, 1) := by decide +kernel
theorem dL_law_1142 : decode cL_law 1142 = .ok (.iload 7, 2) := by decide +kernel
theorem dL_law_1144 : decode cL_law 1144 = .ok (.i2l, 1) := by decide +kernel
theorem dL_law_1145 : decode cL_law 1145 = .ok (.lcmp, 1) := by decide +kernel
theorem dL_law_1146 : decode cL_law 1146 = .ok (.ifCond .eq 5, 3) := by decide +kernel
theorem dL_law_1149 : decode cL_law 1149 = .ok (.iconst 0, 1) := by decide +kernel
theorem dL_law_1150 : decode cL_law 1150 = .ok (.ireturn, 1) := by decide +kernel
theorem dL_law_1151 : decode cL_law 1151 = .ok (.goto 1556, 3) := by decide +kernel
theorem dL_law_1154 : decode cL_law 1154 = .ok (.aload_n 1, 1) := by decide +kernel
theorem dL_law_1155 : decode cL_law 1155 = .ok (.aload_n 0, 1) := by decide +kernel
theorem dL_law_1156 : decode cL_law 1156 = .ok (.iload 5, 2) := by decide +kernel
theorem dL_law_1158 : decode cL_law 1158 = .ok (.iconst 1, 1) := by decide +kernel
theorem dL_law_1159 : decode cL_law 1159 = .ok (.iadd, 1) := by decide +kernel
theorem dL_law_1160 : decode cL_law 1160 = .ok (.iaload, 1) := by decide +kernel
theorem dL_law_1161 : decode cL_law 1161 = .ok (.aload_n 0, 1) := by decide +kernel
theorem dL_law_1162 : decode cL_law 1162 = .ok (.iload 5, 2) := by decide +kernel
theorem dL_law_1164 : decode cL_law 1164 = .ok (.iconst 2, 1) := by decide +kernel
theorem dL_law_1165 : decode cL_law 1165 = .ok (.iadd, 1) := by decide +kernel
theorem dL_law_1166 : decode cL_law 1166 = .ok (.iaload, 1) := by decide +kernel
theorem dL_law_1167 : decode cL_law 1167 = .ok (.aload_n 0, 1) := by decide +kernel
theorem dL_law_1168 : decode cL_law 1168 = .ok (.iload 5, 2) := by decide +kernel
theorem dL_law_1170 : decode cL_law 1170 = .ok (.iconst 3, 1) := by decide +kernel
theorem dL_law_1171 : decode cL_law 1171 = .ok (.iadd, 1) := by decide +kernel
theorem dL_law_1172 : decode cL_law 1172 = .ok (.iaload, 1) := by decide +kernel
theorem dL_law_1173 : decode cL_law 1173 = .ok (.aload_n 3, 1) := by decide +kernel
theorem dL_law_1174 : decode cL_law 1174 = .ok (.invokestatic 182, 3) := by decide +kernel
theorem dL_law_1177 : decode cL_law 1177 = .ok (.istore 6, 2) := by decide +kernel
theorem dL_law_1179 : decode cL_law 1179 = .ok (.aload_n 2, 1) := by decide +kernel
theorem dL_law_1180 : decode cL_law 1180 = .ok (.aload_n 0, 1) := by decide +kernel
theorem dL_law_1181 : decode cL_law 1181 = .ok (.iload 5, 2) := by decide +kernel
theorem dL_law_1183 : decode cL_law 1183 = .ok (.iconst 1, 1) := by decide +kernel
theorem dL_law_1184 : decode cL_law 1184 = .ok (.iadd, 1) := by decide +kernel
theorem dL_law_1185 : decode cL_law 1185 = .ok (.iaload, 1) := by decide +kernel
theorem dL_law_1186 : decode cL_law 1186 = .ok (.aload_n 0, 1) := by decide +kernel
theorem dL_law_1187 : decode cL_law 1187 = .ok (.iload 5, 2) := by decide +kernel
theorem dL_law_1189 : decode cL_law 1189 = .ok (.iconst 2, 1) := by decide +kernel
theorem dL_law_1190 : decode cL_law 1190 = .ok (.iadd, 1) := by decide +kernel
theorem dL_law_1191 : decode cL_law 1191 = .ok (.iaload, 1) := by decide +kernel
theorem dL_law_1192 : decode cL_law 1192 = .ok (.aload_n 0, 1) := by decide +kernel
theorem dL_law_1193 : decode cL_law 1193 = .ok (.iload 5, 2) := by decide +kernel
theorem dL_law_1195 : decode cL_law 1195 = .ok (.iconst 3, 1) := by decide +kernel
theorem dL_law_1196 : decode cL_law 1196 = .ok (.iadd, 1) := by decide +kernel
theorem dL_law_1197 : decode cL_law 1197 = .ok (.iaload, 1) := by decide +kernel
theorem dL_law_1198 : decode cL_law 1198 = .ok (.invokevirtual 184, 3) := by decide +kernel
theorem dL_law_1201 : decode cL_law 1201 = .ok (.istore 7, 2) := by decide +kernel
theorem dL_law_1203 : decode cL_law 1203 = .ok (.aload_n 2, 1) := by decide +kernel
theorem dL_law_1204 : decode cL_law 1204 = .ok (.invokevirtual 134, 3) := by decide +kernel
theorem dL_law_1207 : decode cL_law 1207 = .ok (.iload 6, 2) := by decide +kernel
theorem dL_law_1209 : decode cL_law 1209 = .ok (.if_icmp .eq 5, 3) := by decide +kernel
theorem dL_law_1212 : decode cL_law 1212 = .ok (.iconst 0, 1) := by decide +kernel
theorem dL_law_1213 : decode cL_law 1213 = .ok (.ireturn, 1) := by decide +kernel
theorem dL_law_1214 : decode cL_law 1214 = .ok (.iload 6, 2) := by decide +kernel
theorem dL_law_1216 : decode cL_law 1216 = .ok (.ifCond .ne 15, 3) := by decide +kernel
theorem dL_law_1219 : decode cL_law 1219 = .ok (.aload_n 3, 1) := by decide +kernel
theorem dL_law_1220 : decode cL_law 1220 = .ok (.iconst 0, 1) := by decide +kernel
theorem dL_law_1221 : decode cL_law 1221 = .ok (.laload, 1) := by decide +kernel
theorem dL_law_1222 : decode cL_law 1222 = .ok (.iload 7, 2) := by decide +kernel
theorem dL_law_1224 : decode cL_law 1224 = .ok (.i2l, 1) := by decide +kernel
theorem dL_law_1225 : decode cL_law 1225 = .ok (.lcmp, 1) := by decide +kernel
theorem dL_law_1226 : decode cL_law 1226 = .ok (.ifCond .eq 5, 3) := by decide +kernel
theorem dL_law_1229 : decode cL_law 1229 = .ok (.iconst 0, 1) := by decide +kernel
theorem dL_law_1230 : decode cL_law 1230 = .ok (.ireturn, 1) := by decide +kernel
theorem dL_law_1231 : decode cL_law 1231 = .ok (.goto 1476, 3) := by decide +kernel
theorem dL_law_1234 : decode cL_law 1234 = .ok (.aload_n 1, 1) := by decide +kernel
theorem dL_law_1235 : decode cL_law 1235 = .ok (.aload_n 0, 1) := by decide +kernel
theorem dL_law_1236 : decode cL_law 1236 = .ok (.iload 5, 2) := by decide +kernel
theorem dL_law_1238 : decode cL_law 1238 = .ok (.iconst 1, 1) := by decide +kernel
theorem dL_law_1239 : decode cL_law 1239 = .ok (.iadd, 1) := by decide +kernel
theorem dL_law_1240 : decode cL_law 1240 = .ok (.iaload, 1) := by decide +kernel
theorem dL_law_1241 : decode cL_law 1241 = .ok (.aload_n 0, 1) := by decide +kernel
theorem dL_law_1242 : decode cL_law 1242 = .ok (.iload 5, 2) := by decide +kernel
theorem dL_law_1244 : decode cL_law 1244 = .ok (.iconst 2, 1) := by decide +kernel
theorem dL_law_1245 : decode cL_law 1245 = .ok (.iadd, 1) := by decide +kernel
theorem dL_law_1246 : decode cL_law 1246 = .ok (.iaload, 1) := by decide +kernel
theorem dL_law_1247 : decode cL_law 1247 = .ok (.aload_n 3, 1) := by decide +kernel
theorem dL_law_1248 : decode cL_law 1248 = .ok (.invokestatic 185, 3) := by decide +kernel
theorem dL_law_1251 : decode cL_law 1251 = .ok (.istore 6, 2) := by decide +kernel
theorem dL_law_1253 : decode cL_law 1253 = .ok (.aload_n 2, 1) := by decide +kernel
theorem dL_law_1254 : decode cL_law 1254 = .ok (.aload_n 0, 1) := by decide +kernel
theorem dL_law_1255 : decode cL_law 1255 = .ok (.iload 5, 2) := by decide +kernel
theorem dL_law_1257 : decode cL_law 1257 = .ok (.iconst 1, 1) := by decide +kernel
theorem dL_law_1258 : decode cL_law 1258 = .ok (.iadd, 1) := by decide +kernel
theorem dL_law_1259 : decode cL_law 1259 = .ok (.iaload, 1) := by decide +kernel
theorem dL_law_1260 : decode cL_law 1260 = .ok (.aload_n 0, 1) := by decide +kernel
theorem dL_law_1261 : decode cL_law 1261 = .ok (.iload 5, 2) := by decide +kernel
theorem dL_law_1263 : decode cL_law 1263 = .ok (.iconst 2, 1) := by decide +kernel
theorem dL_law_1264 : decode cL_law 1264 = .ok (.iadd, 1) := by decide +kernel
theorem dL_law_1265 : decode cL_law 1265 = .ok (.iaload, 1) := by decide +kernel
theorem dL_law_1266 : decode cL_law 1266 = .ok (.invokevirtual 187, 3) := by decide +kernel
theorem dL_law_1269 : decode cL_law 1269 = .ok (.istore 7, 2) := by decide +kernel
theorem dL_law_1271 : decode cL_law 1271 = .ok (.aload_n 2, 1) := by decide +kernel
theorem dL_law_1272 : decode cL_law 1272 = .ok (.invokevirtual 134, 3) := by decide +kernel
theorem dL_law_1275 : decode cL_law 1275 = .ok (.iload 6, 2) := by decide +kernel
theorem dL_law_1277 : decode cL_law 1277 = .ok (.if_icmp .eq 5, 3) := by decide +kernel
theorem dL_law_1280 : decode cL_law 1280 = .ok (.iconst 0, 1) := by decide +kernel
theorem dL_law_1281 : decode cL_law 1281 = .ok (.ireturn, 1) := by decide +kernel
theorem dL_law_1282 : decode cL_law 1282 = .ok (.iload 6, 2) := by decide +kernel
theorem dL_law_1284 : decode cL_law 1284 = .ok (.ifCond .ne 15, 3) := by decide +kernel
theorem dL_law_1287 : decode cL_law 1287 = .ok (.aload_n 3, 1) := by decide +kernel
theorem dL_law_1288 : decode cL_law 1288 = .ok (.iconst 0, 1) := by decide +kernel
theorem dL_law_1289 : decode cL_law 1289 = .ok (.laload, 1) := by decide +kernel
theorem dL_law_1290 : decode cL_law 1290 = .ok (.iload 7, 2) := by decide +kernel
theorem dL_law_1292 : decode cL_law 1292 = .ok (.i2l, 1) := by decide +kernel
theorem dL_law_1293 : decode cL_law 1293 = .ok (.lcmp, 1) := by decide +kernel
theorem dL_law_1294 : decode cL_law 1294 = .ok (.ifCond .eq 5, 3) := by decide +kernel
theorem dL_law_1297 : decode cL_law 1297 = .ok (.iconst 0, 1) := by decide +kernel
theorem dL_law_1298 : decode cL_law 1298 = .ok (.ireturn, 1) := by decide +kernel
theorem dL_law_1299 : decode cL_law 1299 = .ok (.goto 1408, 3) := by decide +kernel
theorem dL_law_1302 : decode cL_law 1302 = .ok (.aload_n 1, 1) := by decide +kernel
theorem dL_law_1303 : decode cL_law 1303 = .ok (.aload_n 0, 1) := by decide +kernel
theorem dL_law_1304 : decode cL_law 1304 = .ok (.iload 5, 2) := by decide +kernel
theorem dL_law_1306 : decode cL_law 1306 = .ok (.iconst 1, 1) := by decide +kernel
theorem dL_law_1307 : decode cL_law 1307 = .ok (.iadd, 1) := by decide +kernel
theorem dL_law_1308 : decode cL_law 1308 = .ok (.iaload, 1) := by decide +kernel
theorem dL_law_1309 : decode cL_law 1309 = .ok (.aload_n 0, 1) := by decide +kernel
theorem dL_law_1310 : decode cL_law 1310 = .ok (.iload 5, 2) := by decide +kernel
theorem dL_law_1312 : decode cL_law 1312 = .ok (.iconst 2, 1) := by decide +kernel
theorem dL_law_1313 : decode cL_law 1313 = .ok (.iadd, 1) := by decide +kernel
theorem dL_law_1314 : decode cL_law 1314 = .ok (.iaload, 1) := by decide +kernel
theorem dL_law_1315 : decode cL_law 1315 = .ok (.aload_n 0, 1) := by decide +kernel
theorem dL_law_1316 : decode cL_law 1316 = .ok (.iload 5, 2) := by decide +kernel
theorem dL_law_1318 : decode cL_law 1318 = .ok (.iconst 3, 1) := by decide +kernel
theorem dL_law_1319 : decode cL_law 1319 = .ok (.iadd, 1) := by decide +kernel
theorem dL_law_1320 : decode cL_law 1320 = .ok (.iaload, 1) := by decide +kernel
theorem dL_law_1321 : decode cL_law 1321 = .ok (.aload_n 3, 1) := by decide +kernel
theorem dL_law_1322 : decode cL_law 1322 = .ok (.invokestatic 188, 3) := by decide +kernel
theorem dL_law_1325 : decode cL_law 1325 = .ok (.istore 6, 2) := by decide +kernel
theorem dL_law_1327 : decode cL_law 1327 = .ok (.aload_n 2, 1) := by decide +kernel
theorem dL_law_1328 : decode cL_law 1328 = .ok (.aload_n 0, 1) := by decide +kernel
theorem dL_law_1329 : decode cL_law 1329 = .ok (.iload 5, 2) := by decide +kernel
theorem dL_law_1331 : decode cL_law 1331 = .ok (.iconst 1, 1) := by decide +kernel
theorem dL_law_1332 : decode cL_law 1332 = .ok (.iadd, 1) := by decide +kernel
theorem dL_law_1333 : decode cL_law 1333 = .ok (.iaload, 1) := by decide +kernel
theorem dL_law_1334 : decode cL_law 1334 = .ok (.aload_n 0, 1) := by decide +kernel
theorem dL_law_1335 : decode cL_law 1335 = .ok (.iload 5, 2) := by decide +kernel
theorem dL_law_1337 : decode cL_law 1337 = .ok (.iconst 2, 1) := by decide +kernel
theorem dL_law_1338 : decode cL_law 1338 = .ok (.iadd, 1) := by decide +kernel
theorem dL_law_1339 : decode cL_law 1339 = .ok (.iaload, 1) := by decide +kernel
theorem dL_law_1340 : decode cL_law 1340 = .ok (.aload_n 0, 1) := by decide +kernel
theorem dL_law_1341 : decode cL_law 1341 = .ok (.iload 5, 2) := by decide +kernel
theorem dL_law_1343 : decode cL_law 1343 = .ok (.iconst 3, 1) := by decide +kernel
theorem dL_law_1344 : decode cL_law 1344 = .ok (.iadd, 1) := by decide +kernel
theorem dL_law_1345 : decode cL_law 1345 = .ok (.iaload, 1) := by decide +kernel
theorem dL_law_1346 : decode cL_law 1346 = .ok (.invokevirtual 190, 3) := by decide +kernel
theorem dL_law_1349 : decode cL_law 1349 = .ok (.istore 7, 2) := by decide +kernel
theorem dL_law_1351 : decode cL_law 1351 = .ok (.aload_n 2, 1) := by decide +kernel
theorem dL_law_1352 : decode cL_law 1352 = .ok (.invokevirtual 134, 3) := by decide +kernel
theorem dL_law_1355 : decode cL_law 1355 = .ok (.iload 6, 2) := by decide +kernel
theorem dL_law_1357 : decode cL_law 1357 = .ok (.if_icmp .eq 5, 3) := by decide +kernel
theorem dL_law_1360 : decode cL_law 1360 = .ok (.iconst 0, 1) := by decide +kernel
theorem dL_law_1361 : decode cL_law 1361 = .ok (.ireturn, 1) := by decide +kernel
theorem dL_law_1362 : decode cL_law 1362 = .ok (.iload 6, 2) := by decide +kernel
theorem dL_law_1364 : decode cL_law 1364 = .ok (.ifCond .ne 15, 3) := by decide +kernel
theorem dL_law_1367 : decode cL_law 1367 = .ok (.aload_n 3, 1) := by decide +kernel
theorem dL_law_1368 : decode cL_law 1368 = .ok (.iconst 0, 1) := by decide +kernel
theorem dL_law_1369 : decode cL_law 1369 = .ok (.laload, 1) := by decide +kernel
theorem dL_law_1370 : decode cL_law 1370 = .ok (.iload 7, 2) := by decide +kernel
theorem dL_law_1372 : decode cL_law 1372 = .ok (.i2l, 1) := by decide +kernel
theorem dL_law_1373 : decode cL_law 1373 = .ok (.lcmp, 1) := by decide +kernel
theorem dL_law_1374 : decode cL_law 1374 = .ok (.ifCond .eq 5, 3) := by decide +kernel
theorem dL_law_1377 : decode cL_law 1377 = .ok (.iconst 0, 1) := by decide +kernel
theorem dL_law_1378 : decode cL_law 1378 = .ok (.ireturn, 1) := by decide +kernel
theorem dL_law_1379 : decode cL_law 1379 = .ok (.goto 1328, 3) := by decide +kernel
theorem dL_law_1382 : decode cL_law 1382 = .ok (.aload_n 1, 1) := by decide +kernel
theorem dL_law_1383 : decode cL_law 1383 = .ok (.aload_n 0, 1) := by decide +kernel
theorem dL_law_1384 : decode cL_law 1384 = .ok (.iload 5, 2) := by decide +kernel
theorem dL_law_1386 : decode cL_law 1386 = .ok (.iconst 1, 1) := by decide +kernel
theorem dL_law_1387 : decode cL_law 1387 = .ok (.iadd, 1) := by decide +kernel
theorem dL_law_1388 : decode cL_law 1388 = .ok (.iaload, 1) := by decide +kernel
theorem dL_law_1389 : decode cL_law 1389 = .ok (.aload_n 0, 1) := by decide +kernel
theorem dL_law_1390 : decode cL_law 1390 = .ok (.iload 5, 2) := by decide +kernel
theorem dL_law_1392 : decode cL_law 1392 = .ok (.iconst 2, 1) := by decide +kernel
theorem dL_law_1393 : decode cL_law 1393 = .ok (.iadd, 1) := by decide +kernel
theorem dL_law_1394 : decode cL_law 1394 = .ok (.iaload, 1) := by decide +kernel
theorem dL_law_1395 : decode cL_law 1395 = .ok (.aload_n 0, 1) := by decide +kernel
theorem dL_law_1396 : decode cL_law 1396 = .ok (.iload 5, 2) := by decide +kernel
theorem dL_law_1398 : decode cL_law 1398 = .ok (.iconst 3, 1) := by decide +kernel
theorem dL_law_1399 : decode cL_law 1399 = .ok (.iadd, 1) := by decide +kernel
theorem dL_law_1400 : decode cL_law 1400 = .ok (.iaload, 1) := by decide +kernel
theorem dL_law_1401 : decode cL_law 1401 = .ok (.aload_n 3, 1) := by decide +kernel
theorem dL_law_1402 : decode cL_law 1402 = .ok (.invokestatic 191, 3) := by decide +kernel
theorem dL_law_1405 : decode cL_law 1405 = .ok (.istore 6, 2) := by decide +kernel
theorem dL_law_1407 : decode cL_law 1407 = .ok (.aload_n 2, 1) := by decide +kernel
theorem dL_law_1408 : decode cL_law 1408 = .ok (.aload_n 0, 1) := by decide +kernel
theorem dL_law_1409 : decode cL_law 1409 = .ok (.iload 5, 2) := by decide +kernel
theorem dL_law_1411 : decode cL_law 1411 = .ok (.iconst 1, 1) := by decide +kernel
theorem dL_law_1412 : decode cL_law 1412 = .ok (.iadd, 1) := by decide +kernel
theorem dL_law_1413 : decode cL_law 1413 = .ok (.iaload, 1) := by decide +kernel
theorem dL_law_1414 : decode cL_law 1414 = .ok (.aload_n 0, 1) := by decide +kernel
theorem dL_law_1415 : decode cL_law 1415 = .ok (.iload 5, 2) := by decide +kernel
theorem dL_law_1417 : decode cL_law 1417 = .ok (.iconst 2, 1) := by decide +kernel
theorem dL_law_1418 : decode cL_law 1418 = .ok (.iadd, 1) := by decide +kernel
theorem dL_law_1419 : decode cL_law 1419 = .ok (.iaload, 1) := by decide +kernel
theorem dL_law_1420 : decode cL_law 1420 = .ok (.aload_n 0, 1) := by decide +kernel
theorem dL_law_1421 : decode cL_law 1421 = .ok (.iload 5, 2) := by decide +kernel
theorem dL_law_1423 : decode cL_law 1423 = .ok (.iconst 3, 1) := by decide +kernel
theorem dL_law_1424 : decode cL_law 1424 = .ok (.iadd, 1) := by decide +kernel
theorem dL_law_1425 : decode cL_law 1425 = .ok (.iaload, 1) := by decide +kernel
theorem dL_law_1426 : decode cL_law 1426 = .ok (.invokevirtual 193, 3) := by decide +kernel
theorem dL_law_1429 : decode cL_law 1429 = .ok (.istore 7, 2) := by decide +kernel
theorem dL_law_1431 : decode cL_law 1431 = .ok (.aload_n 2, 1) := by decide +kernel
theorem dL_law_1432 : decode cL_law 1432 = .ok (.invokevirtual 134, 3) := by decide +kernel
theorem dL_law_1435 : decode cL_law 1435 = .ok (.iload 6, 2) := by decide +kernel
theorem dL_law_1437 : decode cL_law 1437 = .ok (.if_icmp .eq 5, 3) := by decide +kernel
theorem dL_law_1440 : decode cL_law 1440 = .ok (.iconst 0, 1) := by decide +kernel
theorem dL_law_1441 : decode cL_law 1441 = .ok (.ireturn, 1) := by decide +kernel
theorem dL_law_1442 : decode cL_law 1442 = .ok (.iload 6, 2) := by decide +kernel
theorem dL_law_1444 : decode cL_law 1444 = .ok (.ifCond .ne 15, 3) := by decide +kernel
theorem dL_law_1447 : decode cL_law 1447 = .ok (.aload_n 3, 1) := by decide +kernel
theorem dL_law_1448 : decode cL_law 1448 = .ok (.iconst 0, 1) := by decide +kernel
theorem dL_law_1449 : decode cL_law 1449 = .ok (.laload, 1) := by decide +kernel
theorem dL_law_1450 : decode cL_law 1450 = .ok (.iload 7, 2) := by decide +kernel
theorem dL_law_1452 : decode cL_law 1452 = .ok (.i2l, 1) := by decide +kernel
theorem dL_law_1453 : decode cL_law 1453 = .ok (.lcmp, 1) := by decide +kernel
theorem dL_law_1454 : decode cL_law 1454 = .ok (.ifCond .eq 5, 3) := by decide +kernel
theorem dL_law_1457 : decode cL_law 1457 = .ok (.iconst 0, 1) := by decide +kernel
theorem dL_law_1458 : decode cL_law 1458 = .ok (.ireturn, 1) := by decide +kernel
theorem dL_law_1459 : decode cL_law 1459 = .ok (.goto 1248, 3) := by decide +kernel
theorem dL_law_1462 : decode cL_law 1462 = .ok (.aload_n 1, 1) := by decide +kernel
theorem dL_law_1463 : decode cL_law 1463 = .ok (.aload_n 0, 1) := by decide +kernel
theorem dL_law_1464 : decode cL_law 1464 = .ok (.iload 5, 2) := by decide +kernel
theorem dL_law_1466 : decode cL_law 1466 = .ok (.iconst 1, 1) := by decide +kernel
theorem dL_law_1467 : decode cL_law 1467 = .ok (.iadd, 1) := by decide +kernel
theorem dL_law_1468 : decode cL_law 1468 = .ok (.iaload, 1) := by decide +kernel
theorem dL_law_1469 : decode cL_law 1469 = .ok (.aload_n 0, 1) := by decide +kernel
theorem dL_law_1470 : decode cL_law 1470 = .ok (.iload 5, 2) := by decide +kernel
theorem dL_law_1472 : decode cL_law 1472 = .ok (.iconst 2, 1) := by decide +kernel
theorem dL_law_1473 : decode cL_law 1473 = .ok (.iadd, 1) := by decide +kernel
theorem dL_law_1474 : decode cL_law 1474 = .ok (.iaload, 1) := by decide +kernel
theorem dL_law_1475 : decode cL_law 1475 = .ok (.aload_n 0, 1) := by decide +kernel
theorem dL_law_1476 : decode cL_law 1476 = .ok (.iload 5, 2) := by decide +kernel
theorem dL_law_1478 : decode cL_law 1478 = .ok (.iconst 3, 1) := by decide +kernel
theorem dL_law_1479 : decode cL_law 1479 = .ok (.iadd, 1) := by decide +kernel
theorem dL_law_1480 : decode cL_law 1480 = .ok (.iaload, 1) := by decide +kernel
theorem dL_law_1481 : decode cL_law 1481 = .ok (.aload_n 3, 1) := by decide +kernel
theorem dL_law_1482 : decode cL_law 1482 = .ok (.invokestatic 194, 3) := by decide +kernel
theorem dL_law_1485 : decode cL_law 1485 = .ok (.istore 6, 2) := by decide +kernel
theorem dL_law_1487 : decode cL_law 1487 = .ok (.aload_n 2, 1) := by decide +kernel
theorem dL_law_1488 : decode cL_law 1488 = .ok (.aload_n 0, 1) := by decide +kernel
theorem dL_law_1489 : decode cL_law 1489 = .ok (.iload 5, 2) := by decide +kernel
theorem dL_law_1491 : decode cL_law 1491 = .ok (.iconst 1, 1) := by decide +kernel
theorem dL_law_1492 : decode cL_law 1492 = .ok (.iadd, 1) := by decide +kernel
theorem dL_law_1493 : decode cL_law 1493 = .ok (.iaload, 1) := by decide +kernel
theorem dL_law_1494 : decode cL_law 1494 = .ok (.aload_n 0, 1) := by decide +kernel
theorem dL_law_1495 : decode cL_law 1495 = .ok (.iload 5, 2) := by decide +kernel
theorem dL_law_1497 : decode cL_law 1497 = .ok (.iconst 2, 1) := by decide +kernel
theorem dL_law_1498 : decode cL_law 1498 = .ok (.iadd, 1) := by decide +kernel
theorem dL_law_1499 : decode cL_law 1499 = .ok (.iaload, 1) := by decide +kernel
theorem dL_law_1500 : decode cL_law 1500 = .ok (.aload_n 0, 1) := by decide +kernel
theorem dL_law_1501 : decode cL_law 1501 = .ok (.iload 5, 2) := by decide +kernel
theorem dL_law_1503 : decode cL_law 1503 = .ok (.iconst 3, 1) := by decide +kernel
theorem dL_law_1504 : decode cL_law 1504 = .ok (.iadd, 1) := by decide +kernel
theorem dL_law_1505 : decode cL_law 1505 = .ok (.iaload, 1) := by decide +kernel
theorem dL_law_1506 : decode cL_law 1506 = .ok (.invokevirtual 196, 3) := by decide +kernel
theorem dL_law_1509 : decode cL_law 1509 = .ok (.istore 7, 2) := by decide +kernel
theorem dL_law_1511 : decode cL_law 1511 = .ok (.aload_n 2, 1) := by decide +kernel
theorem dL_law_1512 : decode cL_law 1512 = .ok (.invokevirtual 134, 3) := by decide +kernel
theorem dL_law_1515 : decode cL_law 1515 = .ok (.iload 6, 2) := by decide +kernel
theorem dL_law_1517 : decode cL_law 1517 = .ok (.if_icmp .eq 5, 3) := by decide +kernel
theorem dL_law_1520 : decode cL_law 1520 = .ok (.iconst 0, 1) := by decide +kernel
theorem dL_law_1521 : decode cL_law 1521 = .ok (.ireturn, 1) := by decide +kernel
theorem dL_law_1522 : decode cL_law 1522 = .ok (.iload 6, 2) := by decide +kernel
theorem dL_law_1524 : decode cL_law 1524 = .ok (.ifCond .ne 15, 3) := by decide +kernel
theorem dL_law_1527 : decode cL_law 1527 = .ok (.aload_n 3, 1) := by decide +kernel
theorem dL_law_1528 : decode cL_law 1528 = .ok (.iconst 0, 1) := by decide +kernel
theorem dL_law_1529 : decode cL_law 1529 = .ok (.laload, 1) := by decide +kernel
theorem dL_law_1530 : decode cL_law 1530 = .ok (.iload 7, 2) := by decide +kernel
theorem dL_law_1532 : decode cL_law 1532 = .ok (.i2l, 1) := by decide +kernel
theorem dL_law_1533 : decode cL_law 1533 = .ok (.lcmp, 1) := by decide +kernel
theorem dL_law_1534 : decode cL_law 1534 = .ok (.ifCond .eq 5, 3) := by decide +kernel
theorem dL_law_1537 : decode cL_law 1537 = .ok (.iconst 0, 1) := by decide +kernel
theorem dL_law_1538 : decode cL_law 1538 = .ok (.ireturn, 1) := by decide +kernel
theorem dL_law_1539 : decode cL_law 1539 = .ok (.goto 1168, 3) := by decide +kernel
theorem dL_law_1542 : decode cL_law 1542 = .ok (.aload_n 1, 1) := by decide +kernel
theorem dL_law_1543 : decode cL_law 1543 = .ok (.aload_n 0, 1) := by decide +kernel
theorem dL_law_1544 : decode cL_law 1544 = .ok (.iload 5, 2) := by decide +kernel
theorem dL_law_1546 : decode cL_law 1546 = .ok (.iconst 1, 1) := by decide +kernel
theorem dL_law_1547 : decode cL_law 1547 = .ok (.iadd, 1) := by decide +kernel
theorem dL_law_1548 : decode cL_law 1548 = .ok (.iaload, 1) := by decide +kernel
theorem dL_law_1549 : decode cL_law 1549 = .ok (.aload_n 0, 1) := by decide +kernel
theorem dL_law_1550 : decode cL_law 1550 = .ok (.iload 5, 2) := by decide +kernel
theorem dL_law_1552 : decode cL_law 1552 = .ok (.iconst 2, 1) := by decide +kernel
theorem dL_law_1553 : decode cL_law 1553 = .ok (.iadd, 1) := by decide +kernel
theorem dL_law_1554 : decode cL_law 1554 = .ok (.iaload, 1) := by decide +kernel
theorem dL_law_1555 : decode cL_law 1555 = .ok (.aload_n 0, 1) := by decide +kernel
theorem dL_law_1556 : decode cL_law 1556 = .ok (.iload 5, 2) := by decide +kernel
theorem dL_law_1558 : decode cL_law 1558 = .ok (.iconst 3, 1) := by decide +kernel
theorem dL_law_1559 : decode cL_law 1559 = .ok (.iadd, 1) := by decide +kernel
theorem dL_law_1560 : decode cL_law 1560 = .ok (.iaload, 1) := by decide +kernel
theorem dL_law_1561 : decode cL_law 1561 = .ok (.aload_n 0, 1) := by decide +kernel
theorem dL_law_1562 : decode cL_law 1562 = .ok (.iload 5, 2) := by decide +kernel
theorem dL_law_1564 : decode cL_law 1564 = .ok (.iconst 4, 1) := by decide +kernel
theorem dL_law_1565 : decode cL_law 1565 = .ok (.iadd, 1) := by decide +kernel
theorem dL_law_1566 : decode cL_law 1566 = .ok (.iaload, 1) := by decide +kernel
theorem dL_law_1567 : decode cL_law 1567 = .ok (.aload_n 3, 1) := by decide +kernel
theorem dL_law_1568 : decode cL_law 1568 = .ok (.invokestatic 197, 3) := by decide +kernel
theorem dL_law_1571 : decode cL_law 1571 = .ok (.istore 6, 2) := by decide +kernel
theorem dL_law_1573 : decode cL_law 1573 = .ok (.aload_n 2, 1) := by decide +kernel
theorem dL_law_1574 : decode cL_law 1574 = .ok (.aload_n 0, 1) := by decide +kernel
theorem dL_law_1575 : decode cL_law 1575 = .ok (.iload 5, 2) := by decide +kernel
theorem dL_law_1577 : decode cL_law 1577 = .ok (.iconst 1, 1) := by decide +kernel
theorem dL_law_1578 : decode cL_law 1578 = .ok (.iadd, 1) := by decide +kernel
theorem dL_law_1579 : decode cL_law 1579 = .ok (.iaload, 1) := by decide +kernel
theorem dL_law_1580 : decode cL_law 1580 = .ok (.aload_n 0, 1) := by decide +kernel
theorem dL_law_1581 : decode cL_law 1581 = .ok (.iload 5, 2) := by decide +kernel
theorem dL_law_1583 : decode cL_law 1583 = .ok (.iconst 2, 1) := by decide +kernel
theorem dL_law_1584 : decode cL_law 1584 = .ok (.iadd, 1) := by decide +kernel
theorem dL_law_1585 : decode cL_law 1585 = .ok (.iaload, 1) := by decide +kernel
theorem dL_law_1586 : decode cL_law 1586 = .ok (.aload_n 0, 1) := by decide +kernel
theorem dL_law_1587 : decode cL_law 1587 = .ok (.iload 5, 2) := by decide +kernel
theorem dL_law_1589 : decode cL_law 1589 = .ok (.iconst 3, 1) := by decide +kernel
theorem dL_law_1590 : decode cL_law 1590 = .ok (.iadd, 1) := by decide +kernel
theorem dL_law_1591 : decode cL_law 1591 = .ok (.iaload, 1) := by decide +kernel
theorem dL_law_1592 : decode cL_law 1592 = .ok (.aload_n 0, 1) := by decide +kernel
theorem dL_law_1593 : decode cL_law 1593 = .ok (.iload 5, 2) := by decide +kernel
theorem dL_law_1595 : decode cL_law 1595 = .ok (.iconst 4, 1) := by decide +kernel
theorem dL_law_1596 : decode cL_law 1596 = .ok (.iadd, 1) := by decide +kernel
theorem dL_law_1597 : decode cL_law 1597 = .ok (.iaload, 1) := by decide +kernel
theorem dL_law_1598 : decode cL_law 1598 = .ok (.invokevirtual 199, 3) := by decide +kernel
theorem dL_law_1601 : decode cL_law 1601 = .ok (.istore 7, 2) := by decide +kernel
theorem dL_law_1603 : decode cL_law 1603 = .ok (.aload_n 2, 1) := by decide +kernel
theorem dL_law_1604 : decode cL_law 1604 = .ok (.invokevirtual 134, 3) := by decide +kernel
theorem dL_law_1607 : decode cL_law 1607 = .ok (.iload 6, 2) := by decide +kernel
theorem dL_law_1609 : decode cL_law 1609 = .ok (.if_icmp .eq 5, 3) := by decide +kernel
theorem dL_law_1612 : decode cL_law 1612 = .ok (.iconst 0, 1) := by decide +kernel
theorem dL_law_1613 : decode cL_law 1613 = .ok (.ireturn, 1) := by decide +kernel
theorem dL_law_1614 : decode cL_law 1614 = .ok (.iload 6, 2) := by decide +kernel
theorem dL_law_1616 : decode cL_law 1616 = .ok (.ifCond .ne 15, 3) := by decide +kernel
theorem dL_law_1619 : decode cL_law 1619 = .ok (.aload_n 3, 1) := by decide +kernel
theorem dL_law_1620 : decode cL_law 1620 = .ok (.iconst 0, 1) := by decide +kernel
theorem dL_law_1621 : decode cL_law 1621 = .ok (.laload, 1) := by decide +kernel
theorem dL_law_1622 : decode cL_law 1622 = .ok (.iload 7, 2) := by decide +kernel
theorem dL_law_1624 : decode cL_law 1624 = .ok (.i2l, 1) := by decide +kernel
theorem dL_law_1625 : decode cL_law 1625 = .ok (.lcmp, 1) := by decide +kernel
theorem dL_law_1626 : decode cL_law 1626 = .ok (.ifCond .eq 5, 3) := by decide +kernel
theorem dL_law_1629 : decode cL_law 1629 = .ok (.iconst 0, 1) := by decide +kernel
theorem dL_law_1630 : decode cL_law 1630 = .ok (.ireturn, 1) := by decide +kernel
theorem dL_law_1631 : decode cL_law 1631 = .ok (.goto 1076, 3) := by decide +kernel
theorem dL_law_1634 : decode cL_law 1634 = .ok (.aload_n 1, 1) := by decide +kernel
theorem dL_law_1635 : decode cL_law 1635 = .ok (.aload_n 0, 1) := by decide +kernel
theorem dL_law_1636 : decode cL_law 1636 = .ok (.iload 5, 2) := by decide +kernel
theorem dL_law_1638 : decode cL_law 1638 = .ok (.iconst 1, 1) := by decide +kernel
theorem dL_law_1639 : decode cL_law 1639 = .ok (.iadd, 1) := by decide +kernel
theorem dL_law_1640 : decode cL_law 1640 = .ok (.iaload, 1) := by decide +kernel
theorem dL_law_1641 : decode cL_law 1641 = .ok (.aload_n 0, 1) := by decide +kernel
theorem dL_law_1642 : decode cL_law 1642 = .ok (.iload 5, 2) := by decide +kernel
theorem dL_law_1644 : decode cL_law 1644 = .ok (.iconst 2, 1) := by decide +kernel
theorem dL_law_1645 : decode cL_law 1645 = .ok (.iadd, 1) := by decide +kernel
theorem dL_law_1646 : decode cL_law 1646 = .ok (.iaload, 1) := by decide +kernel
theorem dL_law_1647 : decode cL_law 1647 = .ok (.aload_n 0, 1) := by decide +kernel
theorem dL_law_1648 : decode cL_law 1648 = .ok (.iload 5, 2) := by decide +kernel
theorem dL_law_1650 : decode cL_law 1650 = .ok (.iconst 3, 1) := by decide +kernel
theorem dL_law_1651 : decode cL_law 1651 = .ok (.iadd, 1) := by decide +kernel
theorem dL_law_1652 : decode cL_law 1652 = .ok (.iaload, 1) := by decide +kernel
theorem dL_law_1653 : decode cL_law 1653 = .ok (.aload_n 0, 1) := by decide +kernel
theorem dL_law_1654 : decode cL_law 1654 = .ok (.iload 5, 2) := by decide +kernel
theorem dL_law_1656 : decode cL_law 1656 = .ok (.iconst 4, 1) := by decide +kernel
theorem dL_law_1657 : decode cL_law 1657 = .ok (.iadd, 1) := by decide +kernel
theorem dL_law_1658 : decode cL_law 1658 = .ok (.iaload, 1) := by decide +kernel
theorem dL_law_1659 : decode cL_law 1659 = .ok (.aload_n 0, 1) := by decide +kernel
theorem dL_law_1660 : decode cL_law 1660 = .ok (.iload 5, 2) := by decide +kernel
theorem dL_law_1662 : decode cL_law 1662 = .ok (.iconst 5, 1) := by decide +kernel
theorem dL_law_1663 : decode cL_law 1663 = .ok (.iadd, 1) := by decide +kernel
theorem dL_law_1664 : decode cL_law 1664 = .ok (.iaload, 1) := by decide +kernel
theorem dL_law_1665 : decode cL_law 1665 = .ok (.aload_n 0, 1) := by decide +kernel
theorem dL_law_1666 : decode cL_law 1666 = .ok (.iload 5, 2) := by decide +kernel
theorem dL_law_1668 : decode cL_law 1668 = .ok (.bipush 6, 2) := by decide +kernel
theorem dL_law_1670 : decode cL_law 1670 = .ok (.iadd, 1) := by decide +kernel
theorem dL_law_1671 : decode cL_law 1671 = .ok (.iaload, 1) := by decide +kernel
theorem dL_law_1672 : decode cL_law 1672 = .ok (.aload_n 3, 1) := by decide +kernel
theorem dL_law_1673 : decode cL_law 1673 = .ok (.invokestatic 200, 3) := by decide +kernel
theorem dL_law_1676 : decode cL_law 1676 = .ok (.istore 6, 2) := by decide +kernel
theorem dL_law_1678 : decode cL_law 1678 = .ok (.aload_n 2, 1) := by decide +kernel
theorem dL_law_1679 : decode cL_law 1679 = .ok (.aload_n 0, 1) := by decide +kernel
theorem dL_law_1680 : decode cL_law 1680 = .ok (.iload 5, 2) := by decide +kernel
theorem dL_law_1682 : decode cL_law 1682 = .ok (.iconst 1, 1) := by decide +kernel
theorem dL_law_1683 : decode cL_law 1683 = .ok (.iadd, 1) := by decide +kernel
theorem dL_law_1684 : decode cL_law 1684 = .ok (.iaload, 1) := by decide +kernel
theorem dL_law_1685 : decode cL_law 1685 = .ok (.aload_n 0, 1) := by decide +kernel
theorem dL_law_1686 : decode cL_law 1686 = .ok (.iload 5, 2) := by decide +kernel
theorem dL_law_1688 : decode cL_law 1688 = .ok (.iconst 2, 1) := by decide +kernel
theorem dL_law_1689 : decode cL_law 1689 = .ok (.iadd, 1) := by decide +kernel
theorem dL_law_1690 : decode cL_law 1690 = .ok (.iaload, 1) := by decide +kernel
theorem dL_law_1691 : decode cL_law 1691 = .ok (.aload_n 0, 1) := by decide +kernel
theorem dL_law_1692 : decode cL_law 1692 = .ok (.iload 5, 2) := by decide +kernel
theorem dL_law_1694 : decode cL_law 1694 = .ok (.iconst 3, 1) := by decide +kernel
theorem dL_law_1695 : decode cL_law 1695 = .ok (.iadd, 1) := by decide +kernel
theorem dL_law_1696 : decode cL_law 1696 = .ok (.iaload, 1) := by decide +kernel
theorem dL_law_1697 : decode cL_law 1697 = .ok (.aload_n 0, 1) := by decide +kernel
theorem dL_law_1698 : decode cL_law 1698 = .ok (.iload 5, 2) := by decide +kernel
theorem dL_law_1700 : decode cL_law 1700 = .ok (.iconst 4, 1) := by decide +kernel
theorem dL_law_1701 : decode cL_law 1701 = .ok (.iadd, 1) := by decide +kernel
theorem dL_law_1702 : decode cL_law 1702 = .ok (.iaload, 1) := by decide +kernel
theorem dL_law_1703 : decode cL_law 1703 = .ok (.aload_n 0, 1) := by decide +kernel
theorem dL_law_1704 : decode cL_law 1704 = .ok (.iload 5, 2) := by decide +kernel
theorem dL_law_1706 : decode cL_law 1706 = .ok (.iconst 5, 1) := by decide +kernel
theorem dL_law_1707 : decode cL_law 1707 = .ok (.iadd, 1) := by decide +kernel
theorem dL_law_1708 : decode cL_law 1708 = .ok (.iaload, 1) := by decide +kernel
theorem dL_law_1709 : decode cL_law 1709 = .ok (.aload_n 0, 1) := by decide +kernel
theorem dL_law_1710 : decode cL_law 1710 = .ok (.iload 5, 2) := by decide +kernel
theorem dL_law_1712 : decode cL_law 1712 = .ok (.bipush 6, 2) := by decide +kernel
theorem dL_law_1714 : decode cL_law 1714 = .ok (.iadd, 1) := by decide +kernel
theorem dL_law_1715 : decode cL_law 1715 = .ok (.iaload, 1) := by decide +kernel
theorem dL_law_1716 : decode cL_law 1716 = .ok (.invokevirtual 202, 3) := by decide +kernel
theorem dL_law_1719 : decode cL_law 1719 = .ok (.istore 7, 2) := by decide +kernel
theorem dL_law_1721 : decode cL_law 1721 = .ok (.aload_n 2, 1) := by decide +kernel
theorem dL_law_1722 : decode cL_law 1722 = .ok (.invokevirtual 134, 3) := by decide +kernel
theorem dL_law_1725 : decode cL_law 1725 = .ok (.iload 6, 2) := by decide +kernel
theorem dL_law_1727 : decode cL_law 1727 = .ok (.if_icmp .eq 5, 3) := by decide +kernel
theorem dL_law_1730 : decode cL_law 1730 = .ok (.iconst 0, 1) := by decide +kernel
theorem dL_law_1731 : decode cL_law 1731 = .ok (.ireturn, 1) := by decide +kernel
theorem dL_law_1732 : decode cL_law 1732 = .ok (.iload 6, 2) := by decide +kernel
theorem dL_law_1734 : decode cL_law 1734 = .ok (.ifCond .ne 15, 3) := by decide +kernel
theorem dL_law_1737 : decode cL_law 1737 = .ok (.aload_n 3, 1) := by decide +kernel
theorem dL_law_1738 : decode cL_law 1738 = .ok (.iconst 0, 1) := by decide +kernel
theorem dL_law_1739 : decode cL_law 1739 = .ok (.laload, 1) := by decide +kernel
theorem dL_law_1740 : decode cL_law 1740 = .ok (.iload 7, 2) := by decide +kernel
theorem dL_law_1742 : decode cL_law 1742 = .ok (.i2l, 1) := by decide +kernel
theorem dL_law_1743 : decode cL_law 1743 = .ok (.lcmp, 1) := by decide +kernel
theorem dL_law_1744 : decode cL_law 1744 = .ok (.ifCond .eq 5, 3) := by decide +kernel
theorem dL_law_1747 : decode cL_law 1747 = .ok (.iconst 0, 1) := by decide +kernel
theorem dL_law_1748 : decode cL_law 1748 = .ok (.ireturn, 1) := by decide +kernel
theorem dL_law_1749 : decode cL_law 1749 = .ok (.goto 958, 3) := by decide +kernel
theorem dL_law_1752 : decode cL_law 1752 = .ok (.aload_n 1, 1) := by decide +kernel
theorem dL_law_1753 : decode cL_law 1753 = .ok (.aload_n 3, 1) := by decide +kernel
theorem dL_law_1754 : decode cL_law 1754 = .ok (.invokestatic 203, 3) := by decide +kernel
theorem dL_law_1757 : decode cL_law 1757 = .ok (.istore 6, 2) := by decide +kernel
theorem dL_law_1759 : decode cL_law 1759 = .ok (.aload_n 2, 1) := by decide +kernel
theorem dL_law_1760 : decode cL_law 1760 = .ok (.invokevirtual 206, 3) := by decide +kernel
theorem dL_law_1763 : decode cL_law 1763 = .ok (.istore 7, 2) := by decide +kernel
theorem dL_law_1765 : decode cL_law 1765 = .ok (.aload_n 2, 1) := by decide +kernel
theorem dL_law_1766 : decode cL_law 1766 = .ok (.invokevirtual 134, 3) := by decide +kernel
theorem dL_law_1769 : decode cL_law 1769 = .ok (.iload 6, 2) := by decide +kernel
theorem dL_law_1771 : decode cL_law 1771 = .ok (.if_icmp .eq 5, 3) := by decide +kernel
theorem dL_law_1774 : decode cL_law 1774 = .ok (.iconst 0, 1) := by decide +kernel
theorem dL_law_1775 : decode cL_law 1775 = .ok (.ireturn, 1) := by decide +kernel
theorem dL_law_1776 : decode cL_law 1776 = .ok (.iload 6, 2) := by decide +kernel
theorem dL_law_1778 : decode cL_law 1778 = .ok (.ifCond .ne 15, 3) := by decide +kernel
theorem dL_law_1781 : decode cL_law 1781 = .ok (.aload_n 3, 1) := by decide +kernel
theorem dL_law_1782 : decode cL_law 1782 = .ok (.iconst 0, 1) := by decide +kernel
theorem dL_law_1783 : decode cL_law 1783 = .ok (.laload, 1) := by decide +kernel
theorem dL_law_1784 : decode cL_law 1784 = .ok (.iload 7, 2) := by decide +kernel
theorem dL_law_1786 : decode cL_law 1786 = .ok (.i2l, 1) := by decide +kernel
theorem dL_law_1787 : decode cL_law 1787 = .ok (.lcmp, 1) := by decide +kernel
theorem dL_law_1788 : decode cL_law 1788 = .ok (.ifCond .eq 5, 3) := by decide +kernel
theorem dL_law_1791 : decode cL_law 1791 = .ok (.iconst 0, 1) := by decide +kernel
theorem dL_law_1792 : decode cL_law 1792 = .ok (.ireturn, 1) := by decide +kernel
theorem dL_law_1793 : decode cL_law 1793 = .ok (.goto 914, 3) := by decide +kernel
theorem dL_law_1796 : decode cL_law 1796 = .ok (.aload_n 1, 1) := by decide +kernel
theorem dL_law_1797 : decode cL_law 1797 = .ok (.invokevirtual 207, 3) := by decide +kernel
theorem dL_law_1800 : decode cL_law 1800 = .ok (.aload_n 2, 1) := by decide +kernel
theorem dL_law_1801 : decode cL_law 1801 = .ok (.invokevirtual 210, 3) := by decide +kernel
theorem dL_law_1804 : decode cL_law 1804 = .ok (.if_icmp .eq 903, 3) := by decide +kernel
theorem dL_law_1807 : decode cL_law 1807 = .ok (.iconst 0, 1) := by decide +kernel
theorem dL_law_1808 : decode cL_law 1808 = .ok (.ireturn, 1) := by decide +kernel
theorem dL_law_1809 : decode cL_law 1809 = .ok (.aload_n 1, 1) := by decide +kernel
theorem dL_law_1810 : decode cL_law 1810 = .ok (.aload_n 0, 1) := by decide +kernel
theorem dL_law_1811 : decode cL_law 1811 = .ok (.iload 5, 2) := by decide +kernel
theorem dL_law_1813 : decode cL_law 1813 = .ok (.iconst 1, 1) := by decide +kernel
theorem dL_law_1814 : decode cL_law 1814 = .ok (.iadd, 1) := by decide +kernel
theorem dL_law_1815 : decode cL_law 1815 = .ok (.iaload, 1) := by decide +kernel
theorem dL_law_1816 : decode cL_law 1816 = .ok (.aload_n 0, 1) := by decide +kernel
theorem dL_law_1817 : decode cL_law 1817 = .ok (.iload 5, 2) := by decide +kernel
theorem dL_law_1819 : decode cL_law 1819 = .ok (.iconst 2, 1) := by decide +kernel
theorem dL_law_1820 : decode cL_law 1820 = .ok (.iadd, 1) := by decide +kernel
theorem dL_law_1821 : decode cL_law 1821 = .ok (.iaload, 1) := by decide +kernel
theorem dL_law_1822 : decode cL_law 1822 = .ok (.aload_n 3, 1) := by decide +kernel
theorem dL_law_1823 : decode cL_law 1823 = .ok (.invokestatic 211, 3) := by decide +kernel
theorem dL_law_1826 : decode cL_law 1826 = .ok (.istore 6, 2) := by decide +kernel
theorem dL_law_1828 : decode cL_law 1828 = .ok (.aload_n 2, 1) := by decide +kernel
theorem dL_law_1829 : decode cL_law 1829 = .ok (.aload_n 0, 1) := by decide +kernel
theorem dL_law_1830 : decode cL_law 1830 = .ok (.iload 5, 2) := by decide +kernel
theorem dL_law_1832 : decode cL_law 1832 = .ok (.iconst 1, 1) := by decide +kernel
theorem dL_law_1833 : decode cL_law 1833 = .ok (.iadd, 1) := by decide +kernel
theorem dL_law_1834 : decode cL_law 1834 = .ok (.iaload, 1) := by decide +kernel
theorem dL_law_1835 : decode cL_law 1835 = .ok (.aload_n 0, 1) := by decide +kernel
theorem dL_law_1836 : decode cL_law 1836 = .ok (.iload 5, 2) := by decide +kernel
theorem dL_law_1838 : decode cL_law 1838 = .ok (.iconst 2, 1) := by decide +kernel
theorem dL_law_1839 : decode cL_law 1839 = .ok (.iadd, 1) := by decide +kernel
theorem dL_law_1840 : decode cL_law 1840 = .ok (.iaload, 1) := by decide +kernel
theorem dL_law_1841 : decode cL_law 1841 = .ok (.invokevirtual 213, 3) := by decide +kernel
theorem dL_law_1844 : decode cL_law 1844 = .ok (.istore 7, 2) := by decide +kernel
theorem dL_law_1846 : decode cL_law 1846 = .ok (.aload_n 2, 1) := by decide +kernel
theorem dL_law_1847 : decode cL_law 1847 = .ok (.invokevirtual 134, 3) := by decide +kernel
theorem dL_law_1850 : decode cL_law 1850 = .ok (.iload 6, 2) := by decide +kernel
theorem dL_law_1852 : decode cL_law 1852 = .ok (.if_icmp .eq 5, 3) := by decide +kernel
theorem dL_law_1855 : decode cL_law 1855 = .ok (.iconst 0, 1) := by decide +kernel
theorem dL_law_1856 : decode cL_law 1856 = .ok (.ireturn, 1) := by decide +kernel
theorem dL_law_1857 : decode cL_law 1857 = .ok (.iload 6, 2) := by decide +kernel
theorem dL_law_1859 : decode cL_law 1859 = .ok (.ifCond .ne 15, 3) := by decide +kernel
theorem dL_law_1862 : decode cL_law 1862 = .ok (.aload_n 3, 1) := by decide +kernel
theorem dL_law_1863 : decode cL_law 1863 = .ok (.iconst 0, 1) := by decide +kernel
theorem dL_law_1864 : decode cL_law 1864 = .ok (.laload, 1) := by decide +kernel
theorem dL_law_1865 : decode cL_law 1865 = .ok (.iload 7, 2) := by decide +kernel
theorem dL_law_1867 : decode cL_law 1867 = .ok (.i2l, 1) := by decide +kernel
theorem dL_law_1868 : decode cL_law 1868 = .ok (.lcmp, 1) := by decide +kernel
theorem dL_law_1869 : decode cL_law 1869 = .ok (.ifCond .eq 5, 3) := by decide +kernel
theorem dL_law_1872 : decode cL_law 1872 = .ok (.iconst 0, 1) := by decide +kernel
theorem dL_law_1873 : decode cL_law 1873 = .ok (.ireturn, 1) := by decide +kernel
theorem dL_law_1874 : decode cL_law 1874 = .ok (.goto 833, 3) := by decide +kernel
theorem dL_law_1877 : decode cL_law 1877 = .ok (.aload_n 1, 1) := by decide +kernel
theorem dL_law_1878 : decode cL_law 1878 = .ok (.aload_n 0, 1) := by decide +kernel
theorem dL_law_1879 : decode cL_law 1879 = .ok (.iload 5, 2) := by decide +kernel
theorem dL_law_1881 : decode cL_law 1881 = .ok (.iconst 1, 1) := by decide +kernel
theorem dL_law_1882 : decode cL_law 1882 = .ok (.iadd, 1) := by decide +kernel
theorem dL_law_1883 : decode cL_law 1883 = .ok (.iaload, 1) := by decide +kernel
theorem dL_law_1884 : decode cL_law 1884 = .ok (.aload_n 0, 1) := by decide +kernel
theorem dL_law_1885 : decode cL_law 1885 = .ok (.iload 5, 2) := by decide +kernel
theorem dL_law_1887 : decode cL_law 1887 = .ok (.iconst 2, 1) := by decide +kernel
theorem dL_law_1888 : decode cL_law 1888 = .ok (.iadd, 1) := by decide +kernel
theorem dL_law_1889 : decode cL_law 1889 = .ok (.iaload, 1) := by decide +kernel
theorem dL_law_1890 : decode cL_law 1890 = .ok (.aload_n 3, 1) := by decide +kernel
theorem dL_law_1891 : decode cL_law 1891 = .ok (.invokestatic 214, 3) := by decide +kernel
theorem dL_law_1894 : decode cL_law 1894 = .ok (.istore 6, 2) := by decide +kernel
theorem dL_law_1896 : decode cL_law 1896 = .ok (.aload_n 2, 1) := by decide +kernel
theorem dL_law_1897 : decode cL_law 1897 = .ok (.aload_n 0, 1) := by decide +kernel
theorem dL_law_1898 : decode cL_law 1898 = .ok (.iload 5, 2) := by decide +kernel
theorem dL_law_1900 : decode cL_law 1900 = .ok (.iconst 1, 1) := by decide +kernel
theorem dL_law_1901 : decode cL_law 1901 = .ok (.iadd, 1) := by decide +kernel
theorem dL_law_1902 : decode cL_law 1902 = .ok (.iaload, 1) := by decide +kernel
theorem dL_law_1903 : decode cL_law 1903 = .ok (.aload_n 0, 1) := by decide +kernel
theorem dL_law_1904 : decode cL_law 1904 = .ok (.iload 5, 2) := by decide +kernel
theorem dL_law_1906 : decode cL_law 1906 = .ok (.iconst 2, 1) := by decide +kernel
theorem dL_law_1907 : decode cL_law 1907 = .ok (.iadd, 1) := by decide +kernel
theorem dL_law_1908 : decode cL_law 1908 = .ok (.iaload, 1) := by decide +kernel
theorem dL_law_1909 : decode cL_law 1909 = .ok (.invokevirtual 216, 3) := by decide +kernel
theorem dL_law_1912 : decode cL_law 1912 = .ok (.istore 7, 2) := by decide +kernel
theorem dL_law_1914 : decode cL_law 1914 = .ok (.aload_n 2, 1) := by decide +kernel
theorem dL_law_1915 : decode cL_law 1915 = .ok (.invokevirtual 134, 3) := by decide +kernel
theorem dL_law_1918 : decode cL_law 1918 = .ok (.iload 6, 2) := by decide +kernel
theorem dL_law_1920 : decode cL_law 1920 = .ok (.if_icmp .eq 5, 3) := by decide +kernel
theorem dL_law_1923 : decode cL_law 1923 = .ok (.iconst 0, 1) := by decide +kernel
theorem dL_law_1924 : decode cL_law 1924 = .ok (.ireturn, 1) := by decide +kernel
theorem dL_law_1925 : decode cL_law 1925 = .ok (.iload 6, 2) := by decide +kernel
theorem dL_law_1927 : decode cL_law 1927 = .ok (.ifCond .ne 15, 3) := by decide +kernel
theorem dL_law_1930 : decode cL_law 1930 = .ok (.aload_n 3, 1) := by decide +kernel
theorem dL_law_1931 : decode cL_law 1931 = .ok (.iconst 0, 1) := by decide +kernel
theorem dL_law_1932 : decode cL_law 1932 = .ok (.laload, 1) := by decide +kernel
theorem dL_law_1933 : decode cL_law 1933 = .ok (.iload 7, 2) := by decide +kernel
theorem dL_law_1935 : decode cL_law 1935 = .ok (.i2l, 1) := by decide +kernel
theorem dL_law_1936 : decode cL_law 1936 = .ok (.lcmp, 1) := by decide +kernel
theorem dL_law_1937 : decode cL_law 1937 = .ok (.ifCond .eq 5, 3) := by decide +kernel
theorem dL_law_1940 : decode cL_law 1940 = .ok (.iconst 0, 1) := by decide +kernel
theorem dL_law_1941 : decode cL_law 1941 = .ok (.ireturn, 1) := by decide +kernel
theorem dL_law_1942 : decode cL_law 1942 = .ok (.goto 765, 3) := by decide +kernel
theorem dL_law_1945 : decode cL_law 1945 = .ok (.aload_n 1, 1) := by decide +kernel
theorem dL_law_1946 : decode cL_law 1946 = .ok (.aload_n 0, 1) := by decide +kernel
theorem dL_law_1947 : decode cL_law 1947 = .ok (.iload 5, 2) := by decide +kernel
theorem dL_law_1949 : decode cL_law 1949 = .ok (.iconst 1, 1) := by decide +kernel
theorem dL_law_1950 : decode cL_law 1950 = .ok (.iadd, 1) := by decide +kernel
theorem dL_law_1951 : decode cL_law 1951 = .ok (.iaload, 1) := by decide +kernel
theorem dL_law_1952 : decode cL_law 1952 = .ok (.aload_n 0, 1) := by decide +kernel
theorem dL_law_1953 : decode cL_law 1953 = .ok (.iload 5, 2) := by decide +kernel
theorem dL_law_1955 : decode cL_law 1955 = .ok (.iconst 2, 1) := by decide +kernel
theorem dL_law_1956 : decode cL_law 1956 = .ok (.iadd, 1) := by decide +kernel
theorem dL_law_1957 : decode cL_law 1957 = .ok (.iaload, 1) := by decide +kernel
theorem dL_law_1958 : decode cL_law 1958 = .ok (.aload_n 3, 1) := by decide +kernel
theorem dL_law_1959 : decode cL_law 1959 = .ok (.invokestatic 217, 3) := by decide +kernel
theorem dL_law_1962 : decode cL_law 1962 = .ok (.istore 6, 2) := by decide +kernel
theorem dL_law_1964 : decode cL_law 1964 = .ok (.aload_n 2, 1) := by decide +kernel
theorem dL_law_1965 : decode cL_law 1965 = .ok (.aload_n 0, 1) := by decide +kernel
theorem dL_law_1966 : decode cL_law 1966 = .ok (.iload 5, 2) := by decide +kernel
theorem dL_law_1968 : decode cL_law 1968 = .ok (.iconst 1, 1) := by decide +kernel
theorem dL_law_1969 : decode cL_law 1969 = .ok (.iadd, 1) := by decide +kernel
theorem dL_law_1970 : decode cL_law 1970 = .ok (.iaload, 1) := by decide +kernel
theorem dL_law_1971 : decode cL_law 1971 = .ok (.aload_n 0, 1) := by decide +kernel
theorem dL_law_1972 : decode cL_law 1972 = .ok (.iload 5, 2) := by decide +kernel
theorem dL_law_1974 : decode cL_law 1974 = .ok (.iconst 2, 1) := by decide +kernel
theorem dL_law_1975 : decode cL_law 1975 = .ok (.iadd, 1) := by decide +kernel
theorem dL_law_1976 : decode cL_law 1976 = .ok (.iaload, 1) := by decide +kernel
theorem dL_law_1977 : decode cL_law 1977 = .ok (.invokevirtual 219, 3) := by decide +kernel
theorem dL_law_1980 : decode cL_law 1980 = .ok (.istore 7, 2) := by decide +kernel
theorem dL_law_1982 : decode cL_law 1982 = .ok (.aload_n 2, 1) := by decide +kernel
theorem dL_law_1983 : decode cL_law 1983 = .ok (.invokevirtual 134, 3) := by decide +kernel
theorem dL_law_1986 : decode cL_law 1986 = .ok (.iload 6, 2) := by decide +kernel
theorem dL_law_1988 : decode cL_law 1988 = .ok (.if_icmp .eq 5, 3) := by decide +kernel
theorem dL_law_1991 : decode cL_law 1991 = .ok (.iconst 0, 1) := by decide +kernel
theorem dL_law_1992 : decode cL_law 1992 = .ok (.ireturn, 1) := by decide +kernel
theorem dL_law_1993 : decode cL_law 1993 = .ok (.iload 6, 2) := by decide +kernel
theorem dL_law_1995 : decode cL_law 1995 = .ok (.ifCond .ne 15, 3) := by decide +kernel
theorem dL_law_1998 : decode cL_law 1998 = .ok (.aload_n 3, 1) := by decide +kernel
theorem dL_law_1999 : decode cL_law 1999 = .ok (.iconst 0, 1) := by decide +kernel
theorem dL_law_2000 : decode cL_law 2000 = .ok (.laload, 1) := by decide +kernel
theorem dL_law_2001 : decode cL_law 2001 = .ok (.iload 7, 2) := by decide +kernel
theorem dL_law_2003 : decode cL_law 2003 = .ok (.i2l, 1) := by decide +kernel
theorem dL_law_2004 : decode cL_law 2004 = .ok (.lcmp, 1) := by decide +kernel
theorem dL_law_2005 : decode cL_law 2005 = .ok (.ifCond .eq 5, 3) := by decide +kernel
theorem dL_law_2008 : decode cL_law 2008 = .ok (.iconst 0, 1) := by decide +kernel
theorem dL_law_2009 : decode cL_law 2009 = .ok (.ireturn, 1) := by decide +kernel
theorem dL_law_2010 : decode cL_law 2010 = .ok (.goto 697, 3) := by decide +kernel
theorem dL_law_2013 : decode cL_law 2013 = .ok (.aload_n 1, 1) := by decide +kernel
theorem dL_law_2014 : decode cL_law 2014 = .ok (.aload_n 0, 1) := by decide +kernel
theorem dL_law_2015 : decode cL_law 2015 = .ok (.iload 5, 2) := by decide +kernel
theorem dL_law_2017 : decode cL_law 2017 = .ok (.iconst 1, 1) := by decide +kernel
theorem dL_law_2018 : decode cL_law 2018 = .ok (.iadd, 1) := by decide +kernel
theorem dL_law_2019 : decode cL_law 2019 = .ok (.iaload, 1) := by decide +kernel
theorem dL_law_2020 : decode cL_law 2020 = .ok (.aload_n 0, 1) := by decide +kernel
theorem dL_law_2021 : decode cL_law 2021 = .ok (.iload 5, 2) := by decide +kernel
theorem dL_law_2023 : decode cL_law 2023 = .ok (.iconst 2, 1) := by decide +kernel
theorem dL_law_2024 : decode cL_law 2024 = .ok (.iadd, 1) := by decide +kernel
theorem dL_law_2025 : decode cL_law 2025 = .ok (.iaload, 1) := by decide +kernel
theorem dL_law_2026 : decode cL_law 2026 = .ok (.aload_n 0, 1) := by decide +kernel
theorem dL_law_2027 : decode cL_law 2027 = .ok (.iload 5, 2) := by decide +kernel
theorem dL_law_2029 : decode cL_law 2029 = .ok (.iconst 3, 1) := by decide +kernel
theorem dL_law_2030 : decode cL_law 2030 = .ok (.iadd, 1) := by decide +kernel
theorem dL_law_2031 : decode cL_law 2031 = .ok (.iaload, 1) := by decide +kernel
theorem dL_law_2032 : decode cL_law 2032 = .ok (.aload_n 3, 1) := by decide +kernel
theorem dL_law_2033 : decode cL_law 2033 = .ok (.invokestatic 220, 3) := by decide +kernel
theorem dL_law_2036 : decode cL_law 2036 = .ok (.istore 6, 2) := by decide +kernel
theorem dL_law_2038 : decode cL_law 2038 = .ok (.aload_n 2, 1) := by decide +kernel
theorem dL_law_2039 : decode cL_law 2039 = .ok (.aload_n 0, 1) := by decide +kernel
theorem dL_law_2040 : decode cL_law 2040 = .ok (.iload 5, 2) := by decide +kernel
theorem dL_law_2042 : decode cL_law 2042 = .ok (.iconst 1, 1) := by decide +kernel
theorem dL_law_2043 : decode cL_law 2043 = .ok (.iadd, 1) := by decide +kernel
theorem dL_law_2044 : decode cL_law 2044 = .ok (.iaload, 1) := by decide +kernel
theorem dL_law_2045 : decode cL_law 2045 = .ok (.aload_n 0, 1) := by decide +kernel
theorem dL_law_2046 : decode cL_law 2046 = .ok (.iload 5, 2) := by decide +kernel
theorem dL_law_2048 : decode cL_law 2048 = .ok (.iconst 2, 1) := by decide +kernel
theorem dL_law_2049 : decode cL_law 2049 = .ok (.iadd, 1) := by decide +kernel
theorem dL_law_2050 : decode cL_law 2050 = .ok (.iaload, 1) := by decide +kernel
theorem dL_law_2051 : decode cL_law 2051 = .ok (.aload_n 0, 1) := by decide +kernel
theorem dL_law_2052 : decode cL_law 2052 = .ok (.iload 5, 2) := by decide +kernel
theorem dL_law_2054 : decode cL_law 2054 = .ok (.iconst 3, 1) := by decide +kernel
theorem dL_law_2055 : decode cL_law 2055 = .ok (.iadd, 1) := by decide +kernel
theorem dL_law_2056 : decode cL_law 2056 = .ok (.iaload, 1) := by decide +kernel
theorem dL_law_2057 : decode cL_law 2057 = .ok (.invokevirtual 222, 3) := by decide +kernel
theorem dL_law_2060 : decode cL_law 2060 = .ok (.istore 7, 2) := by decide +kernel
theorem dL_law_2062 : decode cL_law 2062 = .ok (.aload_n 2, 1) := by decide +kernel
theorem dL_law_2063 : decode cL_law 2063 = .ok (.invokevirtual 134, 3) := by decide +kernel
theorem dL_law_2066 : decode cL_law 2066 = .ok (.iload 6, 2) := by decide +kernel
theorem dL_law_2068 : decode cL_law 2068 = .ok (.if_icmp .eq 5, 3) := by decide +kernel
theorem dL_law_2071 : decode cL_law 2071 = .ok (.iconst 0, 1) := by decide +kernel
theorem dL_law_2072 : decode cL_law 2072 = .ok (.ireturn, 1) := by decide +kernel
theorem dL_law_2073 : decode cL_law 2073 = .ok (.iload 6, 2) := by decide +kernel
theorem dL_law_2075 : decode cL_law 2075 = .ok (.ifCond .ne 15, 3) := by decide +kernel
theorem dL_law_2078 : decode cL_law 2078 = .ok (.aload_n 3, 1) := by decide +kernel
theorem dL_law_2079 : decode cL_law 2079 = .ok (.iconst 0, 1) := by decide +kernel
theorem dL_law_2080 : decode cL_law 2080 = .ok (.laload, 1) := by decide +kernel
theorem dL_law_2081 : decode cL_law 2081 = .ok (.iload 7, 2) := by decide +kernel
theorem dL_law_2083 : decode cL_law 2083 = .ok (.i2l, 1) := by decide +kernel
theorem dL_law_2084 : decode cL_law 2084 = .ok (.lcmp, 1) := by decide +kernel
theorem dL_law_2085 : decode cL_law 2085 = .ok (.ifCond .eq 5, 3) := by decide +kernel
theorem dL_law_2088 : decode cL_law 2088 = .ok (.iconst 0, 1) := by decide +kernel
theorem dL_law_2089 : decode cL_law 2089 = .ok (.ireturn, 1) := by decide +kernel
theorem dL_law_2090 : decode cL_law 2090 = .ok (.goto 617, 3) := by decide +kernel
theorem dL_law_2093 : decode cL_law 2093 = .ok (.aload_n 1, 1) := by decide +kernel
theorem dL_law_2094 : decode cL_law 2094 = .ok (.aload_n 0, 1) := by decide +kernel
theorem dL_law_2095 : decode cL_law 2095 = .ok (.iload 5, 2) := by decide +kernel
theorem dL_law_2097 : decode cL_law 2097 = .ok (.iconst 1, 1) := by decide +kernel
theorem dL_law_2098 : decode cL_law 2098 = .ok (.iadd, 1) := by decide +kernel
theorem dL_law_2099 : decode cL_law 2099 = .ok (.iaload, 1) := by decide +kernel
theorem dL_law_2100 : decode cL_law 2100 = .ok (.aload_n 0, 1) := by decide +kernel
theorem dL_law_2101 : decode cL_law 2101 = .ok (.iload 5, 2) := by decide +kernel
theorem dL_law_2103 : decode cL_law 2103 = .ok (.iconst 2, 1) := by decide +kernel
theorem dL_law_2104 : decode cL_law 2104 = .ok (.iadd, 1) := by decide +kernel
theorem dL_law_2105 : decode cL_law 2105 = .ok (.iaload, 1) := by decide +kernel
theorem dL_law_2106 : decode cL_law 2106 = .ok (.aload_n 0, 1) := by decide +kernel
theorem dL_law_2107 : decode cL_law 2107 = .ok (.iload 5, 2) := by decide +kernel
theorem dL_law_2109 : decode cL_law 2109 = .ok (.iconst 3, 1) := by decide +kernel
theorem dL_law_2110 : decode cL_law 2110 = .ok (.iadd, 1) := by decide +kernel
theorem dL_law_2111 : decode cL_law 2111 = .ok (.iaload, 1) := by decide +kernel
theorem dL_law_2112 : decode cL_law 2112 = .ok (.invokevirtual 223, 3) := by decide +kernel
theorem dL_law_2115 : decode cL_law 2115 = .ok (.aload_n 2, 1) := by decide +kernel
theorem dL_law_2116 : decode cL_law 2116 = .ok (.aload_n 0, 1) := by decide +kernel
theorem dL_law_2117 : decode cL_law 2117 = .ok (.iload 5, 2) := by decide +kernel
theorem dL_law_2119 : decode cL_law 2119 = .ok (.iconst 1, 1) := by decide +kernel
theorem dL_law_2120 : decode cL_law 2120 = .ok (.iadd, 1) := by decide +kernel
theorem dL_law_2121 : decode cL_law 2121 = .ok (.iaload, 1) := by decide +kernel
theorem dL_law_2122 : decode cL_law 2122 = .ok (.aload_n 0, 1) := by decide +kernel
theorem dL_law_2123 : decode cL_law 2123 = .ok (.iload 5, 2) := by decide +kernel
theorem dL_law_2125 : decode cL_law 2125 = .ok (.iconst 2, 1) := by decide +kernel
theorem dL_law_2126 : decode cL_law 2126 = .ok (.iadd, 1) := by decide +kernel
theorem dL_law_2127 : decode cL_law 2127 = .ok (.iaload, 1) := by decide +kernel
theorem dL_law_2128 : decode cL_law 2128 = .ok (.aload_n 0, 1) := by decide +kernel
theorem dL_law_2129 : decode cL_law 2129 = .ok (.iload 5, 2) := by decide +kernel
theorem dL_law_2131 : decode cL_law 2131 = .ok (.iconst 3, 1) := by decide +kernel
theorem dL_law_2132 : decode cL_law 2132 = .ok (.iadd, 1) := by decide +kernel
theorem dL_law_2133 : decode cL_law 2133 = .ok (.iaload, 1) := by decide +kernel
theorem dL_law_2134 : decode cL_law 2134 = .ok (.invokevirtual 226, 3) := by decide +kernel
theorem dL_law_2137 : decode cL_law 2137 = .ok (.if_icmp .eq 570, 3) := by decide +kernel
theorem dL_law_2140 : decode cL_law 2140 = .ok (.iconst 0, 1) := by decide +kernel
theorem dL_law_2141 : decode cL_law 2141 = .ok (.ireturn, 1) := by decide +kernel
theorem dL_law_2142 : decode cL_law 2142 = .ok (.aload_n 1, 1) := by decide +kernel
theorem dL_law_2143 : decode cL_law 2143 = .ok (.aload_n 0, 1) := by decide +kernel
theorem dL_law_2144 : decode cL_law 2144 = .ok (.iload 5, 2) := by decide +kernel
theorem dL_law_2146 : decode cL_law 2146 = .ok (.iconst 1, 1) := by decide +kernel
theorem dL_law_2147 : decode cL_law 2147 = .ok (.iadd, 1) := by decide +kernel
theorem dL_law_2148 : decode cL_law 2148 = .ok (.iaload, 1) := by decide +kernel
theorem dL_law_2149 : decode cL_law 2149 = .ok (.aload_n 0, 1) := by decide +kernel
theorem dL_law_2150 : decode cL_law 2150 = .ok (.iload 5, 2) := by decide +kernel
theorem dL_law_2152 : decode cL_law 2152 = .ok (.iconst 2, 1) := by decide +kernel
theorem dL_law_2153 : decode cL_law 2153 = .ok (.iadd, 1) := by decide +kernel
theorem dL_law_2154 : decode cL_law 2154 = .ok (.iaload, 1) := by decide +kernel
theorem dL_law_2155 : decode cL_law 2155 = .ok (.aload_n 3, 1) := by decide +kernel
theorem dL_law_2156 : decode cL_law 2156 = .ok (.invokestatic 227, 3) := by decide +kernel
theorem dL_law_2159 : decode cL_law 2159 = .ok (.istore 6, 2) := by decide +kernel
theorem dL_law_2161 : decode cL_law 2161 = .ok (.aload_n 2, 1) := by decide +kernel
theorem dL_law_2162 : decode cL_law 2162 = .ok (.aload_n 0, 1) := by decide +kernel
theorem dL_law_2163 : decode cL_law 2163 = .ok (.iload 5, 2) := by decide +kernel
theorem dL_law_2165 : decode cL_law 2165 = .ok (.iconst 1, 1) := by decide +kernel
theorem dL_law_2166 : decode cL_law 2166 = .ok (.iadd, 1) := by decide +kernel
theorem dL_law_2167 : decode cL_law 2167 = .ok (.iaload, 1) := by decide +kernel
theorem dL_law_2168 : decode cL_law 2168 = .ok (.aload_n 0, 1) := by decide +kernel
theorem dL_law_2169 : decode cL_law 2169 = .ok (.iload 5, 2) := by decide +kernel
theorem dL_law_2171 : decode cL_law 2171 = .ok (.iconst 2, 1) := by decide +kernel
theorem dL_law_2172 : decode cL_law 2172 = .ok (.iadd, 1) := by decide +kernel
theorem dL_law_2173 : decode cL_law 2173 = .ok (.iaload, 1) := by decide +kernel
theorem dL_law_2174 : decode cL_law 2174 = .ok (.invokevirtual 229, 3) := by decide +kernel
theorem dL_law_2177 : decode cL_law 2177 = .ok (.istore 7, 2) := by decide +kernel
theorem dL_law_2179 : decode cL_law 2179 = .ok (.aload_n 2, 1) := by decide +kernel
theorem dL_law_2180 : decode cL_law 2180 = .ok (.invokevirtual 134, 3) := by decide +kernel
theorem dL_law_2183 : decode cL_law 2183 = .ok (.iload 6, 2) := by decide +kernel
theorem dL_law_2185 : decode cL_law 2185 = .ok (.if_icmp .eq 5, 3) := by decide +kernel
theorem dL_law_2188 : decode cL_law 2188 = .ok (.iconst 0, 1) := by decide +kernel
theorem dL_law_2189 : decode cL_law 2189 = .ok (.ireturn, 1) := by decide +kernel
theorem dL_law_2190 : decode cL_law 2190 = .ok (.iload 6, 2) := by decide +kernel
theorem dL_law_2192 : decode cL_law 2192 = .ok (.ifCond .ne 15, 3) := by decide +kernel
theorem dL_law_2195 : decode cL_law 2195 = .ok (.aload_n 3, 1) := by decide +kernel
theorem dL_law_2196 : decode cL_law 2196 = .ok (.iconst 0, 1) := by decide +kernel
theorem dL_law_2197 : decode cL_law 2197 = .ok (.laload, 1) := by decide +kernel
theorem dL_law_2198 : decode cL_law 2198 = .ok (.iload 7, 2) := by decide +kernel
theorem dL_law_2200 : decode cL_law 2200 = .ok (.i2l, 1) := by decide +kernel
theorem dL_law_2201 : decode cL_law 2201 = .ok (.lcmp, 1) := by decide +kernel
theorem dL_law_2202 : decode cL_law 2202 = .ok (.ifCond .eq 5, 3) := by decide +kernel
theorem dL_law_2205 : decode cL_law 2205 = .ok (.iconst 0, 1) := by decide +kernel
theorem dL_law_2206 : decode cL_law 2206 = .ok (.ireturn, 1) := by decide +kernel
theorem dL_law_2207 : decode cL_law 2207 = .ok (.goto 500, 3) := by decide +kernel
theorem dL_law_2210 : decode cL_law 2210 = .ok (.aload_n 1, 1) := by decide +kernel
theorem dL_law_2211 : decode cL_law 2211 = .ok (.invokevirtual 230, 3) := by decide +kernel
theorem dL_law_2214 : decode cL_law 2214 = .ok (.aload_n 2, 1) := by decide +kernel
theorem dL_law_2215 : decode cL_law 2215 = .ok (.invokevirtual 233, 3) := by decide +kernel
theorem dL_law_2218 : decode cL_law 2218 = .ok (.if_icmp .eq 489, 3) := by decide +kernel
theorem dL_law_2221 : decode cL_law 2221 = .ok (.iconst 0, 1) := by decide +kernel
theorem dL_law_2222 : decode cL_law 2222 = .ok (.ireturn, 1) := by decide +kernel
theorem dL_law_2223 : decode cL_law 2223 = .ok (.aload_n 1, 1) := by decide +kernel
theorem dL_law_2224 : decode cL_law 2224 = .ok (.aload_n 0, 1) := by decide +kernel
theorem dL_law_2225 : decode cL_law 2225 = .ok (.iload 5, 2) := by decide +kernel
theorem dL_law_2227 : decode cL_law 2227 = .ok (.iconst 1, 1) := by decide +kernel
theorem dL_law_2228 : decode cL_law 2228 = .ok (.iadd, 1) := by decide +kernel
theorem dL_law_2229 : decode cL_law 2229 = .ok (.iaload, 1) := by decide +kernel
theorem dL_law_2230 : decode cL_law 2230 = .ok (.aload_n 0, 1) := by decide +kernel
theorem dL_law_2231 : decode cL_law 2231 = .ok (.iload 5, 2) := by decide +kernel
theorem dL_law_2233 : decode cL_law 2233 = .ok (.iconst 2, 1) := by decide +kernel
theorem dL_law_2234 : decode cL_law 2234 = .ok (.iadd, 1) := by decide +kernel
theorem dL_law_2235 : decode cL_law 2235 = .ok (.iaload, 1) := by decide +kernel
theorem dL_law_2236 : decode cL_law 2236 = .ok (.aload_n 3, 1) := by decide +kernel
theorem dL_law_2237 : decode cL_law 2237 = .ok (.invokestatic 234, 3) := by decide +kernel
theorem dL_law_2240 : decode cL_law 2240 = .ok (.istore 6, 2) := by decide +kernel
theorem dL_law_2242 : decode cL_law 2242 = .ok (.aload_n 2, 1) := by decide +kernel
theorem dL_law_2243 : decode cL_law 2243 = .ok (.aload_n 0, 1) := by decide +kernel
theorem dL_law_2244 : decode cL_law 2244 = .ok (.iload 5, 2) := by decide +kernel
theorem dL_law_2246 : decode cL_law 2246 = .ok (.iconst 1, 1) := by decide +kernel
theorem dL_law_2247 : decode cL_law 2247 = .ok (.iadd, 1) := by decide +kernel
theorem dL_law_2248 : decode cL_law 2248 = .ok (.iaload, 1) := by decide +kernel
theorem dL_law_2249 : decode cL_law 2249 = .ok (.aload_n 0, 1) := by decide +kernel
theorem dL_law_2250 : decode cL_law 2250 = .ok (.iload 5, 2) := by decide +kernel
theorem dL_law_2252 : decode cL_law 2252 = .ok (.iconst 2, 1) := by decide +kernel
theorem dL_law_2253 : decode cL_law 2253 = .ok (.iadd, 1) := by decide +kernel
theorem dL_law_2254 : decode cL_law 2254 = .ok (.iaload, 1) := by decide +kernel
theorem dL_law_2255 : decode cL_law 2255 = .ok (.invokevirtual 236, 3) := by decide +kernel
theorem dL_law_2258 : decode cL_law 2258 = .ok (.istore 7, 2) := by decide +kernel
theorem dL_law_2260 : decode cL_law 2260 = .ok (.aload_n 2, 1) := by decide +kernel
theorem dL_law_2261 : decode cL_law 2261 = .ok (.invokevirtual 134, 3) := by decide +kernel
theorem dL_law_2264 : decode cL_law 2264 = .ok (.iload 6, 2) := by decide +kernel
theorem dL_law_2266 : decode cL_law 2266 = .ok (.if_icmp .eq 5, 3) := by decide +kernel
theorem dL_law_2269 : decode cL_law 2269 = .ok (.iconst 0, 1) := by decide +kernel
theorem dL_law_2270 : decode cL_law 2270 = .ok (.ireturn, 1) := by decide +kernel
theorem dL_law_2271 : decode cL_law 2271 = .ok (.iload 6, 2) := by decide +kernel
theorem dL_law_2273 : decode cL_law 2273 = .ok (.ifCond .ne 15, 3) := by decide +kernel
theorem dL_law_2276 : decode cL_law 2276 = .ok (.aload_n 3, 1) := by decide +kernel
theorem dL_law_2277 : decode cL_law 2277 = .ok (.iconst 0, 1) := by decide +kernel
theorem dL_law_2278 : decode cL_law 2278 = .ok (.laload, 1) := by decide +kernel
theorem dL_law_2279 : decode cL_law 2279 = .ok (.iload 7, 2) := by decide +kernel
theorem dL_law_2281 : decode cL_law 2281 = .ok (.i2l, 1) := by decide +kernel
theorem dL_law_2282 : decode cL_law 2282 = .ok (.lcmp, 1) := by decide +kernel
theorem dL_law_2283 : decode cL_law 2283 = .ok (.ifCond .eq 5, 3) := by decide +kernel
theorem dL_law_2286 : decode cL_law 2286 = .ok (.iconst 0, 1) := by decide +kernel
theorem dL_law_2287 : decode cL_law 2287 = .ok (.ireturn, 1) := by decide +kernel
theorem dL_law_2288 : decode cL_law 2288 = .ok (.goto 419, 3) := by decide +kernel
theorem dL_law_2291 : decode cL_law 2291 = .ok (.aload_n 1, 1) := by decide +kernel
theorem dL_law_2292 : decode cL_law 2292 = .ok (.aload_n 0, 1) := by decide +kernel
theorem dL_law_2293 : decode cL_law 2293 = .ok (.iload 5, 2) := by decide +kernel
theorem dL_law_2295 : decode cL_law 2295 = .ok (.iconst 1, 1) := by decide +kernel
theorem dL_law_2296 : decode cL_law 2296 = .ok (.iadd, 1) := by decide +kernel
theorem dL_law_2297 : decode cL_law 2297 = .ok (.iaload, 1) := by decide +kernel
theorem dL_law_2298 : decode cL_law 2298 = .ok (.aload_n 3, 1) := by decide +kernel
theorem dL_law_2299 : decode cL_law 2299 = .ok (.invokestatic 237, 3) := by decide +kernel
theorem dL_law_2302 : decode cL_law 2302 = .ok (.istore 6, 2) := by decide +kernel
theorem dL_law_2304 : decode cL_law 2304 = .ok (.aload_n 2, 1) := by decide +kernel
theorem dL_law_2305 : decode cL_law 2305 = .ok (.aload_n 0, 1) := by decide +kernel
theorem dL_law_2306 : decode cL_law 2306 = .ok (.iload 5, 2) := by decide +kernel
theorem dL_law_2308 : decode cL_law 2308 = .ok (.iconst 1, 1) := by decide +kernel
theorem dL_law_2309 : decode cL_law 2309 = .ok (.iadd, 1) := by decide +kernel
theorem dL_law_2310 : decode cL_law 2310 = .ok (.iaload, 1) := by decide +kernel
theorem dL_law_2311 : decode cL_law 2311 = .ok (.invokevirtual 239, 3) := by decide +kernel
theorem dL_law_2314 : decode cL_law 2314 = .ok (.istore 7, 2) := by decide +kernel
theorem dL_law_2316 : decode cL_law 2316 = .ok (.aload_n 2, 1) := by decide +kernel
theorem dL_law_2317 : decode cL_law 2317 = .ok (.invokevirtual 134, 3) := by decide +kernel
theorem dL_law_2320 : decode cL_law 2320 = .ok (.iload 6, 2) := by decide +kernel
theorem dL_law_2322 : decode cL_law 2322 = .ok (.if_icmp .eq 5, 3) := by decide +kernel
theorem dL_law_2325 : decode cL_law 2325 = .ok (.iconst 0, 1) := by decide +kernel
theorem dL_law_2326 : decode cL_law 2326 = .ok (.ireturn, 1) := by decide +kernel
theorem dL_law_2327 : decode cL_law 2327 = .ok (.iload 6, 2) := by decide +kernel
theorem dL_law_2329 : decode cL_law 2329 = .ok (.ifCond .ne 15, 3) := by decide +kernel
theorem dL_law_2332 : decode cL_law 2332 = .ok (.aload_n 3, 1) := by decide +kernel
theorem dL_law_2333 : decode cL_law 2333 = .ok (.iconst 0, 1) := by decide +kernel
theorem dL_law_2334 : decode cL_law 2334 = .ok (.laload, 1) := by decide +kernel
theorem dL_law_2335 : decode cL_law 2335 = .ok (.iload 7, 2) := by decide +kernel
theorem dL_law_2337 : decode cL_law 2337 = .ok (.i2l, 1) := by decide +kernel
theorem dL_law_2338 : decode cL_law 2338 = .ok (.lcmp, 1) := by decide +kernel
theorem dL_law_2339 : decode cL_law 2339 = .ok (.ifCond .eq 5, 3) := by decide +kernel
theorem dL_law_2342 : decode cL_law 2342 = .ok (.iconst 0, 1) := by decide +kernel
theorem dL_law_2343 : decode cL_law 2343 = .ok (.ireturn, 1) := by decide +kernel
theorem dL_law_2344 : decode cL_law 2344 = .ok (.goto 363, 3) := by decide +kernel
theorem dL_law_2347 : decode cL_law 2347 = .ok (.aload_n 1, 1) := by decide +kernel
theorem dL_law_2348 : decode cL_law 2348 = .ok (.aload_n 0, 1) := by decide +kernel
theorem dL_law_2349 : decode cL_law 2349 = .ok (.iload 5, 2) := by decide +kernel
theorem dL_law_2351 : decode cL_law 2351 = .ok (.iconst 1, 1) := by decide +kernel
theorem dL_law_2352 : decode cL_law 2352 = .ok (.iadd, 1) := by decide +kernel
theorem dL_law_2353 : decode cL_law 2353 = .ok (.iaload, 1) := by decide +kernel
theorem dL_law_2354 : decode cL_law 2354 = .ok (.aload_n 0, 1) := by decide +kernel
theorem dL_law_2355 : decode cL_law 2355 = .ok (.iload 5, 2) := by decide +kernel
theorem dL_law_2357 : decode cL_law 2357 = .ok (.iconst 2, 1) := by decide +kernel
theorem dL_law_2358 : decode cL_law 2358 = .ok (.iadd, 1) := by decide +kernel
theorem dL_law_2359 : decode cL_law 2359 = .ok (.iaload, 1) := by decide +kernel
theorem dL_law_2360 : decode cL_law 2360 = .ok (.aload_n 0, 1) := by decide +kernel
theorem dL_law_2361 : decode cL_law 2361 = .ok (.iload 5, 2) := by decide +kernel
theorem dL_law_2363 : decode cL_law 2363 = .ok (.iconst 3, 1) := by decide +kernel
theorem dL_law_2364 : decode cL_law 2364 = .ok (.iadd, 1) := by decide +kernel
theorem dL_law_2365 : decode cL_law 2365 = .ok (.iaload, 1) := by decide +kernel
theorem dL_law_2366 : decode cL_law 2366 = .ok (.aload_n 0, 1) := by decide +kernel
theorem dL_law_2367 : decode cL_law 2367 = .ok (.iload 5, 2) := by decide +kernel
theorem dL_law_2369 : decode cL_law 2369 = .ok (.iconst 4, 1) := by decide +kernel
theorem dL_law_2370 : decode cL_law 2370 = .ok (.iadd, 1) := by decide +kernel
theorem dL_law_2371 : decode cL_law 2371 = .ok (.iaload, 1) := by decide +kernel
theorem dL_law_2372 : decode cL_law 2372 = .ok (.aload_n 3, 1) := by decide +kernel
theorem dL_law_2373 : decode cL_law 2373 = .ok (.invokestatic 240, 3) := by decide +kernel
theorem dL_law_2376 : decode cL_law 2376 = .ok (.istore 6, 2) := by decide +kernel
theorem dL_law_2378 : decode cL_law 2378 = .ok (.aload_n 2, 1) := by decide +kernel
theorem dL_law_2379 : decode cL_law 2379 = .ok (.aload_n 0, 1) := by decide +kernel
theorem dL_law_2380 : decode cL_law 2380 = .ok (.iload 5, 2) := by decide +kernel
theorem dL_law_2382 : decode cL_law 2382 = .ok (.iconst 1, 1) := by decide +kernel
theorem dL_law_2383 : decode cL_law 2383 = .ok (.iadd, 1) := by decide +kernel
theorem dL_law_2384 : decode cL_law 2384 = .ok (.iaload, 1) := by decide +kernel
theorem dL_law_2385 : decode cL_law 2385 = .ok (.aload_n 0, 1) := by decide +kernel
theorem dL_law_2386 : decode cL_law 2386 = .ok (.iload 5, 2) := by decide +kernel
theorem dL_law_2388 : decode cL_law 2388 = .ok (.iconst 2, 1) := by decide +kernel
theorem dL_law_2389 : decode cL_law 2389 = .ok (.iadd, 1) := by decide +kernel
theorem dL_law_2390 : decode cL_law 2390 = .ok (.iaload, 1) := by decide +kernel
theorem dL_law_2391 : decode cL_law 2391 = .ok (.aload_n 0, 1) := by decide +kernel
theorem dL_law_2392 : decode cL_law 2392 = .ok (.iload 5, 2) := by decide +kernel
theorem dL_law_2394 : decode cL_law 2394 = .ok (.iconst 3, 1) := by decide +kernel
theorem dL_law_2395 : decode cL_law 2395 = .ok (.iadd, 1) := by decide +kernel
theorem dL_law_2396 : decode cL_law 2396 = .ok (.iaload, 1) := by decide +kernel
theorem dL_law_2397 : decode cL_law 2397 = .ok (.aload_n 0, 1) := by decide +kernel
theorem dL_law_2398 : decode cL_law 2398 = .ok (.iload 5, 2) := by decide +kernel
theorem dL_law_2400 : decode cL_law 2400 = .ok (.iconst 4, 1) := by decide +kernel
theorem dL_law_2401 : decode cL_law 2401 = .ok (.iadd, 1) := by decide +kernel
theorem dL_law_2402 : decode cL_law 2402 = .ok (.iaload, 1) := by decide +kernel
theorem dL_law_2403 : decode cL_law 2403 = .ok (.invokevirtual 242, 3) := by decide +kernel
theorem dL_law_2406 : decode cL_law 2406 = .ok (.istore 7, 2) := by decide +kernel
theorem dL_law_2408 : decode cL_law 2408 = .ok (.aload_n 2, 1) := by decide +kernel
theorem dL_law_2409 : decode cL_law 2409 = .ok (.invokevirtual 134, 3) := by decide +kernel
theorem dL_law_2412 : decode cL_law 2412 = .ok (.iload 6, 2) := by decide +kernel
theorem dL_law_2414 : decode cL_law 2414 = .ok (.if_icmp .eq 5, 3) := by decide +kernel
theorem dL_law_2417 : decode cL_law 2417 = .ok (.iconst 0, 1) := by decide +kernel
theorem dL_law_2418 : decode cL_law 2418 = .ok (.ireturn, 1) := by decide +kernel
theorem dL_law_2419 : decode cL_law 2419 = .ok (.iload 6, 2) := by decide +kernel
theorem dL_law_2421 : decode cL_law 2421 = .ok (.ifCond .ne 15, 3) := by decide +kernel
theorem dL_law_2424 : decode cL_law 2424 = .ok (.aload_n 3, 1) := by decide +kernel
theorem dL_law_2425 : decode cL_law 2425 = .ok (.iconst 0, 1) := by decide +kernel
theorem dL_law_2426 : decode cL_law 2426 = .ok (.laload, 1) := by decide +kernel
theorem dL_law_2427 : decode cL_law 2427 = .ok (.iload 7, 2) := by decide +kernel
theorem dL_law_2429 : decode cL_law 2429 = .ok (.i2l, 1) := by decide +kernel
theorem dL_law_2430 : decode cL_law 2430 = .ok (.lcmp, 1) := by decide +kernel
theorem dL_law_2431 : decode cL_law 2431 = .ok (.ifCond .eq 5, 3) := by decide +kernel
theorem dL_law_2434 : decode cL_law 2434 = .ok (.iconst 0, 1) := by decide +kernel
theorem dL_law_2435 : decode cL_law 2435 = .ok (.ireturn, 1) := by decide +kernel
theorem dL_law_2436 : decode cL_law 2436 = .ok (.goto 271, 3) := by decide +kernel
theorem dL_law_2439 : decode cL_law 2439 = .ok (.aload_n 1, 1) := by decide +kernel
theorem dL_law_2440 : decode cL_law 2440 = .ok (.aload_n 0, 1) := by decide +kernel
theorem dL_law_2441 : decode cL_law 2441 = .ok (.iload 5, 2) := by decide +kernel
theorem dL_law_2443 : decode cL_law 2443 = .ok (.iconst 1, 1) := by decide +kernel
theorem dL_law_2444 : decode cL_law 2444 = .ok (.iadd, 1) := by decide +kernel
theorem dL_law_2445 : decode cL_law 2445 = .ok (.iaload, 1) := by decide +kernel
theorem dL_law_2446 : decode cL_law 2446 = .ok (.aload 4, 2) := by decide +kernel
theorem dL_law_2448 : decode cL_law 2448 = .ok (.invokestatic 243, 3) := by decide +kernel
theorem dL_law_2451 : decode cL_law 2451 = .ok (.istore 6, 2) := by decide +kernel
theorem dL_law_2453 : decode cL_law 2453 = .ok (.aload_n 2, 1) := by decide +kernel
theorem dL_law_2454 : decode cL_law 2454 = .ok (.aload_n 0, 1) := by decide +kernel
theorem dL_law_2455 : decode cL_law 2455 = .ok (.iload 5, 2) := by decide +kernel
theorem dL_law_2457 : decode cL_law 2457 = .ok (.iconst 1, 1) := by decide +kernel
theorem dL_law_2458 : decode cL_law 2458 = .ok (.iadd, 1) := by decide +kernel
theorem dL_law_2459 : decode cL_law 2459 = .ok (.iaload, 1) := by decide +kernel
theorem dL_law_2460 : decode cL_law 2460 = .ok (.invokevirtual 246, 3) := by decide +kernel
theorem dL_law_2463 : decode cL_law 2463 = .ok (.dstore 7, 2) := by decide +kernel
theorem dL_law_2465 : decode cL_law 2465 = .ok (.aload_n 2, 1) := by decide +kernel
theorem dL_law_2466 : decode cL_law 2466 = .ok (.invokevirtual 134, 3) := by decide +kernel
theorem dL_law_2469 : decode cL_law 2469 = .ok (.iload 6, 2) := by decide +kernel
theorem dL_law_2471 : decode cL_law 2471 = .ok (.if_icmp .eq 5, 3) := by decide +kernel
theorem dL_law_2474 : decode cL_law 2474 = .ok (.iconst 0, 1) := by decide +kernel
theorem dL_law_2475 : decode cL_law 2475 = .ok (.ireturn, 1) := by decide +kernel
theorem dL_law_2476 : decode cL_law 2476 = .ok (.iload 6, 2) := by decide +kernel
theorem dL_law_2478 : decode cL_law 2478 = .ok (.ifCond .ne 35, 3) := by decide +kernel
theorem dL_law_2481 : decode cL_law 2481 = .ok (.aload 4, 2) := by decide +kernel
theorem dL_law_2483 : decode cL_law 2483 = .ok (.iconst 0, 1) := by decide +kernel
theorem dL_law_2484 : decode cL_law 2484 = .ok (.daload, 1) := by decide +kernel
theorem dL_law_2485 : decode cL_law 2485 = .ok (.dload 7, 2) := by decide +kernel
theorem dL_law_2487 : decode cL_law 2487 = .ok (.dcmp .l, 1) := by decide +kernel
theorem dL_law_2488 : decode cL_law 2488 = .ok (.ifCond .eq 25, 3) := by decide +kernel
theorem dL_law_2491 : decode cL_law 2491 = .ok (.aload 4, 2) := by decide +kernel
theorem dL_law_2493 : decode cL_law 2493 = .ok (.iconst 0, 1) := by decide +kernel
theorem dL_law_2494 : decode cL_law 2494 = .ok (.daload, 1) := by decide +kernel
theorem dL_law_2495 : decode cL_law 2495 = .ok (.aload 4, 2) := by decide +kernel
theorem dL_law_2497 : decode cL_law 2497 = .ok (.iconst 0, 1) := by decide +kernel
theorem dL_law_2498 : decode cL_law 2498 = .ok (.daload, 1) := by decide +kernel
theorem dL_law_2499 : decode cL_law 2499 = .ok (.dcmp .l, 1) := by decide +kernel
theorem dL_law_2500 : decode cL_law 2500 = .ok (.ifCond .eq 11, 3) := by decide +kernel
theorem dL_law_2503 : decode cL_law 2503 = .ok (.dload 7, 2) := by decide +kernel
theorem dL_law_2505 : decode cL_law 2505 = .ok (.dload 7, 2) := by decide +kernel
theorem dL_law_2507 : decode cL_law 2507 = .ok (.dcmp .l, 1) := by decide +kernel
theorem dL_law_2508 : decode cL_law 2508 = .ok (.ifCond .ne 5, 3) := by decide +kernel
theorem dL_law_2511 : decode cL_law 2511 = .ok (.iconst 0, 1) := by decide +kernel
theorem dL_law_2512 : decode cL_law 2512 = .ok (.ireturn, 1) := by decide +kernel
theorem dL_law_2513 : decode cL_law 2513 = .ok (.goto 194, 3) := by decide +kernel
theorem dL_law_2516 : decode cL_law 2516 = .ok (.aload_n 1, 1) := by decide +kernel
theorem dL_law_2517 : decode cL_law 2517 = .ok (.aload_n 0, 1) := by decide +kernel
theorem dL_law_2518 : decode cL_law 2518 = .ok (.iload 5, 2) := by decide +kernel
theorem dL_law_2520 : decode cL_law 2520 = .ok (.iconst 1, 1) := by decide +kernel
theorem dL_law_2521 : decode cL_law 2521 = .ok (.iadd, 1) := by decide +kernel
theorem dL_law_2522 : decode cL_law 2522 = .ok (.iaload, 1) := by decide +kernel
theorem dL_law_2523 : decode cL_law 2523 = .ok (.aload_n 0, 1) := by decide +kernel
theorem dL_law_2524 : decode cL_law 2524 = .ok (.iload 5, 2) := by decide +kernel
theorem dL_law_2526 : decode cL_law 2526 = .ok (.iconst 2, 1) := by decide +kernel
theorem dL_law_2527 : decode cL_law 2527 = .ok (.iadd, 1) := by decide +kernel
theorem dL_law_2528 : decode cL_law 2528 = .ok (.iaload, 1) := by decide +kernel
theorem dL_law_2529 : decode cL_law 2529 = .ok (.aload 4, 2) := by decide +kernel
theorem dL_law_2531 : decode cL_law 2531 = .ok (.invokestatic 247, 3) := by decide +kernel
theorem dL_law_2534 : decode cL_law 2534 = .ok (.istore 6, 2) := by decide +kernel
theorem dL_law_2536 : decode cL_law 2536 = .ok (.aload_n 2, 1) := by decide +kernel
theorem dL_law_2537 : decode cL_law 2537 = .ok (.aload_n 0, 1) := by decide +kernel
theorem dL_law_2538 : decode cL_law 2538 = .ok (.iload 5, 2) := by decide +kernel
theorem dL_law_2540 : decode cL_law 2540 = .ok (.iconst 1, 1) := by decide +kernel
theorem dL_law_2541 : decode cL_law 2541 = .ok (.iadd, 1) := by decide +kernel
theorem dL_law_2542 : decode cL_law 2542 = .ok (.iaload, 1) := by decide +kernel
theorem dL_law_2543 : decode cL_law 2543 = .ok (.aload_n 0, 1) := by decide +kernel
theorem dL_law_2544 : decode cL_law 2544 = .ok (.iload 5, 2) := by decide +kernel
theorem dL_law_2546 : decode cL_law 2546 = .ok (.iconst 2, 1) := by decide +kernel
theorem dL_law_2547 : decode cL_law 2547 = .ok (.iadd, 1) := by decide +kernel
theorem dL_law_2548 : decode cL_law 2548 = .ok (.iaload, 1) := by decide +kernel
theorem dL_law_2549 : decode cL_law 2549 = .ok (.invokevirtual 250, 3) := by decide +kernel
theorem dL_law_2552 : decode cL_law 2552 = .ok (.fstore 7, 2) := by decide +kernel
theorem dL_law_2554 : decode cL_law 2554 = .ok (.aload_n 2, 1) := by decide +kernel
theorem dL_law_2555 : decode cL_law 2555 = .ok (.invokevirtual 134, 3) := by decide +kernel
theorem dL_law_2558 : decode cL_law 2558 = .ok (.iload 6, 2) := by decide +kernel
theorem dL_law_2560 : decode cL_law 2560 = .ok (.if_icmp .eq 5, 3) := by decide +kernel
theorem dL_law_2563 : decode cL_law 2563 = .ok (.iconst 0, 1) := by decide +kernel
theorem dL_law_2564 : decode cL_law 2564 = .ok (.ireturn, 1) := by decide +kernel
theorem dL_law_2565 : decode cL_law 2565 = .ok (.iload 6, 2) := by decide +kernel
theorem dL_law_2567 : decode cL_law 2567 = .ok (.ifCond .ne 36, 3) := by decide +kernel
theorem dL_law_2570 : decode cL_law 2570 = .ok (.aload 4, 2) := by decide +kernel
theorem dL_law_2572 : decode cL_law 2572 = .ok (.iconst 0, 1) := by decide +kernel
theorem dL_law_2573 : decode cL_law 2573 = .ok (.daload, 1) := by decide +kernel
theorem dL_law_2574 : decode cL_law 2574 = .ok (.fload 7, 2) := by decide +kernel
theorem dL_law_2576 : decode cL_law 2576 = .ok (.f2d, 1) := by decide +kernel
theorem dL_law_2577 : decode cL_law 2577 = .ok (.dcmp .l, 1) := by decide +kernel
theorem dL_law_2578 : decode cL_law 2578 = .ok (.ifCond .eq 25, 3) := by decide +kernel
theorem dL_law_2581 : decode cL_law 2581 = .ok (.aload 4, 2) := by decide +kernel
theorem dL_law_2583 : decode cL_law 2583 = .ok (.iconst 0, 1) := by decide +kernel
theorem dL_law_2584 : decode cL_law 2584 = .ok (.daload, 1) := by decide +kernel
theorem dL_law_2585 : decode cL_law 2585 = .ok (.aload 4, 2) := by decide +kernel
theorem dL_law_2587 : decode cL_law 2587 = .ok (.iconst 0, 1) := by decide +kernel
theorem dL_law_2588 : decode cL_law 2588 = .ok (.daload, 1) := by decide +kernel
theorem dL_law_2589 : decode cL_law 2589 = .ok (.dcmp .l, 1) := by decide +kernel
theorem dL_law_2590 : decode cL_law 2590 = .ok (.ifCond .eq 11, 3) := by decide +kernel
theorem dL_law_2593 : decode cL_law 2593 = .ok (.fload 7, 2) := by decide +kernel
theorem dL_law_2595 : decode cL_law 2595 = .ok (.fload 7, 2) := by decide +kernel
theorem dL_law_2597 : decode cL_law 2597 = .ok (.fcmp .l, 1) := by decide +kernel
theorem dL_law_2598 : decode cL_law 2598 = .ok (.ifCond .ne 5, 3) := by decide +kernel
theorem dL_law_2601 : decode cL_law 2601 = .ok (.iconst 0, 1) := by decide +kernel
theorem dL_law_2602 : decode cL_law 2602 = .ok (.ireturn, 1) := by decide +kernel
theorem dL_law_2603 : decode cL_law 2603 = .ok (.goto 104, 3) := by decide +kernel
theorem dL_law_2606 : decode cL_law 2606 = .ok (.aload_n 1, 1) := by decide +kernel
theorem dL_law_2607 : decode cL_law 2607 = .ok (.aload_n 3, 1) := by decide +kernel
theorem dL_law_2608 : decode cL_law 2608 = .ok (.invokestatic 251, 3) := by decide +kernel
theorem dL_law_2611 : decode cL_law 2611 = .ok (.istore 6, 2) := by decide +kernel
theorem dL_law_2613 : decode cL_law 2613 = .ok (.aload_n 2, 1) := by decide +kernel
theorem dL_law_2614 : decode cL_law 2614 = .ok (.invokevirtual 253, 3) := by decide +kernel
theorem dL_law_2617 : decode cL_law 2617 = .ok (.istore 7, 2) := by decide +kernel
theorem dL_law_2619 : decode cL_law 2619 = .ok (.aload_n 2, 1) := by decide +kernel
theorem dL_law_2620 : decode cL_law 2620 = .ok (.invokevirtual 134, 3) := by decide +kernel
theorem dL_law_2623 : decode cL_law 2623 = .ok (.iload 6, 2) := by decide +kernel
theorem dL_law_2625 : decode cL_law 2625 = .ok (.if_icmp .eq 5, 3) := by decide +kernel
theorem dL_law_2628 : decode cL_law 2628 = .ok (.iconst 0, 1) := by decide +kernel
theorem dL_law_2629 : decode cL_law 2629 = .ok (.ireturn, 1) := by decide +kernel
theorem dL_law_2630 : decode cL_law 2630 = .ok (.iload 6, 2) := by decide +kernel
theorem dL_law_2632 : decode cL_law 2632 = .ok (.ifCond .ne 15, 3) := by decide +kernel
theorem dL_law_2635 : decode cL_law 2635 = .ok (.aload_n 3, 1) := by decide +kernel
theorem dL_law_2636 : decode cL_law 2636 = .ok (.iconst 0, 1) := by decide +kernel
theorem dL_law_2637 : decode cL_law 2637 = .ok (.laload, 1) := by decide +kernel
theorem dL_law_2638 : decode cL_law 2638 = .ok (.iload 7, 2) := by decide +kernel
theorem dL_law_2640 : decode cL_law 2640 = .ok (.i2l, 1) := by decide +kernel
theorem dL_law_2641 : decode cL_law 2641 = .ok (.lcmp, 1) := by decide +kernel
theorem dL_law_2642 : decode cL_law 2642 = .ok (.ifCond .eq 5, 3) := by decide +kernel
theorem dL_law_2645 : decode cL_law 2645 = .ok (.iconst 0, 1) := by decide +kernel
theorem dL_law_2646 : decode cL_law 2646 = .ok (.ireturn, 1) := by decide +kernel
theorem dL_law_2647 : decode cL_law 2647 = .ok (.goto 60, 3) := by decide +kernel
theorem dL_law_2650 : decode cL_law 2650 = .ok (.aload_n 1, 1) := by decide +kernel
theorem dL_law_2651 : decode cL_law 2651 = .ok (.invokevirtual 254, 3) := by decide +kernel
theorem dL_law_2654 : decode cL_law 2654 = .ok (.aload_n 2, 1) := by decide +kernel
theorem dL_law_2655 : decode cL_law 2655 = .ok (.invokevirtual 257, 3) := by decide +kernel
theorem dL_law_2658 : decode cL_law 2658 = .ok (.if_icmp .eq 49, 3) := by decide +kernel
theorem dL_law_2661 : decode cL_law 2661 = .ok (.iconst 0, 1) := by decide +kernel
theorem dL_law_2662 : decode cL_law 2662 = .ok (.ireturn, 1) := by decide +kernel
theorem dL_law_2663 : decode cL_law 2663 = .ok (.aload_n 1, 1) := by decide +kernel
theorem dL_law_2664 : decode cL_law 2664 = .ok (.aload_n 3, 1) := by decide +kernel
theorem dL_law_2665 : decode cL_law 2665 = .ok (.invokestatic 258, 3) := by decide +kernel
theorem dL_law_2668 : decode cL_law 2668 = .ok (.istore 6, 2) := by decide +kernel
theorem dL_law_2670 : decode cL_law 2670 = .ok (.aload_n 2, 1) := by decide +kernel
theorem dL_law_2671 : decode cL_law 2671 = .ok (.invokevirtual 260, 3) := by decide +kernel
theorem dL_law_2674 : decode cL_law 2674 = .ok (.istore 7, 2) := by decide +kernel
theorem dL_law_2676 : decode cL_law 2676 = .ok (.aload_n 2, 1) := by decide +kernel
theorem dL_law_2677 : decode cL_law 2677 = .ok (.invokevirtual 134, 3) := by decide +kernel
theorem dL_law_2680 : decode cL_law 2680 = .ok (.iload 6, 2) := by decide +kernel
theorem dL_law_2682 : decode cL_law 2682 = .ok (.if_icmp .eq 5, 3) := by decide +kernel
theorem dL_law_2685 : decode cL_law 2685 = .ok (.iconst 0, 1) := by decide +kernel
theorem dL_law_2686 : decode cL_law 2686 = .ok (.ireturn, 1) := by decide +kernel
theorem dL_law_2687 : decode cL_law 2687 = .ok (.iload 6, 2) := by decide +kernel
theorem dL_law_2689 : decode cL_law 2689 = .ok (.ifCond .ne 15, 3) := by decide +kernel
theorem dL_law_2692 : decode cL_law 2692 = .ok (.aload_n 3, 1) := by decide +kernel
theorem dL_law_2693 : decode cL_law 2693 = .ok (.iconst 0, 1) := by decide +kernel
theorem dL_law_2694 : decode cL_law 2694 = .ok (.laload, 1) := by decide +kernel
theorem dL_law_2695 : decode cL_law 2695 = .ok (.iload 7, 2) := by decide +kernel
theorem dL_law_2697 : decode cL_law 2697 = .ok (.i2l, 1) := by decide +kernel
theorem dL_law_2698 : decode cL_law 2698 = .ok (.lcmp, 1) := by decide +kernel
theorem dL_law_2699 : decode cL_law 2699 = .ok (.ifCond .eq 5, 3) := by decide +kernel
theorem dL_law_2702 : decode cL_law 2702 = .ok (.iconst 0, 1) := by decide +kernel
theorem dL_law_2703 : decode cL_law 2703 = .ok (.ireturn, 1) := by decide +kernel
theorem dL_law_2704 : decode cL_law 2704 = .ok (.goto 3, 3) := by decide +kernel
theorem dL_law_2707 : decode cL_law 2707 = .ok (.iinc 5 7, 3) := by decide +kernel
theorem dL_law_2710 : decode cL_law 2710 = .ok (.goto (-2682), 3) := by decide +kernel
theorem dL_law_2713 : decode cL_law 2713 = .ok (.iconst 1, 1) := by decide +kernel
theorem dL_law_2714 : decode cL_law 2714 = .ok (.ireturn, 1) := by decide +kernel
