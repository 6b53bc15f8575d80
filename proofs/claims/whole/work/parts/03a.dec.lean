theorem dX0_init_0 : decode cX0_init 0 = .ok (.aload_n 0, 1) := by decide +kernel
theorem dX0_init_1 : decode cX0_init 1 = .ok (.invokespecial 3, 3) := by decide +kernel
theorem dX0_init_4 : decode cX0_init 4 = .ok (.aload_n 0, 1) := by decide +kernel
theorem dX0_init_5 : decode cX0_init 5 = .ok (.bipush 30, 2) := by decide +kernel
theorem dX0_init_7 : decode cX0_init 7 = .ok (.newarray .int, 2) := by decide +kernel
theorem dX0_init_9 : decode cX0_init 9 = .ok (.putfield 11, 3) := by decide +kernel
theorem dX0_init_12 : decode cX0_init 12 = .ok (.aload_n 0, 1) := by decide +kernel
theorem dX0_init_13 : decode cX0_init 13 = .ok (.iconst (-1), 1) := by decide +kernel
theorem dX0_init_14 : decode cX0_init 14 = .ok (.putfield 17, 3) := by decide +kernel
theorem dX0_init_17 : decode cX0_init 17 = .ok (.return_, 1) := by decide +kernel
theorem dX0_size_0 : decode cX0_size 0 = .ok (.aload_n 0, 1) := by decide +kernel
theorem dX0_size_1 : decode cX0_size 1 = .ok (.getfield 21, 3) := by decide +kernel
theorem dX0_size_4 : decode cX0_size 4 = .ok (.ireturn, 1) := by decide +kernel
theorem dX0_has_0 : decode cX0_has 0 = .ok (.iload_n 1, 1) := by decide +kernel
theorem dX0_has_1 : decode cX0_has 1 = .ok (.ifCond .lt 15, 3) := by decide +kernel
theorem dX0_has_4 : decode cX0_has 4 = .ok (.iload_n 1, 1) := by decide +kernel
theorem dX0_has_5 : decode cX0_has 5 = .ok (.aload_n 0, 1) := by decide +kernel
theorem dX0_has_6 : decode cX0_has 6 = .ok (.getfield 21, 3) := by decide +kernel
theorem dX0_has_9 : decode cX0_has 9 = .ok (.if_icmp .ge 7, 3) := by decide +kernel
theorem dX0_has_12 : decode cX0_has 12 = .ok (.iconst 1, 1) := by decide +kernel
theorem dX0_has_13 : decode cX0_has 13 = .ok (.goto 4, 3) := by decide +kernel
theorem dX0_has_16 : decode cX0_has 16 = .ok (.iconst 0, 1) := by decide +kernel
theorem dX0_has_17 : decode cX0_has 17 = .ok (.ireturn, 1) := by decide +kernel
theorem dX0_bodyAt_0 : decode cX0_bodyAt 0 = .ok (.aload_n 0, 1) := by decide +kernel
theorem dX0_bodyAt_1 : decode cX0_bodyAt 1 = .ok (.iload_n 1, 1) := by decide +kernel
theorem dX0_bodyAt_2 : decode cX0_bodyAt 2 = .ok (.invokevirtual 24, 3) := by decide +kernel
theorem dX0_bodyAt_5 : decode cX0_bodyAt 5 = .ok (.ifCond .eq 18, 3) := by decide +kernel
theorem dX0_bodyAt_8 : decode cX0_bodyAt 8 = .ok (.iload_n 1, 1) := by decide +kernel
theorem dX0_bodyAt_9 : decode cX0_bodyAt 9 = .ok (.bipush 30, 2) := by decide +kernel
theorem dX0_bodyAt_11 : decode cX0_bodyAt 11 = .ok (.if_icmp .ge 12, 3) := by decide +kernel
theorem dX0_bodyAt_14 : decode cX0_bodyAt 14 = .ok (.aload_n 0, 1) := by decide +kernel
theorem dX0_bodyAt_15 : decode cX0_bodyAt 15 = .ok (.getfield 11, 3) := by decide +kernel
theorem dX0_bodyAt_18 : decode cX0_bodyAt 18 = .ok (.iload_n 1, 1) := by decide +kernel
theorem dX0_bodyAt_19 : decode cX0_bodyAt 19 = .ok (.iaload, 1) := by decide +kernel
theorem dX0_bodyAt_20 : decode cX0_bodyAt 20 = .ok (.goto 4, 3) := by decide +kernel
theorem dX0_bodyAt_23 : decode cX0_bodyAt 23 = .ok (.iconst 0, 1) := by decide +kernel
theorem dX0_bodyAt_24 : decode cX0_bodyAt 24 = .ok (.ireturn, 1) := by decide +kernel
theorem dX0_forget_0 : decode cX0_forget 0 = .ok (.aload_n 0, 1) := by decide +kernel
theorem dX0_forget_1 : decode cX0_forget 1 = .ok (.iconst 0, 1) := by decide +kernel
theorem dX0_forget_2 : decode cX0_forget 2 = .ok (.putfield 21, 3) := by decide +kernel
theorem dX0_forget_5 : decode cX0_forget 5 = .ok (.aload_n 0, 1) := by decide +kernel
theorem dX0_forget_6 : decode cX0_forget 6 = .ok (.iconst 0, 1) := by decide +kernel
theorem dX0_forget_7 : decode cX0_forget 7 = .ok (.putfield 28, 3) := by decide +kernel
theorem dX0_forget_10 : decode cX0_forget 10 = .ok (.return_, 1) := by decide +kernel
theorem dX0_takeThing_0 : decode cX0_takeThing 0 = .ok (.aload_n 0, 1) := by decide +kernel
theorem dX0_takeThing_1 : decode cX0_takeThing 1 = .ok (.iload_n 1, 1) := by decide +kernel
theorem dX0_takeThing_2 : decode cX0_takeThing 2 = .ok (.putfield 17, 3) := by decide +kernel
theorem dX0_takeThing_5 : decode cX0_takeThing 5 = .ok (.aload_n 0, 1) := by decide +kernel
theorem dX0_takeThing_6 : decode cX0_takeThing 6 = .ok (.iload_n 2, 1) := by decide +kernel
theorem dX0_takeThing_7 : decode cX0_takeThing 7 = .ok (.putfield 32, 3) := by decide +kernel
theorem dX0_takeThing_10 : decode cX0_takeThing 10 = .ok (.aload_n 0, 1) := by decide +kernel
theorem dX0_takeThing_11 : decode cX0_takeThing 11 = .ok (.iload_n 3, 1) := by decide +kernel
theorem dX0_takeThing_12 : decode cX0_takeThing 12 = .ok (.putfield 35, 3) := by decide +kernel
theorem dX0_takeThing_15 : decode cX0_takeThing 15 = .ok (.return_, 1) := by decide +kernel
theorem dX0_answer_0 : decode cX0_answer 0 = .ok (.aload_n 0, 1) := by decide +kernel
theorem dX0_answer_1 : decode cX0_answer 1 = .ok (.iload_n 1, 1) := by decide +kernel
theorem dX0_answer_2 : decode cX0_answer 2 = .ok (.iload_n 2, 1) := by decide +kernel
theorem dX0_answer_3 : decode cX0_answer 3 = .ok (.invokevirtual 38, 3) := by decide +kernel
theorem dX0_answer_6 : decode cX0_answer 6 = .ok (.istore_n 3, 1) := by decide +kernel
theorem dX0_answer_7 : decode cX0_answer 7 = .ok (.aload_n 0, 1) := by decide +kernel
theorem dX0_answer_8 : decode cX0_answer 8 = .ok (.getfield 28, 3) := by decide +kernel
theorem dX0_answer_11 : decode cX0_answer 11 = .ok (.ifCond .eq 8, 3) := by decide +kernel
theorem dX0_answer_14 : decode cX0_answer 14 = .ok (.bipush (-15), 2) := by decide +kernel
theorem dX0_answer_16 : decode cX0_answer 16 = .ok (.goto 4, 3) := by decide +kernel
theorem dX0_answer_19 : decode cX0_answer 19 = .ok (.iload_n 3, 1) := by decide +kernel
theorem dX0_answer_20 : decode cX0_answer 20 = .ok (.ireturn, 1) := by decide +kernel
theorem dX0_byAct_0 : decode cX0_byAct 0 = .ok (.iload_n 1, 1) := by decide +kernel
theorem dX0_byAct_1 : decode cX0_byAct 1 = .ok (.tableswitch 75 0 3 #[31, 42, 53, 64], 31) := by decide +kernel
theorem dX0_byAct_32 : decode cX0_byAct 32 = .ok (.aload_n 0, 1) := by decide +kernel
theorem dX0_byAct_33 : decode cX0_byAct 33 = .ok (.aload_n 0, 1) := by decide +kernel
theorem dX0_byAct_34 : decode cX0_byAct 34 = .ok (.getfield 17, 3) := by decide +kernel
theorem dX0_byAct_37 : decode cX0_byAct 37 = .ok (.iload_n 2, 1) := by decide +kernel
theorem dX0_byAct_38 : decode cX0_byAct 38 = .ok (.iconst 0, 1) := by decide +kernel
theorem dX0_byAct_39 : decode cX0_byAct 39 = .ok (.invokevirtual 42, 3) := by decide +kernel
theorem dX0_byAct_42 : decode cX0_byAct 42 = .ok (.ireturn, 1) := by decide +kernel
theorem dX0_byAct_43 : decode cX0_byAct 43 = .ok (.aload_n 0, 1) := by decide +kernel
theorem dX0_byAct_44 : decode cX0_byAct 44 = .ok (.aload_n 0, 1) := by decide +kernel
theorem dX0_byAct_45 : decode cX0_byAct 45 = .ok (.getfield 17, 3) := by decide +kernel
theorem dX0_byAct_48 : decode cX0_byAct 48 = .ok (.iload_n 2, 1) := by decide +kernel
theorem dX0_byAct_49 : decode cX0_byAct 49 = .ok (.iconst 0, 1) := by decide +kernel
theorem dX0_byAct_50 : decode cX0_byAct 50 = .ok (.invokevirtual 46, 3) := by decide +kernel
theorem dX0_byAct_53 : decode cX0_byAct 53 = .ok (.ireturn, 1) := by decide +kernel
theorem dX0_byAct_54 : decode cX0_byAct 54 = .ok (.aload_n 0, 1) := by decide +kernel
theorem dX0_byAct_55 : decode cX0_byAct 55 = .ok (.aload_n 0, 1) := by decide +kernel
theorem dX0_byAct_56 : decode cX0_byAct 56 = .ok (.getfield 17, 3) := by decide +kernel
theorem dX0_byAct_59 : decode cX0_byAct 59 = .ok (.iload_n 2, 1) := by decide +kernel
theorem dX0_byAct_60 : decode cX0_byAct 60 = .ok (.iconst 0, 1) := by decide +kernel
theorem dX0_byAct_61 : decode cX0_byAct 61 = .ok (.invokevirtual 49, 3) := by decide +kernel
theorem dX0_byAct_64 : decode cX0_byAct 64 = .ok (.ireturn, 1) := by decide +kernel
theorem dX0_byAct_65 : decode cX0_byAct 65 = .ok (.aload_n 0, 1) := by decide +kernel
theorem dX0_byAct_66 : decode cX0_byAct 66 = .ok (.aload_n 0, 1) := by decide +kernel
theorem dX0_byAct_67 : decode cX0_byAct 67 = .ok (.getfield 17, 3) := by decide +kernel
theorem dX0_byAct_70 : decode cX0_byAct 70 = .ok (.iload_n 2, 1) := by decide +kernel
theorem dX0_byAct_71 : decode cX0_byAct 71 = .ok (.iconst 0, 1) := by decide +kernel
theorem dX0_byAct_72 : decode cX0_byAct 72 = .ok (.invokevirtual 52, 3) := by decide +kernel
theorem dX0_byAct_75 : decode cX0_byAct 75 = .ok (.ireturn, 1) := by decide +kernel
theorem dX0_byAct_76 : decode cX0_byAct 76 = .ok (.iconst 0, 1) := by decide +kernel
theorem dX0_byAct_77 : decode cX0_byAct 77 = .ok (.ireturn, 1) := by decide +kernel
theorem dX0_beginBody_0 : decode cX0_beginBody 0 = .ok (.aload_n 0, 1) := by decide +kernel
theorem dX0_beginBody_1 : decode cX0_beginBody 1 = .ok (.getfield 21, 3) := by decide +kernel
theorem dX0_beginBody_4 : decode cX0_beginBody 4 = .ok (.ifCond .lt 32, 3) := by decide +kernel
theorem dX0_beginBody_7 : decode cX0_beginBody 7 = .ok (.aload_n 0, 1) := by decide +kernel
theorem dX0_beginBody_8 : decode cX0_beginBody 8 = .ok (.getfield 21, 3) := by decide +kernel
theorem dX0_beginBody_11 : decode cX0_beginBody 11 = .ok (.bipush 30, 2) := by decide +kernel
theorem dX0_beginBody_13 : decode cX0_beginBody 13 = .ok (.if_icmp .ge 23, 3) := by decide +kernel
theorem dX0_beginBody_16 : decode cX0_beginBody 16 = .ok (.aload_n 0, 1) := by decide +kernel
theorem dX0_beginBody_17 : decode cX0_beginBody 17 = .ok (.getfield 11, 3) := by decide +kernel
theorem dX0_beginBody_20 : decode cX0_beginBody 20 = .ok (.aload_n 0, 1) := by decide +kernel
theorem dX0_beginBody_21 : decode cX0_beginBody 21 = .ok (.getfield 21, 3) := by decide +kernel
theorem dX0_beginBody_24 : decode cX0_beginBody 24 = .ok (.iload_n 1, 1) := by decide +kernel
theorem dX0_beginBody_25 : decode cX0_beginBody 25 = .ok (.iastore, 1) := by decide +kernel
theorem dX0_beginBody_26 : decode cX0_beginBody 26 = .ok (.aload_n 0, 1) := by decide +kernel
theorem dX0_beginBody_27 : decode cX0_beginBody 27 = .ok (.dup, 1) := by decide +kernel
theorem dX0_beginBody_28 : decode cX0_beginBody 28 = .ok (.getfield 21, 3) := by decide +kernel
theorem dX0_beginBody_31 : decode cX0_beginBody 31 = .ok (.iconst 1, 1) := by decide +kernel
theorem dX0_beginBody_32 : decode cX0_beginBody 32 = .ok (.iadd, 1) := by decide +kernel
theorem dX0_beginBody_33 : decode cX0_beginBody 33 = .ok (.putfield 21, 3) := by decide +kernel
theorem dX0_beginBody_36 : decode cX0_beginBody 36 = .ok (.return_, 1) := by decide +kernel
theorem dX0_grows_0 : decode cX0_grows 0 = .ok (.iload_n 3, 1) := by decide +kernel
theorem dX0_grows_1 : decode cX0_grows 1 = .ok (.bipush 20, 2) := by decide +kernel
theorem dX0_grows_3 : decode cX0_grows 3 = .ok (.if_icmp .le 5, 3) := by decide +kernel
theorem dX0_grows_6 : decode cX0_grows 6 = .ok (.iconst 0, 1) := by decide +kernel
theorem dX0_grows_7 : decode cX0_grows 7 = .ok (.ireturn, 1) := by decide +kernel
theorem dX0_grows_8 : decode cX0_grows 8 = .ok (.iload_n 1, 1) := by decide +kernel
theorem dX0_grows_9 : decode cX0_grows 9 = .ok (.tableswitch 140 0 7 #[47, 140, 60, 81, 140, 140, 105, 127], 47) := by decide +kernel
theorem dX0_grows_56 : decode cX0_grows 56 = .ok (.aload_n 0, 1) := by decide +kernel
theorem dX0_grows_57 : decode cX0_grows 57 = .ok (.bipush 10, 2) := by decide +kernel
theorem dX0_grows_59 : decode cX0_grows 59 = .ok (.invokevirtual 55, 3) := by decide +kernel
theorem dX0_grows_62 : decode cX0_grows 62 = .ok (.iload_n 2, 1) := by decide +kernel
theorem dX0_grows_63 : decode cX0_grows 63 = .ok (.aload_n 0, 1) := by decide +kernel
theorem dX0_grows_64 : decode cX0_grows 64 = .ok (.getfield 35, 3) := by decide +kernel
theorem dX0_grows_67 : decode cX0_grows 67 = .ok (.iadd, 1) := by decide +kernel
theorem dX0_grows_68 : decode cX0_grows 68 = .ok (.ireturn, 1) := by decide +kernel
theorem dX0_grows_69 : decode cX0_grows 69 = .ok (.aload_n 0, 1) := by decide +kernel
theorem dX0_grows_70 : decode cX0_grows 70 = .ok (.bipush 30, 2) := by decide +kernel
theorem dX0_grows_72 : decode cX0_grows 72 = .ok (.invokevirtual 55, 3) := by decide +kernel
theorem dX0_grows_75 : decode cX0_grows 75 = .ok (.aload_n 0, 1) := by decide +kernel
theorem dX0_grows_76 : decode cX0_grows 76 = .ok (.iload_n 1, 1) := by decide +kernel
theorem dX0_grows_77 : decode cX0_grows 77 = .ok (.invokestatic 59, 3) := by decide +kernel
theorem dX0_grows_80 : decode cX0_grows 80 = .ok (.iload_n 2, 1) := by decide +kernel
theorem dX0_grows_81 : decode cX0_grows 81 = .ok (.iload_n 3, 1) := by decide +kernel
theorem dX0_grows_82 : decode cX0_grows 82 = .ok (.iconst 1, 1) := by decide +kernel
theorem dX0_grows_83 : decode cX0_grows 83 = .ok (.iadd, 1) := by decide +kernel
theorem dX0_grows_84 : decode cX0_grows 84 = .ok (.invokevirtual 42, 3) := by decide +kernel
theorem dX0_grows_87 : decode cX0_grows 87 = .ok (.iconst 5, 1) := by decide +kernel
theorem dX0_grows_88 : decode cX0_grows 88 = .ok (.imul, 1) := by decide +kernel
theorem dX0_grows_89 : decode cX0_grows 89 = .ok (.ireturn, 1) := by decide +kernel
theorem dX0_grows_90 : decode cX0_grows 90 = .ok (.aload_n 0, 1) := by decide +kernel
theorem dX0_grows_91 : decode cX0_grows 91 = .ok (.bipush 40, 2) := by decide +kernel
theorem dX0_grows_93 : decode cX0_grows 93 = .ok (.invokevirtual 55, 3) := by decide +kernel
theorem dX0_grows_96 : decode cX0_grows 96 = .ok (.aload_n 0, 1) := by decide +kernel
theorem dX0_grows_97 : decode cX0_grows 97 = .ok (.iload_n 1, 1) := by decide +kernel
theorem dX0_grows_98 : decode cX0_grows 98 = .ok (.invokestatic 59, 3) := by decide +kernel
theorem dX0_grows_101 : decode cX0_grows 101 = .ok (.iload_n 2, 1) := by decide +kernel
theorem dX0_grows_102 : decode cX0_grows 102 = .ok (.iload_n 3, 1) := by decide +kernel
theorem dX0_grows_103 : decode cX0_grows 103 = .ok (.iconst 1, 1) := by decide +kernel
theorem dX0_grows_104 : decode cX0_grows 104 = .ok (.iadd, 1) := by decide +kernel
theorem dX0_grows_105 : decode cX0_grows 105 = .ok (.invokevirtual 42, 3) := by decide +kernel
theorem dX0_grows_108 : decode cX0_grows 108 = .ok (.aload_n 0, 1) := by decide +kernel
theorem dX0_grows_109 : decode cX0_grows 109 = .ok (.getfield 35, 3) := by decide +kernel
theorem dX0_grows_112 : decode cX0_grows 112 = .ok (.ixor, 1) := by decide +kernel
theorem dX0_grows_113 : decode cX0_grows 113 = .ok (.ireturn, 1) := by decide +kernel
theorem dX0_grows_114 : decode cX0_grows 114 = .ok (.aload_n 0, 1) := by decide +kernel
theorem dX0_grows_115 : decode cX0_grows 115 = .ok (.bipush 70, 2) := by decide +kernel
theorem dX0_grows_117 : decode cX0_grows 117 = .ok (.invokevirtual 55, 3) := by decide +kernel
theorem dX0_grows_120 : decode cX0_grows 120 = .ok (.aload_n 0, 1) := by decide +kernel
theorem dX0_grows_121 : decode cX0_grows 121 = .ok (.iload_n 1, 1) := by decide +kernel
theorem dX0_grows_122 : decode cX0_grows 122 = .ok (.invokestatic 59, 3) := by decide +kernel
theorem dX0_grows_125 : decode cX0_grows 125 = .ok (.iload_n 2, 1) := by decide +kernel
theorem dX0_grows_126 : decode cX0_grows 126 = .ok (.iload_n 3, 1) := by decide +kernel
theorem dX0_grows_127 : decode cX0_grows 127 = .ok (.iconst 1, 1) := by decide +kernel
theorem dX0_grows_128 : decode cX0_grows 128 = .ok (.iadd, 1) := by decide +kernel
theorem dX0_grows_129 : decode cX0_grows 129 = .ok (.invokevirtual 42, 3) := by decide +kernel
theorem dX0_grows_132 : decode cX0_grows 132 = .ok (.bipush 6, 2) := by decide +kernel
theorem dX0_grows_134 : decode cX0_grows 134 = .ok (.isub, 1) := by decide +kernel
theorem dX0_grows_135 : decode cX0_grows 135 = .ok (.ireturn, 1) := by decide +kernel
theorem dX0_grows_136 : decode cX0_grows 136 = .ok (.aload_n 0, 1) := by decide +kernel
theorem dX0_grows_137 : decode cX0_grows 137 = .ok (.bipush 80, 2) := by decide +kernel
theorem dX0_grows_139 : decode cX0_grows 139 = .ok (.invokevirtual 55, 3) := by decide +kernel
theorem dX0_grows_142 : decode cX0_grows 142 = .ok (.aload_n 0, 1) := by decide +kernel
theorem dX0_grows_143 : decode cX0_grows 143 = .ok (.getfield 35, 3) := by decide +kernel
theorem dX0_grows_146 : decode cX0_grows 146 = .ok (.iload_n 2, 1) := by decide +kernel
theorem dX0_grows_147 : decode cX0_grows 147 = .ok (.isub, 1) := by decide +kernel
theorem dX0_grows_148 : decode cX0_grows 148 = .ok (.ireturn, 1) := by decide +kernel
theorem dX0_grows_149 : decode cX0_grows 149 = .ok (.aload_n 0, 1) := by decide +kernel
theorem dX0_grows_150 : decode cX0_grows 150 = .ok (.iload_n 1, 1) := by decide +kernel
theorem dX0_grows_151 : decode cX0_grows 151 = .ok (.invokestatic 59, 3) := by decide +kernel
theorem dX0_grows_154 : decode cX0_grows 154 = .ok (.iload_n 2, 1) := by decide +kernel
theorem dX0_grows_155 : decode cX0_grows 155 = .ok (.iload_n 3, 1) := by decide +kernel
theorem dX0_grows_156 : decode cX0_grows 156 = .ok (.iconst 1, 1) := by decide +kernel
theorem dX0_grows_157 : decode cX0_grows 157 = .ok (.iadd, 1) := by decide +kernel
theorem dX0_grows_158 : decode cX0_grows 158 = .ok (.invokevirtual 42, 3) := by decide +kernel
theorem dX0_grows_161 : decode cX0_grows 161 = .ok (.ireturn, 1) := by decide +kernel
theorem dX0_swings_0 : decode cX0_swings 0 = .ok (.iload_n 3, 1) := by decide +kernel
theorem dX0_swings_1 : decode cX0_swings 1 = .ok (.bipush 20, 2) := by decide +kernel
theorem dX0_swings_3 : decode cX0_swings 3 = .ok (.if_icmp .le 5, 3) := by decide +kernel
theorem dX0_swings_6 : decode cX0_swings 6 = .ok (.iconst 0, 1) := by decide +kernel
theorem dX0_swings_7 : decode cX0_swings 7 = .ok (.ireturn, 1) := by decide +kernel
theorem dX0_swings_8 : decode cX0_swings 8 = .ok (.iload_n 1, 1) := by decide +kernel
theorem dX0_swings_9 : decode cX0_swings 9 = .ok (.tableswitch 134 0 7 #[47, 68, 134, 134, 89, 134, 134, 110], 47) := by decide +kernel
theorem dX0_swings_56 : decode cX0_swings 56 = .ok (.aload_n 0, 1) := by decide +kernel
theorem dX0_swings_57 : decode cX0_swings 57 = .ok (.bipush 11, 2) := by decide +kernel
theorem dX0_swings_59 : decode cX0_swings 59 = .ok (.invokevirtual 55, 3) := by decide +kernel
theorem dX0_swings_62 : decode cX0_swings 62 = .ok (.aload_n 0, 1) := by decide +kernel
theorem dX0_swings_63 : decode cX0_swings 63 = .ok (.aload_n 0, 1) := by decide +kernel
theorem dX0_swings_64 : decode cX0_swings 64 = .ok (.getfield 17, 3) := by decide +kernel
theorem dX0_swings_67 : decode cX0_swings 67 = .ok (.iload_n 2, 1) := by decide +kernel
theorem dX0_swings_68 : decode cX0_swings 68 = .ok (.iload_n 3, 1) := by decide +kernel
theorem dX0_swings_69 : decode cX0_swings 69 = .ok (.iconst 1, 1) := by decide +kernel
theorem dX0_swings_70 : decode cX0_swings 70 = .ok (.iadd, 1) := by decide +kernel
theorem dX0_swings_71 : decode cX0_swings 71 = .ok (.invokevirtual 42, 3) := by decide +kernel
theorem dX0_swings_74 : decode cX0_swings 74 = .ok (.iconst 2, 1) := by decide +kernel
theorem dX0_swings_75 : decode cX0_swings 75 = .ok (.imul, 1) := by decide +kernel
theorem dX0_swings_76 : decode cX0_swings 76 = .ok (.ireturn, 1) := by decide +kernel
theorem dX0_swings_77 : decode cX0_swings 77 = .ok (.aload_n 0, 1) := by decide +kernel
theorem dX0_swings_78 : decode cX0_swings 78 = .ok (.bipush 20, 2) := by decide +kernel
theorem dX0_swings_80 : decode cX0_swings 80 = .ok (.invokevirtual 55, 3) := by decide +kernel
theorem dX0_swings_83 : decode cX0_swings 83 = .ok (.aload_n 0, 1) := by decide +kernel
theorem dX0_swings_84 : decode cX0_swings 84 = .ok (.iload_n 1, 1) := by decide +kernel
theorem dX0_swings_85 : decode cX0_swings 85 = .ok (.invokestatic 59, 3) := by decide +kernel
theorem dX0_swings_88 : decode cX0_swings 88 = .ok (.iload_n 2, 1) := by decide +kernel
theorem dX0_swings_89 : decode cX0_swings 89 = .ok (.iload_n 3, 1) := by decide +kernel
theorem dX0_swings_90 : decode cX0_swings 90 = .ok (.iconst 1, 1) := by decide +kernel
theorem dX0_swings_91 : decode cX0_swings 91 = .ok (.iadd, 1) := by decide +kernel
theorem dX0_swings_92 : decode cX0_swings 92 = .ok (.invokevirtual 46, 3) := by decide +kernel
theorem dX0_swings_95 : decode cX0_swings 95 = .ok (.iconst 3, 1) := by decide +kernel
theorem dX0_swings_96 : decode cX0_swings 96 = .ok (.isub, 1) := by decide +kernel
theorem dX0_swings_97 : decode cX0_swings 97 = .ok (.ireturn, 1) := by decide +kernel
theorem dX0_swings_98 : decode cX0_swings 98 = .ok (.aload_n 0, 1) := by decide +kernel
theorem dX0_swings_99 : decode cX0_swings 99 = .ok (.bipush 50, 2) := by decide +kernel
theorem dX0_swings_101 : decode cX0_swings 101 = .ok (.invokevirtual 55, 3) := by decide +kernel
theorem dX0_swings_104 : decode cX0_swings 104 = .ok (.iconst 0, 1) := by decide +kernel
theorem dX0_swings_105 : decode cX0_swings 105 = .ok (.aload_n 0, 1) := by decide +kernel
theorem dX0_swings_106 : decode cX0_swings 106 = .ok (.iload_n 1, 1) := by decide +kernel
theorem dX0_swings_107 : decode cX0_swings 107 = .ok (.invokestatic 59, 3) := by decide +kernel
theorem dX0_swings_110 : decode cX0_swings 110 = .ok (.iload_n 2, 1) := by decide +kernel
theorem dX0_swings_111 : decode cX0_swings 111 = .ok (.iload_n 3, 1) := by decide +kernel
theorem dX0_swings_112 : decode cX0_swings 112 = .ok (.iconst 1, 1) := by decide +kernel
theorem dX0_swings_113 : decode cX0_swings 113 = .ok (.iadd, 1) := by decide +kernel
theorem dX0_swings_114 : decode cX0_swings 114 = .ok (.invokevirtual 46, 3) := by decide +kernel
theorem dX0_swings_117 : decode cX0_swings 117 = .ok (.isub, 1) := by decide +kernel
theorem dX0_swings_118 : decode cX0_swings 118 = .ok (.ireturn, 1) := by decide +kernel
theorem dX0_swings_119 : decode cX0_swings 119 = .ok (.aload_n 0, 1) := by decide +kernel
theorem dX0_swings_120 : decode cX0_swings 120 = .ok (.bipush 81, 2) := by decide +kernel
theorem dX0_swings_122 : decode cX0_swings 122 = .ok (.invokevirtual 55, 3) := by decide +kernel
theorem dX0_swings_125 : decode cX0_swings 125 = .ok (.aload_n 0, 1) := by decide +kernel
theorem dX0_swings_126 : decode cX0_swings 126 = .ok (.aload_n 0, 1) := by decide +kernel
theorem dX0_swings_127 : decode cX0_swings 127 = .ok (.getfield 17, 3) := by decide +kernel
theorem dX0_swings_130 : decode cX0_swings 130 = .ok (.iload_n 2, 1) := by decide +kernel
theorem dX0_swings_131 : decode cX0_swings 131 = .ok (.iload_n 3, 1) := by decide +kernel
theorem dX0_swings_132 : decode cX0_swings 132 = .ok (.iconst 1, 1) := by decide +kernel
theorem dX0_swings_133 : decode cX0_swings 133 = .ok (.iadd, 1) := by decide +kernel
theorem dX0_swings_134 : decode cX0_swings 134 = .ok (.invokevirtual 42, 3) := by decide +kernel
theorem dX0_swings_137 : decode cX0_swings 137 = .ok (.aload_n 0, 1) := by decide +kernel
theorem dX0_swings_138 : decode cX0_swings 138 = .ok (.getfield 32, 3) := by decide +kernel
theorem dX0_swings_141 : decode cX0_swings 141 = .ok (.imul, 1) := by decide +kernel
theorem dX0_swings_142 : decode cX0_swings 142 = .ok (.ireturn, 1) := by decide +kernel
theorem dX0_swings_143 : decode cX0_swings 143 = .ok (.aload_n 0, 1) := by decide +kernel
theorem dX0_swings_144 : decode cX0_swings 144 = .ok (.iload_n 1, 1) := by decide +kernel
theorem dX0_swings_145 : decode cX0_swings 145 = .ok (.invokestatic 59, 3) := by decide +kernel
theorem dX0_swings_148 : decode cX0_swings 148 = .ok (.iload_n 2, 1) := by decide +kernel
theorem dX0_swings_149 : decode cX0_swings 149 = .ok (.iload_n 3, 1) := by decide +kernel
theorem dX0_swings_150 : decode cX0_swings 150 = .ok (.iconst 1, 1) := by decide +kernel
theorem dX0_swings_151 : decode cX0_swings 151 = .ok (.iadd, 1) := by decide +kernel
theorem dX0_swings_152 : decode cX0_swings 152 = .ok (.invokevirtual 46, 3) := by decide +kernel
theorem dX0_swings_155 : decode cX0_swings 155 = .ok (.ireturn, 1) := by decide +kernel
theorem dX0_parts_0 : decode cX0_parts 0 = .ok (.iload_n 3, 1) := by decide +kernel
theorem dX0_parts_1 : decode cX0_parts 1 = .ok (.bipush 20, 2) := by decide +kernel
theorem dX0_parts_3 : decode cX0_parts 3 = .ok (.if_icmp .le 5, 3) := by decide +kernel
theorem dX0_parts_6 : decode cX0_parts 6 = .ok (.iconst 0, 1) := by decide +kernel
theorem dX0_parts_7 : decode cX0_parts 7 = .ok (.ireturn, 1) := by decide +kernel
theorem dX0_parts_8 : decode cX0_parts 8 = .ok (.iload_n 1, 1) := by decide +kernel
theorem dX0_parts_9 : decode cX0_parts 9 = .ok (.tableswitch 144 0 7 #[47, 144, 144, 68, 144, 89, 110, 131], 47) := by decide +kernel
theorem dX0_parts_56 : decode cX0_parts 56 = .ok (.aload_n 0, 1) := by decide +kernel
theorem dX0_parts_57 : decode cX0_parts 57 = .ok (.bipush 12, 2) := by decide +kernel
theorem dX0_parts_59 : decode cX0_parts 59 = .ok (.invokevirtual 55, 3) := by decide +kernel
theorem dX0_parts_62 : decode cX0_parts 62 = .ok (.aload_n 0, 1) := by decide +kernel
theorem dX0_parts_63 : decode cX0_parts 63 = .ok (.aload_n 0, 1) := by decide +kernel
theorem dX0_parts_64 : decode cX0_parts 64 = .ok (.getfield 35, 3) := by decide +kernel
theorem dX0_parts_67 : decode cX0_parts 67 = .ok (.aload_n 0, 1) := by decide +kernel
theorem dX0_parts_68 : decode cX0_parts 68 = .ok (.getfield 32, 3) := by decide +kernel
theorem dX0_parts_71 : decode cX0_parts 71 = .ok (.isub, 1) := by decide +kernel
theorem dX0_parts_72 : decode cX0_parts 72 = .ok (.iload_n 2, 1) := by decide +kernel
theorem dX0_parts_73 : decode cX0_parts 73 = .ok (.invokevirtual 63, 3) := by decide +kernel
theorem dX0_parts_76 : decode cX0_parts 76 = .ok (.ireturn, 1) := by decide +kernel
theorem dX0_parts_77 : decode cX0_parts 77 = .ok (.aload_n 0, 1) := by decide +kernel
theorem dX0_parts_78 : decode cX0_parts 78 = .ok (.bipush 41, 2) := by decide +kernel
theorem dX0_parts_80 : decode cX0_parts 80 = .ok (.invokevirtual 55, 3) := by decide +kernel
theorem dX0_parts_83 : decode cX0_parts 83 = .ok (.aload_n 0, 1) := by decide +kernel
theorem dX0_parts_84 : decode cX0_parts 84 = .ok (.iload_n 1, 1) := by decide +kernel
theorem dX0_parts_85 : decode cX0_parts 85 = .ok (.invokestatic 59, 3) := by decide +kernel
theorem dX0_parts_88 : decode cX0_parts 88 = .ok (.iload_n 2, 1) := by decide +kernel
theorem dX0_parts_89 : decode cX0_parts 89 = .ok (.iconst 1, 1) := by decide +kernel
theorem dX0_parts_90 : decode cX0_parts 90 = .ok (.iadd, 1) := by decide +kernel
theorem dX0_parts_91 : decode cX0_parts 91 = .ok (.iload_n 3, 1) := by decide +kernel
theorem dX0_parts_92 : decode cX0_parts 92 = .ok (.iconst 1, 1) := by decide +kernel
theorem dX0_parts_93 : decode cX0_parts 93 = .ok (.iadd, 1) := by decide +kernel
theorem dX0_parts_94 : decode cX0_parts 94 = .ok (.invokevirtual 49, 3) := by decide +kernel
theorem dX0_parts_97 : decode cX0_parts 97 = .ok (.ireturn, 1) := by decide +kernel
theorem dX0_parts_98 : decode cX0_parts 98 = .ok (.aload_n 0, 1) := by decide +kernel
theorem dX0_parts_99 : decode cX0_parts 99 = .ok (.bipush 61, 2) := by decide +kernel
theorem dX0_parts_101 : decode cX0_parts 101 = .ok (.invokevirtual 55, 3) := by decide +kernel
theorem dX0_parts_104 : decode cX0_parts 104 = .ok (.aload_n 0, 1) := by decide +kernel
theorem dX0_parts_105 : decode cX0_parts 105 = .ok (.iload_n 1, 1) := by decide +kernel
theorem dX0_parts_106 : decode cX0_parts 106 = .ok (.invokestatic 59, 3) := by decide +kernel
theorem dX0_parts_109 : decode cX0_parts 109 = .ok (.iload_n 2, 1) := by decide +kernel
theorem dX0_parts_110 : decode cX0_parts 110 = .ok (.iconst 1, 1) := by decide +kernel
theorem dX0_parts_111 : decode cX0_parts 111 = .ok (.isub, 1) := by decide +kernel
theorem dX0_parts_112 : decode cX0_parts 112 = .ok (.iload_n 3, 1) := by decide +kernel
theorem dX0_parts_113 : decode cX0_parts 113 = .ok (.iconst 1, 1) := by decide +kernel
theorem dX0_parts_114 : decode cX0_parts 114 = .ok (.iadd, 1) := by decide +kernel
theorem dX0_parts_115 : decode cX0_parts 115 = .ok (.invokevirtual 49, 3) := by decide +kernel
theorem dX0_parts_118 : decode cX0_parts 118 = .ok (.ireturn, 1) := by decide +kernel
theorem dX0_parts_119 : decode cX0_parts 119 = .ok (.aload_n 0, 1) := by decide +kernel
theorem dX0_parts_120 : decode cX0_parts 120 = .ok (.bipush 71, 2) := by decide +kernel
theorem dX0_parts_122 : decode cX0_parts 122 = .ok (.invokevirtual 55, 3) := by decide +kernel
theorem dX0_parts_125 : decode cX0_parts 125 = .ok (.aload_n 0, 1) := by decide +kernel
theorem dX0_parts_126 : decode cX0_parts 126 = .ok (.iload_n 1, 1) := by decide +kernel
theorem dX0_parts_127 : decode cX0_parts 127 = .ok (.invokestatic 59, 3) := by decide +kernel
theorem dX0_parts_130 : decode cX0_parts 130 = .ok (.iload_n 2, 1) := by decide +kernel
theorem dX0_parts_131 : decode cX0_parts 131 = .ok (.iload_n 3, 1) := by decide +kernel
theorem dX0_parts_132 : decode cX0_parts 132 = .ok (.iconst 1, 1) := by decide +kernel
theorem dX0_parts_133 : decode cX0_parts 133 = .ok (.iadd, 1) := by decide +kernel
theorem dX0_parts_134 : decode cX0_parts 134 = .ok (.invokevirtual 49, 3) := by decide +kernel
theorem dX0_parts_137 : decode cX0_parts 137 = .ok (.iconst 1, 1) := by decide +kernel
theorem dX0_parts_138 : decode cX0_parts 138 = .ok (.ixor, 1) := by decide +kernel
theorem dX0_parts_139 : decode cX0_parts 139 = .ok (.ireturn, 1) := by decide +kernel
theorem dX0_parts_140 : decode cX0_parts 140 = .ok (.aload_n 0, 1) := by decide +kernel
theorem dX0_parts_141 : decode cX0_parts 141 = .ok (.bipush 82, 2) := by decide +kernel
theorem dX0_parts_143 : decode cX0_parts 143 = .ok (.invokevirtual 55, 3) := by decide +kernel
theorem dX0_parts_146 : decode cX0_parts 146 = .ok (.iload_n 2, 1) := by decide +kernel
theorem dX0_parts_147 : decode cX0_parts 147 = .ok (.aload_n 0, 1) := by decide +kernel
theorem dX0_parts_148 : decode cX0_parts 148 = .ok (.getfield 35, 3) := by decide +kernel
theorem dX0_parts_151 : decode cX0_parts 151 = .ok (.iand, 1) := by decide +kernel
theorem dX0_parts_152 : decode cX0_parts 152 = .ok (.ireturn, 1) := by decide +kernel
theorem dX0_parts_153 : decode cX0_parts 153 = .ok (.aload_n 0, 1) := by decide +kernel
theorem dX0_parts_154 : decode cX0_parts 154 = .ok (.iload_n 1, 1) := by decide +kernel
theorem dX0_parts_155 : decode cX0_parts 155 = .ok (.invokestatic 59, 3) := by decide +kernel
theorem dX0_parts_158 : decode cX0_parts 158 = .ok (.iload_n 2, 1) := by decide +kernel
theorem dX0_parts_159 : decode cX0_parts 159 = .ok (.iload_n 3, 1) := by decide +kernel
theorem dX0_parts_160 : decode cX0_parts 160 = .ok (.iconst 1, 1) := by decide +kernel
theorem dX0_parts_161 : decode cX0_parts 161 = .ok (.iadd, 1) := by decide +kernel
theorem dX0_parts_162 : decode cX0_parts 162 = .ok (.invokevirtual 49, 3) := by decide +kernel
theorem dX0_parts_165 : decode cX0_parts 165 = .ok (.ireturn, 1) := by decide +kernel
theorem dX0_partedBy_0 : decode cX0_partedBy 0 = .ok (.iload_n 1, 1) := by decide +kernel
theorem dX0_partedBy_1 : decode cX0_partedBy 1 = .ok (.ifCond .ne 10, 3) := by decide +kernel
theorem dX0_partedBy_4 : decode cX0_partedBy 4 = .ok (.aload_n 0, 1) := by decide +kernel
theorem dX0_partedBy_5 : decode cX0_partedBy 5 = .ok (.iconst 1, 1) := by decide +kernel
theorem dX0_partedBy_6 : decode cX0_partedBy 6 = .ok (.putfield 28, 3) := by decide +kernel
theorem dX0_partedBy_9 : decode cX0_partedBy 9 = .ok (.iconst 0, 1) := by decide +kernel
theorem dX0_partedBy_10 : decode cX0_partedBy 10 = .ok (.ireturn, 1) := by decide +kernel
theorem dX0_partedBy_11 : decode cX0_partedBy 11 = .ok (.iload_n 2, 1) := by decide +kernel
theorem dX0_partedBy_12 : decode cX0_partedBy 12 = .ok (.iload_n 1, 1) := by decide +kernel
theorem dX0_partedBy_13 : decode cX0_partedBy 13 = .ok (.idiv, 1) := by decide +kernel
theorem dX0_partedBy_14 : decode cX0_partedBy 14 = .ok (.ireturn, 1) := by decide +kernel
theorem dX0_tells_0 : decode cX0_tells 0 = .ok (.iload_n 3, 1) := by decide +kernel
theorem dX0_tells_1 : decode cX0_tells 1 = .ok (.bipush 20, 2) := by decide +kernel
theorem dX0_tells_3 : decode cX0_tells 3 = .ok (.if_icmp .le 5, 3) := by decide +kernel
theorem dX0_tells_6 : decode cX0_tells 6 = .ok (.iconst 0, 1) := by decide +kernel
theorem dX0_tells_7 : decode cX0_tells 7 = .ok (.ireturn, 1) := by decide +kernel
theorem dX0_tells_8 : decode cX0_tells 8 = .ok (.iload_n 1, 1) := by decide +kernel
theorem dX0_tells_9 : decode cX0_tells 9 = .ok (.tableswitch 170 0 7 #[47, 170, 71, 170, 170, 110, 170, 131], 47) := by decide +kernel
theorem dX0_tells_56 : decode cX0_tells 56 = .ok (.aload_n 0, 1) := by decide +kernel
theorem dX0_tells_57 : decode cX0_tells 57 = .ok (.bipush 13, 2) := by decide +kernel
theorem dX0_tells_59 : decode cX0_tells 59 = .ok (.invokevirtual 55, 3) := by decide +kernel
theorem dX0_tells_62 : decode cX0_tells 62 = .ok (.aload_n 0, 1) := by decide +kernel
theorem dX0_tells_63 : decode cX0_tells 63 = .ok (.aload_n 0, 1) := by decide +kernel
theorem dX0_tells_64 : decode cX0_tells 64 = .ok (.getfield 17, 3) := by decide +kernel
theorem dX0_tells_67 : decode cX0_tells 67 = .ok (.iload_n 2, 1) := by decide +kernel
theorem dX0_tells_68 : decode cX0_tells 68 = .ok (.iload_n 3, 1) := by decide +kernel
theorem dX0_tells_69 : decode cX0_tells 69 = .ok (.iconst 1, 1) := by decide +kernel
theorem dX0_tells_70 : decode cX0_tells 70 = .ok (.iadd, 1) := by decide +kernel
theorem dX0_tells_71 : decode cX0_tells 71 = .ok (.invokevirtual 46, 3) := by decide +kernel
theorem dX0_tells_74 : decode cX0_tells 74 = .ok (.aload_n 0, 1) := by decide +kernel
theorem dX0_tells_75 : decode cX0_tells 75 = .ok (.getfield 32, 3) := by decide +kernel
theorem dX0_tells_78 : decode cX0_tells 78 = .ok (.ixor, 1) := by decide +kernel
theorem dX0_tells_79 : decode cX0_tells 79 = .ok (.ireturn, 1) := by decide +kernel
theorem dX0_tells_80 : decode cX0_tells 80 = .ok (.aload_n 0, 1) := by decide +kernel
theorem dX0_tells_81 : decode cX0_tells 81 = .ok (.bipush 31, 2) := by decide +kernel
theorem dX0_tells_83 : decode cX0_tells 83 = .ok (.invokevirtual 55, 3) := by decide +kernel
theorem dX0_tells_86 : decode cX0_tells 86 = .ok (.aload_n 0, 1) := by decide +kernel
theorem dX0_tells_87 : decode cX0_tells 87 = .ok (.iload_n 1, 1) := by decide +kernel
theorem dX0_tells_88 : decode cX0_tells 88 = .ok (.invokestatic 59, 3) := by decide +kernel
theorem dX0_tells_91 : decode cX0_tells 91 = .ok (.iload_n 2, 1) := by decide +kernel
theorem dX0_tells_92 : decode cX0_tells 92 = .ok (.iload_n 3, 1) := by decide +kernel
theorem dX0_tells_93 : decode cX0_tells 93 = .ok (.iconst 1, 1) := by decide +kernel
theorem dX0_tells_94 : decode cX0_tells 94 = .ok (.iadd, 1) := by decide +kernel
theorem dX0_tells_95 : decode cX0_tells 95 = .ok (.invokevirtual 52, 3) := by decide +kernel
theorem dX0_tells_98 : decode cX0_tells 98 = .ok (.istore 4, 2) := by decide +kernel
theorem dX0_tells_100 : decode cX0_tells 100 = .ok (.iload 4, 2) := by decide +kernel
theorem dX0_tells_102 : decode cX0_tells 102 = .ok (.aload_n 0, 1) := by decide +kernel
theorem dX0_tells_103 : decode cX0_tells 103 = .ok (.aload_n 0, 1) := by decide +kernel
theorem dX0_tells_104 : decode cX0_tells 104 = .ok (.getfield 17, 3) := by decide +kernel
theorem dX0_tells_107 : decode cX0_tells 107 = .ok (.aload_n 0, 1) := by decide +kernel
theorem dX0_tells_108 : decode cX0_tells 108 = .ok (.getfield 32, 3) := by decide +kernel
theorem dX0_tells_111 : decode cX0_tells 111 = .ok (.iload_n 3, 1) := by decide +kernel
theorem dX0_tells_112 : decode cX0_tells 112 = .ok (.iconst 1, 1) := by decide +kernel
theorem dX0_tells_113 : decode cX0_tells 113 = .ok (.iadd, 1) := by decide +kernel
theorem dX0_tells_114 : decode cX0_tells 114 = .ok (.invokevirtual 49, 3) := by decide +kernel
theorem dX0_tells_117 : decode cX0_tells 117 = .ok (.iadd, 1) := by decide +kernel
theorem dX0_tells_118 : decode cX0_tells 118 = .ok (.ireturn, 1) := by decide +kernel
theorem dX0_tells_119 : decode cX0_tells 119 = .ok (.aload_n 0, 1) := by decide +kernel
theorem dX0_tells_120 : decode cX0_tells 120 = .ok (.bipush 60, 2) := by decide +kernel
theorem dX0_tells_122 : decode cX0_tells 122 = .ok (.invokevirtual 55, 3) := by decide +kernel
theorem dX0_tells_125 : decode cX0_tells 125 = .ok (.aload_n 0, 1) := by decide +kernel
theorem dX0_tells_126 : decode cX0_tells 126 = .ok (.iload_n 1, 1) := by decide +kernel
theorem dX0_tells_127 : decode cX0_tells 127 = .ok (.invokestatic 59, 3) := by decide +kernel
theorem dX0_tells_130 : decode cX0_tells 130 = .ok (.iload_n 2, 1) := by decide +kernel
theorem dX0_tells_131 : decode cX0_tells 131 = .ok (.iload_n 3, 1) := by decide +kernel
theorem dX0_tells_132 : decode cX0_tells 132 = .ok (.iconst 1, 1) := by decide +kernel
theorem dX0_tells_133 : decode cX0_tells 133 = .ok (.iadd, 1) := by decide +kernel
theorem dX0_tells_134 : decode cX0_tells 134 = .ok (.invokevirtual 52, 3) := by decide +kernel
theorem dX0_tells_137 : decode cX0_tells 137 = .ok (.iconst 2, 1) := by decide +kernel
theorem dX0_tells_138 : decode cX0_tells 138 = .ok (.imul, 1) := by decide +kernel
theorem dX0_tells_139 : decode cX0_tells 139 = .ok (.ireturn, 1) := by decide +kernel
theorem dX0_tells_140 : decode cX0_tells 140 = .ok (.aload_n 0, 1) := by decide +kernel
theorem dX0_tells_141 : decode cX0_tells 141 = .ok (.bipush 83, 2) := by decide +kernel
theorem dX0_tells_143 : decode cX0_tells 143 = .ok (.invokevirtual 55, 3) := by decide +kernel
theorem dX0_tells_146 : decode cX0_tells 146 = .ok (.aload_n 0, 1) := by decide +kernel
theorem dX0_tells_147 : decode cX0_tells 147 = .ok (.aload_n 0, 1) := by decide +kernel
theorem dX0_tells_148 : decode cX0_tells 148 = .ok (.getfield 17, 3) := by decide +kernel
theorem dX0_tells_151 : decode cX0_tells 151 = .ok (.iload_n 2, 1) := by decide +kernel
theorem dX0_tells_152 : decode cX0_tells 152 = .ok (.iload_n 3, 1) := by decide +kernel
theorem dX0_tells_153 : decode cX0_tells 153 = .ok (.iconst 1, 1) := by decide +kernel
theorem dX0_tells_154 : decode cX0_tells 154 = .ok (.iadd, 1) := by decide +kernel
theorem dX0_tells_155 : decode cX0_tells 155 = .ok (.invokevirtual 46, 3) := by decide +kernel
theorem dX0_tells_158 : decode cX0_tells 158 = .ok (.istore 5, 2) := by decide +kernel
theorem dX0_tells_160 : decode cX0_tells 160 = .ok (.iload 5, 2) := by decide +kernel
theorem dX0_tells_162 : decode cX0_tells 162 = .ok (.aload_n 0, 1) := by decide +kernel
theorem dX0_tells_163 : decode cX0_tells 163 = .ok (.aload_n 0, 1) := by decide +kernel
theorem dX0_tells_164 : decode cX0_tells 164 = .ok (.getfield 17, 3) := by decide +kernel
theorem dX0_tells_167 : decode cX0_tells 167 = .ok (.aload_n 0, 1) := by decide +kernel
theorem dX0_tells_168 : decode cX0_tells 168 = .ok (.getfield 32, 3) := by decide +kernel
theorem dX0_tells_171 : decode cX0_tells 171 = .ok (.iload_n 3, 1) := by decide +kernel
theorem dX0_tells_172 : decode cX0_tells 172 = .ok (.iconst 1, 1) := by decide +kernel
theorem dX0_tells_173 : decode cX0_tells 173 = .ok (.iadd, 1) := by decide +kernel
theorem dX0_tells_174 : decode cX0_tells 174 = .ok (.invokevirtual 49, 3) := by decide +kernel
theorem dX0_tells_177 : decode cX0_tells 177 = .ok (.isub, 1) := by decide +kernel
theorem dX0_tells_178 : decode cX0_tells 178 = .ok (.ireturn, 1) := by decide +kernel
theorem dX0_tells_179 : decode cX0_tells 179 = .ok (.aload_n 0, 1) := by decide +kernel
theorem dX0_tells_180 : decode cX0_tells 180 = .ok (.iload_n 1, 1) := by decide +kernel
theorem dX0_tells_181 : decode cX0_tells 181 = .ok (.invokestatic 59, 3) := by decide +kernel
theorem dX0_tells_184 : decode cX0_tells 184 = .ok (.iload_n 2, 1) := by decide +kernel
theorem dX0_tells_185 : decode cX0_tells 185 = .ok (.iload_n 3, 1) := by decide +kernel
theorem dX0_tells_186 : decode cX0_tells 186 = .ok (.iconst 1, 1) := by decide +kernel
theorem dX0_tells_187 : decode cX0_tells 187 = .ok (.iadd, 1) := by decide +kernel
theorem dX0_tells_188 : decode cX0_tells 188 = .ok (.invokevirtual 52, 3) := by decide +kernel
theorem dX0_tells_191 : decode cX0_tells 191 = .ok (.ireturn, 1) := by decide +kernel
theorem dX1_above_0 : decode cX1_above 0 = .ok (.iload_n 0, 1) := by decide +kernel
theorem dX1_above_1 : decode cX1_above 1 = .ok (.ifCond .lt 19, 3) := by decide +kernel
theorem dX1_above_4 : decode cX1_above 4 = .ok (.iload_n 0, 1) := by decide +kernel
theorem dX1_above_5 : decode cX1_above 5 = .ok (.getstatic 7, 3) := by decide +kernel
theorem dX1_above_8 : decode cX1_above 8 = .ok (.arraylength, 1) := by decide +kernel
theorem dX1_above_9 : decode cX1_above 9 = .ok (.if_icmp .ge 11, 3) := by decide +kernel
theorem dX1_above_12 : decode cX1_above 12 = .ok (.getstatic 7, 3) := by decide +kernel
theorem dX1_above_15 : decode cX1_above 15 = .ok (.iload_n 0, 1) := by decide +kernel
theorem dX1_above_16 : decode cX1_above 16 = .ok (.iaload, 1) := by decide +kernel
theorem dX1_above_17 : decode cX1_above 17 = .ok (.goto 4, 3) := by decide +kernel
theorem dX1_above_20 : decode cX1_above 20 = .ok (.iconst (-1), 1) := by decide +kernel
theorem dX1_above_21 : decode cX1_above 21 = .ok (.ireturn, 1) := by decide +kernel
theorem dX1_isUnder_0 : decode cX1_isUnder 0 = .ok (.iload_n 0, 1) := by decide +kernel
theorem dX1_isUnder_1 : decode cX1_isUnder 1 = .ok (.istore_n 2, 1) := by decide +kernel
theorem dX1_isUnder_2 : decode cX1_isUnder 2 = .ok (.iconst 0, 1) := by decide +kernel
theorem dX1_isUnder_3 : decode cX1_isUnder 3 = .ok (.istore_n 3, 1) := by decide +kernel
theorem dX1_isUnder_4 : decode cX1_isUnder 4 = .ok (.iload_n 3, 1) := by decide +kernel
theorem dX1_isUnder_5 : decode cX1_isUnder 5 = .ok (.getstatic 7, 3) := by decide +kernel
theorem dX1_isUnder_8 : decode cX1_isUnder 8 = .ok (.arraylength, 1) := by decide +kernel
theorem dX1_isUnder_9 : decode cX1_isUnder 9 = .ok (.if_icmp .ge 26, 3) := by decide +kernel
theorem dX1_isUnder_12 : decode cX1_isUnder 12 = .ok (.iload_n 2, 1) := by decide +kernel
theorem dX1_isUnder_13 : decode cX1_isUnder 13 = .ok (.iconst (-1), 1) := by decide +kernel
theorem dX1_isUnder_14 : decode cX1_isUnder 14 = .ok (.if_icmp .eq 21, 3) := by decide +kernel
theorem dX1_isUnder_17 : decode cX1_isUnder 17 = .ok (.iload_n 2, 1) := by decide +kernel
theorem dX1_isUnder_18 : decode cX1_isUnder 18 = .ok (.iload_n 1, 1) := by decide +kernel
theorem dX1_isUnder_19 : decode cX1_isUnder 19 = .ok (.if_icmp .ne 5, 3) := by decide +kernel
theorem dX1_isUnder_22 : decode cX1_isUnder 22 = .ok (.iconst 1, 1) := by decide +kernel
theorem dX1_isUnder_23 : decode cX1_isUnder 23 = .ok (.ireturn, 1) := by decide +kernel
theorem dX1_isUnder_24 : decode cX1_isUnder 24 = .ok (.iload_n 2, 1) := by decide +kernel
theorem dX1_isUnder_25 : decode cX1_isUnder 25 = .ok (.invokestatic 13, 3) := by decide +kernel
theorem dX1_isUnder_28 : decode cX1_isUnder 28 = .ok (.istore_n 2, 1) := by decide +kernel
theorem dX1_isUnder_29 : decode cX1_isUnder 29 = .ok (.iinc 3 1, 3) := by decide +kernel
theorem dX1_isUnder_32 : decode cX1_isUnder 32 = .ok (.goto (-28), 3) := by decide +kernel
theorem dX1_isUnder_35 : decode cX1_isUnder 35 = .ok (.iconst 0, 1) := by decide +kernel
theorem dX1_isUnder_36 : decode cX1_isUnder 36 = .ok (.ireturn, 1) := by decide +kernel
theorem dX2_init_0 : decode cX2_init 0 = .ok (.aload_n 0, 1) := by decide +kernel
theorem dX2_init_1 : decode cX2_init 1 = .ok (.invokespecial 3, 3) := by decide +kernel
theorem dX2_init_4 : decode cX2_init 4 = .ok (.aload_n 0, 1) := by decide +kernel
theorem dX2_init_5 : decode cX2_init 5 = .ok (.iconst 4, 1) := by decide +kernel
theorem dX2_init_6 : decode cX2_init 6 = .ok (.sipush 200, 3) := by decide +kernel
theorem dX2_init_9 : decode cX2_init 9 = .ok (.multianewarray 11 2, 4) := by decide +kernel
theorem dX2_init_13 : decode cX2_init 13 = .ok (.putfield 13, 3) := by decide +kernel
theorem dX2_init_16 : decode cX2_init 16 = .ok (.aload_n 0, 1) := by decide +kernel
theorem dX2_init_17 : decode cX2_init 17 = .ok (.iconst 4, 1) := by decide +kernel
theorem dX2_init_18 : decode cX2_init 18 = .ok (.newarray .int, 2) := by decide +kernel
theorem dX2_init_20 : decode cX2_init 20 = .ok (.putfield 16, 3) := by decide +kernel
theorem dX2_init_23 : decode cX2_init 23 = .ok (.aload_n 0, 1) := by decide +kernel
theorem dX2_init_24 : decode cX2_init 24 = .ok (.iconst 4, 1) := by decide +kernel
theorem dX2_init_25 : decode cX2_init 25 = .ok (.newarray .boolean, 2) := by decide +kernel
theorem dX2_init_27 : decode cX2_init 27 = .ok (.putfield 20, 3) := by decide +kernel
theorem dX2_init_30 : decode cX2_init 30 = .ok (.aload_n 0, 1) := by decide +kernel
theorem dX2_init_31 : decode cX2_init 31 = .ok (.bipush 32, 2) := by decide +kernel
theorem dX2_init_33 : decode cX2_init 33 = .ok (.newarray .int, 2) := by decide +kernel
theorem dX2_init_35 : decode cX2_init 35 = .ok (.putfield 24, 3) := by decide +kernel
theorem dX2_init_38 : decode cX2_init 38 = .ok (.aload_n 0, 1) := by decide +kernel
theorem dX2_init_39 : decode cX2_init 39 = .ok (.invokevirtual 27, 3) := by decide +kernel
theorem dX2_init_42 : decode cX2_init 42 = .ok (.return_, 1) := by decide +kernel
theorem dX2_isKey_0 : decode cX2_isKey 0 = .ok (.iload_n 1, 1) := by decide +kernel
theorem dX2_isKey_1 : decode cX2_isKey 1 = .ok (.ifCond .lt 12, 3) := by decide +kernel
theorem dX2_isKey_4 : decode cX2_isKey 4 = .ok (.iload_n 1, 1) := by decide +kernel
theorem dX2_isKey_5 : decode cX2_isKey 5 = .ok (.iconst 4, 1) := by decide +kernel
theorem dX2_isKey_6 : decode cX2_isKey 6 = .ok (.if_icmp .ge 7, 3) := by decide +kernel
theorem dX2_isKey_9 : decode cX2_isKey 9 = .ok (.iconst 1, 1) := by decide +kernel
theorem dX2_isKey_10 : decode cX2_isKey 10 = .ok (.goto 4, 3) := by decide +kernel
theorem dX2_isKey_13 : decode cX2_isKey 13 = .ok (.iconst 0, 1) := by decide +kernel
theorem dX2_isKey_14 : decode cX2_isKey 14 = .ok (.ireturn, 1) := by decide +kernel
theorem dX2_howManyTold_0 : decode cX2_howManyTold 0 = .ok (.iconst 0, 1) := by decide +kernel
theorem dX2_howManyTold_1 : decode cX2_howManyTold 1 = .ok (.istore_n 1, 1) := by decide +kernel
theorem dX2_howManyTold_2 : decode cX2_howManyTold 2 = .ok (.iconst 0, 1) := by decide +kernel
theorem dX2_howManyTold_3 : decode cX2_howManyTold 3 = .ok (.istore_n 2, 1) := by decide +kernel
theorem dX2_howManyTold_4 : decode cX2_howManyTold 4 = .ok (.iload_n 2, 1) := by decide +kernel
theorem dX2_howManyTold_5 : decode cX2_howManyTold 5 = .ok (.iconst 4, 1) := by decide +kernel
theorem dX2_howManyTold_6 : decode cX2_howManyTold 6 = .ok (.if_icmp .ge 21, 3) := by decide +kernel
theorem dX2_howManyTold_9 : decode cX2_howManyTold 9 = .ok (.aload_n 0, 1) := by decide +kernel
theorem dX2_howManyTold_10 : decode cX2_howManyTold 10 = .ok (.getfield 20, 3) := by decide +kernel
theorem dX2_howManyTold_13 : decode cX2_howManyTold 13 = .ok (.iload_n 2, 1) := by decide +kernel
theorem dX2_howManyTold_14 : decode cX2_howManyTold 14 = .ok (.baload, 1) := by decide +kernel
theorem dX2_howManyTold_15 : decode cX2_howManyTold 15 = .ok (.ifCond .eq 6, 3) := by decide +kernel
theorem dX2_howManyTold_18 : decode cX2_howManyTold 18 = .ok (.iinc 1 1, 3) := by decide +kernel
theorem dX2_howManyTold_21 : decode cX2_howManyTold 21 = .ok (.iinc 2 1, 3) := by decide +kernel
theorem dX2_howManyTold_24 : decode cX2_howManyTold 24 = .ok (.goto (-20), 3) := by decide +kernel
theorem dX2_howManyTold_27 : decode cX2_howManyTold 27 = .ok (.iload_n 1, 1) := by decide +kernel
theorem dX2_howManyTold_28 : decode cX2_howManyTold 28 = .ok (.ireturn, 1) := by decide +kernel
theorem dX2_becomeAsAtFirst_0 : decode cX2_becomeAsAtFirst 0 = .ok (.aload_n 0, 1) := by decide +kernel
theorem dX2_becomeAsAtFirst_1 : decode cX2_becomeAsAtFirst 1 = .ok (.iconst 0, 1) := by decide +kernel
theorem dX2_becomeAsAtFirst_2 : decode cX2_becomeAsAtFirst 2 = .ok (.getstatic 30, 3) := by decide +kernel
theorem dX2_becomeAsAtFirst_5 : decode cX2_becomeAsAtFirst 5 = .ok (.invokevirtual 33, 3) := by decide +kernel
theorem dX2_becomeAsAtFirst_8 : decode cX2_becomeAsAtFirst 8 = .ok (.aload_n 0, 1) := by decide +kernel
theorem dX2_becomeAsAtFirst_9 : decode cX2_becomeAsAtFirst 9 = .ok (.iconst 1, 1) := by decide +kernel
theorem dX2_becomeAsAtFirst_10 : decode cX2_becomeAsAtFirst 10 = .ok (.getstatic 37, 3) := by decide +kernel
theorem dX2_becomeAsAtFirst_13 : decode cX2_becomeAsAtFirst 13 = .ok (.invokevirtual 33, 3) := by decide +kernel
theorem dX2_becomeAsAtFirst_16 : decode cX2_becomeAsAtFirst 16 = .ok (.aload_n 0, 1) := by decide +kernel
theorem dX2_becomeAsAtFirst_17 : decode cX2_becomeAsAtFirst 17 = .ok (.iconst 2, 1) := by decide +kernel
theorem dX2_becomeAsAtFirst_18 : decode cX2_becomeAsAtFirst 18 = .ok (.getstatic 40, 3) := by decide +kernel
theorem dX2_becomeAsAtFirst_21 : decode cX2_becomeAsAtFirst 21 = .ok (.invokevirtual 33, 3) := by decide +kernel
theorem dX2_becomeAsAtFirst_24 : decode cX2_becomeAsAtFirst 24 = .ok (.aload_n 0, 1) := by decide +kernel
theorem dX2_becomeAsAtFirst_25 : decode cX2_becomeAsAtFirst 25 = .ok (.iconst 3, 1) := by decide +kernel
theorem dX2_becomeAsAtFirst_26 : decode cX2_becomeAsAtFirst 26 = .ok (.getstatic 43, 3) := by decide +kernel
theorem dX2_becomeAsAtFirst_29 : decode cX2_becomeAsAtFirst 29 = .ok (.invokevirtual 33, 3) := by decide +kernel
theorem dX2_becomeAsAtFirst_32 : decode cX2_becomeAsAtFirst 32 = .ok (.return_, 1) := by decide +kernel
theorem dX2_write_0 : decode cX2_write 0 = .ok (.aload_n 0, 1) := by decide +kernel
theorem dX2_write_1 : decode cX2_write 1 = .ok (.iload_n 1, 1) := by decide +kernel
theorem dX2_write_2 : decode cX2_write 2 = .ok (.invokevirtual 46, 3) := by decide +kernel
theorem dX2_write_5 : decode cX2_write 5 = .ok (.iconst 0, 1) := by decide +kernel
theorem dX2_write_6 : decode cX2_write 6 = .ok (.istore_n 3, 1) := by decide +kernel
theorem dX2_write_7 : decode cX2_write 7 = .ok (.iload_n 3, 1) := by decide +kernel
theorem dX2_write_8 : decode cX2_write 8 = .ok (.aload_n 2, 1) := by decide +kernel
theorem dX2_write_9 : decode cX2_write 9 = .ok (.arraylength, 1) := by decide +kernel
theorem dX2_write_10 : decode cX2_write 10 = .ok (.if_icmp .ge 17, 3) := by decide +kernel
theorem dX2_write_13 : decode cX2_write 13 = .ok (.aload_n 0, 1) := by decide +kernel
theorem dX2_write_14 : decode cX2_write 14 = .ok (.iload_n 1, 1) := by decide +kernel
theorem dX2_write_15 : decode cX2_write 15 = .ok (.aload_n 2, 1) := by decide +kernel
theorem dX2_write_16 : decode cX2_write 16 = .ok (.iload_n 3, 1) := by decide +kernel
theorem dX2_write_17 : decode cX2_write 17 = .ok (.iaload, 1) := by decide +kernel
theorem dX2_write_18 : decode cX2_write 18 = .ok (.invokevirtual 50, 3) := by decide +kernel
theorem dX2_write_21 : decode cX2_write 21 = .ok (.iinc 3 1, 3) := by decide +kernel
theorem dX2_write_24 : decode cX2_write 24 = .ok (.goto (-17), 3) := by decide +kernel
theorem dX2_write_27 : decode cX2_write 27 = .ok (.aload_n 0, 1) := by decide +kernel
theorem dX2_write_28 : decode cX2_write 28 = .ok (.getfield 20, 3) := by decide +kernel
theorem dX2_write_31 : decode cX2_write 31 = .ok (.iload_n 1, 1) := by decide +kernel
theorem dX2_write_32 : decode cX2_write 32 = .ok (.iconst 0, 1) := by decide +kernel
theorem dX2_write_33 : decode cX2_write 33 = .ok (.bastore, 1) := by decide +kernel
theorem dX2_write_34 : decode cX2_write 34 = .ok (.return_, 1) := by decide +kernel
theorem dX2_becomeLike_0 : decode cX2_becomeLike 0 = .ok (.iconst 0, 1) := by decide +kernel
theorem dX2_becomeLike_1 : decode cX2_becomeLike 1 = .ok (.istore_n 2, 1) := by decide +kernel
theorem dX2_becomeLike_2 : decode cX2_becomeLike 2 = .ok (.iload_n 2, 1) := by decide +kernel
theorem dX2_becomeLike_3 : decode cX2_becomeLike 3 = .ok (.iconst 4, 1) := by decide +kernel
theorem dX2_becomeLike_4 : decode cX2_becomeLike 4 = .ok (.if_icmp .ge 53, 3) := by decide +kernel
theorem dX2_becomeLike_7 : decode cX2_becomeLike 7 = .ok (.aload_n 0, 1) := by decide +kernel
theorem dX2_becomeLike_8 : decode cX2_becomeLike 8 = .ok (.getfield 16, 3) := by decide +kernel
theorem dX2_becomeLike_11 : decode cX2_becomeLike 11 = .ok (.iload_n 2, 1) := by decide +kernel
theorem dX2_becomeLike_12 : decode cX2_becomeLike 12 = .ok (.aload_n 1, 1) := by decide +kernel
theorem dX2_becomeLike_13 : decode cX2_becomeLike 13 = .ok (.getfield 16, 3) := by decide +kernel
theorem dX2_becomeLike_16 : decode cX2_becomeLike 16 = .ok (.iload_n 2, 1) := by decide +kernel
theorem dX2_becomeLike_17 : decode cX2_becomeLike 17 = .ok (.iaload, 1) := by decide +kernel
theorem dX2_becomeLike_18 : decode cX2_becomeLike 18 = .ok (.iastore, 1) := by decide +kernel
theorem dX2_becomeLike_19 : decode cX2_becomeLike 19 = .ok (.aload_n 0, 1) := by decide +kernel
theorem dX2_becomeLike_20 : decode cX2_becomeLike 20 = .ok (.getfield 20, 3) := by decide +kernel
theorem dX2_becomeLike_23 : decode cX2_becomeLike 23 = .ok (.iload_n 2, 1) := by decide +kernel
theorem dX2_becomeLike_24 : decode cX2_becomeLike 24 = .ok (.aload_n 1, 1) := by decide +kernel
theorem dX2_becomeLike_25 : decode cX2_becomeLike 25 = .ok (.getfield 20, 3) := by decide +kernel
theorem dX2_becomeLike_28 : decode cX2_becomeLike 28 = .ok (.iload_n 2, 1) := by decide +kernel
theorem dX2_becomeLike_29 : decode cX2_becomeLike 29 = .ok (.baload, 1) := by decide +kernel
theorem dX2_becomeLike_30 : decode cX2_becomeLike 30 = .ok (.bastore, 1) := by decide +kernel
theorem dX2_becomeLike_31 : decode cX2_becomeLike 31 = .ok (.aload_n 1, 1) := by decide +kernel
theorem dX2_becomeLike_32 : decode cX2_becomeLike 32 = .ok (.getfield 13, 3) := by decide +kernel
theorem dX2_becomeLike_35 : decode cX2_becomeLike 35 = .ok (.iload_n 2, 1) := by decide +kernel
theorem dX2_becomeLike_36 : decode cX2_becomeLike 36 = .ok (.aaload, 1) := by decide +kernel
theorem dX2_becomeLike_37 : decode cX2_becomeLike 37 = .ok (.iconst 0, 1) := by decide +kernel
theorem dX2_becomeLike_38 : decode cX2_becomeLike 38 = .ok (.aload_n 0, 1) := by decide +kernel
theorem dX2_becomeLike_39 : decode cX2_becomeLike 39 = .ok (.getfield 13, 3) := by decide +kernel
theorem dX2_becomeLike_42 : decode cX2_becomeLike 42 = .ok (.iload_n 2, 1) := by decide +kernel
theorem dX2_becomeLike_43 : decode cX2_becomeLike 43 = .ok (.aaload, 1) := by decide +kernel
theorem dX2_becomeLike_44 : decode cX2_becomeLike 44 = .ok (.iconst 0, 1) := by decide +kernel
theorem dX2_becomeLike_45 : decode cX2_becomeLike 45 = .ok (.sipush 200, 3) := by decide +kernel
theorem dX2_becomeLike_48 : decode cX2_becomeLike 48 = .ok (.invokestatic 54, 3) := by decide +kernel
theorem dX2_becomeLike_51 : decode cX2_becomeLike 51 = .ok (.iinc 2 1, 3) := by decide +kernel
theorem dX2_becomeLike_54 : decode cX2_becomeLike 54 = .ok (.goto (-52), 3) := by decide +kernel
theorem dX2_becomeLike_57 : decode cX2_becomeLike 57 = .ok (.return_, 1) := by decide +kernel
theorem dX2_tellAnew_0 : decode cX2_tellAnew 0 = .ok (.aload_n 0, 1) := by decide +kernel
theorem dX2_tellAnew_1 : decode cX2_tellAnew 1 = .ok (.iload_n 1, 1) := by decide +kernel
theorem dX2_tellAnew_2 : decode cX2_tellAnew 2 = .ok (.invokevirtual 60, 3) := by decide +kernel
theorem dX2_tellAnew_5 : decode cX2_tellAnew 5 = .ok (.ifCond .eq 17, 3) := by decide +kernel
theorem dX2_tellAnew_8 : decode cX2_tellAnew 8 = .ok (.aload_n 0, 1) := by decide +kernel
theorem dX2_tellAnew_9 : decode cX2_tellAnew 9 = .ok (.getfield 16, 3) := by decide +kernel
theorem dX2_tellAnew_12 : decode cX2_tellAnew 12 = .ok (.iload_n 1, 1) := by decide +kernel
theorem dX2_tellAnew_13 : decode cX2_tellAnew 13 = .ok (.iconst 0, 1) := by decide +kernel
theorem dX2_tellAnew_14 : decode cX2_tellAnew 14 = .ok (.iastore, 1) := by decide +kernel
theorem dX2_tellAnew_15 : decode cX2_tellAnew 15 = .ok (.aload_n 0, 1) := by decide +kernel
theorem dX2_tellAnew_16 : decode cX2_tellAnew 16 = .ok (.getfield 20, 3) := by decide +kernel
theorem dX2_tellAnew_19 : decode cX2_tellAnew 19 = .ok (.iload_n 1, 1) := by decide +kernel
theorem dX2_tellAnew_20 : decode cX2_tellAnew 20 = .ok (.iconst 1, 1) := by decide +kernel
theorem dX2_tellAnew_21 : decode cX2_tellAnew 21 = .ok (.bastore, 1) := by decide +kernel
theorem dX2_tellAnew_22 : decode cX2_tellAnew 22 = .ok (.return_, 1) := by decide +kernel
theorem dX2_add_0 : decode cX2_add 0 = .ok (.aload_n 0, 1) := by decide +kernel
theorem dX2_add_1 : decode cX2_add 1 = .ok (.iload_n 1, 1) := by decide +kernel
theorem dX2_add_2 : decode cX2_add 2 = .ok (.invokevirtual 60, 3) := by decide +kernel
theorem dX2_add_5 : decode cX2_add 5 = .ok (.ifCond .eq 39, 3) := by decide +kernel
theorem dX2_add_8 : decode cX2_add 8 = .ok (.aload_n 0, 1) := by decide +kernel
theorem dX2_add_9 : decode cX2_add 9 = .ok (.getfield 16, 3) := by decide +kernel
theorem dX2_add_12 : decode cX2_add 12 = .ok (.iload_n 1, 1) := by decide +kernel
theorem dX2_add_13 : decode cX2_add 13 = .ok (.iaload, 1) := by decide +kernel
theorem dX2_add_14 : decode cX2_add 14 = .ok (.sipush 200, 3) := by decide +kernel
theorem dX2_add_17 : decode cX2_add 17 = .ok (.if_icmp .ge 27, 3) := by decide +kernel
theorem dX2_add_20 : decode cX2_add 20 = .ok (.aload_n 0, 1) := by decide +kernel
theorem dX2_add_21 : decode cX2_add 21 = .ok (.getfield 13, 3) := by decide +kernel
theorem dX2_add_24 : decode cX2_add 24 = .ok (.iload_n 1, 1) := by decide +kernel
theorem dX2_add_25 : decode cX2_add 25 = .ok (.aaload, 1) := by decide +kernel
theorem dX2_add_26 : decode cX2_add 26 = .ok (.aload_n 0, 1) := by decide +kernel
theorem dX2_add_27 : decode cX2_add 27 = .ok (.getfield 16, 3) := by decide +kernel
theorem dX2_add_30 : decode cX2_add 30 = .ok (.iload_n 1, 1) := by decide +kernel
theorem dX2_add_31 : decode cX2_add 31 = .ok (.iaload, 1) := by decide +kernel
theorem dX2_add_32 : decode cX2_add 32 = .ok (.iload_n 2, 1) := by decide +kernel
theorem dX2_add_33 : decode cX2_add 33 = .ok (.iastore, 1) := by decide +kernel
theorem dX2_add_34 : decode cX2_add 34 = .ok (.aload_n 0, 1) := by decide +kernel
theorem dX2_add_35 : decode cX2_add 35 = .ok (.getfield 16, 3) := by decide +kernel
theorem dX2_add_38 : decode cX2_add 38 = .ok (.iload_n 1, 1) := by decide +kernel
theorem dX2_add_39 : decode cX2_add 39 = .ok (.dup2, 1) := by decide +kernel
theorem dX2_add_40 : decode cX2_add 40 = .ok (.iaload, 1) := by decide +kernel
theorem dX2_add_41 : decode cX2_add 41 = .ok (.iconst 1, 1) := by decide +kernel
theorem dX2_add_42 : decode cX2_add 42 = .ok (.iadd, 1) := by decide +kernel
theorem dX2_add_43 : decode cX2_add 43 = .ok (.iastore, 1) := by decide +kernel
theorem dX2_add_44 : decode cX2_add 44 = .ok (.return_, 1) := by decide +kernel
theorem dX2_worth_0 : decode cX2_worth 0 = .ok (.aload_n 0, 1) := by decide +kernel
theorem dX2_worth_1 : decode cX2_worth 1 = .ok (.iload_n 1, 1) := by decide +kernel
theorem dX2_worth_2 : decode cX2_worth 2 = .ok (.invokevirtual 60, 3) := by decide +kernel
theorem dX2_worth_5 : decode cX2_worth 5 = .ok (.ifCond .ne 5, 3) := by decide +kernel
theorem dX2_worth_8 : decode cX2_worth 8 = .ok (.iconst 0, 1) := by decide +kernel
theorem dX2_worth_9 : decode cX2_worth 9 = .ok (.ireturn, 1) := by decide +kernel
theorem dX2_worth_10 : decode cX2_worth 10 = .ok (.iconst 0, 1) := by decide +kernel
theorem dX2_worth_11 : decode cX2_worth 11 = .ok (.istore_n 3, 1) := by decide +kernel
theorem dX2_worth_12 : decode cX2_worth 12 = .ok (.iconst 0, 1) := by decide +kernel
theorem dX2_worth_13 : decode cX2_worth 13 = .ok (.istore 4, 2) := by decide +kernel
theorem dX2_worth_15 : decode cX2_worth 15 = .ok (.iload 4, 2) := by decide +kernel
theorem dX2_worth_17 : decode cX2_worth 17 = .ok (.aload_n 0, 1) := by decide +kernel
theorem dX2_worth_18 : decode cX2_worth 18 = .ok (.getfield 16, 3) := by decide +kernel
theorem dX2_worth_21 : decode cX2_worth 21 = .ok (.iload_n 1, 1) := by decide +kernel
theorem dX2_worth_22 : decode cX2_worth 22 = .ok (.iaload, 1) := by decide +kernel
theorem dX2_worth_23 : decode cX2_worth 23 = .ok (.if_icmp .ge 96, 3) := by decide +kernel
theorem dX2_worth_26 : decode cX2_worth 26 = .ok (.iload 4, 2) := by decide +kernel
theorem dX2_worth_28 : decode cX2_worth 28 = .ok (.sipush 200, 3) := by decide +kernel
theorem dX2_worth_31 : decode cX2_worth 31 = .ok (.if_icmp .ge 88, 3) := by decide +kernel
theorem dX2_worth_34 : decode cX2_worth 34 = .ok (.aload_n 0, 1) := by decide +kernel
theorem dX2_worth_35 : decode cX2_worth 35 = .ok (.getfield 13, 3) := by decide +kernel
theorem dX2_worth_38 : decode cX2_worth 38 = .ok (.iload_n 1, 1) := by decide +kernel
theorem dX2_worth_39 : decode cX2_worth 39 = .ok (.aaload, 1) := by decide +kernel
theorem dX2_worth_40 : decode cX2_worth 40 = .ok (.iload 4, 2) := by decide +kernel
theorem dX2_worth_42 : decode cX2_worth 42 = .ok (.iaload, 1) := by decide +kernel
theorem dX2_worth_43 : decode cX2_worth 43 = .ok (.istore 5, 2) := by decide +kernel
theorem dX2_worth_45 : decode cX2_worth 45 = .ok (.iload 5, 2) := by decide +kernel
theorem dX2_worth_47 : decode cX2_worth 47 = .ok (.sipush 20126, 3) := by decide +kernel
theorem dX2_worth_50 : decode cX2_worth 50 = .ok (.if_icmp .ne 11, 3) := by decide +kernel
theorem dX2_worth_53 : decode cX2_worth 53 = .ok (.aload_n 0, 1) := by decide +kernel
theorem dX2_worth_54 : decode cX2_worth 54 = .ok (.iload_n 3, 1) := by decide +kernel
theorem dX2_worth_55 : decode cX2_worth 55 = .ok (.invokevirtual 64, 3) := by decide +kernel
theorem dX2_worth_58 : decode cX2_worth 58 = .ok (.goto 55, 3) := by decide +kernel
theorem dX2_worth_61 : decode cX2_worth 61 = .ok (.iload 5, 2) := by decide +kernel
theorem dX2_worth_63 : decode cX2_worth 63 = .ok (.sipush 20000, 3) := by decide +kernel
theorem dX2_worth_66 : decode cX2_worth 66 = .ok (.if_icmp .lt 18, 3) := by decide +kernel
theorem dX2_worth_69 : decode cX2_worth 69 = .ok (.aload_n 0, 1) := by decide +kernel
theorem dX2_worth_70 : decode cX2_worth 70 = .ok (.iload_n 3, 1) := by decide +kernel
theorem dX2_worth_71 : decode cX2_worth 71 = .ok (.iload 5, 2) := by decide +kernel
theorem dX2_worth_73 : decode cX2_worth 73 = .ok (.sipush 20000, 3) := by decide +kernel
theorem dX2_worth_76 : decode cX2_worth 76 = .ok (.isub, 1) := by decide +kernel
theorem dX2_worth_77 : decode cX2_worth 77 = .ok (.invokevirtual 67, 3) := by decide +kernel
theorem dX2_worth_80 : decode cX2_worth 80 = .ok (.istore_n 3, 1) := by decide +kernel
theorem dX2_worth_81 : decode cX2_worth 81 = .ok (.goto 32, 3) := by decide +kernel
theorem dX2_worth_84 : decode cX2_worth 84 = .ok (.aload_n 0, 1) := by decide +kernel
theorem dX2_worth_85 : decode cX2_worth 85 = .ok (.iload_n 3, 1) := by decide +kernel
theorem dX2_worth_86 : decode cX2_worth 86 = .ok (.iload 5, 2) := by decide +kernel
theorem dX2_worth_88 : decode cX2_worth 88 = .ok (.sipush 10000, 3) := by decide +kernel
theorem dX2_worth_91 : decode cX2_worth 91 = .ok (.if_icmp .ge 8, 3) := by decide +kernel
theorem dX2_worth_94 : decode cX2_worth 94 = .ok (.iload 5, 2) := by decide +kernel
theorem dX2_worth_96 : decode cX2_worth 96 = .ok (.goto 13, 3) := by decide +kernel
theorem dX2_worth_99 : decode cX2_worth 99 = .ok (.aload_n 2, 1) := by decide +kernel
theorem dX2_worth_100 : decode cX2_worth 100 = .ok (.iload 5, 2) := by decide +kernel
theorem dX2_worth_102 : decode cX2_worth 102 = .ok (.sipush 10000, 3) := by decide +kernel
theorem dX2_worth_105 : decode cX2_worth 105 = .ok (.isub, 1) := by decide +kernel
theorem dX2_worth_106 : decode cX2_worth 106 = .ok (.invokevirtual 71, 3) := by decide +kernel
theorem dX2_worth_109 : decode cX2_worth 109 = .ok (.invokevirtual 77, 3) := by decide +kernel
theorem dX2_worth_112 : decode cX2_worth 112 = .ok (.istore_n 3, 1) := by decide +kernel
theorem dX2_worth_113 : decode cX2_worth 113 = .ok (.iinc 4 1, 3) := by decide +kernel
theorem dX2_worth_116 : decode cX2_worth 116 = .ok (.goto (-101), 3) := by decide +kernel
theorem dX2_worth_119 : decode cX2_worth 119 = .ok (.iload_n 3, 1) := by decide +kernel
theorem dX2_worth_120 : decode cX2_worth 120 = .ok (.ifCond .le 23, 3) := by decide +kernel
theorem dX2_worth_123 : decode cX2_worth 123 = .ok (.iload_n 3, 1) := by decide +kernel
theorem dX2_worth_124 : decode cX2_worth 124 = .ok (.aload_n 0, 1) := by decide +kernel
theorem dX2_worth_125 : decode cX2_worth 125 = .ok (.getfield 24, 3) := by decide +kernel
theorem dX2_worth_128 : decode cX2_worth 128 = .ok (.arraylength, 1) := by decide +kernel
theorem dX2_worth_129 : decode cX2_worth 129 = .ok (.if_icmp .gt 14, 3) := by decide +kernel
theorem dX2_worth_132 : decode cX2_worth 132 = .ok (.aload_n 0, 1) := by decide +kernel
theorem dX2_worth_133 : decode cX2_worth 133 = .ok (.getfield 24, 3) := by decide +kernel
theorem dX2_worth_136 : decode cX2_worth 136 = .ok (.iload_n 3, 1) := by decide +kernel
theorem dX2_worth_137 : decode cX2_worth 137 = .ok (.iconst 1, 1) := by decide +kernel
theorem dX2_worth_138 : decode cX2_worth 138 = .ok (.isub, 1) := by decide +kernel
theorem dX2_worth_139 : decode cX2_worth 139 = .ok (.iaload, 1) := by decide +kernel
theorem dX2_worth_140 : decode cX2_worth 140 = .ok (.goto 4, 3) := by decide +kernel
theorem dX2_worth_143 : decode cX2_worth 143 = .ok (.iconst 0, 1) := by decide +kernel
theorem dX2_worth_144 : decode cX2_worth 144 = .ok (.ireturn, 1) := by decide +kernel
theorem dX2_push_0 : decode cX2_push 0 = .ok (.iload_n 1, 1) := by decide +kernel
theorem dX2_push_1 : decode cX2_push 1 = .ok (.ifCond .lt 12, 3) := by decide +kernel
theorem dX2_push_4 : decode cX2_push 4 = .ok (.iload_n 1, 1) := by decide +kernel
theorem dX2_push_5 : decode cX2_push 5 = .ok (.aload_n 0, 1) := by decide +kernel
theorem dX2_push_6 : decode cX2_push 6 = .ok (.getfield 24, 3) := by decide +kernel
theorem dX2_push_9 : decode cX2_push 9 = .ok (.arraylength, 1) := by decide +kernel
theorem dX2_push_10 : decode cX2_push 10 = .ok (.if_icmp .lt 5, 3) := by decide +kernel
theorem dX2_push_13 : decode cX2_push 13 = .ok (.iload_n 1, 1) := by decide +kernel
theorem dX2_push_14 : decode cX2_push 14 = .ok (.ireturn, 1) := by decide +kernel
theorem dX2_push_15 : decode cX2_push 15 = .ok (.aload_n 0, 1) := by decide +kernel
theorem dX2_push_16 : decode cX2_push 16 = .ok (.getfield 24, 3) := by decide +kernel
theorem dX2_push_19 : decode cX2_push 19 = .ok (.iload_n 1, 1) := by decide +kernel
theorem dX2_push_20 : decode cX2_push 20 = .ok (.iload_n 2, 1) := by decide +kernel
theorem dX2_push_21 : decode cX2_push 21 = .ok (.iastore, 1) := by decide +kernel
theorem dX2_push_22 : decode cX2_push 22 = .ok (.iload_n 1, 1) := by decide +kernel
theorem dX2_push_23 : decode cX2_push 23 = .ok (.iconst 1, 1) := by decide +kernel
theorem dX2_push_24 : decode cX2_push 24 = .ok (.iadd, 1) := by decide +kernel
theorem dX2_push_25 : decode cX2_push 25 = .ok (.ireturn, 1) := by decide +kernel
theorem dX2_negateTop_0 : decode cX2_negateTop 0 = .ok (.iload_n 1, 1) := by decide +kernel
theorem dX2_negateTop_1 : decode cX2_negateTop 1 = .ok (.ifCond .le 29, 3) := by decide +kernel
theorem dX2_negateTop_4 : decode cX2_negateTop 4 = .ok (.iload_n 1, 1) := by decide +kernel
theorem dX2_negateTop_5 : decode cX2_negateTop 5 = .ok (.aload_n 0, 1) := by decide +kernel
theorem dX2_negateTop_6 : decode cX2_negateTop 6 = .ok (.getfield 24, 3) := by decide +kernel
theorem dX2_negateTop_9 : decode cX2_negateTop 9 = .ok (.arraylength, 1) := by decide +kernel
theorem dX2_negateTop_10 : decode cX2_negateTop 10 = .ok (.if_icmp .gt 20, 3) := by decide +kernel
theorem dX2_negateTop_13 : decode cX2_negateTop 13 = .ok (.aload_n 0, 1) := by decide +kernel
theorem dX2_negateTop_14 : decode cX2_negateTop 14 = .ok (.getfield 24, 3) := by decide +kernel
theorem dX2_negateTop_17 : decode cX2_negateTop 17 = .ok (.iload_n 1, 1) := by decide +kernel
theorem dX2_negateTop_18 : decode cX2_negateTop 18 = .ok (.iconst 1, 1) := by decide +kernel
theorem dX2_negateTop_19 : decode cX2_negateTop 19 = .ok (.isub, 1) := by decide +kernel
theorem dX2_negateTop_20 : decode cX2_negateTop 20 = .ok (.aload_n 0, 1) := by decide +kernel
theorem dX2_negateTop_21 : decode cX2_negateTop 21 = .ok (.getfield 24, 3) := by decide +kernel
theorem dX2_negateTop_24 : decode cX2_negateTop 24 = .ok (.iload_n 1, 1) := by decide +kernel
theorem dX2_negateTop_25 : decode cX2_negateTop 25 = .ok (.iconst 1, 1) := by decide +kernel
theorem dX2_negateTop_26 : decode cX2_negateTop 26 = .ok (.isub, 1) := by decide +kernel
theorem dX2_negateTop_27 : decode cX2_negateTop 27 = .ok (.iaload, 1) := by decide +kernel
theorem dX2_negateTop_28 : decode cX2_negateTop 28 = .ok (.ineg, 1) := by decide +kernel
theorem dX2_negateTop_29 : decode cX2_negateTop 29 = .ok (.iastore, 1) := by decide +kernel
theorem dX2_negateTop_30 : decode cX2_negateTop 30 = .ok (.return_, 1) := by decide +kernel
theorem dX2_join_0 : decode cX2_join 0 = .ok (.iload_n 1, 1) := by decide +kernel
theorem dX2_join_1 : decode cX2_join 1 = .ok (.iconst 2, 1) := by decide +kernel
theorem dX2_join_2 : decode cX2_join 2 = .ok (.if_icmp .lt 12, 3) := by decide +kernel
theorem dX2_join_5 : decode cX2_join 5 = .ok (.iload_n 1, 1) := by decide +kernel
theorem dX2_join_6 : decode cX2_join 6 = .ok (.aload_n 0, 1) := by decide +kernel
theorem dX2_join_7 : decode cX2_join 7 = .ok (.getfield 24, 3) := by decide +kernel
theorem dX2_join_10 : decode cX2_join 10 = .ok (.arraylength, 1) := by decide +kernel
theorem dX2_join_11 : decode cX2_join 11 = .ok (.if_icmp .le 5, 3) := by decide +kernel
theorem dX2_join_14 : decode cX2_join 14 = .ok (.iload_n 1, 1) := by decide +kernel
theorem dX2_join_15 : decode cX2_join 15 = .ok (.ireturn, 1) := by decide +kernel
theorem dX2_join_16 : decode cX2_join 16 = .ok (.aload_n 0, 1) := by decide +kernel
theorem dX2_join_17 : decode cX2_join 17 = .ok (.getfield 24, 3) := by decide +kernel
theorem dX2_join_20 : decode cX2_join 20 = .ok (.iload_n 1, 1) := by decide +kernel
theorem dX2_join_21 : decode cX2_join 21 = .ok (.iconst 2, 1) := by decide +kernel
theorem dX2_join_22 : decode cX2_join 22 = .ok (.isub, 1) := by decide +kernel
theorem dX2_join_23 : decode cX2_join 23 = .ok (.aload_n 0, 1) := by decide +kernel
theorem dX2_join_24 : decode cX2_join 24 = .ok (.getfield 24, 3) := by decide +kernel
theorem dX2_join_27 : decode cX2_join 27 = .ok (.iload_n 1, 1) := by decide +kernel
theorem dX2_join_28 : decode cX2_join 28 = .ok (.iconst 2, 1) := by decide +kernel
theorem dX2_join_29 : decode cX2_join 29 = .ok (.isub, 1) := by decide +kernel
theorem dX2_join_30 : decode cX2_join 30 = .ok (.iaload, 1) := by decide +kernel
theorem dX2_join_31 : decode cX2_join 31 = .ok (.iload_n 2, 1) := by decide +kernel
theorem dX2_join_32 : decode cX2_join 32 = .ok (.aload_n 0, 1) := by decide +kernel
theorem dX2_join_33 : decode cX2_join 33 = .ok (.getfield 24, 3) := by decide +kernel
theorem dX2_join_36 : decode cX2_join 36 = .ok (.iload_n 1, 1) := by decide +kernel
theorem dX2_join_37 : decode cX2_join 37 = .ok (.iconst 1, 1) := by decide +kernel
theorem dX2_join_38 : decode cX2_join 38 = .ok (.isub, 1) := by decide +kernel
theorem dX2_join_39 : decode cX2_join 39 = .ok (.iaload, 1) := by decide +kernel
theorem dX2_join_40 : decode cX2_join 40 = .ok (.invokestatic 80, 3) := by decide +kernel
theorem dX2_join_43 : decode cX2_join 43 = .ok (.iastore, 1) := by decide +kernel
theorem dX2_join_44 : decode cX2_join 44 = .ok (.iload_n 1, 1) := by decide +kernel
theorem dX2_join_45 : decode cX2_join 45 = .ok (.iconst 1, 1) := by decide +kernel
theorem dX2_join_46 : decode cX2_join 46 = .ok (.isub, 1) := by decide +kernel
theorem dX2_join_47 : decode cX2_join 47 = .ok (.ireturn, 1) := by decide +kernel
theorem dX2_joined_0 : decode cX2_joined 0 = .ok (.iload_n 1, 1) := by decide +kernel
theorem dX2_joined_1 : decode cX2_joined 1 = .ok (.tableswitch 188 37 62 #[143, 188, 188, 188, 188, 127, 119, 188, 123, 188, 131, 188, 188, 188, 188, 188, 188, 188, 188, 188, 188, 188, 188, 155, 166, 177], 119) := by decide +kernel
theorem dX2_joined_120 : decode cX2_joined 120 = .ok (.iload_n 0, 1) := by decide +kernel
theorem dX2_joined_121 : decode cX2_joined 121 = .ok (.iload_n 2, 1) := by decide +kernel
theorem dX2_joined_122 : decode cX2_joined 122 = .ok (.iadd, 1) := by decide +kernel
theorem dX2_joined_123 : decode cX2_joined 123 = .ok (.ireturn, 1) := by decide +kernel
theorem dX2_joined_124 : decode cX2_joined 124 = .ok (.iload_n 0, 1) := by decide +kernel
theorem dX2_joined_125 : decode cX2_joined 125 = .ok (.iload_n 2, 1) := by decide +kernel
theorem dX2_joined_126 : decode cX2_joined 126 = .ok (.isub, 1) := by decide +kernel
theorem dX2_joined_127 : decode cX2_joined 127 = .ok (.ireturn, 1) := by decide +kernel
theorem dX2_joined_128 : decode cX2_joined 128 = .ok (.iload_n 0, 1) := by decide +kernel
theorem dX2_joined_129 : decode cX2_joined 129 = .ok (.iload_n 2, 1) := by decide +kernel
theorem dX2_joined_130 : decode cX2_joined 130 = .ok (.imul, 1) := by decide +kernel
theorem dX2_joined_131 : decode cX2_joined 131 = .ok (.ireturn, 1) := by decide +kernel
theorem dX2_joined_132 : decode cX2_joined 132 = .ok (.iload_n 2, 1) := by decide +kernel
theorem dX2_joined_133 : decode cX2_joined 133 = .ok (.ifCond .ne 7, 3) := by decide +kernel
theorem dX2_joined_136 : decode cX2_joined 136 = .ok (.iconst 0, 1) := by decide +kernel
theorem dX2_joined_137 : decode cX2_joined 137 = .ok (.goto 6, 3) := by decide +kernel
theorem dX2_joined_140 : decode cX2_joined 140 = .ok (.iload_n 0, 1) := by decide +kernel
theorem dX2_joined_141 : decode cX2_joined 141 = .ok (.iload_n 2, 1) := by decide +kernel
theorem dX2_joined_142 : decode cX2_joined 142 = .ok (.idiv, 1) := by decide +kernel
theorem dX2_joined_143 : decode cX2_joined 143 = .ok (.ireturn, 1) := by decide +kernel
theorem dX2_joined_144 : decode cX2_joined 144 = .ok (.iload_n 2, 1) := by decide +kernel
theorem dX2_joined_145 : decode cX2_joined 145 = .ok (.ifCond .ne 7, 3) := by decide +kernel
theorem dX2_joined_148 : decode cX2_joined 148 = .ok (.iconst 0, 1) := by decide +kernel
theorem dX2_joined_149 : decode cX2_joined 149 = .ok (.goto 6, 3) := by decide +kernel
theorem dX2_joined_152 : decode cX2_joined 152 = .ok (.iload_n 0, 1) := by decide +kernel
theorem dX2_joined_153 : decode cX2_joined 153 = .ok (.iload_n 2, 1) := by decide +kernel
theorem dX2_joined_154 : decode cX2_joined 154 = .ok (.irem, 1) := by decide +kernel
theorem dX2_joined_155 : decode cX2_joined 155 = .ok (.ireturn, 1) := by decide +kernel
theorem dX2_joined_156 : decode cX2_joined 156 = .ok (.iload_n 0, 1) := by decide +kernel
theorem dX2_joined_157 : decode cX2_joined 157 = .ok (.iload_n 2, 1) := by decide +kernel
theorem dX2_joined_158 : decode cX2_joined 158 = .ok (.if_icmp .ge 7, 3) := by decide +kernel
theorem dX2_joined_161 : decode cX2_joined 161 = .ok (.iconst 1, 1) := by decide +kernel
theorem dX2_joined_162 : decode cX2_joined 162 = .ok (.goto 4, 3) := by decide +kernel
theorem dX2_joined_165 : decode cX2_joined 165 = .ok (.iconst 0, 1) := by decide +kernel
theorem dX2_joined_166 : decode cX2_joined 166 = .ok (.ireturn, 1) := by decide +kernel
theorem dX2_joined_167 : decode cX2_joined 167 = .ok (.iload_n 0, 1) := by decide +kernel
theorem dX2_joined_168 : decode cX2_joined 168 = .ok (.iload_n 2, 1) := by decide +kernel
theorem dX2_joined_169 : decode cX2_joined 169 = .ok (.if_icmp .ne 7, 3) := by decide +kernel
theorem dX2_joined_172 : decode cX2_joined 172 = .ok (.iconst 1, 1) := by decide +kernel
theorem dX2_joined_173 : decode cX2_joined 173 = .ok (.goto 4, 3) := by decide +kernel
theorem dX2_joined_176 : decode cX2_joined 176 = .ok (.iconst 0, 1) := by decide +kernel
theorem dX2_joined_177 : decode cX2_joined 177 = .ok (.ireturn, 1) := by decide +kernel
theorem dX2_joined_178 : decode cX2_joined 178 = .ok (.iload_n 0, 1) := by decide +kernel
theorem dX2_joined_179 : decode cX2_joined 179 = .ok (.iload_n 2, 1) := by decide +kernel
theorem dX2_joined_180 : decode cX2_joined 180 = .ok (.if_icmp .le 7, 3) := by decide +kernel
theorem dX2_joined_183 : decode cX2_joined 183 = .ok (.iconst 1, 1) := by decide +kernel
theorem dX2_joined_184 : decode cX2_joined 184 = .ok (.goto 4, 3) := by decide +kernel
theorem dX2_joined_187 : decode cX2_joined 187 = .ok (.iconst 0, 1) := by decide +kernel
theorem dX2_joined_188 : decode cX2_joined 188 = .ok (.ireturn, 1) := by decide +kernel
theorem dX2_joined_189 : decode cX2_joined 189 = .ok (.iconst 0, 1) := by decide +kernel
theorem dX2_joined_190 : decode cX2_joined 190 = .ok (.ireturn, 1) := by decide +kernel
theorem dX3_init_0 : decode cX3_init 0 = .ok (.aload_n 0, 1) := by decide +kernel
theorem dX3_init_1 : decode cX3_init 1 = .ok (.invokespecial 1, 3) := by decide +kernel
theorem dX3_init_4 : decode cX3_init 4 = .ok (.aload_n 0, 1) := by decide +kernel
theorem dX3_init_5 : decode cX3_init 5 = .ok (.bipush 12, 2) := by decide +kernel
theorem dX3_init_7 : decode cX3_init 7 = .ok (.iconst 2, 1) := by decide +kernel
theorem dX3_init_8 : decode cX3_init 8 = .ok (.multianewarray 9 2, 4) := by decide +kernel
theorem dX3_init_12 : decode cX3_init 12 = .ok (.putfield 11, 3) := by decide +kernel
theorem dX3_init_15 : decode cX3_init 15 = .ok (.return_, 1) := by decide +kernel
theorem dX3_size_0 : decode cX3_size 0 = .ok (.aload_n 0, 1) := by decide +kernel
theorem dX3_size_1 : decode cX3_size 1 = .ok (.getfield 14, 3) := by decide +kernel
theorem dX3_size_4 : decode cX3_size 4 = .ok (.ireturn, 1) := by decide +kernel
theorem dX3_has_0 : decode cX3_has 0 = .ok (.iload_n 1, 1) := by decide +kernel
theorem dX3_has_1 : decode cX3_has 1 = .ok (.iconst 0, 1) := by decide +kernel
theorem dX3_has_2 : decode cX3_has 2 = .ok (.aload_n 0, 1) := by decide +kernel
theorem dX3_has_3 : decode cX3_has 3 = .ok (.getfield 14, 3) := by decide +kernel
theorem dX3_has_6 : decode cX3_has 6 = .ok (.iconst 1, 1) := by decide +kernel
theorem dX3_has_7 : decode cX3_has 7 = .ok (.isub, 1) := by decide +kernel
theorem dX3_has_8 : decode cX3_has 8 = .ok (.invokestatic 18, 3) := by decide +kernel
theorem dX3_has_11 : decode cX3_has 11 = .ok (.ifCond .eq 22, 3) := by decide +kernel
theorem dX3_has_14 : decode cX3_has 14 = .ok (.iload_n 1, 1) := by decide +kernel
theorem dX3_has_15 : decode cX3_has 15 = .ok (.bipush 12, 2) := by decide +kernel
theorem dX3_has_17 : decode cX3_has 17 = .ok (.if_icmp .ge 16, 3) := by decide +kernel
theorem dX3_has_20 : decode cX3_has 20 = .ok (.iload_n 2, 1) := by decide +kernel
theorem dX3_has_21 : decode cX3_has 21 = .ok (.iconst 0, 1) := by decide +kernel
theorem dX3_has_22 : decode cX3_has 22 = .ok (.iconst 1, 1) := by decide +kernel
theorem dX3_has_23 : decode cX3_has 23 = .ok (.invokestatic 18, 3) := by decide +kernel
theorem dX3_has_26 : decode cX3_has 26 = .ok (.ifCond .eq 7, 3) := by decide +kernel
theorem dX3_has_29 : decode cX3_has 29 = .ok (.iconst 1, 1) := by decide +kernel
theorem dX3_has_30 : decode cX3_has 30 = .ok (.goto 4, 3) := by decide +kernel
theorem dX3_has_33 : decode cX3_has 33 = .ok (.iconst 0, 1) := by decide +kernel
theorem dX3_has_34 : decode cX3_has 34 = .ok (.ireturn, 1) := by decide +kernel
theorem dX3_at_0 : decode cX3_at 0 = .ok (.aload_n 0, 1) := by decide +kernel
theorem dX3_at_1 : decode cX3_at 1 = .ok (.iload_n 1, 1) := by decide +kernel
theorem dX3_at_2 : decode cX3_at 2 = .ok (.iload_n 2, 1) := by decide +kernel
theorem dX3_at_3 : decode cX3_at 3 = .ok (.invokevirtual 24, 3) := by decide +kernel
theorem dX3_at_6 : decode cX3_at 6 = .ok (.ifCond .eq 14, 3) := by decide +kernel
theorem dX3_at_9 : decode cX3_at 9 = .ok (.aload_n 0, 1) := by decide +kernel
theorem dX3_at_10 : decode cX3_at 10 = .ok (.getfield 11, 3) := by decide +kernel
theorem dX3_at_13 : decode cX3_at 13 = .ok (.iload_n 1, 1) := by decide +kernel
theorem dX3_at_14 : decode cX3_at 14 = .ok (.aaload, 1) := by decide +kernel
theorem dX3_at_15 : decode cX3_at 15 = .ok (.iload_n 2, 1) := by decide +kernel
theorem dX3_at_16 : decode cX3_at 16 = .ok (.iaload, 1) := by decide +kernel
theorem dX3_at_17 : decode cX3_at 17 = .ok (.goto 4, 3) := by decide +kernel
theorem dX3_at_20 : decode cX3_at 20 = .ok (.iconst 0, 1) := by decide +kernel
theorem dX3_at_21 : decode cX3_at 21 = .ok (.ireturn, 1) := by decide +kernel
theorem dX3_alter_0 : decode cX3_alter 0 = .ok (.aload_n 0, 1) := by decide +kernel
theorem dX3_alter_1 : decode cX3_alter 1 = .ok (.iload_n 1, 1) := by decide +kernel
theorem dX3_alter_2 : decode cX3_alter 2 = .ok (.iload_n 2, 1) := by decide +kernel
theorem dX3_alter_3 : decode cX3_alter 3 = .ok (.invokevirtual 24, 3) := by decide +kernel
theorem dX3_alter_6 : decode cX3_alter 6 = .ok (.ifCond .eq 12, 3) := by decide +kernel
theorem dX3_alter_9 : decode cX3_alter 9 = .ok (.aload_n 0, 1) := by decide +kernel
theorem dX3_alter_10 : decode cX3_alter 10 = .ok (.getfield 11, 3) := by decide +kernel
theorem dX3_alter_13 : decode cX3_alter 13 = .ok (.iload_n 1, 1) := by decide +kernel
theorem dX3_alter_14 : decode cX3_alter 14 = .ok (.aaload, 1) := by decide +kernel
theorem dX3_alter_15 : decode cX3_alter 15 = .ok (.iload_n 2, 1) := by decide +kernel
theorem dX3_alter_16 : decode cX3_alter 16 = .ok (.iload_n 3, 1) := by decide +kernel
theorem dX3_alter_17 : decode cX3_alter 17 = .ok (.iastore, 1) := by decide +kernel
theorem dX3_alter_18 : decode cX3_alter 18 = .ok (.return_, 1) := by decide +kernel
theorem dX3_becomeEmpty_0 : decode cX3_becomeEmpty 0 = .ok (.aload_n 0, 1) := by decide +kernel
theorem dX3_becomeEmpty_1 : decode cX3_becomeEmpty 1 = .ok (.iconst 0, 1) := by decide +kernel
theorem dX3_becomeEmpty_2 : decode cX3_becomeEmpty 2 = .ok (.putfield 14, 3) := by decide +kernel
theorem dX3_becomeEmpty_5 : decode cX3_becomeEmpty 5 = .ok (.return_, 1) := by decide +kernel
theorem dX3_add_0 : decode cX3_add 0 = .ok (.aload_n 0, 1) := by decide +kernel
theorem dX3_add_1 : decode cX3_add 1 = .ok (.getfield 14, 3) := by decide +kernel
theorem dX3_add_4 : decode cX3_add 4 = .ok (.ifCond .lt 46, 3) := by decide +kernel
theorem dX3_add_7 : decode cX3_add 7 = .ok (.aload_n 0, 1) := by decide +kernel
theorem dX3_add_8 : decode cX3_add 8 = .ok (.getfield 14, 3) := by decide +kernel
theorem dX3_add_11 : decode cX3_add 11 = .ok (.bipush 12, 2) := by decide +kernel
theorem dX3_add_13 : decode cX3_add 13 = .ok (.if_icmp .ge 37, 3) := by decide +kernel
theorem dX3_add_16 : decode cX3_add 16 = .ok (.aload_n 0, 1) := by decide +kernel
theorem dX3_add_17 : decode cX3_add 17 = .ok (.getfield 11, 3) := by decide +kernel
theorem dX3_add_20 : decode cX3_add 20 = .ok (.aload_n 0, 1) := by decide +kernel
theorem dX3_add_21 : decode cX3_add 21 = .ok (.getfield 14, 3) := by decide +kernel
theorem dX3_add_24 : decode cX3_add 24 = .ok (.aaload, 1) := by decide +kernel
theorem dX3_add_25 : decode cX3_add 25 = .ok (.iconst 0, 1) := by decide +kernel
theorem dX3_add_26 : decode cX3_add 26 = .ok (.iload_n 1, 1) := by decide +kernel
theorem dX3_add_27 : decode cX3_add 27 = .ok (.iastore, 1) := by decide +kernel
theorem dX3_add_28 : decode cX3_add 28 = .ok (.aload_n 0, 1) := by decide +kernel
theorem dX3_add_29 : decode cX3_add 29 = .ok (.getfield 11, 3) := by decide +kernel
theorem dX3_add_32 : decode cX3_add 32 = .ok (.aload_n 0, 1) := by decide +kernel
theorem dX3_add_33 : decode cX3_add 33 = .ok (.getfield 14, 3) := by decide +kernel
theorem dX3_add_36 : decode cX3_add 36 = .ok (.aaload, 1) := by decide +kernel
theorem dX3_add_37 : decode cX3_add 37 = .ok (.iconst 1, 1) := by decide +kernel
theorem dX3_add_38 : decode cX3_add 38 = .ok (.iload_n 2, 1) := by decide +kernel
theorem dX3_add_39 : decode cX3_add 39 = .ok (.iastore, 1) := by decide +kernel
theorem dX3_add_40 : decode cX3_add 40 = .ok (.aload_n 0, 1) := by decide +kernel
theorem dX3_add_41 : decode cX3_add 41 = .ok (.dup, 1) := by decide +kernel
theorem dX3_add_42 : decode cX3_add 42 = .ok (.getfield 14, 3) := by decide +kernel
theorem dX3_add_45 : decode cX3_add 45 = .ok (.iconst 1, 1) := by decide +kernel
theorem dX3_add_46 : decode cX3_add 46 = .ok (.iadd, 1) := by decide +kernel
theorem dX3_add_47 : decode cX3_add 47 = .ok (.putfield 14, 3) := by decide +kernel
theorem dX3_add_50 : decode cX3_add 50 = .ok (.return_, 1) := by decide +kernel
theorem dX3_tells_0 : decode cX3_tells 0 = .ok (.aload_n 0, 1) := by decide +kernel
theorem dX3_tells_1 : decode cX3_tells 1 = .ok (.iload_n 1, 1) := by decide +kernel
theorem dX3_tells_2 : decode cX3_tells 2 = .ok (.iconst 0, 1) := by decide +kernel
theorem dX3_tells_3 : decode cX3_tells 3 = .ok (.invokevirtual 28, 3) := by decide +kernel
theorem dX3_tells_6 : decode cX3_tells 6 = .ok (.iload_n 2, 1) := by decide +kernel
theorem dX3_tells_7 : decode cX3_tells 7 = .ok (.if_icmp .ne 17, 3) := by decide +kernel
theorem dX3_tells_10 : decode cX3_tells 10 = .ok (.aload_n 0, 1) := by decide +kernel
theorem dX3_tells_11 : decode cX3_tells 11 = .ok (.iload_n 1, 1) := by decide +kernel
theorem dX3_tells_12 : decode cX3_tells 12 = .ok (.iconst 1, 1) := by decide +kernel
theorem dX3_tells_13 : decode cX3_tells 13 = .ok (.invokevirtual 28, 3) := by decide +kernel
theorem dX3_tells_16 : decode cX3_tells 16 = .ok (.iload_n 3, 1) := by decide +kernel
theorem dX3_tells_17 : decode cX3_tells 17 = .ok (.if_icmp .ne 7, 3) := by decide +kernel
theorem dX3_tells_20 : decode cX3_tells 20 = .ok (.iconst 1, 1) := by decide +kernel
theorem dX3_tells_21 : decode cX3_tells 21 = .ok (.goto 4, 3) := by decide +kernel
theorem dX3_tells_24 : decode cX3_tells 24 = .ok (.iconst 0, 1) := by decide +kernel
theorem dX3_tells_25 : decode cX3_tells 25 = .ok (.ireturn, 1) := by decide +kernel
theorem dX4_init_0 : decode cX4_init 0 = .ok (.aload_n 0, 1) := by decide +kernel
theorem dX4_init_1 : decode cX4_init 1 = .ok (.invokespecial 1, 3) := by decide +kernel
theorem dX4_init_4 : decode cX4_init 4 = .ok (.aload_n 0, 1) := by decide +kernel
theorem dX4_init_5 : decode cX4_init 5 = .ok (.bipush 6, 2) := by decide +kernel
theorem dX4_init_7 : decode cX4_init 7 = .ok (.anewarray 9, 3) := by decide +kernel
theorem dX4_init_10 : decode cX4_init 10 = .ok (.putfield 11, 3) := by decide +kernel
theorem dX4_init_13 : decode cX4_init 13 = .ok (.iconst 0, 1) := by decide +kernel
theorem dX4_init_14 : decode cX4_init 14 = .ok (.istore_n 1, 1) := by decide +kernel
theorem dX4_init_15 : decode cX4_init 15 = .ok (.iload_n 1, 1) := by decide +kernel
theorem dX4_init_16 : decode cX4_init 16 = .ok (.bipush 6, 2) := by decide +kernel
theorem dX4_init_18 : decode cX4_init 18 = .ok (.if_icmp .ge 22, 3) := by decide +kernel
theorem dX4_init_21 : decode cX4_init 21 = .ok (.aload_n 0, 1) := by decide +kernel
theorem dX4_init_22 : decode cX4_init 22 = .ok (.getfield 11, 3) := by decide +kernel
theorem dX4_init_25 : decode cX4_init 25 = .ok (.iload_n 1, 1) := by decide +kernel
theorem dX4_init_26 : decode cX4_init 26 = .ok (.new 9, 3) := by decide +kernel
theorem dX4_init_29 : decode cX4_init 29 = .ok (.dup, 1) := by decide +kernel
theorem dX4_init_30 : decode cX4_init 30 = .ok (.invokespecial 15, 3) := by decide +kernel
theorem dX4_init_33 : decode cX4_init 33 = .ok (.aastore, 1) := by decide +kernel
theorem dX4_init_34 : decode cX4_init 34 = .ok (.iinc 1 1, 3) := by decide +kernel
theorem dX4_init_37 : decode cX4_init 37 = .ok (.goto (-22), 3) := by decide +kernel
theorem dX4_init_40 : decode cX4_init 40 = .ok (.return_, 1) := by decide +kernel
theorem dX4_size_0 : decode cX4_size 0 = .ok (.aload_n 0, 1) := by decide +kernel
theorem dX4_size_1 : decode cX4_size 1 = .ok (.getfield 16, 3) := by decide +kernel
theorem dX4_size_4 : decode cX4_size 4 = .ok (.ireturn, 1) := by decide +kernel
theorem dX4_at_0 : decode cX4_at 0 = .ok (.iload_n 1, 1) := by decide +kernel
theorem dX4_at_1 : decode cX4_at 1 = .ok (.ifCond .lt 26, 3) := by decide +kernel
theorem dX4_at_4 : decode cX4_at 4 = .ok (.iload_n 1, 1) := by decide +kernel
theorem dX4_at_5 : decode cX4_at 5 = .ok (.aload_n 0, 1) := by decide +kernel
theorem dX4_at_6 : decode cX4_at 6 = .ok (.getfield 16, 3) := by decide +kernel
theorem dX4_at_9 : decode cX4_at 9 = .ok (.if_icmp .ge 18, 3) := by decide +kernel
theorem dX4_at_12 : decode cX4_at 12 = .ok (.iload_n 1, 1) := by decide +kernel
theorem dX4_at_13 : decode cX4_at 13 = .ok (.bipush 6, 2) := by decide +kernel
theorem dX4_at_15 : decode cX4_at 15 = .ok (.if_icmp .ge 12, 3) := by decide +kernel
theorem dX4_at_18 : decode cX4_at 18 = .ok (.aload_n 0, 1) := by decide +kernel
theorem dX4_at_19 : decode cX4_at 19 = .ok (.getfield 11, 3) := by decide +kernel
theorem dX4_at_22 : decode cX4_at 22 = .ok (.iload_n 1, 1) := by decide +kernel
theorem dX4_at_23 : decode cX4_at 23 = .ok (.aaload, 1) := by decide +kernel
theorem dX4_at_24 : decode cX4_at 24 = .ok (.goto 4, 3) := by decide +kernel
theorem dX4_at_27 : decode cX4_at 27 = .ok (.aconst_null, 1) := by decide +kernel
theorem dX4_at_28 : decode cX4_at 28 = .ok (.areturn, 1) := by decide +kernel
theorem dX4_add_0 : decode cX4_add 0 = .ok (.aload_n 0, 1) := by decide +kernel
theorem dX4_add_1 : decode cX4_add 1 = .ok (.getfield 16, 3) := by decide +kernel
theorem dX4_add_4 : decode cX4_add 4 = .ok (.ifCond .lt 24, 3) := by decide +kernel
theorem dX4_add_7 : decode cX4_add 7 = .ok (.aload_n 0, 1) := by decide +kernel
theorem dX4_add_8 : decode cX4_add 8 = .ok (.getfield 16, 3) := by decide +kernel
theorem dX4_add_11 : decode cX4_add 11 = .ok (.bipush 6, 2) := by decide +kernel
theorem dX4_add_13 : decode cX4_add 13 = .ok (.if_icmp .ge 15, 3) := by decide +kernel
theorem dX4_add_16 : decode cX4_add 16 = .ok (.aload_n 0, 1) := by decide +kernel
theorem dX4_add_17 : decode cX4_add 17 = .ok (.getfield 11, 3) := by decide +kernel
theorem dX4_add_20 : decode cX4_add 20 = .ok (.aload_n 0, 1) := by decide +kernel
theorem dX4_add_21 : decode cX4_add 21 = .ok (.getfield 16, 3) := by decide +kernel
theorem dX4_add_24 : decode cX4_add 24 = .ok (.aaload, 1) := by decide +kernel
theorem dX4_add_25 : decode cX4_add 25 = .ok (.ifnonnull 5, 3) := by decide +kernel
theorem dX4_add_28 : decode cX4_add 28 = .ok (.iconst 0, 1) := by decide +kernel
theorem dX4_add_29 : decode cX4_add 29 = .ok (.ireturn, 1) := by decide +kernel
theorem dX4_add_30 : decode cX4_add 30 = .ok (.aload_n 0, 1) := by decide +kernel
theorem dX4_add_31 : decode cX4_add 31 = .ok (.getfield 11, 3) := by decide +kernel
theorem dX4_add_34 : decode cX4_add 34 = .ok (.aload_n 0, 1) := by decide +kernel
theorem dX4_add_35 : decode cX4_add 35 = .ok (.getfield 16, 3) := by decide +kernel
theorem dX4_add_38 : decode cX4_add 38 = .ok (.aaload, 1) := by decide +kernel
theorem dX4_add_39 : decode cX4_add 39 = .ok (.aload_n 1, 1) := by decide +kernel
theorem dX4_add_40 : decode cX4_add 40 = .ok (.invokevirtual 20, 3) := by decide +kernel
theorem dX4_add_43 : decode cX4_add 43 = .ok (.aload_n 0, 1) := by decide +kernel
theorem dX4_add_44 : decode cX4_add 44 = .ok (.dup, 1) := by decide +kernel
theorem dX4_add_45 : decode cX4_add 45 = .ok (.getfield 16, 3) := by decide +kernel
theorem dX4_add_48 : decode cX4_add 48 = .ok (.iconst 1, 1) := by decide +kernel
theorem dX4_add_49 : decode cX4_add 49 = .ok (.iadd, 1) := by decide +kernel
theorem dX4_add_50 : decode cX4_add 50 = .ok (.putfield 16, 3) := by decide +kernel
theorem dX4_add_53 : decode cX4_add 53 = .ok (.iconst 1, 1) := by decide +kernel
theorem dX4_add_54 : decode cX4_add 54 = .ok (.ireturn, 1) := by decide +kernel
theorem dX4_becomeLike_0 : decode cX4_becomeLike 0 = .ok (.aload_n 0, 1) := by decide +kernel
theorem dX4_becomeLike_1 : decode cX4_becomeLike 1 = .ok (.iconst 0, 1) := by decide +kernel
theorem dX4_becomeLike_2 : decode cX4_becomeLike 2 = .ok (.putfield 16, 3) := by decide +kernel
theorem dX4_becomeLike_5 : decode cX4_becomeLike 5 = .ok (.iconst 0, 1) := by decide +kernel
theorem dX4_becomeLike_6 : decode cX4_becomeLike 6 = .ok (.istore_n 2, 1) := by decide +kernel
theorem dX4_becomeLike_7 : decode cX4_becomeLike 7 = .ok (.iload_n 2, 1) := by decide +kernel
theorem dX4_becomeLike_8 : decode cX4_becomeLike 8 = .ok (.aload_n 1, 1) := by decide +kernel
theorem dX4_becomeLike_9 : decode cX4_becomeLike 9 = .ok (.getfield 16, 3) := by decide +kernel
theorem dX4_becomeLike_12 : decode cX4_becomeLike 12 = .ok (.if_icmp .ge 31, 3) := by decide +kernel
theorem dX4_becomeLike_15 : decode cX4_becomeLike 15 = .ok (.iload_n 2, 1) := by decide +kernel
theorem dX4_becomeLike_16 : decode cX4_becomeLike 16 = .ok (.bipush 6, 2) := by decide +kernel
theorem dX4_becomeLike_18 : decode cX4_becomeLike 18 = .ok (.if_icmp .ge 25, 3) := by decide +kernel
theorem dX4_becomeLike_21 : decode cX4_becomeLike 21 = .ok (.aload_n 1, 1) := by decide +kernel
theorem dX4_becomeLike_22 : decode cX4_becomeLike 22 = .ok (.iload_n 2, 1) := by decide +kernel
theorem dX4_becomeLike_23 : decode cX4_becomeLike 23 = .ok (.invokevirtual 24, 3) := by decide +kernel
theorem dX4_becomeLike_26 : decode cX4_becomeLike 26 = .ok (.astore_n 3, 1) := by decide +kernel
theorem dX4_becomeLike_27 : decode cX4_becomeLike 27 = .ok (.aload_n 3, 1) := by decide +kernel
theorem dX4_becomeLike_28 : decode cX4_becomeLike 28 = .ok (.ifnull 9, 3) := by decide +kernel
theorem dX4_becomeLike_31 : decode cX4_becomeLike 31 = .ok (.aload_n 0, 1) := by decide +kernel
theorem dX4_becomeLike_32 : decode cX4_becomeLike 32 = .ok (.aload_n 3, 1) := by decide +kernel
theorem dX4_becomeLike_33 : decode cX4_becomeLike 33 = .ok (.invokevirtual 28, 3) := by decide +kernel
theorem dX4_becomeLike_36 : decode cX4_becomeLike 36 = .ok (.pop, 1) := by decide +kernel
theorem dX4_becomeLike_37 : decode cX4_becomeLike 37 = .ok (.iinc 2 1, 3) := by decide +kernel
theorem dX4_becomeLike_40 : decode cX4_becomeLike 40 = .ok (.goto (-33), 3) := by decide +kernel
theorem dX4_becomeLike_43 : decode cX4_becomeLike 43 = .ok (.return_, 1) := by decide +kernel
theorem dX5_init_0 : decode cX5_init 0 = .ok (.aload_n 0, 1) := by decide +kernel
theorem dX5_init_1 : decode cX5_init 1 = .ok (.invokespecial 1, 3) := by decide +kernel
theorem dX5_init_4 : decode cX5_init 4 = .ok (.aload_n 0, 1) := by decide +kernel
theorem dX5_init_5 : decode cX5_init 5 = .ok (.iconst 4, 1) := by decide +kernel
theorem dX5_init_6 : decode cX5_init 6 = .ok (.newarray .int, 2) := by decide +kernel
theorem dX5_init_8 : decode cX5_init 8 = .ok (.dup, 1) := by decide +kernel
theorem dX5_init_9 : decode cX5_init 9 = .ok (.iconst 0, 1) := by decide +kernel
theorem dX5_init_10 : decode cX5_init 10 = .ok (.iconst (-1), 1) := by decide +kernel
theorem dX5_init_11 : decode cX5_init 11 = .ok (.iastore, 1) := by decide +kernel
theorem dX5_init_12 : decode cX5_init 12 = .ok (.dup, 1) := by decide +kernel
theorem dX5_init_13 : decode cX5_init 13 = .ok (.iconst 1, 1) := by decide +kernel
theorem dX5_init_14 : decode cX5_init 14 = .ok (.iconst (-1), 1) := by decide +kernel
theorem dX5_init_15 : decode cX5_init 15 = .ok (.iastore, 1) := by decide +kernel
theorem dX5_init_16 : decode cX5_init 16 = .ok (.dup, 1) := by decide +kernel
theorem dX5_init_17 : decode cX5_init 17 = .ok (.iconst 2, 1) := by decide +kernel
theorem dX5_init_18 : decode cX5_init 18 = .ok (.iconst (-1), 1) := by decide +kernel
theorem dX5_init_19 : decode cX5_init 19 = .ok (.iastore, 1) := by decide +kernel
theorem dX5_init_20 : decode cX5_init 20 = .ok (.dup, 1) := by decide +kernel
theorem dX5_init_21 : decode cX5_init 21 = .ok (.iconst 3, 1) := by decide +kernel
theorem dX5_init_22 : decode cX5_init 22 = .ok (.iconst (-1), 1) := by decide +kernel
theorem dX5_init_23 : decode cX5_init 23 = .ok (.iastore, 1) := by decide +kernel
theorem dX5_init_24 : decode cX5_init 24 = .ok (.putfield 9, 3) := by decide +kernel
theorem dX5_init_27 : decode cX5_init 27 = .ok (.aload_n 0, 1) := by decide +kernel
theorem dX5_init_28 : decode cX5_init 28 = .ok (.iconst 4, 1) := by decide +kernel
theorem dX5_init_29 : decode cX5_init 29 = .ok (.newarray .int, 2) := by decide +kernel
theorem dX5_init_31 : decode cX5_init 31 = .ok (.putfield 13, 3) := by decide +kernel
theorem dX5_init_34 : decode cX5_init 34 = .ok (.aload_n 0, 1) := by decide +kernel
theorem dX5_init_35 : decode cX5_init 35 = .ok (.iconst 4, 1) := by decide +kernel
theorem dX5_init_36 : decode cX5_init 36 = .ok (.bipush 40, 2) := by decide +kernel
theorem dX5_init_38 : decode cX5_init 38 = .ok (.multianewarray 16 2, 4) := by decide +kernel
theorem dX5_init_42 : decode cX5_init 42 = .ok (.putfield 18, 3) := by decide +kernel
theorem dX5_init_45 : decode cX5_init 45 = .ok (.return_, 1) := by decide +kernel
theorem dX5_isSheet_0 : decode cX5_isSheet 0 = .ok (.iload_n 1, 1) := by decide +kernel
theorem dX5_isSheet_1 : decode cX5_isSheet 1 = .ok (.ifCond .lt 12, 3) := by decide +kernel
theorem dX5_isSheet_4 : decode cX5_isSheet 4 = .ok (.iload_n 1, 1) := by decide +kernel
theorem dX5_isSheet_5 : decode cX5_isSheet 5 = .ok (.iconst 4, 1) := by decide +kernel
theorem dX5_isSheet_6 : decode cX5_isSheet 6 = .ok (.if_icmp .ge 7, 3) := by decide +kernel
theorem dX5_isSheet_9 : decode cX5_isSheet 9 = .ok (.iconst 1, 1) := by decide +kernel
theorem dX5_isSheet_10 : decode cX5_isSheet 10 = .ok (.goto 4, 3) := by decide +kernel
theorem dX5_isSheet_13 : decode cX5_isSheet 13 = .ok (.iconst 0, 1) := by decide +kernel
theorem dX5_isSheet_14 : decode cX5_isSheet 14 = .ok (.ireturn, 1) := by decide +kernel
theorem dX5_has_0 : decode cX5_has 0 = .ok (.aload_n 0, 1) := by decide +kernel
theorem dX5_has_1 : decode cX5_has 1 = .ok (.iload_n 1, 1) := by decide +kernel
theorem dX5_has_2 : decode cX5_has 2 = .ok (.invokevirtual 21, 3) := by decide +kernel
theorem dX5_has_5 : decode cX5_has 5 = .ok (.ifCond .eq 29, 3) := by decide +kernel
theorem dX5_has_8 : decode cX5_has 8 = .ok (.iload_n 2, 1) := by decide +kernel
theorem dX5_has_9 : decode cX5_has 9 = .ok (.iconst 0, 1) := by decide +kernel
theorem dX5_has_10 : decode cX5_has 10 = .ok (.aload_n 0, 1) := by decide +kernel
theorem dX5_has_11 : decode cX5_has 11 = .ok (.getfield 13, 3) := by decide +kernel
theorem dX5_has_14 : decode cX5_has 14 = .ok (.iload_n 1, 1) := by decide +kernel
theorem dX5_has_15 : decode cX5_has 15 = .ok (.iaload, 1) := by decide +kernel
theorem dX5_has_16 : decode cX5_has 16 = .ok (.iconst 1, 1) := by decide +kernel
theorem dX5_has_17 : decode cX5_has 17 = .ok (.isub, 1) := by decide +kernel
theorem dX5_has_18 : decode cX5_has 18 = .ok (.invokestatic 25, 3) := by decide +kernel
theorem dX5_has_21 : decode cX5_has 21 = .ok (.ifCond .eq 13, 3) := by decide +kernel
theorem dX5_has_24 : decode cX5_has 24 = .ok (.iload_n 2, 1) := by decide +kernel
theorem dX5_has_25 : decode cX5_has 25 = .ok (.bipush 40, 2) := by decide +kernel
theorem dX5_has_27 : decode cX5_has 27 = .ok (.if_icmp .ge 7, 3) := by decide +kernel
theorem dX5_has_30 : decode cX5_has 30 = .ok (.iconst 1, 1) := by decide +kernel
theorem dX5_has_31 : decode cX5_has 31 = .ok (.goto 4, 3) := by decide +kernel
theorem dX5_has_34 : decode cX5_has 34 = .ok (.iconst 0, 1) := by decide +kernel
theorem dX5_has_35 : decode cX5_has 35 = .ok (.ireturn, 1) := by decide +kernel
theorem dX5_sortOf_0 : decode cX5_sortOf 0 = .ok (.aload_n 0, 1) := by decide +kernel
theorem dX5_sortOf_1 : decode cX5_sortOf 1 = .ok (.iload_n 1, 1) := by decide +kernel
theorem dX5_sortOf_2 : decode cX5_sortOf 2 = .ok (.invokevirtual 21, 3) := by decide +kernel
theorem dX5_sortOf_5 : decode cX5_sortOf 5 = .ok (.ifCond .eq 12, 3) := by decide +kernel
theorem dX5_sortOf_8 : decode cX5_sortOf 8 = .ok (.aload_n 0, 1) := by decide +kernel
theorem dX5_sortOf_9 : decode cX5_sortOf 9 = .ok (.getfield 9, 3) := by decide +kernel
theorem dX5_sortOf_12 : decode cX5_sortOf 12 = .ok (.iload_n 1, 1) := by decide +kernel
theorem dX5_sortOf_13 : decode cX5_sortOf 13 = .ok (.iaload, 1) := by decide +kernel
theorem dX5_sortOf_14 : decode cX5_sortOf 14 = .ok (.goto 4, 3) := by decide +kernel
theorem dX5_sortOf_17 : decode cX5_sortOf 17 = .ok (.iconst (-1), 1) := by decide +kernel
theorem dX5_sortOf_18 : decode cX5_sortOf 18 = .ok (.ireturn, 1) := by decide +kernel
theorem dX5_sizeOf_0 : decode cX5_sizeOf 0 = .ok (.aload_n 0, 1) := by decide +kernel
theorem dX5_sizeOf_1 : decode cX5_sizeOf 1 = .ok (.iload_n 1, 1) := by decide +kernel
theorem dX5_sizeOf_2 : decode cX5_sizeOf 2 = .ok (.invokevirtual 21, 3) := by decide +kernel
theorem dX5_sizeOf_5 : decode cX5_sizeOf 5 = .ok (.ifCond .eq 12, 3) := by decide +kernel
theorem dX5_sizeOf_8 : decode cX5_sizeOf 8 = .ok (.aload_n 0, 1) := by decide +kernel
theorem dX5_sizeOf_9 : decode cX5_sizeOf 9 = .ok (.getfield 13, 3) := by decide +kernel
theorem dX5_sizeOf_12 : decode cX5_sizeOf 12 = .ok (.iload_n 1, 1) := by decide +kernel
theorem dX5_sizeOf_13 : decode cX5_sizeOf 13 = .ok (.iaload, 1) := by decide +kernel
theorem dX5_sizeOf_14 : decode cX5_sizeOf 14 = .ok (.goto 4, 3) := by decide +kernel
theorem dX5_sizeOf_17 : decode cX5_sizeOf 17 = .ok (.iconst 0, 1) := by decide +kernel
theorem dX5_sizeOf_18 : decode cX5_sizeOf 18 = .ok (.ireturn, 1) := by decide +kernel
theorem dX5_becomeMissing_0 : decode cX5_becomeMissing 0 = .ok (.aload_n 0, 1) := by decide +kernel
theorem dX5_becomeMissing_1 : decode cX5_becomeMissing 1 = .ok (.iload_n 1, 1) := by decide +kernel
theorem dX5_becomeMissing_2 : decode cX5_becomeMissing 2 = .ok (.invokevirtual 21, 3) := by decide +kernel
theorem dX5_becomeMissing_5 : decode cX5_becomeMissing 5 = .ok (.ifCond .eq 17, 3) := by decide +kernel
theorem dX5_becomeMissing_8 : decode cX5_becomeMissing 8 = .ok (.aload_n 0, 1) := by decide +kernel
theorem dX5_becomeMissing_9 : decode cX5_becomeMissing 9 = .ok (.getfield 9, 3) := by decide +kernel
theorem dX5_becomeMissing_12 : decode cX5_becomeMissing 12 = .ok (.iload_n 1, 1) := by decide +kernel
theorem dX5_becomeMissing_13 : decode cX5_becomeMissing 13 = .ok (.iconst (-1), 1) := by decide +kernel
theorem dX5_becomeMissing_14 : decode cX5_becomeMissing 14 = .ok (.iastore, 1) := by decide +kernel
theorem dX5_becomeMissing_15 : decode cX5_becomeMissing 15 = .ok (.aload_n 0, 1) := by decide +kernel
theorem dX5_becomeMissing_16 : decode cX5_becomeMissing 16 = .ok (.getfield 13, 3) := by decide +kernel
theorem dX5_becomeMissing_19 : decode cX5_becomeMissing 19 = .ok (.iload_n 1, 1) := by decide +kernel
theorem dX5_becomeMissing_20 : decode cX5_becomeMissing 20 = .ok (.iconst 0, 1) := by decide +kernel
theorem dX5_becomeMissing_21 : decode cX5_becomeMissing 21 = .ok (.iastore, 1) := by decide +kernel
theorem dX5_becomeMissing_22 : decode cX5_becomeMissing 22 = .ok (.return_, 1) := by decide +kernel
theorem dX5_becomeRow_0 : decode cX5_becomeRow 0 = .ok (.aload_n 0, 1) := by decide +kernel
theorem dX5_becomeRow_1 : decode cX5_becomeRow 1 = .ok (.iload_n 1, 1) := by decide +kernel
theorem dX5_becomeRow_2 : decode cX5_becomeRow 2 = .ok (.invokevirtual 21, 3) := by decide +kernel
theorem dX5_becomeRow_5 : decode cX5_becomeRow 5 = .ok (.ifCond .eq 43, 3) := by decide +kernel
theorem dX5_becomeRow_8 : decode cX5_becomeRow 8 = .ok (.aload_n 0, 1) := by decide +kernel
theorem dX5_becomeRow_9 : decode cX5_becomeRow 9 = .ok (.getfield 9, 3) := by decide +kernel
theorem dX5_becomeRow_12 : decode cX5_becomeRow 12 = .ok (.iload_n 1, 1) := by decide +kernel
theorem dX5_becomeRow_13 : decode cX5_becomeRow 13 = .ok (.iload_n 2, 1) := by decide +kernel
theorem dX5_becomeRow_14 : decode cX5_becomeRow 14 = .ok (.iastore, 1) := by decide +kernel
theorem dX5_becomeRow_15 : decode cX5_becomeRow 15 = .ok (.aload_n 0, 1) := by decide +kernel
theorem dX5_becomeRow_16 : decode cX5_becomeRow 16 = .ok (.getfield 13, 3) := by decide +kernel
theorem dX5_becomeRow_19 : decode cX5_becomeRow 19 = .ok (.iload_n 1, 1) := by decide +kernel
theorem dX5_becomeRow_20 : decode cX5_becomeRow 20 = .ok (.iload_n 3, 1) := by decide +kernel
theorem dX5_becomeRow_21 : decode cX5_becomeRow 21 = .ok (.iastore, 1) := by decide +kernel
theorem dX5_becomeRow_22 : decode cX5_becomeRow 22 = .ok (.iconst 0, 1) := by decide +kernel
theorem dX5_becomeRow_23 : decode cX5_becomeRow 23 = .ok (.istore 4, 2) := by decide +kernel
theorem dX5_becomeRow_25 : decode cX5_becomeRow 25 = .ok (.iload 4, 2) := by decide +kernel
theorem dX5_becomeRow_27 : decode cX5_becomeRow 27 = .ok (.bipush 40, 2) := by decide +kernel
theorem dX5_becomeRow_29 : decode cX5_becomeRow 29 = .ok (.if_icmp .ge 19, 3) := by decide +kernel
theorem dX5_becomeRow_32 : decode cX5_becomeRow 32 = .ok (.aload_n 0, 1) := by decide +kernel
theorem dX5_becomeRow_33 : decode cX5_becomeRow 33 = .ok (.getfield 18, 3) := by decide +kernel
theorem dX5_becomeRow_36 : decode cX5_becomeRow 36 = .ok (.iload_n 1, 1) := by decide +kernel
theorem dX5_becomeRow_37 : decode cX5_becomeRow 37 = .ok (.aaload, 1) := by decide +kernel
theorem dX5_becomeRow_38 : decode cX5_becomeRow 38 = .ok (.iload 4, 2) := by decide +kernel
theorem dX5_becomeRow_40 : decode cX5_becomeRow 40 = .ok (.iconst 0, 1) := by decide +kernel
theorem dX5_becomeRow_41 : decode cX5_becomeRow 41 = .ok (.iastore, 1) := by decide +kernel
theorem dX5_becomeRow_42 : decode cX5_becomeRow 42 = .ok (.iinc 4 1, 3) := by decide +kernel
theorem dX5_becomeRow_45 : decode cX5_becomeRow 45 = .ok (.goto (-20), 3) := by decide +kernel
theorem dX5_becomeRow_48 : decode cX5_becomeRow 48 = .ok (.return_, 1) := by decide +kernel
theorem dX5_at_0 : decode cX5_at 0 = .ok (.aload_n 0, 1) := by decide +kernel
theorem dX5_at_1 : decode cX5_at 1 = .ok (.iload_n 1, 1) := by decide +kernel
theorem dX5_at_2 : decode cX5_at 2 = .ok (.iload_n 2, 1) := by decide +kernel
theorem dX5_at_3 : decode cX5_at 3 = .ok (.invokevirtual 31, 3) := by decide +kernel
theorem dX5_at_6 : decode cX5_at 6 = .ok (.ifCond .eq 14, 3) := by decide +kernel
theorem dX5_at_9 : decode cX5_at 9 = .ok (.aload_n 0, 1) := by decide +kernel
theorem dX5_at_10 : decode cX5_at 10 = .ok (.getfield 18, 3) := by decide +kernel
theorem dX5_at_13 : decode cX5_at 13 = .ok (.iload_n 1, 1) := by decide +kernel
theorem dX5_at_14 : decode cX5_at 14 = .ok (.aaload, 1) := by decide +kernel
theorem dX5_at_15 : decode cX5_at 15 = .ok (.iload_n 2, 1) := by decide +kernel
theorem dX5_at_16 : decode cX5_at 16 = .ok (.iaload, 1) := by decide +kernel
theorem dX5_at_17 : decode cX5_at 17 = .ok (.goto 4, 3) := by decide +kernel
theorem dX5_at_20 : decode cX5_at 20 = .ok (.iconst 0, 1) := by decide +kernel
theorem dX5_at_21 : decode cX5_at 21 = .ok (.ireturn, 1) := by decide +kernel
theorem dX5_putNarrowed_0 : decode cX5_putNarrowed 0 = .ok (.aload_n 0, 1) := by decide +kernel
theorem dX5_putNarrowed_1 : decode cX5_putNarrowed 1 = .ok (.iload_n 1, 1) := by decide +kernel
theorem dX5_putNarrowed_2 : decode cX5_putNarrowed 2 = .ok (.iload_n 2, 1) := by decide +kernel
theorem dX5_putNarrowed_3 : decode cX5_putNarrowed 3 = .ok (.invokevirtual 31, 3) := by decide +kernel
theorem dX5_putNarrowed_6 : decode cX5_putNarrowed 6 = .ok (.ifCond .eq 21, 3) := by decide +kernel
theorem dX5_putNarrowed_9 : decode cX5_putNarrowed 9 = .ok (.aload_n 0, 1) := by decide +kernel
theorem dX5_putNarrowed_10 : decode cX5_putNarrowed 10 = .ok (.getfield 18, 3) := by decide +kernel
theorem dX5_putNarrowed_13 : decode cX5_putNarrowed 13 = .ok (.iload_n 1, 1) := by decide +kernel
theorem dX5_putNarrowed_14 : decode cX5_putNarrowed 14 = .ok (.aaload, 1) := by decide +kernel
theorem dX5_putNarrowed_15 : decode cX5_putNarrowed 15 = .ok (.iload_n 2, 1) := by decide +kernel
theorem dX5_putNarrowed_16 : decode cX5_putNarrowed 16 = .ok (.aload_n 0, 1) := by decide +kernel
theorem dX5_putNarrowed_17 : decode cX5_putNarrowed 17 = .ok (.getfield 9, 3) := by decide +kernel
theorem dX5_putNarrowed_20 : decode cX5_putNarrowed 20 = .ok (.iload_n 1, 1) := by decide +kernel
theorem dX5_putNarrowed_21 : decode cX5_putNarrowed 21 = .ok (.iaload, 1) := by decide +kernel
theorem dX5_putNarrowed_22 : decode cX5_putNarrowed 22 = .ok (.iload_n 3, 1) := by decide +kernel
theorem dX5_putNarrowed_23 : decode cX5_putNarrowed 23 = .ok (.invokestatic 35, 3) := by decide +kernel
theorem dX5_putNarrowed_26 : decode cX5_putNarrowed 26 = .ok (.iastore, 1) := by decide +kernel
theorem dX5_putNarrowed_27 : decode cX5_putNarrowed 27 = .ok (.return_, 1) := by decide +kernel
theorem dX5_narrowed_0 : decode cX5_narrowed 0 = .ok (.iload_n 0, 1) := by decide +kernel
theorem dX5_narrowed_1 : decode cX5_narrowed 1 = .ok (.tableswitch 51 0 4 #[35, 38, 51, 51, 41], 35) := by decide +kernel
theorem dX5_narrowed_36 : decode cX5_narrowed 36 = .ok (.iload_n 1, 1) := by decide +kernel
theorem dX5_narrowed_37 : decode cX5_narrowed 37 = .ok (.i2b, 1) := by decide +kernel
theorem dX5_narrowed_38 : decode cX5_narrowed 38 = .ok (.ireturn, 1) := by decide +kernel
theorem dX5_narrowed_39 : decode cX5_narrowed 39 = .ok (.iload_n 1, 1) := by decide +kernel
theorem dX5_narrowed_40 : decode cX5_narrowed 40 = .ok (.i2s, 1) := by decide +kernel
theorem dX5_narrowed_41 : decode cX5_narrowed 41 = .ok (.ireturn, 1) := by decide +kernel
theorem dX5_narrowed_42 : decode cX5_narrowed 42 = .ok (.iload_n 1, 1) := by decide +kernel
theorem dX5_narrowed_43 : decode cX5_narrowed 43 = .ok (.ifCond .eq 7, 3) := by decide +kernel
theorem dX5_narrowed_46 : decode cX5_narrowed 46 = .ok (.iconst 1, 1) := by decide +kernel
theorem dX5_narrowed_47 : decode cX5_narrowed 47 = .ok (.goto 4, 3) := by decide +kernel
theorem dX5_narrowed_50 : decode cX5_narrowed 50 = .ok (.iconst 0, 1) := by decide +kernel
theorem dX5_narrowed_51 : decode cX5_narrowed 51 = .ok (.ireturn, 1) := by decide +kernel
theorem dX5_narrowed_52 : decode cX5_narrowed 52 = .ok (.iload_n 1, 1) := by decide +kernel
theorem dX5_narrowed_53 : decode cX5_narrowed 53 = .ok (.ireturn, 1) := by decide +kernel
theorem dX6_init_0 : decode cX6_init 0 = .ok (.aload_n 0, 1) := by decide +kernel
theorem dX6_init_1 : decode cX6_init 1 = .ok (.invokespecial 1, 3) := by decide +kernel
theorem dX6_init_4 : decode cX6_init 4 = .ok (.aload_n 0, 1) := by decide +kernel
theorem dX6_init_5 : decode cX6_init 5 = .ok (.iconst 4, 1) := by decide +kernel
theorem dX6_init_6 : decode cX6_init 6 = .ok (.newarray .int, 2) := by decide +kernel
theorem dX6_init_8 : decode cX6_init 8 = .ok (.dup, 1) := by decide +kernel
theorem dX6_init_9 : decode cX6_init 9 = .ok (.iconst 0, 1) := by decide +kernel
theorem dX6_init_10 : decode cX6_init 10 = .ok (.iconst 3, 1) := by decide +kernel
theorem dX6_init_11 : decode cX6_init 11 = .ok (.iastore, 1) := by decide +kernel
theorem dX6_init_12 : decode cX6_init 12 = .ok (.dup, 1) := by decide +kernel
theorem dX6_init_13 : decode cX6_init 13 = .ok (.iconst 1, 1) := by decide +kernel
theorem dX6_init_14 : decode cX6_init 14 = .ok (.iconst 3, 1) := by decide +kernel
theorem dX6_init_15 : decode cX6_init 15 = .ok (.iastore, 1) := by decide +kernel
theorem dX6_init_16 : decode cX6_init 16 = .ok (.dup, 1) := by decide +kernel
theorem dX6_init_17 : decode cX6_init 17 = .ok (.iconst 2, 1) := by decide +kernel
theorem dX6_init_18 : decode cX6_init 18 = .ok (.iconst 3, 1) := by decide +kernel
theorem dX6_init_19 : decode cX6_init 19 = .ok (.iastore, 1) := by decide +kernel
theorem dX6_init_20 : decode cX6_init 20 = .ok (.dup, 1) := by decide +kernel
theorem dX6_init_21 : decode cX6_init 21 = .ok (.iconst 3, 1) := by decide +kernel
theorem dX6_init_22 : decode cX6_init 22 = .ok (.iconst 3, 1) := by decide +kernel
theorem dX6_init_23 : decode cX6_init 23 = .ok (.iastore, 1) := by decide +kernel
theorem dX6_init_24 : decode cX6_init 24 = .ok (.putfield 9, 3) := by decide +kernel
theorem dX6_init_27 : decode cX6_init 27 = .ok (.aload_n 0, 1) := by decide +kernel
theorem dX6_init_28 : decode cX6_init 28 = .ok (.iconst 4, 1) := by decide +kernel
theorem dX6_init_29 : decode cX6_init 29 = .ok (.newarray .int, 2) := by decide +kernel
theorem dX6_init_31 : decode cX6_init 31 = .ok (.putfield 13, 3) := by decide +kernel
theorem dX6_init_34 : decode cX6_init 34 = .ok (.aload_n 0, 1) := by decide +kernel
theorem dX6_init_35 : decode cX6_init 35 = .ok (.iconst 4, 1) := by decide +kernel
theorem dX6_init_36 : decode cX6_init 36 = .ok (.newarray .int, 2) := by decide +kernel
theorem dX6_init_38 : decode cX6_init 38 = .ok (.putfield 16, 3) := by decide +kernel
theorem dX6_init_41 : decode cX6_init 41 = .ok (.return_, 1) := by decide +kernel
theorem dX6_isShelf_0 : decode cX6_isShelf 0 = .ok (.iload_n 1, 1) := by decide +kernel
theorem dX6_isShelf_1 : decode cX6_isShelf 1 = .ok (.ifCond .lt 12, 3) := by decide +kernel
theorem dX6_isShelf_4 : decode cX6_isShelf 4 = .ok (.iload_n 1, 1) := by decide +kernel
theorem dX6_isShelf_5 : decode cX6_isShelf 5 = .ok (.iconst 4, 1) := by decide +kernel
theorem dX6_isShelf_6 : decode cX6_isShelf 6 = .ok (.if_icmp .ge 7, 3) := by decide +kernel
theorem dX6_isShelf_9 : decode cX6_isShelf 9 = .ok (.iconst 1, 1) := by decide +kernel
theorem dX6_isShelf_10 : decode cX6_isShelf 10 = .ok (.goto 4, 3) := by decide +kernel
theorem dX6_isShelf_13 : decode cX6_isShelf 13 = .ok (.iconst 0, 1) := by decide +kernel
theorem dX6_isShelf_14 : decode cX6_isShelf 14 = .ok (.ireturn, 1) := by decide +kernel
theorem dX6_hold_0 : decode cX6_hold 0 = .ok (.aload_n 0, 1) := by decide +kernel
theorem dX6_hold_1 : decode cX6_hold 1 = .ok (.iload_n 1, 1) := by decide +kernel
theorem dX6_hold_2 : decode cX6_hold 2 = .ok (.invokevirtual 19, 3) := by decide +kernel
theorem dX6_hold_5 : decode cX6_hold 5 = .ok (.ifCond .eq 25, 3) := by decide +kernel
theorem dX6_hold_8 : decode cX6_hold 8 = .ok (.aload_n 0, 1) := by decide +kernel
theorem dX6_hold_9 : decode cX6_hold 9 = .ok (.getfield 9, 3) := by decide +kernel
theorem dX6_hold_12 : decode cX6_hold 12 = .ok (.iload_n 1, 1) := by decide +kernel
theorem dX6_hold_13 : decode cX6_hold 13 = .ok (.iload_n 2, 1) := by decide +kernel
theorem dX6_hold_14 : decode cX6_hold 14 = .ok (.iastore, 1) := by decide +kernel
theorem dX6_hold_15 : decode cX6_hold 15 = .ok (.aload_n 0, 1) := by decide +kernel
theorem dX6_hold_16 : decode cX6_hold 16 = .ok (.getfield 13, 3) := by decide +kernel
theorem dX6_hold_19 : decode cX6_hold 19 = .ok (.iload_n 1, 1) := by decide +kernel
theorem dX6_hold_20 : decode cX6_hold 20 = .ok (.iload_n 3, 1) := by decide +kernel
theorem dX6_hold_21 : decode cX6_hold 21 = .ok (.iastore, 1) := by decide +kernel
theorem dX6_hold_22 : decode cX6_hold 22 = .ok (.aload_n 0, 1) := by decide +kernel
theorem dX6_hold_23 : decode cX6_hold 23 = .ok (.getfield 16, 3) := by decide +kernel
theorem dX6_hold_26 : decode cX6_hold 26 = .ok (.iload_n 1, 1) := by decide +kernel
theorem dX6_hold_27 : decode cX6_hold 27 = .ok (.iload 4, 2) := by decide +kernel
theorem dX6_hold_29 : decode cX6_hold 29 = .ok (.iastore, 1) := by decide +kernel
theorem dX6_hold_30 : decode cX6_hold 30 = .ok (.iconst 1, 1) := by decide +kernel
theorem dX6_hold_31 : decode cX6_hold 31 = .ok (.ireturn, 1) := by decide +kernel
theorem dX6_whatOn_0 : decode cX6_whatOn 0 = .ok (.aload_n 0, 1) := by decide +kernel
theorem dX6_whatOn_1 : decode cX6_whatOn 1 = .ok (.iload_n 1, 1) := by decide +kernel
theorem dX6_whatOn_2 : decode cX6_whatOn 2 = .ok (.invokevirtual 19, 3) := by decide +kernel
theorem dX6_whatOn_5 : decode cX6_whatOn 5 = .ok (.ifCond .eq 12, 3) := by decide +kernel
theorem dX6_whatOn_8 : decode cX6_whatOn 8 = .ok (.aload_n 0, 1) := by decide +kernel
theorem dX6_whatOn_9 : decode cX6_whatOn 9 = .ok (.getfield 9, 3) := by decide +kernel
theorem dX6_whatOn_12 : decode cX6_whatOn 12 = .ok (.iload_n 1, 1) := by decide +kernel
theorem dX6_whatOn_13 : decode cX6_whatOn 13 = .ok (.iaload, 1) := by decide +kernel
theorem dX6_whatOn_14 : decode cX6_whatOn 14 = .ok (.goto 4, 3) := by decide +kernel
theorem dX6_whatOn_17 : decode cX6_whatOn 17 = .ok (.iconst 3, 1) := by decide +kernel
theorem dX6_whatOn_18 : decode cX6_whatOn 18 = .ok (.ireturn, 1) := by decide +kernel
theorem dX6_numberOn_0 : decode cX6_numberOn 0 = .ok (.aload_n 0, 1) := by decide +kernel
theorem dX6_numberOn_1 : decode cX6_numberOn 1 = .ok (.iload_n 1, 1) := by decide +kernel
theorem dX6_numberOn_2 : decode cX6_numberOn 2 = .ok (.invokevirtual 19, 3) := by decide +kernel
theorem dX6_numberOn_5 : decode cX6_numberOn 5 = .ok (.ifCond .eq 12, 3) := by decide +kernel
theorem dX6_numberOn_8 : decode cX6_numberOn 8 = .ok (.aload_n 0, 1) := by decide +kernel
theorem dX6_numberOn_9 : decode cX6_numberOn 9 = .ok (.getfield 13, 3) := by decide +kernel
theorem dX6_numberOn_12 : decode cX6_numberOn 12 = .ok (.iload_n 1, 1) := by decide +kernel
theorem dX6_numberOn_13 : decode cX6_numberOn 13 = .ok (.iaload, 1) := by decide +kernel
theorem dX6_numberOn_14 : decode cX6_numberOn 14 = .ok (.goto 4, 3) := by decide +kernel
theorem dX6_numberOn_17 : decode cX6_numberOn 17 = .ok (.iconst 0, 1) := by decide +kernel
theorem dX6_numberOn_18 : decode cX6_numberOn 18 = .ok (.ireturn, 1) := by decide +kernel
theorem dX6_itemsOn_0 : decode cX6_itemsOn 0 = .ok (.aload_n 0, 1) := by decide +kernel
theorem dX6_itemsOn_1 : decode cX6_itemsOn 1 = .ok (.iload_n 1, 1) := by decide +kernel
theorem dX6_itemsOn_2 : decode cX6_itemsOn 2 = .ok (.invokevirtual 19, 3) := by decide +kernel
theorem dX6_itemsOn_5 : decode cX6_itemsOn 5 = .ok (.ifCond .eq 12, 3) := by decide +kernel
theorem dX6_itemsOn_8 : decode cX6_itemsOn 8 = .ok (.aload_n 0, 1) := by decide +kernel
theorem dX6_itemsOn_9 : decode cX6_itemsOn 9 = .ok (.getfield 16, 3) := by decide +kernel
theorem dX6_itemsOn_12 : decode cX6_itemsOn 12 = .ok (.iload_n 1, 1) := by decide +kernel
theorem dX6_itemsOn_13 : decode cX6_itemsOn 13 = .ok (.iaload, 1) := by decide +kernel
theorem dX6_itemsOn_14 : decode cX6_itemsOn 14 = .ok (.goto 4, 3) := by decide +kernel
theorem dX6_itemsOn_17 : decode cX6_itemsOn 17 = .ok (.iconst 0, 1) := by decide +kernel
theorem dX6_itemsOn_18 : decode cX6_itemsOn 18 = .ok (.ireturn, 1) := by decide +kernel
theorem dX7_init_0 : decode cX7_init 0 = .ok (.aload_n 0, 1) := by decide +kernel
theorem dX7_init_1 : decode cX7_init 1 = .ok (.invokespecial 1, 3) := by decide +kernel
theorem dX7_init_4 : decode cX7_init 4 = .ok (.aload_n 0, 1) := by decide +kernel
theorem dX7_init_5 : decode cX7_init 5 = .ok (.new 7, 3) := by decide +kernel
theorem dX7_init_8 : decode cX7_init 8 = .ok (.dup, 1) := by decide +kernel
theorem dX7_init_9 : decode cX7_init 9 = .ok (.invokespecial 9, 3) := by decide +kernel
theorem dX7_init_12 : decode cX7_init 12 = .ok (.putfield 10, 3) := by decide +kernel
theorem dX7_init_15 : decode cX7_init 15 = .ok (.aload_n 0, 1) := by decide +kernel
theorem dX7_init_16 : decode cX7_init 16 = .ok (.bipush 10, 2) := by decide +kernel
theorem dX7_init_18 : decode cX7_init 18 = .ok (.putfield 16, 3) := by decide +kernel
theorem dX7_init_21 : decode cX7_init 21 = .ok (.aload_n 0, 1) := by decide +kernel
theorem dX7_init_22 : decode cX7_init 22 = .ok (.iconst 1, 1) := by decide +kernel
theorem dX7_init_23 : decode cX7_init 23 = .ok (.putfield 20, 3) := by decide +kernel
theorem dX7_init_26 : decode cX7_init 26 = .ok (.return_, 1) := by decide +kernel
theorem dX7_beginAnew_0 : decode cX7_beginAnew 0 = .ok (.aload_n 0, 1) := by decide +kernel
theorem dX7_beginAnew_1 : decode cX7_beginAnew 1 = .ok (.iload_n 1, 1) := by decide +kernel
theorem dX7_beginAnew_2 : decode cX7_beginAnew 2 = .ok (.putfield 23, 3) := by decide +kernel
theorem dX7_beginAnew_5 : decode cX7_beginAnew 5 = .ok (.aload_n 0, 1) := by decide +kernel
theorem dX7_beginAnew_6 : decode cX7_beginAnew 6 = .ok (.iload_n 2, 1) := by decide +kernel
theorem dX7_beginAnew_7 : decode cX7_beginAnew 7 = .ok (.putfield 26, 3) := by decide +kernel
theorem dX7_beginAnew_10 : decode cX7_beginAnew 10 = .ok (.aload_n 0, 1) := by decide +kernel
theorem dX7_beginAnew_11 : decode cX7_beginAnew 11 = .ok (.iload_n 3, 1) := by decide +kernel
theorem dX7_beginAnew_12 : decode cX7_beginAnew 12 = .ok (.putfield 29, 3) := by decide +kernel
theorem dX7_beginAnew_15 : decode cX7_beginAnew 15 = .ok (.aload_n 0, 1) := by decide +kernel
theorem dX7_beginAnew_16 : decode cX7_beginAnew 16 = .ok (.iconst 0, 1) := by decide +kernel
theorem dX7_beginAnew_17 : decode cX7_beginAnew 17 = .ok (.putfield 32, 3) := by decide +kernel
theorem dX7_beginAnew_20 : decode cX7_beginAnew 20 = .ok (.aload_n 0, 1) := by decide +kernel
theorem dX7_beginAnew_21 : decode cX7_beginAnew 21 = .ok (.iconst 0, 1) := by decide +kernel
theorem dX7_beginAnew_22 : decode cX7_beginAnew 22 = .ok (.putfield 35, 3) := by decide +kernel
theorem dX7_beginAnew_25 : decode cX7_beginAnew 25 = .ok (.aload_n 0, 1) := by decide +kernel
theorem dX7_beginAnew_26 : decode cX7_beginAnew 26 = .ok (.iconst 0, 1) := by decide +kernel
theorem dX7_beginAnew_27 : decode cX7_beginAnew 27 = .ok (.putfield 38, 3) := by decide +kernel
theorem dX7_beginAnew_30 : decode cX7_beginAnew 30 = .ok (.aload_n 0, 1) := by decide +kernel
theorem dX7_beginAnew_31 : decode cX7_beginAnew 31 = .ok (.lconst 0, 1) := by decide +kernel
theorem dX7_beginAnew_32 : decode cX7_beginAnew 32 = .ok (.putfield 41, 3) := by decide +kernel
theorem dX7_beginAnew_35 : decode cX7_beginAnew 35 = .ok (.aload_n 0, 1) := by decide +kernel
theorem dX7_beginAnew_36 : decode cX7_beginAnew 36 = .ok (.lconst 0, 1) := by decide +kernel
theorem dX7_beginAnew_37 : decode cX7_beginAnew 37 = .ok (.putfield 45, 3) := by decide +kernel
theorem dX7_beginAnew_40 : decode cX7_beginAnew 40 = .ok (.aload_n 0, 1) := by decide +kernel
theorem dX7_beginAnew_41 : decode cX7_beginAnew 41 = .ok (.iload_n 1, 1) := by decide +kernel
theorem dX7_beginAnew_42 : decode cX7_beginAnew 42 = .ok (.putfield 48, 3) := by decide +kernel
theorem dX7_beginAnew_45 : decode cX7_beginAnew 45 = .ok (.aload_n 0, 1) := by decide +kernel
theorem dX7_beginAnew_46 : decode cX7_beginAnew 46 = .ok (.getfield 10, 3) := by decide +kernel
theorem dX7_beginAnew_49 : decode cX7_beginAnew 49 = .ok (.invokevirtual 51, 3) := by decide +kernel
theorem dX7_beginAnew_52 : decode cX7_beginAnew 52 = .ok (.return_, 1) := by decide +kernel
theorem dX7_becomeLike_0 : decode cX7_becomeLike 0 = .ok (.aload_n 0, 1) := by decide +kernel
theorem dX7_becomeLike_1 : decode cX7_becomeLike 1 = .ok (.aload_n 1, 1) := by decide +kernel
theorem dX7_becomeLike_2 : decode cX7_becomeLike 2 = .ok (.invokevirtual 54, 3) := by decide +kernel
theorem dX7_becomeLike_5 : decode cX7_becomeLike 5 = .ok (.aload_n 0, 1) := by decide +kernel
theorem dX7_becomeLike_6 : decode cX7_becomeLike 6 = .ok (.getfield 10, 3) := by decide +kernel
theorem dX7_becomeLike_9 : decode cX7_becomeLike 9 = .ok (.aload_n 1, 1) := by decide +kernel
theorem dX7_becomeLike_10 : decode cX7_becomeLike 10 = .ok (.getfield 10, 3) := by decide +kernel
theorem dX7_becomeLike_13 : decode cX7_becomeLike 13 = .ok (.invokevirtual 58, 3) := by decide +kernel
theorem dX7_becomeLike_16 : decode cX7_becomeLike 16 = .ok (.return_, 1) := by decide +kernel
theorem dX7_goOnFrom_0 : decode cX7_goOnFrom 0 = .ok (.aload_n 0, 1) := by decide +kernel
theorem dX7_goOnFrom_1 : decode cX7_goOnFrom 1 = .ok (.aload_n 1, 1) := by decide +kernel
theorem dX7_goOnFrom_2 : decode cX7_goOnFrom 2 = .ok (.getfield 23, 3) := by decide +kernel
theorem dX7_goOnFrom_5 : decode cX7_goOnFrom 5 = .ok (.putfield 23, 3) := by decide +kernel
theorem dX7_goOnFrom_8 : decode cX7_goOnFrom 8 = .ok (.aload_n 0, 1) := by decide +kernel
theorem dX7_goOnFrom_9 : decode cX7_goOnFrom 9 = .ok (.aload_n 1, 1) := by decide +kernel
theorem dX7_goOnFrom_10 : decode cX7_goOnFrom 10 = .ok (.getfield 26, 3) := by decide +kernel
theorem dX7_goOnFrom_13 : decode cX7_goOnFrom 13 = .ok (.putfield 26, 3) := by decide +kernel
theorem dX7_goOnFrom_16 : decode cX7_goOnFrom 16 = .ok (.aload_n 0, 1) := by decide +kernel
theorem dX7_goOnFrom_17 : decode cX7_goOnFrom 17 = .ok (.aload_n 1, 1) := by decide +kernel
theorem dX7_goOnFrom_18 : decode cX7_goOnFrom 18 = .ok (.getfield 29, 3) := by decide +kernel
theorem dX7_goOnFrom_21 : decode cX7_goOnFrom 21 = .ok (.putfield 29, 3) := by decide +kernel
theorem dX7_goOnFrom_24 : decode cX7_goOnFrom 24 = .ok (.aload_n 0, 1) := by decide +kernel
theorem dX7_goOnFrom_25 : decode cX7_goOnFrom 25 = .ok (.aload_n 1, 1) := by decide +kernel
theorem dX7_goOnFrom_26 : decode cX7_goOnFrom 26 = .ok (.getfield 32, 3) := by decide +kernel
theorem dX7_goOnFrom_29 : decode cX7_goOnFrom 29 = .ok (.putfield 32, 3) := by decide +kernel
theorem dX7_goOnFrom_32 : decode cX7_goOnFrom 32 = .ok (.aload_n 0, 1) := by decide +kernel
theorem dX7_goOnFrom_33 : decode cX7_goOnFrom 33 = .ok (.aload_n 1, 1) := by decide +kernel
theorem dX7_goOnFrom_34 : decode cX7_goOnFrom 34 = .ok (.getfield 35, 3) := by decide +kernel
theorem dX7_goOnFrom_37 : decode cX7_goOnFrom 37 = .ok (.putfield 35, 3) := by decide +kernel
theorem dX7_goOnFrom_40 : decode cX7_goOnFrom 40 = .ok (.aload_n 0, 1) := by decide +kernel
theorem dX7_goOnFrom_41 : decode cX7_goOnFrom 41 = .ok (.aload_n 1, 1) := by decide +kernel
theorem dX7_goOnFrom_42 : decode cX7_goOnFrom 42 = .ok (.getfield 38, 3) := by decide +kernel
theorem dX7_goOnFrom_45 : decode cX7_goOnFrom 45 = .ok (.putfield 38, 3) := by decide +kernel
theorem dX7_goOnFrom_48 : decode cX7_goOnFrom 48 = .ok (.aload_n 0, 1) := by decide +kernel
theorem dX7_goOnFrom_49 : decode cX7_goOnFrom 49 = .ok (.aload_n 1, 1) := by decide +kernel
theorem dX7_goOnFrom_50 : decode cX7_goOnFrom 50 = .ok (.getfield 16, 3) := by decide +kernel
theorem dX7_goOnFrom_53 : decode cX7_goOnFrom 53 = .ok (.putfield 16, 3) := by decide +kernel
theorem dX7_goOnFrom_56 : decode cX7_goOnFrom 56 = .ok (.aload_n 0, 1) := by decide +kernel
theorem dX7_goOnFrom_57 : decode cX7_goOnFrom 57 = .ok (.aload_n 1, 1) := by decide +kernel
theorem dX7_goOnFrom_58 : decode cX7_goOnFrom 58 = .ok (.getfield 62, 3) := by decide +kernel
theorem dX7_goOnFrom_61 : decode cX7_goOnFrom 61 = .ok (.putfield 62, 3) := by decide +kernel
theorem dX7_goOnFrom_64 : decode cX7_goOnFrom 64 = .ok (.aload_n 0, 1) := by decide +kernel
theorem dX7_goOnFrom_65 : decode cX7_goOnFrom 65 = .ok (.aload_n 1, 1) := by decide +kernel
theorem dX7_goOnFrom_66 : decode cX7_goOnFrom 66 = .ok (.getfield 20, 3) := by decide +kernel
theorem dX7_goOnFrom_69 : decode cX7_goOnFrom 69 = .ok (.putfield 20, 3) := by decide +kernel
theorem dX7_goOnFrom_72 : decode cX7_goOnFrom 72 = .ok (.aload_n 0, 1) := by decide +kernel
theorem dX7_goOnFrom_73 : decode cX7_goOnFrom 73 = .ok (.aload_n 1, 1) := by decide +kernel
theorem dX7_goOnFrom_74 : decode cX7_goOnFrom 74 = .ok (.getfield 41, 3) := by decide +kernel
theorem dX7_goOnFrom_77 : decode cX7_goOnFrom 77 = .ok (.putfield 41, 3) := by decide +kernel
theorem dX7_goOnFrom_80 : decode cX7_goOnFrom 80 = .ok (.aload_n 0, 1) := by decide +kernel
theorem dX7_goOnFrom_81 : decode cX7_goOnFrom 81 = .ok (.aload_n 1, 1) := by decide +kernel
theorem dX7_goOnFrom_82 : decode cX7_goOnFrom 82 = .ok (.getfield 45, 3) := by decide +kernel
theorem dX7_goOnFrom_85 : decode cX7_goOnFrom 85 = .ok (.putfield 45, 3) := by decide +kernel
theorem dX7_goOnFrom_88 : decode cX7_goOnFrom 88 = .ok (.aload_n 0, 1) := by decide +kernel
theorem dX7_goOnFrom_89 : decode cX7_goOnFrom 89 = .ok (.aload_n 1, 1) := by decide +kernel
theorem dX7_goOnFrom_90 : decode cX7_goOnFrom 90 = .ok (.getfield 48, 3) := by decide +kernel
theorem dX7_goOnFrom_93 : decode cX7_goOnFrom 93 = .ok (.putfield 48, 3) := by decide +kernel
theorem dX7_goOnFrom_96 : decode cX7_goOnFrom 96 = .ok (.aload_n 0, 1) := by decide +kernel
theorem dX7_goOnFrom_97 : decode cX7_goOnFrom 97 = .ok (.getfield 10, 3) := by decide +kernel
theorem dX7_goOnFrom_100 : decode cX7_goOnFrom 100 = .ok (.invokevirtual 51, 3) := by decide +kernel
theorem dX7_goOnFrom_103 : decode cX7_goOnFrom 103 = .ok (.return_, 1) := by decide +kernel
theorem dX7_fillRow_0 : decode cX7_fillRow 0 = .ok (.iconst 0, 1) := by decide +kernel
theorem dX7_fillRow_1 : decode cX7_fillRow 1 = .ok (.istore_n 3, 1) := by decide +kernel
theorem dX7_fillRow_2 : decode cX7_fillRow 2 = .ok (.iload_n 3, 1) := by decide +kernel
theorem dX7_fillRow_3 : decode cX7_fillRow 3 = .ok (.iload_n 1, 1) := by decide +kernel
theorem dX7_fillRow_4 : decode cX7_fillRow 4 = .ok (.if_icmp .ge 25, 3) := by decide +kernel
theorem dX7_fillRow_7 : decode cX7_fillRow 7 = .ok (.aload_n 0, 1) := by decide +kernel
theorem dX7_fillRow_8 : decode cX7_fillRow 8 = .ok (.getfield 10, 3) := by decide +kernel
theorem dX7_fillRow_11 : decode cX7_fillRow 11 = .ok (.invokevirtual 65, 3) := by decide +kernel
theorem dX7_fillRow_14 : decode cX7_fillRow 14 = .ok (.ifCond .ne 15, 3) := by decide +kernel
theorem dX7_fillRow_17 : decode cX7_fillRow 17 = .ok (.aload_n 0, 1) := by decide +kernel
theorem dX7_fillRow_18 : decode cX7_fillRow 18 = .ok (.aload_n 2, 1) := by decide +kernel
theorem dX7_fillRow_19 : decode cX7_fillRow 19 = .ok (.invokevirtual 69, 3) := by decide +kernel
theorem dX7_fillRow_22 : decode cX7_fillRow 22 = .ok (.pop, 1) := by decide +kernel
theorem dX7_fillRow_23 : decode cX7_fillRow 23 = .ok (.iinc 3 1, 3) := by decide +kernel
theorem dX7_fillRow_26 : decode cX7_fillRow 26 = .ok (.goto (-24), 3) := by decide +kernel
theorem dX7_fillRow_29 : decode cX7_fillRow 29 = .ok (.return_, 1) := by decide +kernel
theorem dX7_goOneTick_0 : decode cX7_goOneTick 0 = .ok (.aload_n 0, 1) := by decide +kernel
theorem dX7_goOneTick_1 : decode cX7_goOneTick 1 = .ok (.dup, 1) := by decide +kernel
theorem dX7_goOneTick_2 : decode cX7_goOneTick 2 = .ok (.getfield 32, 3) := by decide +kernel
theorem dX7_goOneTick_5 : decode cX7_goOneTick 5 = .ok (.iconst 1, 1) := by decide +kernel
theorem dX7_goOneTick_6 : decode cX7_goOneTick 6 = .ok (.iadd, 1) := by decide +kernel
theorem dX7_goOneTick_7 : decode cX7_goOneTick 7 = .ok (.putfield 32, 3) := by decide +kernel
theorem dX7_goOneTick_10 : decode cX7_goOneTick 10 = .ok (.aload_n 0, 1) := by decide +kernel
theorem dX7_goOneTick_11 : decode cX7_goOneTick 11 = .ok (.dup, 1) := by decide +kernel
theorem dX7_goOneTick_12 : decode cX7_goOneTick 12 = .ok (.getfield 35, 3) := by decide +kernel
theorem dX7_goOneTick_15 : decode cX7_goOneTick 15 = .ok (.iconst 1, 1) := by decide +kernel
theorem dX7_goOneTick_16 : decode cX7_goOneTick 16 = .ok (.iadd, 1) := by decide +kernel
theorem dX7_goOneTick_17 : decode cX7_goOneTick 17 = .ok (.putfield 35, 3) := by decide +kernel
theorem dX7_goOneTick_20 : decode cX7_goOneTick 20 = .ok (.aload_n 1, 1) := by decide +kernel
theorem dX7_goOneTick_21 : decode cX7_goOneTick 21 = .ok (.iconst 0, 1) := by decide +kernel
theorem dX7_goOneTick_22 : decode cX7_goOneTick 22 = .ok (.aload_n 0, 1) := by decide +kernel
theorem dX7_goOneTick_23 : decode cX7_goOneTick 23 = .ok (.invokevirtual 75, 3) := by decide +kernel
theorem dX7_goOneTick_26 : decode cX7_goOneTick 26 = .ok (.iconst 0, 1) := by decide +kernel
theorem dX7_goOneTick_27 : decode cX7_goOneTick 27 = .ok (.sipush 999, 3) := by decide +kernel
theorem dX7_goOneTick_30 : decode cX7_goOneTick 30 = .ok (.invokestatic 79, 3) := by decide +kernel
theorem dX7_goOneTick_33 : decode cX7_goOneTick 33 = .ok (.istore_n 2, 1) := by decide +kernel
theorem dX7_goOneTick_34 : decode cX7_goOneTick 34 = .ok (.aload_n 0, 1) := by decide +kernel
theorem dX7_goOneTick_35 : decode cX7_goOneTick 35 = .ok (.dup, 1) := by decide +kernel
theorem dX7_goOneTick_36 : decode cX7_goOneTick 36 = .ok (.getfield 41, 3) := by decide +kernel
theorem dX7_goOneTick_39 : decode cX7_goOneTick 39 = .ok (.iload_n 2, 1) := by decide +kernel
theorem dX7_goOneTick_40 : decode cX7_goOneTick 40 = .ok (.i2l, 1) := by decide +kernel
theorem dX7_goOneTick_41 : decode cX7_goOneTick 41 = .ok (.ladd, 1) := by decide +kernel
theorem dX7_goOneTick_42 : decode cX7_goOneTick 42 = .ok (.putfield 41, 3) := by decide +kernel
theorem dX7_goOneTick_45 : decode cX7_goOneTick 45 = .ok (.aload_n 0, 1) := by decide +kernel
theorem dX7_goOneTick_46 : decode cX7_goOneTick 46 = .ok (.iload_n 2, 1) := by decide +kernel
theorem dX7_goOneTick_47 : decode cX7_goOneTick 47 = .ok (.invokevirtual 85, 3) := by decide +kernel
theorem dX7_goOneTick_50 : decode cX7_goOneTick 50 = .ok (.aload_n 0, 1) := by decide +kernel
theorem dX7_goOneTick_51 : decode cX7_goOneTick 51 = .ok (.dup, 1) := by decide +kernel
theorem dX7_goOneTick_52 : decode cX7_goOneTick 52 = .ok (.getfield 29, 3) := by decide +kernel
theorem dX7_goOneTick_55 : decode cX7_goOneTick 55 = .ok (.aload_n 1, 1) := by decide +kernel
theorem dX7_goOneTick_56 : decode cX7_goOneTick 56 = .ok (.iconst 1, 1) := by decide +kernel
theorem dX7_goOneTick_57 : decode cX7_goOneTick 57 = .ok (.aload_n 0, 1) := by decide +kernel
theorem dX7_goOneTick_58 : decode cX7_goOneTick 58 = .ok (.invokevirtual 75, 3) := by decide +kernel
theorem dX7_goOneTick_61 : decode cX7_goOneTick 61 = .ok (.sipush (-999), 3) := by decide +kernel
theorem dX7_goOneTick_64 : decode cX7_goOneTick 64 = .ok (.sipush 999, 3) := by decide +kernel
theorem dX7_goOneTick_67 : decode cX7_goOneTick 67 = .ok (.invokestatic 79, 3) := by decide +kernel
theorem dX7_goOneTick_70 : decode cX7_goOneTick 70 = .ok (.isub, 1) := by decide +kernel
theorem dX7_goOneTick_71 : decode cX7_goOneTick 71 = .ok (.putfield 29, 3) := by decide +kernel
theorem dX7_goOneTick_74 : decode cX7_goOneTick 74 = .ok (.aload_n 0, 1) := by decide +kernel
theorem dX7_goOneTick_75 : decode cX7_goOneTick 75 = .ok (.invokevirtual 89, 3) := by decide +kernel
theorem dX7_goOneTick_78 : decode cX7_goOneTick 78 = .ok (.aload_n 0, 1) := by decide +kernel
theorem dX7_goOneTick_79 : decode cX7_goOneTick 79 = .ok (.aload_n 0, 1) := by decide +kernel
theorem dX7_goOneTick_80 : decode cX7_goOneTick 80 = .ok (.getfield 29, 3) := by decide +kernel
theorem dX7_goOneTick_83 : decode cX7_goOneTick 83 = .ok (.sipush (-999), 3) := by decide +kernel
theorem dX7_goOneTick_86 : decode cX7_goOneTick 86 = .ok (.sipush 999, 3) := by decide +kernel
theorem dX7_goOneTick_89 : decode cX7_goOneTick 89 = .ok (.invokestatic 79, 3) := by decide +kernel
theorem dX7_goOneTick_92 : decode cX7_goOneTick 92 = .ok (.putfield 29, 3) := by decide +kernel
theorem dX7_goOneTick_95 : decode cX7_goOneTick 95 = .ok (.aload_n 0, 1) := by decide +kernel
theorem dX7_goOneTick_96 : decode cX7_goOneTick 96 = .ok (.invokevirtual 92, 3) := by decide +kernel
theorem dX7_goOneTick_99 : decode cX7_goOneTick 99 = .ok (.aload_n 1, 1) := by decide +kernel
theorem dX7_goOneTick_100 : decode cX7_goOneTick 100 = .ok (.iconst 2, 1) := by decide +kernel
theorem dX7_goOneTick_101 : decode cX7_goOneTick 101 = .ok (.aload_n 0, 1) := by decide +kernel
theorem dX7_goOneTick_102 : decode cX7_goOneTick 102 = .ok (.invokevirtual 75, 3) := by decide +kernel
theorem dX7_goOneTick_105 : decode cX7_goOneTick 105 = .ok (.ifCond .ne 5, 3) := by decide +kernel
theorem dX7_goOneTick_108 : decode cX7_goOneTick 108 = .ok (.iconst 0, 1) := by decide +kernel
theorem dX7_goOneTick_109 : decode cX7_goOneTick 109 = .ok (.ireturn, 1) := by decide +kernel
theorem dX7_goOneTick_110 : decode cX7_goOneTick 110 = .ok (.aload_n 0, 1) := by decide +kernel
theorem dX7_goOneTick_111 : decode cX7_goOneTick 111 = .ok (.aload_n 1, 1) := by decide +kernel
theorem dX7_goOneTick_112 : decode cX7_goOneTick 112 = .ok (.iconst 3, 1) := by decide +kernel
theorem dX7_goOneTick_113 : decode cX7_goOneTick 113 = .ok (.aload_n 0, 1) := by decide +kernel
theorem dX7_goOneTick_114 : decode cX7_goOneTick 114 = .ok (.invokevirtual 75, 3) := by decide +kernel
theorem dX7_goOneTick_117 : decode cX7_goOneTick 117 = .ok (.iconst 0, 1) := by decide +kernel
theorem dX7_goOneTick_118 : decode cX7_goOneTick 118 = .ok (.aload_n 0, 1) := by decide +kernel
theorem dX7_goOneTick_119 : decode cX7_goOneTick 119 = .ok (.getfield 23, 3) := by decide +kernel
theorem dX7_goOneTick_122 : decode cX7_goOneTick 122 = .ok (.invokestatic 79, 3) := by decide +kernel
theorem dX7_goOneTick_125 : decode cX7_goOneTick 125 = .ok (.invokevirtual 95, 3) := by decide +kernel
theorem dX7_goOneTick_128 : decode cX7_goOneTick 128 = .ok (.iconst 1, 1) := by decide +kernel
theorem dX7_goOneTick_129 : decode cX7_goOneTick 129 = .ok (.ireturn, 1) := by decide +kernel
theorem dX7_addWeight_0 : decode cX7_addWeight 0 = .ok (.aload_n 0, 1) := by decide +kernel
theorem dX7_addWeight_1 : decode cX7_addWeight 1 = .ok (.ldc 98, 2) := by decide +kernel
theorem dX7_addWeight_3 : decode cX7_addWeight 3 = .ok (.aload_n 0, 1) := by decide +kernel
theorem dX7_addWeight_4 : decode cX7_addWeight 4 = .ok (.getfield 23, 3) := by decide +kernel
theorem dX7_addWeight_7 : decode cX7_addWeight 7 = .ok (.iload_n 1, 1) := by decide +kernel
theorem dX7_addWeight_8 : decode cX7_addWeight 8 = .ok (.iadd, 1) := by decide +kernel
theorem dX7_addWeight_9 : decode cX7_addWeight 9 = .ok (.invokestatic 99, 3) := by decide +kernel
theorem dX7_addWeight_12 : decode cX7_addWeight 12 = .ok (.putfield 23, 3) := by decide +kernel
theorem dX7_addWeight_15 : decode cX7_addWeight 15 = .ok (.return_, 1) := by decide +kernel
theorem dX7_shakeSpeed_0 : decode cX7_shakeSpeed 0 = .ok (.iconst 2, 1) := by decide +kernel
theorem dX7_shakeSpeed_1 : decode cX7_shakeSpeed 1 = .ok (.aload_n 0, 1) := by decide +kernel
theorem dX7_shakeSpeed_2 : decode cX7_shakeSpeed 2 = .ok (.getfield 62, 3) := by decide +kernel
theorem dX7_shakeSpeed_5 : decode cX7_shakeSpeed 5 = .ok (.imul, 1) := by decide +kernel
theorem dX7_shakeSpeed_6 : decode cX7_shakeSpeed 6 = .ok (.iconst 1, 1) := by decide +kernel
theorem dX7_shakeSpeed_7 : decode cX7_shakeSpeed 7 = .ok (.iadd, 1) := by decide +kernel
theorem dX7_shakeSpeed_8 : decode cX7_shakeSpeed 8 = .ok (.istore_n 1, 1) := by decide +kernel
theorem dX7_shakeSpeed_9 : decode cX7_shakeSpeed 9 = .ok (.aload_n 0, 1) := by decide +kernel
theorem dX7_shakeSpeed_10 : decode cX7_shakeSpeed 10 = .ok (.getfield 62, 3) := by decide +kernel
theorem dX7_shakeSpeed_13 : decode cX7_shakeSpeed 13 = .ok (.ifCond .eq 45, 3) := by decide +kernel
theorem dX7_shakeSpeed_16 : decode cX7_shakeSpeed 16 = .ok (.iload_n 1, 1) := by decide +kernel
theorem dX7_shakeSpeed_17 : decode cX7_shakeSpeed 17 = .ok (.ifCond .eq 41, 3) := by decide +kernel
theorem dX7_shakeSpeed_20 : decode cX7_shakeSpeed 20 = .ok (.aload_n 0, 1) := by decide +kernel
theorem dX7_shakeSpeed_21 : decode cX7_shakeSpeed 21 = .ok (.aload_n 0, 1) := by decide +kernel
theorem dX7_shakeSpeed_22 : decode cX7_shakeSpeed 22 = .ok (.getfield 20, 3) := by decide +kernel
theorem dX7_shakeSpeed_25 : decode cX7_shakeSpeed 25 = .ok (.ldc 105, 2) := by decide +kernel
theorem dX7_shakeSpeed_27 : decode cX7_shakeSpeed 27 = .ok (.imul, 1) := by decide +kernel
theorem dX7_shakeSpeed_28 : decode cX7_shakeSpeed 28 = .ok (.sipush 12345, 3) := by decide +kernel
theorem dX7_shakeSpeed_31 : decode cX7_shakeSpeed 31 = .ok (.iadd, 1) := by decide +kernel
theorem dX7_shakeSpeed_32 : decode cX7_shakeSpeed 32 = .ok (.putfield 20, 3) := by decide +kernel
theorem dX7_shakeSpeed_35 : decode cX7_shakeSpeed 35 = .ok (.aload_n 0, 1) := by decide +kernel
theorem dX7_shakeSpeed_36 : decode cX7_shakeSpeed 36 = .ok (.dup, 1) := by decide +kernel
theorem dX7_shakeSpeed_37 : decode cX7_shakeSpeed 37 = .ok (.getfield 29, 3) := by decide +kernel
theorem dX7_shakeSpeed_40 : decode cX7_shakeSpeed 40 = .ok (.aload_n 0, 1) := by decide +kernel
theorem dX7_shakeSpeed_41 : decode cX7_shakeSpeed 41 = .ok (.getfield 20, 3) := by decide +kernel
theorem dX7_shakeSpeed_44 : decode cX7_shakeSpeed 44 = .ok (.bipush 16, 2) := by decide +kernel
theorem dX7_shakeSpeed_46 : decode cX7_shakeSpeed 46 = .ok (.iushr, 1) := by decide +kernel
theorem dX7_shakeSpeed_47 : decode cX7_shakeSpeed 47 = .ok (.iload_n 1, 1) := by decide +kernel
theorem dX7_shakeSpeed_48 : decode cX7_shakeSpeed 48 = .ok (.irem, 1) := by decide +kernel
theorem dX7_shakeSpeed_49 : decode cX7_shakeSpeed 49 = .ok (.aload_n 0, 1) := by decide +kernel
theorem dX7_shakeSpeed_50 : decode cX7_shakeSpeed 50 = .ok (.getfield 62, 3) := by decide +kernel
theorem dX7_shakeSpeed_53 : decode cX7_shakeSpeed 53 = .ok (.isub, 1) := by decide +kernel
theorem dX7_shakeSpeed_54 : decode cX7_shakeSpeed 54 = .ok (.iadd, 1) := by decide +kernel
theorem dX7_shakeSpeed_55 : decode cX7_shakeSpeed 55 = .ok (.putfield 29, 3) := by decide +kernel
theorem dX7_shakeSpeed_58 : decode cX7_shakeSpeed 58 = .ok (.return_, 1) := by decide +kernel
theorem dX7_swayOn_0 : decode cX7_swayOn 0 = .ok (.aload_n 0, 1) := by decide +kernel
theorem dX7_swayOn_1 : decode cX7_swayOn 1 = .ok (.dup, 1) := by decide +kernel
theorem dX7_swayOn_2 : decode cX7_swayOn 2 = .ok (.getfield 26, 3) := by decide +kernel
theorem dX7_swayOn_5 : decode cX7_swayOn 5 = .ok (.aload_n 0, 1) := by decide +kernel
theorem dX7_swayOn_6 : decode cX7_swayOn 6 = .ok (.getfield 29, 3) := by decide +kernel
theorem dX7_swayOn_9 : decode cX7_swayOn 9 = .ok (.iadd, 1) := by decide +kernel
theorem dX7_swayOn_10 : decode cX7_swayOn 10 = .ok (.putfield 26, 3) := by decide +kernel
theorem dX7_swayOn_13 : decode cX7_swayOn 13 = .ok (.aload_n 0, 1) := by decide +kernel
theorem dX7_swayOn_14 : decode cX7_swayOn 14 = .ok (.getfield 26, 3) := by decide +kernel
theorem dX7_swayOn_17 : decode cX7_swayOn 17 = .ok (.sipush (-999), 3) := by decide +kernel
theorem dX7_swayOn_20 : decode cX7_swayOn 20 = .ok (.sipush 999, 3) := by decide +kernel
theorem dX7_swayOn_23 : decode cX7_swayOn 23 = .ok (.invokestatic 106, 3) := by decide +kernel
theorem dX7_swayOn_26 : decode cX7_swayOn 26 = .ok (.ifCond .ne 25, 3) := by decide +kernel
theorem dX7_swayOn_29 : decode cX7_swayOn 29 = .ok (.aload_n 0, 1) := by decide +kernel
theorem dX7_swayOn_30 : decode cX7_swayOn 30 = .ok (.aload_n 0, 1) := by decide +kernel
theorem dX7_swayOn_31 : decode cX7_swayOn 31 = .ok (.getfield 26, 3) := by decide +kernel
theorem dX7_swayOn_34 : decode cX7_swayOn 34 = .ok (.sipush (-999), 3) := by decide +kernel
theorem dX7_swayOn_37 : decode cX7_swayOn 37 = .ok (.sipush 999, 3) := by decide +kernel
theorem dX7_swayOn_40 : decode cX7_swayOn 40 = .ok (.invokestatic 79, 3) := by decide +kernel
theorem dX7_swayOn_43 : decode cX7_swayOn 43 = .ok (.putfield 26, 3) := by decide +kernel
theorem dX7_swayOn_46 : decode cX7_swayOn 46 = .ok (.aload_n 0, 1) := by decide +kernel
theorem dX7_swayOn_47 : decode cX7_swayOn 47 = .ok (.iconst 0, 1) := by decide +kernel
theorem dX7_swayOn_48 : decode cX7_swayOn 48 = .ok (.putfield 29, 3) := by decide +kernel
theorem dX7_swayOn_51 : decode cX7_swayOn 51 = .ok (.return_, 1) := by decide +kernel
theorem dX7_letDrop_0 : decode cX7_letDrop 0 = .ok (.aload_n 0, 1) := by decide +kernel
theorem dX7_letDrop_1 : decode cX7_letDrop 1 = .ok (.aload_n 0, 1) := by decide +kernel
theorem dX7_letDrop_2 : decode cX7_letDrop 2 = .ok (.getfield 35, 3) := by decide +kernel
theorem dX7_letDrop_5 : decode cX7_letDrop 5 = .ok (.putfield 110, 3) := by decide +kernel
theorem dX7_letDrop_8 : decode cX7_letDrop 8 = .ok (.aload_n 0, 1) := by decide +kernel
theorem dX7_letDrop_9 : decode cX7_letDrop 9 = .ok (.aload_n 0, 1) := by decide +kernel
theorem dX7_letDrop_10 : decode cX7_letDrop 10 = .ok (.getfield 23, 3) := by decide +kernel
theorem dX7_letDrop_13 : decode cX7_letDrop 13 = .ok (.iload_n 1, 1) := by decide +kernel
theorem dX7_letDrop_14 : decode cX7_letDrop 14 = .ok (.isub, 1) := by decide +kernel
theorem dX7_letDrop_15 : decode cX7_letDrop 15 = .ok (.putfield 113, 3) := by decide +kernel
theorem dX7_letDrop_18 : decode cX7_letDrop 18 = .ok (.aload_n 0, 1) := by decide +kernel
theorem dX7_letDrop_19 : decode cX7_letDrop 19 = .ok (.dup, 1) := by decide +kernel
theorem dX7_letDrop_20 : decode cX7_letDrop 20 = .ok (.getfield 45, 3) := by decide +kernel
theorem dX7_letDrop_23 : decode cX7_letDrop 23 = .ok (.aload_n 0, 1) := by decide +kernel
theorem dX7_letDrop_24 : decode cX7_letDrop 24 = .ok (.getfield 113, 3) := by decide +kernel
theorem dX7_letDrop_27 : decode cX7_letDrop 27 = .ok (.i2l, 1) := by decide +kernel
theorem dX7_letDrop_28 : decode cX7_letDrop 28 = .ok (.ladd, 1) := by decide +kernel
theorem dX7_letDrop_29 : decode cX7_letDrop 29 = .ok (.putfield 45, 3) := by decide +kernel
theorem dX7_letDrop_32 : decode cX7_letDrop 32 = .ok (.aload_n 0, 1) := by decide +kernel
theorem dX7_letDrop_33 : decode cX7_letDrop 33 = .ok (.iload_n 1, 1) := by decide +kernel
theorem dX7_letDrop_34 : decode cX7_letDrop 34 = .ok (.putfield 23, 3) := by decide +kernel
theorem dX7_letDrop_37 : decode cX7_letDrop 37 = .ok (.aload_n 0, 1) := by decide +kernel
theorem dX7_letDrop_38 : decode cX7_letDrop 38 = .ok (.aload_n 0, 1) := by decide +kernel
theorem dX7_letDrop_39 : decode cX7_letDrop 39 = .ok (.getfield 26, 3) := by decide +kernel
theorem dX7_letDrop_42 : decode cX7_letDrop 42 = .ok (.iconst 2, 1) := by decide +kernel
theorem dX7_letDrop_43 : decode cX7_letDrop 43 = .ok (.idiv, 1) := by decide +kernel
theorem dX7_letDrop_44 : decode cX7_letDrop 44 = .ok (.ineg, 1) := by decide +kernel
theorem dX7_letDrop_45 : decode cX7_letDrop 45 = .ok (.putfield 26, 3) := by decide +kernel
theorem dX7_letDrop_48 : decode cX7_letDrop 48 = .ok (.aload_n 0, 1) := by decide +kernel
theorem dX7_letDrop_49 : decode cX7_letDrop 49 = .ok (.aload_n 0, 1) := by decide +kernel
theorem dX7_letDrop_50 : decode cX7_letDrop 50 = .ok (.getfield 29, 3) := by decide +kernel
theorem dX7_letDrop_53 : decode cX7_letDrop 53 = .ok (.iconst 2, 1) := by decide +kernel
theorem dX7_letDrop_54 : decode cX7_letDrop 54 = .ok (.idiv, 1) := by decide +kernel
theorem dX7_letDrop_55 : decode cX7_letDrop 55 = .ok (.ineg, 1) := by decide +kernel
theorem dX7_letDrop_56 : decode cX7_letDrop 56 = .ok (.putfield 29, 3) := by decide +kernel
theorem dX7_letDrop_59 : decode cX7_letDrop 59 = .ok (.aload_n 0, 1) := by decide +kernel
theorem dX7_letDrop_60 : decode cX7_letDrop 60 = .ok (.iconst 0, 1) := by decide +kernel
theorem dX7_letDrop_61 : decode cX7_letDrop 61 = .ok (.putfield 35, 3) := by decide +kernel
theorem dX7_letDrop_64 : decode cX7_letDrop 64 = .ok (.aload_n 0, 1) := by decide +kernel
theorem dX7_letDrop_65 : decode cX7_letDrop 65 = .ok (.dup, 1) := by decide +kernel
theorem dX7_letDrop_66 : decode cX7_letDrop 66 = .ok (.getfield 38, 3) := by decide +kernel
theorem dX7_letDrop_69 : decode cX7_letDrop 69 = .ok (.iconst 1, 1) := by decide +kernel
theorem dX7_letDrop_70 : decode cX7_letDrop 70 = .ok (.iadd, 1) := by decide +kernel
theorem dX7_letDrop_71 : decode cX7_letDrop 71 = .ok (.putfield 38, 3) := by decide +kernel
theorem dX7_letDrop_74 : decode cX7_letDrop 74 = .ok (.aload_n 0, 1) := by decide +kernel
theorem dX7_letDrop_75 : decode cX7_letDrop 75 = .ok (.getfield 10, 3) := by decide +kernel
theorem dX7_letDrop_78 : decode cX7_letDrop 78 = .ok (.aload_n 0, 1) := by decide +kernel
theorem dX7_letDrop_79 : decode cX7_letDrop 79 = .ok (.getfield 110, 3) := by decide +kernel
theorem dX7_letDrop_82 : decode cX7_letDrop 82 = .ok (.invokevirtual 116, 3) := by decide +kernel
theorem dX7_letDrop_85 : decode cX7_letDrop 85 = .ok (.pop, 1) := by decide +kernel
theorem dX7_letDrop_86 : decode cX7_letDrop 86 = .ok (.return_, 1) := by decide +kernel
theorem dX7_named_0 : decode cX7_named 0 = .ok (.iload_n 1, 1) := by decide +kernel
theorem dX7_named_1 : decode cX7_named 1 = .ok (.tableswitch 78 0 6 #[43, 48, 53, 58, 63, 68, 73], 43) := by decide +kernel
theorem dX7_named_44 : decode cX7_named 44 = .ok (.aload_n 0, 1) := by decide +kernel
theorem dX7_named_45 : decode cX7_named 45 = .ok (.getfield 23, 3) := by decide +kernel
theorem dX7_named_48 : decode cX7_named 48 = .ok (.ireturn, 1) := by decide +kernel
theorem dX7_named_49 : decode cX7_named 49 = .ok (.aload_n 0, 1) := by decide +kernel
theorem dX7_named_50 : decode cX7_named 50 = .ok (.getfield 26, 3) := by decide +kernel
theorem dX7_named_53 : decode cX7_named 53 = .ok (.ireturn, 1) := by decide +kernel
theorem dX7_named_54 : decode cX7_named 54 = .ok (.aload_n 0, 1) := by decide +kernel
theorem dX7_named_55 : decode cX7_named 55 = .ok (.getfield 29, 3) := by decide +kernel
theorem dX7_named_58 : decode cX7_named 58 = .ok (.ireturn, 1) := by decide +kernel
theorem dX7_named_59 : decode cX7_named 59 = .ok (.aload_n 0, 1) := by decide +kernel
theorem dX7_named_60 : decode cX7_named 60 = .ok (.getfield 32, 3) := by decide +kernel
theorem dX7_named_63 : decode cX7_named 63 = .ok (.ireturn, 1) := by decide +kernel
theorem dX7_named_64 : decode cX7_named 64 = .ok (.aload_n 0, 1) := by decide +kernel
theorem dX7_named_65 : decode cX7_named 65 = .ok (.getfield 35, 3) := by decide +kernel
theorem dX7_named_68 : decode cX7_named 68 = .ok (.ireturn, 1) := by decide +kernel
theorem dX7_named_69 : decode cX7_named 69 = .ok (.aload_n 0, 1) := by decide +kernel
theorem dX7_named_70 : decode cX7_named 70 = .ok (.getfield 38, 3) := by decide +kernel
theorem dX7_named_73 : decode cX7_named 73 = .ok (.ireturn, 1) := by decide +kernel
theorem dX7_named_74 : decode cX7_named 74 = .ok (.aload_n 0, 1) := by decide +kernel
theorem dX7_named_75 : decode cX7_named 75 = .ok (.getfield 16, 3) := by decide +kernel
theorem dX7_named_78 : decode cX7_named 78 = .ok (.ireturn, 1) := by decide +kernel
theorem dX7_named_79 : decode cX7_named 79 = .ok (.iconst 0, 1) := by decide +kernel
theorem dX7_named_80 : decode cX7_named 80 = .ok (.ireturn, 1) := by decide +kernel
theorem dX8_init_0 : decode cX8_init 0 = .ok (.aload_n 0, 1) := by decide +kernel
theorem dX8_init_1 : decode cX8_init 1 = .ok (.invokespecial 1, 3) := by decide +kernel
theorem dX8_init_4 : decode cX8_init 4 = .ok (.aload_n 0, 1) := by decide +kernel
theorem dX8_init_5 : decode cX8_init 5 = .ok (.new 7, 3) := by decide +kernel
theorem dX8_init_8 : decode cX8_init 8 = .ok (.dup, 1) := by decide +kernel
theorem dX8_init_9 : decode cX8_init 9 = .ok (.invokespecial 9, 3) := by decide +kernel
theorem dX8_init_12 : decode cX8_init 12 = .ok (.putfield 10, 3) := by decide +kernel
theorem dX8_init_15 : decode cX8_init 15 = .ok (.aload_n 0, 1) := by decide +kernel
theorem dX8_init_16 : decode cX8_init 16 = .ok (.sipush 200, 3) := by decide +kernel
theorem dX8_init_19 : decode cX8_init 19 = .ok (.newarray .int, 2) := by decide +kernel
theorem dX8_init_21 : decode cX8_init 21 = .ok (.putfield 16, 3) := by decide +kernel
theorem dX8_init_24 : decode cX8_init 24 = .ok (.return_, 1) := by decide +kernel
theorem dX8_size_0 : decode cX8_size 0 = .ok (.aload_n 0, 1) := by decide +kernel
theorem dX8_size_1 : decode cX8_size 1 = .ok (.getfield 20, 3) := by decide +kernel
theorem dX8_size_4 : decode cX8_size 4 = .ok (.ireturn, 1) := by decide +kernel
theorem dX8_takeBytes_0 : decode cX8_takeBytes 0 = .ok (.iload_n 3, 1) := by decide +kernel
theorem dX8_takeBytes_1 : decode cX8_takeBytes 1 = .ok (.ifCond .lt 15, 3) := by decide +kernel
theorem dX8_takeBytes_4 : decode cX8_takeBytes 4 = .ok (.iload_n 3, 1) := by decide +kernel
theorem dX8_takeBytes_5 : decode cX8_takeBytes 5 = .ok (.sipush 200, 3) := by decide +kernel
theorem dX8_takeBytes_8 : decode cX8_takeBytes 8 = .ok (.aload_n 0, 1) := by decide +kernel
theorem dX8_takeBytes_9 : decode cX8_takeBytes 9 = .ok (.getfield 20, 3) := by decide +kernel
theorem dX8_takeBytes_12 : decode cX8_takeBytes 12 = .ok (.isub, 1) := by decide +kernel
theorem dX8_takeBytes_13 : decode cX8_takeBytes 13 = .ok (.if_icmp .le 5, 3) := by decide +kernel
theorem dX8_takeBytes_16 : decode cX8_takeBytes 16 = .ok (.iconst 0, 1) := by decide +kernel
theorem dX8_takeBytes_17 : decode cX8_takeBytes 17 = .ok (.ireturn, 1) := by decide +kernel
theorem dX8_takeBytes_18 : decode cX8_takeBytes 18 = .ok (.iconst 0, 1) := by decide +kernel
theorem dX8_takeBytes_19 : decode cX8_takeBytes 19 = .ok (.istore 4, 2) := by decide +kernel
theorem dX8_takeBytes_21 : decode cX8_takeBytes 21 = .ok (.iload 4, 2) := by decide +kernel
theorem dX8_takeBytes_23 : decode cX8_takeBytes 23 = .ok (.iload_n 3, 1) := by decide +kernel
theorem dX8_takeBytes_24 : decode cX8_takeBytes 24 = .ok (.if_icmp .ge 33, 3) := by decide +kernel
theorem dX8_takeBytes_27 : decode cX8_takeBytes 27 = .ok (.aload_n 0, 1) := by decide +kernel
theorem dX8_takeBytes_28 : decode cX8_takeBytes 28 = .ok (.getfield 16, 3) := by decide +kernel
theorem dX8_takeBytes_31 : decode cX8_takeBytes 31 = .ok (.aload_n 0, 1) := by decide +kernel
theorem dX8_takeBytes_32 : decode cX8_takeBytes 32 = .ok (.getfield 20, 3) := by decide +kernel
theorem dX8_takeBytes_35 : decode cX8_takeBytes 35 = .ok (.iload 4, 2) := by decide +kernel
theorem dX8_takeBytes_37 : decode cX8_takeBytes 37 = .ok (.iadd, 1) := by decide +kernel
theorem dX8_takeBytes_38 : decode cX8_takeBytes 38 = .ok (.lload_n 1, 1) := by decide +kernel
theorem dX8_takeBytes_39 : decode cX8_takeBytes 39 = .ok (.bipush 8, 2) := by decide +kernel
theorem dX8_takeBytes_41 : decode cX8_takeBytes 41 = .ok (.iload 4, 2) := by decide +kernel
theorem dX8_takeBytes_43 : decode cX8_takeBytes 43 = .ok (.imul, 1) := by decide +kernel
theorem dX8_takeBytes_44 : decode cX8_takeBytes 44 = .ok (.lushr, 1) := by decide +kernel
theorem dX8_takeBytes_45 : decode cX8_takeBytes 45 = .ok (.l2i, 1) := by decide +kernel
theorem dX8_takeBytes_46 : decode cX8_takeBytes 46 = .ok (.sipush 255, 3) := by decide +kernel
theorem dX8_takeBytes_49 : decode cX8_takeBytes 49 = .ok (.iand, 1) := by decide +kernel
theorem dX8_takeBytes_50 : decode cX8_takeBytes 50 = .ok (.iastore, 1) := by decide +kernel
theorem dX8_takeBytes_51 : decode cX8_takeBytes 51 = .ok (.iinc 4 1, 3) := by decide +kernel
theorem dX8_takeBytes_54 : decode cX8_takeBytes 54 = .ok (.goto (-33), 3) := by decide +kernel
theorem dX8_takeBytes_57 : decode cX8_takeBytes 57 = .ok (.aload_n 0, 1) := by decide +kernel
theorem dX8_takeBytes_58 : decode cX8_takeBytes 58 = .ok (.dup, 1) := by decide +kernel
theorem dX8_takeBytes_59 : decode cX8_takeBytes 59 = .ok (.getfield 20, 3) := by decide +kernel
theorem dX8_takeBytes_62 : decode cX8_takeBytes 62 = .ok (.iload_n 3, 1) := by decide +kernel
theorem dX8_takeBytes_63 : decode cX8_takeBytes 63 = .ok (.iadd, 1) := by decide +kernel
theorem dX8_takeBytes_64 : decode cX8_takeBytes 64 = .ok (.putfield 20, 3) := by decide +kernel
theorem dX8_takeBytes_67 : decode cX8_takeBytes 67 = .ok (.iconst 1, 1) := by decide +kernel
theorem dX8_takeBytes_68 : decode cX8_takeBytes 68 = .ok (.ireturn, 1) := by decide +kernel
theorem dX8_useUp_0 : decode cX8_useUp 0 = .ok (.aload_n 0, 1) := by decide +kernel
theorem dX8_useUp_1 : decode cX8_useUp 1 = .ok (.iconst 0, 1) := by decide +kernel
theorem dX8_useUp_2 : decode cX8_useUp 2 = .ok (.putfield 20, 3) := by decide +kernel
theorem dX8_useUp_5 : decode cX8_useUp 5 = .ok (.return_, 1) := by decide +kernel
theorem dX8_faultPlace_0 : decode cX8_faultPlace 0 = .ok (.aload_n 0, 1) := by decide +kernel
theorem dX8_faultPlace_1 : decode cX8_faultPlace 1 = .ok (.getfield 24, 3) := by decide +kernel
theorem dX8_faultPlace_4 : decode cX8_faultPlace 4 = .ok (.ireturn, 1) := by decide +kernel
theorem dX8_tellsLaws_0 : decode cX8_tellsLaws 0 = .ok (.aload_n 0, 1) := by decide +kernel
theorem dX8_tellsLaws_1 : decode cX8_tellsLaws 1 = .ok (.getfield 10, 3) := by decide +kernel
theorem dX8_tellsLaws_4 : decode cX8_tellsLaws 4 = .ok (.invokevirtual 27, 3) := by decide +kernel
theorem dX8_tellsLaws_7 : decode cX8_tellsLaws 7 = .ok (.aload_n 0, 1) := by decide +kernel
theorem dX8_tellsLaws_8 : decode cX8_tellsLaws 8 = .ok (.iconst 0, 1) := by decide +kernel
theorem dX8_tellsLaws_9 : decode cX8_tellsLaws 9 = .ok (.putfield 30, 3) := by decide +kernel
theorem dX8_tellsLaws_12 : decode cX8_tellsLaws 12 = .ok (.aload_n 0, 1) := by decide +kernel
theorem dX8_tellsLaws_13 : decode cX8_tellsLaws 13 = .ok (.invokevirtual 33, 3) := by decide +kernel
theorem dX8_tellsLaws_16 : decode cX8_tellsLaws 16 = .ok (.iconst 0, 1) := by decide +kernel
theorem dX8_tellsLaws_17 : decode cX8_tellsLaws 17 = .ok (.istore_n 1, 1) := by decide +kernel
theorem dX8_tellsLaws_18 : decode cX8_tellsLaws 18 = .ok (.iload_n 1, 1) := by decide +kernel
theorem dX8_tellsLaws_19 : decode cX8_tellsLaws 19 = .ok (.bipush 8, 2) := by decide +kernel
theorem dX8_tellsLaws_21 : decode cX8_tellsLaws 21 = .ok (.if_icmp .ge 28, 3) := by decide +kernel
theorem dX8_tellsLaws_24 : decode cX8_tellsLaws 24 = .ok (.aload_n 0, 1) := by decide +kernel
theorem dX8_tellsLaws_25 : decode cX8_tellsLaws 25 = .ok (.getfield 36, 3) := by decide +kernel
theorem dX8_tellsLaws_28 : decode cX8_tellsLaws 28 = .ok (.sipush 256, 3) := by decide +kernel
theorem dX8_tellsLaws_31 : decode cX8_tellsLaws 31 = .ok (.if_icmp .eq 18, 3) := by decide +kernel
theorem dX8_tellsLaws_34 : decode cX8_tellsLaws 34 = .ok (.aload_n 0, 1) := by decide +kernel
theorem dX8_tellsLaws_35 : decode cX8_tellsLaws 35 = .ok (.invokevirtual 39, 3) := by decide +kernel
theorem dX8_tellsLaws_38 : decode cX8_tellsLaws 38 = .ok (.ifCond .ne 5, 3) := by decide +kernel
theorem dX8_tellsLaws_41 : decode cX8_tellsLaws 41 = .ok (.iconst 0, 1) := by decide +kernel
theorem dX8_tellsLaws_42 : decode cX8_tellsLaws 42 = .ok (.ireturn, 1) := by decide +kernel
theorem dX8_tellsLaws_43 : decode cX8_tellsLaws 43 = .ok (.iinc 1 1, 3) := by decide +kernel
theorem dX8_tellsLaws_46 : decode cX8_tellsLaws 46 = .ok (.goto (-28), 3) := by decide +kernel
theorem dX8_tellsLaws_49 : decode cX8_tellsLaws 49 = .ok (.aload_n 0, 1) := by decide +kernel
theorem dX8_tellsLaws_50 : decode cX8_tellsLaws 50 = .ok (.getfield 36, 3) := by decide +kernel
theorem dX8_tellsLaws_53 : decode cX8_tellsLaws 53 = .ok (.sipush 256, 3) := by decide +kernel
theorem dX8_tellsLaws_56 : decode cX8_tellsLaws 56 = .ok (.if_icmp .ne 7, 3) := by decide +kernel
theorem dX8_tellsLaws_59 : decode cX8_tellsLaws 59 = .ok (.iconst 1, 1) := by decide +kernel
theorem dX8_tellsLaws_60 : decode cX8_tellsLaws 60 = .ok (.goto 4, 3) := by decide +kernel
theorem dX8_tellsLaws_63 : decode cX8_tellsLaws 63 = .ok (.iconst 0, 1) := by decide +kernel
theorem dX8_tellsLaws_64 : decode cX8_tellsLaws 64 = .ok (.ireturn, 1) := by decide +kernel
theorem dX8_tellsLaw_0 : decode cX8_tellsLaw 0 = .ok (.aload_n 0, 1) := by decide +kernel
theorem dX8_tellsLaw_1 : decode cX8_tellsLaw 1 = .ok (.aload_n 0, 1) := by decide +kernel
theorem dX8_tellsLaw_2 : decode cX8_tellsLaw 2 = .ok (.ldc 43, 2) := by decide +kernel
theorem dX8_tellsLaw_4 : decode cX8_tellsLaw 4 = .ok (.invokevirtual 45, 3) := by decide +kernel
theorem dX8_tellsLaw_7 : decode cX8_tellsLaw 7 = .ok (.putfield 49, 3) := by decide +kernel
theorem dX8_tellsLaw_10 : decode cX8_tellsLaw 10 = .ok (.aload_n 0, 1) := by decide +kernel
theorem dX8_tellsLaw_11 : decode cX8_tellsLaw 11 = .ok (.getfield 49, 3) := by decide +kernel
theorem dX8_tellsLaw_14 : decode cX8_tellsLaw 14 = .ok (.ifCond .ge 5, 3) := by decide +kernel
theorem dX8_tellsLaw_17 : decode cX8_tellsLaw 17 = .ok (.iconst 0, 1) := by decide +kernel
theorem dX8_tellsLaw_18 : decode cX8_tellsLaw 18 = .ok (.ireturn, 1) := by decide +kernel
theorem dX8_tellsLaw_19 : decode cX8_tellsLaw 19 = .ok (.aload_n 0, 1) := by decide +kernel
theorem dX8_tellsLaw_20 : decode cX8_tellsLaw 20 = .ok (.getfield 10, 3) := by decide +kernel
theorem dX8_tellsLaw_23 : decode cX8_tellsLaw 23 = .ok (.aload_n 0, 1) := by decide +kernel
theorem dX8_tellsLaw_24 : decode cX8_tellsLaw 24 = .ok (.getfield 49, 3) := by decide +kernel
theorem dX8_tellsLaw_27 : decode cX8_tellsLaw 27 = .ok (.invokevirtual 52, 3) := by decide +kernel
theorem dX8_tellsLaw_30 : decode cX8_tellsLaw 30 = .ok (.aload_n 0, 1) := by decide +kernel
theorem dX8_tellsLaw_31 : decode cX8_tellsLaw 31 = .ok (.invokevirtual 33, 3) := by decide +kernel
theorem dX8_tellsLaw_34 : decode cX8_tellsLaw 34 = .ok (.aload_n 0, 1) := by decide +kernel
theorem dX8_tellsLaw_35 : decode cX8_tellsLaw 35 = .ok (.iconst 0, 1) := by decide +kernel
theorem dX8_tellsLaw_36 : decode cX8_tellsLaw 36 = .ok (.iconst 0, 1) := by decide +kernel
theorem dX8_tellsLaw_37 : decode cX8_tellsLaw 37 = .ok (.invokevirtual 56, 3) := by decide +kernel
theorem dX8_tellsLaw_40 : decode cX8_tellsLaw 40 = .ok (.ifCond .eq 12, 3) := by decide +kernel
theorem dX8_tellsLaw_43 : decode cX8_tellsLaw 43 = .ok (.aload_n 0, 1) := by decide +kernel
theorem dX8_tellsLaw_44 : decode cX8_tellsLaw 44 = .ok (.getfield 36, 3) := by decide +kernel
theorem dX8_tellsLaw_47 : decode cX8_tellsLaw 47 = .ok (.bipush 59, 2) := by decide +kernel
theorem dX8_tellsLaw_49 : decode cX8_tellsLaw 49 = .ok (.if_icmp .eq 5, 3) := by decide +kernel
theorem dX8_tellsLaw_52 : decode cX8_tellsLaw 52 = .ok (.iconst 0, 1) := by decide +kernel
theorem dX8_tellsLaw_53 : decode cX8_tellsLaw 53 = .ok (.ireturn, 1) := by decide +kernel
theorem dX8_tellsLaw_54 : decode cX8_tellsLaw 54 = .ok (.aload_n 0, 1) := by decide +kernel
theorem dX8_tellsLaw_55 : decode cX8_tellsLaw 55 = .ok (.invokevirtual 33, 3) := by decide +kernel
theorem dX8_tellsLaw_58 : decode cX8_tellsLaw 58 = .ok (.iconst 1, 1) := by decide +kernel
theorem dX8_tellsLaw_59 : decode cX8_tellsLaw 59 = .ok (.ireturn, 1) := by decide +kernel
theorem dX8_tellsJoined_0 : decode cX8_tellsJoined 0 = .ok (.iload_n 1, 1) := by decide +kernel
theorem dX8_tellsJoined_1 : decode cX8_tellsJoined 1 = .ok (.iconst 3, 1) := by decide +kernel
theorem dX8_tellsJoined_2 : decode cX8_tellsJoined 2 = .ok (.if_icmp .ne 9, 3) := by decide +kernel
theorem dX8_tellsJoined_5 : decode cX8_tellsJoined 5 = .ok (.aload_n 0, 1) := by decide +kernel
theorem dX8_tellsJoined_6 : decode cX8_tellsJoined 6 = .ok (.iload_n 2, 1) := by decide +kernel
theorem dX8_tellsJoined_7 : decode cX8_tellsJoined 7 = .ok (.invokevirtual 60, 3) := by decide +kernel
theorem dX8_tellsJoined_10 : decode cX8_tellsJoined 10 = .ok (.ireturn, 1) := by decide +kernel
theorem dX8_tellsJoined_11 : decode cX8_tellsJoined 11 = .ok (.aload_n 0, 1) := by decide +kernel
theorem dX8_tellsJoined_12 : decode cX8_tellsJoined 12 = .ok (.iload_n 1, 1) := by decide +kernel
theorem dX8_tellsJoined_13 : decode cX8_tellsJoined 13 = .ok (.iconst 1, 1) := by decide +kernel
theorem dX8_tellsJoined_14 : decode cX8_tellsJoined 14 = .ok (.iadd, 1) := by decide +kernel
theorem dX8_tellsJoined_15 : decode cX8_tellsJoined 15 = .ok (.iload_n 2, 1) := by decide +kernel
theorem dX8_tellsJoined_16 : decode cX8_tellsJoined 16 = .ok (.invokevirtual 56, 3) := by decide +kernel
theorem dX8_tellsJoined_19 : decode cX8_tellsJoined 19 = .ok (.ifCond .ne 5, 3) := by decide +kernel
theorem dX8_tellsJoined_22 : decode cX8_tellsJoined 22 = .ok (.iconst 0, 1) := by decide +kernel
theorem dX8_tellsJoined_23 : decode cX8_tellsJoined 23 = .ok (.ireturn, 1) := by decide +kernel
theorem dX8_tellsJoined_24 : decode cX8_tellsJoined 24 = .ok (.iload_n 1, 1) := by decide +kernel
theorem dX8_tellsJoined_25 : decode cX8_tellsJoined 25 = .ok (.ifCond .ne 7, 3) := by decide +kernel
theorem dX8_tellsJoined_28 : decode cX8_tellsJoined 28 = .ok (.iconst 1, 1) := by decide +kernel
theorem dX8_tellsJoined_29 : decode cX8_tellsJoined 29 = .ok (.goto 6, 3) := by decide +kernel
theorem dX8_tellsJoined_32 : decode cX8_tellsJoined 32 = .ok (.sipush 200, 3) := by decide +kernel
theorem dX8_tellsJoined_35 : decode cX8_tellsJoined 35 = .ok (.istore_n 3, 1) := by decide +kernel
theorem dX8_tellsJoined_36 : decode cX8_tellsJoined 36 = .ok (.iconst 0, 1) := by decide +kernel
theorem dX8_tellsJoined_37 : decode cX8_tellsJoined 37 = .ok (.istore 4, 2) := by decide +kernel
theorem dX8_tellsJoined_39 : decode cX8_tellsJoined 39 = .ok (.iload 4, 2) := by decide +kernel
theorem dX8_tellsJoined_41 : decode cX8_tellsJoined 41 = .ok (.iload_n 3, 1) := by decide +kernel
theorem dX8_tellsJoined_42 : decode cX8_tellsJoined 42 = .ok (.if_icmp .ge 60, 3) := by decide +kernel
theorem dX8_tellsJoined_45 : decode cX8_tellsJoined 45 = .ok (.aload_n 0, 1) := by decide +kernel
theorem dX8_tellsJoined_46 : decode cX8_tellsJoined 46 = .ok (.getfield 36, 3) := by decide +kernel
theorem dX8_tellsJoined_49 : decode cX8_tellsJoined 49 = .ok (.invokestatic 64, 3) := by decide +kernel
theorem dX8_tellsJoined_52 : decode cX8_tellsJoined 52 = .ok (.iload_n 1, 1) := by decide +kernel
theorem dX8_tellsJoined_53 : decode cX8_tellsJoined 53 = .ok (.if_icmp .ne 49, 3) := by decide +kernel
theorem dX8_tellsJoined_56 : decode cX8_tellsJoined 56 = .ok (.aload_n 0, 1) := by decide +kernel
theorem dX8_tellsJoined_57 : decode cX8_tellsJoined 57 = .ok (.getfield 36, 3) := by decide +kernel
theorem dX8_tellsJoined_60 : decode cX8_tellsJoined 60 = .ok (.istore 5, 2) := by decide +kernel
theorem dX8_tellsJoined_62 : decode cX8_tellsJoined 62 = .ok (.aload_n 0, 1) := by decide +kernel
theorem dX8_tellsJoined_63 : decode cX8_tellsJoined 63 = .ok (.invokevirtual 33, 3) := by decide +kernel
theorem dX8_tellsJoined_66 : decode cX8_tellsJoined 66 = .ok (.aload_n 0, 1) := by decide +kernel
theorem dX8_tellsJoined_67 : decode cX8_tellsJoined 67 = .ok (.iload_n 1, 1) := by decide +kernel
theorem dX8_tellsJoined_68 : decode cX8_tellsJoined 68 = .ok (.iconst 1, 1) := by decide +kernel
theorem dX8_tellsJoined_69 : decode cX8_tellsJoined 69 = .ok (.iadd, 1) := by decide +kernel
theorem dX8_tellsJoined_70 : decode cX8_tellsJoined 70 = .ok (.iload_n 2, 1) := by decide +kernel
theorem dX8_tellsJoined_71 : decode cX8_tellsJoined 71 = .ok (.invokevirtual 56, 3) := by decide +kernel
theorem dX8_tellsJoined_74 : decode cX8_tellsJoined 74 = .ok (.ifCond .ne 5, 3) := by decide +kernel
theorem dX8_tellsJoined_77 : decode cX8_tellsJoined 77 = .ok (.iconst 0, 1) := by decide +kernel
theorem dX8_tellsJoined_78 : decode cX8_tellsJoined 78 = .ok (.ireturn, 1) := by decide +kernel
theorem dX8_tellsJoined_79 : decode cX8_tellsJoined 79 = .ok (.aload_n 0, 1) := by decide +kernel
theorem dX8_tellsJoined_80 : decode cX8_tellsJoined 80 = .ok (.getfield 10, 3) := by decide +kernel
theorem dX8_tellsJoined_83 : decode cX8_tellsJoined 83 = .ok (.aload_n 0, 1) := by decide +kernel
theorem dX8_tellsJoined_84 : decode cX8_tellsJoined 84 = .ok (.getfield 49, 3) := by decide +kernel
theorem dX8_tellsJoined_87 : decode cX8_tellsJoined 87 = .ok (.sipush 20000, 3) := by decide +kernel
theorem dX8_tellsJoined_90 : decode cX8_tellsJoined 90 = .ok (.iload 5, 2) := by decide +kernel
theorem dX8_tellsJoined_92 : decode cX8_tellsJoined 92 = .ok (.iadd, 1) := by decide +kernel
theorem dX8_tellsJoined_93 : decode cX8_tellsJoined 93 = .ok (.invokevirtual 68, 3) := by decide +kernel
theorem dX8_tellsJoined_96 : decode cX8_tellsJoined 96 = .ok (.iinc 4 1, 3) := by decide +kernel
theorem dX8_tellsJoined_99 : decode cX8_tellsJoined 99 = .ok (.goto (-60), 3) := by decide +kernel
theorem dX8_tellsJoined_102 : decode cX8_tellsJoined 102 = .ok (.iconst 1, 1) := by decide +kernel
theorem dX8_tellsJoined_103 : decode cX8_tellsJoined 103 = .ok (.ireturn, 1) := by decide +kernel
theorem dX8_levelOf_0 : decode cX8_levelOf 0 = .ok (.iload_n 0, 1) := by decide +kernel
theorem dX8_levelOf_1 : decode cX8_levelOf 1 = .ok (.tableswitch 125 37 62 #[123, 125, 125, 125, 125, 123, 121, 125, 121, 125, 123, 125, 125, 125, 125, 125, 125, 125, 125, 125, 125, 125, 125, 119, 119, 119], 119) := by decide +kernel
theorem dX8_levelOf_120 : decode cX8_levelOf 120 = .ok (.iconst 0, 1) := by decide +kernel
theorem dX8_levelOf_121 : decode cX8_levelOf 121 = .ok (.ireturn, 1) := by decide +kernel
theorem dX8_levelOf_122 : decode cX8_levelOf 122 = .ok (.iconst 1, 1) := by decide +kernel
theorem dX8_levelOf_123 : decode cX8_levelOf 123 = .ok (.ireturn, 1) := by decide +kernel
theorem dX8_levelOf_124 : decode cX8_levelOf 124 = .ok (.iconst 2, 1) := by decide +kernel
theorem dX8_levelOf_125 : decode cX8_levelOf 125 = .ok (.ireturn, 1) := by decide +kernel
theorem dX8_levelOf_126 : decode cX8_levelOf 126 = .ok (.iconst 3, 1) := by decide +kernel
theorem dX8_levelOf_127 : decode cX8_levelOf 127 = .ok (.ireturn, 1) := by decide +kernel
theorem dX8_tellsOne_0 : decode cX8_tellsOne 0 = .ok (.aload_n 0, 1) := by decide +kernel
theorem dX8_tellsOne_1 : decode cX8_tellsOne 1 = .ok (.getfield 36, 3) := by decide +kernel
theorem dX8_tellsOne_4 : decode cX8_tellsOne 4 = .ok (.lookupswitch 96 #[(40, 75), (45, 54), (257, 49), (258, 44)], 44) := by decide +kernel
theorem dX8_tellsOne_48 : decode cX8_tellsOne 48 = .ok (.aload_n 0, 1) := by decide +kernel
theorem dX8_tellsOne_49 : decode cX8_tellsOne 49 = .ok (.invokevirtual 72, 3) := by decide +kernel
theorem dX8_tellsOne_52 : decode cX8_tellsOne 52 = .ok (.ireturn, 1) := by decide +kernel
theorem dX8_tellsOne_53 : decode cX8_tellsOne 53 = .ok (.aload_n 0, 1) := by decide +kernel
theorem dX8_tellsOne_54 : decode cX8_tellsOne 54 = .ok (.invokevirtual 75, 3) := by decide +kernel
theorem dX8_tellsOne_57 : decode cX8_tellsOne 57 = .ok (.ireturn, 1) := by decide +kernel
theorem dX8_tellsOne_58 : decode cX8_tellsOne 58 = .ok (.iload_n 1, 1) := by decide +kernel
theorem dX8_tellsOne_59 : decode cX8_tellsOne 59 = .ok (.iconst 4, 1) := by decide +kernel
theorem dX8_tellsOne_60 : decode cX8_tellsOne 60 = .ok (.if_icmp .ge 17, 3) := by decide +kernel
theorem dX8_tellsOne_63 : decode cX8_tellsOne 63 = .ok (.aload_n 0, 1) := by decide +kernel
theorem dX8_tellsOne_64 : decode cX8_tellsOne 64 = .ok (.iload_n 1, 1) := by decide +kernel
theorem dX8_tellsOne_65 : decode cX8_tellsOne 65 = .ok (.iconst 1, 1) := by decide +kernel
theorem dX8_tellsOne_66 : decode cX8_tellsOne 66 = .ok (.iadd, 1) := by decide +kernel
theorem dX8_tellsOne_67 : decode cX8_tellsOne 67 = .ok (.invokevirtual 78, 3) := by decide +kernel
theorem dX8_tellsOne_70 : decode cX8_tellsOne 70 = .ok (.ifCond .eq 7, 3) := by decide +kernel
theorem dX8_tellsOne_73 : decode cX8_tellsOne 73 = .ok (.iconst 1, 1) := by decide +kernel
theorem dX8_tellsOne_74 : decode cX8_tellsOne 74 = .ok (.goto 4, 3) := by decide +kernel
theorem dX8_tellsOne_77 : decode cX8_tellsOne 77 = .ok (.iconst 0, 1) := by decide +kernel
theorem dX8_tellsOne_78 : decode cX8_tellsOne 78 = .ok (.ireturn, 1) := by decide +kernel
theorem dX8_tellsOne_79 : decode cX8_tellsOne 79 = .ok (.iload_n 1, 1) := by decide +kernel
theorem dX8_tellsOne_80 : decode cX8_tellsOne 80 = .ok (.iconst 4, 1) := by decide +kernel
theorem dX8_tellsOne_81 : decode cX8_tellsOne 81 = .ok (.if_icmp .ge 17, 3) := by decide +kernel
theorem dX8_tellsOne_84 : decode cX8_tellsOne 84 = .ok (.aload_n 0, 1) := by decide +kernel
theorem dX8_tellsOne_85 : decode cX8_tellsOne 85 = .ok (.iload_n 1, 1) := by decide +kernel
theorem dX8_tellsOne_86 : decode cX8_tellsOne 86 = .ok (.iconst 1, 1) := by decide +kernel
theorem dX8_tellsOne_87 : decode cX8_tellsOne 87 = .ok (.iadd, 1) := by decide +kernel
theorem dX8_tellsOne_88 : decode cX8_tellsOne 88 = .ok (.invokevirtual 81, 3) := by decide +kernel
theorem dX8_tellsOne_91 : decode cX8_tellsOne 91 = .ok (.ifCond .eq 7, 3) := by decide +kernel
theorem dX8_tellsOne_94 : decode cX8_tellsOne 94 = .ok (.iconst 1, 1) := by decide +kernel
theorem dX8_tellsOne_95 : decode cX8_tellsOne 95 = .ok (.goto 4, 3) := by decide +kernel
theorem dX8_tellsOne_98 : decode cX8_tellsOne 98 = .ok (.iconst 0, 1) := by decide +kernel
theorem dX8_tellsOne_99 : decode cX8_tellsOne 99 = .ok (.ireturn, 1) := by decide +kernel
theorem dX8_tellsOne_100 : decode cX8_tellsOne 100 = .ok (.iconst 0, 1) := by decide +kernel
theorem dX8_tellsOne_101 : decode cX8_tellsOne 101 = .ok (.ireturn, 1) := by decide +kernel
theorem dX8_tellsNumber_0 : decode cX8_tellsNumber 0 = .ok (.aload_n 0, 1) := by decide +kernel
theorem dX8_tellsNumber_1 : decode cX8_tellsNumber 1 = .ok (.getfield 30, 3) := by decide +kernel
theorem dX8_tellsNumber_4 : decode cX8_tellsNumber 4 = .ok (.aload_n 0, 1) := by decide +kernel
theorem dX8_tellsNumber_5 : decode cX8_tellsNumber 5 = .ok (.getfield 24, 3) := by decide +kernel
theorem dX8_tellsNumber_8 : decode cX8_tellsNumber 8 = .ok (.isub, 1) := by decide +kernel
theorem dX8_tellsNumber_9 : decode cX8_tellsNumber 9 = .ok (.iconst 4, 1) := by decide +kernel
theorem dX8_tellsNumber_10 : decode cX8_tellsNumber 10 = .ok (.if_icmp .le 5, 3) := by decide +kernel
theorem dX8_tellsNumber_13 : decode cX8_tellsNumber 13 = .ok (.iconst 0, 1) := by decide +kernel
theorem dX8_tellsNumber_14 : decode cX8_tellsNumber 14 = .ok (.ireturn, 1) := by decide +kernel
theorem dX8_tellsNumber_15 : decode cX8_tellsNumber 15 = .ok (.iconst 0, 1) := by decide +kernel
theorem dX8_tellsNumber_16 : decode cX8_tellsNumber 16 = .ok (.istore_n 1, 1) := by decide +kernel
theorem dX8_tellsNumber_17 : decode cX8_tellsNumber 17 = .ok (.aload_n 0, 1) := by decide +kernel
theorem dX8_tellsNumber_18 : decode cX8_tellsNumber 18 = .ok (.getfield 24, 3) := by decide +kernel
theorem dX8_tellsNumber_21 : decode cX8_tellsNumber 21 = .ok (.istore_n 2, 1) := by decide +kernel
theorem dX8_tellsNumber_22 : decode cX8_tellsNumber 22 = .ok (.iload_n 2, 1) := by decide +kernel
theorem dX8_tellsNumber_23 : decode cX8_tellsNumber 23 = .ok (.aload_n 0, 1) := by decide +kernel
theorem dX8_tellsNumber_24 : decode cX8_tellsNumber 24 = .ok (.getfield 30, 3) := by decide +kernel
theorem dX8_tellsNumber_27 : decode cX8_tellsNumber 27 = .ok (.if_icmp .ge 31, 3) := by decide +kernel
theorem dX8_tellsNumber_30 : decode cX8_tellsNumber 30 = .ok (.iload_n 2, 1) := by decide +kernel
theorem dX8_tellsNumber_31 : decode cX8_tellsNumber 31 = .ok (.sipush 200, 3) := by decide +kernel
theorem dX8_tellsNumber_34 : decode cX8_tellsNumber 34 = .ok (.if_icmp .ge 24, 3) := by decide +kernel
theorem dX8_tellsNumber_37 : decode cX8_tellsNumber 37 = .ok (.iload_n 1, 1) := by decide +kernel
theorem dX8_tellsNumber_38 : decode cX8_tellsNumber 38 = .ok (.bipush 10, 2) := by decide +kernel
theorem dX8_tellsNumber_40 : decode cX8_tellsNumber 40 = .ok (.imul, 1) := by decide +kernel
theorem dX8_tellsNumber_41 : decode cX8_tellsNumber 41 = .ok (.aload_n 0, 1) := by decide +kernel
theorem dX8_tellsNumber_42 : decode cX8_tellsNumber 42 = .ok (.getfield 16, 3) := by decide +kernel
theorem dX8_tellsNumber_45 : decode cX8_tellsNumber 45 = .ok (.iload_n 2, 1) := by decide +kernel
theorem dX8_tellsNumber_46 : decode cX8_tellsNumber 46 = .ok (.iaload, 1) := by decide +kernel
theorem dX8_tellsNumber_47 : decode cX8_tellsNumber 47 = .ok (.iadd, 1) := by decide +kernel
theorem dX8_tellsNumber_48 : decode cX8_tellsNumber 48 = .ok (.bipush 48, 2) := by decide +kernel
theorem dX8_tellsNumber_50 : decode cX8_tellsNumber 50 = .ok (.isub, 1) := by decide +kernel
theorem dX8_tellsNumber_51 : decode cX8_tellsNumber 51 = .ok (.istore_n 1, 1) := by decide +kernel
theorem dX8_tellsNumber_52 : decode cX8_tellsNumber 52 = .ok (.iinc 2 1, 3) := by decide +kernel
theorem dX8_tellsNumber_55 : decode cX8_tellsNumber 55 = .ok (.goto (-33), 3) := by decide +kernel
theorem dX8_tellsNumber_58 : decode cX8_tellsNumber 58 = .ok (.aload_n 0, 1) := by decide +kernel
theorem dX8_tellsNumber_59 : decode cX8_tellsNumber 59 = .ok (.getfield 10, 3) := by decide +kernel
theorem dX8_tellsNumber_62 : decode cX8_tellsNumber 62 = .ok (.aload_n 0, 1) := by decide +kernel
theorem dX8_tellsNumber_63 : decode cX8_tellsNumber 63 = .ok (.getfield 49, 3) := by decide +kernel
theorem dX8_tellsNumber_66 : decode cX8_tellsNumber 66 = .ok (.iload_n 1, 1) := by decide +kernel
theorem dX8_tellsNumber_67 : decode cX8_tellsNumber 67 = .ok (.invokevirtual 68, 3) := by decide +kernel
theorem dX8_tellsNumber_70 : decode cX8_tellsNumber 70 = .ok (.aload_n 0, 1) := by decide +kernel
theorem dX8_tellsNumber_71 : decode cX8_tellsNumber 71 = .ok (.invokevirtual 33, 3) := by decide +kernel
theorem dX8_tellsNumber_74 : decode cX8_tellsNumber 74 = .ok (.iconst 1, 1) := by decide +kernel
theorem dX8_tellsNumber_75 : decode cX8_tellsNumber 75 = .ok (.ireturn, 1) := by decide +kernel
theorem dX8_tellsName_0 : decode cX8_tellsName 0 = .ok (.aload_n 0, 1) := by decide +kernel
theorem dX8_tellsName_1 : decode cX8_tellsName 1 = .ok (.ldc 84, 2) := by decide +kernel
theorem dX8_tellsName_3 : decode cX8_tellsName 3 = .ok (.invokevirtual 45, 3) := by decide +kernel
theorem dX8_tellsName_6 : decode cX8_tellsName 6 = .ok (.istore_n 1, 1) := by decide +kernel
theorem dX8_tellsName_7 : decode cX8_tellsName 7 = .ok (.iload_n 1, 1) := by decide +kernel
theorem dX8_tellsName_8 : decode cX8_tellsName 8 = .ok (.ifCond .ge 5, 3) := by decide +kernel
theorem dX8_tellsName_11 : decode cX8_tellsName 11 = .ok (.iconst 0, 1) := by decide +kernel
theorem dX8_tellsName_12 : decode cX8_tellsName 12 = .ok (.ireturn, 1) := by decide +kernel
theorem dX8_tellsName_13 : decode cX8_tellsName 13 = .ok (.aload_n 0, 1) := by decide +kernel
theorem dX8_tellsName_14 : decode cX8_tellsName 14 = .ok (.getfield 10, 3) := by decide +kernel
theorem dX8_tellsName_17 : decode cX8_tellsName 17 = .ok (.aload_n 0, 1) := by decide +kernel
theorem dX8_tellsName_18 : decode cX8_tellsName 18 = .ok (.getfield 49, 3) := by decide +kernel
theorem dX8_tellsName_21 : decode cX8_tellsName 21 = .ok (.sipush 10000, 3) := by decide +kernel
theorem dX8_tellsName_24 : decode cX8_tellsName 24 = .ok (.iload_n 1, 1) := by decide +kernel
theorem dX8_tellsName_25 : decode cX8_tellsName 25 = .ok (.iadd, 1) := by decide +kernel
theorem dX8_tellsName_26 : decode cX8_tellsName 26 = .ok (.invokevirtual 68, 3) := by decide +kernel
theorem dX8_tellsName_29 : decode cX8_tellsName 29 = .ok (.aload_n 0, 1) := by decide +kernel
theorem dX8_tellsName_30 : decode cX8_tellsName 30 = .ok (.invokevirtual 33, 3) := by decide +kernel
theorem dX8_tellsName_33 : decode cX8_tellsName 33 = .ok (.iconst 1, 1) := by decide +kernel
theorem dX8_tellsName_34 : decode cX8_tellsName 34 = .ok (.ireturn, 1) := by decide +kernel
theorem dX8_tellsLess_0 : decode cX8_tellsLess 0 = .ok (.aload_n 0, 1) := by decide +kernel
theorem dX8_tellsLess_1 : decode cX8_tellsLess 1 = .ok (.invokevirtual 33, 3) := by decide +kernel
theorem dX8_tellsLess_4 : decode cX8_tellsLess 4 = .ok (.aload_n 0, 1) := by decide +kernel
theorem dX8_tellsLess_5 : decode cX8_tellsLess 5 = .ok (.iload_n 1, 1) := by decide +kernel
theorem dX8_tellsLess_6 : decode cX8_tellsLess 6 = .ok (.invokevirtual 60, 3) := by decide +kernel
theorem dX8_tellsLess_9 : decode cX8_tellsLess 9 = .ok (.ifCond .ne 5, 3) := by decide +kernel
theorem dX8_tellsLess_12 : decode cX8_tellsLess 12 = .ok (.iconst 0, 1) := by decide +kernel
theorem dX8_tellsLess_13 : decode cX8_tellsLess 13 = .ok (.ireturn, 1) := by decide +kernel
theorem dX8_tellsLess_14 : decode cX8_tellsLess 14 = .ok (.aload_n 0, 1) := by decide +kernel
theorem dX8_tellsLess_15 : decode cX8_tellsLess 15 = .ok (.getfield 10, 3) := by decide +kernel
theorem dX8_tellsLess_18 : decode cX8_tellsLess 18 = .ok (.aload_n 0, 1) := by decide +kernel
theorem dX8_tellsLess_19 : decode cX8_tellsLess 19 = .ok (.getfield 49, 3) := by decide +kernel
theorem dX8_tellsLess_22 : decode cX8_tellsLess 22 = .ok (.sipush 20126, 3) := by decide +kernel
theorem dX8_tellsLess_25 : decode cX8_tellsLess 25 = .ok (.invokevirtual 68, 3) := by decide +kernel
theorem dX8_tellsLess_28 : decode cX8_tellsLess 28 = .ok (.iconst 1, 1) := by decide +kernel
theorem dX8_tellsLess_29 : decode cX8_tellsLess 29 = .ok (.ireturn, 1) := by decide +kernel
theorem dX8_tellsBracket_0 : decode cX8_tellsBracket 0 = .ok (.aload_n 0, 1) := by decide +kernel
theorem dX8_tellsBracket_1 : decode cX8_tellsBracket 1 = .ok (.invokevirtual 33, 3) := by decide +kernel
theorem dX8_tellsBracket_4 : decode cX8_tellsBracket 4 = .ok (.aload_n 0, 1) := by decide +kernel
theorem dX8_tellsBracket_5 : decode cX8_tellsBracket 5 = .ok (.iconst 0, 1) := by decide +kernel
theorem dX8_tellsBracket_6 : decode cX8_tellsBracket 6 = .ok (.iload_n 1, 1) := by decide +kernel
theorem dX8_tellsBracket_7 : decode cX8_tellsBracket 7 = .ok (.invokevirtual 56, 3) := by decide +kernel
theorem dX8_tellsBracket_10 : decode cX8_tellsBracket 10 = .ok (.ifCond .eq 12, 3) := by decide +kernel
theorem dX8_tellsBracket_13 : decode cX8_tellsBracket 13 = .ok (.aload_n 0, 1) := by decide +kernel
theorem dX8_tellsBracket_14 : decode cX8_tellsBracket 14 = .ok (.getfield 36, 3) := by decide +kernel
theorem dX8_tellsBracket_17 : decode cX8_tellsBracket 17 = .ok (.bipush 41, 2) := by decide +kernel
theorem dX8_tellsBracket_19 : decode cX8_tellsBracket 19 = .ok (.if_icmp .eq 5, 3) := by decide +kernel
theorem dX8_tellsBracket_22 : decode cX8_tellsBracket 22 = .ok (.iconst 0, 1) := by decide +kernel
theorem dX8_tellsBracket_23 : decode cX8_tellsBracket 23 = .ok (.ireturn, 1) := by decide +kernel
theorem dX8_tellsBracket_24 : decode cX8_tellsBracket 24 = .ok (.aload_n 0, 1) := by decide +kernel
theorem dX8_tellsBracket_25 : decode cX8_tellsBracket 25 = .ok (.invokevirtual 33, 3) := by decide +kernel
theorem dX8_tellsBracket_28 : decode cX8_tellsBracket 28 = .ok (.iconst 1, 1) := by decide +kernel
theorem dX8_tellsBracket_29 : decode cX8_tellsBracket 29 = .ok (.ireturn, 1) := by decide +kernel
theorem dX8_goToNext_0 : decode cX8_goToNext 0 = .ok (.aload_n 0, 1) := by decide +kernel
theorem dX8_goToNext_1 : decode cX8_goToNext 1 = .ok (.aload_n 0, 1) := by decide +kernel
theorem dX8_goToNext_2 : decode cX8_goToNext 2 = .ok (.getfield 30, 3) := by decide +kernel
theorem dX8_goToNext_5 : decode cX8_goToNext 5 = .ok (.putfield 24, 3) := by decide +kernel
theorem dX8_goToNext_8 : decode cX8_goToNext 8 = .ok (.aload_n 0, 1) := by decide +kernel
theorem dX8_goToNext_9 : decode cX8_goToNext 9 = .ok (.getfield 24, 3) := by decide +kernel
theorem dX8_goToNext_12 : decode cX8_goToNext 12 = .ok (.aload_n 0, 1) := by decide +kernel
theorem dX8_goToNext_13 : decode cX8_goToNext 13 = .ok (.getfield 20, 3) := by decide +kernel
theorem dX8_goToNext_16 : decode cX8_goToNext 16 = .ok (.if_icmp .ge 40, 3) := by decide +kernel
theorem dX8_goToNext_19 : decode cX8_goToNext 19 = .ok (.aload_n 0, 1) := by decide +kernel
theorem dX8_goToNext_20 : decode cX8_goToNext 20 = .ok (.getfield 24, 3) := by decide +kernel
theorem dX8_goToNext_23 : decode cX8_goToNext 23 = .ok (.sipush 200, 3) := by decide +kernel
theorem dX8_goToNext_26 : decode cX8_goToNext 26 = .ok (.if_icmp .ge 30, 3) := by decide +kernel
theorem dX8_goToNext_29 : decode cX8_goToNext 29 = .ok (.aload_n 0, 1) := by decide +kernel
theorem dX8_goToNext_30 : decode cX8_goToNext 30 = .ok (.getfield 16, 3) := by decide +kernel
theorem dX8_goToNext_33 : decode cX8_goToNext 33 = .ok (.aload_n 0, 1) := by decide +kernel
theorem dX8_goToNext_34 : decode cX8_goToNext 34 = .ok (.getfield 24, 3) := by decide +kernel
theorem dX8_goToNext_37 : decode cX8_goToNext 37 = .ok (.iaload, 1) := by decide +kernel
theorem dX8_goToNext_38 : decode cX8_goToNext 38 = .ok (.bipush 32, 2) := by decide +kernel
theorem dX8_goToNext_40 : decode cX8_goToNext 40 = .ok (.if_icmp .ne 16, 3) := by decide +kernel
theorem dX8_goToNext_43 : decode cX8_goToNext 43 = .ok (.aload_n 0, 1) := by decide +kernel
theorem dX8_goToNext_44 : decode cX8_goToNext 44 = .ok (.dup, 1) := by decide +kernel
theorem dX8_goToNext_45 : decode cX8_goToNext 45 = .ok (.getfield 24, 3) := by decide +kernel
theorem dX8_goToNext_48 : decode cX8_goToNext 48 = .ok (.iconst 1, 1) := by decide +kernel
theorem dX8_goToNext_49 : decode cX8_goToNext 49 = .ok (.iadd, 1) := by decide +kernel
theorem dX8_goToNext_50 : decode cX8_goToNext 50 = .ok (.putfield 24, 3) := by decide +kernel
theorem dX8_goToNext_53 : decode cX8_goToNext 53 = .ok (.goto (-45), 3) := by decide +kernel
theorem dX8_goToNext_56 : decode cX8_goToNext 56 = .ok (.aload_n 0, 1) := by decide +kernel
theorem dX8_goToNext_57 : decode cX8_goToNext 57 = .ok (.getfield 24, 3) := by decide +kernel
theorem dX8_goToNext_60 : decode cX8_goToNext 60 = .ok (.ifCond .lt 24, 3) := by decide +kernel
theorem dX8_goToNext_63 : decode cX8_goToNext 63 = .ok (.aload_n 0, 1) := by decide +kernel
theorem dX8_goToNext_64 : decode cX8_goToNext 64 = .ok (.getfield 24, 3) := by decide +kernel
theorem dX8_goToNext_67 : decode cX8_goToNext 67 = .ok (.aload_n 0, 1) := by decide +kernel
theorem dX8_goToNext_68 : decode cX8_goToNext 68 = .ok (.getfield 20, 3) := by decide +kernel
theorem dX8_goToNext_71 : decode cX8_goToNext 71 = .ok (.if_icmp .ge 13, 3) := by decide +kernel
theorem dX8_goToNext_74 : decode cX8_goToNext 74 = .ok (.aload_n 0, 1) := by decide +kernel
theorem dX8_goToNext_75 : decode cX8_goToNext 75 = .ok (.getfield 24, 3) := by decide +kernel
theorem dX8_goToNext_78 : decode cX8_goToNext 78 = .ok (.sipush 200, 3) := by decide +kernel
theorem dX8_goToNext_81 : decode cX8_goToNext 81 = .ok (.if_icmp .lt 19, 3) := by decide +kernel
theorem dX8_goToNext_84 : decode cX8_goToNext 84 = .ok (.aload_n 0, 1) := by decide +kernel
theorem dX8_goToNext_85 : decode cX8_goToNext 85 = .ok (.sipush 256, 3) := by decide +kernel
theorem dX8_goToNext_88 : decode cX8_goToNext 88 = .ok (.putfield 36, 3) := by decide +kernel
theorem dX8_goToNext_91 : decode cX8_goToNext 91 = .ok (.aload_n 0, 1) := by decide +kernel
theorem dX8_goToNext_92 : decode cX8_goToNext 92 = .ok (.aload_n 0, 1) := by decide +kernel
theorem dX8_goToNext_93 : decode cX8_goToNext 93 = .ok (.getfield 24, 3) := by decide +kernel
theorem dX8_goToNext_96 : decode cX8_goToNext 96 = .ok (.putfield 30, 3) := by decide +kernel
theorem dX8_goToNext_99 : decode cX8_goToNext 99 = .ok (.return_, 1) := by decide +kernel
theorem dX8_goToNext_100 : decode cX8_goToNext 100 = .ok (.aload_n 0, 1) := by decide +kernel
theorem dX8_goToNext_101 : decode cX8_goToNext 101 = .ok (.getfield 16, 3) := by decide +kernel
theorem dX8_goToNext_104 : decode cX8_goToNext 104 = .ok (.aload_n 0, 1) := by decide +kernel
theorem dX8_goToNext_105 : decode cX8_goToNext 105 = .ok (.getfield 24, 3) := by decide +kernel
theorem dX8_goToNext_108 : decode cX8_goToNext 108 = .ok (.iaload, 1) := by decide +kernel
theorem dX8_goToNext_109 : decode cX8_goToNext 109 = .ok (.istore_n 1, 1) := by decide +kernel
theorem dX8_goToNext_110 : decode cX8_goToNext 110 = .ok (.aload_n 0, 1) := by decide +kernel
theorem dX8_goToNext_111 : decode cX8_goToNext 111 = .ok (.aload_n 0, 1) := by decide +kernel
theorem dX8_goToNext_112 : decode cX8_goToNext 112 = .ok (.getfield 24, 3) := by decide +kernel
theorem dX8_goToNext_115 : decode cX8_goToNext 115 = .ok (.iconst 1, 1) := by decide +kernel
theorem dX8_goToNext_116 : decode cX8_goToNext 116 = .ok (.iadd, 1) := by decide +kernel
theorem dX8_goToNext_117 : decode cX8_goToNext 117 = .ok (.putfield 30, 3) := by decide +kernel
theorem dX8_goToNext_120 : decode cX8_goToNext 120 = .ok (.iload_n 1, 1) := by decide +kernel
theorem dX8_goToNext_121 : decode cX8_goToNext 121 = .ok (.invokestatic 86, 3) := by decide +kernel
theorem dX8_goToNext_124 : decode cX8_goToNext 124 = .ok (.ifCond .eq 59, 3) := by decide +kernel
theorem dX8_goToNext_127 : decode cX8_goToNext 127 = .ok (.aload_n 0, 1) := by decide +kernel
theorem dX8_goToNext_128 : decode cX8_goToNext 128 = .ok (.sipush 257, 3) := by decide +kernel
theorem dX8_goToNext_131 : decode cX8_goToNext 131 = .ok (.putfield 36, 3) := by decide +kernel
theorem dX8_goToNext_134 : decode cX8_goToNext 134 = .ok (.aload_n 0, 1) := by decide +kernel
theorem dX8_goToNext_135 : decode cX8_goToNext 135 = .ok (.getfield 30, 3) := by decide +kernel
theorem dX8_goToNext_138 : decode cX8_goToNext 138 = .ok (.aload_n 0, 1) := by decide +kernel
theorem dX8_goToNext_139 : decode cX8_goToNext 139 = .ok (.getfield 20, 3) := by decide +kernel
theorem dX8_goToNext_142 : decode cX8_goToNext 142 = .ok (.if_icmp .ge 109, 3) := by decide +kernel
theorem dX8_goToNext_145 : decode cX8_goToNext 145 = .ok (.aload_n 0, 1) := by decide +kernel
theorem dX8_goToNext_146 : decode cX8_goToNext 146 = .ok (.getfield 30, 3) := by decide +kernel
theorem dX8_goToNext_149 : decode cX8_goToNext 149 = .ok (.sipush 200, 3) := by decide +kernel
theorem dX8_goToNext_152 : decode cX8_goToNext 152 = .ok (.if_icmp .ge 99, 3) := by decide +kernel
theorem dX8_goToNext_155 : decode cX8_goToNext 155 = .ok (.aload_n 0, 1) := by decide +kernel
theorem dX8_goToNext_156 : decode cX8_goToNext 156 = .ok (.getfield 16, 3) := by decide +kernel
theorem dX8_goToNext_159 : decode cX8_goToNext 159 = .ok (.aload_n 0, 1) := by decide +kernel
theorem dX8_goToNext_160 : decode cX8_goToNext 160 = .ok (.getfield 30, 3) := by decide +kernel
theorem dX8_goToNext_163 : decode cX8_goToNext 163 = .ok (.iaload, 1) := by decide +kernel
theorem dX8_goToNext_164 : decode cX8_goToNext 164 = .ok (.invokestatic 86, 3) := by decide +kernel
theorem dX8_goToNext_167 : decode cX8_goToNext 167 = .ok (.ifCond .eq 84, 3) := by decide +kernel
theorem dX8_goToNext_170 : decode cX8_goToNext 170 = .ok (.aload_n 0, 1) := by decide +kernel
theorem dX8_goToNext_171 : decode cX8_goToNext 171 = .ok (.dup, 1) := by decide +kernel
theorem dX8_goToNext_172 : decode cX8_goToNext 172 = .ok (.getfield 30, 3) := by decide +kernel
theorem dX8_goToNext_175 : decode cX8_goToNext 175 = .ok (.iconst 1, 1) := by decide +kernel
theorem dX8_goToNext_176 : decode cX8_goToNext 176 = .ok (.iadd, 1) := by decide +kernel
theorem dX8_goToNext_177 : decode cX8_goToNext 177 = .ok (.putfield 30, 3) := by decide +kernel
theorem dX8_goToNext_180 : decode cX8_goToNext 180 = .ok (.goto (-46), 3) := by decide +kernel
theorem dX8_goToNext_183 : decode cX8_goToNext 183 = .ok (.iload_n 1, 1) := by decide +kernel
theorem dX8_goToNext_184 : decode cX8_goToNext 184 = .ok (.invokestatic 89, 3) := by decide +kernel
theorem dX8_goToNext_187 : decode cX8_goToNext 187 = .ok (.ifCond .eq 59, 3) := by decide +kernel
theorem dX8_goToNext_190 : decode cX8_goToNext 190 = .ok (.aload_n 0, 1) := by decide +kernel
theorem dX8_goToNext_191 : decode cX8_goToNext 191 = .ok (.sipush 258, 3) := by decide +kernel
theorem dX8_goToNext_194 : decode cX8_goToNext 194 = .ok (.putfield 36, 3) := by decide +kernel
theorem dX8_goToNext_197 : decode cX8_goToNext 197 = .ok (.aload_n 0, 1) := by decide +kernel
theorem dX8_goToNext_198 : decode cX8_goToNext 198 = .ok (.getfield 30, 3) := by decide +kernel
theorem dX8_goToNext_201 : decode cX8_goToNext 201 = .ok (.aload_n 0, 1) := by decide +kernel
theorem dX8_goToNext_202 : decode cX8_goToNext 202 = .ok (.getfield 20, 3) := by decide +kernel
theorem dX8_goToNext_205 : decode cX8_goToNext 205 = .ok (.if_icmp .ge 46, 3) := by decide +kernel
theorem dX8_goToNext_208 : decode cX8_goToNext 208 = .ok (.aload_n 0, 1) := by decide +kernel
theorem dX8_goToNext_209 : decode cX8_goToNext 209 = .ok (.getfield 30, 3) := by decide +kernel
theorem dX8_goToNext_212 : decode cX8_goToNext 212 = .ok (.sipush 200, 3) := by decide +kernel
theorem dX8_goToNext_215 : decode cX8_goToNext 215 = .ok (.if_icmp .ge 36, 3) := by decide +kernel
theorem dX8_goToNext_218 : decode cX8_goToNext 218 = .ok (.aload_n 0, 1) := by decide +kernel
theorem dX8_goToNext_219 : decode cX8_goToNext 219 = .ok (.getfield 16, 3) := by decide +kernel
theorem dX8_goToNext_222 : decode cX8_goToNext 222 = .ok (.aload_n 0, 1) := by decide +kernel
theorem dX8_goToNext_223 : decode cX8_goToNext 223 = .ok (.getfield 30, 3) := by decide +kernel
theorem dX8_goToNext_226 : decode cX8_goToNext 226 = .ok (.iaload, 1) := by decide +kernel
theorem dX8_goToNext_227 : decode cX8_goToNext 227 = .ok (.invokestatic 89, 3) := by decide +kernel
theorem dX8_goToNext_230 : decode cX8_goToNext 230 = .ok (.ifCond .eq 21, 3) := by decide +kernel
theorem dX8_goToNext_233 : decode cX8_goToNext 233 = .ok (.aload_n 0, 1) := by decide +kernel
theorem dX8_goToNext_234 : decode cX8_goToNext 234 = .ok (.dup, 1) := by decide +kernel
theorem dX8_goToNext_235 : decode cX8_goToNext 235 = .ok (.getfield 30, 3) := by decide +kernel
theorem dX8_goToNext_238 : decode cX8_goToNext 238 = .ok (.iconst 1, 1) := by decide +kernel
theorem dX8_goToNext_239 : decode cX8_goToNext 239 = .ok (.iadd, 1) := by decide +kernel
theorem dX8_goToNext_240 : decode cX8_goToNext 240 = .ok (.putfield 30, 3) := by decide +kernel
theorem dX8_goToNext_243 : decode cX8_goToNext 243 = .ok (.goto (-46), 3) := by decide +kernel
theorem dX8_goToNext_246 : decode cX8_goToNext 246 = .ok (.aload_n 0, 1) := by decide +kernel
theorem dX8_goToNext_247 : decode cX8_goToNext 247 = .ok (.iload_n 1, 1) := by decide +kernel
theorem dX8_goToNext_248 : decode cX8_goToNext 248 = .ok (.putfield 36, 3) := by decide +kernel
theorem dX8_goToNext_251 : decode cX8_goToNext 251 = .ok (.return_, 1) := by decide +kernel
theorem dX8_isLetter_0 : decode cX8_isLetter 0 = .ok (.iload_n 0, 1) := by decide +kernel
theorem dX8_isLetter_1 : decode cX8_isLetter 1 = .ok (.bipush 97, 2) := by decide +kernel
theorem dX8_isLetter_3 : decode cX8_isLetter 3 = .ok (.if_icmp .lt 13, 3) := by decide +kernel
theorem dX8_isLetter_6 : decode cX8_isLetter 6 = .ok (.iload_n 0, 1) := by decide +kernel
theorem dX8_isLetter_7 : decode cX8_isLetter 7 = .ok (.bipush 122, 2) := by decide +kernel
theorem dX8_isLetter_9 : decode cX8_isLetter 9 = .ok (.if_icmp .gt 7, 3) := by decide +kernel
theorem dX8_isLetter_12 : decode cX8_isLetter 12 = .ok (.iconst 1, 1) := by decide +kernel
theorem dX8_isLetter_13 : decode cX8_isLetter 13 = .ok (.goto 4, 3) := by decide +kernel
theorem dX8_isLetter_16 : decode cX8_isLetter 16 = .ok (.iconst 0, 1) := by decide +kernel
theorem dX8_isLetter_17 : decode cX8_isLetter 17 = .ok (.ireturn, 1) := by decide +kernel
theorem dX8_isDigit_0 : decode cX8_isDigit 0 = .ok (.iload_n 0, 1) := by decide +kernel
theorem dX8_isDigit_1 : decode cX8_isDigit 1 = .ok (.bipush 48, 2) := by decide +kernel
theorem dX8_isDigit_3 : decode cX8_isDigit 3 = .ok (.if_icmp .lt 13, 3) := by decide +kernel
theorem dX8_isDigit_6 : decode cX8_isDigit 6 = .ok (.iload_n 0, 1) := by decide +kernel
theorem dX8_isDigit_7 : decode cX8_isDigit 7 = .ok (.bipush 57, 2) := by decide +kernel
theorem dX8_isDigit_9 : decode cX8_isDigit 9 = .ok (.if_icmp .gt 7, 3) := by decide +kernel
theorem dX8_isDigit_12 : decode cX8_isDigit 12 = .ok (.iconst 1, 1) := by decide +kernel
theorem dX8_isDigit_13 : decode cX8_isDigit 13 = .ok (.goto 4, 3) := by decide +kernel
theorem dX8_isDigit_16 : decode cX8_isDigit 16 = .ok (.iconst 0, 1) := by decide +kernel
theorem dX8_isDigit_17 : decode cX8_isDigit 17 = .ok (.ireturn, 1) := by decide +kernel
theorem dX8_placeAmong_0 : decode cX8_placeAmong 0 = .ok (.aload_n 0, 1) := by decide +kernel
theorem dX8_placeAmong_1 : decode cX8_placeAmong 1 = .ok (.getfield 36, 3) := by decide +kernel
theorem dX8_placeAmong_4 : decode cX8_placeAmong 4 = .ok (.sipush 257, 3) := by decide +kernel
theorem dX8_placeAmong_7 : decode cX8_placeAmong 7 = .ok (.if_icmp .eq 5, 3) := by decide +kernel
theorem dX8_placeAmong_10 : decode cX8_placeAmong 10 = .ok (.iconst (-1), 1) := by decide +kernel
theorem dX8_placeAmong_11 : decode cX8_placeAmong 11 = .ok (.ireturn, 1) := by decide +kernel
theorem dX8_placeAmong_12 : decode cX8_placeAmong 12 = .ok (.iconst 0, 1) := by decide +kernel
theorem dX8_placeAmong_13 : decode cX8_placeAmong 13 = .ok (.istore_n 2, 1) := by decide +kernel
theorem dX8_placeAmong_14 : decode cX8_placeAmong 14 = .ok (.aload_n 0, 1) := by decide +kernel
theorem dX8_placeAmong_15 : decode cX8_placeAmong 15 = .ok (.getfield 24, 3) := by decide +kernel
theorem dX8_placeAmong_18 : decode cX8_placeAmong 18 = .ok (.istore_n 3, 1) := by decide +kernel
theorem dX8_placeAmong_19 : decode cX8_placeAmong 19 = .ok (.iconst 1, 1) := by decide +kernel
theorem dX8_placeAmong_20 : decode cX8_placeAmong 20 = .ok (.istore 4, 2) := by decide +kernel
theorem dX8_placeAmong_22 : decode cX8_placeAmong 22 = .ok (.iconst 0, 1) := by decide +kernel
theorem dX8_placeAmong_23 : decode cX8_placeAmong 23 = .ok (.istore 5, 2) := by decide +kernel
theorem dX8_placeAmong_25 : decode cX8_placeAmong 25 = .ok (.iload 5, 2) := by decide +kernel
theorem dX8_placeAmong_27 : decode cX8_placeAmong 27 = .ok (.aload_n 1, 1) := by decide +kernel
theorem dX8_placeAmong_28 : decode cX8_placeAmong 28 = .ok (.invokevirtual 92, 3) := by decide +kernel
theorem dX8_placeAmong_31 : decode cX8_placeAmong 31 = .ok (.if_icmp .ge 98, 3) := by decide +kernel
theorem dX8_placeAmong_34 : decode cX8_placeAmong 34 = .ok (.aload_n 1, 1) := by decide +kernel
theorem dX8_placeAmong_35 : decode cX8_placeAmong 35 = .ok (.iload 5, 2) := by decide +kernel
theorem dX8_placeAmong_37 : decode cX8_placeAmong 37 = .ok (.invokevirtual 98, 3) := by decide +kernel
theorem dX8_placeAmong_40 : decode cX8_placeAmong 40 = .ok (.istore 6, 2) := by decide +kernel
theorem dX8_placeAmong_42 : decode cX8_placeAmong 42 = .ok (.iload 6, 2) := by decide +kernel
theorem dX8_placeAmong_44 : decode cX8_placeAmong 44 = .ok (.bipush 32, 2) := by decide +kernel
theorem dX8_placeAmong_46 : decode cX8_placeAmong 46 = .ok (.if_icmp .eq 51, 3) := by decide +kernel
theorem dX8_placeAmong_49 : decode cX8_placeAmong 49 = .ok (.iload 4, 2) := by decide +kernel
theorem dX8_placeAmong_51 : decode cX8_placeAmong 51 = .ok (.ifCond .eq 37, 3) := by decide +kernel
theorem dX8_placeAmong_54 : decode cX8_placeAmong 54 = .ok (.iload_n 3, 1) := by decide +kernel
theorem dX8_placeAmong_55 : decode cX8_placeAmong 55 = .ok (.ifCond .lt 33, 3) := by decide +kernel
theorem dX8_placeAmong_58 : decode cX8_placeAmong 58 = .ok (.iload_n 3, 1) := by decide +kernel
theorem dX8_placeAmong_59 : decode cX8_placeAmong 59 = .ok (.aload_n 0, 1) := by decide +kernel
theorem dX8_placeAmong_60 : decode cX8_placeAmong 60 = .ok (.getfield 30, 3) := by decide +kernel
theorem dX8_placeAmong_63 : decode cX8_placeAmong 63 = .ok (.if_icmp .ge 25, 3) := by decide +kernel
theorem dX8_placeAmong_66 : decode cX8_placeAmong 66 = .ok (.iload_n 3, 1) := by decide +kernel
theorem dX8_placeAmong_67 : decode cX8_placeAmong 67 = .ok (.sipush 200, 3) := by decide +kernel
theorem dX8_placeAmong_70 : decode cX8_placeAmong 70 = .ok (.if_icmp .ge 18, 3) := by decide +kernel
theorem dX8_placeAmong_73 : decode cX8_placeAmong 73 = .ok (.aload_n 0, 1) := by decide +kernel
theorem dX8_placeAmong_74 : decode cX8_placeAmong 74 = .ok (.getfield 16, 3) := by decide +kernel
theorem dX8_placeAmong_77 : decode cX8_placeAmong 77 = .ok (.iload_n 3, 1) := by decide +kernel
theorem dX8_placeAmong_78 : decode cX8_placeAmong 78 = .ok (.iaload, 1) := by decide +kernel
theorem dX8_placeAmong_79 : decode cX8_placeAmong 79 = .ok (.iload 6, 2) := by decide +kernel
theorem dX8_placeAmong_81 : decode cX8_placeAmong 81 = .ok (.if_icmp .ne 7, 3) := by decide +kernel
theorem dX8_placeAmong_84 : decode cX8_placeAmong 84 = .ok (.iconst 1, 1) := by decide +kernel
theorem dX8_placeAmong_85 : decode cX8_placeAmong 85 = .ok (.goto 4, 3) := by decide +kernel
theorem dX8_placeAmong_88 : decode cX8_placeAmong 88 = .ok (.iconst 0, 1) := by decide +kernel
theorem dX8_placeAmong_89 : decode cX8_placeAmong 89 = .ok (.istore 4, 2) := by decide +kernel
theorem dX8_placeAmong_91 : decode cX8_placeAmong 91 = .ok (.iinc 3 1, 3) := by decide +kernel
theorem dX8_placeAmong_94 : decode cX8_placeAmong 94 = .ok (.goto 29, 3) := by decide +kernel
theorem dX8_placeAmong_97 : decode cX8_placeAmong 97 = .ok (.iload 4, 2) := by decide +kernel
theorem dX8_placeAmong_99 : decode cX8_placeAmong 99 = .ok (.ifCond .eq 13, 3) := by decide +kernel
theorem dX8_placeAmong_102 : decode cX8_placeAmong 102 = .ok (.iload_n 3, 1) := by decide +kernel
theorem dX8_placeAmong_103 : decode cX8_placeAmong 103 = .ok (.aload_n 0, 1) := by decide +kernel
theorem dX8_placeAmong_104 : decode cX8_placeAmong 104 = .ok (.getfield 30, 3) := by decide +kernel
theorem dX8_placeAmong_107 : decode cX8_placeAmong 107 = .ok (.if_icmp .ne 5, 3) := by decide +kernel
theorem dX8_placeAmong_110 : decode cX8_placeAmong 110 = .ok (.iload_n 2, 1) := by decide +kernel
theorem dX8_placeAmong_111 : decode cX8_placeAmong 111 = .ok (.ireturn, 1) := by decide +kernel
theorem dX8_placeAmong_112 : decode cX8_placeAmong 112 = .ok (.iinc 2 1, 3) := by decide +kernel
theorem dX8_placeAmong_115 : decode cX8_placeAmong 115 = .ok (.aload_n 0, 1) := by decide +kernel
theorem dX8_placeAmong_116 : decode cX8_placeAmong 116 = .ok (.getfield 24, 3) := by decide +kernel
theorem dX8_placeAmong_119 : decode cX8_placeAmong 119 = .ok (.istore_n 3, 1) := by decide +kernel
theorem dX8_placeAmong_120 : decode cX8_placeAmong 120 = .ok (.iconst 1, 1) := by decide +kernel
theorem dX8_placeAmong_121 : decode cX8_placeAmong 121 = .ok (.istore 4, 2) := by decide +kernel
theorem dX8_placeAmong_123 : decode cX8_placeAmong 123 = .ok (.iinc 5 1, 3) := by decide +kernel
theorem dX8_placeAmong_126 : decode cX8_placeAmong 126 = .ok (.goto (-101), 3) := by decide +kernel
theorem dX8_placeAmong_129 : decode cX8_placeAmong 129 = .ok (.iconst (-1), 1) := by decide +kernel
theorem dX8_placeAmong_130 : decode cX8_placeAmong 130 = .ok (.ireturn, 1) := by decide +kernel
theorem dX9_init_0 : decode cX9_init 0 = .ok (.aload_n 0, 1) := by decide +kernel
theorem dX9_init_1 : decode cX9_init 1 = .ok (.invokespecial 1, 3) := by decide +kernel
theorem dX9_init_4 : decode cX9_init 4 = .ok (.aload_n 0, 1) := by decide +kernel
theorem dX9_init_5 : decode cX9_init 5 = .ok (.bipush 60, 2) := by decide +kernel
theorem dX9_init_7 : decode cX9_init 7 = .ok (.newarray .int, 2) := by decide +kernel
theorem dX9_init_9 : decode cX9_init 9 = .ok (.putfield 9, 3) := by decide +kernel
theorem dX9_init_12 : decode cX9_init 12 = .ok (.return_, 1) := by decide +kernel
theorem dX9_size_0 : decode cX9_size 0 = .ok (.aload_n 0, 1) := by decide +kernel
theorem dX9_size_1 : decode cX9_size 1 = .ok (.getfield 13, 3) := by decide +kernel
theorem dX9_size_4 : decode cX9_size 4 = .ok (.ireturn, 1) := by decide +kernel
theorem dX9_isFull_0 : decode cX9_isFull 0 = .ok (.aload_n 0, 1) := by decide +kernel
theorem dX9_isFull_1 : decode cX9_isFull 1 = .ok (.getfield 13, 3) := by decide +kernel
theorem dX9_isFull_4 : decode cX9_isFull 4 = .ok (.bipush 60, 2) := by decide +kernel
theorem dX9_isFull_6 : decode cX9_isFull 6 = .ok (.if_icmp .lt 7, 3) := by decide +kernel
theorem dX9_isFull_9 : decode cX9_isFull 9 = .ok (.iconst 1, 1) := by decide +kernel
theorem dX9_isFull_10 : decode cX9_isFull 10 = .ok (.goto 4, 3) := by decide +kernel
theorem dX9_isFull_13 : decode cX9_isFull 13 = .ok (.iconst 0, 1) := by decide +kernel
theorem dX9_isFull_14 : decode cX9_isFull 14 = .ok (.ireturn, 1) := by decide +kernel
theorem dX9_has_0 : decode cX9_has 0 = .ok (.iload_n 1, 1) := by decide +kernel
theorem dX9_has_1 : decode cX9_has 1 = .ok (.ifCond .lt 15, 3) := by decide +kernel
theorem dX9_has_4 : decode cX9_has 4 = .ok (.iload_n 1, 1) := by decide +kernel
theorem dX9_has_5 : decode cX9_has 5 = .ok (.aload_n 0, 1) := by decide +kernel
theorem dX9_has_6 : decode cX9_has 6 = .ok (.getfield 13, 3) := by decide +kernel
theorem dX9_has_9 : decode cX9_has 9 = .ok (.if_icmp .ge 7, 3) := by decide +kernel
theorem dX9_has_12 : decode cX9_has 12 = .ok (.iconst 1, 1) := by decide +kernel
theorem dX9_has_13 : decode cX9_has 13 = .ok (.goto 4, 3) := by decide +kernel
theorem dX9_has_16 : decode cX9_has 16 = .ok (.iconst 0, 1) := by decide +kernel
theorem dX9_has_17 : decode cX9_has 17 = .ok (.ireturn, 1) := by decide +kernel
theorem dX9_at_0 : decode cX9_at 0 = .ok (.aload_n 0, 1) := by decide +kernel
theorem dX9_at_1 : decode cX9_at 1 = .ok (.iload_n 1, 1) := by decide +kernel
theorem dX9_at_2 : decode cX9_at 2 = .ok (.invokevirtual 17, 3) := by decide +kernel
theorem dX9_at_5 : decode cX9_at 5 = .ok (.ifCond .eq 18, 3) := by decide +kernel
theorem dX9_at_8 : decode cX9_at 8 = .ok (.iload_n 1, 1) := by decide +kernel
theorem dX9_at_9 : decode cX9_at 9 = .ok (.bipush 60, 2) := by decide +kernel
theorem dX9_at_11 : decode cX9_at 11 = .ok (.if_icmp .ge 12, 3) := by decide +kernel
theorem dX9_at_14 : decode cX9_at 14 = .ok (.aload_n 0, 1) := by decide +kernel
theorem dX9_at_15 : decode cX9_at 15 = .ok (.getfield 9, 3) := by decide +kernel
theorem dX9_at_18 : decode cX9_at 18 = .ok (.iload_n 1, 1) := by decide +kernel
theorem dX9_at_19 : decode cX9_at 19 = .ok (.iaload, 1) := by decide +kernel
theorem dX9_at_20 : decode cX9_at 20 = .ok (.goto 4, 3) := by decide +kernel
theorem dX9_at_23 : decode cX9_at 23 = .ok (.iconst 0, 1) := by decide +kernel
theorem dX9_at_24 : decode cX9_at 24 = .ok (.ireturn, 1) := by decide +kernel
theorem dX9_add_0 : decode cX9_add 0 = .ok (.aload_n 0, 1) := by decide +kernel
theorem dX9_add_1 : decode cX9_add 1 = .ok (.invokevirtual 21, 3) := by decide +kernel
theorem dX9_add_4 : decode cX9_add 4 = .ok (.ifCond .ne 10, 3) := by decide +kernel
theorem dX9_add_7 : decode cX9_add 7 = .ok (.aload_n 0, 1) := by decide +kernel
theorem dX9_add_8 : decode cX9_add 8 = .ok (.getfield 13, 3) := by decide +kernel
theorem dX9_add_11 : decode cX9_add 11 = .ok (.ifCond .ge 5, 3) := by decide +kernel
theorem dX9_add_14 : decode cX9_add 14 = .ok (.iconst 0, 1) := by decide +kernel
theorem dX9_add_15 : decode cX9_add 15 = .ok (.ireturn, 1) := by decide +kernel
theorem dX9_add_16 : decode cX9_add 16 = .ok (.aload_n 0, 1) := by decide +kernel
theorem dX9_add_17 : decode cX9_add 17 = .ok (.getfield 9, 3) := by decide +kernel
theorem dX9_add_20 : decode cX9_add 20 = .ok (.aload_n 0, 1) := by decide +kernel
theorem dX9_add_21 : decode cX9_add 21 = .ok (.getfield 13, 3) := by decide +kernel
theorem dX9_add_24 : decode cX9_add 24 = .ok (.iload_n 1, 1) := by decide +kernel
theorem dX9_add_25 : decode cX9_add 25 = .ok (.iastore, 1) := by decide +kernel
theorem dX9_add_26 : decode cX9_add 26 = .ok (.aload_n 0, 1) := by decide +kernel
theorem dX9_add_27 : decode cX9_add 27 = .ok (.dup, 1) := by decide +kernel
theorem dX9_add_28 : decode cX9_add 28 = .ok (.getfield 13, 3) := by decide +kernel
theorem dX9_add_31 : decode cX9_add 31 = .ok (.iconst 1, 1) := by decide +kernel
theorem dX9_add_32 : decode cX9_add 32 = .ok (.iadd, 1) := by decide +kernel
theorem dX9_add_33 : decode cX9_add 33 = .ok (.putfield 13, 3) := by decide +kernel
theorem dX9_add_36 : decode cX9_add 36 = .ok (.iconst 1, 1) := by decide +kernel
theorem dX9_add_37 : decode cX9_add 37 = .ok (.ireturn, 1) := by decide +kernel
theorem dX9_becomeEmpty_0 : decode cX9_becomeEmpty 0 = .ok (.aload_n 0, 1) := by decide +kernel
theorem dX9_becomeEmpty_1 : decode cX9_becomeEmpty 1 = .ok (.iconst 0, 1) := by decide +kernel
theorem dX9_becomeEmpty_2 : decode cX9_becomeEmpty 2 = .ok (.putfield 13, 3) := by decide +kernel
theorem dX9_becomeEmpty_5 : decode cX9_becomeEmpty 5 = .ok (.return_, 1) := by decide +kernel
theorem dX9_becomeLike_0 : decode cX9_becomeLike 0 = .ok (.aload_n 1, 1) := by decide +kernel
theorem dX9_becomeLike_1 : decode cX9_becomeLike 1 = .ok (.getfield 9, 3) := by decide +kernel
theorem dX9_becomeLike_4 : decode cX9_becomeLike 4 = .ok (.iconst 0, 1) := by decide +kernel
theorem dX9_becomeLike_5 : decode cX9_becomeLike 5 = .ok (.aload_n 0, 1) := by decide +kernel
theorem dX9_becomeLike_6 : decode cX9_becomeLike 6 = .ok (.getfield 9, 3) := by decide +kernel
theorem dX9_becomeLike_9 : decode cX9_becomeLike 9 = .ok (.iconst 0, 1) := by decide +kernel
theorem dX9_becomeLike_10 : decode cX9_becomeLike 10 = .ok (.bipush 60, 2) := by decide +kernel
theorem dX9_becomeLike_12 : decode cX9_becomeLike 12 = .ok (.invokestatic 25, 3) := by decide +kernel
theorem dX9_becomeLike_15 : decode cX9_becomeLike 15 = .ok (.aload_n 0, 1) := by decide +kernel
theorem dX9_becomeLike_16 : decode cX9_becomeLike 16 = .ok (.aload_n 1, 1) := by decide +kernel
theorem dX9_becomeLike_17 : decode cX9_becomeLike 17 = .ok (.getfield 13, 3) := by decide +kernel
theorem dX9_becomeLike_20 : decode cX9_becomeLike 20 = .ok (.putfield 13, 3) := by decide +kernel
theorem dX9_becomeLike_23 : decode cX9_becomeLike 23 = .ok (.return_, 1) := by decide +kernel
theorem dX9_findPeriod_0 : decode cX9_findPeriod 0 = .ok (.aload_n 0, 1) := by decide +kernel
theorem dX9_findPeriod_1 : decode cX9_findPeriod 1 = .ok (.getfield 13, 3) := by decide +kernel
theorem dX9_findPeriod_4 : decode cX9_findPeriod 4 = .ok (.aload_n 0, 1) := by decide +kernel
theorem dX9_findPeriod_5 : decode cX9_findPeriod 5 = .ok (.getfield 13, 3) := by decide +kernel
theorem dX9_findPeriod_8 : decode cX9_findPeriod 8 = .ok (.iconst 2, 1) := by decide +kernel
theorem dX9_findPeriod_9 : decode cX9_findPeriod 9 = .ok (.idiv, 1) := by decide +kernel
theorem dX9_findPeriod_10 : decode cX9_findPeriod 10 = .ok (.isub, 1) := by decide +kernel
theorem dX9_findPeriod_11 : decode cX9_findPeriod 11 = .ok (.istore_n 1, 1) := by decide +kernel
theorem dX9_findPeriod_12 : decode cX9_findPeriod 12 = .ok (.iconst 1, 1) := by decide +kernel
theorem dX9_findPeriod_13 : decode cX9_findPeriod 13 = .ok (.istore_n 2, 1) := by decide +kernel
theorem dX9_findPeriod_14 : decode cX9_findPeriod 14 = .ok (.iload_n 2, 1) := by decide +kernel
theorem dX9_findPeriod_15 : decode cX9_findPeriod 15 = .ok (.bipush 8, 2) := by decide +kernel
theorem dX9_findPeriod_17 : decode cX9_findPeriod 17 = .ok (.if_icmp .gt 32, 3) := by decide +kernel
theorem dX9_findPeriod_20 : decode cX9_findPeriod 20 = .ok (.iload_n 2, 1) := by decide +kernel
theorem dX9_findPeriod_21 : decode cX9_findPeriod 21 = .ok (.iload_n 1, 1) := by decide +kernel
theorem dX9_findPeriod_22 : decode cX9_findPeriod 22 = .ok (.iconst 2, 1) := by decide +kernel
theorem dX9_findPeriod_23 : decode cX9_findPeriod 23 = .ok (.idiv, 1) := by decide +kernel
theorem dX9_findPeriod_24 : decode cX9_findPeriod 24 = .ok (.if_icmp .gt 25, 3) := by decide +kernel
theorem dX9_findPeriod_27 : decode cX9_findPeriod 27 = .ok (.aload_n 0, 1) := by decide +kernel
theorem dX9_findPeriod_28 : decode cX9_findPeriod 28 = .ok (.iload_n 2, 1) := by decide +kernel
theorem dX9_findPeriod_29 : decode cX9_findPeriod 29 = .ok (.aload_n 0, 1) := by decide +kernel
theorem dX9_findPeriod_30 : decode cX9_findPeriod 30 = .ok (.getfield 13, 3) := by decide +kernel
theorem dX9_findPeriod_33 : decode cX9_findPeriod 33 = .ok (.iload_n 1, 1) := by decide +kernel
theorem dX9_findPeriod_34 : decode cX9_findPeriod 34 = .ok (.isub, 1) := by decide +kernel
theorem dX9_findPeriod_35 : decode cX9_findPeriod 35 = .ok (.invokevirtual 31, 3) := by decide +kernel
theorem dX9_findPeriod_38 : decode cX9_findPeriod 38 = .ok (.ifCond .eq 5, 3) := by decide +kernel
theorem dX9_findPeriod_41 : decode cX9_findPeriod 41 = .ok (.iload_n 2, 1) := by decide +kernel
theorem dX9_findPeriod_42 : decode cX9_findPeriod 42 = .ok (.ireturn, 1) := by decide +kernel
theorem dX9_findPeriod_43 : decode cX9_findPeriod 43 = .ok (.iinc 2 1, 3) := by decide +kernel
theorem dX9_findPeriod_46 : decode cX9_findPeriod 46 = .ok (.goto (-32), 3) := by decide +kernel
theorem dX9_findPeriod_49 : decode cX9_findPeriod 49 = .ok (.iconst 0, 1) := by decide +kernel
theorem dX9_findPeriod_50 : decode cX9_findPeriod 50 = .ok (.ireturn, 1) := by decide +kernel
theorem dX9_comesAgainBy_0 : decode cX9_comesAgainBy 0 = .ok (.iload_n 2, 1) := by decide +kernel
theorem dX9_comesAgainBy_1 : decode cX9_comesAgainBy 1 = .ok (.iload_n 1, 1) := by decide +kernel
theorem dX9_comesAgainBy_2 : decode cX9_comesAgainBy 2 = .ok (.iadd, 1) := by decide +kernel
theorem dX9_comesAgainBy_3 : decode cX9_comesAgainBy 3 = .ok (.istore_n 3, 1) := by decide +kernel
theorem dX9_comesAgainBy_4 : decode cX9_comesAgainBy 4 = .ok (.iload_n 3, 1) := by decide +kernel
theorem dX9_comesAgainBy_5 : decode cX9_comesAgainBy 5 = .ok (.aload_n 0, 1) := by decide +kernel
theorem dX9_comesAgainBy_6 : decode cX9_comesAgainBy 6 = .ok (.getfield 13, 3) := by decide +kernel
theorem dX9_comesAgainBy_9 : decode cX9_comesAgainBy 9 = .ok (.if_icmp .ge 26, 3) := by decide +kernel
theorem dX9_comesAgainBy_12 : decode cX9_comesAgainBy 12 = .ok (.aload_n 0, 1) := by decide +kernel
theorem dX9_comesAgainBy_13 : decode cX9_comesAgainBy 13 = .ok (.iload_n 3, 1) := by decide +kernel
theorem dX9_comesAgainBy_14 : decode cX9_comesAgainBy 14 = .ok (.invokevirtual 35, 3) := by decide +kernel
theorem dX9_comesAgainBy_17 : decode cX9_comesAgainBy 17 = .ok (.aload_n 0, 1) := by decide +kernel
theorem dX9_comesAgainBy_18 : decode cX9_comesAgainBy 18 = .ok (.iload_n 3, 1) := by decide +kernel
theorem dX9_comesAgainBy_19 : decode cX9_comesAgainBy 19 = .ok (.iload_n 1, 1) := by decide +kernel
theorem dX9_comesAgainBy_20 : decode cX9_comesAgainBy 20 = .ok (.isub, 1) := by decide +kernel
theorem dX9_comesAgainBy_21 : decode cX9_comesAgainBy 21 = .ok (.invokevirtual 35, 3) := by decide +kernel
theorem dX9_comesAgainBy_24 : decode cX9_comesAgainBy 24 = .ok (.if_icmp .eq 5, 3) := by decide +kernel
theorem dX9_comesAgainBy_27 : decode cX9_comesAgainBy 27 = .ok (.iconst 0, 1) := by decide +kernel
theorem dX9_comesAgainBy_28 : decode cX9_comesAgainBy 28 = .ok (.ireturn, 1) := by decide +kernel
theorem dX9_comesAgainBy_29 : decode cX9_comesAgainBy 29 = .ok (.iinc 3 1, 3) := by decide +kernel
theorem dX9_comesAgainBy_32 : decode cX9_comesAgainBy 32 = .ok (.goto (-28), 3) := by decide +kernel
theorem dX9_comesAgainBy_35 : decode cX9_comesAgainBy 35 = .ok (.iconst 1, 1) := by decide +kernel
theorem dX9_comesAgainBy_36 : decode cX9_comesAgainBy 36 = .ok (.ireturn, 1) := by decide +kernel
theorem dX9_findKind_0 : decode cX9_findKind 0 = .ok (.aload_n 0, 1) := by decide +kernel
theorem dX9_findKind_1 : decode cX9_findKind 1 = .ok (.getfield 13, 3) := by decide +kernel
theorem dX9_findKind_4 : decode cX9_findKind 4 = .ok (.ifCond .ne 6, 3) := by decide +kernel
theorem dX9_findKind_7 : decode cX9_findKind 7 = .ok (.bipush 6, 2) := by decide +kernel
theorem dX9_findKind_9 : decode cX9_findKind 9 = .ok (.ireturn, 1) := by decide +kernel
theorem dX9_findKind_10 : decode cX9_findKind 10 = .ok (.aload_n 0, 1) := by decide +kernel
theorem dX9_findKind_11 : decode cX9_findKind 11 = .ok (.invokevirtual 41, 3) := by decide +kernel
theorem dX9_findKind_14 : decode cX9_findKind 14 = .ok (.tableswitch 38 1 4 #[30, 32, 34, 36], 30) := by decide +kernel
theorem dX9_findKind_44 : decode cX9_findKind 44 = .ok (.iconst 1, 1) := by decide +kernel
theorem dX9_findKind_45 : decode cX9_findKind 45 = .ok (.ireturn, 1) := by decide +kernel
theorem dX9_findKind_46 : decode cX9_findKind 46 = .ok (.iconst 2, 1) := by decide +kernel
theorem dX9_findKind_47 : decode cX9_findKind 47 = .ok (.ireturn, 1) := by decide +kernel
theorem dX9_findKind_48 : decode cX9_findKind 48 = .ok (.iconst 4, 1) := by decide +kernel
theorem dX9_findKind_49 : decode cX9_findKind 49 = .ok (.ireturn, 1) := by decide +kernel
theorem dX9_findKind_50 : decode cX9_findKind 50 = .ok (.iconst 3, 1) := by decide +kernel
theorem dX9_findKind_51 : decode cX9_findKind 51 = .ok (.ireturn, 1) := by decide +kernel
theorem dX9_findKind_52 : decode cX9_findKind 52 = .ok (.iconst 5, 1) := by decide +kernel
theorem dX9_findKind_53 : decode cX9_findKind 53 = .ok (.ireturn, 1) := by decide +kernel
theorem dX9_findOrder_0 : decode cX9_findOrder 0 = .ok (.iconst 1, 1) := by decide +kernel
theorem dX9_findOrder_1 : decode cX9_findOrder 1 = .ok (.istore_n 1, 1) := by decide +kernel
theorem dX9_findOrder_2 : decode cX9_findOrder 2 = .ok (.iload_n 1, 1) := by decide +kernel
theorem dX9_findOrder_3 : decode cX9_findOrder 3 = .ok (.iconst 4, 1) := by decide +kernel
theorem dX9_findOrder_4 : decode cX9_findOrder 4 = .ok (.if_icmp .gt 19, 3) := by decide +kernel
theorem dX9_findOrder_7 : decode cX9_findOrder 7 = .ok (.aload_n 0, 1) := by decide +kernel
theorem dX9_findOrder_8 : decode cX9_findOrder 8 = .ok (.iload_n 1, 1) := by decide +kernel
theorem dX9_findOrder_9 : decode cX9_findOrder 9 = .ok (.invokevirtual 45, 3) := by decide +kernel
theorem dX9_findOrder_12 : decode cX9_findOrder 12 = .ok (.ifCond .eq 5, 3) := by decide +kernel
theorem dX9_findOrder_15 : decode cX9_findOrder 15 = .ok (.iload_n 1, 1) := by decide +kernel
theorem dX9_findOrder_16 : decode cX9_findOrder 16 = .ok (.ireturn, 1) := by decide +kernel
theorem dX9_findOrder_17 : decode cX9_findOrder 17 = .ok (.iinc 1 1, 3) := by decide +kernel
theorem dX9_findOrder_20 : decode cX9_findOrder 20 = .ok (.goto (-18), 3) := by decide +kernel
theorem dX9_findOrder_23 : decode cX9_findOrder 23 = .ok (.iconst 0, 1) := by decide +kernel
theorem dX9_findOrder_24 : decode cX9_findOrder 24 = .ok (.ireturn, 1) := by decide +kernel
theorem dX9_isOrder_0 : decode cX9_isOrder 0 = .ok (.iconst 1, 1) := by decide +kernel
theorem dX9_isOrder_1 : decode cX9_isOrder 1 = .ok (.istore_n 2, 1) := by decide +kernel
theorem dX9_isOrder_2 : decode cX9_isOrder 2 = .ok (.iload_n 2, 1) := by decide +kernel
theorem dX9_isOrder_3 : decode cX9_isOrder 3 = .ok (.iload_n 1, 1) := by decide +kernel
theorem dX9_isOrder_4 : decode cX9_isOrder 4 = .ok (.iadd, 1) := by decide +kernel
theorem dX9_isOrder_5 : decode cX9_isOrder 5 = .ok (.aload_n 0, 1) := by decide +kernel
theorem dX9_isOrder_6 : decode cX9_isOrder 6 = .ok (.getfield 13, 3) := by decide +kernel
theorem dX9_isOrder_9 : decode cX9_isOrder 9 = .ok (.if_icmp .ge 51, 3) := by decide +kernel
theorem dX9_isOrder_12 : decode cX9_isOrder 12 = .ok (.iconst 0, 1) := by decide +kernel
theorem dX9_isOrder_13 : decode cX9_isOrder 13 = .ok (.istore_n 3, 1) := by decide +kernel
theorem dX9_isOrder_14 : decode cX9_isOrder 14 = .ok (.iload_n 3, 1) := by decide +kernel
theorem dX9_isOrder_15 : decode cX9_isOrder 15 = .ok (.iload_n 2, 1) := by decide +kernel
theorem dX9_isOrder_16 : decode cX9_isOrder 16 = .ok (.if_icmp .ge 38, 3) := by decide +kernel
theorem dX9_isOrder_19 : decode cX9_isOrder 19 = .ok (.aload_n 0, 1) := by decide +kernel
theorem dX9_isOrder_20 : decode cX9_isOrder 20 = .ok (.iload_n 3, 1) := by decide +kernel
theorem dX9_isOrder_21 : decode cX9_isOrder 21 = .ok (.iload_n 1, 1) := by decide +kernel
theorem dX9_isOrder_22 : decode cX9_isOrder 22 = .ok (.iadd, 1) := by decide +kernel
theorem dX9_isOrder_23 : decode cX9_isOrder 23 = .ok (.invokevirtual 35, 3) := by decide +kernel
theorem dX9_isOrder_26 : decode cX9_isOrder 26 = .ok (.aload_n 0, 1) := by decide +kernel
theorem dX9_isOrder_27 : decode cX9_isOrder 27 = .ok (.iload_n 2, 1) := by decide +kernel
theorem dX9_isOrder_28 : decode cX9_isOrder 28 = .ok (.iload_n 1, 1) := by decide +kernel
theorem dX9_isOrder_29 : decode cX9_isOrder 29 = .ok (.iadd, 1) := by decide +kernel
theorem dX9_isOrder_30 : decode cX9_isOrder 30 = .ok (.invokevirtual 35, 3) := by decide +kernel
theorem dX9_isOrder_33 : decode cX9_isOrder 33 = .ok (.if_icmp .eq 15, 3) := by decide +kernel
theorem dX9_isOrder_36 : decode cX9_isOrder 36 = .ok (.aload_n 0, 1) := by decide +kernel
theorem dX9_isOrder_37 : decode cX9_isOrder 37 = .ok (.iload_n 3, 1) := by decide +kernel
theorem dX9_isOrder_38 : decode cX9_isOrder 38 = .ok (.iload_n 2, 1) := by decide +kernel
theorem dX9_isOrder_39 : decode cX9_isOrder 39 = .ok (.iload_n 1, 1) := by decide +kernel
theorem dX9_isOrder_40 : decode cX9_isOrder 40 = .ok (.invokevirtual 48, 3) := by decide +kernel
theorem dX9_isOrder_43 : decode cX9_isOrder 43 = .ok (.ifCond .eq 5, 3) := by decide +kernel
theorem dX9_isOrder_46 : decode cX9_isOrder 46 = .ok (.iconst 0, 1) := by decide +kernel
theorem dX9_isOrder_47 : decode cX9_isOrder 47 = .ok (.ireturn, 1) := by decide +kernel
theorem dX9_isOrder_48 : decode cX9_isOrder 48 = .ok (.iinc 3 1, 3) := by decide +kernel
theorem dX9_isOrder_51 : decode cX9_isOrder 51 = .ok (.goto (-37), 3) := by decide +kernel
theorem dX9_isOrder_54 : decode cX9_isOrder 54 = .ok (.iinc 2 1, 3) := by decide +kernel
theorem dX9_isOrder_57 : decode cX9_isOrder 57 = .ok (.goto (-55), 3) := by decide +kernel
theorem dX9_isOrder_60 : decode cX9_isOrder 60 = .ok (.iconst 1, 1) := by decide +kernel
theorem dX9_isOrder_61 : decode cX9_isOrder 61 = .ok (.ireturn, 1) := by decide +kernel
theorem dX9_isSameRun_0 : decode cX9_isSameRun 0 = .ok (.iconst 0, 1) := by decide +kernel
theorem dX9_isSameRun_1 : decode cX9_isSameRun 1 = .ok (.istore 4, 2) := by decide +kernel
theorem dX9_isSameRun_3 : decode cX9_isSameRun 3 = .ok (.iload 4, 2) := by decide +kernel
theorem dX9_isSameRun_5 : decode cX9_isSameRun 5 = .ok (.iload_n 3, 1) := by decide +kernel
theorem dX9_isSameRun_6 : decode cX9_isSameRun 6 = .ok (.if_icmp .ge 30, 3) := by decide +kernel
theorem dX9_isSameRun_9 : decode cX9_isSameRun 9 = .ok (.aload_n 0, 1) := by decide +kernel
theorem dX9_isSameRun_10 : decode cX9_isSameRun 10 = .ok (.iload_n 1, 1) := by decide +kernel
theorem dX9_isSameRun_11 : decode cX9_isSameRun 11 = .ok (.iload 4, 2) := by decide +kernel
theorem dX9_isSameRun_13 : decode cX9_isSameRun 13 = .ok (.iadd, 1) := by decide +kernel
theorem dX9_isSameRun_14 : decode cX9_isSameRun 14 = .ok (.invokevirtual 35, 3) := by decide +kernel
theorem dX9_isSameRun_17 : decode cX9_isSameRun 17 = .ok (.aload_n 0, 1) := by decide +kernel
theorem dX9_isSameRun_18 : decode cX9_isSameRun 18 = .ok (.iload_n 2, 1) := by decide +kernel
theorem dX9_isSameRun_19 : decode cX9_isSameRun 19 = .ok (.iload 4, 2) := by decide +kernel
theorem dX9_isSameRun_21 : decode cX9_isSameRun 21 = .ok (.iadd, 1) := by decide +kernel
theorem dX9_isSameRun_22 : decode cX9_isSameRun 22 = .ok (.invokevirtual 35, 3) := by decide +kernel
theorem dX9_isSameRun_25 : decode cX9_isSameRun 25 = .ok (.if_icmp .eq 5, 3) := by decide +kernel
theorem dX9_isSameRun_28 : decode cX9_isSameRun 28 = .ok (.iconst 0, 1) := by decide +kernel
theorem dX9_isSameRun_29 : decode cX9_isSameRun 29 = .ok (.ireturn, 1) := by decide +kernel
theorem dX9_isSameRun_30 : decode cX9_isSameRun 30 = .ok (.iinc 4 1, 3) := by decide +kernel
theorem dX9_isSameRun_33 : decode cX9_isSameRun 33 = .ok (.goto (-30), 3) := by decide +kernel
theorem dX9_isSameRun_36 : decode cX9_isSameRun 36 = .ok (.iconst 1, 1) := by decide +kernel
theorem dX9_isSameRun_37 : decode cX9_isSameRun 37 = .ok (.ireturn, 1) := by decide +kernel
theorem dX9_countHits_0 : decode cX9_countHits 0 = .ok (.iconst 0, 1) := by decide +kernel
theorem dX9_countHits_1 : decode cX9_countHits 1 = .ok (.istore_n 3, 1) := by decide +kernel
theorem dX9_countHits_2 : decode cX9_countHits 2 = .ok (.iconst 1, 1) := by decide +kernel
theorem dX9_countHits_3 : decode cX9_countHits 3 = .ok (.istore 4, 2) := by decide +kernel
theorem dX9_countHits_5 : decode cX9_countHits 5 = .ok (.iload 4, 2) := by decide +kernel
theorem dX9_countHits_7 : decode cX9_countHits 7 = .ok (.iload_n 1, 1) := by decide +kernel
theorem dX9_countHits_8 : decode cX9_countHits 8 = .ok (.iadd, 1) := by decide +kernel
theorem dX9_countHits_9 : decode cX9_countHits 9 = .ok (.aload_n 0, 1) := by decide +kernel
theorem dX9_countHits_10 : decode cX9_countHits 10 = .ok (.getfield 13, 3) := by decide +kernel
theorem dX9_countHits_13 : decode cX9_countHits 13 = .ok (.if_icmp .ge 35, 3) := by decide +kernel
theorem dX9_countHits_16 : decode cX9_countHits 16 = .ok (.aload_n 0, 1) := by decide +kernel
theorem dX9_countHits_17 : decode cX9_countHits 17 = .ok (.iload 4, 2) := by decide +kernel
theorem dX9_countHits_19 : decode cX9_countHits 19 = .ok (.iload_n 1, 1) := by decide +kernel
theorem dX9_countHits_20 : decode cX9_countHits 20 = .ok (.invokevirtual 52, 3) := by decide +kernel
theorem dX9_countHits_23 : decode cX9_countHits 23 = .ok (.aload_n 0, 1) := by decide +kernel
theorem dX9_countHits_24 : decode cX9_countHits 24 = .ok (.iload 4, 2) := by decide +kernel
theorem dX9_countHits_26 : decode cX9_countHits 26 = .ok (.iload_n 1, 1) := by decide +kernel
theorem dX9_countHits_27 : decode cX9_countHits 27 = .ok (.iadd, 1) := by decide +kernel
theorem dX9_countHits_28 : decode cX9_countHits 28 = .ok (.invokevirtual 35, 3) := by decide +kernel
theorem dX9_countHits_31 : decode cX9_countHits 31 = .ok (.isub, 1) := by decide +kernel
theorem dX9_countHits_32 : decode cX9_countHits 32 = .ok (.invokestatic 56, 3) := by decide +kernel
theorem dX9_countHits_35 : decode cX9_countHits 35 = .ok (.iload_n 2, 1) := by decide +kernel
theorem dX9_countHits_36 : decode cX9_countHits 36 = .ok (.if_icmp .gt 6, 3) := by decide +kernel
theorem dX9_countHits_39 : decode cX9_countHits 39 = .ok (.iinc 3 1, 3) := by decide +kernel
theorem dX9_countHits_42 : decode cX9_countHits 42 = .ok (.iinc 4 1, 3) := by decide +kernel
theorem dX9_countHits_45 : decode cX9_countHits 45 = .ok (.goto (-40), 3) := by decide +kernel
theorem dX9_countHits_48 : decode cX9_countHits 48 = .ok (.iload_n 3, 1) := by decide +kernel
theorem dX9_countHits_49 : decode cX9_countHits 49 = .ok (.ireturn, 1) := by decide +kernel
theorem dX9_toldAhead_0 : decode cX9_toldAhead 0 = .ok (.aload_n 0, 1) := by decide +kernel
theorem dX9_toldAhead_1 : decode cX9_toldAhead 1 = .ok (.iload_n 1, 1) := by decide +kernel
theorem dX9_toldAhead_2 : decode cX9_toldAhead 2 = .ok (.invokevirtual 35, 3) := by decide +kernel
theorem dX9_toldAhead_5 : decode cX9_toldAhead 5 = .ok (.istore_n 3, 1) := by decide +kernel
theorem dX9_toldAhead_6 : decode cX9_toldAhead 6 = .ok (.iconst 0, 1) := by decide +kernel
theorem dX9_toldAhead_7 : decode cX9_toldAhead 7 = .ok (.istore 4, 2) := by decide +kernel
theorem dX9_toldAhead_9 : decode cX9_toldAhead 9 = .ok (.iload 4, 2) := by decide +kernel
theorem dX9_toldAhead_11 : decode cX9_toldAhead 11 = .ok (.iload_n 2, 1) := by decide +kernel
theorem dX9_toldAhead_12 : decode cX9_toldAhead 12 = .ok (.if_icmp .ge 22, 3) := by decide +kernel
theorem dX9_toldAhead_15 : decode cX9_toldAhead 15 = .ok (.aload_n 0, 1) := by decide +kernel
theorem dX9_toldAhead_16 : decode cX9_toldAhead 16 = .ok (.aload_n 0, 1) := by decide +kernel
theorem dX9_toldAhead_17 : decode cX9_toldAhead 17 = .ok (.iload_n 1, 1) := by decide +kernel
theorem dX9_toldAhead_18 : decode cX9_toldAhead 18 = .ok (.iload_n 3, 1) := by decide +kernel
theorem dX9_toldAhead_19 : decode cX9_toldAhead 19 = .ok (.invokevirtual 61, 3) := by decide +kernel
theorem dX9_toldAhead_22 : decode cX9_toldAhead 22 = .ok (.iconst 1, 1) := by decide +kernel
theorem dX9_toldAhead_23 : decode cX9_toldAhead 23 = .ok (.iadd, 1) := by decide +kernel
theorem dX9_toldAhead_24 : decode cX9_toldAhead 24 = .ok (.invokevirtual 35, 3) := by decide +kernel
theorem dX9_toldAhead_27 : decode cX9_toldAhead 27 = .ok (.istore_n 3, 1) := by decide +kernel
theorem dX9_toldAhead_28 : decode cX9_toldAhead 28 = .ok (.iinc 4 1, 3) := by decide +kernel
theorem dX9_toldAhead_31 : decode cX9_toldAhead 31 = .ok (.goto (-22), 3) := by decide +kernel
theorem dX9_toldAhead_34 : decode cX9_toldAhead 34 = .ok (.iload_n 3, 1) := by decide +kernel
theorem dX9_toldAhead_35 : decode cX9_toldAhead 35 = .ok (.ireturn, 1) := by decide +kernel
theorem dX9_nearestBefore_0 : decode cX9_nearestBefore 0 = .ok (.iconst 0, 1) := by decide +kernel
theorem dX9_nearestBefore_1 : decode cX9_nearestBefore 1 = .ok (.istore_n 3, 1) := by decide +kernel
theorem dX9_nearestBefore_2 : decode cX9_nearestBefore 2 = .ok (.iconst 1, 1) := by decide +kernel
theorem dX9_nearestBefore_3 : decode cX9_nearestBefore 3 = .ok (.istore 4, 2) := by decide +kernel
theorem dX9_nearestBefore_5 : decode cX9_nearestBefore 5 = .ok (.iload 4, 2) := by decide +kernel
theorem dX9_nearestBefore_7 : decode cX9_nearestBefore 7 = .ok (.iload_n 1, 1) := by decide +kernel
theorem dX9_nearestBefore_8 : decode cX9_nearestBefore 8 = .ok (.if_icmp .ge 36, 3) := by decide +kernel
theorem dX9_nearestBefore_11 : decode cX9_nearestBefore 11 = .ok (.aload_n 0, 1) := by decide +kernel
theorem dX9_nearestBefore_12 : decode cX9_nearestBefore 12 = .ok (.iload 4, 2) := by decide +kernel
theorem dX9_nearestBefore_14 : decode cX9_nearestBefore 14 = .ok (.invokevirtual 35, 3) := by decide +kernel
theorem dX9_nearestBefore_17 : decode cX9_nearestBefore 17 = .ok (.iload_n 2, 1) := by decide +kernel
theorem dX9_nearestBefore_18 : decode cX9_nearestBefore 18 = .ok (.isub, 1) := by decide +kernel
theorem dX9_nearestBefore_19 : decode cX9_nearestBefore 19 = .ok (.invokestatic 56, 3) := by decide +kernel
theorem dX9_nearestBefore_22 : decode cX9_nearestBefore 22 = .ok (.aload_n 0, 1) := by decide +kernel
theorem dX9_nearestBefore_23 : decode cX9_nearestBefore 23 = .ok (.iload_n 3, 1) := by decide +kernel
theorem dX9_nearestBefore_24 : decode cX9_nearestBefore 24 = .ok (.invokevirtual 35, 3) := by decide +kernel
theorem dX9_nearestBefore_27 : decode cX9_nearestBefore 27 = .ok (.iload_n 2, 1) := by decide +kernel
theorem dX9_nearestBefore_28 : decode cX9_nearestBefore 28 = .ok (.isub, 1) := by decide +kernel
theorem dX9_nearestBefore_29 : decode cX9_nearestBefore 29 = .ok (.invokestatic 56, 3) := by decide +kernel
theorem dX9_nearestBefore_32 : decode cX9_nearestBefore 32 = .ok (.if_icmp .gt 6, 3) := by decide +kernel
theorem dX9_nearestBefore_35 : decode cX9_nearestBefore 35 = .ok (.iload 4, 2) := by decide +kernel
theorem dX9_nearestBefore_37 : decode cX9_nearestBefore 37 = .ok (.istore_n 3, 1) := by decide +kernel
theorem dX9_nearestBefore_38 : decode cX9_nearestBefore 38 = .ok (.iinc 4 1, 3) := by decide +kernel
theorem dX9_nearestBefore_41 : decode cX9_nearestBefore 41 = .ok (.goto (-36), 3) := by decide +kernel
theorem dX9_nearestBefore_44 : decode cX9_nearestBefore 44 = .ok (.iload_n 3, 1) := by decide +kernel
theorem dX9_nearestBefore_45 : decode cX9_nearestBefore 45 = .ok (.ireturn, 1) := by decide +kernel
theorem dX9_countTwos_0 : decode cX9_countTwos 0 = .ok (.iconst 0, 1) := by decide +kernel
theorem dX9_countTwos_1 : decode cX9_countTwos 1 = .ok (.istore_n 3, 1) := by decide +kernel
theorem dX9_countTwos_2 : decode cX9_countTwos 2 = .ok (.iconst 1, 1) := by decide +kernel
theorem dX9_countTwos_3 : decode cX9_countTwos 3 = .ok (.istore 4, 2) := by decide +kernel
theorem dX9_countTwos_5 : decode cX9_countTwos 5 = .ok (.iload 4, 2) := by decide +kernel
theorem dX9_countTwos_7 : decode cX9_countTwos 7 = .ok (.iconst 1, 1) := by decide +kernel
theorem dX9_countTwos_8 : decode cX9_countTwos 8 = .ok (.iadd, 1) := by decide +kernel
theorem dX9_countTwos_9 : decode cX9_countTwos 9 = .ok (.aload_n 0, 1) := by decide +kernel
theorem dX9_countTwos_10 : decode cX9_countTwos 10 = .ok (.getfield 13, 3) := by decide +kernel
theorem dX9_countTwos_13 : decode cX9_countTwos 13 = .ok (.if_icmp .ge 60, 3) := by decide +kernel
theorem dX9_countTwos_16 : decode cX9_countTwos 16 = .ok (.iconst 0, 1) := by decide +kernel
theorem dX9_countTwos_17 : decode cX9_countTwos 17 = .ok (.istore 5, 2) := by decide +kernel
theorem dX9_countTwos_19 : decode cX9_countTwos 19 = .ok (.iload 5, 2) := by decide +kernel
theorem dX9_countTwos_21 : decode cX9_countTwos 21 = .ok (.iload 4, 2) := by decide +kernel
theorem dX9_countTwos_23 : decode cX9_countTwos 23 = .ok (.if_icmp .ge 44, 3) := by decide +kernel
theorem dX9_countTwos_26 : decode cX9_countTwos 26 = .ok (.aload_n 0, 1) := by decide +kernel
theorem dX9_countTwos_27 : decode cX9_countTwos 27 = .ok (.iload 5, 2) := by decide +kernel
theorem dX9_countTwos_29 : decode cX9_countTwos 29 = .ok (.iload 4, 2) := by decide +kernel
theorem dX9_countTwos_31 : decode cX9_countTwos 31 = .ok (.iload_n 1, 1) := by decide +kernel
theorem dX9_countTwos_32 : decode cX9_countTwos 32 = .ok (.invokevirtual 64, 3) := by decide +kernel
theorem dX9_countTwos_35 : decode cX9_countTwos 35 = .ok (.ifCond .eq 26, 3) := by decide +kernel
theorem dX9_countTwos_38 : decode cX9_countTwos 38 = .ok (.iload_n 2, 1) := by decide +kernel
theorem dX9_countTwos_39 : decode cX9_countTwos 39 = .ok (.ifCond .eq 19, 3) := by decide +kernel
theorem dX9_countTwos_42 : decode cX9_countTwos 42 = .ok (.aload_n 0, 1) := by decide +kernel
theorem dX9_countTwos_43 : decode cX9_countTwos 43 = .ok (.iload 5, 2) := by decide +kernel
theorem dX9_countTwos_45 : decode cX9_countTwos 45 = .ok (.iconst 1, 1) := by decide +kernel
theorem dX9_countTwos_46 : decode cX9_countTwos 46 = .ok (.iadd, 1) := by decide +kernel
theorem dX9_countTwos_47 : decode cX9_countTwos 47 = .ok (.iload 4, 2) := by decide +kernel
theorem dX9_countTwos_49 : decode cX9_countTwos 49 = .ok (.iconst 1, 1) := by decide +kernel
theorem dX9_countTwos_50 : decode cX9_countTwos 50 = .ok (.iadd, 1) := by decide +kernel
theorem dX9_countTwos_51 : decode cX9_countTwos 51 = .ok (.iload_n 1, 1) := by decide +kernel
theorem dX9_countTwos_52 : decode cX9_countTwos 52 = .ok (.invokevirtual 64, 3) := by decide +kernel
theorem dX9_countTwos_55 : decode cX9_countTwos 55 = .ok (.ifCond .eq 6, 3) := by decide +kernel
theorem dX9_countTwos_58 : decode cX9_countTwos 58 = .ok (.iinc 3 1, 3) := by decide +kernel
theorem dX9_countTwos_61 : decode cX9_countTwos 61 = .ok (.iinc 5 1, 3) := by decide +kernel
theorem dX9_countTwos_64 : decode cX9_countTwos 64 = .ok (.goto (-45), 3) := by decide +kernel
theorem dX9_countTwos_67 : decode cX9_countTwos 67 = .ok (.iinc 4 1, 3) := by decide +kernel
theorem dX9_countTwos_70 : decode cX9_countTwos 70 = .ok (.goto (-65), 3) := by decide +kernel
theorem dX9_countTwos_73 : decode cX9_countTwos 73 = .ok (.iload_n 3, 1) := by decide +kernel
theorem dX9_countTwos_74 : decode cX9_countTwos 74 = .ok (.ireturn, 1) := by decide +kernel
theorem dX9_isApart_0 : decode cX9_isApart 0 = .ok (.aload_n 0, 1) := by decide +kernel
theorem dX9_isApart_1 : decode cX9_isApart 1 = .ok (.iload_n 1, 1) := by decide +kernel
theorem dX9_isApart_2 : decode cX9_isApart 2 = .ok (.invokevirtual 35, 3) := by decide +kernel
theorem dX9_isApart_5 : decode cX9_isApart 5 = .ok (.aload_n 0, 1) := by decide +kernel
theorem dX9_isApart_6 : decode cX9_isApart 6 = .ok (.iload_n 2, 1) := by decide +kernel
theorem dX9_isApart_7 : decode cX9_isApart 7 = .ok (.invokevirtual 35, 3) := by decide +kernel
theorem dX9_isApart_10 : decode cX9_isApart 10 = .ok (.isub, 1) := by decide +kernel
theorem dX9_isApart_11 : decode cX9_isApart 11 = .ok (.invokestatic 56, 3) := by decide +kernel
theorem dX9_isApart_14 : decode cX9_isApart 14 = .ok (.iload_n 3, 1) := by decide +kernel
theorem dX9_isApart_15 : decode cX9_isApart 15 = .ok (.if_icmp .gt 7, 3) := by decide +kernel
theorem dX9_isApart_18 : decode cX9_isApart 18 = .ok (.iconst 1, 1) := by decide +kernel
theorem dX9_isApart_19 : decode cX9_isApart 19 = .ok (.goto 4, 3) := by decide +kernel
theorem dX9_isApart_22 : decode cX9_isApart 22 = .ok (.iconst 0, 1) := by decide +kernel
theorem dX9_isApart_23 : decode cX9_isApart 23 = .ok (.ireturn, 1) := by decide +kernel
theorem dX9_least_0 : decode cX9_least 0 = .ok (.aload_n 0, 1) := by decide +kernel
theorem dX9_least_1 : decode cX9_least 1 = .ok (.iconst 0, 1) := by decide +kernel
theorem dX9_least_2 : decode cX9_least 2 = .ok (.invokevirtual 35, 3) := by decide +kernel
theorem dX9_least_5 : decode cX9_least 5 = .ok (.istore_n 1, 1) := by decide +kernel
theorem dX9_least_6 : decode cX9_least 6 = .ok (.iconst 1, 1) := by decide +kernel
theorem dX9_least_7 : decode cX9_least 7 = .ok (.istore_n 2, 1) := by decide +kernel
theorem dX9_least_8 : decode cX9_least 8 = .ok (.iload_n 2, 1) := by decide +kernel
theorem dX9_least_9 : decode cX9_least 9 = .ok (.aload_n 0, 1) := by decide +kernel
theorem dX9_least_10 : decode cX9_least 10 = .ok (.getfield 13, 3) := by decide +kernel
theorem dX9_least_13 : decode cX9_least 13 = .ok (.if_icmp .ge 19, 3) := by decide +kernel
theorem dX9_least_16 : decode cX9_least 16 = .ok (.iload_n 1, 1) := by decide +kernel
theorem dX9_least_17 : decode cX9_least 17 = .ok (.aload_n 0, 1) := by decide +kernel
theorem dX9_least_18 : decode cX9_least 18 = .ok (.iload_n 2, 1) := by decide +kernel
theorem dX9_least_19 : decode cX9_least 19 = .ok (.invokevirtual 35, 3) := by decide +kernel
theorem dX9_least_22 : decode cX9_least 22 = .ok (.invokestatic 67, 3) := by decide +kernel
theorem dX9_least_25 : decode cX9_least 25 = .ok (.istore_n 1, 1) := by decide +kernel
theorem dX9_least_26 : decode cX9_least 26 = .ok (.iinc 2 1, 3) := by decide +kernel
theorem dX9_least_29 : decode cX9_least 29 = .ok (.goto (-21), 3) := by decide +kernel
theorem dX9_least_32 : decode cX9_least 32 = .ok (.iload_n 1, 1) := by decide +kernel
theorem dX9_least_33 : decode cX9_least 33 = .ok (.ireturn, 1) := by decide +kernel
theorem dX9_greatest_0 : decode cX9_greatest 0 = .ok (.aload_n 0, 1) := by decide +kernel
theorem dX9_greatest_1 : decode cX9_greatest 1 = .ok (.iconst 0, 1) := by decide +kernel
theorem dX9_greatest_2 : decode cX9_greatest 2 = .ok (.invokevirtual 35, 3) := by decide +kernel
theorem dX9_greatest_5 : decode cX9_greatest 5 = .ok (.istore_n 1, 1) := by decide +kernel
theorem dX9_greatest_6 : decode cX9_greatest 6 = .ok (.iconst 1, 1) := by decide +kernel
theorem dX9_greatest_7 : decode cX9_greatest 7 = .ok (.istore_n 2, 1) := by decide +kernel
theorem dX9_greatest_8 : decode cX9_greatest 8 = .ok (.iload_n 2, 1) := by decide +kernel
theorem dX9_greatest_9 : decode cX9_greatest 9 = .ok (.aload_n 0, 1) := by decide +kernel
theorem dX9_greatest_10 : decode cX9_greatest 10 = .ok (.getfield 13, 3) := by decide +kernel
theorem dX9_greatest_13 : decode cX9_greatest 13 = .ok (.if_icmp .ge 19, 3) := by decide +kernel
theorem dX9_greatest_16 : decode cX9_greatest 16 = .ok (.iload_n 1, 1) := by decide +kernel
theorem dX9_greatest_17 : decode cX9_greatest 17 = .ok (.aload_n 0, 1) := by decide +kernel
theorem dX9_greatest_18 : decode cX9_greatest 18 = .ok (.iload_n 2, 1) := by decide +kernel
theorem dX9_greatest_19 : decode cX9_greatest 19 = .ok (.invokevirtual 35, 3) := by decide +kernel
theorem dX9_greatest_22 : decode cX9_greatest 22 = .ok (.invokestatic 70, 3) := by decide +kernel
theorem dX9_greatest_25 : decode cX9_greatest 25 = .ok (.istore_n 1, 1) := by decide +kernel
theorem dX9_greatest_26 : decode cX9_greatest 26 = .ok (.iinc 2 1, 3) := by decide +kernel
theorem dX9_greatest_29 : decode cX9_greatest 29 = .ok (.goto (-21), 3) := by decide +kernel
theorem dX9_greatest_32 : decode cX9_greatest 32 = .ok (.iload_n 1, 1) := by decide +kernel
theorem dX9_greatest_33 : decode cX9_greatest 33 = .ok (.ireturn, 1) := by decide +kernel
theorem dX9_sum_0 : decode cX9_sum 0 = .ok (.iconst 0, 1) := by decide +kernel
theorem dX9_sum_1 : decode cX9_sum 1 = .ok (.istore_n 1, 1) := by decide +kernel
theorem dX9_sum_2 : decode cX9_sum 2 = .ok (.iconst 0, 1) := by decide +kernel
theorem dX9_sum_3 : decode cX9_sum 3 = .ok (.istore_n 2, 1) := by decide +kernel
theorem dX9_sum_4 : decode cX9_sum 4 = .ok (.iload_n 2, 1) := by decide +kernel
theorem dX9_sum_5 : decode cX9_sum 5 = .ok (.aload_n 0, 1) := by decide +kernel
theorem dX9_sum_6 : decode cX9_sum 6 = .ok (.getfield 13, 3) := by decide +kernel
theorem dX9_sum_9 : decode cX9_sum 9 = .ok (.if_icmp .ge 17, 3) := by decide +kernel
theorem dX9_sum_12 : decode cX9_sum 12 = .ok (.iload_n 1, 1) := by decide +kernel
theorem dX9_sum_13 : decode cX9_sum 13 = .ok (.aload_n 0, 1) := by decide +kernel
theorem dX9_sum_14 : decode cX9_sum 14 = .ok (.iload_n 2, 1) := by decide +kernel
theorem dX9_sum_15 : decode cX9_sum 15 = .ok (.invokevirtual 35, 3) := by decide +kernel
theorem dX9_sum_18 : decode cX9_sum 18 = .ok (.iadd, 1) := by decide +kernel
theorem dX9_sum_19 : decode cX9_sum 19 = .ok (.istore_n 1, 1) := by decide +kernel
theorem dX9_sum_20 : decode cX9_sum 20 = .ok (.iinc 2 1, 3) := by decide +kernel
theorem dX9_sum_23 : decode cX9_sum 23 = .ok (.goto (-19), 3) := by decide +kernel
theorem dX9_sum_26 : decode cX9_sum 26 = .ok (.iload_n 1, 1) := by decide +kernel
theorem dX9_sum_27 : decode cX9_sum 27 = .ok (.ireturn, 1) := by decide +kernel
theorem dX9_firstUnlike_0 : decode cX9_firstUnlike 0 = .ok (.iconst 0, 1) := by decide +kernel
theorem dX9_firstUnlike_1 : decode cX9_firstUnlike 1 = .ok (.istore_n 2, 1) := by decide +kernel
theorem dX9_firstUnlike_2 : decode cX9_firstUnlike 2 = .ok (.iload_n 2, 1) := by decide +kernel
theorem dX9_firstUnlike_3 : decode cX9_firstUnlike 3 = .ok (.aload_n 0, 1) := by decide +kernel
theorem dX9_firstUnlike_4 : decode cX9_firstUnlike 4 = .ok (.getfield 13, 3) := by decide +kernel
theorem dX9_firstUnlike_7 : decode cX9_firstUnlike 7 = .ok (.if_icmp .lt 11, 3) := by decide +kernel
theorem dX9_firstUnlike_10 : decode cX9_firstUnlike 10 = .ok (.iload_n 2, 1) := by decide +kernel
theorem dX9_firstUnlike_11 : decode cX9_firstUnlike 11 = .ok (.aload_n 1, 1) := by decide +kernel
theorem dX9_firstUnlike_12 : decode cX9_firstUnlike 12 = .ok (.getfield 13, 3) := by decide +kernel
theorem dX9_firstUnlike_15 : decode cX9_firstUnlike 15 = .ok (.if_icmp .ge 40, 3) := by decide +kernel
theorem dX9_firstUnlike_18 : decode cX9_firstUnlike 18 = .ok (.aload_n 0, 1) := by decide +kernel
theorem dX9_firstUnlike_19 : decode cX9_firstUnlike 19 = .ok (.iload_n 2, 1) := by decide +kernel
theorem dX9_firstUnlike_20 : decode cX9_firstUnlike 20 = .ok (.invokevirtual 17, 3) := by decide +kernel
theorem dX9_firstUnlike_23 : decode cX9_firstUnlike 23 = .ok (.ifCond .eq 24, 3) := by decide +kernel
theorem dX9_firstUnlike_26 : decode cX9_firstUnlike 26 = .ok (.aload_n 1, 1) := by decide +kernel
theorem dX9_firstUnlike_27 : decode cX9_firstUnlike 27 = .ok (.iload_n 2, 1) := by decide +kernel
theorem dX9_firstUnlike_28 : decode cX9_firstUnlike 28 = .ok (.invokevirtual 17, 3) := by decide +kernel
theorem dX9_firstUnlike_31 : decode cX9_firstUnlike 31 = .ok (.ifCond .eq 16, 3) := by decide +kernel
theorem dX9_firstUnlike_34 : decode cX9_firstUnlike 34 = .ok (.aload_n 0, 1) := by decide +kernel
theorem dX9_firstUnlike_35 : decode cX9_firstUnlike 35 = .ok (.iload_n 2, 1) := by decide +kernel
theorem dX9_firstUnlike_36 : decode cX9_firstUnlike 36 = .ok (.invokevirtual 35, 3) := by decide +kernel
theorem dX9_firstUnlike_39 : decode cX9_firstUnlike 39 = .ok (.aload_n 1, 1) := by decide +kernel
theorem dX9_firstUnlike_40 : decode cX9_firstUnlike 40 = .ok (.iload_n 2, 1) := by decide +kernel
theorem dX9_firstUnlike_41 : decode cX9_firstUnlike 41 = .ok (.invokevirtual 35, 3) := by decide +kernel
theorem dX9_firstUnlike_44 : decode cX9_firstUnlike 44 = .ok (.if_icmp .eq 5, 3) := by decide +kernel
theorem dX9_firstUnlike_47 : decode cX9_firstUnlike 47 = .ok (.iload_n 2, 1) := by decide +kernel
theorem dX9_firstUnlike_48 : decode cX9_firstUnlike 48 = .ok (.ireturn, 1) := by decide +kernel
theorem dX9_firstUnlike_49 : decode cX9_firstUnlike 49 = .ok (.iinc 2 1, 3) := by decide +kernel
theorem dX9_firstUnlike_52 : decode cX9_firstUnlike 52 = .ok (.goto (-50), 3) := by decide +kernel
theorem dX9_firstUnlike_55 : decode cX9_firstUnlike 55 = .ok (.iconst (-1), 1) := by decide +kernel
theorem dX9_firstUnlike_56 : decode cX9_firstUnlike 56 = .ok (.ireturn, 1) := by decide +kernel
theorem dX9_countAlike_0 : decode cX9_countAlike 0 = .ok (.iconst 0, 1) := by decide +kernel
theorem dX9_countAlike_1 : decode cX9_countAlike 1 = .ok (.istore_n 2, 1) := by decide +kernel
theorem dX9_countAlike_2 : decode cX9_countAlike 2 = .ok (.iconst 0, 1) := by decide +kernel
theorem dX9_countAlike_3 : decode cX9_countAlike 3 = .ok (.istore_n 3, 1) := by decide +kernel
theorem dX9_countAlike_4 : decode cX9_countAlike 4 = .ok (.iload_n 3, 1) := by decide +kernel
theorem dX9_countAlike_5 : decode cX9_countAlike 5 = .ok (.aload_n 0, 1) := by decide +kernel
theorem dX9_countAlike_6 : decode cX9_countAlike 6 = .ok (.getfield 13, 3) := by decide +kernel
theorem dX9_countAlike_9 : decode cX9_countAlike 9 = .ok (.if_icmp .ge 33, 3) := by decide +kernel
theorem dX9_countAlike_12 : decode cX9_countAlike 12 = .ok (.iload_n 3, 1) := by decide +kernel
theorem dX9_countAlike_13 : decode cX9_countAlike 13 = .ok (.aload_n 1, 1) := by decide +kernel
theorem dX9_countAlike_14 : decode cX9_countAlike 14 = .ok (.getfield 13, 3) := by decide +kernel
theorem dX9_countAlike_17 : decode cX9_countAlike 17 = .ok (.if_icmp .ge 25, 3) := by decide +kernel
theorem dX9_countAlike_20 : decode cX9_countAlike 20 = .ok (.aload_n 0, 1) := by decide +kernel
theorem dX9_countAlike_21 : decode cX9_countAlike 21 = .ok (.iload_n 3, 1) := by decide +kernel
theorem dX9_countAlike_22 : decode cX9_countAlike 22 = .ok (.invokevirtual 35, 3) := by decide +kernel
theorem dX9_countAlike_25 : decode cX9_countAlike 25 = .ok (.aload_n 1, 1) := by decide +kernel
theorem dX9_countAlike_26 : decode cX9_countAlike 26 = .ok (.iload_n 3, 1) := by decide +kernel
theorem dX9_countAlike_27 : decode cX9_countAlike 27 = .ok (.invokevirtual 35, 3) := by decide +kernel
theorem dX9_countAlike_30 : decode cX9_countAlike 30 = .ok (.if_icmp .ne 6, 3) := by decide +kernel
theorem dX9_countAlike_33 : decode cX9_countAlike 33 = .ok (.iinc 2 1, 3) := by decide +kernel
theorem dX9_countAlike_36 : decode cX9_countAlike 36 = .ok (.iinc 3 1, 3) := by decide +kernel
theorem dX9_countAlike_39 : decode cX9_countAlike 39 = .ok (.goto (-35), 3) := by decide +kernel
theorem dX9_countAlike_42 : decode cX9_countAlike 42 = .ok (.iload_n 2, 1) := by decide +kernel
theorem dX9_countAlike_43 : decode cX9_countAlike 43 = .ok (.ireturn, 1) := by decide +kernel
