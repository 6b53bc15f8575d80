theorem dX10_init_0 : decode cX10_init 0 = .ok (.aload_n 0, 1) := by decide +kernel
theorem dX10_init_1 : decode cX10_init 1 = .ok (.invokespecial 1, 3) := by decide +kernel
theorem dX10_init_4 : decode cX10_init 4 = .ok (.aload_n 0, 1) := by decide +kernel
theorem dX10_init_5 : decode cX10_init 5 = .ok (.new 7, 3) := by decide +kernel
theorem dX10_init_8 : decode cX10_init 8 = .ok (.dup, 1) := by decide +kernel
theorem dX10_init_9 : decode cX10_init 9 = .ok (.invokespecial 9, 3) := by decide +kernel
theorem dX10_init_12 : decode cX10_init 12 = .ok (.putfield 10, 3) := by decide +kernel
theorem dX10_init_15 : decode cX10_init 15 = .ok (.aload_n 0, 1) := by decide +kernel
theorem dX10_init_16 : decode cX10_init 16 = .ok (.new 16, 3) := by decide +kernel
theorem dX10_init_19 : decode cX10_init 19 = .ok (.dup, 1) := by decide +kernel
theorem dX10_init_20 : decode cX10_init 20 = .ok (.invokespecial 18, 3) := by decide +kernel
theorem dX10_init_23 : decode cX10_init 23 = .ok (.putfield 19, 3) := by decide +kernel
theorem dX10_init_26 : decode cX10_init 26 = .ok (.aload_n 0, 1) := by decide +kernel
theorem dX10_init_27 : decode cX10_init 27 = .ok (.new 23, 3) := by decide +kernel
theorem dX10_init_30 : decode cX10_init 30 = .ok (.dup, 1) := by decide +kernel
theorem dX10_init_31 : decode cX10_init 31 = .ok (.invokespecial 25, 3) := by decide +kernel
theorem dX10_init_34 : decode cX10_init 34 = .ok (.putfield 26, 3) := by decide +kernel
theorem dX10_init_37 : decode cX10_init 37 = .ok (.aload_n 0, 1) := by decide +kernel
theorem dX10_init_38 : decode cX10_init 38 = .ok (.new 7, 3) := by decide +kernel
theorem dX10_init_41 : decode cX10_init 41 = .ok (.dup, 1) := by decide +kernel
theorem dX10_init_42 : decode cX10_init 42 = .ok (.invokespecial 9, 3) := by decide +kernel
theorem dX10_init_45 : decode cX10_init 45 = .ok (.putfield 30, 3) := by decide +kernel
theorem dX10_init_48 : decode cX10_init 48 = .ok (.aload_n 0, 1) := by decide +kernel
theorem dX10_init_49 : decode cX10_init 49 = .ok (.new 16, 3) := by decide +kernel
theorem dX10_init_52 : decode cX10_init 52 = .ok (.dup, 1) := by decide +kernel
theorem dX10_init_53 : decode cX10_init 53 = .ok (.invokespecial 18, 3) := by decide +kernel
theorem dX10_init_56 : decode cX10_init 56 = .ok (.putfield 33, 3) := by decide +kernel
theorem dX10_init_59 : decode cX10_init 59 = .ok (.aload_n 0, 1) := by decide +kernel
theorem dX10_init_60 : decode cX10_init 60 = .ok (.new 23, 3) := by decide +kernel
theorem dX10_init_63 : decode cX10_init 63 = .ok (.dup, 1) := by decide +kernel
theorem dX10_init_64 : decode cX10_init 64 = .ok (.invokespecial 25, 3) := by decide +kernel
theorem dX10_init_67 : decode cX10_init 67 = .ok (.putfield 36, 3) := by decide +kernel
theorem dX10_init_70 : decode cX10_init 70 = .ok (.aload_n 0, 1) := by decide +kernel
theorem dX10_init_71 : decode cX10_init 71 = .ok (.new 7, 3) := by decide +kernel
theorem dX10_init_74 : decode cX10_init 74 = .ok (.dup, 1) := by decide +kernel
theorem dX10_init_75 : decode cX10_init 75 = .ok (.invokespecial 9, 3) := by decide +kernel
theorem dX10_init_78 : decode cX10_init 78 = .ok (.putfield 39, 3) := by decide +kernel
theorem dX10_init_81 : decode cX10_init 81 = .ok (.aload_n 0, 1) := by decide +kernel
theorem dX10_init_82 : decode cX10_init 82 = .ok (.new 7, 3) := by decide +kernel
theorem dX10_init_85 : decode cX10_init 85 = .ok (.dup, 1) := by decide +kernel
theorem dX10_init_86 : decode cX10_init 86 = .ok (.invokespecial 9, 3) := by decide +kernel
theorem dX10_init_89 : decode cX10_init 89 = .ok (.putfield 42, 3) := by decide +kernel
theorem dX10_init_92 : decode cX10_init 92 = .ok (.aload_n 0, 1) := by decide +kernel
theorem dX10_init_93 : decode cX10_init 93 = .ok (.new 45, 3) := by decide +kernel
theorem dX10_init_96 : decode cX10_init 96 = .ok (.dup, 1) := by decide +kernel
theorem dX10_init_97 : decode cX10_init 97 = .ok (.invokespecial 47, 3) := by decide +kernel
theorem dX10_init_100 : decode cX10_init 100 = .ok (.putfield 48, 3) := by decide +kernel
theorem dX10_init_103 : decode cX10_init 103 = .ok (.aload_n 0, 1) := by decide +kernel
theorem dX10_init_104 : decode cX10_init 104 = .ok (.new 52, 3) := by decide +kernel
theorem dX10_init_107 : decode cX10_init 107 = .ok (.dup, 1) := by decide +kernel
theorem dX10_init_108 : decode cX10_init 108 = .ok (.invokespecial 54, 3) := by decide +kernel
theorem dX10_init_111 : decode cX10_init 111 = .ok (.putfield 55, 3) := by decide +kernel
theorem dX10_init_114 : decode cX10_init 114 = .ok (.aload_n 0, 1) := by decide +kernel
theorem dX10_init_115 : decode cX10_init 115 = .ok (.new 59, 3) := by decide +kernel
theorem dX10_init_118 : decode cX10_init 118 = .ok (.dup, 1) := by decide +kernel
theorem dX10_init_119 : decode cX10_init 119 = .ok (.invokespecial 61, 3) := by decide +kernel
theorem dX10_init_122 : decode cX10_init 122 = .ok (.putfield 62, 3) := by decide +kernel
theorem dX10_init_125 : decode cX10_init 125 = .ok (.aload_n 0, 1) := by decide +kernel
theorem dX10_init_126 : decode cX10_init 126 = .ok (.new 66, 3) := by decide +kernel
theorem dX10_init_129 : decode cX10_init 129 = .ok (.dup, 1) := by decide +kernel
theorem dX10_init_130 : decode cX10_init 130 = .ok (.invokespecial 68, 3) := by decide +kernel
theorem dX10_init_133 : decode cX10_init 133 = .ok (.putfield 69, 3) := by decide +kernel
theorem dX10_init_136 : decode cX10_init 136 = .ok (.aload_n 0, 1) := by decide +kernel
theorem dX10_init_137 : decode cX10_init 137 = .ok (.new 73, 3) := by decide +kernel
theorem dX10_init_140 : decode cX10_init 140 = .ok (.dup, 1) := by decide +kernel
theorem dX10_init_141 : decode cX10_init 141 = .ok (.invokespecial 75, 3) := by decide +kernel
theorem dX10_init_144 : decode cX10_init 144 = .ok (.putfield 76, 3) := by decide +kernel
theorem dX10_init_147 : decode cX10_init 147 = .ok (.return_, 1) := by decide +kernel
theorem dX10_begin_0 : decode cX10_begin 0 = .ok (.iload_n 1, 1) := by decide +kernel
theorem dX10_begin_1 : decode cX10_begin 1 = .ok (.iconst 0, 1) := by decide +kernel
theorem dX10_begin_2 : decode cX10_begin 2 = .ok (.sipush 9999, 3) := by decide +kernel
theorem dX10_begin_5 : decode cX10_begin 5 = .ok (.invokestatic 80, 3) := by decide +kernel
theorem dX10_begin_8 : decode cX10_begin 8 = .ok (.ifCond .eq 29, 3) := by decide +kernel
theorem dX10_begin_11 : decode cX10_begin 11 = .ok (.iload_n 2, 1) := by decide +kernel
theorem dX10_begin_12 : decode cX10_begin 12 = .ok (.sipush (-999), 3) := by decide +kernel
theorem dX10_begin_15 : decode cX10_begin 15 = .ok (.sipush 999, 3) := by decide +kernel
theorem dX10_begin_18 : decode cX10_begin 18 = .ok (.invokestatic 80, 3) := by decide +kernel
theorem dX10_begin_21 : decode cX10_begin 21 = .ok (.ifCond .eq 16, 3) := by decide +kernel
theorem dX10_begin_24 : decode cX10_begin 24 = .ok (.iload_n 3, 1) := by decide +kernel
theorem dX10_begin_25 : decode cX10_begin 25 = .ok (.sipush (-999), 3) := by decide +kernel
theorem dX10_begin_28 : decode cX10_begin 28 = .ok (.sipush 999, 3) := by decide +kernel
theorem dX10_begin_31 : decode cX10_begin 31 = .ok (.invokestatic 80, 3) := by decide +kernel
theorem dX10_begin_34 : decode cX10_begin 34 = .ok (.ifCond .ne 5, 3) := by decide +kernel
theorem dX10_begin_37 : decode cX10_begin 37 = .ok (.iconst (-1), 1) := by decide +kernel
theorem dX10_begin_38 : decode cX10_begin 38 = .ok (.ireturn, 1) := by decide +kernel
theorem dX10_begin_39 : decode cX10_begin 39 = .ok (.aload_n 0, 1) := by decide +kernel
theorem dX10_begin_40 : decode cX10_begin 40 = .ok (.getfield 10, 3) := by decide +kernel
theorem dX10_begin_43 : decode cX10_begin 43 = .ok (.iload_n 1, 1) := by decide +kernel
theorem dX10_begin_44 : decode cX10_begin 44 = .ok (.iload_n 2, 1) := by decide +kernel
theorem dX10_begin_45 : decode cX10_begin 45 = .ok (.iload_n 3, 1) := by decide +kernel
theorem dX10_begin_46 : decode cX10_begin 46 = .ok (.invokevirtual 84, 3) := by decide +kernel
theorem dX10_begin_49 : decode cX10_begin 49 = .ok (.iconst 1, 1) := by decide +kernel
theorem dX10_begin_50 : decode cX10_begin 50 = .ok (.ireturn, 1) := by decide +kernel
theorem dX10_set_0 : decode cX10_set 0 = .ok (.iload_n 1, 1) := by decide +kernel
theorem dX10_set_1 : decode cX10_set 1 = .ok (.iconst 0, 1) := by decide +kernel
theorem dX10_set_2 : decode cX10_set 2 = .ok (.iconst 1, 1) := by decide +kernel
theorem dX10_set_3 : decode cX10_set 3 = .ok (.invokestatic 80, 3) := by decide +kernel
theorem dX10_set_6 : decode cX10_set 6 = .ok (.ifCond .eq 13, 3) := by decide +kernel
theorem dX10_set_9 : decode cX10_set 9 = .ok (.iload_n 2, 1) := by decide +kernel
theorem dX10_set_10 : decode cX10_set 10 = .ok (.iconst 0, 1) := by decide +kernel
theorem dX10_set_11 : decode cX10_set 11 = .ok (.bipush 99, 2) := by decide +kernel
theorem dX10_set_13 : decode cX10_set 13 = .ok (.invokestatic 80, 3) := by decide +kernel
theorem dX10_set_16 : decode cX10_set 16 = .ok (.ifCond .ne 5, 3) := by decide +kernel
theorem dX10_set_19 : decode cX10_set 19 = .ok (.iconst (-1), 1) := by decide +kernel
theorem dX10_set_20 : decode cX10_set 20 = .ok (.ireturn, 1) := by decide +kernel
theorem dX10_set_21 : decode cX10_set 21 = .ok (.iload_n 1, 1) := by decide +kernel
theorem dX10_set_22 : decode cX10_set 22 = .ok (.ifCond .ne 13, 3) := by decide +kernel
theorem dX10_set_25 : decode cX10_set 25 = .ok (.aload_n 0, 1) := by decide +kernel
theorem dX10_set_26 : decode cX10_set 26 = .ok (.getfield 10, 3) := by decide +kernel
theorem dX10_set_29 : decode cX10_set 29 = .ok (.getfield 88, 3) := by decide +kernel
theorem dX10_set_32 : decode cX10_set 32 = .ok (.goto 10, 3) := by decide +kernel
theorem dX10_set_35 : decode cX10_set 35 = .ok (.aload_n 0, 1) := by decide +kernel
theorem dX10_set_36 : decode cX10_set 36 = .ok (.getfield 10, 3) := by decide +kernel
theorem dX10_set_39 : decode cX10_set 39 = .ok (.getfield 92, 3) := by decide +kernel
theorem dX10_set_42 : decode cX10_set 42 = .ok (.istore_n 3, 1) := by decide +kernel
theorem dX10_set_43 : decode cX10_set 43 = .ok (.iload_n 1, 1) := by decide +kernel
theorem dX10_set_44 : decode cX10_set 44 = .ok (.ifCond .ne 14, 3) := by decide +kernel
theorem dX10_set_47 : decode cX10_set 47 = .ok (.aload_n 0, 1) := by decide +kernel
theorem dX10_set_48 : decode cX10_set 48 = .ok (.getfield 10, 3) := by decide +kernel
theorem dX10_set_51 : decode cX10_set 51 = .ok (.iload_n 2, 1) := by decide +kernel
theorem dX10_set_52 : decode cX10_set 52 = .ok (.putfield 88, 3) := by decide +kernel
theorem dX10_set_55 : decode cX10_set 55 = .ok (.goto 11, 3) := by decide +kernel
theorem dX10_set_58 : decode cX10_set 58 = .ok (.aload_n 0, 1) := by decide +kernel
theorem dX10_set_59 : decode cX10_set 59 = .ok (.getfield 10, 3) := by decide +kernel
theorem dX10_set_62 : decode cX10_set 62 = .ok (.iload_n 2, 1) := by decide +kernel
theorem dX10_set_63 : decode cX10_set 63 = .ok (.putfield 92, 3) := by decide +kernel
theorem dX10_set_66 : decode cX10_set 66 = .ok (.iload_n 3, 1) := by decide +kernel
theorem dX10_set_67 : decode cX10_set 67 = .ok (.ireturn, 1) := by decide +kernel
theorem dX10_seed_0 : decode cX10_seed 0 = .ok (.aload_n 0, 1) := by decide +kernel
theorem dX10_seed_1 : decode cX10_seed 1 = .ok (.getfield 10, 3) := by decide +kernel
theorem dX10_seed_4 : decode cX10_seed 4 = .ok (.getfield 95, 3) := by decide +kernel
theorem dX10_seed_7 : decode cX10_seed 7 = .ok (.istore_n 2, 1) := by decide +kernel
theorem dX10_seed_8 : decode cX10_seed 8 = .ok (.aload_n 0, 1) := by decide +kernel
theorem dX10_seed_9 : decode cX10_seed 9 = .ok (.getfield 10, 3) := by decide +kernel
theorem dX10_seed_12 : decode cX10_seed 12 = .ok (.iload_n 1, 1) := by decide +kernel
theorem dX10_seed_13 : decode cX10_seed 13 = .ok (.putfield 95, 3) := by decide +kernel
theorem dX10_seed_16 : decode cX10_seed 16 = .ok (.iload_n 2, 1) := by decide +kernel
theorem dX10_seed_17 : decode cX10_seed 17 = .ok (.ireturn, 1) := by decide +kernel
theorem dX10_run_0 : decode cX10_run 0 = .ok (.iload_n 1, 1) := by decide +kernel
theorem dX10_run_1 : decode cX10_run 1 = .ok (.iconst 0, 1) := by decide +kernel
theorem dX10_run_2 : decode cX10_run 2 = .ok (.sipush 400, 3) := by decide +kernel
theorem dX10_run_5 : decode cX10_run 5 = .ok (.invokestatic 80, 3) := by decide +kernel
theorem dX10_run_8 : decode cX10_run 8 = .ok (.ifCond .ne 5, 3) := by decide +kernel
theorem dX10_run_11 : decode cX10_run 11 = .ok (.iconst (-1), 1) := by decide +kernel
theorem dX10_run_12 : decode cX10_run 12 = .ok (.ireturn, 1) := by decide +kernel
theorem dX10_run_13 : decode cX10_run 13 = .ok (.aload_n 0, 1) := by decide +kernel
theorem dX10_run_14 : decode cX10_run 14 = .ok (.getfield 10, 3) := by decide +kernel
theorem dX10_run_17 : decode cX10_run 17 = .ok (.getfield 98, 3) := by decide +kernel
theorem dX10_run_20 : decode cX10_run 20 = .ok (.istore_n 2, 1) := by decide +kernel
theorem dX10_run_21 : decode cX10_run 21 = .ok (.iconst 0, 1) := by decide +kernel
theorem dX10_run_22 : decode cX10_run 22 = .ok (.istore_n 3, 1) := by decide +kernel
theorem dX10_run_23 : decode cX10_run 23 = .ok (.iload_n 3, 1) := by decide +kernel
theorem dX10_run_24 : decode cX10_run 24 = .ok (.iload_n 1, 1) := by decide +kernel
theorem dX10_run_25 : decode cX10_run 25 = .ok (.if_icmp .ge 21, 3) := by decide +kernel
theorem dX10_run_28 : decode cX10_run 28 = .ok (.aload_n 0, 1) := by decide +kernel
theorem dX10_run_29 : decode cX10_run 29 = .ok (.getfield 10, 3) := by decide +kernel
theorem dX10_run_32 : decode cX10_run 32 = .ok (.aload_n 0, 1) := by decide +kernel
theorem dX10_run_33 : decode cX10_run 33 = .ok (.getfield 19, 3) := by decide +kernel
theorem dX10_run_36 : decode cX10_run 36 = .ok (.invokevirtual 101, 3) := by decide +kernel
theorem dX10_run_39 : decode cX10_run 39 = .ok (.pop, 1) := by decide +kernel
theorem dX10_run_40 : decode cX10_run 40 = .ok (.iinc 3 1, 3) := by decide +kernel
theorem dX10_run_43 : decode cX10_run 43 = .ok (.goto (-20), 3) := by decide +kernel
theorem dX10_run_46 : decode cX10_run 46 = .ok (.aload_n 0, 1) := by decide +kernel
theorem dX10_run_47 : decode cX10_run 47 = .ok (.getfield 10, 3) := by decide +kernel
theorem dX10_run_50 : decode cX10_run 50 = .ok (.getfield 98, 3) := by decide +kernel
theorem dX10_run_53 : decode cX10_run 53 = .ok (.iload_n 2, 1) := by decide +kernel
theorem dX10_run_54 : decode cX10_run 54 = .ok (.isub, 1) := by decide +kernel
theorem dX10_run_55 : decode cX10_run 55 = .ok (.ireturn, 1) := by decide +kernel
theorem dX10_tap_0 : decode cX10_tap 0 = .ok (.iload_n 1, 1) := by decide +kernel
theorem dX10_tap_1 : decode cX10_tap 1 = .ok (.tableswitch 119 0 7 #[47, 55, 67, 79, 87, 95, 103, 111], 47) := by decide +kernel
theorem dX10_tap_48 : decode cX10_tap 48 = .ok (.aload_n 0, 1) := by decide +kernel
theorem dX10_tap_49 : decode cX10_tap 49 = .ok (.getfield 10, 3) := by decide +kernel
theorem dX10_tap_52 : decode cX10_tap 52 = .ok (.getfield 105, 3) := by decide +kernel
theorem dX10_tap_55 : decode cX10_tap 55 = .ok (.ireturn, 1) := by decide +kernel
theorem dX10_tap_56 : decode cX10_tap 56 = .ok (.aload_n 0, 1) := by decide +kernel
theorem dX10_tap_57 : decode cX10_tap 57 = .ok (.getfield 10, 3) := by decide +kernel
theorem dX10_tap_60 : decode cX10_tap 60 = .ok (.getfield 108, 3) := by decide +kernel
theorem dX10_tap_63 : decode cX10_tap 63 = .ok (.sipush 10000, 3) := by decide +kernel
theorem dX10_tap_66 : decode cX10_tap 66 = .ok (.iadd, 1) := by decide +kernel
theorem dX10_tap_67 : decode cX10_tap 67 = .ok (.ireturn, 1) := by decide +kernel
theorem dX10_tap_68 : decode cX10_tap 68 = .ok (.aload_n 0, 1) := by decide +kernel
theorem dX10_tap_69 : decode cX10_tap 69 = .ok (.getfield 10, 3) := by decide +kernel
theorem dX10_tap_72 : decode cX10_tap 72 = .ok (.getfield 111, 3) := by decide +kernel
theorem dX10_tap_75 : decode cX10_tap 75 = .ok (.sipush 10000, 3) := by decide +kernel
theorem dX10_tap_78 : decode cX10_tap 78 = .ok (.iadd, 1) := by decide +kernel
theorem dX10_tap_79 : decode cX10_tap 79 = .ok (.ireturn, 1) := by decide +kernel
theorem dX10_tap_80 : decode cX10_tap 80 = .ok (.aload_n 0, 1) := by decide +kernel
theorem dX10_tap_81 : decode cX10_tap 81 = .ok (.getfield 10, 3) := by decide +kernel
theorem dX10_tap_84 : decode cX10_tap 84 = .ok (.getfield 114, 3) := by decide +kernel
theorem dX10_tap_87 : decode cX10_tap 87 = .ok (.ireturn, 1) := by decide +kernel
theorem dX10_tap_88 : decode cX10_tap 88 = .ok (.aload_n 0, 1) := by decide +kernel
theorem dX10_tap_89 : decode cX10_tap 89 = .ok (.getfield 10, 3) := by decide +kernel
theorem dX10_tap_92 : decode cX10_tap 92 = .ok (.getfield 117, 3) := by decide +kernel
theorem dX10_tap_95 : decode cX10_tap 95 = .ok (.ireturn, 1) := by decide +kernel
theorem dX10_tap_96 : decode cX10_tap 96 = .ok (.aload_n 0, 1) := by decide +kernel
theorem dX10_tap_97 : decode cX10_tap 97 = .ok (.getfield 10, 3) := by decide +kernel
theorem dX10_tap_100 : decode cX10_tap 100 = .ok (.getfield 98, 3) := by decide +kernel
theorem dX10_tap_103 : decode cX10_tap 103 = .ok (.ireturn, 1) := by decide +kernel
theorem dX10_tap_104 : decode cX10_tap 104 = .ok (.aload_n 0, 1) := by decide +kernel
theorem dX10_tap_105 : decode cX10_tap 105 = .ok (.getfield 10, 3) := by decide +kernel
theorem dX10_tap_108 : decode cX10_tap 108 = .ok (.getfield 88, 3) := by decide +kernel
theorem dX10_tap_111 : decode cX10_tap 111 = .ok (.ireturn, 1) := by decide +kernel
theorem dX10_tap_112 : decode cX10_tap 112 = .ok (.aload_n 0, 1) := by decide +kernel
theorem dX10_tap_113 : decode cX10_tap 113 = .ok (.getfield 10, 3) := by decide +kernel
theorem dX10_tap_116 : decode cX10_tap 116 = .ok (.getfield 92, 3) := by decide +kernel
theorem dX10_tap_119 : decode cX10_tap 119 = .ok (.ireturn, 1) := by decide +kernel
theorem dX10_tap_120 : decode cX10_tap 120 = .ok (.iconst (-1), 1) := by decide +kernel
theorem dX10_tap_121 : decode cX10_tap 121 = .ok (.ireturn, 1) := by decide +kernel
theorem dX10_water_0 : decode cX10_water 0 = .ok (.aload_n 0, 1) := by decide +kernel
theorem dX10_water_1 : decode cX10_water 1 = .ok (.getfield 10, 3) := by decide +kernel
theorem dX10_water_4 : decode cX10_water 4 = .ok (.getfield 120, 3) := by decide +kernel
theorem dX10_water_7 : decode cX10_water 7 = .ok (.aload_n 0, 1) := by decide +kernel
theorem dX10_water_8 : decode cX10_water 8 = .ok (.getfield 10, 3) := by decide +kernel
theorem dX10_water_11 : decode cX10_water 11 = .ok (.getfield 124, 3) := by decide +kernel
theorem dX10_water_14 : decode cX10_water 14 = .ok (.lsub, 1) := by decide +kernel
theorem dX10_water_15 : decode cX10_water 15 = .ok (.aload_n 0, 1) := by decide +kernel
theorem dX10_water_16 : decode cX10_water 16 = .ok (.getfield 10, 3) := by decide +kernel
theorem dX10_water_19 : decode cX10_water 19 = .ok (.getfield 105, 3) := by decide +kernel
theorem dX10_water_22 : decode cX10_water 22 = .ok (.i2l, 1) := by decide +kernel
theorem dX10_water_23 : decode cX10_water 23 = .ok (.lsub, 1) := by decide +kernel
theorem dX10_water_24 : decode cX10_water 24 = .ok (.aload_n 0, 1) := by decide +kernel
theorem dX10_water_25 : decode cX10_water 25 = .ok (.getfield 10, 3) := by decide +kernel
theorem dX10_water_28 : decode cX10_water 28 = .ok (.getfield 127, 3) := by decide +kernel
theorem dX10_water_31 : decode cX10_water 31 = .ok (.i2l, 1) := by decide +kernel
theorem dX10_water_32 : decode cX10_water 32 = .ok (.ladd, 1) := by decide +kernel
theorem dX10_water_33 : decode cX10_water 33 = .ok (.lreturn, 1) := by decide +kernel
theorem dX10_feed_0 : decode cX10_feed 0 = .ok (.iload_n 3, 1) := by decide +kernel
theorem dX10_feed_1 : decode cX10_feed 1 = .ok (.iconst 1, 1) := by decide +kernel
theorem dX10_feed_2 : decode cX10_feed 2 = .ok (.bipush 8, 2) := by decide +kernel
theorem dX10_feed_4 : decode cX10_feed 4 = .ok (.invokestatic 80, 3) := by decide +kernel
theorem dX10_feed_7 : decode cX10_feed 7 = .ok (.ifCond .ne 5, 3) := by decide +kernel
theorem dX10_feed_10 : decode cX10_feed 10 = .ok (.iconst (-1), 1) := by decide +kernel
theorem dX10_feed_11 : decode cX10_feed 11 = .ok (.ireturn, 1) := by decide +kernel
theorem dX10_feed_12 : decode cX10_feed 12 = .ok (.aload_n 0, 1) := by decide +kernel
theorem dX10_feed_13 : decode cX10_feed 13 = .ok (.getfield 48, 3) := by decide +kernel
theorem dX10_feed_16 : decode cX10_feed 16 = .ok (.lload_n 1, 1) := by decide +kernel
theorem dX10_feed_17 : decode cX10_feed 17 = .ok (.iload_n 3, 1) := by decide +kernel
theorem dX10_feed_18 : decode cX10_feed 18 = .ok (.invokevirtual 130, 3) := by decide +kernel
theorem dX10_feed_21 : decode cX10_feed 21 = .ok (.ifCond .eq 13, 3) := by decide +kernel
theorem dX10_feed_24 : decode cX10_feed 24 = .ok (.aload_n 0, 1) := by decide +kernel
theorem dX10_feed_25 : decode cX10_feed 25 = .ok (.getfield 48, 3) := by decide +kernel
theorem dX10_feed_28 : decode cX10_feed 28 = .ok (.invokevirtual 134, 3) := by decide +kernel
theorem dX10_feed_31 : decode cX10_feed 31 = .ok (.goto 5, 3) := by decide +kernel
theorem dX10_feed_34 : decode cX10_feed 34 = .ok (.bipush (-2), 2) := by decide +kernel
theorem dX10_feed_36 : decode cX10_feed 36 = .ok (.ireturn, 1) := by decide +kernel
theorem dX10_read_0 : decode cX10_read 0 = .ok (.aload_n 0, 1) := by decide +kernel
theorem dX10_read_1 : decode cX10_read 1 = .ok (.getfield 48, 3) := by decide +kernel
theorem dX10_read_4 : decode cX10_read 4 = .ok (.invokevirtual 138, 3) := by decide +kernel
theorem dX10_read_7 : decode cX10_read 7 = .ok (.istore_n 1, 1) := by decide +kernel
theorem dX10_read_8 : decode cX10_read 8 = .ok (.aload_n 0, 1) := by decide +kernel
theorem dX10_read_9 : decode cX10_read 9 = .ok (.getfield 48, 3) := by decide +kernel
theorem dX10_read_12 : decode cX10_read 12 = .ok (.invokevirtual 142, 3) := by decide +kernel
theorem dX10_read_15 : decode cX10_read 15 = .ok (.istore_n 2, 1) := by decide +kernel
theorem dX10_read_16 : decode cX10_read 16 = .ok (.aload_n 0, 1) := by decide +kernel
theorem dX10_read_17 : decode cX10_read 17 = .ok (.getfield 48, 3) := by decide +kernel
theorem dX10_read_20 : decode cX10_read 20 = .ok (.invokevirtual 145, 3) := by decide +kernel
theorem dX10_read_23 : decode cX10_read 23 = .ok (.iload_n 1, 1) := by decide +kernel
theorem dX10_read_24 : decode cX10_read 24 = .ok (.ifCond .ne 8, 3) := by decide +kernel
theorem dX10_read_27 : decode cX10_read 27 = .ok (.bipush (-100), 2) := by decide +kernel
theorem dX10_read_29 : decode cX10_read 29 = .ok (.iload_n 2, 1) := by decide +kernel
theorem dX10_read_30 : decode cX10_read 30 = .ok (.isub, 1) := by decide +kernel
theorem dX10_read_31 : decode cX10_read 31 = .ok (.ireturn, 1) := by decide +kernel
theorem dX10_read_32 : decode cX10_read 32 = .ok (.aload_n 0, 1) := by decide +kernel
theorem dX10_read_33 : decode cX10_read 33 = .ok (.getfield 19, 3) := by decide +kernel
theorem dX10_read_36 : decode cX10_read 36 = .ok (.aload_n 0, 1) := by decide +kernel
theorem dX10_read_37 : decode cX10_read 37 = .ok (.getfield 48, 3) := by decide +kernel
theorem dX10_read_40 : decode cX10_read 40 = .ok (.getfield 148, 3) := by decide +kernel
theorem dX10_read_43 : decode cX10_read 43 = .ok (.invokevirtual 151, 3) := by decide +kernel
theorem dX10_read_46 : decode cX10_read 46 = .ok (.aload_n 0, 1) := by decide +kernel
theorem dX10_read_47 : decode cX10_read 47 = .ok (.getfield 19, 3) := by decide +kernel
theorem dX10_read_50 : decode cX10_read 50 = .ok (.invokevirtual 155, 3) := by decide +kernel
theorem dX10_read_53 : decode cX10_read 53 = .ok (.ireturn, 1) := by decide +kernel
theorem dX10_says_0 : decode cX10_says 0 = .ok (.aload_n 0, 1) := by decide +kernel
theorem dX10_says_1 : decode cX10_says 1 = .ok (.getfield 19, 3) := by decide +kernel
theorem dX10_says_4 : decode cX10_says 4 = .ok (.iload_n 1, 1) := by decide +kernel
theorem dX10_says_5 : decode cX10_says 5 = .ok (.aload_n 0, 1) := by decide +kernel
theorem dX10_says_6 : decode cX10_says 6 = .ok (.getfield 10, 3) := by decide +kernel
theorem dX10_says_9 : decode cX10_says 9 = .ok (.invokevirtual 158, 3) := by decide +kernel
theorem dX10_says_12 : decode cX10_says 12 = .ok (.ireturn, 1) := by decide +kernel
theorem dX10_tell_0 : decode cX10_tell 0 = .ok (.iload_n 1, 1) := by decide +kernel
theorem dX10_tell_1 : decode cX10_tell 1 = .ok (.iconst 1, 1) := by decide +kernel
theorem dX10_tell_2 : decode cX10_tell 2 = .ok (.sipush 9999, 3) := by decide +kernel
theorem dX10_tell_5 : decode cX10_tell 5 = .ok (.invokestatic 80, 3) := by decide +kernel
theorem dX10_tell_8 : decode cX10_tell 8 = .ok (.ifCond .ne 5, 3) := by decide +kernel
theorem dX10_tell_11 : decode cX10_tell 11 = .ok (.iconst (-1), 1) := by decide +kernel
theorem dX10_tell_12 : decode cX10_tell 12 = .ok (.ireturn, 1) := by decide +kernel
theorem dX10_tell_13 : decode cX10_tell 13 = .ok (.aload_n 0, 1) := by decide +kernel
theorem dX10_tell_14 : decode cX10_tell 14 = .ok (.getfield 10, 3) := by decide +kernel
theorem dX10_tell_17 : decode cX10_tell 17 = .ok (.getfield 162, 3) := by decide +kernel
theorem dX10_tell_20 : decode cX10_tell 20 = .ok (.iload_n 1, 1) := by decide +kernel
theorem dX10_tell_21 : decode cX10_tell 21 = .ok (.invokevirtual 166, 3) := by decide +kernel
theorem dX10_tell_24 : decode cX10_tell 24 = .ok (.ifCond .eq 16, 3) := by decide +kernel
theorem dX10_tell_27 : decode cX10_tell 27 = .ok (.aload_n 0, 1) := by decide +kernel
theorem dX10_tell_28 : decode cX10_tell 28 = .ok (.getfield 10, 3) := by decide +kernel
theorem dX10_tell_31 : decode cX10_tell 31 = .ok (.getfield 162, 3) := by decide +kernel
theorem dX10_tell_34 : decode cX10_tell 34 = .ok (.invokevirtual 172, 3) := by decide +kernel
theorem dX10_tell_37 : decode cX10_tell 37 = .ok (.goto 5, 3) := by decide +kernel
theorem dX10_tell_40 : decode cX10_tell 40 = .ok (.bipush (-2), 2) := by decide +kernel
theorem dX10_tell_42 : decode cX10_tell 42 = .ok (.ireturn, 1) := by decide +kernel
theorem dX10_clear_0 : decode cX10_clear 0 = .ok (.aload_n 0, 1) := by decide +kernel
theorem dX10_clear_1 : decode cX10_clear 1 = .ok (.getfield 10, 3) := by decide +kernel
theorem dX10_clear_4 : decode cX10_clear 4 = .ok (.getfield 162, 3) := by decide +kernel
theorem dX10_clear_7 : decode cX10_clear 7 = .ok (.invokevirtual 172, 3) := by decide +kernel
theorem dX10_clear_10 : decode cX10_clear 10 = .ok (.istore_n 1, 1) := by decide +kernel
theorem dX10_clear_11 : decode cX10_clear 11 = .ok (.aload_n 0, 1) := by decide +kernel
theorem dX10_clear_12 : decode cX10_clear 12 = .ok (.getfield 10, 3) := by decide +kernel
theorem dX10_clear_15 : decode cX10_clear 15 = .ok (.getfield 162, 3) := by decide +kernel
theorem dX10_clear_18 : decode cX10_clear 18 = .ok (.invokevirtual 173, 3) := by decide +kernel
theorem dX10_clear_21 : decode cX10_clear 21 = .ok (.iload_n 1, 1) := by decide +kernel
theorem dX10_clear_22 : decode cX10_clear 22 = .ok (.ireturn, 1) := by decide +kernel
theorem dX10_time_0 : decode cX10_time 0 = .ok (.aload_n 0, 1) := by decide +kernel
theorem dX10_time_1 : decode cX10_time 1 = .ok (.getfield 10, 3) := by decide +kernel
theorem dX10_time_4 : decode cX10_time 4 = .ok (.getfield 162, 3) := by decide +kernel
theorem dX10_time_7 : decode cX10_time 7 = .ok (.iload_n 1, 1) := by decide +kernel
theorem dX10_time_8 : decode cX10_time 8 = .ok (.invokevirtual 176, 3) := by decide +kernel
theorem dX10_time_11 : decode cX10_time 11 = .ok (.ifCond .eq 17, 3) := by decide +kernel
theorem dX10_time_14 : decode cX10_time 14 = .ok (.aload_n 0, 1) := by decide +kernel
theorem dX10_time_15 : decode cX10_time 15 = .ok (.getfield 10, 3) := by decide +kernel
theorem dX10_time_18 : decode cX10_time 18 = .ok (.getfield 162, 3) := by decide +kernel
theorem dX10_time_21 : decode cX10_time 21 = .ok (.iload_n 1, 1) := by decide +kernel
theorem dX10_time_22 : decode cX10_time 22 = .ok (.invokevirtual 179, 3) := by decide +kernel
theorem dX10_time_25 : decode cX10_time 25 = .ok (.goto 5, 3) := by decide +kernel
theorem dX10_time_28 : decode cX10_time 28 = .ok (.bipush (-3), 2) := by decide +kernel
theorem dX10_time_30 : decode cX10_time 30 = .ok (.ireturn, 1) := by decide +kernel
theorem dX10_period_0 : decode cX10_period 0 = .ok (.aload_n 0, 1) := by decide +kernel
theorem dX10_period_1 : decode cX10_period 1 = .ok (.getfield 10, 3) := by decide +kernel
theorem dX10_period_4 : decode cX10_period 4 = .ok (.getfield 162, 3) := by decide +kernel
theorem dX10_period_7 : decode cX10_period 7 = .ok (.invokevirtual 183, 3) := by decide +kernel
theorem dX10_period_10 : decode cX10_period 10 = .ok (.ireturn, 1) := by decide +kernel
theorem dX10_kind_0 : decode cX10_kind 0 = .ok (.aload_n 0, 1) := by decide +kernel
theorem dX10_kind_1 : decode cX10_kind 1 = .ok (.getfield 10, 3) := by decide +kernel
theorem dX10_kind_4 : decode cX10_kind 4 = .ok (.getfield 162, 3) := by decide +kernel
theorem dX10_kind_7 : decode cX10_kind 7 = .ok (.invokevirtual 186, 3) := by decide +kernel
theorem dX10_kind_10 : decode cX10_kind 10 = .ok (.ireturn, 1) := by decide +kernel
theorem dX10_order_0 : decode cX10_order 0 = .ok (.aload_n 0, 1) := by decide +kernel
theorem dX10_order_1 : decode cX10_order 1 = .ok (.getfield 10, 3) := by decide +kernel
theorem dX10_order_4 : decode cX10_order 4 = .ok (.getfield 162, 3) := by decide +kernel
theorem dX10_order_7 : decode cX10_order 7 = .ok (.invokevirtual 189, 3) := by decide +kernel
theorem dX10_order_10 : decode cX10_order 10 = .ok (.ireturn, 1) := by decide +kernel
theorem dX10_hits_0 : decode cX10_hits 0 = .ok (.iload_n 1, 1) := by decide +kernel
theorem dX10_hits_1 : decode cX10_hits 1 = .ok (.iconst 1, 1) := by decide +kernel
theorem dX10_hits_2 : decode cX10_hits 2 = .ok (.bipush 9, 2) := by decide +kernel
theorem dX10_hits_4 : decode cX10_hits 4 = .ok (.invokestatic 80, 3) := by decide +kernel
theorem dX10_hits_7 : decode cX10_hits 7 = .ok (.ifCond .eq 14, 3) := by decide +kernel
theorem dX10_hits_10 : decode cX10_hits 10 = .ok (.iload_n 2, 1) := by decide +kernel
theorem dX10_hits_11 : decode cX10_hits 11 = .ok (.iconst 0, 1) := by decide +kernel
theorem dX10_hits_12 : decode cX10_hits 12 = .ok (.sipush 9999, 3) := by decide +kernel
theorem dX10_hits_15 : decode cX10_hits 15 = .ok (.invokestatic 80, 3) := by decide +kernel
theorem dX10_hits_18 : decode cX10_hits 18 = .ok (.ifCond .ne 5, 3) := by decide +kernel
theorem dX10_hits_21 : decode cX10_hits 21 = .ok (.iconst (-1), 1) := by decide +kernel
theorem dX10_hits_22 : decode cX10_hits 22 = .ok (.ireturn, 1) := by decide +kernel
theorem dX10_hits_23 : decode cX10_hits 23 = .ok (.aload_n 0, 1) := by decide +kernel
theorem dX10_hits_24 : decode cX10_hits 24 = .ok (.getfield 10, 3) := by decide +kernel
theorem dX10_hits_27 : decode cX10_hits 27 = .ok (.getfield 162, 3) := by decide +kernel
theorem dX10_hits_30 : decode cX10_hits 30 = .ok (.iload_n 1, 1) := by decide +kernel
theorem dX10_hits_31 : decode cX10_hits 31 = .ok (.iload_n 2, 1) := by decide +kernel
theorem dX10_hits_32 : decode cX10_hits 32 = .ok (.invokevirtual 192, 3) := by decide +kernel
theorem dX10_hits_35 : decode cX10_hits 35 = .ok (.ireturn, 1) := by decide +kernel
theorem dX10_ahead_0 : decode cX10_ahead 0 = .ok (.iload_n 1, 1) := by decide +kernel
theorem dX10_ahead_1 : decode cX10_ahead 1 = .ok (.iconst 1, 1) := by decide +kernel
theorem dX10_ahead_2 : decode cX10_ahead 2 = .ok (.bipush 9, 2) := by decide +kernel
theorem dX10_ahead_4 : decode cX10_ahead 4 = .ok (.invokestatic 80, 3) := by decide +kernel
theorem dX10_ahead_7 : decode cX10_ahead 7 = .ok (.ifCond .ne 5, 3) := by decide +kernel
theorem dX10_ahead_10 : decode cX10_ahead 10 = .ok (.iconst (-1), 1) := by decide +kernel
theorem dX10_ahead_11 : decode cX10_ahead 11 = .ok (.ireturn, 1) := by decide +kernel
theorem dX10_ahead_12 : decode cX10_ahead 12 = .ok (.aload_n 0, 1) := by decide +kernel
theorem dX10_ahead_13 : decode cX10_ahead 13 = .ok (.getfield 10, 3) := by decide +kernel
theorem dX10_ahead_16 : decode cX10_ahead 16 = .ok (.getfield 162, 3) := by decide +kernel
theorem dX10_ahead_19 : decode cX10_ahead 19 = .ok (.invokevirtual 172, 3) := by decide +kernel
theorem dX10_ahead_22 : decode cX10_ahead 22 = .ok (.istore_n 2, 1) := by decide +kernel
theorem dX10_ahead_23 : decode cX10_ahead 23 = .ok (.iload_n 2, 1) := by decide +kernel
theorem dX10_ahead_24 : decode cX10_ahead 24 = .ok (.iconst 2, 1) := by decide +kernel
theorem dX10_ahead_25 : decode cX10_ahead 25 = .ok (.if_icmp .ge 8, 3) := by decide +kernel
theorem dX10_ahead_28 : decode cX10_ahead 28 = .ok (.bipush (-3), 2) := by decide +kernel
theorem dX10_ahead_30 : decode cX10_ahead 30 = .ok (.goto 17, 3) := by decide +kernel
theorem dX10_ahead_33 : decode cX10_ahead 33 = .ok (.aload_n 0, 1) := by decide +kernel
theorem dX10_ahead_34 : decode cX10_ahead 34 = .ok (.getfield 10, 3) := by decide +kernel
theorem dX10_ahead_37 : decode cX10_ahead 37 = .ok (.getfield 162, 3) := by decide +kernel
theorem dX10_ahead_40 : decode cX10_ahead 40 = .ok (.iload_n 2, 1) := by decide +kernel
theorem dX10_ahead_41 : decode cX10_ahead 41 = .ok (.iconst 1, 1) := by decide +kernel
theorem dX10_ahead_42 : decode cX10_ahead 42 = .ok (.isub, 1) := by decide +kernel
theorem dX10_ahead_43 : decode cX10_ahead 43 = .ok (.iload_n 1, 1) := by decide +kernel
theorem dX10_ahead_44 : decode cX10_ahead 44 = .ok (.invokevirtual 196, 3) := by decide +kernel
theorem dX10_ahead_47 : decode cX10_ahead 47 = .ok (.ireturn, 1) := by decide +kernel
theorem dX10_rule_0 : decode cX10_rule 0 = .ok (.iload_n 1, 1) := by decide +kernel
theorem dX10_rule_1 : decode cX10_rule 1 = .ok (.iconst 0, 1) := by decide +kernel
theorem dX10_rule_2 : decode cX10_rule 2 = .ok (.sipush 9999, 3) := by decide +kernel
theorem dX10_rule_5 : decode cX10_rule 5 = .ok (.invokestatic 80, 3) := by decide +kernel
theorem dX10_rule_8 : decode cX10_rule 8 = .ok (.ifCond .eq 12, 3) := by decide +kernel
theorem dX10_rule_11 : decode cX10_rule 11 = .ok (.iload_n 2, 1) := by decide +kernel
theorem dX10_rule_12 : decode cX10_rule 12 = .ok (.iconst 0, 1) := by decide +kernel
theorem dX10_rule_13 : decode cX10_rule 13 = .ok (.iconst 1, 1) := by decide +kernel
theorem dX10_rule_14 : decode cX10_rule 14 = .ok (.invokestatic 80, 3) := by decide +kernel
theorem dX10_rule_17 : decode cX10_rule 17 = .ok (.ifCond .ne 5, 3) := by decide +kernel
theorem dX10_rule_20 : decode cX10_rule 20 = .ok (.iconst (-1), 1) := by decide +kernel
theorem dX10_rule_21 : decode cX10_rule 21 = .ok (.ireturn, 1) := by decide +kernel
theorem dX10_rule_22 : decode cX10_rule 22 = .ok (.aload_n 0, 1) := by decide +kernel
theorem dX10_rule_23 : decode cX10_rule 23 = .ok (.getfield 10, 3) := by decide +kernel
theorem dX10_rule_26 : decode cX10_rule 26 = .ok (.getfield 162, 3) := by decide +kernel
theorem dX10_rule_29 : decode cX10_rule 29 = .ok (.iload_n 1, 1) := by decide +kernel
theorem dX10_rule_30 : decode cX10_rule 30 = .ok (.iconst 0, 1) := by decide +kernel
theorem dX10_rule_31 : decode cX10_rule 31 = .ok (.invokevirtual 199, 3) := by decide +kernel
theorem dX10_rule_34 : decode cX10_rule 34 = .ok (.istore_n 3, 1) := by decide +kernel
theorem dX10_rule_35 : decode cX10_rule 35 = .ok (.iload_n 3, 1) := by decide +kernel
theorem dX10_rule_36 : decode cX10_rule 36 = .ok (.ifCond .ne 6, 3) := by decide +kernel
theorem dX10_rule_39 : decode cX10_rule 39 = .ok (.bipush (-3), 2) := by decide +kernel
theorem dX10_rule_41 : decode cX10_rule 41 = .ok (.ireturn, 1) := by decide +kernel
theorem dX10_rule_42 : decode cX10_rule 42 = .ok (.aload_n 0, 1) := by decide +kernel
theorem dX10_rule_43 : decode cX10_rule 43 = .ok (.getfield 10, 3) := by decide +kernel
theorem dX10_rule_46 : decode cX10_rule 46 = .ok (.getfield 162, 3) := by decide +kernel
theorem dX10_rule_49 : decode cX10_rule 49 = .ok (.iload_n 1, 1) := by decide +kernel
theorem dX10_rule_50 : decode cX10_rule 50 = .ok (.iconst 1, 1) := by decide +kernel
theorem dX10_rule_51 : decode cX10_rule 51 = .ok (.invokevirtual 199, 3) := by decide +kernel
theorem dX10_rule_54 : decode cX10_rule 54 = .ok (.istore 4, 2) := by decide +kernel
theorem dX10_rule_56 : decode cX10_rule 56 = .ok (.iload 4, 2) := by decide +kernel
theorem dX10_rule_58 : decode cX10_rule 58 = .ok (.iload_n 3, 1) := by decide +kernel
theorem dX10_rule_59 : decode cX10_rule 59 = .ok (.invokestatic 203, 3) := by decide +kernel
theorem dX10_rule_62 : decode cX10_rule 62 = .ok (.istore 5, 2) := by decide +kernel
theorem dX10_rule_64 : decode cX10_rule 64 = .ok (.iload 5, 2) := by decide +kernel
theorem dX10_rule_66 : decode cX10_rule 66 = .ok (.ifCond .ne 6, 3) := by decide +kernel
theorem dX10_rule_69 : decode cX10_rule 69 = .ok (.bipush (-3), 2) := by decide +kernel
theorem dX10_rule_71 : decode cX10_rule 71 = .ok (.ireturn, 1) := by decide +kernel
theorem dX10_rule_72 : decode cX10_rule 72 = .ok (.iload_n 2, 1) := by decide +kernel
theorem dX10_rule_73 : decode cX10_rule 73 = .ok (.ifCond .ne 8, 3) := by decide +kernel
theorem dX10_rule_76 : decode cX10_rule 76 = .ok (.iload 4, 2) := by decide +kernel
theorem dX10_rule_78 : decode cX10_rule 78 = .ok (.goto 4, 3) := by decide +kernel
theorem dX10_rule_81 : decode cX10_rule 81 = .ok (.iload_n 3, 1) := by decide +kernel
theorem dX10_rule_82 : decode cX10_rule 82 = .ok (.iload 5, 2) := by decide +kernel
theorem dX10_rule_84 : decode cX10_rule 84 = .ok (.idiv, 1) := by decide +kernel
theorem dX10_rule_85 : decode cX10_rule 85 = .ok (.ireturn, 1) := by decide +kernel
theorem dX10_drift_0 : decode cX10_drift 0 = .ok (.aload_n 0, 1) := by decide +kernel
theorem dX10_drift_1 : decode cX10_drift 1 = .ok (.getfield 10, 3) := by decide +kernel
theorem dX10_drift_4 : decode cX10_drift 4 = .ok (.getfield 162, 3) := by decide +kernel
theorem dX10_drift_7 : decode cX10_drift 7 = .ok (.invokevirtual 172, 3) := by decide +kernel
theorem dX10_drift_10 : decode cX10_drift 10 = .ok (.istore_n 2, 1) := by decide +kernel
theorem dX10_drift_11 : decode cX10_drift 11 = .ok (.iload_n 2, 1) := by decide +kernel
theorem dX10_drift_12 : decode cX10_drift 12 = .ok (.iconst 2, 1) := by decide +kernel
theorem dX10_drift_13 : decode cX10_drift 13 = .ok (.if_icmp .lt 17, 3) := by decide +kernel
theorem dX10_drift_16 : decode cX10_drift 16 = .ok (.aload_n 0, 1) := by decide +kernel
theorem dX10_drift_17 : decode cX10_drift 17 = .ok (.getfield 10, 3) := by decide +kernel
theorem dX10_drift_20 : decode cX10_drift 20 = .ok (.getfield 162, 3) := by decide +kernel
theorem dX10_drift_23 : decode cX10_drift 23 = .ok (.iload_n 1, 1) := by decide +kernel
theorem dX10_drift_24 : decode cX10_drift 24 = .ok (.invokevirtual 176, 3) := by decide +kernel
theorem dX10_drift_27 : decode cX10_drift 27 = .ok (.ifCond .ne 6, 3) := by decide +kernel
theorem dX10_drift_30 : decode cX10_drift 30 = .ok (.bipush (-3), 2) := by decide +kernel
theorem dX10_drift_32 : decode cX10_drift 32 = .ok (.ireturn, 1) := by decide +kernel
theorem dX10_drift_33 : decode cX10_drift 33 = .ok (.aload_n 0, 1) := by decide +kernel
theorem dX10_drift_34 : decode cX10_drift 34 = .ok (.getfield 10, 3) := by decide +kernel
theorem dX10_drift_37 : decode cX10_drift 37 = .ok (.getfield 162, 3) := by decide +kernel
theorem dX10_drift_40 : decode cX10_drift 40 = .ok (.iconst 0, 1) := by decide +kernel
theorem dX10_drift_41 : decode cX10_drift 41 = .ok (.invokevirtual 179, 3) := by decide +kernel
theorem dX10_drift_44 : decode cX10_drift 44 = .ok (.istore_n 3, 1) := by decide +kernel
theorem dX10_drift_45 : decode cX10_drift 45 = .ok (.aload_n 0, 1) := by decide +kernel
theorem dX10_drift_46 : decode cX10_drift 46 = .ok (.getfield 10, 3) := by decide +kernel
theorem dX10_drift_49 : decode cX10_drift 49 = .ok (.getfield 162, 3) := by decide +kernel
theorem dX10_drift_52 : decode cX10_drift 52 = .ok (.iload_n 2, 1) := by decide +kernel
theorem dX10_drift_53 : decode cX10_drift 53 = .ok (.iconst 1, 1) := by decide +kernel
theorem dX10_drift_54 : decode cX10_drift 54 = .ok (.isub, 1) := by decide +kernel
theorem dX10_drift_55 : decode cX10_drift 55 = .ok (.invokevirtual 179, 3) := by decide +kernel
theorem dX10_drift_58 : decode cX10_drift 58 = .ok (.iload_n 3, 1) := by decide +kernel
theorem dX10_drift_59 : decode cX10_drift 59 = .ok (.isub, 1) := by decide +kernel
theorem dX10_drift_60 : decode cX10_drift 60 = .ok (.istore 4, 2) := by decide +kernel
theorem dX10_drift_62 : decode cX10_drift 62 = .ok (.aload_n 0, 1) := by decide +kernel
theorem dX10_drift_63 : decode cX10_drift 63 = .ok (.getfield 10, 3) := by decide +kernel
theorem dX10_drift_66 : decode cX10_drift 66 = .ok (.getfield 162, 3) := by decide +kernel
theorem dX10_drift_69 : decode cX10_drift 69 = .ok (.iload_n 1, 1) := by decide +kernel
theorem dX10_drift_70 : decode cX10_drift 70 = .ok (.invokevirtual 179, 3) := by decide +kernel
theorem dX10_drift_73 : decode cX10_drift 73 = .ok (.iload_n 3, 1) := by decide +kernel
theorem dX10_drift_74 : decode cX10_drift 74 = .ok (.isub, 1) := by decide +kernel
theorem dX10_drift_75 : decode cX10_drift 75 = .ok (.iload 4, 2) := by decide +kernel
theorem dX10_drift_77 : decode cX10_drift 77 = .ok (.iload_n 1, 1) := by decide +kernel
theorem dX10_drift_78 : decode cX10_drift 78 = .ok (.imul, 1) := by decide +kernel
theorem dX10_drift_79 : decode cX10_drift 79 = .ok (.iload_n 2, 1) := by decide +kernel
theorem dX10_drift_80 : decode cX10_drift 80 = .ok (.iconst 1, 1) := by decide +kernel
theorem dX10_drift_81 : decode cX10_drift 81 = .ok (.isub, 1) := by decide +kernel
theorem dX10_drift_82 : decode cX10_drift 82 = .ok (.idiv, 1) := by decide +kernel
theorem dX10_drift_83 : decode cX10_drift 83 = .ok (.isub, 1) := by decide +kernel
theorem dX10_drift_84 : decode cX10_drift 84 = .ok (.sipush 20000, 3) := by decide +kernel
theorem dX10_drift_87 : decode cX10_drift 87 = .ok (.iadd, 1) := by decide +kernel
theorem dX10_drift_88 : decode cX10_drift 88 = .ok (.ireturn, 1) := by decide +kernel
theorem dX10_span_0 : decode cX10_span 0 = .ok (.iload_n 1, 1) := by decide +kernel
theorem dX10_span_1 : decode cX10_span 1 = .ok (.iconst 0, 1) := by decide +kernel
theorem dX10_span_2 : decode cX10_span 2 = .ok (.iconst 2, 1) := by decide +kernel
theorem dX10_span_3 : decode cX10_span 3 = .ok (.invokestatic 80, 3) := by decide +kernel
theorem dX10_span_6 : decode cX10_span 6 = .ok (.ifCond .ne 5, 3) := by decide +kernel
theorem dX10_span_9 : decode cX10_span 9 = .ok (.iconst (-1), 1) := by decide +kernel
theorem dX10_span_10 : decode cX10_span 10 = .ok (.ireturn, 1) := by decide +kernel
theorem dX10_span_11 : decode cX10_span 11 = .ok (.aload_n 0, 1) := by decide +kernel
theorem dX10_span_12 : decode cX10_span 12 = .ok (.getfield 10, 3) := by decide +kernel
theorem dX10_span_15 : decode cX10_span 15 = .ok (.getfield 162, 3) := by decide +kernel
theorem dX10_span_18 : decode cX10_span 18 = .ok (.invokevirtual 172, 3) := by decide +kernel
theorem dX10_span_21 : decode cX10_span 21 = .ok (.ifCond .ne 6, 3) := by decide +kernel
theorem dX10_span_24 : decode cX10_span 24 = .ok (.bipush (-3), 2) := by decide +kernel
theorem dX10_span_26 : decode cX10_span 26 = .ok (.ireturn, 1) := by decide +kernel
theorem dX10_span_27 : decode cX10_span 27 = .ok (.iload_n 1, 1) := by decide +kernel
theorem dX10_span_28 : decode cX10_span 28 = .ok (.lookupswitch 50 #[(0, 28), (1, 39)], 28) := by decide +kernel
theorem dX10_span_56 : decode cX10_span 56 = .ok (.aload_n 0, 1) := by decide +kernel
theorem dX10_span_57 : decode cX10_span 57 = .ok (.getfield 10, 3) := by decide +kernel
theorem dX10_span_60 : decode cX10_span 60 = .ok (.getfield 162, 3) := by decide +kernel
theorem dX10_span_63 : decode cX10_span 63 = .ok (.invokevirtual 206, 3) := by decide +kernel
theorem dX10_span_66 : decode cX10_span 66 = .ok (.ireturn, 1) := by decide +kernel
theorem dX10_span_67 : decode cX10_span 67 = .ok (.aload_n 0, 1) := by decide +kernel
theorem dX10_span_68 : decode cX10_span 68 = .ok (.getfield 10, 3) := by decide +kernel
theorem dX10_span_71 : decode cX10_span 71 = .ok (.getfield 162, 3) := by decide +kernel
theorem dX10_span_74 : decode cX10_span 74 = .ok (.invokevirtual 209, 3) := by decide +kernel
theorem dX10_span_77 : decode cX10_span 77 = .ok (.ireturn, 1) := by decide +kernel
theorem dX10_span_78 : decode cX10_span 78 = .ok (.aload_n 0, 1) := by decide +kernel
theorem dX10_span_79 : decode cX10_span 79 = .ok (.getfield 10, 3) := by decide +kernel
theorem dX10_span_82 : decode cX10_span 82 = .ok (.getfield 162, 3) := by decide +kernel
theorem dX10_span_85 : decode cX10_span 85 = .ok (.invokevirtual 212, 3) := by decide +kernel
theorem dX10_span_88 : decode cX10_span 88 = .ok (.ireturn, 1) := by decide +kernel
theorem dX10_grid_0 : decode cX10_grid 0 = .ok (.iload_n 1, 1) := by decide +kernel
theorem dX10_grid_1 : decode cX10_grid 1 = .ok (.iconst 0, 1) := by decide +kernel
theorem dX10_grid_2 : decode cX10_grid 2 = .ok (.bipush 99, 2) := by decide +kernel
theorem dX10_grid_4 : decode cX10_grid 4 = .ok (.invokestatic 80, 3) := by decide +kernel
theorem dX10_grid_7 : decode cX10_grid 7 = .ok (.ifCond .eq 11, 3) := by decide +kernel
theorem dX10_grid_10 : decode cX10_grid 10 = .ok (.aload_n 0, 1) := by decide +kernel
theorem dX10_grid_11 : decode cX10_grid 11 = .ok (.iload_n 1, 1) := by decide +kernel
theorem dX10_grid_12 : decode cX10_grid 12 = .ok (.invokevirtual 215, 3) := by decide +kernel
theorem dX10_grid_15 : decode cX10_grid 15 = .ok (.goto 4, 3) := by decide +kernel
theorem dX10_grid_18 : decode cX10_grid 18 = .ok (.iconst (-1), 1) := by decide +kernel
theorem dX10_grid_19 : decode cX10_grid 19 = .ok (.ireturn, 1) := by decide +kernel
theorem dX10_doubling_0 : decode cX10_doubling 0 = .ok (.iload_n 1, 1) := by decide +kernel
theorem dX10_doubling_1 : decode cX10_doubling 1 = .ok (.iload_n 2, 1) := by decide +kernel
theorem dX10_doubling_2 : decode cX10_doubling 2 = .ok (.invokestatic 218, 3) := by decide +kernel
theorem dX10_doubling_5 : decode cX10_doubling 5 = .ok (.ifCond .ne 5, 3) := by decide +kernel
theorem dX10_doubling_8 : decode cX10_doubling 8 = .ok (.iconst (-1), 1) := by decide +kernel
theorem dX10_doubling_9 : decode cX10_doubling 9 = .ok (.ireturn, 1) := by decide +kernel
theorem dX10_doubling_10 : decode cX10_doubling 10 = .ok (.aload_n 0, 1) := by decide +kernel
theorem dX10_doubling_11 : decode cX10_doubling 11 = .ok (.iload_n 1, 1) := by decide +kernel
theorem dX10_doubling_12 : decode cX10_doubling 12 = .ok (.invokevirtual 215, 3) := by decide +kernel
theorem dX10_doubling_15 : decode cX10_doubling 15 = .ok (.istore_n 3, 1) := by decide +kernel
theorem dX10_doubling_16 : decode cX10_doubling 16 = .ok (.iload_n 1, 1) := by decide +kernel
theorem dX10_doubling_17 : decode cX10_doubling 17 = .ok (.iconst 1, 1) := by decide +kernel
theorem dX10_doubling_18 : decode cX10_doubling 18 = .ok (.iadd, 1) := by decide +kernel
theorem dX10_doubling_19 : decode cX10_doubling 19 = .ok (.istore 4, 2) := by decide +kernel
theorem dX10_doubling_21 : decode cX10_doubling 21 = .ok (.iload 4, 2) := by decide +kernel
theorem dX10_doubling_23 : decode cX10_doubling 23 = .ok (.iload_n 2, 1) := by decide +kernel
theorem dX10_doubling_24 : decode cX10_doubling 24 = .ok (.if_icmp .gt 35, 3) := by decide +kernel
theorem dX10_doubling_27 : decode cX10_doubling 27 = .ok (.aload_n 0, 1) := by decide +kernel
theorem dX10_doubling_28 : decode cX10_doubling 28 = .ok (.iload 4, 2) := by decide +kernel
theorem dX10_doubling_30 : decode cX10_doubling 30 = .ok (.invokevirtual 215, 3) := by decide +kernel
theorem dX10_doubling_33 : decode cX10_doubling 33 = .ok (.istore 5, 2) := by decide +kernel
theorem dX10_doubling_35 : decode cX10_doubling 35 = .ok (.iload_n 3, 1) := by decide +kernel
theorem dX10_doubling_36 : decode cX10_doubling 36 = .ok (.ifCond .le 14, 3) := by decide +kernel
theorem dX10_doubling_39 : decode cX10_doubling 39 = .ok (.iload 5, 2) := by decide +kernel
theorem dX10_doubling_41 : decode cX10_doubling 41 = .ok (.iconst 2, 1) := by decide +kernel
theorem dX10_doubling_42 : decode cX10_doubling 42 = .ok (.iload_n 3, 1) := by decide +kernel
theorem dX10_doubling_43 : decode cX10_doubling 43 = .ok (.imul, 1) := by decide +kernel
theorem dX10_doubling_44 : decode cX10_doubling 44 = .ok (.if_icmp .ne 6, 3) := by decide +kernel
theorem dX10_doubling_47 : decode cX10_doubling 47 = .ok (.iload 4, 2) := by decide +kernel
theorem dX10_doubling_49 : decode cX10_doubling 49 = .ok (.ireturn, 1) := by decide +kernel
theorem dX10_doubling_50 : decode cX10_doubling 50 = .ok (.iload 5, 2) := by decide +kernel
theorem dX10_doubling_52 : decode cX10_doubling 52 = .ok (.istore_n 3, 1) := by decide +kernel
theorem dX10_doubling_53 : decode cX10_doubling 53 = .ok (.iinc 4 1, 3) := by decide +kernel
theorem dX10_doubling_56 : decode cX10_doubling 56 = .ok (.goto (-35), 3) := by decide +kernel
theorem dX10_doubling_59 : decode cX10_doubling 59 = .ok (.bipush (-3), 2) := by decide +kernel
theorem dX10_doubling_61 : decode cX10_doubling 61 = .ok (.ireturn, 1) := by decide +kernel
theorem dX10_windows_0 : decode cX10_windows 0 = .ok (.iload_n 1, 1) := by decide +kernel
theorem dX10_windows_1 : decode cX10_windows 1 = .ok (.iload_n 2, 1) := by decide +kernel
theorem dX10_windows_2 : decode cX10_windows 2 = .ok (.invokestatic 218, 3) := by decide +kernel
theorem dX10_windows_5 : decode cX10_windows 5 = .ok (.ifCond .ne 5, 3) := by decide +kernel
theorem dX10_windows_8 : decode cX10_windows 8 = .ok (.iconst (-1), 1) := by decide +kernel
theorem dX10_windows_9 : decode cX10_windows 9 = .ok (.ireturn, 1) := by decide +kernel
theorem dX10_windows_10 : decode cX10_windows 10 = .ok (.iconst 0, 1) := by decide +kernel
theorem dX10_windows_11 : decode cX10_windows 11 = .ok (.istore_n 3, 1) := by decide +kernel
theorem dX10_windows_12 : decode cX10_windows 12 = .ok (.iload_n 1, 1) := by decide +kernel
theorem dX10_windows_13 : decode cX10_windows 13 = .ok (.istore 4, 2) := by decide +kernel
theorem dX10_windows_15 : decode cX10_windows 15 = .ok (.iload 4, 2) := by decide +kernel
theorem dX10_windows_17 : decode cX10_windows 17 = .ok (.iload_n 2, 1) := by decide +kernel
theorem dX10_windows_18 : decode cX10_windows 18 = .ok (.if_icmp .gt 22, 3) := by decide +kernel
theorem dX10_windows_21 : decode cX10_windows 21 = .ok (.aload_n 0, 1) := by decide +kernel
theorem dX10_windows_22 : decode cX10_windows 22 = .ok (.iload 4, 2) := by decide +kernel
theorem dX10_windows_24 : decode cX10_windows 24 = .ok (.invokevirtual 215, 3) := by decide +kernel
theorem dX10_windows_27 : decode cX10_windows 27 = .ok (.iconst 3, 1) := by decide +kernel
theorem dX10_windows_28 : decode cX10_windows 28 = .ok (.if_icmp .ne 6, 3) := by decide +kernel
theorem dX10_windows_31 : decode cX10_windows 31 = .ok (.iinc 3 1, 3) := by decide +kernel
theorem dX10_windows_34 : decode cX10_windows 34 = .ok (.iinc 4 1, 3) := by decide +kernel
theorem dX10_windows_37 : decode cX10_windows 37 = .ok (.goto (-22), 3) := by decide +kernel
theorem dX10_windows_40 : decode cX10_windows 40 = .ok (.iload_n 3, 1) := by decide +kernel
theorem dX10_windows_41 : decode cX10_windows 41 = .ok (.ireturn, 1) := by decide +kernel
theorem dX10_touch_0 : decode cX10_touch 0 = .ok (.iload_n 1, 1) := by decide +kernel
theorem dX10_touch_1 : decode cX10_touch 1 = .ok (.iconst 1, 1) := by decide +kernel
theorem dX10_touch_2 : decode cX10_touch 2 = .ok (.sipush 400, 3) := by decide +kernel
theorem dX10_touch_5 : decode cX10_touch 5 = .ok (.invokestatic 80, 3) := by decide +kernel
theorem dX10_touch_8 : decode cX10_touch 8 = .ok (.ifCond .ne 5, 3) := by decide +kernel
theorem dX10_touch_11 : decode cX10_touch 11 = .ok (.iconst (-1), 1) := by decide +kernel
theorem dX10_touch_12 : decode cX10_touch 12 = .ok (.ireturn, 1) := by decide +kernel
theorem dX10_touch_13 : decode cX10_touch 13 = .ok (.iconst 0, 1) := by decide +kernel
theorem dX10_touch_14 : decode cX10_touch 14 = .ok (.istore_n 2, 1) := by decide +kernel
theorem dX10_touch_15 : decode cX10_touch 15 = .ok (.iload_n 2, 1) := by decide +kernel
theorem dX10_touch_16 : decode cX10_touch 16 = .ok (.bipush 30, 2) := by decide +kernel
theorem dX10_touch_18 : decode cX10_touch 18 = .ok (.if_icmp .gt 38, 3) := by decide +kernel
theorem dX10_touch_21 : decode cX10_touch 21 = .ok (.aload_n 0, 1) := by decide +kernel
theorem dX10_touch_22 : decode cX10_touch 22 = .ok (.iload_n 2, 1) := by decide +kernel
theorem dX10_touch_23 : decode cX10_touch 23 = .ok (.iload_n 1, 1) := by decide +kernel
theorem dX10_touch_24 : decode cX10_touch 24 = .ok (.invokevirtual 222, 3) := by decide +kernel
theorem dX10_touch_27 : decode cX10_touch 27 = .ok (.ifCond .eq 8, 3) := by decide +kernel
theorem dX10_touch_30 : decode cX10_touch 30 = .ok (.bipush 100, 2) := by decide +kernel
theorem dX10_touch_32 : decode cX10_touch 32 = .ok (.iload_n 2, 1) := by decide +kernel
theorem dX10_touch_33 : decode cX10_touch 33 = .ok (.iadd, 1) := by decide +kernel
theorem dX10_touch_34 : decode cX10_touch 34 = .ok (.ireturn, 1) := by decide +kernel
theorem dX10_touch_35 : decode cX10_touch 35 = .ok (.aload_n 0, 1) := by decide +kernel
theorem dX10_touch_36 : decode cX10_touch 36 = .ok (.iload_n 2, 1) := by decide +kernel
theorem dX10_touch_37 : decode cX10_touch 37 = .ok (.ineg, 1) := by decide +kernel
theorem dX10_touch_38 : decode cX10_touch 38 = .ok (.iload_n 1, 1) := by decide +kernel
theorem dX10_touch_39 : decode cX10_touch 39 = .ok (.invokevirtual 222, 3) := by decide +kernel
theorem dX10_touch_42 : decode cX10_touch 42 = .ok (.ifCond .eq 8, 3) := by decide +kernel
theorem dX10_touch_45 : decode cX10_touch 45 = .ok (.bipush 100, 2) := by decide +kernel
theorem dX10_touch_47 : decode cX10_touch 47 = .ok (.iload_n 2, 1) := by decide +kernel
theorem dX10_touch_48 : decode cX10_touch 48 = .ok (.isub, 1) := by decide +kernel
theorem dX10_touch_49 : decode cX10_touch 49 = .ok (.ireturn, 1) := by decide +kernel
theorem dX10_touch_50 : decode cX10_touch 50 = .ok (.iinc 2 1, 3) := by decide +kernel
theorem dX10_touch_53 : decode cX10_touch 53 = .ok (.goto (-38), 3) := by decide +kernel
theorem dX10_touch_56 : decode cX10_touch 56 = .ok (.bipush (-3), 2) := by decide +kernel
theorem dX10_touch_58 : decode cX10_touch 58 = .ok (.ireturn, 1) := by decide +kernel
theorem dX10_lost_0 : decode cX10_lost 0 = .ok (.iload_n 1, 1) := by decide +kernel
theorem dX10_lost_1 : decode cX10_lost 1 = .ok (.iconst 0, 1) := by decide +kernel
theorem dX10_lost_2 : decode cX10_lost 2 = .ok (.sipush 999, 3) := by decide +kernel
theorem dX10_lost_5 : decode cX10_lost 5 = .ok (.invokestatic 80, 3) := by decide +kernel
theorem dX10_lost_8 : decode cX10_lost 8 = .ok (.ifCond .ne 5, 3) := by decide +kernel
theorem dX10_lost_11 : decode cX10_lost 11 = .ok (.iconst (-1), 1) := by decide +kernel
theorem dX10_lost_12 : decode cX10_lost 12 = .ok (.ireturn, 1) := by decide +kernel
theorem dX10_lost_13 : decode cX10_lost 13 = .ok (.aload_n 0, 1) := by decide +kernel
theorem dX10_lost_14 : decode cX10_lost 14 = .ok (.getfield 39, 3) := by decide +kernel
theorem dX10_lost_17 : decode cX10_lost 17 = .ok (.aload_n 0, 1) := by decide +kernel
theorem dX10_lost_18 : decode cX10_lost 18 = .ok (.getfield 10, 3) := by decide +kernel
theorem dX10_lost_21 : decode cX10_lost 21 = .ok (.invokevirtual 225, 3) := by decide +kernel
theorem dX10_lost_24 : decode cX10_lost 24 = .ok (.aload_n 0, 1) := by decide +kernel
theorem dX10_lost_25 : decode cX10_lost 25 = .ok (.getfield 39, 3) := by decide +kernel
theorem dX10_lost_28 : decode cX10_lost 28 = .ok (.sipush 400, 3) := by decide +kernel
theorem dX10_lost_31 : decode cX10_lost 31 = .ok (.aload_n 0, 1) := by decide +kernel
theorem dX10_lost_32 : decode cX10_lost 32 = .ok (.getfield 19, 3) := by decide +kernel
theorem dX10_lost_35 : decode cX10_lost 35 = .ok (.invokevirtual 229, 3) := by decide +kernel
theorem dX10_lost_38 : decode cX10_lost 38 = .ok (.aload_n 0, 1) := by decide +kernel
theorem dX10_lost_39 : decode cX10_lost 39 = .ok (.getfield 42, 3) := by decide +kernel
theorem dX10_lost_42 : decode cX10_lost 42 = .ok (.aload_n 0, 1) := by decide +kernel
theorem dX10_lost_43 : decode cX10_lost 43 = .ok (.getfield 10, 3) := by decide +kernel
theorem dX10_lost_46 : decode cX10_lost 46 = .ok (.invokevirtual 225, 3) := by decide +kernel
theorem dX10_lost_49 : decode cX10_lost 49 = .ok (.aload_n 0, 1) := by decide +kernel
theorem dX10_lost_50 : decode cX10_lost 50 = .ok (.getfield 42, 3) := by decide +kernel
theorem dX10_lost_53 : decode cX10_lost 53 = .ok (.iload_n 1, 1) := by decide +kernel
theorem dX10_lost_54 : decode cX10_lost 54 = .ok (.invokevirtual 233, 3) := by decide +kernel
theorem dX10_lost_57 : decode cX10_lost 57 = .ok (.aload_n 0, 1) := by decide +kernel
theorem dX10_lost_58 : decode cX10_lost 58 = .ok (.getfield 42, 3) := by decide +kernel
theorem dX10_lost_61 : decode cX10_lost 61 = .ok (.sipush 400, 3) := by decide +kernel
theorem dX10_lost_64 : decode cX10_lost 64 = .ok (.aload_n 0, 1) := by decide +kernel
theorem dX10_lost_65 : decode cX10_lost 65 = .ok (.getfield 19, 3) := by decide +kernel
theorem dX10_lost_68 : decode cX10_lost 68 = .ok (.invokevirtual 229, 3) := by decide +kernel
theorem dX10_lost_71 : decode cX10_lost 71 = .ok (.aload_n 0, 1) := by decide +kernel
theorem dX10_lost_72 : decode cX10_lost 72 = .ok (.getfield 39, 3) := by decide +kernel
theorem dX10_lost_75 : decode cX10_lost 75 = .ok (.getfield 162, 3) := by decide +kernel
theorem dX10_lost_78 : decode cX10_lost 78 = .ok (.aload_n 0, 1) := by decide +kernel
theorem dX10_lost_79 : decode cX10_lost 79 = .ok (.getfield 42, 3) := by decide +kernel
theorem dX10_lost_82 : decode cX10_lost 82 = .ok (.getfield 162, 3) := by decide +kernel
theorem dX10_lost_85 : decode cX10_lost 85 = .ok (.invokevirtual 237, 3) := by decide +kernel
theorem dX10_lost_88 : decode cX10_lost 88 = .ok (.istore_n 2, 1) := by decide +kernel
theorem dX10_lost_89 : decode cX10_lost 89 = .ok (.iload_n 2, 1) := by decide +kernel
theorem dX10_lost_90 : decode cX10_lost 90 = .ok (.ifCond .ge 8, 3) := by decide +kernel
theorem dX10_lost_93 : decode cX10_lost 93 = .ok (.bipush (-3), 2) := by decide +kernel
theorem dX10_lost_95 : decode cX10_lost 95 = .ok (.goto 4, 3) := by decide +kernel
theorem dX10_lost_98 : decode cX10_lost 98 = .ok (.iload_n 2, 1) := by decide +kernel
theorem dX10_lost_99 : decode cX10_lost 99 = .ok (.ireturn, 1) := by decide +kernel
theorem dX10_isSpanOfKnobs_0 : decode cX10_isSpanOfKnobs 0 = .ok (.iload_n 0, 1) := by decide +kernel
theorem dX10_isSpanOfKnobs_1 : decode cX10_isSpanOfKnobs 1 = .ok (.iconst 0, 1) := by decide +kernel
theorem dX10_isSpanOfKnobs_2 : decode cX10_isSpanOfKnobs 2 = .ok (.bipush 99, 2) := by decide +kernel
theorem dX10_isSpanOfKnobs_4 : decode cX10_isSpanOfKnobs 4 = .ok (.invokestatic 80, 3) := by decide +kernel
theorem dX10_isSpanOfKnobs_7 : decode cX10_isSpanOfKnobs 7 = .ok (.ifCond .eq 25, 3) := by decide +kernel
theorem dX10_isSpanOfKnobs_10 : decode cX10_isSpanOfKnobs 10 = .ok (.iload_n 1, 1) := by decide +kernel
theorem dX10_isSpanOfKnobs_11 : decode cX10_isSpanOfKnobs 11 = .ok (.iload_n 0, 1) := by decide +kernel
theorem dX10_isSpanOfKnobs_12 : decode cX10_isSpanOfKnobs 12 = .ok (.bipush 99, 2) := by decide +kernel
theorem dX10_isSpanOfKnobs_14 : decode cX10_isSpanOfKnobs 14 = .ok (.invokestatic 80, 3) := by decide +kernel
theorem dX10_isSpanOfKnobs_17 : decode cX10_isSpanOfKnobs 17 = .ok (.ifCond .eq 15, 3) := by decide +kernel
theorem dX10_isSpanOfKnobs_20 : decode cX10_isSpanOfKnobs 20 = .ok (.iload_n 1, 1) := by decide +kernel
theorem dX10_isSpanOfKnobs_21 : decode cX10_isSpanOfKnobs 21 = .ok (.iload_n 0, 1) := by decide +kernel
theorem dX10_isSpanOfKnobs_22 : decode cX10_isSpanOfKnobs 22 = .ok (.isub, 1) := by decide +kernel
theorem dX10_isSpanOfKnobs_23 : decode cX10_isSpanOfKnobs 23 = .ok (.bipush 20, 2) := by decide +kernel
theorem dX10_isSpanOfKnobs_25 : decode cX10_isSpanOfKnobs 25 = .ok (.if_icmp .gt 7, 3) := by decide +kernel
theorem dX10_isSpanOfKnobs_28 : decode cX10_isSpanOfKnobs 28 = .ok (.iconst 1, 1) := by decide +kernel
theorem dX10_isSpanOfKnobs_29 : decode cX10_isSpanOfKnobs 29 = .ok (.goto 4, 3) := by decide +kernel
theorem dX10_isSpanOfKnobs_32 : decode cX10_isSpanOfKnobs 32 = .ok (.iconst 0, 1) := by decide +kernel
theorem dX10_isSpanOfKnobs_33 : decode cX10_isSpanOfKnobs 33 = .ok (.ireturn, 1) := by decide +kernel
theorem dX10_periodWith_0 : decode cX10_periodWith 0 = .ok (.aload_n 0, 1) := by decide +kernel
theorem dX10_periodWith_1 : decode cX10_periodWith 1 = .ok (.getfield 39, 3) := by decide +kernel
theorem dX10_periodWith_4 : decode cX10_periodWith 4 = .ok (.aload_n 0, 1) := by decide +kernel
theorem dX10_periodWith_5 : decode cX10_periodWith 5 = .ok (.getfield 10, 3) := by decide +kernel
theorem dX10_periodWith_8 : decode cX10_periodWith 8 = .ok (.invokevirtual 225, 3) := by decide +kernel
theorem dX10_periodWith_11 : decode cX10_periodWith 11 = .ok (.aload_n 0, 1) := by decide +kernel
theorem dX10_periodWith_12 : decode cX10_periodWith 12 = .ok (.getfield 39, 3) := by decide +kernel
theorem dX10_periodWith_15 : decode cX10_periodWith 15 = .ok (.iload_n 1, 1) := by decide +kernel
theorem dX10_periodWith_16 : decode cX10_periodWith 16 = .ok (.putfield 88, 3) := by decide +kernel
theorem dX10_periodWith_19 : decode cX10_periodWith 19 = .ok (.aload_n 0, 1) := by decide +kernel
theorem dX10_periodWith_20 : decode cX10_periodWith 20 = .ok (.getfield 39, 3) := by decide +kernel
theorem dX10_periodWith_23 : decode cX10_periodWith 23 = .ok (.sipush 400, 3) := by decide +kernel
theorem dX10_periodWith_26 : decode cX10_periodWith 26 = .ok (.aload_n 0, 1) := by decide +kernel
theorem dX10_periodWith_27 : decode cX10_periodWith 27 = .ok (.getfield 19, 3) := by decide +kernel
theorem dX10_periodWith_30 : decode cX10_periodWith 30 = .ok (.invokevirtual 229, 3) := by decide +kernel
theorem dX10_periodWith_33 : decode cX10_periodWith 33 = .ok (.aload_n 0, 1) := by decide +kernel
theorem dX10_periodWith_34 : decode cX10_periodWith 34 = .ok (.getfield 39, 3) := by decide +kernel
theorem dX10_periodWith_37 : decode cX10_periodWith 37 = .ok (.getfield 162, 3) := by decide +kernel
theorem dX10_periodWith_40 : decode cX10_periodWith 40 = .ok (.invokevirtual 183, 3) := by decide +kernel
theorem dX10_periodWith_43 : decode cX10_periodWith 43 = .ok (.ireturn, 1) := by decide +kernel
theorem dX10_isEvenWith_0 : decode cX10_isEvenWith 0 = .ok (.aload_n 0, 1) := by decide +kernel
theorem dX10_isEvenWith_1 : decode cX10_isEvenWith 1 = .ok (.getfield 39, 3) := by decide +kernel
theorem dX10_isEvenWith_4 : decode cX10_isEvenWith 4 = .ok (.aload_n 0, 1) := by decide +kernel
theorem dX10_isEvenWith_5 : decode cX10_isEvenWith 5 = .ok (.getfield 10, 3) := by decide +kernel
theorem dX10_isEvenWith_8 : decode cX10_isEvenWith 8 = .ok (.invokevirtual 225, 3) := by decide +kernel
theorem dX10_isEvenWith_11 : decode cX10_isEvenWith 11 = .ok (.aload_n 0, 1) := by decide +kernel
theorem dX10_isEvenWith_12 : decode cX10_isEvenWith 12 = .ok (.getfield 39, 3) := by decide +kernel
theorem dX10_isEvenWith_15 : decode cX10_isEvenWith 15 = .ok (.dup, 1) := by decide +kernel
theorem dX10_isEvenWith_16 : decode cX10_isEvenWith 16 = .ok (.getfield 111, 3) := by decide +kernel
theorem dX10_isEvenWith_19 : decode cX10_isEvenWith 19 = .ok (.iload_n 1, 1) := by decide +kernel
theorem dX10_isEvenWith_20 : decode cX10_isEvenWith 20 = .ok (.iadd, 1) := by decide +kernel
theorem dX10_isEvenWith_21 : decode cX10_isEvenWith 21 = .ok (.putfield 111, 3) := by decide +kernel
theorem dX10_isEvenWith_24 : decode cX10_isEvenWith 24 = .ok (.aload_n 0, 1) := by decide +kernel
theorem dX10_isEvenWith_25 : decode cX10_isEvenWith 25 = .ok (.getfield 39, 3) := by decide +kernel
theorem dX10_isEvenWith_28 : decode cX10_isEvenWith 28 = .ok (.iload_n 2, 1) := by decide +kernel
theorem dX10_isEvenWith_29 : decode cX10_isEvenWith 29 = .ok (.aload_n 0, 1) := by decide +kernel
theorem dX10_isEvenWith_30 : decode cX10_isEvenWith 30 = .ok (.getfield 19, 3) := by decide +kernel
theorem dX10_isEvenWith_33 : decode cX10_isEvenWith 33 = .ok (.invokevirtual 229, 3) := by decide +kernel
theorem dX10_isEvenWith_36 : decode cX10_isEvenWith 36 = .ok (.aload_n 0, 1) := by decide +kernel
theorem dX10_isEvenWith_37 : decode cX10_isEvenWith 37 = .ok (.getfield 39, 3) := by decide +kernel
theorem dX10_isEvenWith_40 : decode cX10_isEvenWith 40 = .ok (.getfield 162, 3) := by decide +kernel
theorem dX10_isEvenWith_43 : decode cX10_isEvenWith 43 = .ok (.invokevirtual 186, 3) := by decide +kernel
theorem dX10_isEvenWith_46 : decode cX10_isEvenWith 46 = .ok (.iconst 1, 1) := by decide +kernel
theorem dX10_isEvenWith_47 : decode cX10_isEvenWith 47 = .ok (.if_icmp .ne 7, 3) := by decide +kernel
theorem dX10_isEvenWith_50 : decode cX10_isEvenWith 50 = .ok (.iconst 1, 1) := by decide +kernel
theorem dX10_isEvenWith_51 : decode cX10_isEvenWith 51 = .ok (.goto 4, 3) := by decide +kernel
theorem dX10_isEvenWith_54 : decode cX10_isEvenWith 54 = .ok (.iconst 0, 1) := by decide +kernel
theorem dX10_isEvenWith_55 : decode cX10_isEvenWith 55 = .ok (.ireturn, 1) := by decide +kernel
theorem dX10_prove_0 : decode cX10_prove 0 = .ok (.iload_n 1, 1) := by decide +kernel
theorem dX10_prove_1 : decode cX10_prove 1 = .ok (.iconst 1, 1) := by decide +kernel
theorem dX10_prove_2 : decode cX10_prove 2 = .ok (.bipush 12, 2) := by decide +kernel
theorem dX10_prove_4 : decode cX10_prove 4 = .ok (.invokestatic 80, 3) := by decide +kernel
theorem dX10_prove_7 : decode cX10_prove 7 = .ok (.ifCond .ne 5, 3) := by decide +kernel
theorem dX10_prove_10 : decode cX10_prove 10 = .ok (.iconst (-1), 1) := by decide +kernel
theorem dX10_prove_11 : decode cX10_prove 11 = .ok (.ireturn, 1) := by decide +kernel
theorem dX10_prove_12 : decode cX10_prove 12 = .ok (.aload_n 0, 1) := by decide +kernel
theorem dX10_prove_13 : decode cX10_prove 13 = .ok (.getfield 55, 3) := by decide +kernel
theorem dX10_prove_16 : decode cX10_prove 16 = .ok (.invokevirtual 243, 3) := by decide +kernel
theorem dX10_prove_19 : decode cX10_prove 19 = .ok (.aload_n 0, 1) := by decide +kernel
theorem dX10_prove_20 : decode cX10_prove 20 = .ok (.getfield 39, 3) := by decide +kernel
theorem dX10_prove_23 : decode cX10_prove 23 = .ok (.aload_n 0, 1) := by decide +kernel
theorem dX10_prove_24 : decode cX10_prove 24 = .ok (.getfield 10, 3) := by decide +kernel
theorem dX10_prove_27 : decode cX10_prove 27 = .ok (.invokevirtual 225, 3) := by decide +kernel
theorem dX10_prove_30 : decode cX10_prove 30 = .ok (.iconst 0, 1) := by decide +kernel
theorem dX10_prove_31 : decode cX10_prove 31 = .ok (.istore_n 2, 1) := by decide +kernel
theorem dX10_prove_32 : decode cX10_prove 32 = .ok (.iload_n 2, 1) := by decide +kernel
theorem dX10_prove_33 : decode cX10_prove 33 = .ok (.sipush 400, 3) := by decide +kernel
theorem dX10_prove_36 : decode cX10_prove 36 = .ok (.if_icmp .ge 55, 3) := by decide +kernel
theorem dX10_prove_39 : decode cX10_prove 39 = .ok (.aload_n 0, 1) := by decide +kernel
theorem dX10_prove_40 : decode cX10_prove 40 = .ok (.getfield 55, 3) := by decide +kernel
theorem dX10_prove_43 : decode cX10_prove 43 = .ok (.invokevirtual 244, 3) := by decide +kernel
theorem dX10_prove_46 : decode cX10_prove 46 = .ok (.iload_n 1, 1) := by decide +kernel
theorem dX10_prove_47 : decode cX10_prove 47 = .ok (.if_icmp .ge 44, 3) := by decide +kernel
theorem dX10_prove_50 : decode cX10_prove 50 = .ok (.aload_n 0, 1) := by decide +kernel
theorem dX10_prove_51 : decode cX10_prove 51 = .ok (.getfield 39, 3) := by decide +kernel
theorem dX10_prove_54 : decode cX10_prove 54 = .ok (.aload_n 0, 1) := by decide +kernel
theorem dX10_prove_55 : decode cX10_prove 55 = .ok (.getfield 19, 3) := by decide +kernel
theorem dX10_prove_58 : decode cX10_prove 58 = .ok (.invokevirtual 101, 3) := by decide +kernel
theorem dX10_prove_61 : decode cX10_prove 61 = .ok (.ifCond .eq 24, 3) := by decide +kernel
theorem dX10_prove_64 : decode cX10_prove 64 = .ok (.aload_n 0, 1) := by decide +kernel
theorem dX10_prove_65 : decode cX10_prove 65 = .ok (.getfield 55, 3) := by decide +kernel
theorem dX10_prove_68 : decode cX10_prove 68 = .ok (.aload_n 0, 1) := by decide +kernel
theorem dX10_prove_69 : decode cX10_prove 69 = .ok (.getfield 39, 3) := by decide +kernel
theorem dX10_prove_72 : decode cX10_prove 72 = .ok (.getfield 245, 3) := by decide +kernel
theorem dX10_prove_75 : decode cX10_prove 75 = .ok (.aload_n 0, 1) := by decide +kernel
theorem dX10_prove_76 : decode cX10_prove 76 = .ok (.getfield 39, 3) := by decide +kernel
theorem dX10_prove_79 : decode cX10_prove 79 = .ok (.getfield 248, 3) := by decide +kernel
theorem dX10_prove_82 : decode cX10_prove 82 = .ok (.invokevirtual 251, 3) := by decide +kernel
theorem dX10_prove_85 : decode cX10_prove 85 = .ok (.iinc 2 1, 3) := by decide +kernel
theorem dX10_prove_88 : decode cX10_prove 88 = .ok (.goto (-56), 3) := by decide +kernel
theorem dX10_prove_91 : decode cX10_prove 91 = .ok (.aload_n 0, 1) := by decide +kernel
theorem dX10_prove_92 : decode cX10_prove 92 = .ok (.getfield 55, 3) := by decide +kernel
theorem dX10_prove_95 : decode cX10_prove 95 = .ok (.invokevirtual 244, 3) := by decide +kernel
theorem dX10_prove_98 : decode cX10_prove 98 = .ok (.ireturn, 1) := by decide +kernel
theorem dX10_row_0 : decode cX10_row 0 = .ok (.aload_n 0, 1) := by decide +kernel
theorem dX10_row_1 : decode cX10_row 1 = .ok (.getfield 55, 3) := by decide +kernel
theorem dX10_row_4 : decode cX10_row 4 = .ok (.iload_n 1, 1) := by decide +kernel
theorem dX10_row_5 : decode cX10_row 5 = .ok (.iload_n 2, 1) := by decide +kernel
theorem dX10_row_6 : decode cX10_row 6 = .ok (.invokevirtual 254, 3) := by decide +kernel
theorem dX10_row_9 : decode cX10_row 9 = .ok (.ifCond .eq 15, 3) := by decide +kernel
theorem dX10_row_12 : decode cX10_row 12 = .ok (.aload_n 0, 1) := by decide +kernel
theorem dX10_row_13 : decode cX10_row 13 = .ok (.getfield 55, 3) := by decide +kernel
theorem dX10_row_16 : decode cX10_row 16 = .ok (.iload_n 1, 1) := by decide +kernel
theorem dX10_row_17 : decode cX10_row 17 = .ok (.iload_n 2, 1) := by decide +kernel
theorem dX10_row_18 : decode cX10_row 18 = .ok (.invokevirtual 256, 3) := by decide +kernel
theorem dX10_row_21 : decode cX10_row 21 = .ok (.goto 5, 3) := by decide +kernel
theorem dX10_row_24 : decode cX10_row 24 = .ok (.bipush (-9), 2) := by decide +kernel
theorem dX10_row_26 : decode cX10_row 26 = .ok (.ireturn, 1) := by decide +kernel
theorem dX10_alterRow_0 : decode cX10_alterRow 0 = .ok (.aload_n 0, 1) := by decide +kernel
theorem dX10_alterRow_1 : decode cX10_alterRow 1 = .ok (.getfield 55, 3) := by decide +kernel
theorem dX10_alterRow_4 : decode cX10_alterRow 4 = .ok (.iload_n 1, 1) := by decide +kernel
theorem dX10_alterRow_5 : decode cX10_alterRow 5 = .ok (.iload_n 2, 1) := by decide +kernel
theorem dX10_alterRow_6 : decode cX10_alterRow 6 = .ok (.invokevirtual 254, 3) := by decide +kernel
theorem dX10_alterRow_9 : decode cX10_alterRow 9 = .ok (.ifCond .ne 6, 3) := by decide +kernel
theorem dX10_alterRow_12 : decode cX10_alterRow 12 = .ok (.bipush (-9), 2) := by decide +kernel
theorem dX10_alterRow_14 : decode cX10_alterRow 14 = .ok (.ireturn, 1) := by decide +kernel
theorem dX10_alterRow_15 : decode cX10_alterRow 15 = .ok (.aload_n 0, 1) := by decide +kernel
theorem dX10_alterRow_16 : decode cX10_alterRow 16 = .ok (.getfield 55, 3) := by decide +kernel
theorem dX10_alterRow_19 : decode cX10_alterRow 19 = .ok (.iload_n 1, 1) := by decide +kernel
theorem dX10_alterRow_20 : decode cX10_alterRow 20 = .ok (.iload_n 2, 1) := by decide +kernel
theorem dX10_alterRow_21 : decode cX10_alterRow 21 = .ok (.invokevirtual 256, 3) := by decide +kernel
theorem dX10_alterRow_24 : decode cX10_alterRow 24 = .ok (.istore 4, 2) := by decide +kernel
theorem dX10_alterRow_26 : decode cX10_alterRow 26 = .ok (.aload_n 0, 1) := by decide +kernel
theorem dX10_alterRow_27 : decode cX10_alterRow 27 = .ok (.getfield 55, 3) := by decide +kernel
theorem dX10_alterRow_30 : decode cX10_alterRow 30 = .ok (.iload_n 1, 1) := by decide +kernel
theorem dX10_alterRow_31 : decode cX10_alterRow 31 = .ok (.iload_n 2, 1) := by decide +kernel
theorem dX10_alterRow_32 : decode cX10_alterRow 32 = .ok (.iload_n 3, 1) := by decide +kernel
theorem dX10_alterRow_33 : decode cX10_alterRow 33 = .ok (.invokevirtual 258, 3) := by decide +kernel
theorem dX10_alterRow_36 : decode cX10_alterRow 36 = .ok (.iload 4, 2) := by decide +kernel
theorem dX10_alterRow_38 : decode cX10_alterRow 38 = .ok (.ireturn, 1) := by decide +kernel
theorem dX10_judge_0 : decode cX10_judge 0 = .ok (.iconst 0, 1) := by decide +kernel
theorem dX10_judge_1 : decode cX10_judge 1 = .ok (.istore_n 1, 1) := by decide +kernel
theorem dX10_judge_2 : decode cX10_judge 2 = .ok (.aload_n 0, 1) := by decide +kernel
theorem dX10_judge_3 : decode cX10_judge 3 = .ok (.getfield 39, 3) := by decide +kernel
theorem dX10_judge_6 : decode cX10_judge 6 = .ok (.aload_n 0, 1) := by decide +kernel
theorem dX10_judge_7 : decode cX10_judge 7 = .ok (.getfield 10, 3) := by decide +kernel
theorem dX10_judge_10 : decode cX10_judge 10 = .ok (.invokevirtual 225, 3) := by decide +kernel
theorem dX10_judge_13 : decode cX10_judge 13 = .ok (.iconst 0, 1) := by decide +kernel
theorem dX10_judge_14 : decode cX10_judge 14 = .ok (.istore_n 2, 1) := by decide +kernel
theorem dX10_judge_15 : decode cX10_judge 15 = .ok (.iload_n 2, 1) := by decide +kernel
theorem dX10_judge_16 : decode cX10_judge 16 = .ok (.sipush 400, 3) := by decide +kernel
theorem dX10_judge_19 : decode cX10_judge 19 = .ok (.if_icmp .ge 66, 3) := by decide +kernel
theorem dX10_judge_22 : decode cX10_judge 22 = .ok (.iload_n 1, 1) := by decide +kernel
theorem dX10_judge_23 : decode cX10_judge 23 = .ok (.aload_n 0, 1) := by decide +kernel
theorem dX10_judge_24 : decode cX10_judge 24 = .ok (.getfield 55, 3) := by decide +kernel
theorem dX10_judge_27 : decode cX10_judge 27 = .ok (.invokevirtual 244, 3) := by decide +kernel
theorem dX10_judge_30 : decode cX10_judge 30 = .ok (.if_icmp .ge 55, 3) := by decide +kernel
theorem dX10_judge_33 : decode cX10_judge 33 = .ok (.aload_n 0, 1) := by decide +kernel
theorem dX10_judge_34 : decode cX10_judge 34 = .ok (.getfield 39, 3) := by decide +kernel
theorem dX10_judge_37 : decode cX10_judge 37 = .ok (.aload_n 0, 1) := by decide +kernel
theorem dX10_judge_38 : decode cX10_judge 38 = .ok (.getfield 19, 3) := by decide +kernel
theorem dX10_judge_41 : decode cX10_judge 41 = .ok (.invokevirtual 101, 3) := by decide +kernel
theorem dX10_judge_44 : decode cX10_judge 44 = .ok (.ifCond .eq 35, 3) := by decide +kernel
theorem dX10_judge_47 : decode cX10_judge 47 = .ok (.aload_n 0, 1) := by decide +kernel
theorem dX10_judge_48 : decode cX10_judge 48 = .ok (.getfield 55, 3) := by decide +kernel
theorem dX10_judge_51 : decode cX10_judge 51 = .ok (.iload_n 1, 1) := by decide +kernel
theorem dX10_judge_52 : decode cX10_judge 52 = .ok (.aload_n 0, 1) := by decide +kernel
theorem dX10_judge_53 : decode cX10_judge 53 = .ok (.getfield 39, 3) := by decide +kernel
theorem dX10_judge_56 : decode cX10_judge 56 = .ok (.getfield 245, 3) := by decide +kernel
theorem dX10_judge_59 : decode cX10_judge 59 = .ok (.aload_n 0, 1) := by decide +kernel
theorem dX10_judge_60 : decode cX10_judge 60 = .ok (.getfield 39, 3) := by decide +kernel
theorem dX10_judge_63 : decode cX10_judge 63 = .ok (.getfield 248, 3) := by decide +kernel
theorem dX10_judge_66 : decode cX10_judge 66 = .ok (.invokevirtual 261, 3) := by decide +kernel
theorem dX10_judge_69 : decode cX10_judge 69 = .ok (.ifCond .ne 7, 3) := by decide +kernel
theorem dX10_judge_72 : decode cX10_judge 72 = .ok (.iload_n 1, 1) := by decide +kernel
theorem dX10_judge_73 : decode cX10_judge 73 = .ok (.iconst 1, 1) := by decide +kernel
theorem dX10_judge_74 : decode cX10_judge 74 = .ok (.iadd, 1) := by decide +kernel
theorem dX10_judge_75 : decode cX10_judge 75 = .ok (.ireturn, 1) := by decide +kernel
theorem dX10_judge_76 : decode cX10_judge 76 = .ok (.iinc 1 1, 3) := by decide +kernel
theorem dX10_judge_79 : decode cX10_judge 79 = .ok (.iinc 2 1, 3) := by decide +kernel
theorem dX10_judge_82 : decode cX10_judge 82 = .ok (.goto (-67), 3) := by decide +kernel
theorem dX10_judge_85 : decode cX10_judge 85 = .ok (.iload_n 1, 1) := by decide +kernel
theorem dX10_judge_86 : decode cX10_judge 86 = .ok (.aload_n 0, 1) := by decide +kernel
theorem dX10_judge_87 : decode cX10_judge 87 = .ok (.getfield 55, 3) := by decide +kernel
theorem dX10_judge_90 : decode cX10_judge 90 = .ok (.invokevirtual 244, 3) := by decide +kernel
theorem dX10_judge_93 : decode cX10_judge 93 = .ok (.if_icmp .ge 9, 3) := by decide +kernel
theorem dX10_judge_96 : decode cX10_judge 96 = .ok (.iload_n 1, 1) := by decide +kernel
theorem dX10_judge_97 : decode cX10_judge 97 = .ok (.iconst 1, 1) := by decide +kernel
theorem dX10_judge_98 : decode cX10_judge 98 = .ok (.iadd, 1) := by decide +kernel
theorem dX10_judge_99 : decode cX10_judge 99 = .ok (.goto 4, 3) := by decide +kernel
theorem dX10_judge_102 : decode cX10_judge 102 = .ok (.iconst 0, 1) := by decide +kernel
theorem dX10_judge_103 : decode cX10_judge 103 = .ok (.ireturn, 1) := by decide +kernel
theorem dX10_record_0 : decode cX10_record 0 = .ok (.aload_n 0, 1) := by decide +kernel
theorem dX10_record_1 : decode cX10_record 1 = .ok (.getfield 26, 3) := by decide +kernel
theorem dX10_record_4 : decode cX10_record 4 = .ok (.aload_n 0, 1) := by decide +kernel
theorem dX10_record_5 : decode cX10_record 5 = .ok (.getfield 10, 3) := by decide +kernel
theorem dX10_record_8 : decode cX10_record 8 = .ok (.getfield 162, 3) := by decide +kernel
theorem dX10_record_11 : decode cX10_record 11 = .ok (.invokevirtual 264, 3) := by decide +kernel
theorem dX10_record_14 : decode cX10_record 14 = .ok (.ifCond .eq 15, 3) := by decide +kernel
theorem dX10_record_17 : decode cX10_record 17 = .ok (.aload_n 0, 1) := by decide +kernel
theorem dX10_record_18 : decode cX10_record 18 = .ok (.getfield 26, 3) := by decide +kernel
theorem dX10_record_21 : decode cX10_record 21 = .ok (.invokevirtual 267, 3) := by decide +kernel
theorem dX10_record_24 : decode cX10_record 24 = .ok (.iconst 1, 1) := by decide +kernel
theorem dX10_record_25 : decode cX10_record 25 = .ok (.isub, 1) := by decide +kernel
theorem dX10_record_26 : decode cX10_record 26 = .ok (.goto 5, 3) := by decide +kernel
theorem dX10_record_29 : decode cX10_record 29 = .ok (.bipush (-2), 2) := by decide +kernel
theorem dX10_record_31 : decode cX10_record 31 = .ok (.ireturn, 1) := by decide +kernel
theorem dX10_recorded_0 : decode cX10_recorded 0 = .ok (.aload_n 0, 1) := by decide +kernel
theorem dX10_recorded_1 : decode cX10_recorded 1 = .ok (.getfield 26, 3) := by decide +kernel
theorem dX10_recorded_4 : decode cX10_recorded 4 = .ok (.iload_n 1, 1) := by decide +kernel
theorem dX10_recorded_5 : decode cX10_recorded 5 = .ok (.invokevirtual 268, 3) := by decide +kernel
theorem dX10_recorded_8 : decode cX10_recorded 8 = .ok (.astore_n 3, 1) := by decide +kernel
theorem dX10_recorded_9 : decode cX10_recorded 9 = .ok (.aload_n 3, 1) := by decide +kernel
theorem dX10_recorded_10 : decode cX10_recorded 10 = .ok (.ifnonnull 5, 3) := by decide +kernel
theorem dX10_recorded_13 : decode cX10_recorded 13 = .ok (.iconst (-1), 1) := by decide +kernel
theorem dX10_recorded_14 : decode cX10_recorded 14 = .ok (.ireturn, 1) := by decide +kernel
theorem dX10_recorded_15 : decode cX10_recorded 15 = .ok (.iload_n 2, 1) := by decide +kernel
theorem dX10_recorded_16 : decode cX10_recorded 16 = .ok (.tableswitch 43 0 2 #[28, 33, 38], 28) := by decide +kernel
theorem dX10_recorded_44 : decode cX10_recorded 44 = .ok (.aload_n 3, 1) := by decide +kernel
theorem dX10_recorded_45 : decode cX10_recorded 45 = .ok (.invokevirtual 186, 3) := by decide +kernel
theorem dX10_recorded_48 : decode cX10_recorded 48 = .ok (.ireturn, 1) := by decide +kernel
theorem dX10_recorded_49 : decode cX10_recorded 49 = .ok (.aload_n 3, 1) := by decide +kernel
theorem dX10_recorded_50 : decode cX10_recorded 50 = .ok (.invokevirtual 172, 3) := by decide +kernel
theorem dX10_recorded_53 : decode cX10_recorded 53 = .ok (.ireturn, 1) := by decide +kernel
theorem dX10_recorded_54 : decode cX10_recorded 54 = .ok (.aload_n 3, 1) := by decide +kernel
theorem dX10_recorded_55 : decode cX10_recorded 55 = .ok (.invokevirtual 183, 3) := by decide +kernel
theorem dX10_recorded_58 : decode cX10_recorded 58 = .ok (.ireturn, 1) := by decide +kernel
theorem dX10_recorded_59 : decode cX10_recorded 59 = .ok (.iload_n 2, 1) := by decide +kernel
theorem dX10_recorded_60 : decode cX10_recorded 60 = .ok (.iconst 3, 1) := by decide +kernel
theorem dX10_recorded_61 : decode cX10_recorded 61 = .ok (.if_icmp .lt 23, 3) := by decide +kernel
theorem dX10_recorded_64 : decode cX10_recorded 64 = .ok (.aload_n 3, 1) := by decide +kernel
theorem dX10_recorded_65 : decode cX10_recorded 65 = .ok (.iload_n 2, 1) := by decide +kernel
theorem dX10_recorded_66 : decode cX10_recorded 66 = .ok (.iconst 3, 1) := by decide +kernel
theorem dX10_recorded_67 : decode cX10_recorded 67 = .ok (.isub, 1) := by decide +kernel
theorem dX10_recorded_68 : decode cX10_recorded 68 = .ok (.invokevirtual 176, 3) := by decide +kernel
theorem dX10_recorded_71 : decode cX10_recorded 71 = .ok (.ifCond .eq 13, 3) := by decide +kernel
theorem dX10_recorded_74 : decode cX10_recorded 74 = .ok (.aload_n 3, 1) := by decide +kernel
theorem dX10_recorded_75 : decode cX10_recorded 75 = .ok (.iload_n 2, 1) := by decide +kernel
theorem dX10_recorded_76 : decode cX10_recorded 76 = .ok (.iconst 3, 1) := by decide +kernel
theorem dX10_recorded_77 : decode cX10_recorded 77 = .ok (.isub, 1) := by decide +kernel
theorem dX10_recorded_78 : decode cX10_recorded 78 = .ok (.invokevirtual 179, 3) := by decide +kernel
theorem dX10_recorded_81 : decode cX10_recorded 81 = .ok (.goto 4, 3) := by decide +kernel
theorem dX10_recorded_84 : decode cX10_recorded 84 = .ok (.iconst (-1), 1) := by decide +kernel
theorem dX10_recorded_85 : decode cX10_recorded 85 = .ok (.ireturn, 1) := by decide +kernel
theorem dX10_alike_0 : decode cX10_alike 0 = .ok (.aload_n 0, 1) := by decide +kernel
theorem dX10_alike_1 : decode cX10_alike 1 = .ok (.getfield 26, 3) := by decide +kernel
theorem dX10_alike_4 : decode cX10_alike 4 = .ok (.iload_n 1, 1) := by decide +kernel
theorem dX10_alike_5 : decode cX10_alike 5 = .ok (.invokevirtual 268, 3) := by decide +kernel
theorem dX10_alike_8 : decode cX10_alike 8 = .ok (.astore_n 3, 1) := by decide +kernel
theorem dX10_alike_9 : decode cX10_alike 9 = .ok (.aload_n 0, 1) := by decide +kernel
theorem dX10_alike_10 : decode cX10_alike 10 = .ok (.getfield 26, 3) := by decide +kernel
theorem dX10_alike_13 : decode cX10_alike 13 = .ok (.iload_n 2, 1) := by decide +kernel
theorem dX10_alike_14 : decode cX10_alike 14 = .ok (.invokevirtual 268, 3) := by decide +kernel
theorem dX10_alike_17 : decode cX10_alike 17 = .ok (.astore 4, 2) := by decide +kernel
theorem dX10_alike_19 : decode cX10_alike 19 = .ok (.aload_n 3, 1) := by decide +kernel
theorem dX10_alike_20 : decode cX10_alike 20 = .ok (.ifnull 8, 3) := by decide +kernel
theorem dX10_alike_23 : decode cX10_alike 23 = .ok (.aload 4, 2) := by decide +kernel
theorem dX10_alike_25 : decode cX10_alike 25 = .ok (.ifnonnull 7, 3) := by decide +kernel
theorem dX10_alike_28 : decode cX10_alike 28 = .ok (.iconst (-1), 1) := by decide +kernel
theorem dX10_alike_29 : decode cX10_alike 29 = .ok (.goto 9, 3) := by decide +kernel
theorem dX10_alike_32 : decode cX10_alike 32 = .ok (.aload_n 3, 1) := by decide +kernel
theorem dX10_alike_33 : decode cX10_alike 33 = .ok (.aload 4, 2) := by decide +kernel
theorem dX10_alike_35 : decode cX10_alike 35 = .ok (.invokevirtual 271, 3) := by decide +kernel
theorem dX10_alike_38 : decode cX10_alike 38 = .ok (.ireturn, 1) := by decide +kernel
theorem dX10_sheet_0 : decode cX10_sheet 0 = .ok (.aload_n 0, 1) := by decide +kernel
theorem dX10_sheet_1 : decode cX10_sheet 1 = .ok (.getfield 62, 3) := by decide +kernel
theorem dX10_sheet_4 : decode cX10_sheet 4 = .ok (.iload_n 1, 1) := by decide +kernel
theorem dX10_sheet_5 : decode cX10_sheet 5 = .ok (.invokevirtual 274, 3) := by decide +kernel
theorem dX10_sheet_8 : decode cX10_sheet 8 = .ok (.ifCond .eq 12, 3) := by decide +kernel
theorem dX10_sheet_11 : decode cX10_sheet 11 = .ok (.iload_n 2, 1) := by decide +kernel
theorem dX10_sheet_12 : decode cX10_sheet 12 = .ok (.iconst (-1), 1) := by decide +kernel
theorem dX10_sheet_13 : decode cX10_sheet 13 = .ok (.iconst 4, 1) := by decide +kernel
theorem dX10_sheet_14 : decode cX10_sheet 14 = .ok (.invokestatic 80, 3) := by decide +kernel
theorem dX10_sheet_17 : decode cX10_sheet 17 = .ok (.ifCond .ne 5, 3) := by decide +kernel
theorem dX10_sheet_20 : decode cX10_sheet 20 = .ok (.iconst (-1), 1) := by decide +kernel
theorem dX10_sheet_21 : decode cX10_sheet 21 = .ok (.ireturn, 1) := by decide +kernel
theorem dX10_sheet_22 : decode cX10_sheet 22 = .ok (.iload_n 2, 1) := by decide +kernel
theorem dX10_sheet_23 : decode cX10_sheet 23 = .ok (.iconst (-1), 1) := by decide +kernel
theorem dX10_sheet_24 : decode cX10_sheet 24 = .ok (.if_icmp .ne 13, 3) := by decide +kernel
theorem dX10_sheet_27 : decode cX10_sheet 27 = .ok (.aload_n 0, 1) := by decide +kernel
theorem dX10_sheet_28 : decode cX10_sheet 28 = .ok (.getfield 62, 3) := by decide +kernel
theorem dX10_sheet_31 : decode cX10_sheet 31 = .ok (.iload_n 1, 1) := by decide +kernel
theorem dX10_sheet_32 : decode cX10_sheet 32 = .ok (.invokevirtual 277, 3) := by decide +kernel
theorem dX10_sheet_35 : decode cX10_sheet 35 = .ok (.iconst 1, 1) := by decide +kernel
theorem dX10_sheet_36 : decode cX10_sheet 36 = .ok (.ireturn, 1) := by decide +kernel
theorem dX10_sheet_37 : decode cX10_sheet 37 = .ok (.iload_n 3, 1) := by decide +kernel
theorem dX10_sheet_38 : decode cX10_sheet 38 = .ok (.bipush 40, 2) := by decide +kernel
theorem dX10_sheet_40 : decode cX10_sheet 40 = .ok (.if_icmp .le 5, 3) := by decide +kernel
theorem dX10_sheet_43 : decode cX10_sheet 43 = .ok (.iconst (-1), 1) := by decide +kernel
theorem dX10_sheet_44 : decode cX10_sheet 44 = .ok (.ireturn, 1) := by decide +kernel
theorem dX10_sheet_45 : decode cX10_sheet 45 = .ok (.iload_n 3, 1) := by decide +kernel
theorem dX10_sheet_46 : decode cX10_sheet 46 = .ok (.ifCond .ge 6, 3) := by decide +kernel
theorem dX10_sheet_49 : decode cX10_sheet 49 = .ok (.bipush (-14), 2) := by decide +kernel
theorem dX10_sheet_51 : decode cX10_sheet 51 = .ok (.ireturn, 1) := by decide +kernel
theorem dX10_sheet_52 : decode cX10_sheet 52 = .ok (.aload_n 0, 1) := by decide +kernel
theorem dX10_sheet_53 : decode cX10_sheet 53 = .ok (.getfield 62, 3) := by decide +kernel
theorem dX10_sheet_56 : decode cX10_sheet 56 = .ok (.iload_n 1, 1) := by decide +kernel
theorem dX10_sheet_57 : decode cX10_sheet 57 = .ok (.iload_n 2, 1) := by decide +kernel
theorem dX10_sheet_58 : decode cX10_sheet 58 = .ok (.iload_n 3, 1) := by decide +kernel
theorem dX10_sheet_59 : decode cX10_sheet 59 = .ok (.invokevirtual 280, 3) := by decide +kernel
theorem dX10_sheet_62 : decode cX10_sheet 62 = .ok (.iconst 1, 1) := by decide +kernel
theorem dX10_sheet_63 : decode cX10_sheet 63 = .ok (.ireturn, 1) := by decide +kernel
theorem dX10_put_0 : decode cX10_put 0 = .ok (.aload_n 0, 1) := by decide +kernel
theorem dX10_put_1 : decode cX10_put 1 = .ok (.getfield 62, 3) := by decide +kernel
theorem dX10_put_4 : decode cX10_put 4 = .ok (.iload_n 1, 1) := by decide +kernel
theorem dX10_put_5 : decode cX10_put 5 = .ok (.invokevirtual 274, 3) := by decide +kernel
theorem dX10_put_8 : decode cX10_put 8 = .ok (.ifCond .ne 5, 3) := by decide +kernel
theorem dX10_put_11 : decode cX10_put 11 = .ok (.iconst (-1), 1) := by decide +kernel
theorem dX10_put_12 : decode cX10_put 12 = .ok (.ireturn, 1) := by decide +kernel
theorem dX10_put_13 : decode cX10_put 13 = .ok (.aload_n 0, 1) := by decide +kernel
theorem dX10_put_14 : decode cX10_put 14 = .ok (.getfield 62, 3) := by decide +kernel
theorem dX10_put_17 : decode cX10_put 17 = .ok (.iload_n 1, 1) := by decide +kernel
theorem dX10_put_18 : decode cX10_put 18 = .ok (.invokevirtual 283, 3) := by decide +kernel
theorem dX10_put_21 : decode cX10_put 21 = .ok (.iconst (-1), 1) := by decide +kernel
theorem dX10_put_22 : decode cX10_put 22 = .ok (.if_icmp .ne 6, 3) := by decide +kernel
theorem dX10_put_25 : decode cX10_put 25 = .ok (.bipush (-11), 2) := by decide +kernel
theorem dX10_put_27 : decode cX10_put 27 = .ok (.ireturn, 1) := by decide +kernel
theorem dX10_put_28 : decode cX10_put 28 = .ok (.aload_n 0, 1) := by decide +kernel
theorem dX10_put_29 : decode cX10_put 29 = .ok (.getfield 62, 3) := by decide +kernel
theorem dX10_put_32 : decode cX10_put 32 = .ok (.iload_n 1, 1) := by decide +kernel
theorem dX10_put_33 : decode cX10_put 33 = .ok (.iload_n 2, 1) := by decide +kernel
theorem dX10_put_34 : decode cX10_put 34 = .ok (.invokevirtual 286, 3) := by decide +kernel
theorem dX10_put_37 : decode cX10_put 37 = .ok (.ifCond .ne 6, 3) := by decide +kernel
theorem dX10_put_40 : decode cX10_put 40 = .ok (.bipush (-12), 2) := by decide +kernel
theorem dX10_put_42 : decode cX10_put 42 = .ok (.ireturn, 1) := by decide +kernel
theorem dX10_put_43 : decode cX10_put 43 = .ok (.aload_n 0, 1) := by decide +kernel
theorem dX10_put_44 : decode cX10_put 44 = .ok (.getfield 62, 3) := by decide +kernel
theorem dX10_put_47 : decode cX10_put 47 = .ok (.iload_n 1, 1) := by decide +kernel
theorem dX10_put_48 : decode cX10_put 48 = .ok (.iload_n 2, 1) := by decide +kernel
theorem dX10_put_49 : decode cX10_put 49 = .ok (.iload_n 3, 1) := by decide +kernel
theorem dX10_put_50 : decode cX10_put 50 = .ok (.invokevirtual 287, 3) := by decide +kernel
theorem dX10_put_53 : decode cX10_put 53 = .ok (.iconst 1, 1) := by decide +kernel
theorem dX10_put_54 : decode cX10_put 54 = .ok (.ireturn, 1) := by decide +kernel
theorem dX10_item_0 : decode cX10_item 0 = .ok (.aload_n 0, 1) := by decide +kernel
theorem dX10_item_1 : decode cX10_item 1 = .ok (.getfield 62, 3) := by decide +kernel
theorem dX10_item_4 : decode cX10_item 4 = .ok (.iload_n 1, 1) := by decide +kernel
theorem dX10_item_5 : decode cX10_item 5 = .ok (.invokevirtual 274, 3) := by decide +kernel
theorem dX10_item_8 : decode cX10_item 8 = .ok (.ifCond .eq 12, 3) := by decide +kernel
theorem dX10_item_11 : decode cX10_item 11 = .ok (.iload_n 2, 1) := by decide +kernel
theorem dX10_item_12 : decode cX10_item 12 = .ok (.iconst 0, 1) := by decide +kernel
theorem dX10_item_13 : decode cX10_item 13 = .ok (.iconst 4, 1) := by decide +kernel
theorem dX10_item_14 : decode cX10_item 14 = .ok (.invokestatic 80, 3) := by decide +kernel
theorem dX10_item_17 : decode cX10_item 17 = .ok (.ifCond .ne 5, 3) := by decide +kernel
theorem dX10_item_20 : decode cX10_item 20 = .ok (.iconst (-1), 1) := by decide +kernel
theorem dX10_item_21 : decode cX10_item 21 = .ok (.ireturn, 1) := by decide +kernel
theorem dX10_item_22 : decode cX10_item 22 = .ok (.aload_n 0, 1) := by decide +kernel
theorem dX10_item_23 : decode cX10_item 23 = .ok (.iload_n 1, 1) := by decide +kernel
theorem dX10_item_24 : decode cX10_item 24 = .ok (.iload_n 2, 1) := by decide +kernel
theorem dX10_item_25 : decode cX10_item 25 = .ok (.invokevirtual 290, 3) := by decide +kernel
theorem dX10_item_28 : decode cX10_item 28 = .ok (.istore 4, 2) := by decide +kernel
theorem dX10_item_30 : decode cX10_item 30 = .ok (.iload 4, 2) := by decide +kernel
theorem dX10_item_32 : decode cX10_item 32 = .ok (.ifCond .eq 6, 3) := by decide +kernel
theorem dX10_item_35 : decode cX10_item 35 = .ok (.iload 4, 2) := by decide +kernel
theorem dX10_item_37 : decode cX10_item 37 = .ok (.ireturn, 1) := by decide +kernel
theorem dX10_item_38 : decode cX10_item 38 = .ok (.aload_n 0, 1) := by decide +kernel
theorem dX10_item_39 : decode cX10_item 39 = .ok (.getfield 62, 3) := by decide +kernel
theorem dX10_item_42 : decode cX10_item 42 = .ok (.iload_n 1, 1) := by decide +kernel
theorem dX10_item_43 : decode cX10_item 43 = .ok (.iload_n 3, 1) := by decide +kernel
theorem dX10_item_44 : decode cX10_item 44 = .ok (.invokevirtual 286, 3) := by decide +kernel
theorem dX10_item_47 : decode cX10_item 47 = .ok (.ifCond .eq 15, 3) := by decide +kernel
theorem dX10_item_50 : decode cX10_item 50 = .ok (.aload_n 0, 1) := by decide +kernel
theorem dX10_item_51 : decode cX10_item 51 = .ok (.getfield 62, 3) := by decide +kernel
theorem dX10_item_54 : decode cX10_item 54 = .ok (.iload_n 1, 1) := by decide +kernel
theorem dX10_item_55 : decode cX10_item 55 = .ok (.iload_n 3, 1) := by decide +kernel
theorem dX10_item_56 : decode cX10_item 56 = .ok (.invokevirtual 293, 3) := by decide +kernel
theorem dX10_item_59 : decode cX10_item 59 = .ok (.goto 5, 3) := by decide +kernel
theorem dX10_item_62 : decode cX10_item 62 = .ok (.bipush (-12), 2) := by decide +kernel
theorem dX10_item_64 : decode cX10_item 64 = .ok (.ireturn, 1) := by decide +kernel
theorem dX10_times_0 : decode cX10_times 0 = .ok (.aload_n 0, 1) := by decide +kernel
theorem dX10_times_1 : decode cX10_times 1 = .ok (.getfield 62, 3) := by decide +kernel
theorem dX10_times_4 : decode cX10_times 4 = .ok (.iload_n 1, 1) := by decide +kernel
theorem dX10_times_5 : decode cX10_times 5 = .ok (.invokevirtual 274, 3) := by decide +kernel
theorem dX10_times_8 : decode cX10_times 8 = .ok (.ifCond .eq 13, 3) := by decide +kernel
theorem dX10_times_11 : decode cX10_times 11 = .ok (.iload_n 3, 1) := by decide +kernel
theorem dX10_times_12 : decode cX10_times 12 = .ok (.iconst 0, 1) := by decide +kernel
theorem dX10_times_13 : decode cX10_times 13 = .ok (.bipush 40, 2) := by decide +kernel
theorem dX10_times_15 : decode cX10_times 15 = .ok (.invokestatic 80, 3) := by decide +kernel
theorem dX10_times_18 : decode cX10_times 18 = .ok (.ifCond .ne 5, 3) := by decide +kernel
theorem dX10_times_21 : decode cX10_times 21 = .ok (.iconst (-1), 1) := by decide +kernel
theorem dX10_times_22 : decode cX10_times 22 = .ok (.ireturn, 1) := by decide +kernel
theorem dX10_times_23 : decode cX10_times 23 = .ok (.aload_n 0, 1) := by decide +kernel
theorem dX10_times_24 : decode cX10_times 24 = .ok (.iload_n 1, 1) := by decide +kernel
theorem dX10_times_25 : decode cX10_times 25 = .ok (.iconst 1, 1) := by decide +kernel
theorem dX10_times_26 : decode cX10_times 26 = .ok (.invokevirtual 290, 3) := by decide +kernel
theorem dX10_times_29 : decode cX10_times 29 = .ok (.istore 4, 2) := by decide +kernel
theorem dX10_times_31 : decode cX10_times 31 = .ok (.iload 4, 2) := by decide +kernel
theorem dX10_times_33 : decode cX10_times 33 = .ok (.ifCond .eq 6, 3) := by decide +kernel
theorem dX10_times_36 : decode cX10_times 36 = .ok (.iload 4, 2) := by decide +kernel
theorem dX10_times_38 : decode cX10_times 38 = .ok (.ireturn, 1) := by decide +kernel
theorem dX10_times_39 : decode cX10_times 39 = .ok (.iconst 0, 1) := by decide +kernel
theorem dX10_times_40 : decode cX10_times 40 = .ok (.istore 5, 2) := by decide +kernel
theorem dX10_times_42 : decode cX10_times 42 = .ok (.iconst 0, 1) := by decide +kernel
theorem dX10_times_43 : decode cX10_times 43 = .ok (.istore 6, 2) := by decide +kernel
theorem dX10_times_45 : decode cX10_times 45 = .ok (.iload 6, 2) := by decide +kernel
theorem dX10_times_47 : decode cX10_times 47 = .ok (.iload_n 3, 1) := by decide +kernel
theorem dX10_times_48 : decode cX10_times 48 = .ok (.if_icmp .ge 49, 3) := by decide +kernel
theorem dX10_times_51 : decode cX10_times 51 = .ok (.aload_n 0, 1) := by decide +kernel
theorem dX10_times_52 : decode cX10_times 52 = .ok (.getfield 62, 3) := by decide +kernel
theorem dX10_times_55 : decode cX10_times 55 = .ok (.iload_n 1, 1) := by decide +kernel
theorem dX10_times_56 : decode cX10_times 56 = .ok (.iload_n 2, 1) := by decide +kernel
theorem dX10_times_57 : decode cX10_times 57 = .ok (.iload 6, 2) := by decide +kernel
theorem dX10_times_59 : decode cX10_times 59 = .ok (.iadd, 1) := by decide +kernel
theorem dX10_times_60 : decode cX10_times 60 = .ok (.invokevirtual 286, 3) := by decide +kernel
theorem dX10_times_63 : decode cX10_times 63 = .ok (.ifCond .ne 6, 3) := by decide +kernel
theorem dX10_times_66 : decode cX10_times 66 = .ok (.bipush (-12), 2) := by decide +kernel
theorem dX10_times_68 : decode cX10_times 68 = .ok (.ireturn, 1) := by decide +kernel
theorem dX10_times_69 : decode cX10_times 69 = .ok (.aload_n 0, 1) := by decide +kernel
theorem dX10_times_70 : decode cX10_times 70 = .ok (.aload_n 0, 1) := by decide +kernel
theorem dX10_times_71 : decode cX10_times 71 = .ok (.getfield 62, 3) := by decide +kernel
theorem dX10_times_74 : decode cX10_times 74 = .ok (.iload_n 1, 1) := by decide +kernel
theorem dX10_times_75 : decode cX10_times 75 = .ok (.iload_n 2, 1) := by decide +kernel
theorem dX10_times_76 : decode cX10_times 76 = .ok (.iload 6, 2) := by decide +kernel
theorem dX10_times_78 : decode cX10_times 78 = .ok (.iadd, 1) := by decide +kernel
theorem dX10_times_79 : decode cX10_times 79 = .ok (.invokevirtual 293, 3) := by decide +kernel
theorem dX10_times_82 : decode cX10_times 82 = .ok (.invokevirtual 294, 3) := by decide +kernel
theorem dX10_times_85 : decode cX10_times 85 = .ok (.ifCond .le 6, 3) := by decide +kernel
theorem dX10_times_88 : decode cX10_times 88 = .ok (.iinc 5 1, 3) := by decide +kernel
theorem dX10_times_91 : decode cX10_times 91 = .ok (.iinc 6 1, 3) := by decide +kernel
theorem dX10_times_94 : decode cX10_times 94 = .ok (.goto (-49), 3) := by decide +kernel
theorem dX10_times_97 : decode cX10_times 97 = .ok (.iload 5, 2) := by decide +kernel
theorem dX10_times_99 : decode cX10_times 99 = .ok (.ireturn, 1) := by decide +kernel
theorem dX10_refusalOfSort_0 : decode cX10_refusalOfSort 0 = .ok (.aload_n 0, 1) := by decide +kernel
theorem dX10_refusalOfSort_1 : decode cX10_refusalOfSort 1 = .ok (.getfield 62, 3) := by decide +kernel
theorem dX10_refusalOfSort_4 : decode cX10_refusalOfSort 4 = .ok (.iload_n 1, 1) := by decide +kernel
theorem dX10_refusalOfSort_5 : decode cX10_refusalOfSort 5 = .ok (.invokevirtual 283, 3) := by decide +kernel
theorem dX10_refusalOfSort_8 : decode cX10_refusalOfSort 8 = .ok (.istore_n 3, 1) := by decide +kernel
theorem dX10_refusalOfSort_9 : decode cX10_refusalOfSort 9 = .ok (.iload_n 3, 1) := by decide +kernel
theorem dX10_refusalOfSort_10 : decode cX10_refusalOfSort 10 = .ok (.iconst (-1), 1) := by decide +kernel
theorem dX10_refusalOfSort_11 : decode cX10_refusalOfSort 11 = .ok (.if_icmp .ne 6, 3) := by decide +kernel
theorem dX10_refusalOfSort_14 : decode cX10_refusalOfSort 14 = .ok (.bipush (-11), 2) := by decide +kernel
theorem dX10_refusalOfSort_16 : decode cX10_refusalOfSort 16 = .ok (.ireturn, 1) := by decide +kernel
theorem dX10_refusalOfSort_17 : decode cX10_refusalOfSort 17 = .ok (.iload_n 3, 1) := by decide +kernel
theorem dX10_refusalOfSort_18 : decode cX10_refusalOfSort 18 = .ok (.iload_n 2, 1) := by decide +kernel
theorem dX10_refusalOfSort_19 : decode cX10_refusalOfSort 19 = .ok (.if_icmp .ne 7, 3) := by decide +kernel
theorem dX10_refusalOfSort_22 : decode cX10_refusalOfSort 22 = .ok (.iconst 0, 1) := by decide +kernel
theorem dX10_refusalOfSort_23 : decode cX10_refusalOfSort 23 = .ok (.goto 5, 3) := by decide +kernel
theorem dX10_refusalOfSort_26 : decode cX10_refusalOfSort 26 = .ok (.bipush (-13), 2) := by decide +kernel
theorem dX10_refusalOfSort_28 : decode cX10_refusalOfSort 28 = .ok (.ireturn, 1) := by decide +kernel
theorem dX10_shelf_0 : decode cX10_shelf 0 = .ok (.aload_n 0, 1) := by decide +kernel
theorem dX10_shelf_1 : decode cX10_shelf 1 = .ok (.getfield 69, 3) := by decide +kernel
theorem dX10_shelf_4 : decode cX10_shelf 4 = .ok (.iload_n 1, 1) := by decide +kernel
theorem dX10_shelf_5 : decode cX10_shelf 5 = .ok (.invokevirtual 297, 3) := by decide +kernel
theorem dX10_shelf_8 : decode cX10_shelf 8 = .ok (.ifCond .ne 5, 3) := by decide +kernel
theorem dX10_shelf_11 : decode cX10_shelf 11 = .ok (.iconst (-1), 1) := by decide +kernel
theorem dX10_shelf_12 : decode cX10_shelf 12 = .ok (.ireturn, 1) := by decide +kernel
theorem dX10_shelf_13 : decode cX10_shelf 13 = .ok (.iload_n 2, 1) := by decide +kernel
theorem dX10_shelf_14 : decode cX10_shelf 14 = .ok (.tableswitch 118 0 3 #[30, 57, 84, 106], 30) := by decide +kernel
theorem dX10_shelf_44 : decode cX10_shelf 44 = .ok (.aload_n 0, 1) := by decide +kernel
theorem dX10_shelf_45 : decode cX10_shelf 45 = .ok (.getfield 26, 3) := by decide +kernel
theorem dX10_shelf_48 : decode cX10_shelf 48 = .ok (.iload_n 3, 1) := by decide +kernel
theorem dX10_shelf_49 : decode cX10_shelf 49 = .ok (.invokevirtual 268, 3) := by decide +kernel
theorem dX10_shelf_52 : decode cX10_shelf 52 = .ok (.ifnonnull 7, 3) := by decide +kernel
theorem dX10_shelf_55 : decode cX10_shelf 55 = .ok (.iconst (-1), 1) := by decide +kernel
theorem dX10_shelf_56 : decode cX10_shelf 56 = .ok (.goto 14, 3) := by decide +kernel
theorem dX10_shelf_59 : decode cX10_shelf 59 = .ok (.aload_n 0, 1) := by decide +kernel
theorem dX10_shelf_60 : decode cX10_shelf 60 = .ok (.getfield 69, 3) := by decide +kernel
theorem dX10_shelf_63 : decode cX10_shelf 63 = .ok (.iload_n 1, 1) := by decide +kernel
theorem dX10_shelf_64 : decode cX10_shelf 64 = .ok (.iload_n 2, 1) := by decide +kernel
theorem dX10_shelf_65 : decode cX10_shelf 65 = .ok (.iload_n 3, 1) := by decide +kernel
theorem dX10_shelf_66 : decode cX10_shelf 66 = .ok (.iconst 0, 1) := by decide +kernel
theorem dX10_shelf_67 : decode cX10_shelf 67 = .ok (.invokevirtual 300, 3) := by decide +kernel
theorem dX10_shelf_70 : decode cX10_shelf 70 = .ok (.ireturn, 1) := by decide +kernel
theorem dX10_shelf_71 : decode cX10_shelf 71 = .ok (.aload_n 0, 1) := by decide +kernel
theorem dX10_shelf_72 : decode cX10_shelf 72 = .ok (.getfield 19, 3) := by decide +kernel
theorem dX10_shelf_75 : decode cX10_shelf 75 = .ok (.iload_n 3, 1) := by decide +kernel
theorem dX10_shelf_76 : decode cX10_shelf 76 = .ok (.invokevirtual 304, 3) := by decide +kernel
theorem dX10_shelf_79 : decode cX10_shelf 79 = .ok (.ifCond .eq 17, 3) := by decide +kernel
theorem dX10_shelf_82 : decode cX10_shelf 82 = .ok (.aload_n 0, 1) := by decide +kernel
theorem dX10_shelf_83 : decode cX10_shelf 83 = .ok (.getfield 69, 3) := by decide +kernel
theorem dX10_shelf_86 : decode cX10_shelf 86 = .ok (.iload_n 1, 1) := by decide +kernel
theorem dX10_shelf_87 : decode cX10_shelf 87 = .ok (.iload_n 2, 1) := by decide +kernel
theorem dX10_shelf_88 : decode cX10_shelf 88 = .ok (.iload_n 3, 1) := by decide +kernel
theorem dX10_shelf_89 : decode cX10_shelf 89 = .ok (.iconst 0, 1) := by decide +kernel
theorem dX10_shelf_90 : decode cX10_shelf 90 = .ok (.invokevirtual 300, 3) := by decide +kernel
theorem dX10_shelf_93 : decode cX10_shelf 93 = .ok (.goto 4, 3) := by decide +kernel
theorem dX10_shelf_96 : decode cX10_shelf 96 = .ok (.iconst (-1), 1) := by decide +kernel
theorem dX10_shelf_97 : decode cX10_shelf 97 = .ok (.ireturn, 1) := by decide +kernel
theorem dX10_shelf_98 : decode cX10_shelf 98 = .ok (.aload_n 0, 1) := by decide +kernel
theorem dX10_shelf_99 : decode cX10_shelf 99 = .ok (.getfield 62, 3) := by decide +kernel
theorem dX10_shelf_102 : decode cX10_shelf 102 = .ok (.iload_n 3, 1) := by decide +kernel
theorem dX10_shelf_103 : decode cX10_shelf 103 = .ok (.invokevirtual 274, 3) := by decide +kernel
theorem dX10_shelf_106 : decode cX10_shelf 106 = .ok (.ifCond .eq 12, 3) := by decide +kernel
theorem dX10_shelf_109 : decode cX10_shelf 109 = .ok (.aload_n 0, 1) := by decide +kernel
theorem dX10_shelf_110 : decode cX10_shelf 110 = .ok (.iload_n 1, 1) := by decide +kernel
theorem dX10_shelf_111 : decode cX10_shelf 111 = .ok (.iload_n 3, 1) := by decide +kernel
theorem dX10_shelf_112 : decode cX10_shelf 112 = .ok (.invokevirtual 307, 3) := by decide +kernel
theorem dX10_shelf_115 : decode cX10_shelf 115 = .ok (.goto 4, 3) := by decide +kernel
theorem dX10_shelf_118 : decode cX10_shelf 118 = .ok (.iconst (-1), 1) := by decide +kernel
theorem dX10_shelf_119 : decode cX10_shelf 119 = .ok (.ireturn, 1) := by decide +kernel
theorem dX10_shelf_120 : decode cX10_shelf 120 = .ok (.aload_n 0, 1) := by decide +kernel
theorem dX10_shelf_121 : decode cX10_shelf 121 = .ok (.getfield 69, 3) := by decide +kernel
theorem dX10_shelf_124 : decode cX10_shelf 124 = .ok (.iload_n 1, 1) := by decide +kernel
theorem dX10_shelf_125 : decode cX10_shelf 125 = .ok (.iload_n 2, 1) := by decide +kernel
theorem dX10_shelf_126 : decode cX10_shelf 126 = .ok (.iconst 0, 1) := by decide +kernel
theorem dX10_shelf_127 : decode cX10_shelf 127 = .ok (.iconst 0, 1) := by decide +kernel
theorem dX10_shelf_128 : decode cX10_shelf 128 = .ok (.invokevirtual 300, 3) := by decide +kernel
theorem dX10_shelf_131 : decode cX10_shelf 131 = .ok (.ireturn, 1) := by decide +kernel
theorem dX10_shelf_132 : decode cX10_shelf 132 = .ok (.iconst (-1), 1) := by decide +kernel
theorem dX10_shelf_133 : decode cX10_shelf 133 = .ok (.ireturn, 1) := by decide +kernel
theorem dX10_shelveRow_0 : decode cX10_shelveRow 0 = .ok (.aload_n 0, 1) := by decide +kernel
theorem dX10_shelveRow_1 : decode cX10_shelveRow 1 = .ok (.getfield 62, 3) := by decide +kernel
theorem dX10_shelveRow_4 : decode cX10_shelveRow 4 = .ok (.iload_n 2, 1) := by decide +kernel
theorem dX10_shelveRow_5 : decode cX10_shelveRow 5 = .ok (.invokevirtual 283, 3) := by decide +kernel
theorem dX10_shelveRow_8 : decode cX10_shelveRow 8 = .ok (.istore_n 3, 1) := by decide +kernel
theorem dX10_shelveRow_9 : decode cX10_shelveRow 9 = .ok (.iload_n 3, 1) := by decide +kernel
theorem dX10_shelveRow_10 : decode cX10_shelveRow 10 = .ok (.iconst (-1), 1) := by decide +kernel
theorem dX10_shelveRow_11 : decode cX10_shelveRow 11 = .ok (.if_icmp .ne 15, 3) := by decide +kernel
theorem dX10_shelveRow_14 : decode cX10_shelveRow 14 = .ok (.aload_n 0, 1) := by decide +kernel
theorem dX10_shelveRow_15 : decode cX10_shelveRow 15 = .ok (.getfield 69, 3) := by decide +kernel
theorem dX10_shelveRow_18 : decode cX10_shelveRow 18 = .ok (.iload_n 1, 1) := by decide +kernel
theorem dX10_shelveRow_19 : decode cX10_shelveRow 19 = .ok (.iconst 3, 1) := by decide +kernel
theorem dX10_shelveRow_20 : decode cX10_shelveRow 20 = .ok (.iconst 0, 1) := by decide +kernel
theorem dX10_shelveRow_21 : decode cX10_shelveRow 21 = .ok (.iconst 0, 1) := by decide +kernel
theorem dX10_shelveRow_22 : decode cX10_shelveRow 22 = .ok (.invokevirtual 300, 3) := by decide +kernel
theorem dX10_shelveRow_25 : decode cX10_shelveRow 25 = .ok (.ireturn, 1) := by decide +kernel
theorem dX10_shelveRow_26 : decode cX10_shelveRow 26 = .ok (.aload_n 0, 1) := by decide +kernel
theorem dX10_shelveRow_27 : decode cX10_shelveRow 27 = .ok (.getfield 69, 3) := by decide +kernel
theorem dX10_shelveRow_30 : decode cX10_shelveRow 30 = .ok (.iload_n 1, 1) := by decide +kernel
theorem dX10_shelveRow_31 : decode cX10_shelveRow 31 = .ok (.iconst 2, 1) := by decide +kernel
theorem dX10_shelveRow_32 : decode cX10_shelveRow 32 = .ok (.iload_n 3, 1) := by decide +kernel
theorem dX10_shelveRow_33 : decode cX10_shelveRow 33 = .ok (.aload_n 0, 1) := by decide +kernel
theorem dX10_shelveRow_34 : decode cX10_shelveRow 34 = .ok (.getfield 62, 3) := by decide +kernel
theorem dX10_shelveRow_37 : decode cX10_shelveRow 37 = .ok (.iload_n 2, 1) := by decide +kernel
theorem dX10_shelveRow_38 : decode cX10_shelveRow 38 = .ok (.invokevirtual 310, 3) := by decide +kernel
theorem dX10_shelveRow_41 : decode cX10_shelveRow 41 = .ok (.invokevirtual 300, 3) := by decide +kernel
theorem dX10_shelveRow_44 : decode cX10_shelveRow 44 = .ok (.ireturn, 1) := by decide +kernel
theorem dX10_taken_0 : decode cX10_taken 0 = .ok (.aload_n 0, 1) := by decide +kernel
theorem dX10_taken_1 : decode cX10_taken 1 = .ok (.getfield 69, 3) := by decide +kernel
theorem dX10_taken_4 : decode cX10_taken 4 = .ok (.iload_n 1, 1) := by decide +kernel
theorem dX10_taken_5 : decode cX10_taken 5 = .ok (.invokevirtual 297, 3) := by decide +kernel
theorem dX10_taken_8 : decode cX10_taken 8 = .ok (.ifCond .eq 24, 3) := by decide +kernel
theorem dX10_taken_11 : decode cX10_taken 11 = .ok (.iload_n 2, 1) := by decide +kernel
theorem dX10_taken_12 : decode cX10_taken 12 = .ok (.iconst 0, 1) := by decide +kernel
theorem dX10_taken_13 : decode cX10_taken 13 = .ok (.bipush 7, 2) := by decide +kernel
theorem dX10_taken_15 : decode cX10_taken 15 = .ok (.invokestatic 80, 3) := by decide +kernel
theorem dX10_taken_18 : decode cX10_taken 18 = .ok (.ifCond .ne 16, 3) := by decide +kernel
theorem dX10_taken_21 : decode cX10_taken 21 = .ok (.iload_n 2, 1) := by decide +kernel
theorem dX10_taken_22 : decode cX10_taken 22 = .ok (.bipush 10, 2) := by decide +kernel
theorem dX10_taken_24 : decode cX10_taken 24 = .ok (.bipush 14, 2) := by decide +kernel
theorem dX10_taken_26 : decode cX10_taken 26 = .ok (.invokestatic 80, 3) := by decide +kernel
theorem dX10_taken_29 : decode cX10_taken 29 = .ok (.ifCond .ne 5, 3) := by decide +kernel
theorem dX10_taken_32 : decode cX10_taken 32 = .ok (.iconst (-1), 1) := by decide +kernel
theorem dX10_taken_33 : decode cX10_taken 33 = .ok (.ireturn, 1) := by decide +kernel
theorem dX10_taken_34 : decode cX10_taken 34 = .ok (.aload_n 0, 1) := by decide +kernel
theorem dX10_taken_35 : decode cX10_taken 35 = .ok (.getfield 69, 3) := by decide +kernel
theorem dX10_taken_38 : decode cX10_taken 38 = .ok (.iload_n 1, 1) := by decide +kernel
theorem dX10_taken_39 : decode cX10_taken 39 = .ok (.invokevirtual 313, 3) := by decide +kernel
theorem dX10_taken_42 : decode cX10_taken 42 = .ok (.istore_n 3, 1) := by decide +kernel
theorem dX10_taken_43 : decode cX10_taken 43 = .ok (.aload_n 0, 1) := by decide +kernel
theorem dX10_taken_44 : decode cX10_taken 44 = .ok (.iload_n 1, 1) := by decide +kernel
theorem dX10_taken_45 : decode cX10_taken 45 = .ok (.invokevirtual 316, 3) := by decide +kernel
theorem dX10_taken_48 : decode cX10_taken 48 = .ok (.tableswitch 69 0 2 #[28, 28, 47], 28) := by decide +kernel
theorem dX10_taken_76 : decode cX10_taken 76 = .ok (.aload_n 0, 1) := by decide +kernel
theorem dX10_taken_77 : decode cX10_taken 77 = .ok (.iload_n 1, 1) := by decide +kernel
theorem dX10_taken_78 : decode cX10_taken 78 = .ok (.invokevirtual 319, 3) := by decide +kernel
theorem dX10_taken_81 : decode cX10_taken 81 = .ok (.iload_n 2, 1) := by decide +kernel
theorem dX10_taken_82 : decode cX10_taken 82 = .ok (.invokestatic 322, 3) := by decide +kernel
theorem dX10_taken_85 : decode cX10_taken 85 = .ok (.ifCond .eq 7, 3) := by decide +kernel
theorem dX10_taken_88 : decode cX10_taken 88 = .ok (.iload_n 3, 1) := by decide +kernel
theorem dX10_taken_89 : decode cX10_taken 89 = .ok (.goto 5, 3) := by decide +kernel
theorem dX10_taken_92 : decode cX10_taken 92 = .ok (.bipush (-13), 2) := by decide +kernel
theorem dX10_taken_94 : decode cX10_taken 94 = .ok (.ireturn, 1) := by decide +kernel
theorem dX10_taken_95 : decode cX10_taken 95 = .ok (.iload_n 2, 1) := by decide +kernel
theorem dX10_taken_96 : decode cX10_taken 96 = .ok (.bipush 10, 2) := by decide +kernel
theorem dX10_taken_98 : decode cX10_taken 98 = .ok (.isub, 1) := by decide +kernel
theorem dX10_taken_99 : decode cX10_taken 99 = .ok (.iload_n 3, 1) := by decide +kernel
theorem dX10_taken_100 : decode cX10_taken 100 = .ok (.if_icmp .ne 14, 3) := by decide +kernel
theorem dX10_taken_103 : decode cX10_taken 103 = .ok (.aload_n 0, 1) := by decide +kernel
theorem dX10_taken_104 : decode cX10_taken 104 = .ok (.getfield 69, 3) := by decide +kernel
theorem dX10_taken_107 : decode cX10_taken 107 = .ok (.iload_n 1, 1) := by decide +kernel
theorem dX10_taken_108 : decode cX10_taken 108 = .ok (.invokevirtual 325, 3) := by decide +kernel
theorem dX10_taken_111 : decode cX10_taken 111 = .ok (.goto 5, 3) := by decide +kernel
theorem dX10_taken_114 : decode cX10_taken 114 = .ok (.bipush (-13), 2) := by decide +kernel
theorem dX10_taken_116 : decode cX10_taken 116 = .ok (.ireturn, 1) := by decide +kernel
theorem dX10_taken_117 : decode cX10_taken 117 = .ok (.bipush (-11), 2) := by decide +kernel
theorem dX10_taken_119 : decode cX10_taken 119 = .ok (.ireturn, 1) := by decide +kernel
theorem dX10_heldOn_0 : decode cX10_heldOn 0 = .ok (.aload_n 0, 1) := by decide +kernel
theorem dX10_heldOn_1 : decode cX10_heldOn 1 = .ok (.getfield 69, 3) := by decide +kernel
theorem dX10_heldOn_4 : decode cX10_heldOn 4 = .ok (.iload_n 1, 1) := by decide +kernel
theorem dX10_heldOn_5 : decode cX10_heldOn 5 = .ok (.invokevirtual 328, 3) := by decide +kernel
theorem dX10_heldOn_8 : decode cX10_heldOn 8 = .ok (.istore_n 2, 1) := by decide +kernel
theorem dX10_heldOn_9 : decode cX10_heldOn 9 = .ok (.iload_n 2, 1) := by decide +kernel
theorem dX10_heldOn_10 : decode cX10_heldOn 10 = .ok (.ifCond .ne 25, 3) := by decide +kernel
theorem dX10_heldOn_13 : decode cX10_heldOn 13 = .ok (.aload_n 0, 1) := by decide +kernel
theorem dX10_heldOn_14 : decode cX10_heldOn 14 = .ok (.getfield 26, 3) := by decide +kernel
theorem dX10_heldOn_17 : decode cX10_heldOn 17 = .ok (.aload_n 0, 1) := by decide +kernel
theorem dX10_heldOn_18 : decode cX10_heldOn 18 = .ok (.getfield 69, 3) := by decide +kernel
theorem dX10_heldOn_21 : decode cX10_heldOn 21 = .ok (.iload_n 1, 1) := by decide +kernel
theorem dX10_heldOn_22 : decode cX10_heldOn 22 = .ok (.invokevirtual 313, 3) := by decide +kernel
theorem dX10_heldOn_25 : decode cX10_heldOn 25 = .ok (.invokevirtual 268, 3) := by decide +kernel
theorem dX10_heldOn_28 : decode cX10_heldOn 28 = .ok (.ifnonnull 7, 3) := by decide +kernel
theorem dX10_heldOn_31 : decode cX10_heldOn 31 = .ok (.iconst 1, 1) := by decide +kernel
theorem dX10_heldOn_32 : decode cX10_heldOn 32 = .ok (.goto 4, 3) := by decide +kernel
theorem dX10_heldOn_35 : decode cX10_heldOn 35 = .ok (.iconst 0, 1) := by decide +kernel
theorem dX10_heldOn_36 : decode cX10_heldOn 36 = .ok (.istore_n 3, 1) := by decide +kernel
theorem dX10_heldOn_37 : decode cX10_heldOn 37 = .ok (.iload_n 3, 1) := by decide +kernel
theorem dX10_heldOn_38 : decode cX10_heldOn 38 = .ok (.ifCond .eq 7, 3) := by decide +kernel
theorem dX10_heldOn_41 : decode cX10_heldOn 41 = .ok (.iconst 3, 1) := by decide +kernel
theorem dX10_heldOn_42 : decode cX10_heldOn 42 = .ok (.goto 4, 3) := by decide +kernel
theorem dX10_heldOn_45 : decode cX10_heldOn 45 = .ok (.iload_n 2, 1) := by decide +kernel
theorem dX10_heldOn_46 : decode cX10_heldOn 46 = .ok (.ireturn, 1) := by decide +kernel
theorem dX10_kindOn_0 : decode cX10_kindOn 0 = .ok (.aload_n 0, 1) := by decide +kernel
theorem dX10_kindOn_1 : decode cX10_kindOn 1 = .ok (.getfield 69, 3) := by decide +kernel
theorem dX10_kindOn_4 : decode cX10_kindOn 4 = .ok (.iload_n 1, 1) := by decide +kernel
theorem dX10_kindOn_5 : decode cX10_kindOn 5 = .ok (.invokevirtual 328, 3) := by decide +kernel
theorem dX10_kindOn_8 : decode cX10_kindOn 8 = .ok (.iconst 1, 1) := by decide +kernel
theorem dX10_kindOn_9 : decode cX10_kindOn 9 = .ok (.if_icmp .ne 6, 3) := by decide +kernel
theorem dX10_kindOn_12 : decode cX10_kindOn 12 = .ok (.bipush 7, 2) := by decide +kernel
theorem dX10_kindOn_14 : decode cX10_kindOn 14 = .ok (.ireturn, 1) := by decide +kernel
theorem dX10_kindOn_15 : decode cX10_kindOn 15 = .ok (.aload_n 0, 1) := by decide +kernel
theorem dX10_kindOn_16 : decode cX10_kindOn 16 = .ok (.getfield 26, 3) := by decide +kernel
theorem dX10_kindOn_19 : decode cX10_kindOn 19 = .ok (.aload_n 0, 1) := by decide +kernel
theorem dX10_kindOn_20 : decode cX10_kindOn 20 = .ok (.getfield 69, 3) := by decide +kernel
theorem dX10_kindOn_23 : decode cX10_kindOn 23 = .ok (.iload_n 1, 1) := by decide +kernel
theorem dX10_kindOn_24 : decode cX10_kindOn 24 = .ok (.invokevirtual 313, 3) := by decide +kernel
theorem dX10_kindOn_27 : decode cX10_kindOn 27 = .ok (.invokevirtual 268, 3) := by decide +kernel
theorem dX10_kindOn_30 : decode cX10_kindOn 30 = .ok (.astore_n 2, 1) := by decide +kernel
theorem dX10_kindOn_31 : decode cX10_kindOn 31 = .ok (.aload_n 2, 1) := by decide +kernel
theorem dX10_kindOn_32 : decode cX10_kindOn 32 = .ok (.ifnonnull 7, 3) := by decide +kernel
theorem dX10_kindOn_35 : decode cX10_kindOn 35 = .ok (.iconst (-1), 1) := by decide +kernel
theorem dX10_kindOn_36 : decode cX10_kindOn 36 = .ok (.goto 7, 3) := by decide +kernel
theorem dX10_kindOn_39 : decode cX10_kindOn 39 = .ok (.aload_n 2, 1) := by decide +kernel
theorem dX10_kindOn_40 : decode cX10_kindOn 40 = .ok (.invokevirtual 186, 3) := by decide +kernel
theorem dX10_kindOn_43 : decode cX10_kindOn 43 = .ok (.ireturn, 1) := by decide +kernel
theorem dX10_act_0 : decode cX10_act 0 = .ok (.aload_n 0, 1) := by decide +kernel
theorem dX10_act_1 : decode cX10_act 1 = .ok (.getfield 76, 3) := by decide +kernel
theorem dX10_act_4 : decode cX10_act 4 = .ok (.invokevirtual 331, 3) := by decide +kernel
theorem dX10_act_7 : decode cX10_act 7 = .ok (.aload_n 0, 1) := by decide +kernel
theorem dX10_act_8 : decode cX10_act 8 = .ok (.getfield 69, 3) := by decide +kernel
theorem dX10_act_11 : decode cX10_act 11 = .ok (.iload_n 1, 1) := by decide +kernel
theorem dX10_act_12 : decode cX10_act 12 = .ok (.invokevirtual 297, 3) := by decide +kernel
theorem dX10_act_15 : decode cX10_act 15 = .ok (.ifCond .eq 12, 3) := by decide +kernel
theorem dX10_act_18 : decode cX10_act 18 = .ok (.iload_n 2, 1) := by decide +kernel
theorem dX10_act_19 : decode cX10_act 19 = .ok (.iconst 0, 1) := by decide +kernel
theorem dX10_act_20 : decode cX10_act 20 = .ok (.iconst 3, 1) := by decide +kernel
theorem dX10_act_21 : decode cX10_act 21 = .ok (.invokestatic 80, 3) := by decide +kernel
theorem dX10_act_24 : decode cX10_act 24 = .ok (.ifCond .ne 5, 3) := by decide +kernel
theorem dX10_act_27 : decode cX10_act 27 = .ok (.iconst 0, 1) := by decide +kernel
theorem dX10_act_28 : decode cX10_act 28 = .ok (.ireturn, 1) := by decide +kernel
theorem dX10_act_29 : decode cX10_act 29 = .ok (.aload_n 0, 1) := by decide +kernel
theorem dX10_act_30 : decode cX10_act 30 = .ok (.getfield 69, 3) := by decide +kernel
theorem dX10_act_33 : decode cX10_act 33 = .ok (.iload_n 1, 1) := by decide +kernel
theorem dX10_act_34 : decode cX10_act 34 = .ok (.invokevirtual 313, 3) := by decide +kernel
theorem dX10_act_37 : decode cX10_act 37 = .ok (.istore 4, 2) := by decide +kernel
theorem dX10_act_39 : decode cX10_act 39 = .ok (.aload_n 0, 1) := by decide +kernel
theorem dX10_act_40 : decode cX10_act 40 = .ok (.iload_n 1, 1) := by decide +kernel
theorem dX10_act_41 : decode cX10_act 41 = .ok (.invokevirtual 316, 3) := by decide +kernel
theorem dX10_act_44 : decode cX10_act 44 = .ok (.lookupswitch 111 #[(0, 28), (1, 77)], 28) := by decide +kernel
theorem dX10_act_72 : decode cX10_act 72 = .ok (.aload_n 0, 1) := by decide +kernel
theorem dX10_act_73 : decode cX10_act 73 = .ok (.getfield 26, 3) := by decide +kernel
theorem dX10_act_76 : decode cX10_act 76 = .ok (.iload 4, 2) := by decide +kernel
theorem dX10_act_78 : decode cX10_act 78 = .ok (.invokevirtual 268, 3) := by decide +kernel
theorem dX10_act_81 : decode cX10_act 81 = .ok (.astore 5, 2) := by decide +kernel
theorem dX10_act_83 : decode cX10_act 83 = .ok (.aload_n 0, 1) := by decide +kernel
theorem dX10_act_84 : decode cX10_act 84 = .ok (.getfield 76, 3) := by decide +kernel
theorem dX10_act_87 : decode cX10_act 87 = .ok (.aload_n 0, 1) := by decide +kernel
theorem dX10_act_88 : decode cX10_act 88 = .ok (.iload_n 1, 1) := by decide +kernel
theorem dX10_act_89 : decode cX10_act 89 = .ok (.invokevirtual 319, 3) := by decide +kernel
theorem dX10_act_92 : decode cX10_act 92 = .ok (.iload 4, 2) := by decide +kernel
theorem dX10_act_94 : decode cX10_act 94 = .ok (.aload 5, 2) := by decide +kernel
theorem dX10_act_96 : decode cX10_act 96 = .ok (.ifnonnull 7, 3) := by decide +kernel
theorem dX10_act_99 : decode cX10_act 99 = .ok (.iconst 0, 1) := by decide +kernel
theorem dX10_act_100 : decode cX10_act 100 = .ok (.goto 8, 3) := by decide +kernel
theorem dX10_act_103 : decode cX10_act 103 = .ok (.aload 5, 2) := by decide +kernel
theorem dX10_act_105 : decode cX10_act 105 = .ok (.invokevirtual 172, 3) := by decide +kernel
theorem dX10_act_108 : decode cX10_act 108 = .ok (.invokevirtual 334, 3) := by decide +kernel
theorem dX10_act_111 : decode cX10_act 111 = .ok (.aload_n 0, 1) := by decide +kernel
theorem dX10_act_112 : decode cX10_act 112 = .ok (.getfield 76, 3) := by decide +kernel
theorem dX10_act_115 : decode cX10_act 115 = .ok (.iload_n 2, 1) := by decide +kernel
theorem dX10_act_116 : decode cX10_act 116 = .ok (.iload_n 3, 1) := by decide +kernel
theorem dX10_act_117 : decode cX10_act 117 = .ok (.invokevirtual 337, 3) := by decide +kernel
theorem dX10_act_120 : decode cX10_act 120 = .ok (.ireturn, 1) := by decide +kernel
theorem dX10_act_121 : decode cX10_act 121 = .ok (.aload_n 0, 1) := by decide +kernel
theorem dX10_act_122 : decode cX10_act 122 = .ok (.getfield 76, 3) := by decide +kernel
theorem dX10_act_125 : decode cX10_act 125 = .ok (.bipush 7, 2) := by decide +kernel
theorem dX10_act_127 : decode cX10_act 127 = .ok (.iload 4, 2) := by decide +kernel
theorem dX10_act_129 : decode cX10_act 129 = .ok (.aload_n 0, 1) := by decide +kernel
theorem dX10_act_130 : decode cX10_act 130 = .ok (.getfield 19, 3) := by decide +kernel
theorem dX10_act_133 : decode cX10_act 133 = .ok (.iload 4, 2) := by decide +kernel
theorem dX10_act_135 : decode cX10_act 135 = .ok (.aload_n 0, 1) := by decide +kernel
theorem dX10_act_136 : decode cX10_act 136 = .ok (.getfield 10, 3) := by decide +kernel
theorem dX10_act_139 : decode cX10_act 139 = .ok (.invokevirtual 158, 3) := by decide +kernel
theorem dX10_act_142 : decode cX10_act 142 = .ok (.invokevirtual 334, 3) := by decide +kernel
theorem dX10_act_145 : decode cX10_act 145 = .ok (.aload_n 0, 1) := by decide +kernel
theorem dX10_act_146 : decode cX10_act 146 = .ok (.getfield 76, 3) := by decide +kernel
theorem dX10_act_149 : decode cX10_act 149 = .ok (.iload_n 2, 1) := by decide +kernel
theorem dX10_act_150 : decode cX10_act 150 = .ok (.iload_n 3, 1) := by decide +kernel
theorem dX10_act_151 : decode cX10_act 151 = .ok (.invokevirtual 337, 3) := by decide +kernel
theorem dX10_act_154 : decode cX10_act 154 = .ok (.ireturn, 1) := by decide +kernel
theorem dX10_act_155 : decode cX10_act 155 = .ok (.iconst 0, 1) := by decide +kernel
theorem dX10_act_156 : decode cX10_act 156 = .ok (.ireturn, 1) := by decide +kernel
theorem dX10_trace_0 : decode cX10_trace 0 = .ok (.aload_n 0, 1) := by decide +kernel
theorem dX10_trace_1 : decode cX10_trace 1 = .ok (.getfield 76, 3) := by decide +kernel
theorem dX10_trace_4 : decode cX10_trace 4 = .ok (.iload_n 1, 1) := by decide +kernel
theorem dX10_trace_5 : decode cX10_trace 5 = .ok (.invokevirtual 340, 3) := by decide +kernel
theorem dX10_trace_8 : decode cX10_trace 8 = .ok (.ifCond .eq 14, 3) := by decide +kernel
theorem dX10_trace_11 : decode cX10_trace 11 = .ok (.aload_n 0, 1) := by decide +kernel
theorem dX10_trace_12 : decode cX10_trace 12 = .ok (.getfield 76, 3) := by decide +kernel
theorem dX10_trace_15 : decode cX10_trace 15 = .ok (.iload_n 1, 1) := by decide +kernel
theorem dX10_trace_16 : decode cX10_trace 16 = .ok (.invokevirtual 341, 3) := by decide +kernel
theorem dX10_trace_19 : decode cX10_trace 19 = .ok (.goto 5, 3) := by decide +kernel
theorem dX10_trace_22 : decode cX10_trace 22 = .ok (.bipush (-3), 2) := by decide +kernel
theorem dX10_trace_24 : decode cX10_trace 24 = .ok (.ireturn, 1) := by decide +kernel
theorem dX10_many_0 : decode cX10_many 0 = .ok (.iload_n 1, 1) := by decide +kernel
theorem dX10_many_1 : decode cX10_many 1 = .ok (.tableswitch 90 0 5 #[39, 50, 58, 66, 74, 82], 39) := by decide +kernel
theorem dX10_many_40 : decode cX10_many 40 = .ok (.aload_n 0, 1) := by decide +kernel
theorem dX10_many_41 : decode cX10_many 41 = .ok (.getfield 10, 3) := by decide +kernel
theorem dX10_many_44 : decode cX10_many 44 = .ok (.getfield 162, 3) := by decide +kernel
theorem dX10_many_47 : decode cX10_many 47 = .ok (.invokevirtual 172, 3) := by decide +kernel
theorem dX10_many_50 : decode cX10_many 50 = .ok (.ireturn, 1) := by decide +kernel
theorem dX10_many_51 : decode cX10_many 51 = .ok (.aload_n 0, 1) := by decide +kernel
theorem dX10_many_52 : decode cX10_many 52 = .ok (.getfield 26, 3) := by decide +kernel
theorem dX10_many_55 : decode cX10_many 55 = .ok (.invokevirtual 267, 3) := by decide +kernel
theorem dX10_many_58 : decode cX10_many 58 = .ok (.ireturn, 1) := by decide +kernel
theorem dX10_many_59 : decode cX10_many 59 = .ok (.aload_n 0, 1) := by decide +kernel
theorem dX10_many_60 : decode cX10_many 60 = .ok (.getfield 55, 3) := by decide +kernel
theorem dX10_many_63 : decode cX10_many 63 = .ok (.invokevirtual 244, 3) := by decide +kernel
theorem dX10_many_66 : decode cX10_many 66 = .ok (.ireturn, 1) := by decide +kernel
theorem dX10_many_67 : decode cX10_many 67 = .ok (.aload_n 0, 1) := by decide +kernel
theorem dX10_many_68 : decode cX10_many 68 = .ok (.getfield 48, 3) := by decide +kernel
theorem dX10_many_71 : decode cX10_many 71 = .ok (.invokevirtual 134, 3) := by decide +kernel
theorem dX10_many_74 : decode cX10_many 74 = .ok (.ireturn, 1) := by decide +kernel
theorem dX10_many_75 : decode cX10_many 75 = .ok (.aload_n 0, 1) := by decide +kernel
theorem dX10_many_76 : decode cX10_many 76 = .ok (.getfield 76, 3) := by decide +kernel
theorem dX10_many_79 : decode cX10_many 79 = .ok (.invokevirtual 344, 3) := by decide +kernel
theorem dX10_many_82 : decode cX10_many 82 = .ok (.ireturn, 1) := by decide +kernel
theorem dX10_many_83 : decode cX10_many 83 = .ok (.aload_n 0, 1) := by decide +kernel
theorem dX10_many_84 : decode cX10_many 84 = .ok (.getfield 19, 3) := by decide +kernel
theorem dX10_many_87 : decode cX10_many 87 = .ok (.invokevirtual 155, 3) := by decide +kernel
theorem dX10_many_90 : decode cX10_many 90 = .ok (.ireturn, 1) := by decide +kernel
theorem dX10_many_91 : decode cX10_many 91 = .ok (.iconst (-1), 1) := by decide +kernel
theorem dX10_many_92 : decode cX10_many 92 = .ok (.ireturn, 1) := by decide +kernel
theorem dX10_keep_0 : decode cX10_keep 0 = .ok (.aload_n 0, 1) := by decide +kernel
theorem dX10_keep_1 : decode cX10_keep 1 = .ok (.getfield 30, 3) := by decide +kernel
theorem dX10_keep_4 : decode cX10_keep 4 = .ok (.aload_n 0, 1) := by decide +kernel
theorem dX10_keep_5 : decode cX10_keep 5 = .ok (.getfield 10, 3) := by decide +kernel
theorem dX10_keep_8 : decode cX10_keep 8 = .ok (.invokevirtual 345, 3) := by decide +kernel
theorem dX10_keep_11 : decode cX10_keep 11 = .ok (.aload_n 0, 1) := by decide +kernel
theorem dX10_keep_12 : decode cX10_keep 12 = .ok (.getfield 33, 3) := by decide +kernel
theorem dX10_keep_15 : decode cX10_keep 15 = .ok (.aload_n 0, 1) := by decide +kernel
theorem dX10_keep_16 : decode cX10_keep 16 = .ok (.getfield 19, 3) := by decide +kernel
theorem dX10_keep_19 : decode cX10_keep 19 = .ok (.invokevirtual 151, 3) := by decide +kernel
theorem dX10_keep_22 : decode cX10_keep 22 = .ok (.aload_n 0, 1) := by decide +kernel
theorem dX10_keep_23 : decode cX10_keep 23 = .ok (.getfield 36, 3) := by decide +kernel
theorem dX10_keep_26 : decode cX10_keep 26 = .ok (.aload_n 0, 1) := by decide +kernel
theorem dX10_keep_27 : decode cX10_keep 27 = .ok (.getfield 26, 3) := by decide +kernel
theorem dX10_keep_30 : decode cX10_keep 30 = .ok (.invokevirtual 347, 3) := by decide +kernel
theorem dX10_keep_33 : decode cX10_keep 33 = .ok (.aload_n 0, 1) := by decide +kernel
theorem dX10_keep_34 : decode cX10_keep 34 = .ok (.iconst 1, 1) := by decide +kernel
theorem dX10_keep_35 : decode cX10_keep 35 = .ok (.putfield 350, 3) := by decide +kernel
theorem dX10_keep_38 : decode cX10_keep 38 = .ok (.iconst 1, 1) := by decide +kernel
theorem dX10_keep_39 : decode cX10_keep 39 = .ok (.ireturn, 1) := by decide +kernel
theorem dX10_again_0 : decode cX10_again 0 = .ok (.aload_n 0, 1) := by decide +kernel
theorem dX10_again_1 : decode cX10_again 1 = .ok (.getfield 350, 3) := by decide +kernel
theorem dX10_again_4 : decode cX10_again 4 = .ok (.ifCond .ne 6, 3) := by decide +kernel
theorem dX10_again_7 : decode cX10_again 7 = .ok (.bipush (-3), 2) := by decide +kernel
theorem dX10_again_9 : decode cX10_again 9 = .ok (.ireturn, 1) := by decide +kernel
theorem dX10_again_10 : decode cX10_again 10 = .ok (.aload_n 0, 1) := by decide +kernel
theorem dX10_again_11 : decode cX10_again 11 = .ok (.getfield 10, 3) := by decide +kernel
theorem dX10_again_14 : decode cX10_again 14 = .ok (.aload_n 0, 1) := by decide +kernel
theorem dX10_again_15 : decode cX10_again 15 = .ok (.getfield 30, 3) := by decide +kernel
theorem dX10_again_18 : decode cX10_again 18 = .ok (.invokevirtual 345, 3) := by decide +kernel
theorem dX10_again_21 : decode cX10_again 21 = .ok (.aload_n 0, 1) := by decide +kernel
theorem dX10_again_22 : decode cX10_again 22 = .ok (.getfield 19, 3) := by decide +kernel
theorem dX10_again_25 : decode cX10_again 25 = .ok (.aload_n 0, 1) := by decide +kernel
theorem dX10_again_26 : decode cX10_again 26 = .ok (.getfield 33, 3) := by decide +kernel
theorem dX10_again_29 : decode cX10_again 29 = .ok (.invokevirtual 151, 3) := by decide +kernel
theorem dX10_again_32 : decode cX10_again 32 = .ok (.aload_n 0, 1) := by decide +kernel
theorem dX10_again_33 : decode cX10_again 33 = .ok (.getfield 26, 3) := by decide +kernel
theorem dX10_again_36 : decode cX10_again 36 = .ok (.aload_n 0, 1) := by decide +kernel
theorem dX10_again_37 : decode cX10_again 37 = .ok (.getfield 36, 3) := by decide +kernel
theorem dX10_again_40 : decode cX10_again 40 = .ok (.invokevirtual 347, 3) := by decide +kernel
theorem dX10_again_43 : decode cX10_again 43 = .ok (.iconst 1, 1) := by decide +kernel
theorem dX10_again_44 : decode cX10_again 44 = .ok (.ireturn, 1) := by decide +kernel
theorem dX10_isWithin_0 : decode cX10_isWithin 0 = .ok (.iload_n 0, 1) := by decide +kernel
theorem dX10_isWithin_1 : decode cX10_isWithin 1 = .ok (.iload_n 1, 1) := by decide +kernel
theorem dX10_isWithin_2 : decode cX10_isWithin 2 = .ok (.if_icmp .lt 12, 3) := by decide +kernel
theorem dX10_isWithin_5 : decode cX10_isWithin 5 = .ok (.iload_n 0, 1) := by decide +kernel
theorem dX10_isWithin_6 : decode cX10_isWithin 6 = .ok (.iload_n 2, 1) := by decide +kernel
theorem dX10_isWithin_7 : decode cX10_isWithin 7 = .ok (.if_icmp .gt 7, 3) := by decide +kernel
theorem dX10_isWithin_10 : decode cX10_isWithin 10 = .ok (.iconst 1, 1) := by decide +kernel
theorem dX10_isWithin_11 : decode cX10_isWithin 11 = .ok (.goto 4, 3) := by decide +kernel
theorem dX10_isWithin_14 : decode cX10_isWithin 14 = .ok (.iconst 0, 1) := by decide +kernel
theorem dX10_isWithin_15 : decode cX10_isWithin 15 = .ok (.ireturn, 1) := by decide +kernel
theorem dX10_heldTo_0 : decode cX10_heldTo 0 = .ok (.iload_n 1, 1) := by decide +kernel
theorem dX10_heldTo_1 : decode cX10_heldTo 1 = .ok (.iload_n 2, 1) := by decide +kernel
theorem dX10_heldTo_2 : decode cX10_heldTo 2 = .ok (.iload_n 0, 1) := by decide +kernel
theorem dX10_heldTo_3 : decode cX10_heldTo 3 = .ok (.invokestatic 354, 3) := by decide +kernel
theorem dX10_heldTo_6 : decode cX10_heldTo 6 = .ok (.invokestatic 359, 3) := by decide +kernel
theorem dX10_heldTo_9 : decode cX10_heldTo 9 = .ok (.ireturn, 1) := by decide +kernel
theorem dX10_commonMeasure_0 : decode cX10_commonMeasure 0 = .ok (.iload_n 0, 1) := by decide +kernel
theorem dX10_commonMeasure_1 : decode cX10_commonMeasure 1 = .ok (.istore_n 2, 1) := by decide +kernel
theorem dX10_commonMeasure_2 : decode cX10_commonMeasure 2 = .ok (.iload_n 1, 1) := by decide +kernel
theorem dX10_commonMeasure_3 : decode cX10_commonMeasure 3 = .ok (.istore_n 3, 1) := by decide +kernel
theorem dX10_commonMeasure_4 : decode cX10_commonMeasure 4 = .ok (.iconst 0, 1) := by decide +kernel
theorem dX10_commonMeasure_5 : decode cX10_commonMeasure 5 = .ok (.istore 4, 2) := by decide +kernel
theorem dX10_commonMeasure_7 : decode cX10_commonMeasure 7 = .ok (.iload 4, 2) := by decide +kernel
theorem dX10_commonMeasure_9 : decode cX10_commonMeasure 9 = .ok (.bipush 50, 2) := by decide +kernel
theorem dX10_commonMeasure_11 : decode cX10_commonMeasure 11 = .ok (.if_icmp .ge 23, 3) := by decide +kernel
theorem dX10_commonMeasure_14 : decode cX10_commonMeasure 14 = .ok (.iload_n 3, 1) := by decide +kernel
theorem dX10_commonMeasure_15 : decode cX10_commonMeasure 15 = .ok (.ifCond .eq 19, 3) := by decide +kernel
theorem dX10_commonMeasure_18 : decode cX10_commonMeasure 18 = .ok (.iload_n 2, 1) := by decide +kernel
theorem dX10_commonMeasure_19 : decode cX10_commonMeasure 19 = .ok (.iload_n 3, 1) := by decide +kernel
theorem dX10_commonMeasure_20 : decode cX10_commonMeasure 20 = .ok (.irem, 1) := by decide +kernel
theorem dX10_commonMeasure_21 : decode cX10_commonMeasure 21 = .ok (.istore 5, 2) := by decide +kernel
theorem dX10_commonMeasure_23 : decode cX10_commonMeasure 23 = .ok (.iload_n 3, 1) := by decide +kernel
theorem dX10_commonMeasure_24 : decode cX10_commonMeasure 24 = .ok (.istore_n 2, 1) := by decide +kernel
theorem dX10_commonMeasure_25 : decode cX10_commonMeasure 25 = .ok (.iload 5, 2) := by decide +kernel
theorem dX10_commonMeasure_27 : decode cX10_commonMeasure 27 = .ok (.istore_n 3, 1) := by decide +kernel
theorem dX10_commonMeasure_28 : decode cX10_commonMeasure 28 = .ok (.iinc 4 1, 3) := by decide +kernel
theorem dX10_commonMeasure_31 : decode cX10_commonMeasure 31 = .ok (.goto (-24), 3) := by decide +kernel
theorem dX10_commonMeasure_34 : decode cX10_commonMeasure 34 = .ok (.iload_n 2, 1) := by decide +kernel
theorem dX10_commonMeasure_35 : decode cX10_commonMeasure 35 = .ok (.ireturn, 1) := by decide +kernel
