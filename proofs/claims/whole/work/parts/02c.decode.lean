theorem dX4_init_0 : decode cX4_init 0 = .ok (.aload_n 0, 1) := by decide +kernel
theorem dX4_init_1 : decode cX4_init 1 = .ok (.invokespecial 1, 3) := by decide +kernel
theorem dX4_init_4 : decode cX4_init 4 = .ok (.aload_n 0, 1) := by decide +kernel
theorem dX4_init_5 : decode cX4_init 5 = .ok (.bipush 32, 2) := by decide +kernel
theorem dX4_init_7 : decode cX4_init 7 = .ok (.newarray .int, 2) := by decide +kernel
theorem dX4_init_9 : decode cX4_init 9 = .ok (.putfield 7, 3) := by decide +kernel
theorem dX4_init_12 : decode cX4_init 12 = .ok (.aload_n 0, 1) := by decide +kernel
theorem dX4_init_13 : decode cX4_init 13 = .ok (.sipush 256, 3) := by decide +kernel
theorem dX4_init_16 : decode cX4_init 16 = .ok (.newarray .boolean, 2) := by decide +kernel
theorem dX4_init_18 : decode cX4_init 18 = .ok (.putfield 13, 3) := by decide +kernel
theorem dX4_init_21 : decode cX4_init 21 = .ok (.aload_n 0, 1) := by decide +kernel
theorem dX4_init_22 : decode cX4_init 22 = .ok (.sipush 256, 3) := by decide +kernel
theorem dX4_init_25 : decode cX4_init 25 = .ok (.newarray .boolean, 2) := by decide +kernel
theorem dX4_init_27 : decode cX4_init 27 = .ok (.putfield 17, 3) := by decide +kernel
theorem dX4_init_30 : decode cX4_init 30 = .ok (.aload_n 0, 1) := by decide +kernel
theorem dX4_init_31 : decode cX4_init 31 = .ok (.sipush 256, 3) := by decide +kernel
theorem dX4_init_34 : decode cX4_init 34 = .ok (.newarray .boolean, 2) := by decide +kernel
theorem dX4_init_36 : decode cX4_init 36 = .ok (.putfield 20, 3) := by decide +kernel
theorem dX4_init_39 : decode cX4_init 39 = .ok (.aload_n 0, 1) := by decide +kernel
theorem dX4_init_40 : decode cX4_init 40 = .ok (.sipush 256, 3) := by decide +kernel
theorem dX4_init_43 : decode cX4_init 43 = .ok (.newarray .int, 2) := by decide +kernel
theorem dX4_init_45 : decode cX4_init 45 = .ok (.putfield 23, 3) := by decide +kernel
theorem dX4_init_48 : decode cX4_init 48 = .ok (.aload_n 0, 1) := by decide +kernel
theorem dX4_init_49 : decode cX4_init 49 = .ok (.sipush 256, 3) := by decide +kernel
theorem dX4_init_52 : decode cX4_init 52 = .ok (.newarray .int, 2) := by decide +kernel
theorem dX4_init_54 : decode cX4_init 54 = .ok (.putfield 26, 3) := by decide +kernel
theorem dX4_init_57 : decode cX4_init 57 = .ok (.aload_n 0, 1) := by decide +kernel
theorem dX4_init_58 : decode cX4_init 58 = .ok (.sipush 256, 3) := by decide +kernel
theorem dX4_init_61 : decode cX4_init 61 = .ok (.newarray .int, 2) := by decide +kernel
theorem dX4_init_63 : decode cX4_init 63 = .ok (.putfield 29, 3) := by decide +kernel
theorem dX4_init_66 : decode cX4_init 66 = .ok (.aload_n 0, 1) := by decide +kernel
theorem dX4_init_67 : decode cX4_init 67 = .ok (.sipush 256, 3) := by decide +kernel
theorem dX4_init_70 : decode cX4_init 70 = .ok (.newarray .int, 2) := by decide +kernel
theorem dX4_init_72 : decode cX4_init 72 = .ok (.putfield 32, 3) := by decide +kernel
theorem dX4_init_75 : decode cX4_init 75 = .ok (.aload_n 0, 1) := by decide +kernel
theorem dX4_init_76 : decode cX4_init 76 = .ok (.sipush 256, 3) := by decide +kernel
theorem dX4_init_79 : decode cX4_init 79 = .ok (.newarray .int, 2) := by decide +kernel
theorem dX4_init_81 : decode cX4_init 81 = .ok (.putfield 35, 3) := by decide +kernel
theorem dX4_init_84 : decode cX4_init 84 = .ok (.aload_n 0, 1) := by decide +kernel
theorem dX4_init_85 : decode cX4_init 85 = .ok (.sipush 256, 3) := by decide +kernel
theorem dX4_init_88 : decode cX4_init 88 = .ok (.newarray .int, 2) := by decide +kernel
theorem dX4_init_90 : decode cX4_init 90 = .ok (.putfield 38, 3) := by decide +kernel
theorem dX4_init_93 : decode cX4_init 93 = .ok (.aload_n 0, 1) := by decide +kernel
theorem dX4_init_94 : decode cX4_init 94 = .ok (.bipush 64, 2) := by decide +kernel
theorem dX4_init_96 : decode cX4_init 96 = .ok (.newarray .int, 2) := by decide +kernel
theorem dX4_init_98 : decode cX4_init 98 = .ok (.putfield 41, 3) := by decide +kernel
theorem dX4_init_101 : decode cX4_init 101 = .ok (.aload_n 0, 1) := by decide +kernel
theorem dX4_init_102 : decode cX4_init 102 = .ok (.bipush 64, 2) := by decide +kernel
theorem dX4_init_104 : decode cX4_init 104 = .ok (.newarray .int, 2) := by decide +kernel
theorem dX4_init_106 : decode cX4_init 106 = .ok (.putfield 44, 3) := by decide +kernel
theorem dX4_init_109 : decode cX4_init 109 = .ok (.aload_n 0, 1) := by decide +kernel
theorem dX4_init_110 : decode cX4_init 110 = .ok (.bipush 32, 2) := by decide +kernel
theorem dX4_init_112 : decode cX4_init 112 = .ok (.newarray .boolean, 2) := by decide +kernel
theorem dX4_init_114 : decode cX4_init 114 = .ok (.putfield 47, 3) := by decide +kernel
theorem dX4_init_117 : decode cX4_init 117 = .ok (.aload_n 0, 1) := by decide +kernel
theorem dX4_init_118 : decode cX4_init 118 = .ok (.bipush 32, 2) := by decide +kernel
theorem dX4_init_120 : decode cX4_init 120 = .ok (.newarray .int, 2) := by decide +kernel
theorem dX4_init_122 : decode cX4_init 122 = .ok (.putfield 50, 3) := by decide +kernel
theorem dX4_init_125 : decode cX4_init 125 = .ok (.aload_n 0, 1) := by decide +kernel
theorem dX4_init_126 : decode cX4_init 126 = .ok (.bipush 32, 2) := by decide +kernel
theorem dX4_init_128 : decode cX4_init 128 = .ok (.newarray .boolean, 2) := by decide +kernel
theorem dX4_init_130 : decode cX4_init 130 = .ok (.putfield 53, 3) := by decide +kernel
theorem dX4_init_133 : decode cX4_init 133 = .ok (.aload_n 0, 1) := by decide +kernel
theorem dX4_init_134 : decode cX4_init 134 = .ok (.sipush 8192, 3) := by decide +kernel
theorem dX4_init_137 : decode cX4_init 137 = .ok (.newarray .byte, 2) := by decide +kernel
theorem dX4_init_139 : decode cX4_init 139 = .ok (.putfield 56, 3) := by decide +kernel
theorem dX4_init_142 : decode cX4_init 142 = .ok (.aload_n 0, 1) := by decide +kernel
theorem dX4_init_143 : decode cX4_init 143 = .ok (.sipush 256, 3) := by decide +kernel
theorem dX4_init_146 : decode cX4_init 146 = .ok (.newarray .byte, 2) := by decide +kernel
theorem dX4_init_148 : decode cX4_init 148 = .ok (.putfield 60, 3) := by decide +kernel
theorem dX4_init_151 : decode cX4_init 151 = .ok (.return_, 1) := by decide +kernel
theorem dX4_set_0 : decode cX4_set 0 = .ok (.aload_n 0, 1) := by decide +kernel
theorem dX4_set_1 : decode cX4_set 1 = .ok (.iconst 0, 1) := by decide +kernel
theorem dX4_set_2 : decode cX4_set 2 = .ok (.putfield 63, 3) := by decide +kernel
theorem dX4_set_5 : decode cX4_set 5 = .ok (.iload_n 1, 1) := by decide +kernel
theorem dX4_set_6 : decode cX4_set 6 = .ok (.ifCond .lt 9, 3) := by decide +kernel
theorem dX4_set_9 : decode cX4_set 9 = .ok (.iload_n 1, 1) := by decide +kernel
theorem dX4_set_10 : decode cX4_set 10 = .ok (.bipush 31, 2) := by decide +kernel
theorem dX4_set_12 : decode cX4_set 12 = .ok (.if_icmp .le 5, 3) := by decide +kernel
theorem dX4_set_15 : decode cX4_set 15 = .ok (.iconst 0, 1) := by decide +kernel
theorem dX4_set_16 : decode cX4_set 16 = .ok (.ireturn, 1) := by decide +kernel
theorem dX4_set_17 : decode cX4_set 17 = .ok (.aload_n 0, 1) := by decide +kernel
theorem dX4_set_18 : decode cX4_set 18 = .ok (.getfield 7, 3) := by decide +kernel
theorem dX4_set_21 : decode cX4_set 21 = .ok (.iload_n 1, 1) := by decide +kernel
theorem dX4_set_22 : decode cX4_set 22 = .ok (.iload_n 2, 1) := by decide +kernel
theorem dX4_set_23 : decode cX4_set 23 = .ok (.iastore, 1) := by decide +kernel
theorem dX4_set_24 : decode cX4_set 24 = .ok (.iconst 1, 1) := by decide +kernel
theorem dX4_set_25 : decode cX4_set 25 = .ok (.ireturn, 1) := by decide +kernel
theorem dX4_add_0 : decode cX4_add 0 = .ok (.aload_n 0, 1) := by decide +kernel
theorem dX4_add_1 : decode cX4_add 1 = .ok (.iconst 0, 1) := by decide +kernel
theorem dX4_add_2 : decode cX4_add 2 = .ok (.putfield 63, 3) := by decide +kernel
theorem dX4_add_5 : decode cX4_add 5 = .ok (.iload_n 3, 1) := by decide +kernel
theorem dX4_add_6 : decode cX4_add 6 = .ok (.iconst 1, 1) := by decide +kernel
theorem dX4_add_7 : decode cX4_add 7 = .ok (.sipush 255, 3) := by decide +kernel
theorem dX4_add_10 : decode cX4_add 10 = .ok (.invokestatic 67, 3) := by decide +kernel
theorem dX4_add_13 : decode cX4_add 13 = .ok (.ifCond .eq 42, 3) := by decide +kernel
theorem dX4_add_16 : decode cX4_add 16 = .ok (.iload 4, 2) := by decide +kernel
theorem dX4_add_18 : decode cX4_add 18 = .ok (.iload 5, 2) := by decide +kernel
theorem dX4_add_20 : decode cX4_add 20 = .ok (.if_icmp .gt 35, 3) := by decide +kernel
theorem dX4_add_23 : decode cX4_add 23 = .ok (.iload_n 2, 1) := by decide +kernel
theorem dX4_add_24 : decode cX4_add 24 = .ok (.iconst 0, 1) := by decide +kernel
theorem dX4_add_25 : decode cX4_add 25 = .ok (.bipush 31, 2) := by decide +kernel
theorem dX4_add_27 : decode cX4_add 27 = .ok (.invokestatic 67, 3) := by decide +kernel
theorem dX4_add_30 : decode cX4_add 30 = .ok (.ifCond .eq 25, 3) := by decide +kernel
theorem dX4_add_33 : decode cX4_add 33 = .ok (.iload 6, 2) := by decide +kernel
theorem dX4_add_35 : decode cX4_add 35 = .ok (.iconst 0, 1) := by decide +kernel
theorem dX4_add_36 : decode cX4_add 36 = .ok (.bipush 31, 2) := by decide +kernel
theorem dX4_add_38 : decode cX4_add 38 = .ok (.invokestatic 67, 3) := by decide +kernel
theorem dX4_add_41 : decode cX4_add 41 = .ok (.ifCond .eq 14, 3) := by decide +kernel
theorem dX4_add_44 : decode cX4_add 44 = .ok (.iload_n 1, 1) := by decide +kernel
theorem dX4_add_45 : decode cX4_add 45 = .ok (.iconst 0, 1) := by decide +kernel
theorem dX4_add_46 : decode cX4_add 46 = .ok (.sipush 255, 3) := by decide +kernel
theorem dX4_add_49 : decode cX4_add 49 = .ok (.invokestatic 67, 3) := by decide +kernel
theorem dX4_add_52 : decode cX4_add 52 = .ok (.ifCond .ne 6, 3) := by decide +kernel
theorem dX4_add_55 : decode cX4_add 55 = .ok (.bipush 13, 2) := by decide +kernel
theorem dX4_add_57 : decode cX4_add 57 = .ok (.ireturn, 1) := by decide +kernel
theorem dX4_add_58 : decode cX4_add 58 = .ok (.aload_n 0, 1) := by decide +kernel
theorem dX4_add_59 : decode cX4_add 59 = .ok (.getfield 13, 3) := by decide +kernel
theorem dX4_add_62 : decode cX4_add 62 = .ok (.iload_n 1, 1) := by decide +kernel
theorem dX4_add_63 : decode cX4_add 63 = .ok (.baload, 1) := by decide +kernel
theorem dX4_add_64 : decode cX4_add 64 = .ok (.ifCond .eq 6, 3) := by decide +kernel
theorem dX4_add_67 : decode cX4_add 67 = .ok (.bipush 25, 2) := by decide +kernel
theorem dX4_add_69 : decode cX4_add 69 = .ok (.ireturn, 1) := by decide +kernel
theorem dX4_add_70 : decode cX4_add 70 = .ok (.aload_n 0, 1) := by decide +kernel
theorem dX4_add_71 : decode cX4_add 71 = .ok (.invokevirtual 71, 3) := by decide +kernel
theorem dX4_add_74 : decode cX4_add 74 = .ok (.bipush 16, 2) := by decide +kernel
theorem dX4_add_76 : decode cX4_add 76 = .ok (.if_icmp .ne 6, 3) := by decide +kernel
theorem dX4_add_79 : decode cX4_add 79 = .ok (.bipush 26, 2) := by decide +kernel
theorem dX4_add_81 : decode cX4_add 81 = .ok (.ireturn, 1) := by decide +kernel
theorem dX4_add_82 : decode cX4_add 82 = .ok (.aload_n 0, 1) := by decide +kernel
theorem dX4_add_83 : decode cX4_add 83 = .ok (.getfield 13, 3) := by decide +kernel
theorem dX4_add_86 : decode cX4_add 86 = .ok (.iload_n 1, 1) := by decide +kernel
theorem dX4_add_87 : decode cX4_add 87 = .ok (.iconst 1, 1) := by decide +kernel
theorem dX4_add_88 : decode cX4_add 88 = .ok (.bastore, 1) := by decide +kernel
theorem dX4_add_89 : decode cX4_add 89 = .ok (.aload_n 0, 1) := by decide +kernel
theorem dX4_add_90 : decode cX4_add 90 = .ok (.getfield 17, 3) := by decide +kernel
theorem dX4_add_93 : decode cX4_add 93 = .ok (.iload_n 1, 1) := by decide +kernel
theorem dX4_add_94 : decode cX4_add 94 = .ok (.iconst 0, 1) := by decide +kernel
theorem dX4_add_95 : decode cX4_add 95 = .ok (.bastore, 1) := by decide +kernel
theorem dX4_add_96 : decode cX4_add 96 = .ok (.aload_n 0, 1) := by decide +kernel
theorem dX4_add_97 : decode cX4_add 97 = .ok (.getfield 20, 3) := by decide +kernel
theorem dX4_add_100 : decode cX4_add 100 = .ok (.iload_n 1, 1) := by decide +kernel
theorem dX4_add_101 : decode cX4_add 101 = .ok (.iload 7, 2) := by decide +kernel
theorem dX4_add_103 : decode cX4_add 103 = .ok (.bastore, 1) := by decide +kernel
theorem dX4_add_104 : decode cX4_add 104 = .ok (.aload_n 0, 1) := by decide +kernel
theorem dX4_add_105 : decode cX4_add 105 = .ok (.getfield 23, 3) := by decide +kernel
theorem dX4_add_108 : decode cX4_add 108 = .ok (.iload_n 1, 1) := by decide +kernel
theorem dX4_add_109 : decode cX4_add 109 = .ok (.iload_n 2, 1) := by decide +kernel
theorem dX4_add_110 : decode cX4_add 110 = .ok (.iastore, 1) := by decide +kernel
theorem dX4_add_111 : decode cX4_add 111 = .ok (.aload_n 0, 1) := by decide +kernel
theorem dX4_add_112 : decode cX4_add 112 = .ok (.getfield 26, 3) := by decide +kernel
theorem dX4_add_115 : decode cX4_add 115 = .ok (.iload_n 1, 1) := by decide +kernel
theorem dX4_add_116 : decode cX4_add 116 = .ok (.iload_n 3, 1) := by decide +kernel
theorem dX4_add_117 : decode cX4_add 117 = .ok (.iastore, 1) := by decide +kernel
theorem dX4_add_118 : decode cX4_add 118 = .ok (.aload_n 0, 1) := by decide +kernel
theorem dX4_add_119 : decode cX4_add 119 = .ok (.getfield 29, 3) := by decide +kernel
theorem dX4_add_122 : decode cX4_add 122 = .ok (.iload_n 1, 1) := by decide +kernel
theorem dX4_add_123 : decode cX4_add 123 = .ok (.iload 4, 2) := by decide +kernel
theorem dX4_add_125 : decode cX4_add 125 = .ok (.iastore, 1) := by decide +kernel
theorem dX4_add_126 : decode cX4_add 126 = .ok (.aload_n 0, 1) := by decide +kernel
theorem dX4_add_127 : decode cX4_add 127 = .ok (.getfield 32, 3) := by decide +kernel
theorem dX4_add_130 : decode cX4_add 130 = .ok (.iload_n 1, 1) := by decide +kernel
theorem dX4_add_131 : decode cX4_add 131 = .ok (.iload 5, 2) := by decide +kernel
theorem dX4_add_133 : decode cX4_add 133 = .ok (.iastore, 1) := by decide +kernel
theorem dX4_add_134 : decode cX4_add 134 = .ok (.aload_n 0, 1) := by decide +kernel
theorem dX4_add_135 : decode cX4_add 135 = .ok (.getfield 35, 3) := by decide +kernel
theorem dX4_add_138 : decode cX4_add 138 = .ok (.iload_n 1, 1) := by decide +kernel
theorem dX4_add_139 : decode cX4_add 139 = .ok (.iload 6, 2) := by decide +kernel
theorem dX4_add_141 : decode cX4_add 141 = .ok (.iastore, 1) := by decide +kernel
theorem dX4_add_142 : decode cX4_add 142 = .ok (.aload_n 0, 1) := by decide +kernel
theorem dX4_add_143 : decode cX4_add 143 = .ok (.getfield 38, 3) := by decide +kernel
theorem dX4_add_146 : decode cX4_add 146 = .ok (.iload_n 1, 1) := by decide +kernel
theorem dX4_add_147 : decode cX4_add 147 = .ok (.iconst 0, 1) := by decide +kernel
theorem dX4_add_148 : decode cX4_add 148 = .ok (.iastore, 1) := by decide +kernel
theorem dX4_add_149 : decode cX4_add 149 = .ok (.iconst 0, 1) := by decide +kernel
theorem dX4_add_150 : decode cX4_add 150 = .ok (.ireturn, 1) := by decide +kernel
theorem dX4_isIn_0 : decode cX4_isIn 0 = .ok (.iload_n 0, 1) := by decide +kernel
theorem dX4_isIn_1 : decode cX4_isIn 1 = .ok (.iload_n 1, 1) := by decide +kernel
theorem dX4_isIn_2 : decode cX4_isIn 2 = .ok (.if_icmp .lt 12, 3) := by decide +kernel
theorem dX4_isIn_5 : decode cX4_isIn 5 = .ok (.iload_n 0, 1) := by decide +kernel
theorem dX4_isIn_6 : decode cX4_isIn 6 = .ok (.iload_n 2, 1) := by decide +kernel
theorem dX4_isIn_7 : decode cX4_isIn 7 = .ok (.if_icmp .gt 7, 3) := by decide +kernel
theorem dX4_isIn_10 : decode cX4_isIn 10 = .ok (.iconst 1, 1) := by decide +kernel
theorem dX4_isIn_11 : decode cX4_isIn 11 = .ok (.goto 4, 3) := by decide +kernel
theorem dX4_isIn_14 : decode cX4_isIn 14 = .ok (.iconst 0, 1) := by decide +kernel
theorem dX4_isIn_15 : decode cX4_isIn 15 = .ok (.ireturn, 1) := by decide +kernel
theorem dX4_limits_0 : decode cX4_limits 0 = .ok (.iconst 0, 1) := by decide +kernel
theorem dX4_limits_1 : decode cX4_limits 1 = .ok (.istore_n 1, 1) := by decide +kernel
theorem dX4_limits_2 : decode cX4_limits 2 = .ok (.iconst 0, 1) := by decide +kernel
theorem dX4_limits_3 : decode cX4_limits 3 = .ok (.istore_n 2, 1) := by decide +kernel
theorem dX4_limits_4 : decode cX4_limits 4 = .ok (.iload_n 2, 1) := by decide +kernel
theorem dX4_limits_5 : decode cX4_limits 5 = .ok (.sipush 256, 3) := by decide +kernel
theorem dX4_limits_8 : decode cX4_limits 8 = .ok (.if_icmp .ge 26, 3) := by decide +kernel
theorem dX4_limits_11 : decode cX4_limits 11 = .ok (.iload_n 1, 1) := by decide +kernel
theorem dX4_limits_12 : decode cX4_limits 12 = .ok (.aload_n 0, 1) := by decide +kernel
theorem dX4_limits_13 : decode cX4_limits 13 = .ok (.getfield 13, 3) := by decide +kernel
theorem dX4_limits_16 : decode cX4_limits 16 = .ok (.iload_n 2, 1) := by decide +kernel
theorem dX4_limits_17 : decode cX4_limits 17 = .ok (.baload, 1) := by decide +kernel
theorem dX4_limits_18 : decode cX4_limits 18 = .ok (.ifCond .eq 7, 3) := by decide +kernel
theorem dX4_limits_21 : decode cX4_limits 21 = .ok (.iconst 1, 1) := by decide +kernel
theorem dX4_limits_22 : decode cX4_limits 22 = .ok (.goto 4, 3) := by decide +kernel
theorem dX4_limits_25 : decode cX4_limits 25 = .ok (.iconst 0, 1) := by decide +kernel
theorem dX4_limits_26 : decode cX4_limits 26 = .ok (.iadd, 1) := by decide +kernel
theorem dX4_limits_27 : decode cX4_limits 27 = .ok (.istore_n 1, 1) := by decide +kernel
theorem dX4_limits_28 : decode cX4_limits 28 = .ok (.iinc 2 1, 3) := by decide +kernel
theorem dX4_limits_31 : decode cX4_limits 31 = .ok (.goto (-27), 3) := by decide +kernel
theorem dX4_limits_34 : decode cX4_limits 34 = .ok (.iload_n 1, 1) := by decide +kernel
theorem dX4_limits_35 : decode cX4_limits 35 = .ok (.ireturn, 1) := by decide +kernel
theorem dX4_remove_0 : decode cX4_remove 0 = .ok (.aload_n 0, 1) := by decide +kernel
theorem dX4_remove_1 : decode cX4_remove 1 = .ok (.iconst 0, 1) := by decide +kernel
theorem dX4_remove_2 : decode cX4_remove 2 = .ok (.putfield 63, 3) := by decide +kernel
theorem dX4_remove_5 : decode cX4_remove 5 = .ok (.aload_n 0, 1) := by decide +kernel
theorem dX4_remove_6 : decode cX4_remove 6 = .ok (.iload_n 1, 1) := by decide +kernel
theorem dX4_remove_7 : decode cX4_remove 7 = .ok (.invokevirtual 75, 3) := by decide +kernel
theorem dX4_remove_10 : decode cX4_remove 10 = .ok (.ifCond .ne 6, 3) := by decide +kernel
theorem dX4_remove_13 : decode cX4_remove 13 = .ok (.bipush 27, 2) := by decide +kernel
theorem dX4_remove_15 : decode cX4_remove 15 = .ok (.ireturn, 1) := by decide +kernel
theorem dX4_remove_16 : decode cX4_remove 16 = .ok (.aload_n 0, 1) := by decide +kernel
theorem dX4_remove_17 : decode cX4_remove 17 = .ok (.getfield 13, 3) := by decide +kernel
theorem dX4_remove_20 : decode cX4_remove 20 = .ok (.iload_n 1, 1) := by decide +kernel
theorem dX4_remove_21 : decode cX4_remove 21 = .ok (.aload_n 0, 1) := by decide +kernel
theorem dX4_remove_22 : decode cX4_remove 22 = .ok (.getfield 17, 3) := by decide +kernel
theorem dX4_remove_25 : decode cX4_remove 25 = .ok (.iload_n 1, 1) := by decide +kernel
theorem dX4_remove_26 : decode cX4_remove 26 = .ok (.baload, 1) := by decide +kernel
theorem dX4_remove_27 : decode cX4_remove 27 = .ok (.bastore, 1) := by decide +kernel
theorem dX4_remove_28 : decode cX4_remove 28 = .ok (.aload_n 0, 1) := by decide +kernel
theorem dX4_remove_29 : decode cX4_remove 29 = .ok (.getfield 17, 3) := by decide +kernel
theorem dX4_remove_32 : decode cX4_remove 32 = .ok (.iload_n 1, 1) := by decide +kernel
theorem dX4_remove_33 : decode cX4_remove 33 = .ok (.baload, 1) := by decide +kernel
theorem dX4_remove_34 : decode cX4_remove 34 = .ok (.ifCond .eq 8, 3) := by decide +kernel
theorem dX4_remove_37 : decode cX4_remove 37 = .ok (.bipush 15, 2) := by decide +kernel
theorem dX4_remove_39 : decode cX4_remove 39 = .ok (.goto 4, 3) := by decide +kernel
theorem dX4_remove_42 : decode cX4_remove 42 = .ok (.iconst 0, 1) := by decide +kernel
theorem dX4_remove_43 : decode cX4_remove 43 = .ok (.ireturn, 1) := by decide +kernel
theorem dX4_isThere_0 : decode cX4_isThere 0 = .ok (.iload_n 1, 1) := by decide +kernel
theorem dX4_isThere_1 : decode cX4_isThere 1 = .ok (.ifCond .lt 23, 3) := by decide +kernel
theorem dX4_isThere_4 : decode cX4_isThere 4 = .ok (.iload_n 1, 1) := by decide +kernel
theorem dX4_isThere_5 : decode cX4_isThere 5 = .ok (.sipush 256, 3) := by decide +kernel
theorem dX4_isThere_8 : decode cX4_isThere 8 = .ok (.if_icmp .ge 16, 3) := by decide +kernel
theorem dX4_isThere_11 : decode cX4_isThere 11 = .ok (.aload_n 0, 1) := by decide +kernel
theorem dX4_isThere_12 : decode cX4_isThere 12 = .ok (.getfield 13, 3) := by decide +kernel
theorem dX4_isThere_15 : decode cX4_isThere 15 = .ok (.iload_n 1, 1) := by decide +kernel
theorem dX4_isThere_16 : decode cX4_isThere 16 = .ok (.baload, 1) := by decide +kernel
theorem dX4_isThere_17 : decode cX4_isThere 17 = .ok (.ifCond .eq 7, 3) := by decide +kernel
theorem dX4_isThere_20 : decode cX4_isThere 20 = .ok (.iconst 1, 1) := by decide +kernel
theorem dX4_isThere_21 : decode cX4_isThere 21 = .ok (.goto 4, 3) := by decide +kernel
theorem dX4_isThere_24 : decode cX4_isThere 24 = .ok (.iconst 0, 1) := by decide +kernel
theorem dX4_isThere_25 : decode cX4_isThere 25 = .ok (.ireturn, 1) := by decide +kernel
theorem dX4_enable_0 : decode cX4_enable 0 = .ok (.aload_n 0, 1) := by decide +kernel
theorem dX4_enable_1 : decode cX4_enable 1 = .ok (.iconst 0, 1) := by decide +kernel
theorem dX4_enable_2 : decode cX4_enable 2 = .ok (.putfield 63, 3) := by decide +kernel
theorem dX4_enable_5 : decode cX4_enable 5 = .ok (.aload_n 0, 1) := by decide +kernel
theorem dX4_enable_6 : decode cX4_enable 6 = .ok (.iload_n 1, 1) := by decide +kernel
theorem dX4_enable_7 : decode cX4_enable 7 = .ok (.invokevirtual 75, 3) := by decide +kernel
theorem dX4_enable_10 : decode cX4_enable 10 = .ok (.ifCond .ne 6, 3) := by decide +kernel
theorem dX4_enable_13 : decode cX4_enable 13 = .ok (.bipush 27, 2) := by decide +kernel
theorem dX4_enable_15 : decode cX4_enable 15 = .ok (.ireturn, 1) := by decide +kernel
theorem dX4_enable_16 : decode cX4_enable 16 = .ok (.aload_n 0, 1) := by decide +kernel
theorem dX4_enable_17 : decode cX4_enable 17 = .ok (.getfield 17, 3) := by decide +kernel
theorem dX4_enable_20 : decode cX4_enable 20 = .ok (.iload_n 1, 1) := by decide +kernel
theorem dX4_enable_21 : decode cX4_enable 21 = .ok (.iload_n 2, 1) := by decide +kernel
theorem dX4_enable_22 : decode cX4_enable 22 = .ok (.bastore, 1) := by decide +kernel
theorem dX4_enable_23 : decode cX4_enable 23 = .ok (.aload_n 0, 1) := by decide +kernel
theorem dX4_enable_24 : decode cX4_enable 24 = .ok (.getfield 38, 3) := by decide +kernel
theorem dX4_enable_27 : decode cX4_enable 27 = .ok (.iload_n 1, 1) := by decide +kernel
theorem dX4_enable_28 : decode cX4_enable 28 = .ok (.iconst 0, 1) := by decide +kernel
theorem dX4_enable_29 : decode cX4_enable 29 = .ok (.iastore, 1) := by decide +kernel
theorem dX4_enable_30 : decode cX4_enable 30 = .ok (.iconst 0, 1) := by decide +kernel
theorem dX4_enable_31 : decode cX4_enable 31 = .ok (.ireturn, 1) := by decide +kernel
theorem dX4_watch_0 : decode cX4_watch 0 = .ok (.aload_n 0, 1) := by decide +kernel
theorem dX4_watch_1 : decode cX4_watch 1 = .ok (.iconst 0, 1) := by decide +kernel
theorem dX4_watch_2 : decode cX4_watch 2 = .ok (.putfield 63, 3) := by decide +kernel
theorem dX4_watch_5 : decode cX4_watch 5 = .ok (.iconst 0, 1) := by decide +kernel
theorem dX4_watch_6 : decode cX4_watch 6 = .ok (.istore_n 1, 1) := by decide +kernel
theorem dX4_watch_7 : decode cX4_watch 7 = .ok (.aload_n 0, 1) := by decide +kernel
theorem dX4_watch_8 : decode cX4_watch 8 = .ok (.iconst 0, 1) := by decide +kernel
theorem dX4_watch_9 : decode cX4_watch 9 = .ok (.putfield 85, 3) := by decide +kernel
theorem dX4_watch_12 : decode cX4_watch 12 = .ok (.iconst 0, 1) := by decide +kernel
theorem dX4_watch_13 : decode cX4_watch 13 = .ok (.istore_n 2, 1) := by decide +kernel
theorem dX4_watch_14 : decode cX4_watch 14 = .ok (.iload_n 2, 1) := by decide +kernel
theorem dX4_watch_15 : decode cX4_watch 15 = .ok (.sipush 256, 3) := by decide +kernel
theorem dX4_watch_18 : decode cX4_watch 18 = .ok (.if_icmp .ge 132, 3) := by decide +kernel
theorem dX4_watch_21 : decode cX4_watch 21 = .ok (.aload_n 0, 1) := by decide +kernel
theorem dX4_watch_22 : decode cX4_watch 22 = .ok (.getfield 7, 3) := by decide +kernel
theorem dX4_watch_25 : decode cX4_watch 25 = .ok (.aload_n 0, 1) := by decide +kernel
theorem dX4_watch_26 : decode cX4_watch 26 = .ok (.getfield 23, 3) := by decide +kernel
theorem dX4_watch_29 : decode cX4_watch 29 = .ok (.iload_n 2, 1) := by decide +kernel
theorem dX4_watch_30 : decode cX4_watch 30 = .ok (.iaload, 1) := by decide +kernel
theorem dX4_watch_31 : decode cX4_watch 31 = .ok (.iaload, 1) := by decide +kernel
theorem dX4_watch_32 : decode cX4_watch 32 = .ok (.istore_n 3, 1) := by decide +kernel
theorem dX4_watch_33 : decode cX4_watch 33 = .ok (.aload_n 0, 1) := by decide +kernel
theorem dX4_watch_34 : decode cX4_watch 34 = .ok (.getfield 13, 3) := by decide +kernel
theorem dX4_watch_37 : decode cX4_watch 37 = .ok (.iload_n 2, 1) := by decide +kernel
theorem dX4_watch_38 : decode cX4_watch 38 = .ok (.baload, 1) := by decide +kernel
theorem dX4_watch_39 : decode cX4_watch 39 = .ok (.ifCond .eq 105, 3) := by decide +kernel
theorem dX4_watch_42 : decode cX4_watch 42 = .ok (.aload_n 0, 1) := by decide +kernel
theorem dX4_watch_43 : decode cX4_watch 43 = .ok (.getfield 17, 3) := by decide +kernel
theorem dX4_watch_46 : decode cX4_watch 46 = .ok (.iload_n 2, 1) := by decide +kernel
theorem dX4_watch_47 : decode cX4_watch 47 = .ok (.baload, 1) := by decide +kernel
theorem dX4_watch_48 : decode cX4_watch 48 = .ok (.ifCond .eq 96, 3) := by decide +kernel
theorem dX4_watch_51 : decode cX4_watch 51 = .ok (.aload_n 0, 1) := by decide +kernel
theorem dX4_watch_52 : decode cX4_watch 52 = .ok (.getfield 38, 3) := by decide +kernel
theorem dX4_watch_55 : decode cX4_watch 55 = .ok (.iload_n 2, 1) := by decide +kernel
theorem dX4_watch_56 : decode cX4_watch 56 = .ok (.iload_n 3, 1) := by decide +kernel
theorem dX4_watch_57 : decode cX4_watch 57 = .ok (.aload_n 0, 1) := by decide +kernel
theorem dX4_watch_58 : decode cX4_watch 58 = .ok (.getfield 29, 3) := by decide +kernel
theorem dX4_watch_61 : decode cX4_watch 61 = .ok (.iload_n 2, 1) := by decide +kernel
theorem dX4_watch_62 : decode cX4_watch 62 = .ok (.iaload, 1) := by decide +kernel
theorem dX4_watch_63 : decode cX4_watch 63 = .ok (.aload_n 0, 1) := by decide +kernel
theorem dX4_watch_64 : decode cX4_watch 64 = .ok (.getfield 32, 3) := by decide +kernel
theorem dX4_watch_67 : decode cX4_watch 67 = .ok (.iload_n 2, 1) := by decide +kernel
theorem dX4_watch_68 : decode cX4_watch 68 = .ok (.iaload, 1) := by decide +kernel
theorem dX4_watch_69 : decode cX4_watch 69 = .ok (.invokestatic 67, 3) := by decide +kernel
theorem dX4_watch_72 : decode cX4_watch 72 = .ok (.ifCond .eq 7, 3) := by decide +kernel
theorem dX4_watch_75 : decode cX4_watch 75 = .ok (.iconst 0, 1) := by decide +kernel
theorem dX4_watch_76 : decode cX4_watch 76 = .ok (.goto 11, 3) := by decide +kernel
theorem dX4_watch_79 : decode cX4_watch 79 = .ok (.aload_n 0, 1) := by decide +kernel
theorem dX4_watch_80 : decode cX4_watch 80 = .ok (.getfield 38, 3) := by decide +kernel
theorem dX4_watch_83 : decode cX4_watch 83 = .ok (.iload_n 2, 1) := by decide +kernel
theorem dX4_watch_84 : decode cX4_watch 84 = .ok (.iaload, 1) := by decide +kernel
theorem dX4_watch_85 : decode cX4_watch 85 = .ok (.iconst 1, 1) := by decide +kernel
theorem dX4_watch_86 : decode cX4_watch 86 = .ok (.iadd, 1) := by decide +kernel
theorem dX4_watch_87 : decode cX4_watch 87 = .ok (.iastore, 1) := by decide +kernel
theorem dX4_watch_88 : decode cX4_watch 88 = .ok (.aload_n 0, 1) := by decide +kernel
theorem dX4_watch_89 : decode cX4_watch 89 = .ok (.getfield 38, 3) := by decide +kernel
theorem dX4_watch_92 : decode cX4_watch 92 = .ok (.iload_n 2, 1) := by decide +kernel
theorem dX4_watch_93 : decode cX4_watch 93 = .ok (.iaload, 1) := by decide +kernel
theorem dX4_watch_94 : decode cX4_watch 94 = .ok (.aload_n 0, 1) := by decide +kernel
theorem dX4_watch_95 : decode cX4_watch 95 = .ok (.getfield 26, 3) := by decide +kernel
theorem dX4_watch_98 : decode cX4_watch 98 = .ok (.iload_n 2, 1) := by decide +kernel
theorem dX4_watch_99 : decode cX4_watch 99 = .ok (.iaload, 1) := by decide +kernel
theorem dX4_watch_100 : decode cX4_watch 100 = .ok (.if_icmp .ne 44, 3) := by decide +kernel
theorem dX4_watch_103 : decode cX4_watch 103 = .ok (.aload_n 0, 1) := by decide +kernel
theorem dX4_watch_104 : decode cX4_watch 104 = .ok (.aload_n 0, 1) := by decide +kernel
theorem dX4_watch_105 : decode cX4_watch 105 = .ok (.getfield 35, 3) := by decide +kernel
theorem dX4_watch_108 : decode cX4_watch 108 = .ok (.iload_n 2, 1) := by decide +kernel
theorem dX4_watch_109 : decode cX4_watch 109 = .ok (.iaload, 1) := by decide +kernel
theorem dX4_watch_110 : decode cX4_watch 110 = .ok (.iload_n 3, 1) := by decide +kernel
theorem dX4_watch_111 : decode cX4_watch 111 = .ok (.invokevirtual 89, 3) := by decide +kernel
theorem dX4_watch_114 : decode cX4_watch 114 = .ok (.istore 4, 2) := by decide +kernel
theorem dX4_watch_116 : decode cX4_watch 116 = .ok (.aload_n 0, 1) := by decide +kernel
theorem dX4_watch_117 : decode cX4_watch 117 = .ok (.aload_n 0, 1) := by decide +kernel
theorem dX4_watch_118 : decode cX4_watch 118 = .ok (.getfield 85, 3) := by decide +kernel
theorem dX4_watch_121 : decode cX4_watch 121 = .ok (.ifCond .ne 12, 3) := by decide +kernel
theorem dX4_watch_124 : decode cX4_watch 124 = .ok (.aload_n 0, 1) := by decide +kernel
theorem dX4_watch_125 : decode cX4_watch 125 = .ok (.getfield 20, 3) := by decide +kernel
theorem dX4_watch_128 : decode cX4_watch 128 = .ok (.iload_n 2, 1) := by decide +kernel
theorem dX4_watch_129 : decode cX4_watch 129 = .ok (.baload, 1) := by decide +kernel
theorem dX4_watch_130 : decode cX4_watch 130 = .ok (.ifCond .eq 7, 3) := by decide +kernel
theorem dX4_watch_133 : decode cX4_watch 133 = .ok (.iconst 1, 1) := by decide +kernel
theorem dX4_watch_134 : decode cX4_watch 134 = .ok (.goto 4, 3) := by decide +kernel
theorem dX4_watch_137 : decode cX4_watch 137 = .ok (.iconst 0, 1) := by decide +kernel
theorem dX4_watch_138 : decode cX4_watch 138 = .ok (.putfield 85, 3) := by decide +kernel
theorem dX4_watch_141 : decode cX4_watch 141 = .ok (.iinc 1 1, 3) := by decide +kernel
theorem dX4_watch_144 : decode cX4_watch 144 = .ok (.iinc 2 1, 3) := by decide +kernel
theorem dX4_watch_147 : decode cX4_watch 147 = .ok (.goto (-133), 3) := by decide +kernel
theorem dX4_watch_150 : decode cX4_watch 150 = .ok (.aload_n 0, 1) := by decide +kernel
theorem dX4_watch_151 : decode cX4_watch 151 = .ok (.dup, 1) := by decide +kernel
theorem dX4_watch_152 : decode cX4_watch 152 = .ok (.getfield 93, 3) := by decide +kernel
theorem dX4_watch_155 : decode cX4_watch 155 = .ok (.iload_n 1, 1) := by decide +kernel
theorem dX4_watch_156 : decode cX4_watch 156 = .ok (.iadd, 1) := by decide +kernel
theorem dX4_watch_157 : decode cX4_watch 157 = .ok (.putfield 93, 3) := by decide +kernel
theorem dX4_watch_160 : decode cX4_watch 160 = .ok (.iload_n 1, 1) := by decide +kernel
theorem dX4_watch_161 : decode cX4_watch 161 = .ok (.ireturn, 1) := by decide +kernel
theorem dX4_waits_0 : decode cX4_waits 0 = .ok (.aload_n 0, 1) := by decide +kernel
theorem dX4_waits_1 : decode cX4_waits 1 = .ok (.getfield 79, 3) := by decide +kernel
theorem dX4_waits_4 : decode cX4_waits 4 = .ok (.bipush 64, 2) := by decide +kernel
theorem dX4_waits_6 : decode cX4_waits 6 = .ok (.if_icmp .ne 15, 3) := by decide +kernel
theorem dX4_waits_9 : decode cX4_waits 9 = .ok (.aload_n 0, 1) := by decide +kernel
theorem dX4_waits_10 : decode cX4_waits 10 = .ok (.dup, 1) := by decide +kernel
theorem dX4_waits_11 : decode cX4_waits 11 = .ok (.getfield 82, 3) := by decide +kernel
theorem dX4_waits_14 : decode cX4_waits 14 = .ok (.iconst 1, 1) := by decide +kernel
theorem dX4_waits_15 : decode cX4_waits 15 = .ok (.iadd, 1) := by decide +kernel
theorem dX4_waits_16 : decode cX4_waits 16 = .ok (.putfield 82, 3) := by decide +kernel
theorem dX4_waits_19 : decode cX4_waits 19 = .ok (.iconst 0, 1) := by decide +kernel
theorem dX4_waits_20 : decode cX4_waits 20 = .ok (.ireturn, 1) := by decide +kernel
theorem dX4_waits_21 : decode cX4_waits 21 = .ok (.aload_n 0, 1) := by decide +kernel
theorem dX4_waits_22 : decode cX4_waits 22 = .ok (.getfield 41, 3) := by decide +kernel
theorem dX4_waits_25 : decode cX4_waits 25 = .ok (.aload_n 0, 1) := by decide +kernel
theorem dX4_waits_26 : decode cX4_waits 26 = .ok (.getfield 79, 3) := by decide +kernel
theorem dX4_waits_29 : decode cX4_waits 29 = .ok (.iload_n 1, 1) := by decide +kernel
theorem dX4_waits_30 : decode cX4_waits 30 = .ok (.iastore, 1) := by decide +kernel
theorem dX4_waits_31 : decode cX4_waits 31 = .ok (.aload_n 0, 1) := by decide +kernel
theorem dX4_waits_32 : decode cX4_waits 32 = .ok (.getfield 44, 3) := by decide +kernel
theorem dX4_waits_35 : decode cX4_waits 35 = .ok (.aload_n 0, 1) := by decide +kernel
theorem dX4_waits_36 : decode cX4_waits 36 = .ok (.getfield 79, 3) := by decide +kernel
theorem dX4_waits_39 : decode cX4_waits 39 = .ok (.iload_n 2, 1) := by decide +kernel
theorem dX4_waits_40 : decode cX4_waits 40 = .ok (.iastore, 1) := by decide +kernel
theorem dX4_waits_41 : decode cX4_waits 41 = .ok (.aload_n 0, 1) := by decide +kernel
theorem dX4_waits_42 : decode cX4_waits 42 = .ok (.dup, 1) := by decide +kernel
theorem dX4_waits_43 : decode cX4_waits 43 = .ok (.getfield 79, 3) := by decide +kernel
theorem dX4_waits_46 : decode cX4_waits 46 = .ok (.iconst 1, 1) := by decide +kernel
theorem dX4_waits_47 : decode cX4_waits 47 = .ok (.iadd, 1) := by decide +kernel
theorem dX4_waits_48 : decode cX4_waits 48 = .ok (.putfield 79, 3) := by decide +kernel
theorem dX4_waits_51 : decode cX4_waits 51 = .ok (.iconst 1, 1) := by decide +kernel
theorem dX4_waits_52 : decode cX4_waits 52 = .ok (.ireturn, 1) := by decide +kernel
theorem dX4_linked_0 : decode cX4_linked 0 = .ok (.aload_n 0, 1) := by decide +kernel
theorem dX4_linked_1 : decode cX4_linked 1 = .ok (.iconst 0, 1) := by decide +kernel
theorem dX4_linked_2 : decode cX4_linked 2 = .ok (.putfield 63, 3) := by decide +kernel
theorem dX4_linked_5 : decode cX4_linked 5 = .ok (.aload_n 0, 1) := by decide +kernel
theorem dX4_linked_6 : decode cX4_linked 6 = .ok (.getfield 85, 3) := by decide +kernel
theorem dX4_linked_9 : decode cX4_linked 9 = .ok (.ireturn, 1) := by decide +kernel
theorem dX4_raise_0 : decode cX4_raise 0 = .ok (.aload_n 0, 1) := by decide +kernel
theorem dX4_raise_1 : decode cX4_raise 1 = .ok (.iconst 0, 1) := by decide +kernel
theorem dX4_raise_2 : decode cX4_raise 2 = .ok (.putfield 63, 3) := by decide +kernel
theorem dX4_raise_5 : decode cX4_raise 5 = .ok (.iload_n 1, 1) := by decide +kernel
theorem dX4_raise_6 : decode cX4_raise 6 = .ok (.invokestatic 96, 3) := by decide +kernel
theorem dX4_raise_9 : decode cX4_raise 9 = .ok (.ifCond .eq 16, 3) := by decide +kernel
theorem dX4_raise_12 : decode cX4_raise 12 = .ok (.aload_n 0, 1) := by decide +kernel
theorem dX4_raise_13 : decode cX4_raise 13 = .ok (.iload_n 1, 1) := by decide +kernel
theorem dX4_raise_14 : decode cX4_raise 14 = .ok (.iload_n 2, 1) := by decide +kernel
theorem dX4_raise_15 : decode cX4_raise 15 = .ok (.invokevirtual 89, 3) := by decide +kernel
theorem dX4_raise_18 : decode cX4_raise 18 = .ok (.ifCond .eq 7, 3) := by decide +kernel
theorem dX4_raise_21 : decode cX4_raise 21 = .ok (.iconst 1, 1) := by decide +kernel
theorem dX4_raise_22 : decode cX4_raise 22 = .ok (.goto 4, 3) := by decide +kernel
theorem dX4_raise_25 : decode cX4_raise 25 = .ok (.iconst 0, 1) := by decide +kernel
theorem dX4_raise_26 : decode cX4_raise 26 = .ok (.ireturn, 1) := by decide +kernel
theorem dX4_isEvent_0 : decode cX4_isEvent 0 = .ok (.iload_n 0, 1) := by decide +kernel
theorem dX4_isEvent_1 : decode cX4_isEvent 1 = .ok (.iconst 0, 1) := by decide +kernel
theorem dX4_isEvent_2 : decode cX4_isEvent 2 = .ok (.bipush 31, 2) := by decide +kernel
theorem dX4_isEvent_4 : decode cX4_isEvent 4 = .ok (.invokestatic 67, 3) := by decide +kernel
theorem dX4_isEvent_7 : decode cX4_isEvent 7 = .ok (.ireturn, 1) := by decide +kernel
theorem dX4_work_0 : decode cX4_work 0 = .ok (.aload_n 0, 1) := by decide +kernel
theorem dX4_work_1 : decode cX4_work 1 = .ok (.iconst 0, 1) := by decide +kernel
theorem dX4_work_2 : decode cX4_work 2 = .ok (.putfield 63, 3) := by decide +kernel
theorem dX4_work_5 : decode cX4_work 5 = .ok (.aload_n 0, 1) := by decide +kernel
theorem dX4_work_6 : decode cX4_work 6 = .ok (.getfield 79, 3) := by decide +kernel
theorem dX4_work_9 : decode cX4_work 9 = .ok (.ifCond .ne 5, 3) := by decide +kernel
theorem dX4_work_12 : decode cX4_work 12 = .ok (.iconst (-1), 1) := by decide +kernel
theorem dX4_work_13 : decode cX4_work 13 = .ok (.ireturn, 1) := by decide +kernel
theorem dX4_work_14 : decode cX4_work 14 = .ok (.aload_n 0, 1) := by decide +kernel
theorem dX4_work_15 : decode cX4_work 15 = .ok (.getfield 41, 3) := by decide +kernel
theorem dX4_work_18 : decode cX4_work 18 = .ok (.iconst 0, 1) := by decide +kernel
theorem dX4_work_19 : decode cX4_work 19 = .ok (.iaload, 1) := by decide +kernel
theorem dX4_work_20 : decode cX4_work 20 = .ok (.istore_n 1, 1) := by decide +kernel
theorem dX4_work_21 : decode cX4_work 21 = .ok (.aload_n 0, 1) := by decide +kernel
theorem dX4_work_22 : decode cX4_work 22 = .ok (.aload_n 0, 1) := by decide +kernel
theorem dX4_work_23 : decode cX4_work 23 = .ok (.getfield 44, 3) := by decide +kernel
theorem dX4_work_26 : decode cX4_work 26 = .ok (.iconst 0, 1) := by decide +kernel
theorem dX4_work_27 : decode cX4_work 27 = .ok (.iaload, 1) := by decide +kernel
theorem dX4_work_28 : decode cX4_work 28 = .ok (.putfield 99, 3) := by decide +kernel
theorem dX4_work_31 : decode cX4_work 31 = .ok (.aload_n 0, 1) := by decide +kernel
theorem dX4_work_32 : decode cX4_work 32 = .ok (.dup, 1) := by decide +kernel
theorem dX4_work_33 : decode cX4_work 33 = .ok (.getfield 79, 3) := by decide +kernel
theorem dX4_work_36 : decode cX4_work 36 = .ok (.iconst 1, 1) := by decide +kernel
theorem dX4_work_37 : decode cX4_work 37 = .ok (.isub, 1) := by decide +kernel
theorem dX4_work_38 : decode cX4_work 38 = .ok (.putfield 79, 3) := by decide +kernel
theorem dX4_work_41 : decode cX4_work 41 = .ok (.iconst 0, 1) := by decide +kernel
theorem dX4_work_42 : decode cX4_work 42 = .ok (.istore_n 2, 1) := by decide +kernel
theorem dX4_work_43 : decode cX4_work 43 = .ok (.iload_n 2, 1) := by decide +kernel
theorem dX4_work_44 : decode cX4_work 44 = .ok (.aload_n 0, 1) := by decide +kernel
theorem dX4_work_45 : decode cX4_work 45 = .ok (.getfield 79, 3) := by decide +kernel
theorem dX4_work_48 : decode cX4_work 48 = .ok (.if_icmp .ge 37, 3) := by decide +kernel
theorem dX4_work_51 : decode cX4_work 51 = .ok (.aload_n 0, 1) := by decide +kernel
theorem dX4_work_52 : decode cX4_work 52 = .ok (.getfield 41, 3) := by decide +kernel
theorem dX4_work_55 : decode cX4_work 55 = .ok (.iload_n 2, 1) := by decide +kernel
theorem dX4_work_56 : decode cX4_work 56 = .ok (.aload_n 0, 1) := by decide +kernel
theorem dX4_work_57 : decode cX4_work 57 = .ok (.getfield 41, 3) := by decide +kernel
theorem dX4_work_60 : decode cX4_work 60 = .ok (.iload_n 2, 1) := by decide +kernel
theorem dX4_work_61 : decode cX4_work 61 = .ok (.iconst 1, 1) := by decide +kernel
theorem dX4_work_62 : decode cX4_work 62 = .ok (.iadd, 1) := by decide +kernel
theorem dX4_work_63 : decode cX4_work 63 = .ok (.iaload, 1) := by decide +kernel
theorem dX4_work_64 : decode cX4_work 64 = .ok (.iastore, 1) := by decide +kernel
theorem dX4_work_65 : decode cX4_work 65 = .ok (.aload_n 0, 1) := by decide +kernel
theorem dX4_work_66 : decode cX4_work 66 = .ok (.getfield 44, 3) := by decide +kernel
theorem dX4_work_69 : decode cX4_work 69 = .ok (.iload_n 2, 1) := by decide +kernel
theorem dX4_work_70 : decode cX4_work 70 = .ok (.aload_n 0, 1) := by decide +kernel
theorem dX4_work_71 : decode cX4_work 71 = .ok (.getfield 44, 3) := by decide +kernel
theorem dX4_work_74 : decode cX4_work 74 = .ok (.iload_n 2, 1) := by decide +kernel
theorem dX4_work_75 : decode cX4_work 75 = .ok (.iconst 1, 1) := by decide +kernel
theorem dX4_work_76 : decode cX4_work 76 = .ok (.iadd, 1) := by decide +kernel
theorem dX4_work_77 : decode cX4_work 77 = .ok (.iaload, 1) := by decide +kernel
theorem dX4_work_78 : decode cX4_work 78 = .ok (.iastore, 1) := by decide +kernel
theorem dX4_work_79 : decode cX4_work 79 = .ok (.iinc 2 1, 3) := by decide +kernel
theorem dX4_work_82 : decode cX4_work 82 = .ok (.goto (-39), 3) := by decide +kernel
theorem dX4_work_85 : decode cX4_work 85 = .ok (.iload_n 1, 1) := by decide +kernel
theorem dX4_work_86 : decode cX4_work 86 = .ok (.ireturn, 1) := by decide +kernel
theorem dX4_lose_0 : decode cX4_lose 0 = .ok (.aload_n 0, 1) := by decide +kernel
theorem dX4_lose_1 : decode cX4_lose 1 = .ok (.iconst 0, 1) := by decide +kernel
theorem dX4_lose_2 : decode cX4_lose 2 = .ok (.putfield 63, 3) := by decide +kernel
theorem dX4_lose_5 : decode cX4_lose 5 = .ok (.aload_n 0, 1) := by decide +kernel
theorem dX4_lose_6 : decode cX4_lose 6 = .ok (.getfield 79, 3) := by decide +kernel
theorem dX4_lose_9 : decode cX4_lose 9 = .ok (.istore_n 1, 1) := by decide +kernel
theorem dX4_lose_10 : decode cX4_lose 10 = .ok (.aload_n 0, 1) := by decide +kernel
theorem dX4_lose_11 : decode cX4_lose 11 = .ok (.iconst 0, 1) := by decide +kernel
theorem dX4_lose_12 : decode cX4_lose 12 = .ok (.putfield 79, 3) := by decide +kernel
theorem dX4_lose_15 : decode cX4_lose 15 = .ok (.aload_n 0, 1) := by decide +kernel
theorem dX4_lose_16 : decode cX4_lose 16 = .ok (.dup, 1) := by decide +kernel
theorem dX4_lose_17 : decode cX4_lose 17 = .ok (.getfield 82, 3) := by decide +kernel
theorem dX4_lose_20 : decode cX4_lose 20 = .ok (.iload_n 1, 1) := by decide +kernel
theorem dX4_lose_21 : decode cX4_lose 21 = .ok (.iadd, 1) := by decide +kernel
theorem dX4_lose_22 : decode cX4_lose 22 = .ok (.putfield 82, 3) := by decide +kernel
theorem dX4_lose_25 : decode cX4_lose 25 = .ok (.iload_n 1, 1) := by decide +kernel
theorem dX4_lose_26 : decode cX4_lose 26 = .ok (.ireturn, 1) := by decide +kernel
theorem dX4_tell_0 : decode cX4_tell 0 = .ok (.aload_n 0, 1) := by decide +kernel
theorem dX4_tell_1 : decode cX4_tell 1 = .ok (.iconst 0, 1) := by decide +kernel
theorem dX4_tell_2 : decode cX4_tell 2 = .ok (.putfield 63, 3) := by decide +kernel
theorem dX4_tell_5 : decode cX4_tell 5 = .ok (.iload_n 1, 1) := by decide +kernel
theorem dX4_tell_6 : decode cX4_tell 6 = .ok (.invokestatic 96, 3) := by decide +kernel
theorem dX4_tell_9 : decode cX4_tell 9 = .ok (.ifCond .ne 6, 3) := by decide +kernel
theorem dX4_tell_12 : decode cX4_tell 12 = .ok (.bipush 16, 2) := by decide +kernel
theorem dX4_tell_14 : decode cX4_tell 14 = .ok (.ireturn, 1) := by decide +kernel
theorem dX4_tell_15 : decode cX4_tell 15 = .ok (.aload_n 0, 1) := by decide +kernel
theorem dX4_tell_16 : decode cX4_tell 16 = .ok (.getfield 47, 3) := by decide +kernel
theorem dX4_tell_19 : decode cX4_tell 19 = .ok (.iload_n 1, 1) := by decide +kernel
theorem dX4_tell_20 : decode cX4_tell 20 = .ok (.iload_n 2, 1) := by decide +kernel
theorem dX4_tell_21 : decode cX4_tell 21 = .ok (.ifCond .ne 7, 3) := by decide +kernel
theorem dX4_tell_24 : decode cX4_tell 24 = .ok (.iconst 1, 1) := by decide +kernel
theorem dX4_tell_25 : decode cX4_tell 25 = .ok (.goto 4, 3) := by decide +kernel
theorem dX4_tell_28 : decode cX4_tell 28 = .ok (.iconst 0, 1) := by decide +kernel
theorem dX4_tell_29 : decode cX4_tell 29 = .ok (.bastore, 1) := by decide +kernel
theorem dX4_tell_30 : decode cX4_tell 30 = .ok (.iconst 0, 1) := by decide +kernel
theorem dX4_tell_31 : decode cX4_tell 31 = .ok (.ireturn, 1) := by decide +kernel
theorem dX4_put_0 : decode cX4_put 0 = .ok (.aload_n 0, 1) := by decide +kernel
theorem dX4_put_1 : decode cX4_put 1 = .ok (.iconst 0, 1) := by decide +kernel
theorem dX4_put_2 : decode cX4_put 2 = .ok (.putfield 63, 3) := by decide +kernel
theorem dX4_put_5 : decode cX4_put 5 = .ok (.aload_n 0, 1) := by decide +kernel
theorem dX4_put_6 : decode cX4_put 6 = .ok (.getfield 102, 3) := by decide +kernel
theorem dX4_put_9 : decode cX4_put 9 = .ok (.sipush 256, 3) := by decide +kernel
theorem dX4_put_12 : decode cX4_put 12 = .ok (.if_icmp .ne 5, 3) := by decide +kernel
theorem dX4_put_15 : decode cX4_put 15 = .ok (.iconst (-1), 1) := by decide +kernel
theorem dX4_put_16 : decode cX4_put 16 = .ok (.ireturn, 1) := by decide +kernel
theorem dX4_put_17 : decode cX4_put 17 = .ok (.aload_n 0, 1) := by decide +kernel
theorem dX4_put_18 : decode cX4_put 18 = .ok (.getfield 60, 3) := by decide +kernel
theorem dX4_put_21 : decode cX4_put 21 = .ok (.aload_n 0, 1) := by decide +kernel
theorem dX4_put_22 : decode cX4_put 22 = .ok (.getfield 102, 3) := by decide +kernel
theorem dX4_put_25 : decode cX4_put 25 = .ok (.iload_n 1, 1) := by decide +kernel
theorem dX4_put_26 : decode cX4_put 26 = .ok (.i2b, 1) := by decide +kernel
theorem dX4_put_27 : decode cX4_put 27 = .ok (.bastore, 1) := by decide +kernel
theorem dX4_put_28 : decode cX4_put 28 = .ok (.aload_n 0, 1) := by decide +kernel
theorem dX4_put_29 : decode cX4_put 29 = .ok (.dup, 1) := by decide +kernel
theorem dX4_put_30 : decode cX4_put 30 = .ok (.getfield 102, 3) := by decide +kernel
theorem dX4_put_33 : decode cX4_put 33 = .ok (.iconst 1, 1) := by decide +kernel
theorem dX4_put_34 : decode cX4_put 34 = .ok (.iadd, 1) := by decide +kernel
theorem dX4_put_35 : decode cX4_put 35 = .ok (.putfield 102, 3) := by decide +kernel
theorem dX4_put_38 : decode cX4_put 38 = .ok (.aload_n 0, 1) := by decide +kernel
theorem dX4_put_39 : decode cX4_put 39 = .ok (.getfield 102, 3) := by decide +kernel
theorem dX4_put_42 : decode cX4_put 42 = .ok (.ireturn, 1) := by decide +kernel
theorem dX4_act_0 : decode cX4_act 0 = .ok (.aload_n 0, 1) := by decide +kernel
theorem dX4_act_1 : decode cX4_act 1 = .ok (.iconst 0, 1) := by decide +kernel
theorem dX4_act_2 : decode cX4_act 2 = .ok (.putfield 63, 3) := by decide +kernel
theorem dX4_act_5 : decode cX4_act 5 = .ok (.aload_n 0, 1) := by decide +kernel
theorem dX4_act_6 : decode cX4_act 6 = .ok (.getfield 102, 3) := by decide +kernel
theorem dX4_act_9 : decode cX4_act 9 = .ok (.istore_n 2, 1) := by decide +kernel
theorem dX4_act_10 : decode cX4_act 10 = .ok (.aload_n 0, 1) := by decide +kernel
theorem dX4_act_11 : decode cX4_act 11 = .ok (.iconst 0, 1) := by decide +kernel
theorem dX4_act_12 : decode cX4_act 12 = .ok (.putfield 102, 3) := by decide +kernel
theorem dX4_act_15 : decode cX4_act 15 = .ok (.iload_n 1, 1) := by decide +kernel
theorem dX4_act_16 : decode cX4_act 16 = .ok (.invokestatic 96, 3) := by decide +kernel
theorem dX4_act_19 : decode cX4_act 19 = .ok (.ifCond .eq 16, 3) := by decide +kernel
theorem dX4_act_22 : decode cX4_act 22 = .ok (.iload_n 2, 1) := by decide +kernel
theorem dX4_act_23 : decode cX4_act 23 = .ok (.ifCond .eq 12, 3) := by decide +kernel
theorem dX4_act_26 : decode cX4_act 26 = .ok (.aload_n 0, 1) := by decide +kernel
theorem dX4_act_27 : decode cX4_act 27 = .ok (.getfield 50, 3) := by decide +kernel
theorem dX4_act_30 : decode cX4_act 30 = .ok (.iload_n 1, 1) := by decide +kernel
theorem dX4_act_31 : decode cX4_act 31 = .ok (.iaload, 1) := by decide +kernel
theorem dX4_act_32 : decode cX4_act 32 = .ok (.ifCond .le 27, 3) := by decide +kernel
theorem dX4_act_35 : decode cX4_act 35 = .ok (.iload_n 1, 1) := by decide +kernel
theorem dX4_act_36 : decode cX4_act 36 = .ok (.invokestatic 96, 3) := by decide +kernel
theorem dX4_act_39 : decode cX4_act 39 = .ok (.ifCond .ne 8, 3) := by decide +kernel
theorem dX4_act_42 : decode cX4_act 42 = .ok (.bipush 16, 2) := by decide +kernel
theorem dX4_act_44 : decode cX4_act 44 = .ok (.goto 14, 3) := by decide +kernel
theorem dX4_act_47 : decode cX4_act 47 = .ok (.iload_n 2, 1) := by decide +kernel
theorem dX4_act_48 : decode cX4_act 48 = .ok (.ifCond .ne 8, 3) := by decide +kernel
theorem dX4_act_51 : decode cX4_act 51 = .ok (.bipush 22, 2) := by decide +kernel
theorem dX4_act_53 : decode cX4_act 53 = .ok (.goto 5, 3) := by decide +kernel
theorem dX4_act_56 : decode cX4_act 56 = .ok (.bipush 29, 2) := by decide +kernel
theorem dX4_act_58 : decode cX4_act 58 = .ok (.ireturn, 1) := by decide +kernel
theorem dX4_act_59 : decode cX4_act 59 = .ok (.aload_n 0, 1) := by decide +kernel
theorem dX4_act_60 : decode cX4_act 60 = .ok (.getfield 50, 3) := by decide +kernel
theorem dX4_act_63 : decode cX4_act 63 = .ok (.iload_n 1, 1) := by decide +kernel
theorem dX4_act_64 : decode cX4_act 64 = .ok (.iload_n 2, 1) := by decide +kernel
theorem dX4_act_65 : decode cX4_act 65 = .ok (.iastore, 1) := by decide +kernel
theorem dX4_act_66 : decode cX4_act 66 = .ok (.aload_n 0, 1) := by decide +kernel
theorem dX4_act_67 : decode cX4_act 67 = .ok (.getfield 53, 3) := by decide +kernel
theorem dX4_act_70 : decode cX4_act 70 = .ok (.iload_n 1, 1) := by decide +kernel
theorem dX4_act_71 : decode cX4_act 71 = .ok (.iconst 0, 1) := by decide +kernel
theorem dX4_act_72 : decode cX4_act 72 = .ok (.bastore, 1) := by decide +kernel
theorem dX4_act_73 : decode cX4_act 73 = .ok (.iconst 0, 1) := by decide +kernel
theorem dX4_act_74 : decode cX4_act 74 = .ok (.istore_n 3, 1) := by decide +kernel
theorem dX4_act_75 : decode cX4_act 75 = .ok (.iload_n 3, 1) := by decide +kernel
theorem dX4_act_76 : decode cX4_act 76 = .ok (.iload_n 2, 1) := by decide +kernel
theorem dX4_act_77 : decode cX4_act 77 = .ok (.if_icmp .ge 27, 3) := by decide +kernel
theorem dX4_act_80 : decode cX4_act 80 = .ok (.aload_n 0, 1) := by decide +kernel
theorem dX4_act_81 : decode cX4_act 81 = .ok (.getfield 56, 3) := by decide +kernel
theorem dX4_act_84 : decode cX4_act 84 = .ok (.sipush 256, 3) := by decide +kernel
theorem dX4_act_87 : decode cX4_act 87 = .ok (.iload_n 1, 1) := by decide +kernel
theorem dX4_act_88 : decode cX4_act 88 = .ok (.imul, 1) := by decide +kernel
theorem dX4_act_89 : decode cX4_act 89 = .ok (.iload_n 3, 1) := by decide +kernel
theorem dX4_act_90 : decode cX4_act 90 = .ok (.iadd, 1) := by decide +kernel
theorem dX4_act_91 : decode cX4_act 91 = .ok (.aload_n 0, 1) := by decide +kernel
theorem dX4_act_92 : decode cX4_act 92 = .ok (.getfield 60, 3) := by decide +kernel
theorem dX4_act_95 : decode cX4_act 95 = .ok (.iload_n 3, 1) := by decide +kernel
theorem dX4_act_96 : decode cX4_act 96 = .ok (.baload, 1) := by decide +kernel
theorem dX4_act_97 : decode cX4_act 97 = .ok (.bastore, 1) := by decide +kernel
theorem dX4_act_98 : decode cX4_act 98 = .ok (.iinc 3 1, 3) := by decide +kernel
theorem dX4_act_101 : decode cX4_act 101 = .ok (.goto (-26), 3) := by decide +kernel
theorem dX4_act_104 : decode cX4_act 104 = .ok (.iconst 0, 1) := by decide +kernel
theorem dX4_act_105 : decode cX4_act 105 = .ok (.ireturn, 1) := by decide +kernel
theorem dX4_drop_0 : decode cX4_drop 0 = .ok (.aload_n 0, 1) := by decide +kernel
theorem dX4_drop_1 : decode cX4_drop 1 = .ok (.iconst 0, 1) := by decide +kernel
theorem dX4_drop_2 : decode cX4_drop 2 = .ok (.putfield 63, 3) := by decide +kernel
theorem dX4_drop_5 : decode cX4_drop 5 = .ok (.iload_n 1, 1) := by decide +kernel
theorem dX4_drop_6 : decode cX4_drop 6 = .ok (.invokestatic 96, 3) := by decide +kernel
theorem dX4_drop_9 : decode cX4_drop 9 = .ok (.ifCond .eq 21, 3) := by decide +kernel
theorem dX4_drop_12 : decode cX4_drop 12 = .ok (.aload_n 0, 1) := by decide +kernel
theorem dX4_drop_13 : decode cX4_drop 13 = .ok (.getfield 50, 3) := by decide +kernel
theorem dX4_drop_16 : decode cX4_drop 16 = .ok (.iload_n 1, 1) := by decide +kernel
theorem dX4_drop_17 : decode cX4_drop 17 = .ok (.iaload, 1) := by decide +kernel
theorem dX4_drop_18 : decode cX4_drop 18 = .ok (.ifCond .eq 12, 3) := by decide +kernel
theorem dX4_drop_21 : decode cX4_drop 21 = .ok (.aload_n 0, 1) := by decide +kernel
theorem dX4_drop_22 : decode cX4_drop 22 = .ok (.getfield 53, 3) := by decide +kernel
theorem dX4_drop_25 : decode cX4_drop 25 = .ok (.iload_n 1, 1) := by decide +kernel
theorem dX4_drop_26 : decode cX4_drop 26 = .ok (.baload, 1) := by decide +kernel
theorem dX4_drop_27 : decode cX4_drop 27 = .ok (.ifCond .eq 32, 3) := by decide +kernel
theorem dX4_drop_30 : decode cX4_drop 30 = .ok (.iload_n 1, 1) := by decide +kernel
theorem dX4_drop_31 : decode cX4_drop 31 = .ok (.invokestatic 96, 3) := by decide +kernel
theorem dX4_drop_34 : decode cX4_drop 34 = .ok (.ifCond .ne 8, 3) := by decide +kernel
theorem dX4_drop_37 : decode cX4_drop 37 = .ok (.bipush 16, 2) := by decide +kernel
theorem dX4_drop_39 : decode cX4_drop 39 = .ok (.goto 19, 3) := by decide +kernel
theorem dX4_drop_42 : decode cX4_drop 42 = .ok (.aload_n 0, 1) := by decide +kernel
theorem dX4_drop_43 : decode cX4_drop 43 = .ok (.getfield 50, 3) := by decide +kernel
theorem dX4_drop_46 : decode cX4_drop 46 = .ok (.iload_n 1, 1) := by decide +kernel
theorem dX4_drop_47 : decode cX4_drop 47 = .ok (.iaload, 1) := by decide +kernel
theorem dX4_drop_48 : decode cX4_drop 48 = .ok (.ifCond .ne 8, 3) := by decide +kernel
theorem dX4_drop_51 : decode cX4_drop 51 = .ok (.bipush 30, 2) := by decide +kernel
theorem dX4_drop_53 : decode cX4_drop 53 = .ok (.goto 5, 3) := by decide +kernel
theorem dX4_drop_56 : decode cX4_drop 56 = .ok (.bipush 15, 2) := by decide +kernel
theorem dX4_drop_58 : decode cX4_drop 58 = .ok (.ireturn, 1) := by decide +kernel
theorem dX4_drop_59 : decode cX4_drop 59 = .ok (.aload_n 0, 1) := by decide +kernel
theorem dX4_drop_60 : decode cX4_drop 60 = .ok (.getfield 50, 3) := by decide +kernel
theorem dX4_drop_63 : decode cX4_drop 63 = .ok (.iload_n 1, 1) := by decide +kernel
theorem dX4_drop_64 : decode cX4_drop 64 = .ok (.iconst 0, 1) := by decide +kernel
theorem dX4_drop_65 : decode cX4_drop 65 = .ok (.iastore, 1) := by decide +kernel
theorem dX4_drop_66 : decode cX4_drop 66 = .ok (.iconst 0, 1) := by decide +kernel
theorem dX4_drop_67 : decode cX4_drop 67 = .ok (.ireturn, 1) := by decide +kernel
theorem dX4_arm_0 : decode cX4_arm 0 = .ok (.aload_n 0, 1) := by decide +kernel
theorem dX4_arm_1 : decode cX4_arm 1 = .ok (.iconst 0, 1) := by decide +kernel
theorem dX4_arm_2 : decode cX4_arm 2 = .ok (.putfield 63, 3) := by decide +kernel
theorem dX4_arm_5 : decode cX4_arm 5 = .ok (.iload_n 1, 1) := by decide +kernel
theorem dX4_arm_6 : decode cX4_arm 6 = .ok (.invokestatic 96, 3) := by decide +kernel
theorem dX4_arm_9 : decode cX4_arm 9 = .ok (.ifCond .eq 12, 3) := by decide +kernel
theorem dX4_arm_12 : decode cX4_arm 12 = .ok (.aload_n 0, 1) := by decide +kernel
theorem dX4_arm_13 : decode cX4_arm 13 = .ok (.getfield 50, 3) := by decide +kernel
theorem dX4_arm_16 : decode cX4_arm 16 = .ok (.iload_n 1, 1) := by decide +kernel
theorem dX4_arm_17 : decode cX4_arm 17 = .ok (.iaload, 1) := by decide +kernel
theorem dX4_arm_18 : decode cX4_arm 18 = .ok (.ifCond .ne 18, 3) := by decide +kernel
theorem dX4_arm_21 : decode cX4_arm 21 = .ok (.iload_n 1, 1) := by decide +kernel
theorem dX4_arm_22 : decode cX4_arm 22 = .ok (.invokestatic 96, 3) := by decide +kernel
theorem dX4_arm_25 : decode cX4_arm 25 = .ok (.ifCond .ne 8, 3) := by decide +kernel
theorem dX4_arm_28 : decode cX4_arm 28 = .ok (.bipush 16, 2) := by decide +kernel
theorem dX4_arm_30 : decode cX4_arm 30 = .ok (.goto 5, 3) := by decide +kernel
theorem dX4_arm_33 : decode cX4_arm 33 = .ok (.bipush 30, 2) := by decide +kernel
theorem dX4_arm_35 : decode cX4_arm 35 = .ok (.ireturn, 1) := by decide +kernel
theorem dX4_arm_36 : decode cX4_arm 36 = .ok (.aload_n 0, 1) := by decide +kernel
theorem dX4_arm_37 : decode cX4_arm 37 = .ok (.getfield 53, 3) := by decide +kernel
theorem dX4_arm_40 : decode cX4_arm 40 = .ok (.iload_n 1, 1) := by decide +kernel
theorem dX4_arm_41 : decode cX4_arm 41 = .ok (.iload_n 2, 1) := by decide +kernel
theorem dX4_arm_42 : decode cX4_arm 42 = .ok (.bastore, 1) := by decide +kernel
theorem dX4_arm_43 : decode cX4_arm 43 = .ok (.iconst 0, 1) := by decide +kernel
theorem dX4_arm_44 : decode cX4_arm 44 = .ok (.ireturn, 1) := by decide +kernel
theorem dX4_limit_0 : decode cX4_limit 0 = .ok (.aload_n 0, 1) := by decide +kernel
theorem dX4_limit_1 : decode cX4_limit 1 = .ok (.iconst 0, 1) := by decide +kernel
theorem dX4_limit_2 : decode cX4_limit 2 = .ok (.putfield 63, 3) := by decide +kernel
theorem dX4_limit_5 : decode cX4_limit 5 = .ok (.aload_n 0, 1) := by decide +kernel
theorem dX4_limit_6 : decode cX4_limit 6 = .ok (.iload_n 1, 1) := by decide +kernel
theorem dX4_limit_7 : decode cX4_limit 7 = .ok (.invokevirtual 75, 3) := by decide +kernel
theorem dX4_limit_10 : decode cX4_limit 10 = .ok (.ifCond .ne 5, 3) := by decide +kernel
theorem dX4_limit_13 : decode cX4_limit 13 = .ok (.iconst (-1), 1) := by decide +kernel
theorem dX4_limit_14 : decode cX4_limit 14 = .ok (.ireturn, 1) := by decide +kernel
theorem dX4_limit_15 : decode cX4_limit 15 = .ok (.iload_n 2, 1) := by decide +kernel
theorem dX4_limit_16 : decode cX4_limit 16 = .ok (.tableswitch 98 0 5 #[40, 55, 62, 69, 76, 83], 40) := by decide +kernel
theorem dX4_limit_56 : decode cX4_limit 56 = .ok (.aload_n 0, 1) := by decide +kernel
theorem dX4_limit_57 : decode cX4_limit 57 = .ok (.getfield 17, 3) := by decide +kernel
theorem dX4_limit_60 : decode cX4_limit 60 = .ok (.iload_n 1, 1) := by decide +kernel
theorem dX4_limit_61 : decode cX4_limit 61 = .ok (.baload, 1) := by decide +kernel
theorem dX4_limit_62 : decode cX4_limit 62 = .ok (.ifCond .eq 7, 3) := by decide +kernel
theorem dX4_limit_65 : decode cX4_limit 65 = .ok (.iconst 1, 1) := by decide +kernel
theorem dX4_limit_66 : decode cX4_limit 66 = .ok (.goto 4, 3) := by decide +kernel
theorem dX4_limit_69 : decode cX4_limit 69 = .ok (.iconst 0, 1) := by decide +kernel
theorem dX4_limit_70 : decode cX4_limit 70 = .ok (.ireturn, 1) := by decide +kernel
theorem dX4_limit_71 : decode cX4_limit 71 = .ok (.aload_n 0, 1) := by decide +kernel
theorem dX4_limit_72 : decode cX4_limit 72 = .ok (.getfield 38, 3) := by decide +kernel
theorem dX4_limit_75 : decode cX4_limit 75 = .ok (.iload_n 1, 1) := by decide +kernel
theorem dX4_limit_76 : decode cX4_limit 76 = .ok (.iaload, 1) := by decide +kernel
theorem dX4_limit_77 : decode cX4_limit 77 = .ok (.ireturn, 1) := by decide +kernel
theorem dX4_limit_78 : decode cX4_limit 78 = .ok (.aload_n 0, 1) := by decide +kernel
theorem dX4_limit_79 : decode cX4_limit 79 = .ok (.getfield 23, 3) := by decide +kernel
theorem dX4_limit_82 : decode cX4_limit 82 = .ok (.iload_n 1, 1) := by decide +kernel
theorem dX4_limit_83 : decode cX4_limit 83 = .ok (.iaload, 1) := by decide +kernel
theorem dX4_limit_84 : decode cX4_limit 84 = .ok (.ireturn, 1) := by decide +kernel
theorem dX4_limit_85 : decode cX4_limit 85 = .ok (.aload_n 0, 1) := by decide +kernel
theorem dX4_limit_86 : decode cX4_limit 86 = .ok (.getfield 26, 3) := by decide +kernel
theorem dX4_limit_89 : decode cX4_limit 89 = .ok (.iload_n 1, 1) := by decide +kernel
theorem dX4_limit_90 : decode cX4_limit 90 = .ok (.iaload, 1) := by decide +kernel
theorem dX4_limit_91 : decode cX4_limit 91 = .ok (.ireturn, 1) := by decide +kernel
theorem dX4_limit_92 : decode cX4_limit 92 = .ok (.aload_n 0, 1) := by decide +kernel
theorem dX4_limit_93 : decode cX4_limit 93 = .ok (.getfield 35, 3) := by decide +kernel
theorem dX4_limit_96 : decode cX4_limit 96 = .ok (.iload_n 1, 1) := by decide +kernel
theorem dX4_limit_97 : decode cX4_limit 97 = .ok (.iaload, 1) := by decide +kernel
theorem dX4_limit_98 : decode cX4_limit 98 = .ok (.ireturn, 1) := by decide +kernel
theorem dX4_limit_99 : decode cX4_limit 99 = .ok (.aload_n 0, 1) := by decide +kernel
theorem dX4_limit_100 : decode cX4_limit 100 = .ok (.getfield 20, 3) := by decide +kernel
theorem dX4_limit_103 : decode cX4_limit 103 = .ok (.iload_n 1, 1) := by decide +kernel
theorem dX4_limit_104 : decode cX4_limit 104 = .ok (.baload, 1) := by decide +kernel
theorem dX4_limit_105 : decode cX4_limit 105 = .ok (.ifCond .eq 7, 3) := by decide +kernel
theorem dX4_limit_108 : decode cX4_limit 108 = .ok (.iconst 1, 1) := by decide +kernel
theorem dX4_limit_109 : decode cX4_limit 109 = .ok (.goto 4, 3) := by decide +kernel
theorem dX4_limit_112 : decode cX4_limit 112 = .ok (.iconst 0, 1) := by decide +kernel
theorem dX4_limit_113 : decode cX4_limit 113 = .ok (.ireturn, 1) := by decide +kernel
theorem dX4_limit_114 : decode cX4_limit 114 = .ok (.iconst (-1), 1) := by decide +kernel
theorem dX4_limit_115 : decode cX4_limit 115 = .ok (.ireturn, 1) := by decide +kernel
theorem dX4_event_0 : decode cX4_event 0 = .ok (.aload_n 0, 1) := by decide +kernel
theorem dX4_event_1 : decode cX4_event 1 = .ok (.iconst 0, 1) := by decide +kernel
theorem dX4_event_2 : decode cX4_event 2 = .ok (.putfield 63, 3) := by decide +kernel
theorem dX4_event_5 : decode cX4_event 5 = .ok (.iload_n 1, 1) := by decide +kernel
theorem dX4_event_6 : decode cX4_event 6 = .ok (.invokestatic 96, 3) := by decide +kernel
theorem dX4_event_9 : decode cX4_event 9 = .ok (.ifCond .ne 5, 3) := by decide +kernel
theorem dX4_event_12 : decode cX4_event 12 = .ok (.iconst (-1), 1) := by decide +kernel
theorem dX4_event_13 : decode cX4_event 13 = .ok (.ireturn, 1) := by decide +kernel
theorem dX4_event_14 : decode cX4_event 14 = .ok (.iload_n 2, 1) := by decide +kernel
theorem dX4_event_15 : decode cX4_event 15 = .ok (.ifCond .ne 20, 3) := by decide +kernel
theorem dX4_event_18 : decode cX4_event 18 = .ok (.aload_n 0, 1) := by decide +kernel
theorem dX4_event_19 : decode cX4_event 19 = .ok (.getfield 47, 3) := by decide +kernel
theorem dX4_event_22 : decode cX4_event 22 = .ok (.iload_n 1, 1) := by decide +kernel
theorem dX4_event_23 : decode cX4_event 23 = .ok (.baload, 1) := by decide +kernel
theorem dX4_event_24 : decode cX4_event 24 = .ok (.ifCond .eq 7, 3) := by decide +kernel
theorem dX4_event_27 : decode cX4_event 27 = .ok (.iconst 0, 1) := by decide +kernel
theorem dX4_event_28 : decode cX4_event 28 = .ok (.goto 53, 3) := by decide +kernel
theorem dX4_event_31 : decode cX4_event 31 = .ok (.iconst 1, 1) := by decide +kernel
theorem dX4_event_32 : decode cX4_event 32 = .ok (.goto 49, 3) := by decide +kernel
theorem dX4_event_35 : decode cX4_event 35 = .ok (.iload_n 2, 1) := by decide +kernel
theorem dX4_event_36 : decode cX4_event 36 = .ok (.iconst 1, 1) := by decide +kernel
theorem dX4_event_37 : decode cX4_event 37 = .ok (.if_icmp .ne 12, 3) := by decide +kernel
theorem dX4_event_40 : decode cX4_event 40 = .ok (.aload_n 0, 1) := by decide +kernel
theorem dX4_event_41 : decode cX4_event 41 = .ok (.getfield 50, 3) := by decide +kernel
theorem dX4_event_44 : decode cX4_event 44 = .ok (.iload_n 1, 1) := by decide +kernel
theorem dX4_event_45 : decode cX4_event 45 = .ok (.iaload, 1) := by decide +kernel
theorem dX4_event_46 : decode cX4_event 46 = .ok (.goto 35, 3) := by decide +kernel
theorem dX4_event_49 : decode cX4_event 49 = .ok (.iload_n 2, 1) := by decide +kernel
theorem dX4_event_50 : decode cX4_event 50 = .ok (.iconst 2, 1) := by decide +kernel
theorem dX4_event_51 : decode cX4_event 51 = .ok (.if_icmp .ne 29, 3) := by decide +kernel
theorem dX4_event_54 : decode cX4_event 54 = .ok (.aload_n 0, 1) := by decide +kernel
theorem dX4_event_55 : decode cX4_event 55 = .ok (.getfield 50, 3) := by decide +kernel
theorem dX4_event_58 : decode cX4_event 58 = .ok (.iload_n 1, 1) := by decide +kernel
theorem dX4_event_59 : decode cX4_event 59 = .ok (.iaload, 1) := by decide +kernel
theorem dX4_event_60 : decode cX4_event 60 = .ok (.ifCond .le 16, 3) := by decide +kernel
theorem dX4_event_63 : decode cX4_event 63 = .ok (.aload_n 0, 1) := by decide +kernel
theorem dX4_event_64 : decode cX4_event 64 = .ok (.getfield 53, 3) := by decide +kernel
theorem dX4_event_67 : decode cX4_event 67 = .ok (.iload_n 1, 1) := by decide +kernel
theorem dX4_event_68 : decode cX4_event 68 = .ok (.baload, 1) := by decide +kernel
theorem dX4_event_69 : decode cX4_event 69 = .ok (.ifCond .eq 7, 3) := by decide +kernel
theorem dX4_event_72 : decode cX4_event 72 = .ok (.iconst 1, 1) := by decide +kernel
theorem dX4_event_73 : decode cX4_event 73 = .ok (.goto 8, 3) := by decide +kernel
theorem dX4_event_76 : decode cX4_event 76 = .ok (.iconst 0, 1) := by decide +kernel
theorem dX4_event_77 : decode cX4_event 77 = .ok (.goto 4, 3) := by decide +kernel
theorem dX4_event_80 : decode cX4_event 80 = .ok (.iconst (-1), 1) := by decide +kernel
theorem dX4_event_81 : decode cX4_event 81 = .ok (.ireturn, 1) := by decide +kernel
theorem dX4_actionAt_0 : decode cX4_actionAt 0 = .ok (.aload_n 0, 1) := by decide +kernel
theorem dX4_actionAt_1 : decode cX4_actionAt 1 = .ok (.iconst 0, 1) := by decide +kernel
theorem dX4_actionAt_2 : decode cX4_actionAt 2 = .ok (.putfield 63, 3) := by decide +kernel
theorem dX4_actionAt_5 : decode cX4_actionAt 5 = .ok (.iload_n 1, 1) := by decide +kernel
theorem dX4_actionAt_6 : decode cX4_actionAt 6 = .ok (.invokestatic 96, 3) := by decide +kernel
theorem dX4_actionAt_9 : decode cX4_actionAt 9 = .ok (.ifCond .eq 36, 3) := by decide +kernel
theorem dX4_actionAt_12 : decode cX4_actionAt 12 = .ok (.iload_n 2, 1) := by decide +kernel
theorem dX4_actionAt_13 : decode cX4_actionAt 13 = .ok (.ifCond .lt 32, 3) := by decide +kernel
theorem dX4_actionAt_16 : decode cX4_actionAt 16 = .ok (.iload_n 2, 1) := by decide +kernel
theorem dX4_actionAt_17 : decode cX4_actionAt 17 = .ok (.aload_n 0, 1) := by decide +kernel
theorem dX4_actionAt_18 : decode cX4_actionAt 18 = .ok (.getfield 50, 3) := by decide +kernel
theorem dX4_actionAt_21 : decode cX4_actionAt 21 = .ok (.iload_n 1, 1) := by decide +kernel
theorem dX4_actionAt_22 : decode cX4_actionAt 22 = .ok (.iaload, 1) := by decide +kernel
theorem dX4_actionAt_23 : decode cX4_actionAt 23 = .ok (.if_icmp .ge 22, 3) := by decide +kernel
theorem dX4_actionAt_26 : decode cX4_actionAt 26 = .ok (.aload_n 0, 1) := by decide +kernel
theorem dX4_actionAt_27 : decode cX4_actionAt 27 = .ok (.getfield 56, 3) := by decide +kernel
theorem dX4_actionAt_30 : decode cX4_actionAt 30 = .ok (.sipush 256, 3) := by decide +kernel
theorem dX4_actionAt_33 : decode cX4_actionAt 33 = .ok (.iload_n 1, 1) := by decide +kernel
theorem dX4_actionAt_34 : decode cX4_actionAt 34 = .ok (.imul, 1) := by decide +kernel
theorem dX4_actionAt_35 : decode cX4_actionAt 35 = .ok (.iload_n 2, 1) := by decide +kernel
theorem dX4_actionAt_36 : decode cX4_actionAt 36 = .ok (.iadd, 1) := by decide +kernel
theorem dX4_actionAt_37 : decode cX4_actionAt 37 = .ok (.baload, 1) := by decide +kernel
theorem dX4_actionAt_38 : decode cX4_actionAt 38 = .ok (.sipush 255, 3) := by decide +kernel
theorem dX4_actionAt_41 : decode cX4_actionAt 41 = .ok (.iand, 1) := by decide +kernel
theorem dX4_actionAt_42 : decode cX4_actionAt 42 = .ok (.goto 4, 3) := by decide +kernel
theorem dX4_actionAt_45 : decode cX4_actionAt 45 = .ok (.iconst (-1), 1) := by decide +kernel
theorem dX4_actionAt_46 : decode cX4_actionAt 46 = .ok (.ireturn, 1) := by decide +kernel
theorem dX4_count_0 : decode cX4_count 0 = .ok (.aload_n 0, 1) := by decide +kernel
theorem dX4_count_1 : decode cX4_count 1 = .ok (.iconst 0, 1) := by decide +kernel
theorem dX4_count_2 : decode cX4_count 2 = .ok (.putfield 63, 3) := by decide +kernel
theorem dX4_count_5 : decode cX4_count 5 = .ok (.iload_n 1, 1) := by decide +kernel
theorem dX4_count_6 : decode cX4_count 6 = .ok (.ifCond .ne 10, 3) := by decide +kernel
theorem dX4_count_9 : decode cX4_count 9 = .ok (.aload_n 0, 1) := by decide +kernel
theorem dX4_count_10 : decode cX4_count 10 = .ok (.invokevirtual 71, 3) := by decide +kernel
theorem dX4_count_13 : decode cX4_count 13 = .ok (.goto 52, 3) := by decide +kernel
theorem dX4_count_16 : decode cX4_count 16 = .ok (.iload_n 1, 1) := by decide +kernel
theorem dX4_count_17 : decode cX4_count 17 = .ok (.iconst 1, 1) := by decide +kernel
theorem dX4_count_18 : decode cX4_count 18 = .ok (.if_icmp .ne 10, 3) := by decide +kernel
theorem dX4_count_21 : decode cX4_count 21 = .ok (.aload_n 0, 1) := by decide +kernel
theorem dX4_count_22 : decode cX4_count 22 = .ok (.getfield 93, 3) := by decide +kernel
theorem dX4_count_25 : decode cX4_count 25 = .ok (.goto 40, 3) := by decide +kernel
theorem dX4_count_28 : decode cX4_count 28 = .ok (.iload_n 1, 1) := by decide +kernel
theorem dX4_count_29 : decode cX4_count 29 = .ok (.iconst 2, 1) := by decide +kernel
theorem dX4_count_30 : decode cX4_count 30 = .ok (.if_icmp .ne 10, 3) := by decide +kernel
theorem dX4_count_33 : decode cX4_count 33 = .ok (.aload_n 0, 1) := by decide +kernel
theorem dX4_count_34 : decode cX4_count 34 = .ok (.getfield 79, 3) := by decide +kernel
theorem dX4_count_37 : decode cX4_count 37 = .ok (.goto 28, 3) := by decide +kernel
theorem dX4_count_40 : decode cX4_count 40 = .ok (.iload_n 1, 1) := by decide +kernel
theorem dX4_count_41 : decode cX4_count 41 = .ok (.iconst 3, 1) := by decide +kernel
theorem dX4_count_42 : decode cX4_count 42 = .ok (.if_icmp .ne 10, 3) := by decide +kernel
theorem dX4_count_45 : decode cX4_count 45 = .ok (.aload_n 0, 1) := by decide +kernel
theorem dX4_count_46 : decode cX4_count 46 = .ok (.getfield 82, 3) := by decide +kernel
theorem dX4_count_49 : decode cX4_count 49 = .ok (.goto 16, 3) := by decide +kernel
theorem dX4_count_52 : decode cX4_count 52 = .ok (.iload_n 1, 1) := by decide +kernel
theorem dX4_count_53 : decode cX4_count 53 = .ok (.iconst 4, 1) := by decide +kernel
theorem dX4_count_54 : decode cX4_count 54 = .ok (.if_icmp .ne 10, 3) := by decide +kernel
theorem dX4_count_57 : decode cX4_count 57 = .ok (.aload_n 0, 1) := by decide +kernel
theorem dX4_count_58 : decode cX4_count 58 = .ok (.getfield 99, 3) := by decide +kernel
theorem dX4_count_61 : decode cX4_count 61 = .ok (.goto 4, 3) := by decide +kernel
theorem dX4_count_64 : decode cX4_count 64 = .ok (.iconst (-1), 1) := by decide +kernel
theorem dX4_count_65 : decode cX4_count 65 = .ok (.ireturn, 1) := by decide +kernel
