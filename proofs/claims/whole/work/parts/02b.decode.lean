theorem dX3_init_0 : decode cX3_init 0 = .ok (.aload_n 0, 1) := by decide +kernel
theorem dX3_init_1 : decode cX3_init 1 = .ok (.invokespecial 1, 3) := by decide +kernel
theorem dX3_init_4 : decode cX3_init 4 = .ok (.aload_n 0, 1) := by decide +kernel
theorem dX3_init_5 : decode cX3_init 5 = .ok (.bipush 32, 2) := by decide +kernel
theorem dX3_init_7 : decode cX3_init 7 = .ok (.newarray .int, 2) := by decide +kernel
theorem dX3_init_9 : decode cX3_init 9 = .ok (.putfield 9, 3) := by decide +kernel
theorem dX3_init_12 : decode cX3_init 12 = .ok (.aload_n 0, 1) := by decide +kernel
theorem dX3_init_13 : decode cX3_init 13 = .ok (.bipush 16, 2) := by decide +kernel
theorem dX3_init_15 : decode cX3_init 15 = .ok (.anewarray 13, 3) := by decide +kernel
theorem dX3_init_18 : decode cX3_init 18 = .ok (.putfield 15, 3) := by decide +kernel
theorem dX3_init_21 : decode cX3_init 21 = .ok (.aload_n 0, 1) := by decide +kernel
theorem dX3_init_22 : decode cX3_init 22 = .ok (.bipush 32, 2) := by decide +kernel
theorem dX3_init_24 : decode cX3_init 24 = .ok (.anewarray 19, 3) := by decide +kernel
theorem dX3_init_27 : decode cX3_init 27 = .ok (.putfield 21, 3) := by decide +kernel
theorem dX3_init_30 : decode cX3_init 30 = .ok (.aload_n 0, 1) := by decide +kernel
theorem dX3_init_31 : decode cX3_init 31 = .ok (.new 25, 3) := by decide +kernel
theorem dX3_init_34 : decode cX3_init 34 = .ok (.dup, 1) := by decide +kernel
theorem dX3_init_35 : decode cX3_init 35 = .ok (.invokespecial 27, 3) := by decide +kernel
theorem dX3_init_38 : decode cX3_init 38 = .ok (.putfield 28, 3) := by decide +kernel
theorem dX3_init_41 : decode cX3_init 41 = .ok (.aload_n 0, 1) := by decide +kernel
theorem dX3_init_42 : decode cX3_init 42 = .ok (.sipush 256, 3) := by decide +kernel
theorem dX3_init_45 : decode cX3_init 45 = .ok (.newarray .byte, 2) := by decide +kernel
theorem dX3_init_47 : decode cX3_init 47 = .ok (.putfield 32, 3) := by decide +kernel
theorem dX3_init_50 : decode cX3_init 50 = .ok (.iconst 0, 1) := by decide +kernel
theorem dX3_init_51 : decode cX3_init 51 = .ok (.istore_n 1, 1) := by decide +kernel
theorem dX3_init_52 : decode cX3_init 52 = .ok (.iload_n 1, 1) := by decide +kernel
theorem dX3_init_53 : decode cX3_init 53 = .ok (.bipush 16, 2) := by decide +kernel
theorem dX3_init_55 : decode cX3_init 55 = .ok (.if_icmp .ge 22, 3) := by decide +kernel
theorem dX3_init_58 : decode cX3_init 58 = .ok (.aload_n 0, 1) := by decide +kernel
theorem dX3_init_59 : decode cX3_init 59 = .ok (.getfield 15, 3) := by decide +kernel
theorem dX3_init_62 : decode cX3_init 62 = .ok (.iload_n 1, 1) := by decide +kernel
theorem dX3_init_63 : decode cX3_init 63 = .ok (.new 13, 3) := by decide +kernel
theorem dX3_init_66 : decode cX3_init 66 = .ok (.dup, 1) := by decide +kernel
theorem dX3_init_67 : decode cX3_init 67 = .ok (.invokespecial 36, 3) := by decide +kernel
theorem dX3_init_70 : decode cX3_init 70 = .ok (.aastore, 1) := by decide +kernel
theorem dX3_init_71 : decode cX3_init 71 = .ok (.iinc 1 1, 3) := by decide +kernel
theorem dX3_init_74 : decode cX3_init 74 = .ok (.goto (-22), 3) := by decide +kernel
theorem dX3_init_77 : decode cX3_init 77 = .ok (.iconst 0, 1) := by decide +kernel
theorem dX3_init_78 : decode cX3_init 78 = .ok (.istore_n 1, 1) := by decide +kernel
theorem dX3_init_79 : decode cX3_init 79 = .ok (.iload_n 1, 1) := by decide +kernel
theorem dX3_init_80 : decode cX3_init 80 = .ok (.bipush 32, 2) := by decide +kernel
theorem dX3_init_82 : decode cX3_init 82 = .ok (.if_icmp .ge 22, 3) := by decide +kernel
theorem dX3_init_85 : decode cX3_init 85 = .ok (.aload_n 0, 1) := by decide +kernel
theorem dX3_init_86 : decode cX3_init 86 = .ok (.getfield 21, 3) := by decide +kernel
theorem dX3_init_89 : decode cX3_init 89 = .ok (.iload_n 1, 1) := by decide +kernel
theorem dX3_init_90 : decode cX3_init 90 = .ok (.new 19, 3) := by decide +kernel
theorem dX3_init_93 : decode cX3_init 93 = .ok (.dup, 1) := by decide +kernel
theorem dX3_init_94 : decode cX3_init 94 = .ok (.invokespecial 37, 3) := by decide +kernel
theorem dX3_init_97 : decode cX3_init 97 = .ok (.aastore, 1) := by decide +kernel
theorem dX3_init_98 : decode cX3_init 98 = .ok (.iinc 1 1, 3) := by decide +kernel
theorem dX3_init_101 : decode cX3_init 101 = .ok (.goto (-22), 3) := by decide +kernel
theorem dX3_init_104 : decode cX3_init 104 = .ok (.return_, 1) := by decide +kernel
theorem dX2_init_0 : decode cX2_init 0 = .ok (.aload_n 0, 1) := by decide +kernel
theorem dX2_init_1 : decode cX2_init 1 = .ok (.invokespecial 3, 3) := by decide +kernel
theorem dX2_init_4 : decode cX2_init 4 = .ok (.aload_n 0, 1) := by decide +kernel
theorem dX2_init_5 : decode cX2_init 5 = .ok (.bipush 64, 2) := by decide +kernel
theorem dX2_init_7 : decode cX2_init 7 = .ok (.newarray .int, 2) := by decide +kernel
theorem dX2_init_9 : decode cX2_init 9 = .ok (.putfield 9, 3) := by decide +kernel
theorem dX2_init_12 : decode cX2_init 12 = .ok (.aload_n 0, 1) := by decide +kernel
theorem dX2_init_13 : decode cX2_init 13 = .ok (.bipush 64, 2) := by decide +kernel
theorem dX2_init_15 : decode cX2_init 15 = .ok (.newarray .int, 2) := by decide +kernel
theorem dX2_init_17 : decode cX2_init 17 = .ok (.putfield 15, 3) := by decide +kernel
theorem dX2_init_20 : decode cX2_init 20 = .ok (.return_, 1) := by decide +kernel
theorem dX1_init_0 : decode cX1_init 0 = .ok (.aload_n 0, 1) := by decide +kernel
theorem dX1_init_1 : decode cX1_init 1 = .ok (.invokespecial 3, 3) := by decide +kernel
theorem dX1_init_4 : decode cX1_init 4 = .ok (.return_, 1) := by decide +kernel
theorem dX0_init_0 : decode cX0_init 0 = .ok (.aload_n 0, 1) := by decide +kernel
theorem dX0_init_1 : decode cX0_init 1 = .ok (.invokespecial 3, 3) := by decide +kernel
theorem dX0_init_4 : decode cX0_init 4 = .ok (.aload_n 0, 1) := by decide +kernel
theorem dX0_init_5 : decode cX0_init 5 = .ok (.iconst 1, 1) := by decide +kernel
theorem dX0_init_6 : decode cX0_init 6 = .ok (.putfield 9, 3) := by decide +kernel
theorem dX0_init_9 : decode cX0_init 9 = .ok (.aload_n 0, 1) := by decide +kernel
theorem dX0_init_10 : decode cX0_init 10 = .ok (.sipush 256, 3) := by decide +kernel
theorem dX0_init_13 : decode cX0_init 13 = .ok (.newarray .byte, 2) := by decide +kernel
theorem dX0_init_15 : decode cX0_init 15 = .ok (.putfield 15, 3) := by decide +kernel
theorem dX0_init_18 : decode cX0_init 18 = .ok (.return_, 1) := by decide +kernel
theorem dX3_set_0 : decode cX3_set 0 = .ok (.iload_n 1, 1) := by decide +kernel
theorem dX3_set_1 : decode cX3_set 1 = .ok (.invokestatic 38, 3) := by decide +kernel
theorem dX3_set_4 : decode cX3_set 4 = .ok (.ifCond .ne 5, 3) := by decide +kernel
theorem dX3_set_7 : decode cX3_set 7 = .ok (.iconst 0, 1) := by decide +kernel
theorem dX3_set_8 : decode cX3_set 8 = .ok (.ireturn, 1) := by decide +kernel
theorem dX3_set_9 : decode cX3_set 9 = .ok (.aload_n 0, 1) := by decide +kernel
theorem dX3_set_10 : decode cX3_set 10 = .ok (.getfield 9, 3) := by decide +kernel
theorem dX3_set_13 : decode cX3_set 13 = .ok (.iload_n 1, 1) := by decide +kernel
theorem dX3_set_14 : decode cX3_set 14 = .ok (.iload_n 2, 1) := by decide +kernel
theorem dX3_set_15 : decode cX3_set 15 = .ok (.iastore, 1) := by decide +kernel
theorem dX3_set_16 : decode cX3_set 16 = .ok (.iconst 1, 1) := by decide +kernel
theorem dX3_set_17 : decode cX3_set 17 = .ok (.ireturn, 1) := by decide +kernel
theorem dX3_isParameter_0 : decode cX3_isParameter 0 = .ok (.iload_n 0, 1) := by decide +kernel
theorem dX3_isParameter_1 : decode cX3_isParameter 1 = .ok (.ifCond .lt 13, 3) := by decide +kernel
theorem dX3_isParameter_4 : decode cX3_isParameter 4 = .ok (.iload_n 0, 1) := by decide +kernel
theorem dX3_isParameter_5 : decode cX3_isParameter 5 = .ok (.bipush 32, 2) := by decide +kernel
theorem dX3_isParameter_7 : decode cX3_isParameter 7 = .ok (.if_icmp .ge 7, 3) := by decide +kernel
theorem dX3_isParameter_10 : decode cX3_isParameter 10 = .ok (.iconst 1, 1) := by decide +kernel
theorem dX3_isParameter_11 : decode cX3_isParameter 11 = .ok (.goto 4, 3) := by decide +kernel
theorem dX3_isParameter_14 : decode cX3_isParameter 14 = .ok (.iconst 0, 1) := by decide +kernel
theorem dX3_isParameter_15 : decode cX3_isParameter 15 = .ok (.ireturn, 1) := by decide +kernel
theorem dX3_add_0 : decode cX3_add 0 = .ok (.iload_n 1, 1) := by decide +kernel
theorem dX3_add_1 : decode cX3_add 1 = .ok (.invokestatic 42, 3) := by decide +kernel
theorem dX3_add_4 : decode cX3_add 4 = .ok (.ifCond .eq 22, 3) := by decide +kernel
theorem dX3_add_7 : decode cX3_add 7 = .ok (.iload_n 2, 1) := by decide +kernel
theorem dX3_add_8 : decode cX3_add 8 = .ok (.invokestatic 38, 3) := by decide +kernel
theorem dX3_add_11 : decode cX3_add 11 = .ok (.ifCond .eq 15, 3) := by decide +kernel
theorem dX3_add_14 : decode cX3_add 14 = .ok (.iload 6, 2) := by decide +kernel
theorem dX3_add_16 : decode cX3_add 16 = .ok (.invokestatic 45, 3) := by decide +kernel
theorem dX3_add_19 : decode cX3_add 19 = .ok (.ifCond .eq 7, 3) := by decide +kernel
theorem dX3_add_22 : decode cX3_add 22 = .ok (.iconst 1, 1) := by decide +kernel
theorem dX3_add_23 : decode cX3_add 23 = .ok (.goto 4, 3) := by decide +kernel
theorem dX3_add_26 : decode cX3_add 26 = .ok (.iconst 0, 1) := by decide +kernel
theorem dX3_add_27 : decode cX3_add 27 = .ok (.istore 8, 2) := by decide +kernel
theorem dX3_add_29 : decode cX3_add 29 = .ok (.iload 8, 2) := by decide +kernel
theorem dX3_add_31 : decode cX3_add 31 = .ok (.ifCond .eq 22, 3) := by decide +kernel
theorem dX3_add_34 : decode cX3_add 34 = .ok (.iload_n 3, 1) := by decide +kernel
theorem dX3_add_35 : decode cX3_add 35 = .ok (.iconst 1, 1) := by decide +kernel
theorem dX3_add_36 : decode cX3_add 36 = .ok (.if_icmp .lt 17, 3) := by decide +kernel
theorem dX3_add_39 : decode cX3_add 39 = .ok (.iload_n 3, 1) := by decide +kernel
theorem dX3_add_40 : decode cX3_add 40 = .ok (.sipush 255, 3) := by decide +kernel
theorem dX3_add_43 : decode cX3_add 43 = .ok (.if_icmp .gt 10, 3) := by decide +kernel
theorem dX3_add_46 : decode cX3_add 46 = .ok (.iload 4, 2) := by decide +kernel
theorem dX3_add_48 : decode cX3_add 48 = .ok (.iload 5, 2) := by decide +kernel
theorem dX3_add_50 : decode cX3_add 50 = .ok (.if_icmp .le 6, 3) := by decide +kernel
theorem dX3_add_53 : decode cX3_add 53 = .ok (.bipush 13, 2) := by decide +kernel
theorem dX3_add_55 : decode cX3_add 55 = .ok (.ireturn, 1) := by decide +kernel
theorem dX3_add_56 : decode cX3_add 56 = .ok (.aload_n 0, 1) := by decide +kernel
theorem dX3_add_57 : decode cX3_add 57 = .ok (.iload_n 1, 1) := by decide +kernel
theorem dX3_add_58 : decode cX3_add 58 = .ok (.invokevirtual 48, 3) := by decide +kernel
theorem dX3_add_61 : decode cX3_add 61 = .ok (.iconst (-1), 1) := by decide +kernel
theorem dX3_add_62 : decode cX3_add 62 = .ok (.if_icmp .eq 6, 3) := by decide +kernel
theorem dX3_add_65 : decode cX3_add 65 = .ok (.bipush 25, 2) := by decide +kernel
theorem dX3_add_67 : decode cX3_add 67 = .ok (.ireturn, 1) := by decide +kernel
theorem dX3_add_68 : decode cX3_add 68 = .ok (.aload_n 0, 1) := by decide +kernel
theorem dX3_add_69 : decode cX3_add 69 = .ok (.getfield 52, 3) := by decide +kernel
theorem dX3_add_72 : decode cX3_add 72 = .ok (.bipush 16, 2) := by decide +kernel
theorem dX3_add_74 : decode cX3_add 74 = .ok (.if_icmp .lt 6, 3) := by decide +kernel
theorem dX3_add_77 : decode cX3_add 77 = .ok (.bipush 26, 2) := by decide +kernel
theorem dX3_add_79 : decode cX3_add 79 = .ok (.ireturn, 1) := by decide +kernel
theorem dX3_add_80 : decode cX3_add 80 = .ok (.aload_n 0, 1) := by decide +kernel
theorem dX3_add_81 : decode cX3_add 81 = .ok (.iload_n 1, 1) := by decide +kernel
theorem dX3_add_82 : decode cX3_add 82 = .ok (.invokevirtual 56, 3) := by decide +kernel
theorem dX3_add_85 : decode cX3_add 85 = .ok (.astore 9, 2) := by decide +kernel
theorem dX3_add_87 : decode cX3_add 87 = .ok (.aload 9, 2) := by decide +kernel
theorem dX3_add_89 : decode cX3_add 89 = .ok (.iload_n 1, 1) := by decide +kernel
theorem dX3_add_90 : decode cX3_add 90 = .ok (.iload_n 2, 1) := by decide +kernel
theorem dX3_add_91 : decode cX3_add 91 = .ok (.iload_n 3, 1) := by decide +kernel
theorem dX3_add_92 : decode cX3_add 92 = .ok (.iload 4, 2) := by decide +kernel
theorem dX3_add_94 : decode cX3_add 94 = .ok (.iload 5, 2) := by decide +kernel
theorem dX3_add_96 : decode cX3_add 96 = .ok (.iload 6, 2) := by decide +kernel
theorem dX3_add_98 : decode cX3_add 98 = .ok (.iload 7, 2) := by decide +kernel
theorem dX3_add_100 : decode cX3_add 100 = .ok (.invokevirtual 60, 3) := by decide +kernel
theorem dX3_add_103 : decode cX3_add 103 = .ok (.iconst 0, 1) := by decide +kernel
theorem dX3_add_104 : decode cX3_add 104 = .ok (.ireturn, 1) := by decide +kernel
theorem dX3_isId_0 : decode cX3_isId 0 = .ok (.iload_n 0, 1) := by decide +kernel
theorem dX3_isId_1 : decode cX3_isId 1 = .ok (.ifCond .lt 14, 3) := by decide +kernel
theorem dX3_isId_4 : decode cX3_isId 4 = .ok (.iload_n 0, 1) := by decide +kernel
theorem dX3_isId_5 : decode cX3_isId 5 = .ok (.sipush 256, 3) := by decide +kernel
theorem dX3_isId_8 : decode cX3_isId 8 = .ok (.if_icmp .ge 7, 3) := by decide +kernel
theorem dX3_isId_11 : decode cX3_isId 11 = .ok (.iconst 1, 1) := by decide +kernel
theorem dX3_isId_12 : decode cX3_isId 12 = .ok (.goto 4, 3) := by decide +kernel
theorem dX3_isId_15 : decode cX3_isId 15 = .ok (.iconst 0, 1) := by decide +kernel
theorem dX3_isId_16 : decode cX3_isId 16 = .ok (.ireturn, 1) := by decide +kernel
theorem dX3_isEvent_0 : decode cX3_isEvent 0 = .ok (.iload_n 0, 1) := by decide +kernel
theorem dX3_isEvent_1 : decode cX3_isEvent 1 = .ok (.ifCond .lt 13, 3) := by decide +kernel
theorem dX3_isEvent_4 : decode cX3_isEvent 4 = .ok (.iload_n 0, 1) := by decide +kernel
theorem dX3_isEvent_5 : decode cX3_isEvent 5 = .ok (.bipush 32, 2) := by decide +kernel
theorem dX3_isEvent_7 : decode cX3_isEvent 7 = .ok (.if_icmp .ge 7, 3) := by decide +kernel
theorem dX3_isEvent_10 : decode cX3_isEvent 10 = .ok (.iconst 1, 1) := by decide +kernel
theorem dX3_isEvent_11 : decode cX3_isEvent 11 = .ok (.goto 4, 3) := by decide +kernel
theorem dX3_isEvent_14 : decode cX3_isEvent 14 = .ok (.iconst 0, 1) := by decide +kernel
theorem dX3_isEvent_15 : decode cX3_isEvent 15 = .ok (.ireturn, 1) := by decide +kernel
theorem dX3_placeOf_0 : decode cX3_placeOf 0 = .ok (.iconst 0, 1) := by decide +kernel
theorem dX3_placeOf_1 : decode cX3_placeOf 1 = .ok (.istore_n 2, 1) := by decide +kernel
theorem dX3_placeOf_2 : decode cX3_placeOf 2 = .ok (.iload_n 2, 1) := by decide +kernel
theorem dX3_placeOf_3 : decode cX3_placeOf 3 = .ok (.aload_n 0, 1) := by decide +kernel
theorem dX3_placeOf_4 : decode cX3_placeOf 4 = .ok (.getfield 52, 3) := by decide +kernel
theorem dX3_placeOf_7 : decode cX3_placeOf 7 = .ok (.if_icmp .ge 24, 3) := by decide +kernel
theorem dX3_placeOf_10 : decode cX3_placeOf 10 = .ok (.aload_n 0, 1) := by decide +kernel
theorem dX3_placeOf_11 : decode cX3_placeOf 11 = .ok (.getfield 15, 3) := by decide +kernel
theorem dX3_placeOf_14 : decode cX3_placeOf 14 = .ok (.iload_n 2, 1) := by decide +kernel
theorem dX3_placeOf_15 : decode cX3_placeOf 15 = .ok (.aaload, 1) := by decide +kernel
theorem dX3_placeOf_16 : decode cX3_placeOf 16 = .ok (.getfield 150, 3) := by decide +kernel
theorem dX3_placeOf_19 : decode cX3_placeOf 19 = .ok (.iload_n 1, 1) := by decide +kernel
theorem dX3_placeOf_20 : decode cX3_placeOf 20 = .ok (.if_icmp .ne 5, 3) := by decide +kernel
theorem dX3_placeOf_23 : decode cX3_placeOf 23 = .ok (.iload_n 2, 1) := by decide +kernel
theorem dX3_placeOf_24 : decode cX3_placeOf 24 = .ok (.ireturn, 1) := by decide +kernel
theorem dX3_placeOf_25 : decode cX3_placeOf 25 = .ok (.iinc 2 1, 3) := by decide +kernel
theorem dX3_placeOf_28 : decode cX3_placeOf 28 = .ok (.goto (-26), 3) := by decide +kernel
theorem dX3_placeOf_31 : decode cX3_placeOf 31 = .ok (.iconst (-1), 1) := by decide +kernel
theorem dX3_placeOf_32 : decode cX3_placeOf 32 = .ok (.ireturn, 1) := by decide +kernel
theorem dX3_openPlaceFor_0 : decode cX3_openPlaceFor 0 = .ok (.aload_n 0, 1) := by decide +kernel
theorem dX3_openPlaceFor_1 : decode cX3_openPlaceFor 1 = .ok (.getfield 15, 3) := by decide +kernel
theorem dX3_openPlaceFor_4 : decode cX3_openPlaceFor 4 = .ok (.aload_n 0, 1) := by decide +kernel
theorem dX3_openPlaceFor_5 : decode cX3_openPlaceFor 5 = .ok (.getfield 52, 3) := by decide +kernel
theorem dX3_openPlaceFor_8 : decode cX3_openPlaceFor 8 = .ok (.aaload, 1) := by decide +kernel
theorem dX3_openPlaceFor_9 : decode cX3_openPlaceFor 9 = .ok (.astore_n 2, 1) := by decide +kernel
theorem dX3_openPlaceFor_10 : decode cX3_openPlaceFor 10 = .ok (.aload_n 0, 1) := by decide +kernel
theorem dX3_openPlaceFor_11 : decode cX3_openPlaceFor 11 = .ok (.getfield 52, 3) := by decide +kernel
theorem dX3_openPlaceFor_14 : decode cX3_openPlaceFor 14 = .ok (.istore_n 3, 1) := by decide +kernel
theorem dX3_openPlaceFor_15 : decode cX3_openPlaceFor 15 = .ok (.iload_n 3, 1) := by decide +kernel
theorem dX3_openPlaceFor_16 : decode cX3_openPlaceFor 16 = .ok (.ifCond .le 38, 3) := by decide +kernel
theorem dX3_openPlaceFor_19 : decode cX3_openPlaceFor 19 = .ok (.aload_n 0, 1) := by decide +kernel
theorem dX3_openPlaceFor_20 : decode cX3_openPlaceFor 20 = .ok (.getfield 15, 3) := by decide +kernel
theorem dX3_openPlaceFor_23 : decode cX3_openPlaceFor 23 = .ok (.iload_n 3, 1) := by decide +kernel
theorem dX3_openPlaceFor_24 : decode cX3_openPlaceFor 24 = .ok (.iconst 1, 1) := by decide +kernel
theorem dX3_openPlaceFor_25 : decode cX3_openPlaceFor 25 = .ok (.isub, 1) := by decide +kernel
theorem dX3_openPlaceFor_26 : decode cX3_openPlaceFor 26 = .ok (.aaload, 1) := by decide +kernel
theorem dX3_openPlaceFor_27 : decode cX3_openPlaceFor 27 = .ok (.getfield 150, 3) := by decide +kernel
theorem dX3_openPlaceFor_30 : decode cX3_openPlaceFor 30 = .ok (.iload_n 1, 1) := by decide +kernel
theorem dX3_openPlaceFor_31 : decode cX3_openPlaceFor 31 = .ok (.if_icmp .le 23, 3) := by decide +kernel
theorem dX3_openPlaceFor_34 : decode cX3_openPlaceFor 34 = .ok (.aload_n 0, 1) := by decide +kernel
theorem dX3_openPlaceFor_35 : decode cX3_openPlaceFor 35 = .ok (.getfield 15, 3) := by decide +kernel
theorem dX3_openPlaceFor_38 : decode cX3_openPlaceFor 38 = .ok (.iload_n 3, 1) := by decide +kernel
theorem dX3_openPlaceFor_39 : decode cX3_openPlaceFor 39 = .ok (.aload_n 0, 1) := by decide +kernel
theorem dX3_openPlaceFor_40 : decode cX3_openPlaceFor 40 = .ok (.getfield 15, 3) := by decide +kernel
theorem dX3_openPlaceFor_43 : decode cX3_openPlaceFor 43 = .ok (.iload_n 3, 1) := by decide +kernel
theorem dX3_openPlaceFor_44 : decode cX3_openPlaceFor 44 = .ok (.iconst 1, 1) := by decide +kernel
theorem dX3_openPlaceFor_45 : decode cX3_openPlaceFor 45 = .ok (.isub, 1) := by decide +kernel
theorem dX3_openPlaceFor_46 : decode cX3_openPlaceFor 46 = .ok (.aaload, 1) := by decide +kernel
theorem dX3_openPlaceFor_47 : decode cX3_openPlaceFor 47 = .ok (.aastore, 1) := by decide +kernel
theorem dX3_openPlaceFor_48 : decode cX3_openPlaceFor 48 = .ok (.iinc 3 (-1), 3) := by decide +kernel
theorem dX3_openPlaceFor_51 : decode cX3_openPlaceFor 51 = .ok (.goto (-36), 3) := by decide +kernel
theorem dX3_openPlaceFor_54 : decode cX3_openPlaceFor 54 = .ok (.aload_n 0, 1) := by decide +kernel
theorem dX3_openPlaceFor_55 : decode cX3_openPlaceFor 55 = .ok (.getfield 15, 3) := by decide +kernel
theorem dX3_openPlaceFor_58 : decode cX3_openPlaceFor 58 = .ok (.iload_n 3, 1) := by decide +kernel
theorem dX3_openPlaceFor_59 : decode cX3_openPlaceFor 59 = .ok (.aload_n 2, 1) := by decide +kernel
theorem dX3_openPlaceFor_60 : decode cX3_openPlaceFor 60 = .ok (.aastore, 1) := by decide +kernel
theorem dX3_openPlaceFor_61 : decode cX3_openPlaceFor 61 = .ok (.aload_n 0, 1) := by decide +kernel
theorem dX3_openPlaceFor_62 : decode cX3_openPlaceFor 62 = .ok (.dup, 1) := by decide +kernel
theorem dX3_openPlaceFor_63 : decode cX3_openPlaceFor 63 = .ok (.getfield 52, 3) := by decide +kernel
theorem dX3_openPlaceFor_66 : decode cX3_openPlaceFor 66 = .ok (.iconst 1, 1) := by decide +kernel
theorem dX3_openPlaceFor_67 : decode cX3_openPlaceFor 67 = .ok (.iadd, 1) := by decide +kernel
theorem dX3_openPlaceFor_68 : decode cX3_openPlaceFor 68 = .ok (.putfield 52, 3) := by decide +kernel
theorem dX3_openPlaceFor_71 : decode cX3_openPlaceFor 71 = .ok (.aload_n 2, 1) := by decide +kernel
theorem dX3_openPlaceFor_72 : decode cX3_openPlaceFor 72 = .ok (.areturn, 1) := by decide +kernel
theorem dX1_begin_0 : decode cX1_begin 0 = .ok (.aload_n 0, 1) := by decide +kernel
theorem dX1_begin_1 : decode cX1_begin 1 = .ok (.iload_n 1, 1) := by decide +kernel
theorem dX1_begin_2 : decode cX1_begin 2 = .ok (.putfield 9, 3) := by decide +kernel
theorem dX1_begin_5 : decode cX1_begin 5 = .ok (.aload_n 0, 1) := by decide +kernel
theorem dX1_begin_6 : decode cX1_begin 6 = .ok (.iload_n 2, 1) := by decide +kernel
theorem dX1_begin_7 : decode cX1_begin 7 = .ok (.putfield 15, 3) := by decide +kernel
theorem dX1_begin_10 : decode cX1_begin 10 = .ok (.aload_n 0, 1) := by decide +kernel
theorem dX1_begin_11 : decode cX1_begin 11 = .ok (.iload_n 3, 1) := by decide +kernel
theorem dX1_begin_12 : decode cX1_begin 12 = .ok (.putfield 18, 3) := by decide +kernel
theorem dX1_begin_15 : decode cX1_begin 15 = .ok (.aload_n 0, 1) := by decide +kernel
theorem dX1_begin_16 : decode cX1_begin 16 = .ok (.iload 4, 2) := by decide +kernel
theorem dX1_begin_18 : decode cX1_begin 18 = .ok (.putfield 21, 3) := by decide +kernel
theorem dX1_begin_21 : decode cX1_begin 21 = .ok (.aload_n 0, 1) := by decide +kernel
theorem dX1_begin_22 : decode cX1_begin 22 = .ok (.iload 5, 2) := by decide +kernel
theorem dX1_begin_24 : decode cX1_begin 24 = .ok (.putfield 24, 3) := by decide +kernel
theorem dX1_begin_27 : decode cX1_begin 27 = .ok (.aload_n 0, 1) := by decide +kernel
theorem dX1_begin_28 : decode cX1_begin 28 = .ok (.iload 6, 2) := by decide +kernel
theorem dX1_begin_30 : decode cX1_begin 30 = .ok (.putfield 27, 3) := by decide +kernel
theorem dX1_begin_33 : decode cX1_begin 33 = .ok (.aload_n 0, 1) := by decide +kernel
theorem dX1_begin_34 : decode cX1_begin 34 = .ok (.iload 7, 2) := by decide +kernel
theorem dX1_begin_36 : decode cX1_begin 36 = .ok (.putfield 30, 3) := by decide +kernel
theorem dX1_begin_39 : decode cX1_begin 39 = .ok (.aload_n 0, 1) := by decide +kernel
theorem dX1_begin_40 : decode cX1_begin 40 = .ok (.iconst 0, 1) := by decide +kernel
theorem dX1_begin_41 : decode cX1_begin 41 = .ok (.invokevirtual 34, 3) := by decide +kernel
theorem dX1_begin_44 : decode cX1_begin 44 = .ok (.return_, 1) := by decide +kernel
theorem dX1_turn_0 : decode cX1_turn 0 = .ok (.aload_n 0, 1) := by decide +kernel
theorem dX1_turn_1 : decode cX1_turn 1 = .ok (.iload_n 1, 1) := by decide +kernel
theorem dX1_turn_2 : decode cX1_turn 2 = .ok (.putfield 38, 3) := by decide +kernel
theorem dX1_turn_5 : decode cX1_turn 5 = .ok (.aload_n 0, 1) := by decide +kernel
theorem dX1_turn_6 : decode cX1_turn 6 = .ok (.iconst 0, 1) := by decide +kernel
theorem dX1_turn_7 : decode cX1_turn 7 = .ok (.putfield 41, 3) := by decide +kernel
theorem dX1_turn_10 : decode cX1_turn 10 = .ok (.return_, 1) := by decide +kernel
theorem dX3_remove_0 : decode cX3_remove 0 = .ok (.aload_n 0, 1) := by decide +kernel
theorem dX3_remove_1 : decode cX3_remove 1 = .ok (.iload_n 1, 1) := by decide +kernel
theorem dX3_remove_2 : decode cX3_remove 2 = .ok (.invokevirtual 48, 3) := by decide +kernel
theorem dX3_remove_5 : decode cX3_remove 5 = .ok (.istore_n 2, 1) := by decide +kernel
theorem dX3_remove_6 : decode cX3_remove 6 = .ok (.iload_n 2, 1) := by decide +kernel
theorem dX3_remove_7 : decode cX3_remove 7 = .ok (.iconst (-1), 1) := by decide +kernel
theorem dX3_remove_8 : decode cX3_remove 8 = .ok (.if_icmp .ne 6, 3) := by decide +kernel
theorem dX3_remove_11 : decode cX3_remove 11 = .ok (.bipush 27, 2) := by decide +kernel
theorem dX3_remove_13 : decode cX3_remove 13 = .ok (.ireturn, 1) := by decide +kernel
theorem dX3_remove_14 : decode cX3_remove 14 = .ok (.aload_n 0, 1) := by decide +kernel
theorem dX3_remove_15 : decode cX3_remove 15 = .ok (.getfield 15, 3) := by decide +kernel
theorem dX3_remove_18 : decode cX3_remove 18 = .ok (.iload_n 2, 1) := by decide +kernel
theorem dX3_remove_19 : decode cX3_remove 19 = .ok (.aaload, 1) := by decide +kernel
theorem dX3_remove_20 : decode cX3_remove 20 = .ok (.getfield 64, 3) := by decide +kernel
theorem dX3_remove_23 : decode cX3_remove 23 = .ok (.ifCond .eq 6, 3) := by decide +kernel
theorem dX3_remove_26 : decode cX3_remove 26 = .ok (.bipush 15, 2) := by decide +kernel
theorem dX3_remove_28 : decode cX3_remove 28 = .ok (.ireturn, 1) := by decide +kernel
theorem dX3_remove_29 : decode cX3_remove 29 = .ok (.aload_n 0, 1) := by decide +kernel
theorem dX3_remove_30 : decode cX3_remove 30 = .ok (.iload_n 2, 1) := by decide +kernel
theorem dX3_remove_31 : decode cX3_remove 31 = .ok (.invokevirtual 68, 3) := by decide +kernel
theorem dX3_remove_34 : decode cX3_remove 34 = .ok (.iconst 0, 1) := by decide +kernel
theorem dX3_remove_35 : decode cX3_remove 35 = .ok (.ireturn, 1) := by decide +kernel
theorem dX3_closePlace_0 : decode cX3_closePlace 0 = .ok (.aload_n 0, 1) := by decide +kernel
theorem dX3_closePlace_1 : decode cX3_closePlace 1 = .ok (.getfield 15, 3) := by decide +kernel
theorem dX3_closePlace_4 : decode cX3_closePlace 4 = .ok (.iload_n 1, 1) := by decide +kernel
theorem dX3_closePlace_5 : decode cX3_closePlace 5 = .ok (.aaload, 1) := by decide +kernel
theorem dX3_closePlace_6 : decode cX3_closePlace 6 = .ok (.astore_n 2, 1) := by decide +kernel
theorem dX3_closePlace_7 : decode cX3_closePlace 7 = .ok (.aload_n 0, 1) := by decide +kernel
theorem dX3_closePlace_8 : decode cX3_closePlace 8 = .ok (.dup, 1) := by decide +kernel
theorem dX3_closePlace_9 : decode cX3_closePlace 9 = .ok (.getfield 52, 3) := by decide +kernel
theorem dX3_closePlace_12 : decode cX3_closePlace 12 = .ok (.iconst 1, 1) := by decide +kernel
theorem dX3_closePlace_13 : decode cX3_closePlace 13 = .ok (.isub, 1) := by decide +kernel
theorem dX3_closePlace_14 : decode cX3_closePlace 14 = .ok (.putfield 52, 3) := by decide +kernel
theorem dX3_closePlace_17 : decode cX3_closePlace 17 = .ok (.iload_n 1, 1) := by decide +kernel
theorem dX3_closePlace_18 : decode cX3_closePlace 18 = .ok (.istore_n 3, 1) := by decide +kernel
theorem dX3_closePlace_19 : decode cX3_closePlace 19 = .ok (.iload_n 3, 1) := by decide +kernel
theorem dX3_closePlace_20 : decode cX3_closePlace 20 = .ok (.aload_n 0, 1) := by decide +kernel
theorem dX3_closePlace_21 : decode cX3_closePlace 21 = .ok (.getfield 52, 3) := by decide +kernel
theorem dX3_closePlace_24 : decode cX3_closePlace 24 = .ok (.if_icmp .ge 23, 3) := by decide +kernel
theorem dX3_closePlace_27 : decode cX3_closePlace 27 = .ok (.aload_n 0, 1) := by decide +kernel
theorem dX3_closePlace_28 : decode cX3_closePlace 28 = .ok (.getfield 15, 3) := by decide +kernel
theorem dX3_closePlace_31 : decode cX3_closePlace 31 = .ok (.iload_n 3, 1) := by decide +kernel
theorem dX3_closePlace_32 : decode cX3_closePlace 32 = .ok (.aload_n 0, 1) := by decide +kernel
theorem dX3_closePlace_33 : decode cX3_closePlace 33 = .ok (.getfield 15, 3) := by decide +kernel
theorem dX3_closePlace_36 : decode cX3_closePlace 36 = .ok (.iload_n 3, 1) := by decide +kernel
theorem dX3_closePlace_37 : decode cX3_closePlace 37 = .ok (.iconst 1, 1) := by decide +kernel
theorem dX3_closePlace_38 : decode cX3_closePlace 38 = .ok (.iadd, 1) := by decide +kernel
theorem dX3_closePlace_39 : decode cX3_closePlace 39 = .ok (.aaload, 1) := by decide +kernel
theorem dX3_closePlace_40 : decode cX3_closePlace 40 = .ok (.aastore, 1) := by decide +kernel
theorem dX3_closePlace_41 : decode cX3_closePlace 41 = .ok (.iinc 3 1, 3) := by decide +kernel
theorem dX3_closePlace_44 : decode cX3_closePlace 44 = .ok (.goto (-25), 3) := by decide +kernel
theorem dX3_closePlace_47 : decode cX3_closePlace 47 = .ok (.aload_n 0, 1) := by decide +kernel
theorem dX3_closePlace_48 : decode cX3_closePlace 48 = .ok (.getfield 15, 3) := by decide +kernel
theorem dX3_closePlace_51 : decode cX3_closePlace 51 = .ok (.aload_n 0, 1) := by decide +kernel
theorem dX3_closePlace_52 : decode cX3_closePlace 52 = .ok (.getfield 52, 3) := by decide +kernel
theorem dX3_closePlace_55 : decode cX3_closePlace 55 = .ok (.aload_n 2, 1) := by decide +kernel
theorem dX3_closePlace_56 : decode cX3_closePlace 56 = .ok (.aastore, 1) := by decide +kernel
theorem dX3_closePlace_57 : decode cX3_closePlace 57 = .ok (.return_, 1) := by decide +kernel
theorem dX3_enable_0 : decode cX3_enable 0 = .ok (.aload_n 0, 1) := by decide +kernel
theorem dX3_enable_1 : decode cX3_enable 1 = .ok (.iload_n 1, 1) := by decide +kernel
theorem dX3_enable_2 : decode cX3_enable 2 = .ok (.invokevirtual 48, 3) := by decide +kernel
theorem dX3_enable_5 : decode cX3_enable 5 = .ok (.istore_n 3, 1) := by decide +kernel
theorem dX3_enable_6 : decode cX3_enable 6 = .ok (.iload_n 3, 1) := by decide +kernel
theorem dX3_enable_7 : decode cX3_enable 7 = .ok (.iconst (-1), 1) := by decide +kernel
theorem dX3_enable_8 : decode cX3_enable 8 = .ok (.if_icmp .ne 6, 3) := by decide +kernel
theorem dX3_enable_11 : decode cX3_enable 11 = .ok (.bipush 27, 2) := by decide +kernel
theorem dX3_enable_13 : decode cX3_enable 13 = .ok (.ireturn, 1) := by decide +kernel
theorem dX3_enable_14 : decode cX3_enable 14 = .ok (.aload_n 0, 1) := by decide +kernel
theorem dX3_enable_15 : decode cX3_enable 15 = .ok (.getfield 15, 3) := by decide +kernel
theorem dX3_enable_18 : decode cX3_enable 18 = .ok (.iload_n 3, 1) := by decide +kernel
theorem dX3_enable_19 : decode cX3_enable 19 = .ok (.aaload, 1) := by decide +kernel
theorem dX3_enable_20 : decode cX3_enable 20 = .ok (.iload_n 2, 1) := by decide +kernel
theorem dX3_enable_21 : decode cX3_enable 21 = .ok (.invokevirtual 72, 3) := by decide +kernel
theorem dX3_enable_24 : decode cX3_enable 24 = .ok (.iconst 0, 1) := by decide +kernel
theorem dX3_enable_25 : decode cX3_enable 25 = .ok (.ireturn, 1) := by decide +kernel
theorem dX3_watch_0 : decode cX3_watch 0 = .ok (.iconst 0, 1) := by decide +kernel
theorem dX3_watch_1 : decode cX3_watch 1 = .ok (.istore_n 1, 1) := by decide +kernel
theorem dX3_watch_2 : decode cX3_watch 2 = .ok (.aload_n 0, 1) := by decide +kernel
theorem dX3_watch_3 : decode cX3_watch 3 = .ok (.iconst 0, 1) := by decide +kernel
theorem dX3_watch_4 : decode cX3_watch 4 = .ok (.putfield 76, 3) := by decide +kernel
theorem dX3_watch_7 : decode cX3_watch 7 = .ok (.iconst 0, 1) := by decide +kernel
theorem dX3_watch_8 : decode cX3_watch 8 = .ok (.istore_n 2, 1) := by decide +kernel
theorem dX3_watch_9 : decode cX3_watch 9 = .ok (.iload_n 2, 1) := by decide +kernel
theorem dX3_watch_10 : decode cX3_watch 10 = .ok (.aload_n 0, 1) := by decide +kernel
theorem dX3_watch_11 : decode cX3_watch 11 = .ok (.getfield 52, 3) := by decide +kernel
theorem dX3_watch_14 : decode cX3_watch 14 = .ok (.if_icmp .ge 80, 3) := by decide +kernel
theorem dX3_watch_17 : decode cX3_watch 17 = .ok (.aload_n 0, 1) := by decide +kernel
theorem dX3_watch_18 : decode cX3_watch 18 = .ok (.getfield 15, 3) := by decide +kernel
theorem dX3_watch_21 : decode cX3_watch 21 = .ok (.iload_n 2, 1) := by decide +kernel
theorem dX3_watch_22 : decode cX3_watch 22 = .ok (.aaload, 1) := by decide +kernel
theorem dX3_watch_23 : decode cX3_watch 23 = .ok (.astore_n 3, 1) := by decide +kernel
theorem dX3_watch_24 : decode cX3_watch 24 = .ok (.aload_n 0, 1) := by decide +kernel
theorem dX3_watch_25 : decode cX3_watch 25 = .ok (.getfield 9, 3) := by decide +kernel
theorem dX3_watch_28 : decode cX3_watch 28 = .ok (.aload_n 3, 1) := by decide +kernel
theorem dX3_watch_29 : decode cX3_watch 29 = .ok (.getfield 79, 3) := by decide +kernel
theorem dX3_watch_32 : decode cX3_watch 32 = .ok (.iaload, 1) := by decide +kernel
theorem dX3_watch_33 : decode cX3_watch 33 = .ok (.istore 4, 2) := by decide +kernel
theorem dX3_watch_35 : decode cX3_watch 35 = .ok (.aload_n 3, 1) := by decide +kernel
theorem dX3_watch_36 : decode cX3_watch 36 = .ok (.getfield 64, 3) := by decide +kernel
theorem dX3_watch_39 : decode cX3_watch 39 = .ok (.ifCond .eq 49, 3) := by decide +kernel
theorem dX3_watch_42 : decode cX3_watch 42 = .ok (.aload_n 3, 1) := by decide +kernel
theorem dX3_watch_43 : decode cX3_watch 43 = .ok (.iload 4, 2) := by decide +kernel
theorem dX3_watch_45 : decode cX3_watch 45 = .ok (.invokevirtual 82, 3) := by decide +kernel
theorem dX3_watch_48 : decode cX3_watch 48 = .ok (.ifCond .eq 40, 3) := by decide +kernel
theorem dX3_watch_51 : decode cX3_watch 51 = .ok (.iinc 1 1, 3) := by decide +kernel
theorem dX3_watch_54 : decode cX3_watch 54 = .ok (.aload_n 0, 1) := by decide +kernel
theorem dX3_watch_55 : decode cX3_watch 55 = .ok (.aload_n 0, 1) := by decide +kernel
theorem dX3_watch_56 : decode cX3_watch 56 = .ok (.getfield 76, 3) := by decide +kernel
theorem dX3_watch_59 : decode cX3_watch 59 = .ok (.ifCond .ne 10, 3) := by decide +kernel
theorem dX3_watch_62 : decode cX3_watch 62 = .ok (.aload_n 3, 1) := by decide +kernel
theorem dX3_watch_63 : decode cX3_watch 63 = .ok (.getfield 85, 3) := by decide +kernel
theorem dX3_watch_66 : decode cX3_watch 66 = .ok (.ifCond .eq 7, 3) := by decide +kernel
theorem dX3_watch_69 : decode cX3_watch 69 = .ok (.iconst 1, 1) := by decide +kernel
theorem dX3_watch_70 : decode cX3_watch 70 = .ok (.goto 4, 3) := by decide +kernel
theorem dX3_watch_73 : decode cX3_watch 73 = .ok (.iconst 0, 1) := by decide +kernel
theorem dX3_watch_74 : decode cX3_watch 74 = .ok (.putfield 76, 3) := by decide +kernel
theorem dX3_watch_77 : decode cX3_watch 77 = .ok (.aload_n 0, 1) := by decide +kernel
theorem dX3_watch_78 : decode cX3_watch 78 = .ok (.aload_n 3, 1) := by decide +kernel
theorem dX3_watch_79 : decode cX3_watch 79 = .ok (.getfield 88, 3) := by decide +kernel
theorem dX3_watch_82 : decode cX3_watch 82 = .ok (.iload 4, 2) := by decide +kernel
theorem dX3_watch_84 : decode cX3_watch 84 = .ok (.invokevirtual 91, 3) := by decide +kernel
theorem dX3_watch_87 : decode cX3_watch 87 = .ok (.pop, 1) := by decide +kernel
theorem dX3_watch_88 : decode cX3_watch 88 = .ok (.iinc 2 1, 3) := by decide +kernel
theorem dX3_watch_91 : decode cX3_watch 91 = .ok (.goto (-82), 3) := by decide +kernel
theorem dX3_watch_94 : decode cX3_watch 94 = .ok (.aload_n 0, 1) := by decide +kernel
theorem dX3_watch_95 : decode cX3_watch 95 = .ok (.dup, 1) := by decide +kernel
theorem dX3_watch_96 : decode cX3_watch 96 = .ok (.getfield 95, 3) := by decide +kernel
theorem dX3_watch_99 : decode cX3_watch 99 = .ok (.iload_n 1, 1) := by decide +kernel
theorem dX3_watch_100 : decode cX3_watch 100 = .ok (.iadd, 1) := by decide +kernel
theorem dX3_watch_101 : decode cX3_watch 101 = .ok (.putfield 95, 3) := by decide +kernel
theorem dX3_watch_104 : decode cX3_watch 104 = .ok (.iload_n 1, 1) := by decide +kernel
theorem dX3_watch_105 : decode cX3_watch 105 = .ok (.ireturn, 1) := by decide +kernel
theorem dX1_breaksAt_0 : decode cX1_breaksAt 0 = .ok (.iload_n 1, 1) := by decide +kernel
theorem dX1_breaksAt_1 : decode cX1_breaksAt 1 = .ok (.aload_n 0, 1) := by decide +kernel
theorem dX1_breaksAt_2 : decode cX1_breaksAt 2 = .ok (.getfield 21, 3) := by decide +kernel
theorem dX1_breaksAt_5 : decode cX1_breaksAt 5 = .ok (.if_icmp .lt 18, 3) := by decide +kernel
theorem dX1_breaksAt_8 : decode cX1_breaksAt 8 = .ok (.iload_n 1, 1) := by decide +kernel
theorem dX1_breaksAt_9 : decode cX1_breaksAt 9 = .ok (.aload_n 0, 1) := by decide +kernel
theorem dX1_breaksAt_10 : decode cX1_breaksAt 10 = .ok (.getfield 24, 3) := by decide +kernel
theorem dX1_breaksAt_13 : decode cX1_breaksAt 13 = .ok (.if_icmp .gt 10, 3) := by decide +kernel
theorem dX1_breaksAt_16 : decode cX1_breaksAt 16 = .ok (.aload_n 0, 1) := by decide +kernel
theorem dX1_breaksAt_17 : decode cX1_breaksAt 17 = .ok (.iconst 0, 1) := by decide +kernel
theorem dX1_breaksAt_18 : decode cX1_breaksAt 18 = .ok (.putfield 41, 3) := by decide +kernel
theorem dX1_breaksAt_21 : decode cX1_breaksAt 21 = .ok (.iconst 0, 1) := by decide +kernel
theorem dX1_breaksAt_22 : decode cX1_breaksAt 22 = .ok (.ireturn, 1) := by decide +kernel
theorem dX1_breaksAt_23 : decode cX1_breaksAt 23 = .ok (.aload_n 0, 1) := by decide +kernel
theorem dX1_breaksAt_24 : decode cX1_breaksAt 24 = .ok (.dup, 1) := by decide +kernel
theorem dX1_breaksAt_25 : decode cX1_breaksAt 25 = .ok (.getfield 41, 3) := by decide +kernel
theorem dX1_breaksAt_28 : decode cX1_breaksAt 28 = .ok (.iconst 1, 1) := by decide +kernel
theorem dX1_breaksAt_29 : decode cX1_breaksAt 29 = .ok (.iadd, 1) := by decide +kernel
theorem dX1_breaksAt_30 : decode cX1_breaksAt 30 = .ok (.putfield 41, 3) := by decide +kernel
theorem dX1_breaksAt_33 : decode cX1_breaksAt 33 = .ok (.aload_n 0, 1) := by decide +kernel
theorem dX1_breaksAt_34 : decode cX1_breaksAt 34 = .ok (.getfield 41, 3) := by decide +kernel
theorem dX1_breaksAt_37 : decode cX1_breaksAt 37 = .ok (.aload_n 0, 1) := by decide +kernel
theorem dX1_breaksAt_38 : decode cX1_breaksAt 38 = .ok (.getfield 18, 3) := by decide +kernel
theorem dX1_breaksAt_41 : decode cX1_breaksAt 41 = .ok (.if_icmp .ne 7, 3) := by decide +kernel
theorem dX1_breaksAt_44 : decode cX1_breaksAt 44 = .ok (.iconst 1, 1) := by decide +kernel
theorem dX1_breaksAt_45 : decode cX1_breaksAt 45 = .ok (.goto 4, 3) := by decide +kernel
theorem dX1_breaksAt_48 : decode cX1_breaksAt 48 = .ok (.iconst 0, 1) := by decide +kernel
theorem dX1_breaksAt_49 : decode cX1_breaksAt 49 = .ok (.ireturn, 1) := by decide +kernel
theorem dX3_waitOrLose_0 : decode cX3_waitOrLose 0 = .ok (.aload_n 0, 1) := by decide +kernel
theorem dX3_waitOrLose_1 : decode cX3_waitOrLose 1 = .ok (.getfield 28, 3) := by decide +kernel
theorem dX3_waitOrLose_4 : decode cX3_waitOrLose 4 = .ok (.getfield 98, 3) := by decide +kernel
theorem dX3_waitOrLose_7 : decode cX3_waitOrLose 7 = .ok (.bipush 64, 2) := by decide +kernel
theorem dX3_waitOrLose_9 : decode cX3_waitOrLose 9 = .ok (.if_icmp .lt 15, 3) := by decide +kernel
theorem dX3_waitOrLose_12 : decode cX3_waitOrLose 12 = .ok (.aload_n 0, 1) := by decide +kernel
theorem dX3_waitOrLose_13 : decode cX3_waitOrLose 13 = .ok (.dup, 1) := by decide +kernel
theorem dX3_waitOrLose_14 : decode cX3_waitOrLose 14 = .ok (.getfield 117, 3) := by decide +kernel
theorem dX3_waitOrLose_17 : decode cX3_waitOrLose 17 = .ok (.iconst 1, 1) := by decide +kernel
theorem dX3_waitOrLose_18 : decode cX3_waitOrLose 18 = .ok (.iadd, 1) := by decide +kernel
theorem dX3_waitOrLose_19 : decode cX3_waitOrLose 19 = .ok (.putfield 117, 3) := by decide +kernel
theorem dX3_waitOrLose_22 : decode cX3_waitOrLose 22 = .ok (.iconst 0, 1) := by decide +kernel
theorem dX3_waitOrLose_23 : decode cX3_waitOrLose 23 = .ok (.ireturn, 1) := by decide +kernel
theorem dX3_waitOrLose_24 : decode cX3_waitOrLose 24 = .ok (.aload_n 0, 1) := by decide +kernel
theorem dX3_waitOrLose_25 : decode cX3_waitOrLose 25 = .ok (.getfield 28, 3) := by decide +kernel
theorem dX3_waitOrLose_28 : decode cX3_waitOrLose 28 = .ok (.iload_n 1, 1) := by decide +kernel
theorem dX3_waitOrLose_29 : decode cX3_waitOrLose 29 = .ok (.iload_n 2, 1) := by decide +kernel
theorem dX3_waitOrLose_30 : decode cX3_waitOrLose 30 = .ok (.invokevirtual 153, 3) := by decide +kernel
theorem dX3_waitOrLose_33 : decode cX3_waitOrLose 33 = .ok (.iconst 1, 1) := by decide +kernel
theorem dX3_waitOrLose_34 : decode cX3_waitOrLose 34 = .ok (.ireturn, 1) := by decide +kernel
theorem dX2_append_0 : decode cX2_append 0 = .ok (.aload_n 0, 1) := by decide +kernel
theorem dX2_append_1 : decode cX2_append 1 = .ok (.getfield 18, 3) := by decide +kernel
theorem dX2_append_4 : decode cX2_append 4 = .ok (.aload_n 0, 1) := by decide +kernel
theorem dX2_append_5 : decode cX2_append 5 = .ok (.getfield 22, 3) := by decide +kernel
theorem dX2_append_8 : decode cX2_append 8 = .ok (.iadd, 1) := by decide +kernel
theorem dX2_append_9 : decode cX2_append 9 = .ok (.bipush 64, 2) := by decide +kernel
theorem dX2_append_11 : decode cX2_append 11 = .ok (.irem, 1) := by decide +kernel
theorem dX2_append_12 : decode cX2_append 12 = .ok (.istore_n 3, 1) := by decide +kernel
theorem dX2_append_13 : decode cX2_append 13 = .ok (.aload_n 0, 1) := by decide +kernel
theorem dX2_append_14 : decode cX2_append 14 = .ok (.getfield 9, 3) := by decide +kernel
theorem dX2_append_17 : decode cX2_append 17 = .ok (.iload_n 3, 1) := by decide +kernel
theorem dX2_append_18 : decode cX2_append 18 = .ok (.iload_n 1, 1) := by decide +kernel
theorem dX2_append_19 : decode cX2_append 19 = .ok (.iastore, 1) := by decide +kernel
theorem dX2_append_20 : decode cX2_append 20 = .ok (.aload_n 0, 1) := by decide +kernel
theorem dX2_append_21 : decode cX2_append 21 = .ok (.getfield 15, 3) := by decide +kernel
theorem dX2_append_24 : decode cX2_append 24 = .ok (.iload_n 3, 1) := by decide +kernel
theorem dX2_append_25 : decode cX2_append 25 = .ok (.iload_n 2, 1) := by decide +kernel
theorem dX2_append_26 : decode cX2_append 26 = .ok (.iastore, 1) := by decide +kernel
theorem dX2_append_27 : decode cX2_append 27 = .ok (.aload_n 0, 1) := by decide +kernel
theorem dX2_append_28 : decode cX2_append 28 = .ok (.dup, 1) := by decide +kernel
theorem dX2_append_29 : decode cX2_append 29 = .ok (.getfield 22, 3) := by decide +kernel
theorem dX2_append_32 : decode cX2_append 32 = .ok (.iconst 1, 1) := by decide +kernel
theorem dX2_append_33 : decode cX2_append 33 = .ok (.iadd, 1) := by decide +kernel
theorem dX2_append_34 : decode cX2_append 34 = .ok (.putfield 22, 3) := by decide +kernel
theorem dX2_append_37 : decode cX2_append 37 = .ok (.return_, 1) := by decide +kernel
theorem dX3_linked_0 : decode cX3_linked 0 = .ok (.aload_n 0, 1) := by decide +kernel
theorem dX3_linked_1 : decode cX3_linked 1 = .ok (.getfield 76, 3) := by decide +kernel
theorem dX3_linked_4 : decode cX3_linked 4 = .ok (.ireturn, 1) := by decide +kernel
theorem dX3_raise_0 : decode cX3_raise 0 = .ok (.iload_n 1, 1) := by decide +kernel
theorem dX3_raise_1 : decode cX3_raise 1 = .ok (.invokestatic 45, 3) := by decide +kernel
theorem dX3_raise_4 : decode cX3_raise 4 = .ok (.ifCond .eq 16, 3) := by decide +kernel
theorem dX3_raise_7 : decode cX3_raise 7 = .ok (.aload_n 0, 1) := by decide +kernel
theorem dX3_raise_8 : decode cX3_raise 8 = .ok (.iload_n 1, 1) := by decide +kernel
theorem dX3_raise_9 : decode cX3_raise 9 = .ok (.iload_n 2, 1) := by decide +kernel
theorem dX3_raise_10 : decode cX3_raise 10 = .ok (.invokevirtual 91, 3) := by decide +kernel
theorem dX3_raise_13 : decode cX3_raise 13 = .ok (.ifCond .eq 7, 3) := by decide +kernel
theorem dX3_raise_16 : decode cX3_raise 16 = .ok (.iconst 1, 1) := by decide +kernel
theorem dX3_raise_17 : decode cX3_raise 17 = .ok (.goto 4, 3) := by decide +kernel
theorem dX3_raise_20 : decode cX3_raise 20 = .ok (.iconst 0, 1) := by decide +kernel
theorem dX3_raise_21 : decode cX3_raise 21 = .ok (.ireturn, 1) := by decide +kernel
theorem dX3_work_0 : decode cX3_work 0 = .ok (.aload_n 0, 1) := by decide +kernel
theorem dX3_work_1 : decode cX3_work 1 = .ok (.getfield 28, 3) := by decide +kernel
theorem dX3_work_4 : decode cX3_work 4 = .ok (.getfield 98, 3) := by decide +kernel
theorem dX3_work_7 : decode cX3_work 7 = .ok (.ifCond .ne 5, 3) := by decide +kernel
theorem dX3_work_10 : decode cX3_work 10 = .ok (.iconst (-1), 1) := by decide +kernel
theorem dX3_work_11 : decode cX3_work 11 = .ok (.ireturn, 1) := by decide +kernel
theorem dX3_work_12 : decode cX3_work 12 = .ok (.aload_n 0, 1) := by decide +kernel
theorem dX3_work_13 : decode cX3_work 13 = .ok (.getfield 28, 3) := by decide +kernel
theorem dX3_work_16 : decode cX3_work 16 = .ok (.invokevirtual 101, 3) := by decide +kernel
theorem dX3_work_19 : decode cX3_work 19 = .ok (.istore_n 1, 1) := by decide +kernel
theorem dX3_work_20 : decode cX3_work 20 = .ok (.aload_n 0, 1) := by decide +kernel
theorem dX3_work_21 : decode cX3_work 21 = .ok (.aload_n 0, 1) := by decide +kernel
theorem dX3_work_22 : decode cX3_work 22 = .ok (.getfield 28, 3) := by decide +kernel
theorem dX3_work_25 : decode cX3_work 25 = .ok (.invokevirtual 105, 3) := by decide +kernel
theorem dX3_work_28 : decode cX3_work 28 = .ok (.putfield 108, 3) := by decide +kernel
theorem dX3_work_31 : decode cX3_work 31 = .ok (.aload_n 0, 1) := by decide +kernel
theorem dX3_work_32 : decode cX3_work 32 = .ok (.getfield 28, 3) := by decide +kernel
theorem dX3_work_35 : decode cX3_work 35 = .ok (.invokevirtual 111, 3) := by decide +kernel
theorem dX3_work_38 : decode cX3_work 38 = .ok (.iload_n 1, 1) := by decide +kernel
theorem dX3_work_39 : decode cX3_work 39 = .ok (.ireturn, 1) := by decide +kernel
theorem dX2_firstEvent_0 : decode cX2_firstEvent 0 = .ok (.aload_n 0, 1) := by decide +kernel
theorem dX2_firstEvent_1 : decode cX2_firstEvent 1 = .ok (.getfield 9, 3) := by decide +kernel
theorem dX2_firstEvent_4 : decode cX2_firstEvent 4 = .ok (.aload_n 0, 1) := by decide +kernel
theorem dX2_firstEvent_5 : decode cX2_firstEvent 5 = .ok (.getfield 18, 3) := by decide +kernel
theorem dX2_firstEvent_8 : decode cX2_firstEvent 8 = .ok (.iaload, 1) := by decide +kernel
theorem dX2_firstEvent_9 : decode cX2_firstEvent 9 = .ok (.ireturn, 1) := by decide +kernel
theorem dX2_firstNumber_0 : decode cX2_firstNumber 0 = .ok (.aload_n 0, 1) := by decide +kernel
theorem dX2_firstNumber_1 : decode cX2_firstNumber 1 = .ok (.getfield 15, 3) := by decide +kernel
theorem dX2_firstNumber_4 : decode cX2_firstNumber 4 = .ok (.aload_n 0, 1) := by decide +kernel
theorem dX2_firstNumber_5 : decode cX2_firstNumber 5 = .ok (.getfield 18, 3) := by decide +kernel
theorem dX2_firstNumber_8 : decode cX2_firstNumber 8 = .ok (.iaload, 1) := by decide +kernel
theorem dX2_firstNumber_9 : decode cX2_firstNumber 9 = .ok (.ireturn, 1) := by decide +kernel
theorem dX2_takeFirst_0 : decode cX2_takeFirst 0 = .ok (.aload_n 0, 1) := by decide +kernel
theorem dX2_takeFirst_1 : decode cX2_takeFirst 1 = .ok (.aload_n 0, 1) := by decide +kernel
theorem dX2_takeFirst_2 : decode cX2_takeFirst 2 = .ok (.getfield 18, 3) := by decide +kernel
theorem dX2_takeFirst_5 : decode cX2_takeFirst 5 = .ok (.iconst 1, 1) := by decide +kernel
theorem dX2_takeFirst_6 : decode cX2_takeFirst 6 = .ok (.iadd, 1) := by decide +kernel
theorem dX2_takeFirst_7 : decode cX2_takeFirst 7 = .ok (.bipush 64, 2) := by decide +kernel
theorem dX2_takeFirst_9 : decode cX2_takeFirst 9 = .ok (.irem, 1) := by decide +kernel
theorem dX2_takeFirst_10 : decode cX2_takeFirst 10 = .ok (.putfield 18, 3) := by decide +kernel
theorem dX2_takeFirst_13 : decode cX2_takeFirst 13 = .ok (.aload_n 0, 1) := by decide +kernel
theorem dX2_takeFirst_14 : decode cX2_takeFirst 14 = .ok (.dup, 1) := by decide +kernel
theorem dX2_takeFirst_15 : decode cX2_takeFirst 15 = .ok (.getfield 22, 3) := by decide +kernel
theorem dX2_takeFirst_18 : decode cX2_takeFirst 18 = .ok (.iconst 1, 1) := by decide +kernel
theorem dX2_takeFirst_19 : decode cX2_takeFirst 19 = .ok (.isub, 1) := by decide +kernel
theorem dX2_takeFirst_20 : decode cX2_takeFirst 20 = .ok (.putfield 22, 3) := by decide +kernel
theorem dX2_takeFirst_23 : decode cX2_takeFirst 23 = .ok (.return_, 1) := by decide +kernel
theorem dX3_lose_0 : decode cX3_lose 0 = .ok (.aload_n 0, 1) := by decide +kernel
theorem dX3_lose_1 : decode cX3_lose 1 = .ok (.getfield 28, 3) := by decide +kernel
theorem dX3_lose_4 : decode cX3_lose 4 = .ok (.getfield 98, 3) := by decide +kernel
theorem dX3_lose_7 : decode cX3_lose 7 = .ok (.istore_n 1, 1) := by decide +kernel
theorem dX3_lose_8 : decode cX3_lose 8 = .ok (.aload_n 0, 1) := by decide +kernel
theorem dX3_lose_9 : decode cX3_lose 9 = .ok (.getfield 28, 3) := by decide +kernel
theorem dX3_lose_12 : decode cX3_lose 12 = .ok (.invokevirtual 114, 3) := by decide +kernel
theorem dX3_lose_15 : decode cX3_lose 15 = .ok (.aload_n 0, 1) := by decide +kernel
theorem dX3_lose_16 : decode cX3_lose 16 = .ok (.dup, 1) := by decide +kernel
theorem dX3_lose_17 : decode cX3_lose 17 = .ok (.getfield 117, 3) := by decide +kernel
theorem dX3_lose_20 : decode cX3_lose 20 = .ok (.iload_n 1, 1) := by decide +kernel
theorem dX3_lose_21 : decode cX3_lose 21 = .ok (.iadd, 1) := by decide +kernel
theorem dX3_lose_22 : decode cX3_lose 22 = .ok (.putfield 117, 3) := by decide +kernel
theorem dX3_lose_25 : decode cX3_lose 25 = .ok (.iload_n 1, 1) := by decide +kernel
theorem dX3_lose_26 : decode cX3_lose 26 = .ok (.ireturn, 1) := by decide +kernel
theorem dX2_empty_0 : decode cX2_empty 0 = .ok (.aload_n 0, 1) := by decide +kernel
theorem dX2_empty_1 : decode cX2_empty 1 = .ok (.iconst 0, 1) := by decide +kernel
theorem dX2_empty_2 : decode cX2_empty 2 = .ok (.putfield 22, 3) := by decide +kernel
theorem dX2_empty_5 : decode cX2_empty 5 = .ok (.return_, 1) := by decide +kernel
theorem dX3_tell_0 : decode cX3_tell 0 = .ok (.iload_n 1, 1) := by decide +kernel
theorem dX3_tell_1 : decode cX3_tell 1 = .ok (.invokestatic 45, 3) := by decide +kernel
theorem dX3_tell_4 : decode cX3_tell 4 = .ok (.ifCond .ne 6, 3) := by decide +kernel
theorem dX3_tell_7 : decode cX3_tell 7 = .ok (.bipush 16, 2) := by decide +kernel
theorem dX3_tell_9 : decode cX3_tell 9 = .ok (.ireturn, 1) := by decide +kernel
theorem dX3_tell_10 : decode cX3_tell 10 = .ok (.aload_n 0, 1) := by decide +kernel
theorem dX3_tell_11 : decode cX3_tell 11 = .ok (.getfield 21, 3) := by decide +kernel
theorem dX3_tell_14 : decode cX3_tell 14 = .ok (.iload_n 1, 1) := by decide +kernel
theorem dX3_tell_15 : decode cX3_tell 15 = .ok (.aaload, 1) := by decide +kernel
theorem dX3_tell_16 : decode cX3_tell 16 = .ok (.iload_n 2, 1) := by decide +kernel
theorem dX3_tell_17 : decode cX3_tell 17 = .ok (.putfield 120, 3) := by decide +kernel
theorem dX3_tell_20 : decode cX3_tell 20 = .ok (.iconst 0, 1) := by decide +kernel
theorem dX3_tell_21 : decode cX3_tell 21 = .ok (.ireturn, 1) := by decide +kernel
theorem dX3_put_0 : decode cX3_put 0 = .ok (.aload_n 0, 1) := by decide +kernel
theorem dX3_put_1 : decode cX3_put 1 = .ok (.getfield 123, 3) := by decide +kernel
theorem dX3_put_4 : decode cX3_put 4 = .ok (.sipush 256, 3) := by decide +kernel
theorem dX3_put_7 : decode cX3_put 7 = .ok (.if_icmp .lt 5, 3) := by decide +kernel
theorem dX3_put_10 : decode cX3_put 10 = .ok (.iconst (-1), 1) := by decide +kernel
theorem dX3_put_11 : decode cX3_put 11 = .ok (.ireturn, 1) := by decide +kernel
theorem dX3_put_12 : decode cX3_put 12 = .ok (.aload_n 0, 1) := by decide +kernel
theorem dX3_put_13 : decode cX3_put 13 = .ok (.getfield 32, 3) := by decide +kernel
theorem dX3_put_16 : decode cX3_put 16 = .ok (.aload_n 0, 1) := by decide +kernel
theorem dX3_put_17 : decode cX3_put 17 = .ok (.getfield 123, 3) := by decide +kernel
theorem dX3_put_20 : decode cX3_put 20 = .ok (.iload_n 1, 1) := by decide +kernel
theorem dX3_put_21 : decode cX3_put 21 = .ok (.i2b, 1) := by decide +kernel
theorem dX3_put_22 : decode cX3_put 22 = .ok (.bastore, 1) := by decide +kernel
theorem dX3_put_23 : decode cX3_put 23 = .ok (.aload_n 0, 1) := by decide +kernel
theorem dX3_put_24 : decode cX3_put 24 = .ok (.dup, 1) := by decide +kernel
theorem dX3_put_25 : decode cX3_put 25 = .ok (.getfield 123, 3) := by decide +kernel
theorem dX3_put_28 : decode cX3_put 28 = .ok (.iconst 1, 1) := by decide +kernel
theorem dX3_put_29 : decode cX3_put 29 = .ok (.iadd, 1) := by decide +kernel
theorem dX3_put_30 : decode cX3_put 30 = .ok (.putfield 123, 3) := by decide +kernel
theorem dX3_put_33 : decode cX3_put 33 = .ok (.aload_n 0, 1) := by decide +kernel
theorem dX3_put_34 : decode cX3_put 34 = .ok (.getfield 123, 3) := by decide +kernel
theorem dX3_put_37 : decode cX3_put 37 = .ok (.ireturn, 1) := by decide +kernel
theorem dX3_act_0 : decode cX3_act 0 = .ok (.aload_n 0, 1) := by decide +kernel
theorem dX3_act_1 : decode cX3_act 1 = .ok (.getfield 123, 3) := by decide +kernel
theorem dX3_act_4 : decode cX3_act 4 = .ok (.istore_n 2, 1) := by decide +kernel
theorem dX3_act_5 : decode cX3_act 5 = .ok (.aload_n 0, 1) := by decide +kernel
theorem dX3_act_6 : decode cX3_act 6 = .ok (.iconst 0, 1) := by decide +kernel
theorem dX3_act_7 : decode cX3_act 7 = .ok (.putfield 123, 3) := by decide +kernel
theorem dX3_act_10 : decode cX3_act 10 = .ok (.iload_n 1, 1) := by decide +kernel
theorem dX3_act_11 : decode cX3_act 11 = .ok (.invokestatic 45, 3) := by decide +kernel
theorem dX3_act_14 : decode cX3_act 14 = .ok (.ifCond .ne 6, 3) := by decide +kernel
theorem dX3_act_17 : decode cX3_act 17 = .ok (.bipush 16, 2) := by decide +kernel
theorem dX3_act_19 : decode cX3_act 19 = .ok (.ireturn, 1) := by decide +kernel
theorem dX3_act_20 : decode cX3_act 20 = .ok (.iload_n 2, 1) := by decide +kernel
theorem dX3_act_21 : decode cX3_act 21 = .ok (.ifCond .ne 6, 3) := by decide +kernel
theorem dX3_act_24 : decode cX3_act 24 = .ok (.bipush 22, 2) := by decide +kernel
theorem dX3_act_26 : decode cX3_act 26 = .ok (.ireturn, 1) := by decide +kernel
theorem dX3_act_27 : decode cX3_act 27 = .ok (.aload_n 0, 1) := by decide +kernel
theorem dX3_act_28 : decode cX3_act 28 = .ok (.getfield 21, 3) := by decide +kernel
theorem dX3_act_31 : decode cX3_act 31 = .ok (.iload_n 1, 1) := by decide +kernel
theorem dX3_act_32 : decode cX3_act 32 = .ok (.aaload, 1) := by decide +kernel
theorem dX3_act_33 : decode cX3_act 33 = .ok (.invokevirtual 126, 3) := by decide +kernel
theorem dX3_act_36 : decode cX3_act 36 = .ok (.ifCond .eq 6, 3) := by decide +kernel
theorem dX3_act_39 : decode cX3_act 39 = .ok (.bipush 29, 2) := by decide +kernel
theorem dX3_act_41 : decode cX3_act 41 = .ok (.ireturn, 1) := by decide +kernel
theorem dX3_act_42 : decode cX3_act 42 = .ok (.aload_n 0, 1) := by decide +kernel
theorem dX3_act_43 : decode cX3_act 43 = .ok (.getfield 21, 3) := by decide +kernel
theorem dX3_act_46 : decode cX3_act 46 = .ok (.iload_n 1, 1) := by decide +kernel
theorem dX3_act_47 : decode cX3_act 47 = .ok (.aaload, 1) := by decide +kernel
theorem dX3_act_48 : decode cX3_act 48 = .ok (.aload_n 0, 1) := by decide +kernel
theorem dX3_act_49 : decode cX3_act 49 = .ok (.getfield 32, 3) := by decide +kernel
theorem dX3_act_52 : decode cX3_act 52 = .ok (.iload_n 2, 1) := by decide +kernel
theorem dX3_act_53 : decode cX3_act 53 = .ok (.invokevirtual 130, 3) := by decide +kernel
theorem dX3_act_56 : decode cX3_act 56 = .ok (.iconst 0, 1) := by decide +kernel
theorem dX3_act_57 : decode cX3_act 57 = .ok (.ireturn, 1) := by decide +kernel
theorem dX0_hasAction_0 : decode cX0_hasAction 0 = .ok (.aload_n 0, 1) := by decide +kernel
theorem dX0_hasAction_1 : decode cX0_hasAction 1 = .ok (.getfield 19, 3) := by decide +kernel
theorem dX0_hasAction_4 : decode cX0_hasAction 4 = .ok (.ifCond .le 7, 3) := by decide +kernel
theorem dX0_hasAction_7 : decode cX0_hasAction 7 = .ok (.iconst 1, 1) := by decide +kernel
theorem dX0_hasAction_8 : decode cX0_hasAction 8 = .ok (.goto 4, 3) := by decide +kernel
theorem dX0_hasAction_11 : decode cX0_hasAction 11 = .ok (.iconst 0, 1) := by decide +kernel
theorem dX0_hasAction_12 : decode cX0_hasAction 12 = .ok (.ireturn, 1) := by decide +kernel
theorem dX0_takeAction_0 : decode cX0_takeAction 0 = .ok (.aload_n 1, 1) := by decide +kernel
theorem dX0_takeAction_1 : decode cX0_takeAction 1 = .ok (.iconst 0, 1) := by decide +kernel
theorem dX0_takeAction_2 : decode cX0_takeAction 2 = .ok (.aload_n 0, 1) := by decide +kernel
theorem dX0_takeAction_3 : decode cX0_takeAction 3 = .ok (.getfield 15, 3) := by decide +kernel
theorem dX0_takeAction_6 : decode cX0_takeAction 6 = .ok (.iconst 0, 1) := by decide +kernel
theorem dX0_takeAction_7 : decode cX0_takeAction 7 = .ok (.iload_n 2, 1) := by decide +kernel
theorem dX0_takeAction_8 : decode cX0_takeAction 8 = .ok (.invokestatic 23, 3) := by decide +kernel
theorem dX0_takeAction_11 : decode cX0_takeAction 11 = .ok (.aload_n 0, 1) := by decide +kernel
theorem dX0_takeAction_12 : decode cX0_takeAction 12 = .ok (.iload_n 2, 1) := by decide +kernel
theorem dX0_takeAction_13 : decode cX0_takeAction 13 = .ok (.putfield 19, 3) := by decide +kernel
theorem dX0_takeAction_16 : decode cX0_takeAction 16 = .ok (.aload_n 0, 1) := by decide +kernel
theorem dX0_takeAction_17 : decode cX0_takeAction 17 = .ok (.iconst 0, 1) := by decide +kernel
theorem dX0_takeAction_18 : decode cX0_takeAction 18 = .ok (.putfield 29, 3) := by decide +kernel
theorem dX0_takeAction_21 : decode cX0_takeAction 21 = .ok (.return_, 1) := by decide +kernel
theorem dX3_drop_0 : decode cX3_drop 0 = .ok (.aload_n 0, 1) := by decide +kernel
theorem dX3_drop_1 : decode cX3_drop 1 = .ok (.iload_n 1, 1) := by decide +kernel
theorem dX3_drop_2 : decode cX3_drop 2 = .ok (.invokevirtual 134, 3) := by decide +kernel
theorem dX3_drop_5 : decode cX3_drop 5 = .ok (.istore_n 2, 1) := by decide +kernel
theorem dX3_drop_6 : decode cX3_drop 6 = .ok (.iload_n 2, 1) := by decide +kernel
theorem dX3_drop_7 : decode cX3_drop 7 = .ok (.ifCond .eq 5, 3) := by decide +kernel
theorem dX3_drop_10 : decode cX3_drop 10 = .ok (.iload_n 2, 1) := by decide +kernel
theorem dX3_drop_11 : decode cX3_drop 11 = .ok (.ireturn, 1) := by decide +kernel
theorem dX3_drop_12 : decode cX3_drop 12 = .ok (.aload_n 0, 1) := by decide +kernel
theorem dX3_drop_13 : decode cX3_drop 13 = .ok (.getfield 21, 3) := by decide +kernel
theorem dX3_drop_16 : decode cX3_drop 16 = .ok (.iload_n 1, 1) := by decide +kernel
theorem dX3_drop_17 : decode cX3_drop 17 = .ok (.aaload, 1) := by decide +kernel
theorem dX3_drop_18 : decode cX3_drop 18 = .ok (.getfield 137, 3) := by decide +kernel
theorem dX3_drop_21 : decode cX3_drop 21 = .ok (.ifCond .eq 6, 3) := by decide +kernel
theorem dX3_drop_24 : decode cX3_drop 24 = .ok (.bipush 15, 2) := by decide +kernel
theorem dX3_drop_26 : decode cX3_drop 26 = .ok (.ireturn, 1) := by decide +kernel
theorem dX3_drop_27 : decode cX3_drop 27 = .ok (.aload_n 0, 1) := by decide +kernel
theorem dX3_drop_28 : decode cX3_drop 28 = .ok (.getfield 21, 3) := by decide +kernel
theorem dX3_drop_31 : decode cX3_drop 31 = .ok (.iload_n 1, 1) := by decide +kernel
theorem dX3_drop_32 : decode cX3_drop 32 = .ok (.aaload, 1) := by decide +kernel
theorem dX3_drop_33 : decode cX3_drop 33 = .ok (.iconst 0, 1) := by decide +kernel
theorem dX3_drop_34 : decode cX3_drop 34 = .ok (.putfield 140, 3) := by decide +kernel
theorem dX3_drop_37 : decode cX3_drop 37 = .ok (.iconst 0, 1) := by decide +kernel
theorem dX3_drop_38 : decode cX3_drop 38 = .ok (.ireturn, 1) := by decide +kernel
theorem dX3_actionFailure_0 : decode cX3_actionFailure 0 = .ok (.iload_n 1, 1) := by decide +kernel
theorem dX3_actionFailure_1 : decode cX3_actionFailure 1 = .ok (.invokestatic 45, 3) := by decide +kernel
theorem dX3_actionFailure_4 : decode cX3_actionFailure 4 = .ok (.ifCond .ne 6, 3) := by decide +kernel
theorem dX3_actionFailure_7 : decode cX3_actionFailure 7 = .ok (.bipush 16, 2) := by decide +kernel
theorem dX3_actionFailure_9 : decode cX3_actionFailure 9 = .ok (.ireturn, 1) := by decide +kernel
theorem dX3_actionFailure_10 : decode cX3_actionFailure 10 = .ok (.aload_n 0, 1) := by decide +kernel
theorem dX3_actionFailure_11 : decode cX3_actionFailure 11 = .ok (.getfield 21, 3) := by decide +kernel
theorem dX3_actionFailure_14 : decode cX3_actionFailure 14 = .ok (.iload_n 1, 1) := by decide +kernel
theorem dX3_actionFailure_15 : decode cX3_actionFailure 15 = .ok (.aaload, 1) := by decide +kernel
theorem dX3_actionFailure_16 : decode cX3_actionFailure 16 = .ok (.invokevirtual 126, 3) := by decide +kernel
theorem dX3_actionFailure_19 : decode cX3_actionFailure 19 = .ok (.ifCond .eq 7, 3) := by decide +kernel
theorem dX3_actionFailure_22 : decode cX3_actionFailure 22 = .ok (.iconst 0, 1) := by decide +kernel
theorem dX3_actionFailure_23 : decode cX3_actionFailure 23 = .ok (.goto 5, 3) := by decide +kernel
theorem dX3_actionFailure_26 : decode cX3_actionFailure 26 = .ok (.bipush 30, 2) := by decide +kernel
theorem dX3_actionFailure_28 : decode cX3_actionFailure 28 = .ok (.ireturn, 1) := by decide +kernel
theorem dX3_arm_0 : decode cX3_arm 0 = .ok (.aload_n 0, 1) := by decide +kernel
theorem dX3_arm_1 : decode cX3_arm 1 = .ok (.iload_n 1, 1) := by decide +kernel
theorem dX3_arm_2 : decode cX3_arm 2 = .ok (.invokevirtual 134, 3) := by decide +kernel
theorem dX3_arm_5 : decode cX3_arm 5 = .ok (.istore_n 3, 1) := by decide +kernel
theorem dX3_arm_6 : decode cX3_arm 6 = .ok (.iload_n 3, 1) := by decide +kernel
theorem dX3_arm_7 : decode cX3_arm 7 = .ok (.ifCond .eq 5, 3) := by decide +kernel
theorem dX3_arm_10 : decode cX3_arm 10 = .ok (.iload_n 3, 1) := by decide +kernel
theorem dX3_arm_11 : decode cX3_arm 11 = .ok (.ireturn, 1) := by decide +kernel
theorem dX3_arm_12 : decode cX3_arm 12 = .ok (.aload_n 0, 1) := by decide +kernel
theorem dX3_arm_13 : decode cX3_arm 13 = .ok (.getfield 21, 3) := by decide +kernel
theorem dX3_arm_16 : decode cX3_arm 16 = .ok (.iload_n 1, 1) := by decide +kernel
theorem dX3_arm_17 : decode cX3_arm 17 = .ok (.aaload, 1) := by decide +kernel
theorem dX3_arm_18 : decode cX3_arm 18 = .ok (.iload_n 2, 1) := by decide +kernel
theorem dX3_arm_19 : decode cX3_arm 19 = .ok (.putfield 137, 3) := by decide +kernel
theorem dX3_arm_22 : decode cX3_arm 22 = .ok (.iconst 0, 1) := by decide +kernel
theorem dX3_arm_23 : decode cX3_arm 23 = .ok (.ireturn, 1) := by decide +kernel
theorem dX3_limit_0 : decode cX3_limit 0 = .ok (.aload_n 0, 1) := by decide +kernel
theorem dX3_limit_1 : decode cX3_limit 1 = .ok (.iload_n 1, 1) := by decide +kernel
theorem dX3_limit_2 : decode cX3_limit 2 = .ok (.invokevirtual 48, 3) := by decide +kernel
theorem dX3_limit_5 : decode cX3_limit 5 = .ok (.istore_n 3, 1) := by decide +kernel
theorem dX3_limit_6 : decode cX3_limit 6 = .ok (.iload_n 3, 1) := by decide +kernel
theorem dX3_limit_7 : decode cX3_limit 7 = .ok (.iconst (-1), 1) := by decide +kernel
theorem dX3_limit_8 : decode cX3_limit 8 = .ok (.if_icmp .ne 7, 3) := by decide +kernel
theorem dX3_limit_11 : decode cX3_limit 11 = .ok (.iconst (-1), 1) := by decide +kernel
theorem dX3_limit_12 : decode cX3_limit 12 = .ok (.goto 13, 3) := by decide +kernel
theorem dX3_limit_15 : decode cX3_limit 15 = .ok (.aload_n 0, 1) := by decide +kernel
theorem dX3_limit_16 : decode cX3_limit 16 = .ok (.getfield 15, 3) := by decide +kernel
theorem dX3_limit_19 : decode cX3_limit 19 = .ok (.iload_n 3, 1) := by decide +kernel
theorem dX3_limit_20 : decode cX3_limit 20 = .ok (.aaload, 1) := by decide +kernel
theorem dX3_limit_21 : decode cX3_limit 21 = .ok (.iload_n 2, 1) := by decide +kernel
theorem dX3_limit_22 : decode cX3_limit 22 = .ok (.invokevirtual 143, 3) := by decide +kernel
theorem dX3_limit_25 : decode cX3_limit 25 = .ok (.ireturn, 1) := by decide +kernel
theorem dX1_tellOf_0 : decode cX1_tellOf 0 = .ok (.iload_n 1, 1) := by decide +kernel
theorem dX1_tellOf_1 : decode cX1_tellOf 1 = .ok (.tableswitch 75 0 5 #[39, 47, 52, 57, 62, 67], 39) := by decide +kernel
theorem dX1_tellOf_40 : decode cX1_tellOf 40 = .ok (.aload_n 0, 1) := by decide +kernel
theorem dX1_tellOf_41 : decode cX1_tellOf 41 = .ok (.getfield 38, 3) := by decide +kernel
theorem dX1_tellOf_44 : decode cX1_tellOf 44 = .ok (.invokestatic 44, 3) := by decide +kernel
theorem dX1_tellOf_47 : decode cX1_tellOf 47 = .ok (.ireturn, 1) := by decide +kernel
theorem dX1_tellOf_48 : decode cX1_tellOf 48 = .ok (.aload_n 0, 1) := by decide +kernel
theorem dX1_tellOf_49 : decode cX1_tellOf 49 = .ok (.getfield 41, 3) := by decide +kernel
theorem dX1_tellOf_52 : decode cX1_tellOf 52 = .ok (.ireturn, 1) := by decide +kernel
theorem dX1_tellOf_53 : decode cX1_tellOf 53 = .ok (.aload_n 0, 1) := by decide +kernel
theorem dX1_tellOf_54 : decode cX1_tellOf 54 = .ok (.getfield 15, 3) := by decide +kernel
theorem dX1_tellOf_57 : decode cX1_tellOf 57 = .ok (.ireturn, 1) := by decide +kernel
theorem dX1_tellOf_58 : decode cX1_tellOf 58 = .ok (.aload_n 0, 1) := by decide +kernel
theorem dX1_tellOf_59 : decode cX1_tellOf 59 = .ok (.getfield 18, 3) := by decide +kernel
theorem dX1_tellOf_62 : decode cX1_tellOf 62 = .ok (.ireturn, 1) := by decide +kernel
theorem dX1_tellOf_63 : decode cX1_tellOf 63 = .ok (.aload_n 0, 1) := by decide +kernel
theorem dX1_tellOf_64 : decode cX1_tellOf 64 = .ok (.getfield 27, 3) := by decide +kernel
theorem dX1_tellOf_67 : decode cX1_tellOf 67 = .ok (.ireturn, 1) := by decide +kernel
theorem dX1_tellOf_68 : decode cX1_tellOf 68 = .ok (.aload_n 0, 1) := by decide +kernel
theorem dX1_tellOf_69 : decode cX1_tellOf 69 = .ok (.getfield 30, 3) := by decide +kernel
theorem dX1_tellOf_72 : decode cX1_tellOf 72 = .ok (.invokestatic 44, 3) := by decide +kernel
theorem dX1_tellOf_75 : decode cX1_tellOf 75 = .ok (.ireturn, 1) := by decide +kernel
theorem dX1_tellOf_76 : decode cX1_tellOf 76 = .ok (.iconst (-1), 1) := by decide +kernel
theorem dX1_tellOf_77 : decode cX1_tellOf 77 = .ok (.ireturn, 1) := by decide +kernel
theorem dX3_oneIf_0 : decode cX3_oneIf 0 = .ok (.iload_n 0, 1) := by decide +kernel
theorem dX3_oneIf_1 : decode cX3_oneIf 1 = .ok (.ifCond .eq 7, 3) := by decide +kernel
theorem dX3_oneIf_4 : decode cX3_oneIf 4 = .ok (.iconst 1, 1) := by decide +kernel
theorem dX3_oneIf_5 : decode cX3_oneIf 5 = .ok (.goto 4, 3) := by decide +kernel
theorem dX3_oneIf_8 : decode cX3_oneIf 8 = .ok (.iconst 0, 1) := by decide +kernel
theorem dX3_oneIf_9 : decode cX3_oneIf 9 = .ok (.ireturn, 1) := by decide +kernel
theorem dX3_event_0 : decode cX3_event 0 = .ok (.iload_n 1, 1) := by decide +kernel
theorem dX3_event_1 : decode cX3_event 1 = .ok (.invokestatic 45, 3) := by decide +kernel
theorem dX3_event_4 : decode cX3_event 4 = .ok (.ifCond .eq 16, 3) := by decide +kernel
theorem dX3_event_7 : decode cX3_event 7 = .ok (.aload_n 0, 1) := by decide +kernel
theorem dX3_event_8 : decode cX3_event 8 = .ok (.getfield 21, 3) := by decide +kernel
theorem dX3_event_11 : decode cX3_event 11 = .ok (.iload_n 1, 1) := by decide +kernel
theorem dX3_event_12 : decode cX3_event 12 = .ok (.aaload, 1) := by decide +kernel
theorem dX3_event_13 : decode cX3_event 13 = .ok (.iload_n 2, 1) := by decide +kernel
theorem dX3_event_14 : decode cX3_event 14 = .ok (.invokevirtual 146, 3) := by decide +kernel
theorem dX3_event_17 : decode cX3_event 17 = .ok (.goto 4, 3) := by decide +kernel
theorem dX3_event_20 : decode cX3_event 20 = .ok (.iconst (-1), 1) := by decide +kernel
theorem dX3_event_21 : decode cX3_event 21 = .ok (.ireturn, 1) := by decide +kernel
theorem dX0_tellOf_0 : decode cX0_tellOf 0 = .ok (.iload_n 1, 1) := by decide +kernel
theorem dX0_tellOf_1 : decode cX0_tellOf 1 = .ok (.tableswitch 48 0 2 #[27, 35, 40], 27) := by decide +kernel
theorem dX0_tellOf_28 : decode cX0_tellOf 28 = .ok (.aload_n 0, 1) := by decide +kernel
theorem dX0_tellOf_29 : decode cX0_tellOf 29 = .ok (.getfield 9, 3) := by decide +kernel
theorem dX0_tellOf_32 : decode cX0_tellOf 32 = .ok (.invokestatic 32, 3) := by decide +kernel
theorem dX0_tellOf_35 : decode cX0_tellOf 35 = .ok (.ireturn, 1) := by decide +kernel
theorem dX0_tellOf_36 : decode cX0_tellOf 36 = .ok (.aload_n 0, 1) := by decide +kernel
theorem dX0_tellOf_37 : decode cX0_tellOf 37 = .ok (.getfield 19, 3) := by decide +kernel
theorem dX0_tellOf_40 : decode cX0_tellOf 40 = .ok (.ireturn, 1) := by decide +kernel
theorem dX0_tellOf_41 : decode cX0_tellOf 41 = .ok (.aload_n 0, 1) := by decide +kernel
theorem dX0_tellOf_42 : decode cX0_tellOf 42 = .ok (.getfield 29, 3) := by decide +kernel
theorem dX0_tellOf_45 : decode cX0_tellOf 45 = .ok (.invokestatic 32, 3) := by decide +kernel
theorem dX0_tellOf_48 : decode cX0_tellOf 48 = .ok (.ireturn, 1) := by decide +kernel
theorem dX0_tellOf_49 : decode cX0_tellOf 49 = .ok (.iconst (-1), 1) := by decide +kernel
theorem dX0_tellOf_50 : decode cX0_tellOf 50 = .ok (.ireturn, 1) := by decide +kernel
theorem dX3_actionAt_0 : decode cX3_actionAt 0 = .ok (.iload_n 1, 1) := by decide +kernel
theorem dX3_actionAt_1 : decode cX3_actionAt 1 = .ok (.invokestatic 45, 3) := by decide +kernel
theorem dX3_actionAt_4 : decode cX3_actionAt 4 = .ok (.ifCond .eq 16, 3) := by decide +kernel
theorem dX3_actionAt_7 : decode cX3_actionAt 7 = .ok (.aload_n 0, 1) := by decide +kernel
theorem dX3_actionAt_8 : decode cX3_actionAt 8 = .ok (.getfield 21, 3) := by decide +kernel
theorem dX3_actionAt_11 : decode cX3_actionAt 11 = .ok (.iload_n 1, 1) := by decide +kernel
theorem dX3_actionAt_12 : decode cX3_actionAt 12 = .ok (.aaload, 1) := by decide +kernel
theorem dX3_actionAt_13 : decode cX3_actionAt 13 = .ok (.iload_n 2, 1) := by decide +kernel
theorem dX3_actionAt_14 : decode cX3_actionAt 14 = .ok (.invokevirtual 147, 3) := by decide +kernel
theorem dX3_actionAt_17 : decode cX3_actionAt 17 = .ok (.goto 4, 3) := by decide +kernel
theorem dX3_actionAt_20 : decode cX3_actionAt 20 = .ok (.iconst (-1), 1) := by decide +kernel
theorem dX3_actionAt_21 : decode cX3_actionAt 21 = .ok (.ireturn, 1) := by decide +kernel
theorem dX0_byteAt_0 : decode cX0_byteAt 0 = .ok (.iload_n 1, 1) := by decide +kernel
theorem dX0_byteAt_1 : decode cX0_byteAt 1 = .ok (.ifCond .lt 24, 3) := by decide +kernel
theorem dX0_byteAt_4 : decode cX0_byteAt 4 = .ok (.iload_n 1, 1) := by decide +kernel
theorem dX0_byteAt_5 : decode cX0_byteAt 5 = .ok (.aload_n 0, 1) := by decide +kernel
theorem dX0_byteAt_6 : decode cX0_byteAt 6 = .ok (.getfield 19, 3) := by decide +kernel
theorem dX0_byteAt_9 : decode cX0_byteAt 9 = .ok (.if_icmp .ge 16, 3) := by decide +kernel
theorem dX0_byteAt_12 : decode cX0_byteAt 12 = .ok (.aload_n 0, 1) := by decide +kernel
theorem dX0_byteAt_13 : decode cX0_byteAt 13 = .ok (.getfield 15, 3) := by decide +kernel
theorem dX0_byteAt_16 : decode cX0_byteAt 16 = .ok (.iload_n 1, 1) := by decide +kernel
theorem dX0_byteAt_17 : decode cX0_byteAt 17 = .ok (.baload, 1) := by decide +kernel
theorem dX0_byteAt_18 : decode cX0_byteAt 18 = .ok (.sipush 255, 3) := by decide +kernel
theorem dX0_byteAt_21 : decode cX0_byteAt 21 = .ok (.iand, 1) := by decide +kernel
theorem dX0_byteAt_22 : decode cX0_byteAt 22 = .ok (.goto 4, 3) := by decide +kernel
theorem dX0_byteAt_25 : decode cX0_byteAt 25 = .ok (.iconst (-1), 1) := by decide +kernel
theorem dX0_byteAt_26 : decode cX0_byteAt 26 = .ok (.ireturn, 1) := by decide +kernel
theorem dX3_count_0 : decode cX3_count 0 = .ok (.iload_n 1, 1) := by decide +kernel
theorem dX3_count_1 : decode cX3_count 1 = .ok (.tableswitch 63 0 4 #[35, 40, 45, 53, 58], 35) := by decide +kernel
theorem dX3_count_36 : decode cX3_count 36 = .ok (.aload_n 0, 1) := by decide +kernel
theorem dX3_count_37 : decode cX3_count 37 = .ok (.getfield 52, 3) := by decide +kernel
theorem dX3_count_40 : decode cX3_count 40 = .ok (.ireturn, 1) := by decide +kernel
theorem dX3_count_41 : decode cX3_count 41 = .ok (.aload_n 0, 1) := by decide +kernel
theorem dX3_count_42 : decode cX3_count 42 = .ok (.getfield 95, 3) := by decide +kernel
theorem dX3_count_45 : decode cX3_count 45 = .ok (.ireturn, 1) := by decide +kernel
theorem dX3_count_46 : decode cX3_count 46 = .ok (.aload_n 0, 1) := by decide +kernel
theorem dX3_count_47 : decode cX3_count 47 = .ok (.getfield 28, 3) := by decide +kernel
theorem dX3_count_50 : decode cX3_count 50 = .ok (.getfield 98, 3) := by decide +kernel
theorem dX3_count_53 : decode cX3_count 53 = .ok (.ireturn, 1) := by decide +kernel
theorem dX3_count_54 : decode cX3_count 54 = .ok (.aload_n 0, 1) := by decide +kernel
theorem dX3_count_55 : decode cX3_count 55 = .ok (.getfield 117, 3) := by decide +kernel
theorem dX3_count_58 : decode cX3_count 58 = .ok (.ireturn, 1) := by decide +kernel
theorem dX3_count_59 : decode cX3_count 59 = .ok (.aload_n 0, 1) := by decide +kernel
theorem dX3_count_60 : decode cX3_count 60 = .ok (.getfield 108, 3) := by decide +kernel
theorem dX3_count_63 : decode cX3_count 63 = .ok (.ireturn, 1) := by decide +kernel
theorem dX3_count_64 : decode cX3_count 64 = .ok (.iconst (-1), 1) := by decide +kernel
theorem dX3_count_65 : decode cX3_count 65 = .ok (.ireturn, 1) := by decide +kernel
