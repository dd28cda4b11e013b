theorem dX3_init_0 : decode cX3_init 0 = .ok (.aload_n 0, 1) := by decide +kernel
theorem dX3_init_1 : decode cX3_init 1 = .ok (.invokespecial 1, 3) := by decide +kernel
theorem dX3_init_4 : decode cX3_init 4 = .ok (.aload_n 0, 1) := by decide +kernel
theorem dX3_init_5 : decode cX3_init 5 = .ok (.sipush 400, 3) := by decide +kernel
theorem dX3_init_8 : decode cX3_init 8 = .ok (.newarray .int, 2) := by decide +kernel
theorem dX3_init_10 : decode cX3_init 10 = .ok (.putfield 7, 3) := by decide +kernel
theorem dX3_init_13 : decode cX3_init 13 = .ok (.aload_n 0, 1) := by decide +kernel
theorem dX3_init_14 : decode cX3_init 14 = .ok (.sipush 400, 3) := by decide +kernel
theorem dX3_init_17 : decode cX3_init 17 = .ok (.newarray .int, 2) := by decide +kernel
theorem dX3_init_19 : decode cX3_init 19 = .ok (.putfield 13, 3) := by decide +kernel
theorem dX3_init_22 : decode cX3_init 22 = .ok (.aload_n 0, 1) := by decide +kernel
theorem dX3_init_23 : decode cX3_init 23 = .ok (.sipush 400, 3) := by decide +kernel
theorem dX3_init_26 : decode cX3_init 26 = .ok (.newarray .int, 2) := by decide +kernel
theorem dX3_init_28 : decode cX3_init 28 = .ok (.putfield 16, 3) := by decide +kernel
theorem dX3_init_31 : decode cX3_init 31 = .ok (.aload_n 0, 1) := by decide +kernel
theorem dX3_init_32 : decode cX3_init 32 = .ok (.sipush 1000, 3) := by decide +kernel
theorem dX3_init_35 : decode cX3_init 35 = .ok (.putfield 19, 3) := by decide +kernel
theorem dX3_init_38 : decode cX3_init 38 = .ok (.aload_n 0, 1) := by decide +kernel
theorem dX3_init_39 : decode cX3_init 39 = .ok (.iconst 4, 1) := by decide +kernel
theorem dX3_init_40 : decode cX3_init 40 = .ok (.newarray .int, 2) := by decide +kernel
theorem dX3_init_42 : decode cX3_init 42 = .ok (.putfield 23, 3) := by decide +kernel
theorem dX3_init_45 : decode cX3_init 45 = .ok (.aload_n 0, 1) := by decide +kernel
theorem dX3_init_46 : decode cX3_init 46 = .ok (.iconst 4, 1) := by decide +kernel
theorem dX3_init_47 : decode cX3_init 47 = .ok (.newarray .int, 2) := by decide +kernel
theorem dX3_init_49 : decode cX3_init 49 = .ok (.putfield 26, 3) := by decide +kernel
theorem dX3_init_52 : decode cX3_init 52 = .ok (.aload_n 0, 1) := by decide +kernel
theorem dX3_init_53 : decode cX3_init 53 = .ok (.sipush 400, 3) := by decide +kernel
theorem dX3_init_56 : decode cX3_init 56 = .ok (.newarray .int, 2) := by decide +kernel
theorem dX3_init_58 : decode cX3_init 58 = .ok (.putfield 29, 3) := by decide +kernel
theorem dX3_init_61 : decode cX3_init 61 = .ok (.aload_n 0, 1) := by decide +kernel
theorem dX3_init_62 : decode cX3_init 62 = .ok (.sipush 400, 3) := by decide +kernel
theorem dX3_init_65 : decode cX3_init 65 = .ok (.newarray .int, 2) := by decide +kernel
theorem dX3_init_67 : decode cX3_init 67 = .ok (.putfield 32, 3) := by decide +kernel
theorem dX3_init_70 : decode cX3_init 70 = .ok (.aload_n 0, 1) := by decide +kernel
theorem dX3_init_71 : decode cX3_init 71 = .ok (.sipush 6000, 3) := by decide +kernel
theorem dX3_init_74 : decode cX3_init 74 = .ok (.newarray .int, 2) := by decide +kernel
theorem dX3_init_76 : decode cX3_init 76 = .ok (.putfield 35, 3) := by decide +kernel
theorem dX3_init_79 : decode cX3_init 79 = .ok (.aload_n 0, 1) := by decide +kernel
theorem dX3_init_80 : decode cX3_init 80 = .ok (.iload_n 1, 1) := by decide +kernel
theorem dX3_init_81 : decode cX3_init 81 = .ok (.invokestatic 38, 3) := by decide +kernel
theorem dX3_init_84 : decode cX3_init 84 = .ok (.putfield 42, 3) := by decide +kernel
theorem dX3_init_87 : decode cX3_init 87 = .ok (.aload_n 0, 1) := by decide +kernel
theorem dX3_init_88 : decode cX3_init 88 = .ok (.iload_n 2, 1) := by decide +kernel
theorem dX3_init_89 : decode cX3_init 89 = .ok (.invokestatic 38, 3) := by decide +kernel
theorem dX3_init_92 : decode cX3_init 92 = .ok (.putfield 45, 3) := by decide +kernel
theorem dX3_init_95 : decode cX3_init 95 = .ok (.iconst 0, 1) := by decide +kernel
theorem dX3_init_96 : decode cX3_init 96 = .ok (.istore_n 3, 1) := by decide +kernel
theorem dX3_init_97 : decode cX3_init 97 = .ok (.iload_n 3, 1) := by decide +kernel
theorem dX3_init_98 : decode cX3_init 98 = .ok (.sipush 400, 3) := by decide +kernel
theorem dX3_init_101 : decode cX3_init 101 = .ok (.if_icmp .ge 18, 3) := by decide +kernel
theorem dX3_init_104 : decode cX3_init 104 = .ok (.aload_n 0, 1) := by decide +kernel
theorem dX3_init_105 : decode cX3_init 105 = .ok (.getfield 13, 3) := by decide +kernel
theorem dX3_init_108 : decode cX3_init 108 = .ok (.iload_n 3, 1) := by decide +kernel
theorem dX3_init_109 : decode cX3_init 109 = .ok (.sipush 1000, 3) := by decide +kernel
theorem dX3_init_112 : decode cX3_init 112 = .ok (.iastore, 1) := by decide +kernel
theorem dX3_init_113 : decode cX3_init 113 = .ok (.iinc 3 1, 3) := by decide +kernel
theorem dX3_init_116 : decode cX3_init 116 = .ok (.goto (-19), 3) := by decide +kernel
theorem dX3_init_119 : decode cX3_init 119 = .ok (.return_, 1) := by decide +kernel
theorem dX3_nearest_0 : decode cX3_nearest 0 = .ok (.iload_n 0, 1) := by decide +kernel
theorem dX3_nearest_1 : decode cX3_nearest 1 = .ok (.iconst 1, 1) := by decide +kernel
theorem dX3_nearest_2 : decode cX3_nearest 2 = .ok (.if_icmp .ge 7, 3) := by decide +kernel
theorem dX3_nearest_5 : decode cX3_nearest 5 = .ok (.iconst 1, 1) := by decide +kernel
theorem dX3_nearest_6 : decode cX3_nearest 6 = .ok (.goto 15, 3) := by decide +kernel
theorem dX3_nearest_9 : decode cX3_nearest 9 = .ok (.iload_n 0, 1) := by decide +kernel
theorem dX3_nearest_10 : decode cX3_nearest 10 = .ok (.bipush 20, 2) := by decide +kernel
theorem dX3_nearest_12 : decode cX3_nearest 12 = .ok (.if_icmp .le 8, 3) := by decide +kernel
theorem dX3_nearest_15 : decode cX3_nearest 15 = .ok (.bipush 20, 2) := by decide +kernel
theorem dX3_nearest_17 : decode cX3_nearest 17 = .ok (.goto 4, 3) := by decide +kernel
theorem dX3_nearest_20 : decode cX3_nearest 20 = .ok (.iload_n 0, 1) := by decide +kernel
theorem dX3_nearest_21 : decode cX3_nearest 21 = .ok (.ireturn, 1) := by decide +kernel
theorem dX3_thrown_0 : decode cX3_thrown 0 = .ok (.aload_n 0, 1) := by decide +kernel
theorem dX3_thrown_1 : decode cX3_thrown 1 = .ok (.getfield 48, 3) := by decide +kernel
theorem dX3_thrown_4 : decode cX3_thrown 4 = .ok (.ireturn, 1) := by decide +kernel
theorem dX3_isIn_0 : decode cX3_isIn 0 = .ok (.iload_n 0, 1) := by decide +kernel
theorem dX3_isIn_1 : decode cX3_isIn 1 = .ok (.iload_n 1, 1) := by decide +kernel
theorem dX3_isIn_2 : decode cX3_isIn 2 = .ok (.if_icmp .lt 12, 3) := by decide +kernel
theorem dX3_isIn_5 : decode cX3_isIn 5 = .ok (.iload_n 0, 1) := by decide +kernel
theorem dX3_isIn_6 : decode cX3_isIn 6 = .ok (.iload_n 2, 1) := by decide +kernel
theorem dX3_isIn_7 : decode cX3_isIn 7 = .ok (.if_icmp .gt 7, 3) := by decide +kernel
theorem dX3_isIn_10 : decode cX3_isIn 10 = .ok (.iconst 1, 1) := by decide +kernel
theorem dX3_isIn_11 : decode cX3_isIn 11 = .ok (.goto 4, 3) := by decide +kernel
theorem dX3_isIn_14 : decode cX3_isIn 14 = .ok (.iconst 0, 1) := by decide +kernel
theorem dX3_isIn_15 : decode cX3_isIn 15 = .ok (.ireturn, 1) := by decide +kernel
theorem dX3_isPlace_0 : decode cX3_isPlace 0 = .ok (.iload_n 1, 1) := by decide +kernel
theorem dX3_isPlace_1 : decode cX3_isPlace 1 = .ok (.ifCond .lt 27, 3) := by decide +kernel
theorem dX3_isPlace_4 : decode cX3_isPlace 4 = .ok (.iload_n 1, 1) := by decide +kernel
theorem dX3_isPlace_5 : decode cX3_isPlace 5 = .ok (.aload_n 0, 1) := by decide +kernel
theorem dX3_isPlace_6 : decode cX3_isPlace 6 = .ok (.getfield 42, 3) := by decide +kernel
theorem dX3_isPlace_9 : decode cX3_isPlace 9 = .ok (.if_icmp .ge 19, 3) := by decide +kernel
theorem dX3_isPlace_12 : decode cX3_isPlace 12 = .ok (.iload_n 2, 1) := by decide +kernel
theorem dX3_isPlace_13 : decode cX3_isPlace 13 = .ok (.ifCond .lt 15, 3) := by decide +kernel
theorem dX3_isPlace_16 : decode cX3_isPlace 16 = .ok (.iload_n 2, 1) := by decide +kernel
theorem dX3_isPlace_17 : decode cX3_isPlace 17 = .ok (.aload_n 0, 1) := by decide +kernel
theorem dX3_isPlace_18 : decode cX3_isPlace 18 = .ok (.getfield 45, 3) := by decide +kernel
theorem dX3_isPlace_21 : decode cX3_isPlace 21 = .ok (.if_icmp .ge 7, 3) := by decide +kernel
theorem dX3_isPlace_24 : decode cX3_isPlace 24 = .ok (.iconst 1, 1) := by decide +kernel
theorem dX3_isPlace_25 : decode cX3_isPlace 25 = .ok (.goto 4, 3) := by decide +kernel
theorem dX3_isPlace_28 : decode cX3_isPlace 28 = .ok (.iconst 0, 1) := by decide +kernel
theorem dX3_isPlace_29 : decode cX3_isPlace 29 = .ok (.ireturn, 1) := by decide +kernel
theorem dX3_put_0 : decode cX3_put 0 = .ok (.aload_n 0, 1) := by decide +kernel
theorem dX3_put_1 : decode cX3_put 1 = .ok (.aload_n 0, 1) := by decide +kernel
theorem dX3_put_2 : decode cX3_put 2 = .ok (.iload_n 1, 1) := by decide +kernel
theorem dX3_put_3 : decode cX3_put 3 = .ok (.iload_n 2, 1) := by decide +kernel
theorem dX3_put_4 : decode cX3_put 4 = .ok (.invokevirtual 51, 3) := by decide +kernel
theorem dX3_put_7 : decode cX3_put 7 = .ok (.ifCond .ne 7, 3) := by decide +kernel
theorem dX3_put_10 : decode cX3_put 10 = .ok (.iconst 1, 1) := by decide +kernel
theorem dX3_put_11 : decode cX3_put 11 = .ok (.goto 19, 3) := by decide +kernel
theorem dX3_put_14 : decode cX3_put 14 = .ok (.iload_n 3, 1) := by decide +kernel
theorem dX3_put_15 : decode cX3_put 15 = .ok (.iconst 0, 1) := by decide +kernel
theorem dX3_put_16 : decode cX3_put 16 = .ok (.sipush 1000, 3) := by decide +kernel
theorem dX3_put_19 : decode cX3_put 19 = .ok (.invokestatic 55, 3) := by decide +kernel
theorem dX3_put_22 : decode cX3_put 22 = .ok (.ifCond .eq 7, 3) := by decide +kernel
theorem dX3_put_25 : decode cX3_put 25 = .ok (.iconst 0, 1) := by decide +kernel
theorem dX3_put_26 : decode cX3_put 26 = .ok (.goto 4, 3) := by decide +kernel
theorem dX3_put_29 : decode cX3_put 29 = .ok (.iconst 2, 1) := by decide +kernel
theorem dX3_put_30 : decode cX3_put 30 = .ok (.putfield 48, 3) := by decide +kernel
theorem dX3_put_33 : decode cX3_put 33 = .ok (.aload_n 0, 1) := by decide +kernel
theorem dX3_put_34 : decode cX3_put 34 = .ok (.getfield 48, 3) := by decide +kernel
theorem dX3_put_37 : decode cX3_put 37 = .ok (.ifCond .gt 18, 3) := by decide +kernel
theorem dX3_put_40 : decode cX3_put 40 = .ok (.aload_n 0, 1) := by decide +kernel
theorem dX3_put_41 : decode cX3_put 41 = .ok (.getfield 7, 3) := by decide +kernel
theorem dX3_put_44 : decode cX3_put 44 = .ok (.bipush 20, 2) := by decide +kernel
theorem dX3_put_46 : decode cX3_put 46 = .ok (.iload_n 2, 1) := by decide +kernel
theorem dX3_put_47 : decode cX3_put 47 = .ok (.imul, 1) := by decide +kernel
theorem dX3_put_48 : decode cX3_put 48 = .ok (.iload_n 1, 1) := by decide +kernel
theorem dX3_put_49 : decode cX3_put 49 = .ok (.iadd, 1) := by decide +kernel
theorem dX3_put_50 : decode cX3_put 50 = .ok (.iaload, 1) := by decide +kernel
theorem dX3_put_51 : decode cX3_put 51 = .ok (.iload_n 3, 1) := by decide +kernel
theorem dX3_put_52 : decode cX3_put 52 = .ok (.if_icmp .ne 5, 3) := by decide +kernel
theorem dX3_put_55 : decode cX3_put 55 = .ok (.iconst 0, 1) := by decide +kernel
theorem dX3_put_56 : decode cX3_put 56 = .ok (.ireturn, 1) := by decide +kernel
theorem dX3_put_57 : decode cX3_put 57 = .ok (.aload_n 0, 1) := by decide +kernel
theorem dX3_put_58 : decode cX3_put 58 = .ok (.getfield 7, 3) := by decide +kernel
theorem dX3_put_61 : decode cX3_put 61 = .ok (.bipush 20, 2) := by decide +kernel
theorem dX3_put_63 : decode cX3_put 63 = .ok (.iload_n 2, 1) := by decide +kernel
theorem dX3_put_64 : decode cX3_put 64 = .ok (.imul, 1) := by decide +kernel
theorem dX3_put_65 : decode cX3_put 65 = .ok (.iload_n 1, 1) := by decide +kernel
theorem dX3_put_66 : decode cX3_put 66 = .ok (.iadd, 1) := by decide +kernel
theorem dX3_put_67 : decode cX3_put 67 = .ok (.iload_n 3, 1) := by decide +kernel
theorem dX3_put_68 : decode cX3_put 68 = .ok (.iastore, 1) := by decide +kernel
theorem dX3_put_69 : decode cX3_put 69 = .ok (.iconst 1, 1) := by decide +kernel
theorem dX3_put_70 : decode cX3_put 70 = .ok (.ireturn, 1) := by decide +kernel
theorem dX3_tool_0 : decode cX3_tool 0 = .ok (.aload_n 0, 1) := by decide +kernel
theorem dX3_tool_1 : decode cX3_tool 1 = .ok (.iload_n 1, 1) := by decide +kernel
theorem dX3_tool_2 : decode cX3_tool 2 = .ok (.iconst 0, 1) := by decide +kernel
theorem dX3_tool_3 : decode cX3_tool 3 = .ok (.iconst 3, 1) := by decide +kernel
theorem dX3_tool_4 : decode cX3_tool 4 = .ok (.invokestatic 55, 3) := by decide +kernel
theorem dX3_tool_7 : decode cX3_tool 7 = .ok (.ifCond .ne 7, 3) := by decide +kernel
theorem dX3_tool_10 : decode cX3_tool 10 = .ok (.iconst 1, 1) := by decide +kernel
theorem dX3_tool_11 : decode cX3_tool 11 = .ok (.goto 26, 3) := by decide +kernel
theorem dX3_tool_14 : decode cX3_tool 14 = .ok (.iload_n 2, 1) := by decide +kernel
theorem dX3_tool_15 : decode cX3_tool 15 = .ok (.iconst 0, 1) := by decide +kernel
theorem dX3_tool_16 : decode cX3_tool 16 = .ok (.iconst 2, 1) := by decide +kernel
theorem dX3_tool_17 : decode cX3_tool 17 = .ok (.invokestatic 55, 3) := by decide +kernel
theorem dX3_tool_20 : decode cX3_tool 20 = .ok (.ifCond .eq 16, 3) := by decide +kernel
theorem dX3_tool_23 : decode cX3_tool 23 = .ok (.iload_n 3, 1) := by decide +kernel
theorem dX3_tool_24 : decode cX3_tool 24 = .ok (.iconst 0, 1) := by decide +kernel
theorem dX3_tool_25 : decode cX3_tool 25 = .ok (.iconst 5, 1) := by decide +kernel
theorem dX3_tool_26 : decode cX3_tool 26 = .ok (.invokestatic 55, 3) := by decide +kernel
theorem dX3_tool_29 : decode cX3_tool 29 = .ok (.ifCond .eq 7, 3) := by decide +kernel
theorem dX3_tool_32 : decode cX3_tool 32 = .ok (.iconst 0, 1) := by decide +kernel
theorem dX3_tool_33 : decode cX3_tool 33 = .ok (.goto 4, 3) := by decide +kernel
theorem dX3_tool_36 : decode cX3_tool 36 = .ok (.iconst 2, 1) := by decide +kernel
theorem dX3_tool_37 : decode cX3_tool 37 = .ok (.putfield 48, 3) := by decide +kernel
theorem dX3_tool_40 : decode cX3_tool 40 = .ok (.aload_n 0, 1) := by decide +kernel
theorem dX3_tool_41 : decode cX3_tool 41 = .ok (.getfield 48, 3) := by decide +kernel
theorem dX3_tool_44 : decode cX3_tool 44 = .ok (.ifCond .gt 23, 3) := by decide +kernel
theorem dX3_tool_47 : decode cX3_tool 47 = .ok (.aload_n 0, 1) := by decide +kernel
theorem dX3_tool_48 : decode cX3_tool 48 = .ok (.getfield 23, 3) := by decide +kernel
theorem dX3_tool_51 : decode cX3_tool 51 = .ok (.iload_n 1, 1) := by decide +kernel
theorem dX3_tool_52 : decode cX3_tool 52 = .ok (.iaload, 1) := by decide +kernel
theorem dX3_tool_53 : decode cX3_tool 53 = .ok (.iload_n 2, 1) := by decide +kernel
theorem dX3_tool_54 : decode cX3_tool 54 = .ok (.if_icmp .ne 15, 3) := by decide +kernel
theorem dX3_tool_57 : decode cX3_tool 57 = .ok (.aload_n 0, 1) := by decide +kernel
theorem dX3_tool_58 : decode cX3_tool 58 = .ok (.getfield 26, 3) := by decide +kernel
theorem dX3_tool_61 : decode cX3_tool 61 = .ok (.iload_n 1, 1) := by decide +kernel
theorem dX3_tool_62 : decode cX3_tool 62 = .ok (.iaload, 1) := by decide +kernel
theorem dX3_tool_63 : decode cX3_tool 63 = .ok (.iload_n 3, 1) := by decide +kernel
theorem dX3_tool_64 : decode cX3_tool 64 = .ok (.if_icmp .ne 5, 3) := by decide +kernel
theorem dX3_tool_67 : decode cX3_tool 67 = .ok (.iconst 0, 1) := by decide +kernel
theorem dX3_tool_68 : decode cX3_tool 68 = .ok (.ireturn, 1) := by decide +kernel
theorem dX3_tool_69 : decode cX3_tool 69 = .ok (.aload_n 0, 1) := by decide +kernel
theorem dX3_tool_70 : decode cX3_tool 70 = .ok (.getfield 23, 3) := by decide +kernel
theorem dX3_tool_73 : decode cX3_tool 73 = .ok (.iload_n 1, 1) := by decide +kernel
theorem dX3_tool_74 : decode cX3_tool 74 = .ok (.iload_n 2, 1) := by decide +kernel
theorem dX3_tool_75 : decode cX3_tool 75 = .ok (.iastore, 1) := by decide +kernel
theorem dX3_tool_76 : decode cX3_tool 76 = .ok (.aload_n 0, 1) := by decide +kernel
theorem dX3_tool_77 : decode cX3_tool 77 = .ok (.getfield 26, 3) := by decide +kernel
theorem dX3_tool_80 : decode cX3_tool 80 = .ok (.iload_n 1, 1) := by decide +kernel
theorem dX3_tool_81 : decode cX3_tool 81 = .ok (.iload_n 3, 1) := by decide +kernel
theorem dX3_tool_82 : decode cX3_tool 82 = .ok (.iastore, 1) := by decide +kernel
theorem dX3_tool_83 : decode cX3_tool 83 = .ok (.iconst 1, 1) := by decide +kernel
theorem dX3_tool_84 : decode cX3_tool 84 = .ok (.ireturn, 1) := by decide +kernel
theorem dX3_greatest_0 : decode cX3_greatest 0 = .ok (.iconst 0, 1) := by decide +kernel
theorem dX3_greatest_1 : decode cX3_greatest 1 = .ok (.istore_n 1, 1) := by decide +kernel
theorem dX3_greatest_2 : decode cX3_greatest 2 = .ok (.iconst 0, 1) := by decide +kernel
theorem dX3_greatest_3 : decode cX3_greatest 3 = .ok (.istore_n 2, 1) := by decide +kernel
theorem dX3_greatest_4 : decode cX3_greatest 4 = .ok (.iload_n 2, 1) := by decide +kernel
theorem dX3_greatest_5 : decode cX3_greatest 5 = .ok (.aload_n 0, 1) := by decide +kernel
theorem dX3_greatest_6 : decode cX3_greatest 6 = .ok (.getfield 45, 3) := by decide +kernel
theorem dX3_greatest_9 : decode cX3_greatest 9 = .ok (.if_icmp .ge 56, 3) := by decide +kernel
theorem dX3_greatest_12 : decode cX3_greatest 12 = .ok (.iconst 0, 1) := by decide +kernel
theorem dX3_greatest_13 : decode cX3_greatest 13 = .ok (.istore_n 3, 1) := by decide +kernel
theorem dX3_greatest_14 : decode cX3_greatest 14 = .ok (.iload_n 3, 1) := by decide +kernel
theorem dX3_greatest_15 : decode cX3_greatest 15 = .ok (.aload_n 0, 1) := by decide +kernel
theorem dX3_greatest_16 : decode cX3_greatest 16 = .ok (.getfield 42, 3) := by decide +kernel
theorem dX3_greatest_19 : decode cX3_greatest 19 = .ok (.if_icmp .ge 40, 3) := by decide +kernel
theorem dX3_greatest_22 : decode cX3_greatest 22 = .ok (.aload_n 0, 1) := by decide +kernel
theorem dX3_greatest_23 : decode cX3_greatest 23 = .ok (.getfield 7, 3) := by decide +kernel
theorem dX3_greatest_26 : decode cX3_greatest 26 = .ok (.bipush 20, 2) := by decide +kernel
theorem dX3_greatest_28 : decode cX3_greatest 28 = .ok (.iload_n 2, 1) := by decide +kernel
theorem dX3_greatest_29 : decode cX3_greatest 29 = .ok (.imul, 1) := by decide +kernel
theorem dX3_greatest_30 : decode cX3_greatest 30 = .ok (.iload_n 3, 1) := by decide +kernel
theorem dX3_greatest_31 : decode cX3_greatest 31 = .ok (.iadd, 1) := by decide +kernel
theorem dX3_greatest_32 : decode cX3_greatest 32 = .ok (.iaload, 1) := by decide +kernel
theorem dX3_greatest_33 : decode cX3_greatest 33 = .ok (.iload_n 1, 1) := by decide +kernel
theorem dX3_greatest_34 : decode cX3_greatest 34 = .ok (.if_icmp .le 17, 3) := by decide +kernel
theorem dX3_greatest_37 : decode cX3_greatest 37 = .ok (.aload_n 0, 1) := by decide +kernel
theorem dX3_greatest_38 : decode cX3_greatest 38 = .ok (.getfield 7, 3) := by decide +kernel
theorem dX3_greatest_41 : decode cX3_greatest 41 = .ok (.bipush 20, 2) := by decide +kernel
theorem dX3_greatest_43 : decode cX3_greatest 43 = .ok (.iload_n 2, 1) := by decide +kernel
theorem dX3_greatest_44 : decode cX3_greatest 44 = .ok (.imul, 1) := by decide +kernel
theorem dX3_greatest_45 : decode cX3_greatest 45 = .ok (.iload_n 3, 1) := by decide +kernel
theorem dX3_greatest_46 : decode cX3_greatest 46 = .ok (.iadd, 1) := by decide +kernel
theorem dX3_greatest_47 : decode cX3_greatest 47 = .ok (.iaload, 1) := by decide +kernel
theorem dX3_greatest_48 : decode cX3_greatest 48 = .ok (.goto 4, 3) := by decide +kernel
theorem dX3_greatest_51 : decode cX3_greatest 51 = .ok (.iload_n 1, 1) := by decide +kernel
theorem dX3_greatest_52 : decode cX3_greatest 52 = .ok (.istore_n 1, 1) := by decide +kernel
theorem dX3_greatest_53 : decode cX3_greatest 53 = .ok (.iinc 3 1, 3) := by decide +kernel
theorem dX3_greatest_56 : decode cX3_greatest 56 = .ok (.goto (-42), 3) := by decide +kernel
theorem dX3_greatest_59 : decode cX3_greatest 59 = .ok (.iinc 2 1, 3) := by decide +kernel
theorem dX3_greatest_62 : decode cX3_greatest 62 = .ok (.goto (-58), 3) := by decide +kernel
theorem dX3_greatest_65 : decode cX3_greatest 65 = .ok (.iload_n 1, 1) := by decide +kernel
theorem dX3_greatest_66 : decode cX3_greatest 66 = .ok (.ireturn, 1) := by decide +kernel
theorem dX3_stock_0 : decode cX3_stock 0 = .ok (.aload_n 0, 1) := by decide +kernel
theorem dX3_stock_1 : decode cX3_stock 1 = .ok (.iload_n 1, 1) := by decide +kernel
theorem dX3_stock_2 : decode cX3_stock 2 = .ok (.iconst 1, 1) := by decide +kernel
theorem dX3_stock_3 : decode cX3_stock 3 = .ok (.sipush 1000, 3) := by decide +kernel
theorem dX3_stock_6 : decode cX3_stock 6 = .ok (.invokestatic 55, 3) := by decide +kernel
theorem dX3_stock_9 : decode cX3_stock 9 = .ok (.ifCond .ne 7, 3) := by decide +kernel
theorem dX3_stock_12 : decode cX3_stock 12 = .ok (.iconst 1, 1) := by decide +kernel
theorem dX3_stock_13 : decode cX3_stock 13 = .ok (.goto 16, 3) := by decide +kernel
theorem dX3_stock_16 : decode cX3_stock 16 = .ok (.aload_n 0, 1) := by decide +kernel
theorem dX3_stock_17 : decode cX3_stock 17 = .ok (.invokevirtual 59, 3) := by decide +kernel
theorem dX3_stock_20 : decode cX3_stock 20 = .ok (.iload_n 1, 1) := by decide +kernel
theorem dX3_stock_21 : decode cX3_stock 21 = .ok (.if_icmp .le 7, 3) := by decide +kernel
theorem dX3_stock_24 : decode cX3_stock 24 = .ok (.iconst 2, 1) := by decide +kernel
theorem dX3_stock_25 : decode cX3_stock 25 = .ok (.goto 4, 3) := by decide +kernel
theorem dX3_stock_28 : decode cX3_stock 28 = .ok (.iconst 0, 1) := by decide +kernel
theorem dX3_stock_29 : decode cX3_stock 29 = .ok (.putfield 48, 3) := by decide +kernel
theorem dX3_stock_32 : decode cX3_stock 32 = .ok (.aload_n 0, 1) := by decide +kernel
theorem dX3_stock_33 : decode cX3_stock 33 = .ok (.getfield 48, 3) := by decide +kernel
theorem dX3_stock_36 : decode cX3_stock 36 = .ok (.ifCond .le 5, 3) := by decide +kernel
theorem dX3_stock_39 : decode cX3_stock 39 = .ok (.iconst 0, 1) := by decide +kernel
theorem dX3_stock_40 : decode cX3_stock 40 = .ok (.ireturn, 1) := by decide +kernel
theorem dX3_stock_41 : decode cX3_stock 41 = .ok (.aload_n 0, 1) := by decide +kernel
theorem dX3_stock_42 : decode cX3_stock 42 = .ok (.iload_n 1, 1) := by decide +kernel
theorem dX3_stock_43 : decode cX3_stock 43 = .ok (.putfield 19, 3) := by decide +kernel
theorem dX3_stock_46 : decode cX3_stock 46 = .ok (.iconst 0, 1) := by decide +kernel
theorem dX3_stock_47 : decode cX3_stock 47 = .ok (.istore_n 2, 1) := by decide +kernel
theorem dX3_stock_48 : decode cX3_stock 48 = .ok (.iload_n 2, 1) := by decide +kernel
theorem dX3_stock_49 : decode cX3_stock 49 = .ok (.sipush 400, 3) := by decide +kernel
theorem dX3_stock_52 : decode cX3_stock 52 = .ok (.if_icmp .ge 16, 3) := by decide +kernel
theorem dX3_stock_55 : decode cX3_stock 55 = .ok (.aload_n 0, 1) := by decide +kernel
theorem dX3_stock_56 : decode cX3_stock 56 = .ok (.getfield 13, 3) := by decide +kernel
theorem dX3_stock_59 : decode cX3_stock 59 = .ok (.iload_n 2, 1) := by decide +kernel
theorem dX3_stock_60 : decode cX3_stock 60 = .ok (.iload_n 1, 1) := by decide +kernel
theorem dX3_stock_61 : decode cX3_stock 61 = .ok (.iastore, 1) := by decide +kernel
theorem dX3_stock_62 : decode cX3_stock 62 = .ok (.iinc 2 1, 3) := by decide +kernel
theorem dX3_stock_65 : decode cX3_stock 65 = .ok (.goto (-17), 3) := by decide +kernel
theorem dX3_stock_68 : decode cX3_stock 68 = .ok (.aload_n 0, 1) := by decide +kernel
theorem dX3_stock_69 : decode cX3_stock 69 = .ok (.invokevirtual 59, 3) := by decide +kernel
theorem dX3_stock_72 : decode cX3_stock 72 = .ok (.ireturn, 1) := by decide +kernel
theorem dX3_profileOf_0 : decode cX3_profileOf 0 = .ok (.aload_n 0, 1) := by decide +kernel
theorem dX3_profileOf_1 : decode cX3_profileOf 1 = .ok (.getfield 26, 3) := by decide +kernel
theorem dX3_profileOf_4 : decode cX3_profileOf 4 = .ok (.iload_n 1, 1) := by decide +kernel
theorem dX3_profileOf_5 : decode cX3_profileOf 5 = .ok (.iaload, 1) := by decide +kernel
theorem dX3_profileOf_6 : decode cX3_profileOf 6 = .ok (.istore 4, 2) := by decide +kernel
theorem dX3_profileOf_8 : decode cX3_profileOf 8 = .ok (.iload_n 2, 1) := by decide +kernel
theorem dX3_profileOf_9 : decode cX3_profileOf 9 = .ok (.iload 4, 2) := by decide +kernel
theorem dX3_profileOf_11 : decode cX3_profileOf 11 = .ok (.ineg, 1) := by decide +kernel
theorem dX3_profileOf_12 : decode cX3_profileOf 12 = .ok (.iload 4, 2) := by decide +kernel
theorem dX3_profileOf_14 : decode cX3_profileOf 14 = .ok (.invokestatic 55, 3) := by decide +kernel
theorem dX3_profileOf_17 : decode cX3_profileOf 17 = .ok (.ifCond .eq 30, 3) := by decide +kernel
theorem dX3_profileOf_20 : decode cX3_profileOf 20 = .ok (.iload_n 3, 1) := by decide +kernel
theorem dX3_profileOf_21 : decode cX3_profileOf 21 = .ok (.iload 4, 2) := by decide +kernel
theorem dX3_profileOf_23 : decode cX3_profileOf 23 = .ok (.ineg, 1) := by decide +kernel
theorem dX3_profileOf_24 : decode cX3_profileOf 24 = .ok (.iload 4, 2) := by decide +kernel
theorem dX3_profileOf_26 : decode cX3_profileOf 26 = .ok (.invokestatic 55, 3) := by decide +kernel
theorem dX3_profileOf_29 : decode cX3_profileOf 29 = .ok (.ifCond .eq 18, 3) := by decide +kernel
theorem dX3_profileOf_32 : decode cX3_profileOf 32 = .ok (.iload_n 2, 1) := by decide +kernel
theorem dX3_profileOf_33 : decode cX3_profileOf 33 = .ok (.iload_n 2, 1) := by decide +kernel
theorem dX3_profileOf_34 : decode cX3_profileOf 34 = .ok (.imul, 1) := by decide +kernel
theorem dX3_profileOf_35 : decode cX3_profileOf 35 = .ok (.iload_n 3, 1) := by decide +kernel
theorem dX3_profileOf_36 : decode cX3_profileOf 36 = .ok (.iload_n 3, 1) := by decide +kernel
theorem dX3_profileOf_37 : decode cX3_profileOf 37 = .ok (.imul, 1) := by decide +kernel
theorem dX3_profileOf_38 : decode cX3_profileOf 38 = .ok (.iadd, 1) := by decide +kernel
theorem dX3_profileOf_39 : decode cX3_profileOf 39 = .ok (.iload 4, 2) := by decide +kernel
theorem dX3_profileOf_41 : decode cX3_profileOf 41 = .ok (.iload 4, 2) := by decide +kernel
theorem dX3_profileOf_43 : decode cX3_profileOf 43 = .ok (.imul, 1) := by decide +kernel
theorem dX3_profileOf_44 : decode cX3_profileOf 44 = .ok (.if_icmp .le 5, 3) := by decide +kernel
theorem dX3_profileOf_47 : decode cX3_profileOf 47 = .ok (.iconst (-1), 1) := by decide +kernel
theorem dX3_profileOf_48 : decode cX3_profileOf 48 = .ok (.ireturn, 1) := by decide +kernel
theorem dX3_profileOf_49 : decode cX3_profileOf 49 = .ok (.iload_n 2, 1) := by decide +kernel
theorem dX3_profileOf_50 : decode cX3_profileOf 50 = .ok (.iload_n 2, 1) := by decide +kernel
theorem dX3_profileOf_51 : decode cX3_profileOf 51 = .ok (.imul, 1) := by decide +kernel
theorem dX3_profileOf_52 : decode cX3_profileOf 52 = .ok (.iload_n 3, 1) := by decide +kernel
theorem dX3_profileOf_53 : decode cX3_profileOf 53 = .ok (.iload_n 3, 1) := by decide +kernel
theorem dX3_profileOf_54 : decode cX3_profileOf 54 = .ok (.imul, 1) := by decide +kernel
theorem dX3_profileOf_55 : decode cX3_profileOf 55 = .ok (.iadd, 1) := by decide +kernel
theorem dX3_profileOf_56 : decode cX3_profileOf 56 = .ok (.istore 5, 2) := by decide +kernel
theorem dX3_profileOf_58 : decode cX3_profileOf 58 = .ok (.aload_n 0, 1) := by decide +kernel
theorem dX3_profileOf_59 : decode cX3_profileOf 59 = .ok (.getfield 23, 3) := by decide +kernel
theorem dX3_profileOf_62 : decode cX3_profileOf 62 = .ok (.iload_n 1, 1) := by decide +kernel
theorem dX3_profileOf_63 : decode cX3_profileOf 63 = .ok (.iaload, 1) := by decide +kernel
theorem dX3_profileOf_64 : decode cX3_profileOf 64 = .ok (.ifCond .ne 5, 3) := by decide +kernel
theorem dX3_profileOf_67 : decode cX3_profileOf 67 = .ok (.iconst 0, 1) := by decide +kernel
theorem dX3_profileOf_68 : decode cX3_profileOf 68 = .ok (.ireturn, 1) := by decide +kernel
theorem dX3_profileOf_69 : decode cX3_profileOf 69 = .ok (.iconst 0, 1) := by decide +kernel
theorem dX3_profileOf_70 : decode cX3_profileOf 70 = .ok (.istore 6, 2) := by decide +kernel
theorem dX3_profileOf_72 : decode cX3_profileOf 72 = .ok (.aload_n 0, 1) := by decide +kernel
theorem dX3_profileOf_73 : decode cX3_profileOf 73 = .ok (.getfield 23, 3) := by decide +kernel
theorem dX3_profileOf_76 : decode cX3_profileOf 76 = .ok (.iload_n 1, 1) := by decide +kernel
theorem dX3_profileOf_77 : decode cX3_profileOf 77 = .ok (.iaload, 1) := by decide +kernel
theorem dX3_profileOf_78 : decode cX3_profileOf 78 = .ok (.iconst 2, 1) := by decide +kernel
theorem dX3_profileOf_79 : decode cX3_profileOf 79 = .ok (.if_icmp .ne 22, 3) := by decide +kernel
theorem dX3_profileOf_82 : decode cX3_profileOf 82 = .ok (.iload 6, 2) := by decide +kernel
theorem dX3_profileOf_84 : decode cX3_profileOf 84 = .ok (.iload 6, 2) := by decide +kernel
theorem dX3_profileOf_86 : decode cX3_profileOf 86 = .ok (.imul, 1) := by decide +kernel
theorem dX3_profileOf_87 : decode cX3_profileOf 87 = .ok (.iload 5, 2) := by decide +kernel
theorem dX3_profileOf_89 : decode cX3_profileOf 89 = .ok (.if_icmp .ge 9, 3) := by decide +kernel
theorem dX3_profileOf_92 : decode cX3_profileOf 92 = .ok (.iinc 6 1, 3) := by decide +kernel
theorem dX3_profileOf_95 : decode cX3_profileOf 95 = .ok (.goto (-13), 3) := by decide +kernel
theorem dX3_profileOf_98 : decode cX3_profileOf 98 = .ok (.iload 6, 2) := by decide +kernel
theorem dX3_profileOf_100 : decode cX3_profileOf 100 = .ok (.ireturn, 1) := by decide +kernel
theorem dX3_profileOf_101 : decode cX3_profileOf 101 = .ok (.iload 6, 2) := by decide +kernel
theorem dX3_profileOf_103 : decode cX3_profileOf 103 = .ok (.iconst 1, 1) := by decide +kernel
theorem dX3_profileOf_104 : decode cX3_profileOf 104 = .ok (.iadd, 1) := by decide +kernel
theorem dX3_profileOf_105 : decode cX3_profileOf 105 = .ok (.iload 6, 2) := by decide +kernel
theorem dX3_profileOf_107 : decode cX3_profileOf 107 = .ok (.iconst 1, 1) := by decide +kernel
theorem dX3_profileOf_108 : decode cX3_profileOf 108 = .ok (.iadd, 1) := by decide +kernel
theorem dX3_profileOf_109 : decode cX3_profileOf 109 = .ok (.imul, 1) := by decide +kernel
theorem dX3_profileOf_110 : decode cX3_profileOf 110 = .ok (.iload 4, 2) := by decide +kernel
theorem dX3_profileOf_112 : decode cX3_profileOf 112 = .ok (.iload 4, 2) := by decide +kernel
theorem dX3_profileOf_114 : decode cX3_profileOf 114 = .ok (.imul, 1) := by decide +kernel
theorem dX3_profileOf_115 : decode cX3_profileOf 115 = .ok (.iload 5, 2) := by decide +kernel
theorem dX3_profileOf_117 : decode cX3_profileOf 117 = .ok (.isub, 1) := by decide +kernel
theorem dX3_profileOf_118 : decode cX3_profileOf 118 = .ok (.if_icmp .gt 9, 3) := by decide +kernel
theorem dX3_profileOf_121 : decode cX3_profileOf 121 = .ok (.iinc 6 1, 3) := by decide +kernel
theorem dX3_profileOf_124 : decode cX3_profileOf 124 = .ok (.goto (-23), 3) := by decide +kernel
theorem dX3_profileOf_127 : decode cX3_profileOf 127 = .ok (.iload 4, 2) := by decide +kernel
theorem dX3_profileOf_129 : decode cX3_profileOf 129 = .ok (.iload 6, 2) := by decide +kernel
theorem dX3_profileOf_131 : decode cX3_profileOf 131 = .ok (.isub, 1) := by decide +kernel
theorem dX3_profileOf_132 : decode cX3_profileOf 132 = .ok (.ireturn, 1) := by decide +kernel
theorem dX3_profile_0 : decode cX3_profile 0 = .ok (.aload_n 0, 1) := by decide +kernel
theorem dX3_profile_1 : decode cX3_profile 1 = .ok (.iload_n 1, 1) := by decide +kernel
theorem dX3_profile_2 : decode cX3_profile 2 = .ok (.iconst 0, 1) := by decide +kernel
theorem dX3_profile_3 : decode cX3_profile 3 = .ok (.iconst 3, 1) := by decide +kernel
theorem dX3_profile_4 : decode cX3_profile 4 = .ok (.invokestatic 55, 3) := by decide +kernel
theorem dX3_profile_7 : decode cX3_profile 7 = .ok (.ifCond .eq 7, 3) := by decide +kernel
theorem dX3_profile_10 : decode cX3_profile 10 = .ok (.iconst 0, 1) := by decide +kernel
theorem dX3_profile_11 : decode cX3_profile 11 = .ok (.goto 4, 3) := by decide +kernel
theorem dX3_profile_14 : decode cX3_profile 14 = .ok (.iconst 1, 1) := by decide +kernel
theorem dX3_profile_15 : decode cX3_profile 15 = .ok (.putfield 48, 3) := by decide +kernel
theorem dX3_profile_18 : decode cX3_profile 18 = .ok (.aload_n 0, 1) := by decide +kernel
theorem dX3_profile_19 : decode cX3_profile 19 = .ok (.getfield 48, 3) := by decide +kernel
theorem dX3_profile_22 : decode cX3_profile 22 = .ok (.ifCond .le 7, 3) := by decide +kernel
theorem dX3_profile_25 : decode cX3_profile 25 = .ok (.iconst 0, 1) := by decide +kernel
theorem dX3_profile_26 : decode cX3_profile 26 = .ok (.goto 10, 3) := by decide +kernel
theorem dX3_profile_29 : decode cX3_profile 29 = .ok (.aload_n 0, 1) := by decide +kernel
theorem dX3_profile_30 : decode cX3_profile 30 = .ok (.iload_n 1, 1) := by decide +kernel
theorem dX3_profile_31 : decode cX3_profile 31 = .ok (.iload_n 2, 1) := by decide +kernel
theorem dX3_profile_32 : decode cX3_profile 32 = .ok (.iload_n 3, 1) := by decide +kernel
theorem dX3_profile_33 : decode cX3_profile 33 = .ok (.invokevirtual 63, 3) := by decide +kernel
theorem dX3_profile_36 : decode cX3_profile 36 = .ok (.ireturn, 1) := by decide +kernel
theorem dX3_liftOf_0 : decode cX3_liftOf 0 = .ok (.iconst (-1), 1) := by decide +kernel
theorem dX3_liftOf_1 : decode cX3_liftOf 1 = .ok (.istore 4, 2) := by decide +kernel
theorem dX3_liftOf_3 : decode cX3_liftOf 3 = .ok (.aload_n 0, 1) := by decide +kernel
theorem dX3_liftOf_4 : decode cX3_liftOf 4 = .ok (.getfield 26, 3) := by decide +kernel
theorem dX3_liftOf_7 : decode cX3_liftOf 7 = .ok (.iload_n 3, 1) := by decide +kernel
theorem dX3_liftOf_8 : decode cX3_liftOf 8 = .ok (.iaload, 1) := by decide +kernel
theorem dX3_liftOf_9 : decode cX3_liftOf 9 = .ok (.istore 5, 2) := by decide +kernel
theorem dX3_liftOf_11 : decode cX3_liftOf 11 = .ok (.iload_n 2, 1) := by decide +kernel
theorem dX3_liftOf_12 : decode cX3_liftOf 12 = .ok (.iload 5, 2) := by decide +kernel
theorem dX3_liftOf_14 : decode cX3_liftOf 14 = .ok (.if_icmp .ge 7, 3) := by decide +kernel
theorem dX3_liftOf_17 : decode cX3_liftOf 17 = .ok (.iconst 0, 1) := by decide +kernel
theorem dX3_liftOf_18 : decode cX3_liftOf 18 = .ok (.goto 7, 3) := by decide +kernel
theorem dX3_liftOf_21 : decode cX3_liftOf 21 = .ok (.iload_n 2, 1) := by decide +kernel
theorem dX3_liftOf_22 : decode cX3_liftOf 22 = .ok (.iload 5, 2) := by decide +kernel
theorem dX3_liftOf_24 : decode cX3_liftOf 24 = .ok (.isub, 1) := by decide +kernel
theorem dX3_liftOf_25 : decode cX3_liftOf 25 = .ok (.istore 6, 2) := by decide +kernel
theorem dX3_liftOf_27 : decode cX3_liftOf 27 = .ok (.iload 6, 2) := by decide +kernel
theorem dX3_liftOf_29 : decode cX3_liftOf 29 = .ok (.aload_n 0, 1) := by decide +kernel
theorem dX3_liftOf_30 : decode cX3_liftOf 30 = .ok (.getfield 45, 3) := by decide +kernel
theorem dX3_liftOf_33 : decode cX3_liftOf 33 = .ok (.if_icmp .ge 122, 3) := by decide +kernel
theorem dX3_liftOf_36 : decode cX3_liftOf 36 = .ok (.iload 6, 2) := by decide +kernel
theorem dX3_liftOf_38 : decode cX3_liftOf 38 = .ok (.iload_n 2, 1) := by decide +kernel
theorem dX3_liftOf_39 : decode cX3_liftOf 39 = .ok (.iload 5, 2) := by decide +kernel
theorem dX3_liftOf_41 : decode cX3_liftOf 41 = .ok (.iadd, 1) := by decide +kernel
theorem dX3_liftOf_42 : decode cX3_liftOf 42 = .ok (.if_icmp .gt 113, 3) := by decide +kernel
theorem dX3_liftOf_45 : decode cX3_liftOf 45 = .ok (.iload_n 1, 1) := by decide +kernel
theorem dX3_liftOf_46 : decode cX3_liftOf 46 = .ok (.iload 5, 2) := by decide +kernel
theorem dX3_liftOf_48 : decode cX3_liftOf 48 = .ok (.if_icmp .ge 7, 3) := by decide +kernel
theorem dX3_liftOf_51 : decode cX3_liftOf 51 = .ok (.iconst 0, 1) := by decide +kernel
theorem dX3_liftOf_52 : decode cX3_liftOf 52 = .ok (.goto 7, 3) := by decide +kernel
theorem dX3_liftOf_55 : decode cX3_liftOf 55 = .ok (.iload_n 1, 1) := by decide +kernel
theorem dX3_liftOf_56 : decode cX3_liftOf 56 = .ok (.iload 5, 2) := by decide +kernel
theorem dX3_liftOf_58 : decode cX3_liftOf 58 = .ok (.isub, 1) := by decide +kernel
theorem dX3_liftOf_59 : decode cX3_liftOf 59 = .ok (.istore 7, 2) := by decide +kernel
theorem dX3_liftOf_61 : decode cX3_liftOf 61 = .ok (.iload 7, 2) := by decide +kernel
theorem dX3_liftOf_63 : decode cX3_liftOf 63 = .ok (.aload_n 0, 1) := by decide +kernel
theorem dX3_liftOf_64 : decode cX3_liftOf 64 = .ok (.getfield 42, 3) := by decide +kernel
theorem dX3_liftOf_67 : decode cX3_liftOf 67 = .ok (.if_icmp .ge 82, 3) := by decide +kernel
theorem dX3_liftOf_70 : decode cX3_liftOf 70 = .ok (.iload 7, 2) := by decide +kernel
theorem dX3_liftOf_72 : decode cX3_liftOf 72 = .ok (.iload_n 1, 1) := by decide +kernel
theorem dX3_liftOf_73 : decode cX3_liftOf 73 = .ok (.iload 5, 2) := by decide +kernel
theorem dX3_liftOf_75 : decode cX3_liftOf 75 = .ok (.iadd, 1) := by decide +kernel
theorem dX3_liftOf_76 : decode cX3_liftOf 76 = .ok (.if_icmp .gt 73, 3) := by decide +kernel
theorem dX3_liftOf_79 : decode cX3_liftOf 79 = .ok (.aload_n 0, 1) := by decide +kernel
theorem dX3_liftOf_80 : decode cX3_liftOf 80 = .ok (.iload_n 3, 1) := by decide +kernel
theorem dX3_liftOf_81 : decode cX3_liftOf 81 = .ok (.iload 7, 2) := by decide +kernel
theorem dX3_liftOf_83 : decode cX3_liftOf 83 = .ok (.iload_n 1, 1) := by decide +kernel
theorem dX3_liftOf_84 : decode cX3_liftOf 84 = .ok (.isub, 1) := by decide +kernel
theorem dX3_liftOf_85 : decode cX3_liftOf 85 = .ok (.iload 6, 2) := by decide +kernel
theorem dX3_liftOf_87 : decode cX3_liftOf 87 = .ok (.iload_n 2, 1) := by decide +kernel
theorem dX3_liftOf_88 : decode cX3_liftOf 88 = .ok (.isub, 1) := by decide +kernel
theorem dX3_liftOf_89 : decode cX3_liftOf 89 = .ok (.invokevirtual 63, 3) := by decide +kernel
theorem dX3_liftOf_92 : decode cX3_liftOf 92 = .ok (.istore 8, 2) := by decide +kernel
theorem dX3_liftOf_94 : decode cX3_liftOf 94 = .ok (.iload 8, 2) := by decide +kernel
theorem dX3_liftOf_96 : decode cX3_liftOf 96 = .ok (.ifCond .lt 43, 3) := by decide +kernel
theorem dX3_liftOf_99 : decode cX3_liftOf 99 = .ok (.aload_n 0, 1) := by decide +kernel
theorem dX3_liftOf_100 : decode cX3_liftOf 100 = .ok (.getfield 7, 3) := by decide +kernel
theorem dX3_liftOf_103 : decode cX3_liftOf 103 = .ok (.bipush 20, 2) := by decide +kernel
theorem dX3_liftOf_105 : decode cX3_liftOf 105 = .ok (.iload 6, 2) := by decide +kernel
theorem dX3_liftOf_107 : decode cX3_liftOf 107 = .ok (.imul, 1) := by decide +kernel
theorem dX3_liftOf_108 : decode cX3_liftOf 108 = .ok (.iload 7, 2) := by decide +kernel
theorem dX3_liftOf_110 : decode cX3_liftOf 110 = .ok (.iadd, 1) := by decide +kernel
theorem dX3_liftOf_111 : decode cX3_liftOf 111 = .ok (.iaload, 1) := by decide +kernel
theorem dX3_liftOf_112 : decode cX3_liftOf 112 = .ok (.iload 8, 2) := by decide +kernel
theorem dX3_liftOf_114 : decode cX3_liftOf 114 = .ok (.isub, 1) := by decide +kernel
theorem dX3_liftOf_115 : decode cX3_liftOf 115 = .ok (.iload 4, 2) := by decide +kernel
theorem dX3_liftOf_117 : decode cX3_liftOf 117 = .ok (.if_icmp .le 22, 3) := by decide +kernel
theorem dX3_liftOf_120 : decode cX3_liftOf 120 = .ok (.aload_n 0, 1) := by decide +kernel
theorem dX3_liftOf_121 : decode cX3_liftOf 121 = .ok (.getfield 7, 3) := by decide +kernel
theorem dX3_liftOf_124 : decode cX3_liftOf 124 = .ok (.bipush 20, 2) := by decide +kernel
theorem dX3_liftOf_126 : decode cX3_liftOf 126 = .ok (.iload 6, 2) := by decide +kernel
theorem dX3_liftOf_128 : decode cX3_liftOf 128 = .ok (.imul, 1) := by decide +kernel
theorem dX3_liftOf_129 : decode cX3_liftOf 129 = .ok (.iload 7, 2) := by decide +kernel
theorem dX3_liftOf_131 : decode cX3_liftOf 131 = .ok (.iadd, 1) := by decide +kernel
theorem dX3_liftOf_132 : decode cX3_liftOf 132 = .ok (.iaload, 1) := by decide +kernel
theorem dX3_liftOf_133 : decode cX3_liftOf 133 = .ok (.iload 8, 2) := by decide +kernel
theorem dX3_liftOf_135 : decode cX3_liftOf 135 = .ok (.isub, 1) := by decide +kernel
theorem dX3_liftOf_136 : decode cX3_liftOf 136 = .ok (.goto 5, 3) := by decide +kernel
theorem dX3_liftOf_139 : decode cX3_liftOf 139 = .ok (.iload 4, 2) := by decide +kernel
theorem dX3_liftOf_141 : decode cX3_liftOf 141 = .ok (.istore 4, 2) := by decide +kernel
theorem dX3_liftOf_143 : decode cX3_liftOf 143 = .ok (.iinc 7 1, 3) := by decide +kernel
theorem dX3_liftOf_146 : decode cX3_liftOf 146 = .ok (.goto (-85), 3) := by decide +kernel
theorem dX3_liftOf_149 : decode cX3_liftOf 149 = .ok (.iinc 6 1, 3) := by decide +kernel
theorem dX3_liftOf_152 : decode cX3_liftOf 152 = .ok (.goto (-125), 3) := by decide +kernel
theorem dX3_liftOf_155 : decode cX3_liftOf 155 = .ok (.iload 4, 2) := by decide +kernel
theorem dX3_liftOf_157 : decode cX3_liftOf 157 = .ok (.ireturn, 1) := by decide +kernel
theorem dX3_lift_0 : decode cX3_lift 0 = .ok (.aload_n 0, 1) := by decide +kernel
theorem dX3_lift_1 : decode cX3_lift 1 = .ok (.aload_n 0, 1) := by decide +kernel
theorem dX3_lift_2 : decode cX3_lift 2 = .ok (.iload_n 1, 1) := by decide +kernel
theorem dX3_lift_3 : decode cX3_lift 3 = .ok (.iload_n 2, 1) := by decide +kernel
theorem dX3_lift_4 : decode cX3_lift 4 = .ok (.invokevirtual 51, 3) := by decide +kernel
theorem dX3_lift_7 : decode cX3_lift 7 = .ok (.ifCond .eq 16, 3) := by decide +kernel
theorem dX3_lift_10 : decode cX3_lift 10 = .ok (.iload_n 3, 1) := by decide +kernel
theorem dX3_lift_11 : decode cX3_lift 11 = .ok (.iconst 0, 1) := by decide +kernel
theorem dX3_lift_12 : decode cX3_lift 12 = .ok (.iconst 3, 1) := by decide +kernel
theorem dX3_lift_13 : decode cX3_lift 13 = .ok (.invokestatic 55, 3) := by decide +kernel
theorem dX3_lift_16 : decode cX3_lift 16 = .ok (.ifCond .eq 7, 3) := by decide +kernel
theorem dX3_lift_19 : decode cX3_lift 19 = .ok (.iconst 0, 1) := by decide +kernel
theorem dX3_lift_20 : decode cX3_lift 20 = .ok (.goto 4, 3) := by decide +kernel
theorem dX3_lift_23 : decode cX3_lift 23 = .ok (.iconst 1, 1) := by decide +kernel
theorem dX3_lift_24 : decode cX3_lift 24 = .ok (.putfield 48, 3) := by decide +kernel
theorem dX3_lift_27 : decode cX3_lift 27 = .ok (.aload_n 0, 1) := by decide +kernel
theorem dX3_lift_28 : decode cX3_lift 28 = .ok (.getfield 48, 3) := by decide +kernel
theorem dX3_lift_31 : decode cX3_lift 31 = .ok (.ifCond .le 7, 3) := by decide +kernel
theorem dX3_lift_34 : decode cX3_lift 34 = .ok (.iconst 0, 1) := by decide +kernel
theorem dX3_lift_35 : decode cX3_lift 35 = .ok (.goto 10, 3) := by decide +kernel
theorem dX3_lift_38 : decode cX3_lift 38 = .ok (.aload_n 0, 1) := by decide +kernel
theorem dX3_lift_39 : decode cX3_lift 39 = .ok (.iload_n 1, 1) := by decide +kernel
theorem dX3_lift_40 : decode cX3_lift 40 = .ok (.iload_n 2, 1) := by decide +kernel
theorem dX3_lift_41 : decode cX3_lift 41 = .ok (.iload_n 3, 1) := by decide +kernel
theorem dX3_lift_42 : decode cX3_lift 42 = .ok (.invokevirtual 67, 3) := by decide +kernel
theorem dX3_lift_45 : decode cX3_lift 45 = .ok (.ireturn, 1) := by decide +kernel
theorem dX3_size_0 : decode cX3_size 0 = .ok (.iload_n 0, 1) := by decide +kernel
theorem dX3_size_1 : decode cX3_size 1 = .ok (.ifCond .ge 8, 3) := by decide +kernel
theorem dX3_size_4 : decode cX3_size 4 = .ok (.iload_n 0, 1) := by decide +kernel
theorem dX3_size_5 : decode cX3_size 5 = .ok (.ineg, 1) := by decide +kernel
theorem dX3_size_6 : decode cX3_size 6 = .ok (.goto 4, 3) := by decide +kernel
theorem dX3_size_9 : decode cX3_size 9 = .ok (.iload_n 0, 1) := by decide +kernel
theorem dX3_size_10 : decode cX3_size 10 = .ok (.ireturn, 1) := by decide +kernel
theorem dX3_begin_0 : decode cX3_begin 0 = .ok (.aload_n 0, 1) := by decide +kernel
theorem dX3_begin_1 : decode cX3_begin 1 = .ok (.iconst 0, 1) := by decide +kernel
theorem dX3_begin_2 : decode cX3_begin 2 = .ok (.putfield 70, 3) := by decide +kernel
theorem dX3_begin_5 : decode cX3_begin 5 = .ok (.aload_n 0, 1) := by decide +kernel
theorem dX3_begin_6 : decode cX3_begin 6 = .ok (.lconst 0, 1) := by decide +kernel
theorem dX3_begin_7 : decode cX3_begin 7 = .ok (.putfield 73, 3) := by decide +kernel
theorem dX3_begin_10 : decode cX3_begin 10 = .ok (.return_, 1) := by decide +kernel
theorem dX3_move3_0 : decode cX3_move3 0 = .ok (.aload_n 0, 1) := by decide +kernel
theorem dX3_move3_1 : decode cX3_move3 1 = .ok (.getfield 29, 3) := by decide +kernel
theorem dX3_move3_4 : decode cX3_move3 4 = .ok (.bipush 20, 2) := by decide +kernel
theorem dX3_move3_6 : decode cX3_move3 6 = .ok (.iload_n 2, 1) := by decide +kernel
theorem dX3_move3_7 : decode cX3_move3 7 = .ok (.imul, 1) := by decide +kernel
theorem dX3_move3_8 : decode cX3_move3 8 = .ok (.iload_n 1, 1) := by decide +kernel
theorem dX3_move3_9 : decode cX3_move3 9 = .ok (.iadd, 1) := by decide +kernel
theorem dX3_move3_10 : decode cX3_move3 10 = .ok (.iload_n 3, 1) := by decide +kernel
theorem dX3_move3_11 : decode cX3_move3 11 = .ok (.iastore, 1) := by decide +kernel
theorem dX3_move3_12 : decode cX3_move3 12 = .ok (.aload_n 0, 1) := by decide +kernel
theorem dX3_move3_13 : decode cX3_move3 13 = .ok (.getfield 70, 3) := by decide +kernel
theorem dX3_move3_16 : decode cX3_move3 16 = .ok (.ifCond .le 42, 3) := by decide +kernel
theorem dX3_move3_19 : decode cX3_move3 19 = .ok (.aload_n 0, 1) := by decide +kernel
theorem dX3_move3_20 : decode cX3_move3 20 = .ok (.dup, 1) := by decide +kernel
theorem dX3_move3_21 : decode cX3_move3 21 = .ok (.getfield 73, 3) := by decide +kernel
theorem dX3_move3_24 : decode cX3_move3 24 = .ok (.iload_n 1, 1) := by decide +kernel
theorem dX3_move3_25 : decode cX3_move3 25 = .ok (.aload_n 0, 1) := by decide +kernel
theorem dX3_move3_26 : decode cX3_move3 26 = .ok (.getfield 77, 3) := by decide +kernel
theorem dX3_move3_29 : decode cX3_move3 29 = .ok (.isub, 1) := by decide +kernel
theorem dX3_move3_30 : decode cX3_move3 30 = .ok (.invokestatic 80, 3) := by decide +kernel
theorem dX3_move3_33 : decode cX3_move3 33 = .ok (.iload_n 2, 1) := by decide +kernel
theorem dX3_move3_34 : decode cX3_move3 34 = .ok (.aload_n 0, 1) := by decide +kernel
theorem dX3_move3_35 : decode cX3_move3 35 = .ok (.getfield 83, 3) := by decide +kernel
theorem dX3_move3_38 : decode cX3_move3 38 = .ok (.isub, 1) := by decide +kernel
theorem dX3_move3_39 : decode cX3_move3 39 = .ok (.invokestatic 80, 3) := by decide +kernel
theorem dX3_move3_42 : decode cX3_move3 42 = .ok (.iadd, 1) := by decide +kernel
theorem dX3_move3_43 : decode cX3_move3 43 = .ok (.iload_n 3, 1) := by decide +kernel
theorem dX3_move3_44 : decode cX3_move3 44 = .ok (.aload_n 0, 1) := by decide +kernel
theorem dX3_move3_45 : decode cX3_move3 45 = .ok (.getfield 86, 3) := by decide +kernel
theorem dX3_move3_48 : decode cX3_move3 48 = .ok (.isub, 1) := by decide +kernel
theorem dX3_move3_49 : decode cX3_move3 49 = .ok (.invokestatic 80, 3) := by decide +kernel
theorem dX3_move3_52 : decode cX3_move3 52 = .ok (.iadd, 1) := by decide +kernel
theorem dX3_move3_53 : decode cX3_move3 53 = .ok (.i2l, 1) := by decide +kernel
theorem dX3_move3_54 : decode cX3_move3 54 = .ok (.ladd, 1) := by decide +kernel
theorem dX3_move3_55 : decode cX3_move3 55 = .ok (.putfield 73, 3) := by decide +kernel
theorem dX3_move3_58 : decode cX3_move3 58 = .ok (.aload_n 0, 1) := by decide +kernel
theorem dX3_move3_59 : decode cX3_move3 59 = .ok (.getfield 70, 3) := by decide +kernel
theorem dX3_move3_62 : decode cX3_move3 62 = .ok (.sipush 2000, 3) := by decide +kernel
theorem dX3_move3_65 : decode cX3_move3 65 = .ok (.if_icmp .ge 43, 3) := by decide +kernel
theorem dX3_move3_68 : decode cX3_move3 68 = .ok (.aload_n 0, 1) := by decide +kernel
theorem dX3_move3_69 : decode cX3_move3 69 = .ok (.getfield 35, 3) := by decide +kernel
theorem dX3_move3_72 : decode cX3_move3 72 = .ok (.iconst 3, 1) := by decide +kernel
theorem dX3_move3_73 : decode cX3_move3 73 = .ok (.aload_n 0, 1) := by decide +kernel
theorem dX3_move3_74 : decode cX3_move3 74 = .ok (.getfield 70, 3) := by decide +kernel
theorem dX3_move3_77 : decode cX3_move3 77 = .ok (.imul, 1) := by decide +kernel
theorem dX3_move3_78 : decode cX3_move3 78 = .ok (.iload_n 1, 1) := by decide +kernel
theorem dX3_move3_79 : decode cX3_move3 79 = .ok (.iastore, 1) := by decide +kernel
theorem dX3_move3_80 : decode cX3_move3 80 = .ok (.aload_n 0, 1) := by decide +kernel
theorem dX3_move3_81 : decode cX3_move3 81 = .ok (.getfield 35, 3) := by decide +kernel
theorem dX3_move3_84 : decode cX3_move3 84 = .ok (.iconst 3, 1) := by decide +kernel
theorem dX3_move3_85 : decode cX3_move3 85 = .ok (.aload_n 0, 1) := by decide +kernel
theorem dX3_move3_86 : decode cX3_move3 86 = .ok (.getfield 70, 3) := by decide +kernel
theorem dX3_move3_89 : decode cX3_move3 89 = .ok (.imul, 1) := by decide +kernel
theorem dX3_move3_90 : decode cX3_move3 90 = .ok (.iconst 1, 1) := by decide +kernel
theorem dX3_move3_91 : decode cX3_move3 91 = .ok (.iadd, 1) := by decide +kernel
theorem dX3_move3_92 : decode cX3_move3 92 = .ok (.iload_n 2, 1) := by decide +kernel
theorem dX3_move3_93 : decode cX3_move3 93 = .ok (.iastore, 1) := by decide +kernel
theorem dX3_move3_94 : decode cX3_move3 94 = .ok (.aload_n 0, 1) := by decide +kernel
theorem dX3_move3_95 : decode cX3_move3 95 = .ok (.getfield 35, 3) := by decide +kernel
theorem dX3_move3_98 : decode cX3_move3 98 = .ok (.iconst 3, 1) := by decide +kernel
theorem dX3_move3_99 : decode cX3_move3 99 = .ok (.aload_n 0, 1) := by decide +kernel
theorem dX3_move3_100 : decode cX3_move3 100 = .ok (.getfield 70, 3) := by decide +kernel
theorem dX3_move3_103 : decode cX3_move3 103 = .ok (.imul, 1) := by decide +kernel
theorem dX3_move3_104 : decode cX3_move3 104 = .ok (.iconst 2, 1) := by decide +kernel
theorem dX3_move3_105 : decode cX3_move3 105 = .ok (.iadd, 1) := by decide +kernel
theorem dX3_move3_106 : decode cX3_move3 106 = .ok (.iload_n 3, 1) := by decide +kernel
theorem dX3_move3_107 : decode cX3_move3 107 = .ok (.iastore, 1) := by decide +kernel
theorem dX3_move3_108 : decode cX3_move3 108 = .ok (.aload_n 0, 1) := by decide +kernel
theorem dX3_move3_109 : decode cX3_move3 109 = .ok (.dup, 1) := by decide +kernel
theorem dX3_move3_110 : decode cX3_move3 110 = .ok (.getfield 70, 3) := by decide +kernel
theorem dX3_move3_113 : decode cX3_move3 113 = .ok (.iconst 1, 1) := by decide +kernel
theorem dX3_move3_114 : decode cX3_move3 114 = .ok (.iadd, 1) := by decide +kernel
theorem dX3_move3_115 : decode cX3_move3 115 = .ok (.putfield 70, 3) := by decide +kernel
theorem dX3_move3_118 : decode cX3_move3 118 = .ok (.aload_n 0, 1) := by decide +kernel
theorem dX3_move3_119 : decode cX3_move3 119 = .ok (.iload_n 1, 1) := by decide +kernel
theorem dX3_move3_120 : decode cX3_move3 120 = .ok (.putfield 77, 3) := by decide +kernel
theorem dX3_move3_123 : decode cX3_move3 123 = .ok (.aload_n 0, 1) := by decide +kernel
theorem dX3_move3_124 : decode cX3_move3 124 = .ok (.iload_n 2, 1) := by decide +kernel
theorem dX3_move3_125 : decode cX3_move3 125 = .ok (.putfield 83, 3) := by decide +kernel
theorem dX3_move3_128 : decode cX3_move3 128 = .ok (.aload_n 0, 1) := by decide +kernel
theorem dX3_move3_129 : decode cX3_move3 129 = .ok (.iload_n 3, 1) := by decide +kernel
theorem dX3_move3_130 : decode cX3_move3 130 = .ok (.putfield 86, 3) := by decide +kernel
theorem dX3_move3_133 : decode cX3_move3 133 = .ok (.return_, 1) := by decide +kernel
theorem dX3_noTips_0 : decode cX3_noTips 0 = .ok (.iconst 0, 1) := by decide +kernel
theorem dX3_noTips_1 : decode cX3_noTips 1 = .ok (.istore_n 1, 1) := by decide +kernel
theorem dX3_noTips_2 : decode cX3_noTips 2 = .ok (.iload_n 1, 1) := by decide +kernel
theorem dX3_noTips_3 : decode cX3_noTips 3 = .ok (.sipush 400, 3) := by decide +kernel
theorem dX3_noTips_6 : decode cX3_noTips 6 = .ok (.if_icmp .ge 16, 3) := by decide +kernel
theorem dX3_noTips_9 : decode cX3_noTips 9 = .ok (.aload_n 0, 1) := by decide +kernel
theorem dX3_noTips_10 : decode cX3_noTips 10 = .ok (.getfield 29, 3) := by decide +kernel
theorem dX3_noTips_13 : decode cX3_noTips 13 = .ok (.iload_n 1, 1) := by decide +kernel
theorem dX3_noTips_14 : decode cX3_noTips 14 = .ok (.iconst (-1), 1) := by decide +kernel
theorem dX3_noTips_15 : decode cX3_noTips 15 = .ok (.iastore, 1) := by decide +kernel
theorem dX3_noTips_16 : decode cX3_noTips 16 = .ok (.iinc 1 1, 3) := by decide +kernel
theorem dX3_noTips_19 : decode cX3_noTips 19 = .ok (.goto (-17), 3) := by decide +kernel
theorem dX3_noTips_22 : decode cX3_noTips 22 = .ok (.return_, 1) := by decide +kernel
theorem dX3_carve_0 : decode cX3_carve 0 = .ok (.aload_n 0, 1) := by decide +kernel
theorem dX3_carve_1 : decode cX3_carve 1 = .ok (.getfield 26, 3) := by decide +kernel
theorem dX3_carve_4 : decode cX3_carve 4 = .ok (.iload_n 1, 1) := by decide +kernel
theorem dX3_carve_5 : decode cX3_carve 5 = .ok (.iaload, 1) := by decide +kernel
theorem dX3_carve_6 : decode cX3_carve 6 = .ok (.istore_n 2, 1) := by decide +kernel
theorem dX3_carve_7 : decode cX3_carve 7 = .ok (.iconst 0, 1) := by decide +kernel
theorem dX3_carve_8 : decode cX3_carve 8 = .ok (.istore_n 3, 1) := by decide +kernel
theorem dX3_carve_9 : decode cX3_carve 9 = .ok (.iload_n 3, 1) := by decide +kernel
theorem dX3_carve_10 : decode cX3_carve 10 = .ok (.aload_n 0, 1) := by decide +kernel
theorem dX3_carve_11 : decode cX3_carve 11 = .ok (.getfield 45, 3) := by decide +kernel
theorem dX3_carve_14 : decode cX3_carve 14 = .ok (.if_icmp .ge 179, 3) := by decide +kernel
theorem dX3_carve_17 : decode cX3_carve 17 = .ok (.iconst 0, 1) := by decide +kernel
theorem dX3_carve_18 : decode cX3_carve 18 = .ok (.istore 4, 2) := by decide +kernel
theorem dX3_carve_20 : decode cX3_carve 20 = .ok (.iload 4, 2) := by decide +kernel
theorem dX3_carve_22 : decode cX3_carve 22 = .ok (.aload_n 0, 1) := by decide +kernel
theorem dX3_carve_23 : decode cX3_carve 23 = .ok (.getfield 42, 3) := by decide +kernel
theorem dX3_carve_26 : decode cX3_carve 26 = .ok (.if_icmp .ge 161, 3) := by decide +kernel
theorem dX3_carve_29 : decode cX3_carve 29 = .ok (.iload_n 3, 1) := by decide +kernel
theorem dX3_carve_30 : decode cX3_carve 30 = .ok (.iload_n 2, 1) := by decide +kernel
theorem dX3_carve_31 : decode cX3_carve 31 = .ok (.isub, 1) := by decide +kernel
theorem dX3_carve_32 : decode cX3_carve 32 = .ok (.istore 5, 2) := by decide +kernel
theorem dX3_carve_34 : decode cX3_carve 34 = .ok (.iload 5, 2) := by decide +kernel
theorem dX3_carve_36 : decode cX3_carve 36 = .ok (.iload_n 3, 1) := by decide +kernel
theorem dX3_carve_37 : decode cX3_carve 37 = .ok (.iload_n 2, 1) := by decide +kernel
theorem dX3_carve_38 : decode cX3_carve 38 = .ok (.iadd, 1) := by decide +kernel
theorem dX3_carve_39 : decode cX3_carve 39 = .ok (.if_icmp .gt 142, 3) := by decide +kernel
theorem dX3_carve_42 : decode cX3_carve 42 = .ok (.iload 4, 2) := by decide +kernel
theorem dX3_carve_44 : decode cX3_carve 44 = .ok (.iload_n 2, 1) := by decide +kernel
theorem dX3_carve_45 : decode cX3_carve 45 = .ok (.isub, 1) := by decide +kernel
theorem dX3_carve_46 : decode cX3_carve 46 = .ok (.istore 6, 2) := by decide +kernel
theorem dX3_carve_48 : decode cX3_carve 48 = .ok (.iload 6, 2) := by decide +kernel
theorem dX3_carve_50 : decode cX3_carve 50 = .ok (.iload 4, 2) := by decide +kernel
theorem dX3_carve_52 : decode cX3_carve 52 = .ok (.iload_n 2, 1) := by decide +kernel
theorem dX3_carve_53 : decode cX3_carve 53 = .ok (.iadd, 1) := by decide +kernel
theorem dX3_carve_54 : decode cX3_carve 54 = .ok (.if_icmp .gt 121, 3) := by decide +kernel
theorem dX3_carve_57 : decode cX3_carve 57 = .ok (.aload_n 0, 1) := by decide +kernel
theorem dX3_carve_58 : decode cX3_carve 58 = .ok (.iload_n 1, 1) := by decide +kernel
theorem dX3_carve_59 : decode cX3_carve 59 = .ok (.iload 4, 2) := by decide +kernel
theorem dX3_carve_61 : decode cX3_carve 61 = .ok (.iload 6, 2) := by decide +kernel
theorem dX3_carve_63 : decode cX3_carve 63 = .ok (.isub, 1) := by decide +kernel
theorem dX3_carve_64 : decode cX3_carve 64 = .ok (.iload_n 3, 1) := by decide +kernel
theorem dX3_carve_65 : decode cX3_carve 65 = .ok (.iload 5, 2) := by decide +kernel
theorem dX3_carve_67 : decode cX3_carve 67 = .ok (.isub, 1) := by decide +kernel
theorem dX3_carve_68 : decode cX3_carve 68 = .ok (.invokevirtual 63, 3) := by decide +kernel
theorem dX3_carve_71 : decode cX3_carve 71 = .ok (.istore 7, 2) := by decide +kernel
theorem dX3_carve_73 : decode cX3_carve 73 = .ok (.iload 7, 2) := by decide +kernel
theorem dX3_carve_75 : decode cX3_carve 75 = .ok (.ifCond .lt 94, 3) := by decide +kernel
theorem dX3_carve_78 : decode cX3_carve 78 = .ok (.aload_n 0, 1) := by decide +kernel
theorem dX3_carve_79 : decode cX3_carve 79 = .ok (.iload 6, 2) := by decide +kernel
theorem dX3_carve_81 : decode cX3_carve 81 = .ok (.iload 5, 2) := by decide +kernel
theorem dX3_carve_83 : decode cX3_carve 83 = .ok (.invokevirtual 51, 3) := by decide +kernel
theorem dX3_carve_86 : decode cX3_carve 86 = .ok (.ifCond .eq 83, 3) := by decide +kernel
theorem dX3_carve_89 : decode cX3_carve 89 = .ok (.aload_n 0, 1) := by decide +kernel
theorem dX3_carve_90 : decode cX3_carve 90 = .ok (.getfield 29, 3) := by decide +kernel
theorem dX3_carve_93 : decode cX3_carve 93 = .ok (.bipush 20, 2) := by decide +kernel
theorem dX3_carve_95 : decode cX3_carve 95 = .ok (.iload 5, 2) := by decide +kernel
theorem dX3_carve_97 : decode cX3_carve 97 = .ok (.imul, 1) := by decide +kernel
theorem dX3_carve_98 : decode cX3_carve 98 = .ok (.iload 6, 2) := by decide +kernel
theorem dX3_carve_100 : decode cX3_carve 100 = .ok (.iadd, 1) := by decide +kernel
theorem dX3_carve_101 : decode cX3_carve 101 = .ok (.iaload, 1) := by decide +kernel
theorem dX3_carve_102 : decode cX3_carve 102 = .ok (.ifCond .lt 67, 3) := by decide +kernel
theorem dX3_carve_105 : decode cX3_carve 105 = .ok (.aload_n 0, 1) := by decide +kernel
theorem dX3_carve_106 : decode cX3_carve 106 = .ok (.getfield 29, 3) := by decide +kernel
theorem dX3_carve_109 : decode cX3_carve 109 = .ok (.bipush 20, 2) := by decide +kernel
theorem dX3_carve_111 : decode cX3_carve 111 = .ok (.iload 5, 2) := by decide +kernel
theorem dX3_carve_113 : decode cX3_carve 113 = .ok (.imul, 1) := by decide +kernel
theorem dX3_carve_114 : decode cX3_carve 114 = .ok (.iload 6, 2) := by decide +kernel
theorem dX3_carve_116 : decode cX3_carve 116 = .ok (.iadd, 1) := by decide +kernel
theorem dX3_carve_117 : decode cX3_carve 117 = .ok (.iaload, 1) := by decide +kernel
theorem dX3_carve_118 : decode cX3_carve 118 = .ok (.iload 7, 2) := by decide +kernel
theorem dX3_carve_120 : decode cX3_carve 120 = .ok (.iadd, 1) := by decide +kernel
theorem dX3_carve_121 : decode cX3_carve 121 = .ok (.istore 8, 2) := by decide +kernel
theorem dX3_carve_123 : decode cX3_carve 123 = .ok (.aload_n 0, 1) := by decide +kernel
theorem dX3_carve_124 : decode cX3_carve 124 = .ok (.getfield 13, 3) := by decide +kernel
theorem dX3_carve_127 : decode cX3_carve 127 = .ok (.bipush 20, 2) := by decide +kernel
theorem dX3_carve_129 : decode cX3_carve 129 = .ok (.iload_n 3, 1) := by decide +kernel
theorem dX3_carve_130 : decode cX3_carve 130 = .ok (.imul, 1) := by decide +kernel
theorem dX3_carve_131 : decode cX3_carve 131 = .ok (.iload 4, 2) := by decide +kernel
theorem dX3_carve_133 : decode cX3_carve 133 = .ok (.iadd, 1) := by decide +kernel
theorem dX3_carve_134 : decode cX3_carve 134 = .ok (.iload 8, 2) := by decide +kernel
theorem dX3_carve_136 : decode cX3_carve 136 = .ok (.aload_n 0, 1) := by decide +kernel
theorem dX3_carve_137 : decode cX3_carve 137 = .ok (.getfield 13, 3) := by decide +kernel
theorem dX3_carve_140 : decode cX3_carve 140 = .ok (.bipush 20, 2) := by decide +kernel
theorem dX3_carve_142 : decode cX3_carve 142 = .ok (.iload_n 3, 1) := by decide +kernel
theorem dX3_carve_143 : decode cX3_carve 143 = .ok (.imul, 1) := by decide +kernel
theorem dX3_carve_144 : decode cX3_carve 144 = .ok (.iload 4, 2) := by decide +kernel
theorem dX3_carve_146 : decode cX3_carve 146 = .ok (.iadd, 1) := by decide +kernel
theorem dX3_carve_147 : decode cX3_carve 147 = .ok (.iaload, 1) := by decide +kernel
theorem dX3_carve_148 : decode cX3_carve 148 = .ok (.if_icmp .ge 8, 3) := by decide +kernel
theorem dX3_carve_151 : decode cX3_carve 151 = .ok (.iload 8, 2) := by decide +kernel
theorem dX3_carve_153 : decode cX3_carve 153 = .ok (.goto 15, 3) := by decide +kernel
theorem dX3_carve_156 : decode cX3_carve 156 = .ok (.aload_n 0, 1) := by decide +kernel
theorem dX3_carve_157 : decode cX3_carve 157 = .ok (.getfield 13, 3) := by decide +kernel
theorem dX3_carve_160 : decode cX3_carve 160 = .ok (.bipush 20, 2) := by decide +kernel
theorem dX3_carve_162 : decode cX3_carve 162 = .ok (.iload_n 3, 1) := by decide +kernel
theorem dX3_carve_163 : decode cX3_carve 163 = .ok (.imul, 1) := by decide +kernel
theorem dX3_carve_164 : decode cX3_carve 164 = .ok (.iload 4, 2) := by decide +kernel
theorem dX3_carve_166 : decode cX3_carve 166 = .ok (.iadd, 1) := by decide +kernel
theorem dX3_carve_167 : decode cX3_carve 167 = .ok (.iaload, 1) := by decide +kernel
theorem dX3_carve_168 : decode cX3_carve 168 = .ok (.iastore, 1) := by decide +kernel
theorem dX3_carve_169 : decode cX3_carve 169 = .ok (.iinc 6 1, 3) := by decide +kernel
theorem dX3_carve_172 : decode cX3_carve 172 = .ok (.goto (-124), 3) := by decide +kernel
theorem dX3_carve_175 : decode cX3_carve 175 = .ok (.iinc 5 1, 3) := by decide +kernel
theorem dX3_carve_178 : decode cX3_carve 178 = .ok (.goto (-144), 3) := by decide +kernel
theorem dX3_carve_181 : decode cX3_carve 181 = .ok (.iinc 4 1, 3) := by decide +kernel
theorem dX3_carve_184 : decode cX3_carve 184 = .ok (.goto (-164), 3) := by decide +kernel
theorem dX3_carve_187 : decode cX3_carve 187 = .ok (.iinc 3 1, 3) := by decide +kernel
theorem dX3_carve_190 : decode cX3_carve 190 = .ok (.goto (-181), 3) := by decide +kernel
theorem dX3_carve_193 : decode cX3_carve 193 = .ok (.return_, 1) := by decide +kernel
theorem dX3_rough_0 : decode cX3_rough 0 = .ok (.aload_n 0, 1) := by decide +kernel
theorem dX3_rough_1 : decode cX3_rough 1 = .ok (.iload_n 1, 1) := by decide +kernel
theorem dX3_rough_2 : decode cX3_rough 2 = .ok (.iconst 0, 1) := by decide +kernel
theorem dX3_rough_3 : decode cX3_rough 3 = .ok (.iconst 3, 1) := by decide +kernel
theorem dX3_rough_4 : decode cX3_rough 4 = .ok (.invokestatic 55, 3) := by decide +kernel
theorem dX3_rough_7 : decode cX3_rough 7 = .ok (.ifCond .ne 7, 3) := by decide +kernel
theorem dX3_rough_10 : decode cX3_rough 10 = .ok (.iconst 1, 1) := by decide +kernel
theorem dX3_rough_11 : decode cX3_rough 11 = .ok (.goto 30, 3) := by decide +kernel
theorem dX3_rough_14 : decode cX3_rough 14 = .ok (.iload_n 2, 1) := by decide +kernel
theorem dX3_rough_15 : decode cX3_rough 15 = .ok (.iconst 1, 1) := by decide +kernel
theorem dX3_rough_16 : decode cX3_rough 16 = .ok (.sipush 1000, 3) := by decide +kernel
theorem dX3_rough_19 : decode cX3_rough 19 = .ok (.invokestatic 55, 3) := by decide +kernel
theorem dX3_rough_22 : decode cX3_rough 22 = .ok (.ifCond .eq 18, 3) := by decide +kernel
theorem dX3_rough_25 : decode cX3_rough 25 = .ok (.iload_n 3, 1) := by decide +kernel
theorem dX3_rough_26 : decode cX3_rough 26 = .ok (.iconst 0, 1) := by decide +kernel
theorem dX3_rough_27 : decode cX3_rough 27 = .ok (.sipush 1000, 3) := by decide +kernel
theorem dX3_rough_30 : decode cX3_rough 30 = .ok (.invokestatic 55, 3) := by decide +kernel
theorem dX3_rough_33 : decode cX3_rough 33 = .ok (.ifCond .eq 7, 3) := by decide +kernel
theorem dX3_rough_36 : decode cX3_rough 36 = .ok (.iconst 0, 1) := by decide +kernel
theorem dX3_rough_37 : decode cX3_rough 37 = .ok (.goto 4, 3) := by decide +kernel
theorem dX3_rough_40 : decode cX3_rough 40 = .ok (.iconst 2, 1) := by decide +kernel
theorem dX3_rough_41 : decode cX3_rough 41 = .ok (.putfield 48, 3) := by decide +kernel
theorem dX3_rough_44 : decode cX3_rough 44 = .ok (.aload_n 0, 1) := by decide +kernel
theorem dX3_rough_45 : decode cX3_rough 45 = .ok (.getfield 48, 3) := by decide +kernel
theorem dX3_rough_48 : decode cX3_rough 48 = .ok (.ifCond .le 5, 3) := by decide +kernel
theorem dX3_rough_51 : decode cX3_rough 51 = .ok (.iconst 0, 1) := by decide +kernel
theorem dX3_rough_52 : decode cX3_rough 52 = .ok (.ireturn, 1) := by decide +kernel
theorem dX3_rough_53 : decode cX3_rough 53 = .ok (.aload_n 0, 1) := by decide +kernel
theorem dX3_rough_54 : decode cX3_rough 54 = .ok (.invokevirtual 89, 3) := by decide +kernel
theorem dX3_rough_57 : decode cX3_rough 57 = .ok (.iconst 0, 1) := by decide +kernel
theorem dX3_rough_58 : decode cX3_rough 58 = .ok (.istore 4, 2) := by decide +kernel
theorem dX3_rough_60 : decode cX3_rough 60 = .ok (.iload 4, 2) := by decide +kernel
theorem dX3_rough_62 : decode cX3_rough 62 = .ok (.sipush 400, 3) := by decide +kernel
theorem dX3_rough_65 : decode cX3_rough 65 = .ok (.if_icmp .ge 59, 3) := by decide +kernel
theorem dX3_rough_68 : decode cX3_rough 68 = .ok (.aload_n 0, 1) := by decide +kernel
theorem dX3_rough_69 : decode cX3_rough 69 = .ok (.getfield 32, 3) := by decide +kernel
theorem dX3_rough_72 : decode cX3_rough 72 = .ok (.iload 4, 2) := by decide +kernel
theorem dX3_rough_74 : decode cX3_rough 74 = .ok (.iload 4, 2) := by decide +kernel
theorem dX3_rough_76 : decode cX3_rough 76 = .ok (.bipush 20, 2) := by decide +kernel
theorem dX3_rough_78 : decode cX3_rough 78 = .ok (.irem, 1) := by decide +kernel
theorem dX3_rough_79 : decode cX3_rough 79 = .ok (.aload_n 0, 1) := by decide +kernel
theorem dX3_rough_80 : decode cX3_rough 80 = .ok (.getfield 42, 3) := by decide +kernel
theorem dX3_rough_83 : decode cX3_rough 83 = .ok (.if_icmp .ge 33, 3) := by decide +kernel
theorem dX3_rough_86 : decode cX3_rough 86 = .ok (.iload 4, 2) := by decide +kernel
theorem dX3_rough_88 : decode cX3_rough 88 = .ok (.bipush 20, 2) := by decide +kernel
theorem dX3_rough_90 : decode cX3_rough 90 = .ok (.idiv, 1) := by decide +kernel
theorem dX3_rough_91 : decode cX3_rough 91 = .ok (.aload_n 0, 1) := by decide +kernel
theorem dX3_rough_92 : decode cX3_rough 92 = .ok (.getfield 45, 3) := by decide +kernel
theorem dX3_rough_95 : decode cX3_rough 95 = .ok (.if_icmp .ge 21, 3) := by decide +kernel
theorem dX3_rough_98 : decode cX3_rough 98 = .ok (.aload_n 0, 1) := by decide +kernel
theorem dX3_rough_99 : decode cX3_rough 99 = .ok (.iload 4, 2) := by decide +kernel
theorem dX3_rough_101 : decode cX3_rough 101 = .ok (.bipush 20, 2) := by decide +kernel
theorem dX3_rough_103 : decode cX3_rough 103 = .ok (.irem, 1) := by decide +kernel
theorem dX3_rough_104 : decode cX3_rough 104 = .ok (.iload 4, 2) := by decide +kernel
theorem dX3_rough_106 : decode cX3_rough 106 = .ok (.bipush 20, 2) := by decide +kernel
theorem dX3_rough_108 : decode cX3_rough 108 = .ok (.idiv, 1) := by decide +kernel
theorem dX3_rough_109 : decode cX3_rough 109 = .ok (.iload_n 1, 1) := by decide +kernel
theorem dX3_rough_110 : decode cX3_rough 110 = .ok (.invokevirtual 67, 3) := by decide +kernel
theorem dX3_rough_113 : decode cX3_rough 113 = .ok (.goto 4, 3) := by decide +kernel
theorem dX3_rough_116 : decode cX3_rough 116 = .ok (.iconst 0, 1) := by decide +kernel
theorem dX3_rough_117 : decode cX3_rough 117 = .ok (.iastore, 1) := by decide +kernel
theorem dX3_rough_118 : decode cX3_rough 118 = .ok (.iinc 4 1, 3) := by decide +kernel
theorem dX3_rough_121 : decode cX3_rough 121 = .ok (.goto (-61), 3) := by decide +kernel
theorem dX3_rough_124 : decode cX3_rough 124 = .ok (.iconst 0, 1) := by decide +kernel
theorem dX3_rough_125 : decode cX3_rough 125 = .ok (.istore 4, 2) := by decide +kernel
theorem dX3_rough_127 : decode cX3_rough 127 = .ok (.aload_n 0, 1) := by decide +kernel
theorem dX3_rough_128 : decode cX3_rough 128 = .ok (.getfield 19, 3) := by decide +kernel
theorem dX3_rough_131 : decode cX3_rough 131 = .ok (.iload_n 2, 1) := by decide +kernel
theorem dX3_rough_132 : decode cX3_rough 132 = .ok (.isub, 1) := by decide +kernel
theorem dX3_rough_133 : decode cX3_rough 133 = .ok (.istore 5, 2) := by decide +kernel
theorem dX3_rough_135 : decode cX3_rough 135 = .ok (.iload 5, 2) := by decide +kernel
theorem dX3_rough_137 : decode cX3_rough 137 = .ok (.ifCond .le 105, 3) := by decide +kernel
theorem dX3_rough_140 : decode cX3_rough 140 = .ok (.aload_n 0, 1) := by decide +kernel
theorem dX3_rough_141 : decode cX3_rough 141 = .ok (.getfield 70, 3) := by decide +kernel
theorem dX3_rough_144 : decode cX3_rough 144 = .ok (.istore 6, 2) := by decide +kernel
theorem dX3_rough_146 : decode cX3_rough 146 = .ok (.aload_n 0, 1) := by decide +kernel
theorem dX3_rough_147 : decode cX3_rough 147 = .ok (.invokevirtual 92, 3) := by decide +kernel
theorem dX3_rough_150 : decode cX3_rough 150 = .ok (.iconst 0, 1) := by decide +kernel
theorem dX3_rough_151 : decode cX3_rough 151 = .ok (.istore 7, 2) := by decide +kernel
theorem dX3_rough_153 : decode cX3_rough 153 = .ok (.iload 7, 2) := by decide +kernel
theorem dX3_rough_155 : decode cX3_rough 155 = .ok (.aload_n 0, 1) := by decide +kernel
theorem dX3_rough_156 : decode cX3_rough 156 = .ok (.getfield 45, 3) := by decide +kernel
theorem dX3_rough_159 : decode cX3_rough 159 = .ok (.if_icmp .ge 57, 3) := by decide +kernel
theorem dX3_rough_162 : decode cX3_rough 162 = .ok (.iconst 0, 1) := by decide +kernel
theorem dX3_rough_163 : decode cX3_rough 163 = .ok (.istore 8, 2) := by decide +kernel
theorem dX3_rough_165 : decode cX3_rough 165 = .ok (.iload 8, 2) := by decide +kernel
theorem dX3_rough_167 : decode cX3_rough 167 = .ok (.aload_n 0, 1) := by decide +kernel
theorem dX3_rough_168 : decode cX3_rough 168 = .ok (.getfield 42, 3) := by decide +kernel
theorem dX3_rough_171 : decode cX3_rough 171 = .ok (.if_icmp .ge 39, 3) := by decide +kernel
theorem dX3_rough_174 : decode cX3_rough 174 = .ok (.aload_n 0, 1) := by decide +kernel
theorem dX3_rough_175 : decode cX3_rough 175 = .ok (.getfield 32, 3) := by decide +kernel
theorem dX3_rough_178 : decode cX3_rough 178 = .ok (.bipush 20, 2) := by decide +kernel
theorem dX3_rough_180 : decode cX3_rough 180 = .ok (.iload 7, 2) := by decide +kernel
theorem dX3_rough_182 : decode cX3_rough 182 = .ok (.imul, 1) := by decide +kernel
theorem dX3_rough_183 : decode cX3_rough 183 = .ok (.iload 8, 2) := by decide +kernel
theorem dX3_rough_185 : decode cX3_rough 185 = .ok (.iadd, 1) := by decide +kernel
theorem dX3_rough_186 : decode cX3_rough 186 = .ok (.iaload, 1) := by decide +kernel
theorem dX3_rough_187 : decode cX3_rough 187 = .ok (.iload_n 3, 1) := by decide +kernel
theorem dX3_rough_188 : decode cX3_rough 188 = .ok (.iadd, 1) := by decide +kernel
theorem dX3_rough_189 : decode cX3_rough 189 = .ok (.iload 5, 2) := by decide +kernel
theorem dX3_rough_191 : decode cX3_rough 191 = .ok (.if_icmp .gt 13, 3) := by decide +kernel
theorem dX3_rough_194 : decode cX3_rough 194 = .ok (.aload_n 0, 1) := by decide +kernel
theorem dX3_rough_195 : decode cX3_rough 195 = .ok (.iload 8, 2) := by decide +kernel
theorem dX3_rough_197 : decode cX3_rough 197 = .ok (.iload 7, 2) := by decide +kernel
theorem dX3_rough_199 : decode cX3_rough 199 = .ok (.iload 5, 2) := by decide +kernel
theorem dX3_rough_201 : decode cX3_rough 201 = .ok (.invokevirtual 95, 3) := by decide +kernel
theorem dX3_rough_204 : decode cX3_rough 204 = .ok (.iinc 8 1, 3) := by decide +kernel
theorem dX3_rough_207 : decode cX3_rough 207 = .ok (.goto (-42), 3) := by decide +kernel
theorem dX3_rough_210 : decode cX3_rough 210 = .ok (.iinc 7 1, 3) := by decide +kernel
theorem dX3_rough_213 : decode cX3_rough 213 = .ok (.goto (-60), 3) := by decide +kernel
theorem dX3_rough_216 : decode cX3_rough 216 = .ok (.aload_n 0, 1) := by decide +kernel
theorem dX3_rough_217 : decode cX3_rough 217 = .ok (.getfield 70, 3) := by decide +kernel
theorem dX3_rough_220 : decode cX3_rough 220 = .ok (.iload 6, 2) := by decide +kernel
theorem dX3_rough_222 : decode cX3_rough 222 = .ok (.if_icmp .le 11, 3) := by decide +kernel
theorem dX3_rough_225 : decode cX3_rough 225 = .ok (.aload_n 0, 1) := by decide +kernel
theorem dX3_rough_226 : decode cX3_rough 226 = .ok (.iload_n 1, 1) := by decide +kernel
theorem dX3_rough_227 : decode cX3_rough 227 = .ok (.invokevirtual 99, 3) := by decide +kernel
theorem dX3_rough_230 : decode cX3_rough 230 = .ok (.iinc 4 1, 3) := by decide +kernel
theorem dX3_rough_233 : decode cX3_rough 233 = .ok (.iload 5, 2) := by decide +kernel
theorem dX3_rough_235 : decode cX3_rough 235 = .ok (.iload_n 2, 1) := by decide +kernel
theorem dX3_rough_236 : decode cX3_rough 236 = .ok (.isub, 1) := by decide +kernel
theorem dX3_rough_237 : decode cX3_rough 237 = .ok (.istore 5, 2) := by decide +kernel
theorem dX3_rough_239 : decode cX3_rough 239 = .ok (.goto (-104), 3) := by decide +kernel
theorem dX3_rough_242 : decode cX3_rough 242 = .ok (.iload 4, 2) := by decide +kernel
theorem dX3_rough_244 : decode cX3_rough 244 = .ok (.ireturn, 1) := by decide +kernel
theorem dX3_fine_0 : decode cX3_fine 0 = .ok (.aload_n 0, 1) := by decide +kernel
theorem dX3_fine_1 : decode cX3_fine 1 = .ok (.iload_n 1, 1) := by decide +kernel
theorem dX3_fine_2 : decode cX3_fine 2 = .ok (.iconst 0, 1) := by decide +kernel
theorem dX3_fine_3 : decode cX3_fine 3 = .ok (.iconst 3, 1) := by decide +kernel
theorem dX3_fine_4 : decode cX3_fine 4 = .ok (.invokestatic 55, 3) := by decide +kernel
theorem dX3_fine_7 : decode cX3_fine 7 = .ok (.ifCond .ne 7, 3) := by decide +kernel
theorem dX3_fine_10 : decode cX3_fine 10 = .ok (.iconst 1, 1) := by decide +kernel
theorem dX3_fine_11 : decode cX3_fine 11 = .ok (.goto 18, 3) := by decide +kernel
theorem dX3_fine_14 : decode cX3_fine 14 = .ok (.iload_n 2, 1) := by decide +kernel
theorem dX3_fine_15 : decode cX3_fine 15 = .ok (.iconst 1, 1) := by decide +kernel
theorem dX3_fine_16 : decode cX3_fine 16 = .ok (.bipush 20, 2) := by decide +kernel
theorem dX3_fine_18 : decode cX3_fine 18 = .ok (.invokestatic 55, 3) := by decide +kernel
theorem dX3_fine_21 : decode cX3_fine 21 = .ok (.ifCond .eq 7, 3) := by decide +kernel
theorem dX3_fine_24 : decode cX3_fine 24 = .ok (.iconst 0, 1) := by decide +kernel
theorem dX3_fine_25 : decode cX3_fine 25 = .ok (.goto 4, 3) := by decide +kernel
theorem dX3_fine_28 : decode cX3_fine 28 = .ok (.iconst 2, 1) := by decide +kernel
theorem dX3_fine_29 : decode cX3_fine 29 = .ok (.putfield 48, 3) := by decide +kernel
theorem dX3_fine_32 : decode cX3_fine 32 = .ok (.aload_n 0, 1) := by decide +kernel
theorem dX3_fine_33 : decode cX3_fine 33 = .ok (.getfield 48, 3) := by decide +kernel
theorem dX3_fine_36 : decode cX3_fine 36 = .ok (.ifCond .le 5, 3) := by decide +kernel
theorem dX3_fine_39 : decode cX3_fine 39 = .ok (.iconst 0, 1) := by decide +kernel
theorem dX3_fine_40 : decode cX3_fine 40 = .ok (.ireturn, 1) := by decide +kernel
theorem dX3_fine_41 : decode cX3_fine 41 = .ok (.aload_n 0, 1) := by decide +kernel
theorem dX3_fine_42 : decode cX3_fine 42 = .ok (.invokevirtual 89, 3) := by decide +kernel
theorem dX3_fine_45 : decode cX3_fine 45 = .ok (.aload_n 0, 1) := by decide +kernel
theorem dX3_fine_46 : decode cX3_fine 46 = .ok (.invokevirtual 92, 3) := by decide +kernel
theorem dX3_fine_49 : decode cX3_fine 49 = .ok (.iconst 0, 1) := by decide +kernel
theorem dX3_fine_50 : decode cX3_fine 50 = .ok (.istore_n 3, 1) := by decide +kernel
theorem dX3_fine_51 : decode cX3_fine 51 = .ok (.iconst 0, 1) := by decide +kernel
theorem dX3_fine_52 : decode cX3_fine 52 = .ok (.istore 4, 2) := by decide +kernel
theorem dX3_fine_54 : decode cX3_fine 54 = .ok (.iload 4, 2) := by decide +kernel
theorem dX3_fine_56 : decode cX3_fine 56 = .ok (.aload_n 0, 1) := by decide +kernel
theorem dX3_fine_57 : decode cX3_fine 57 = .ok (.getfield 45, 3) := by decide +kernel
theorem dX3_fine_60 : decode cX3_fine 60 = .ok (.if_icmp .ge 87, 3) := by decide +kernel
theorem dX3_fine_63 : decode cX3_fine 63 = .ok (.iload 4, 2) := by decide +kernel
theorem dX3_fine_65 : decode cX3_fine 65 = .ok (.iload_n 2, 1) := by decide +kernel
theorem dX3_fine_66 : decode cX3_fine 66 = .ok (.irem, 1) := by decide +kernel
theorem dX3_fine_67 : decode cX3_fine 67 = .ok (.ifCond .eq 14, 3) := by decide +kernel
theorem dX3_fine_70 : decode cX3_fine 70 = .ok (.iload 4, 2) := by decide +kernel
theorem dX3_fine_72 : decode cX3_fine 72 = .ok (.aload_n 0, 1) := by decide +kernel
theorem dX3_fine_73 : decode cX3_fine 73 = .ok (.getfield 45, 3) := by decide +kernel
theorem dX3_fine_76 : decode cX3_fine 76 = .ok (.iconst 1, 1) := by decide +kernel
theorem dX3_fine_77 : decode cX3_fine 77 = .ok (.isub, 1) := by decide +kernel
theorem dX3_fine_78 : decode cX3_fine 78 = .ok (.if_icmp .ne 63, 3) := by decide +kernel
theorem dX3_fine_81 : decode cX3_fine 81 = .ok (.iconst 0, 1) := by decide +kernel
theorem dX3_fine_82 : decode cX3_fine 82 = .ok (.istore 5, 2) := by decide +kernel
theorem dX3_fine_84 : decode cX3_fine 84 = .ok (.iload 5, 2) := by decide +kernel
theorem dX3_fine_86 : decode cX3_fine 86 = .ok (.aload_n 0, 1) := by decide +kernel
theorem dX3_fine_87 : decode cX3_fine 87 = .ok (.getfield 42, 3) := by decide +kernel
theorem dX3_fine_90 : decode cX3_fine 90 = .ok (.if_icmp .ge 48, 3) := by decide +kernel
theorem dX3_fine_93 : decode cX3_fine 93 = .ok (.iload_n 3, 1) := by decide +kernel
theorem dX3_fine_94 : decode cX3_fine 94 = .ok (.iconst 2, 1) := by decide +kernel
theorem dX3_fine_95 : decode cX3_fine 95 = .ok (.irem, 1) := by decide +kernel
theorem dX3_fine_96 : decode cX3_fine 96 = .ok (.ifCond .ne 8, 3) := by decide +kernel
theorem dX3_fine_99 : decode cX3_fine 99 = .ok (.iload 5, 2) := by decide +kernel
theorem dX3_fine_101 : decode cX3_fine 101 = .ok (.goto 12, 3) := by decide +kernel
theorem dX3_fine_104 : decode cX3_fine 104 = .ok (.aload_n 0, 1) := by decide +kernel
theorem dX3_fine_105 : decode cX3_fine 105 = .ok (.getfield 42, 3) := by decide +kernel
theorem dX3_fine_108 : decode cX3_fine 108 = .ok (.iconst 1, 1) := by decide +kernel
theorem dX3_fine_109 : decode cX3_fine 109 = .ok (.isub, 1) := by decide +kernel
theorem dX3_fine_110 : decode cX3_fine 110 = .ok (.iload 5, 2) := by decide +kernel
theorem dX3_fine_112 : decode cX3_fine 112 = .ok (.isub, 1) := by decide +kernel
theorem dX3_fine_113 : decode cX3_fine 113 = .ok (.istore 6, 2) := by decide +kernel
theorem dX3_fine_115 : decode cX3_fine 115 = .ok (.aload_n 0, 1) := by decide +kernel
theorem dX3_fine_116 : decode cX3_fine 116 = .ok (.iload 6, 2) := by decide +kernel
theorem dX3_fine_118 : decode cX3_fine 118 = .ok (.iload 4, 2) := by decide +kernel
theorem dX3_fine_120 : decode cX3_fine 120 = .ok (.aload_n 0, 1) := by decide +kernel
theorem dX3_fine_121 : decode cX3_fine 121 = .ok (.iload 6, 2) := by decide +kernel
theorem dX3_fine_123 : decode cX3_fine 123 = .ok (.iload 4, 2) := by decide +kernel
theorem dX3_fine_125 : decode cX3_fine 125 = .ok (.iload_n 1, 1) := by decide +kernel
theorem dX3_fine_126 : decode cX3_fine 126 = .ok (.invokevirtual 67, 3) := by decide +kernel
theorem dX3_fine_129 : decode cX3_fine 129 = .ok (.invokevirtual 95, 3) := by decide +kernel
theorem dX3_fine_132 : decode cX3_fine 132 = .ok (.iinc 5 1, 3) := by decide +kernel
theorem dX3_fine_135 : decode cX3_fine 135 = .ok (.goto (-51), 3) := by decide +kernel
theorem dX3_fine_138 : decode cX3_fine 138 = .ok (.iinc 3 1, 3) := by decide +kernel
theorem dX3_fine_141 : decode cX3_fine 141 = .ok (.iinc 4 1, 3) := by decide +kernel
theorem dX3_fine_144 : decode cX3_fine 144 = .ok (.goto (-90), 3) := by decide +kernel
theorem dX3_fine_147 : decode cX3_fine 147 = .ok (.aload_n 0, 1) := by decide +kernel
theorem dX3_fine_148 : decode cX3_fine 148 = .ok (.iload_n 1, 1) := by decide +kernel
theorem dX3_fine_149 : decode cX3_fine 149 = .ok (.invokevirtual 99, 3) := by decide +kernel
theorem dX3_fine_152 : decode cX3_fine 152 = .ok (.iload_n 3, 1) := by decide +kernel
theorem dX3_fine_153 : decode cX3_fine 153 = .ok (.ireturn, 1) := by decide +kernel
theorem dX3_made_0 : decode cX3_made 0 = .ok (.aload_n 0, 1) := by decide +kernel
theorem dX3_made_1 : decode cX3_made 1 = .ok (.aload_n 0, 1) := by decide +kernel
theorem dX3_made_2 : decode cX3_made 2 = .ok (.iload_n 1, 1) := by decide +kernel
theorem dX3_made_3 : decode cX3_made 3 = .ok (.iload_n 2, 1) := by decide +kernel
theorem dX3_made_4 : decode cX3_made 4 = .ok (.invokevirtual 51, 3) := by decide +kernel
theorem dX3_made_7 : decode cX3_made 7 = .ok (.ifCond .eq 7, 3) := by decide +kernel
theorem dX3_made_10 : decode cX3_made 10 = .ok (.iconst 0, 1) := by decide +kernel
theorem dX3_made_11 : decode cX3_made 11 = .ok (.goto 4, 3) := by decide +kernel
theorem dX3_made_14 : decode cX3_made 14 = .ok (.iconst 1, 1) := by decide +kernel
theorem dX3_made_15 : decode cX3_made 15 = .ok (.putfield 48, 3) := by decide +kernel
theorem dX3_made_18 : decode cX3_made 18 = .ok (.aload_n 0, 1) := by decide +kernel
theorem dX3_made_19 : decode cX3_made 19 = .ok (.getfield 48, 3) := by decide +kernel
theorem dX3_made_22 : decode cX3_made 22 = .ok (.ifCond .le 7, 3) := by decide +kernel
theorem dX3_made_25 : decode cX3_made 25 = .ok (.iconst 0, 1) := by decide +kernel
theorem dX3_made_26 : decode cX3_made 26 = .ok (.goto 14, 3) := by decide +kernel
theorem dX3_made_29 : decode cX3_made 29 = .ok (.aload_n 0, 1) := by decide +kernel
theorem dX3_made_30 : decode cX3_made 30 = .ok (.getfield 13, 3) := by decide +kernel
theorem dX3_made_33 : decode cX3_made 33 = .ok (.bipush 20, 2) := by decide +kernel
theorem dX3_made_35 : decode cX3_made 35 = .ok (.iload_n 2, 1) := by decide +kernel
theorem dX3_made_36 : decode cX3_made 36 = .ok (.imul, 1) := by decide +kernel
theorem dX3_made_37 : decode cX3_made 37 = .ok (.iload_n 1, 1) := by decide +kernel
theorem dX3_made_38 : decode cX3_made 38 = .ok (.iadd, 1) := by decide +kernel
theorem dX3_made_39 : decode cX3_made 39 = .ok (.iaload, 1) := by decide +kernel
theorem dX3_made_40 : decode cX3_made 40 = .ok (.ireturn, 1) := by decide +kernel
theorem dX3_leftAt_0 : decode cX3_leftAt 0 = .ok (.aload_n 0, 1) := by decide +kernel
theorem dX3_leftAt_1 : decode cX3_leftAt 1 = .ok (.getfield 13, 3) := by decide +kernel
theorem dX3_leftAt_4 : decode cX3_leftAt 4 = .ok (.iload_n 1, 1) := by decide +kernel
theorem dX3_leftAt_5 : decode cX3_leftAt 5 = .ok (.iaload, 1) := by decide +kernel
theorem dX3_leftAt_6 : decode cX3_leftAt 6 = .ok (.aload_n 0, 1) := by decide +kernel
theorem dX3_leftAt_7 : decode cX3_leftAt 7 = .ok (.getfield 7, 3) := by decide +kernel
theorem dX3_leftAt_10 : decode cX3_leftAt 10 = .ok (.iload_n 1, 1) := by decide +kernel
theorem dX3_leftAt_11 : decode cX3_leftAt 11 = .ok (.iaload, 1) := by decide +kernel
theorem dX3_leftAt_12 : decode cX3_leftAt 12 = .ok (.isub, 1) := by decide +kernel
theorem dX3_leftAt_13 : decode cX3_leftAt 13 = .ok (.ireturn, 1) := by decide +kernel
theorem dX3_below_0 : decode cX3_below 0 = .ok (.aload_n 0, 1) := by decide +kernel
theorem dX3_below_1 : decode cX3_below 1 = .ok (.iconst 0, 1) := by decide +kernel
theorem dX3_below_2 : decode cX3_below 2 = .ok (.putfield 48, 3) := by decide +kernel
theorem dX3_below_5 : decode cX3_below 5 = .ok (.iconst 0, 1) := by decide +kernel
theorem dX3_below_6 : decode cX3_below 6 = .ok (.istore_n 1, 1) := by decide +kernel
theorem dX3_below_7 : decode cX3_below 7 = .ok (.iconst 0, 1) := by decide +kernel
theorem dX3_below_8 : decode cX3_below 8 = .ok (.istore_n 2, 1) := by decide +kernel
theorem dX3_below_9 : decode cX3_below 9 = .ok (.iload_n 2, 1) := by decide +kernel
theorem dX3_below_10 : decode cX3_below 10 = .ok (.aload_n 0, 1) := by decide +kernel
theorem dX3_below_11 : decode cX3_below 11 = .ok (.getfield 45, 3) := by decide +kernel
theorem dX3_below_14 : decode cX3_below 14 = .ok (.if_icmp .ge 48, 3) := by decide +kernel
theorem dX3_below_17 : decode cX3_below 17 = .ok (.iconst 0, 1) := by decide +kernel
theorem dX3_below_18 : decode cX3_below 18 = .ok (.istore_n 3, 1) := by decide +kernel
theorem dX3_below_19 : decode cX3_below 19 = .ok (.iload_n 3, 1) := by decide +kernel
theorem dX3_below_20 : decode cX3_below 20 = .ok (.aload_n 0, 1) := by decide +kernel
theorem dX3_below_21 : decode cX3_below 21 = .ok (.getfield 42, 3) := by decide +kernel
theorem dX3_below_24 : decode cX3_below 24 = .ok (.if_icmp .ge 32, 3) := by decide +kernel
theorem dX3_below_27 : decode cX3_below 27 = .ok (.iload_n 1, 1) := by decide +kernel
theorem dX3_below_28 : decode cX3_below 28 = .ok (.ifCond .ne 16, 3) := by decide +kernel
theorem dX3_below_31 : decode cX3_below 31 = .ok (.aload_n 0, 1) := by decide +kernel
theorem dX3_below_32 : decode cX3_below 32 = .ok (.bipush 20, 2) := by decide +kernel
theorem dX3_below_34 : decode cX3_below 34 = .ok (.iload_n 2, 1) := by decide +kernel
theorem dX3_below_35 : decode cX3_below 35 = .ok (.imul, 1) := by decide +kernel
theorem dX3_below_36 : decode cX3_below 36 = .ok (.iload_n 3, 1) := by decide +kernel
theorem dX3_below_37 : decode cX3_below 37 = .ok (.iadd, 1) := by decide +kernel
theorem dX3_below_38 : decode cX3_below 38 = .ok (.invokevirtual 103, 3) := by decide +kernel
theorem dX3_below_41 : decode cX3_below 41 = .ok (.ifCond .ge 7, 3) := by decide +kernel
theorem dX3_below_44 : decode cX3_below 44 = .ok (.iconst 1, 1) := by decide +kernel
theorem dX3_below_45 : decode cX3_below 45 = .ok (.goto 4, 3) := by decide +kernel
theorem dX3_below_48 : decode cX3_below 48 = .ok (.iconst 0, 1) := by decide +kernel
theorem dX3_below_49 : decode cX3_below 49 = .ok (.istore_n 1, 1) := by decide +kernel
theorem dX3_below_50 : decode cX3_below 50 = .ok (.iinc 3 1, 3) := by decide +kernel
theorem dX3_below_53 : decode cX3_below 53 = .ok (.goto (-34), 3) := by decide +kernel
theorem dX3_below_56 : decode cX3_below 56 = .ok (.iinc 2 1, 3) := by decide +kernel
theorem dX3_below_59 : decode cX3_below 59 = .ok (.goto (-50), 3) := by decide +kernel
theorem dX3_below_62 : decode cX3_below 62 = .ok (.iload_n 1, 1) := by decide +kernel
theorem dX3_below_63 : decode cX3_below 63 = .ok (.ireturn, 1) := by decide +kernel
theorem dX3_rest_0 : decode cX3_rest 0 = .ok (.aload_n 0, 1) := by decide +kernel
theorem dX3_rest_1 : decode cX3_rest 1 = .ok (.iload_n 1, 1) := by decide +kernel
theorem dX3_rest_2 : decode cX3_rest 2 = .ok (.iconst 0, 1) := by decide +kernel
theorem dX3_rest_3 : decode cX3_rest 3 = .ok (.sipush 1000, 3) := by decide +kernel
theorem dX3_rest_6 : decode cX3_rest 6 = .ok (.invokestatic 55, 3) := by decide +kernel
theorem dX3_rest_9 : decode cX3_rest 9 = .ok (.ifCond .eq 12, 3) := by decide +kernel
theorem dX3_rest_12 : decode cX3_rest 12 = .ok (.iload_n 2, 1) := by decide +kernel
theorem dX3_rest_13 : decode cX3_rest 13 = .ok (.iconst (-1), 1) := by decide +kernel
theorem dX3_rest_14 : decode cX3_rest 14 = .ok (.if_icmp .lt 7, 3) := by decide +kernel
theorem dX3_rest_17 : decode cX3_rest 17 = .ok (.iconst 0, 1) := by decide +kernel
theorem dX3_rest_18 : decode cX3_rest 18 = .ok (.goto 4, 3) := by decide +kernel
theorem dX3_rest_21 : decode cX3_rest 21 = .ok (.iconst 1, 1) := by decide +kernel
theorem dX3_rest_22 : decode cX3_rest 22 = .ok (.putfield 48, 3) := by decide +kernel
theorem dX3_rest_25 : decode cX3_rest 25 = .ok (.aload_n 0, 1) := by decide +kernel
theorem dX3_rest_26 : decode cX3_rest 26 = .ok (.getfield 48, 3) := by decide +kernel
theorem dX3_rest_29 : decode cX3_rest 29 = .ok (.ifCond .le 5, 3) := by decide +kernel
theorem dX3_rest_32 : decode cX3_rest 32 = .ok (.iconst 0, 1) := by decide +kernel
theorem dX3_rest_33 : decode cX3_rest 33 = .ok (.ireturn, 1) := by decide +kernel
theorem dX3_rest_34 : decode cX3_rest 34 = .ok (.iconst 0, 1) := by decide +kernel
theorem dX3_rest_35 : decode cX3_rest 35 = .ok (.istore_n 3, 1) := by decide +kernel
theorem dX3_rest_36 : decode cX3_rest 36 = .ok (.iconst 0, 1) := by decide +kernel
theorem dX3_rest_37 : decode cX3_rest 37 = .ok (.istore 4, 2) := by decide +kernel
theorem dX3_rest_39 : decode cX3_rest 39 = .ok (.iload 4, 2) := by decide +kernel
theorem dX3_rest_41 : decode cX3_rest 41 = .ok (.aload_n 0, 1) := by decide +kernel
theorem dX3_rest_42 : decode cX3_rest 42 = .ok (.getfield 45, 3) := by decide +kernel
theorem dX3_rest_45 : decode cX3_rest 45 = .ok (.if_icmp .ge 60, 3) := by decide +kernel
theorem dX3_rest_48 : decode cX3_rest 48 = .ok (.iconst 0, 1) := by decide +kernel
theorem dX3_rest_49 : decode cX3_rest 49 = .ok (.istore 5, 2) := by decide +kernel
theorem dX3_rest_51 : decode cX3_rest 51 = .ok (.iload 5, 2) := by decide +kernel
theorem dX3_rest_53 : decode cX3_rest 53 = .ok (.aload_n 0, 1) := by decide +kernel
theorem dX3_rest_54 : decode cX3_rest 54 = .ok (.getfield 42, 3) := by decide +kernel
theorem dX3_rest_57 : decode cX3_rest 57 = .ok (.if_icmp .ge 42, 3) := by decide +kernel
theorem dX3_rest_60 : decode cX3_rest 60 = .ok (.aload_n 0, 1) := by decide +kernel
theorem dX3_rest_61 : decode cX3_rest 61 = .ok (.bipush 20, 2) := by decide +kernel
theorem dX3_rest_63 : decode cX3_rest 63 = .ok (.iload 4, 2) := by decide +kernel
theorem dX3_rest_65 : decode cX3_rest 65 = .ok (.imul, 1) := by decide +kernel
theorem dX3_rest_66 : decode cX3_rest 66 = .ok (.iload 5, 2) := by decide +kernel
theorem dX3_rest_68 : decode cX3_rest 68 = .ok (.iadd, 1) := by decide +kernel
theorem dX3_rest_69 : decode cX3_rest 69 = .ok (.invokevirtual 103, 3) := by decide +kernel
theorem dX3_rest_72 : decode cX3_rest 72 = .ok (.iload_n 1, 1) := by decide +kernel
theorem dX3_rest_73 : decode cX3_rest 73 = .ok (.if_icmp .le 20, 3) := by decide +kernel
theorem dX3_rest_76 : decode cX3_rest 76 = .ok (.iload_n 3, 1) := by decide +kernel
theorem dX3_rest_77 : decode cX3_rest 77 = .ok (.iload_n 2, 1) := by decide +kernel
theorem dX3_rest_78 : decode cX3_rest 78 = .ok (.if_icmp .ne 12, 3) := by decide +kernel
theorem dX3_rest_81 : decode cX3_rest 81 = .ok (.bipush 20, 2) := by decide +kernel
theorem dX3_rest_83 : decode cX3_rest 83 = .ok (.iload 4, 2) := by decide +kernel
theorem dX3_rest_85 : decode cX3_rest 85 = .ok (.imul, 1) := by decide +kernel
theorem dX3_rest_86 : decode cX3_rest 86 = .ok (.iload 5, 2) := by decide +kernel
theorem dX3_rest_88 : decode cX3_rest 88 = .ok (.iadd, 1) := by decide +kernel
theorem dX3_rest_89 : decode cX3_rest 89 = .ok (.ireturn, 1) := by decide +kernel
theorem dX3_rest_90 : decode cX3_rest 90 = .ok (.iinc 3 1, 3) := by decide +kernel
theorem dX3_rest_93 : decode cX3_rest 93 = .ok (.iinc 5 1, 3) := by decide +kernel
theorem dX3_rest_96 : decode cX3_rest 96 = .ok (.goto (-45), 3) := by decide +kernel
theorem dX3_rest_99 : decode cX3_rest 99 = .ok (.iinc 4 1, 3) := by decide +kernel
theorem dX3_rest_102 : decode cX3_rest 102 = .ok (.goto (-63), 3) := by decide +kernel
theorem dX3_rest_105 : decode cX3_rest 105 = .ok (.iload_n 2, 1) := by decide +kernel
theorem dX3_rest_106 : decode cX3_rest 106 = .ok (.iconst (-1), 1) := by decide +kernel
theorem dX3_rest_107 : decode cX3_rest 107 = .ok (.if_icmp .ne 7, 3) := by decide +kernel
theorem dX3_rest_110 : decode cX3_rest 110 = .ok (.iload_n 3, 1) := by decide +kernel
theorem dX3_rest_111 : decode cX3_rest 111 = .ok (.goto 4, 3) := by decide +kernel
theorem dX3_rest_114 : decode cX3_rest 114 = .ok (.iconst (-1), 1) := by decide +kernel
theorem dX3_rest_115 : decode cX3_rest 115 = .ok (.ireturn, 1) := by decide +kernel
theorem dX3_sum_0 : decode cX3_sum 0 = .ok (.aload_n 0, 1) := by decide +kernel
theorem dX3_sum_1 : decode cX3_sum 1 = .ok (.iconst 0, 1) := by decide +kernel
theorem dX3_sum_2 : decode cX3_sum 2 = .ok (.putfield 48, 3) := by decide +kernel
theorem dX3_sum_5 : decode cX3_sum 5 = .ok (.lconst 0, 1) := by decide +kernel
theorem dX3_sum_6 : decode cX3_sum 6 = .ok (.lstore_n 1, 1) := by decide +kernel
theorem dX3_sum_7 : decode cX3_sum 7 = .ok (.iconst 0, 1) := by decide +kernel
theorem dX3_sum_8 : decode cX3_sum 8 = .ok (.istore_n 3, 1) := by decide +kernel
theorem dX3_sum_9 : decode cX3_sum 9 = .ok (.iload_n 3, 1) := by decide +kernel
theorem dX3_sum_10 : decode cX3_sum 10 = .ok (.aload_n 0, 1) := by decide +kernel
theorem dX3_sum_11 : decode cX3_sum 11 = .ok (.getfield 45, 3) := by decide +kernel
theorem dX3_sum_14 : decode cX3_sum 14 = .ok (.if_icmp .ge 55, 3) := by decide +kernel
theorem dX3_sum_17 : decode cX3_sum 17 = .ok (.iconst 0, 1) := by decide +kernel
theorem dX3_sum_18 : decode cX3_sum 18 = .ok (.istore 4, 2) := by decide +kernel
theorem dX3_sum_20 : decode cX3_sum 20 = .ok (.iload 4, 2) := by decide +kernel
theorem dX3_sum_22 : decode cX3_sum 22 = .ok (.aload_n 0, 1) := by decide +kernel
theorem dX3_sum_23 : decode cX3_sum 23 = .ok (.getfield 42, 3) := by decide +kernel
theorem dX3_sum_26 : decode cX3_sum 26 = .ok (.if_icmp .ge 37, 3) := by decide +kernel
theorem dX3_sum_29 : decode cX3_sum 29 = .ok (.aload_n 0, 1) := by decide +kernel
theorem dX3_sum_30 : decode cX3_sum 30 = .ok (.bipush 20, 2) := by decide +kernel
theorem dX3_sum_32 : decode cX3_sum 32 = .ok (.iload_n 3, 1) := by decide +kernel
theorem dX3_sum_33 : decode cX3_sum 33 = .ok (.imul, 1) := by decide +kernel
theorem dX3_sum_34 : decode cX3_sum 34 = .ok (.iload 4, 2) := by decide +kernel
theorem dX3_sum_36 : decode cX3_sum 36 = .ok (.iadd, 1) := by decide +kernel
theorem dX3_sum_37 : decode cX3_sum 37 = .ok (.invokevirtual 103, 3) := by decide +kernel
theorem dX3_sum_40 : decode cX3_sum 40 = .ok (.istore 5, 2) := by decide +kernel
theorem dX3_sum_42 : decode cX3_sum 42 = .ok (.lload_n 1, 1) := by decide +kernel
theorem dX3_sum_43 : decode cX3_sum 43 = .ok (.iload 5, 2) := by decide +kernel
theorem dX3_sum_45 : decode cX3_sum 45 = .ok (.ifCond .le 9, 3) := by decide +kernel
theorem dX3_sum_48 : decode cX3_sum 48 = .ok (.iload 5, 2) := by decide +kernel
theorem dX3_sum_50 : decode cX3_sum 50 = .ok (.i2l, 1) := by decide +kernel
theorem dX3_sum_51 : decode cX3_sum 51 = .ok (.goto 4, 3) := by decide +kernel
theorem dX3_sum_54 : decode cX3_sum 54 = .ok (.lconst 0, 1) := by decide +kernel
theorem dX3_sum_55 : decode cX3_sum 55 = .ok (.ladd, 1) := by decide +kernel
theorem dX3_sum_56 : decode cX3_sum 56 = .ok (.lstore_n 1, 1) := by decide +kernel
theorem dX3_sum_57 : decode cX3_sum 57 = .ok (.iinc 4 1, 3) := by decide +kernel
theorem dX3_sum_60 : decode cX3_sum 60 = .ok (.goto (-40), 3) := by decide +kernel
theorem dX3_sum_63 : decode cX3_sum 63 = .ok (.iinc 3 1, 3) := by decide +kernel
theorem dX3_sum_66 : decode cX3_sum 66 = .ok (.goto (-57), 3) := by decide +kernel
theorem dX3_sum_69 : decode cX3_sum 69 = .ok (.lload_n 1, 1) := by decide +kernel
theorem dX3_sum_70 : decode cX3_sum 70 = .ok (.lreturn, 1) := by decide +kernel
theorem dX3_moves_0 : decode cX3_moves 0 = .ok (.aload_n 0, 1) := by decide +kernel
theorem dX3_moves_1 : decode cX3_moves 1 = .ok (.iconst 0, 1) := by decide +kernel
theorem dX3_moves_2 : decode cX3_moves 2 = .ok (.putfield 48, 3) := by decide +kernel
theorem dX3_moves_5 : decode cX3_moves 5 = .ok (.aload_n 0, 1) := by decide +kernel
theorem dX3_moves_6 : decode cX3_moves 6 = .ok (.getfield 70, 3) := by decide +kernel
theorem dX3_moves_9 : decode cX3_moves 9 = .ok (.ireturn, 1) := by decide +kernel
theorem dX3_move_0 : decode cX3_move 0 = .ok (.aload_n 0, 1) := by decide +kernel
theorem dX3_move_1 : decode cX3_move 1 = .ok (.iload_n 1, 1) := by decide +kernel
theorem dX3_move_2 : decode cX3_move 2 = .ok (.ifCond .lt 18, 3) := by decide +kernel
theorem dX3_move_5 : decode cX3_move 5 = .ok (.iload_n 1, 1) := by decide +kernel
theorem dX3_move_6 : decode cX3_move 6 = .ok (.aload_n 0, 1) := by decide +kernel
theorem dX3_move_7 : decode cX3_move 7 = .ok (.getfield 70, 3) := by decide +kernel
theorem dX3_move_10 : decode cX3_move 10 = .ok (.if_icmp .ge 10, 3) := by decide +kernel
theorem dX3_move_13 : decode cX3_move 13 = .ok (.iload_n 1, 1) := by decide +kernel
theorem dX3_move_14 : decode cX3_move 14 = .ok (.sipush 2000, 3) := by decide +kernel
theorem dX3_move_17 : decode cX3_move 17 = .ok (.if_icmp .lt 7, 3) := by decide +kernel
theorem dX3_move_20 : decode cX3_move 20 = .ok (.iconst 1, 1) := by decide +kernel
theorem dX3_move_21 : decode cX3_move 21 = .ok (.goto 17, 3) := by decide +kernel
theorem dX3_move_24 : decode cX3_move 24 = .ok (.iload_n 2, 1) := by decide +kernel
theorem dX3_move_25 : decode cX3_move 25 = .ok (.iconst 0, 1) := by decide +kernel
theorem dX3_move_26 : decode cX3_move 26 = .ok (.iconst 2, 1) := by decide +kernel
theorem dX3_move_27 : decode cX3_move 27 = .ok (.invokestatic 55, 3) := by decide +kernel
theorem dX3_move_30 : decode cX3_move 30 = .ok (.ifCond .eq 7, 3) := by decide +kernel
theorem dX3_move_33 : decode cX3_move 33 = .ok (.iconst 0, 1) := by decide +kernel
theorem dX3_move_34 : decode cX3_move 34 = .ok (.goto 4, 3) := by decide +kernel
theorem dX3_move_37 : decode cX3_move 37 = .ok (.iconst 2, 1) := by decide +kernel
theorem dX3_move_38 : decode cX3_move 38 = .ok (.putfield 48, 3) := by decide +kernel
theorem dX3_move_41 : decode cX3_move 41 = .ok (.aload_n 0, 1) := by decide +kernel
theorem dX3_move_42 : decode cX3_move 42 = .ok (.getfield 48, 3) := by decide +kernel
theorem dX3_move_45 : decode cX3_move 45 = .ok (.ifCond .le 7, 3) := by decide +kernel
theorem dX3_move_48 : decode cX3_move 48 = .ok (.iconst 0, 1) := by decide +kernel
theorem dX3_move_49 : decode cX3_move 49 = .ok (.goto 13, 3) := by decide +kernel
theorem dX3_move_52 : decode cX3_move 52 = .ok (.aload_n 0, 1) := by decide +kernel
theorem dX3_move_53 : decode cX3_move 53 = .ok (.getfield 35, 3) := by decide +kernel
theorem dX3_move_56 : decode cX3_move 56 = .ok (.iconst 3, 1) := by decide +kernel
theorem dX3_move_57 : decode cX3_move 57 = .ok (.iload_n 1, 1) := by decide +kernel
theorem dX3_move_58 : decode cX3_move 58 = .ok (.imul, 1) := by decide +kernel
theorem dX3_move_59 : decode cX3_move 59 = .ok (.iload_n 2, 1) := by decide +kernel
theorem dX3_move_60 : decode cX3_move 60 = .ok (.iadd, 1) := by decide +kernel
theorem dX3_move_61 : decode cX3_move 61 = .ok (.iaload, 1) := by decide +kernel
theorem dX3_move_62 : decode cX3_move 62 = .ok (.ireturn, 1) := by decide +kernel
theorem dX3_way_0 : decode cX3_way 0 = .ok (.aload_n 0, 1) := by decide +kernel
theorem dX3_way_1 : decode cX3_way 1 = .ok (.iconst 0, 1) := by decide +kernel
theorem dX3_way_2 : decode cX3_way 2 = .ok (.putfield 48, 3) := by decide +kernel
theorem dX3_way_5 : decode cX3_way 5 = .ok (.aload_n 0, 1) := by decide +kernel
theorem dX3_way_6 : decode cX3_way 6 = .ok (.getfield 73, 3) := by decide +kernel
theorem dX3_way_9 : decode cX3_way 9 = .ok (.lreturn, 1) := by decide +kernel
theorem dX3_repeat_0 : decode cX3_repeat 0 = .ok (.aload_n 0, 1) := by decide +kernel
theorem dX3_repeat_1 : decode cX3_repeat 1 = .ok (.iload_n 1, 1) := by decide +kernel
theorem dX3_repeat_2 : decode cX3_repeat 2 = .ok (.iconst 1, 1) := by decide +kernel
theorem dX3_repeat_3 : decode cX3_repeat 3 = .ok (.bipush 20, 2) := by decide +kernel
theorem dX3_repeat_5 : decode cX3_repeat 5 = .ok (.invokestatic 55, 3) := by decide +kernel
theorem dX3_repeat_8 : decode cX3_repeat 8 = .ok (.ifCond .eq 17, 3) := by decide +kernel
theorem dX3_repeat_11 : decode cX3_repeat 11 = .ok (.iload_n 2, 1) := by decide +kernel
theorem dX3_repeat_12 : decode cX3_repeat 12 = .ok (.iconst 1, 1) := by decide +kernel
theorem dX3_repeat_13 : decode cX3_repeat 13 = .ok (.bipush 20, 2) := by decide +kernel
theorem dX3_repeat_15 : decode cX3_repeat 15 = .ok (.invokestatic 55, 3) := by decide +kernel
theorem dX3_repeat_18 : decode cX3_repeat 18 = .ok (.ifCond .eq 7, 3) := by decide +kernel
theorem dX3_repeat_21 : decode cX3_repeat 21 = .ok (.iconst 0, 1) := by decide +kernel
theorem dX3_repeat_22 : decode cX3_repeat 22 = .ok (.goto 4, 3) := by decide +kernel
theorem dX3_repeat_25 : decode cX3_repeat 25 = .ok (.iconst 1, 1) := by decide +kernel
theorem dX3_repeat_26 : decode cX3_repeat 26 = .ok (.putfield 48, 3) := by decide +kernel
theorem dX3_repeat_29 : decode cX3_repeat 29 = .ok (.iconst 0, 1) := by decide +kernel
theorem dX3_repeat_30 : decode cX3_repeat 30 = .ok (.istore_n 3, 1) := by decide +kernel
theorem dX3_repeat_31 : decode cX3_repeat 31 = .ok (.aload_n 0, 1) := by decide +kernel
theorem dX3_repeat_32 : decode cX3_repeat 32 = .ok (.getfield 45, 3) := by decide +kernel
theorem dX3_repeat_35 : decode cX3_repeat 35 = .ok (.iconst 1, 1) := by decide +kernel
theorem dX3_repeat_36 : decode cX3_repeat 36 = .ok (.isub, 1) := by decide +kernel
theorem dX3_repeat_37 : decode cX3_repeat 37 = .ok (.istore 4, 2) := by decide +kernel
theorem dX3_repeat_39 : decode cX3_repeat 39 = .ok (.iload 4, 2) := by decide +kernel
theorem dX3_repeat_41 : decode cX3_repeat 41 = .ok (.ifCond .lt 95, 3) := by decide +kernel
theorem dX3_repeat_44 : decode cX3_repeat 44 = .ok (.aload_n 0, 1) := by decide +kernel
theorem dX3_repeat_45 : decode cX3_repeat 45 = .ok (.getfield 48, 3) := by decide +kernel
theorem dX3_repeat_48 : decode cX3_repeat 48 = .ok (.ifCond .ne 88, 3) := by decide +kernel
theorem dX3_repeat_51 : decode cX3_repeat 51 = .ok (.aload_n 0, 1) := by decide +kernel
theorem dX3_repeat_52 : decode cX3_repeat 52 = .ok (.getfield 42, 3) := by decide +kernel
theorem dX3_repeat_55 : decode cX3_repeat 55 = .ok (.iconst 1, 1) := by decide +kernel
theorem dX3_repeat_56 : decode cX3_repeat 56 = .ok (.isub, 1) := by decide +kernel
theorem dX3_repeat_57 : decode cX3_repeat 57 = .ok (.istore 5, 2) := by decide +kernel
theorem dX3_repeat_59 : decode cX3_repeat 59 = .ok (.iload 5, 2) := by decide +kernel
theorem dX3_repeat_61 : decode cX3_repeat 61 = .ok (.ifCond .lt 69, 3) := by decide +kernel
theorem dX3_repeat_64 : decode cX3_repeat 64 = .ok (.aload_n 0, 1) := by decide +kernel
theorem dX3_repeat_65 : decode cX3_repeat 65 = .ok (.getfield 7, 3) := by decide +kernel
theorem dX3_repeat_68 : decode cX3_repeat 68 = .ok (.bipush 20, 2) := by decide +kernel
theorem dX3_repeat_70 : decode cX3_repeat 70 = .ok (.iload 4, 2) := by decide +kernel
theorem dX3_repeat_72 : decode cX3_repeat 72 = .ok (.iload_n 2, 1) := by decide +kernel
theorem dX3_repeat_73 : decode cX3_repeat 73 = .ok (.irem, 1) := by decide +kernel
theorem dX3_repeat_74 : decode cX3_repeat 74 = .ok (.imul, 1) := by decide +kernel
theorem dX3_repeat_75 : decode cX3_repeat 75 = .ok (.iload 5, 2) := by decide +kernel
theorem dX3_repeat_77 : decode cX3_repeat 77 = .ok (.iload_n 1, 1) := by decide +kernel
theorem dX3_repeat_78 : decode cX3_repeat 78 = .ok (.irem, 1) := by decide +kernel
theorem dX3_repeat_79 : decode cX3_repeat 79 = .ok (.iadd, 1) := by decide +kernel
theorem dX3_repeat_80 : decode cX3_repeat 80 = .ok (.iaload, 1) := by decide +kernel
theorem dX3_repeat_81 : decode cX3_repeat 81 = .ok (.istore 6, 2) := by decide +kernel
theorem dX3_repeat_83 : decode cX3_repeat 83 = .ok (.aload_n 0, 1) := by decide +kernel
theorem dX3_repeat_84 : decode cX3_repeat 84 = .ok (.getfield 7, 3) := by decide +kernel
theorem dX3_repeat_87 : decode cX3_repeat 87 = .ok (.bipush 20, 2) := by decide +kernel
theorem dX3_repeat_89 : decode cX3_repeat 89 = .ok (.iload 4, 2) := by decide +kernel
theorem dX3_repeat_91 : decode cX3_repeat 91 = .ok (.imul, 1) := by decide +kernel
theorem dX3_repeat_92 : decode cX3_repeat 92 = .ok (.iload 5, 2) := by decide +kernel
theorem dX3_repeat_94 : decode cX3_repeat 94 = .ok (.iadd, 1) := by decide +kernel
theorem dX3_repeat_95 : decode cX3_repeat 95 = .ok (.iaload, 1) := by decide +kernel
theorem dX3_repeat_96 : decode cX3_repeat 96 = .ok (.iload 6, 2) := by decide +kernel
theorem dX3_repeat_98 : decode cX3_repeat 98 = .ok (.if_icmp .eq 9, 3) := by decide +kernel
theorem dX3_repeat_101 : decode cX3_repeat 101 = .ok (.iload_n 3, 1) := by decide +kernel
theorem dX3_repeat_102 : decode cX3_repeat 102 = .ok (.iconst 1, 1) := by decide +kernel
theorem dX3_repeat_103 : decode cX3_repeat 103 = .ok (.iadd, 1) := by decide +kernel
theorem dX3_repeat_104 : decode cX3_repeat 104 = .ok (.goto 4, 3) := by decide +kernel
theorem dX3_repeat_107 : decode cX3_repeat 107 = .ok (.iload_n 3, 1) := by decide +kernel
theorem dX3_repeat_108 : decode cX3_repeat 108 = .ok (.istore_n 3, 1) := by decide +kernel
theorem dX3_repeat_109 : decode cX3_repeat 109 = .ok (.aload_n 0, 1) := by decide +kernel
theorem dX3_repeat_110 : decode cX3_repeat 110 = .ok (.getfield 7, 3) := by decide +kernel
theorem dX3_repeat_113 : decode cX3_repeat 113 = .ok (.bipush 20, 2) := by decide +kernel
theorem dX3_repeat_115 : decode cX3_repeat 115 = .ok (.iload 4, 2) := by decide +kernel
theorem dX3_repeat_117 : decode cX3_repeat 117 = .ok (.imul, 1) := by decide +kernel
theorem dX3_repeat_118 : decode cX3_repeat 118 = .ok (.iload 5, 2) := by decide +kernel
theorem dX3_repeat_120 : decode cX3_repeat 120 = .ok (.iadd, 1) := by decide +kernel
theorem dX3_repeat_121 : decode cX3_repeat 121 = .ok (.iload 6, 2) := by decide +kernel
theorem dX3_repeat_123 : decode cX3_repeat 123 = .ok (.iastore, 1) := by decide +kernel
theorem dX3_repeat_124 : decode cX3_repeat 124 = .ok (.iinc 5 (-1), 3) := by decide +kernel
theorem dX3_repeat_127 : decode cX3_repeat 127 = .ok (.goto (-68), 3) := by decide +kernel
theorem dX3_repeat_130 : decode cX3_repeat 130 = .ok (.iinc 4 (-1), 3) := by decide +kernel
theorem dX3_repeat_133 : decode cX3_repeat 133 = .ok (.goto (-94), 3) := by decide +kernel
theorem dX3_repeat_136 : decode cX3_repeat 136 = .ok (.iload_n 3, 1) := by decide +kernel
theorem dX3_repeat_137 : decode cX3_repeat 137 = .ok (.ireturn, 1) := by decide +kernel
theorem dX3_merge_0 : decode cX3_merge 0 = .ok (.aload_n 0, 1) := by decide +kernel
theorem dX3_merge_1 : decode cX3_merge 1 = .ok (.iload_n 1, 1) := by decide +kernel
theorem dX3_merge_2 : decode cX3_merge 2 = .ok (.iconst 0, 1) := by decide +kernel
theorem dX3_merge_3 : decode cX3_merge 3 = .ok (.iconst 3, 1) := by decide +kernel
theorem dX3_merge_4 : decode cX3_merge 4 = .ok (.invokestatic 55, 3) := by decide +kernel
theorem dX3_merge_7 : decode cX3_merge 7 = .ok (.ifCond .eq 14, 3) := by decide +kernel
theorem dX3_merge_10 : decode cX3_merge 10 = .ok (.iload_n 2, 1) := by decide +kernel
theorem dX3_merge_11 : decode cX3_merge 11 = .ok (.iconst 0, 1) := by decide +kernel
theorem dX3_merge_12 : decode cX3_merge 12 = .ok (.sipush 1000, 3) := by decide +kernel
theorem dX3_merge_15 : decode cX3_merge 15 = .ok (.invokestatic 55, 3) := by decide +kernel
theorem dX3_merge_18 : decode cX3_merge 18 = .ok (.ifCond .ne 7, 3) := by decide +kernel
theorem dX3_merge_21 : decode cX3_merge 21 = .ok (.iconst 1, 1) := by decide +kernel
theorem dX3_merge_22 : decode cX3_merge 22 = .ok (.goto 19, 3) := by decide +kernel
theorem dX3_merge_25 : decode cX3_merge 25 = .ok (.iload_n 1, 1) := by decide +kernel
theorem dX3_merge_26 : decode cX3_merge 26 = .ok (.ifCond .le 14, 3) := by decide +kernel
theorem dX3_merge_29 : decode cX3_merge 29 = .ok (.aload_n 0, 1) := by decide +kernel
theorem dX3_merge_30 : decode cX3_merge 30 = .ok (.getfield 106, 3) := by decide +kernel
theorem dX3_merge_33 : decode cX3_merge 33 = .ok (.ifCond .ne 7, 3) := by decide +kernel
theorem dX3_merge_36 : decode cX3_merge 36 = .ok (.iconst 2, 1) := by decide +kernel
theorem dX3_merge_37 : decode cX3_merge 37 = .ok (.goto 4, 3) := by decide +kernel
theorem dX3_merge_40 : decode cX3_merge 40 = .ok (.iconst 0, 1) := by decide +kernel
theorem dX3_merge_41 : decode cX3_merge 41 = .ok (.putfield 48, 3) := by decide +kernel
theorem dX3_merge_44 : decode cX3_merge 44 = .ok (.iconst 0, 1) := by decide +kernel
theorem dX3_merge_45 : decode cX3_merge 45 = .ok (.istore_n 3, 1) := by decide +kernel
theorem dX3_merge_46 : decode cX3_merge 46 = .ok (.iconst 0, 1) := by decide +kernel
theorem dX3_merge_47 : decode cX3_merge 47 = .ok (.istore 4, 2) := by decide +kernel
theorem dX3_merge_49 : decode cX3_merge 49 = .ok (.iload 4, 2) := by decide +kernel
theorem dX3_merge_51 : decode cX3_merge 51 = .ok (.sipush 400, 3) := by decide +kernel
theorem dX3_merge_54 : decode cX3_merge 54 = .ok (.if_icmp .ge 206, 3) := by decide +kernel
theorem dX3_merge_57 : decode cX3_merge 57 = .ok (.aload_n 0, 1) := by decide +kernel
theorem dX3_merge_58 : decode cX3_merge 58 = .ok (.getfield 48, 3) := by decide +kernel
theorem dX3_merge_61 : decode cX3_merge 61 = .ok (.ifCond .ne 199, 3) := by decide +kernel
theorem dX3_merge_64 : decode cX3_merge 64 = .ok (.iload_n 1, 1) := by decide +kernel
theorem dX3_merge_65 : decode cX3_merge 65 = .ok (.ifCond .ne 17, 3) := by decide +kernel
theorem dX3_merge_68 : decode cX3_merge 68 = .ok (.aload_n 0, 1) := by decide +kernel
theorem dX3_merge_69 : decode cX3_merge 69 = .ok (.getfield 16, 3) := by decide +kernel
theorem dX3_merge_72 : decode cX3_merge 72 = .ok (.iload 4, 2) := by decide +kernel
theorem dX3_merge_74 : decode cX3_merge 74 = .ok (.aload_n 0, 1) := by decide +kernel
theorem dX3_merge_75 : decode cX3_merge 75 = .ok (.getfield 7, 3) := by decide +kernel
theorem dX3_merge_78 : decode cX3_merge 78 = .ok (.iload 4, 2) := by decide +kernel
theorem dX3_merge_80 : decode cX3_merge 80 = .ok (.iaload, 1) := by decide +kernel
theorem dX3_merge_81 : decode cX3_merge 81 = .ok (.iastore, 1) := by decide +kernel
theorem dX3_merge_82 : decode cX3_merge 82 = .ok (.iload 4, 2) := by decide +kernel
theorem dX3_merge_84 : decode cX3_merge 84 = .ok (.bipush 20, 2) := by decide +kernel
theorem dX3_merge_86 : decode cX3_merge 86 = .ok (.irem, 1) := by decide +kernel
theorem dX3_merge_87 : decode cX3_merge 87 = .ok (.aload_n 0, 1) := by decide +kernel
theorem dX3_merge_88 : decode cX3_merge 88 = .ok (.getfield 42, 3) := by decide +kernel
theorem dX3_merge_91 : decode cX3_merge 91 = .ok (.if_icmp .ge 163, 3) := by decide +kernel
theorem dX3_merge_94 : decode cX3_merge 94 = .ok (.iload 4, 2) := by decide +kernel
theorem dX3_merge_96 : decode cX3_merge 96 = .ok (.bipush 20, 2) := by decide +kernel
theorem dX3_merge_98 : decode cX3_merge 98 = .ok (.idiv, 1) := by decide +kernel
theorem dX3_merge_99 : decode cX3_merge 99 = .ok (.aload_n 0, 1) := by decide +kernel
theorem dX3_merge_100 : decode cX3_merge 100 = .ok (.getfield 45, 3) := by decide +kernel
theorem dX3_merge_103 : decode cX3_merge 103 = .ok (.if_icmp .ge 151, 3) := by decide +kernel
theorem dX3_merge_106 : decode cX3_merge 106 = .ok (.aload_n 0, 1) := by decide +kernel
theorem dX3_merge_107 : decode cX3_merge 107 = .ok (.getfield 7, 3) := by decide +kernel
theorem dX3_merge_110 : decode cX3_merge 110 = .ok (.iload 4, 2) := by decide +kernel
theorem dX3_merge_112 : decode cX3_merge 112 = .ok (.iaload, 1) := by decide +kernel
theorem dX3_merge_113 : decode cX3_merge 113 = .ok (.istore 5, 2) := by decide +kernel
theorem dX3_merge_115 : decode cX3_merge 115 = .ok (.iload 5, 2) := by decide +kernel
theorem dX3_merge_117 : decode cX3_merge 117 = .ok (.aload_n 0, 1) := by decide +kernel
theorem dX3_merge_118 : decode cX3_merge 118 = .ok (.getfield 16, 3) := by decide +kernel
theorem dX3_merge_121 : decode cX3_merge 121 = .ok (.iload 4, 2) := by decide +kernel
theorem dX3_merge_123 : decode cX3_merge 123 = .ok (.iaload, 1) := by decide +kernel
theorem dX3_merge_124 : decode cX3_merge 124 = .ok (.iadd, 1) := by decide +kernel
theorem dX3_merge_125 : decode cX3_merge 125 = .ok (.iload_n 2, 1) := by decide +kernel
theorem dX3_merge_126 : decode cX3_merge 126 = .ok (.isub, 1) := by decide +kernel
theorem dX3_merge_127 : decode cX3_merge 127 = .ok (.istore 6, 2) := by decide +kernel
theorem dX3_merge_129 : decode cX3_merge 129 = .ok (.iload_n 1, 1) := by decide +kernel
theorem dX3_merge_130 : decode cX3_merge 130 = .ok (.iconst 1, 1) := by decide +kernel
theorem dX3_merge_131 : decode cX3_merge 131 = .ok (.if_icmp .ne 30, 3) := by decide +kernel
theorem dX3_merge_134 : decode cX3_merge 134 = .ok (.aload_n 0, 1) := by decide +kernel
theorem dX3_merge_135 : decode cX3_merge 135 = .ok (.getfield 16, 3) := by decide +kernel
theorem dX3_merge_138 : decode cX3_merge 138 = .ok (.iload 4, 2) := by decide +kernel
theorem dX3_merge_140 : decode cX3_merge 140 = .ok (.iaload, 1) := by decide +kernel
theorem dX3_merge_141 : decode cX3_merge 141 = .ok (.iload 5, 2) := by decide +kernel
theorem dX3_merge_143 : decode cX3_merge 143 = .ok (.if_icmp .le 13, 3) := by decide +kernel
theorem dX3_merge_146 : decode cX3_merge 146 = .ok (.aload_n 0, 1) := by decide +kernel
theorem dX3_merge_147 : decode cX3_merge 147 = .ok (.getfield 16, 3) := by decide +kernel
theorem dX3_merge_150 : decode cX3_merge 150 = .ok (.iload 4, 2) := by decide +kernel
theorem dX3_merge_152 : decode cX3_merge 152 = .ok (.iaload, 1) := by decide +kernel
theorem dX3_merge_153 : decode cX3_merge 153 = .ok (.goto 75, 3) := by decide +kernel
theorem dX3_merge_156 : decode cX3_merge 156 = .ok (.iload 5, 2) := by decide +kernel
theorem dX3_merge_158 : decode cX3_merge 158 = .ok (.goto 70, 3) := by decide +kernel
theorem dX3_merge_161 : decode cX3_merge 161 = .ok (.iload_n 1, 1) := by decide +kernel
theorem dX3_merge_162 : decode cX3_merge 162 = .ok (.iconst 2, 1) := by decide +kernel
theorem dX3_merge_163 : decode cX3_merge 163 = .ok (.if_icmp .ne 30, 3) := by decide +kernel
theorem dX3_merge_166 : decode cX3_merge 166 = .ok (.aload_n 0, 1) := by decide +kernel
theorem dX3_merge_167 : decode cX3_merge 167 = .ok (.getfield 16, 3) := by decide +kernel
theorem dX3_merge_170 : decode cX3_merge 170 = .ok (.iload 4, 2) := by decide +kernel
theorem dX3_merge_172 : decode cX3_merge 172 = .ok (.iaload, 1) := by decide +kernel
theorem dX3_merge_173 : decode cX3_merge 173 = .ok (.iload 5, 2) := by decide +kernel
theorem dX3_merge_175 : decode cX3_merge 175 = .ok (.if_icmp .ge 13, 3) := by decide +kernel
theorem dX3_merge_178 : decode cX3_merge 178 = .ok (.aload_n 0, 1) := by decide +kernel
theorem dX3_merge_179 : decode cX3_merge 179 = .ok (.getfield 16, 3) := by decide +kernel
theorem dX3_merge_182 : decode cX3_merge 182 = .ok (.iload 4, 2) := by decide +kernel
theorem dX3_merge_184 : decode cX3_merge 184 = .ok (.iaload, 1) := by decide +kernel
theorem dX3_merge_185 : decode cX3_merge 185 = .ok (.goto 43, 3) := by decide +kernel
theorem dX3_merge_188 : decode cX3_merge 188 = .ok (.iload 5, 2) := by decide +kernel
theorem dX3_merge_190 : decode cX3_merge 190 = .ok (.goto 38, 3) := by decide +kernel
theorem dX3_merge_193 : decode cX3_merge 193 = .ok (.iload_n 1, 1) := by decide +kernel
theorem dX3_merge_194 : decode cX3_merge 194 = .ok (.iconst 3, 1) := by decide +kernel
theorem dX3_merge_195 : decode cX3_merge 195 = .ok (.if_icmp .ne 31, 3) := by decide +kernel
theorem dX3_merge_198 : decode cX3_merge 198 = .ok (.iload 6, 2) := by decide +kernel
theorem dX3_merge_200 : decode cX3_merge 200 = .ok (.ifCond .ge 7, 3) := by decide +kernel
theorem dX3_merge_203 : decode cX3_merge 203 = .ok (.iconst 0, 1) := by decide +kernel
theorem dX3_merge_204 : decode cX3_merge 204 = .ok (.goto 24, 3) := by decide +kernel
theorem dX3_merge_207 : decode cX3_merge 207 = .ok (.iload 6, 2) := by decide +kernel
theorem dX3_merge_209 : decode cX3_merge 209 = .ok (.sipush 1000, 3) := by decide +kernel
theorem dX3_merge_212 : decode cX3_merge 212 = .ok (.if_icmp .le 9, 3) := by decide +kernel
theorem dX3_merge_215 : decode cX3_merge 215 = .ok (.sipush 1000, 3) := by decide +kernel
theorem dX3_merge_218 : decode cX3_merge 218 = .ok (.goto 10, 3) := by decide +kernel
theorem dX3_merge_221 : decode cX3_merge 221 = .ok (.iload 6, 2) := by decide +kernel
theorem dX3_merge_223 : decode cX3_merge 223 = .ok (.goto 5, 3) := by decide +kernel
theorem dX3_merge_226 : decode cX3_merge 226 = .ok (.iload 5, 2) := by decide +kernel
theorem dX3_merge_228 : decode cX3_merge 228 = .ok (.istore 7, 2) := by decide +kernel
theorem dX3_merge_230 : decode cX3_merge 230 = .ok (.iload 7, 2) := by decide +kernel
theorem dX3_merge_232 : decode cX3_merge 232 = .ok (.iload 5, 2) := by decide +kernel
theorem dX3_merge_234 : decode cX3_merge 234 = .ok (.if_icmp .eq 9, 3) := by decide +kernel
theorem dX3_merge_237 : decode cX3_merge 237 = .ok (.iload_n 3, 1) := by decide +kernel
theorem dX3_merge_238 : decode cX3_merge 238 = .ok (.iconst 1, 1) := by decide +kernel
theorem dX3_merge_239 : decode cX3_merge 239 = .ok (.iadd, 1) := by decide +kernel
theorem dX3_merge_240 : decode cX3_merge 240 = .ok (.goto 4, 3) := by decide +kernel
theorem dX3_merge_243 : decode cX3_merge 243 = .ok (.iload_n 3, 1) := by decide +kernel
theorem dX3_merge_244 : decode cX3_merge 244 = .ok (.istore_n 3, 1) := by decide +kernel
theorem dX3_merge_245 : decode cX3_merge 245 = .ok (.aload_n 0, 1) := by decide +kernel
theorem dX3_merge_246 : decode cX3_merge 246 = .ok (.getfield 7, 3) := by decide +kernel
theorem dX3_merge_249 : decode cX3_merge 249 = .ok (.iload 4, 2) := by decide +kernel
theorem dX3_merge_251 : decode cX3_merge 251 = .ok (.iload 7, 2) := by decide +kernel
theorem dX3_merge_253 : decode cX3_merge 253 = .ok (.iastore, 1) := by decide +kernel
theorem dX3_merge_254 : decode cX3_merge 254 = .ok (.iinc 4 1, 3) := by decide +kernel
theorem dX3_merge_257 : decode cX3_merge 257 = .ok (.goto (-208), 3) := by decide +kernel
theorem dX3_merge_260 : decode cX3_merge 260 = .ok (.aload_n 0, 1) := by decide +kernel
theorem dX3_merge_261 : decode cX3_merge 261 = .ok (.aload_n 0, 1) := by decide +kernel
theorem dX3_merge_262 : decode cX3_merge 262 = .ok (.getfield 106, 3) := by decide +kernel
theorem dX3_merge_265 : decode cX3_merge 265 = .ok (.ifCond .ne 10, 3) := by decide +kernel
theorem dX3_merge_268 : decode cX3_merge 268 = .ok (.aload_n 0, 1) := by decide +kernel
theorem dX3_merge_269 : decode cX3_merge 269 = .ok (.getfield 48, 3) := by decide +kernel
theorem dX3_merge_272 : decode cX3_merge 272 = .ok (.ifCond .ne 7, 3) := by decide +kernel
theorem dX3_merge_275 : decode cX3_merge 275 = .ok (.iconst 1, 1) := by decide +kernel
theorem dX3_merge_276 : decode cX3_merge 276 = .ok (.goto 4, 3) := by decide +kernel
theorem dX3_merge_279 : decode cX3_merge 279 = .ok (.iconst 0, 1) := by decide +kernel
theorem dX3_merge_280 : decode cX3_merge 280 = .ok (.putfield 106, 3) := by decide +kernel
theorem dX3_merge_283 : decode cX3_merge 283 = .ok (.iload_n 3, 1) := by decide +kernel
theorem dX3_merge_284 : decode cX3_merge 284 = .ok (.ireturn, 1) := by decide +kernel
