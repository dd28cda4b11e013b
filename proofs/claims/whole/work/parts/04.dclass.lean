theorem dX2_init_0 : decode cX2_init 0 = .ok (.aload_n 0, 1) := by decide +kernel
theorem dX2_init_1 : decode cX2_init 1 = .ok (.invokespecial 1, 3) := by decide +kernel
theorem dX2_init_4 : decode cX2_init 4 = .ok (.aload_n 0, 1) := by decide +kernel
theorem dX2_init_5 : decode cX2_init 5 = .ok (.iload_n 1, 1) := by decide +kernel
theorem dX2_init_6 : decode cX2_init 6 = .ok (.iconst 1, 1) := by decide +kernel
theorem dX2_init_7 : decode cX2_init 7 = .ok (.bipush 20, 2) := by decide +kernel
theorem dX2_init_9 : decode cX2_init 9 = .ok (.invokestatic 9, 3) := by decide +kernel
theorem dX2_init_12 : decode cX2_init 12 = .ok (.putfield 13, 3) := by decide +kernel
theorem dX2_init_15 : decode cX2_init 15 = .ok (.aload_n 0, 1) := by decide +kernel
theorem dX2_init_16 : decode cX2_init 16 = .ok (.iload_n 2, 1) := by decide +kernel
theorem dX2_init_17 : decode cX2_init 17 = .ok (.iconst 1, 1) := by decide +kernel
theorem dX2_init_18 : decode cX2_init 18 = .ok (.bipush 20, 2) := by decide +kernel
theorem dX2_init_20 : decode cX2_init 20 = .ok (.invokestatic 9, 3) := by decide +kernel
theorem dX2_init_23 : decode cX2_init 23 = .ok (.putfield 17, 3) := by decide +kernel
theorem dX2_init_26 : decode cX2_init 26 = .ok (.aload_n 0, 1) := by decide +kernel
theorem dX2_init_27 : decode cX2_init 27 = .ok (.getfield 13, 3) := by decide +kernel
theorem dX2_init_30 : decode cX2_init 30 = .ok (.aload_n 0, 1) := by decide +kernel
theorem dX2_init_31 : decode cX2_init 31 = .ok (.getfield 17, 3) := by decide +kernel
theorem dX2_init_34 : decode cX2_init 34 = .ok (.imul, 1) := by decide +kernel
theorem dX2_init_35 : decode cX2_init 35 = .ok (.istore_n 3, 1) := by decide +kernel
theorem dX2_init_36 : decode cX2_init 36 = .ok (.aload_n 0, 1) := by decide +kernel
theorem dX2_init_37 : decode cX2_init 37 = .ok (.iload_n 3, 1) := by decide +kernel
theorem dX2_init_38 : decode cX2_init 38 = .ok (.newarray .int, 2) := by decide +kernel
theorem dX2_init_40 : decode cX2_init 40 = .ok (.putfield 20, 3) := by decide +kernel
theorem dX2_init_43 : decode cX2_init 43 = .ok (.aload_n 0, 1) := by decide +kernel
theorem dX2_init_44 : decode cX2_init 44 = .ok (.iload_n 3, 1) := by decide +kernel
theorem dX2_init_45 : decode cX2_init 45 = .ok (.newarray .int, 2) := by decide +kernel
theorem dX2_init_47 : decode cX2_init 47 = .ok (.putfield 24, 3) := by decide +kernel
theorem dX2_init_50 : decode cX2_init 50 = .ok (.aload_n 0, 1) := by decide +kernel
theorem dX2_init_51 : decode cX2_init 51 = .ok (.iload_n 3, 1) := by decide +kernel
theorem dX2_init_52 : decode cX2_init 52 = .ok (.newarray .int, 2) := by decide +kernel
theorem dX2_init_54 : decode cX2_init 54 = .ok (.putfield 27, 3) := by decide +kernel
theorem dX2_init_57 : decode cX2_init 57 = .ok (.aload_n 0, 1) := by decide +kernel
theorem dX2_init_58 : decode cX2_init 58 = .ok (.iload_n 3, 1) := by decide +kernel
theorem dX2_init_59 : decode cX2_init 59 = .ok (.newarray .int, 2) := by decide +kernel
theorem dX2_init_61 : decode cX2_init 61 = .ok (.putfield 30, 3) := by decide +kernel
theorem dX2_init_64 : decode cX2_init 64 = .ok (.aload_n 0, 1) := by decide +kernel
theorem dX2_init_65 : decode cX2_init 65 = .ok (.iconst 4, 1) := by decide +kernel
theorem dX2_init_66 : decode cX2_init 66 = .ok (.anewarray 33, 3) := by decide +kernel
theorem dX2_init_69 : decode cX2_init 69 = .ok (.putfield 35, 3) := by decide +kernel
theorem dX2_init_72 : decode cX2_init 72 = .ok (.iconst 0, 1) := by decide +kernel
theorem dX2_init_73 : decode cX2_init 73 = .ok (.istore 4, 2) := by decide +kernel
theorem dX2_init_75 : decode cX2_init 75 = .ok (.iload 4, 2) := by decide +kernel
theorem dX2_init_77 : decode cX2_init 77 = .ok (.iconst 4, 1) := by decide +kernel
theorem dX2_init_78 : decode cX2_init 78 = .ok (.if_icmp .ge 23, 3) := by decide +kernel
theorem dX2_init_81 : decode cX2_init 81 = .ok (.aload_n 0, 1) := by decide +kernel
theorem dX2_init_82 : decode cX2_init 82 = .ok (.getfield 35, 3) := by decide +kernel
theorem dX2_init_85 : decode cX2_init 85 = .ok (.iload 4, 2) := by decide +kernel
theorem dX2_init_87 : decode cX2_init 87 = .ok (.new 33, 3) := by decide +kernel
theorem dX2_init_90 : decode cX2_init 90 = .ok (.dup, 1) := by decide +kernel
theorem dX2_init_91 : decode cX2_init 91 = .ok (.invokespecial 39, 3) := by decide +kernel
theorem dX2_init_94 : decode cX2_init 94 = .ok (.aastore, 1) := by decide +kernel
theorem dX2_init_95 : decode cX2_init 95 = .ok (.iinc 4 1, 3) := by decide +kernel
theorem dX2_init_98 : decode cX2_init 98 = .ok (.goto (-23), 3) := by decide +kernel
theorem dX2_init_101 : decode cX2_init 101 = .ok (.aload_n 0, 1) := by decide +kernel
theorem dX2_init_102 : decode cX2_init 102 = .ok (.new 40, 3) := by decide +kernel
theorem dX2_init_105 : decode cX2_init 105 = .ok (.dup, 1) := by decide +kernel
theorem dX2_init_106 : decode cX2_init 106 = .ok (.invokespecial 42, 3) := by decide +kernel
theorem dX2_init_109 : decode cX2_init 109 = .ok (.putfield 43, 3) := by decide +kernel
theorem dX2_init_112 : decode cX2_init 112 = .ok (.aload_n 0, 1) := by decide +kernel
theorem dX2_init_113 : decode cX2_init 113 = .ok (.iconst 0, 1) := by decide +kernel
theorem dX2_init_114 : decode cX2_init 114 = .ok (.putfield 47, 3) := by decide +kernel
theorem dX2_init_117 : decode cX2_init 117 = .ok (.aload_n 0, 1) := by decide +kernel
theorem dX2_init_118 : decode cX2_init 118 = .ok (.sipush 1000, 3) := by decide +kernel
theorem dX2_init_121 : decode cX2_init 121 = .ok (.putfield 51, 3) := by decide +kernel
theorem dX2_init_124 : decode cX2_init 124 = .ok (.aload_n 0, 1) := by decide +kernel
theorem dX2_init_125 : decode cX2_init 125 = .ok (.getfield 24, 3) := by decide +kernel
theorem dX2_init_128 : decode cX2_init 128 = .ok (.sipush 1000, 3) := by decide +kernel
theorem dX2_init_131 : decode cX2_init 131 = .ok (.invokestatic 54, 3) := by decide +kernel
theorem dX2_init_134 : decode cX2_init 134 = .ok (.return_, 1) := by decide +kernel
theorem dX2_put_0 : decode cX2_put 0 = .ok (.aload_n 0, 1) := by decide +kernel
theorem dX2_put_1 : decode cX2_put 1 = .ok (.iload_n 1, 1) := by decide +kernel
theorem dX2_put_2 : decode cX2_put 2 = .ok (.iload_n 2, 1) := by decide +kernel
theorem dX2_put_3 : decode cX2_put 3 = .ok (.invokevirtual 60, 3) := by decide +kernel
theorem dX2_put_6 : decode cX2_put 6 = .ok (.iload_n 3, 1) := by decide +kernel
theorem dX2_put_7 : decode cX2_put 7 = .ok (.iconst 0, 1) := by decide +kernel
theorem dX2_put_8 : decode cX2_put 8 = .ok (.sipush 1000, 3) := by decide +kernel
theorem dX2_put_11 : decode cX2_put 11 = .ok (.invokestatic 64, 3) := by decide +kernel
theorem dX2_put_14 : decode cX2_put 14 = .ok (.aload_n 0, 1) := by decide +kernel
theorem dX2_put_15 : decode cX2_put 15 = .ok (.aload_n 0, 1) := by decide +kernel
theorem dX2_put_16 : decode cX2_put 16 = .ok (.iload_n 1, 1) := by decide +kernel
theorem dX2_put_17 : decode cX2_put 17 = .ok (.iload_n 2, 1) := by decide +kernel
theorem dX2_put_18 : decode cX2_put 18 = .ok (.invokevirtual 68, 3) := by decide +kernel
theorem dX2_put_21 : decode cX2_put 21 = .ok (.iload_n 3, 1) := by decide +kernel
theorem dX2_put_22 : decode cX2_put 22 = .ok (.invokevirtual 72, 3) := by decide +kernel
theorem dX2_put_25 : decode cX2_put 25 = .ok (.ireturn, 1) := by decide +kernel
theorem dX2_tool_0 : decode cX2_tool 0 = .ok (.iload_n 1, 1) := by decide +kernel
theorem dX2_tool_1 : decode cX2_tool 1 = .ok (.invokestatic 76, 3) := by decide +kernel
theorem dX2_tool_4 : decode cX2_tool 4 = .ok (.iload_n 2, 1) := by decide +kernel
theorem dX2_tool_5 : decode cX2_tool 5 = .ok (.iconst 0, 1) := by decide +kernel
theorem dX2_tool_6 : decode cX2_tool 6 = .ok (.iconst 2, 1) := by decide +kernel
theorem dX2_tool_7 : decode cX2_tool 7 = .ok (.invokestatic 64, 3) := by decide +kernel
theorem dX2_tool_10 : decode cX2_tool 10 = .ok (.iload_n 3, 1) := by decide +kernel
theorem dX2_tool_11 : decode cX2_tool 11 = .ok (.iconst 0, 1) := by decide +kernel
theorem dX2_tool_12 : decode cX2_tool 12 = .ok (.iconst 5, 1) := by decide +kernel
theorem dX2_tool_13 : decode cX2_tool 13 = .ok (.invokestatic 64, 3) := by decide +kernel
theorem dX2_tool_16 : decode cX2_tool 16 = .ok (.aload_n 0, 1) := by decide +kernel
theorem dX2_tool_17 : decode cX2_tool 17 = .ok (.getfield 35, 3) := by decide +kernel
theorem dX2_tool_20 : decode cX2_tool 20 = .ok (.iload_n 1, 1) := by decide +kernel
theorem dX2_tool_21 : decode cX2_tool 21 = .ok (.aaload, 1) := by decide +kernel
theorem dX2_tool_22 : decode cX2_tool 22 = .ok (.iload_n 2, 1) := by decide +kernel
theorem dX2_tool_23 : decode cX2_tool 23 = .ok (.iload_n 3, 1) := by decide +kernel
theorem dX2_tool_24 : decode cX2_tool 24 = .ok (.invokevirtual 80, 3) := by decide +kernel
theorem dX2_tool_27 : decode cX2_tool 27 = .ok (.ireturn, 1) := by decide +kernel
theorem dX2_stock_0 : decode cX2_stock 0 = .ok (.iload_n 1, 1) := by decide +kernel
theorem dX2_stock_1 : decode cX2_stock 1 = .ok (.iconst 1, 1) := by decide +kernel
theorem dX2_stock_2 : decode cX2_stock 2 = .ok (.sipush 1000, 3) := by decide +kernel
theorem dX2_stock_5 : decode cX2_stock 5 = .ok (.invokestatic 64, 3) := by decide +kernel
theorem dX2_stock_8 : decode cX2_stock 8 = .ok (.aload_n 0, 1) := by decide +kernel
theorem dX2_stock_9 : decode cX2_stock 9 = .ok (.invokevirtual 83, 3) := by decide +kernel
theorem dX2_stock_12 : decode cX2_stock 12 = .ok (.istore_n 2, 1) := by decide +kernel
theorem dX2_stock_13 : decode cX2_stock 13 = .ok (.iload_n 2, 1) := by decide +kernel
theorem dX2_stock_14 : decode cX2_stock 14 = .ok (.iload_n 1, 1) := by decide +kernel
theorem dX2_stock_15 : decode cX2_stock 15 = .ok (.if_icmp .le 13, 3) := by decide +kernel
theorem dX2_stock_18 : decode cX2_stock 18 = .ok (.new 87, 3) := by decide +kernel
theorem dX2_stock_21 : decode cX2_stock 21 = .ok (.dup, 1) := by decide +kernel
theorem dX2_stock_22 : decode cX2_stock 22 = .ok (.ldc 89, 2) := by decide +kernel
theorem dX2_stock_24 : decode cX2_stock 24 = .ok (.invokespecial 91, 3) := by decide +kernel
theorem dX2_stock_27 : decode cX2_stock 27 = .ok (.athrow, 1) := by decide +kernel
theorem dX2_stock_28 : decode cX2_stock 28 = .ok (.aload_n 0, 1) := by decide +kernel
theorem dX2_stock_29 : decode cX2_stock 29 = .ok (.iload_n 1, 1) := by decide +kernel
theorem dX2_stock_30 : decode cX2_stock 30 = .ok (.putfield 51, 3) := by decide +kernel
theorem dX2_stock_33 : decode cX2_stock 33 = .ok (.aload_n 0, 1) := by decide +kernel
theorem dX2_stock_34 : decode cX2_stock 34 = .ok (.getfield 24, 3) := by decide +kernel
theorem dX2_stock_37 : decode cX2_stock 37 = .ok (.iload_n 1, 1) := by decide +kernel
theorem dX2_stock_38 : decode cX2_stock 38 = .ok (.invokestatic 54, 3) := by decide +kernel
theorem dX2_stock_41 : decode cX2_stock 41 = .ok (.iload_n 2, 1) := by decide +kernel
theorem dX2_stock_42 : decode cX2_stock 42 = .ok (.ireturn, 1) := by decide +kernel
theorem dX2_lift_0 : decode cX2_lift 0 = .ok (.aload_n 0, 1) := by decide +kernel
theorem dX2_lift_1 : decode cX2_lift 1 = .ok (.iload_n 1, 1) := by decide +kernel
theorem dX2_lift_2 : decode cX2_lift 2 = .ok (.iload_n 2, 1) := by decide +kernel
theorem dX2_lift_3 : decode cX2_lift 3 = .ok (.invokevirtual 60, 3) := by decide +kernel
theorem dX2_lift_6 : decode cX2_lift 6 = .ok (.iload_n 3, 1) := by decide +kernel
theorem dX2_lift_7 : decode cX2_lift 7 = .ok (.invokestatic 76, 3) := by decide +kernel
theorem dX2_lift_10 : decode cX2_lift 10 = .ok (.aload_n 0, 1) := by decide +kernel
theorem dX2_lift_11 : decode cX2_lift 11 = .ok (.aload_n 0, 1) := by decide +kernel
theorem dX2_lift_12 : decode cX2_lift 12 = .ok (.getfield 35, 3) := by decide +kernel
theorem dX2_lift_15 : decode cX2_lift 15 = .ok (.iload_n 3, 1) := by decide +kernel
theorem dX2_lift_16 : decode cX2_lift 16 = .ok (.aaload, 1) := by decide +kernel
theorem dX2_lift_17 : decode cX2_lift 17 = .ok (.iload_n 1, 1) := by decide +kernel
theorem dX2_lift_18 : decode cX2_lift 18 = .ok (.iload_n 2, 1) := by decide +kernel
theorem dX2_lift_19 : decode cX2_lift 19 = .ok (.invokevirtual 94, 3) := by decide +kernel
theorem dX2_lift_22 : decode cX2_lift 22 = .ok (.ireturn, 1) := by decide +kernel
theorem dX2_profile_0 : decode cX2_profile 0 = .ok (.iload_n 1, 1) := by decide +kernel
theorem dX2_profile_1 : decode cX2_profile 1 = .ok (.invokestatic 76, 3) := by decide +kernel
theorem dX2_profile_4 : decode cX2_profile 4 = .ok (.aload_n 0, 1) := by decide +kernel
theorem dX2_profile_5 : decode cX2_profile 5 = .ok (.getfield 35, 3) := by decide +kernel
theorem dX2_profile_8 : decode cX2_profile 8 = .ok (.iload_n 1, 1) := by decide +kernel
theorem dX2_profile_9 : decode cX2_profile 9 = .ok (.aaload, 1) := by decide +kernel
theorem dX2_profile_10 : decode cX2_profile 10 = .ok (.iload_n 2, 1) := by decide +kernel
theorem dX2_profile_11 : decode cX2_profile 11 = .ok (.iload_n 3, 1) := by decide +kernel
theorem dX2_profile_12 : decode cX2_profile 12 = .ok (.invokevirtual 98, 3) := by decide +kernel
theorem dX2_profile_15 : decode cX2_profile 15 = .ok (.ireturn, 1) := by decide +kernel
theorem dX2_rough_0 : decode cX2_rough 0 = .ok (.iload_n 1, 1) := by decide +kernel
theorem dX2_rough_1 : decode cX2_rough 1 = .ok (.invokestatic 76, 3) := by decide +kernel
theorem dX2_rough_4 : decode cX2_rough 4 = .ok (.iload_n 2, 1) := by decide +kernel
theorem dX2_rough_5 : decode cX2_rough 5 = .ok (.iconst 1, 1) := by decide +kernel
theorem dX2_rough_6 : decode cX2_rough 6 = .ok (.sipush 1000, 3) := by decide +kernel
theorem dX2_rough_9 : decode cX2_rough 9 = .ok (.invokestatic 64, 3) := by decide +kernel
theorem dX2_rough_12 : decode cX2_rough 12 = .ok (.iload_n 3, 1) := by decide +kernel
theorem dX2_rough_13 : decode cX2_rough 13 = .ok (.iconst 0, 1) := by decide +kernel
theorem dX2_rough_14 : decode cX2_rough 14 = .ok (.sipush 1000, 3) := by decide +kernel
theorem dX2_rough_17 : decode cX2_rough 17 = .ok (.invokestatic 64, 3) := by decide +kernel
theorem dX2_rough_20 : decode cX2_rough 20 = .ok (.aload_n 0, 1) := by decide +kernel
theorem dX2_rough_21 : decode cX2_rough 21 = .ok (.getfield 43, 3) := by decide +kernel
theorem dX2_rough_24 : decode cX2_rough 24 = .ok (.invokevirtual 101, 3) := by decide +kernel
theorem dX2_rough_27 : decode cX2_rough 27 = .ok (.aload_n 0, 1) := by decide +kernel
theorem dX2_rough_28 : decode cX2_rough 28 = .ok (.aload_n 0, 1) := by decide +kernel
theorem dX2_rough_29 : decode cX2_rough 29 = .ok (.getfield 35, 3) := by decide +kernel
theorem dX2_rough_32 : decode cX2_rough 32 = .ok (.iload_n 1, 1) := by decide +kernel
theorem dX2_rough_33 : decode cX2_rough 33 = .ok (.aaload, 1) := by decide +kernel
theorem dX2_rough_34 : decode cX2_rough 34 = .ok (.invokevirtual 104, 3) := by decide +kernel
theorem dX2_rough_37 : decode cX2_rough 37 = .ok (.iconst 0, 1) := by decide +kernel
theorem dX2_rough_38 : decode cX2_rough 38 = .ok (.istore 4, 2) := by decide +kernel
theorem dX2_rough_40 : decode cX2_rough 40 = .ok (.aload_n 0, 1) := by decide +kernel
theorem dX2_rough_41 : decode cX2_rough 41 = .ok (.getfield 51, 3) := by decide +kernel
theorem dX2_rough_44 : decode cX2_rough 44 = .ok (.iload_n 2, 1) := by decide +kernel
theorem dX2_rough_45 : decode cX2_rough 45 = .ok (.isub, 1) := by decide +kernel
theorem dX2_rough_46 : decode cX2_rough 46 = .ok (.istore 5, 2) := by decide +kernel
theorem dX2_rough_48 : decode cX2_rough 48 = .ok (.iload 5, 2) := by decide +kernel
theorem dX2_rough_50 : decode cX2_rough 50 = .ok (.ifCond .le 32, 3) := by decide +kernel
theorem dX2_rough_53 : decode cX2_rough 53 = .ok (.aload_n 0, 1) := by decide +kernel
theorem dX2_rough_54 : decode cX2_rough 54 = .ok (.aload_n 0, 1) := by decide +kernel
theorem dX2_rough_55 : decode cX2_rough 55 = .ok (.getfield 35, 3) := by decide +kernel
theorem dX2_rough_58 : decode cX2_rough 58 = .ok (.iload_n 1, 1) := by decide +kernel
theorem dX2_rough_59 : decode cX2_rough 59 = .ok (.aaload, 1) := by decide +kernel
theorem dX2_rough_60 : decode cX2_rough 60 = .ok (.iload 5, 2) := by decide +kernel
theorem dX2_rough_62 : decode cX2_rough 62 = .ok (.iload_n 2, 1) := by decide +kernel
theorem dX2_rough_63 : decode cX2_rough 63 = .ok (.iload_n 3, 1) := by decide +kernel
theorem dX2_rough_64 : decode cX2_rough 64 = .ok (.invokevirtual 108, 3) := by decide +kernel
theorem dX2_rough_67 : decode cX2_rough 67 = .ok (.ifCond .eq 6, 3) := by decide +kernel
theorem dX2_rough_70 : decode cX2_rough 70 = .ok (.iinc 4 1, 3) := by decide +kernel
theorem dX2_rough_73 : decode cX2_rough 73 = .ok (.iload 5, 2) := by decide +kernel
theorem dX2_rough_75 : decode cX2_rough 75 = .ok (.iload_n 2, 1) := by decide +kernel
theorem dX2_rough_76 : decode cX2_rough 76 = .ok (.isub, 1) := by decide +kernel
theorem dX2_rough_77 : decode cX2_rough 77 = .ok (.istore 5, 2) := by decide +kernel
theorem dX2_rough_79 : decode cX2_rough 79 = .ok (.goto (-31), 3) := by decide +kernel
theorem dX2_rough_82 : decode cX2_rough 82 = .ok (.iload 4, 2) := by decide +kernel
theorem dX2_rough_84 : decode cX2_rough 84 = .ok (.ireturn, 1) := by decide +kernel
theorem dX2_fine_0 : decode cX2_fine 0 = .ok (.iload_n 1, 1) := by decide +kernel
theorem dX2_fine_1 : decode cX2_fine 1 = .ok (.invokestatic 76, 3) := by decide +kernel
theorem dX2_fine_4 : decode cX2_fine 4 = .ok (.iload_n 2, 1) := by decide +kernel
theorem dX2_fine_5 : decode cX2_fine 5 = .ok (.iconst 1, 1) := by decide +kernel
theorem dX2_fine_6 : decode cX2_fine 6 = .ok (.bipush 20, 2) := by decide +kernel
theorem dX2_fine_8 : decode cX2_fine 8 = .ok (.invokestatic 64, 3) := by decide +kernel
theorem dX2_fine_11 : decode cX2_fine 11 = .ok (.aload_n 0, 1) := by decide +kernel
theorem dX2_fine_12 : decode cX2_fine 12 = .ok (.getfield 43, 3) := by decide +kernel
theorem dX2_fine_15 : decode cX2_fine 15 = .ok (.invokevirtual 101, 3) := by decide +kernel
theorem dX2_fine_18 : decode cX2_fine 18 = .ok (.iconst 0, 1) := by decide +kernel
theorem dX2_fine_19 : decode cX2_fine 19 = .ok (.istore_n 3, 1) := by decide +kernel
theorem dX2_fine_20 : decode cX2_fine 20 = .ok (.iconst 0, 1) := by decide +kernel
theorem dX2_fine_21 : decode cX2_fine 21 = .ok (.istore 4, 2) := by decide +kernel
theorem dX2_fine_23 : decode cX2_fine 23 = .ok (.iload 4, 2) := by decide +kernel
theorem dX2_fine_25 : decode cX2_fine 25 = .ok (.aload_n 0, 1) := by decide +kernel
theorem dX2_fine_26 : decode cX2_fine 26 = .ok (.getfield 17, 3) := by decide +kernel
theorem dX2_fine_29 : decode cX2_fine 29 = .ok (.if_icmp .ge 38, 3) := by decide +kernel
theorem dX2_fine_32 : decode cX2_fine 32 = .ok (.aload_n 0, 1) := by decide +kernel
theorem dX2_fine_33 : decode cX2_fine 33 = .ok (.aload_n 0, 1) := by decide +kernel
theorem dX2_fine_34 : decode cX2_fine 34 = .ok (.getfield 35, 3) := by decide +kernel
theorem dX2_fine_37 : decode cX2_fine 37 = .ok (.iload_n 1, 1) := by decide +kernel
theorem dX2_fine_38 : decode cX2_fine 38 = .ok (.aaload, 1) := by decide +kernel
theorem dX2_fine_39 : decode cX2_fine 39 = .ok (.iload 4, 2) := by decide +kernel
theorem dX2_fine_41 : decode cX2_fine 41 = .ok (.iload_n 3, 1) := by decide +kernel
theorem dX2_fine_42 : decode cX2_fine 42 = .ok (.iconst 2, 1) := by decide +kernel
theorem dX2_fine_43 : decode cX2_fine 43 = .ok (.irem, 1) := by decide +kernel
theorem dX2_fine_44 : decode cX2_fine 44 = .ok (.ifCond .ne 7, 3) := by decide +kernel
theorem dX2_fine_47 : decode cX2_fine 47 = .ok (.iconst 1, 1) := by decide +kernel
theorem dX2_fine_48 : decode cX2_fine 48 = .ok (.goto 4, 3) := by decide +kernel
theorem dX2_fine_51 : decode cX2_fine 51 = .ok (.iconst 0, 1) := by decide +kernel
theorem dX2_fine_52 : decode cX2_fine 52 = .ok (.invokevirtual 112, 3) := by decide +kernel
theorem dX2_fine_55 : decode cX2_fine 55 = .ok (.iinc 3 1, 3) := by decide +kernel
theorem dX2_fine_58 : decode cX2_fine 58 = .ok (.iload 4, 2) := by decide +kernel
theorem dX2_fine_60 : decode cX2_fine 60 = .ok (.iload_n 2, 1) := by decide +kernel
theorem dX2_fine_61 : decode cX2_fine 61 = .ok (.iadd, 1) := by decide +kernel
theorem dX2_fine_62 : decode cX2_fine 62 = .ok (.istore 4, 2) := by decide +kernel
theorem dX2_fine_64 : decode cX2_fine 64 = .ok (.goto (-41), 3) := by decide +kernel
theorem dX2_fine_67 : decode cX2_fine 67 = .ok (.aload_n 0, 1) := by decide +kernel
theorem dX2_fine_68 : decode cX2_fine 68 = .ok (.getfield 17, 3) := by decide +kernel
theorem dX2_fine_71 : decode cX2_fine 71 = .ok (.iconst 1, 1) := by decide +kernel
theorem dX2_fine_72 : decode cX2_fine 72 = .ok (.isub, 1) := by decide +kernel
theorem dX2_fine_73 : decode cX2_fine 73 = .ok (.iload_n 2, 1) := by decide +kernel
theorem dX2_fine_74 : decode cX2_fine 74 = .ok (.irem, 1) := by decide +kernel
theorem dX2_fine_75 : decode cX2_fine 75 = .ok (.ifCond .eq 33, 3) := by decide +kernel
theorem dX2_fine_78 : decode cX2_fine 78 = .ok (.aload_n 0, 1) := by decide +kernel
theorem dX2_fine_79 : decode cX2_fine 79 = .ok (.aload_n 0, 1) := by decide +kernel
theorem dX2_fine_80 : decode cX2_fine 80 = .ok (.getfield 35, 3) := by decide +kernel
theorem dX2_fine_83 : decode cX2_fine 83 = .ok (.iload_n 1, 1) := by decide +kernel
theorem dX2_fine_84 : decode cX2_fine 84 = .ok (.aaload, 1) := by decide +kernel
theorem dX2_fine_85 : decode cX2_fine 85 = .ok (.aload_n 0, 1) := by decide +kernel
theorem dX2_fine_86 : decode cX2_fine 86 = .ok (.getfield 17, 3) := by decide +kernel
theorem dX2_fine_89 : decode cX2_fine 89 = .ok (.iconst 1, 1) := by decide +kernel
theorem dX2_fine_90 : decode cX2_fine 90 = .ok (.isub, 1) := by decide +kernel
theorem dX2_fine_91 : decode cX2_fine 91 = .ok (.iload_n 3, 1) := by decide +kernel
theorem dX2_fine_92 : decode cX2_fine 92 = .ok (.iconst 2, 1) := by decide +kernel
theorem dX2_fine_93 : decode cX2_fine 93 = .ok (.irem, 1) := by decide +kernel
theorem dX2_fine_94 : decode cX2_fine 94 = .ok (.ifCond .ne 7, 3) := by decide +kernel
theorem dX2_fine_97 : decode cX2_fine 97 = .ok (.iconst 1, 1) := by decide +kernel
theorem dX2_fine_98 : decode cX2_fine 98 = .ok (.goto 4, 3) := by decide +kernel
theorem dX2_fine_101 : decode cX2_fine 101 = .ok (.iconst 0, 1) := by decide +kernel
theorem dX2_fine_102 : decode cX2_fine 102 = .ok (.invokevirtual 112, 3) := by decide +kernel
theorem dX2_fine_105 : decode cX2_fine 105 = .ok (.iinc 3 1, 3) := by decide +kernel
theorem dX2_fine_108 : decode cX2_fine 108 = .ok (.iload_n 3, 1) := by decide +kernel
theorem dX2_fine_109 : decode cX2_fine 109 = .ok (.ireturn, 1) := by decide +kernel
theorem dX2_made_0 : decode cX2_made 0 = .ok (.aload_n 0, 1) := by decide +kernel
theorem dX2_made_1 : decode cX2_made 1 = .ok (.iload_n 1, 1) := by decide +kernel
theorem dX2_made_2 : decode cX2_made 2 = .ok (.iload_n 2, 1) := by decide +kernel
theorem dX2_made_3 : decode cX2_made 3 = .ok (.invokevirtual 60, 3) := by decide +kernel
theorem dX2_made_6 : decode cX2_made 6 = .ok (.aload_n 0, 1) := by decide +kernel
theorem dX2_made_7 : decode cX2_made 7 = .ok (.getfield 24, 3) := by decide +kernel
theorem dX2_made_10 : decode cX2_made 10 = .ok (.aload_n 0, 1) := by decide +kernel
theorem dX2_made_11 : decode cX2_made 11 = .ok (.iload_n 1, 1) := by decide +kernel
theorem dX2_made_12 : decode cX2_made 12 = .ok (.iload_n 2, 1) := by decide +kernel
theorem dX2_made_13 : decode cX2_made 13 = .ok (.invokevirtual 68, 3) := by decide +kernel
theorem dX2_made_16 : decode cX2_made 16 = .ok (.iaload, 1) := by decide +kernel
theorem dX2_made_17 : decode cX2_made 17 = .ok (.ireturn, 1) := by decide +kernel
theorem dX2_below_0 : decode cX2_below 0 = .ok (.iconst 0, 1) := by decide +kernel
theorem dX2_below_1 : decode cX2_below 1 = .ok (.istore_n 1, 1) := by decide +kernel
theorem dX2_below_2 : decode cX2_below 2 = .ok (.iload_n 1, 1) := by decide +kernel
theorem dX2_below_3 : decode cX2_below 3 = .ok (.aload_n 0, 1) := by decide +kernel
theorem dX2_below_4 : decode cX2_below 4 = .ok (.getfield 24, 3) := by decide +kernel
theorem dX2_below_7 : decode cX2_below 7 = .ok (.arraylength, 1) := by decide +kernel
theorem dX2_below_8 : decode cX2_below 8 = .ok (.if_icmp .ge 19, 3) := by decide +kernel
theorem dX2_below_11 : decode cX2_below 11 = .ok (.aload_n 0, 1) := by decide +kernel
theorem dX2_below_12 : decode cX2_below 12 = .ok (.iload_n 1, 1) := by decide +kernel
theorem dX2_below_13 : decode cX2_below 13 = .ok (.invokevirtual 116, 3) := by decide +kernel
theorem dX2_below_16 : decode cX2_below 16 = .ok (.ifCond .ge 5, 3) := by decide +kernel
theorem dX2_below_19 : decode cX2_below 19 = .ok (.iconst 1, 1) := by decide +kernel
theorem dX2_below_20 : decode cX2_below 20 = .ok (.ireturn, 1) := by decide +kernel
theorem dX2_below_21 : decode cX2_below 21 = .ok (.iinc 1 1, 3) := by decide +kernel
theorem dX2_below_24 : decode cX2_below 24 = .ok (.goto (-22), 3) := by decide +kernel
theorem dX2_below_27 : decode cX2_below 27 = .ok (.iconst 0, 1) := by decide +kernel
theorem dX2_below_28 : decode cX2_below 28 = .ok (.ireturn, 1) := by decide +kernel
theorem dX2_rest_0 : decode cX2_rest 0 = .ok (.iload_n 1, 1) := by decide +kernel
theorem dX2_rest_1 : decode cX2_rest 1 = .ok (.iconst 0, 1) := by decide +kernel
theorem dX2_rest_2 : decode cX2_rest 2 = .ok (.sipush 1000, 3) := by decide +kernel
theorem dX2_rest_5 : decode cX2_rest 5 = .ok (.invokestatic 64, 3) := by decide +kernel
theorem dX2_rest_8 : decode cX2_rest 8 = .ok (.iload_n 2, 1) := by decide +kernel
theorem dX2_rest_9 : decode cX2_rest 9 = .ok (.iconst (-1), 1) := by decide +kernel
theorem dX2_rest_10 : decode cX2_rest 10 = .ok (.ldc 122, 2) := by decide +kernel
theorem dX2_rest_12 : decode cX2_rest 12 = .ok (.invokestatic 64, 3) := by decide +kernel
theorem dX2_rest_15 : decode cX2_rest 15 = .ok (.iconst 0, 1) := by decide +kernel
theorem dX2_rest_16 : decode cX2_rest 16 = .ok (.istore_n 3, 1) := by decide +kernel
theorem dX2_rest_17 : decode cX2_rest 17 = .ok (.iconst 0, 1) := by decide +kernel
theorem dX2_rest_18 : decode cX2_rest 18 = .ok (.istore 4, 2) := by decide +kernel
theorem dX2_rest_20 : decode cX2_rest 20 = .ok (.iload 4, 2) := by decide +kernel
theorem dX2_rest_22 : decode cX2_rest 22 = .ok (.aload_n 0, 1) := by decide +kernel
theorem dX2_rest_23 : decode cX2_rest 23 = .ok (.getfield 17, 3) := by decide +kernel
theorem dX2_rest_26 : decode cX2_rest 26 = .ok (.if_icmp .ge 60, 3) := by decide +kernel
theorem dX2_rest_29 : decode cX2_rest 29 = .ok (.iconst 0, 1) := by decide +kernel
theorem dX2_rest_30 : decode cX2_rest 30 = .ok (.istore 5, 2) := by decide +kernel
theorem dX2_rest_32 : decode cX2_rest 32 = .ok (.iload 5, 2) := by decide +kernel
theorem dX2_rest_34 : decode cX2_rest 34 = .ok (.aload_n 0, 1) := by decide +kernel
theorem dX2_rest_35 : decode cX2_rest 35 = .ok (.getfield 13, 3) := by decide +kernel
theorem dX2_rest_38 : decode cX2_rest 38 = .ok (.if_icmp .ge 42, 3) := by decide +kernel
theorem dX2_rest_41 : decode cX2_rest 41 = .ok (.aload_n 0, 1) := by decide +kernel
theorem dX2_rest_42 : decode cX2_rest 42 = .ok (.aload_n 0, 1) := by decide +kernel
theorem dX2_rest_43 : decode cX2_rest 43 = .ok (.iload 5, 2) := by decide +kernel
theorem dX2_rest_45 : decode cX2_rest 45 = .ok (.iload 4, 2) := by decide +kernel
theorem dX2_rest_47 : decode cX2_rest 47 = .ok (.invokevirtual 68, 3) := by decide +kernel
theorem dX2_rest_50 : decode cX2_rest 50 = .ok (.invokevirtual 116, 3) := by decide +kernel
theorem dX2_rest_53 : decode cX2_rest 53 = .ok (.iload_n 1, 1) := by decide +kernel
theorem dX2_rest_54 : decode cX2_rest 54 = .ok (.if_icmp .le 20, 3) := by decide +kernel
theorem dX2_rest_57 : decode cX2_rest 57 = .ok (.iload_n 3, 1) := by decide +kernel
theorem dX2_rest_58 : decode cX2_rest 58 = .ok (.iload_n 2, 1) := by decide +kernel
theorem dX2_rest_59 : decode cX2_rest 59 = .ok (.if_icmp .ne 12, 3) := by decide +kernel
theorem dX2_rest_62 : decode cX2_rest 62 = .ok (.bipush 20, 2) := by decide +kernel
theorem dX2_rest_64 : decode cX2_rest 64 = .ok (.iload 4, 2) := by decide +kernel
theorem dX2_rest_66 : decode cX2_rest 66 = .ok (.imul, 1) := by decide +kernel
theorem dX2_rest_67 : decode cX2_rest 67 = .ok (.iload 5, 2) := by decide +kernel
theorem dX2_rest_69 : decode cX2_rest 69 = .ok (.iadd, 1) := by decide +kernel
theorem dX2_rest_70 : decode cX2_rest 70 = .ok (.ireturn, 1) := by decide +kernel
theorem dX2_rest_71 : decode cX2_rest 71 = .ok (.iinc 3 1, 3) := by decide +kernel
theorem dX2_rest_74 : decode cX2_rest 74 = .ok (.iinc 5 1, 3) := by decide +kernel
theorem dX2_rest_77 : decode cX2_rest 77 = .ok (.goto (-45), 3) := by decide +kernel
theorem dX2_rest_80 : decode cX2_rest 80 = .ok (.iinc 4 1, 3) := by decide +kernel
theorem dX2_rest_83 : decode cX2_rest 83 = .ok (.goto (-63), 3) := by decide +kernel
theorem dX2_rest_86 : decode cX2_rest 86 = .ok (.iload_n 2, 1) := by decide +kernel
theorem dX2_rest_87 : decode cX2_rest 87 = .ok (.iconst (-1), 1) := by decide +kernel
theorem dX2_rest_88 : decode cX2_rest 88 = .ok (.if_icmp .ne 7, 3) := by decide +kernel
theorem dX2_rest_91 : decode cX2_rest 91 = .ok (.iload_n 3, 1) := by decide +kernel
theorem dX2_rest_92 : decode cX2_rest 92 = .ok (.goto 4, 3) := by decide +kernel
theorem dX2_rest_95 : decode cX2_rest 95 = .ok (.iconst (-1), 1) := by decide +kernel
theorem dX2_rest_96 : decode cX2_rest 96 = .ok (.ireturn, 1) := by decide +kernel
theorem dX2_sum_0 : decode cX2_sum 0 = .ok (.lconst 0, 1) := by decide +kernel
theorem dX2_sum_1 : decode cX2_sum 1 = .ok (.lstore_n 1, 1) := by decide +kernel
theorem dX2_sum_2 : decode cX2_sum 2 = .ok (.iconst 0, 1) := by decide +kernel
theorem dX2_sum_3 : decode cX2_sum 3 = .ok (.istore_n 3, 1) := by decide +kernel
theorem dX2_sum_4 : decode cX2_sum 4 = .ok (.iload_n 3, 1) := by decide +kernel
theorem dX2_sum_5 : decode cX2_sum 5 = .ok (.aload_n 0, 1) := by decide +kernel
theorem dX2_sum_6 : decode cX2_sum 6 = .ok (.getfield 24, 3) := by decide +kernel
theorem dX2_sum_9 : decode cX2_sum 9 = .ok (.arraylength, 1) := by decide +kernel
theorem dX2_sum_10 : decode cX2_sum 10 = .ok (.if_icmp .ge 22, 3) := by decide +kernel
theorem dX2_sum_13 : decode cX2_sum 13 = .ok (.lload_n 1, 1) := by decide +kernel
theorem dX2_sum_14 : decode cX2_sum 14 = .ok (.iconst 0, 1) := by decide +kernel
theorem dX2_sum_15 : decode cX2_sum 15 = .ok (.aload_n 0, 1) := by decide +kernel
theorem dX2_sum_16 : decode cX2_sum 16 = .ok (.iload_n 3, 1) := by decide +kernel
theorem dX2_sum_17 : decode cX2_sum 17 = .ok (.invokevirtual 116, 3) := by decide +kernel
theorem dX2_sum_20 : decode cX2_sum 20 = .ok (.invokestatic 123, 3) := by decide +kernel
theorem dX2_sum_23 : decode cX2_sum 23 = .ok (.i2l, 1) := by decide +kernel
theorem dX2_sum_24 : decode cX2_sum 24 = .ok (.ladd, 1) := by decide +kernel
theorem dX2_sum_25 : decode cX2_sum 25 = .ok (.lstore_n 1, 1) := by decide +kernel
theorem dX2_sum_26 : decode cX2_sum 26 = .ok (.iinc 3 1, 3) := by decide +kernel
theorem dX2_sum_29 : decode cX2_sum 29 = .ok (.goto (-25), 3) := by decide +kernel
theorem dX2_sum_32 : decode cX2_sum 32 = .ok (.lload_n 1, 1) := by decide +kernel
theorem dX2_sum_33 : decode cX2_sum 33 = .ok (.lreturn, 1) := by decide +kernel
theorem dX2_moves_0 : decode cX2_moves 0 = .ok (.aload_n 0, 1) := by decide +kernel
theorem dX2_moves_1 : decode cX2_moves 1 = .ok (.getfield 43, 3) := by decide +kernel
theorem dX2_moves_4 : decode cX2_moves 4 = .ok (.getfield 128, 3) := by decide +kernel
theorem dX2_moves_7 : decode cX2_moves 7 = .ok (.ireturn, 1) := by decide +kernel
theorem dX2_move_0 : decode cX2_move 0 = .ok (.aload_n 0, 1) := by decide +kernel
theorem dX2_move_1 : decode cX2_move 1 = .ok (.getfield 43, 3) := by decide +kernel
theorem dX2_move_4 : decode cX2_move 4 = .ok (.iload_n 1, 1) := by decide +kernel
theorem dX2_move_5 : decode cX2_move 5 = .ok (.invokevirtual 131, 3) := by decide +kernel
theorem dX2_move_8 : decode cX2_move 8 = .ok (.ifCond .ne 13, 3) := by decide +kernel
theorem dX2_move_11 : decode cX2_move 11 = .ok (.new 135, 3) := by decide +kernel
theorem dX2_move_14 : decode cX2_move 14 = .ok (.dup, 1) := by decide +kernel
theorem dX2_move_15 : decode cX2_move 15 = .ok (.ldc 137, 2) := by decide +kernel
theorem dX2_move_17 : decode cX2_move 17 = .ok (.invokespecial 139, 3) := by decide +kernel
theorem dX2_move_20 : decode cX2_move 20 = .ok (.athrow, 1) := by decide +kernel
theorem dX2_move_21 : decode cX2_move 21 = .ok (.iload_n 2, 1) := by decide +kernel
theorem dX2_move_22 : decode cX2_move 22 = .ok (.iconst 0, 1) := by decide +kernel
theorem dX2_move_23 : decode cX2_move 23 = .ok (.iconst 2, 1) := by decide +kernel
theorem dX2_move_24 : decode cX2_move 24 = .ok (.invokestatic 64, 3) := by decide +kernel
theorem dX2_move_27 : decode cX2_move 27 = .ok (.iload_n 2, 1) := by decide +kernel
theorem dX2_move_28 : decode cX2_move 28 = .ok (.lookupswitch 46 #[(0, 28), (1, 37)], 28) := by decide +kernel
theorem dX2_move_56 : decode cX2_move 56 = .ok (.aload_n 0, 1) := by decide +kernel
theorem dX2_move_57 : decode cX2_move 57 = .ok (.getfield 43, 3) := by decide +kernel
theorem dX2_move_60 : decode cX2_move 60 = .ok (.iload_n 1, 1) := by decide +kernel
theorem dX2_move_61 : decode cX2_move 61 = .ok (.invokevirtual 140, 3) := by decide +kernel
theorem dX2_move_64 : decode cX2_move 64 = .ok (.ireturn, 1) := by decide +kernel
theorem dX2_move_65 : decode cX2_move 65 = .ok (.aload_n 0, 1) := by decide +kernel
theorem dX2_move_66 : decode cX2_move 66 = .ok (.getfield 43, 3) := by decide +kernel
theorem dX2_move_69 : decode cX2_move 69 = .ok (.iload_n 1, 1) := by decide +kernel
theorem dX2_move_70 : decode cX2_move 70 = .ok (.invokevirtual 143, 3) := by decide +kernel
theorem dX2_move_73 : decode cX2_move 73 = .ok (.ireturn, 1) := by decide +kernel
theorem dX2_move_74 : decode cX2_move 74 = .ok (.aload_n 0, 1) := by decide +kernel
theorem dX2_move_75 : decode cX2_move 75 = .ok (.getfield 43, 3) := by decide +kernel
theorem dX2_move_78 : decode cX2_move 78 = .ok (.iload_n 1, 1) := by decide +kernel
theorem dX2_move_79 : decode cX2_move 79 = .ok (.invokevirtual 146, 3) := by decide +kernel
theorem dX2_move_82 : decode cX2_move 82 = .ok (.ireturn, 1) := by decide +kernel
theorem dX2_way_0 : decode cX2_way 0 = .ok (.aload_n 0, 1) := by decide +kernel
theorem dX2_way_1 : decode cX2_way 1 = .ok (.getfield 43, 3) := by decide +kernel
theorem dX2_way_4 : decode cX2_way 4 = .ok (.getfield 149, 3) := by decide +kernel
theorem dX2_way_7 : decode cX2_way 7 = .ok (.lreturn, 1) := by decide +kernel
theorem dX2_repeat_0 : decode cX2_repeat 0 = .ok (.iload_n 1, 1) := by decide +kernel
theorem dX2_repeat_1 : decode cX2_repeat 1 = .ok (.iconst 1, 1) := by decide +kernel
theorem dX2_repeat_2 : decode cX2_repeat 2 = .ok (.bipush 20, 2) := by decide +kernel
theorem dX2_repeat_4 : decode cX2_repeat 4 = .ok (.invokestatic 64, 3) := by decide +kernel
theorem dX2_repeat_7 : decode cX2_repeat 7 = .ok (.iload_n 2, 1) := by decide +kernel
theorem dX2_repeat_8 : decode cX2_repeat 8 = .ok (.iconst 1, 1) := by decide +kernel
theorem dX2_repeat_9 : decode cX2_repeat 9 = .ok (.bipush 20, 2) := by decide +kernel
theorem dX2_repeat_11 : decode cX2_repeat 11 = .ok (.invokestatic 64, 3) := by decide +kernel
theorem dX2_repeat_14 : decode cX2_repeat 14 = .ok (.iconst 0, 1) := by decide +kernel
theorem dX2_repeat_15 : decode cX2_repeat 15 = .ok (.istore_n 3, 1) := by decide +kernel
theorem dX2_repeat_16 : decode cX2_repeat 16 = .ok (.iconst 0, 1) := by decide +kernel
theorem dX2_repeat_17 : decode cX2_repeat 17 = .ok (.istore 4, 2) := by decide +kernel
theorem dX2_repeat_19 : decode cX2_repeat 19 = .ok (.iload 4, 2) := by decide +kernel
theorem dX2_repeat_21 : decode cX2_repeat 21 = .ok (.aload_n 0, 1) := by decide +kernel
theorem dX2_repeat_22 : decode cX2_repeat 22 = .ok (.getfield 17, 3) := by decide +kernel
theorem dX2_repeat_25 : decode cX2_repeat 25 = .ok (.if_icmp .ge 62, 3) := by decide +kernel
theorem dX2_repeat_28 : decode cX2_repeat 28 = .ok (.iconst 0, 1) := by decide +kernel
theorem dX2_repeat_29 : decode cX2_repeat 29 = .ok (.istore 5, 2) := by decide +kernel
theorem dX2_repeat_31 : decode cX2_repeat 31 = .ok (.iload 5, 2) := by decide +kernel
theorem dX2_repeat_33 : decode cX2_repeat 33 = .ok (.aload_n 0, 1) := by decide +kernel
theorem dX2_repeat_34 : decode cX2_repeat 34 = .ok (.getfield 13, 3) := by decide +kernel
theorem dX2_repeat_37 : decode cX2_repeat 37 = .ok (.if_icmp .ge 44, 3) := by decide +kernel
theorem dX2_repeat_40 : decode cX2_repeat 40 = .ok (.aload_n 0, 1) := by decide +kernel
theorem dX2_repeat_41 : decode cX2_repeat 41 = .ok (.aload_n 0, 1) := by decide +kernel
theorem dX2_repeat_42 : decode cX2_repeat 42 = .ok (.iload 5, 2) := by decide +kernel
theorem dX2_repeat_44 : decode cX2_repeat 44 = .ok (.iload 4, 2) := by decide +kernel
theorem dX2_repeat_46 : decode cX2_repeat 46 = .ok (.invokevirtual 68, 3) := by decide +kernel
theorem dX2_repeat_49 : decode cX2_repeat 49 = .ok (.aload_n 0, 1) := by decide +kernel
theorem dX2_repeat_50 : decode cX2_repeat 50 = .ok (.getfield 20, 3) := by decide +kernel
theorem dX2_repeat_53 : decode cX2_repeat 53 = .ok (.aload_n 0, 1) := by decide +kernel
theorem dX2_repeat_54 : decode cX2_repeat 54 = .ok (.iload 5, 2) := by decide +kernel
theorem dX2_repeat_56 : decode cX2_repeat 56 = .ok (.iload_n 1, 1) := by decide +kernel
theorem dX2_repeat_57 : decode cX2_repeat 57 = .ok (.irem, 1) := by decide +kernel
theorem dX2_repeat_58 : decode cX2_repeat 58 = .ok (.iload 4, 2) := by decide +kernel
theorem dX2_repeat_60 : decode cX2_repeat 60 = .ok (.iload_n 2, 1) := by decide +kernel
theorem dX2_repeat_61 : decode cX2_repeat 61 = .ok (.irem, 1) := by decide +kernel
theorem dX2_repeat_62 : decode cX2_repeat 62 = .ok (.invokevirtual 68, 3) := by decide +kernel
theorem dX2_repeat_65 : decode cX2_repeat 65 = .ok (.iaload, 1) := by decide +kernel
theorem dX2_repeat_66 : decode cX2_repeat 66 = .ok (.invokevirtual 72, 3) := by decide +kernel
theorem dX2_repeat_69 : decode cX2_repeat 69 = .ok (.ifCond .eq 6, 3) := by decide +kernel
theorem dX2_repeat_72 : decode cX2_repeat 72 = .ok (.iinc 3 1, 3) := by decide +kernel
theorem dX2_repeat_75 : decode cX2_repeat 75 = .ok (.iinc 5 1, 3) := by decide +kernel
theorem dX2_repeat_78 : decode cX2_repeat 78 = .ok (.goto (-47), 3) := by decide +kernel
theorem dX2_repeat_81 : decode cX2_repeat 81 = .ok (.iinc 4 1, 3) := by decide +kernel
theorem dX2_repeat_84 : decode cX2_repeat 84 = .ok (.goto (-65), 3) := by decide +kernel
theorem dX2_repeat_87 : decode cX2_repeat 87 = .ok (.iload_n 3, 1) := by decide +kernel
theorem dX2_repeat_88 : decode cX2_repeat 88 = .ok (.ireturn, 1) := by decide +kernel
theorem dX2_merge_0 : decode cX2_merge 0 = .ok (.iload_n 1, 1) := by decide +kernel
theorem dX2_merge_1 : decode cX2_merge 1 = .ok (.iconst 0, 1) := by decide +kernel
theorem dX2_merge_2 : decode cX2_merge 2 = .ok (.iconst 3, 1) := by decide +kernel
theorem dX2_merge_3 : decode cX2_merge 3 = .ok (.invokestatic 64, 3) := by decide +kernel
theorem dX2_merge_6 : decode cX2_merge 6 = .ok (.iload_n 2, 1) := by decide +kernel
theorem dX2_merge_7 : decode cX2_merge 7 = .ok (.iconst 0, 1) := by decide +kernel
theorem dX2_merge_8 : decode cX2_merge 8 = .ok (.sipush 1000, 3) := by decide +kernel
theorem dX2_merge_11 : decode cX2_merge 11 = .ok (.invokestatic 64, 3) := by decide +kernel
theorem dX2_merge_14 : decode cX2_merge 14 = .ok (.iload_n 1, 1) := by decide +kernel
theorem dX2_merge_15 : decode cX2_merge 15 = .ok (.ifCond .ne 28, 3) := by decide +kernel
theorem dX2_merge_18 : decode cX2_merge 18 = .ok (.aload_n 0, 1) := by decide +kernel
theorem dX2_merge_19 : decode cX2_merge 19 = .ok (.getfield 20, 3) := by decide +kernel
theorem dX2_merge_22 : decode cX2_merge 22 = .ok (.iconst 0, 1) := by decide +kernel
theorem dX2_merge_23 : decode cX2_merge 23 = .ok (.aload_n 0, 1) := by decide +kernel
theorem dX2_merge_24 : decode cX2_merge 24 = .ok (.getfield 27, 3) := by decide +kernel
theorem dX2_merge_27 : decode cX2_merge 27 = .ok (.iconst 0, 1) := by decide +kernel
theorem dX2_merge_28 : decode cX2_merge 28 = .ok (.aload_n 0, 1) := by decide +kernel
theorem dX2_merge_29 : decode cX2_merge 29 = .ok (.getfield 20, 3) := by decide +kernel
theorem dX2_merge_32 : decode cX2_merge 32 = .ok (.arraylength, 1) := by decide +kernel
theorem dX2_merge_33 : decode cX2_merge 33 = .ok (.invokestatic 153, 3) := by decide +kernel
theorem dX2_merge_36 : decode cX2_merge 36 = .ok (.aload_n 0, 1) := by decide +kernel
theorem dX2_merge_37 : decode cX2_merge 37 = .ok (.iconst 1, 1) := by decide +kernel
theorem dX2_merge_38 : decode cX2_merge 38 = .ok (.putfield 47, 3) := by decide +kernel
theorem dX2_merge_41 : decode cX2_merge 41 = .ok (.iconst 0, 1) := by decide +kernel
theorem dX2_merge_42 : decode cX2_merge 42 = .ok (.ireturn, 1) := by decide +kernel
theorem dX2_merge_43 : decode cX2_merge 43 = .ok (.aload_n 0, 1) := by decide +kernel
theorem dX2_merge_44 : decode cX2_merge 44 = .ok (.getfield 47, 3) := by decide +kernel
theorem dX2_merge_47 : decode cX2_merge 47 = .ok (.ifCond .ne 13, 3) := by decide +kernel
theorem dX2_merge_50 : decode cX2_merge 50 = .ok (.new 87, 3) := by decide +kernel
theorem dX2_merge_53 : decode cX2_merge 53 = .ok (.dup, 1) := by decide +kernel
theorem dX2_merge_54 : decode cX2_merge 54 = .ok (.ldc 159, 2) := by decide +kernel
theorem dX2_merge_56 : decode cX2_merge 56 = .ok (.invokespecial 91, 3) := by decide +kernel
theorem dX2_merge_59 : decode cX2_merge 59 = .ok (.athrow, 1) := by decide +kernel
theorem dX2_merge_60 : decode cX2_merge 60 = .ok (.iconst 0, 1) := by decide +kernel
theorem dX2_merge_61 : decode cX2_merge 61 = .ok (.istore_n 3, 1) := by decide +kernel
theorem dX2_merge_62 : decode cX2_merge 62 = .ok (.iconst 0, 1) := by decide +kernel
theorem dX2_merge_63 : decode cX2_merge 63 = .ok (.istore 4, 2) := by decide +kernel
theorem dX2_merge_65 : decode cX2_merge 65 = .ok (.iload 4, 2) := by decide +kernel
theorem dX2_merge_67 : decode cX2_merge 67 = .ok (.aload_n 0, 1) := by decide +kernel
theorem dX2_merge_68 : decode cX2_merge 68 = .ok (.getfield 20, 3) := by decide +kernel
theorem dX2_merge_71 : decode cX2_merge 71 = .ok (.arraylength, 1) := by decide +kernel
theorem dX2_merge_72 : decode cX2_merge 72 = .ok (.if_icmp .ge 40, 3) := by decide +kernel
theorem dX2_merge_75 : decode cX2_merge 75 = .ok (.aload_n 0, 1) := by decide +kernel
theorem dX2_merge_76 : decode cX2_merge 76 = .ok (.iload 4, 2) := by decide +kernel
theorem dX2_merge_78 : decode cX2_merge 78 = .ok (.iload_n 1, 1) := by decide +kernel
theorem dX2_merge_79 : decode cX2_merge 79 = .ok (.aload_n 0, 1) := by decide +kernel
theorem dX2_merge_80 : decode cX2_merge 80 = .ok (.getfield 20, 3) := by decide +kernel
theorem dX2_merge_83 : decode cX2_merge 83 = .ok (.iload 4, 2) := by decide +kernel
theorem dX2_merge_85 : decode cX2_merge 85 = .ok (.iaload, 1) := by decide +kernel
theorem dX2_merge_86 : decode cX2_merge 86 = .ok (.aload_n 0, 1) := by decide +kernel
theorem dX2_merge_87 : decode cX2_merge 87 = .ok (.getfield 27, 3) := by decide +kernel
theorem dX2_merge_90 : decode cX2_merge 90 = .ok (.iload 4, 2) := by decide +kernel
theorem dX2_merge_92 : decode cX2_merge 92 = .ok (.iaload, 1) := by decide +kernel
theorem dX2_merge_93 : decode cX2_merge 93 = .ok (.iload_n 2, 1) := by decide +kernel
theorem dX2_merge_94 : decode cX2_merge 94 = .ok (.invokestatic 161, 3) := by decide +kernel
theorem dX2_merge_97 : decode cX2_merge 97 = .ok (.invokevirtual 72, 3) := by decide +kernel
theorem dX2_merge_100 : decode cX2_merge 100 = .ok (.ifCond .eq 6, 3) := by decide +kernel
theorem dX2_merge_103 : decode cX2_merge 103 = .ok (.iinc 3 1, 3) := by decide +kernel
theorem dX2_merge_106 : decode cX2_merge 106 = .ok (.iinc 4 1, 3) := by decide +kernel
theorem dX2_merge_109 : decode cX2_merge 109 = .ok (.goto (-44), 3) := by decide +kernel
theorem dX2_merge_112 : decode cX2_merge 112 = .ok (.iload_n 3, 1) := by decide +kernel
theorem dX2_merge_113 : decode cX2_merge 113 = .ok (.ireturn, 1) := by decide +kernel
theorem dX2_needPlace_0 : decode cX2_needPlace 0 = .ok (.iload_n 1, 1) := by decide +kernel
theorem dX2_needPlace_1 : decode cX2_needPlace 1 = .ok (.iconst 0, 1) := by decide +kernel
theorem dX2_needPlace_2 : decode cX2_needPlace 2 = .ok (.aload_n 0, 1) := by decide +kernel
theorem dX2_needPlace_3 : decode cX2_needPlace 3 = .ok (.getfield 13, 3) := by decide +kernel
theorem dX2_needPlace_6 : decode cX2_needPlace 6 = .ok (.iconst 1, 1) := by decide +kernel
theorem dX2_needPlace_7 : decode cX2_needPlace 7 = .ok (.isub, 1) := by decide +kernel
theorem dX2_needPlace_8 : decode cX2_needPlace 8 = .ok (.invokestatic 165, 3) := by decide +kernel
theorem dX2_needPlace_11 : decode cX2_needPlace 11 = .ok (.ifCond .eq 17, 3) := by decide +kernel
theorem dX2_needPlace_14 : decode cX2_needPlace 14 = .ok (.iload_n 2, 1) := by decide +kernel
theorem dX2_needPlace_15 : decode cX2_needPlace 15 = .ok (.iconst 0, 1) := by decide +kernel
theorem dX2_needPlace_16 : decode cX2_needPlace 16 = .ok (.aload_n 0, 1) := by decide +kernel
theorem dX2_needPlace_17 : decode cX2_needPlace 17 = .ok (.getfield 17, 3) := by decide +kernel
theorem dX2_needPlace_20 : decode cX2_needPlace 20 = .ok (.iconst 1, 1) := by decide +kernel
theorem dX2_needPlace_21 : decode cX2_needPlace 21 = .ok (.isub, 1) := by decide +kernel
theorem dX2_needPlace_22 : decode cX2_needPlace 22 = .ok (.invokestatic 165, 3) := by decide +kernel
theorem dX2_needPlace_25 : decode cX2_needPlace 25 = .ok (.ifCond .ne 13, 3) := by decide +kernel
theorem dX2_needPlace_28 : decode cX2_needPlace 28 = .ok (.new 135, 3) := by decide +kernel
theorem dX2_needPlace_31 : decode cX2_needPlace 31 = .ok (.dup, 1) := by decide +kernel
theorem dX2_needPlace_32 : decode cX2_needPlace 32 = .ok (.ldc 169, 2) := by decide +kernel
theorem dX2_needPlace_34 : decode cX2_needPlace 34 = .ok (.invokespecial 139, 3) := by decide +kernel
theorem dX2_needPlace_37 : decode cX2_needPlace 37 = .ok (.athrow, 1) := by decide +kernel
theorem dX2_needPlace_38 : decode cX2_needPlace 38 = .ok (.return_, 1) := by decide +kernel
theorem dX2_needTool_0 : decode cX2_needTool 0 = .ok (.iload_n 0, 1) := by decide +kernel
theorem dX2_needTool_1 : decode cX2_needTool 1 = .ok (.iconst 0, 1) := by decide +kernel
theorem dX2_needTool_2 : decode cX2_needTool 2 = .ok (.iconst 3, 1) := by decide +kernel
theorem dX2_needTool_3 : decode cX2_needTool 3 = .ok (.invokestatic 165, 3) := by decide +kernel
theorem dX2_needTool_6 : decode cX2_needTool 6 = .ok (.ifCond .ne 13, 3) := by decide +kernel
theorem dX2_needTool_9 : decode cX2_needTool 9 = .ok (.new 135, 3) := by decide +kernel
theorem dX2_needTool_12 : decode cX2_needTool 12 = .ok (.dup, 1) := by decide +kernel
theorem dX2_needTool_13 : decode cX2_needTool 13 = .ok (.ldc 171, 2) := by decide +kernel
theorem dX2_needTool_15 : decode cX2_needTool 15 = .ok (.invokespecial 139, 3) := by decide +kernel
theorem dX2_needTool_18 : decode cX2_needTool 18 = .ok (.athrow, 1) := by decide +kernel
theorem dX2_needTool_19 : decode cX2_needTool 19 = .ok (.return_, 1) := by decide +kernel
theorem dX2_needWithin_0 : decode cX2_needWithin 0 = .ok (.iload_n 0, 1) := by decide +kernel
theorem dX2_needWithin_1 : decode cX2_needWithin 1 = .ok (.iload_n 1, 1) := by decide +kernel
theorem dX2_needWithin_2 : decode cX2_needWithin 2 = .ok (.iload_n 2, 1) := by decide +kernel
theorem dX2_needWithin_3 : decode cX2_needWithin 3 = .ok (.invokestatic 165, 3) := by decide +kernel
theorem dX2_needWithin_6 : decode cX2_needWithin 6 = .ok (.ifCond .ne 13, 3) := by decide +kernel
theorem dX2_needWithin_9 : decode cX2_needWithin 9 = .ok (.new 173, 3) := by decide +kernel
theorem dX2_needWithin_12 : decode cX2_needWithin 12 = .ok (.dup, 1) := by decide +kernel
theorem dX2_needWithin_13 : decode cX2_needWithin 13 = .ok (.ldc 175, 2) := by decide +kernel
theorem dX2_needWithin_15 : decode cX2_needWithin 15 = .ok (.invokespecial 177, 3) := by decide +kernel
theorem dX2_needWithin_18 : decode cX2_needWithin 18 = .ok (.athrow, 1) := by decide +kernel
theorem dX2_needWithin_19 : decode cX2_needWithin 19 = .ok (.return_, 1) := by decide +kernel
theorem dX2_isWithin_0 : decode cX2_isWithin 0 = .ok (.iload_n 0, 1) := by decide +kernel
theorem dX2_isWithin_1 : decode cX2_isWithin 1 = .ok (.iload_n 1, 1) := by decide +kernel
theorem dX2_isWithin_2 : decode cX2_isWithin 2 = .ok (.if_icmp .lt 12, 3) := by decide +kernel
theorem dX2_isWithin_5 : decode cX2_isWithin 5 = .ok (.iload_n 0, 1) := by decide +kernel
theorem dX2_isWithin_6 : decode cX2_isWithin 6 = .ok (.iload_n 2, 1) := by decide +kernel
theorem dX2_isWithin_7 : decode cX2_isWithin 7 = .ok (.if_icmp .gt 7, 3) := by decide +kernel
theorem dX2_isWithin_10 : decode cX2_isWithin 10 = .ok (.iconst 1, 1) := by decide +kernel
theorem dX2_isWithin_11 : decode cX2_isWithin 11 = .ok (.goto 4, 3) := by decide +kernel
theorem dX2_isWithin_14 : decode cX2_isWithin 14 = .ok (.iconst 0, 1) := by decide +kernel
theorem dX2_isWithin_15 : decode cX2_isWithin 15 = .ok (.ireturn, 1) := by decide +kernel
theorem dX2_nearest_0 : decode cX2_nearest 0 = .ok (.iload_n 1, 1) := by decide +kernel
theorem dX2_nearest_1 : decode cX2_nearest 1 = .ok (.iload_n 2, 1) := by decide +kernel
theorem dX2_nearest_2 : decode cX2_nearest 2 = .ok (.iload_n 0, 1) := by decide +kernel
theorem dX2_nearest_3 : decode cX2_nearest 3 = .ok (.invokestatic 178, 3) := by decide +kernel
theorem dX2_nearest_6 : decode cX2_nearest 6 = .ok (.invokestatic 123, 3) := by decide +kernel
theorem dX2_nearest_9 : decode cX2_nearest 9 = .ok (.ireturn, 1) := by decide +kernel
theorem dX2_placeAt_0 : decode cX2_placeAt 0 = .ok (.iload_n 2, 1) := by decide +kernel
theorem dX2_placeAt_1 : decode cX2_placeAt 1 = .ok (.aload_n 0, 1) := by decide +kernel
theorem dX2_placeAt_2 : decode cX2_placeAt 2 = .ok (.getfield 13, 3) := by decide +kernel
theorem dX2_placeAt_5 : decode cX2_placeAt 5 = .ok (.imul, 1) := by decide +kernel
theorem dX2_placeAt_6 : decode cX2_placeAt 6 = .ok (.iload_n 1, 1) := by decide +kernel
theorem dX2_placeAt_7 : decode cX2_placeAt 7 = .ok (.iadd, 1) := by decide +kernel
theorem dX2_placeAt_8 : decode cX2_placeAt 8 = .ok (.ireturn, 1) := by decide +kernel
theorem dX2_leftAt_0 : decode cX2_leftAt 0 = .ok (.aload_n 0, 1) := by decide +kernel
theorem dX2_leftAt_1 : decode cX2_leftAt 1 = .ok (.getfield 24, 3) := by decide +kernel
theorem dX2_leftAt_4 : decode cX2_leftAt 4 = .ok (.iload_n 1, 1) := by decide +kernel
theorem dX2_leftAt_5 : decode cX2_leftAt 5 = .ok (.iaload, 1) := by decide +kernel
theorem dX2_leftAt_6 : decode cX2_leftAt 6 = .ok (.aload_n 0, 1) := by decide +kernel
theorem dX2_leftAt_7 : decode cX2_leftAt 7 = .ok (.getfield 20, 3) := by decide +kernel
theorem dX2_leftAt_10 : decode cX2_leftAt 10 = .ok (.iload_n 1, 1) := by decide +kernel
theorem dX2_leftAt_11 : decode cX2_leftAt 11 = .ok (.iaload, 1) := by decide +kernel
theorem dX2_leftAt_12 : decode cX2_leftAt 12 = .ok (.isub, 1) := by decide +kernel
theorem dX2_leftAt_13 : decode cX2_leftAt 13 = .ok (.ireturn, 1) := by decide +kernel
theorem dX2_setWanted_0 : decode cX2_setWanted 0 = .ok (.aload_n 0, 1) := by decide +kernel
theorem dX2_setWanted_1 : decode cX2_setWanted 1 = .ok (.getfield 20, 3) := by decide +kernel
theorem dX2_setWanted_4 : decode cX2_setWanted 4 = .ok (.iload_n 1, 1) := by decide +kernel
theorem dX2_setWanted_5 : decode cX2_setWanted 5 = .ok (.iaload, 1) := by decide +kernel
theorem dX2_setWanted_6 : decode cX2_setWanted 6 = .ok (.iload_n 2, 1) := by decide +kernel
theorem dX2_setWanted_7 : decode cX2_setWanted 7 = .ok (.if_icmp .eq 7, 3) := by decide +kernel
theorem dX2_setWanted_10 : decode cX2_setWanted 10 = .ok (.iconst 1, 1) := by decide +kernel
theorem dX2_setWanted_11 : decode cX2_setWanted 11 = .ok (.goto 4, 3) := by decide +kernel
theorem dX2_setWanted_14 : decode cX2_setWanted 14 = .ok (.iconst 0, 1) := by decide +kernel
theorem dX2_setWanted_15 : decode cX2_setWanted 15 = .ok (.istore_n 3, 1) := by decide +kernel
theorem dX2_setWanted_16 : decode cX2_setWanted 16 = .ok (.aload_n 0, 1) := by decide +kernel
theorem dX2_setWanted_17 : decode cX2_setWanted 17 = .ok (.getfield 20, 3) := by decide +kernel
theorem dX2_setWanted_20 : decode cX2_setWanted 20 = .ok (.iload_n 1, 1) := by decide +kernel
theorem dX2_setWanted_21 : decode cX2_setWanted 21 = .ok (.iload_n 2, 1) := by decide +kernel
theorem dX2_setWanted_22 : decode cX2_setWanted 22 = .ok (.iastore, 1) := by decide +kernel
theorem dX2_setWanted_23 : decode cX2_setWanted 23 = .ok (.iload_n 3, 1) := by decide +kernel
theorem dX2_setWanted_24 : decode cX2_setWanted 24 = .ok (.ireturn, 1) := by decide +kernel
theorem dX2_greatestWanted_0 : decode cX2_greatestWanted 0 = .ok (.iconst 0, 1) := by decide +kernel
theorem dX2_greatestWanted_1 : decode cX2_greatestWanted 1 = .ok (.istore_n 1, 1) := by decide +kernel
theorem dX2_greatestWanted_2 : decode cX2_greatestWanted 2 = .ok (.aload_n 0, 1) := by decide +kernel
theorem dX2_greatestWanted_3 : decode cX2_greatestWanted 3 = .ok (.getfield 20, 3) := by decide +kernel
theorem dX2_greatestWanted_6 : decode cX2_greatestWanted 6 = .ok (.astore_n 2, 1) := by decide +kernel
theorem dX2_greatestWanted_7 : decode cX2_greatestWanted 7 = .ok (.aload_n 2, 1) := by decide +kernel
theorem dX2_greatestWanted_8 : decode cX2_greatestWanted 8 = .ok (.arraylength, 1) := by decide +kernel
theorem dX2_greatestWanted_9 : decode cX2_greatestWanted 9 = .ok (.istore_n 3, 1) := by decide +kernel
theorem dX2_greatestWanted_10 : decode cX2_greatestWanted 10 = .ok (.iconst 0, 1) := by decide +kernel
theorem dX2_greatestWanted_11 : decode cX2_greatestWanted 11 = .ok (.istore 4, 2) := by decide +kernel
theorem dX2_greatestWanted_13 : decode cX2_greatestWanted 13 = .ok (.iload 4, 2) := by decide +kernel
theorem dX2_greatestWanted_15 : decode cX2_greatestWanted 15 = .ok (.iload_n 3, 1) := by decide +kernel
theorem dX2_greatestWanted_16 : decode cX2_greatestWanted 16 = .ok (.if_icmp .ge 22, 3) := by decide +kernel
theorem dX2_greatestWanted_19 : decode cX2_greatestWanted 19 = .ok (.aload_n 2, 1) := by decide +kernel
theorem dX2_greatestWanted_20 : decode cX2_greatestWanted 20 = .ok (.iload 4, 2) := by decide +kernel
theorem dX2_greatestWanted_22 : decode cX2_greatestWanted 22 = .ok (.iaload, 1) := by decide +kernel
theorem dX2_greatestWanted_23 : decode cX2_greatestWanted 23 = .ok (.istore 5, 2) := by decide +kernel
theorem dX2_greatestWanted_25 : decode cX2_greatestWanted 25 = .ok (.iload_n 1, 1) := by decide +kernel
theorem dX2_greatestWanted_26 : decode cX2_greatestWanted 26 = .ok (.iload 5, 2) := by decide +kernel
theorem dX2_greatestWanted_28 : decode cX2_greatestWanted 28 = .ok (.invokestatic 123, 3) := by decide +kernel
theorem dX2_greatestWanted_31 : decode cX2_greatestWanted 31 = .ok (.istore_n 1, 1) := by decide +kernel
theorem dX2_greatestWanted_32 : decode cX2_greatestWanted 32 = .ok (.iinc 4 1, 3) := by decide +kernel
theorem dX2_greatestWanted_35 : decode cX2_greatestWanted 35 = .ok (.goto (-22), 3) := by decide +kernel
theorem dX2_greatestWanted_38 : decode cX2_greatestWanted 38 = .ok (.iload_n 1, 1) := by decide +kernel
theorem dX2_greatestWanted_39 : decode cX2_greatestWanted 39 = .ok (.ireturn, 1) := by decide +kernel
theorem dX2_merged_0 : decode cX2_merged 0 = .ok (.iload_n 0, 1) := by decide +kernel
theorem dX2_merged_1 : decode cX2_merged 1 = .ok (.lookupswitch 39 #[(1, 27), (2, 33)], 27) := by decide +kernel
theorem dX2_merged_28 : decode cX2_merged 28 = .ok (.iload_n 1, 1) := by decide +kernel
theorem dX2_merged_29 : decode cX2_merged 29 = .ok (.iload_n 2, 1) := by decide +kernel
theorem dX2_merged_30 : decode cX2_merged 30 = .ok (.invokestatic 123, 3) := by decide +kernel
theorem dX2_merged_33 : decode cX2_merged 33 = .ok (.ireturn, 1) := by decide +kernel
theorem dX2_merged_34 : decode cX2_merged 34 = .ok (.iload_n 1, 1) := by decide +kernel
theorem dX2_merged_35 : decode cX2_merged 35 = .ok (.iload_n 2, 1) := by decide +kernel
theorem dX2_merged_36 : decode cX2_merged 36 = .ok (.invokestatic 178, 3) := by decide +kernel
theorem dX2_merged_39 : decode cX2_merged 39 = .ok (.ireturn, 1) := by decide +kernel
theorem dX2_merged_40 : decode cX2_merged 40 = .ok (.iload_n 1, 1) := by decide +kernel
theorem dX2_merged_41 : decode cX2_merged 41 = .ok (.iload_n 2, 1) := by decide +kernel
theorem dX2_merged_42 : decode cX2_merged 42 = .ok (.iadd, 1) := by decide +kernel
theorem dX2_merged_43 : decode cX2_merged 43 = .ok (.iload_n 3, 1) := by decide +kernel
theorem dX2_merged_44 : decode cX2_merged 44 = .ok (.isub, 1) := by decide +kernel
theorem dX2_merged_45 : decode cX2_merged 45 = .ok (.iconst 0, 1) := by decide +kernel
theorem dX2_merged_46 : decode cX2_merged 46 = .ok (.sipush 1000, 3) := by decide +kernel
theorem dX2_merged_49 : decode cX2_merged 49 = .ok (.invokestatic 9, 3) := by decide +kernel
theorem dX2_merged_52 : decode cX2_merged 52 = .ok (.ireturn, 1) := by decide +kernel
theorem dX2_liftOver_0 : decode cX2_liftOver 0 = .ok (.iconst 0, 1) := by decide +kernel
theorem dX2_liftOver_1 : decode cX2_liftOver 1 = .ok (.istore 4, 2) := by decide +kernel
theorem dX2_liftOver_3 : decode cX2_liftOver 3 = .ok (.aload_n 0, 1) := by decide +kernel
theorem dX2_liftOver_4 : decode cX2_liftOver 4 = .ok (.getfield 13, 3) := by decide +kernel
theorem dX2_liftOver_7 : decode cX2_liftOver 7 = .ok (.iconst 1, 1) := by decide +kernel
theorem dX2_liftOver_8 : decode cX2_liftOver 8 = .ok (.isub, 1) := by decide +kernel
theorem dX2_liftOver_9 : decode cX2_liftOver 9 = .ok (.iload_n 2, 1) := by decide +kernel
theorem dX2_liftOver_10 : decode cX2_liftOver 10 = .ok (.aload_n 1, 1) := by decide +kernel
theorem dX2_liftOver_11 : decode cX2_liftOver 11 = .ok (.getfield 181, 3) := by decide +kernel
theorem dX2_liftOver_14 : decode cX2_liftOver 14 = .ok (.iadd, 1) := by decide +kernel
theorem dX2_liftOver_15 : decode cX2_liftOver 15 = .ok (.invokestatic 178, 3) := by decide +kernel
theorem dX2_liftOver_18 : decode cX2_liftOver 18 = .ok (.istore 5, 2) := by decide +kernel
theorem dX2_liftOver_20 : decode cX2_liftOver 20 = .ok (.aload_n 0, 1) := by decide +kernel
theorem dX2_liftOver_21 : decode cX2_liftOver 21 = .ok (.getfield 17, 3) := by decide +kernel
theorem dX2_liftOver_24 : decode cX2_liftOver 24 = .ok (.iconst 1, 1) := by decide +kernel
theorem dX2_liftOver_25 : decode cX2_liftOver 25 = .ok (.isub, 1) := by decide +kernel
theorem dX2_liftOver_26 : decode cX2_liftOver 26 = .ok (.iload_n 3, 1) := by decide +kernel
theorem dX2_liftOver_27 : decode cX2_liftOver 27 = .ok (.aload_n 1, 1) := by decide +kernel
theorem dX2_liftOver_28 : decode cX2_liftOver 28 = .ok (.getfield 181, 3) := by decide +kernel
theorem dX2_liftOver_31 : decode cX2_liftOver 31 = .ok (.iadd, 1) := by decide +kernel
theorem dX2_liftOver_32 : decode cX2_liftOver 32 = .ok (.invokestatic 178, 3) := by decide +kernel
theorem dX2_liftOver_35 : decode cX2_liftOver 35 = .ok (.istore 6, 2) := by decide +kernel
theorem dX2_liftOver_37 : decode cX2_liftOver 37 = .ok (.iconst 0, 1) := by decide +kernel
theorem dX2_liftOver_38 : decode cX2_liftOver 38 = .ok (.iload_n 3, 1) := by decide +kernel
theorem dX2_liftOver_39 : decode cX2_liftOver 39 = .ok (.aload_n 1, 1) := by decide +kernel
theorem dX2_liftOver_40 : decode cX2_liftOver 40 = .ok (.getfield 181, 3) := by decide +kernel
theorem dX2_liftOver_43 : decode cX2_liftOver 43 = .ok (.isub, 1) := by decide +kernel
theorem dX2_liftOver_44 : decode cX2_liftOver 44 = .ok (.invokestatic 123, 3) := by decide +kernel
theorem dX2_liftOver_47 : decode cX2_liftOver 47 = .ok (.istore 7, 2) := by decide +kernel
theorem dX2_liftOver_49 : decode cX2_liftOver 49 = .ok (.iload 7, 2) := by decide +kernel
theorem dX2_liftOver_51 : decode cX2_liftOver 51 = .ok (.iload 6, 2) := by decide +kernel
theorem dX2_liftOver_53 : decode cX2_liftOver 53 = .ok (.if_icmp .gt 77, 3) := by decide +kernel
theorem dX2_liftOver_56 : decode cX2_liftOver 56 = .ok (.iconst 0, 1) := by decide +kernel
theorem dX2_liftOver_57 : decode cX2_liftOver 57 = .ok (.iload_n 2, 1) := by decide +kernel
theorem dX2_liftOver_58 : decode cX2_liftOver 58 = .ok (.aload_n 1, 1) := by decide +kernel
theorem dX2_liftOver_59 : decode cX2_liftOver 59 = .ok (.getfield 181, 3) := by decide +kernel
theorem dX2_liftOver_62 : decode cX2_liftOver 62 = .ok (.isub, 1) := by decide +kernel
theorem dX2_liftOver_63 : decode cX2_liftOver 63 = .ok (.invokestatic 123, 3) := by decide +kernel
theorem dX2_liftOver_66 : decode cX2_liftOver 66 = .ok (.istore 8, 2) := by decide +kernel
theorem dX2_liftOver_68 : decode cX2_liftOver 68 = .ok (.iload 8, 2) := by decide +kernel
theorem dX2_liftOver_70 : decode cX2_liftOver 70 = .ok (.iload 5, 2) := by decide +kernel
theorem dX2_liftOver_72 : decode cX2_liftOver 72 = .ok (.if_icmp .gt 52, 3) := by decide +kernel
theorem dX2_liftOver_75 : decode cX2_liftOver 75 = .ok (.aload_n 1, 1) := by decide +kernel
theorem dX2_liftOver_76 : decode cX2_liftOver 76 = .ok (.iload 8, 2) := by decide +kernel
theorem dX2_liftOver_78 : decode cX2_liftOver 78 = .ok (.iload_n 2, 1) := by decide +kernel
theorem dX2_liftOver_79 : decode cX2_liftOver 79 = .ok (.isub, 1) := by decide +kernel
theorem dX2_liftOver_80 : decode cX2_liftOver 80 = .ok (.iload 7, 2) := by decide +kernel
theorem dX2_liftOver_82 : decode cX2_liftOver 82 = .ok (.iload_n 3, 1) := by decide +kernel
theorem dX2_liftOver_83 : decode cX2_liftOver 83 = .ok (.isub, 1) := by decide +kernel
theorem dX2_liftOver_84 : decode cX2_liftOver 84 = .ok (.invokevirtual 98, 3) := by decide +kernel
theorem dX2_liftOver_87 : decode cX2_liftOver 87 = .ok (.istore 9, 2) := by decide +kernel
theorem dX2_liftOver_89 : decode cX2_liftOver 89 = .ok (.iload 9, 2) := by decide +kernel
theorem dX2_liftOver_91 : decode cX2_liftOver 91 = .ok (.iconst (-1), 1) := by decide +kernel
theorem dX2_liftOver_92 : decode cX2_liftOver 92 = .ok (.if_icmp .eq 26, 3) := by decide +kernel
theorem dX2_liftOver_95 : decode cX2_liftOver 95 = .ok (.iload 4, 2) := by decide +kernel
theorem dX2_liftOver_97 : decode cX2_liftOver 97 = .ok (.aload_n 0, 1) := by decide +kernel
theorem dX2_liftOver_98 : decode cX2_liftOver 98 = .ok (.getfield 20, 3) := by decide +kernel
theorem dX2_liftOver_101 : decode cX2_liftOver 101 = .ok (.aload_n 0, 1) := by decide +kernel
theorem dX2_liftOver_102 : decode cX2_liftOver 102 = .ok (.iload 8, 2) := by decide +kernel
theorem dX2_liftOver_104 : decode cX2_liftOver 104 = .ok (.iload 7, 2) := by decide +kernel
theorem dX2_liftOver_106 : decode cX2_liftOver 106 = .ok (.invokevirtual 68, 3) := by decide +kernel
theorem dX2_liftOver_109 : decode cX2_liftOver 109 = .ok (.iaload, 1) := by decide +kernel
theorem dX2_liftOver_110 : decode cX2_liftOver 110 = .ok (.iload 9, 2) := by decide +kernel
theorem dX2_liftOver_112 : decode cX2_liftOver 112 = .ok (.isub, 1) := by decide +kernel
theorem dX2_liftOver_113 : decode cX2_liftOver 113 = .ok (.invokestatic 123, 3) := by decide +kernel
theorem dX2_liftOver_116 : decode cX2_liftOver 116 = .ok (.istore 4, 2) := by decide +kernel
theorem dX2_liftOver_118 : decode cX2_liftOver 118 = .ok (.iinc 8 1, 3) := by decide +kernel
theorem dX2_liftOver_121 : decode cX2_liftOver 121 = .ok (.goto (-53), 3) := by decide +kernel
theorem dX2_liftOver_124 : decode cX2_liftOver 124 = .ok (.iinc 7 1, 3) := by decide +kernel
theorem dX2_liftOver_127 : decode cX2_liftOver 127 = .ok (.goto (-78), 3) := by decide +kernel
theorem dX2_liftOver_130 : decode cX2_liftOver 130 = .ok (.iload 4, 2) := by decide +kernel
theorem dX2_liftOver_132 : decode cX2_liftOver 132 = .ok (.ireturn, 1) := by decide +kernel
theorem dX2_carve_0 : decode cX2_carve 0 = .ok (.aload_n 0, 1) := by decide +kernel
theorem dX2_carve_1 : decode cX2_carve 1 = .ok (.getfield 13, 3) := by decide +kernel
theorem dX2_carve_4 : decode cX2_carve 4 = .ok (.iconst 1, 1) := by decide +kernel
theorem dX2_carve_5 : decode cX2_carve 5 = .ok (.isub, 1) := by decide +kernel
theorem dX2_carve_6 : decode cX2_carve 6 = .ok (.iload_n 2, 1) := by decide +kernel
theorem dX2_carve_7 : decode cX2_carve 7 = .ok (.aload_n 1, 1) := by decide +kernel
theorem dX2_carve_8 : decode cX2_carve 8 = .ok (.getfield 181, 3) := by decide +kernel
theorem dX2_carve_11 : decode cX2_carve 11 = .ok (.iadd, 1) := by decide +kernel
theorem dX2_carve_12 : decode cX2_carve 12 = .ok (.invokestatic 178, 3) := by decide +kernel
theorem dX2_carve_15 : decode cX2_carve 15 = .ok (.istore 5, 2) := by decide +kernel
theorem dX2_carve_17 : decode cX2_carve 17 = .ok (.aload_n 0, 1) := by decide +kernel
theorem dX2_carve_18 : decode cX2_carve 18 = .ok (.getfield 17, 3) := by decide +kernel
theorem dX2_carve_21 : decode cX2_carve 21 = .ok (.iconst 1, 1) := by decide +kernel
theorem dX2_carve_22 : decode cX2_carve 22 = .ok (.isub, 1) := by decide +kernel
theorem dX2_carve_23 : decode cX2_carve 23 = .ok (.iload_n 3, 1) := by decide +kernel
theorem dX2_carve_24 : decode cX2_carve 24 = .ok (.aload_n 1, 1) := by decide +kernel
theorem dX2_carve_25 : decode cX2_carve 25 = .ok (.getfield 181, 3) := by decide +kernel
theorem dX2_carve_28 : decode cX2_carve 28 = .ok (.iadd, 1) := by decide +kernel
theorem dX2_carve_29 : decode cX2_carve 29 = .ok (.invokestatic 178, 3) := by decide +kernel
theorem dX2_carve_32 : decode cX2_carve 32 = .ok (.istore 6, 2) := by decide +kernel
theorem dX2_carve_34 : decode cX2_carve 34 = .ok (.iconst 0, 1) := by decide +kernel
theorem dX2_carve_35 : decode cX2_carve 35 = .ok (.iload_n 3, 1) := by decide +kernel
theorem dX2_carve_36 : decode cX2_carve 36 = .ok (.aload_n 1, 1) := by decide +kernel
theorem dX2_carve_37 : decode cX2_carve 37 = .ok (.getfield 181, 3) := by decide +kernel
theorem dX2_carve_40 : decode cX2_carve 40 = .ok (.isub, 1) := by decide +kernel
theorem dX2_carve_41 : decode cX2_carve 41 = .ok (.invokestatic 123, 3) := by decide +kernel
theorem dX2_carve_44 : decode cX2_carve 44 = .ok (.istore 7, 2) := by decide +kernel
theorem dX2_carve_46 : decode cX2_carve 46 = .ok (.iload 7, 2) := by decide +kernel
theorem dX2_carve_48 : decode cX2_carve 48 = .ok (.iload 6, 2) := by decide +kernel
theorem dX2_carve_50 : decode cX2_carve 50 = .ok (.if_icmp .gt 91, 3) := by decide +kernel
theorem dX2_carve_53 : decode cX2_carve 53 = .ok (.iconst 0, 1) := by decide +kernel
theorem dX2_carve_54 : decode cX2_carve 54 = .ok (.iload_n 2, 1) := by decide +kernel
theorem dX2_carve_55 : decode cX2_carve 55 = .ok (.aload_n 1, 1) := by decide +kernel
theorem dX2_carve_56 : decode cX2_carve 56 = .ok (.getfield 181, 3) := by decide +kernel
theorem dX2_carve_59 : decode cX2_carve 59 = .ok (.isub, 1) := by decide +kernel
theorem dX2_carve_60 : decode cX2_carve 60 = .ok (.invokestatic 123, 3) := by decide +kernel
theorem dX2_carve_63 : decode cX2_carve 63 = .ok (.istore 8, 2) := by decide +kernel
theorem dX2_carve_65 : decode cX2_carve 65 = .ok (.iload 8, 2) := by decide +kernel
theorem dX2_carve_67 : decode cX2_carve 67 = .ok (.iload 5, 2) := by decide +kernel
theorem dX2_carve_69 : decode cX2_carve 69 = .ok (.if_icmp .gt 66, 3) := by decide +kernel
theorem dX2_carve_72 : decode cX2_carve 72 = .ok (.aload_n 1, 1) := by decide +kernel
theorem dX2_carve_73 : decode cX2_carve 73 = .ok (.iload 8, 2) := by decide +kernel
theorem dX2_carve_75 : decode cX2_carve 75 = .ok (.iload_n 2, 1) := by decide +kernel
theorem dX2_carve_76 : decode cX2_carve 76 = .ok (.isub, 1) := by decide +kernel
theorem dX2_carve_77 : decode cX2_carve 77 = .ok (.iload 7, 2) := by decide +kernel
theorem dX2_carve_79 : decode cX2_carve 79 = .ok (.iload_n 3, 1) := by decide +kernel
theorem dX2_carve_80 : decode cX2_carve 80 = .ok (.isub, 1) := by decide +kernel
theorem dX2_carve_81 : decode cX2_carve 81 = .ok (.invokevirtual 98, 3) := by decide +kernel
theorem dX2_carve_84 : decode cX2_carve 84 = .ok (.istore 9, 2) := by decide +kernel
theorem dX2_carve_86 : decode cX2_carve 86 = .ok (.aload_n 0, 1) := by decide +kernel
theorem dX2_carve_87 : decode cX2_carve 87 = .ok (.iload 8, 2) := by decide +kernel
theorem dX2_carve_89 : decode cX2_carve 89 = .ok (.iload 7, 2) := by decide +kernel
theorem dX2_carve_91 : decode cX2_carve 91 = .ok (.invokevirtual 68, 3) := by decide +kernel
theorem dX2_carve_94 : decode cX2_carve 94 = .ok (.istore 10, 2) := by decide +kernel
theorem dX2_carve_96 : decode cX2_carve 96 = .ok (.iload 9, 2) := by decide +kernel
theorem dX2_carve_98 : decode cX2_carve 98 = .ok (.iconst (-1), 1) := by decide +kernel
theorem dX2_carve_99 : decode cX2_carve 99 = .ok (.if_icmp .eq 30, 3) := by decide +kernel
theorem dX2_carve_102 : decode cX2_carve 102 = .ok (.iload 4, 2) := by decide +kernel
theorem dX2_carve_104 : decode cX2_carve 104 = .ok (.iload 9, 2) := by decide +kernel
theorem dX2_carve_106 : decode cX2_carve 106 = .ok (.iadd, 1) := by decide +kernel
theorem dX2_carve_107 : decode cX2_carve 107 = .ok (.aload_n 0, 1) := by decide +kernel
theorem dX2_carve_108 : decode cX2_carve 108 = .ok (.getfield 24, 3) := by decide +kernel
theorem dX2_carve_111 : decode cX2_carve 111 = .ok (.iload 10, 2) := by decide +kernel
theorem dX2_carve_113 : decode cX2_carve 113 = .ok (.iaload, 1) := by decide +kernel
theorem dX2_carve_114 : decode cX2_carve 114 = .ok (.if_icmp .ge 15, 3) := by decide +kernel
theorem dX2_carve_117 : decode cX2_carve 117 = .ok (.aload_n 0, 1) := by decide +kernel
theorem dX2_carve_118 : decode cX2_carve 118 = .ok (.getfield 24, 3) := by decide +kernel
theorem dX2_carve_121 : decode cX2_carve 121 = .ok (.iload 10, 2) := by decide +kernel
theorem dX2_carve_123 : decode cX2_carve 123 = .ok (.iload 4, 2) := by decide +kernel
theorem dX2_carve_125 : decode cX2_carve 125 = .ok (.iload 9, 2) := by decide +kernel
theorem dX2_carve_127 : decode cX2_carve 127 = .ok (.iadd, 1) := by decide +kernel
theorem dX2_carve_128 : decode cX2_carve 128 = .ok (.iastore, 1) := by decide +kernel
theorem dX2_carve_129 : decode cX2_carve 129 = .ok (.iinc 8 1, 3) := by decide +kernel
theorem dX2_carve_132 : decode cX2_carve 132 = .ok (.goto (-67), 3) := by decide +kernel
theorem dX2_carve_135 : decode cX2_carve 135 = .ok (.iinc 7 1, 3) := by decide +kernel
theorem dX2_carve_138 : decode cX2_carve 138 = .ok (.goto (-92), 3) := by decide +kernel
theorem dX2_carve_141 : decode cX2_carve 141 = .ok (.return_, 1) := by decide +kernel
theorem dX2_findLifts_0 : decode cX2_findLifts 0 = .ok (.iconst 0, 1) := by decide +kernel
theorem dX2_findLifts_1 : decode cX2_findLifts 1 = .ok (.istore_n 2, 1) := by decide +kernel
theorem dX2_findLifts_2 : decode cX2_findLifts 2 = .ok (.iload_n 2, 1) := by decide +kernel
theorem dX2_findLifts_3 : decode cX2_findLifts 3 = .ok (.aload_n 0, 1) := by decide +kernel
theorem dX2_findLifts_4 : decode cX2_findLifts 4 = .ok (.getfield 17, 3) := by decide +kernel
theorem dX2_findLifts_7 : decode cX2_findLifts 7 = .ok (.if_icmp .ge 43, 3) := by decide +kernel
theorem dX2_findLifts_10 : decode cX2_findLifts 10 = .ok (.iconst 0, 1) := by decide +kernel
theorem dX2_findLifts_11 : decode cX2_findLifts 11 = .ok (.istore_n 3, 1) := by decide +kernel
theorem dX2_findLifts_12 : decode cX2_findLifts 12 = .ok (.iload_n 3, 1) := by decide +kernel
theorem dX2_findLifts_13 : decode cX2_findLifts 13 = .ok (.aload_n 0, 1) := by decide +kernel
theorem dX2_findLifts_14 : decode cX2_findLifts 14 = .ok (.getfield 13, 3) := by decide +kernel
theorem dX2_findLifts_17 : decode cX2_findLifts 17 = .ok (.if_icmp .ge 27, 3) := by decide +kernel
theorem dX2_findLifts_20 : decode cX2_findLifts 20 = .ok (.aload_n 0, 1) := by decide +kernel
theorem dX2_findLifts_21 : decode cX2_findLifts 21 = .ok (.getfield 30, 3) := by decide +kernel
theorem dX2_findLifts_24 : decode cX2_findLifts 24 = .ok (.aload_n 0, 1) := by decide +kernel
theorem dX2_findLifts_25 : decode cX2_findLifts 25 = .ok (.iload_n 3, 1) := by decide +kernel
theorem dX2_findLifts_26 : decode cX2_findLifts 26 = .ok (.iload_n 2, 1) := by decide +kernel
theorem dX2_findLifts_27 : decode cX2_findLifts 27 = .ok (.invokevirtual 68, 3) := by decide +kernel
theorem dX2_findLifts_30 : decode cX2_findLifts 30 = .ok (.aload_n 0, 1) := by decide +kernel
theorem dX2_findLifts_31 : decode cX2_findLifts 31 = .ok (.aload_n 1, 1) := by decide +kernel
theorem dX2_findLifts_32 : decode cX2_findLifts 32 = .ok (.iload_n 3, 1) := by decide +kernel
theorem dX2_findLifts_33 : decode cX2_findLifts 33 = .ok (.iload_n 2, 1) := by decide +kernel
theorem dX2_findLifts_34 : decode cX2_findLifts 34 = .ok (.invokevirtual 94, 3) := by decide +kernel
theorem dX2_findLifts_37 : decode cX2_findLifts 37 = .ok (.iastore, 1) := by decide +kernel
theorem dX2_findLifts_38 : decode cX2_findLifts 38 = .ok (.iinc 3 1, 3) := by decide +kernel
theorem dX2_findLifts_41 : decode cX2_findLifts 41 = .ok (.goto (-29), 3) := by decide +kernel
theorem dX2_findLifts_44 : decode cX2_findLifts 44 = .ok (.iinc 2 1, 3) := by decide +kernel
theorem dX2_findLifts_47 : decode cX2_findLifts 47 = .ok (.goto (-45), 3) := by decide +kernel
theorem dX2_findLifts_50 : decode cX2_findLifts 50 = .ok (.return_, 1) := by decide +kernel
theorem dX2_goAlongLevel_0 : decode cX2_goAlongLevel 0 = .ok (.aload_n 0, 1) := by decide +kernel
theorem dX2_goAlongLevel_1 : decode cX2_goAlongLevel 1 = .ok (.getfield 43, 3) := by decide +kernel
theorem dX2_goAlongLevel_4 : decode cX2_goAlongLevel 4 = .ok (.getfield 128, 3) := by decide +kernel
theorem dX2_goAlongLevel_7 : decode cX2_goAlongLevel 7 = .ok (.istore 5, 2) := by decide +kernel
theorem dX2_goAlongLevel_9 : decode cX2_goAlongLevel 9 = .ok (.iload_n 2, 1) := by decide +kernel
theorem dX2_goAlongLevel_10 : decode cX2_goAlongLevel 10 = .ok (.iload_n 3, 1) := by decide +kernel
theorem dX2_goAlongLevel_11 : decode cX2_goAlongLevel 11 = .ok (.isub, 1) := by decide +kernel
theorem dX2_goAlongLevel_12 : decode cX2_goAlongLevel 12 = .ok (.istore 6, 2) := by decide +kernel
theorem dX2_goAlongLevel_14 : decode cX2_goAlongLevel 14 = .ok (.iconst 0, 1) := by decide +kernel
theorem dX2_goAlongLevel_15 : decode cX2_goAlongLevel 15 = .ok (.istore 7, 2) := by decide +kernel
theorem dX2_goAlongLevel_17 : decode cX2_goAlongLevel 17 = .ok (.iload 7, 2) := by decide +kernel
theorem dX2_goAlongLevel_19 : decode cX2_goAlongLevel 19 = .ok (.aload_n 0, 1) := by decide +kernel
theorem dX2_goAlongLevel_20 : decode cX2_goAlongLevel 20 = .ok (.getfield 17, 3) := by decide +kernel
theorem dX2_goAlongLevel_23 : decode cX2_goAlongLevel 23 = .ok (.if_icmp .ge 85, 3) := by decide +kernel
theorem dX2_goAlongLevel_26 : decode cX2_goAlongLevel 26 = .ok (.iconst 0, 1) := by decide +kernel
theorem dX2_goAlongLevel_27 : decode cX2_goAlongLevel 27 = .ok (.istore 8, 2) := by decide +kernel
theorem dX2_goAlongLevel_29 : decode cX2_goAlongLevel 29 = .ok (.iload 8, 2) := by decide +kernel
theorem dX2_goAlongLevel_31 : decode cX2_goAlongLevel 31 = .ok (.aload_n 0, 1) := by decide +kernel
theorem dX2_goAlongLevel_32 : decode cX2_goAlongLevel 32 = .ok (.getfield 13, 3) := by decide +kernel
theorem dX2_goAlongLevel_35 : decode cX2_goAlongLevel 35 = .ok (.if_icmp .ge 67, 3) := by decide +kernel
theorem dX2_goAlongLevel_38 : decode cX2_goAlongLevel 38 = .ok (.aload_n 0, 1) := by decide +kernel
theorem dX2_goAlongLevel_39 : decode cX2_goAlongLevel 39 = .ok (.getfield 30, 3) := by decide +kernel
theorem dX2_goAlongLevel_42 : decode cX2_goAlongLevel 42 = .ok (.aload_n 0, 1) := by decide +kernel
theorem dX2_goAlongLevel_43 : decode cX2_goAlongLevel 43 = .ok (.iload 8, 2) := by decide +kernel
theorem dX2_goAlongLevel_45 : decode cX2_goAlongLevel 45 = .ok (.iload 7, 2) := by decide +kernel
theorem dX2_goAlongLevel_47 : decode cX2_goAlongLevel 47 = .ok (.invokevirtual 68, 3) := by decide +kernel
theorem dX2_goAlongLevel_50 : decode cX2_goAlongLevel 50 = .ok (.iaload, 1) := by decide +kernel
theorem dX2_goAlongLevel_51 : decode cX2_goAlongLevel 51 = .ok (.iload 4, 2) := by decide +kernel
theorem dX2_goAlongLevel_53 : decode cX2_goAlongLevel 53 = .ok (.iadd, 1) := by decide +kernel
theorem dX2_goAlongLevel_54 : decode cX2_goAlongLevel 54 = .ok (.istore 9, 2) := by decide +kernel
theorem dX2_goAlongLevel_56 : decode cX2_goAlongLevel 56 = .ok (.iload 9, 2) := by decide +kernel
theorem dX2_goAlongLevel_58 : decode cX2_goAlongLevel 58 = .ok (.iload_n 2, 1) := by decide +kernel
theorem dX2_goAlongLevel_59 : decode cX2_goAlongLevel 59 = .ok (.if_icmp .gt 37, 3) := by decide +kernel
theorem dX2_goAlongLevel_62 : decode cX2_goAlongLevel 62 = .ok (.aload_n 0, 1) := by decide +kernel
theorem dX2_goAlongLevel_63 : decode cX2_goAlongLevel 63 = .ok (.getfield 43, 3) := by decide +kernel
theorem dX2_goAlongLevel_66 : decode cX2_goAlongLevel 66 = .ok (.iload 8, 2) := by decide +kernel
theorem dX2_goAlongLevel_68 : decode cX2_goAlongLevel 68 = .ok (.iload 7, 2) := by decide +kernel
theorem dX2_goAlongLevel_70 : decode cX2_goAlongLevel 70 = .ok (.iload_n 2, 1) := by decide +kernel
theorem dX2_goAlongLevel_71 : decode cX2_goAlongLevel 71 = .ok (.invokevirtual 184, 3) := by decide +kernel
theorem dX2_goAlongLevel_74 : decode cX2_goAlongLevel 74 = .ok (.iload 6, 2) := by decide +kernel
theorem dX2_goAlongLevel_76 : decode cX2_goAlongLevel 76 = .ok (.ifCond .le 10, 3) := by decide +kernel
theorem dX2_goAlongLevel_79 : decode cX2_goAlongLevel 79 = .ok (.iload 6, 2) := by decide +kernel
theorem dX2_goAlongLevel_81 : decode cX2_goAlongLevel 81 = .ok (.iload 9, 2) := by decide +kernel
theorem dX2_goAlongLevel_83 : decode cX2_goAlongLevel 83 = .ok (.if_icmp .ge 13, 3) := by decide +kernel
theorem dX2_goAlongLevel_86 : decode cX2_goAlongLevel 86 = .ok (.aload_n 0, 1) := by decide +kernel
theorem dX2_goAlongLevel_87 : decode cX2_goAlongLevel 87 = .ok (.aload_n 1, 1) := by decide +kernel
theorem dX2_goAlongLevel_88 : decode cX2_goAlongLevel 88 = .ok (.iload 8, 2) := by decide +kernel
theorem dX2_goAlongLevel_90 : decode cX2_goAlongLevel 90 = .ok (.iload 7, 2) := by decide +kernel
theorem dX2_goAlongLevel_92 : decode cX2_goAlongLevel 92 = .ok (.iload_n 2, 1) := by decide +kernel
theorem dX2_goAlongLevel_93 : decode cX2_goAlongLevel 93 = .ok (.invokevirtual 187, 3) := by decide +kernel
theorem dX2_goAlongLevel_96 : decode cX2_goAlongLevel 96 = .ok (.iinc 8 1, 3) := by decide +kernel
theorem dX2_goAlongLevel_99 : decode cX2_goAlongLevel 99 = .ok (.goto (-70), 3) := by decide +kernel
theorem dX2_goAlongLevel_102 : decode cX2_goAlongLevel 102 = .ok (.iinc 7 1, 3) := by decide +kernel
theorem dX2_goAlongLevel_105 : decode cX2_goAlongLevel 105 = .ok (.goto (-88), 3) := by decide +kernel
theorem dX2_goAlongLevel_108 : decode cX2_goAlongLevel 108 = .ok (.aload_n 0, 1) := by decide +kernel
theorem dX2_goAlongLevel_109 : decode cX2_goAlongLevel 109 = .ok (.getfield 43, 3) := by decide +kernel
theorem dX2_goAlongLevel_112 : decode cX2_goAlongLevel 112 = .ok (.getfield 128, 3) := by decide +kernel
theorem dX2_goAlongLevel_115 : decode cX2_goAlongLevel 115 = .ok (.iload 5, 2) := by decide +kernel
theorem dX2_goAlongLevel_117 : decode cX2_goAlongLevel 117 = .ok (.if_icmp .le 7, 3) := by decide +kernel
theorem dX2_goAlongLevel_120 : decode cX2_goAlongLevel 120 = .ok (.iconst 1, 1) := by decide +kernel
theorem dX2_goAlongLevel_121 : decode cX2_goAlongLevel 121 = .ok (.goto 4, 3) := by decide +kernel
theorem dX2_goAlongLevel_124 : decode cX2_goAlongLevel 124 = .ok (.iconst 0, 1) := by decide +kernel
theorem dX2_goAlongLevel_125 : decode cX2_goAlongLevel 125 = .ok (.ireturn, 1) := by decide +kernel
theorem dX2_goAlongRow_0 : decode cX2_goAlongRow 0 = .ok (.iconst 0, 1) := by decide +kernel
theorem dX2_goAlongRow_1 : decode cX2_goAlongRow 1 = .ok (.istore 4, 2) := by decide +kernel
theorem dX2_goAlongRow_3 : decode cX2_goAlongRow 3 = .ok (.iload 4, 2) := by decide +kernel
theorem dX2_goAlongRow_5 : decode cX2_goAlongRow 5 = .ok (.aload_n 0, 1) := by decide +kernel
theorem dX2_goAlongRow_6 : decode cX2_goAlongRow 6 = .ok (.getfield 13, 3) := by decide +kernel
theorem dX2_goAlongRow_9 : decode cX2_goAlongRow 9 = .ok (.if_icmp .ge 61, 3) := by decide +kernel
theorem dX2_goAlongRow_12 : decode cX2_goAlongRow 12 = .ok (.iload_n 3, 1) := by decide +kernel
theorem dX2_goAlongRow_13 : decode cX2_goAlongRow 13 = .ok (.ifCond .eq 8, 3) := by decide +kernel
theorem dX2_goAlongRow_16 : decode cX2_goAlongRow 16 = .ok (.iload 4, 2) := by decide +kernel
theorem dX2_goAlongRow_18 : decode cX2_goAlongRow 18 = .ok (.goto 12, 3) := by decide +kernel
theorem dX2_goAlongRow_21 : decode cX2_goAlongRow 21 = .ok (.aload_n 0, 1) := by decide +kernel
theorem dX2_goAlongRow_22 : decode cX2_goAlongRow 22 = .ok (.getfield 13, 3) := by decide +kernel
theorem dX2_goAlongRow_25 : decode cX2_goAlongRow 25 = .ok (.iconst 1, 1) := by decide +kernel
theorem dX2_goAlongRow_26 : decode cX2_goAlongRow 26 = .ok (.isub, 1) := by decide +kernel
theorem dX2_goAlongRow_27 : decode cX2_goAlongRow 27 = .ok (.iload 4, 2) := by decide +kernel
theorem dX2_goAlongRow_29 : decode cX2_goAlongRow 29 = .ok (.isub, 1) := by decide +kernel
theorem dX2_goAlongRow_30 : decode cX2_goAlongRow 30 = .ok (.istore 5, 2) := by decide +kernel
theorem dX2_goAlongRow_32 : decode cX2_goAlongRow 32 = .ok (.aload_n 0, 1) := by decide +kernel
theorem dX2_goAlongRow_33 : decode cX2_goAlongRow 33 = .ok (.aload_n 1, 1) := by decide +kernel
theorem dX2_goAlongRow_34 : decode cX2_goAlongRow 34 = .ok (.iload 5, 2) := by decide +kernel
theorem dX2_goAlongRow_36 : decode cX2_goAlongRow 36 = .ok (.iload_n 2, 1) := by decide +kernel
theorem dX2_goAlongRow_37 : decode cX2_goAlongRow 37 = .ok (.invokevirtual 94, 3) := by decide +kernel
theorem dX2_goAlongRow_40 : decode cX2_goAlongRow 40 = .ok (.istore 6, 2) := by decide +kernel
theorem dX2_goAlongRow_42 : decode cX2_goAlongRow 42 = .ok (.aload_n 0, 1) := by decide +kernel
theorem dX2_goAlongRow_43 : decode cX2_goAlongRow 43 = .ok (.getfield 43, 3) := by decide +kernel
theorem dX2_goAlongRow_46 : decode cX2_goAlongRow 46 = .ok (.iload 5, 2) := by decide +kernel
theorem dX2_goAlongRow_48 : decode cX2_goAlongRow 48 = .ok (.iload_n 2, 1) := by decide +kernel
theorem dX2_goAlongRow_49 : decode cX2_goAlongRow 49 = .ok (.iload 6, 2) := by decide +kernel
theorem dX2_goAlongRow_51 : decode cX2_goAlongRow 51 = .ok (.invokevirtual 184, 3) := by decide +kernel
theorem dX2_goAlongRow_54 : decode cX2_goAlongRow 54 = .ok (.aload_n 0, 1) := by decide +kernel
theorem dX2_goAlongRow_55 : decode cX2_goAlongRow 55 = .ok (.aload_n 1, 1) := by decide +kernel
theorem dX2_goAlongRow_56 : decode cX2_goAlongRow 56 = .ok (.iload 5, 2) := by decide +kernel
theorem dX2_goAlongRow_58 : decode cX2_goAlongRow 58 = .ok (.iload_n 2, 1) := by decide +kernel
theorem dX2_goAlongRow_59 : decode cX2_goAlongRow 59 = .ok (.iload 6, 2) := by decide +kernel
theorem dX2_goAlongRow_61 : decode cX2_goAlongRow 61 = .ok (.invokevirtual 187, 3) := by decide +kernel
theorem dX2_goAlongRow_64 : decode cX2_goAlongRow 64 = .ok (.iinc 4 1, 3) := by decide +kernel
theorem dX2_goAlongRow_67 : decode cX2_goAlongRow 67 = .ok (.goto (-64), 3) := by decide +kernel
theorem dX2_goAlongRow_70 : decode cX2_goAlongRow 70 = .ok (.return_, 1) := by decide +kernel
