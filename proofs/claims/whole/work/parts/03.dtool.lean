theorem dX0_init_0 : decode cX0_init 0 = .ok (.aload_n 0, 1) := by decide +kernel
theorem dX0_init_1 : decode cX0_init 1 = .ok (.invokespecial 3, 3) := by decide +kernel
theorem dX0_init_4 : decode cX0_init 4 = .ok (.aload_n 0, 1) := by decide +kernel
theorem dX0_init_5 : decode cX0_init 5 = .ok (.iconst 0, 1) := by decide +kernel
theorem dX0_init_6 : decode cX0_init 6 = .ok (.putfield 9, 3) := by decide +kernel
theorem dX0_init_9 : decode cX0_init 9 = .ok (.aload_n 0, 1) := by decide +kernel
theorem dX0_init_10 : decode cX0_init 10 = .ok (.iconst 0, 1) := by decide +kernel
theorem dX0_init_11 : decode cX0_init 11 = .ok (.putfield 15, 3) := by decide +kernel
theorem dX0_init_14 : decode cX0_init 14 = .ok (.aload_n 0, 1) := by decide +kernel
theorem dX0_init_15 : decode cX0_init 15 = .ok (.bipush 121, 2) := by decide +kernel
theorem dX0_init_17 : decode cX0_init 17 = .ok (.newarray .int, 2) := by decide +kernel
theorem dX0_init_19 : decode cX0_init 19 = .ok (.putfield 18, 3) := by decide +kernel
theorem dX0_init_22 : decode cX0_init 22 = .ok (.return_, 1) := by decide +kernel
theorem dX0_become_0 : decode cX0_become 0 = .ok (.aload_n 0, 1) := by decide +kernel
theorem dX0_become_1 : decode cX0_become 1 = .ok (.getfield 9, 3) := by decide +kernel
theorem dX0_become_4 : decode cX0_become 4 = .ok (.iload_n 1, 1) := by decide +kernel
theorem dX0_become_5 : decode cX0_become 5 = .ok (.if_icmp .ne 11, 3) := by decide +kernel
theorem dX0_become_8 : decode cX0_become 8 = .ok (.aload_n 0, 1) := by decide +kernel
theorem dX0_become_9 : decode cX0_become 9 = .ok (.getfield 15, 3) := by decide +kernel
theorem dX0_become_12 : decode cX0_become 12 = .ok (.iload_n 2, 1) := by decide +kernel
theorem dX0_become_13 : decode cX0_become 13 = .ok (.if_icmp .eq 7, 3) := by decide +kernel
theorem dX0_become_16 : decode cX0_become 16 = .ok (.iconst 1, 1) := by decide +kernel
theorem dX0_become_17 : decode cX0_become 17 = .ok (.goto 4, 3) := by decide +kernel
theorem dX0_become_20 : decode cX0_become 20 = .ok (.iconst 0, 1) := by decide +kernel
theorem dX0_become_21 : decode cX0_become 21 = .ok (.istore_n 3, 1) := by decide +kernel
theorem dX0_become_22 : decode cX0_become 22 = .ok (.aload_n 0, 1) := by decide +kernel
theorem dX0_become_23 : decode cX0_become 23 = .ok (.iload_n 1, 1) := by decide +kernel
theorem dX0_become_24 : decode cX0_become 24 = .ok (.putfield 9, 3) := by decide +kernel
theorem dX0_become_27 : decode cX0_become 27 = .ok (.aload_n 0, 1) := by decide +kernel
theorem dX0_become_28 : decode cX0_become 28 = .ok (.iload_n 2, 1) := by decide +kernel
theorem dX0_become_29 : decode cX0_become 29 = .ok (.putfield 15, 3) := by decide +kernel
theorem dX0_become_32 : decode cX0_become 32 = .ok (.iload_n 2, 1) := by decide +kernel
theorem dX0_become_33 : decode cX0_become 33 = .ok (.ineg, 1) := by decide +kernel
theorem dX0_become_34 : decode cX0_become 34 = .ok (.istore 4, 2) := by decide +kernel
theorem dX0_become_36 : decode cX0_become 36 = .ok (.iload 4, 2) := by decide +kernel
theorem dX0_become_38 : decode cX0_become 38 = .ok (.iload_n 2, 1) := by decide +kernel
theorem dX0_become_39 : decode cX0_become 39 = .ok (.if_icmp .gt 52, 3) := by decide +kernel
theorem dX0_become_42 : decode cX0_become 42 = .ok (.iload_n 2, 1) := by decide +kernel
theorem dX0_become_43 : decode cX0_become 43 = .ok (.ineg, 1) := by decide +kernel
theorem dX0_become_44 : decode cX0_become 44 = .ok (.istore 5, 2) := by decide +kernel
theorem dX0_become_46 : decode cX0_become 46 = .ok (.iload 5, 2) := by decide +kernel
theorem dX0_become_48 : decode cX0_become 48 = .ok (.iload_n 2, 1) := by decide +kernel
theorem dX0_become_49 : decode cX0_become 49 = .ok (.if_icmp .gt 36, 3) := by decide +kernel
theorem dX0_become_52 : decode cX0_become 52 = .ok (.aload_n 0, 1) := by decide +kernel
theorem dX0_become_53 : decode cX0_become 53 = .ok (.getfield 18, 3) := by decide +kernel
theorem dX0_become_56 : decode cX0_become 56 = .ok (.iload 5, 2) := by decide +kernel
theorem dX0_become_58 : decode cX0_become 58 = .ok (.iload 4, 2) := by decide +kernel
theorem dX0_become_60 : decode cX0_become 60 = .ok (.invokestatic 22, 3) := by decide +kernel
theorem dX0_become_63 : decode cX0_become 63 = .ok (.aload_n 0, 1) := by decide +kernel
theorem dX0_become_64 : decode cX0_become 64 = .ok (.iload 5, 2) := by decide +kernel
theorem dX0_become_66 : decode cX0_become 66 = .ok (.iload 5, 2) := by decide +kernel
theorem dX0_become_68 : decode cX0_become 68 = .ok (.imul, 1) := by decide +kernel
theorem dX0_become_69 : decode cX0_become 69 = .ok (.iload 4, 2) := by decide +kernel
theorem dX0_become_71 : decode cX0_become 71 = .ok (.iload 4, 2) := by decide +kernel
theorem dX0_become_73 : decode cX0_become 73 = .ok (.imul, 1) := by decide +kernel
theorem dX0_become_74 : decode cX0_become 74 = .ok (.iadd, 1) := by decide +kernel
theorem dX0_become_75 : decode cX0_become 75 = .ok (.invokevirtual 26, 3) := by decide +kernel
theorem dX0_become_78 : decode cX0_become 78 = .ok (.iastore, 1) := by decide +kernel
theorem dX0_become_79 : decode cX0_become 79 = .ok (.iinc 5 1, 3) := by decide +kernel
theorem dX0_become_82 : decode cX0_become 82 = .ok (.goto (-36), 3) := by decide +kernel
theorem dX0_become_85 : decode cX0_become 85 = .ok (.iinc 4 1, 3) := by decide +kernel
theorem dX0_become_88 : decode cX0_become 88 = .ok (.goto (-52), 3) := by decide +kernel
theorem dX0_become_91 : decode cX0_become 91 = .ok (.iload_n 3, 1) := by decide +kernel
theorem dX0_become_92 : decode cX0_become 92 = .ok (.ireturn, 1) := by decide +kernel
theorem dX0_depthOver_0 : decode cX0_depthOver 0 = .ok (.iload_n 1, 1) := by decide +kernel
theorem dX0_depthOver_1 : decode cX0_depthOver 1 = .ok (.aload_n 0, 1) := by decide +kernel
theorem dX0_depthOver_2 : decode cX0_depthOver 2 = .ok (.getfield 15, 3) := by decide +kernel
theorem dX0_depthOver_5 : decode cX0_depthOver 5 = .ok (.ineg, 1) := by decide +kernel
theorem dX0_depthOver_6 : decode cX0_depthOver 6 = .ok (.aload_n 0, 1) := by decide +kernel
theorem dX0_depthOver_7 : decode cX0_depthOver 7 = .ok (.getfield 15, 3) := by decide +kernel
theorem dX0_depthOver_10 : decode cX0_depthOver 10 = .ok (.invokestatic 30, 3) := by decide +kernel
theorem dX0_depthOver_13 : decode cX0_depthOver 13 = .ok (.ifCond .eq 19, 3) := by decide +kernel
theorem dX0_depthOver_16 : decode cX0_depthOver 16 = .ok (.iload_n 2, 1) := by decide +kernel
theorem dX0_depthOver_17 : decode cX0_depthOver 17 = .ok (.aload_n 0, 1) := by decide +kernel
theorem dX0_depthOver_18 : decode cX0_depthOver 18 = .ok (.getfield 15, 3) := by decide +kernel
theorem dX0_depthOver_21 : decode cX0_depthOver 21 = .ok (.ineg, 1) := by decide +kernel
theorem dX0_depthOver_22 : decode cX0_depthOver 22 = .ok (.aload_n 0, 1) := by decide +kernel
theorem dX0_depthOver_23 : decode cX0_depthOver 23 = .ok (.getfield 15, 3) := by decide +kernel
theorem dX0_depthOver_26 : decode cX0_depthOver 26 = .ok (.invokestatic 30, 3) := by decide +kernel
theorem dX0_depthOver_29 : decode cX0_depthOver 29 = .ok (.ifCond .ne 5, 3) := by decide +kernel
theorem dX0_depthOver_32 : decode cX0_depthOver 32 = .ok (.iconst (-1), 1) := by decide +kernel
theorem dX0_depthOver_33 : decode cX0_depthOver 33 = .ok (.ireturn, 1) := by decide +kernel
theorem dX0_depthOver_34 : decode cX0_depthOver 34 = .ok (.aload_n 0, 1) := by decide +kernel
theorem dX0_depthOver_35 : decode cX0_depthOver 35 = .ok (.getfield 18, 3) := by decide +kernel
theorem dX0_depthOver_38 : decode cX0_depthOver 38 = .ok (.iload_n 1, 1) := by decide +kernel
theorem dX0_depthOver_39 : decode cX0_depthOver 39 = .ok (.iload_n 2, 1) := by decide +kernel
theorem dX0_depthOver_40 : decode cX0_depthOver 40 = .ok (.invokestatic 22, 3) := by decide +kernel
theorem dX0_depthOver_43 : decode cX0_depthOver 43 = .ok (.iaload, 1) := by decide +kernel
theorem dX0_depthOver_44 : decode cX0_depthOver 44 = .ok (.ireturn, 1) := by decide +kernel
theorem dX0_cellOf_0 : decode cX0_cellOf 0 = .ok (.iload_n 1, 1) := by decide +kernel
theorem dX0_cellOf_1 : decode cX0_cellOf 1 = .ok (.iconst 5, 1) := by decide +kernel
theorem dX0_cellOf_2 : decode cX0_cellOf 2 = .ok (.iadd, 1) := by decide +kernel
theorem dX0_cellOf_3 : decode cX0_cellOf 3 = .ok (.bipush 11, 2) := by decide +kernel
theorem dX0_cellOf_5 : decode cX0_cellOf 5 = .ok (.imul, 1) := by decide +kernel
theorem dX0_cellOf_6 : decode cX0_cellOf 6 = .ok (.iload_n 0, 1) := by decide +kernel
theorem dX0_cellOf_7 : decode cX0_cellOf 7 = .ok (.iadd, 1) := by decide +kernel
theorem dX0_cellOf_8 : decode cX0_cellOf 8 = .ok (.iconst 5, 1) := by decide +kernel
theorem dX0_cellOf_9 : decode cX0_cellOf 9 = .ok (.iadd, 1) := by decide +kernel
theorem dX0_cellOf_10 : decode cX0_cellOf 10 = .ok (.ireturn, 1) := by decide +kernel
theorem dX0_depthAtSquare_0 : decode cX0_depthAtSquare 0 = .ok (.aload_n 0, 1) := by decide +kernel
theorem dX0_depthAtSquare_1 : decode cX0_depthAtSquare 1 = .ok (.getfield 15, 3) := by decide +kernel
theorem dX0_depthAtSquare_4 : decode cX0_depthAtSquare 4 = .ok (.aload_n 0, 1) := by decide +kernel
theorem dX0_depthAtSquare_5 : decode cX0_depthAtSquare 5 = .ok (.getfield 15, 3) := by decide +kernel
theorem dX0_depthAtSquare_8 : decode cX0_depthAtSquare 8 = .ok (.imul, 1) := by decide +kernel
theorem dX0_depthAtSquare_9 : decode cX0_depthAtSquare 9 = .ok (.iload_n 1, 1) := by decide +kernel
theorem dX0_depthAtSquare_10 : decode cX0_depthAtSquare 10 = .ok (.isub, 1) := by decide +kernel
theorem dX0_depthAtSquare_11 : decode cX0_depthAtSquare 11 = .ok (.istore_n 2, 1) := by decide +kernel
theorem dX0_depthAtSquare_12 : decode cX0_depthAtSquare 12 = .ok (.iload_n 2, 1) := by decide +kernel
theorem dX0_depthAtSquare_13 : decode cX0_depthAtSquare 13 = .ok (.ifCond .ge 5, 3) := by decide +kernel
theorem dX0_depthAtSquare_16 : decode cX0_depthAtSquare 16 = .ok (.iconst (-1), 1) := by decide +kernel
theorem dX0_depthAtSquare_17 : decode cX0_depthAtSquare 17 = .ok (.ireturn, 1) := by decide +kernel
theorem dX0_depthAtSquare_18 : decode cX0_depthAtSquare 18 = .ok (.aload_n 0, 1) := by decide +kernel
theorem dX0_depthAtSquare_19 : decode cX0_depthAtSquare 19 = .ok (.getfield 9, 3) := by decide +kernel
theorem dX0_depthAtSquare_22 : decode cX0_depthAtSquare 22 = .ok (.lookupswitch 41 #[(1, 26), (2, 36)], 26) := by decide +kernel
theorem dX0_depthAtSquare_48 : decode cX0_depthAtSquare 48 = .ok (.aload_n 0, 1) := by decide +kernel
theorem dX0_depthAtSquare_49 : decode cX0_depthAtSquare 49 = .ok (.getfield 15, 3) := by decide +kernel
theorem dX0_depthAtSquare_52 : decode cX0_depthAtSquare 52 = .ok (.iload_n 2, 1) := by decide +kernel
theorem dX0_depthAtSquare_53 : decode cX0_depthAtSquare 53 = .ok (.invokestatic 34, 3) := by decide +kernel
theorem dX0_depthAtSquare_56 : decode cX0_depthAtSquare 56 = .ok (.isub, 1) := by decide +kernel
theorem dX0_depthAtSquare_57 : decode cX0_depthAtSquare 57 = .ok (.ireturn, 1) := by decide +kernel
theorem dX0_depthAtSquare_58 : decode cX0_depthAtSquare 58 = .ok (.iload_n 1, 1) := by decide +kernel
theorem dX0_depthAtSquare_59 : decode cX0_depthAtSquare 59 = .ok (.invokestatic 37, 3) := by decide +kernel
theorem dX0_depthAtSquare_62 : decode cX0_depthAtSquare 62 = .ok (.ireturn, 1) := by decide +kernel
theorem dX0_depthAtSquare_63 : decode cX0_depthAtSquare 63 = .ok (.iconst 0, 1) := by decide +kernel
theorem dX0_depthAtSquare_64 : decode cX0_depthAtSquare 64 = .ok (.ireturn, 1) := by decide +kernel
theorem dX0_floorRoot_0 : decode cX0_floorRoot 0 = .ok (.iconst 0, 1) := by decide +kernel
theorem dX0_floorRoot_1 : decode cX0_floorRoot 1 = .ok (.istore_n 1, 1) := by decide +kernel
theorem dX0_floorRoot_2 : decode cX0_floorRoot 2 = .ok (.iload_n 1, 1) := by decide +kernel
theorem dX0_floorRoot_3 : decode cX0_floorRoot 3 = .ok (.iconst 5, 1) := by decide +kernel
theorem dX0_floorRoot_4 : decode cX0_floorRoot 4 = .ok (.if_icmp .ge 20, 3) := by decide +kernel
theorem dX0_floorRoot_7 : decode cX0_floorRoot 7 = .ok (.iload_n 1, 1) := by decide +kernel
theorem dX0_floorRoot_8 : decode cX0_floorRoot 8 = .ok (.iconst 1, 1) := by decide +kernel
theorem dX0_floorRoot_9 : decode cX0_floorRoot 9 = .ok (.iadd, 1) := by decide +kernel
theorem dX0_floorRoot_10 : decode cX0_floorRoot 10 = .ok (.iload_n 1, 1) := by decide +kernel
theorem dX0_floorRoot_11 : decode cX0_floorRoot 11 = .ok (.iconst 1, 1) := by decide +kernel
theorem dX0_floorRoot_12 : decode cX0_floorRoot 12 = .ok (.iadd, 1) := by decide +kernel
theorem dX0_floorRoot_13 : decode cX0_floorRoot 13 = .ok (.imul, 1) := by decide +kernel
theorem dX0_floorRoot_14 : decode cX0_floorRoot 14 = .ok (.iload_n 0, 1) := by decide +kernel
theorem dX0_floorRoot_15 : decode cX0_floorRoot 15 = .ok (.if_icmp .gt 9, 3) := by decide +kernel
theorem dX0_floorRoot_18 : decode cX0_floorRoot 18 = .ok (.iinc 1 1, 3) := by decide +kernel
theorem dX0_floorRoot_21 : decode cX0_floorRoot 21 = .ok (.goto (-19), 3) := by decide +kernel
theorem dX0_floorRoot_24 : decode cX0_floorRoot 24 = .ok (.iload_n 1, 1) := by decide +kernel
theorem dX0_floorRoot_25 : decode cX0_floorRoot 25 = .ok (.ireturn, 1) := by decide +kernel
theorem dX0_ceilRoot_0 : decode cX0_ceilRoot 0 = .ok (.iconst 0, 1) := by decide +kernel
theorem dX0_ceilRoot_1 : decode cX0_ceilRoot 1 = .ok (.istore_n 1, 1) := by decide +kernel
theorem dX0_ceilRoot_2 : decode cX0_ceilRoot 2 = .ok (.iload_n 1, 1) := by decide +kernel
theorem dX0_ceilRoot_3 : decode cX0_ceilRoot 3 = .ok (.iconst 5, 1) := by decide +kernel
theorem dX0_ceilRoot_4 : decode cX0_ceilRoot 4 = .ok (.if_icmp .ge 16, 3) := by decide +kernel
theorem dX0_ceilRoot_7 : decode cX0_ceilRoot 7 = .ok (.iload_n 1, 1) := by decide +kernel
theorem dX0_ceilRoot_8 : decode cX0_ceilRoot 8 = .ok (.iload_n 1, 1) := by decide +kernel
theorem dX0_ceilRoot_9 : decode cX0_ceilRoot 9 = .ok (.imul, 1) := by decide +kernel
theorem dX0_ceilRoot_10 : decode cX0_ceilRoot 10 = .ok (.iload_n 0, 1) := by decide +kernel
theorem dX0_ceilRoot_11 : decode cX0_ceilRoot 11 = .ok (.if_icmp .ge 9, 3) := by decide +kernel
theorem dX0_ceilRoot_14 : decode cX0_ceilRoot 14 = .ok (.iinc 1 1, 3) := by decide +kernel
theorem dX0_ceilRoot_17 : decode cX0_ceilRoot 17 = .ok (.goto (-15), 3) := by decide +kernel
theorem dX0_ceilRoot_20 : decode cX0_ceilRoot 20 = .ok (.iload_n 1, 1) := by decide +kernel
theorem dX0_ceilRoot_21 : decode cX0_ceilRoot 21 = .ok (.ireturn, 1) := by decide +kernel
theorem dX1_init_0 : decode cX1_init 0 = .ok (.aload_n 0, 1) := by decide +kernel
theorem dX1_init_1 : decode cX1_init 1 = .ok (.invokespecial 3, 3) := by decide +kernel
theorem dX1_init_4 : decode cX1_init 4 = .ok (.aload_n 0, 1) := by decide +kernel
theorem dX1_init_5 : decode cX1_init 5 = .ok (.sipush 2000, 3) := by decide +kernel
theorem dX1_init_8 : decode cX1_init 8 = .ok (.newarray .int, 2) := by decide +kernel
theorem dX1_init_10 : decode cX1_init 10 = .ok (.putfield 11, 3) := by decide +kernel
theorem dX1_init_13 : decode cX1_init 13 = .ok (.aload_n 0, 1) := by decide +kernel
theorem dX1_init_14 : decode cX1_init 14 = .ok (.iconst 0, 1) := by decide +kernel
theorem dX1_init_15 : decode cX1_init 15 = .ok (.putfield 15, 3) := by decide +kernel
theorem dX1_init_18 : decode cX1_init 18 = .ok (.aload_n 0, 1) := by decide +kernel
theorem dX1_init_19 : decode cX1_init 19 = .ok (.lconst 0, 1) := by decide +kernel
theorem dX1_init_20 : decode cX1_init 20 = .ok (.putfield 19, 3) := by decide +kernel
theorem dX1_init_23 : decode cX1_init 23 = .ok (.aload_n 0, 1) := by decide +kernel
theorem dX1_init_24 : decode cX1_init 24 = .ok (.iconst 0, 1) := by decide +kernel
theorem dX1_init_25 : decode cX1_init 25 = .ok (.putfield 23, 3) := by decide +kernel
theorem dX1_init_28 : decode cX1_init 28 = .ok (.aload_n 0, 1) := by decide +kernel
theorem dX1_init_29 : decode cX1_init 29 = .ok (.iconst 0, 1) := by decide +kernel
theorem dX1_init_30 : decode cX1_init 30 = .ok (.putfield 26, 3) := by decide +kernel
theorem dX1_init_33 : decode cX1_init 33 = .ok (.aload_n 0, 1) := by decide +kernel
theorem dX1_init_34 : decode cX1_init 34 = .ok (.iconst 0, 1) := by decide +kernel
theorem dX1_init_35 : decode cX1_init 35 = .ok (.putfield 29, 3) := by decide +kernel
theorem dX1_init_38 : decode cX1_init 38 = .ok (.return_, 1) := by decide +kernel
theorem dX1_clear_0 : decode cX1_clear 0 = .ok (.aload_n 0, 1) := by decide +kernel
theorem dX1_clear_1 : decode cX1_clear 1 = .ok (.iconst 0, 1) := by decide +kernel
theorem dX1_clear_2 : decode cX1_clear 2 = .ok (.putfield 15, 3) := by decide +kernel
theorem dX1_clear_5 : decode cX1_clear 5 = .ok (.aload_n 0, 1) := by decide +kernel
theorem dX1_clear_6 : decode cX1_clear 6 = .ok (.lconst 0, 1) := by decide +kernel
theorem dX1_clear_7 : decode cX1_clear 7 = .ok (.putfield 19, 3) := by decide +kernel
theorem dX1_clear_10 : decode cX1_clear 10 = .ok (.return_, 1) := by decide +kernel
theorem dX1_add_0 : decode cX1_add 0 = .ok (.aload_n 0, 1) := by decide +kernel
theorem dX1_add_1 : decode cX1_add 1 = .ok (.getfield 15, 3) := by decide +kernel
theorem dX1_add_4 : decode cX1_add 4 = .ok (.ifCond .le 42, 3) := by decide +kernel
theorem dX1_add_7 : decode cX1_add 7 = .ok (.aload_n 0, 1) := by decide +kernel
theorem dX1_add_8 : decode cX1_add 8 = .ok (.dup, 1) := by decide +kernel
theorem dX1_add_9 : decode cX1_add 9 = .ok (.getfield 19, 3) := by decide +kernel
theorem dX1_add_12 : decode cX1_add 12 = .ok (.iload_n 1, 1) := by decide +kernel
theorem dX1_add_13 : decode cX1_add 13 = .ok (.aload_n 0, 1) := by decide +kernel
theorem dX1_add_14 : decode cX1_add 14 = .ok (.getfield 23, 3) := by decide +kernel
theorem dX1_add_17 : decode cX1_add 17 = .ok (.isub, 1) := by decide +kernel
theorem dX1_add_18 : decode cX1_add 18 = .ok (.invokestatic 32, 3) := by decide +kernel
theorem dX1_add_21 : decode cX1_add 21 = .ok (.iload_n 2, 1) := by decide +kernel
theorem dX1_add_22 : decode cX1_add 22 = .ok (.aload_n 0, 1) := by decide +kernel
theorem dX1_add_23 : decode cX1_add 23 = .ok (.getfield 26, 3) := by decide +kernel
theorem dX1_add_26 : decode cX1_add 26 = .ok (.isub, 1) := by decide +kernel
theorem dX1_add_27 : decode cX1_add 27 = .ok (.invokestatic 32, 3) := by decide +kernel
theorem dX1_add_30 : decode cX1_add 30 = .ok (.iadd, 1) := by decide +kernel
theorem dX1_add_31 : decode cX1_add 31 = .ok (.iload_n 3, 1) := by decide +kernel
theorem dX1_add_32 : decode cX1_add 32 = .ok (.aload_n 0, 1) := by decide +kernel
theorem dX1_add_33 : decode cX1_add 33 = .ok (.getfield 29, 3) := by decide +kernel
theorem dX1_add_36 : decode cX1_add 36 = .ok (.isub, 1) := by decide +kernel
theorem dX1_add_37 : decode cX1_add 37 = .ok (.invokestatic 32, 3) := by decide +kernel
theorem dX1_add_40 : decode cX1_add 40 = .ok (.iadd, 1) := by decide +kernel
theorem dX1_add_41 : decode cX1_add 41 = .ok (.i2l, 1) := by decide +kernel
theorem dX1_add_42 : decode cX1_add 42 = .ok (.ladd, 1) := by decide +kernel
theorem dX1_add_43 : decode cX1_add 43 = .ok (.putfield 19, 3) := by decide +kernel
theorem dX1_add_46 : decode cX1_add 46 = .ok (.aload_n 0, 1) := by decide +kernel
theorem dX1_add_47 : decode cX1_add 47 = .ok (.getfield 15, 3) := by decide +kernel
theorem dX1_add_50 : decode cX1_add 50 = .ok (.sipush 2000, 3) := by decide +kernel
theorem dX1_add_53 : decode cX1_add 53 = .ok (.if_icmp .ge 23, 3) := by decide +kernel
theorem dX1_add_56 : decode cX1_add 56 = .ok (.aload_n 0, 1) := by decide +kernel
theorem dX1_add_57 : decode cX1_add 57 = .ok (.getfield 11, 3) := by decide +kernel
theorem dX1_add_60 : decode cX1_add 60 = .ok (.aload_n 0, 1) := by decide +kernel
theorem dX1_add_61 : decode cX1_add 61 = .ok (.getfield 15, 3) := by decide +kernel
theorem dX1_add_64 : decode cX1_add 64 = .ok (.iload_n 3, 1) := by decide +kernel
theorem dX1_add_65 : decode cX1_add 65 = .ok (.bipush 20, 2) := by decide +kernel
theorem dX1_add_67 : decode cX1_add 67 = .ok (.imul, 1) := by decide +kernel
theorem dX1_add_68 : decode cX1_add 68 = .ok (.iload_n 2, 1) := by decide +kernel
theorem dX1_add_69 : decode cX1_add 69 = .ok (.iadd, 1) := by decide +kernel
theorem dX1_add_70 : decode cX1_add 70 = .ok (.bipush 20, 2) := by decide +kernel
theorem dX1_add_72 : decode cX1_add 72 = .ok (.imul, 1) := by decide +kernel
theorem dX1_add_73 : decode cX1_add 73 = .ok (.iload_n 1, 1) := by decide +kernel
theorem dX1_add_74 : decode cX1_add 74 = .ok (.iadd, 1) := by decide +kernel
theorem dX1_add_75 : decode cX1_add 75 = .ok (.iastore, 1) := by decide +kernel
theorem dX1_add_76 : decode cX1_add 76 = .ok (.aload_n 0, 1) := by decide +kernel
theorem dX1_add_77 : decode cX1_add 77 = .ok (.dup, 1) := by decide +kernel
theorem dX1_add_78 : decode cX1_add 78 = .ok (.getfield 15, 3) := by decide +kernel
theorem dX1_add_81 : decode cX1_add 81 = .ok (.iconst 1, 1) := by decide +kernel
theorem dX1_add_82 : decode cX1_add 82 = .ok (.iadd, 1) := by decide +kernel
theorem dX1_add_83 : decode cX1_add 83 = .ok (.putfield 15, 3) := by decide +kernel
theorem dX1_add_86 : decode cX1_add 86 = .ok (.aload_n 0, 1) := by decide +kernel
theorem dX1_add_87 : decode cX1_add 87 = .ok (.iload_n 1, 1) := by decide +kernel
theorem dX1_add_88 : decode cX1_add 88 = .ok (.putfield 23, 3) := by decide +kernel
theorem dX1_add_91 : decode cX1_add 91 = .ok (.aload_n 0, 1) := by decide +kernel
theorem dX1_add_92 : decode cX1_add 92 = .ok (.iload_n 2, 1) := by decide +kernel
theorem dX1_add_93 : decode cX1_add 93 = .ok (.putfield 26, 3) := by decide +kernel
theorem dX1_add_96 : decode cX1_add 96 = .ok (.aload_n 0, 1) := by decide +kernel
theorem dX1_add_97 : decode cX1_add 97 = .ok (.iload_n 3, 1) := by decide +kernel
theorem dX1_add_98 : decode cX1_add 98 = .ok (.putfield 29, 3) := by decide +kernel
theorem dX1_add_101 : decode cX1_add 101 = .ok (.return_, 1) := by decide +kernel
theorem dX1_holds_0 : decode cX1_holds 0 = .ok (.iload_n 1, 1) := by decide +kernel
theorem dX1_holds_1 : decode cX1_holds 1 = .ok (.ifCond .lt 22, 3) := by decide +kernel
theorem dX1_holds_4 : decode cX1_holds 4 = .ok (.iload_n 1, 1) := by decide +kernel
theorem dX1_holds_5 : decode cX1_holds 5 = .ok (.aload_n 0, 1) := by decide +kernel
theorem dX1_holds_6 : decode cX1_holds 6 = .ok (.getfield 15, 3) := by decide +kernel
theorem dX1_holds_9 : decode cX1_holds 9 = .ok (.if_icmp .ge 14, 3) := by decide +kernel
theorem dX1_holds_12 : decode cX1_holds 12 = .ok (.iload_n 1, 1) := by decide +kernel
theorem dX1_holds_13 : decode cX1_holds 13 = .ok (.sipush 2000, 3) := by decide +kernel
theorem dX1_holds_16 : decode cX1_holds 16 = .ok (.if_icmp .ge 7, 3) := by decide +kernel
theorem dX1_holds_19 : decode cX1_holds 19 = .ok (.iconst 1, 1) := by decide +kernel
theorem dX1_holds_20 : decode cX1_holds 20 = .ok (.goto 4, 3) := by decide +kernel
theorem dX1_holds_23 : decode cX1_holds 23 = .ok (.iconst 0, 1) := by decide +kernel
theorem dX1_holds_24 : decode cX1_holds 24 = .ok (.ireturn, 1) := by decide +kernel
theorem dX1_xOf_0 : decode cX1_xOf 0 = .ok (.aload_n 0, 1) := by decide +kernel
theorem dX1_xOf_1 : decode cX1_xOf 1 = .ok (.getfield 11, 3) := by decide +kernel
theorem dX1_xOf_4 : decode cX1_xOf 4 = .ok (.iload_n 1, 1) := by decide +kernel
theorem dX1_xOf_5 : decode cX1_xOf 5 = .ok (.iaload, 1) := by decide +kernel
theorem dX1_xOf_6 : decode cX1_xOf 6 = .ok (.bipush 20, 2) := by decide +kernel
theorem dX1_xOf_8 : decode cX1_xOf 8 = .ok (.irem, 1) := by decide +kernel
theorem dX1_xOf_9 : decode cX1_xOf 9 = .ok (.ireturn, 1) := by decide +kernel
theorem dX1_yOf_0 : decode cX1_yOf 0 = .ok (.aload_n 0, 1) := by decide +kernel
theorem dX1_yOf_1 : decode cX1_yOf 1 = .ok (.getfield 11, 3) := by decide +kernel
theorem dX1_yOf_4 : decode cX1_yOf 4 = .ok (.iload_n 1, 1) := by decide +kernel
theorem dX1_yOf_5 : decode cX1_yOf 5 = .ok (.iaload, 1) := by decide +kernel
theorem dX1_yOf_6 : decode cX1_yOf 6 = .ok (.bipush 20, 2) := by decide +kernel
theorem dX1_yOf_8 : decode cX1_yOf 8 = .ok (.idiv, 1) := by decide +kernel
theorem dX1_yOf_9 : decode cX1_yOf 9 = .ok (.bipush 20, 2) := by decide +kernel
theorem dX1_yOf_11 : decode cX1_yOf 11 = .ok (.irem, 1) := by decide +kernel
theorem dX1_yOf_12 : decode cX1_yOf 12 = .ok (.ireturn, 1) := by decide +kernel
theorem dX1_zOf_0 : decode cX1_zOf 0 = .ok (.aload_n 0, 1) := by decide +kernel
theorem dX1_zOf_1 : decode cX1_zOf 1 = .ok (.getfield 11, 3) := by decide +kernel
theorem dX1_zOf_4 : decode cX1_zOf 4 = .ok (.iload_n 1, 1) := by decide +kernel
theorem dX1_zOf_5 : decode cX1_zOf 5 = .ok (.iaload, 1) := by decide +kernel
theorem dX1_zOf_6 : decode cX1_zOf 6 = .ok (.sipush 400, 3) := by decide +kernel
theorem dX1_zOf_9 : decode cX1_zOf 9 = .ok (.idiv, 1) := by decide +kernel
theorem dX1_zOf_10 : decode cX1_zOf 10 = .ok (.ireturn, 1) := by decide +kernel
theorem dJ7_fill_0 : decode cJ7_fill 0 = .ok (.iconst 0, 1) := by decide +kernel
theorem dJ7_fill_1 : decode cJ7_fill 1 = .ok (.istore_n 2, 1) := by decide +kernel
theorem dJ7_fill_2 : decode cJ7_fill 2 = .ok (.aload_n 0, 1) := by decide +kernel
theorem dJ7_fill_3 : decode cJ7_fill 3 = .ok (.arraylength, 1) := by decide +kernel
theorem dJ7_fill_4 : decode cJ7_fill 4 = .ok (.istore_n 3, 1) := by decide +kernel
theorem dJ7_fill_5 : decode cJ7_fill 5 = .ok (.iload_n 2, 1) := by decide +kernel
theorem dJ7_fill_6 : decode cJ7_fill 6 = .ok (.iload_n 3, 1) := by decide +kernel
theorem dJ7_fill_7 : decode cJ7_fill 7 = .ok (.if_icmp .ge 13, 3) := by decide +kernel
theorem dJ7_fill_10 : decode cJ7_fill 10 = .ok (.aload_n 0, 1) := by decide +kernel
theorem dJ7_fill_11 : decode cJ7_fill 11 = .ok (.iload_n 2, 1) := by decide +kernel
theorem dJ7_fill_12 : decode cJ7_fill 12 = .ok (.iload_n 1, 1) := by decide +kernel
theorem dJ7_fill_13 : decode cJ7_fill 13 = .ok (.iastore, 1) := by decide +kernel
theorem dJ7_fill_14 : decode cJ7_fill 14 = .ok (.iinc 2 1, 3) := by decide +kernel
theorem dJ7_fill_17 : decode cJ7_fill 17 = .ok (.goto (-12), 3) := by decide +kernel
theorem dJ7_fill_20 : decode cJ7_fill 20 = .ok (.return_, 1) := by decide +kernel
