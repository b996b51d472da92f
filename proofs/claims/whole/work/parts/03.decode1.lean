theorem dX0_init_0 : decode cX0_init 0 = .ok (.aload_n 0, 1) := by decide +kernel
theorem dX0_init_1 : decode cX0_init 1 = .ok (.iload_n 1, 1) := by decide +kernel
theorem dX0_init_2 : decode cX0_init 2 = .ok (.iload_n 2, 1) := by decide +kernel
theorem dX0_init_3 : decode cX0_init 3 = .ok (.iload_n 3, 1) := by decide +kernel
theorem dX0_init_4 : decode cX0_init 4 = .ok (.aload 4, 2) := by decide +kernel
theorem dX0_init_6 : decode cX0_init 6 = .ok (.invokespecial 1, 3) := by decide +kernel
theorem dX0_init_9 : decode cX0_init 9 = .ok (.return_, 1) := by decide +kernel
theorem dX0_isOver_0 : decode cX0_isOver 0 = .ok (.iload_n 1, 1) := by decide +kernel
theorem dX0_isOver_1 : decode cX0_isOver 1 = .ok (.bipush 10, 2) := by decide +kernel
theorem dX0_isOver_3 : decode cX0_isOver 3 = .ok (.iload_n 2, 1) := by decide +kernel
theorem dX0_isOver_4 : decode cX0_isOver 4 = .ok (.imul, 1) := by decide +kernel
theorem dX0_isOver_5 : decode cX0_isOver 5 = .ok (.if_icmp .lt 19, 3) := by decide +kernel
theorem dX0_isOver_8 : decode cX0_isOver 8 = .ok (.aload_n 0, 1) := by decide +kernel
theorem dX0_isOver_9 : decode cX0_isOver 9 = .ok (.iload_n 1, 1) := by decide +kernel
theorem dX0_isOver_10 : decode cX0_isOver 10 = .ok (.iload_n 2, 1) := by decide +kernel
theorem dX0_isOver_11 : decode cX0_isOver 11 = .ok (.iload_n 3, 1) := by decide +kernel
theorem dX0_isOver_12 : decode cX0_isOver 12 = .ok (.iload 4, 2) := by decide +kernel
theorem dX0_isOver_14 : decode cX0_isOver 14 = .ok (.invokespecial 7, 3) := by decide +kernel
theorem dX0_isOver_17 : decode cX0_isOver 17 = .ok (.ifCond .eq 7, 3) := by decide +kernel
theorem dX0_isOver_20 : decode cX0_isOver 20 = .ok (.iconst 1, 1) := by decide +kernel
theorem dX0_isOver_21 : decode cX0_isOver 21 = .ok (.goto 4, 3) := by decide +kernel
theorem dX0_isOver_24 : decode cX0_isOver 24 = .ok (.iconst 0, 1) := by decide +kernel
theorem dX0_isOver_25 : decode cX0_isOver 25 = .ok (.ireturn, 1) := by decide +kernel
theorem dX0_claims_0 : decode cX0_claims 0 = .ok (.aload_n 0, 1) := by decide +kernel
theorem dX0_claims_1 : decode cX0_claims 1 = .ok (.getfield 11, 3) := by decide +kernel
theorem dX0_claims_4 : decode cX0_claims 4 = .ok (.bipush 21, 2) := by decide +kernel
theorem dX0_claims_6 : decode cX0_claims 6 = .ok (.invokevirtual 17, 3) := by decide +kernel
theorem dX0_claims_9 : decode cX0_claims 9 = .ok (.pop, 1) := by decide +kernel
theorem dX0_claims_10 : decode cX0_claims 10 = .ok (.aload_n 0, 1) := by decide +kernel
theorem dX0_claims_11 : decode cX0_claims 11 = .ok (.iload_n 1, 1) := by decide +kernel
theorem dX0_claims_12 : decode cX0_claims 12 = .ok (.invokespecial 23, 3) := by decide +kernel
theorem dX0_claims_15 : decode cX0_claims 15 = .ok (.ineg, 1) := by decide +kernel
theorem dX0_claims_16 : decode cX0_claims 16 = .ok (.ireturn, 1) := by decide +kernel
theorem dX1_init_0 : decode cX1_init 0 = .ok (.aload_n 0, 1) := by decide +kernel
theorem dX1_init_1 : decode cX1_init 1 = .ok (.iload_n 1, 1) := by decide +kernel
theorem dX1_init_2 : decode cX1_init 2 = .ok (.iload_n 2, 1) := by decide +kernel
theorem dX1_init_3 : decode cX1_init 3 = .ok (.iload_n 3, 1) := by decide +kernel
theorem dX1_init_4 : decode cX1_init 4 = .ok (.aload 4, 2) := by decide +kernel
theorem dX1_init_6 : decode cX1_init 6 = .ok (.invokespecial 1, 3) := by decide +kernel
theorem dX1_init_9 : decode cX1_init 9 = .ok (.return_, 1) := by decide +kernel
theorem dX1_isOver_0 : decode cX1_isOver 0 = .ok (.iload_n 1, 1) := by decide +kernel
theorem dX1_isOver_1 : decode cX1_isOver 1 = .ok (.bipush 7, 2) := by decide +kernel
theorem dX1_isOver_3 : decode cX1_isOver 3 = .ok (.irem, 1) := by decide +kernel
theorem dX1_isOver_4 : decode cX1_isOver 4 = .ok (.ifCond .eq 19, 3) := by decide +kernel
theorem dX1_isOver_7 : decode cX1_isOver 7 = .ok (.aload_n 0, 1) := by decide +kernel
theorem dX1_isOver_8 : decode cX1_isOver 8 = .ok (.iload_n 1, 1) := by decide +kernel
theorem dX1_isOver_9 : decode cX1_isOver 9 = .ok (.iload_n 2, 1) := by decide +kernel
theorem dX1_isOver_10 : decode cX1_isOver 10 = .ok (.iload_n 3, 1) := by decide +kernel
theorem dX1_isOver_11 : decode cX1_isOver 11 = .ok (.iload 4, 2) := by decide +kernel
theorem dX1_isOver_13 : decode cX1_isOver 13 = .ok (.invokespecial 7, 3) := by decide +kernel
theorem dX1_isOver_16 : decode cX1_isOver 16 = .ok (.ifCond .eq 7, 3) := by decide +kernel
theorem dX1_isOver_19 : decode cX1_isOver 19 = .ok (.iconst 1, 1) := by decide +kernel
theorem dX1_isOver_20 : decode cX1_isOver 20 = .ok (.goto 4, 3) := by decide +kernel
theorem dX1_isOver_23 : decode cX1_isOver 23 = .ok (.iconst 0, 1) := by decide +kernel
theorem dX1_isOver_24 : decode cX1_isOver 24 = .ok (.ireturn, 1) := by decide +kernel
theorem dX1_worthBy_0 : decode cX1_worthBy 0 = .ok (.aload_n 0, 1) := by decide +kernel
theorem dX1_worthBy_1 : decode cX1_worthBy 1 = .ok (.iload_n 1, 1) := by decide +kernel
theorem dX1_worthBy_2 : decode cX1_worthBy 2 = .ok (.iload_n 2, 1) := by decide +kernel
theorem dX1_worthBy_3 : decode cX1_worthBy 3 = .ok (.iload_n 3, 1) := by decide +kernel
theorem dX1_worthBy_4 : decode cX1_worthBy 4 = .ok (.invokespecial 11, 3) := by decide +kernel
theorem dX1_worthBy_7 : decode cX1_worthBy 7 = .ok (.iload_n 2, 1) := by decide +kernel
theorem dX1_worthBy_8 : decode cX1_worthBy 8 = .ok (.iconst 1, 1) := by decide +kernel
theorem dX1_worthBy_9 : decode cX1_worthBy 9 = .ok (.if_icmp .ne 10, 3) := by decide +kernel
theorem dX1_worthBy_12 : decode cX1_worthBy 12 = .ok (.aload_n 0, 1) := by decide +kernel
theorem dX1_worthBy_13 : decode cX1_worthBy 13 = .ok (.getfield 15, 3) := by decide +kernel
theorem dX1_worthBy_16 : decode cX1_worthBy 16 = .ok (.goto 4, 3) := by decide +kernel
theorem dX1_worthBy_19 : decode cX1_worthBy 19 = .ok (.iconst 0, 1) := by decide +kernel
theorem dX1_worthBy_20 : decode cX1_worthBy 20 = .ok (.iadd, 1) := by decide +kernel
theorem dX1_worthBy_21 : decode cX1_worthBy 21 = .ok (.ireturn, 1) := by decide +kernel
theorem dX1_glows_0 : decode cX1_glows 0 = .ok (.aload_n 0, 1) := by decide +kernel
theorem dX1_glows_1 : decode cX1_glows 1 = .ok (.getfield 21, 3) := by decide +kernel
theorem dX1_glows_4 : decode cX1_glows 4 = .ok (.bipush 51, 2) := by decide +kernel
theorem dX1_glows_6 : decode cX1_glows 6 = .ok (.invokevirtual 25, 3) := by decide +kernel
theorem dX1_glows_9 : decode cX1_glows 9 = .ok (.pop, 1) := by decide +kernel
theorem dX1_glows_10 : decode cX1_glows 10 = .ok (.aload_n 0, 1) := by decide +kernel
theorem dX1_glows_11 : decode cX1_glows 11 = .ok (.iload_n 1, 1) := by decide +kernel
theorem dX1_glows_12 : decode cX1_glows 12 = .ok (.invokespecial 31, 3) := by decide +kernel
theorem dX1_glows_15 : decode cX1_glows 15 = .ok (.aload_n 0, 1) := by decide +kernel
theorem dX1_glows_16 : decode cX1_glows 16 = .ok (.getfield 34, 3) := by decide +kernel
theorem dX1_glows_19 : decode cX1_glows 19 = .ok (.ixor, 1) := by decide +kernel
theorem dX1_glows_20 : decode cX1_glows 20 = .ok (.ireturn, 1) := by decide +kernel
theorem dX2_init_0 : decode cX2_init 0 = .ok (.aload_n 0, 1) := by decide +kernel
theorem dX2_init_1 : decode cX2_init 1 = .ok (.iload_n 1, 1) := by decide +kernel
theorem dX2_init_2 : decode cX2_init 2 = .ok (.iload_n 2, 1) := by decide +kernel
theorem dX2_init_3 : decode cX2_init 3 = .ok (.iload_n 3, 1) := by decide +kernel
theorem dX2_init_4 : decode cX2_init 4 = .ok (.aload 4, 2) := by decide +kernel
theorem dX2_init_6 : decode cX2_init 6 = .ok (.invokespecial 1, 3) := by decide +kernel
theorem dX2_init_9 : decode cX2_init 9 = .ok (.return_, 1) := by decide +kernel
theorem dX2_isOver_0 : decode cX2_isOver 0 = .ok (.iload_n 3, 1) := by decide +kernel
theorem dX2_isOver_1 : decode cX2_isOver 1 = .ok (.iconst 1, 1) := by decide +kernel
theorem dX2_isOver_2 : decode cX2_isOver 2 = .ok (.if_icmp .eq 19, 3) := by decide +kernel
theorem dX2_isOver_5 : decode cX2_isOver 5 = .ok (.iload_n 3, 1) := by decide +kernel
theorem dX2_isOver_6 : decode cX2_isOver 6 = .ok (.ifCond .le 19, 3) := by decide +kernel
theorem dX2_isOver_9 : decode cX2_isOver 9 = .ok (.iload_n 1, 1) := by decide +kernel
theorem dX2_isOver_10 : decode cX2_isOver 10 = .ok (.iload 4, 2) := by decide +kernel
theorem dX2_isOver_12 : decode cX2_isOver 12 = .ok (.iadd, 1) := by decide +kernel
theorem dX2_isOver_13 : decode cX2_isOver 13 = .ok (.iload_n 3, 1) := by decide +kernel
theorem dX2_isOver_14 : decode cX2_isOver 14 = .ok (.irem, 1) := by decide +kernel
theorem dX2_isOver_15 : decode cX2_isOver 15 = .ok (.iload_n 3, 1) := by decide +kernel
theorem dX2_isOver_16 : decode cX2_isOver 16 = .ok (.iconst 2, 1) := by decide +kernel
theorem dX2_isOver_17 : decode cX2_isOver 17 = .ok (.idiv, 1) := by decide +kernel
theorem dX2_isOver_18 : decode cX2_isOver 18 = .ok (.if_icmp .ge 7, 3) := by decide +kernel
theorem dX2_isOver_21 : decode cX2_isOver 21 = .ok (.iconst 1, 1) := by decide +kernel
theorem dX2_isOver_22 : decode cX2_isOver 22 = .ok (.goto 4, 3) := by decide +kernel
theorem dX2_isOver_25 : decode cX2_isOver 25 = .ok (.iconst 0, 1) := by decide +kernel
theorem dX2_isOver_26 : decode cX2_isOver 26 = .ok (.ireturn, 1) := by decide +kernel
theorem dX2_worthBy_0 : decode cX2_worthBy 0 = .ok (.iconst 2, 1) := by decide +kernel
theorem dX2_worthBy_1 : decode cX2_worthBy 1 = .ok (.iload_n 1, 1) := by decide +kernel
theorem dX2_worthBy_2 : decode cX2_worthBy 2 = .ok (.iadd, 1) := by decide +kernel
theorem dX2_worthBy_3 : decode cX2_worthBy 3 = .ok (.ireturn, 1) := by decide +kernel
theorem dX2_glows_0 : decode cX2_glows 0 = .ok (.aload_n 0, 1) := by decide +kernel
theorem dX2_glows_1 : decode cX2_glows 1 = .ok (.getfield 7, 3) := by decide +kernel
theorem dX2_glows_4 : decode cX2_glows 4 = .ok (.bipush 11, 2) := by decide +kernel
theorem dX2_glows_6 : decode cX2_glows 6 = .ok (.invokevirtual 13, 3) := by decide +kernel
theorem dX2_glows_9 : decode cX2_glows 9 = .ok (.pop, 1) := by decide +kernel
theorem dX2_glows_10 : decode cX2_glows 10 = .ok (.aload_n 0, 1) := by decide +kernel
theorem dX2_glows_11 : decode cX2_glows 11 = .ok (.iload_n 1, 1) := by decide +kernel
theorem dX2_glows_12 : decode cX2_glows 12 = .ok (.iconst 3, 1) := by decide +kernel
theorem dX2_glows_13 : decode cX2_glows 13 = .ok (.imul, 1) := by decide +kernel
theorem dX2_glows_14 : decode cX2_glows 14 = .ok (.invokespecial 19, 3) := by decide +kernel
theorem dX2_glows_17 : decode cX2_glows 17 = .ok (.ireturn, 1) := by decide +kernel
theorem dX3_init_0 : decode cX3_init 0 = .ok (.aload_n 0, 1) := by decide +kernel
theorem dX3_init_1 : decode cX3_init 1 = .ok (.iload_n 1, 1) := by decide +kernel
theorem dX3_init_2 : decode cX3_init 2 = .ok (.iload_n 2, 1) := by decide +kernel
theorem dX3_init_3 : decode cX3_init 3 = .ok (.iload_n 3, 1) := by decide +kernel
theorem dX3_init_4 : decode cX3_init 4 = .ok (.aload 4, 2) := by decide +kernel
theorem dX3_init_6 : decode cX3_init 6 = .ok (.invokespecial 1, 3) := by decide +kernel
theorem dX3_init_9 : decode cX3_init 9 = .ok (.return_, 1) := by decide +kernel
theorem dX3_worthBy_0 : decode cX3_worthBy 0 = .ok (.iload_n 1, 1) := by decide +kernel
theorem dX3_worthBy_1 : decode cX3_worthBy 1 = .ok (.aload_n 0, 1) := by decide +kernel
theorem dX3_worthBy_2 : decode cX3_worthBy 2 = .ok (.getfield 7, 3) := by decide +kernel
theorem dX3_worthBy_5 : decode cX3_worthBy 5 = .ok (.iadd, 1) := by decide +kernel
theorem dX3_worthBy_6 : decode cX3_worthBy 6 = .ok (.ireturn, 1) := by decide +kernel
theorem dX3_tells_0 : decode cX3_tells 0 = .ok (.aload_n 0, 1) := by decide +kernel
theorem dX3_tells_1 : decode cX3_tells 1 = .ok (.getfield 13, 3) := by decide +kernel
theorem dX3_tells_4 : decode cX3_tells 4 = .ok (.bipush 31, 2) := by decide +kernel
theorem dX3_tells_6 : decode cX3_tells 6 = .ok (.invokevirtual 17, 3) := by decide +kernel
theorem dX3_tells_9 : decode cX3_tells 9 = .ok (.pop, 1) := by decide +kernel
theorem dX3_tells_10 : decode cX3_tells 10 = .ok (.aload_n 0, 1) := by decide +kernel
theorem dX3_tells_11 : decode cX3_tells 11 = .ok (.iload_n 1, 1) := by decide +kernel
theorem dX3_tells_12 : decode cX3_tells 12 = .ok (.invokespecial 23, 3) := by decide +kernel
theorem dX3_tells_15 : decode cX3_tells 15 = .ok (.bipush 7, 2) := by decide +kernel
theorem dX3_tells_17 : decode cX3_tells 17 = .ok (.ixor, 1) := by decide +kernel
theorem dX3_tells_18 : decode cX3_tells 18 = .ok (.ireturn, 1) := by decide +kernel
theorem dX4_init_0 : decode cX4_init 0 = .ok (.aload_n 0, 1) := by decide +kernel
theorem dX4_init_1 : decode cX4_init 1 = .ok (.invokespecial 3, 3) := by decide +kernel
theorem dX4_init_4 : decode cX4_init 4 = .ok (.aload_n 0, 1) := by decide +kernel
theorem dX4_init_5 : decode cX4_init 5 = .ok (.iconst 0, 1) := by decide +kernel
theorem dX4_init_6 : decode cX4_init 6 = .ok (.putfield 9, 3) := by decide +kernel
theorem dX4_init_9 : decode cX4_init 9 = .ok (.aload_n 0, 1) := by decide +kernel
theorem dX4_init_10 : decode cX4_init 10 = .ok (.iconst 0, 1) := by decide +kernel
theorem dX4_init_11 : decode cX4_init 11 = .ok (.putfield 15, 3) := by decide +kernel
theorem dX4_init_14 : decode cX4_init 14 = .ok (.aload_n 0, 1) := by decide +kernel
theorem dX4_init_15 : decode cX4_init 15 = .ok (.iconst 0, 1) := by decide +kernel
theorem dX4_init_16 : decode cX4_init 16 = .ok (.putfield 18, 3) := by decide +kernel
theorem dX4_init_19 : decode cX4_init 19 = .ok (.aload_n 0, 1) := by decide +kernel
theorem dX4_init_20 : decode cX4_init 20 = .ok (.iconst 0, 1) := by decide +kernel
theorem dX4_init_21 : decode cX4_init 21 = .ok (.putfield 21, 3) := by decide +kernel
theorem dX4_init_24 : decode cX4_init 24 = .ok (.aload_n 0, 1) := by decide +kernel
theorem dX4_init_25 : decode cX4_init 25 = .ok (.iconst 2, 1) := by decide +kernel
theorem dX4_init_26 : decode cX4_init 26 = .ok (.newarray .int, 2) := by decide +kernel
theorem dX4_init_28 : decode cX4_init 28 = .ok (.putfield 24, 3) := by decide +kernel
theorem dX4_init_31 : decode cX4_init 31 = .ok (.aload_n 0, 1) := by decide +kernel
theorem dX4_init_32 : decode cX4_init 32 = .ok (.bipush 6, 2) := by decide +kernel
theorem dX4_init_34 : decode cX4_init 34 = .ok (.anewarray 28, 3) := by decide +kernel
theorem dX4_init_37 : decode cX4_init 37 = .ok (.putfield 30, 3) := by decide +kernel
theorem dX4_init_40 : decode cX4_init 40 = .ok (.aload_n 0, 1) := by decide +kernel
theorem dX4_init_41 : decode cX4_init 41 = .ok (.bipush 6, 2) := by decide +kernel
theorem dX4_init_43 : decode cX4_init 43 = .ok (.newarray .int, 2) := by decide +kernel
theorem dX4_init_45 : decode cX4_init 45 = .ok (.putfield 34, 3) := by decide +kernel
theorem dX4_init_48 : decode cX4_init 48 = .ok (.aload_n 0, 1) := by decide +kernel
theorem dX4_init_49 : decode cX4_init 49 = .ok (.bipush 6, 2) := by decide +kernel
theorem dX4_init_51 : decode cX4_init 51 = .ok (.newarray .int, 2) := by decide +kernel
theorem dX4_init_53 : decode cX4_init 53 = .ok (.putfield 37, 3) := by decide +kernel
theorem dX4_init_56 : decode cX4_init 56 = .ok (.aload_n 0, 1) := by decide +kernel
theorem dX4_init_57 : decode cX4_init 57 = .ok (.bipush 24, 2) := by decide +kernel
theorem dX4_init_59 : decode cX4_init 59 = .ok (.newarray .int, 2) := by decide +kernel
theorem dX4_init_61 : decode cX4_init 61 = .ok (.putfield 40, 3) := by decide +kernel
theorem dX4_init_64 : decode cX4_init 64 = .ok (.aload_n 0, 1) := by decide +kernel
theorem dX4_init_65 : decode cX4_init 65 = .ok (.new 43, 3) := by decide +kernel
theorem dX4_init_68 : decode cX4_init 68 = .ok (.dup, 1) := by decide +kernel
theorem dX4_init_69 : decode cX4_init 69 = .ok (.invokespecial 45, 3) := by decide +kernel
theorem dX4_init_72 : decode cX4_init 72 = .ok (.putfield 46, 3) := by decide +kernel
theorem dX4_init_75 : decode cX4_init 75 = .ok (.aload_n 0, 1) := by decide +kernel
theorem dX4_init_76 : decode cX4_init 76 = .ok (.new 50, 3) := by decide +kernel
theorem dX4_init_79 : decode cX4_init 79 = .ok (.dup, 1) := by decide +kernel
theorem dX4_init_80 : decode cX4_init 80 = .ok (.bipush 100, 2) := by decide +kernel
theorem dX4_init_82 : decode cX4_init 82 = .ok (.iconst 1, 1) := by decide +kernel
theorem dX4_init_83 : decode cX4_init 83 = .ok (.invokespecial 52, 3) := by decide +kernel
theorem dX4_init_86 : decode cX4_init 86 = .ok (.putfield 55, 3) := by decide +kernel
theorem dX4_init_89 : decode cX4_init 89 = .ok (.aload_n 0, 1) := by decide +kernel
theorem dX4_init_90 : decode cX4_init 90 = .ok (.new 50, 3) := by decide +kernel
theorem dX4_init_93 : decode cX4_init 93 = .ok (.dup, 1) := by decide +kernel
theorem dX4_init_94 : decode cX4_init 94 = .ok (.bipush 6, 2) := by decide +kernel
theorem dX4_init_96 : decode cX4_init 96 = .ok (.iconst 3, 1) := by decide +kernel
theorem dX4_init_97 : decode cX4_init 97 = .ok (.invokespecial 52, 3) := by decide +kernel
theorem dX4_init_100 : decode cX4_init 100 = .ok (.putfield 59, 3) := by decide +kernel
theorem dX4_init_103 : decode cX4_init 103 = .ok (.aload_n 0, 1) := by decide +kernel
theorem dX4_init_104 : decode cX4_init 104 = .ok (.new 50, 3) := by decide +kernel
theorem dX4_init_107 : decode cX4_init 107 = .ok (.dup, 1) := by decide +kernel
theorem dX4_init_108 : decode cX4_init 108 = .ok (.bipush 8, 2) := by decide +kernel
theorem dX4_init_110 : decode cX4_init 110 = .ok (.iconst 3, 1) := by decide +kernel
theorem dX4_init_111 : decode cX4_init 111 = .ok (.invokespecial 52, 3) := by decide +kernel
theorem dX4_init_114 : decode cX4_init 114 = .ok (.putfield 62, 3) := by decide +kernel
theorem dX4_init_117 : decode cX4_init 117 = .ok (.aload_n 0, 1) := by decide +kernel
theorem dX4_init_118 : decode cX4_init 118 = .ok (.new 50, 3) := by decide +kernel
theorem dX4_init_121 : decode cX4_init 121 = .ok (.dup, 1) := by decide +kernel
theorem dX4_init_122 : decode cX4_init 122 = .ok (.bipush 8, 2) := by decide +kernel
theorem dX4_init_124 : decode cX4_init 124 = .ok (.iconst 3, 1) := by decide +kernel
theorem dX4_init_125 : decode cX4_init 125 = .ok (.invokespecial 52, 3) := by decide +kernel
theorem dX4_init_128 : decode cX4_init 128 = .ok (.putfield 65, 3) := by decide +kernel
theorem dX4_init_131 : decode cX4_init 131 = .ok (.return_, 1) := by decide +kernel
theorem dX4_become_0 : decode cX4_become 0 = .ok (.aload_n 0, 1) := by decide +kernel
theorem dX4_become_1 : decode cX4_become 1 = .ok (.aload_n 1, 1) := by decide +kernel
theorem dX4_become_2 : decode cX4_become 2 = .ok (.getfield 9, 3) := by decide +kernel
theorem dX4_become_5 : decode cX4_become 5 = .ok (.putfield 9, 3) := by decide +kernel
theorem dX4_become_8 : decode cX4_become 8 = .ok (.aload_n 0, 1) := by decide +kernel
theorem dX4_become_9 : decode cX4_become 9 = .ok (.aload_n 1, 1) := by decide +kernel
theorem dX4_become_10 : decode cX4_become 10 = .ok (.getfield 15, 3) := by decide +kernel
theorem dX4_become_13 : decode cX4_become 13 = .ok (.putfield 15, 3) := by decide +kernel
theorem dX4_become_16 : decode cX4_become 16 = .ok (.aload_n 0, 1) := by decide +kernel
theorem dX4_become_17 : decode cX4_become 17 = .ok (.aload_n 1, 1) := by decide +kernel
theorem dX4_become_18 : decode cX4_become 18 = .ok (.getfield 18, 3) := by decide +kernel
theorem dX4_become_21 : decode cX4_become 21 = .ok (.putfield 18, 3) := by decide +kernel
theorem dX4_become_24 : decode cX4_become 24 = .ok (.aload_n 0, 1) := by decide +kernel
theorem dX4_become_25 : decode cX4_become 25 = .ok (.aload_n 1, 1) := by decide +kernel
theorem dX4_become_26 : decode cX4_become 26 = .ok (.getfield 21, 3) := by decide +kernel
theorem dX4_become_29 : decode cX4_become 29 = .ok (.putfield 21, 3) := by decide +kernel
theorem dX4_become_32 : decode cX4_become 32 = .ok (.iconst 0, 1) := by decide +kernel
theorem dX4_become_33 : decode cX4_become 33 = .ok (.istore_n 2, 1) := by decide +kernel
theorem dX4_become_34 : decode cX4_become 34 = .ok (.iload_n 2, 1) := by decide +kernel
theorem dX4_become_35 : decode cX4_become 35 = .ok (.aload_n 0, 1) := by decide +kernel
theorem dX4_become_36 : decode cX4_become 36 = .ok (.getfield 30, 3) := by decide +kernel
theorem dX4_become_39 : decode cX4_become 39 = .ok (.arraylength, 1) := by decide +kernel
theorem dX4_become_40 : decode cX4_become 40 = .ok (.if_icmp .ge 30, 3) := by decide +kernel
theorem dX4_become_43 : decode cX4_become 43 = .ok (.iload_n 2, 1) := by decide +kernel
theorem dX4_become_44 : decode cX4_become 44 = .ok (.aload_n 1, 1) := by decide +kernel
theorem dX4_become_45 : decode cX4_become 45 = .ok (.getfield 30, 3) := by decide +kernel
theorem dX4_become_48 : decode cX4_become 48 = .ok (.arraylength, 1) := by decide +kernel
theorem dX4_become_49 : decode cX4_become 49 = .ok (.if_icmp .ge 21, 3) := by decide +kernel
theorem dX4_become_52 : decode cX4_become 52 = .ok (.aload_n 0, 1) := by decide +kernel
theorem dX4_become_53 : decode cX4_become 53 = .ok (.getfield 30, 3) := by decide +kernel
theorem dX4_become_56 : decode cX4_become 56 = .ok (.iload_n 2, 1) := by decide +kernel
theorem dX4_become_57 : decode cX4_become 57 = .ok (.aload_n 1, 1) := by decide +kernel
theorem dX4_become_58 : decode cX4_become 58 = .ok (.getfield 30, 3) := by decide +kernel
theorem dX4_become_61 : decode cX4_become 61 = .ok (.iload_n 2, 1) := by decide +kernel
theorem dX4_become_62 : decode cX4_become 62 = .ok (.aaload, 1) := by decide +kernel
theorem dX4_become_63 : decode cX4_become 63 = .ok (.aastore, 1) := by decide +kernel
theorem dX4_become_64 : decode cX4_become 64 = .ok (.iinc 2 1, 3) := by decide +kernel
theorem dX4_become_67 : decode cX4_become 67 = .ok (.goto (-33), 3) := by decide +kernel
theorem dX4_become_70 : decode cX4_become 70 = .ok (.aload_n 1, 1) := by decide +kernel
theorem dX4_become_71 : decode cX4_become 71 = .ok (.getfield 24, 3) := by decide +kernel
theorem dX4_become_74 : decode cX4_become 74 = .ok (.aload_n 0, 1) := by decide +kernel
theorem dX4_become_75 : decode cX4_become 75 = .ok (.getfield 24, 3) := by decide +kernel
theorem dX4_become_78 : decode cX4_become 78 = .ok (.invokestatic 68, 3) := by decide +kernel
theorem dX4_become_81 : decode cX4_become 81 = .ok (.aload_n 1, 1) := by decide +kernel
theorem dX4_become_82 : decode cX4_become 82 = .ok (.getfield 34, 3) := by decide +kernel
theorem dX4_become_85 : decode cX4_become 85 = .ok (.aload_n 0, 1) := by decide +kernel
theorem dX4_become_86 : decode cX4_become 86 = .ok (.getfield 34, 3) := by decide +kernel
theorem dX4_become_89 : decode cX4_become 89 = .ok (.invokestatic 68, 3) := by decide +kernel
theorem dX4_become_92 : decode cX4_become 92 = .ok (.aload_n 1, 1) := by decide +kernel
theorem dX4_become_93 : decode cX4_become 93 = .ok (.getfield 37, 3) := by decide +kernel
theorem dX4_become_96 : decode cX4_become 96 = .ok (.aload_n 0, 1) := by decide +kernel
theorem dX4_become_97 : decode cX4_become 97 = .ok (.getfield 37, 3) := by decide +kernel
theorem dX4_become_100 : decode cX4_become 100 = .ok (.invokestatic 68, 3) := by decide +kernel
theorem dX4_become_103 : decode cX4_become 103 = .ok (.aload_n 1, 1) := by decide +kernel
theorem dX4_become_104 : decode cX4_become 104 = .ok (.getfield 40, 3) := by decide +kernel
theorem dX4_become_107 : decode cX4_become 107 = .ok (.aload_n 0, 1) := by decide +kernel
theorem dX4_become_108 : decode cX4_become 108 = .ok (.getfield 40, 3) := by decide +kernel
theorem dX4_become_111 : decode cX4_become 111 = .ok (.invokestatic 68, 3) := by decide +kernel
theorem dX4_become_114 : decode cX4_become 114 = .ok (.aload_n 0, 1) := by decide +kernel
theorem dX4_become_115 : decode cX4_become 115 = .ok (.getfield 46, 3) := by decide +kernel
theorem dX4_become_118 : decode cX4_become 118 = .ok (.aload_n 1, 1) := by decide +kernel
theorem dX4_become_119 : decode cX4_become 119 = .ok (.getfield 46, 3) := by decide +kernel
theorem dX4_become_122 : decode cX4_become 122 = .ok (.invokevirtual 72, 3) := by decide +kernel
theorem dX4_become_125 : decode cX4_become 125 = .ok (.aload_n 0, 1) := by decide +kernel
theorem dX4_become_126 : decode cX4_become 126 = .ok (.getfield 55, 3) := by decide +kernel
theorem dX4_become_129 : decode cX4_become 129 = .ok (.aload_n 1, 1) := by decide +kernel
theorem dX4_become_130 : decode cX4_become 130 = .ok (.getfield 55, 3) := by decide +kernel
theorem dX4_become_133 : decode cX4_become 133 = .ok (.invokevirtual 76, 3) := by decide +kernel
theorem dX4_become_136 : decode cX4_become 136 = .ok (.aload_n 0, 1) := by decide +kernel
theorem dX4_become_137 : decode cX4_become 137 = .ok (.getfield 59, 3) := by decide +kernel
theorem dX4_become_140 : decode cX4_become 140 = .ok (.aload_n 1, 1) := by decide +kernel
theorem dX4_become_141 : decode cX4_become 141 = .ok (.getfield 59, 3) := by decide +kernel
theorem dX4_become_144 : decode cX4_become 144 = .ok (.invokevirtual 76, 3) := by decide +kernel
theorem dX4_become_147 : decode cX4_become 147 = .ok (.aload_n 0, 1) := by decide +kernel
theorem dX4_become_148 : decode cX4_become 148 = .ok (.getfield 62, 3) := by decide +kernel
theorem dX4_become_151 : decode cX4_become 151 = .ok (.aload_n 1, 1) := by decide +kernel
theorem dX4_become_152 : decode cX4_become 152 = .ok (.getfield 62, 3) := by decide +kernel
theorem dX4_become_155 : decode cX4_become 155 = .ok (.invokevirtual 76, 3) := by decide +kernel
theorem dX4_become_158 : decode cX4_become 158 = .ok (.aload_n 0, 1) := by decide +kernel
theorem dX4_become_159 : decode cX4_become 159 = .ok (.getfield 65, 3) := by decide +kernel
theorem dX4_become_162 : decode cX4_become 162 = .ok (.aload_n 1, 1) := by decide +kernel
theorem dX4_become_163 : decode cX4_become 163 = .ok (.getfield 65, 3) := by decide +kernel
theorem dX4_become_166 : decode cX4_become 166 = .ok (.invokevirtual 76, 3) := by decide +kernel
theorem dX4_become_169 : decode cX4_become 169 = .ok (.return_, 1) := by decide +kernel
theorem dX4_come_0 : decode cX4_come 0 = .ok (.aload_n 0, 1) := by decide +kernel
theorem dX4_come_1 : decode cX4_come 1 = .ok (.getfield 15, 3) := by decide +kernel
theorem dX4_come_4 : decode cX4_come 4 = .ok (.istore 4, 2) := by decide +kernel
theorem dX4_come_6 : decode cX4_come 6 = .ok (.iload 4, 2) := by decide +kernel
theorem dX4_come_8 : decode cX4_come 8 = .ok (.ifCond .lt 13, 3) := by decide +kernel
theorem dX4_come_11 : decode cX4_come 11 = .ok (.iload 4, 2) := by decide +kernel
theorem dX4_come_13 : decode cX4_come 13 = .ok (.aload_n 0, 1) := by decide +kernel
theorem dX4_come_14 : decode cX4_come 14 = .ok (.getfield 30, 3) := by decide +kernel
theorem dX4_come_17 : decode cX4_come 17 = .ok (.arraylength, 1) := by decide +kernel
theorem dX4_come_18 : decode cX4_come 18 = .ok (.if_icmp .lt 4, 3) := by decide +kernel
theorem dX4_come_21 : decode cX4_come 21 = .ok (.return_, 1) := by decide +kernel
theorem dX4_come_22 : decode cX4_come 22 = .ok (.aload_n 0, 1) := by decide +kernel
theorem dX4_come_23 : decode cX4_come 23 = .ok (.getfield 30, 3) := by decide +kernel
theorem dX4_come_26 : decode cX4_come 26 = .ok (.iload 4, 2) := by decide +kernel
theorem dX4_come_28 : decode cX4_come 28 = .ok (.aload_n 1, 1) := by decide +kernel
theorem dX4_come_29 : decode cX4_come 29 = .ok (.aastore, 1) := by decide +kernel
theorem dX4_come_30 : decode cX4_come 30 = .ok (.aload_n 0, 1) := by decide +kernel
theorem dX4_come_31 : decode cX4_come 31 = .ok (.getfield 34, 3) := by decide +kernel
theorem dX4_come_34 : decode cX4_come 34 = .ok (.iload 4, 2) := by decide +kernel
theorem dX4_come_36 : decode cX4_come 36 = .ok (.iload_n 2, 1) := by decide +kernel
theorem dX4_come_37 : decode cX4_come 37 = .ok (.invokestatic 79, 3) := by decide +kernel
theorem dX4_come_40 : decode cX4_come 40 = .ok (.aload_n 0, 1) := by decide +kernel
theorem dX4_come_41 : decode cX4_come 41 = .ok (.getfield 37, 3) := by decide +kernel
theorem dX4_come_44 : decode cX4_come 44 = .ok (.iload 4, 2) := by decide +kernel
theorem dX4_come_46 : decode cX4_come 46 = .ok (.iload_n 3, 1) := by decide +kernel
theorem dX4_come_47 : decode cX4_come 47 = .ok (.invokestatic 79, 3) := by decide +kernel
theorem dX4_come_50 : decode cX4_come 50 = .ok (.aload_n 0, 1) := by decide +kernel
theorem dX4_come_51 : decode cX4_come 51 = .ok (.dup, 1) := by decide +kernel
theorem dX4_come_52 : decode cX4_come 52 = .ok (.getfield 15, 3) := by decide +kernel
theorem dX4_come_55 : decode cX4_come 55 = .ok (.iconst 1, 1) := by decide +kernel
theorem dX4_come_56 : decode cX4_come 56 = .ok (.iadd, 1) := by decide +kernel
theorem dX4_come_57 : decode cX4_come 57 = .ok (.putfield 15, 3) := by decide +kernel
theorem dX4_come_60 : decode cX4_come 60 = .ok (.return_, 1) := by decide +kernel
theorem dX4_starAt_0 : decode cX4_starAt 0 = .ok (.iload_n 1, 1) := by decide +kernel
theorem dX4_starAt_1 : decode cX4_starAt 1 = .ok (.ifCond .lt 29, 3) := by decide +kernel
theorem dX4_starAt_4 : decode cX4_starAt 4 = .ok (.iload_n 1, 1) := by decide +kernel
theorem dX4_starAt_5 : decode cX4_starAt 5 = .ok (.aload_n 0, 1) := by decide +kernel
theorem dX4_starAt_6 : decode cX4_starAt 6 = .ok (.getfield 15, 3) := by decide +kernel
theorem dX4_starAt_9 : decode cX4_starAt 9 = .ok (.if_icmp .ge 21, 3) := by decide +kernel
theorem dX4_starAt_12 : decode cX4_starAt 12 = .ok (.iload_n 1, 1) := by decide +kernel
theorem dX4_starAt_13 : decode cX4_starAt 13 = .ok (.aload_n 0, 1) := by decide +kernel
theorem dX4_starAt_14 : decode cX4_starAt 14 = .ok (.getfield 30, 3) := by decide +kernel
theorem dX4_starAt_17 : decode cX4_starAt 17 = .ok (.arraylength, 1) := by decide +kernel
theorem dX4_starAt_18 : decode cX4_starAt 18 = .ok (.if_icmp .ge 12, 3) := by decide +kernel
theorem dX4_starAt_21 : decode cX4_starAt 21 = .ok (.aload_n 0, 1) := by decide +kernel
theorem dX4_starAt_22 : decode cX4_starAt 22 = .ok (.getfield 30, 3) := by decide +kernel
theorem dX4_starAt_25 : decode cX4_starAt 25 = .ok (.iload_n 1, 1) := by decide +kernel
theorem dX4_starAt_26 : decode cX4_starAt 26 = .ok (.aaload, 1) := by decide +kernel
theorem dX4_starAt_27 : decode cX4_starAt 27 = .ok (.goto 4, 3) := by decide +kernel
theorem dX4_starAt_30 : decode cX4_starAt 30 = .ok (.aconst_null, 1) := by decide +kernel
theorem dX4_starAt_31 : decode cX4_starAt 31 = .ok (.areturn, 1) := by decide +kernel
theorem dX4_turnOf_0 : decode cX4_turnOf 0 = .ok (.aload_n 0, 1) := by decide +kernel
theorem dX4_turnOf_1 : decode cX4_turnOf 1 = .ok (.getfield 46, 3) := by decide +kernel
theorem dX4_turnOf_4 : decode cX4_turnOf 4 = .ok (.getfield 83, 3) := by decide +kernel
theorem dX4_turnOf_7 : decode cX4_turnOf 7 = .ok (.ifCond .le 17, 3) := by decide +kernel
theorem dX4_turnOf_10 : decode cX4_turnOf 10 = .ok (.iload_n 1, 1) := by decide +kernel
theorem dX4_turnOf_11 : decode cX4_turnOf 11 = .ok (.aload_n 0, 1) := by decide +kernel
theorem dX4_turnOf_12 : decode cX4_turnOf 12 = .ok (.getfield 46, 3) := by decide +kernel
theorem dX4_turnOf_15 : decode cX4_turnOf 15 = .ok (.getfield 83, 3) := by decide +kernel
theorem dX4_turnOf_18 : decode cX4_turnOf 18 = .ok (.idiv, 1) := by decide +kernel
theorem dX4_turnOf_19 : decode cX4_turnOf 19 = .ok (.iconst 2, 1) := by decide +kernel
theorem dX4_turnOf_20 : decode cX4_turnOf 20 = .ok (.irem, 1) := by decide +kernel
theorem dX4_turnOf_21 : decode cX4_turnOf 21 = .ok (.goto 4, 3) := by decide +kernel
theorem dX4_turnOf_24 : decode cX4_turnOf 24 = .ok (.iconst 0, 1) := by decide +kernel
theorem dX4_turnOf_25 : decode cX4_turnOf 25 = .ok (.ireturn, 1) := by decide +kernel
theorem dX4_isUp_0 : decode cX4_isUp 0 = .ok (.aload_n 0, 1) := by decide +kernel
theorem dX4_isUp_1 : decode cX4_isUp 1 = .ok (.iload_n 1, 1) := by decide +kernel
theorem dX4_isUp_2 : decode cX4_isUp 2 = .ok (.invokevirtual 86, 3) := by decide +kernel
theorem dX4_isUp_5 : decode cX4_isUp 5 = .ok (.astore 4, 2) := by decide +kernel
theorem dX4_isUp_7 : decode cX4_isUp 7 = .ok (.aload 4, 2) := by decide +kernel
theorem dX4_isUp_9 : decode cX4_isUp 9 = .ok (.ifnull 45, 3) := by decide +kernel
theorem dX4_isUp_12 : decode cX4_isUp 12 = .ok (.iload_n 3, 1) := by decide +kernel
theorem dX4_isUp_13 : decode cX4_isUp 13 = .ok (.iload_n 1, 1) := by decide +kernel
theorem dX4_isUp_14 : decode cX4_isUp 14 = .ok (.invokestatic 90, 3) := by decide +kernel
theorem dX4_isUp_17 : decode cX4_isUp 17 = .ok (.ifCond .ne 37, 3) := by decide +kernel
theorem dX4_isUp_20 : decode cX4_isUp 20 = .ok (.aload 4, 2) := by decide +kernel
theorem dX4_isUp_22 : decode cX4_isUp 22 = .ok (.iload_n 2, 1) := by decide +kernel
theorem dX4_isUp_23 : decode cX4_isUp 23 = .ok (.aload 4, 2) := by decide +kernel
theorem dX4_isUp_25 : decode cX4_isUp 25 = .ok (.getfield 94, 3) := by decide +kernel
theorem dX4_isUp_28 : decode cX4_isUp 28 = .ok (.aload_n 0, 1) := by decide +kernel
theorem dX4_isUp_29 : decode cX4_isUp 29 = .ok (.getfield 34, 3) := by decide +kernel
theorem dX4_isUp_32 : decode cX4_isUp 32 = .ok (.iload_n 1, 1) := by decide +kernel
theorem dX4_isUp_33 : decode cX4_isUp 33 = .ok (.invokestatic 97, 3) := by decide +kernel
theorem dX4_isUp_36 : decode cX4_isUp 36 = .ok (.aload_n 0, 1) := by decide +kernel
theorem dX4_isUp_37 : decode cX4_isUp 37 = .ok (.getfield 37, 3) := by decide +kernel
theorem dX4_isUp_40 : decode cX4_isUp 40 = .ok (.iload_n 1, 1) := by decide +kernel
theorem dX4_isUp_41 : decode cX4_isUp 41 = .ok (.invokestatic 97, 3) := by decide +kernel
theorem dX4_isUp_44 : decode cX4_isUp 44 = .ok (.invokevirtual 101, 3) := by decide +kernel
theorem dX4_isUp_47 : decode cX4_isUp 47 = .ok (.ifCond .eq 7, 3) := by decide +kernel
theorem dX4_isUp_50 : decode cX4_isUp 50 = .ok (.iconst 1, 1) := by decide +kernel
theorem dX4_isUp_51 : decode cX4_isUp 51 = .ok (.goto 4, 3) := by decide +kernel
theorem dX4_isUp_54 : decode cX4_isUp 54 = .ok (.iconst 0, 1) := by decide +kernel
theorem dX4_isUp_55 : decode cX4_isUp 55 = .ok (.ireturn, 1) := by decide +kernel
theorem dX4_upBits_0 : decode cX4_upBits 0 = .ok (.iconst 0, 1) := by decide +kernel
theorem dX4_upBits_1 : decode cX4_upBits 1 = .ok (.istore_n 2, 1) := by decide +kernel
theorem dX4_upBits_2 : decode cX4_upBits 2 = .ok (.iconst 0, 1) := by decide +kernel
theorem dX4_upBits_3 : decode cX4_upBits 3 = .ok (.istore_n 3, 1) := by decide +kernel
theorem dX4_upBits_4 : decode cX4_upBits 4 = .ok (.iload_n 3, 1) := by decide +kernel
theorem dX4_upBits_5 : decode cX4_upBits 5 = .ok (.aload_n 0, 1) := by decide +kernel
theorem dX4_upBits_6 : decode cX4_upBits 6 = .ok (.getfield 15, 3) := by decide +kernel
theorem dX4_upBits_9 : decode cX4_upBits 9 = .ok (.if_icmp .ge 25, 3) := by decide +kernel
theorem dX4_upBits_12 : decode cX4_upBits 12 = .ok (.iload_n 2, 1) := by decide +kernel
theorem dX4_upBits_13 : decode cX4_upBits 13 = .ok (.iload_n 3, 1) := by decide +kernel
theorem dX4_upBits_14 : decode cX4_upBits 14 = .ok (.aload_n 0, 1) := by decide +kernel
theorem dX4_upBits_15 : decode cX4_upBits 15 = .ok (.iload_n 3, 1) := by decide +kernel
theorem dX4_upBits_16 : decode cX4_upBits 16 = .ok (.iload_n 1, 1) := by decide +kernel
theorem dX4_upBits_17 : decode cX4_upBits 17 = .ok (.aload_n 0, 1) := by decide +kernel
theorem dX4_upBits_18 : decode cX4_upBits 18 = .ok (.getfield 21, 3) := by decide +kernel
theorem dX4_upBits_21 : decode cX4_upBits 21 = .ok (.invokevirtual 105, 3) := by decide +kernel
theorem dX4_upBits_24 : decode cX4_upBits 24 = .ok (.invokestatic 109, 3) := by decide +kernel
theorem dX4_upBits_27 : decode cX4_upBits 27 = .ok (.istore_n 2, 1) := by decide +kernel
theorem dX4_upBits_28 : decode cX4_upBits 28 = .ok (.iinc 3 1, 3) := by decide +kernel
theorem dX4_upBits_31 : decode cX4_upBits 31 = .ok (.goto (-27), 3) := by decide +kernel
theorem dX4_upBits_34 : decode cX4_upBits 34 = .ok (.iload_n 2, 1) := by decide +kernel
theorem dX4_upBits_35 : decode cX4_upBits 35 = .ok (.ireturn, 1) := by decide +kernel
theorem dX4_worthOf_0 : decode cX4_worthOf 0 = .ok (.aload_n 0, 1) := by decide +kernel
theorem dX4_worthOf_1 : decode cX4_worthOf 1 = .ok (.getfield 40, 3) := by decide +kernel
theorem dX4_worthOf_4 : decode cX4_worthOf 4 = .ok (.aload_n 1, 1) := by decide +kernel
theorem dX4_worthOf_5 : decode cX4_worthOf 5 = .ok (.getfield 113, 3) := by decide +kernel
theorem dX4_worthOf_8 : decode cX4_worthOf 8 = .ok (.iconst 4, 1) := by decide +kernel
theorem dX4_worthOf_9 : decode cX4_worthOf 9 = .ok (.imul, 1) := by decide +kernel
theorem dX4_worthOf_10 : decode cX4_worthOf 10 = .ok (.iload_n 3, 1) := by decide +kernel
theorem dX4_worthOf_11 : decode cX4_worthOf 11 = .ok (.iconst 4, 1) := by decide +kernel
theorem dX4_worthOf_12 : decode cX4_worthOf 12 = .ok (.irem, 1) := by decide +kernel
theorem dX4_worthOf_13 : decode cX4_worthOf 13 = .ok (.iadd, 1) := by decide +kernel
theorem dX4_worthOf_14 : decode cX4_worthOf 14 = .ok (.invokestatic 97, 3) := by decide +kernel
theorem dX4_worthOf_17 : decode cX4_worthOf 17 = .ok (.istore 4, 2) := by decide +kernel
theorem dX4_worthOf_19 : decode cX4_worthOf 19 = .ok (.aload_n 1, 1) := by decide +kernel
theorem dX4_worthOf_20 : decode cX4_worthOf 20 = .ok (.aload_n 0, 1) := by decide +kernel
theorem dX4_worthOf_21 : decode cX4_worthOf 21 = .ok (.getfield 46, 3) := by decide +kernel
theorem dX4_worthOf_24 : decode cX4_worthOf 24 = .ok (.aload_n 1, 1) := by decide +kernel
theorem dX4_worthOf_25 : decode cX4_worthOf 25 = .ok (.iload_n 2, 1) := by decide +kernel
theorem dX4_worthOf_26 : decode cX4_worthOf 26 = .ok (.iload_n 3, 1) := by decide +kernel
theorem dX4_worthOf_27 : decode cX4_worthOf 27 = .ok (.invokevirtual 116, 3) := by decide +kernel
theorem dX4_worthOf_30 : decode cX4_worthOf 30 = .ok (.iload_n 2, 1) := by decide +kernel
theorem dX4_worthOf_31 : decode cX4_worthOf 31 = .ok (.iload 4, 2) := by decide +kernel
theorem dX4_worthOf_33 : decode cX4_worthOf 33 = .ok (.invokevirtual 120, 3) := by decide +kernel
theorem dX4_worthOf_36 : decode cX4_worthOf 36 = .ok (.iconst 0, 1) := by decide +kernel
theorem dX4_worthOf_37 : decode cX4_worthOf 37 = .ok (.invokestatic 124, 3) := by decide +kernel
theorem dX4_worthOf_40 : decode cX4_worthOf 40 = .ok (.ireturn, 1) := by decide +kernel
theorem dX4_hasFor_0 : decode cX4_hasFor 0 = .ok (.iload_n 2, 1) := by decide +kernel
theorem dX4_hasFor_1 : decode cX4_hasFor 1 = .ok (.iload 4, 2) := by decide +kernel
theorem dX4_hasFor_3 : decode cX4_hasFor 3 = .ok (.invokestatic 129, 3) := by decide +kernel
theorem dX4_hasFor_6 : decode cX4_hasFor 6 = .ok (.ifCond .eq 5, 3) := by decide +kernel
theorem dX4_hasFor_9 : decode cX4_hasFor 9 = .ok (.iconst 0, 1) := by decide +kernel
theorem dX4_hasFor_10 : decode cX4_hasFor 10 = .ok (.ireturn, 1) := by decide +kernel
theorem dX4_hasFor_11 : decode cX4_hasFor 11 = .ok (.iconst 0, 1) := by decide +kernel
theorem dX4_hasFor_12 : decode cX4_hasFor 12 = .ok (.istore 5, 2) := by decide +kernel
theorem dX4_hasFor_14 : decode cX4_hasFor 14 = .ok (.iconst 0, 1) := by decide +kernel
theorem dX4_hasFor_15 : decode cX4_hasFor 15 = .ok (.istore 6, 2) := by decide +kernel
theorem dX4_hasFor_17 : decode cX4_hasFor 17 = .ok (.iload 6, 2) := by decide +kernel
theorem dX4_hasFor_19 : decode cX4_hasFor 19 = .ok (.aload_n 0, 1) := by decide +kernel
theorem dX4_hasFor_20 : decode cX4_hasFor 20 = .ok (.getfield 15, 3) := by decide +kernel
theorem dX4_hasFor_23 : decode cX4_hasFor 23 = .ok (.if_icmp .ge 46, 3) := by decide +kernel
theorem dX4_hasFor_26 : decode cX4_hasFor 26 = .ok (.aload_n 0, 1) := by decide +kernel
theorem dX4_hasFor_27 : decode cX4_hasFor 27 = .ok (.iload 6, 2) := by decide +kernel
theorem dX4_hasFor_29 : decode cX4_hasFor 29 = .ok (.invokevirtual 86, 3) := by decide +kernel
theorem dX4_hasFor_32 : decode cX4_hasFor 32 = .ok (.astore 7, 2) := by decide +kernel
theorem dX4_hasFor_34 : decode cX4_hasFor 34 = .ok (.aload 7, 2) := by decide +kernel
theorem dX4_hasFor_36 : decode cX4_hasFor 36 = .ok (.ifnull 27, 3) := by decide +kernel
theorem dX4_hasFor_39 : decode cX4_hasFor 39 = .ok (.aload_n 0, 1) := by decide +kernel
theorem dX4_hasFor_40 : decode cX4_hasFor 40 = .ok (.iload 6, 2) := by decide +kernel
theorem dX4_hasFor_42 : decode cX4_hasFor 42 = .ok (.iload_n 2, 1) := by decide +kernel
theorem dX4_hasFor_43 : decode cX4_hasFor 43 = .ok (.iload_n 3, 1) := by decide +kernel
theorem dX4_hasFor_44 : decode cX4_hasFor 44 = .ok (.invokevirtual 105, 3) := by decide +kernel
theorem dX4_hasFor_47 : decode cX4_hasFor 47 = .ok (.ifCond .eq 16, 3) := by decide +kernel
theorem dX4_hasFor_50 : decode cX4_hasFor 50 = .ok (.iload 5, 2) := by decide +kernel
theorem dX4_hasFor_52 : decode cX4_hasFor 52 = .ok (.aload_n 0, 1) := by decide +kernel
theorem dX4_hasFor_53 : decode cX4_hasFor 53 = .ok (.aload 7, 2) := by decide +kernel
theorem dX4_hasFor_55 : decode cX4_hasFor 55 = .ok (.iload_n 1, 1) := by decide +kernel
theorem dX4_hasFor_56 : decode cX4_hasFor 56 = .ok (.iload_n 2, 1) := by decide +kernel
theorem dX4_hasFor_57 : decode cX4_hasFor 57 = .ok (.invokevirtual 133, 3) := by decide +kernel
theorem dX4_hasFor_60 : decode cX4_hasFor 60 = .ok (.iadd, 1) := by decide +kernel
theorem dX4_hasFor_61 : decode cX4_hasFor 61 = .ok (.istore 5, 2) := by decide +kernel
theorem dX4_hasFor_63 : decode cX4_hasFor 63 = .ok (.iinc 6 1, 3) := by decide +kernel
theorem dX4_hasFor_66 : decode cX4_hasFor 66 = .ok (.goto (-49), 3) := by decide +kernel
theorem dX4_hasFor_69 : decode cX4_hasFor 69 = .ok (.iload 5, 2) := by decide +kernel
theorem dX4_hasFor_71 : decode cX4_hasFor 71 = .ok (.ireturn, 1) := by decide +kernel
theorem dX5_init_0 : decode cX5_init 0 = .ok (.aload_n 0, 1) := by decide +kernel
theorem dX5_init_1 : decode cX5_init 1 = .ok (.invokespecial 1, 3) := by decide +kernel
theorem dX5_init_4 : decode cX5_init 4 = .ok (.aload_n 0, 1) := by decide +kernel
theorem dX5_init_5 : decode cX5_init 5 = .ok (.iconst 0, 1) := by decide +kernel
theorem dX5_init_6 : decode cX5_init 6 = .ok (.putfield 7, 3) := by decide +kernel
theorem dX5_init_9 : decode cX5_init 9 = .ok (.aload_n 0, 1) := by decide +kernel
theorem dX5_init_10 : decode cX5_init 10 = .ok (.iload_n 1, 1) := by decide +kernel
theorem dX5_init_11 : decode cX5_init 11 = .ok (.putfield 13, 3) := by decide +kernel
theorem dX5_init_14 : decode cX5_init 14 = .ok (.aload_n 0, 1) := by decide +kernel
theorem dX5_init_15 : decode cX5_init 15 = .ok (.iload_n 2, 1) := by decide +kernel
theorem dX5_init_16 : decode cX5_init 16 = .ok (.putfield 16, 3) := by decide +kernel
theorem dX5_init_19 : decode cX5_init 19 = .ok (.aload_n 0, 1) := by decide +kernel
theorem dX5_init_20 : decode cX5_init 20 = .ok (.iload_n 1, 1) := by decide +kernel
theorem dX5_init_21 : decode cX5_init 21 = .ok (.iload_n 2, 1) := by decide +kernel
theorem dX5_init_22 : decode cX5_init 22 = .ok (.imul, 1) := by decide +kernel
theorem dX5_init_23 : decode cX5_init 23 = .ok (.iconst 0, 1) := by decide +kernel
theorem dX5_init_24 : decode cX5_init 24 = .ok (.invokestatic 19, 3) := by decide +kernel
theorem dX5_init_27 : decode cX5_init 27 = .ok (.newarray .int, 2) := by decide +kernel
theorem dX5_init_29 : decode cX5_init 29 = .ok (.putfield 25, 3) := by decide +kernel
theorem dX5_init_32 : decode cX5_init 32 = .ok (.return_, 1) := by decide +kernel
theorem dX5_isFull_0 : decode cX5_isFull 0 = .ok (.aload_n 0, 1) := by decide +kernel
theorem dX5_isFull_1 : decode cX5_isFull 1 = .ok (.getfield 7, 3) := by decide +kernel
theorem dX5_isFull_4 : decode cX5_isFull 4 = .ok (.aload_n 0, 1) := by decide +kernel
theorem dX5_isFull_5 : decode cX5_isFull 5 = .ok (.getfield 13, 3) := by decide +kernel
theorem dX5_isFull_8 : decode cX5_isFull 8 = .ok (.if_icmp .lt 7, 3) := by decide +kernel
theorem dX5_isFull_11 : decode cX5_isFull 11 = .ok (.iconst 1, 1) := by decide +kernel
theorem dX5_isFull_12 : decode cX5_isFull 12 = .ok (.goto 4, 3) := by decide +kernel
theorem dX5_isFull_15 : decode cX5_isFull 15 = .ok (.iconst 0, 1) := by decide +kernel
theorem dX5_isFull_16 : decode cX5_isFull 16 = .ok (.ireturn, 1) := by decide +kernel
theorem dX5_tell_0 : decode cX5_tell 0 = .ok (.aload_n 0, 1) := by decide +kernel
theorem dX5_tell_1 : decode cX5_tell 1 = .ok (.getfield 7, 3) := by decide +kernel
theorem dX5_tell_4 : decode cX5_tell 4 = .ok (.ifCond .lt 25, 3) := by decide +kernel
theorem dX5_tell_7 : decode cX5_tell 7 = .ok (.aload_n 0, 1) := by decide +kernel
theorem dX5_tell_8 : decode cX5_tell 8 = .ok (.getfield 7, 3) := by decide +kernel
theorem dX5_tell_11 : decode cX5_tell 11 = .ok (.aload_n 0, 1) := by decide +kernel
theorem dX5_tell_12 : decode cX5_tell 12 = .ok (.getfield 25, 3) := by decide +kernel
theorem dX5_tell_15 : decode cX5_tell 15 = .ok (.arraylength, 1) := by decide +kernel
theorem dX5_tell_16 : decode cX5_tell 16 = .ok (.if_icmp .ge 13, 3) := by decide +kernel
theorem dX5_tell_19 : decode cX5_tell 19 = .ok (.aload_n 0, 1) := by decide +kernel
theorem dX5_tell_20 : decode cX5_tell 20 = .ok (.getfield 25, 3) := by decide +kernel
theorem dX5_tell_23 : decode cX5_tell 23 = .ok (.aload_n 0, 1) := by decide +kernel
theorem dX5_tell_24 : decode cX5_tell 24 = .ok (.getfield 7, 3) := by decide +kernel
theorem dX5_tell_27 : decode cX5_tell 27 = .ok (.iload_n 1, 1) := by decide +kernel
theorem dX5_tell_28 : decode cX5_tell 28 = .ok (.iastore, 1) := by decide +kernel
theorem dX5_tell_29 : decode cX5_tell 29 = .ok (.aload_n 0, 1) := by decide +kernel
theorem dX5_tell_30 : decode cX5_tell 30 = .ok (.dup, 1) := by decide +kernel
theorem dX5_tell_31 : decode cX5_tell 31 = .ok (.getfield 7, 3) := by decide +kernel
theorem dX5_tell_34 : decode cX5_tell 34 = .ok (.iconst 1, 1) := by decide +kernel
theorem dX5_tell_35 : decode cX5_tell 35 = .ok (.iadd, 1) := by decide +kernel
theorem dX5_tell_36 : decode cX5_tell 36 = .ok (.putfield 7, 3) := by decide +kernel
theorem dX5_tell_39 : decode cX5_tell 39 = .ok (.aload_n 0, 1) := by decide +kernel
theorem dX5_tell_40 : decode cX5_tell 40 = .ok (.getfield 7, 3) := by decide +kernel
theorem dX5_tell_43 : decode cX5_tell 43 = .ok (.ireturn, 1) := by decide +kernel
theorem dX5_add_0 : decode cX5_add 0 = .ok (.aload_n 0, 1) := by decide +kernel
theorem dX5_add_1 : decode cX5_add 1 = .ok (.getfield 25, 3) := by decide +kernel
theorem dX5_add_4 : decode cX5_add 4 = .ok (.aload_n 0, 1) := by decide +kernel
theorem dX5_add_5 : decode cX5_add 5 = .ok (.getfield 7, 3) := by decide +kernel
theorem dX5_add_8 : decode cX5_add 8 = .ok (.aload_n 0, 1) := by decide +kernel
theorem dX5_add_9 : decode cX5_add 9 = .ok (.getfield 16, 3) := by decide +kernel
theorem dX5_add_12 : decode cX5_add 12 = .ok (.imul, 1) := by decide +kernel
theorem dX5_add_13 : decode cX5_add 13 = .ok (.iload_n 1, 1) := by decide +kernel
theorem dX5_add_14 : decode cX5_add 14 = .ok (.invokestatic 29, 3) := by decide +kernel
theorem dX5_add_17 : decode cX5_add 17 = .ok (.aload_n 0, 1) := by decide +kernel
theorem dX5_add_18 : decode cX5_add 18 = .ok (.getfield 25, 3) := by decide +kernel
theorem dX5_add_21 : decode cX5_add 21 = .ok (.aload_n 0, 1) := by decide +kernel
theorem dX5_add_22 : decode cX5_add 22 = .ok (.getfield 7, 3) := by decide +kernel
theorem dX5_add_25 : decode cX5_add 25 = .ok (.aload_n 0, 1) := by decide +kernel
theorem dX5_add_26 : decode cX5_add 26 = .ok (.getfield 16, 3) := by decide +kernel
theorem dX5_add_29 : decode cX5_add 29 = .ok (.imul, 1) := by decide +kernel
theorem dX5_add_30 : decode cX5_add 30 = .ok (.iconst 1, 1) := by decide +kernel
theorem dX5_add_31 : decode cX5_add 31 = .ok (.iadd, 1) := by decide +kernel
theorem dX5_add_32 : decode cX5_add 32 = .ok (.iload_n 2, 1) := by decide +kernel
theorem dX5_add_33 : decode cX5_add 33 = .ok (.invokestatic 29, 3) := by decide +kernel
theorem dX5_add_36 : decode cX5_add 36 = .ok (.aload_n 0, 1) := by decide +kernel
theorem dX5_add_37 : decode cX5_add 37 = .ok (.getfield 25, 3) := by decide +kernel
theorem dX5_add_40 : decode cX5_add 40 = .ok (.aload_n 0, 1) := by decide +kernel
theorem dX5_add_41 : decode cX5_add 41 = .ok (.getfield 7, 3) := by decide +kernel
theorem dX5_add_44 : decode cX5_add 44 = .ok (.aload_n 0, 1) := by decide +kernel
theorem dX5_add_45 : decode cX5_add 45 = .ok (.getfield 16, 3) := by decide +kernel
theorem dX5_add_48 : decode cX5_add 48 = .ok (.imul, 1) := by decide +kernel
theorem dX5_add_49 : decode cX5_add 49 = .ok (.iconst 2, 1) := by decide +kernel
theorem dX5_add_50 : decode cX5_add 50 = .ok (.iadd, 1) := by decide +kernel
theorem dX5_add_51 : decode cX5_add 51 = .ok (.iload_n 3, 1) := by decide +kernel
theorem dX5_add_52 : decode cX5_add 52 = .ok (.invokestatic 29, 3) := by decide +kernel
theorem dX5_add_55 : decode cX5_add 55 = .ok (.aload_n 0, 1) := by decide +kernel
theorem dX5_add_56 : decode cX5_add 56 = .ok (.dup, 1) := by decide +kernel
theorem dX5_add_57 : decode cX5_add 57 = .ok (.getfield 7, 3) := by decide +kernel
theorem dX5_add_60 : decode cX5_add 60 = .ok (.iconst 1, 1) := by decide +kernel
theorem dX5_add_61 : decode cX5_add 61 = .ok (.iadd, 1) := by decide +kernel
theorem dX5_add_62 : decode cX5_add 62 = .ok (.putfield 7, 3) := by decide +kernel
theorem dX5_add_65 : decode cX5_add 65 = .ok (.aload_n 0, 1) := by decide +kernel
theorem dX5_add_66 : decode cX5_add 66 = .ok (.getfield 7, 3) := by decide +kernel
theorem dX5_add_69 : decode cX5_add 69 = .ok (.ireturn, 1) := by decide +kernel
theorem dX5_clear_0 : decode cX5_clear 0 = .ok (.aload_n 0, 1) := by decide +kernel
theorem dX5_clear_1 : decode cX5_clear 1 = .ok (.iconst 0, 1) := by decide +kernel
theorem dX5_clear_2 : decode cX5_clear 2 = .ok (.putfield 7, 3) := by decide +kernel
theorem dX5_clear_5 : decode cX5_clear 5 = .ok (.iconst 0, 1) := by decide +kernel
theorem dX5_clear_6 : decode cX5_clear 6 = .ok (.ireturn, 1) := by decide +kernel
theorem dX5_cell_0 : decode cX5_cell 0 = .ok (.aload_n 0, 1) := by decide +kernel
theorem dX5_cell_1 : decode cX5_cell 1 = .ok (.getfield 25, 3) := by decide +kernel
theorem dX5_cell_4 : decode cX5_cell 4 = .ok (.iload_n 1, 1) := by decide +kernel
theorem dX5_cell_5 : decode cX5_cell 5 = .ok (.aload_n 0, 1) := by decide +kernel
theorem dX5_cell_6 : decode cX5_cell 6 = .ok (.getfield 16, 3) := by decide +kernel
theorem dX5_cell_9 : decode cX5_cell 9 = .ok (.imul, 1) := by decide +kernel
theorem dX5_cell_10 : decode cX5_cell 10 = .ok (.iload_n 2, 1) := by decide +kernel
theorem dX5_cell_11 : decode cX5_cell 11 = .ok (.iadd, 1) := by decide +kernel
theorem dX5_cell_12 : decode cX5_cell 12 = .ok (.invokestatic 35, 3) := by decide +kernel
theorem dX5_cell_15 : decode cX5_cell 15 = .ok (.ireturn, 1) := by decide +kernel
theorem dX5_become_0 : decode cX5_become 0 = .ok (.aload_n 0, 1) := by decide +kernel
theorem dX5_become_1 : decode cX5_become 1 = .ok (.aload_n 1, 1) := by decide +kernel
theorem dX5_become_2 : decode cX5_become 2 = .ok (.getfield 7, 3) := by decide +kernel
theorem dX5_become_5 : decode cX5_become 5 = .ok (.putfield 7, 3) := by decide +kernel
theorem dX5_become_8 : decode cX5_become 8 = .ok (.aload_n 1, 1) := by decide +kernel
theorem dX5_become_9 : decode cX5_become 9 = .ok (.getfield 25, 3) := by decide +kernel
theorem dX5_become_12 : decode cX5_become 12 = .ok (.aload_n 0, 1) := by decide +kernel
theorem dX5_become_13 : decode cX5_become 13 = .ok (.getfield 25, 3) := by decide +kernel
theorem dX5_become_16 : decode cX5_become 16 = .ok (.invokestatic 39, 3) := by decide +kernel
theorem dX5_become_19 : decode cX5_become 19 = .ok (.return_, 1) := by decide +kernel
theorem dX6_init_0 : decode cX6_init 0 = .ok (.aload_n 0, 1) := by decide +kernel
theorem dX6_init_1 : decode cX6_init 1 = .ok (.invokespecial 3, 3) := by decide +kernel
theorem dX6_init_4 : decode cX6_init 4 = .ok (.aload_n 0, 1) := by decide +kernel
theorem dX6_init_5 : decode cX6_init 5 = .ok (.bipush 100, 2) := by decide +kernel
theorem dX6_init_7 : decode cX6_init 7 = .ok (.newarray .int, 2) := by decide +kernel
theorem dX6_init_9 : decode cX6_init 9 = .ok (.putfield 9, 3) := by decide +kernel
theorem dX6_init_12 : decode cX6_init 12 = .ok (.aload_n 0, 1) := by decide +kernel
theorem dX6_init_13 : decode cX6_init 13 = .ok (.bipush 100, 2) := by decide +kernel
theorem dX6_init_15 : decode cX6_init 15 = .ok (.newarray .int, 2) := by decide +kernel
theorem dX6_init_17 : decode cX6_init 17 = .ok (.putfield 15, 3) := by decide +kernel
theorem dX6_init_20 : decode cX6_init 20 = .ok (.aload_n 0, 1) := by decide +kernel
theorem dX6_init_21 : decode cX6_init 21 = .ok (.bipush 100, 2) := by decide +kernel
theorem dX6_init_23 : decode cX6_init 23 = .ok (.newarray .int, 2) := by decide +kernel
theorem dX6_init_25 : decode cX6_init 25 = .ok (.putfield 18, 3) := by decide +kernel
theorem dX6_init_28 : decode cX6_init 28 = .ok (.aload_n 0, 1) := by decide +kernel
theorem dX6_init_29 : decode cX6_init 29 = .ok (.iconst 0, 1) := by decide +kernel
theorem dX6_init_30 : decode cX6_init 30 = .ok (.putfield 21, 3) := by decide +kernel
theorem dX6_init_33 : decode cX6_init 33 = .ok (.aload_n 0, 1) := by decide +kernel
theorem dX6_init_34 : decode cX6_init 34 = .ok (.iconst 1, 1) := by decide +kernel
theorem dX6_init_35 : decode cX6_init 35 = .ok (.putfield 25, 3) := by decide +kernel
theorem dX6_init_38 : decode cX6_init 38 = .ok (.aload_n 0, 1) := by decide +kernel
theorem dX6_init_39 : decode cX6_init 39 = .ok (.iconst 0, 1) := by decide +kernel
theorem dX6_init_40 : decode cX6_init 40 = .ok (.putfield 28, 3) := by decide +kernel
theorem dX6_init_43 : decode cX6_init 43 = .ok (.return_, 1) := by decide +kernel
theorem dX6_empty_0 : decode cX6_empty 0 = .ok (.aload_n 0, 1) := by decide +kernel
theorem dX6_empty_1 : decode cX6_empty 1 = .ok (.iconst 0, 1) := by decide +kernel
theorem dX6_empty_2 : decode cX6_empty 2 = .ok (.putfield 21, 3) := by decide +kernel
theorem dX6_empty_5 : decode cX6_empty 5 = .ok (.aload_n 0, 1) := by decide +kernel
theorem dX6_empty_6 : decode cX6_empty 6 = .ok (.iconst 1, 1) := by decide +kernel
theorem dX6_empty_7 : decode cX6_empty 7 = .ok (.putfield 25, 3) := by decide +kernel
theorem dX6_empty_10 : decode cX6_empty 10 = .ok (.aload_n 0, 1) := by decide +kernel
theorem dX6_empty_11 : decode cX6_empty 11 = .ok (.iconst 0, 1) := by decide +kernel
theorem dX6_empty_12 : decode cX6_empty 12 = .ok (.putfield 28, 3) := by decide +kernel
theorem dX6_empty_15 : decode cX6_empty 15 = .ok (.return_, 1) := by decide +kernel
theorem dX6_become_0 : decode cX6_become 0 = .ok (.aload_n 0, 1) := by decide +kernel
theorem dX6_become_1 : decode cX6_become 1 = .ok (.aload_n 1, 1) := by decide +kernel
theorem dX6_become_2 : decode cX6_become 2 = .ok (.getfield 21, 3) := by decide +kernel
theorem dX6_become_5 : decode cX6_become 5 = .ok (.putfield 21, 3) := by decide +kernel
theorem dX6_become_8 : decode cX6_become 8 = .ok (.aload_n 0, 1) := by decide +kernel
theorem dX6_become_9 : decode cX6_become 9 = .ok (.aload_n 1, 1) := by decide +kernel
theorem dX6_become_10 : decode cX6_become 10 = .ok (.getfield 25, 3) := by decide +kernel
theorem dX6_become_13 : decode cX6_become 13 = .ok (.putfield 25, 3) := by decide +kernel
theorem dX6_become_16 : decode cX6_become 16 = .ok (.aload_n 0, 1) := by decide +kernel
theorem dX6_become_17 : decode cX6_become 17 = .ok (.aload_n 1, 1) := by decide +kernel
theorem dX6_become_18 : decode cX6_become 18 = .ok (.getfield 28, 3) := by decide +kernel
theorem dX6_become_21 : decode cX6_become 21 = .ok (.putfield 28, 3) := by decide +kernel
theorem dX6_become_24 : decode cX6_become 24 = .ok (.aload_n 1, 1) := by decide +kernel
theorem dX6_become_25 : decode cX6_become 25 = .ok (.getfield 9, 3) := by decide +kernel
theorem dX6_become_28 : decode cX6_become 28 = .ok (.aload_n 0, 1) := by decide +kernel
theorem dX6_become_29 : decode cX6_become 29 = .ok (.getfield 9, 3) := by decide +kernel
theorem dX6_become_32 : decode cX6_become 32 = .ok (.invokestatic 31, 3) := by decide +kernel
theorem dX6_become_35 : decode cX6_become 35 = .ok (.aload_n 1, 1) := by decide +kernel
theorem dX6_become_36 : decode cX6_become 36 = .ok (.getfield 15, 3) := by decide +kernel
theorem dX6_become_39 : decode cX6_become 39 = .ok (.aload_n 0, 1) := by decide +kernel
theorem dX6_become_40 : decode cX6_become 40 = .ok (.getfield 15, 3) := by decide +kernel
theorem dX6_become_43 : decode cX6_become 43 = .ok (.invokestatic 31, 3) := by decide +kernel
theorem dX6_become_46 : decode cX6_become 46 = .ok (.aload_n 1, 1) := by decide +kernel
theorem dX6_become_47 : decode cX6_become 47 = .ok (.getfield 18, 3) := by decide +kernel
theorem dX6_become_50 : decode cX6_become 50 = .ok (.aload_n 0, 1) := by decide +kernel
theorem dX6_become_51 : decode cX6_become 51 = .ok (.getfield 18, 3) := by decide +kernel
theorem dX6_become_54 : decode cX6_become 54 = .ok (.invokestatic 31, 3) := by decide +kernel
theorem dX6_become_57 : decode cX6_become 57 = .ok (.return_, 1) := by decide +kernel
theorem dX6_add_0 : decode cX6_add 0 = .ok (.aload_n 0, 1) := by decide +kernel
theorem dX6_add_1 : decode cX6_add 1 = .ok (.getfield 9, 3) := by decide +kernel
theorem dX6_add_4 : decode cX6_add 4 = .ok (.aload_n 0, 1) := by decide +kernel
theorem dX6_add_5 : decode cX6_add 5 = .ok (.getfield 21, 3) := by decide +kernel
theorem dX6_add_8 : decode cX6_add 8 = .ok (.iload_n 1, 1) := by decide +kernel
theorem dX6_add_9 : decode cX6_add 9 = .ok (.invokestatic 35, 3) := by decide +kernel
theorem dX6_add_12 : decode cX6_add 12 = .ok (.aload_n 0, 1) := by decide +kernel
theorem dX6_add_13 : decode cX6_add 13 = .ok (.getfield 15, 3) := by decide +kernel
theorem dX6_add_16 : decode cX6_add 16 = .ok (.aload_n 0, 1) := by decide +kernel
theorem dX6_add_17 : decode cX6_add 17 = .ok (.getfield 21, 3) := by decide +kernel
theorem dX6_add_20 : decode cX6_add 20 = .ok (.iload_n 2, 1) := by decide +kernel
theorem dX6_add_21 : decode cX6_add 21 = .ok (.invokestatic 35, 3) := by decide +kernel
theorem dX6_add_24 : decode cX6_add 24 = .ok (.aload_n 0, 1) := by decide +kernel
theorem dX6_add_25 : decode cX6_add 25 = .ok (.getfield 18, 3) := by decide +kernel
theorem dX6_add_28 : decode cX6_add 28 = .ok (.aload_n 0, 1) := by decide +kernel
theorem dX6_add_29 : decode cX6_add 29 = .ok (.getfield 21, 3) := by decide +kernel
theorem dX6_add_32 : decode cX6_add 32 = .ok (.iload_n 3, 1) := by decide +kernel
theorem dX6_add_33 : decode cX6_add 33 = .ok (.invokestatic 35, 3) := by decide +kernel
theorem dX6_add_36 : decode cX6_add 36 = .ok (.aload_n 0, 1) := by decide +kernel
theorem dX6_add_37 : decode cX6_add 37 = .ok (.dup, 1) := by decide +kernel
theorem dX6_add_38 : decode cX6_add 38 = .ok (.getfield 21, 3) := by decide +kernel
theorem dX6_add_41 : decode cX6_add 41 = .ok (.iconst 1, 1) := by decide +kernel
theorem dX6_add_42 : decode cX6_add 42 = .ok (.iadd, 1) := by decide +kernel
theorem dX6_add_43 : decode cX6_add 43 = .ok (.putfield 21, 3) := by decide +kernel
theorem dX6_add_46 : decode cX6_add 46 = .ok (.return_, 1) := by decide +kernel
theorem dX6_baseOf_0 : decode cX6_baseOf 0 = .ok (.iconst 0, 1) := by decide +kernel
theorem dX6_baseOf_1 : decode cX6_baseOf 1 = .ok (.istore 4, 2) := by decide +kernel
theorem dX6_baseOf_3 : decode cX6_baseOf 3 = .ok (.iconst 0, 1) := by decide +kernel
theorem dX6_baseOf_4 : decode cX6_baseOf 4 = .ok (.istore 5, 2) := by decide +kernel
theorem dX6_baseOf_6 : decode cX6_baseOf 6 = .ok (.iconst 0, 1) := by decide +kernel
theorem dX6_baseOf_7 : decode cX6_baseOf 7 = .ok (.istore 6, 2) := by decide +kernel
theorem dX6_baseOf_9 : decode cX6_baseOf 9 = .ok (.iload 6, 2) := by decide +kernel
theorem dX6_baseOf_11 : decode cX6_baseOf 11 = .ok (.aload_n 0, 1) := by decide +kernel
theorem dX6_baseOf_12 : decode cX6_baseOf 12 = .ok (.getfield 21, 3) := by decide +kernel
theorem dX6_baseOf_15 : decode cX6_baseOf 15 = .ok (.if_icmp .ge 251, 3) := by decide +kernel
theorem dX6_baseOf_18 : decode cX6_baseOf 18 = .ok (.aload_n 0, 1) := by decide +kernel
theorem dX6_baseOf_19 : decode cX6_baseOf 19 = .ok (.getfield 18, 3) := by decide +kernel
theorem dX6_baseOf_22 : decode cX6_baseOf 22 = .ok (.iload 6, 2) := by decide +kernel
theorem dX6_baseOf_24 : decode cX6_baseOf 24 = .ok (.invokestatic 39, 3) := by decide +kernel
theorem dX6_baseOf_27 : decode cX6_baseOf 27 = .ok (.istore 7, 2) := by decide +kernel
theorem dX6_baseOf_29 : decode cX6_baseOf 29 = .ok (.aload_n 0, 1) := by decide +kernel
theorem dX6_baseOf_30 : decode cX6_baseOf 30 = .ok (.getfield 9, 3) := by decide +kernel
theorem dX6_baseOf_33 : decode cX6_baseOf 33 = .ok (.iload 6, 2) := by decide +kernel
theorem dX6_baseOf_35 : decode cX6_baseOf 35 = .ok (.invokestatic 39, 3) := by decide +kernel
theorem dX6_baseOf_38 : decode cX6_baseOf 38 = .ok (.tableswitch 190 0 7 #[120, 190, 155, 46, 55, 70, 84, 102], 46) := by decide +kernel
theorem dX6_baseOf_84 : decode cX6_baseOf 84 = .ok (.iload 5, 2) := by decide +kernel
theorem dX6_baseOf_86 : decode cX6_baseOf 86 = .ok (.iconst 1, 1) := by decide +kernel
theorem dX6_baseOf_87 : decode cX6_baseOf 87 = .ok (.ixor, 1) := by decide +kernel
theorem dX6_baseOf_88 : decode cX6_baseOf 88 = .ok (.istore 5, 2) := by decide +kernel
theorem dX6_baseOf_90 : decode cX6_baseOf 90 = .ok (.goto 170, 3) := by decide +kernel
theorem dX6_baseOf_93 : decode cX6_baseOf 93 = .ok (.iload 5, 2) := by decide +kernel
theorem dX6_baseOf_95 : decode cX6_baseOf 95 = .ok (.iconst 1, 1) := by decide +kernel
theorem dX6_baseOf_96 : decode cX6_baseOf 96 = .ok (.ishr, 1) := by decide +kernel
theorem dX6_baseOf_97 : decode cX6_baseOf 97 = .ok (.iload 5, 2) := by decide +kernel
theorem dX6_baseOf_99 : decode cX6_baseOf 99 = .ok (.bipush (-2), 2) := by decide +kernel
theorem dX6_baseOf_101 : decode cX6_baseOf 101 = .ok (.ior, 1) := by decide +kernel
theorem dX6_baseOf_102 : decode cX6_baseOf 102 = .ok (.iand, 1) := by decide +kernel
theorem dX6_baseOf_103 : decode cX6_baseOf 103 = .ok (.istore 5, 2) := by decide +kernel
theorem dX6_baseOf_105 : decode cX6_baseOf 105 = .ok (.goto 155, 3) := by decide +kernel
theorem dX6_baseOf_108 : decode cX6_baseOf 108 = .ok (.iload 5, 2) := by decide +kernel
theorem dX6_baseOf_110 : decode cX6_baseOf 110 = .ok (.iconst 1, 1) := by decide +kernel
theorem dX6_baseOf_111 : decode cX6_baseOf 111 = .ok (.ishr, 1) := by decide +kernel
theorem dX6_baseOf_112 : decode cX6_baseOf 112 = .ok (.iload 5, 2) := by decide +kernel
theorem dX6_baseOf_114 : decode cX6_baseOf 114 = .ok (.iconst 1, 1) := by decide +kernel
theorem dX6_baseOf_115 : decode cX6_baseOf 115 = .ok (.iand, 1) := by decide +kernel
theorem dX6_baseOf_116 : decode cX6_baseOf 116 = .ok (.ior, 1) := by decide +kernel
theorem dX6_baseOf_117 : decode cX6_baseOf 117 = .ok (.istore 5, 2) := by decide +kernel
theorem dX6_baseOf_119 : decode cX6_baseOf 119 = .ok (.goto 141, 3) := by decide +kernel
theorem dX6_baseOf_122 : decode cX6_baseOf 122 = .ok (.iload 4, 2) := by decide +kernel
theorem dX6_baseOf_124 : decode cX6_baseOf 124 = .ok (.iload 7, 2) := by decide +kernel
theorem dX6_baseOf_126 : decode cX6_baseOf 126 = .ok (.iload 5, 2) := by decide +kernel
theorem dX6_baseOf_128 : decode cX6_baseOf 128 = .ok (.iconst 1, 1) := by decide +kernel
theorem dX6_baseOf_129 : decode cX6_baseOf 129 = .ok (.iand, 1) := by decide +kernel
theorem dX6_baseOf_130 : decode cX6_baseOf 130 = .ok (.imul, 1) := by decide +kernel
theorem dX6_baseOf_131 : decode cX6_baseOf 131 = .ok (.iadd, 1) := by decide +kernel
theorem dX6_baseOf_132 : decode cX6_baseOf 132 = .ok (.istore 4, 2) := by decide +kernel
theorem dX6_baseOf_134 : decode cX6_baseOf 134 = .ok (.iconst 0, 1) := by decide +kernel
theorem dX6_baseOf_135 : decode cX6_baseOf 135 = .ok (.istore 5, 2) := by decide +kernel
theorem dX6_baseOf_137 : decode cX6_baseOf 137 = .ok (.goto 123, 3) := by decide +kernel
theorem dX6_baseOf_140 : decode cX6_baseOf 140 = .ok (.iload 4, 2) := by decide +kernel
theorem dX6_baseOf_142 : decode cX6_baseOf 142 = .ok (.iload 7, 2) := by decide +kernel
theorem dX6_baseOf_144 : decode cX6_baseOf 144 = .ok (.iload 5, 2) := by decide +kernel
theorem dX6_baseOf_146 : decode cX6_baseOf 146 = .ok (.iconst 1, 1) := by decide +kernel
theorem dX6_baseOf_147 : decode cX6_baseOf 147 = .ok (.iand, 1) := by decide +kernel
theorem dX6_baseOf_148 : decode cX6_baseOf 148 = .ok (.imul, 1) := by decide +kernel
theorem dX6_baseOf_149 : decode cX6_baseOf 149 = .ok (.isub, 1) := by decide +kernel
theorem dX6_baseOf_150 : decode cX6_baseOf 150 = .ok (.istore 4, 2) := by decide +kernel
theorem dX6_baseOf_152 : decode cX6_baseOf 152 = .ok (.iconst 0, 1) := by decide +kernel
theorem dX6_baseOf_153 : decode cX6_baseOf 153 = .ok (.istore 5, 2) := by decide +kernel
theorem dX6_baseOf_155 : decode cX6_baseOf 155 = .ok (.goto 105, 3) := by decide +kernel
theorem dX6_baseOf_158 : decode cX6_baseOf 158 = .ok (.iload 5, 2) := by decide +kernel
theorem dX6_baseOf_160 : decode cX6_baseOf 160 = .ok (.iconst 1, 1) := by decide +kernel
theorem dX6_baseOf_161 : decode cX6_baseOf 161 = .ok (.ishl, 1) := by decide +kernel
theorem dX6_baseOf_162 : decode cX6_baseOf 162 = .ok (.aload_n 0, 1) := by decide +kernel
theorem dX6_baseOf_163 : decode cX6_baseOf 163 = .ok (.getfield 15, 3) := by decide +kernel
theorem dX6_baseOf_166 : decode cX6_baseOf 166 = .ok (.iload 6, 2) := by decide +kernel
theorem dX6_baseOf_168 : decode cX6_baseOf 168 = .ok (.invokestatic 39, 3) := by decide +kernel
theorem dX6_baseOf_171 : decode cX6_baseOf 171 = .ok (.aload_n 1, 1) := by decide +kernel
theorem dX6_baseOf_172 : decode cX6_baseOf 172 = .ok (.iload_n 2, 1) := by decide +kernel
theorem dX6_baseOf_173 : decode cX6_baseOf 173 = .ok (.iload_n 3, 1) := by decide +kernel
theorem dX6_baseOf_174 : decode cX6_baseOf 174 = .ok (.invokestatic 43, 3) := by decide +kernel
theorem dX6_baseOf_177 : decode cX6_baseOf 177 = .ok (.iload 7, 2) := by decide +kernel
theorem dX6_baseOf_179 : decode cX6_baseOf 179 = .ok (.if_icmp .ge 7, 3) := by decide +kernel
theorem dX6_baseOf_182 : decode cX6_baseOf 182 = .ok (.iconst 1, 1) := by decide +kernel
theorem dX6_baseOf_183 : decode cX6_baseOf 183 = .ok (.goto 4, 3) := by decide +kernel
theorem dX6_baseOf_186 : decode cX6_baseOf 186 = .ok (.iconst 0, 1) := by decide +kernel
theorem dX6_baseOf_187 : decode cX6_baseOf 187 = .ok (.ior, 1) := by decide +kernel
theorem dX6_baseOf_188 : decode cX6_baseOf 188 = .ok (.istore 5, 2) := by decide +kernel
theorem dX6_baseOf_190 : decode cX6_baseOf 190 = .ok (.goto 70, 3) := by decide +kernel
theorem dX6_baseOf_193 : decode cX6_baseOf 193 = .ok (.iload 5, 2) := by decide +kernel
theorem dX6_baseOf_195 : decode cX6_baseOf 195 = .ok (.iconst 1, 1) := by decide +kernel
theorem dX6_baseOf_196 : decode cX6_baseOf 196 = .ok (.ishl, 1) := by decide +kernel
theorem dX6_baseOf_197 : decode cX6_baseOf 197 = .ok (.aload_n 0, 1) := by decide +kernel
theorem dX6_baseOf_198 : decode cX6_baseOf 198 = .ok (.getfield 15, 3) := by decide +kernel
theorem dX6_baseOf_201 : decode cX6_baseOf 201 = .ok (.iload 6, 2) := by decide +kernel
theorem dX6_baseOf_203 : decode cX6_baseOf 203 = .ok (.invokestatic 39, 3) := by decide +kernel
theorem dX6_baseOf_206 : decode cX6_baseOf 206 = .ok (.aload_n 1, 1) := by decide +kernel
theorem dX6_baseOf_207 : decode cX6_baseOf 207 = .ok (.iload_n 2, 1) := by decide +kernel
theorem dX6_baseOf_208 : decode cX6_baseOf 208 = .ok (.iload_n 3, 1) := by decide +kernel
theorem dX6_baseOf_209 : decode cX6_baseOf 209 = .ok (.invokestatic 43, 3) := by decide +kernel
theorem dX6_baseOf_212 : decode cX6_baseOf 212 = .ok (.iload 7, 2) := by decide +kernel
theorem dX6_baseOf_214 : decode cX6_baseOf 214 = .ok (.if_icmp .le 7, 3) := by decide +kernel
theorem dX6_baseOf_217 : decode cX6_baseOf 217 = .ok (.iconst 1, 1) := by decide +kernel
theorem dX6_baseOf_218 : decode cX6_baseOf 218 = .ok (.goto 4, 3) := by decide +kernel
theorem dX6_baseOf_221 : decode cX6_baseOf 221 = .ok (.iconst 0, 1) := by decide +kernel
theorem dX6_baseOf_222 : decode cX6_baseOf 222 = .ok (.ior, 1) := by decide +kernel
theorem dX6_baseOf_223 : decode cX6_baseOf 223 = .ok (.istore 5, 2) := by decide +kernel
theorem dX6_baseOf_225 : decode cX6_baseOf 225 = .ok (.goto 35, 3) := by decide +kernel
theorem dX6_baseOf_228 : decode cX6_baseOf 228 = .ok (.iload 5, 2) := by decide +kernel
theorem dX6_baseOf_230 : decode cX6_baseOf 230 = .ok (.iconst 1, 1) := by decide +kernel
theorem dX6_baseOf_231 : decode cX6_baseOf 231 = .ok (.ishl, 1) := by decide +kernel
theorem dX6_baseOf_232 : decode cX6_baseOf 232 = .ok (.aload_n 0, 1) := by decide +kernel
theorem dX6_baseOf_233 : decode cX6_baseOf 233 = .ok (.getfield 15, 3) := by decide +kernel
theorem dX6_baseOf_236 : decode cX6_baseOf 236 = .ok (.iload 6, 2) := by decide +kernel
theorem dX6_baseOf_238 : decode cX6_baseOf 238 = .ok (.invokestatic 39, 3) := by decide +kernel
theorem dX6_baseOf_241 : decode cX6_baseOf 241 = .ok (.aload_n 1, 1) := by decide +kernel
theorem dX6_baseOf_242 : decode cX6_baseOf 242 = .ok (.iload_n 2, 1) := by decide +kernel
theorem dX6_baseOf_243 : decode cX6_baseOf 243 = .ok (.iload_n 3, 1) := by decide +kernel
theorem dX6_baseOf_244 : decode cX6_baseOf 244 = .ok (.invokestatic 43, 3) := by decide +kernel
theorem dX6_baseOf_247 : decode cX6_baseOf 247 = .ok (.iload 7, 2) := by decide +kernel
theorem dX6_baseOf_249 : decode cX6_baseOf 249 = .ok (.if_icmp .ne 7, 3) := by decide +kernel
theorem dX6_baseOf_252 : decode cX6_baseOf 252 = .ok (.iconst 1, 1) := by decide +kernel
theorem dX6_baseOf_253 : decode cX6_baseOf 253 = .ok (.goto 4, 3) := by decide +kernel
theorem dX6_baseOf_256 : decode cX6_baseOf 256 = .ok (.iconst 0, 1) := by decide +kernel
theorem dX6_baseOf_257 : decode cX6_baseOf 257 = .ok (.ior, 1) := by decide +kernel
theorem dX6_baseOf_258 : decode cX6_baseOf 258 = .ok (.istore 5, 2) := by decide +kernel
theorem dX6_baseOf_260 : decode cX6_baseOf 260 = .ok (.iinc 6 1, 3) := by decide +kernel
theorem dX6_baseOf_263 : decode cX6_baseOf 263 = .ok (.goto (-254), 3) := by decide +kernel
theorem dX6_baseOf_266 : decode cX6_baseOf 266 = .ok (.iload 4, 2) := by decide +kernel
theorem dX6_baseOf_268 : decode cX6_baseOf 268 = .ok (.ireturn, 1) := by decide +kernel
theorem dX6_factOf_0 : decode cX6_factOf 0 = .ok (.iload_n 0, 1) := by decide +kernel
theorem dX6_factOf_1 : decode cX6_factOf 1 = .ok (.tableswitch 97 104 118 #[90, 97, 97, 80, 97, 97, 92, 97, 75, 97, 97, 97, 97, 97, 85], 75) := by decide +kernel
theorem dX6_factOf_76 : decode cX6_factOf 76 = .ok (.aload_n 1, 1) := by decide +kernel
theorem dX6_factOf_77 : decode cX6_factOf 77 = .ok (.getfield 47, 3) := by decide +kernel
theorem dX6_factOf_80 : decode cX6_factOf 80 = .ok (.ireturn, 1) := by decide +kernel
theorem dX6_factOf_81 : decode cX6_factOf 81 = .ok (.aload_n 1, 1) := by decide +kernel
theorem dX6_factOf_82 : decode cX6_factOf 82 = .ok (.getfield 52, 3) := by decide +kernel
theorem dX6_factOf_85 : decode cX6_factOf 85 = .ok (.ireturn, 1) := by decide +kernel
theorem dX6_factOf_86 : decode cX6_factOf 86 = .ok (.aload_n 1, 1) := by decide +kernel
theorem dX6_factOf_87 : decode cX6_factOf 87 = .ok (.getfield 55, 3) := by decide +kernel
theorem dX6_factOf_90 : decode cX6_factOf 90 = .ok (.ireturn, 1) := by decide +kernel
theorem dX6_factOf_91 : decode cX6_factOf 91 = .ok (.iload_n 2, 1) := by decide +kernel
theorem dX6_factOf_92 : decode cX6_factOf 92 = .ok (.ireturn, 1) := by decide +kernel
theorem dX6_factOf_93 : decode cX6_factOf 93 = .ok (.iload_n 3, 1) := by decide +kernel
theorem dX6_factOf_94 : decode cX6_factOf 94 = .ok (.bipush 10, 2) := by decide +kernel
theorem dX6_factOf_96 : decode cX6_factOf 96 = .ok (.irem, 1) := by decide +kernel
theorem dX6_factOf_97 : decode cX6_factOf 97 = .ok (.ireturn, 1) := by decide +kernel
theorem dX6_factOf_98 : decode cX6_factOf 98 = .ok (.iload_n 3, 1) := by decide +kernel
theorem dX6_factOf_99 : decode cX6_factOf 99 = .ok (.bipush 7, 2) := by decide +kernel
theorem dX6_factOf_101 : decode cX6_factOf 101 = .ok (.irem, 1) := by decide +kernel
theorem dX6_factOf_102 : decode cX6_factOf 102 = .ok (.ireturn, 1) := by decide +kernel
theorem dX7_init_0 : decode cX7_init 0 = .ok (.aload_n 0, 1) := by decide +kernel
theorem dX7_init_1 : decode cX7_init 1 = .ok (.invokespecial 3, 3) := by decide +kernel
theorem dX7_init_4 : decode cX7_init 4 = .ok (.aload_n 0, 1) := by decide +kernel
theorem dX7_init_5 : decode cX7_init 5 = .ok (.new 9, 3) := by decide +kernel
theorem dX7_init_8 : decode cX7_init 8 = .ok (.dup, 1) := by decide +kernel
theorem dX7_init_9 : decode cX7_init 9 = .ok (.invokespecial 11, 3) := by decide +kernel
theorem dX7_init_12 : decode cX7_init 12 = .ok (.putfield 12, 3) := by decide +kernel
theorem dX7_init_15 : decode cX7_init 15 = .ok (.aload_n 0, 1) := by decide +kernel
theorem dX7_init_16 : decode cX7_init 16 = .ok (.iconst 0, 1) := by decide +kernel
theorem dX7_init_17 : decode cX7_init 17 = .ok (.putfield 18, 3) := by decide +kernel
theorem dX7_init_20 : decode cX7_init 20 = .ok (.aload_n 0, 1) := by decide +kernel
theorem dX7_init_21 : decode cX7_init 21 = .ok (.iconst (-1), 1) := by decide +kernel
theorem dX7_init_22 : decode cX7_init 22 = .ok (.putfield 22, 3) := by decide +kernel
theorem dX7_init_25 : decode cX7_init 25 = .ok (.aload_n 0, 1) := by decide +kernel
theorem dX7_init_26 : decode cX7_init 26 = .ok (.iconst (-1), 1) := by decide +kernel
theorem dX7_init_27 : decode cX7_init 27 = .ok (.putfield 25, 3) := by decide +kernel
theorem dX7_init_30 : decode cX7_init 30 = .ok (.aload_n 0, 1) := by decide +kernel
theorem dX7_init_31 : decode cX7_init 31 = .ok (.aload_n 1, 1) := by decide +kernel
theorem dX7_init_32 : decode cX7_init 32 = .ok (.putfield 28, 3) := by decide +kernel
theorem dX7_init_35 : decode cX7_init 35 = .ok (.return_, 1) := by decide +kernel
theorem dX7_read_0 : decode cX7_read 0 = .ok (.aload_n 0, 1) := by decide +kernel
theorem dX7_read_1 : decode cX7_read 1 = .ok (.getfield 12, 3) := by decide +kernel
theorem dX7_read_4 : decode cX7_read 4 = .ok (.invokevirtual 32, 3) := by decide +kernel
theorem dX7_read_7 : decode cX7_read 7 = .ok (.aload_n 0, 1) := by decide +kernel
theorem dX7_read_8 : decode cX7_read 8 = .ok (.iconst (-1), 1) := by decide +kernel
theorem dX7_read_9 : decode cX7_read 9 = .ok (.putfield 25, 3) := by decide +kernel
theorem dX7_read_12 : decode cX7_read 12 = .ok (.aload_n 0, 1) := by decide +kernel
theorem dX7_read_13 : decode cX7_read 13 = .ok (.iconst 0, 1) := by decide +kernel
theorem dX7_read_14 : decode cX7_read 14 = .ok (.invokevirtual 35, 3) := by decide +kernel
theorem dX7_read_17 : decode cX7_read 17 = .ok (.aload_n 0, 1) := by decide +kernel
theorem dX7_read_18 : decode cX7_read 18 = .ok (.invokevirtual 39, 3) := by decide +kernel
theorem dX7_read_21 : decode cX7_read 21 = .ok (.iconst 1, 1) := by decide +kernel
theorem dX7_read_22 : decode cX7_read 22 = .ok (.istore_n 1, 1) := by decide +kernel
theorem dX7_read_23 : decode cX7_read 23 = .ok (.iload_n 1, 1) := by decide +kernel
theorem dX7_read_24 : decode cX7_read 24 = .ok (.bipush 10, 2) := by decide +kernel
theorem dX7_read_26 : decode cX7_read 26 = .ok (.if_icmp .ge 32, 3) := by decide +kernel
theorem dX7_read_29 : decode cX7_read 29 = .ok (.aload_n 0, 1) := by decide +kernel
theorem dX7_read_30 : decode cX7_read 30 = .ok (.getfield 22, 3) := by decide +kernel
theorem dX7_read_33 : decode cX7_read 33 = .ok (.bipush 59, 2) := by decide +kernel
theorem dX7_read_35 : decode cX7_read 35 = .ok (.if_icmp .ne 23, 3) := by decide +kernel
theorem dX7_read_38 : decode cX7_read 38 = .ok (.aload_n 0, 1) := by decide +kernel
theorem dX7_read_39 : decode cX7_read 39 = .ok (.aload_n 0, 1) := by decide +kernel
theorem dX7_read_40 : decode cX7_read 40 = .ok (.getfield 18, 3) := by decide +kernel
theorem dX7_read_43 : decode cX7_read 43 = .ok (.iconst 1, 1) := by decide +kernel
theorem dX7_read_44 : decode cX7_read 44 = .ok (.iadd, 1) := by decide +kernel
theorem dX7_read_45 : decode cX7_read 45 = .ok (.invokevirtual 35, 3) := by decide +kernel
theorem dX7_read_48 : decode cX7_read 48 = .ok (.aload_n 0, 1) := by decide +kernel
theorem dX7_read_49 : decode cX7_read 49 = .ok (.invokevirtual 39, 3) := by decide +kernel
theorem dX7_read_52 : decode cX7_read 52 = .ok (.iinc 1 1, 3) := by decide +kernel
theorem dX7_read_55 : decode cX7_read 55 = .ok (.goto (-32), 3) := by decide +kernel
theorem dX7_read_58 : decode cX7_read 58 = .ok (.aload_n 0, 1) := by decide +kernel
theorem dX7_read_59 : decode cX7_read 59 = .ok (.getfield 22, 3) := by decide +kernel
theorem dX7_read_62 : decode cX7_read 62 = .ok (.iconst (-1), 1) := by decide +kernel
theorem dX7_read_63 : decode cX7_read 63 = .ok (.if_icmp .eq 7, 3) := by decide +kernel
theorem dX7_read_66 : decode cX7_read 66 = .ok (.aload_n 0, 1) := by decide +kernel
theorem dX7_read_67 : decode cX7_read 67 = .ok (.invokevirtual 42, 3) := by decide +kernel
theorem dX7_read_70 : decode cX7_read 70 = .ok (.aload_n 0, 1) := by decide +kernel
theorem dX7_read_71 : decode cX7_read 71 = .ok (.getfield 25, 3) := by decide +kernel
theorem dX7_read_74 : decode cX7_read 74 = .ok (.ireturn, 1) := by decide +kernel
theorem dX7_goTo_0 : decode cX7_goTo 0 = .ok (.aload_n 0, 1) := by decide +kernel
theorem dX7_goTo_1 : decode cX7_goTo 1 = .ok (.iload_n 1, 1) := by decide +kernel
theorem dX7_goTo_2 : decode cX7_goTo 2 = .ok (.putfield 18, 3) := by decide +kernel
theorem dX7_goTo_5 : decode cX7_goTo 5 = .ok (.aload_n 0, 1) := by decide +kernel
theorem dX7_goTo_6 : decode cX7_goTo 6 = .ok (.aload_n 0, 1) := by decide +kernel
theorem dX7_goTo_7 : decode cX7_goTo 7 = .ok (.getfield 18, 3) := by decide +kernel
theorem dX7_goTo_10 : decode cX7_goTo 10 = .ok (.aload_n 0, 1) := by decide +kernel
theorem dX7_goTo_11 : decode cX7_goTo 11 = .ok (.getfield 28, 3) := by decide +kernel
theorem dX7_goTo_14 : decode cX7_goTo 14 = .ok (.getfield 45, 3) := by decide +kernel
theorem dX7_goTo_17 : decode cX7_goTo 17 = .ok (.if_icmp .ge 20, 3) := by decide +kernel
theorem dX7_goTo_20 : decode cX7_goTo 20 = .ok (.aload_n 0, 1) := by decide +kernel
theorem dX7_goTo_21 : decode cX7_goTo 21 = .ok (.getfield 28, 3) := by decide +kernel
theorem dX7_goTo_24 : decode cX7_goTo 24 = .ok (.getfield 50, 3) := by decide +kernel
theorem dX7_goTo_27 : decode cX7_goTo 27 = .ok (.aload_n 0, 1) := by decide +kernel
theorem dX7_goTo_28 : decode cX7_goTo 28 = .ok (.getfield 18, 3) := by decide +kernel
theorem dX7_goTo_31 : decode cX7_goTo 31 = .ok (.invokestatic 54, 3) := by decide +kernel
theorem dX7_goTo_34 : decode cX7_goTo 34 = .ok (.goto 4, 3) := by decide +kernel
theorem dX7_goTo_37 : decode cX7_goTo 37 = .ok (.iconst (-1), 1) := by decide +kernel
theorem dX7_goTo_38 : decode cX7_goTo 38 = .ok (.putfield 22, 3) := by decide +kernel
theorem dX7_goTo_41 : decode cX7_goTo 41 = .ok (.return_, 1) := by decide +kernel
theorem dX7_fail_0 : decode cX7_fail 0 = .ok (.aload_n 0, 1) := by decide +kernel
theorem dX7_fail_1 : decode cX7_fail 1 = .ok (.aload_n 0, 1) := by decide +kernel
theorem dX7_fail_2 : decode cX7_fail 2 = .ok (.getfield 25, 3) := by decide +kernel
theorem dX7_fail_5 : decode cX7_fail 5 = .ok (.iconst (-1), 1) := by decide +kernel
theorem dX7_fail_6 : decode cX7_fail 6 = .ok (.if_icmp .ne 10, 3) := by decide +kernel
theorem dX7_fail_9 : decode cX7_fail 9 = .ok (.aload_n 0, 1) := by decide +kernel
theorem dX7_fail_10 : decode cX7_fail 10 = .ok (.getfield 18, 3) := by decide +kernel
theorem dX7_fail_13 : decode cX7_fail 13 = .ok (.goto 7, 3) := by decide +kernel
theorem dX7_fail_16 : decode cX7_fail 16 = .ok (.aload_n 0, 1) := by decide +kernel
theorem dX7_fail_17 : decode cX7_fail 17 = .ok (.getfield 25, 3) := by decide +kernel
theorem dX7_fail_20 : decode cX7_fail 20 = .ok (.putfield 25, 3) := by decide +kernel
theorem dX7_fail_23 : decode cX7_fail 23 = .ok (.aload_n 0, 1) := by decide +kernel
theorem dX7_fail_24 : decode cX7_fail 24 = .ok (.iconst (-1), 1) := by decide +kernel
theorem dX7_fail_25 : decode cX7_fail 25 = .ok (.putfield 22, 3) := by decide +kernel
theorem dX7_fail_28 : decode cX7_fail 28 = .ok (.return_, 1) := by decide +kernel
theorem dX7_take_0 : decode cX7_take 0 = .ok (.aload_n 0, 1) := by decide +kernel
theorem dX7_take_1 : decode cX7_take 1 = .ok (.getfield 22, 3) := by decide +kernel
theorem dX7_take_4 : decode cX7_take 4 = .ok (.iload_n 1, 1) := by decide +kernel
theorem dX7_take_5 : decode cX7_take 5 = .ok (.if_icmp .ne 16, 3) := by decide +kernel
theorem dX7_take_8 : decode cX7_take 8 = .ok (.aload_n 0, 1) := by decide +kernel
theorem dX7_take_9 : decode cX7_take 9 = .ok (.aload_n 0, 1) := by decide +kernel
theorem dX7_take_10 : decode cX7_take 10 = .ok (.getfield 18, 3) := by decide +kernel
theorem dX7_take_13 : decode cX7_take 13 = .ok (.iconst 1, 1) := by decide +kernel
theorem dX7_take_14 : decode cX7_take 14 = .ok (.iadd, 1) := by decide +kernel
theorem dX7_take_15 : decode cX7_take 15 = .ok (.invokevirtual 35, 3) := by decide +kernel
theorem dX7_take_18 : decode cX7_take 18 = .ok (.goto 7, 3) := by decide +kernel
theorem dX7_take_21 : decode cX7_take 21 = .ok (.aload_n 0, 1) := by decide +kernel
theorem dX7_take_22 : decode cX7_take 22 = .ok (.invokevirtual 42, 3) := by decide +kernel
theorem dX7_take_25 : decode cX7_take 25 = .ok (.return_, 1) := by decide +kernel
theorem dX7_takeWord_0 : decode cX7_takeWord 0 = .ok (.iconst 0, 1) := by decide +kernel
theorem dX7_takeWord_1 : decode cX7_takeWord 1 = .ok (.istore_n 2, 1) := by decide +kernel
theorem dX7_takeWord_2 : decode cX7_takeWord 2 = .ok (.iload_n 2, 1) := by decide +kernel
theorem dX7_takeWord_3 : decode cX7_takeWord 3 = .ok (.aload_n 1, 1) := by decide +kernel
theorem dX7_takeWord_4 : decode cX7_takeWord 4 = .ok (.invokevirtual 58, 3) := by decide +kernel
theorem dX7_takeWord_7 : decode cX7_takeWord 7 = .ok (.if_icmp .ge 18, 3) := by decide +kernel
theorem dX7_takeWord_10 : decode cX7_takeWord 10 = .ok (.aload_n 0, 1) := by decide +kernel
theorem dX7_takeWord_11 : decode cX7_takeWord 11 = .ok (.aload_n 1, 1) := by decide +kernel
theorem dX7_takeWord_12 : decode cX7_takeWord 12 = .ok (.iload_n 2, 1) := by decide +kernel
theorem dX7_takeWord_13 : decode cX7_takeWord 13 = .ok (.invokevirtual 64, 3) := by decide +kernel
theorem dX7_takeWord_16 : decode cX7_takeWord 16 = .ok (.invokevirtual 68, 3) := by decide +kernel
theorem dX7_takeWord_19 : decode cX7_takeWord 19 = .ok (.iinc 2 1, 3) := by decide +kernel
theorem dX7_takeWord_22 : decode cX7_takeWord 22 = .ok (.goto (-20), 3) := by decide +kernel
theorem dX7_takeWord_25 : decode cX7_takeWord 25 = .ok (.return_, 1) := by decide +kernel
theorem dX7_takeNumber_0 : decode cX7_takeNumber 0 = .ok (.aload_n 0, 1) := by decide +kernel
theorem dX7_takeNumber_1 : decode cX7_takeNumber 1 = .ok (.getfield 22, 3) := by decide +kernel
theorem dX7_takeNumber_4 : decode cX7_takeNumber 4 = .ok (.bipush 48, 2) := by decide +kernel
theorem dX7_takeNumber_6 : decode cX7_takeNumber 6 = .ok (.if_icmp .lt 12, 3) := by decide +kernel
theorem dX7_takeNumber_9 : decode cX7_takeNumber 9 = .ok (.aload_n 0, 1) := by decide +kernel
theorem dX7_takeNumber_10 : decode cX7_takeNumber 10 = .ok (.getfield 22, 3) := by decide +kernel
theorem dX7_takeNumber_13 : decode cX7_takeNumber 13 = .ok (.bipush 57, 2) := by decide +kernel
theorem dX7_takeNumber_15 : decode cX7_takeNumber 15 = .ok (.if_icmp .le 9, 3) := by decide +kernel
theorem dX7_takeNumber_18 : decode cX7_takeNumber 18 = .ok (.aload_n 0, 1) := by decide +kernel
theorem dX7_takeNumber_19 : decode cX7_takeNumber 19 = .ok (.invokevirtual 42, 3) := by decide +kernel
theorem dX7_takeNumber_22 : decode cX7_takeNumber 22 = .ok (.iconst 0, 1) := by decide +kernel
theorem dX7_takeNumber_23 : decode cX7_takeNumber 23 = .ok (.ireturn, 1) := by decide +kernel
theorem dX7_takeNumber_24 : decode cX7_takeNumber 24 = .ok (.aload_n 0, 1) := by decide +kernel
theorem dX7_takeNumber_25 : decode cX7_takeNumber 25 = .ok (.getfield 22, 3) := by decide +kernel
theorem dX7_takeNumber_28 : decode cX7_takeNumber 28 = .ok (.bipush 48, 2) := by decide +kernel
theorem dX7_takeNumber_30 : decode cX7_takeNumber 30 = .ok (.isub, 1) := by decide +kernel
theorem dX7_takeNumber_31 : decode cX7_takeNumber 31 = .ok (.istore_n 1, 1) := by decide +kernel
theorem dX7_takeNumber_32 : decode cX7_takeNumber 32 = .ok (.aload_n 0, 1) := by decide +kernel
theorem dX7_takeNumber_33 : decode cX7_takeNumber 33 = .ok (.aload_n 0, 1) := by decide +kernel
theorem dX7_takeNumber_34 : decode cX7_takeNumber 34 = .ok (.getfield 18, 3) := by decide +kernel
theorem dX7_takeNumber_37 : decode cX7_takeNumber 37 = .ok (.iconst 1, 1) := by decide +kernel
theorem dX7_takeNumber_38 : decode cX7_takeNumber 38 = .ok (.iadd, 1) := by decide +kernel
theorem dX7_takeNumber_39 : decode cX7_takeNumber 39 = .ok (.invokevirtual 35, 3) := by decide +kernel
theorem dX7_takeNumber_42 : decode cX7_takeNumber 42 = .ok (.iload_n 1, 1) := by decide +kernel
theorem dX7_takeNumber_43 : decode cX7_takeNumber 43 = .ok (.ifCond .eq 44, 3) := by decide +kernel
theorem dX7_takeNumber_46 : decode cX7_takeNumber 46 = .ok (.aload_n 0, 1) := by decide +kernel
theorem dX7_takeNumber_47 : decode cX7_takeNumber 47 = .ok (.getfield 22, 3) := by decide +kernel
theorem dX7_takeNumber_50 : decode cX7_takeNumber 50 = .ok (.bipush 48, 2) := by decide +kernel
theorem dX7_takeNumber_52 : decode cX7_takeNumber 52 = .ok (.if_icmp .lt 35, 3) := by decide +kernel
theorem dX7_takeNumber_55 : decode cX7_takeNumber 55 = .ok (.aload_n 0, 1) := by decide +kernel
theorem dX7_takeNumber_56 : decode cX7_takeNumber 56 = .ok (.getfield 22, 3) := by decide +kernel
theorem dX7_takeNumber_59 : decode cX7_takeNumber 59 = .ok (.bipush 57, 2) := by decide +kernel
theorem dX7_takeNumber_61 : decode cX7_takeNumber 61 = .ok (.if_icmp .gt 26, 3) := by decide +kernel
theorem dX7_takeNumber_64 : decode cX7_takeNumber 64 = .ok (.iload_n 1, 1) := by decide +kernel
theorem dX7_takeNumber_65 : decode cX7_takeNumber 65 = .ok (.bipush 10, 2) := by decide +kernel
theorem dX7_takeNumber_67 : decode cX7_takeNumber 67 = .ok (.imul, 1) := by decide +kernel
theorem dX7_takeNumber_68 : decode cX7_takeNumber 68 = .ok (.aload_n 0, 1) := by decide +kernel
theorem dX7_takeNumber_69 : decode cX7_takeNumber 69 = .ok (.getfield 22, 3) := by decide +kernel
theorem dX7_takeNumber_72 : decode cX7_takeNumber 72 = .ok (.iadd, 1) := by decide +kernel
theorem dX7_takeNumber_73 : decode cX7_takeNumber 73 = .ok (.bipush 48, 2) := by decide +kernel
theorem dX7_takeNumber_75 : decode cX7_takeNumber 75 = .ok (.isub, 1) := by decide +kernel
theorem dX7_takeNumber_76 : decode cX7_takeNumber 76 = .ok (.istore_n 1, 1) := by decide +kernel
theorem dX7_takeNumber_77 : decode cX7_takeNumber 77 = .ok (.aload_n 0, 1) := by decide +kernel
theorem dX7_takeNumber_78 : decode cX7_takeNumber 78 = .ok (.aload_n 0, 1) := by decide +kernel
theorem dX7_takeNumber_79 : decode cX7_takeNumber 79 = .ok (.getfield 18, 3) := by decide +kernel
theorem dX7_takeNumber_82 : decode cX7_takeNumber 82 = .ok (.iconst 1, 1) := by decide +kernel
theorem dX7_takeNumber_83 : decode cX7_takeNumber 83 = .ok (.iadd, 1) := by decide +kernel
theorem dX7_takeNumber_84 : decode cX7_takeNumber 84 = .ok (.invokevirtual 35, 3) := by decide +kernel
theorem dX7_takeNumber_87 : decode cX7_takeNumber 87 = .ok (.iload_n 1, 1) := by decide +kernel
theorem dX7_takeNumber_88 : decode cX7_takeNumber 88 = .ok (.ireturn, 1) := by decide +kernel
theorem dX7_readClause_0 : decode cX7_readClause 0 = .ok (.aload_n 0, 1) := by decide +kernel
theorem dX7_readClause_1 : decode cX7_readClause 1 = .ok (.getfield 22, 3) := by decide +kernel
theorem dX7_readClause_4 : decode cX7_readClause 4 = .ok (.lookupswitch 159 #[(99, 60), (100, 80), (116, 36)], 36) := by decide +kernel
theorem dX7_readClause_40 : decode cX7_readClause 40 = .ok (.aload_n 0, 1) := by decide +kernel
theorem dX7_readClause_41 : decode cX7_readClause 41 = .ok (.ldc 71, 2) := by decide +kernel
theorem dX7_readClause_43 : decode cX7_readClause 43 = .ok (.invokevirtual 73, 3) := by decide +kernel
theorem dX7_readClause_46 : decode cX7_readClause 46 = .ok (.aload_n 0, 1) := by decide +kernel
theorem dX7_readClause_47 : decode cX7_readClause 47 = .ok (.getfield 12, 3) := by decide +kernel
theorem dX7_readClause_50 : decode cX7_readClause 50 = .ok (.aload_n 0, 1) := by decide +kernel
theorem dX7_readClause_51 : decode cX7_readClause 51 = .ok (.invokevirtual 77, 3) := by decide +kernel
theorem dX7_readClause_54 : decode cX7_readClause 54 = .ok (.iconst 1, 1) := by decide +kernel
theorem dX7_readClause_55 : decode cX7_readClause 55 = .ok (.invokestatic 80, 3) := by decide +kernel
theorem dX7_readClause_58 : decode cX7_readClause 58 = .ok (.putfield 86, 3) := by decide +kernel
theorem dX7_readClause_61 : decode cX7_readClause 61 = .ok (.goto 106, 3) := by decide +kernel
theorem dX7_readClause_64 : decode cX7_readClause 64 = .ok (.aload_n 0, 1) := by decide +kernel
theorem dX7_readClause_65 : decode cX7_readClause 65 = .ok (.ldc 89, 2) := by decide +kernel
theorem dX7_readClause_67 : decode cX7_readClause 67 = .ok (.invokevirtual 73, 3) := by decide +kernel
theorem dX7_readClause_70 : decode cX7_readClause 70 = .ok (.aload_n 0, 1) := by decide +kernel
theorem dX7_readClause_71 : decode cX7_readClause 71 = .ok (.getfield 12, 3) := by decide +kernel
theorem dX7_readClause_74 : decode cX7_readClause 74 = .ok (.aload_n 0, 1) := by decide +kernel
theorem dX7_readClause_75 : decode cX7_readClause 75 = .ok (.invokevirtual 77, 3) := by decide +kernel
theorem dX7_readClause_78 : decode cX7_readClause 78 = .ok (.putfield 91, 3) := by decide +kernel
theorem dX7_readClause_81 : decode cX7_readClause 81 = .ok (.goto 86, 3) := by decide +kernel
theorem dX7_readClause_84 : decode cX7_readClause 84 = .ok (.aload_n 0, 1) := by decide +kernel
theorem dX7_readClause_85 : decode cX7_readClause 85 = .ok (.aload_n 0, 1) := by decide +kernel
theorem dX7_readClause_86 : decode cX7_readClause 86 = .ok (.getfield 18, 3) := by decide +kernel
theorem dX7_readClause_89 : decode cX7_readClause 89 = .ok (.iconst 1, 1) := by decide +kernel
theorem dX7_readClause_90 : decode cX7_readClause 90 = .ok (.iadd, 1) := by decide +kernel
theorem dX7_readClause_91 : decode cX7_readClause 91 = .ok (.invokevirtual 35, 3) := by decide +kernel
theorem dX7_readClause_94 : decode cX7_readClause 94 = .ok (.aload_n 0, 1) := by decide +kernel
theorem dX7_readClause_95 : decode cX7_readClause 95 = .ok (.getfield 22, 3) := by decide +kernel
theorem dX7_readClause_98 : decode cX7_readClause 98 = .ok (.bipush 105, 2) := by decide +kernel
theorem dX7_readClause_100 : decode cX7_readClause 100 = .ok (.if_icmp .ne 7, 3) := by decide +kernel
theorem dX7_readClause_103 : decode cX7_readClause 103 = .ok (.iconst 1, 1) := by decide +kernel
theorem dX7_readClause_104 : decode cX7_readClause 104 = .ok (.goto 4, 3) := by decide +kernel
theorem dX7_readClause_107 : decode cX7_readClause 107 = .ok (.iconst 0, 1) := by decide +kernel
theorem dX7_readClause_108 : decode cX7_readClause 108 = .ok (.istore_n 1, 1) := by decide +kernel
theorem dX7_readClause_109 : decode cX7_readClause 109 = .ok (.aload_n 0, 1) := by decide +kernel
theorem dX7_readClause_110 : decode cX7_readClause 110 = .ok (.iload_n 1, 1) := by decide +kernel
theorem dX7_readClause_111 : decode cX7_readClause 111 = .ok (.ifCond .eq 8, 3) := by decide +kernel
theorem dX7_readClause_114 : decode cX7_readClause 114 = .ok (.ldc 94, 2) := by decide +kernel
theorem dX7_readClause_116 : decode cX7_readClause 116 = .ok (.goto 5, 3) := by decide +kernel
theorem dX7_readClause_119 : decode cX7_readClause 119 = .ok (.ldc 96, 2) := by decide +kernel
theorem dX7_readClause_121 : decode cX7_readClause 121 = .ok (.invokevirtual 73, 3) := by decide +kernel
theorem dX7_readClause_124 : decode cX7_readClause 124 = .ok (.aload_n 0, 1) := by decide +kernel
theorem dX7_readClause_125 : decode cX7_readClause 125 = .ok (.invokevirtual 77, 3) := by decide +kernel
theorem dX7_readClause_128 : decode cX7_readClause 128 = .ok (.istore_n 2, 1) := by decide +kernel
theorem dX7_readClause_129 : decode cX7_readClause 129 = .ok (.aload_n 0, 1) := by decide +kernel
theorem dX7_readClause_130 : decode cX7_readClause 130 = .ok (.bipush 32, 2) := by decide +kernel
theorem dX7_readClause_132 : decode cX7_readClause 132 = .ok (.invokevirtual 68, 3) := by decide +kernel
theorem dX7_readClause_135 : decode cX7_readClause 135 = .ok (.aload_n 0, 1) := by decide +kernel
theorem dX7_readClause_136 : decode cX7_readClause 136 = .ok (.iconst 0, 1) := by decide +kernel
theorem dX7_readClause_137 : decode cX7_readClause 137 = .ok (.invokevirtual 98, 3) := by decide +kernel
theorem dX7_readClause_140 : decode cX7_readClause 140 = .ok (.aload_n 0, 1) := by decide +kernel
theorem dX7_readClause_141 : decode cX7_readClause 141 = .ok (.getfield 12, 3) := by decide +kernel
theorem dX7_readClause_144 : decode cX7_readClause 144 = .ok (.iload_n 1, 1) := by decide +kernel
theorem dX7_readClause_145 : decode cX7_readClause 145 = .ok (.ifCond .eq 8, 3) := by decide +kernel
theorem dX7_readClause_148 : decode cX7_readClause 148 = .ok (.bipush 7, 2) := by decide +kernel
theorem dX7_readClause_150 : decode cX7_readClause 150 = .ok (.goto 5, 3) := by decide +kernel
theorem dX7_readClause_153 : decode cX7_readClause 153 = .ok (.bipush 6, 2) := by decide +kernel
theorem dX7_readClause_155 : decode cX7_readClause 155 = .ok (.iconst 0, 1) := by decide +kernel
theorem dX7_readClause_156 : decode cX7_readClause 156 = .ok (.iload_n 2, 1) := by decide +kernel
theorem dX7_readClause_157 : decode cX7_readClause 157 = .ok (.invokevirtual 101, 3) := by decide +kernel
theorem dX7_readClause_160 : decode cX7_readClause 160 = .ok (.goto 7, 3) := by decide +kernel
theorem dX7_readClause_163 : decode cX7_readClause 163 = .ok (.aload_n 0, 1) := by decide +kernel
theorem dX7_readClause_164 : decode cX7_readClause 164 = .ok (.invokevirtual 42, 3) := by decide +kernel
theorem dX7_readClause_167 : decode cX7_readClause 167 = .ok (.return_, 1) := by decide +kernel
theorem dX7_readEither_0 : decode cX7_readEither 0 = .ok (.aload_n 0, 1) := by decide +kernel
theorem dX7_readEither_1 : decode cX7_readEither 1 = .ok (.iload_n 1, 1) := by decide +kernel
theorem dX7_readEither_2 : decode cX7_readEither 2 = .ok (.invokevirtual 105, 3) := by decide +kernel
theorem dX7_readEither_5 : decode cX7_readEither 5 = .ok (.iconst 0, 1) := by decide +kernel
theorem dX7_readEither_6 : decode cX7_readEither 6 = .ok (.istore_n 2, 1) := by decide +kernel
theorem dX7_readEither_7 : decode cX7_readEither 7 = .ok (.iload_n 2, 1) := by decide +kernel
theorem dX7_readEither_8 : decode cX7_readEither 8 = .ok (.bipush 100, 2) := by decide +kernel
theorem dX7_readEither_10 : decode cX7_readEither 10 = .ok (.if_icmp .ge 43, 3) := by decide +kernel
theorem dX7_readEither_13 : decode cX7_readEither 13 = .ok (.aload_n 0, 1) := by decide +kernel
theorem dX7_readEither_14 : decode cX7_readEither 14 = .ok (.getfield 22, 3) := by decide +kernel
theorem dX7_readEither_17 : decode cX7_readEither 17 = .ok (.bipush 124, 2) := by decide +kernel
theorem dX7_readEither_19 : decode cX7_readEither 19 = .ok (.if_icmp .ne 34, 3) := by decide +kernel
theorem dX7_readEither_22 : decode cX7_readEither 22 = .ok (.aload_n 0, 1) := by decide +kernel
theorem dX7_readEither_23 : decode cX7_readEither 23 = .ok (.aload_n 0, 1) := by decide +kernel
theorem dX7_readEither_24 : decode cX7_readEither 24 = .ok (.getfield 18, 3) := by decide +kernel
theorem dX7_readEither_27 : decode cX7_readEither 27 = .ok (.iconst 1, 1) := by decide +kernel
theorem dX7_readEither_28 : decode cX7_readEither 28 = .ok (.iadd, 1) := by decide +kernel
theorem dX7_readEither_29 : decode cX7_readEither 29 = .ok (.invokevirtual 35, 3) := by decide +kernel
theorem dX7_readEither_32 : decode cX7_readEither 32 = .ok (.aload_n 0, 1) := by decide +kernel
theorem dX7_readEither_33 : decode cX7_readEither 33 = .ok (.iload_n 1, 1) := by decide +kernel
theorem dX7_readEither_34 : decode cX7_readEither 34 = .ok (.invokevirtual 105, 3) := by decide +kernel
theorem dX7_readEither_37 : decode cX7_readEither 37 = .ok (.aload_n 0, 1) := by decide +kernel
theorem dX7_readEither_38 : decode cX7_readEither 38 = .ok (.getfield 12, 3) := by decide +kernel
theorem dX7_readEither_41 : decode cX7_readEither 41 = .ok (.iconst 5, 1) := by decide +kernel
theorem dX7_readEither_42 : decode cX7_readEither 42 = .ok (.iconst 0, 1) := by decide +kernel
theorem dX7_readEither_43 : decode cX7_readEither 43 = .ok (.iconst 0, 1) := by decide +kernel
theorem dX7_readEither_44 : decode cX7_readEither 44 = .ok (.invokevirtual 101, 3) := by decide +kernel
theorem dX7_readEither_47 : decode cX7_readEither 47 = .ok (.iinc 2 1, 3) := by decide +kernel
theorem dX7_readEither_50 : decode cX7_readEither 50 = .ok (.goto (-43), 3) := by decide +kernel
theorem dX7_readEither_53 : decode cX7_readEither 53 = .ok (.return_, 1) := by decide +kernel
theorem dX7_readBoth_0 : decode cX7_readBoth 0 = .ok (.aload_n 0, 1) := by decide +kernel
theorem dX7_readBoth_1 : decode cX7_readBoth 1 = .ok (.iload_n 1, 1) := by decide +kernel
theorem dX7_readBoth_2 : decode cX7_readBoth 2 = .ok (.invokevirtual 108, 3) := by decide +kernel
theorem dX7_readBoth_5 : decode cX7_readBoth 5 = .ok (.iconst 0, 1) := by decide +kernel
theorem dX7_readBoth_6 : decode cX7_readBoth 6 = .ok (.istore_n 2, 1) := by decide +kernel
theorem dX7_readBoth_7 : decode cX7_readBoth 7 = .ok (.iload_n 2, 1) := by decide +kernel
theorem dX7_readBoth_8 : decode cX7_readBoth 8 = .ok (.bipush 100, 2) := by decide +kernel
theorem dX7_readBoth_10 : decode cX7_readBoth 10 = .ok (.if_icmp .ge 43, 3) := by decide +kernel
theorem dX7_readBoth_13 : decode cX7_readBoth 13 = .ok (.aload_n 0, 1) := by decide +kernel
theorem dX7_readBoth_14 : decode cX7_readBoth 14 = .ok (.getfield 22, 3) := by decide +kernel
theorem dX7_readBoth_17 : decode cX7_readBoth 17 = .ok (.bipush 38, 2) := by decide +kernel
theorem dX7_readBoth_19 : decode cX7_readBoth 19 = .ok (.if_icmp .ne 34, 3) := by decide +kernel
theorem dX7_readBoth_22 : decode cX7_readBoth 22 = .ok (.aload_n 0, 1) := by decide +kernel
theorem dX7_readBoth_23 : decode cX7_readBoth 23 = .ok (.aload_n 0, 1) := by decide +kernel
theorem dX7_readBoth_24 : decode cX7_readBoth 24 = .ok (.getfield 18, 3) := by decide +kernel
theorem dX7_readBoth_27 : decode cX7_readBoth 27 = .ok (.iconst 1, 1) := by decide +kernel
theorem dX7_readBoth_28 : decode cX7_readBoth 28 = .ok (.iadd, 1) := by decide +kernel
theorem dX7_readBoth_29 : decode cX7_readBoth 29 = .ok (.invokevirtual 35, 3) := by decide +kernel
theorem dX7_readBoth_32 : decode cX7_readBoth 32 = .ok (.aload_n 0, 1) := by decide +kernel
theorem dX7_readBoth_33 : decode cX7_readBoth 33 = .ok (.iload_n 1, 1) := by decide +kernel
theorem dX7_readBoth_34 : decode cX7_readBoth 34 = .ok (.invokevirtual 108, 3) := by decide +kernel
theorem dX7_readBoth_37 : decode cX7_readBoth 37 = .ok (.aload_n 0, 1) := by decide +kernel
theorem dX7_readBoth_38 : decode cX7_readBoth 38 = .ok (.getfield 12, 3) := by decide +kernel
theorem dX7_readBoth_41 : decode cX7_readBoth 41 = .ok (.iconst 4, 1) := by decide +kernel
theorem dX7_readBoth_42 : decode cX7_readBoth 42 = .ok (.iconst 0, 1) := by decide +kernel
theorem dX7_readBoth_43 : decode cX7_readBoth 43 = .ok (.iconst 0, 1) := by decide +kernel
theorem dX7_readBoth_44 : decode cX7_readBoth 44 = .ok (.invokevirtual 101, 3) := by decide +kernel
theorem dX7_readBoth_47 : decode cX7_readBoth 47 = .ok (.iinc 2 1, 3) := by decide +kernel
theorem dX7_readBoth_50 : decode cX7_readBoth 50 = .ok (.goto (-43), 3) := by decide +kernel
theorem dX7_readBoth_53 : decode cX7_readBoth 53 = .ok (.return_, 1) := by decide +kernel
theorem dX7_readFactor_0 : decode cX7_readFactor 0 = .ok (.aload_n 0, 1) := by decide +kernel
theorem dX7_readFactor_1 : decode cX7_readFactor 1 = .ok (.getfield 22, 3) := by decide +kernel
theorem dX7_readFactor_4 : decode cX7_readFactor 4 = .ok (.bipush 33, 2) := by decide +kernel
theorem dX7_readFactor_6 : decode cX7_readFactor 6 = .ok (.if_icmp .eq 19, 3) := by decide +kernel
theorem dX7_readFactor_9 : decode cX7_readFactor 9 = .ok (.aload_n 0, 1) := by decide +kernel
theorem dX7_readFactor_10 : decode cX7_readFactor 10 = .ok (.getfield 22, 3) := by decide +kernel
theorem dX7_readFactor_13 : decode cX7_readFactor 13 = .ok (.bipush 40, 2) := by decide +kernel
theorem dX7_readFactor_15 : decode cX7_readFactor 15 = .ok (.if_icmp .eq 10, 3) := by decide +kernel
theorem dX7_readFactor_18 : decode cX7_readFactor 18 = .ok (.aload_n 0, 1) := by decide +kernel
theorem dX7_readFactor_19 : decode cX7_readFactor 19 = .ok (.invokevirtual 111, 3) := by decide +kernel
theorem dX7_readFactor_22 : decode cX7_readFactor 22 = .ok (.goto 77, 3) := by decide +kernel
theorem dX7_readFactor_25 : decode cX7_readFactor 25 = .ok (.iload_n 1, 1) := by decide +kernel
theorem dX7_readFactor_26 : decode cX7_readFactor 26 = .ok (.iconst 5, 1) := by decide +kernel
theorem dX7_readFactor_27 : decode cX7_readFactor 27 = .ok (.if_icmp .lt 10, 3) := by decide +kernel
theorem dX7_readFactor_30 : decode cX7_readFactor 30 = .ok (.aload_n 0, 1) := by decide +kernel
theorem dX7_readFactor_31 : decode cX7_readFactor 31 = .ok (.invokevirtual 42, 3) := by decide +kernel
theorem dX7_readFactor_34 : decode cX7_readFactor 34 = .ok (.goto 65, 3) := by decide +kernel
theorem dX7_readFactor_37 : decode cX7_readFactor 37 = .ok (.aload_n 0, 1) := by decide +kernel
theorem dX7_readFactor_38 : decode cX7_readFactor 38 = .ok (.getfield 22, 3) := by decide +kernel
theorem dX7_readFactor_41 : decode cX7_readFactor 41 = .ok (.bipush 33, 2) := by decide +kernel
theorem dX7_readFactor_43 : decode cX7_readFactor 43 = .ok (.if_icmp .ne 33, 3) := by decide +kernel
theorem dX7_readFactor_46 : decode cX7_readFactor 46 = .ok (.aload_n 0, 1) := by decide +kernel
theorem dX7_readFactor_47 : decode cX7_readFactor 47 = .ok (.aload_n 0, 1) := by decide +kernel
theorem dX7_readFactor_48 : decode cX7_readFactor 48 = .ok (.getfield 18, 3) := by decide +kernel
theorem dX7_readFactor_51 : decode cX7_readFactor 51 = .ok (.iconst 1, 1) := by decide +kernel
theorem dX7_readFactor_52 : decode cX7_readFactor 52 = .ok (.iadd, 1) := by decide +kernel
theorem dX7_readFactor_53 : decode cX7_readFactor 53 = .ok (.invokevirtual 35, 3) := by decide +kernel
theorem dX7_readFactor_56 : decode cX7_readFactor 56 = .ok (.aload_n 0, 1) := by decide +kernel
theorem dX7_readFactor_57 : decode cX7_readFactor 57 = .ok (.iload_n 1, 1) := by decide +kernel
theorem dX7_readFactor_58 : decode cX7_readFactor 58 = .ok (.iconst 1, 1) := by decide +kernel
theorem dX7_readFactor_59 : decode cX7_readFactor 59 = .ok (.iadd, 1) := by decide +kernel
theorem dX7_readFactor_60 : decode cX7_readFactor 60 = .ok (.invokevirtual 108, 3) := by decide +kernel
theorem dX7_readFactor_63 : decode cX7_readFactor 63 = .ok (.aload_n 0, 1) := by decide +kernel
theorem dX7_readFactor_64 : decode cX7_readFactor 64 = .ok (.getfield 12, 3) := by decide +kernel
theorem dX7_readFactor_67 : decode cX7_readFactor 67 = .ok (.iconst 3, 1) := by decide +kernel
theorem dX7_readFactor_68 : decode cX7_readFactor 68 = .ok (.iconst 0, 1) := by decide +kernel
theorem dX7_readFactor_69 : decode cX7_readFactor 69 = .ok (.iconst 0, 1) := by decide +kernel
theorem dX7_readFactor_70 : decode cX7_readFactor 70 = .ok (.invokevirtual 101, 3) := by decide +kernel
theorem dX7_readFactor_73 : decode cX7_readFactor 73 = .ok (.goto 26, 3) := by decide +kernel
theorem dX7_readFactor_76 : decode cX7_readFactor 76 = .ok (.aload_n 0, 1) := by decide +kernel
theorem dX7_readFactor_77 : decode cX7_readFactor 77 = .ok (.aload_n 0, 1) := by decide +kernel
theorem dX7_readFactor_78 : decode cX7_readFactor 78 = .ok (.getfield 18, 3) := by decide +kernel
theorem dX7_readFactor_81 : decode cX7_readFactor 81 = .ok (.iconst 1, 1) := by decide +kernel
theorem dX7_readFactor_82 : decode cX7_readFactor 82 = .ok (.iadd, 1) := by decide +kernel
theorem dX7_readFactor_83 : decode cX7_readFactor 83 = .ok (.invokevirtual 35, 3) := by decide +kernel
theorem dX7_readFactor_86 : decode cX7_readFactor 86 = .ok (.aload_n 0, 1) := by decide +kernel
theorem dX7_readFactor_87 : decode cX7_readFactor 87 = .ok (.iload_n 1, 1) := by decide +kernel
theorem dX7_readFactor_88 : decode cX7_readFactor 88 = .ok (.iconst 1, 1) := by decide +kernel
theorem dX7_readFactor_89 : decode cX7_readFactor 89 = .ok (.iadd, 1) := by decide +kernel
theorem dX7_readFactor_90 : decode cX7_readFactor 90 = .ok (.invokevirtual 98, 3) := by decide +kernel
theorem dX7_readFactor_93 : decode cX7_readFactor 93 = .ok (.aload_n 0, 1) := by decide +kernel
theorem dX7_readFactor_94 : decode cX7_readFactor 94 = .ok (.bipush 41, 2) := by decide +kernel
theorem dX7_readFactor_96 : decode cX7_readFactor 96 = .ok (.invokevirtual 68, 3) := by decide +kernel
theorem dX7_readFactor_99 : decode cX7_readFactor 99 = .ok (.return_, 1) := by decide +kernel
theorem dX7_readTest_0 : decode cX7_readTest 0 = .ok (.aload_n 0, 1) := by decide +kernel
theorem dX7_readTest_1 : decode cX7_readTest 1 = .ok (.getfield 22, 3) := by decide +kernel
theorem dX7_readTest_4 : decode cX7_readTest 4 = .ok (.istore_n 1, 1) := by decide +kernel
theorem dX7_readTest_5 : decode cX7_readTest 5 = .ok (.iload_n 1, 1) := by decide +kernel
theorem dX7_readTest_6 : decode cX7_readTest 6 = .ok (.tableswitch 87 104 118 #[74, 87, 87, 74, 87, 74, 74, 87, 74, 87, 87, 87, 87, 87, 74], 74) := by decide +kernel
theorem dX7_readTest_80 : decode cX7_readTest 80 = .ok (.aload_n 0, 1) := by decide +kernel
theorem dX7_readTest_81 : decode cX7_readTest 81 = .ok (.aload_n 0, 1) := by decide +kernel
theorem dX7_readTest_82 : decode cX7_readTest 82 = .ok (.getfield 18, 3) := by decide +kernel
theorem dX7_readTest_85 : decode cX7_readTest 85 = .ok (.iconst 1, 1) := by decide +kernel
theorem dX7_readTest_86 : decode cX7_readTest 86 = .ok (.iadd, 1) := by decide +kernel
theorem dX7_readTest_87 : decode cX7_readTest 87 = .ok (.invokevirtual 35, 3) := by decide +kernel
theorem dX7_readTest_90 : decode cX7_readTest 90 = .ok (.goto 7, 3) := by decide +kernel
theorem dX7_readTest_93 : decode cX7_readTest 93 = .ok (.aload_n 0, 1) := by decide +kernel
theorem dX7_readTest_94 : decode cX7_readTest 94 = .ok (.invokevirtual 42, 3) := by decide +kernel
theorem dX7_readTest_97 : decode cX7_readTest 97 = .ok (.aload_n 0, 1) := by decide +kernel
theorem dX7_readTest_98 : decode cX7_readTest 98 = .ok (.getfield 22, 3) := by decide +kernel
theorem dX7_readTest_101 : decode cX7_readTest 101 = .ok (.bipush 60, 2) := by decide +kernel
theorem dX7_readTest_103 : decode cX7_readTest 103 = .ok (.if_icmp .ne 7, 3) := by decide +kernel
theorem dX7_readTest_106 : decode cX7_readTest 106 = .ok (.iconst 0, 1) := by decide +kernel
theorem dX7_readTest_107 : decode cX7_readTest 107 = .ok (.goto 17, 3) := by decide +kernel
theorem dX7_readTest_110 : decode cX7_readTest 110 = .ok (.aload_n 0, 1) := by decide +kernel
theorem dX7_readTest_111 : decode cX7_readTest 111 = .ok (.getfield 22, 3) := by decide +kernel
theorem dX7_readTest_114 : decode cX7_readTest 114 = .ok (.bipush 62, 2) := by decide +kernel
theorem dX7_readTest_116 : decode cX7_readTest 116 = .ok (.if_icmp .ne 7, 3) := by decide +kernel
theorem dX7_readTest_119 : decode cX7_readTest 119 = .ok (.iconst 2, 1) := by decide +kernel
theorem dX7_readTest_120 : decode cX7_readTest 120 = .ok (.goto 4, 3) := by decide +kernel
theorem dX7_readTest_123 : decode cX7_readTest 123 = .ok (.iconst 1, 1) := by decide +kernel
theorem dX7_readTest_124 : decode cX7_readTest 124 = .ok (.istore_n 2, 1) := by decide +kernel
theorem dX7_readTest_125 : decode cX7_readTest 125 = .ok (.aload_n 0, 1) := by decide +kernel
theorem dX7_readTest_126 : decode cX7_readTest 126 = .ok (.iload_n 2, 1) := by decide +kernel
theorem dX7_readTest_127 : decode cX7_readTest 127 = .ok (.ifCond .ne 8, 3) := by decide +kernel
theorem dX7_readTest_130 : decode cX7_readTest 130 = .ok (.bipush 60, 2) := by decide +kernel
theorem dX7_readTest_132 : decode cX7_readTest 132 = .ok (.goto 15, 3) := by decide +kernel
theorem dX7_readTest_135 : decode cX7_readTest 135 = .ok (.iload_n 2, 1) := by decide +kernel
theorem dX7_readTest_136 : decode cX7_readTest 136 = .ok (.iconst 2, 1) := by decide +kernel
theorem dX7_readTest_137 : decode cX7_readTest 137 = .ok (.if_icmp .ne 8, 3) := by decide +kernel
theorem dX7_readTest_140 : decode cX7_readTest 140 = .ok (.bipush 62, 2) := by decide +kernel
theorem dX7_readTest_142 : decode cX7_readTest 142 = .ok (.goto 5, 3) := by decide +kernel
theorem dX7_readTest_145 : decode cX7_readTest 145 = .ok (.bipush 61, 2) := by decide +kernel
theorem dX7_readTest_147 : decode cX7_readTest 147 = .ok (.invokevirtual 68, 3) := by decide +kernel
theorem dX7_readTest_150 : decode cX7_readTest 150 = .ok (.aload_n 0, 1) := by decide +kernel
theorem dX7_readTest_151 : decode cX7_readTest 151 = .ok (.getfield 12, 3) := by decide +kernel
theorem dX7_readTest_154 : decode cX7_readTest 154 = .ok (.iload_n 2, 1) := by decide +kernel
theorem dX7_readTest_155 : decode cX7_readTest 155 = .ok (.iload_n 1, 1) := by decide +kernel
theorem dX7_readTest_156 : decode cX7_readTest 156 = .ok (.aload_n 0, 1) := by decide +kernel
theorem dX7_readTest_157 : decode cX7_readTest 157 = .ok (.invokevirtual 77, 3) := by decide +kernel
theorem dX7_readTest_160 : decode cX7_readTest 160 = .ok (.invokevirtual 101, 3) := by decide +kernel
theorem dX7_readTest_163 : decode cX7_readTest 163 = .ok (.return_, 1) := by decide +kernel
theorem dX8_init_0 : decode cX8_init 0 = .ok (.aload_n 0, 1) := by decide +kernel
theorem dX8_init_1 : decode cX8_init 1 = .ok (.invokespecial 1, 3) := by decide +kernel
theorem dX8_init_4 : decode cX8_init 4 = .ok (.aload_n 0, 1) := by decide +kernel
theorem dX8_init_5 : decode cX8_init 5 = .ok (.iload_n 1, 1) := by decide +kernel
theorem dX8_init_6 : decode cX8_init 6 = .ok (.putfield 7, 3) := by decide +kernel
theorem dX8_init_9 : decode cX8_init 9 = .ok (.aload_n 0, 1) := by decide +kernel
theorem dX8_init_10 : decode cX8_init 10 = .ok (.iload_n 2, 1) := by decide +kernel
theorem dX8_init_11 : decode cX8_init 11 = .ok (.putfield 13, 3) := by decide +kernel
theorem dX8_init_14 : decode cX8_init 14 = .ok (.aload_n 0, 1) := by decide +kernel
theorem dX8_init_15 : decode cX8_init 15 = .ok (.iload_n 3, 1) := by decide +kernel
theorem dX8_init_16 : decode cX8_init 16 = .ok (.putfield 16, 3) := by decide +kernel
theorem dX8_init_19 : decode cX8_init 19 = .ok (.aload_n 0, 1) := by decide +kernel
theorem dX8_init_20 : decode cX8_init 20 = .ok (.aload 4, 2) := by decide +kernel
theorem dX8_init_22 : decode cX8_init 22 = .ok (.putfield 19, 3) := by decide +kernel
theorem dX8_init_25 : decode cX8_init 25 = .ok (.return_, 1) := by decide +kernel
theorem dX8_isOver_0 : decode cX8_isOver 0 = .ok (.iload_n 3, 1) := by decide +kernel
theorem dX8_isOver_1 : decode cX8_isOver 1 = .ok (.ifCond .le 16, 3) := by decide +kernel
theorem dX8_isOver_4 : decode cX8_isOver 4 = .ok (.iload_n 1, 1) := by decide +kernel
theorem dX8_isOver_5 : decode cX8_isOver 5 = .ok (.iload 4, 2) := by decide +kernel
theorem dX8_isOver_7 : decode cX8_isOver 7 = .ok (.iadd, 1) := by decide +kernel
theorem dX8_isOver_8 : decode cX8_isOver 8 = .ok (.iload_n 3, 1) := by decide +kernel
theorem dX8_isOver_9 : decode cX8_isOver 9 = .ok (.irem, 1) := by decide +kernel
theorem dX8_isOver_10 : decode cX8_isOver 10 = .ok (.ifCond .ne 7, 3) := by decide +kernel
theorem dX8_isOver_13 : decode cX8_isOver 13 = .ok (.iconst 1, 1) := by decide +kernel
theorem dX8_isOver_14 : decode cX8_isOver 14 = .ok (.goto 4, 3) := by decide +kernel
theorem dX8_isOver_17 : decode cX8_isOver 17 = .ok (.iconst 0, 1) := by decide +kernel
theorem dX8_isOver_18 : decode cX8_isOver 18 = .ok (.ireturn, 1) := by decide +kernel
theorem dX8_worthBy_0 : decode cX8_worthBy 0 = .ok (.iconst 5, 1) := by decide +kernel
theorem dX8_worthBy_1 : decode cX8_worthBy 1 = .ok (.iload_n 1, 1) := by decide +kernel
theorem dX8_worthBy_2 : decode cX8_worthBy 2 = .ok (.iadd, 1) := by decide +kernel
theorem dX8_worthBy_3 : decode cX8_worthBy 3 = .ok (.ireturn, 1) := by decide +kernel
theorem dX8_glows_0 : decode cX8_glows 0 = .ok (.aload_n 0, 1) := by decide +kernel
theorem dX8_glows_1 : decode cX8_glows 1 = .ok (.getfield 19, 3) := by decide +kernel
theorem dX8_glows_4 : decode cX8_glows 4 = .ok (.iconst 1, 1) := by decide +kernel
theorem dX8_glows_5 : decode cX8_glows 5 = .ok (.invokevirtual 23, 3) := by decide +kernel
theorem dX8_glows_8 : decode cX8_glows 8 = .ok (.pop, 1) := by decide +kernel
theorem dX8_glows_9 : decode cX8_glows 9 = .ok (.iload_n 1, 1) := by decide +kernel
theorem dX8_glows_10 : decode cX8_glows 10 = .ok (.aload_n 0, 1) := by decide +kernel
theorem dX8_glows_11 : decode cX8_glows 11 = .ok (.getfield 13, 3) := by decide +kernel
theorem dX8_glows_14 : decode cX8_glows 14 = .ok (.iadd, 1) := by decide +kernel
theorem dX8_glows_15 : decode cX8_glows 15 = .ok (.ireturn, 1) := by decide +kernel
theorem dX8_claims_0 : decode cX8_claims 0 = .ok (.aload_n 0, 1) := by decide +kernel
theorem dX8_claims_1 : decode cX8_claims 1 = .ok (.getfield 19, 3) := by decide +kernel
theorem dX8_claims_4 : decode cX8_claims 4 = .ok (.iconst 2, 1) := by decide +kernel
theorem dX8_claims_5 : decode cX8_claims 5 = .ok (.invokevirtual 23, 3) := by decide +kernel
theorem dX8_claims_8 : decode cX8_claims 8 = .ok (.pop, 1) := by decide +kernel
theorem dX8_claims_9 : decode cX8_claims 9 = .ok (.aload_n 0, 1) := by decide +kernel
theorem dX8_claims_10 : decode cX8_claims 10 = .ok (.iload_n 1, 1) := by decide +kernel
theorem dX8_claims_11 : decode cX8_claims 11 = .ok (.invokevirtual 29, 3) := by decide +kernel
theorem dX8_claims_14 : decode cX8_claims 14 = .ok (.aload_n 0, 1) := by decide +kernel
theorem dX8_claims_15 : decode cX8_claims 15 = .ok (.getfield 16, 3) := by decide +kernel
theorem dX8_claims_18 : decode cX8_claims 18 = .ok (.isub, 1) := by decide +kernel
theorem dX8_claims_19 : decode cX8_claims 19 = .ok (.ireturn, 1) := by decide +kernel
theorem dX8_tells_0 : decode cX8_tells 0 = .ok (.aload_n 0, 1) := by decide +kernel
theorem dX8_tells_1 : decode cX8_tells 1 = .ok (.getfield 19, 3) := by decide +kernel
theorem dX8_tells_4 : decode cX8_tells 4 = .ok (.iconst 3, 1) := by decide +kernel
theorem dX8_tells_5 : decode cX8_tells 5 = .ok (.invokevirtual 23, 3) := by decide +kernel
theorem dX8_tells_8 : decode cX8_tells 8 = .ok (.pop, 1) := by decide +kernel
theorem dX8_tells_9 : decode cX8_tells 9 = .ok (.aload_n 0, 1) := by decide +kernel
theorem dX8_tells_10 : decode cX8_tells 10 = .ok (.iload_n 1, 1) := by decide +kernel
theorem dX8_tells_11 : decode cX8_tells 11 = .ok (.invokevirtual 32, 3) := by decide +kernel
theorem dX8_tells_14 : decode cX8_tells 14 = .ok (.iconst 2, 1) := by decide +kernel
theorem dX8_tells_15 : decode cX8_tells 15 = .ok (.imul, 1) := by decide +kernel
theorem dX8_tells_16 : decode cX8_tells 16 = .ok (.ireturn, 1) := by decide +kernel
theorem dX9_init_0 : decode cX9_init 0 = .ok (.aload_n 0, 1) := by decide +kernel
theorem dX9_init_1 : decode cX9_init 1 = .ok (.iload_n 1, 1) := by decide +kernel
theorem dX9_init_2 : decode cX9_init 2 = .ok (.iload_n 2, 1) := by decide +kernel
theorem dX9_init_3 : decode cX9_init 3 = .ok (.iload_n 3, 1) := by decide +kernel
theorem dX9_init_4 : decode cX9_init 4 = .ok (.aload 4, 2) := by decide +kernel
theorem dX9_init_6 : decode cX9_init 6 = .ok (.invokespecial 1, 3) := by decide +kernel
theorem dX9_init_9 : decode cX9_init 9 = .ok (.return_, 1) := by decide +kernel
theorem dX9_worthBy_0 : decode cX9_worthBy 0 = .ok (.aload_n 0, 1) := by decide +kernel
theorem dX9_worthBy_1 : decode cX9_worthBy 1 = .ok (.iload_n 1, 1) := by decide +kernel
theorem dX9_worthBy_2 : decode cX9_worthBy 2 = .ok (.iload_n 2, 1) := by decide +kernel
theorem dX9_worthBy_3 : decode cX9_worthBy 3 = .ok (.iload_n 3, 1) := by decide +kernel
theorem dX9_worthBy_4 : decode cX9_worthBy 4 = .ok (.invokespecial 7, 3) := by decide +kernel
theorem dX9_worthBy_7 : decode cX9_worthBy 7 = .ok (.iload_n 3, 1) := by decide +kernel
theorem dX9_worthBy_8 : decode cX9_worthBy 8 = .ok (.iadd, 1) := by decide +kernel
theorem dX9_worthBy_9 : decode cX9_worthBy 9 = .ok (.ireturn, 1) := by decide +kernel
theorem dX9_claims_0 : decode cX9_claims 0 = .ok (.aload_n 0, 1) := by decide +kernel
theorem dX9_claims_1 : decode cX9_claims 1 = .ok (.getfield 11, 3) := by decide +kernel
theorem dX9_claims_4 : decode cX9_claims 4 = .ok (.bipush 61, 2) := by decide +kernel
theorem dX9_claims_6 : decode cX9_claims 6 = .ok (.invokevirtual 17, 3) := by decide +kernel
theorem dX9_claims_9 : decode cX9_claims 9 = .ok (.pop, 1) := by decide +kernel
theorem dX9_claims_10 : decode cX9_claims 10 = .ok (.aload_n 0, 1) := by decide +kernel
theorem dX9_claims_11 : decode cX9_claims 11 = .ok (.iload_n 1, 1) := by decide +kernel
theorem dX9_claims_12 : decode cX9_claims 12 = .ok (.invokespecial 23, 3) := by decide +kernel
theorem dX9_claims_15 : decode cX9_claims 15 = .ok (.aload_n 0, 1) := by decide +kernel
theorem dX9_claims_16 : decode cX9_claims 16 = .ok (.getfield 26, 3) := by decide +kernel
theorem dX9_claims_19 : decode cX9_claims 19 = .ok (.iadd, 1) := by decide +kernel
theorem dX9_claims_20 : decode cX9_claims 20 = .ok (.ireturn, 1) := by decide +kernel
theorem dX10_init_0 : decode cX10_init 0 = .ok (.aload_n 0, 1) := by decide +kernel
theorem dX10_init_1 : decode cX10_init 1 = .ok (.iload_n 1, 1) := by decide +kernel
theorem dX10_init_2 : decode cX10_init 2 = .ok (.iload_n 2, 1) := by decide +kernel
theorem dX10_init_3 : decode cX10_init 3 = .ok (.iload_n 3, 1) := by decide +kernel
theorem dX10_init_4 : decode cX10_init 4 = .ok (.aload 4, 2) := by decide +kernel
theorem dX10_init_6 : decode cX10_init 6 = .ok (.invokespecial 1, 3) := by decide +kernel
theorem dX10_init_9 : decode cX10_init 9 = .ok (.return_, 1) := by decide +kernel
theorem dX10_isOver_0 : decode cX10_isOver 0 = .ok (.aload_n 0, 1) := by decide +kernel
theorem dX10_isOver_1 : decode cX10_isOver 1 = .ok (.iload_n 1, 1) := by decide +kernel
theorem dX10_isOver_2 : decode cX10_isOver 2 = .ok (.iload_n 2, 1) := by decide +kernel
theorem dX10_isOver_3 : decode cX10_isOver 3 = .ok (.iload_n 3, 1) := by decide +kernel
theorem dX10_isOver_4 : decode cX10_isOver 4 = .ok (.iload 4, 2) := by decide +kernel
theorem dX10_isOver_6 : decode cX10_isOver 6 = .ok (.invokespecial 7, 3) := by decide +kernel
theorem dX10_isOver_9 : decode cX10_isOver 9 = .ok (.ifCond .ne 16, 3) := by decide +kernel
theorem dX10_isOver_12 : decode cX10_isOver 12 = .ok (.iload_n 3, 1) := by decide +kernel
theorem dX10_isOver_13 : decode cX10_isOver 13 = .ok (.ifCond .le 16, 3) := by decide +kernel
theorem dX10_isOver_16 : decode cX10_isOver 16 = .ok (.iload_n 1, 1) := by decide +kernel
theorem dX10_isOver_17 : decode cX10_isOver 17 = .ok (.iload 4, 2) := by decide +kernel
theorem dX10_isOver_19 : decode cX10_isOver 19 = .ok (.iadd, 1) := by decide +kernel
theorem dX10_isOver_20 : decode cX10_isOver 20 = .ok (.iload_n 3, 1) := by decide +kernel
theorem dX10_isOver_21 : decode cX10_isOver 21 = .ok (.irem, 1) := by decide +kernel
theorem dX10_isOver_22 : decode cX10_isOver 22 = .ok (.ifCond .ne 7, 3) := by decide +kernel
theorem dX10_isOver_25 : decode cX10_isOver 25 = .ok (.iconst 1, 1) := by decide +kernel
theorem dX10_isOver_26 : decode cX10_isOver 26 = .ok (.goto 4, 3) := by decide +kernel
theorem dX10_isOver_29 : decode cX10_isOver 29 = .ok (.iconst 0, 1) := by decide +kernel
theorem dX10_isOver_30 : decode cX10_isOver 30 = .ok (.ireturn, 1) := by decide +kernel
theorem dX10_worthBy_0 : decode cX10_worthBy 0 = .ok (.aload_n 0, 1) := by decide +kernel
theorem dX10_worthBy_1 : decode cX10_worthBy 1 = .ok (.iload_n 1, 1) := by decide +kernel
theorem dX10_worthBy_2 : decode cX10_worthBy 2 = .ok (.iload_n 2, 1) := by decide +kernel
theorem dX10_worthBy_3 : decode cX10_worthBy 3 = .ok (.iload_n 3, 1) := by decide +kernel
theorem dX10_worthBy_4 : decode cX10_worthBy 4 = .ok (.invokespecial 11, 3) := by decide +kernel
theorem dX10_worthBy_7 : decode cX10_worthBy 7 = .ok (.iconst 2, 1) := by decide +kernel
theorem dX10_worthBy_8 : decode cX10_worthBy 8 = .ok (.imul, 1) := by decide +kernel
theorem dX10_worthBy_9 : decode cX10_worthBy 9 = .ok (.ireturn, 1) := by decide +kernel
theorem dX10_tells_0 : decode cX10_tells 0 = .ok (.aload_n 0, 1) := by decide +kernel
theorem dX10_tells_1 : decode cX10_tells 1 = .ok (.getfield 15, 3) := by decide +kernel
theorem dX10_tells_4 : decode cX10_tells 4 = .ok (.bipush 41, 2) := by decide +kernel
theorem dX10_tells_6 : decode cX10_tells 6 = .ok (.invokevirtual 21, 3) := by decide +kernel
theorem dX10_tells_9 : decode cX10_tells 9 = .ok (.pop, 1) := by decide +kernel
theorem dX10_tells_10 : decode cX10_tells 10 = .ok (.aload_n 0, 1) := by decide +kernel
theorem dX10_tells_11 : decode cX10_tells 11 = .ok (.iload_n 1, 1) := by decide +kernel
theorem dX10_tells_12 : decode cX10_tells 12 = .ok (.iconst 1, 1) := by decide +kernel
theorem dX10_tells_13 : decode cX10_tells 13 = .ok (.isub, 1) := by decide +kernel
theorem dX10_tells_14 : decode cX10_tells 14 = .ok (.invokespecial 27, 3) := by decide +kernel
theorem dX10_tells_17 : decode cX10_tells 17 = .ok (.aload_n 0, 1) := by decide +kernel
theorem dX10_tells_18 : decode cX10_tells 18 = .ok (.iconst 2, 1) := by decide +kernel
theorem dX10_tells_19 : decode cX10_tells 19 = .ok (.invokevirtual 30, 3) := by decide +kernel
theorem dX10_tells_22 : decode cX10_tells 22 = .ok (.iadd, 1) := by decide +kernel
theorem dX10_tells_23 : decode cX10_tells 23 = .ok (.ireturn, 1) := by decide +kernel
theorem dX11_init_0 : decode cX11_init 0 = .ok (.aload_n 0, 1) := by decide +kernel
theorem dX11_init_1 : decode cX11_init 1 = .ok (.invokespecial 3, 3) := by decide +kernel
theorem dX11_init_4 : decode cX11_init 4 = .ok (.aload_n 0, 1) := by decide +kernel
theorem dX11_init_5 : decode cX11_init 5 = .ok (.new 9, 3) := by decide +kernel
theorem dX11_init_8 : decode cX11_init 8 = .ok (.dup, 1) := by decide +kernel
theorem dX11_init_9 : decode cX11_init 9 = .ok (.bipush 20, 2) := by decide +kernel
theorem dX11_init_11 : decode cX11_init 11 = .ok (.iconst 1, 1) := by decide +kernel
theorem dX11_init_12 : decode cX11_init 12 = .ok (.invokespecial 13, 3) := by decide +kernel
theorem dX11_init_15 : decode cX11_init 15 = .ok (.putfield 16, 3) := by decide +kernel
theorem dX11_init_18 : decode cX11_init 18 = .ok (.aload_n 0, 1) := by decide +kernel
theorem dX11_init_19 : decode cX11_init 19 = .ok (.new 20, 3) := by decide +kernel
theorem dX11_init_22 : decode cX11_init 22 = .ok (.dup, 1) := by decide +kernel
theorem dX11_init_23 : decode cX11_init 23 = .ok (.invokespecial 22, 3) := by decide +kernel
theorem dX11_init_26 : decode cX11_init 26 = .ok (.putfield 23, 3) := by decide +kernel
theorem dX11_init_29 : decode cX11_init 29 = .ok (.aload_n 0, 1) := by decide +kernel
theorem dX11_init_30 : decode cX11_init 30 = .ok (.new 20, 3) := by decide +kernel
theorem dX11_init_33 : decode cX11_init 33 = .ok (.dup, 1) := by decide +kernel
theorem dX11_init_34 : decode cX11_init 34 = .ok (.invokespecial 22, 3) := by decide +kernel
theorem dX11_init_37 : decode cX11_init 37 = .ok (.putfield 27, 3) := by decide +kernel
theorem dX11_init_40 : decode cX11_init 40 = .ok (.aload_n 0, 1) := by decide +kernel
theorem dX11_init_41 : decode cX11_init 41 = .ok (.new 30, 3) := by decide +kernel
theorem dX11_init_44 : decode cX11_init 44 = .ok (.dup, 1) := by decide +kernel
theorem dX11_init_45 : decode cX11_init 45 = .ok (.aload_n 0, 1) := by decide +kernel
theorem dX11_init_46 : decode cX11_init 46 = .ok (.getfield 23, 3) := by decide +kernel
theorem dX11_init_49 : decode cX11_init 49 = .ok (.getfield 32, 3) := by decide +kernel
theorem dX11_init_52 : decode cX11_init 52 = .ok (.invokespecial 35, 3) := by decide +kernel
theorem dX11_init_55 : decode cX11_init 55 = .ok (.putfield 38, 3) := by decide +kernel
theorem dX11_init_58 : decode cX11_init 58 = .ok (.aload_n 0, 1) := by decide +kernel
theorem dX11_init_59 : decode cX11_init 59 = .ok (.bipush 60, 2) := by decide +kernel
theorem dX11_init_61 : decode cX11_init 61 = .ok (.newarray .int, 2) := by decide +kernel
theorem dX11_init_63 : decode cX11_init 63 = .ok (.putfield 42, 3) := by decide +kernel
theorem dX11_init_66 : decode cX11_init 66 = .ok (.aload_n 0, 1) := by decide +kernel
theorem dX11_init_67 : decode cX11_init 67 = .ok (.bipush 60, 2) := by decide +kernel
theorem dX11_init_69 : decode cX11_init 69 = .ok (.newarray .int, 2) := by decide +kernel
theorem dX11_init_71 : decode cX11_init 71 = .ok (.putfield 46, 3) := by decide +kernel
theorem dX11_init_74 : decode cX11_init 74 = .ok (.aload_n 0, 1) := by decide +kernel
theorem dX11_init_75 : decode cX11_init 75 = .ok (.iconst 0, 1) := by decide +kernel
theorem dX11_init_76 : decode cX11_init 76 = .ok (.putfield 49, 3) := by decide +kernel
theorem dX11_init_79 : decode cX11_init 79 = .ok (.return_, 1) := by decide +kernel
theorem dX11_feed_0 : decode cX11_feed 0 = .ok (.iload_n 1, 1) := by decide +kernel
theorem dX11_feed_1 : decode cX11_feed 1 = .ok (.iconst 0, 1) := by decide +kernel
theorem dX11_feed_2 : decode cX11_feed 2 = .ok (.bipush 127, 2) := by decide +kernel
theorem dX11_feed_4 : decode cX11_feed 4 = .ok (.invokestatic 53, 3) := by decide +kernel
theorem dX11_feed_7 : decode cX11_feed 7 = .ok (.ifCond .ne 6, 3) := by decide +kernel
theorem dX11_feed_10 : decode cX11_feed 10 = .ok (.bipush (-2), 2) := by decide +kernel
theorem dX11_feed_12 : decode cX11_feed 12 = .ok (.ireturn, 1) := by decide +kernel
theorem dX11_feed_13 : decode cX11_feed 13 = .ok (.aload_n 0, 1) := by decide +kernel
theorem dX11_feed_14 : decode cX11_feed 14 = .ok (.getfield 23, 3) := by decide +kernel
theorem dX11_feed_17 : decode cX11_feed 17 = .ok (.getfield 32, 3) := by decide +kernel
theorem dX11_feed_20 : decode cX11_feed 20 = .ok (.invokevirtual 57, 3) := by decide +kernel
theorem dX11_feed_23 : decode cX11_feed 23 = .ok (.ifCond .eq 8, 3) := by decide +kernel
theorem dX11_feed_26 : decode cX11_feed 26 = .ok (.bipush (-4), 2) := by decide +kernel
theorem dX11_feed_28 : decode cX11_feed 28 = .ok (.goto 14, 3) := by decide +kernel
theorem dX11_feed_31 : decode cX11_feed 31 = .ok (.aload_n 0, 1) := by decide +kernel
theorem dX11_feed_32 : decode cX11_feed 32 = .ok (.getfield 23, 3) := by decide +kernel
theorem dX11_feed_35 : decode cX11_feed 35 = .ok (.getfield 32, 3) := by decide +kernel
theorem dX11_feed_38 : decode cX11_feed 38 = .ok (.iload_n 1, 1) := by decide +kernel
theorem dX11_feed_39 : decode cX11_feed 39 = .ok (.invokevirtual 61, 3) := by decide +kernel
theorem dX11_feed_42 : decode cX11_feed 42 = .ok (.ireturn, 1) := by decide +kernel
theorem dX11_sky_0 : decode cX11_sky 0 = .ok (.aload_n 0, 1) := by decide +kernel
theorem dX11_sky_1 : decode cX11_sky 1 = .ok (.getfield 23, 3) := by decide +kernel
theorem dX11_sky_4 : decode cX11_sky 4 = .ok (.getfield 65, 3) := by decide +kernel
theorem dX11_sky_7 : decode cX11_sky 7 = .ok (.iconst 5, 1) := by decide +kernel
theorem dX11_sky_8 : decode cX11_sky 8 = .ok (.if_icmp .lt 6, 3) := by decide +kernel
theorem dX11_sky_11 : decode cX11_sky 11 = .ok (.bipush (-4), 2) := by decide +kernel
theorem dX11_sky_13 : decode cX11_sky 13 = .ok (.ireturn, 1) := by decide +kernel
theorem dX11_sky_14 : decode cX11_sky 14 = .ok (.aload_n 0, 1) := by decide +kernel
theorem dX11_sky_15 : decode cX11_sky 15 = .ok (.getfield 38, 3) := by decide +kernel
theorem dX11_sky_18 : decode cX11_sky 18 = .ok (.invokevirtual 69, 3) := by decide +kernel
theorem dX11_sky_21 : decode cX11_sky 21 = .ok (.istore_n 1, 1) := by decide +kernel
theorem dX11_sky_22 : decode cX11_sky 22 = .ok (.aload_n 0, 1) := by decide +kernel
theorem dX11_sky_23 : decode cX11_sky 23 = .ok (.getfield 23, 3) := by decide +kernel
theorem dX11_sky_26 : decode cX11_sky 26 = .ok (.getfield 32, 3) := by decide +kernel
theorem dX11_sky_29 : decode cX11_sky 29 = .ok (.invokevirtual 73, 3) := by decide +kernel
theorem dX11_sky_32 : decode cX11_sky 32 = .ok (.pop, 1) := by decide +kernel
theorem dX11_sky_33 : decode cX11_sky 33 = .ok (.iload_n 1, 1) := by decide +kernel
theorem dX11_sky_34 : decode cX11_sky 34 = .ok (.ifCond .lt 8, 3) := by decide +kernel
theorem dX11_sky_37 : decode cX11_sky 37 = .ok (.bipush (-10), 2) := by decide +kernel
theorem dX11_sky_39 : decode cX11_sky 39 = .ok (.iload_n 1, 1) := by decide +kernel
theorem dX11_sky_40 : decode cX11_sky 40 = .ok (.isub, 1) := by decide +kernel
theorem dX11_sky_41 : decode cX11_sky 41 = .ok (.ireturn, 1) := by decide +kernel
theorem dX11_sky_42 : decode cX11_sky 42 = .ok (.aload_n 0, 1) := by decide +kernel
theorem dX11_sky_43 : decode cX11_sky 43 = .ok (.getfield 23, 3) := by decide +kernel
theorem dX11_sky_46 : decode cX11_sky 46 = .ok (.getfield 76, 3) := by decide +kernel
theorem dX11_sky_49 : decode cX11_sky 49 = .ok (.aload_n 0, 1) := by decide +kernel
theorem dX11_sky_50 : decode cX11_sky 50 = .ok (.getfield 38, 3) := by decide +kernel
theorem dX11_sky_53 : decode cX11_sky 53 = .ok (.getfield 80, 3) := by decide +kernel
theorem dX11_sky_56 : decode cX11_sky 56 = .ok (.invokevirtual 81, 3) := by decide +kernel
theorem dX11_sky_59 : decode cX11_sky 59 = .ok (.aload_n 0, 1) := by decide +kernel
theorem dX11_sky_60 : decode cX11_sky 60 = .ok (.getfield 23, 3) := by decide +kernel
theorem dX11_sky_63 : decode cX11_sky 63 = .ok (.dup, 1) := by decide +kernel
theorem dX11_sky_64 : decode cX11_sky 64 = .ok (.getfield 65, 3) := by decide +kernel
theorem dX11_sky_67 : decode cX11_sky 67 = .ok (.iconst 1, 1) := by decide +kernel
theorem dX11_sky_68 : decode cX11_sky 68 = .ok (.iadd, 1) := by decide +kernel
theorem dX11_sky_69 : decode cX11_sky 69 = .ok (.putfield 65, 3) := by decide +kernel
theorem dX11_sky_72 : decode cX11_sky 72 = .ok (.aload_n 0, 1) := by decide +kernel
theorem dX11_sky_73 : decode cX11_sky 73 = .ok (.getfield 23, 3) := by decide +kernel
theorem dX11_sky_76 : decode cX11_sky 76 = .ok (.getfield 65, 3) := by decide +kernel
theorem dX11_sky_79 : decode cX11_sky 79 = .ok (.iconst 1, 1) := by decide +kernel
theorem dX11_sky_80 : decode cX11_sky 80 = .ok (.isub, 1) := by decide +kernel
theorem dX11_sky_81 : decode cX11_sky 81 = .ok (.ireturn, 1) := by decide +kernel
theorem dX11_light_0 : decode cX11_light 0 = .ok (.iload_n 1, 1) := by decide +kernel
theorem dX11_light_1 : decode cX11_light 1 = .ok (.iconst 0, 1) := by decide +kernel
theorem dX11_light_2 : decode cX11_light 2 = .ok (.bipush 6, 2) := by decide +kernel
theorem dX11_light_4 : decode cX11_light 4 = .ok (.invokestatic 53, 3) := by decide +kernel
theorem dX11_light_7 : decode cX11_light 7 = .ok (.ifCond .ne 5, 3) := by decide +kernel
theorem dX11_light_10 : decode cX11_light 10 = .ok (.iconst (-1), 1) := by decide +kernel
theorem dX11_light_11 : decode cX11_light 11 = .ok (.ireturn, 1) := by decide +kernel
theorem dX11_light_12 : decode cX11_light 12 = .ok (.iload_n 2, 1) := by decide +kernel
theorem dX11_light_13 : decode cX11_light 13 = .ok (.iconst 0, 1) := by decide +kernel
theorem dX11_light_14 : decode cX11_light 14 = .ok (.bipush 9, 2) := by decide +kernel
theorem dX11_light_16 : decode cX11_light 16 = .ok (.invokestatic 53, 3) := by decide +kernel
theorem dX11_light_19 : decode cX11_light 19 = .ok (.ifCond .eq 24, 3) := by decide +kernel
theorem dX11_light_22 : decode cX11_light 22 = .ok (.iload_n 3, 1) := by decide +kernel
theorem dX11_light_23 : decode cX11_light 23 = .ok (.iconst 1, 1) := by decide +kernel
theorem dX11_light_24 : decode cX11_light 24 = .ok (.bipush 30, 2) := by decide +kernel
theorem dX11_light_26 : decode cX11_light 26 = .ok (.invokestatic 53, 3) := by decide +kernel
theorem dX11_light_29 : decode cX11_light 29 = .ok (.ifCond .eq 14, 3) := by decide +kernel
theorem dX11_light_32 : decode cX11_light 32 = .ok (.iload 4, 2) := by decide +kernel
theorem dX11_light_34 : decode cX11_light 34 = .ok (.iconst 0, 1) := by decide +kernel
theorem dX11_light_35 : decode cX11_light 35 = .ok (.bipush 29, 2) := by decide +kernel
theorem dX11_light_37 : decode cX11_light 37 = .ok (.invokestatic 53, 3) := by decide +kernel
theorem dX11_light_40 : decode cX11_light 40 = .ok (.ifCond .ne 6, 3) := by decide +kernel
theorem dX11_light_43 : decode cX11_light 43 = .ok (.bipush (-2), 2) := by decide +kernel
theorem dX11_light_45 : decode cX11_light 45 = .ok (.ireturn, 1) := by decide +kernel
theorem dX11_light_46 : decode cX11_light 46 = .ok (.aload_n 0, 1) := by decide +kernel
theorem dX11_light_47 : decode cX11_light 47 = .ok (.getfield 23, 3) := by decide +kernel
theorem dX11_light_50 : decode cX11_light 50 = .ok (.getfield 87, 3) := by decide +kernel
theorem dX11_light_53 : decode cX11_light 53 = .ok (.bipush 6, 2) := by decide +kernel
theorem dX11_light_55 : decode cX11_light 55 = .ok (.if_icmp .lt 6, 3) := by decide +kernel
theorem dX11_light_58 : decode cX11_light 58 = .ok (.bipush (-4), 2) := by decide +kernel
theorem dX11_light_60 : decode cX11_light 60 = .ok (.ireturn, 1) := by decide +kernel
theorem dX11_light_61 : decode cX11_light 61 = .ok (.aload_n 0, 1) := by decide +kernel
theorem dX11_light_62 : decode cX11_light 62 = .ok (.getfield 23, 3) := by decide +kernel
theorem dX11_light_65 : decode cX11_light 65 = .ok (.aload_n 0, 1) := by decide +kernel
theorem dX11_light_66 : decode cX11_light 66 = .ok (.iload_n 1, 1) := by decide +kernel
theorem dX11_light_67 : decode cX11_light 67 = .ok (.aload_n 0, 1) := by decide +kernel
theorem dX11_light_68 : decode cX11_light 68 = .ok (.getfield 23, 3) := by decide +kernel
theorem dX11_light_71 : decode cX11_light 71 = .ok (.getfield 87, 3) := by decide +kernel
theorem dX11_light_74 : decode cX11_light 74 = .ok (.iload_n 2, 1) := by decide +kernel
theorem dX11_light_75 : decode cX11_light 75 = .ok (.invokevirtual 90, 3) := by decide +kernel
theorem dX11_light_78 : decode cX11_light 78 = .ok (.iload_n 3, 1) := by decide +kernel
theorem dX11_light_79 : decode cX11_light 79 = .ok (.iload 4, 2) := by decide +kernel
theorem dX11_light_81 : decode cX11_light 81 = .ok (.invokevirtual 94, 3) := by decide +kernel
theorem dX11_light_84 : decode cX11_light 84 = .ok (.aload_n 0, 1) := by decide +kernel
theorem dX11_light_85 : decode cX11_light 85 = .ok (.getfield 23, 3) := by decide +kernel
theorem dX11_light_88 : decode cX11_light 88 = .ok (.getfield 87, 3) := by decide +kernel
theorem dX11_light_91 : decode cX11_light 91 = .ok (.iconst 1, 1) := by decide +kernel
theorem dX11_light_92 : decode cX11_light 92 = .ok (.isub, 1) := by decide +kernel
theorem dX11_light_93 : decode cX11_light 93 = .ok (.ireturn, 1) := by decide +kernel
theorem dX11_of_0 : decode cX11_of 0 = .ok (.aload_n 0, 1) := by decide +kernel
theorem dX11_of_1 : decode cX11_of 1 = .ok (.getfield 23, 3) := by decide +kernel
theorem dX11_of_4 : decode cX11_of 4 = .ok (.iload_n 1, 1) := by decide +kernel
theorem dX11_of_5 : decode cX11_of 5 = .ok (.invokevirtual 98, 3) := by decide +kernel
theorem dX11_of_8 : decode cX11_of 8 = .ok (.astore_n 3, 1) := by decide +kernel
theorem dX11_of_9 : decode cX11_of 9 = .ok (.aload_n 3, 1) := by decide +kernel
theorem dX11_of_10 : decode cX11_of 10 = .ok (.ifnonnull 5, 3) := by decide +kernel
theorem dX11_of_13 : decode cX11_of 13 = .ok (.iconst (-1), 1) := by decide +kernel
theorem dX11_of_14 : decode cX11_of 14 = .ok (.ireturn, 1) := by decide +kernel
theorem dX11_of_15 : decode cX11_of 15 = .ok (.iload_n 2, 1) := by decide +kernel
theorem dX11_of_16 : decode cX11_of 16 = .ok (.tableswitch 117 0 5 #[40, 45, 50, 62, 74, 86], 40) := by decide +kernel
theorem dX11_of_56 : decode cX11_of 56 = .ok (.aload_n 3, 1) := by decide +kernel
theorem dX11_of_57 : decode cX11_of 57 = .ok (.getfield 102, 3) := by decide +kernel
theorem dX11_of_60 : decode cX11_of 60 = .ok (.ireturn, 1) := by decide +kernel
theorem dX11_of_61 : decode cX11_of 61 = .ok (.aload_n 3, 1) := by decide +kernel
theorem dX11_of_62 : decode cX11_of 62 = .ok (.getfield 107, 3) := by decide +kernel
theorem dX11_of_65 : decode cX11_of 65 = .ok (.ireturn, 1) := by decide +kernel
theorem dX11_of_66 : decode cX11_of 66 = .ok (.aload_n 0, 1) := by decide +kernel
theorem dX11_of_67 : decode cX11_of 67 = .ok (.getfield 23, 3) := by decide +kernel
theorem dX11_of_70 : decode cX11_of 70 = .ok (.getfield 110, 3) := by decide +kernel
theorem dX11_of_73 : decode cX11_of 73 = .ok (.iload_n 1, 1) := by decide +kernel
theorem dX11_of_74 : decode cX11_of 74 = .ok (.invokestatic 113, 3) := by decide +kernel
theorem dX11_of_77 : decode cX11_of 77 = .ok (.ireturn, 1) := by decide +kernel
theorem dX11_of_78 : decode cX11_of 78 = .ok (.aload_n 0, 1) := by decide +kernel
theorem dX11_of_79 : decode cX11_of 79 = .ok (.getfield 23, 3) := by decide +kernel
theorem dX11_of_82 : decode cX11_of 82 = .ok (.getfield 117, 3) := by decide +kernel
theorem dX11_of_85 : decode cX11_of 85 = .ok (.iload_n 1, 1) := by decide +kernel
theorem dX11_of_86 : decode cX11_of 86 = .ok (.invokestatic 113, 3) := by decide +kernel
theorem dX11_of_89 : decode cX11_of 89 = .ok (.ireturn, 1) := by decide +kernel
theorem dX11_of_90 : decode cX11_of 90 = .ok (.aload_n 0, 1) := by decide +kernel
theorem dX11_of_91 : decode cX11_of 91 = .ok (.getfield 23, 3) := by decide +kernel
theorem dX11_of_94 : decode cX11_of 94 = .ok (.getfield 120, 3) := by decide +kernel
theorem dX11_of_97 : decode cX11_of 97 = .ok (.iload_n 1, 1) := by decide +kernel
theorem dX11_of_98 : decode cX11_of 98 = .ok (.invokestatic 123, 3) := by decide +kernel
theorem dX11_of_101 : decode cX11_of 101 = .ok (.ireturn, 1) := by decide +kernel
theorem dX11_of_102 : decode cX11_of 102 = .ok (.aload_n 0, 1) := by decide +kernel
theorem dX11_of_103 : decode cX11_of 103 = .ok (.getfield 23, 3) := by decide +kernel
theorem dX11_of_106 : decode cX11_of 106 = .ok (.iload_n 1, 1) := by decide +kernel
theorem dX11_of_107 : decode cX11_of 107 = .ok (.aload_n 0, 1) := by decide +kernel
theorem dX11_of_108 : decode cX11_of 108 = .ok (.getfield 23, 3) := by decide +kernel
theorem dX11_of_111 : decode cX11_of 111 = .ok (.getfield 127, 3) := by decide +kernel
theorem dX11_of_114 : decode cX11_of 114 = .ok (.aload_n 0, 1) := by decide +kernel
theorem dX11_of_115 : decode cX11_of 115 = .ok (.getfield 23, 3) := by decide +kernel
theorem dX11_of_118 : decode cX11_of 118 = .ok (.getfield 120, 3) := by decide +kernel
theorem dX11_of_121 : decode cX11_of 121 = .ok (.invokevirtual 130, 3) := by decide +kernel
theorem dX11_of_124 : decode cX11_of 124 = .ok (.ifCond .eq 7, 3) := by decide +kernel
theorem dX11_of_127 : decode cX11_of 127 = .ok (.iconst 1, 1) := by decide +kernel
theorem dX11_of_128 : decode cX11_of 128 = .ok (.goto 4, 3) := by decide +kernel
theorem dX11_of_131 : decode cX11_of 131 = .ok (.iconst 0, 1) := by decide +kernel
theorem dX11_of_132 : decode cX11_of 132 = .ok (.ireturn, 1) := by decide +kernel
theorem dX11_of_133 : decode cX11_of 133 = .ok (.iconst (-1), 1) := by decide +kernel
theorem dX11_of_134 : decode cX11_of 134 = .ok (.ireturn, 1) := by decide +kernel
theorem dX11_base_0 : decode cX11_base 0 = .ok (.aload_n 0, 1) := by decide +kernel
theorem dX11_base_1 : decode cX11_base 1 = .ok (.getfield 23, 3) := by decide +kernel
theorem dX11_base_4 : decode cX11_base 4 = .ok (.iload_n 1, 1) := by decide +kernel
theorem dX11_base_5 : decode cX11_base 5 = .ok (.invokevirtual 98, 3) := by decide +kernel
theorem dX11_base_8 : decode cX11_base 8 = .ok (.astore 4, 2) := by decide +kernel
theorem dX11_base_10 : decode cX11_base 10 = .ok (.aload 4, 2) := by decide +kernel
theorem dX11_base_12 : decode cX11_base 12 = .ok (.ifnull 22, 3) := by decide +kernel
theorem dX11_base_15 : decode cX11_base 15 = .ok (.iload_n 2, 1) := by decide +kernel
theorem dX11_base_16 : decode cX11_base 16 = .ok (.iconst 0, 1) := by decide +kernel
theorem dX11_base_17 : decode cX11_base 17 = .ok (.iconst 1, 1) := by decide +kernel
theorem dX11_base_18 : decode cX11_base 18 = .ok (.invokestatic 53, 3) := by decide +kernel
theorem dX11_base_21 : decode cX11_base 21 = .ok (.ifCond .eq 13, 3) := by decide +kernel
theorem dX11_base_24 : decode cX11_base 24 = .ok (.iload_n 3, 1) := by decide +kernel
theorem dX11_base_25 : decode cX11_base 25 = .ok (.iconst 0, 1) := by decide +kernel
theorem dX11_base_26 : decode cX11_base 26 = .ok (.bipush 60, 2) := by decide +kernel
theorem dX11_base_28 : decode cX11_base 28 = .ok (.invokestatic 53, 3) := by decide +kernel
theorem dX11_base_31 : decode cX11_base 31 = .ok (.ifCond .ne 6, 3) := by decide +kernel
theorem dX11_base_34 : decode cX11_base 34 = .ok (.ldc 133, 2) := by decide +kernel
theorem dX11_base_36 : decode cX11_base 36 = .ok (.ireturn, 1) := by decide +kernel
theorem dX11_base_37 : decode cX11_base 37 = .ok (.aload_n 0, 1) := by decide +kernel
theorem dX11_base_38 : decode cX11_base 38 = .ok (.getfield 23, 3) := by decide +kernel
theorem dX11_base_41 : decode cX11_base 41 = .ok (.getfield 76, 3) := by decide +kernel
theorem dX11_base_44 : decode cX11_base 44 = .ok (.aload 4, 2) := by decide +kernel
theorem dX11_base_46 : decode cX11_base 46 = .ok (.iload_n 2, 1) := by decide +kernel
theorem dX11_base_47 : decode cX11_base 47 = .ok (.aload_n 0, 1) := by decide +kernel
theorem dX11_base_48 : decode cX11_base 48 = .ok (.getfield 23, 3) := by decide +kernel
theorem dX11_base_51 : decode cX11_base 51 = .ok (.getfield 127, 3) := by decide +kernel
theorem dX11_base_54 : decode cX11_base 54 = .ok (.iload_n 3, 1) := by decide +kernel
theorem dX11_base_55 : decode cX11_base 55 = .ok (.iadd, 1) := by decide +kernel
theorem dX11_base_56 : decode cX11_base 56 = .ok (.invokevirtual 134, 3) := by decide +kernel
theorem dX11_base_59 : decode cX11_base 59 = .ok (.ireturn, 1) := by decide +kernel
theorem dX11_worth_0 : decode cX11_worth 0 = .ok (.aload_n 0, 1) := by decide +kernel
theorem dX11_worth_1 : decode cX11_worth 1 = .ok (.getfield 23, 3) := by decide +kernel
theorem dX11_worth_4 : decode cX11_worth 4 = .ok (.iload_n 1, 1) := by decide +kernel
theorem dX11_worth_5 : decode cX11_worth 5 = .ok (.invokevirtual 98, 3) := by decide +kernel
theorem dX11_worth_8 : decode cX11_worth 8 = .ok (.astore 4, 2) := by decide +kernel
theorem dX11_worth_10 : decode cX11_worth 10 = .ok (.aload 4, 2) := by decide +kernel
theorem dX11_worth_12 : decode cX11_worth 12 = .ok (.ifnull 12, 3) := by decide +kernel
theorem dX11_worth_15 : decode cX11_worth 15 = .ok (.iload_n 2, 1) := by decide +kernel
theorem dX11_worth_16 : decode cX11_worth 16 = .ok (.iconst 0, 1) := by decide +kernel
theorem dX11_worth_17 : decode cX11_worth 17 = .ok (.iconst 1, 1) := by decide +kernel
theorem dX11_worth_18 : decode cX11_worth 18 = .ok (.invokestatic 53, 3) := by decide +kernel
theorem dX11_worth_21 : decode cX11_worth 21 = .ok (.ifCond .ne 5, 3) := by decide +kernel
theorem dX11_worth_24 : decode cX11_worth 24 = .ok (.iconst (-1), 1) := by decide +kernel
theorem dX11_worth_25 : decode cX11_worth 25 = .ok (.ireturn, 1) := by decide +kernel
theorem dX11_worth_26 : decode cX11_worth 26 = .ok (.iload_n 3, 1) := by decide +kernel
theorem dX11_worth_27 : decode cX11_worth 27 = .ok (.iconst 0, 1) := by decide +kernel
theorem dX11_worth_28 : decode cX11_worth 28 = .ok (.bipush 60, 2) := by decide +kernel
theorem dX11_worth_30 : decode cX11_worth 30 = .ok (.invokestatic 53, 3) := by decide +kernel
theorem dX11_worth_33 : decode cX11_worth 33 = .ok (.ifCond .eq 25, 3) := by decide +kernel
theorem dX11_worth_36 : decode cX11_worth 36 = .ok (.aload_n 0, 1) := by decide +kernel
theorem dX11_worth_37 : decode cX11_worth 37 = .ok (.getfield 23, 3) := by decide +kernel
theorem dX11_worth_40 : decode cX11_worth 40 = .ok (.aload 4, 2) := by decide +kernel
theorem dX11_worth_42 : decode cX11_worth 42 = .ok (.iload_n 2, 1) := by decide +kernel
theorem dX11_worth_43 : decode cX11_worth 43 = .ok (.aload_n 0, 1) := by decide +kernel
theorem dX11_worth_44 : decode cX11_worth 44 = .ok (.getfield 23, 3) := by decide +kernel
theorem dX11_worth_47 : decode cX11_worth 47 = .ok (.getfield 127, 3) := by decide +kernel
theorem dX11_worth_50 : decode cX11_worth 50 = .ok (.iload_n 3, 1) := by decide +kernel
theorem dX11_worth_51 : decode cX11_worth 51 = .ok (.iadd, 1) := by decide +kernel
theorem dX11_worth_52 : decode cX11_worth 52 = .ok (.invokevirtual 138, 3) := by decide +kernel
theorem dX11_worth_55 : decode cX11_worth 55 = .ok (.goto 5, 3) := by decide +kernel
theorem dX11_worth_58 : decode cX11_worth 58 = .ok (.bipush (-2), 2) := by decide +kernel
theorem dX11_worth_60 : decode cX11_worth 60 = .ok (.ireturn, 1) := by decide +kernel
theorem dX11_row_0 : decode cX11_row 0 = .ok (.aload_n 0, 1) := by decide +kernel
theorem dX11_row_1 : decode cX11_row 1 = .ok (.getfield 23, 3) := by decide +kernel
theorem dX11_row_4 : decode cX11_row 4 = .ok (.iload_n 1, 1) := by decide +kernel
theorem dX11_row_5 : decode cX11_row 5 = .ok (.invokevirtual 98, 3) := by decide +kernel
theorem dX11_row_8 : decode cX11_row 8 = .ok (.astore 4, 2) := by decide +kernel
theorem dX11_row_10 : decode cX11_row 10 = .ok (.aload 4, 2) := by decide +kernel
theorem dX11_row_12 : decode cX11_row 12 = .ok (.ifnull 12, 3) := by decide +kernel
theorem dX11_row_15 : decode cX11_row 15 = .ok (.iload_n 2, 1) := by decide +kernel
theorem dX11_row_16 : decode cX11_row 16 = .ok (.iconst 0, 1) := by decide +kernel
theorem dX11_row_17 : decode cX11_row 17 = .ok (.iconst 3, 1) := by decide +kernel
theorem dX11_row_18 : decode cX11_row 18 = .ok (.invokestatic 53, 3) := by decide +kernel
theorem dX11_row_21 : decode cX11_row 21 = .ok (.ifCond .ne 5, 3) := by decide +kernel
theorem dX11_row_24 : decode cX11_row 24 = .ok (.iconst (-1), 1) := by decide +kernel
theorem dX11_row_25 : decode cX11_row 25 = .ok (.ireturn, 1) := by decide +kernel
theorem dX11_row_26 : decode cX11_row 26 = .ok (.iload_n 3, 1) := by decide +kernel
theorem dX11_row_27 : decode cX11_row 27 = .ok (.iconst 0, 1) := by decide +kernel
theorem dX11_row_28 : decode cX11_row 28 = .ok (.bipush 9, 2) := by decide +kernel
theorem dX11_row_30 : decode cX11_row 30 = .ok (.invokestatic 53, 3) := by decide +kernel
theorem dX11_row_33 : decode cX11_row 33 = .ok (.ifCond .ne 6, 3) := by decide +kernel
theorem dX11_row_36 : decode cX11_row 36 = .ok (.bipush (-2), 2) := by decide +kernel
theorem dX11_row_38 : decode cX11_row 38 = .ok (.ireturn, 1) := by decide +kernel
theorem dX11_row_39 : decode cX11_row 39 = .ok (.aload 4, 2) := by decide +kernel
theorem dX11_row_41 : decode cX11_row 41 = .ok (.getfield 102, 3) := by decide +kernel
theorem dX11_row_44 : decode cX11_row 44 = .ok (.bipush 6, 2) := by decide +kernel
theorem dX11_row_46 : decode cX11_row 46 = .ok (.if_icmp .ne 22, 3) := by decide +kernel
theorem dX11_row_49 : decode cX11_row 49 = .ok (.aload_n 0, 1) := by decide +kernel
theorem dX11_row_50 : decode cX11_row 50 = .ok (.getfield 23, 3) := by decide +kernel
theorem dX11_row_53 : decode cX11_row 53 = .ok (.getfield 141, 3) := by decide +kernel
theorem dX11_row_56 : decode cX11_row 56 = .ok (.iload_n 1, 1) := by decide +kernel
theorem dX11_row_57 : decode cX11_row 57 = .ok (.iconst 4, 1) := by decide +kernel
theorem dX11_row_58 : decode cX11_row 58 = .ok (.imul, 1) := by decide +kernel
theorem dX11_row_59 : decode cX11_row 59 = .ok (.iload_n 2, 1) := by decide +kernel
theorem dX11_row_60 : decode cX11_row 60 = .ok (.iadd, 1) := by decide +kernel
theorem dX11_row_61 : decode cX11_row 61 = .ok (.iload_n 3, 1) := by decide +kernel
theorem dX11_row_62 : decode cX11_row 62 = .ok (.invokestatic 144, 3) := by decide +kernel
theorem dX11_row_65 : decode cX11_row 65 = .ok (.goto 5, 3) := by decide +kernel
theorem dX11_row_68 : decode cX11_row 68 = .ok (.bipush (-3), 2) := by decide +kernel
theorem dX11_row_70 : decode cX11_row 70 = .ok (.ireturn, 1) := by decide +kernel
theorem dX11_set_0 : decode cX11_set 0 = .ok (.aload_n 0, 1) := by decide +kernel
theorem dX11_set_1 : decode cX11_set 1 = .ok (.getfield 23, 3) := by decide +kernel
theorem dX11_set_4 : decode cX11_set 4 = .ok (.iload_n 1, 1) := by decide +kernel
theorem dX11_set_5 : decode cX11_set 5 = .ok (.invokevirtual 98, 3) := by decide +kernel
theorem dX11_set_8 : decode cX11_set 8 = .ok (.ifnull 12, 3) := by decide +kernel
theorem dX11_set_11 : decode cX11_set 11 = .ok (.iload_n 2, 1) := by decide +kernel
theorem dX11_set_12 : decode cX11_set 12 = .ok (.iconst 0, 1) := by decide +kernel
theorem dX11_set_13 : decode cX11_set 13 = .ok (.iconst 1, 1) := by decide +kernel
theorem dX11_set_14 : decode cX11_set 14 = .ok (.invokestatic 53, 3) := by decide +kernel
theorem dX11_set_17 : decode cX11_set 17 = .ok (.ifCond .ne 5, 3) := by decide +kernel
theorem dX11_set_20 : decode cX11_set 20 = .ok (.iconst (-1), 1) := by decide +kernel
theorem dX11_set_21 : decode cX11_set 21 = .ok (.ireturn, 1) := by decide +kernel
theorem dX11_set_22 : decode cX11_set 22 = .ok (.iload_n 2, 1) := by decide +kernel
theorem dX11_set_23 : decode cX11_set 23 = .ok (.ifCond .ne 31, 3) := by decide +kernel
theorem dX11_set_26 : decode cX11_set 26 = .ok (.iload_n 3, 1) := by decide +kernel
theorem dX11_set_27 : decode cX11_set 27 = .ok (.iconst 1, 1) := by decide +kernel
theorem dX11_set_28 : decode cX11_set 28 = .ok (.bipush 30, 2) := by decide +kernel
theorem dX11_set_30 : decode cX11_set 30 = .ok (.invokestatic 53, 3) := by decide +kernel
theorem dX11_set_33 : decode cX11_set 33 = .ok (.ifCond .eq 18, 3) := by decide +kernel
theorem dX11_set_36 : decode cX11_set 36 = .ok (.aload_n 0, 1) := by decide +kernel
theorem dX11_set_37 : decode cX11_set 37 = .ok (.getfield 23, 3) := by decide +kernel
theorem dX11_set_40 : decode cX11_set 40 = .ok (.getfield 110, 3) := by decide +kernel
theorem dX11_set_43 : decode cX11_set 43 = .ok (.iload_n 1, 1) := by decide +kernel
theorem dX11_set_44 : decode cX11_set 44 = .ok (.iload_n 3, 1) := by decide +kernel
theorem dX11_set_45 : decode cX11_set 45 = .ok (.invokestatic 144, 3) := by decide +kernel
theorem dX11_set_48 : decode cX11_set 48 = .ok (.goto 5, 3) := by decide +kernel
theorem dX11_set_51 : decode cX11_set 51 = .ok (.bipush (-2), 2) := by decide +kernel
theorem dX11_set_53 : decode cX11_set 53 = .ok (.ireturn, 1) := by decide +kernel
theorem dX11_set_54 : decode cX11_set 54 = .ok (.iload_n 3, 1) := by decide +kernel
theorem dX11_set_55 : decode cX11_set 55 = .ok (.iconst 0, 1) := by decide +kernel
theorem dX11_set_56 : decode cX11_set 56 = .ok (.bipush 29, 2) := by decide +kernel
theorem dX11_set_58 : decode cX11_set 58 = .ok (.invokestatic 53, 3) := by decide +kernel
theorem dX11_set_61 : decode cX11_set 61 = .ok (.ifCond .eq 18, 3) := by decide +kernel
theorem dX11_set_64 : decode cX11_set 64 = .ok (.aload_n 0, 1) := by decide +kernel
theorem dX11_set_65 : decode cX11_set 65 = .ok (.getfield 23, 3) := by decide +kernel
theorem dX11_set_68 : decode cX11_set 68 = .ok (.getfield 117, 3) := by decide +kernel
theorem dX11_set_71 : decode cX11_set 71 = .ok (.iload_n 1, 1) := by decide +kernel
theorem dX11_set_72 : decode cX11_set 72 = .ok (.iload_n 3, 1) := by decide +kernel
theorem dX11_set_73 : decode cX11_set 73 = .ok (.invokestatic 144, 3) := by decide +kernel
theorem dX11_set_76 : decode cX11_set 76 = .ok (.goto 5, 3) := by decide +kernel
theorem dX11_set_79 : decode cX11_set 79 = .ok (.bipush (-2), 2) := by decide +kernel
theorem dX11_set_81 : decode cX11_set 81 = .ok (.ireturn, 1) := by decide +kernel
theorem dX11_hide_0 : decode cX11_hide 0 = .ok (.aload_n 0, 1) := by decide +kernel
theorem dX11_hide_1 : decode cX11_hide 1 = .ok (.getfield 23, 3) := by decide +kernel
theorem dX11_hide_4 : decode cX11_hide 4 = .ok (.iload_n 1, 1) := by decide +kernel
theorem dX11_hide_5 : decode cX11_hide 5 = .ok (.invokevirtual 98, 3) := by decide +kernel
theorem dX11_hide_8 : decode cX11_hide 8 = .ok (.ifnonnull 5, 3) := by decide +kernel
theorem dX11_hide_11 : decode cX11_hide 11 = .ok (.iconst (-1), 1) := by decide +kernel
theorem dX11_hide_12 : decode cX11_hide 12 = .ok (.ireturn, 1) := by decide +kernel
theorem dX11_hide_13 : decode cX11_hide 13 = .ok (.aload_n 0, 1) := by decide +kernel
theorem dX11_hide_14 : decode cX11_hide 14 = .ok (.getfield 23, 3) := by decide +kernel
theorem dX11_hide_17 : decode cX11_hide 17 = .ok (.getfield 120, 3) := by decide +kernel
theorem dX11_hide_20 : decode cX11_hide 20 = .ok (.iload_n 1, 1) := by decide +kernel
theorem dX11_hide_21 : decode cX11_hide 21 = .ok (.invokestatic 123, 3) := by decide +kernel
theorem dX11_hide_24 : decode cX11_hide 24 = .ok (.istore_n 3, 1) := by decide +kernel
theorem dX11_hide_25 : decode cX11_hide 25 = .ok (.aload_n 0, 1) := by decide +kernel
theorem dX11_hide_26 : decode cX11_hide 26 = .ok (.getfield 23, 3) := by decide +kernel
theorem dX11_hide_29 : decode cX11_hide 29 = .ok (.aload_n 0, 1) := by decide +kernel
theorem dX11_hide_30 : decode cX11_hide 30 = .ok (.getfield 23, 3) := by decide +kernel
theorem dX11_hide_33 : decode cX11_hide 33 = .ok (.getfield 120, 3) := by decide +kernel
theorem dX11_hide_36 : decode cX11_hide 36 = .ok (.iload_n 1, 1) := by decide +kernel
theorem dX11_hide_37 : decode cX11_hide 37 = .ok (.iload_n 2, 1) := by decide +kernel
theorem dX11_hide_38 : decode cX11_hide 38 = .ok (.invokestatic 148, 3) := by decide +kernel
theorem dX11_hide_41 : decode cX11_hide 41 = .ok (.putfield 120, 3) := by decide +kernel
theorem dX11_hide_44 : decode cX11_hide 44 = .ok (.iload_n 3, 1) := by decide +kernel
theorem dX11_hide_45 : decode cX11_hide 45 = .ok (.ireturn, 1) := by decide +kernel
theorem dX11_told_0 : decode cX11_told 0 = .ok (.iload_n 1, 1) := by decide +kernel
theorem dX11_told_1 : decode cX11_told 1 = .ok (.tableswitch 195 0 9 #[55, 63, 74, 85, 100, 129, 144, 144, 159, 159], 55) := by decide +kernel
theorem dX11_told_56 : decode cX11_told 56 = .ok (.aload_n 0, 1) := by decide +kernel
theorem dX11_told_57 : decode cX11_told 57 = .ok (.getfield 23, 3) := by decide +kernel
theorem dX11_told_60 : decode cX11_told 60 = .ok (.getfield 127, 3) := by decide +kernel
theorem dX11_told_63 : decode cX11_told 63 = .ok (.ireturn, 1) := by decide +kernel
theorem dX11_told_64 : decode cX11_told 64 = .ok (.aload_n 0, 1) := by decide +kernel
theorem dX11_told_65 : decode cX11_told 65 = .ok (.getfield 23, 3) := by decide +kernel
theorem dX11_told_68 : decode cX11_told 68 = .ok (.getfield 76, 3) := by decide +kernel
theorem dX11_told_71 : decode cX11_told 71 = .ok (.getfield 152, 3) := by decide +kernel
theorem dX11_told_74 : decode cX11_told 74 = .ok (.ireturn, 1) := by decide +kernel
theorem dX11_told_75 : decode cX11_told 75 = .ok (.aload_n 0, 1) := by decide +kernel
theorem dX11_told_76 : decode cX11_told 76 = .ok (.getfield 23, 3) := by decide +kernel
theorem dX11_told_79 : decode cX11_told 79 = .ok (.getfield 76, 3) := by decide +kernel
theorem dX11_told_82 : decode cX11_told 82 = .ok (.getfield 155, 3) := by decide +kernel
theorem dX11_told_85 : decode cX11_told 85 = .ok (.ireturn, 1) := by decide +kernel
theorem dX11_told_86 : decode cX11_told 86 = .ok (.aload_n 0, 1) := by decide +kernel
theorem dX11_told_87 : decode cX11_told 87 = .ok (.getfield 23, 3) := by decide +kernel
theorem dX11_told_90 : decode cX11_told 90 = .ok (.aload_n 0, 1) := by decide +kernel
theorem dX11_told_91 : decode cX11_told 91 = .ok (.getfield 23, 3) := by decide +kernel
theorem dX11_told_94 : decode cX11_told 94 = .ok (.getfield 127, 3) := by decide +kernel
theorem dX11_told_97 : decode cX11_told 97 = .ok (.invokevirtual 158, 3) := by decide +kernel
theorem dX11_told_100 : decode cX11_told 100 = .ok (.ireturn, 1) := by decide +kernel
theorem dX11_told_101 : decode cX11_told 101 = .ok (.aload_n 0, 1) := by decide +kernel
theorem dX11_told_102 : decode cX11_told 102 = .ok (.getfield 23, 3) := by decide +kernel
theorem dX11_told_105 : decode cX11_told 105 = .ok (.getfield 127, 3) := by decide +kernel
theorem dX11_told_108 : decode cX11_told 108 = .ok (.aload_n 0, 1) := by decide +kernel
theorem dX11_told_109 : decode cX11_told 109 = .ok (.getfield 23, 3) := by decide +kernel
theorem dX11_told_112 : decode cX11_told 112 = .ok (.getfield 76, 3) := by decide +kernel
theorem dX11_told_115 : decode cX11_told 115 = .ok (.getfield 155, 3) := by decide +kernel
theorem dX11_told_118 : decode cX11_told 118 = .ok (.invokestatic 161, 3) := by decide +kernel
theorem dX11_told_121 : decode cX11_told 121 = .ok (.ifCond .eq 7, 3) := by decide +kernel
theorem dX11_told_124 : decode cX11_told 124 = .ok (.iconst 1, 1) := by decide +kernel
theorem dX11_told_125 : decode cX11_told 125 = .ok (.goto 4, 3) := by decide +kernel
theorem dX11_told_128 : decode cX11_told 128 = .ok (.iconst 0, 1) := by decide +kernel
theorem dX11_told_129 : decode cX11_told 129 = .ok (.ireturn, 1) := by decide +kernel
theorem dX11_told_130 : decode cX11_told 130 = .ok (.aload_n 0, 1) := by decide +kernel
theorem dX11_told_131 : decode cX11_told 131 = .ok (.getfield 23, 3) := by decide +kernel
theorem dX11_told_134 : decode cX11_told 134 = .ok (.aload_n 0, 1) := by decide +kernel
theorem dX11_told_135 : decode cX11_told 135 = .ok (.getfield 23, 3) := by decide +kernel
theorem dX11_told_138 : decode cX11_told 138 = .ok (.getfield 127, 3) := by decide +kernel
theorem dX11_told_141 : decode cX11_told 141 = .ok (.invokevirtual 165, 3) := by decide +kernel
theorem dX11_told_144 : decode cX11_told 144 = .ok (.ireturn, 1) := by decide +kernel
theorem dX11_told_145 : decode cX11_told 145 = .ok (.aload_n 0, 1) := by decide +kernel
theorem dX11_told_146 : decode cX11_told 146 = .ok (.getfield 23, 3) := by decide +kernel
theorem dX11_told_149 : decode cX11_told 149 = .ok (.getfield 168, 3) := by decide +kernel
theorem dX11_told_152 : decode cX11_told 152 = .ok (.iload_n 1, 1) := by decide +kernel
theorem dX11_told_153 : decode cX11_told 153 = .ok (.bipush 6, 2) := by decide +kernel
theorem dX11_told_155 : decode cX11_told 155 = .ok (.isub, 1) := by decide +kernel
theorem dX11_told_156 : decode cX11_told 156 = .ok (.invokestatic 113, 3) := by decide +kernel
theorem dX11_told_159 : decode cX11_told 159 = .ok (.ireturn, 1) := by decide +kernel
theorem dX11_told_160 : decode cX11_told 160 = .ok (.aload_n 0, 1) := by decide +kernel
theorem dX11_told_161 : decode cX11_told 161 = .ok (.getfield 23, 3) := by decide +kernel
theorem dX11_told_164 : decode cX11_told 164 = .ok (.iload_n 1, 1) := by decide +kernel
theorem dX11_told_165 : decode cX11_told 165 = .ok (.bipush 8, 2) := by decide +kernel
theorem dX11_told_167 : decode cX11_told 167 = .ok (.isub, 1) := by decide +kernel
theorem dX11_told_168 : decode cX11_told 168 = .ok (.aload_n 0, 1) := by decide +kernel
theorem dX11_told_169 : decode cX11_told 169 = .ok (.getfield 23, 3) := by decide +kernel
theorem dX11_told_172 : decode cX11_told 172 = .ok (.getfield 127, 3) := by decide +kernel
theorem dX11_told_175 : decode cX11_told 175 = .ok (.aload_n 0, 1) := by decide +kernel
theorem dX11_told_176 : decode cX11_told 176 = .ok (.getfield 23, 3) := by decide +kernel
theorem dX11_told_179 : decode cX11_told 179 = .ok (.getfield 120, 3) := by decide +kernel
theorem dX11_told_182 : decode cX11_told 182 = .ok (.aload_n 0, 1) := by decide +kernel
theorem dX11_told_183 : decode cX11_told 183 = .ok (.getfield 23, 3) := by decide +kernel
theorem dX11_told_186 : decode cX11_told 186 = .ok (.getfield 76, 3) := by decide +kernel
theorem dX11_told_189 : decode cX11_told 189 = .ok (.getfield 155, 3) := by decide +kernel
theorem dX11_told_192 : decode cX11_told 192 = .ok (.invokevirtual 171, 3) := by decide +kernel
theorem dX11_told_195 : decode cX11_told 195 = .ok (.ireturn, 1) := by decide +kernel
theorem dX11_told_196 : decode cX11_told 196 = .ok (.iconst (-1), 1) := by decide +kernel
theorem dX11_told_197 : decode cX11_told 197 = .ok (.ireturn, 1) := by decide +kernel
theorem dX11_pass_0 : decode cX11_pass 0 = .ok (.iload_n 1, 1) := by decide +kernel
theorem dX11_pass_1 : decode cX11_pass 1 = .ok (.iconst 0, 1) := by decide +kernel
theorem dX11_pass_2 : decode cX11_pass 2 = .ok (.bipush 60, 2) := by decide +kernel
theorem dX11_pass_4 : decode cX11_pass 4 = .ok (.invokestatic 53, 3) := by decide +kernel
theorem dX11_pass_7 : decode cX11_pass 7 = .ok (.ifCond .ne 6, 3) := by decide +kernel
theorem dX11_pass_10 : decode cX11_pass 10 = .ok (.bipush (-2), 2) := by decide +kernel
theorem dX11_pass_12 : decode cX11_pass 12 = .ok (.ireturn, 1) := by decide +kernel
theorem dX11_pass_13 : decode cX11_pass 13 = .ok (.aload_n 0, 1) := by decide +kernel
theorem dX11_pass_14 : decode cX11_pass 14 = .ok (.getfield 23, 3) := by decide +kernel
theorem dX11_pass_17 : decode cX11_pass 17 = .ok (.getfield 127, 3) := by decide +kernel
theorem dX11_pass_20 : decode cX11_pass 20 = .ok (.iload_n 1, 1) := by decide +kernel
theorem dX11_pass_21 : decode cX11_pass 21 = .ok (.iadd, 1) := by decide +kernel
theorem dX11_pass_22 : decode cX11_pass 22 = .ok (.sipush 9999, 3) := by decide +kernel
theorem dX11_pass_25 : decode cX11_pass 25 = .ok (.if_icmp .le 6, 3) := by decide +kernel
theorem dX11_pass_28 : decode cX11_pass 28 = .ok (.bipush (-3), 2) := by decide +kernel
theorem dX11_pass_30 : decode cX11_pass 30 = .ok (.ireturn, 1) := by decide +kernel
theorem dX11_pass_31 : decode cX11_pass 31 = .ok (.iconst 0, 1) := by decide +kernel
theorem dX11_pass_32 : decode cX11_pass 32 = .ok (.istore_n 2, 1) := by decide +kernel
theorem dX11_pass_33 : decode cX11_pass 33 = .ok (.iload_n 2, 1) := by decide +kernel
theorem dX11_pass_34 : decode cX11_pass 34 = .ok (.iload_n 1, 1) := by decide +kernel
theorem dX11_pass_35 : decode cX11_pass 35 = .ok (.if_icmp .ge 101, 3) := by decide +kernel
theorem dX11_pass_38 : decode cX11_pass 38 = .ok (.aload_n 0, 1) := by decide +kernel
theorem dX11_pass_39 : decode cX11_pass 39 = .ok (.getfield 23, 3) := by decide +kernel
theorem dX11_pass_42 : decode cX11_pass 42 = .ok (.aload_n 0, 1) := by decide +kernel
theorem dX11_pass_43 : decode cX11_pass 43 = .ok (.getfield 23, 3) := by decide +kernel
theorem dX11_pass_46 : decode cX11_pass 46 = .ok (.getfield 127, 3) := by decide +kernel
theorem dX11_pass_49 : decode cX11_pass 49 = .ok (.invokevirtual 158, 3) := by decide +kernel
theorem dX11_pass_52 : decode cX11_pass 52 = .ok (.istore_n 3, 1) := by decide +kernel
theorem dX11_pass_53 : decode cX11_pass 53 = .ok (.aload_n 0, 1) := by decide +kernel
theorem dX11_pass_54 : decode cX11_pass 54 = .ok (.getfield 23, 3) := by decide +kernel
theorem dX11_pass_57 : decode cX11_pass 57 = .ok (.getfield 168, 3) := by decide +kernel
theorem dX11_pass_60 : decode cX11_pass 60 = .ok (.iload_n 3, 1) := by decide +kernel
theorem dX11_pass_61 : decode cX11_pass 61 = .ok (.invokestatic 113, 3) := by decide +kernel
theorem dX11_pass_64 : decode cX11_pass 64 = .ok (.aload_n 0, 1) := by decide +kernel
theorem dX11_pass_65 : decode cX11_pass 65 = .ok (.getfield 23, 3) := by decide +kernel
theorem dX11_pass_68 : decode cX11_pass 68 = .ok (.iload_n 3, 1) := by decide +kernel
theorem dX11_pass_69 : decode cX11_pass 69 = .ok (.aload_n 0, 1) := by decide +kernel
theorem dX11_pass_70 : decode cX11_pass 70 = .ok (.getfield 23, 3) := by decide +kernel
theorem dX11_pass_73 : decode cX11_pass 73 = .ok (.getfield 127, 3) := by decide +kernel
theorem dX11_pass_76 : decode cX11_pass 76 = .ok (.aload_n 0, 1) := by decide +kernel
theorem dX11_pass_77 : decode cX11_pass 77 = .ok (.getfield 23, 3) := by decide +kernel
theorem dX11_pass_80 : decode cX11_pass 80 = .ok (.getfield 120, 3) := by decide +kernel
theorem dX11_pass_83 : decode cX11_pass 83 = .ok (.aload_n 0, 1) := by decide +kernel
theorem dX11_pass_84 : decode cX11_pass 84 = .ok (.getfield 23, 3) := by decide +kernel
theorem dX11_pass_87 : decode cX11_pass 87 = .ok (.getfield 76, 3) := by decide +kernel
theorem dX11_pass_90 : decode cX11_pass 90 = .ok (.getfield 155, 3) := by decide +kernel
theorem dX11_pass_93 : decode cX11_pass 93 = .ok (.invokevirtual 171, 3) := by decide +kernel
theorem dX11_pass_96 : decode cX11_pass 96 = .ok (.iadd, 1) := by decide +kernel
theorem dX11_pass_97 : decode cX11_pass 97 = .ok (.istore 4, 2) := by decide +kernel
theorem dX11_pass_99 : decode cX11_pass 99 = .ok (.aload_n 0, 1) := by decide +kernel
theorem dX11_pass_100 : decode cX11_pass 100 = .ok (.getfield 23, 3) := by decide +kernel
theorem dX11_pass_103 : decode cX11_pass 103 = .ok (.getfield 168, 3) := by decide +kernel
theorem dX11_pass_106 : decode cX11_pass 106 = .ok (.iload_n 3, 1) := by decide +kernel
theorem dX11_pass_107 : decode cX11_pass 107 = .ok (.iload 4, 2) := by decide +kernel
theorem dX11_pass_109 : decode cX11_pass 109 = .ok (.ldc 175, 2) := by decide +kernel
theorem dX11_pass_111 : decode cX11_pass 111 = .ok (.invokestatic 176, 3) := by decide +kernel
theorem dX11_pass_114 : decode cX11_pass 114 = .ok (.invokestatic 181, 3) := by decide +kernel
theorem dX11_pass_117 : decode cX11_pass 117 = .ok (.aload_n 0, 1) := by decide +kernel
theorem dX11_pass_118 : decode cX11_pass 118 = .ok (.getfield 23, 3) := by decide +kernel
theorem dX11_pass_121 : decode cX11_pass 121 = .ok (.dup, 1) := by decide +kernel
theorem dX11_pass_122 : decode cX11_pass 122 = .ok (.getfield 127, 3) := by decide +kernel
theorem dX11_pass_125 : decode cX11_pass 125 = .ok (.iconst 1, 1) := by decide +kernel
theorem dX11_pass_126 : decode cX11_pass 126 = .ok (.iadd, 1) := by decide +kernel
theorem dX11_pass_127 : decode cX11_pass 127 = .ok (.putfield 127, 3) := by decide +kernel
theorem dX11_pass_130 : decode cX11_pass 130 = .ok (.iinc 2 1, 3) := by decide +kernel
theorem dX11_pass_133 : decode cX11_pass 133 = .ok (.goto (-100), 3) := by decide +kernel
theorem dX11_pass_136 : decode cX11_pass 136 = .ok (.aload_n 0, 1) := by decide +kernel
theorem dX11_pass_137 : decode cX11_pass 137 = .ok (.getfield 23, 3) := by decide +kernel
theorem dX11_pass_140 : decode cX11_pass 140 = .ok (.getfield 127, 3) := by decide +kernel
theorem dX11_pass_143 : decode cX11_pass 143 = .ok (.ireturn, 1) := by decide +kernel
theorem dX11_on_0 : decode cX11_on 0 = .ok (.iload_n 2, 1) := by decide +kernel
theorem dX11_on_1 : decode cX11_on 1 = .ok (.iconst 0, 1) := by decide +kernel
theorem dX11_on_2 : decode cX11_on 2 = .ok (.iconst 2, 1) := by decide +kernel
theorem dX11_on_3 : decode cX11_on 3 = .ok (.invokestatic 53, 3) := by decide +kernel
theorem dX11_on_6 : decode cX11_on 6 = .ok (.ifCond .ne 5, 3) := by decide +kernel
theorem dX11_on_9 : decode cX11_on 9 = .ok (.iconst (-1), 1) := by decide +kernel
theorem dX11_on_10 : decode cX11_on 10 = .ok (.ireturn, 1) := by decide +kernel
theorem dX11_on_11 : decode cX11_on 11 = .ok (.iload_n 1, 1) := by decide +kernel
theorem dX11_on_12 : decode cX11_on 12 = .ok (.iconst 0, 1) := by decide +kernel
theorem dX11_on_13 : decode cX11_on 13 = .ok (.bipush 60, 2) := by decide +kernel
theorem dX11_on_15 : decode cX11_on 15 = .ok (.invokestatic 53, 3) := by decide +kernel
theorem dX11_on_18 : decode cX11_on 18 = .ok (.ifCond .ne 6, 3) := by decide +kernel
theorem dX11_on_21 : decode cX11_on 21 = .ok (.bipush (-2), 2) := by decide +kernel
theorem dX11_on_23 : decode cX11_on 23 = .ok (.ireturn, 1) := by decide +kernel
theorem dX11_on_24 : decode cX11_on 24 = .ok (.iload_n 2, 1) := by decide +kernel
theorem dX11_on_25 : decode cX11_on 25 = .ok (.iconst 2, 1) := by decide +kernel
theorem dX11_on_26 : decode cX11_on 26 = .ok (.if_icmp .ne 23, 3) := by decide +kernel
theorem dX11_on_29 : decode cX11_on 29 = .ok (.aload_n 0, 1) := by decide +kernel
theorem dX11_on_30 : decode cX11_on 30 = .ok (.getfield 23, 3) := by decide +kernel
theorem dX11_on_33 : decode cX11_on 33 = .ok (.aload_n 0, 1) := by decide +kernel
theorem dX11_on_34 : decode cX11_on 34 = .ok (.getfield 23, 3) := by decide +kernel
theorem dX11_on_37 : decode cX11_on 37 = .ok (.getfield 127, 3) := by decide +kernel
theorem dX11_on_40 : decode cX11_on 40 = .ok (.iload_n 1, 1) := by decide +kernel
theorem dX11_on_41 : decode cX11_on 41 = .ok (.iadd, 1) := by decide +kernel
theorem dX11_on_42 : decode cX11_on 42 = .ok (.invokevirtual 165, 3) := by decide +kernel
theorem dX11_on_45 : decode cX11_on 45 = .ok (.invokestatic 185, 3) := by decide +kernel
theorem dX11_on_48 : decode cX11_on 48 = .ok (.ireturn, 1) := by decide +kernel
theorem dX11_on_49 : decode cX11_on 49 = .ok (.aload_n 0, 1) := by decide +kernel
theorem dX11_on_50 : decode cX11_on 50 = .ok (.getfield 23, 3) := by decide +kernel
theorem dX11_on_53 : decode cX11_on 53 = .ok (.getfield 168, 3) := by decide +kernel
theorem dX11_on_56 : decode cX11_on 56 = .ok (.iload_n 2, 1) := by decide +kernel
theorem dX11_on_57 : decode cX11_on 57 = .ok (.invokestatic 113, 3) := by decide +kernel
theorem dX11_on_60 : decode cX11_on 60 = .ok (.istore_n 3, 1) := by decide +kernel
theorem dX11_on_61 : decode cX11_on 61 = .ok (.iconst 0, 1) := by decide +kernel
theorem dX11_on_62 : decode cX11_on 62 = .ok (.istore 4, 2) := by decide +kernel
theorem dX11_on_64 : decode cX11_on 64 = .ok (.iload 4, 2) := by decide +kernel
theorem dX11_on_66 : decode cX11_on 66 = .ok (.iload_n 1, 1) := by decide +kernel
theorem dX11_on_67 : decode cX11_on 67 = .ok (.if_icmp .ge 68, 3) := by decide +kernel
theorem dX11_on_70 : decode cX11_on 70 = .ok (.aload_n 0, 1) := by decide +kernel
theorem dX11_on_71 : decode cX11_on 71 = .ok (.getfield 23, 3) := by decide +kernel
theorem dX11_on_74 : decode cX11_on 74 = .ok (.aload_n 0, 1) := by decide +kernel
theorem dX11_on_75 : decode cX11_on 75 = .ok (.getfield 23, 3) := by decide +kernel
theorem dX11_on_78 : decode cX11_on 78 = .ok (.getfield 127, 3) := by decide +kernel
theorem dX11_on_81 : decode cX11_on 81 = .ok (.iload 4, 2) := by decide +kernel
theorem dX11_on_83 : decode cX11_on 83 = .ok (.iadd, 1) := by decide +kernel
theorem dX11_on_84 : decode cX11_on 84 = .ok (.invokevirtual 158, 3) := by decide +kernel
theorem dX11_on_87 : decode cX11_on 87 = .ok (.iload_n 2, 1) := by decide +kernel
theorem dX11_on_88 : decode cX11_on 88 = .ok (.if_icmp .ne 41, 3) := by decide +kernel
theorem dX11_on_91 : decode cX11_on 91 = .ok (.iload_n 3, 1) := by decide +kernel
theorem dX11_on_92 : decode cX11_on 92 = .ok (.aload_n 0, 1) := by decide +kernel
theorem dX11_on_93 : decode cX11_on 93 = .ok (.getfield 23, 3) := by decide +kernel
theorem dX11_on_96 : decode cX11_on 96 = .ok (.iload_n 2, 1) := by decide +kernel
theorem dX11_on_97 : decode cX11_on 97 = .ok (.aload_n 0, 1) := by decide +kernel
theorem dX11_on_98 : decode cX11_on 98 = .ok (.getfield 23, 3) := by decide +kernel
theorem dX11_on_101 : decode cX11_on 101 = .ok (.getfield 127, 3) := by decide +kernel
theorem dX11_on_104 : decode cX11_on 104 = .ok (.iload 4, 2) := by decide +kernel
theorem dX11_on_106 : decode cX11_on 106 = .ok (.iadd, 1) := by decide +kernel
theorem dX11_on_107 : decode cX11_on 107 = .ok (.aload_n 0, 1) := by decide +kernel
theorem dX11_on_108 : decode cX11_on 108 = .ok (.getfield 23, 3) := by decide +kernel
theorem dX11_on_111 : decode cX11_on 111 = .ok (.getfield 120, 3) := by decide +kernel
theorem dX11_on_114 : decode cX11_on 114 = .ok (.aload_n 0, 1) := by decide +kernel
theorem dX11_on_115 : decode cX11_on 115 = .ok (.getfield 23, 3) := by decide +kernel
theorem dX11_on_118 : decode cX11_on 118 = .ok (.getfield 76, 3) := by decide +kernel
theorem dX11_on_121 : decode cX11_on 121 = .ok (.getfield 155, 3) := by decide +kernel
theorem dX11_on_124 : decode cX11_on 124 = .ok (.invokevirtual 171, 3) := by decide +kernel
theorem dX11_on_127 : decode cX11_on 127 = .ok (.iadd, 1) := by decide +kernel
theorem dX11_on_128 : decode cX11_on 128 = .ok (.istore_n 3, 1) := by decide +kernel
theorem dX11_on_129 : decode cX11_on 129 = .ok (.iinc 4 1, 3) := by decide +kernel
theorem dX11_on_132 : decode cX11_on 132 = .ok (.goto (-68), 3) := by decide +kernel
theorem dX11_on_135 : decode cX11_on 135 = .ok (.iload_n 3, 1) := by decide +kernel
theorem dX11_on_136 : decode cX11_on 136 = .ok (.ireturn, 1) := by decide +kernel
theorem dX11_when_0 : decode cX11_when 0 = .ok (.aload_n 0, 1) := by decide +kernel
theorem dX11_when_1 : decode cX11_when 1 = .ok (.getfield 23, 3) := by decide +kernel
theorem dX11_when_4 : decode cX11_when 4 = .ok (.iload_n 1, 1) := by decide +kernel
theorem dX11_when_5 : decode cX11_when 5 = .ok (.invokevirtual 98, 3) := by decide +kernel
theorem dX11_when_8 : decode cX11_when 8 = .ok (.ifnonnull 7, 3) := by decide +kernel
theorem dX11_when_11 : decode cX11_when 11 = .ok (.iconst (-1), 1) := by decide +kernel
theorem dX11_when_12 : decode cX11_when 12 = .ok (.goto 9, 3) := by decide +kernel
theorem dX11_when_15 : decode cX11_when 15 = .ok (.aload_n 0, 1) := by decide +kernel
theorem dX11_when_16 : decode cX11_when 16 = .ok (.iload_n 1, 1) := by decide +kernel
theorem dX11_when_17 : decode cX11_when 17 = .ok (.iload_n 1, 1) := by decide +kernel
theorem dX11_when_18 : decode cX11_when 18 = .ok (.invokevirtual 190, 3) := by decide +kernel
theorem dX11_when_21 : decode cX11_when 21 = .ok (.ireturn, 1) := by decide +kernel
theorem dX11_meet_0 : decode cX11_meet 0 = .ok (.aload_n 0, 1) := by decide +kernel
theorem dX11_meet_1 : decode cX11_meet 1 = .ok (.getfield 23, 3) := by decide +kernel
theorem dX11_meet_4 : decode cX11_meet 4 = .ok (.iload_n 1, 1) := by decide +kernel
theorem dX11_meet_5 : decode cX11_meet 5 = .ok (.invokevirtual 98, 3) := by decide +kernel
theorem dX11_meet_8 : decode cX11_meet 8 = .ok (.ifnull 14, 3) := by decide +kernel
theorem dX11_meet_11 : decode cX11_meet 11 = .ok (.aload_n 0, 1) := by decide +kernel
theorem dX11_meet_12 : decode cX11_meet 12 = .ok (.getfield 23, 3) := by decide +kernel
theorem dX11_meet_15 : decode cX11_meet 15 = .ok (.iload_n 2, 1) := by decide +kernel
theorem dX11_meet_16 : decode cX11_meet 16 = .ok (.invokevirtual 98, 3) := by decide +kernel
theorem dX11_meet_19 : decode cX11_meet 19 = .ok (.ifnonnull 5, 3) := by decide +kernel
theorem dX11_meet_22 : decode cX11_meet 22 = .ok (.iconst (-1), 1) := by decide +kernel
theorem dX11_meet_23 : decode cX11_meet 23 = .ok (.ireturn, 1) := by decide +kernel
theorem dX11_meet_24 : decode cX11_meet 24 = .ok (.iload_n 1, 1) := by decide +kernel
theorem dX11_meet_25 : decode cX11_meet 25 = .ok (.iload_n 2, 1) := by decide +kernel
theorem dX11_meet_26 : decode cX11_meet 26 = .ok (.if_icmp .ne 8, 3) := by decide +kernel
theorem dX11_meet_29 : decode cX11_meet 29 = .ok (.bipush (-2), 2) := by decide +kernel
theorem dX11_meet_31 : decode cX11_meet 31 = .ok (.goto 9, 3) := by decide +kernel
theorem dX11_meet_34 : decode cX11_meet 34 = .ok (.aload_n 0, 1) := by decide +kernel
theorem dX11_meet_35 : decode cX11_meet 35 = .ok (.iload_n 1, 1) := by decide +kernel
theorem dX11_meet_36 : decode cX11_meet 36 = .ok (.iload_n 2, 1) := by decide +kernel
theorem dX11_meet_37 : decode cX11_meet 37 = .ok (.invokevirtual 190, 3) := by decide +kernel
theorem dX11_meet_40 : decode cX11_meet 40 = .ok (.ireturn, 1) := by decide +kernel
theorem dX11_deal_0 : decode cX11_deal 0 = .ok (.iload_n 2, 1) := by decide +kernel
theorem dX11_deal_1 : decode cX11_deal 1 = .ok (.iconst 0, 1) := by decide +kernel
theorem dX11_deal_2 : decode cX11_deal 2 = .ok (.iconst 1, 1) := by decide +kernel
theorem dX11_deal_3 : decode cX11_deal 3 = .ok (.invokestatic 53, 3) := by decide +kernel
theorem dX11_deal_6 : decode cX11_deal 6 = .ok (.ifCond .eq 12, 3) := by decide +kernel
theorem dX11_deal_9 : decode cX11_deal 9 = .ok (.iload_n 3, 1) := by decide +kernel
theorem dX11_deal_10 : decode cX11_deal 10 = .ok (.iconst 0, 1) := by decide +kernel
theorem dX11_deal_11 : decode cX11_deal 11 = .ok (.iconst 2, 1) := by decide +kernel
theorem dX11_deal_12 : decode cX11_deal 12 = .ok (.invokestatic 53, 3) := by decide +kernel
theorem dX11_deal_15 : decode cX11_deal 15 = .ok (.ifCond .ne 5, 3) := by decide +kernel
theorem dX11_deal_18 : decode cX11_deal 18 = .ok (.iconst (-1), 1) := by decide +kernel
theorem dX11_deal_19 : decode cX11_deal 19 = .ok (.ireturn, 1) := by decide +kernel
theorem dX11_deal_20 : decode cX11_deal 20 = .ok (.iload_n 1, 1) := by decide +kernel
theorem dX11_deal_21 : decode cX11_deal 21 = .ok (.iconst 1, 1) := by decide +kernel
theorem dX11_deal_22 : decode cX11_deal 22 = .ok (.bipush 9, 2) := by decide +kernel
theorem dX11_deal_24 : decode cX11_deal 24 = .ok (.invokestatic 53, 3) := by decide +kernel
theorem dX11_deal_27 : decode cX11_deal 27 = .ok (.ifCond .ne 6, 3) := by decide +kernel
theorem dX11_deal_30 : decode cX11_deal 30 = .ok (.bipush (-2), 2) := by decide +kernel
theorem dX11_deal_32 : decode cX11_deal 32 = .ok (.ireturn, 1) := by decide +kernel
theorem dX11_deal_33 : decode cX11_deal 33 = .ok (.iconst 0, 1) := by decide +kernel
theorem dX11_deal_34 : decode cX11_deal 34 = .ok (.istore 4, 2) := by decide +kernel
theorem dX11_deal_36 : decode cX11_deal 36 = .ok (.iload 4, 2) := by decide +kernel
theorem dX11_deal_38 : decode cX11_deal 38 = .ok (.iload_n 1, 1) := by decide +kernel
theorem dX11_deal_39 : decode cX11_deal 39 = .ok (.if_icmp .ge 97, 3) := by decide +kernel
theorem dX11_deal_42 : decode cX11_deal 42 = .ok (.aload_n 0, 1) := by decide +kernel
theorem dX11_deal_43 : decode cX11_deal 43 = .ok (.getfield 42, 3) := by decide +kernel
theorem dX11_deal_46 : decode cX11_deal 46 = .ok (.iload 4, 2) := by decide +kernel
theorem dX11_deal_48 : decode cX11_deal 48 = .ok (.aload_n 0, 1) := by decide +kernel
theorem dX11_deal_49 : decode cX11_deal 49 = .ok (.getfield 23, 3) := by decide +kernel
theorem dX11_deal_52 : decode cX11_deal 52 = .ok (.iconst 0, 1) := by decide +kernel
theorem dX11_deal_53 : decode cX11_deal 53 = .ok (.aload_n 0, 1) := by decide +kernel
theorem dX11_deal_54 : decode cX11_deal 54 = .ok (.getfield 23, 3) := by decide +kernel
theorem dX11_deal_57 : decode cX11_deal 57 = .ok (.getfield 127, 3) := by decide +kernel
theorem dX11_deal_60 : decode cX11_deal 60 = .ok (.iload 4, 2) := by decide +kernel
theorem dX11_deal_62 : decode cX11_deal 62 = .ok (.iadd, 1) := by decide +kernel
theorem dX11_deal_63 : decode cX11_deal 63 = .ok (.aload_n 0, 1) := by decide +kernel
theorem dX11_deal_64 : decode cX11_deal 64 = .ok (.getfield 23, 3) := by decide +kernel
theorem dX11_deal_67 : decode cX11_deal 67 = .ok (.getfield 120, 3) := by decide +kernel
theorem dX11_deal_70 : decode cX11_deal 70 = .ok (.aload_n 0, 1) := by decide +kernel
theorem dX11_deal_71 : decode cX11_deal 71 = .ok (.getfield 23, 3) := by decide +kernel
theorem dX11_deal_74 : decode cX11_deal 74 = .ok (.getfield 76, 3) := by decide +kernel
theorem dX11_deal_77 : decode cX11_deal 77 = .ok (.getfield 155, 3) := by decide +kernel
theorem dX11_deal_80 : decode cX11_deal 80 = .ok (.invokevirtual 171, 3) := by decide +kernel
theorem dX11_deal_83 : decode cX11_deal 83 = .ok (.invokestatic 181, 3) := by decide +kernel
theorem dX11_deal_86 : decode cX11_deal 86 = .ok (.aload_n 0, 1) := by decide +kernel
theorem dX11_deal_87 : decode cX11_deal 87 = .ok (.getfield 46, 3) := by decide +kernel
theorem dX11_deal_90 : decode cX11_deal 90 = .ok (.iload 4, 2) := by decide +kernel
theorem dX11_deal_92 : decode cX11_deal 92 = .ok (.aload_n 0, 1) := by decide +kernel
theorem dX11_deal_93 : decode cX11_deal 93 = .ok (.getfield 23, 3) := by decide +kernel
theorem dX11_deal_96 : decode cX11_deal 96 = .ok (.iconst 1, 1) := by decide +kernel
theorem dX11_deal_97 : decode cX11_deal 97 = .ok (.aload_n 0, 1) := by decide +kernel
theorem dX11_deal_98 : decode cX11_deal 98 = .ok (.getfield 23, 3) := by decide +kernel
theorem dX11_deal_101 : decode cX11_deal 101 = .ok (.getfield 127, 3) := by decide +kernel
theorem dX11_deal_104 : decode cX11_deal 104 = .ok (.iload 4, 2) := by decide +kernel
theorem dX11_deal_106 : decode cX11_deal 106 = .ok (.iadd, 1) := by decide +kernel
theorem dX11_deal_107 : decode cX11_deal 107 = .ok (.aload_n 0, 1) := by decide +kernel
theorem dX11_deal_108 : decode cX11_deal 108 = .ok (.getfield 23, 3) := by decide +kernel
theorem dX11_deal_111 : decode cX11_deal 111 = .ok (.getfield 120, 3) := by decide +kernel
theorem dX11_deal_114 : decode cX11_deal 114 = .ok (.aload_n 0, 1) := by decide +kernel
theorem dX11_deal_115 : decode cX11_deal 115 = .ok (.getfield 23, 3) := by decide +kernel
theorem dX11_deal_118 : decode cX11_deal 118 = .ok (.getfield 76, 3) := by decide +kernel
theorem dX11_deal_121 : decode cX11_deal 121 = .ok (.getfield 155, 3) := by decide +kernel
theorem dX11_deal_124 : decode cX11_deal 124 = .ok (.invokevirtual 171, 3) := by decide +kernel
theorem dX11_deal_127 : decode cX11_deal 127 = .ok (.invokestatic 181, 3) := by decide +kernel
theorem dX11_deal_130 : decode cX11_deal 130 = .ok (.iinc 4 1, 3) := by decide +kernel
theorem dX11_deal_133 : decode cX11_deal 133 = .ok (.goto (-97), 3) := by decide +kernel
theorem dX11_deal_136 : decode cX11_deal 136 = .ok (.iload_n 2, 1) := by decide +kernel
theorem dX11_deal_137 : decode cX11_deal 137 = .ok (.ifCond .ne 18, 3) := by decide +kernel
theorem dX11_deal_140 : decode cX11_deal 140 = .ok (.aload_n 0, 1) := by decide +kernel
theorem dX11_deal_141 : decode cX11_deal 141 = .ok (.getfield 42, 3) := by decide +kernel
theorem dX11_deal_144 : decode cX11_deal 144 = .ok (.aload_n 0, 1) := by decide +kernel
theorem dX11_deal_145 : decode cX11_deal 145 = .ok (.getfield 46, 3) := by decide +kernel
theorem dX11_deal_148 : decode cX11_deal 148 = .ok (.iload_n 1, 1) := by decide +kernel
theorem dX11_deal_149 : decode cX11_deal 149 = .ok (.invokestatic 193, 3) := by decide +kernel
theorem dX11_deal_152 : decode cX11_deal 152 = .ok (.goto 15, 3) := by decide +kernel
theorem dX11_deal_155 : decode cX11_deal 155 = .ok (.aload_n 0, 1) := by decide +kernel
theorem dX11_deal_156 : decode cX11_deal 156 = .ok (.getfield 42, 3) := by decide +kernel
theorem dX11_deal_159 : decode cX11_deal 159 = .ok (.aload_n 0, 1) := by decide +kernel
theorem dX11_deal_160 : decode cX11_deal 160 = .ok (.getfield 46, 3) := by decide +kernel
theorem dX11_deal_163 : decode cX11_deal 163 = .ok (.iload_n 1, 1) := by decide +kernel
theorem dX11_deal_164 : decode cX11_deal 164 = .ok (.invokestatic 197, 3) := by decide +kernel
theorem dX11_deal_167 : decode cX11_deal 167 = .ok (.istore 4, 2) := by decide +kernel
theorem dX11_deal_169 : decode cX11_deal 169 = .ok (.iload_n 3, 1) := by decide +kernel
theorem dX11_deal_170 : decode cX11_deal 170 = .ok (.ifCond .ne 8, 3) := by decide +kernel
theorem dX11_deal_173 : decode cX11_deal 173 = .ok (.iload 4, 2) := by decide +kernel
theorem dX11_deal_175 : decode cX11_deal 175 = .ok (.goto 28, 3) := by decide +kernel
theorem dX11_deal_178 : decode cX11_deal 178 = .ok (.iload_n 3, 1) := by decide +kernel
theorem dX11_deal_179 : decode cX11_deal 179 = .ok (.iconst 1, 1) := by decide +kernel
theorem dX11_deal_180 : decode cX11_deal 180 = .ok (.if_icmp .ne 10, 3) := by decide +kernel
theorem dX11_deal_183 : decode cX11_deal 183 = .ok (.aload_n 0, 1) := by decide +kernel
theorem dX11_deal_184 : decode cX11_deal 184 = .ok (.getfield 42, 3) := by decide +kernel
theorem dX11_deal_187 : decode cX11_deal 187 = .ok (.goto 7, 3) := by decide +kernel
theorem dX11_deal_190 : decode cX11_deal 190 = .ok (.aload_n 0, 1) := by decide +kernel
theorem dX11_deal_191 : decode cX11_deal 191 = .ok (.getfield 46, 3) := by decide +kernel
theorem dX11_deal_194 : decode cX11_deal 194 = .ok (.iload_n 1, 1) := by decide +kernel
theorem dX11_deal_195 : decode cX11_deal 195 = .ok (.iload 4, 2) := by decide +kernel
theorem dX11_deal_197 : decode cX11_deal 197 = .ok (.iload_n 3, 1) := by decide +kernel
theorem dX11_deal_198 : decode cX11_deal 198 = .ok (.iconst 1, 1) := by decide +kernel
theorem dX11_deal_199 : decode cX11_deal 199 = .ok (.isub, 1) := by decide +kernel
theorem dX11_deal_200 : decode cX11_deal 200 = .ok (.invokestatic 200, 3) := by decide +kernel
theorem dX11_deal_203 : decode cX11_deal 203 = .ok (.ireturn, 1) := by decide +kernel
theorem dX11_shares_0 : decode cX11_shares 0 = .ok (.iload_n 1, 1) := by decide +kernel
theorem dX11_shares_1 : decode cX11_shares 1 = .ok (.iconst 0, 1) := by decide +kernel
theorem dX11_shares_2 : decode cX11_shares 2 = .ok (.iconst 1, 1) := by decide +kernel
theorem dX11_shares_3 : decode cX11_shares 3 = .ok (.invokestatic 53, 3) := by decide +kernel
theorem dX11_shares_6 : decode cX11_shares 6 = .ok (.ifCond .ne 5, 3) := by decide +kernel
theorem dX11_shares_9 : decode cX11_shares 9 = .ok (.iconst (-1), 1) := by decide +kernel
theorem dX11_shares_10 : decode cX11_shares 10 = .ok (.ireturn, 1) := by decide +kernel
theorem dX11_shares_11 : decode cX11_shares 11 = .ok (.iconst 0, 1) := by decide +kernel
theorem dX11_shares_12 : decode cX11_shares 12 = .ok (.istore_n 2, 1) := by decide +kernel
theorem dX11_shares_13 : decode cX11_shares 13 = .ok (.iload_n 2, 1) := by decide +kernel
theorem dX11_shares_14 : decode cX11_shares 14 = .ok (.aload_n 0, 1) := by decide +kernel
theorem dX11_shares_15 : decode cX11_shares 15 = .ok (.getfield 23, 3) := by decide +kernel
theorem dX11_shares_18 : decode cX11_shares 18 = .ok (.getfield 87, 3) := by decide +kernel
theorem dX11_shares_21 : decode cX11_shares 21 = .ok (.if_icmp .ge 37, 3) := by decide +kernel
theorem dX11_shares_24 : decode cX11_shares 24 = .ok (.aload_n 0, 1) := by decide +kernel
theorem dX11_shares_25 : decode cX11_shares 25 = .ok (.getfield 42, 3) := by decide +kernel
theorem dX11_shares_28 : decode cX11_shares 28 = .ok (.iload_n 2, 1) := by decide +kernel
theorem dX11_shares_29 : decode cX11_shares 29 = .ok (.aload_n 0, 1) := by decide +kernel
theorem dX11_shares_30 : decode cX11_shares 30 = .ok (.iload_n 2, 1) := by decide +kernel
theorem dX11_shares_31 : decode cX11_shares 31 = .ok (.iconst 0, 1) := by decide +kernel
theorem dX11_shares_32 : decode cX11_shares 32 = .ok (.invokevirtual 204, 3) := by decide +kernel
theorem dX11_shares_35 : decode cX11_shares 35 = .ok (.invokestatic 181, 3) := by decide +kernel
theorem dX11_shares_38 : decode cX11_shares 38 = .ok (.aload_n 0, 1) := by decide +kernel
theorem dX11_shares_39 : decode cX11_shares 39 = .ok (.getfield 46, 3) := by decide +kernel
theorem dX11_shares_42 : decode cX11_shares 42 = .ok (.iload_n 2, 1) := by decide +kernel
theorem dX11_shares_43 : decode cX11_shares 43 = .ok (.aload_n 0, 1) := by decide +kernel
theorem dX11_shares_44 : decode cX11_shares 44 = .ok (.iload_n 2, 1) := by decide +kernel
theorem dX11_shares_45 : decode cX11_shares 45 = .ok (.iconst 1, 1) := by decide +kernel
theorem dX11_shares_46 : decode cX11_shares 46 = .ok (.invokevirtual 204, 3) := by decide +kernel
theorem dX11_shares_49 : decode cX11_shares 49 = .ok (.invokestatic 181, 3) := by decide +kernel
theorem dX11_shares_52 : decode cX11_shares 52 = .ok (.iinc 2 1, 3) := by decide +kernel
theorem dX11_shares_55 : decode cX11_shares 55 = .ok (.goto (-42), 3) := by decide +kernel
theorem dX11_shares_58 : decode cX11_shares 58 = .ok (.iload_n 1, 1) := by decide +kernel
theorem dX11_shares_59 : decode cX11_shares 59 = .ok (.ifCond .ne 24, 3) := by decide +kernel
theorem dX11_shares_62 : decode cX11_shares 62 = .ok (.aload_n 0, 1) := by decide +kernel
theorem dX11_shares_63 : decode cX11_shares 63 = .ok (.getfield 42, 3) := by decide +kernel
theorem dX11_shares_66 : decode cX11_shares 66 = .ok (.aload_n 0, 1) := by decide +kernel
theorem dX11_shares_67 : decode cX11_shares 67 = .ok (.getfield 46, 3) := by decide +kernel
theorem dX11_shares_70 : decode cX11_shares 70 = .ok (.aload_n 0, 1) := by decide +kernel
theorem dX11_shares_71 : decode cX11_shares 71 = .ok (.getfield 23, 3) := by decide +kernel
theorem dX11_shares_74 : decode cX11_shares 74 = .ok (.getfield 87, 3) := by decide +kernel
theorem dX11_shares_77 : decode cX11_shares 77 = .ok (.invokestatic 207, 3) := by decide +kernel
theorem dX11_shares_80 : decode cX11_shares 80 = .ok (.goto 21, 3) := by decide +kernel
theorem dX11_shares_83 : decode cX11_shares 83 = .ok (.aload_n 0, 1) := by decide +kernel
theorem dX11_shares_84 : decode cX11_shares 84 = .ok (.getfield 42, 3) := by decide +kernel
theorem dX11_shares_87 : decode cX11_shares 87 = .ok (.aload_n 0, 1) := by decide +kernel
theorem dX11_shares_88 : decode cX11_shares 88 = .ok (.getfield 46, 3) := by decide +kernel
theorem dX11_shares_91 : decode cX11_shares 91 = .ok (.aload_n 0, 1) := by decide +kernel
theorem dX11_shares_92 : decode cX11_shares 92 = .ok (.getfield 23, 3) := by decide +kernel
theorem dX11_shares_95 : decode cX11_shares 95 = .ok (.getfield 87, 3) := by decide +kernel
theorem dX11_shares_98 : decode cX11_shares 98 = .ok (.invokestatic 193, 3) := by decide +kernel
theorem dX11_shares_101 : decode cX11_shares 101 = .ok (.ireturn, 1) := by decide +kernel
theorem dX11_note_0 : decode cX11_note 0 = .ok (.iload_n 1, 1) := by decide +kernel
theorem dX11_note_1 : decode cX11_note 1 = .ok (.iconst (-1), 1) := by decide +kernel
theorem dX11_note_2 : decode cX11_note 2 = .ok (.if_icmp .ne 14, 3) := by decide +kernel
theorem dX11_note_5 : decode cX11_note 5 = .ok (.aload_n 0, 1) := by decide +kernel
theorem dX11_note_6 : decode cX11_note 6 = .ok (.getfield 23, 3) := by decide +kernel
theorem dX11_note_9 : decode cX11_note 9 = .ok (.getfield 210, 3) := by decide +kernel
theorem dX11_note_12 : decode cX11_note 12 = .ok (.invokevirtual 73, 3) := by decide +kernel
theorem dX11_note_15 : decode cX11_note 15 = .ok (.ireturn, 1) := by decide +kernel
theorem dX11_note_16 : decode cX11_note 16 = .ok (.aload_n 0, 1) := by decide +kernel
theorem dX11_note_17 : decode cX11_note 17 = .ok (.getfield 23, 3) := by decide +kernel
theorem dX11_note_20 : decode cX11_note 20 = .ok (.iload_n 1, 1) := by decide +kernel
theorem dX11_note_21 : decode cX11_note 21 = .ok (.invokevirtual 98, 3) := by decide +kernel
theorem dX11_note_24 : decode cX11_note 24 = .ok (.ifnonnull 5, 3) := by decide +kernel
theorem dX11_note_27 : decode cX11_note 27 = .ok (.iconst (-1), 1) := by decide +kernel
theorem dX11_note_28 : decode cX11_note 28 = .ok (.ireturn, 1) := by decide +kernel
theorem dX11_note_29 : decode cX11_note 29 = .ok (.iload_n 2, 1) := by decide +kernel
theorem dX11_note_30 : decode cX11_note 30 = .ok (.iconst 0, 1) := by decide +kernel
theorem dX11_note_31 : decode cX11_note 31 = .ok (.bipush 60, 2) := by decide +kernel
theorem dX11_note_33 : decode cX11_note 33 = .ok (.invokestatic 53, 3) := by decide +kernel
theorem dX11_note_36 : decode cX11_note 36 = .ok (.ifCond .ne 6, 3) := by decide +kernel
theorem dX11_note_39 : decode cX11_note 39 = .ok (.bipush (-2), 2) := by decide +kernel
theorem dX11_note_41 : decode cX11_note 41 = .ok (.ireturn, 1) := by decide +kernel
theorem dX11_note_42 : decode cX11_note 42 = .ok (.aload_n 0, 1) := by decide +kernel
theorem dX11_note_43 : decode cX11_note 43 = .ok (.getfield 23, 3) := by decide +kernel
theorem dX11_note_46 : decode cX11_note 46 = .ok (.getfield 210, 3) := by decide +kernel
theorem dX11_note_49 : decode cX11_note 49 = .ok (.invokevirtual 57, 3) := by decide +kernel
theorem dX11_note_52 : decode cX11_note 52 = .ok (.ifCond .eq 8, 3) := by decide +kernel
theorem dX11_note_55 : decode cX11_note 55 = .ok (.bipush (-4), 2) := by decide +kernel
theorem dX11_note_57 : decode cX11_note 57 = .ok (.goto 24, 3) := by decide +kernel
theorem dX11_note_60 : decode cX11_note 60 = .ok (.aload_n 0, 1) := by decide +kernel
theorem dX11_note_61 : decode cX11_note 61 = .ok (.getfield 23, 3) := by decide +kernel
theorem dX11_note_64 : decode cX11_note 64 = .ok (.getfield 210, 3) := by decide +kernel
theorem dX11_note_67 : decode cX11_note 67 = .ok (.iload_n 1, 1) := by decide +kernel
theorem dX11_note_68 : decode cX11_note 68 = .ok (.iload_n 2, 1) := by decide +kernel
theorem dX11_note_69 : decode cX11_note 69 = .ok (.iload_n 3, 1) := by decide +kernel
theorem dX11_note_70 : decode cX11_note 70 = .ok (.ifCond .eq 7, 3) := by decide +kernel
theorem dX11_note_73 : decode cX11_note 73 = .ok (.iconst 1, 1) := by decide +kernel
theorem dX11_note_74 : decode cX11_note 74 = .ok (.goto 4, 3) := by decide +kernel
theorem dX11_note_77 : decode cX11_note 77 = .ok (.iconst 0, 1) := by decide +kernel
theorem dX11_note_78 : decode cX11_note 78 = .ok (.invokevirtual 213, 3) := by decide +kernel
theorem dX11_note_81 : decode cX11_note 81 = .ok (.ireturn, 1) := by decide +kernel
theorem dX11_rounds_0 : decode cX11_rounds 0 = .ok (.aload_n 0, 1) := by decide +kernel
theorem dX11_rounds_1 : decode cX11_rounds 1 = .ok (.iload_n 1, 1) := by decide +kernel
theorem dX11_rounds_2 : decode cX11_rounds 2 = .ok (.iload_n 2, 1) := by decide +kernel
theorem dX11_rounds_3 : decode cX11_rounds 3 = .ok (.iconst 2, 1) := by decide +kernel
theorem dX11_rounds_4 : decode cX11_rounds 4 = .ok (.invokevirtual 217, 3) := by decide +kernel
theorem dX11_rounds_7 : decode cX11_rounds 7 = .ok (.ireturn, 1) := by decide +kernel
theorem dX11_phases_0 : decode cX11_phases 0 = .ok (.aload_n 0, 1) := by decide +kernel
theorem dX11_phases_1 : decode cX11_phases 1 = .ok (.iload_n 1, 1) := by decide +kernel
theorem dX11_phases_2 : decode cX11_phases 2 = .ok (.iload_n 2, 1) := by decide +kernel
theorem dX11_phases_3 : decode cX11_phases 3 = .ok (.iconst 3, 1) := by decide +kernel
theorem dX11_phases_4 : decode cX11_phases 4 = .ok (.invokevirtual 217, 3) := by decide +kernel
theorem dX11_phases_7 : decode cX11_phases 7 = .ok (.ireturn, 1) := by decide +kernel
theorem dX11_firm_0 : decode cX11_firm 0 = .ok (.aload_n 0, 1) := by decide +kernel
theorem dX11_firm_1 : decode cX11_firm 1 = .ok (.iload_n 1, 1) := by decide +kernel
theorem dX11_firm_2 : decode cX11_firm 2 = .ok (.iload_n 2, 1) := by decide +kernel
theorem dX11_firm_3 : decode cX11_firm 3 = .ok (.iconst 1, 1) := by decide +kernel
theorem dX11_firm_4 : decode cX11_firm 4 = .ok (.invokevirtual 217, 3) := by decide +kernel
theorem dX11_firm_7 : decode cX11_firm 7 = .ok (.ireturn, 1) := by decide +kernel
theorem dX11_odds_0 : decode cX11_odds 0 = .ok (.iload_n 1, 1) := by decide +kernel
theorem dX11_odds_1 : decode cX11_odds 1 = .ok (.iconst 0, 1) := by decide +kernel
theorem dX11_odds_2 : decode cX11_odds 2 = .ok (.iconst 1, 1) := by decide +kernel
theorem dX11_odds_3 : decode cX11_odds 3 = .ok (.invokestatic 53, 3) := by decide +kernel
theorem dX11_odds_6 : decode cX11_odds 6 = .ok (.ifCond .eq 34, 3) := by decide +kernel
theorem dX11_odds_9 : decode cX11_odds 9 = .ok (.iload_n 2, 1) := by decide +kernel
theorem dX11_odds_10 : decode cX11_odds 10 = .ok (.iconst 0, 1) := by decide +kernel
theorem dX11_odds_11 : decode cX11_odds 11 = .ok (.bipush 60, 2) := by decide +kernel
theorem dX11_odds_13 : decode cX11_odds 13 = .ok (.invokestatic 53, 3) := by decide +kernel
theorem dX11_odds_16 : decode cX11_odds 16 = .ok (.ifCond .eq 24, 3) := by decide +kernel
theorem dX11_odds_19 : decode cX11_odds 19 = .ok (.iload_n 3, 1) := by decide +kernel
theorem dX11_odds_20 : decode cX11_odds 20 = .ok (.iconst 0, 1) := by decide +kernel
theorem dX11_odds_21 : decode cX11_odds 21 = .ok (.sipush 9999, 3) := by decide +kernel
theorem dX11_odds_24 : decode cX11_odds 24 = .ok (.invokestatic 53, 3) := by decide +kernel
theorem dX11_odds_27 : decode cX11_odds 27 = .ok (.ifCond .eq 13, 3) := by decide +kernel
theorem dX11_odds_30 : decode cX11_odds 30 = .ok (.iload 4, 2) := by decide +kernel
theorem dX11_odds_32 : decode cX11_odds 32 = .ok (.iconst 0, 1) := by decide +kernel
theorem dX11_odds_33 : decode cX11_odds 33 = .ok (.iconst 1, 1) := by decide +kernel
theorem dX11_odds_34 : decode cX11_odds 34 = .ok (.invokestatic 53, 3) := by decide +kernel
theorem dX11_odds_37 : decode cX11_odds 37 = .ok (.ifCond .ne 7, 3) := by decide +kernel
theorem dX11_odds_40 : decode cX11_odds 40 = .ok (.ldc2_w 220, 3) := by decide +kernel
theorem dX11_odds_43 : decode cX11_odds 43 = .ok (.lreturn, 1) := by decide +kernel
theorem dX11_odds_44 : decode cX11_odds 44 = .ok (.iconst 0, 1) := by decide +kernel
theorem dX11_odds_45 : decode cX11_odds 45 = .ok (.istore 5, 2) := by decide +kernel
theorem dX11_odds_47 : decode cX11_odds 47 = .ok (.iload 5, 2) := by decide +kernel
theorem dX11_odds_49 : decode cX11_odds 49 = .ok (.iload_n 2, 1) := by decide +kernel
theorem dX11_odds_50 : decode cX11_odds 50 = .ok (.if_icmp .ge 65, 3) := by decide +kernel
theorem dX11_odds_53 : decode cX11_odds 53 = .ok (.aload_n 0, 1) := by decide +kernel
theorem dX11_odds_54 : decode cX11_odds 54 = .ok (.getfield 23, 3) := by decide +kernel
theorem dX11_odds_57 : decode cX11_odds 57 = .ok (.getfield 127, 3) := by decide +kernel
theorem dX11_odds_60 : decode cX11_odds 60 = .ok (.iload 5, 2) := by decide +kernel
theorem dX11_odds_62 : decode cX11_odds 62 = .ok (.iadd, 1) := by decide +kernel
theorem dX11_odds_63 : decode cX11_odds 63 = .ok (.istore 6, 2) := by decide +kernel
theorem dX11_odds_65 : decode cX11_odds 65 = .ok (.aload_n 0, 1) := by decide +kernel
theorem dX11_odds_66 : decode cX11_odds 66 = .ok (.getfield 42, 3) := by decide +kernel
theorem dX11_odds_69 : decode cX11_odds 69 = .ok (.iload 5, 2) := by decide +kernel
theorem dX11_odds_71 : decode cX11_odds 71 = .ok (.aload_n 0, 1) := by decide +kernel
theorem dX11_odds_72 : decode cX11_odds 72 = .ok (.getfield 23, 3) := by decide +kernel
theorem dX11_odds_75 : decode cX11_odds 75 = .ok (.iload 6, 2) := by decide +kernel
theorem dX11_odds_77 : decode cX11_odds 77 = .ok (.invokevirtual 158, 3) := by decide +kernel
theorem dX11_odds_80 : decode cX11_odds 80 = .ok (.iload_n 1, 1) := by decide +kernel
theorem dX11_odds_81 : decode cX11_odds 81 = .ok (.if_icmp .ne 24, 3) := by decide +kernel
theorem dX11_odds_84 : decode cX11_odds 84 = .ok (.aload_n 0, 1) := by decide +kernel
theorem dX11_odds_85 : decode cX11_odds 85 = .ok (.getfield 23, 3) := by decide +kernel
theorem dX11_odds_88 : decode cX11_odds 88 = .ok (.iload_n 1, 1) := by decide +kernel
theorem dX11_odds_89 : decode cX11_odds 89 = .ok (.iload 6, 2) := by decide +kernel
theorem dX11_odds_91 : decode cX11_odds 91 = .ok (.aload_n 0, 1) := by decide +kernel
theorem dX11_odds_92 : decode cX11_odds 92 = .ok (.getfield 23, 3) := by decide +kernel
theorem dX11_odds_95 : decode cX11_odds 95 = .ok (.getfield 120, 3) := by decide +kernel
theorem dX11_odds_98 : decode cX11_odds 98 = .ok (.iconst 0, 1) := by decide +kernel
theorem dX11_odds_99 : decode cX11_odds 99 = .ok (.invokevirtual 171, 3) := by decide +kernel
theorem dX11_odds_102 : decode cX11_odds 102 = .ok (.goto 4, 3) := by decide +kernel
theorem dX11_odds_105 : decode cX11_odds 105 = .ok (.iconst 0, 1) := by decide +kernel
theorem dX11_odds_106 : decode cX11_odds 106 = .ok (.invokestatic 181, 3) := by decide +kernel
theorem dX11_odds_109 : decode cX11_odds 109 = .ok (.iinc 5 1, 3) := by decide +kernel
theorem dX11_odds_112 : decode cX11_odds 112 = .ok (.goto (-65), 3) := by decide +kernel
theorem dX11_odds_115 : decode cX11_odds 115 = .ok (.iconst 0, 1) := by decide +kernel
theorem dX11_odds_116 : decode cX11_odds 116 = .ok (.istore 5, 2) := by decide +kernel
theorem dX11_odds_118 : decode cX11_odds 118 = .ok (.iconst 0, 1) := by decide +kernel
theorem dX11_odds_119 : decode cX11_odds 119 = .ok (.istore 6, 2) := by decide +kernel
theorem dX11_odds_121 : decode cX11_odds 121 = .ok (.iload 6, 2) := by decide +kernel
theorem dX11_odds_123 : decode cX11_odds 123 = .ok (.bipush 12, 2) := by decide +kernel
theorem dX11_odds_125 : decode cX11_odds 125 = .ok (.if_icmp .gt 23, 3) := by decide +kernel
theorem dX11_odds_128 : decode cX11_odds 128 = .ok (.aload_n 0, 1) := by decide +kernel
theorem dX11_odds_129 : decode cX11_odds 129 = .ok (.iload 6, 2) := by decide +kernel
theorem dX11_odds_131 : decode cX11_odds 131 = .ok (.iload_n 2, 1) := by decide +kernel
theorem dX11_odds_132 : decode cX11_odds 132 = .ok (.invokevirtual 222, 3) := by decide +kernel
theorem dX11_odds_135 : decode cX11_odds 135 = .ok (.iload_n 3, 1) := by decide +kernel
theorem dX11_odds_136 : decode cX11_odds 136 = .ok (.if_icmp .lt 6, 3) := by decide +kernel
theorem dX11_odds_139 : decode cX11_odds 139 = .ok (.iinc 5 1, 3) := by decide +kernel
theorem dX11_odds_142 : decode cX11_odds 142 = .ok (.iinc 6 1, 3) := by decide +kernel
theorem dX11_odds_145 : decode cX11_odds 145 = .ok (.goto (-24), 3) := by decide +kernel
theorem dX11_odds_148 : decode cX11_odds 148 = .ok (.iload 5, 2) := by decide +kernel
theorem dX11_odds_150 : decode cX11_odds 150 = .ok (.bipush 13, 2) := by decide +kernel
theorem dX11_odds_152 : decode cX11_odds 152 = .ok (.iload 4, 2) := by decide +kernel
theorem dX11_odds_154 : decode cX11_odds 154 = .ok (.invokestatic 225, 3) := by decide +kernel
theorem dX11_odds_157 : decode cX11_odds 157 = .ok (.lreturn, 1) := by decide +kernel
theorem dX11_mean_0 : decode cX11_mean 0 = .ok (.iload_n 1, 1) := by decide +kernel
theorem dX11_mean_1 : decode cX11_mean 1 = .ok (.iconst 0, 1) := by decide +kernel
theorem dX11_mean_2 : decode cX11_mean 2 = .ok (.iconst 1, 1) := by decide +kernel
theorem dX11_mean_3 : decode cX11_mean 3 = .ok (.invokestatic 53, 3) := by decide +kernel
theorem dX11_mean_6 : decode cX11_mean 6 = .ok (.ifCond .eq 12, 3) := by decide +kernel
theorem dX11_mean_9 : decode cX11_mean 9 = .ok (.iload_n 2, 1) := by decide +kernel
theorem dX11_mean_10 : decode cX11_mean 10 = .ok (.iconst 0, 1) := by decide +kernel
theorem dX11_mean_11 : decode cX11_mean 11 = .ok (.iconst 1, 1) := by decide +kernel
theorem dX11_mean_12 : decode cX11_mean 12 = .ok (.invokestatic 53, 3) := by decide +kernel
theorem dX11_mean_15 : decode cX11_mean 15 = .ok (.ifCond .ne 7, 3) := by decide +kernel
theorem dX11_mean_18 : decode cX11_mean 18 = .ok (.ldc2_w 220, 3) := by decide +kernel
theorem dX11_mean_21 : decode cX11_mean 21 = .ok (.lreturn, 1) := by decide +kernel
theorem dX11_mean_22 : decode cX11_mean 22 = .ok (.iconst 0, 1) := by decide +kernel
theorem dX11_mean_23 : decode cX11_mean 23 = .ok (.istore_n 3, 1) := by decide +kernel
theorem dX11_mean_24 : decode cX11_mean 24 = .ok (.iconst 0, 1) := by decide +kernel
theorem dX11_mean_25 : decode cX11_mean 25 = .ok (.istore 4, 2) := by decide +kernel
theorem dX11_mean_27 : decode cX11_mean 27 = .ok (.iload 4, 2) := by decide +kernel
theorem dX11_mean_29 : decode cX11_mean 29 = .ok (.bipush 28, 2) := by decide +kernel
theorem dX11_mean_31 : decode cX11_mean 31 = .ok (.if_icmp .ge 47, 3) := by decide +kernel
theorem dX11_mean_34 : decode cX11_mean 34 = .ok (.iload_n 3, 1) := by decide +kernel
theorem dX11_mean_35 : decode cX11_mean 35 = .ok (.aload_n 0, 1) := by decide +kernel
theorem dX11_mean_36 : decode cX11_mean 36 = .ok (.getfield 23, 3) := by decide +kernel
theorem dX11_mean_39 : decode cX11_mean 39 = .ok (.iload_n 1, 1) := by decide +kernel
theorem dX11_mean_40 : decode cX11_mean 40 = .ok (.aload_n 0, 1) := by decide +kernel
theorem dX11_mean_41 : decode cX11_mean 41 = .ok (.getfield 23, 3) := by decide +kernel
theorem dX11_mean_44 : decode cX11_mean 44 = .ok (.getfield 127, 3) := by decide +kernel
theorem dX11_mean_47 : decode cX11_mean 47 = .ok (.iload 4, 2) := by decide +kernel
theorem dX11_mean_49 : decode cX11_mean 49 = .ok (.iadd, 1) := by decide +kernel
theorem dX11_mean_50 : decode cX11_mean 50 = .ok (.aload_n 0, 1) := by decide +kernel
theorem dX11_mean_51 : decode cX11_mean 51 = .ok (.getfield 23, 3) := by decide +kernel
theorem dX11_mean_54 : decode cX11_mean 54 = .ok (.getfield 120, 3) := by decide +kernel
theorem dX11_mean_57 : decode cX11_mean 57 = .ok (.aload_n 0, 1) := by decide +kernel
theorem dX11_mean_58 : decode cX11_mean 58 = .ok (.getfield 23, 3) := by decide +kernel
theorem dX11_mean_61 : decode cX11_mean 61 = .ok (.getfield 76, 3) := by decide +kernel
theorem dX11_mean_64 : decode cX11_mean 64 = .ok (.getfield 155, 3) := by decide +kernel
theorem dX11_mean_67 : decode cX11_mean 67 = .ok (.invokevirtual 171, 3) := by decide +kernel
theorem dX11_mean_70 : decode cX11_mean 70 = .ok (.iadd, 1) := by decide +kernel
theorem dX11_mean_71 : decode cX11_mean 71 = .ok (.istore_n 3, 1) := by decide +kernel
theorem dX11_mean_72 : decode cX11_mean 72 = .ok (.iinc 4 1, 3) := by decide +kernel
theorem dX11_mean_75 : decode cX11_mean 75 = .ok (.goto (-48), 3) := by decide +kernel
theorem dX11_mean_78 : decode cX11_mean 78 = .ok (.iload_n 3, 1) := by decide +kernel
theorem dX11_mean_79 : decode cX11_mean 79 = .ok (.bipush 28, 2) := by decide +kernel
theorem dX11_mean_81 : decode cX11_mean 81 = .ok (.iload_n 2, 1) := by decide +kernel
theorem dX11_mean_82 : decode cX11_mean 82 = .ok (.invokestatic 225, 3) := by decide +kernel
theorem dX11_mean_85 : decode cX11_mean 85 = .ok (.lreturn, 1) := by decide +kernel
theorem dX11_plan_0 : decode cX11_plan 0 = .ok (.iload_n 1, 1) := by decide +kernel
theorem dX11_plan_1 : decode cX11_plan 1 = .ok (.iconst (-1), 1) := by decide +kernel
theorem dX11_plan_2 : decode cX11_plan 2 = .ok (.if_icmp .ne 14, 3) := by decide +kernel
theorem dX11_plan_5 : decode cX11_plan 5 = .ok (.aload_n 0, 1) := by decide +kernel
theorem dX11_plan_6 : decode cX11_plan 6 = .ok (.getfield 23, 3) := by decide +kernel
theorem dX11_plan_9 : decode cX11_plan 9 = .ok (.getfield 229, 3) := by decide +kernel
theorem dX11_plan_12 : decode cX11_plan 12 = .ok (.invokevirtual 73, 3) := by decide +kernel
theorem dX11_plan_15 : decode cX11_plan 15 = .ok (.ireturn, 1) := by decide +kernel
theorem dX11_plan_16 : decode cX11_plan 16 = .ok (.iload_n 1, 1) := by decide +kernel
theorem dX11_plan_17 : decode cX11_plan 17 = .ok (.iconst 0, 1) := by decide +kernel
theorem dX11_plan_18 : decode cX11_plan 18 = .ok (.iconst 2, 1) := by decide +kernel
theorem dX11_plan_19 : decode cX11_plan 19 = .ok (.invokestatic 53, 3) := by decide +kernel
theorem dX11_plan_22 : decode cX11_plan 22 = .ok (.ifCond .eq 18, 3) := by decide +kernel
theorem dX11_plan_25 : decode cX11_plan 25 = .ok (.iload_n 1, 1) := by decide +kernel
theorem dX11_plan_26 : decode cX11_plan 26 = .ok (.ifCond .eq 16, 3) := by decide +kernel
theorem dX11_plan_29 : decode cX11_plan 29 = .ok (.aload_n 0, 1) := by decide +kernel
theorem dX11_plan_30 : decode cX11_plan 30 = .ok (.getfield 23, 3) := by decide +kernel
theorem dX11_plan_33 : decode cX11_plan 33 = .ok (.iload_n 2, 1) := by decide +kernel
theorem dX11_plan_34 : decode cX11_plan 34 = .ok (.invokevirtual 98, 3) := by decide +kernel
theorem dX11_plan_37 : decode cX11_plan 37 = .ok (.ifnonnull 5, 3) := by decide +kernel
theorem dX11_plan_40 : decode cX11_plan 40 = .ok (.iconst (-1), 1) := by decide +kernel
theorem dX11_plan_41 : decode cX11_plan 41 = .ok (.ireturn, 1) := by decide +kernel
theorem dX11_plan_42 : decode cX11_plan 42 = .ok (.aload_n 0, 1) := by decide +kernel
theorem dX11_plan_43 : decode cX11_plan 43 = .ok (.getfield 23, 3) := by decide +kernel
theorem dX11_plan_46 : decode cX11_plan 46 = .ok (.getfield 229, 3) := by decide +kernel
theorem dX11_plan_49 : decode cX11_plan 49 = .ok (.invokevirtual 57, 3) := by decide +kernel
theorem dX11_plan_52 : decode cX11_plan 52 = .ok (.ifCond .eq 8, 3) := by decide +kernel
theorem dX11_plan_55 : decode cX11_plan 55 = .ok (.bipush (-4), 2) := by decide +kernel
theorem dX11_plan_57 : decode cX11_plan 57 = .ok (.goto 24, 3) := by decide +kernel
theorem dX11_plan_60 : decode cX11_plan 60 = .ok (.aload_n 0, 1) := by decide +kernel
theorem dX11_plan_61 : decode cX11_plan 61 = .ok (.getfield 23, 3) := by decide +kernel
theorem dX11_plan_64 : decode cX11_plan 64 = .ok (.getfield 229, 3) := by decide +kernel
theorem dX11_plan_67 : decode cX11_plan 67 = .ok (.iload_n 1, 1) := by decide +kernel
theorem dX11_plan_68 : decode cX11_plan 68 = .ok (.iload_n 1, 1) := by decide +kernel
theorem dX11_plan_69 : decode cX11_plan 69 = .ok (.ifCond .ne 7, 3) := by decide +kernel
theorem dX11_plan_72 : decode cX11_plan 72 = .ok (.iconst 0, 1) := by decide +kernel
theorem dX11_plan_73 : decode cX11_plan 73 = .ok (.goto 4, 3) := by decide +kernel
theorem dX11_plan_76 : decode cX11_plan 76 = .ok (.iload_n 2, 1) := by decide +kernel
theorem dX11_plan_77 : decode cX11_plan 77 = .ok (.iconst 0, 1) := by decide +kernel
theorem dX11_plan_78 : decode cX11_plan 78 = .ok (.invokevirtual 213, 3) := by decide +kernel
theorem dX11_plan_81 : decode cX11_plan 81 = .ok (.ireturn, 1) := by decide +kernel
theorem dX11_done_0 : decode cX11_done 0 = .ok (.iload_n 1, 1) := by decide +kernel
theorem dX11_done_1 : decode cX11_done 1 = .ok (.iconst 0, 1) := by decide +kernel
theorem dX11_done_2 : decode cX11_done 2 = .ok (.iconst 1, 1) := by decide +kernel
theorem dX11_done_3 : decode cX11_done 3 = .ok (.invokestatic 53, 3) := by decide +kernel
theorem dX11_done_6 : decode cX11_done 6 = .ok (.ifCond .ne 5, 3) := by decide +kernel
theorem dX11_done_9 : decode cX11_done 9 = .ok (.iconst (-1), 1) := by decide +kernel
theorem dX11_done_10 : decode cX11_done 10 = .ok (.ireturn, 1) := by decide +kernel
theorem dX11_done_11 : decode cX11_done 11 = .ok (.aload_n 0, 1) := by decide +kernel
theorem dX11_done_12 : decode cX11_done 12 = .ok (.getfield 23, 3) := by decide +kernel
theorem dX11_done_15 : decode cX11_done 15 = .ok (.getfield 127, 3) := by decide +kernel
theorem dX11_done_18 : decode cX11_done 18 = .ok (.istore_n 2, 1) := by decide +kernel
theorem dX11_done_19 : decode cX11_done 19 = .ok (.aload_n 0, 1) := by decide +kernel
theorem dX11_done_20 : decode cX11_done 20 = .ok (.getfield 23, 3) := by decide +kernel
theorem dX11_done_23 : decode cX11_done 23 = .ok (.getfield 120, 3) := by decide +kernel
theorem dX11_done_26 : decode cX11_done 26 = .ok (.istore_n 3, 1) := by decide +kernel
theorem dX11_done_27 : decode cX11_done 27 = .ok (.aload_n 0, 1) := by decide +kernel
theorem dX11_done_28 : decode cX11_done 28 = .ok (.getfield 23, 3) := by decide +kernel
theorem dX11_done_31 : decode cX11_done 31 = .ok (.getfield 168, 3) := by decide +kernel
theorem dX11_done_34 : decode cX11_done 34 = .ok (.iload_n 1, 1) := by decide +kernel
theorem dX11_done_35 : decode cX11_done 35 = .ok (.invokestatic 113, 3) := by decide +kernel
theorem dX11_done_38 : decode cX11_done 38 = .ok (.istore 4, 2) := by decide +kernel
theorem dX11_done_40 : decode cX11_done 40 = .ok (.iconst 0, 1) := by decide +kernel
theorem dX11_done_41 : decode cX11_done 41 = .ok (.istore 5, 2) := by decide +kernel
theorem dX11_done_43 : decode cX11_done 43 = .ok (.iload 5, 2) := by decide +kernel
theorem dX11_done_45 : decode cX11_done 45 = .ok (.aload_n 0, 1) := by decide +kernel
theorem dX11_done_46 : decode cX11_done 46 = .ok (.getfield 23, 3) := by decide +kernel
theorem dX11_done_49 : decode cX11_done 49 = .ok (.getfield 229, 3) := by decide +kernel
theorem dX11_done_52 : decode cX11_done 52 = .ok (.getfield 232, 3) := by decide +kernel
theorem dX11_done_55 : decode cX11_done 55 = .ok (.if_icmp .ge 101, 3) := by decide +kernel
theorem dX11_done_58 : decode cX11_done 58 = .ok (.aload_n 0, 1) := by decide +kernel
theorem dX11_done_59 : decode cX11_done 59 = .ok (.getfield 23, 3) := by decide +kernel
theorem dX11_done_62 : decode cX11_done 62 = .ok (.getfield 229, 3) := by decide +kernel
theorem dX11_done_65 : decode cX11_done 65 = .ok (.iload 5, 2) := by decide +kernel
theorem dX11_done_67 : decode cX11_done 67 = .ok (.iconst 0, 1) := by decide +kernel
theorem dX11_done_68 : decode cX11_done 68 = .ok (.invokevirtual 235, 3) := by decide +kernel
theorem dX11_done_71 : decode cX11_done 71 = .ok (.istore 6, 2) := by decide +kernel
theorem dX11_done_73 : decode cX11_done 73 = .ok (.iload 6, 2) := by decide +kernel
theorem dX11_done_75 : decode cX11_done 75 = .ok (.ifCond .eq 35, 3) := by decide +kernel
theorem dX11_done_78 : decode cX11_done 78 = .ok (.iload_n 3, 1) := by decide +kernel
theorem dX11_done_79 : decode cX11_done 79 = .ok (.aload_n 0, 1) := by decide +kernel
theorem dX11_done_80 : decode cX11_done 80 = .ok (.getfield 23, 3) := by decide +kernel
theorem dX11_done_83 : decode cX11_done 83 = .ok (.getfield 229, 3) := by decide +kernel
theorem dX11_done_86 : decode cX11_done 86 = .ok (.iload 5, 2) := by decide +kernel
theorem dX11_done_88 : decode cX11_done 88 = .ok (.iconst 1, 1) := by decide +kernel
theorem dX11_done_89 : decode cX11_done 89 = .ok (.invokevirtual 235, 3) := by decide +kernel
theorem dX11_done_92 : decode cX11_done 92 = .ok (.iload 6, 2) := by decide +kernel
theorem dX11_done_94 : decode cX11_done 94 = .ok (.iconst 1, 1) := by decide +kernel
theorem dX11_done_95 : decode cX11_done 95 = .ok (.if_icmp .ne 7, 3) := by decide +kernel
theorem dX11_done_98 : decode cX11_done 98 = .ok (.iconst 1, 1) := by decide +kernel
theorem dX11_done_99 : decode cX11_done 99 = .ok (.goto 4, 3) := by decide +kernel
theorem dX11_done_102 : decode cX11_done 102 = .ok (.iconst 0, 1) := by decide +kernel
theorem dX11_done_103 : decode cX11_done 103 = .ok (.invokestatic 148, 3) := by decide +kernel
theorem dX11_done_106 : decode cX11_done 106 = .ok (.istore_n 3, 1) := by decide +kernel
theorem dX11_done_107 : decode cX11_done 107 = .ok (.goto 43, 3) := by decide +kernel
theorem dX11_done_110 : decode cX11_done 110 = .ok (.aload_n 0, 1) := by decide +kernel
theorem dX11_done_111 : decode cX11_done 111 = .ok (.getfield 23, 3) := by decide +kernel
theorem dX11_done_114 : decode cX11_done 114 = .ok (.iload_n 2, 1) := by decide +kernel
theorem dX11_done_115 : decode cX11_done 115 = .ok (.invokevirtual 158, 3) := by decide +kernel
theorem dX11_done_118 : decode cX11_done 118 = .ok (.iload_n 1, 1) := by decide +kernel
theorem dX11_done_119 : decode cX11_done 119 = .ok (.if_icmp .ne 28, 3) := by decide +kernel
theorem dX11_done_122 : decode cX11_done 122 = .ok (.iload 4, 2) := by decide +kernel
theorem dX11_done_124 : decode cX11_done 124 = .ok (.aload_n 0, 1) := by decide +kernel
theorem dX11_done_125 : decode cX11_done 125 = .ok (.getfield 23, 3) := by decide +kernel
theorem dX11_done_128 : decode cX11_done 128 = .ok (.iload_n 1, 1) := by decide +kernel
theorem dX11_done_129 : decode cX11_done 129 = .ok (.iload_n 2, 1) := by decide +kernel
theorem dX11_done_130 : decode cX11_done 130 = .ok (.iload_n 3, 1) := by decide +kernel
theorem dX11_done_131 : decode cX11_done 131 = .ok (.aload_n 0, 1) := by decide +kernel
theorem dX11_done_132 : decode cX11_done 132 = .ok (.getfield 23, 3) := by decide +kernel
theorem dX11_done_135 : decode cX11_done 135 = .ok (.getfield 76, 3) := by decide +kernel
theorem dX11_done_138 : decode cX11_done 138 = .ok (.getfield 155, 3) := by decide +kernel
theorem dX11_done_141 : decode cX11_done 141 = .ok (.invokevirtual 171, 3) := by decide +kernel
theorem dX11_done_144 : decode cX11_done 144 = .ok (.iadd, 1) := by decide +kernel
theorem dX11_done_145 : decode cX11_done 145 = .ok (.istore 4, 2) := by decide +kernel
theorem dX11_done_147 : decode cX11_done 147 = .ok (.iinc 2 1, 3) := by decide +kernel
theorem dX11_done_150 : decode cX11_done 150 = .ok (.iinc 5 1, 3) := by decide +kernel
theorem dX11_done_153 : decode cX11_done 153 = .ok (.goto (-110), 3) := by decide +kernel
theorem dX11_done_156 : decode cX11_done 156 = .ok (.iload 4, 2) := by decide +kernel
theorem dX11_done_158 : decode cX11_done 158 = .ok (.ireturn, 1) := by decide +kernel
theorem dX11_book_0 : decode cX11_book 0 = .ok (.iload_n 1, 1) := by decide +kernel
theorem dX11_book_1 : decode cX11_book 1 = .ok (.iconst (-1), 1) := by decide +kernel
theorem dX11_book_2 : decode cX11_book 2 = .ok (.if_icmp .ne 14, 3) := by decide +kernel
theorem dX11_book_5 : decode cX11_book 5 = .ok (.aload_n 0, 1) := by decide +kernel
theorem dX11_book_6 : decode cX11_book 6 = .ok (.getfield 23, 3) := by decide +kernel
theorem dX11_book_9 : decode cX11_book 9 = .ok (.getfield 238, 3) := by decide +kernel
theorem dX11_book_12 : decode cX11_book 12 = .ok (.invokevirtual 73, 3) := by decide +kernel
theorem dX11_book_15 : decode cX11_book 15 = .ok (.ireturn, 1) := by decide +kernel
theorem dX11_book_16 : decode cX11_book 16 = .ok (.iload_n 2, 1) := by decide +kernel
theorem dX11_book_17 : decode cX11_book 17 = .ok (.iconst 0, 1) := by decide +kernel
theorem dX11_book_18 : decode cX11_book 18 = .ok (.iconst 1, 1) := by decide +kernel
theorem dX11_book_19 : decode cX11_book 19 = .ok (.invokestatic 53, 3) := by decide +kernel
theorem dX11_book_22 : decode cX11_book 22 = .ok (.ifCond .ne 5, 3) := by decide +kernel
theorem dX11_book_25 : decode cX11_book 25 = .ok (.iconst (-1), 1) := by decide +kernel
theorem dX11_book_26 : decode cX11_book 26 = .ok (.ireturn, 1) := by decide +kernel
theorem dX11_book_27 : decode cX11_book 27 = .ok (.iload_n 1, 1) := by decide +kernel
theorem dX11_book_28 : decode cX11_book 28 = .ok (.iconst 0, 1) := by decide +kernel
theorem dX11_book_29 : decode cX11_book 29 = .ok (.bipush 60, 2) := by decide +kernel
theorem dX11_book_31 : decode cX11_book 31 = .ok (.invokestatic 53, 3) := by decide +kernel
theorem dX11_book_34 : decode cX11_book 34 = .ok (.ifCond .ne 6, 3) := by decide +kernel
theorem dX11_book_37 : decode cX11_book 37 = .ok (.bipush (-2), 2) := by decide +kernel
theorem dX11_book_39 : decode cX11_book 39 = .ok (.ireturn, 1) := by decide +kernel
theorem dX11_book_40 : decode cX11_book 40 = .ok (.aload_n 0, 1) := by decide +kernel
theorem dX11_book_41 : decode cX11_book 41 = .ok (.getfield 23, 3) := by decide +kernel
theorem dX11_book_44 : decode cX11_book 44 = .ok (.getfield 238, 3) := by decide +kernel
theorem dX11_book_47 : decode cX11_book 47 = .ok (.invokevirtual 57, 3) := by decide +kernel
theorem dX11_book_50 : decode cX11_book 50 = .ok (.ifCond .eq 8, 3) := by decide +kernel
theorem dX11_book_53 : decode cX11_book 53 = .ok (.bipush (-4), 2) := by decide +kernel
theorem dX11_book_55 : decode cX11_book 55 = .ok (.goto 16, 3) := by decide +kernel
theorem dX11_book_58 : decode cX11_book 58 = .ok (.aload_n 0, 1) := by decide +kernel
theorem dX11_book_59 : decode cX11_book 59 = .ok (.getfield 23, 3) := by decide +kernel
theorem dX11_book_62 : decode cX11_book 62 = .ok (.getfield 238, 3) := by decide +kernel
theorem dX11_book_65 : decode cX11_book 65 = .ok (.iload_n 1, 1) := by decide +kernel
theorem dX11_book_66 : decode cX11_book 66 = .ok (.iload_n 2, 1) := by decide +kernel
theorem dX11_book_67 : decode cX11_book 67 = .ok (.iconst 0, 1) := by decide +kernel
theorem dX11_book_68 : decode cX11_book 68 = .ok (.invokevirtual 213, 3) := by decide +kernel
theorem dX11_book_71 : decode cX11_book 71 = .ok (.ireturn, 1) := by decide +kernel
theorem dX11_looked_0 : decode cX11_looked 0 = .ok (.iconst 0, 1) := by decide +kernel
theorem dX11_looked_1 : decode cX11_looked 1 = .ok (.istore_n 1, 1) := by decide +kernel
theorem dX11_looked_2 : decode cX11_looked 2 = .ok (.iload_n 1, 1) := by decide +kernel
theorem dX11_looked_3 : decode cX11_looked 3 = .ok (.aload_n 0, 1) := by decide +kernel
theorem dX11_looked_4 : decode cX11_looked 4 = .ok (.getfield 23, 3) := by decide +kernel
theorem dX11_looked_7 : decode cX11_looked 7 = .ok (.getfield 238, 3) := by decide +kernel
theorem dX11_looked_10 : decode cX11_looked 10 = .ok (.getfield 232, 3) := by decide +kernel
theorem dX11_looked_13 : decode cX11_looked 13 = .ok (.if_icmp .ge 53, 3) := by decide +kernel
theorem dX11_looked_16 : decode cX11_looked 16 = .ok (.aload_n 0, 1) := by decide +kernel
theorem dX11_looked_17 : decode cX11_looked 17 = .ok (.getfield 23, 3) := by decide +kernel
theorem dX11_looked_20 : decode cX11_looked 20 = .ok (.aload_n 0, 1) := by decide +kernel
theorem dX11_looked_21 : decode cX11_looked 21 = .ok (.getfield 23, 3) := by decide +kernel
theorem dX11_looked_24 : decode cX11_looked 24 = .ok (.getfield 127, 3) := by decide +kernel
theorem dX11_looked_27 : decode cX11_looked 27 = .ok (.aload_n 0, 1) := by decide +kernel
theorem dX11_looked_28 : decode cX11_looked 28 = .ok (.getfield 23, 3) := by decide +kernel
theorem dX11_looked_31 : decode cX11_looked 31 = .ok (.getfield 238, 3) := by decide +kernel
theorem dX11_looked_34 : decode cX11_looked 34 = .ok (.iload_n 1, 1) := by decide +kernel
theorem dX11_looked_35 : decode cX11_looked 35 = .ok (.iconst 0, 1) := by decide +kernel
theorem dX11_looked_36 : decode cX11_looked 36 = .ok (.invokevirtual 235, 3) := by decide +kernel
theorem dX11_looked_39 : decode cX11_looked 39 = .ok (.iadd, 1) := by decide +kernel
theorem dX11_looked_40 : decode cX11_looked 40 = .ok (.invokevirtual 158, 3) := by decide +kernel
theorem dX11_looked_43 : decode cX11_looked 43 = .ok (.aload_n 0, 1) := by decide +kernel
theorem dX11_looked_44 : decode cX11_looked 44 = .ok (.getfield 23, 3) := by decide +kernel
theorem dX11_looked_47 : decode cX11_looked 47 = .ok (.getfield 238, 3) := by decide +kernel
theorem dX11_looked_50 : decode cX11_looked 50 = .ok (.iload_n 1, 1) := by decide +kernel
theorem dX11_looked_51 : decode cX11_looked 51 = .ok (.iconst 1, 1) := by decide +kernel
theorem dX11_looked_52 : decode cX11_looked 52 = .ok (.invokevirtual 235, 3) := by decide +kernel
theorem dX11_looked_55 : decode cX11_looked 55 = .ok (.if_icmp .eq 5, 3) := by decide +kernel
theorem dX11_looked_58 : decode cX11_looked 58 = .ok (.iload_n 1, 1) := by decide +kernel
theorem dX11_looked_59 : decode cX11_looked 59 = .ok (.ireturn, 1) := by decide +kernel
theorem dX11_looked_60 : decode cX11_looked 60 = .ok (.iinc 1 1, 3) := by decide +kernel
theorem dX11_looked_63 : decode cX11_looked 63 = .ok (.goto (-61), 3) := by decide +kernel
theorem dX11_looked_66 : decode cX11_looked 66 = .ok (.bipush (-5), 2) := by decide +kernel
theorem dX11_looked_68 : decode cX11_looked 68 = .ok (.ireturn, 1) := by decide +kernel
theorem dX11_act_0 : decode cX11_act 0 = .ok (.aload_n 0, 1) := by decide +kernel
theorem dX11_act_1 : decode cX11_act 1 = .ok (.getfield 16, 3) := by decide +kernel
theorem dX11_act_4 : decode cX11_act 4 = .ok (.invokevirtual 73, 3) := by decide +kernel
theorem dX11_act_7 : decode cX11_act 7 = .ok (.pop, 1) := by decide +kernel
theorem dX11_act_8 : decode cX11_act 8 = .ok (.aload_n 0, 1) := by decide +kernel
theorem dX11_act_9 : decode cX11_act 9 = .ok (.getfield 23, 3) := by decide +kernel
theorem dX11_act_12 : decode cX11_act 12 = .ok (.iload_n 1, 1) := by decide +kernel
theorem dX11_act_13 : decode cX11_act 13 = .ok (.invokevirtual 98, 3) := by decide +kernel
theorem dX11_act_16 : decode cX11_act 16 = .ok (.astore 4, 2) := by decide +kernel
theorem dX11_act_18 : decode cX11_act 18 = .ok (.aload 4, 2) := by decide +kernel
theorem dX11_act_20 : decode cX11_act 20 = .ok (.ifnonnull 5, 3) := by decide +kernel
theorem dX11_act_23 : decode cX11_act 23 = .ok (.iconst 0, 1) := by decide +kernel
theorem dX11_act_24 : decode cX11_act 24 = .ok (.ireturn, 1) := by decide +kernel
theorem dX11_act_25 : decode cX11_act 25 = .ok (.iload_n 2, 1) := by decide +kernel
theorem dX11_act_26 : decode cX11_act 26 = .ok (.tableswitch 47 0 2 #[26, 33, 40], 26) := by decide +kernel
theorem dX11_act_52 : decode cX11_act 52 = .ok (.aload 4, 2) := by decide +kernel
theorem dX11_act_54 : decode cX11_act 54 = .ok (.iload_n 3, 1) := by decide +kernel
theorem dX11_act_55 : decode cX11_act 55 = .ok (.invokevirtual 241, 3) := by decide +kernel
theorem dX11_act_58 : decode cX11_act 58 = .ok (.ireturn, 1) := by decide +kernel
theorem dX11_act_59 : decode cX11_act 59 = .ok (.aload 4, 2) := by decide +kernel
theorem dX11_act_61 : decode cX11_act 61 = .ok (.iload_n 3, 1) := by decide +kernel
theorem dX11_act_62 : decode cX11_act 62 = .ok (.invokevirtual 244, 3) := by decide +kernel
theorem dX11_act_65 : decode cX11_act 65 = .ok (.ireturn, 1) := by decide +kernel
theorem dX11_act_66 : decode cX11_act 66 = .ok (.aload 4, 2) := by decide +kernel
theorem dX11_act_68 : decode cX11_act 68 = .ok (.iload_n 3, 1) := by decide +kernel
theorem dX11_act_69 : decode cX11_act 69 = .ok (.invokevirtual 247, 3) := by decide +kernel
theorem dX11_act_72 : decode cX11_act 72 = .ok (.ireturn, 1) := by decide +kernel
theorem dX11_act_73 : decode cX11_act 73 = .ok (.iconst 0, 1) := by decide +kernel
theorem dX11_act_74 : decode cX11_act 74 = .ok (.ireturn, 1) := by decide +kernel
theorem dX11_trace_0 : decode cX11_trace 0 = .ok (.iload_n 1, 1) := by decide +kernel
theorem dX11_trace_1 : decode cX11_trace 1 = .ok (.ifCond .lt 32, 3) := by decide +kernel
theorem dX11_trace_4 : decode cX11_trace 4 = .ok (.iload_n 1, 1) := by decide +kernel
theorem dX11_trace_5 : decode cX11_trace 5 = .ok (.aload_n 0, 1) := by decide +kernel
theorem dX11_trace_6 : decode cX11_trace 6 = .ok (.getfield 16, 3) := by decide +kernel
theorem dX11_trace_9 : decode cX11_trace 9 = .ok (.getfield 232, 3) := by decide +kernel
theorem dX11_trace_12 : decode cX11_trace 12 = .ok (.if_icmp .ge 21, 3) := by decide +kernel
theorem dX11_trace_15 : decode cX11_trace 15 = .ok (.iload_n 1, 1) := by decide +kernel
theorem dX11_trace_16 : decode cX11_trace 16 = .ok (.bipush 20, 2) := by decide +kernel
theorem dX11_trace_18 : decode cX11_trace 18 = .ok (.if_icmp .ge 15, 3) := by decide +kernel
theorem dX11_trace_21 : decode cX11_trace 21 = .ok (.aload_n 0, 1) := by decide +kernel
theorem dX11_trace_22 : decode cX11_trace 22 = .ok (.getfield 16, 3) := by decide +kernel
theorem dX11_trace_25 : decode cX11_trace 25 = .ok (.iload_n 1, 1) := by decide +kernel
theorem dX11_trace_26 : decode cX11_trace 26 = .ok (.iconst 0, 1) := by decide +kernel
theorem dX11_trace_27 : decode cX11_trace 27 = .ok (.invokevirtual 235, 3) := by decide +kernel
theorem dX11_trace_30 : decode cX11_trace 30 = .ok (.goto 4, 3) := by decide +kernel
theorem dX11_trace_33 : decode cX11_trace 33 = .ok (.iconst (-1), 1) := by decide +kernel
theorem dX11_trace_34 : decode cX11_trace 34 = .ok (.ireturn, 1) := by decide +kernel
theorem dX11_as_0 : decode cX11_as 0 = .ok (.aload_n 0, 1) := by decide +kernel
theorem dX11_as_1 : decode cX11_as 1 = .ok (.getfield 23, 3) := by decide +kernel
theorem dX11_as_4 : decode cX11_as 4 = .ok (.iload_n 1, 1) := by decide +kernel
theorem dX11_as_5 : decode cX11_as 5 = .ok (.invokevirtual 98, 3) := by decide +kernel
theorem dX11_as_8 : decode cX11_as 8 = .ok (.astore_n 3, 1) := by decide +kernel
theorem dX11_as_9 : decode cX11_as 9 = .ok (.aload_n 3, 1) := by decide +kernel
theorem dX11_as_10 : decode cX11_as 10 = .ok (.ifnull 13, 3) := by decide +kernel
theorem dX11_as_13 : decode cX11_as 13 = .ok (.iload_n 2, 1) := by decide +kernel
theorem dX11_as_14 : decode cX11_as 14 = .ok (.iconst 0, 1) := by decide +kernel
theorem dX11_as_15 : decode cX11_as 15 = .ok (.bipush 6, 2) := by decide +kernel
theorem dX11_as_17 : decode cX11_as 17 = .ok (.invokestatic 53, 3) := by decide +kernel
theorem dX11_as_20 : decode cX11_as 20 = .ok (.ifCond .ne 5, 3) := by decide +kernel
theorem dX11_as_23 : decode cX11_as 23 = .ok (.iconst (-1), 1) := by decide +kernel
theorem dX11_as_24 : decode cX11_as 24 = .ok (.ireturn, 1) := by decide +kernel
theorem dX11_as_25 : decode cX11_as 25 = .ok (.aload_n 3, 1) := by decide +kernel
theorem dX11_as_26 : decode cX11_as 26 = .ok (.iload_n 2, 1) := by decide +kernel
theorem dX11_as_27 : decode cX11_as 27 = .ok (.invokestatic 250, 3) := by decide +kernel
theorem dX11_as_30 : decode cX11_as 30 = .ok (.ifCond .eq 10, 3) := by decide +kernel
theorem dX11_as_33 : decode cX11_as 33 = .ok (.aload_n 3, 1) := by decide +kernel
theorem dX11_as_34 : decode cX11_as 34 = .ok (.getfield 107, 3) := by decide +kernel
theorem dX11_as_37 : decode cX11_as 37 = .ok (.goto 5, 3) := by decide +kernel
theorem dX11_as_40 : decode cX11_as 40 = .ok (.bipush (-6), 2) := by decide +kernel
theorem dX11_as_42 : decode cX11_as 42 = .ok (.ireturn, 1) := by decide +kernel
theorem dX11_image_0 : decode cX11_image 0 = .ok (.aload_n 0, 1) := by decide +kernel
theorem dX11_image_1 : decode cX11_image 1 = .ok (.getfield 27, 3) := by decide +kernel
theorem dX11_image_4 : decode cX11_image 4 = .ok (.aload_n 0, 1) := by decide +kernel
theorem dX11_image_5 : decode cX11_image 5 = .ok (.getfield 23, 3) := by decide +kernel
theorem dX11_image_8 : decode cX11_image 8 = .ok (.invokevirtual 254, 3) := by decide +kernel
theorem dX11_image_11 : decode cX11_image 11 = .ok (.aload_n 0, 1) := by decide +kernel
theorem dX11_image_12 : decode cX11_image 12 = .ok (.iconst 1, 1) := by decide +kernel
theorem dX11_image_13 : decode cX11_image 13 = .ok (.putfield 49, 3) := by decide +kernel
theorem dX11_image_16 : decode cX11_image 16 = .ok (.aload_n 0, 1) := by decide +kernel
theorem dX11_image_17 : decode cX11_image 17 = .ok (.getfield 23, 3) := by decide +kernel
theorem dX11_image_20 : decode cX11_image 20 = .ok (.getfield 87, 3) := by decide +kernel
theorem dX11_image_23 : decode cX11_image 23 = .ok (.ireturn, 1) := by decide +kernel
theorem dX11_undo_0 : decode cX11_undo 0 = .ok (.aload_n 0, 1) := by decide +kernel
theorem dX11_undo_1 : decode cX11_undo 1 = .ok (.getfield 49, 3) := by decide +kernel
theorem dX11_undo_4 : decode cX11_undo 4 = .ok (.ifCond .ne 6, 3) := by decide +kernel
theorem dX11_undo_7 : decode cX11_undo 7 = .ok (.bipush (-3), 2) := by decide +kernel
theorem dX11_undo_9 : decode cX11_undo 9 = .ok (.ireturn, 1) := by decide +kernel
theorem dX11_undo_10 : decode cX11_undo 10 = .ok (.aload_n 0, 1) := by decide +kernel
theorem dX11_undo_11 : decode cX11_undo 11 = .ok (.getfield 23, 3) := by decide +kernel
theorem dX11_undo_14 : decode cX11_undo 14 = .ok (.aload_n 0, 1) := by decide +kernel
theorem dX11_undo_15 : decode cX11_undo 15 = .ok (.getfield 27, 3) := by decide +kernel
theorem dX11_undo_18 : decode cX11_undo 18 = .ok (.invokevirtual 254, 3) := by decide +kernel
theorem dX11_undo_21 : decode cX11_undo 21 = .ok (.aload_n 0, 1) := by decide +kernel
theorem dX11_undo_22 : decode cX11_undo 22 = .ok (.getfield 23, 3) := by decide +kernel
theorem dX11_undo_25 : decode cX11_undo 25 = .ok (.getfield 87, 3) := by decide +kernel
theorem dX11_undo_28 : decode cX11_undo 28 = .ok (.ireturn, 1) := by decide +kernel
theorem dX11_count_0 : decode cX11_count 0 = .ok (.iload_n 1, 1) := by decide +kernel
theorem dX11_count_1 : decode cX11_count 1 = .ok (.tableswitch 111 0 6 #[43, 51, 59, 70, 81, 92, 103], 43) := by decide +kernel
theorem dX11_count_44 : decode cX11_count 44 = .ok (.aload_n 0, 1) := by decide +kernel
theorem dX11_count_45 : decode cX11_count 45 = .ok (.getfield 23, 3) := by decide +kernel
theorem dX11_count_48 : decode cX11_count 48 = .ok (.getfield 87, 3) := by decide +kernel
theorem dX11_count_51 : decode cX11_count 51 = .ok (.ireturn, 1) := by decide +kernel
theorem dX11_count_52 : decode cX11_count 52 = .ok (.aload_n 0, 1) := by decide +kernel
theorem dX11_count_53 : decode cX11_count 53 = .ok (.getfield 23, 3) := by decide +kernel
theorem dX11_count_56 : decode cX11_count 56 = .ok (.getfield 65, 3) := by decide +kernel
theorem dX11_count_59 : decode cX11_count 59 = .ok (.ireturn, 1) := by decide +kernel
theorem dX11_count_60 : decode cX11_count 60 = .ok (.aload_n 0, 1) := by decide +kernel
theorem dX11_count_61 : decode cX11_count 61 = .ok (.getfield 23, 3) := by decide +kernel
theorem dX11_count_64 : decode cX11_count 64 = .ok (.getfield 210, 3) := by decide +kernel
theorem dX11_count_67 : decode cX11_count 67 = .ok (.getfield 232, 3) := by decide +kernel
theorem dX11_count_70 : decode cX11_count 70 = .ok (.ireturn, 1) := by decide +kernel
theorem dX11_count_71 : decode cX11_count 71 = .ok (.aload_n 0, 1) := by decide +kernel
theorem dX11_count_72 : decode cX11_count 72 = .ok (.getfield 23, 3) := by decide +kernel
theorem dX11_count_75 : decode cX11_count 75 = .ok (.getfield 229, 3) := by decide +kernel
theorem dX11_count_78 : decode cX11_count 78 = .ok (.getfield 232, 3) := by decide +kernel
theorem dX11_count_81 : decode cX11_count 81 = .ok (.ireturn, 1) := by decide +kernel
theorem dX11_count_82 : decode cX11_count 82 = .ok (.aload_n 0, 1) := by decide +kernel
theorem dX11_count_83 : decode cX11_count 83 = .ok (.getfield 23, 3) := by decide +kernel
theorem dX11_count_86 : decode cX11_count 86 = .ok (.getfield 238, 3) := by decide +kernel
theorem dX11_count_89 : decode cX11_count 89 = .ok (.getfield 232, 3) := by decide +kernel
theorem dX11_count_92 : decode cX11_count 92 = .ok (.ireturn, 1) := by decide +kernel
theorem dX11_count_93 : decode cX11_count 93 = .ok (.aload_n 0, 1) := by decide +kernel
theorem dX11_count_94 : decode cX11_count 94 = .ok (.getfield 23, 3) := by decide +kernel
theorem dX11_count_97 : decode cX11_count 97 = .ok (.getfield 32, 3) := by decide +kernel
theorem dX11_count_100 : decode cX11_count 100 = .ok (.getfield 232, 3) := by decide +kernel
theorem dX11_count_103 : decode cX11_count 103 = .ok (.ireturn, 1) := by decide +kernel
theorem dX11_count_104 : decode cX11_count 104 = .ok (.aload_n 0, 1) := by decide +kernel
theorem dX11_count_105 : decode cX11_count 105 = .ok (.getfield 16, 3) := by decide +kernel
theorem dX11_count_108 : decode cX11_count 108 = .ok (.getfield 232, 3) := by decide +kernel
theorem dX11_count_111 : decode cX11_count 111 = .ok (.ireturn, 1) := by decide +kernel
theorem dX11_count_112 : decode cX11_count 112 = .ok (.iconst (-1), 1) := by decide +kernel
theorem dX11_count_113 : decode cX11_count 113 = .ok (.ireturn, 1) := by decide +kernel
theorem dX11_newStar_0 : decode cX11_newStar 0 = .ok (.iload_n 1, 1) := by decide +kernel
theorem dX11_newStar_1 : decode cX11_newStar 1 = .ok (.tableswitch 129 1 6 #[39, 54, 69, 84, 99, 114], 39) := by decide +kernel
theorem dX11_newStar_40 : decode cX11_newStar 40 = .ok (.new 257, 3) := by decide +kernel
theorem dX11_newStar_43 : decode cX11_newStar 43 = .ok (.dup, 1) := by decide +kernel
theorem dX11_newStar_44 : decode cX11_newStar 44 = .ok (.iload_n 1, 1) := by decide +kernel
theorem dX11_newStar_45 : decode cX11_newStar 45 = .ok (.iload_n 2, 1) := by decide +kernel
theorem dX11_newStar_46 : decode cX11_newStar 46 = .ok (.iload_n 3, 1) := by decide +kernel
theorem dX11_newStar_47 : decode cX11_newStar 47 = .ok (.aload_n 0, 1) := by decide +kernel
theorem dX11_newStar_48 : decode cX11_newStar 48 = .ok (.getfield 16, 3) := by decide +kernel
theorem dX11_newStar_51 : decode cX11_newStar 51 = .ok (.invokespecial 259, 3) := by decide +kernel
theorem dX11_newStar_54 : decode cX11_newStar 54 = .ok (.areturn, 1) := by decide +kernel
theorem dX11_newStar_55 : decode cX11_newStar 55 = .ok (.new 262, 3) := by decide +kernel
theorem dX11_newStar_58 : decode cX11_newStar 58 = .ok (.dup, 1) := by decide +kernel
theorem dX11_newStar_59 : decode cX11_newStar 59 = .ok (.iload_n 1, 1) := by decide +kernel
theorem dX11_newStar_60 : decode cX11_newStar 60 = .ok (.iload_n 2, 1) := by decide +kernel
theorem dX11_newStar_61 : decode cX11_newStar 61 = .ok (.iload_n 3, 1) := by decide +kernel
theorem dX11_newStar_62 : decode cX11_newStar 62 = .ok (.aload_n 0, 1) := by decide +kernel
theorem dX11_newStar_63 : decode cX11_newStar 63 = .ok (.getfield 16, 3) := by decide +kernel
theorem dX11_newStar_66 : decode cX11_newStar 66 = .ok (.invokespecial 264, 3) := by decide +kernel
theorem dX11_newStar_69 : decode cX11_newStar 69 = .ok (.areturn, 1) := by decide +kernel
theorem dX11_newStar_70 : decode cX11_newStar 70 = .ok (.new 265, 3) := by decide +kernel
theorem dX11_newStar_73 : decode cX11_newStar 73 = .ok (.dup, 1) := by decide +kernel
theorem dX11_newStar_74 : decode cX11_newStar 74 = .ok (.iload_n 1, 1) := by decide +kernel
theorem dX11_newStar_75 : decode cX11_newStar 75 = .ok (.iload_n 2, 1) := by decide +kernel
theorem dX11_newStar_76 : decode cX11_newStar 76 = .ok (.iload_n 3, 1) := by decide +kernel
theorem dX11_newStar_77 : decode cX11_newStar 77 = .ok (.aload_n 0, 1) := by decide +kernel
theorem dX11_newStar_78 : decode cX11_newStar 78 = .ok (.getfield 16, 3) := by decide +kernel
theorem dX11_newStar_81 : decode cX11_newStar 81 = .ok (.invokespecial 267, 3) := by decide +kernel
theorem dX11_newStar_84 : decode cX11_newStar 84 = .ok (.areturn, 1) := by decide +kernel
theorem dX11_newStar_85 : decode cX11_newStar 85 = .ok (.new 268, 3) := by decide +kernel
theorem dX11_newStar_88 : decode cX11_newStar 88 = .ok (.dup, 1) := by decide +kernel
theorem dX11_newStar_89 : decode cX11_newStar 89 = .ok (.iload_n 1, 1) := by decide +kernel
theorem dX11_newStar_90 : decode cX11_newStar 90 = .ok (.iload_n 2, 1) := by decide +kernel
theorem dX11_newStar_91 : decode cX11_newStar 91 = .ok (.iload_n 3, 1) := by decide +kernel
theorem dX11_newStar_92 : decode cX11_newStar 92 = .ok (.aload_n 0, 1) := by decide +kernel
theorem dX11_newStar_93 : decode cX11_newStar 93 = .ok (.getfield 16, 3) := by decide +kernel
theorem dX11_newStar_96 : decode cX11_newStar 96 = .ok (.invokespecial 270, 3) := by decide +kernel
theorem dX11_newStar_99 : decode cX11_newStar 99 = .ok (.areturn, 1) := by decide +kernel
theorem dX11_newStar_100 : decode cX11_newStar 100 = .ok (.new 271, 3) := by decide +kernel
theorem dX11_newStar_103 : decode cX11_newStar 103 = .ok (.dup, 1) := by decide +kernel
theorem dX11_newStar_104 : decode cX11_newStar 104 = .ok (.iload_n 1, 1) := by decide +kernel
theorem dX11_newStar_105 : decode cX11_newStar 105 = .ok (.iload_n 2, 1) := by decide +kernel
theorem dX11_newStar_106 : decode cX11_newStar 106 = .ok (.iload_n 3, 1) := by decide +kernel
theorem dX11_newStar_107 : decode cX11_newStar 107 = .ok (.aload_n 0, 1) := by decide +kernel
theorem dX11_newStar_108 : decode cX11_newStar 108 = .ok (.getfield 16, 3) := by decide +kernel
theorem dX11_newStar_111 : decode cX11_newStar 111 = .ok (.invokespecial 273, 3) := by decide +kernel
theorem dX11_newStar_114 : decode cX11_newStar 114 = .ok (.areturn, 1) := by decide +kernel
theorem dX11_newStar_115 : decode cX11_newStar 115 = .ok (.new 274, 3) := by decide +kernel
theorem dX11_newStar_118 : decode cX11_newStar 118 = .ok (.dup, 1) := by decide +kernel
theorem dX11_newStar_119 : decode cX11_newStar 119 = .ok (.iload_n 1, 1) := by decide +kernel
theorem dX11_newStar_120 : decode cX11_newStar 120 = .ok (.iload_n 2, 1) := by decide +kernel
theorem dX11_newStar_121 : decode cX11_newStar 121 = .ok (.iload_n 3, 1) := by decide +kernel
theorem dX11_newStar_122 : decode cX11_newStar 122 = .ok (.aload_n 0, 1) := by decide +kernel
theorem dX11_newStar_123 : decode cX11_newStar 123 = .ok (.getfield 16, 3) := by decide +kernel
theorem dX11_newStar_126 : decode cX11_newStar 126 = .ok (.invokespecial 276, 3) := by decide +kernel
theorem dX11_newStar_129 : decode cX11_newStar 129 = .ok (.areturn, 1) := by decide +kernel
theorem dX11_newStar_130 : decode cX11_newStar 130 = .ok (.new 103, 3) := by decide +kernel
theorem dX11_newStar_133 : decode cX11_newStar 133 = .ok (.dup, 1) := by decide +kernel
theorem dX11_newStar_134 : decode cX11_newStar 134 = .ok (.iload_n 1, 1) := by decide +kernel
theorem dX11_newStar_135 : decode cX11_newStar 135 = .ok (.iload_n 2, 1) := by decide +kernel
theorem dX11_newStar_136 : decode cX11_newStar 136 = .ok (.iload_n 3, 1) := by decide +kernel
theorem dX11_newStar_137 : decode cX11_newStar 137 = .ok (.aload_n 0, 1) := by decide +kernel
theorem dX11_newStar_138 : decode cX11_newStar 138 = .ok (.getfield 16, 3) := by decide +kernel
theorem dX11_newStar_141 : decode cX11_newStar 141 = .ok (.invokespecial 277, 3) := by decide +kernel
theorem dX11_newStar_144 : decode cX11_newStar 144 = .ok (.areturn, 1) := by decide +kernel
theorem dX11_isOfKind_0 : decode cX11_isOfKind 0 = .ok (.iload_n 1, 1) := by decide +kernel
theorem dX11_isOfKind_1 : decode cX11_isOfKind 1 = .ok (.tableswitch 66 0 5 #[39, 41, 46, 51, 56, 61], 39) := by decide +kernel
theorem dX11_isOfKind_40 : decode cX11_isOfKind 40 = .ok (.iconst 1, 1) := by decide +kernel
theorem dX11_isOfKind_41 : decode cX11_isOfKind 41 = .ok (.ireturn, 1) := by decide +kernel
theorem dX11_isOfKind_42 : decode cX11_isOfKind 42 = .ok (.aload_n 0, 1) := by decide +kernel
theorem dX11_isOfKind_43 : decode cX11_isOfKind 43 = .ok (.instanceof 257, 3) := by decide +kernel
theorem dX11_isOfKind_46 : decode cX11_isOfKind 46 = .ok (.ireturn, 1) := by decide +kernel
theorem dX11_isOfKind_47 : decode cX11_isOfKind 47 = .ok (.aload_n 0, 1) := by decide +kernel
theorem dX11_isOfKind_48 : decode cX11_isOfKind 48 = .ok (.instanceof 262, 3) := by decide +kernel
theorem dX11_isOfKind_51 : decode cX11_isOfKind 51 = .ok (.ireturn, 1) := by decide +kernel
theorem dX11_isOfKind_52 : decode cX11_isOfKind 52 = .ok (.aload_n 0, 1) := by decide +kernel
theorem dX11_isOfKind_53 : decode cX11_isOfKind 53 = .ok (.instanceof 265, 3) := by decide +kernel
theorem dX11_isOfKind_56 : decode cX11_isOfKind 56 = .ok (.ireturn, 1) := by decide +kernel
theorem dX11_isOfKind_57 : decode cX11_isOfKind 57 = .ok (.aload_n 0, 1) := by decide +kernel
theorem dX11_isOfKind_58 : decode cX11_isOfKind 58 = .ok (.instanceof 268, 3) := by decide +kernel
theorem dX11_isOfKind_61 : decode cX11_isOfKind 61 = .ok (.ireturn, 1) := by decide +kernel
theorem dX11_isOfKind_62 : decode cX11_isOfKind 62 = .ok (.aload_n 0, 1) := by decide +kernel
theorem dX11_isOfKind_63 : decode cX11_isOfKind 63 = .ok (.instanceof 271, 3) := by decide +kernel
theorem dX11_isOfKind_66 : decode cX11_isOfKind 66 = .ok (.ireturn, 1) := by decide +kernel
theorem dX11_isOfKind_67 : decode cX11_isOfKind 67 = .ok (.aload_n 0, 1) := by decide +kernel
theorem dX11_isOfKind_68 : decode cX11_isOfKind 68 = .ok (.instanceof 274, 3) := by decide +kernel
theorem dX11_isOfKind_71 : decode cX11_isOfKind 71 = .ok (.ireturn, 1) := by decide +kernel
theorem dX11_nightsTill_0 : decode cX11_nightsTill 0 = .ok (.iconst 0, 1) := by decide +kernel
theorem dX11_nightsTill_1 : decode cX11_nightsTill 1 = .ok (.istore_n 3, 1) := by decide +kernel
theorem dX11_nightsTill_2 : decode cX11_nightsTill 2 = .ok (.iload_n 3, 1) := by decide +kernel
theorem dX11_nightsTill_3 : decode cX11_nightsTill 3 = .ok (.sipush 900, 3) := by decide +kernel
theorem dX11_nightsTill_6 : decode cX11_nightsTill 6 = .ok (.if_icmp .gt 62, 3) := by decide +kernel
theorem dX11_nightsTill_9 : decode cX11_nightsTill 9 = .ok (.aload_n 0, 1) := by decide +kernel
theorem dX11_nightsTill_10 : decode cX11_nightsTill 10 = .ok (.getfield 23, 3) := by decide +kernel
theorem dX11_nightsTill_13 : decode cX11_nightsTill 13 = .ok (.getfield 127, 3) := by decide +kernel
theorem dX11_nightsTill_16 : decode cX11_nightsTill 16 = .ok (.iload_n 3, 1) := by decide +kernel
theorem dX11_nightsTill_17 : decode cX11_nightsTill 17 = .ok (.iadd, 1) := by decide +kernel
theorem dX11_nightsTill_18 : decode cX11_nightsTill 18 = .ok (.istore 4, 2) := by decide +kernel
theorem dX11_nightsTill_20 : decode cX11_nightsTill 20 = .ok (.aload_n 0, 1) := by decide +kernel
theorem dX11_nightsTill_21 : decode cX11_nightsTill 21 = .ok (.getfield 23, 3) := by decide +kernel
theorem dX11_nightsTill_24 : decode cX11_nightsTill 24 = .ok (.iload_n 1, 1) := by decide +kernel
theorem dX11_nightsTill_25 : decode cX11_nightsTill 25 = .ok (.iload 4, 2) := by decide +kernel
theorem dX11_nightsTill_27 : decode cX11_nightsTill 27 = .ok (.aload_n 0, 1) := by decide +kernel
theorem dX11_nightsTill_28 : decode cX11_nightsTill 28 = .ok (.getfield 23, 3) := by decide +kernel
theorem dX11_nightsTill_31 : decode cX11_nightsTill 31 = .ok (.getfield 120, 3) := by decide +kernel
theorem dX11_nightsTill_34 : decode cX11_nightsTill 34 = .ok (.invokevirtual 130, 3) := by decide +kernel
theorem dX11_nightsTill_37 : decode cX11_nightsTill 37 = .ok (.ifCond .eq 25, 3) := by decide +kernel
theorem dX11_nightsTill_40 : decode cX11_nightsTill 40 = .ok (.aload_n 0, 1) := by decide +kernel
theorem dX11_nightsTill_41 : decode cX11_nightsTill 41 = .ok (.getfield 23, 3) := by decide +kernel
theorem dX11_nightsTill_44 : decode cX11_nightsTill 44 = .ok (.iload_n 2, 1) := by decide +kernel
theorem dX11_nightsTill_45 : decode cX11_nightsTill 45 = .ok (.iload 4, 2) := by decide +kernel
theorem dX11_nightsTill_47 : decode cX11_nightsTill 47 = .ok (.aload_n 0, 1) := by decide +kernel
theorem dX11_nightsTill_48 : decode cX11_nightsTill 48 = .ok (.getfield 23, 3) := by decide +kernel
theorem dX11_nightsTill_51 : decode cX11_nightsTill 51 = .ok (.getfield 120, 3) := by decide +kernel
theorem dX11_nightsTill_54 : decode cX11_nightsTill 54 = .ok (.invokevirtual 130, 3) := by decide +kernel
theorem dX11_nightsTill_57 : decode cX11_nightsTill 57 = .ok (.ifCond .eq 5, 3) := by decide +kernel
theorem dX11_nightsTill_60 : decode cX11_nightsTill 60 = .ok (.iload_n 3, 1) := by decide +kernel
theorem dX11_nightsTill_61 : decode cX11_nightsTill 61 = .ok (.ireturn, 1) := by decide +kernel
theorem dX11_nightsTill_62 : decode cX11_nightsTill 62 = .ok (.iinc 3 1, 3) := by decide +kernel
theorem dX11_nightsTill_65 : decode cX11_nightsTill 65 = .ok (.goto (-63), 3) := by decide +kernel
theorem dX11_nightsTill_68 : decode cX11_nightsTill 68 = .ok (.bipush (-5), 2) := by decide +kernel
theorem dX11_nightsTill_70 : decode cX11_nightsTill 70 = .ok (.ireturn, 1) := by decide +kernel
theorem dX11_fullestWay_0 : decode cX11_fullestWay 0 = .ok (.iconst 0, 1) := by decide +kernel
theorem dX11_fullestWay_1 : decode cX11_fullestWay 1 = .ok (.istore_n 3, 1) := by decide +kernel
theorem dX11_fullestWay_2 : decode cX11_fullestWay 2 = .ok (.iconst 0, 1) := by decide +kernel
theorem dX11_fullestWay_3 : decode cX11_fullestWay 3 = .ok (.istore 4, 2) := by decide +kernel
theorem dX11_fullestWay_5 : decode cX11_fullestWay 5 = .ok (.iload 4, 2) := by decide +kernel
theorem dX11_fullestWay_7 : decode cX11_fullestWay 7 = .ok (.iload_n 2, 1) := by decide +kernel
theorem dX11_fullestWay_8 : decode cX11_fullestWay 8 = .ok (.if_icmp .ge 36, 3) := by decide +kernel
theorem dX11_fullestWay_11 : decode cX11_fullestWay 11 = .ok (.iload_n 3, 1) := by decide +kernel
theorem dX11_fullestWay_12 : decode cX11_fullestWay 12 = .ok (.iload 4, 2) := by decide +kernel
theorem dX11_fullestWay_14 : decode cX11_fullestWay 14 = .ok (.aload_n 1, 1) := by decide +kernel
theorem dX11_fullestWay_15 : decode cX11_fullestWay 15 = .ok (.iload 4, 2) := by decide +kernel
theorem dX11_fullestWay_17 : decode cX11_fullestWay 17 = .ok (.invokestatic 113, 3) := by decide +kernel
theorem dX11_fullestWay_20 : decode cX11_fullestWay 20 = .ok (.aload_n 0, 1) := by decide +kernel
theorem dX11_fullestWay_21 : decode cX11_fullestWay 21 = .ok (.iload 4, 2) := by decide +kernel
theorem dX11_fullestWay_23 : decode cX11_fullestWay 23 = .ok (.invokestatic 113, 3) := by decide +kernel
theorem dX11_fullestWay_26 : decode cX11_fullestWay 26 = .ok (.if_icmp .le 7, 3) := by decide +kernel
theorem dX11_fullestWay_29 : decode cX11_fullestWay 29 = .ok (.iconst 1, 1) := by decide +kernel
theorem dX11_fullestWay_30 : decode cX11_fullestWay 30 = .ok (.goto 4, 3) := by decide +kernel
theorem dX11_fullestWay_33 : decode cX11_fullestWay 33 = .ok (.iconst 0, 1) := by decide +kernel
theorem dX11_fullestWay_34 : decode cX11_fullestWay 34 = .ok (.invokestatic 148, 3) := by decide +kernel
theorem dX11_fullestWay_37 : decode cX11_fullestWay 37 = .ok (.istore_n 3, 1) := by decide +kernel
theorem dX11_fullestWay_38 : decode cX11_fullestWay 38 = .ok (.iinc 4 1, 3) := by decide +kernel
theorem dX11_fullestWay_41 : decode cX11_fullestWay 41 = .ok (.goto (-36), 3) := by decide +kernel
theorem dX11_fullestWay_44 : decode cX11_fullestWay 44 = .ok (.iload_n 3, 1) := by decide +kernel
theorem dX11_fullestWay_45 : decode cX11_fullestWay 45 = .ok (.ireturn, 1) := by decide +kernel
theorem dX11_evenestWay_0 : decode cX11_evenestWay 0 = .ok (.iconst 0, 1) := by decide +kernel
theorem dX11_evenestWay_1 : decode cX11_evenestWay 1 = .ok (.istore_n 3, 1) := by decide +kernel
theorem dX11_evenestWay_2 : decode cX11_evenestWay 2 = .ok (.iconst (-1), 1) := by decide +kernel
theorem dX11_evenestWay_3 : decode cX11_evenestWay 3 = .ok (.istore 4, 2) := by decide +kernel
theorem dX11_evenestWay_5 : decode cX11_evenestWay 5 = .ok (.iconst (-1), 1) := by decide +kernel
theorem dX11_evenestWay_6 : decode cX11_evenestWay 6 = .ok (.istore 5, 2) := by decide +kernel
theorem dX11_evenestWay_8 : decode cX11_evenestWay 8 = .ok (.iconst 0, 1) := by decide +kernel
theorem dX11_evenestWay_9 : decode cX11_evenestWay 9 = .ok (.istore 6, 2) := by decide +kernel
theorem dX11_evenestWay_11 : decode cX11_evenestWay 11 = .ok (.iload 6, 2) := by decide +kernel
theorem dX11_evenestWay_13 : decode cX11_evenestWay 13 = .ok (.iconst 1, 1) := by decide +kernel
theorem dX11_evenestWay_14 : decode cX11_evenestWay 14 = .ok (.iload_n 2, 1) := by decide +kernel
theorem dX11_evenestWay_15 : decode cX11_evenestWay 15 = .ok (.ishl, 1) := by decide +kernel
theorem dX11_evenestWay_16 : decode cX11_evenestWay 16 = .ok (.if_icmp .ge 76, 3) := by decide +kernel
theorem dX11_evenestWay_19 : decode cX11_evenestWay 19 = .ok (.aload_n 0, 1) := by decide +kernel
theorem dX11_evenestWay_20 : decode cX11_evenestWay 20 = .ok (.iload_n 2, 1) := by decide +kernel
theorem dX11_evenestWay_21 : decode cX11_evenestWay 21 = .ok (.iload 6, 2) := by decide +kernel
theorem dX11_evenestWay_23 : decode cX11_evenestWay 23 = .ok (.iconst 0, 1) := by decide +kernel
theorem dX11_evenestWay_24 : decode cX11_evenestWay 24 = .ok (.invokestatic 200, 3) := by decide +kernel
theorem dX11_evenestWay_27 : decode cX11_evenestWay 27 = .ok (.istore 7, 2) := by decide +kernel
theorem dX11_evenestWay_29 : decode cX11_evenestWay 29 = .ok (.aload_n 1, 1) := by decide +kernel
theorem dX11_evenestWay_30 : decode cX11_evenestWay 30 = .ok (.iload_n 2, 1) := by decide +kernel
theorem dX11_evenestWay_31 : decode cX11_evenestWay 31 = .ok (.iload 6, 2) := by decide +kernel
theorem dX11_evenestWay_33 : decode cX11_evenestWay 33 = .ok (.iconst 1, 1) := by decide +kernel
theorem dX11_evenestWay_34 : decode cX11_evenestWay 34 = .ok (.invokestatic 200, 3) := by decide +kernel
theorem dX11_evenestWay_37 : decode cX11_evenestWay 37 = .ok (.istore 8, 2) := by decide +kernel
theorem dX11_evenestWay_39 : decode cX11_evenestWay 39 = .ok (.iload 7, 2) := by decide +kernel
theorem dX11_evenestWay_41 : decode cX11_evenestWay 41 = .ok (.iload 8, 2) := by decide +kernel
theorem dX11_evenestWay_43 : decode cX11_evenestWay 43 = .ok (.invokestatic 176, 3) := by decide +kernel
theorem dX11_evenestWay_46 : decode cX11_evenestWay 46 = .ok (.istore 9, 2) := by decide +kernel
theorem dX11_evenestWay_48 : decode cX11_evenestWay 48 = .ok (.iload 9, 2) := by decide +kernel
theorem dX11_evenestWay_50 : decode cX11_evenestWay 50 = .ok (.iload 4, 2) := by decide +kernel
theorem dX11_evenestWay_52 : decode cX11_evenestWay 52 = .ok (.if_icmp .gt 20, 3) := by decide +kernel
theorem dX11_evenestWay_55 : decode cX11_evenestWay 55 = .ok (.iload 9, 2) := by decide +kernel
theorem dX11_evenestWay_57 : decode cX11_evenestWay 57 = .ok (.iload 4, 2) := by decide +kernel
theorem dX11_evenestWay_59 : decode cX11_evenestWay 59 = .ok (.if_icmp .ne 27, 3) := by decide +kernel
theorem dX11_evenestWay_62 : decode cX11_evenestWay 62 = .ok (.iload 7, 2) := by decide +kernel
theorem dX11_evenestWay_64 : decode cX11_evenestWay 64 = .ok (.iload 8, 2) := by decide +kernel
theorem dX11_evenestWay_66 : decode cX11_evenestWay 66 = .ok (.iadd, 1) := by decide +kernel
theorem dX11_evenestWay_67 : decode cX11_evenestWay 67 = .ok (.iload 5, 2) := by decide +kernel
theorem dX11_evenestWay_69 : decode cX11_evenestWay 69 = .ok (.if_icmp .le 17, 3) := by decide +kernel
theorem dX11_evenestWay_72 : decode cX11_evenestWay 72 = .ok (.iload 6, 2) := by decide +kernel
theorem dX11_evenestWay_74 : decode cX11_evenestWay 74 = .ok (.istore_n 3, 1) := by decide +kernel
theorem dX11_evenestWay_75 : decode cX11_evenestWay 75 = .ok (.iload 9, 2) := by decide +kernel
theorem dX11_evenestWay_77 : decode cX11_evenestWay 77 = .ok (.istore 4, 2) := by decide +kernel
theorem dX11_evenestWay_79 : decode cX11_evenestWay 79 = .ok (.iload 7, 2) := by decide +kernel
theorem dX11_evenestWay_81 : decode cX11_evenestWay 81 = .ok (.iload 8, 2) := by decide +kernel
theorem dX11_evenestWay_83 : decode cX11_evenestWay 83 = .ok (.iadd, 1) := by decide +kernel
theorem dX11_evenestWay_84 : decode cX11_evenestWay 84 = .ok (.istore 5, 2) := by decide +kernel
theorem dX11_evenestWay_86 : decode cX11_evenestWay 86 = .ok (.iinc 6 1, 3) := by decide +kernel
theorem dX11_evenestWay_89 : decode cX11_evenestWay 89 = .ok (.goto (-78), 3) := by decide +kernel
theorem dX11_evenestWay_92 : decode cX11_evenestWay 92 = .ok (.iload_n 3, 1) := by decide +kernel
theorem dX11_evenestWay_93 : decode cX11_evenestWay 93 = .ok (.ireturn, 1) := by decide +kernel
theorem dX11_noEnvyWay_0 : decode cX11_noEnvyWay 0 = .ok (.iconst 0, 1) := by decide +kernel
theorem dX11_noEnvyWay_1 : decode cX11_noEnvyWay 1 = .ok (.istore_n 3, 1) := by decide +kernel
theorem dX11_noEnvyWay_2 : decode cX11_noEnvyWay 2 = .ok (.iload_n 3, 1) := by decide +kernel
theorem dX11_noEnvyWay_3 : decode cX11_noEnvyWay 3 = .ok (.iconst 1, 1) := by decide +kernel
theorem dX11_noEnvyWay_4 : decode cX11_noEnvyWay 4 = .ok (.iload_n 2, 1) := by decide +kernel
theorem dX11_noEnvyWay_5 : decode cX11_noEnvyWay 5 = .ok (.ishl, 1) := by decide +kernel
theorem dX11_noEnvyWay_6 : decode cX11_noEnvyWay 6 = .ok (.if_icmp .ge 45, 3) := by decide +kernel
theorem dX11_noEnvyWay_9 : decode cX11_noEnvyWay 9 = .ok (.aload_n 0, 1) := by decide +kernel
theorem dX11_noEnvyWay_10 : decode cX11_noEnvyWay 10 = .ok (.iload_n 2, 1) := by decide +kernel
theorem dX11_noEnvyWay_11 : decode cX11_noEnvyWay 11 = .ok (.iload_n 3, 1) := by decide +kernel
theorem dX11_noEnvyWay_12 : decode cX11_noEnvyWay 12 = .ok (.iconst 0, 1) := by decide +kernel
theorem dX11_noEnvyWay_13 : decode cX11_noEnvyWay 13 = .ok (.invokestatic 200, 3) := by decide +kernel
theorem dX11_noEnvyWay_16 : decode cX11_noEnvyWay 16 = .ok (.aload_n 0, 1) := by decide +kernel
theorem dX11_noEnvyWay_17 : decode cX11_noEnvyWay 17 = .ok (.iload_n 2, 1) := by decide +kernel
theorem dX11_noEnvyWay_18 : decode cX11_noEnvyWay 18 = .ok (.iload_n 3, 1) := by decide +kernel
theorem dX11_noEnvyWay_19 : decode cX11_noEnvyWay 19 = .ok (.iconst 1, 1) := by decide +kernel
theorem dX11_noEnvyWay_20 : decode cX11_noEnvyWay 20 = .ok (.invokestatic 200, 3) := by decide +kernel
theorem dX11_noEnvyWay_23 : decode cX11_noEnvyWay 23 = .ok (.if_icmp .lt 22, 3) := by decide +kernel
theorem dX11_noEnvyWay_26 : decode cX11_noEnvyWay 26 = .ok (.aload_n 1, 1) := by decide +kernel
theorem dX11_noEnvyWay_27 : decode cX11_noEnvyWay 27 = .ok (.iload_n 2, 1) := by decide +kernel
theorem dX11_noEnvyWay_28 : decode cX11_noEnvyWay 28 = .ok (.iload_n 3, 1) := by decide +kernel
theorem dX11_noEnvyWay_29 : decode cX11_noEnvyWay 29 = .ok (.iconst 1, 1) := by decide +kernel
theorem dX11_noEnvyWay_30 : decode cX11_noEnvyWay 30 = .ok (.invokestatic 200, 3) := by decide +kernel
theorem dX11_noEnvyWay_33 : decode cX11_noEnvyWay 33 = .ok (.aload_n 1, 1) := by decide +kernel
theorem dX11_noEnvyWay_34 : decode cX11_noEnvyWay 34 = .ok (.iload_n 2, 1) := by decide +kernel
theorem dX11_noEnvyWay_35 : decode cX11_noEnvyWay 35 = .ok (.iload_n 3, 1) := by decide +kernel
theorem dX11_noEnvyWay_36 : decode cX11_noEnvyWay 36 = .ok (.iconst 0, 1) := by decide +kernel
theorem dX11_noEnvyWay_37 : decode cX11_noEnvyWay 37 = .ok (.invokestatic 200, 3) := by decide +kernel
theorem dX11_noEnvyWay_40 : decode cX11_noEnvyWay 40 = .ok (.if_icmp .lt 5, 3) := by decide +kernel
theorem dX11_noEnvyWay_43 : decode cX11_noEnvyWay 43 = .ok (.iload_n 3, 1) := by decide +kernel
theorem dX11_noEnvyWay_44 : decode cX11_noEnvyWay 44 = .ok (.ireturn, 1) := by decide +kernel
theorem dX11_noEnvyWay_45 : decode cX11_noEnvyWay 45 = .ok (.iinc 3 1, 3) := by decide +kernel
theorem dX11_noEnvyWay_48 : decode cX11_noEnvyWay 48 = .ok (.goto (-46), 3) := by decide +kernel
theorem dX11_noEnvyWay_51 : decode cX11_noEnvyWay 51 = .ok (.bipush (-5), 2) := by decide +kernel
theorem dX11_noEnvyWay_53 : decode cX11_noEnvyWay 53 = .ok (.ireturn, 1) := by decide +kernel
theorem dX11_given_0 : decode cX11_given 0 = .ok (.iconst 0, 1) := by decide +kernel
theorem dX11_given_1 : decode cX11_given 1 = .ok (.istore 4, 2) := by decide +kernel
theorem dX11_given_3 : decode cX11_given 3 = .ok (.iconst 0, 1) := by decide +kernel
theorem dX11_given_4 : decode cX11_given 4 = .ok (.istore 5, 2) := by decide +kernel
theorem dX11_given_6 : decode cX11_given 6 = .ok (.iload 5, 2) := by decide +kernel
theorem dX11_given_8 : decode cX11_given 8 = .ok (.iload_n 1, 1) := by decide +kernel
theorem dX11_given_9 : decode cX11_given 9 = .ok (.if_icmp .ge 30, 3) := by decide +kernel
theorem dX11_given_12 : decode cX11_given 12 = .ok (.iload_n 2, 1) := by decide +kernel
theorem dX11_given_13 : decode cX11_given 13 = .ok (.iload 5, 2) := by decide +kernel
theorem dX11_given_15 : decode cX11_given 15 = .ok (.invokestatic 123, 3) := by decide +kernel
theorem dX11_given_18 : decode cX11_given 18 = .ok (.iload_n 3, 1) := by decide +kernel
theorem dX11_given_19 : decode cX11_given 19 = .ok (.if_icmp .ne 14, 3) := by decide +kernel
theorem dX11_given_22 : decode cX11_given 22 = .ok (.iload 4, 2) := by decide +kernel
theorem dX11_given_24 : decode cX11_given 24 = .ok (.aload_n 0, 1) := by decide +kernel
theorem dX11_given_25 : decode cX11_given 25 = .ok (.iload 5, 2) := by decide +kernel
theorem dX11_given_27 : decode cX11_given 27 = .ok (.invokestatic 113, 3) := by decide +kernel
theorem dX11_given_30 : decode cX11_given 30 = .ok (.iadd, 1) := by decide +kernel
theorem dX11_given_31 : decode cX11_given 31 = .ok (.istore 4, 2) := by decide +kernel
theorem dX11_given_33 : decode cX11_given 33 = .ok (.iinc 5 1, 3) := by decide +kernel
theorem dX11_given_36 : decode cX11_given 36 = .ok (.goto (-30), 3) := by decide +kernel
theorem dX11_given_39 : decode cX11_given 39 = .ok (.iload 4, 2) := by decide +kernel
theorem dX11_given_41 : decode cX11_given 41 = .ok (.ireturn, 1) := by decide +kernel
theorem dX11_monthOf_0 : decode cX11_monthOf 0 = .ok (.aload_n 0, 1) := by decide +kernel
theorem dX11_monthOf_1 : decode cX11_monthOf 1 = .ok (.getfield 23, 3) := by decide +kernel
theorem dX11_monthOf_4 : decode cX11_monthOf 4 = .ok (.iload_n 1, 1) := by decide +kernel
theorem dX11_monthOf_5 : decode cX11_monthOf 5 = .ok (.invokevirtual 98, 3) := by decide +kernel
theorem dX11_monthOf_8 : decode cX11_monthOf 8 = .ok (.astore_n 3, 1) := by decide +kernel
theorem dX11_monthOf_9 : decode cX11_monthOf 9 = .ok (.iconst 0, 1) := by decide +kernel
theorem dX11_monthOf_10 : decode cX11_monthOf 10 = .ok (.istore 4, 2) := by decide +kernel
theorem dX11_monthOf_12 : decode cX11_monthOf 12 = .ok (.iconst 0, 1) := by decide +kernel
theorem dX11_monthOf_13 : decode cX11_monthOf 13 = .ok (.istore 5, 2) := by decide +kernel
theorem dX11_monthOf_15 : decode cX11_monthOf 15 = .ok (.iload 5, 2) := by decide +kernel
theorem dX11_monthOf_17 : decode cX11_monthOf 17 = .ok (.bipush 28, 2) := by decide +kernel
theorem dX11_monthOf_19 : decode cX11_monthOf 19 = .ok (.if_icmp .ge 61, 3) := by decide +kernel
theorem dX11_monthOf_22 : decode cX11_monthOf 22 = .ok (.aload_n 3, 1) := by decide +kernel
theorem dX11_monthOf_23 : decode cX11_monthOf 23 = .ok (.ifnull 57, 3) := by decide +kernel
theorem dX11_monthOf_26 : decode cX11_monthOf 26 = .ok (.aload_n 0, 1) := by decide +kernel
theorem dX11_monthOf_27 : decode cX11_monthOf 27 = .ok (.getfield 23, 3) := by decide +kernel
theorem dX11_monthOf_30 : decode cX11_monthOf 30 = .ok (.getfield 127, 3) := by decide +kernel
theorem dX11_monthOf_33 : decode cX11_monthOf 33 = .ok (.iload 5, 2) := by decide +kernel
theorem dX11_monthOf_35 : decode cX11_monthOf 35 = .ok (.iadd, 1) := by decide +kernel
theorem dX11_monthOf_36 : decode cX11_monthOf 36 = .ok (.istore 6, 2) := by decide +kernel
theorem dX11_monthOf_38 : decode cX11_monthOf 38 = .ok (.aload_n 0, 1) := by decide +kernel
theorem dX11_monthOf_39 : decode cX11_monthOf 39 = .ok (.getfield 23, 3) := by decide +kernel
theorem dX11_monthOf_42 : decode cX11_monthOf 42 = .ok (.iload_n 1, 1) := by decide +kernel
theorem dX11_monthOf_43 : decode cX11_monthOf 43 = .ok (.iload 6, 2) := by decide +kernel
theorem dX11_monthOf_45 : decode cX11_monthOf 45 = .ok (.aload_n 0, 1) := by decide +kernel
theorem dX11_monthOf_46 : decode cX11_monthOf 46 = .ok (.getfield 23, 3) := by decide +kernel
theorem dX11_monthOf_49 : decode cX11_monthOf 49 = .ok (.getfield 120, 3) := by decide +kernel
theorem dX11_monthOf_52 : decode cX11_monthOf 52 = .ok (.invokevirtual 130, 3) := by decide +kernel
theorem dX11_monthOf_55 : decode cX11_monthOf 55 = .ok (.ifCond .eq 19, 3) := by decide +kernel
theorem dX11_monthOf_58 : decode cX11_monthOf 58 = .ok (.iload 4, 2) := by decide +kernel
theorem dX11_monthOf_60 : decode cX11_monthOf 60 = .ok (.aload_n 0, 1) := by decide +kernel
theorem dX11_monthOf_61 : decode cX11_monthOf 61 = .ok (.getfield 23, 3) := by decide +kernel
theorem dX11_monthOf_64 : decode cX11_monthOf 64 = .ok (.aload_n 3, 1) := by decide +kernel
theorem dX11_monthOf_65 : decode cX11_monthOf 65 = .ok (.iload_n 2, 1) := by decide +kernel
theorem dX11_monthOf_66 : decode cX11_monthOf 66 = .ok (.iload 6, 2) := by decide +kernel
theorem dX11_monthOf_68 : decode cX11_monthOf 68 = .ok (.invokevirtual 138, 3) := by decide +kernel
theorem dX11_monthOf_71 : decode cX11_monthOf 71 = .ok (.iadd, 1) := by decide +kernel
theorem dX11_monthOf_72 : decode cX11_monthOf 72 = .ok (.istore 4, 2) := by decide +kernel
theorem dX11_monthOf_74 : decode cX11_monthOf 74 = .ok (.iinc 5 1, 3) := by decide +kernel
theorem dX11_monthOf_77 : decode cX11_monthOf 77 = .ok (.goto (-62), 3) := by decide +kernel
theorem dX11_monthOf_80 : decode cX11_monthOf 80 = .ok (.iload 4, 2) := by decide +kernel
theorem dX11_monthOf_82 : decode cX11_monthOf 82 = .ok (.ireturn, 1) := by decide +kernel
theorem dX11_fitting_0 : decode cX11_fitting 0 = .ok (.aload_n 0, 1) := by decide +kernel
theorem dX11_fitting_1 : decode cX11_fitting 1 = .ok (.getfield 23, 3) := by decide +kernel
theorem dX11_fitting_4 : decode cX11_fitting 4 = .ok (.iload_n 1, 1) := by decide +kernel
theorem dX11_fitting_5 : decode cX11_fitting 5 = .ok (.invokevirtual 98, 3) := by decide +kernel
theorem dX11_fitting_8 : decode cX11_fitting 8 = .ok (.astore 4, 2) := by decide +kernel
theorem dX11_fitting_10 : decode cX11_fitting 10 = .ok (.aload 4, 2) := by decide +kernel
theorem dX11_fitting_12 : decode cX11_fitting 12 = .ok (.ifnull 12, 3) := by decide +kernel
theorem dX11_fitting_15 : decode cX11_fitting 15 = .ok (.iload_n 2, 1) := by decide +kernel
theorem dX11_fitting_16 : decode cX11_fitting 16 = .ok (.iconst 0, 1) := by decide +kernel
theorem dX11_fitting_17 : decode cX11_fitting 17 = .ok (.iconst 1, 1) := by decide +kernel
theorem dX11_fitting_18 : decode cX11_fitting 18 = .ok (.invokestatic 53, 3) := by decide +kernel
theorem dX11_fitting_21 : decode cX11_fitting 21 = .ok (.ifCond .ne 5, 3) := by decide +kernel
theorem dX11_fitting_24 : decode cX11_fitting 24 = .ok (.iconst (-1), 1) := by decide +kernel
theorem dX11_fitting_25 : decode cX11_fitting 25 = .ok (.ireturn, 1) := by decide +kernel
theorem dX11_fitting_26 : decode cX11_fitting 26 = .ok (.iload_n 3, 1) := by decide +kernel
theorem dX11_fitting_27 : decode cX11_fitting 27 = .ok (.iconst 2, 1) := by decide +kernel
theorem dX11_fitting_28 : decode cX11_fitting 28 = .ok (.if_icmp .ne 7, 3) := by decide +kernel
theorem dX11_fitting_31 : decode cX11_fitting 31 = .ok (.iconst 1, 1) := by decide +kernel
theorem dX11_fitting_32 : decode cX11_fitting 32 = .ok (.goto 4, 3) := by decide +kernel
theorem dX11_fitting_35 : decode cX11_fitting 35 = .ok (.iconst 0, 1) := by decide +kernel
theorem dX11_fitting_36 : decode cX11_fitting 36 = .ok (.istore 5, 2) := by decide +kernel
theorem dX11_fitting_38 : decode cX11_fitting 38 = .ok (.iload_n 3, 1) := by decide +kernel
theorem dX11_fitting_39 : decode cX11_fitting 39 = .ok (.iconst 2, 1) := by decide +kernel
theorem dX11_fitting_40 : decode cX11_fitting 40 = .ok (.if_icmp .ne 8, 3) := by decide +kernel
theorem dX11_fitting_43 : decode cX11_fitting 43 = .ok (.bipush 30, 2) := by decide +kernel
theorem dX11_fitting_45 : decode cX11_fitting 45 = .ok (.goto 15, 3) := by decide +kernel
theorem dX11_fitting_48 : decode cX11_fitting 48 = .ok (.iload_n 3, 1) := by decide +kernel
theorem dX11_fitting_49 : decode cX11_fitting 49 = .ok (.iconst 3, 1) := by decide +kernel
theorem dX11_fitting_50 : decode cX11_fitting 50 = .ok (.if_icmp .ne 8, 3) := by decide +kernel
theorem dX11_fitting_53 : decode cX11_fitting 53 = .ok (.bipush 29, 2) := by decide +kernel
theorem dX11_fitting_55 : decode cX11_fitting 55 = .ok (.goto 5, 3) := by decide +kernel
theorem dX11_fitting_58 : decode cX11_fitting 58 = .ok (.bipush 9, 2) := by decide +kernel
theorem dX11_fitting_60 : decode cX11_fitting 60 = .ok (.istore 6, 2) := by decide +kernel
theorem dX11_fitting_62 : decode cX11_fitting 62 = .ok (.iconst 0, 1) := by decide +kernel
theorem dX11_fitting_63 : decode cX11_fitting 63 = .ok (.istore 7, 2) := by decide +kernel
theorem dX11_fitting_65 : decode cX11_fitting 65 = .ok (.bipush (-5), 2) := by decide +kernel
theorem dX11_fitting_67 : decode cX11_fitting 67 = .ok (.istore 8, 2) := by decide +kernel
theorem dX11_fitting_69 : decode cX11_fitting 69 = .ok (.iload 5, 2) := by decide +kernel
theorem dX11_fitting_71 : decode cX11_fitting 71 = .ok (.istore 9, 2) := by decide +kernel
theorem dX11_fitting_73 : decode cX11_fitting 73 = .ok (.iload 9, 2) := by decide +kernel
theorem dX11_fitting_75 : decode cX11_fitting 75 = .ok (.iload 6, 2) := by decide +kernel
theorem dX11_fitting_77 : decode cX11_fitting 77 = .ok (.if_icmp .gt 38, 3) := by decide +kernel
theorem dX11_fitting_80 : decode cX11_fitting 80 = .ok (.aload_n 0, 1) := by decide +kernel
theorem dX11_fitting_81 : decode cX11_fitting 81 = .ok (.aload 4, 2) := by decide +kernel
theorem dX11_fitting_83 : decode cX11_fitting 83 = .ok (.iload_n 3, 1) := by decide +kernel
theorem dX11_fitting_84 : decode cX11_fitting 84 = .ok (.iload 9, 2) := by decide +kernel
theorem dX11_fitting_86 : decode cX11_fitting 86 = .ok (.invokevirtual 278, 3) := by decide +kernel
theorem dX11_fitting_89 : decode cX11_fitting 89 = .ok (.ifCond .eq 20, 3) := by decide +kernel
theorem dX11_fitting_92 : decode cX11_fitting 92 = .ok (.iload 7, 2) := by decide +kernel
theorem dX11_fitting_94 : decode cX11_fitting 94 = .ok (.ifCond .ne 8, 3) := by decide +kernel
theorem dX11_fitting_97 : decode cX11_fitting 97 = .ok (.iload 9, 2) := by decide +kernel
theorem dX11_fitting_99 : decode cX11_fitting 99 = .ok (.goto 5, 3) := by decide +kernel
theorem dX11_fitting_102 : decode cX11_fitting 102 = .ok (.iload 8, 2) := by decide +kernel
theorem dX11_fitting_104 : decode cX11_fitting 104 = .ok (.istore 8, 2) := by decide +kernel
theorem dX11_fitting_106 : decode cX11_fitting 106 = .ok (.iinc 7 1, 3) := by decide +kernel
theorem dX11_fitting_109 : decode cX11_fitting 109 = .ok (.iinc 9 1, 3) := by decide +kernel
theorem dX11_fitting_112 : decode cX11_fitting 112 = .ok (.goto (-39), 3) := by decide +kernel
theorem dX11_fitting_115 : decode cX11_fitting 115 = .ok (.iload_n 2, 1) := by decide +kernel
theorem dX11_fitting_116 : decode cX11_fitting 116 = .ok (.ifCond .ne 8, 3) := by decide +kernel
theorem dX11_fitting_119 : decode cX11_fitting 119 = .ok (.iload 7, 2) := by decide +kernel
theorem dX11_fitting_121 : decode cX11_fitting 121 = .ok (.goto 5, 3) := by decide +kernel
theorem dX11_fitting_124 : decode cX11_fitting 124 = .ok (.iload 8, 2) := by decide +kernel
theorem dX11_fitting_126 : decode cX11_fitting 126 = .ok (.ireturn, 1) := by decide +kernel
theorem dX11_isAsNoted_0 : decode cX11_isAsNoted 0 = .ok (.iload_n 2, 1) := by decide +kernel
theorem dX11_isAsNoted_1 : decode cX11_isAsNoted 1 = .ok (.iconst 1, 1) := by decide +kernel
theorem dX11_isAsNoted_2 : decode cX11_isAsNoted 2 = .ok (.if_icmp .ne 7, 3) := by decide +kernel
theorem dX11_isAsNoted_5 : decode cX11_isAsNoted 5 = .ok (.iload_n 3, 1) := by decide +kernel
theorem dX11_isAsNoted_6 : decode cX11_isAsNoted 6 = .ok (.goto 7, 3) := by decide +kernel
theorem dX11_isAsNoted_9 : decode cX11_isAsNoted 9 = .ok (.aload_n 1, 1) := by decide +kernel
theorem dX11_isAsNoted_10 : decode cX11_isAsNoted 10 = .ok (.getfield 107, 3) := by decide +kernel
theorem dX11_isAsNoted_13 : decode cX11_isAsNoted 13 = .ok (.istore 4, 2) := by decide +kernel
theorem dX11_isAsNoted_15 : decode cX11_isAsNoted 15 = .ok (.iload_n 2, 1) := by decide +kernel
theorem dX11_isAsNoted_16 : decode cX11_isAsNoted 16 = .ok (.iconst 2, 1) := by decide +kernel
theorem dX11_isAsNoted_17 : decode cX11_isAsNoted 17 = .ok (.if_icmp .ne 7, 3) := by decide +kernel
theorem dX11_isAsNoted_20 : decode cX11_isAsNoted 20 = .ok (.iload_n 3, 1) := by decide +kernel
theorem dX11_isAsNoted_21 : decode cX11_isAsNoted 21 = .ok (.goto 17, 3) := by decide +kernel
theorem dX11_isAsNoted_24 : decode cX11_isAsNoted 24 = .ok (.aload_n 0, 1) := by decide +kernel
theorem dX11_isAsNoted_25 : decode cX11_isAsNoted 25 = .ok (.getfield 23, 3) := by decide +kernel
theorem dX11_isAsNoted_28 : decode cX11_isAsNoted 28 = .ok (.getfield 110, 3) := by decide +kernel
theorem dX11_isAsNoted_31 : decode cX11_isAsNoted 31 = .ok (.aload_n 1, 1) := by decide +kernel
theorem dX11_isAsNoted_32 : decode cX11_isAsNoted 32 = .ok (.getfield 282, 3) := by decide +kernel
theorem dX11_isAsNoted_35 : decode cX11_isAsNoted 35 = .ok (.invokestatic 113, 3) := by decide +kernel
theorem dX11_isAsNoted_38 : decode cX11_isAsNoted 38 = .ok (.istore 5, 2) := by decide +kernel
theorem dX11_isAsNoted_40 : decode cX11_isAsNoted 40 = .ok (.iload_n 2, 1) := by decide +kernel
theorem dX11_isAsNoted_41 : decode cX11_isAsNoted 41 = .ok (.iconst 3, 1) := by decide +kernel
theorem dX11_isAsNoted_42 : decode cX11_isAsNoted 42 = .ok (.if_icmp .ne 7, 3) := by decide +kernel
theorem dX11_isAsNoted_45 : decode cX11_isAsNoted 45 = .ok (.iload_n 3, 1) := by decide +kernel
theorem dX11_isAsNoted_46 : decode cX11_isAsNoted 46 = .ok (.goto 17, 3) := by decide +kernel
theorem dX11_isAsNoted_49 : decode cX11_isAsNoted 49 = .ok (.aload_n 0, 1) := by decide +kernel
theorem dX11_isAsNoted_50 : decode cX11_isAsNoted 50 = .ok (.getfield 23, 3) := by decide +kernel
theorem dX11_isAsNoted_53 : decode cX11_isAsNoted 53 = .ok (.getfield 117, 3) := by decide +kernel
theorem dX11_isAsNoted_56 : decode cX11_isAsNoted 56 = .ok (.aload_n 1, 1) := by decide +kernel
theorem dX11_isAsNoted_57 : decode cX11_isAsNoted 57 = .ok (.getfield 282, 3) := by decide +kernel
theorem dX11_isAsNoted_60 : decode cX11_isAsNoted 60 = .ok (.invokestatic 113, 3) := by decide +kernel
theorem dX11_isAsNoted_63 : decode cX11_isAsNoted 63 = .ok (.istore 6, 2) := by decide +kernel
theorem dX11_isAsNoted_65 : decode cX11_isAsNoted 65 = .ok (.aload_n 0, 1) := by decide +kernel
theorem dX11_isAsNoted_66 : decode cX11_isAsNoted 66 = .ok (.getfield 23, 3) := by decide +kernel
theorem dX11_isAsNoted_69 : decode cX11_isAsNoted 69 = .ok (.getfield 120, 3) := by decide +kernel
theorem dX11_isAsNoted_72 : decode cX11_isAsNoted 72 = .ok (.aload_n 1, 1) := by decide +kernel
theorem dX11_isAsNoted_73 : decode cX11_isAsNoted 73 = .ok (.getfield 282, 3) := by decide +kernel
theorem dX11_isAsNoted_76 : decode cX11_isAsNoted 76 = .ok (.invokestatic 123, 3) := by decide +kernel
theorem dX11_isAsNoted_79 : decode cX11_isAsNoted 79 = .ok (.iconst 1, 1) := by decide +kernel
theorem dX11_isAsNoted_80 : decode cX11_isAsNoted 80 = .ok (.if_icmp .ne 7, 3) := by decide +kernel
theorem dX11_isAsNoted_83 : decode cX11_isAsNoted 83 = .ok (.iconst 1, 1) := by decide +kernel
theorem dX11_isAsNoted_84 : decode cX11_isAsNoted 84 = .ok (.goto 4, 3) := by decide +kernel
theorem dX11_isAsNoted_87 : decode cX11_isAsNoted 87 = .ok (.iconst 0, 1) := by decide +kernel
theorem dX11_isAsNoted_88 : decode cX11_isAsNoted 88 = .ok (.istore 7, 2) := by decide +kernel
theorem dX11_isAsNoted_90 : decode cX11_isAsNoted 90 = .ok (.iconst 0, 1) := by decide +kernel
theorem dX11_isAsNoted_91 : decode cX11_isAsNoted 91 = .ok (.istore 8, 2) := by decide +kernel
theorem dX11_isAsNoted_93 : decode cX11_isAsNoted 93 = .ok (.iload 8, 2) := by decide +kernel
theorem dX11_isAsNoted_95 : decode cX11_isAsNoted 95 = .ok (.aload_n 0, 1) := by decide +kernel
theorem dX11_isAsNoted_96 : decode cX11_isAsNoted 96 = .ok (.getfield 23, 3) := by decide +kernel
theorem dX11_isAsNoted_99 : decode cX11_isAsNoted 99 = .ok (.getfield 210, 3) := by decide +kernel
theorem dX11_isAsNoted_102 : decode cX11_isAsNoted 102 = .ok (.getfield 232, 3) := by decide +kernel
theorem dX11_isAsNoted_105 : decode cX11_isAsNoted 105 = .ok (.if_icmp .ge 104, 3) := by decide +kernel
theorem dX11_isAsNoted_108 : decode cX11_isAsNoted 108 = .ok (.iload 7, 2) := by decide +kernel
theorem dX11_isAsNoted_110 : decode cX11_isAsNoted 110 = .ok (.ifCond .ne 41, 3) := by decide +kernel
theorem dX11_isAsNoted_113 : decode cX11_isAsNoted 113 = .ok (.aload_n 1, 1) := by decide +kernel
theorem dX11_isAsNoted_114 : decode cX11_isAsNoted 114 = .ok (.aload_n 0, 1) := by decide +kernel
theorem dX11_isAsNoted_115 : decode cX11_isAsNoted 115 = .ok (.getfield 23, 3) := by decide +kernel
theorem dX11_isAsNoted_118 : decode cX11_isAsNoted 118 = .ok (.getfield 127, 3) := by decide +kernel
theorem dX11_isAsNoted_121 : decode cX11_isAsNoted 121 = .ok (.aload_n 0, 1) := by decide +kernel
theorem dX11_isAsNoted_122 : decode cX11_isAsNoted 122 = .ok (.getfield 23, 3) := by decide +kernel
theorem dX11_isAsNoted_125 : decode cX11_isAsNoted 125 = .ok (.getfield 210, 3) := by decide +kernel
theorem dX11_isAsNoted_128 : decode cX11_isAsNoted 128 = .ok (.iload 8, 2) := by decide +kernel
theorem dX11_isAsNoted_130 : decode cX11_isAsNoted 130 = .ok (.iconst 1, 1) := by decide +kernel
theorem dX11_isAsNoted_131 : decode cX11_isAsNoted 131 = .ok (.invokevirtual 235, 3) := by decide +kernel
theorem dX11_isAsNoted_134 : decode cX11_isAsNoted 134 = .ok (.iadd, 1) := by decide +kernel
theorem dX11_isAsNoted_135 : decode cX11_isAsNoted 135 = .ok (.iload 4, 2) := by decide +kernel
theorem dX11_isAsNoted_137 : decode cX11_isAsNoted 137 = .ok (.iload 5, 2) := by decide +kernel
theorem dX11_isAsNoted_139 : decode cX11_isAsNoted 139 = .ok (.iload 6, 2) := by decide +kernel
theorem dX11_isAsNoted_141 : decode cX11_isAsNoted 141 = .ok (.invokevirtual 285, 3) := by decide +kernel
theorem dX11_isAsNoted_144 : decode cX11_isAsNoted 144 = .ok (.ifCond .eq 7, 3) := by decide +kernel
theorem dX11_isAsNoted_147 : decode cX11_isAsNoted 147 = .ok (.iconst 1, 1) := by decide +kernel
theorem dX11_isAsNoted_148 : decode cX11_isAsNoted 148 = .ok (.goto 4, 3) := by decide +kernel
theorem dX11_isAsNoted_151 : decode cX11_isAsNoted 151 = .ok (.iconst 0, 1) := by decide +kernel
theorem dX11_isAsNoted_152 : decode cX11_isAsNoted 152 = .ok (.istore 9, 2) := by decide +kernel
theorem dX11_isAsNoted_154 : decode cX11_isAsNoted 154 = .ok (.aload_n 0, 1) := by decide +kernel
theorem dX11_isAsNoted_155 : decode cX11_isAsNoted 155 = .ok (.getfield 23, 3) := by decide +kernel
theorem dX11_isAsNoted_158 : decode cX11_isAsNoted 158 = .ok (.getfield 210, 3) := by decide +kernel
theorem dX11_isAsNoted_161 : decode cX11_isAsNoted 161 = .ok (.iload 8, 2) := by decide +kernel
theorem dX11_isAsNoted_163 : decode cX11_isAsNoted 163 = .ok (.iconst 0, 1) := by decide +kernel
theorem dX11_isAsNoted_164 : decode cX11_isAsNoted 164 = .ok (.invokevirtual 235, 3) := by decide +kernel
theorem dX11_isAsNoted_167 : decode cX11_isAsNoted 167 = .ok (.aload_n 1, 1) := by decide +kernel
theorem dX11_isAsNoted_168 : decode cX11_isAsNoted 168 = .ok (.getfield 282, 3) := by decide +kernel
theorem dX11_isAsNoted_171 : decode cX11_isAsNoted 171 = .ok (.if_icmp .ne 32, 3) := by decide +kernel
theorem dX11_isAsNoted_174 : decode cX11_isAsNoted 174 = .ok (.iload 9, 2) := by decide +kernel
theorem dX11_isAsNoted_176 : decode cX11_isAsNoted 176 = .ok (.aload_n 0, 1) := by decide +kernel
theorem dX11_isAsNoted_177 : decode cX11_isAsNoted 177 = .ok (.getfield 23, 3) := by decide +kernel
theorem dX11_isAsNoted_180 : decode cX11_isAsNoted 180 = .ok (.getfield 210, 3) := by decide +kernel
theorem dX11_isAsNoted_183 : decode cX11_isAsNoted 183 = .ok (.iload 8, 2) := by decide +kernel
theorem dX11_isAsNoted_185 : decode cX11_isAsNoted 185 = .ok (.iconst 2, 1) := by decide +kernel
theorem dX11_isAsNoted_186 : decode cX11_isAsNoted 186 = .ok (.invokevirtual 235, 3) := by decide +kernel
theorem dX11_isAsNoted_189 : decode cX11_isAsNoted 189 = .ok (.iconst 1, 1) := by decide +kernel
theorem dX11_isAsNoted_190 : decode cX11_isAsNoted 190 = .ok (.if_icmp .ne 7, 3) := by decide +kernel
theorem dX11_isAsNoted_193 : decode cX11_isAsNoted 193 = .ok (.iconst 1, 1) := by decide +kernel
theorem dX11_isAsNoted_194 : decode cX11_isAsNoted 194 = .ok (.goto 4, 3) := by decide +kernel
theorem dX11_isAsNoted_197 : decode cX11_isAsNoted 197 = .ok (.iconst 0, 1) := by decide +kernel
theorem dX11_isAsNoted_198 : decode cX11_isAsNoted 198 = .ok (.if_icmp .eq 5, 3) := by decide +kernel
theorem dX11_isAsNoted_201 : decode cX11_isAsNoted 201 = .ok (.iconst 0, 1) := by decide +kernel
theorem dX11_isAsNoted_202 : decode cX11_isAsNoted 202 = .ok (.ireturn, 1) := by decide +kernel
theorem dX11_isAsNoted_203 : decode cX11_isAsNoted 203 = .ok (.iinc 8 1, 3) := by decide +kernel
theorem dX11_isAsNoted_206 : decode cX11_isAsNoted 206 = .ok (.goto (-113), 3) := by decide +kernel
theorem dX11_isAsNoted_209 : decode cX11_isAsNoted 209 = .ok (.iconst 1, 1) := by decide +kernel
theorem dX11_isAsNoted_210 : decode cX11_isAsNoted 210 = .ok (.ireturn, 1) := by decide +kernel
theorem dX11_seenUnder_0 : decode cX11_seenUnder 0 = .ok (.iconst 0, 1) := by decide +kernel
theorem dX11_seenUnder_1 : decode cX11_seenUnder 1 = .ok (.istore_n 3, 1) := by decide +kernel
theorem dX11_seenUnder_2 : decode cX11_seenUnder 2 = .ok (.iconst 0, 1) := by decide +kernel
theorem dX11_seenUnder_3 : decode cX11_seenUnder 3 = .ok (.istore 4, 2) := by decide +kernel
theorem dX11_seenUnder_5 : decode cX11_seenUnder 5 = .ok (.iload 4, 2) := by decide +kernel
theorem dX11_seenUnder_7 : decode cX11_seenUnder 7 = .ok (.iload_n 2, 1) := by decide +kernel
theorem dX11_seenUnder_8 : decode cX11_seenUnder 8 = .ok (.if_icmp .ge 42, 3) := by decide +kernel
theorem dX11_seenUnder_11 : decode cX11_seenUnder 11 = .ok (.iload_n 3, 1) := by decide +kernel
theorem dX11_seenUnder_12 : decode cX11_seenUnder 12 = .ok (.aload_n 0, 1) := by decide +kernel
theorem dX11_seenUnder_13 : decode cX11_seenUnder 13 = .ok (.getfield 23, 3) := by decide +kernel
theorem dX11_seenUnder_16 : decode cX11_seenUnder 16 = .ok (.getfield 127, 3) := by decide +kernel
theorem dX11_seenUnder_19 : decode cX11_seenUnder 19 = .ok (.iload 4, 2) := by decide +kernel
theorem dX11_seenUnder_21 : decode cX11_seenUnder 21 = .ok (.iadd, 1) := by decide +kernel
theorem dX11_seenUnder_22 : decode cX11_seenUnder 22 = .ok (.iload_n 1, 1) := by decide +kernel
theorem dX11_seenUnder_23 : decode cX11_seenUnder 23 = .ok (.invokestatic 161, 3) := by decide +kernel
theorem dX11_seenUnder_26 : decode cX11_seenUnder 26 = .ok (.ifCond .eq 7, 3) := by decide +kernel
theorem dX11_seenUnder_29 : decode cX11_seenUnder 29 = .ok (.iconst 0, 1) := by decide +kernel
theorem dX11_seenUnder_30 : decode cX11_seenUnder 30 = .ok (.goto 12, 3) := by decide +kernel
theorem dX11_seenUnder_33 : decode cX11_seenUnder 33 = .ok (.aload_n 0, 1) := by decide +kernel
theorem dX11_seenUnder_34 : decode cX11_seenUnder 34 = .ok (.getfield 42, 3) := by decide +kernel
theorem dX11_seenUnder_37 : decode cX11_seenUnder 37 = .ok (.iload 4, 2) := by decide +kernel
theorem dX11_seenUnder_39 : decode cX11_seenUnder 39 = .ok (.invokestatic 113, 3) := by decide +kernel
theorem dX11_seenUnder_42 : decode cX11_seenUnder 42 = .ok (.iadd, 1) := by decide +kernel
theorem dX11_seenUnder_43 : decode cX11_seenUnder 43 = .ok (.istore_n 3, 1) := by decide +kernel
theorem dX11_seenUnder_44 : decode cX11_seenUnder 44 = .ok (.iinc 4 1, 3) := by decide +kernel
theorem dX11_seenUnder_47 : decode cX11_seenUnder 47 = .ok (.goto (-42), 3) := by decide +kernel
theorem dX11_seenUnder_50 : decode cX11_seenUnder 50 = .ok (.iload_n 3, 1) := by decide +kernel
theorem dX11_seenUnder_51 : decode cX11_seenUnder 51 = .ok (.ireturn, 1) := by decide +kernel
theorem dX11_lowest_0 : decode cX11_lowest 0 = .ok (.iconst 1, 1) := by decide +kernel
theorem dX11_lowest_1 : decode cX11_lowest 1 = .ok (.istore_n 3, 1) := by decide +kernel
theorem dX11_lowest_2 : decode cX11_lowest 2 = .ok (.iconst 2, 1) := by decide +kernel
theorem dX11_lowest_3 : decode cX11_lowest 3 = .ok (.istore 4, 2) := by decide +kernel
theorem dX11_lowest_5 : decode cX11_lowest 5 = .ok (.iload 4, 2) := by decide +kernel
theorem dX11_lowest_7 : decode cX11_lowest 7 = .ok (.iload_n 1, 1) := by decide +kernel
theorem dX11_lowest_8 : decode cX11_lowest 8 = .ok (.if_icmp .gt 26, 3) := by decide +kernel
theorem dX11_lowest_11 : decode cX11_lowest 11 = .ok (.iload_n 0, 1) := by decide +kernel
theorem dX11_lowest_12 : decode cX11_lowest 12 = .ok (.iload 4, 2) := by decide +kernel
theorem dX11_lowest_14 : decode cX11_lowest 14 = .ok (.irem, 1) := by decide +kernel
theorem dX11_lowest_15 : decode cX11_lowest 15 = .ok (.ifCond .ne 13, 3) := by decide +kernel
theorem dX11_lowest_18 : decode cX11_lowest 18 = .ok (.iload_n 1, 1) := by decide +kernel
theorem dX11_lowest_19 : decode cX11_lowest 19 = .ok (.iload 4, 2) := by decide +kernel
theorem dX11_lowest_21 : decode cX11_lowest 21 = .ok (.irem, 1) := by decide +kernel
theorem dX11_lowest_22 : decode cX11_lowest 22 = .ok (.ifCond .ne 6, 3) := by decide +kernel
theorem dX11_lowest_25 : decode cX11_lowest 25 = .ok (.iload 4, 2) := by decide +kernel
theorem dX11_lowest_27 : decode cX11_lowest 27 = .ok (.istore_n 3, 1) := by decide +kernel
theorem dX11_lowest_28 : decode cX11_lowest 28 = .ok (.iinc 4 1, 3) := by decide +kernel
theorem dX11_lowest_31 : decode cX11_lowest 31 = .ok (.goto (-26), 3) := by decide +kernel
theorem dX11_lowest_34 : decode cX11_lowest 34 = .ok (.iload_n 2, 1) := by decide +kernel
theorem dX11_lowest_35 : decode cX11_lowest 35 = .ok (.ifCond .ne 7, 3) := by decide +kernel
theorem dX11_lowest_38 : decode cX11_lowest 38 = .ok (.iload_n 0, 1) := by decide +kernel
theorem dX11_lowest_39 : decode cX11_lowest 39 = .ok (.goto 4, 3) := by decide +kernel
theorem dX11_lowest_42 : decode cX11_lowest 42 = .ok (.iload_n 1, 1) := by decide +kernel
theorem dX11_lowest_43 : decode cX11_lowest 43 = .ok (.iload_n 3, 1) := by decide +kernel
theorem dX11_lowest_44 : decode cX11_lowest 44 = .ok (.idiv, 1) := by decide +kernel
theorem dX11_lowest_45 : decode cX11_lowest 45 = .ok (.i2l, 1) := by decide +kernel
theorem dX11_lowest_46 : decode cX11_lowest 46 = .ok (.lreturn, 1) := by decide +kernel
theorem dX11_isClouded_0 : decode cX11_isClouded 0 = .ok (.iload_n 1, 1) := by decide +kernel
theorem dX11_isClouded_1 : decode cX11_isClouded 1 = .ok (.ifCond .le 16, 3) := by decide +kernel
theorem dX11_isClouded_4 : decode cX11_isClouded 4 = .ok (.iload_n 0, 1) := by decide +kernel
theorem dX11_isClouded_5 : decode cX11_isClouded 5 = .ok (.iload_n 1, 1) := by decide +kernel
theorem dX11_isClouded_6 : decode cX11_isClouded 6 = .ok (.irem, 1) := by decide +kernel
theorem dX11_isClouded_7 : decode cX11_isClouded 7 = .ok (.iload_n 1, 1) := by decide +kernel
theorem dX11_isClouded_8 : decode cX11_isClouded 8 = .ok (.iconst 1, 1) := by decide +kernel
theorem dX11_isClouded_9 : decode cX11_isClouded 9 = .ok (.isub, 1) := by decide +kernel
theorem dX11_isClouded_10 : decode cX11_isClouded 10 = .ok (.if_icmp .ne 7, 3) := by decide +kernel
theorem dX11_isClouded_13 : decode cX11_isClouded 13 = .ok (.iconst 1, 1) := by decide +kernel
theorem dX11_isClouded_14 : decode cX11_isClouded 14 = .ok (.goto 4, 3) := by decide +kernel
theorem dX11_isClouded_17 : decode cX11_isClouded 17 = .ok (.iconst 0, 1) := by decide +kernel
theorem dX11_isClouded_18 : decode cX11_isClouded 18 = .ok (.ireturn, 1) := by decide +kernel
theorem dX11_isIn_0 : decode cX11_isIn 0 = .ok (.iload_n 0, 1) := by decide +kernel
theorem dX11_isIn_1 : decode cX11_isIn 1 = .ok (.iload_n 1, 1) := by decide +kernel
theorem dX11_isIn_2 : decode cX11_isIn 2 = .ok (.if_icmp .lt 12, 3) := by decide +kernel
theorem dX11_isIn_5 : decode cX11_isIn 5 = .ok (.iload_n 0, 1) := by decide +kernel
theorem dX11_isIn_6 : decode cX11_isIn 6 = .ok (.iload_n 2, 1) := by decide +kernel
theorem dX11_isIn_7 : decode cX11_isIn 7 = .ok (.if_icmp .gt 7, 3) := by decide +kernel
theorem dX11_isIn_10 : decode cX11_isIn 10 = .ok (.iconst 1, 1) := by decide +kernel
theorem dX11_isIn_11 : decode cX11_isIn 11 = .ok (.goto 4, 3) := by decide +kernel
theorem dX11_isIn_14 : decode cX11_isIn 14 = .ok (.iconst 0, 1) := by decide +kernel
theorem dX11_isIn_15 : decode cX11_isIn 15 = .ok (.ireturn, 1) := by decide +kernel
theorem dX11_bitOf_0 : decode cX11_bitOf 0 = .ok (.iload_n 0, 1) := by decide +kernel
theorem dX11_bitOf_1 : decode cX11_bitOf 1 = .ok (.iload_n 1, 1) := by decide +kernel
theorem dX11_bitOf_2 : decode cX11_bitOf 2 = .ok (.ishr, 1) := by decide +kernel
theorem dX11_bitOf_3 : decode cX11_bitOf 3 = .ok (.iconst 1, 1) := by decide +kernel
theorem dX11_bitOf_4 : decode cX11_bitOf 4 = .ok (.iand, 1) := by decide +kernel
theorem dX11_bitOf_5 : decode cX11_bitOf 5 = .ok (.ireturn, 1) := by decide +kernel
theorem dX11_withBit_0 : decode cX11_withBit 0 = .ok (.iload_n 2, 1) := by decide +kernel
theorem dX11_withBit_1 : decode cX11_withBit 1 = .ok (.ifCond .eq 11, 3) := by decide +kernel
theorem dX11_withBit_4 : decode cX11_withBit 4 = .ok (.iload_n 0, 1) := by decide +kernel
theorem dX11_withBit_5 : decode cX11_withBit 5 = .ok (.iconst 1, 1) := by decide +kernel
theorem dX11_withBit_6 : decode cX11_withBit 6 = .ok (.iload_n 1, 1) := by decide +kernel
theorem dX11_withBit_7 : decode cX11_withBit 7 = .ok (.ishl, 1) := by decide +kernel
theorem dX11_withBit_8 : decode cX11_withBit 8 = .ok (.ior, 1) := by decide +kernel
theorem dX11_withBit_9 : decode cX11_withBit 9 = .ok (.goto 10, 3) := by decide +kernel
theorem dX11_withBit_12 : decode cX11_withBit 12 = .ok (.iload_n 0, 1) := by decide +kernel
theorem dX11_withBit_13 : decode cX11_withBit 13 = .ok (.iconst 1, 1) := by decide +kernel
theorem dX11_withBit_14 : decode cX11_withBit 14 = .ok (.iload_n 1, 1) := by decide +kernel
theorem dX11_withBit_15 : decode cX11_withBit 15 = .ok (.ishl, 1) := by decide +kernel
theorem dX11_withBit_16 : decode cX11_withBit 16 = .ok (.iconst (-1), 1) := by decide +kernel
theorem dX11_withBit_17 : decode cX11_withBit 17 = .ok (.ixor, 1) := by decide +kernel
theorem dX11_withBit_18 : decode cX11_withBit 18 = .ok (.iand, 1) := by decide +kernel
theorem dX11_withBit_19 : decode cX11_withBit 19 = .ok (.ireturn, 1) := by decide +kernel
theorem dX11_at_0 : decode cX11_at 0 = .ok (.iload_n 1, 1) := by decide +kernel
theorem dX11_at_1 : decode cX11_at 1 = .ok (.ifCond .lt 15, 3) := by decide +kernel
theorem dX11_at_4 : decode cX11_at 4 = .ok (.iload_n 1, 1) := by decide +kernel
theorem dX11_at_5 : decode cX11_at 5 = .ok (.aload_n 0, 1) := by decide +kernel
theorem dX11_at_6 : decode cX11_at 6 = .ok (.arraylength, 1) := by decide +kernel
theorem dX11_at_7 : decode cX11_at 7 = .ok (.if_icmp .ge 9, 3) := by decide +kernel
theorem dX11_at_10 : decode cX11_at 10 = .ok (.aload_n 0, 1) := by decide +kernel
theorem dX11_at_11 : decode cX11_at 11 = .ok (.iload_n 1, 1) := by decide +kernel
theorem dX11_at_12 : decode cX11_at 12 = .ok (.iaload, 1) := by decide +kernel
theorem dX11_at_13 : decode cX11_at 13 = .ok (.goto 4, 3) := by decide +kernel
theorem dX11_at_16 : decode cX11_at 16 = .ok (.iconst 0, 1) := by decide +kernel
theorem dX11_at_17 : decode cX11_at 17 = .ok (.ireturn, 1) := by decide +kernel
theorem dX11_put_0 : decode cX11_put 0 = .ok (.iload_n 1, 1) := by decide +kernel
theorem dX11_put_1 : decode cX11_put 1 = .ok (.ifCond .lt 13, 3) := by decide +kernel
theorem dX11_put_4 : decode cX11_put 4 = .ok (.iload_n 1, 1) := by decide +kernel
theorem dX11_put_5 : decode cX11_put 5 = .ok (.aload_n 0, 1) := by decide +kernel
theorem dX11_put_6 : decode cX11_put 6 = .ok (.arraylength, 1) := by decide +kernel
theorem dX11_put_7 : decode cX11_put 7 = .ok (.if_icmp .ge 7, 3) := by decide +kernel
theorem dX11_put_10 : decode cX11_put 10 = .ok (.aload_n 0, 1) := by decide +kernel
theorem dX11_put_11 : decode cX11_put 11 = .ok (.iload_n 1, 1) := by decide +kernel
theorem dX11_put_12 : decode cX11_put 12 = .ok (.iload_n 2, 1) := by decide +kernel
theorem dX11_put_13 : decode cX11_put 13 = .ok (.iastore, 1) := by decide +kernel
theorem dX11_put_14 : decode cX11_put 14 = .ok (.return_, 1) := by decide +kernel
theorem dX11_swap_0 : decode cX11_swap 0 = .ok (.aload_n 0, 1) := by decide +kernel
theorem dX11_swap_1 : decode cX11_swap 1 = .ok (.iload_n 1, 1) := by decide +kernel
theorem dX11_swap_2 : decode cX11_swap 2 = .ok (.invokestatic 113, 3) := by decide +kernel
theorem dX11_swap_5 : decode cX11_swap 5 = .ok (.istore_n 3, 1) := by decide +kernel
theorem dX11_swap_6 : decode cX11_swap 6 = .ok (.aload_n 0, 1) := by decide +kernel
theorem dX11_swap_7 : decode cX11_swap 7 = .ok (.iload_n 1, 1) := by decide +kernel
theorem dX11_swap_8 : decode cX11_swap 8 = .ok (.iload_n 2, 1) := by decide +kernel
theorem dX11_swap_9 : decode cX11_swap 9 = .ok (.invokestatic 181, 3) := by decide +kernel
theorem dX11_swap_12 : decode cX11_swap 12 = .ok (.iload_n 3, 1) := by decide +kernel
theorem dX11_swap_13 : decode cX11_swap 13 = .ok (.ireturn, 1) := by decide +kernel
theorem dX11_copy_0 : decode cX11_copy 0 = .ok (.aload_n 0, 1) := by decide +kernel
theorem dX11_copy_1 : decode cX11_copy 1 = .ok (.iconst 0, 1) := by decide +kernel
theorem dX11_copy_2 : decode cX11_copy 2 = .ok (.aload_n 1, 1) := by decide +kernel
theorem dX11_copy_3 : decode cX11_copy 3 = .ok (.iconst 0, 1) := by decide +kernel
theorem dX11_copy_4 : decode cX11_copy 4 = .ok (.aload_n 0, 1) := by decide +kernel
theorem dX11_copy_5 : decode cX11_copy 5 = .ok (.arraylength, 1) := by decide +kernel
theorem dX11_copy_6 : decode cX11_copy 6 = .ok (.aload_n 1, 1) := by decide +kernel
theorem dX11_copy_7 : decode cX11_copy 7 = .ok (.arraylength, 1) := by decide +kernel
theorem dX11_copy_8 : decode cX11_copy 8 = .ok (.invokestatic 176, 3) := by decide +kernel
theorem dX11_copy_11 : decode cX11_copy 11 = .ok (.invokestatic 289, 3) := by decide +kernel
theorem dX11_copy_14 : decode cX11_copy 14 = .ok (.return_, 1) := by decide +kernel
theorem dJ6_bitCount_0f7a4_0 : decode cJ6_bitCount_0f7a4 0 = .ok (.iload_n 0, 1) := by decide +kernel
theorem dJ6_bitCount_0f7a4_1 : decode cJ6_bitCount_0f7a4 1 = .ok (.iload_n 0, 1) := by decide +kernel
theorem dJ6_bitCount_0f7a4_2 : decode cJ6_bitCount_0f7a4 2 = .ok (.iconst 1, 1) := by decide +kernel
theorem dJ6_bitCount_0f7a4_3 : decode cJ6_bitCount_0f7a4 3 = .ok (.iushr, 1) := by decide +kernel
theorem dJ6_bitCount_0f7a4_4 : decode cJ6_bitCount_0f7a4 4 = .ok (.ldc_w 265, 3) := by decide +kernel
theorem dJ6_bitCount_0f7a4_7 : decode cJ6_bitCount_0f7a4 7 = .ok (.iand, 1) := by decide +kernel
theorem dJ6_bitCount_0f7a4_8 : decode cJ6_bitCount_0f7a4 8 = .ok (.isub, 1) := by decide +kernel
theorem dJ6_bitCount_0f7a4_9 : decode cJ6_bitCount_0f7a4 9 = .ok (.istore_n 0, 1) := by decide +kernel
theorem dJ6_bitCount_0f7a4_10 : decode cJ6_bitCount_0f7a4 10 = .ok (.iload_n 0, 1) := by decide +kernel
theorem dJ6_bitCount_0f7a4_11 : decode cJ6_bitCount_0f7a4 11 = .ok (.ldc_w 266, 3) := by decide +kernel
theorem dJ6_bitCount_0f7a4_14 : decode cJ6_bitCount_0f7a4 14 = .ok (.iand, 1) := by decide +kernel
theorem dJ6_bitCount_0f7a4_15 : decode cJ6_bitCount_0f7a4 15 = .ok (.iload_n 0, 1) := by decide +kernel
theorem dJ6_bitCount_0f7a4_16 : decode cJ6_bitCount_0f7a4 16 = .ok (.iconst 2, 1) := by decide +kernel
theorem dJ6_bitCount_0f7a4_17 : decode cJ6_bitCount_0f7a4 17 = .ok (.iushr, 1) := by decide +kernel
theorem dJ6_bitCount_0f7a4_18 : decode cJ6_bitCount_0f7a4 18 = .ok (.ldc_w 266, 3) := by decide +kernel
theorem dJ6_bitCount_0f7a4_21 : decode cJ6_bitCount_0f7a4 21 = .ok (.iand, 1) := by decide +kernel
theorem dJ6_bitCount_0f7a4_22 : decode cJ6_bitCount_0f7a4 22 = .ok (.iadd, 1) := by decide +kernel
theorem dJ6_bitCount_0f7a4_23 : decode cJ6_bitCount_0f7a4 23 = .ok (.istore_n 0, 1) := by decide +kernel
theorem dJ6_bitCount_0f7a4_24 : decode cJ6_bitCount_0f7a4 24 = .ok (.iload_n 0, 1) := by decide +kernel
theorem dJ6_bitCount_0f7a4_25 : decode cJ6_bitCount_0f7a4 25 = .ok (.iload_n 0, 1) := by decide +kernel
theorem dJ6_bitCount_0f7a4_26 : decode cJ6_bitCount_0f7a4 26 = .ok (.iconst 4, 1) := by decide +kernel
theorem dJ6_bitCount_0f7a4_27 : decode cJ6_bitCount_0f7a4 27 = .ok (.iushr, 1) := by decide +kernel
theorem dJ6_bitCount_0f7a4_28 : decode cJ6_bitCount_0f7a4 28 = .ok (.iadd, 1) := by decide +kernel
theorem dJ6_bitCount_0f7a4_29 : decode cJ6_bitCount_0f7a4 29 = .ok (.ldc_w 267, 3) := by decide +kernel
theorem dJ6_bitCount_0f7a4_32 : decode cJ6_bitCount_0f7a4 32 = .ok (.iand, 1) := by decide +kernel
theorem dJ6_bitCount_0f7a4_33 : decode cJ6_bitCount_0f7a4 33 = .ok (.istore_n 0, 1) := by decide +kernel
theorem dJ6_bitCount_0f7a4_34 : decode cJ6_bitCount_0f7a4 34 = .ok (.iload_n 0, 1) := by decide +kernel
theorem dJ6_bitCount_0f7a4_35 : decode cJ6_bitCount_0f7a4 35 = .ok (.iload_n 0, 1) := by decide +kernel
theorem dJ6_bitCount_0f7a4_36 : decode cJ6_bitCount_0f7a4 36 = .ok (.bipush 8, 2) := by decide +kernel
theorem dJ6_bitCount_0f7a4_38 : decode cJ6_bitCount_0f7a4 38 = .ok (.iushr, 1) := by decide +kernel
theorem dJ6_bitCount_0f7a4_39 : decode cJ6_bitCount_0f7a4 39 = .ok (.iadd, 1) := by decide +kernel
theorem dJ6_bitCount_0f7a4_40 : decode cJ6_bitCount_0f7a4 40 = .ok (.istore_n 0, 1) := by decide +kernel
theorem dJ6_bitCount_0f7a4_41 : decode cJ6_bitCount_0f7a4 41 = .ok (.iload_n 0, 1) := by decide +kernel
theorem dJ6_bitCount_0f7a4_42 : decode cJ6_bitCount_0f7a4 42 = .ok (.iload_n 0, 1) := by decide +kernel
theorem dJ6_bitCount_0f7a4_43 : decode cJ6_bitCount_0f7a4 43 = .ok (.bipush 16, 2) := by decide +kernel
theorem dJ6_bitCount_0f7a4_45 : decode cJ6_bitCount_0f7a4 45 = .ok (.iushr, 1) := by decide +kernel
theorem dJ6_bitCount_0f7a4_46 : decode cJ6_bitCount_0f7a4 46 = .ok (.iadd, 1) := by decide +kernel
theorem dJ6_bitCount_0f7a4_47 : decode cJ6_bitCount_0f7a4 47 = .ok (.istore_n 0, 1) := by decide +kernel
theorem dJ6_bitCount_0f7a4_48 : decode cJ6_bitCount_0f7a4 48 = .ok (.iload_n 0, 1) := by decide +kernel
theorem dJ6_bitCount_0f7a4_49 : decode cJ6_bitCount_0f7a4 49 = .ok (.bipush 63, 2) := by decide +kernel
theorem dJ6_bitCount_0f7a4_51 : decode cJ6_bitCount_0f7a4 51 = .ok (.iand, 1) := by decide +kernel
theorem dJ6_bitCount_0f7a4_52 : decode cJ6_bitCount_0f7a4 52 = .ok (.ireturn, 1) := by decide +kernel
theorem dJ9_max_7cf53_0 : decode cJ9_max_7cf53 0 = .ok (.iload_n 0, 1) := by decide +kernel
theorem dJ9_max_7cf53_1 : decode cJ9_max_7cf53 1 = .ok (.iload_n 1, 1) := by decide +kernel
theorem dJ9_max_7cf53_2 : decode cJ9_max_7cf53 2 = .ok (.if_icmp .lt 7, 3) := by decide +kernel
theorem dJ9_max_7cf53_5 : decode cJ9_max_7cf53 5 = .ok (.iload_n 0, 1) := by decide +kernel
theorem dJ9_max_7cf53_6 : decode cJ9_max_7cf53 6 = .ok (.goto 4, 3) := by decide +kernel
theorem dJ9_max_7cf53_9 : decode cJ9_max_7cf53 9 = .ok (.iload_n 1, 1) := by decide +kernel
theorem dJ9_max_7cf53_10 : decode cJ9_max_7cf53 10 = .ok (.ireturn, 1) := by decide +kernel
theorem dJ9_min_7cf53_0 : decode cJ9_min_7cf53 0 = .ok (.iload_n 0, 1) := by decide +kernel
theorem dJ9_min_7cf53_1 : decode cJ9_min_7cf53 1 = .ok (.iload_n 1, 1) := by decide +kernel
theorem dJ9_min_7cf53_2 : decode cJ9_min_7cf53 2 = .ok (.if_icmp .gt 7, 3) := by decide +kernel
theorem dJ9_min_7cf53_5 : decode cJ9_min_7cf53 5 = .ok (.iload_n 0, 1) := by decide +kernel
theorem dJ9_min_7cf53_6 : decode cJ9_min_7cf53 6 = .ok (.goto 4, 3) := by decide +kernel
theorem dJ9_min_7cf53_9 : decode cJ9_min_7cf53 9 = .ok (.iload_n 1, 1) := by decide +kernel
theorem dJ9_min_7cf53_10 : decode cJ9_min_7cf53 10 = .ok (.ireturn, 1) := by decide +kernel
theorem dJ0_length_8abf5_0 : decode cJ0_length_8abf5 0 = .ok (.aload_n 0, 1) := by decide +kernel
theorem dJ0_length_8abf5_1 : decode cJ0_length_8abf5 1 = .ok (.getfield 9, 3) := by decide +kernel
theorem dJ0_length_8abf5_4 : decode cJ0_length_8abf5 4 = .ok (.arraylength, 1) := by decide +kernel
theorem dJ0_length_8abf5_5 : decode cJ0_length_8abf5 5 = .ok (.aload_n 0, 1) := by decide +kernel
theorem dJ0_length_8abf5_6 : decode cJ0_length_8abf5 6 = .ok (.invokevirtual 335, 3) := by decide +kernel
theorem dJ0_length_8abf5_9 : decode cJ0_length_8abf5 9 = .ok (.ishr, 1) := by decide +kernel
theorem dJ0_length_8abf5_10 : decode cJ0_length_8abf5 10 = .ok (.ireturn, 1) := by decide +kernel
theorem dJ0_charAt_5068e_0 : decode cJ0_charAt_5068e 0 = .ok (.aload_n 0, 1) := by decide +kernel
theorem dJ0_charAt_5068e_1 : decode cJ0_charAt_5068e 1 = .ok (.invokevirtual 492, 3) := by decide +kernel
theorem dJ0_charAt_5068e_4 : decode cJ0_charAt_5068e 4 = .ok (.ifCond .eq 12, 3) := by decide +kernel
theorem dJ0_charAt_5068e_7 : decode cJ0_charAt_5068e 7 = .ok (.aload_n 0, 1) := by decide +kernel
theorem dJ0_charAt_5068e_8 : decode cJ0_charAt_5068e 8 = .ok (.getfield 9, 3) := by decide +kernel
theorem dJ0_charAt_5068e_11 : decode cJ0_charAt_5068e 11 = .ok (.iload_n 1, 1) := by decide +kernel
theorem dJ0_charAt_5068e_12 : decode cJ0_charAt_5068e 12 = .ok (.invokestatic 495, 3) := by decide +kernel
theorem dJ0_charAt_5068e_15 : decode cJ0_charAt_5068e 15 = .ok (.ireturn, 1) := by decide +kernel
theorem dJ0_charAt_5068e_16 : decode cJ0_charAt_5068e 16 = .ok (.aload_n 0, 1) := by decide +kernel
theorem dJ0_charAt_5068e_17 : decode cJ0_charAt_5068e 17 = .ok (.getfield 9, 3) := by decide +kernel
theorem dJ0_charAt_5068e_20 : decode cJ0_charAt_5068e 20 = .ok (.iload_n 1, 1) := by decide +kernel
theorem dJ0_charAt_5068e_21 : decode cJ0_charAt_5068e 21 = .ok (.invokestatic 498, 3) := by decide +kernel
theorem dJ0_charAt_5068e_24 : decode cJ0_charAt_5068e 24 = .ok (.ireturn, 1) := by decide +kernel
theorem dJ0_coder_7d493_0 : decode cJ0_coder_7d493 0 = .ok (.getstatic 38, 3) := by decide +kernel
theorem dJ0_coder_7d493_3 : decode cJ0_coder_7d493 3 = .ok (.ifCond .eq 10, 3) := by decide +kernel
theorem dJ0_coder_7d493_6 : decode cJ0_coder_7d493 6 = .ok (.aload_n 0, 1) := by decide +kernel
theorem dJ0_coder_7d493_7 : decode cJ0_coder_7d493 7 = .ok (.getfield 15, 3) := by decide +kernel
theorem dJ0_coder_7d493_10 : decode cJ0_coder_7d493 10 = .ok (.goto 4, 3) := by decide +kernel
theorem dJ0_coder_7d493_13 : decode cJ0_coder_7d493 13 = .ok (.iconst 1, 1) := by decide +kernel
theorem dJ0_coder_7d493_14 : decode cJ0_coder_7d493 14 = .ok (.ireturn, 1) := by decide +kernel
theorem dJ0_isLatin1_aae02_0 : decode cJ0_isLatin1_aae02 0 = .ok (.getstatic 38, 3) := by decide +kernel
theorem dJ0_isLatin1_aae02_3 : decode cJ0_isLatin1_aae02 3 = .ok (.ifCond .eq 14, 3) := by decide +kernel
theorem dJ0_isLatin1_aae02_6 : decode cJ0_isLatin1_aae02 6 = .ok (.aload_n 0, 1) := by decide +kernel
theorem dJ0_isLatin1_aae02_7 : decode cJ0_isLatin1_aae02 7 = .ok (.getfield 15, 3) := by decide +kernel
theorem dJ0_isLatin1_aae02_10 : decode cJ0_isLatin1_aae02 10 = .ok (.ifCond .ne 7, 3) := by decide +kernel
theorem dJ0_isLatin1_aae02_13 : decode cJ0_isLatin1_aae02 13 = .ok (.iconst 1, 1) := by decide +kernel
theorem dJ0_isLatin1_aae02_14 : decode cJ0_isLatin1_aae02 14 = .ok (.goto 4, 3) := by decide +kernel
theorem dJ0_isLatin1_aae02_17 : decode cJ0_isLatin1_aae02 17 = .ok (.iconst 0, 1) := by decide +kernel
theorem dJ0_isLatin1_aae02_18 : decode cJ0_isLatin1_aae02 18 = .ok (.ireturn, 1) := by decide +kernel
theorem dJ0_checkIndex_df160_0 : decode cJ0_checkIndex_df160 0 = .ok (.iload_n 0, 1) := by decide +kernel
theorem dJ0_checkIndex_df160_1 : decode cJ0_checkIndex_df160 1 = .ok (.iload_n 1, 1) := by decide +kernel
theorem dJ0_checkIndex_df160_2 : decode cJ0_checkIndex_df160 2 = .ok (.getstatic 1053, 3) := by decide +kernel
theorem dJ0_checkIndex_df160_5 : decode cJ0_checkIndex_df160 5 = .ok (.invokestatic 1059, 3) := by decide +kernel
theorem dJ0_checkIndex_df160_8 : decode cJ0_checkIndex_df160 8 = .ok (.pop, 1) := by decide +kernel
theorem dJ0_checkIndex_df160_9 : decode cJ0_checkIndex_df160 9 = .ok (.return_, 1) := by decide +kernel
theorem dJ1_charAt_3b067_0 : decode cJ1_charAt_3b067 0 = .ok (.iload_n 1, 1) := by decide +kernel
theorem dJ1_charAt_3b067_1 : decode cJ1_charAt_3b067 1 = .ok (.aload_n 0, 1) := by decide +kernel
theorem dJ1_charAt_3b067_2 : decode cJ1_charAt_3b067 2 = .ok (.arraylength, 1) := by decide +kernel
theorem dJ1_charAt_3b067_3 : decode cJ1_charAt_3b067 3 = .ok (.invokestatic 9, 3) := by decide +kernel
theorem dJ1_charAt_3b067_6 : decode cJ1_charAt_3b067 6 = .ok (.aload_n 0, 1) := by decide +kernel
theorem dJ1_charAt_3b067_7 : decode cJ1_charAt_3b067 7 = .ok (.iload_n 1, 1) := by decide +kernel
theorem dJ1_charAt_3b067_8 : decode cJ1_charAt_3b067 8 = .ok (.baload, 1) := by decide +kernel
theorem dJ1_charAt_3b067_9 : decode cJ1_charAt_3b067 9 = .ok (.sipush 255, 3) := by decide +kernel
theorem dJ1_charAt_3b067_12 : decode cJ1_charAt_3b067 12 = .ok (.iand, 1) := by decide +kernel
theorem dJ1_charAt_3b067_13 : decode cJ1_charAt_3b067 13 = .ok (.i2c, 1) := by decide +kernel
theorem dJ1_charAt_3b067_14 : decode cJ1_charAt_3b067 14 = .ok (.ireturn, 1) := by decide +kernel
theorem dJ2_getChar_3b067_0 : decode cJ2_getChar_3b067 0 = .ok (.getstatic 44, 3) := by decide +kernel
theorem dJ2_getChar_3b067_3 : decode cJ2_getChar_3b067 3 = .ok (.ifCond .ne 25, 3) := by decide +kernel
theorem dJ2_getChar_3b067_6 : decode cJ2_getChar_3b067 6 = .ok (.iload_n 1, 1) := by decide +kernel
theorem dJ2_getChar_3b067_7 : decode cJ2_getChar_3b067 7 = .ok (.ifCond .lt 11, 3) := by decide +kernel
theorem dJ2_getChar_3b067_10 : decode cJ2_getChar_3b067 10 = .ok (.iload_n 1, 1) := by decide +kernel
theorem dJ2_getChar_3b067_11 : decode cJ2_getChar_3b067 11 = .ok (.aload_n 0, 1) := by decide +kernel
theorem dJ2_getChar_3b067_12 : decode cJ2_getChar_3b067 12 = .ok (.invokestatic 48, 3) := by decide +kernel
theorem dJ2_getChar_3b067_15 : decode cJ2_getChar_3b067 15 = .ok (.if_icmp .lt 13, 3) := by decide +kernel
theorem dJ2_getChar_3b067_18 : decode cJ2_getChar_3b067 18 = .ok (.new 52, 3) := by decide +kernel
theorem dJ2_getChar_3b067_21 : decode cJ2_getChar_3b067 21 = .ok (.dup, 1) := by decide +kernel
theorem dJ2_getChar_3b067_22 : decode cJ2_getChar_3b067 22 = .ok (.ldc 54, 2) := by decide +kernel
theorem dJ2_getChar_3b067_24 : decode cJ2_getChar_3b067 24 = .ok (.invokespecial 56, 3) := by decide +kernel
theorem dJ2_getChar_3b067_27 : decode cJ2_getChar_3b067 27 = .ok (.athrow, 1) := by decide +kernel
theorem dJ2_getChar_3b067_28 : decode cJ2_getChar_3b067 28 = .ok (.iload_n 1, 1) := by decide +kernel
theorem dJ2_getChar_3b067_29 : decode cJ2_getChar_3b067 29 = .ok (.iconst 1, 1) := by decide +kernel
theorem dJ2_getChar_3b067_30 : decode cJ2_getChar_3b067 30 = .ok (.ishl, 1) := by decide +kernel
theorem dJ2_getChar_3b067_31 : decode cJ2_getChar_3b067 31 = .ok (.istore_n 1, 1) := by decide +kernel
theorem dJ2_getChar_3b067_32 : decode cJ2_getChar_3b067 32 = .ok (.aload_n 0, 1) := by decide +kernel
theorem dJ2_getChar_3b067_33 : decode cJ2_getChar_3b067 33 = .ok (.iload_n 1, 1) := by decide +kernel
theorem dJ2_getChar_3b067_34 : decode cJ2_getChar_3b067 34 = .ok (.iinc 1 1, 3) := by decide +kernel
theorem dJ2_getChar_3b067_37 : decode cJ2_getChar_3b067 37 = .ok (.baload, 1) := by decide +kernel
theorem dJ2_getChar_3b067_38 : decode cJ2_getChar_3b067 38 = .ok (.sipush 255, 3) := by decide +kernel
theorem dJ2_getChar_3b067_41 : decode cJ2_getChar_3b067 41 = .ok (.iand, 1) := by decide +kernel
theorem dJ2_getChar_3b067_42 : decode cJ2_getChar_3b067 42 = .ok (.getstatic 59, 3) := by decide +kernel
theorem dJ2_getChar_3b067_45 : decode cJ2_getChar_3b067 45 = .ok (.ishl, 1) := by decide +kernel
theorem dJ2_getChar_3b067_46 : decode cJ2_getChar_3b067 46 = .ok (.aload_n 0, 1) := by decide +kernel
theorem dJ2_getChar_3b067_47 : decode cJ2_getChar_3b067 47 = .ok (.iload_n 1, 1) := by decide +kernel
theorem dJ2_getChar_3b067_48 : decode cJ2_getChar_3b067 48 = .ok (.baload, 1) := by decide +kernel
theorem dJ2_getChar_3b067_49 : decode cJ2_getChar_3b067 49 = .ok (.sipush 255, 3) := by decide +kernel
theorem dJ2_getChar_3b067_52 : decode cJ2_getChar_3b067 52 = .ok (.iand, 1) := by decide +kernel
theorem dJ2_getChar_3b067_53 : decode cJ2_getChar_3b067 53 = .ok (.getstatic 63, 3) := by decide +kernel
theorem dJ2_getChar_3b067_56 : decode cJ2_getChar_3b067 56 = .ok (.ishl, 1) := by decide +kernel
theorem dJ2_getChar_3b067_57 : decode cJ2_getChar_3b067 57 = .ok (.ior, 1) := by decide +kernel
theorem dJ2_getChar_3b067_58 : decode cJ2_getChar_3b067 58 = .ok (.i2c, 1) := by decide +kernel
theorem dJ2_getChar_3b067_59 : decode cJ2_getChar_3b067 59 = .ok (.ireturn, 1) := by decide +kernel
theorem dJ2_length_9d52b_0 : decode cJ2_length_9d52b 0 = .ok (.aload_n 0, 1) := by decide +kernel
theorem dJ2_length_9d52b_1 : decode cJ2_length_9d52b 1 = .ok (.arraylength, 1) := by decide +kernel
theorem dJ2_length_9d52b_2 : decode cJ2_length_9d52b 2 = .ok (.iconst 1, 1) := by decide +kernel
theorem dJ2_length_9d52b_3 : decode cJ2_length_9d52b 3 = .ok (.ishr, 1) := by decide +kernel
theorem dJ2_length_9d52b_4 : decode cJ2_length_9d52b 4 = .ok (.ireturn, 1) := by decide +kernel
theorem dJ2_charAt_3b067_0 : decode cJ2_charAt_3b067 0 = .ok (.iload_n 1, 1) := by decide +kernel
theorem dJ2_charAt_3b067_1 : decode cJ2_charAt_3b067 1 = .ok (.aload_n 0, 1) := by decide +kernel
theorem dJ2_charAt_3b067_2 : decode cJ2_charAt_3b067 2 = .ok (.invokestatic 67, 3) := by decide +kernel
theorem dJ2_charAt_3b067_5 : decode cJ2_charAt_3b067 5 = .ok (.aload_n 0, 1) := by decide +kernel
theorem dJ2_charAt_3b067_6 : decode cJ2_charAt_3b067 6 = .ok (.iload_n 1, 1) := by decide +kernel
theorem dJ2_charAt_3b067_7 : decode cJ2_charAt_3b067 7 = .ok (.invokestatic 71, 3) := by decide +kernel
theorem dJ2_charAt_3b067_10 : decode cJ2_charAt_3b067 10 = .ok (.ireturn, 1) := by decide +kernel
theorem dJ2_checkIndex_2214a_0 : decode cJ2_checkIndex_2214a 0 = .ok (.iload_n 0, 1) := by decide +kernel
theorem dJ2_checkIndex_2214a_1 : decode cJ2_checkIndex_2214a 1 = .ok (.aload_n 1, 1) := by decide +kernel
theorem dJ2_checkIndex_2214a_2 : decode cJ2_checkIndex_2214a 2 = .ok (.invokestatic 48, 3) := by decide +kernel
theorem dJ2_checkIndex_2214a_5 : decode cJ2_checkIndex_2214a 5 = .ok (.invokestatic 414, 3) := by decide +kernel
theorem dJ2_checkIndex_2214a_8 : decode cJ2_checkIndex_2214a 8 = .ok (.return_, 1) := by decide +kernel
theorem dJ3_checkIndex_8e157_0 : decode cJ3_checkIndex_8e157 0 = .ok (.iload_n 0, 1) := by decide +kernel
theorem dJ3_checkIndex_8e157_1 : decode cJ3_checkIndex_8e157 1 = .ok (.ifCond .lt 8, 3) := by decide +kernel
theorem dJ3_checkIndex_8e157_4 : decode cJ3_checkIndex_8e157 4 = .ok (.iload_n 0, 1) := by decide +kernel
theorem dJ3_checkIndex_8e157_5 : decode cJ3_checkIndex_8e157 5 = .ok (.iload_n 1, 1) := by decide +kernel
theorem dJ3_checkIndex_8e157_6 : decode cJ3_checkIndex_8e157 6 = .ok (.if_icmp .lt 10, 3) := by decide +kernel
theorem dJ3_checkIndex_8e157_9 : decode cJ3_checkIndex_8e157 9 = .ok (.aload_n 2, 1) := by decide +kernel
theorem dJ3_checkIndex_8e157_10 : decode cJ3_checkIndex_8e157 10 = .ok (.iload_n 0, 1) := by decide +kernel
theorem dJ3_checkIndex_8e157_11 : decode cJ3_checkIndex_8e157 11 = .ok (.iload_n 1, 1) := by decide +kernel
theorem dJ3_checkIndex_8e157_12 : decode cJ3_checkIndex_8e157 12 = .ok (.invokestatic 95, 3) := by decide +kernel
theorem dJ3_checkIndex_8e157_15 : decode cJ3_checkIndex_8e157 15 = .ok (.athrow, 1) := by decide +kernel
theorem dJ3_checkIndex_8e157_16 : decode cJ3_checkIndex_8e157 16 = .ok (.iload_n 0, 1) := by decide +kernel
theorem dJ3_checkIndex_8e157_17 : decode cJ3_checkIndex_8e157 17 = .ok (.ireturn, 1) := by decide +kernel
