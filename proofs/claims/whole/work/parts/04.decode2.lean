theorem dX12_init_0 : decode cX12_init 0 = .ok (.aload_n 0, 1) := by decide +kernel
theorem dX12_init_1 : decode cX12_init 1 = .ok (.invokespecial 3, 3) := by decide +kernel
theorem dX12_init_4 : decode cX12_init 4 = .ok (.aload_n 0, 1) := by decide +kernel
theorem dX12_init_5 : decode cX12_init 5 = .ok (.sipush 929, 3) := by decide +kernel
theorem dX12_init_8 : decode cX12_init 8 = .ok (.newarray .int, 2) := by decide +kernel
theorem dX12_init_10 : decode cX12_init 10 = .ok (.putfield 9, 3) := by decide +kernel
theorem dX12_init_13 : decode cX12_init 13 = .ok (.aload_n 0, 1) := by decide +kernel
theorem dX12_init_14 : decode cX12_init 14 = .ok (.sipush 929, 3) := by decide +kernel
theorem dX12_init_17 : decode cX12_init 17 = .ok (.newarray .int, 2) := by decide +kernel
theorem dX12_init_19 : decode cX12_init 19 = .ok (.putfield 15, 3) := by decide +kernel
theorem dX12_init_22 : decode cX12_init 22 = .ok (.aload_n 0, 1) := by decide +kernel
theorem dX12_init_23 : decode cX12_init 23 = .ok (.bipush 9, 2) := by decide +kernel
theorem dX12_init_25 : decode cX12_init 25 = .ok (.newarray .int, 2) := by decide +kernel
theorem dX12_init_27 : decode cX12_init 27 = .ok (.putfield 18, 3) := by decide +kernel
theorem dX12_init_30 : decode cX12_init 30 = .ok (.aload_n 0, 1) := by decide +kernel
theorem dX12_init_31 : decode cX12_init 31 = .ok (.bipush 6, 2) := by decide +kernel
theorem dX12_init_33 : decode cX12_init 33 = .ok (.newarray .int, 2) := by decide +kernel
theorem dX12_init_35 : decode cX12_init 35 = .ok (.putfield 21, 3) := by decide +kernel
theorem dX12_init_38 : decode cX12_init 38 = .ok (.aload_n 0, 1) := by decide +kernel
theorem dX12_init_39 : decode cX12_init 39 = .ok (.bipush 64, 2) := by decide +kernel
theorem dX12_init_41 : decode cX12_init 41 = .ok (.newarray .boolean, 2) := by decide +kernel
theorem dX12_init_43 : decode cX12_init 43 = .ok (.putfield 24, 3) := by decide +kernel
theorem dX12_init_46 : decode cX12_init 46 = .ok (.aload_n 0, 1) := by decide +kernel
theorem dX12_init_47 : decode cX12_init 47 = .ok (.bipush 18, 2) := by decide +kernel
theorem dX12_init_49 : decode cX12_init 49 = .ok (.newarray .int, 2) := by decide +kernel
theorem dX12_init_51 : decode cX12_init 51 = .ok (.putfield 28, 3) := by decide +kernel
theorem dX12_init_54 : decode cX12_init 54 = .ok (.aload_n 0, 1) := by decide +kernel
theorem dX12_init_55 : decode cX12_init 55 = .ok (.bipush 12, 2) := by decide +kernel
theorem dX12_init_57 : decode cX12_init 57 = .ok (.newarray .int, 2) := by decide +kernel
theorem dX12_init_59 : decode cX12_init 59 = .ok (.putfield 31, 3) := by decide +kernel
theorem dX12_init_62 : decode cX12_init 62 = .ok (.aload_n 0, 1) := by decide +kernel
theorem dX12_init_63 : decode cX12_init 63 = .ok (.bipush 20, 2) := by decide +kernel
theorem dX12_init_65 : decode cX12_init 65 = .ok (.newarray .int, 2) := by decide +kernel
theorem dX12_init_67 : decode cX12_init 67 = .ok (.putfield 34, 3) := by decide +kernel
theorem dX12_init_70 : decode cX12_init 70 = .ok (.aload_n 0, 1) := by decide +kernel
theorem dX12_init_71 : decode cX12_init 71 = .ok (.getfield 9, 3) := by decide +kernel
theorem dX12_init_74 : decode cX12_init 74 = .ok (.bipush 15, 2) := by decide +kernel
theorem dX12_init_76 : decode cX12_init 76 = .ok (.iconst (-1), 1) := by decide +kernel
theorem dX12_init_77 : decode cX12_init 77 = .ok (.iastore, 1) := by decide +kernel
theorem dX12_init_78 : decode cX12_init 78 = .ok (.return_, 1) := by decide +kernel
theorem dX12_in_0 : decode cX12_in 0 = .ok (.iload_n 0, 1) := by decide +kernel
theorem dX12_in_1 : decode cX12_in 1 = .ok (.iload_n 1, 1) := by decide +kernel
theorem dX12_in_2 : decode cX12_in 2 = .ok (.if_icmp .lt 12, 3) := by decide +kernel
theorem dX12_in_5 : decode cX12_in 5 = .ok (.iload_n 0, 1) := by decide +kernel
theorem dX12_in_6 : decode cX12_in 6 = .ok (.iload_n 2, 1) := by decide +kernel
theorem dX12_in_7 : decode cX12_in 7 = .ok (.if_icmp .gt 7, 3) := by decide +kernel
theorem dX12_in_10 : decode cX12_in 10 = .ok (.iconst 1, 1) := by decide +kernel
theorem dX12_in_11 : decode cX12_in 11 = .ok (.goto 4, 3) := by decide +kernel
theorem dX12_in_14 : decode cX12_in 14 = .ok (.iconst 0, 1) := by decide +kernel
theorem dX12_in_15 : decode cX12_in 15 = .ok (.ireturn, 1) := by decide +kernel
theorem dX12_within_0 : decode cX12_within 0 = .ok (.iload_n 0, 1) := by decide +kernel
theorem dX12_within_1 : decode cX12_within 1 = .ok (.iload_n 1, 1) := by decide +kernel
theorem dX12_within_2 : decode cX12_within 2 = .ok (.if_icmp .ge 7, 3) := by decide +kernel
theorem dX12_within_5 : decode cX12_within 5 = .ok (.iload_n 1, 1) := by decide +kernel
theorem dX12_within_6 : decode cX12_within 6 = .ok (.goto 13, 3) := by decide +kernel
theorem dX12_within_9 : decode cX12_within 9 = .ok (.iload_n 0, 1) := by decide +kernel
theorem dX12_within_10 : decode cX12_within 10 = .ok (.iload_n 2, 1) := by decide +kernel
theorem dX12_within_11 : decode cX12_within 11 = .ok (.if_icmp .le 7, 3) := by decide +kernel
theorem dX12_within_14 : decode cX12_within 14 = .ok (.iload_n 2, 1) := by decide +kernel
theorem dX12_within_15 : decode cX12_within 15 = .ok (.goto 4, 3) := by decide +kernel
theorem dX12_within_18 : decode cX12_within 18 = .ok (.iload_n 0, 1) := by decide +kernel
theorem dX12_within_19 : decode cX12_within 19 = .ok (.ireturn, 1) := by decide +kernel
theorem dX12_isLight_0 : decode cX12_isLight 0 = .ok (.iload_n 1, 1) := by decide +kernel
theorem dX12_isLight_1 : decode cX12_isLight 1 = .ok (.iconst 0, 1) := by decide +kernel
theorem dX12_isLight_2 : decode cX12_isLight 2 = .ok (.aload_n 0, 1) := by decide +kernel
theorem dX12_isLight_3 : decode cX12_isLight 3 = .ok (.getfield 9, 3) := by decide +kernel
theorem dX12_isLight_6 : decode cX12_isLight 6 = .ok (.bipush 9, 2) := by decide +kernel
theorem dX12_isLight_8 : decode cX12_isLight 8 = .ok (.iaload, 1) := by decide +kernel
theorem dX12_isLight_9 : decode cX12_isLight 9 = .ok (.iconst 1, 1) := by decide +kernel
theorem dX12_isLight_10 : decode cX12_isLight 10 = .ok (.isub, 1) := by decide +kernel
theorem dX12_isLight_11 : decode cX12_isLight 11 = .ok (.invokestatic 41, 3) := by decide +kernel
theorem dX12_isLight_14 : decode cX12_isLight 14 = .ok (.ireturn, 1) := by decide +kernel
theorem dX12_asItIs_0 : decode cX12_asItIs 0 = .ok (.aload_n 0, 1) := by decide +kernel
theorem dX12_asItIs_1 : decode cX12_asItIs 1 = .ok (.aload_n 0, 1) := by decide +kernel
theorem dX12_asItIs_2 : decode cX12_asItIs 2 = .ok (.sipush 219, 3) := by decide +kernel
theorem dX12_asItIs_5 : decode cX12_asItIs 5 = .ok (.iconst 0, 1) := by decide +kernel
theorem dX12_asItIs_6 : decode cX12_asItIs 6 = .ok (.invokevirtual 45, 3) := by decide +kernel
theorem dX12_asItIs_9 : decode cX12_asItIs 9 = .ok (.putfield 49, 3) := by decide +kernel
theorem dX12_asItIs_12 : decode cX12_asItIs 12 = .ok (.return_, 1) := by decide +kernel
theorem dX12_keeps_0 : decode cX12_keeps 0 = .ok (.iconst 0, 1) := by decide +kernel
theorem dX12_keeps_1 : decode cX12_keeps 1 = .ok (.istore_n 1, 1) := by decide +kernel
theorem dX12_keeps_2 : decode cX12_keeps 2 = .ok (.iload_n 1, 1) := by decide +kernel
theorem dX12_keeps_3 : decode cX12_keeps 3 = .ok (.bipush 9, 2) := by decide +kernel
theorem dX12_keeps_5 : decode cX12_keeps 5 = .ok (.if_icmp .ge 21, 3) := by decide +kernel
theorem dX12_keeps_8 : decode cX12_keeps 8 = .ok (.aload_n 0, 1) := by decide +kernel
theorem dX12_keeps_9 : decode cX12_keeps 9 = .ok (.getfield 18, 3) := by decide +kernel
theorem dX12_keeps_12 : decode cX12_keeps 12 = .ok (.iload_n 1, 1) := by decide +kernel
theorem dX12_keeps_13 : decode cX12_keeps 13 = .ok (.aload_n 0, 1) := by decide +kernel
theorem dX12_keeps_14 : decode cX12_keeps 14 = .ok (.getfield 9, 3) := by decide +kernel
theorem dX12_keeps_17 : decode cX12_keeps 17 = .ok (.iload_n 1, 1) := by decide +kernel
theorem dX12_keeps_18 : decode cX12_keeps 18 = .ok (.iaload, 1) := by decide +kernel
theorem dX12_keeps_19 : decode cX12_keeps 19 = .ok (.iastore, 1) := by decide +kernel
theorem dX12_keeps_20 : decode cX12_keeps 20 = .ok (.iinc 1 1, 3) := by decide +kernel
theorem dX12_keeps_23 : decode cX12_keeps 23 = .ok (.goto (-21), 3) := by decide +kernel
theorem dX12_keeps_26 : decode cX12_keeps 26 = .ok (.return_, 1) := by decide +kernel
theorem dX12_goesBack_0 : decode cX12_goesBack 0 = .ok (.iconst 0, 1) := by decide +kernel
theorem dX12_goesBack_1 : decode cX12_goesBack 1 = .ok (.istore_n 1, 1) := by decide +kernel
theorem dX12_goesBack_2 : decode cX12_goesBack 2 = .ok (.iload_n 1, 1) := by decide +kernel
theorem dX12_goesBack_3 : decode cX12_goesBack 3 = .ok (.bipush 9, 2) := by decide +kernel
theorem dX12_goesBack_5 : decode cX12_goesBack 5 = .ok (.if_icmp .ge 21, 3) := by decide +kernel
theorem dX12_goesBack_8 : decode cX12_goesBack 8 = .ok (.aload_n 0, 1) := by decide +kernel
theorem dX12_goesBack_9 : decode cX12_goesBack 9 = .ok (.getfield 9, 3) := by decide +kernel
theorem dX12_goesBack_12 : decode cX12_goesBack 12 = .ok (.iload_n 1, 1) := by decide +kernel
theorem dX12_goesBack_13 : decode cX12_goesBack 13 = .ok (.aload_n 0, 1) := by decide +kernel
theorem dX12_goesBack_14 : decode cX12_goesBack 14 = .ok (.getfield 18, 3) := by decide +kernel
theorem dX12_goesBack_17 : decode cX12_goesBack 17 = .ok (.iload_n 1, 1) := by decide +kernel
theorem dX12_goesBack_18 : decode cX12_goesBack 18 = .ok (.iaload, 1) := by decide +kernel
theorem dX12_goesBack_19 : decode cX12_goesBack 19 = .ok (.iastore, 1) := by decide +kernel
theorem dX12_goesBack_20 : decode cX12_goesBack 20 = .ok (.iinc 1 1, 3) := by decide +kernel
theorem dX12_goesBack_23 : decode cX12_goesBack 23 = .ok (.goto (-21), 3) := by decide +kernel
theorem dX12_goesBack_26 : decode cX12_goesBack 26 = .ok (.return_, 1) := by decide +kernel
theorem dX12_feed_0 : decode cX12_feed 0 = .ok (.iload_n 1, 1) := by decide +kernel
theorem dX12_feed_1 : decode cX12_feed 1 = .ok (.iconst 0, 1) := by decide +kernel
theorem dX12_feed_2 : decode cX12_feed 2 = .ok (.bipush 127, 2) := by decide +kernel
theorem dX12_feed_4 : decode cX12_feed 4 = .ok (.invokestatic 41, 3) := by decide +kernel
theorem dX12_feed_7 : decode cX12_feed 7 = .ok (.ifCond .ne 6, 3) := by decide +kernel
theorem dX12_feed_10 : decode cX12_feed 10 = .ok (.bipush (-2), 2) := by decide +kernel
theorem dX12_feed_12 : decode cX12_feed 12 = .ok (.ireturn, 1) := by decide +kernel
theorem dX12_feed_13 : decode cX12_feed 13 = .ok (.aload_n 0, 1) := by decide +kernel
theorem dX12_feed_14 : decode cX12_feed 14 = .ok (.getfield 9, 3) := by decide +kernel
theorem dX12_feed_17 : decode cX12_feed 17 = .ok (.bipush 14, 2) := by decide +kernel
theorem dX12_feed_19 : decode cX12_feed 19 = .ok (.iaload, 1) := by decide +kernel
theorem dX12_feed_20 : decode cX12_feed 20 = .ok (.bipush 100, 2) := by decide +kernel
theorem dX12_feed_22 : decode cX12_feed 22 = .ok (.if_icmp .ne 6, 3) := by decide +kernel
theorem dX12_feed_25 : decode cX12_feed 25 = .ok (.bipush (-4), 2) := by decide +kernel
theorem dX12_feed_27 : decode cX12_feed 27 = .ok (.ireturn, 1) := by decide +kernel
theorem dX12_feed_28 : decode cX12_feed 28 = .ok (.aload_n 0, 1) := by decide +kernel
theorem dX12_feed_29 : decode cX12_feed 29 = .ok (.getfield 9, 3) := by decide +kernel
theorem dX12_feed_32 : decode cX12_feed 32 = .ok (.bipush 114, 2) := by decide +kernel
theorem dX12_feed_34 : decode cX12_feed 34 = .ok (.aload_n 0, 1) := by decide +kernel
theorem dX12_feed_35 : decode cX12_feed 35 = .ok (.getfield 9, 3) := by decide +kernel
theorem dX12_feed_38 : decode cX12_feed 38 = .ok (.bipush 14, 2) := by decide +kernel
theorem dX12_feed_40 : decode cX12_feed 40 = .ok (.iaload, 1) := by decide +kernel
theorem dX12_feed_41 : decode cX12_feed 41 = .ok (.iadd, 1) := by decide +kernel
theorem dX12_feed_42 : decode cX12_feed 42 = .ok (.iload_n 1, 1) := by decide +kernel
theorem dX12_feed_43 : decode cX12_feed 43 = .ok (.iastore, 1) := by decide +kernel
theorem dX12_feed_44 : decode cX12_feed 44 = .ok (.aload_n 0, 1) := by decide +kernel
theorem dX12_feed_45 : decode cX12_feed 45 = .ok (.getfield 9, 3) := by decide +kernel
theorem dX12_feed_48 : decode cX12_feed 48 = .ok (.bipush 14, 2) := by decide +kernel
theorem dX12_feed_50 : decode cX12_feed 50 = .ok (.dup2, 1) := by decide +kernel
theorem dX12_feed_51 : decode cX12_feed 51 = .ok (.iaload, 1) := by decide +kernel
theorem dX12_feed_52 : decode cX12_feed 52 = .ok (.iconst 1, 1) := by decide +kernel
theorem dX12_feed_53 : decode cX12_feed 53 = .ok (.iadd, 1) := by decide +kernel
theorem dX12_feed_54 : decode cX12_feed 54 = .ok (.iastore, 1) := by decide +kernel
theorem dX12_feed_55 : decode cX12_feed 55 = .ok (.aload_n 0, 1) := by decide +kernel
theorem dX12_feed_56 : decode cX12_feed 56 = .ok (.getfield 9, 3) := by decide +kernel
theorem dX12_feed_59 : decode cX12_feed 59 = .ok (.bipush 14, 2) := by decide +kernel
theorem dX12_feed_61 : decode cX12_feed 61 = .ok (.iaload, 1) := by decide +kernel
theorem dX12_feed_62 : decode cX12_feed 62 = .ok (.ireturn, 1) := by decide +kernel
theorem dX12_here_0 : decode cX12_here 0 = .ok (.aload_n 0, 1) := by decide +kernel
theorem dX12_here_1 : decode cX12_here 1 = .ok (.getfield 52, 3) := by decide +kernel
theorem dX12_here_4 : decode cX12_here 4 = .ok (.aload_n 0, 1) := by decide +kernel
theorem dX12_here_5 : decode cX12_here 5 = .ok (.getfield 55, 3) := by decide +kernel
theorem dX12_here_8 : decode cX12_here 8 = .ok (.if_icmp .ge 18, 3) := by decide +kernel
theorem dX12_here_11 : decode cX12_here 11 = .ok (.aload_n 0, 1) := by decide +kernel
theorem dX12_here_12 : decode cX12_here 12 = .ok (.getfield 9, 3) := by decide +kernel
theorem dX12_here_15 : decode cX12_here 15 = .ok (.bipush 114, 2) := by decide +kernel
theorem dX12_here_17 : decode cX12_here 17 = .ok (.aload_n 0, 1) := by decide +kernel
theorem dX12_here_18 : decode cX12_here 18 = .ok (.getfield 52, 3) := by decide +kernel
theorem dX12_here_21 : decode cX12_here 21 = .ok (.iadd, 1) := by decide +kernel
theorem dX12_here_22 : decode cX12_here 22 = .ok (.iaload, 1) := by decide +kernel
theorem dX12_here_23 : decode cX12_here 23 = .ok (.goto 4, 3) := by decide +kernel
theorem dX12_here_26 : decode cX12_here 26 = .ok (.iconst (-1), 1) := by decide +kernel
theorem dX12_here_27 : decode cX12_here 27 = .ok (.ireturn, 1) := by decide +kernel
theorem dX12_must_0 : decode cX12_must 0 = .ok (.aload_n 0, 1) := by decide +kernel
theorem dX12_must_1 : decode cX12_must 1 = .ok (.aload_n 0, 1) := by decide +kernel
theorem dX12_must_2 : decode cX12_must 2 = .ok (.getfield 58, 3) := by decide +kernel
theorem dX12_must_5 : decode cX12_must 5 = .ok (.ifCond .ne 11, 3) := by decide +kernel
theorem dX12_must_8 : decode cX12_must 8 = .ok (.aload_n 0, 1) := by decide +kernel
theorem dX12_must_9 : decode cX12_must 9 = .ok (.invokevirtual 62, 3) := by decide +kernel
theorem dX12_must_12 : decode cX12_must 12 = .ok (.iload_n 1, 1) := by decide +kernel
theorem dX12_must_13 : decode cX12_must 13 = .ok (.if_icmp .eq 7, 3) := by decide +kernel
theorem dX12_must_16 : decode cX12_must 16 = .ok (.iconst 1, 1) := by decide +kernel
theorem dX12_must_17 : decode cX12_must 17 = .ok (.goto 4, 3) := by decide +kernel
theorem dX12_must_20 : decode cX12_must 20 = .ok (.iconst 0, 1) := by decide +kernel
theorem dX12_must_21 : decode cX12_must 21 = .ok (.putfield 58, 3) := by decide +kernel
theorem dX12_must_24 : decode cX12_must 24 = .ok (.aload_n 0, 1) := by decide +kernel
theorem dX12_must_25 : decode cX12_must 25 = .ok (.dup, 1) := by decide +kernel
theorem dX12_must_26 : decode cX12_must 26 = .ok (.getfield 52, 3) := by decide +kernel
theorem dX12_must_29 : decode cX12_must 29 = .ok (.aload_n 0, 1) := by decide +kernel
theorem dX12_must_30 : decode cX12_must 30 = .ok (.getfield 58, 3) := by decide +kernel
theorem dX12_must_33 : decode cX12_must 33 = .ok (.ifCond .eq 7, 3) := by decide +kernel
theorem dX12_must_36 : decode cX12_must 36 = .ok (.iconst 0, 1) := by decide +kernel
theorem dX12_must_37 : decode cX12_must 37 = .ok (.goto 4, 3) := by decide +kernel
theorem dX12_must_40 : decode cX12_must 40 = .ok (.iconst 1, 1) := by decide +kernel
theorem dX12_must_41 : decode cX12_must 41 = .ok (.iadd, 1) := by decide +kernel
theorem dX12_must_42 : decode cX12_must 42 = .ok (.putfield 52, 3) := by decide +kernel
theorem dX12_must_45 : decode cX12_must 45 = .ok (.return_, 1) := by decide +kernel
theorem dX12_spells_0 : decode cX12_spells 0 = .ok (.iconst 0, 1) := by decide +kernel
theorem dX12_spells_1 : decode cX12_spells 1 = .ok (.istore_n 2, 1) := by decide +kernel
theorem dX12_spells_2 : decode cX12_spells 2 = .ok (.iload_n 2, 1) := by decide +kernel
theorem dX12_spells_3 : decode cX12_spells 3 = .ok (.aload_n 1, 1) := by decide +kernel
theorem dX12_spells_4 : decode cX12_spells 4 = .ok (.invokevirtual 66, 3) := by decide +kernel
theorem dX12_spells_7 : decode cX12_spells 7 = .ok (.if_icmp .ge 18, 3) := by decide +kernel
theorem dX12_spells_10 : decode cX12_spells 10 = .ok (.aload_n 0, 1) := by decide +kernel
theorem dX12_spells_11 : decode cX12_spells 11 = .ok (.aload_n 1, 1) := by decide +kernel
theorem dX12_spells_12 : decode cX12_spells 12 = .ok (.iload_n 2, 1) := by decide +kernel
theorem dX12_spells_13 : decode cX12_spells 13 = .ok (.invokevirtual 71, 3) := by decide +kernel
theorem dX12_spells_16 : decode cX12_spells 16 = .ok (.invokevirtual 75, 3) := by decide +kernel
theorem dX12_spells_19 : decode cX12_spells 19 = .ok (.iinc 2 1, 3) := by decide +kernel
theorem dX12_spells_22 : decode cX12_spells 22 = .ok (.goto (-20), 3) := by decide +kernel
theorem dX12_spells_25 : decode cX12_spells 25 = .ok (.return_, 1) := by decide +kernel
theorem dX12_figures_0 : decode cX12_figures 0 = .ok (.aload_n 0, 1) := by decide +kernel
theorem dX12_figures_1 : decode cX12_figures 1 = .ok (.aload_n 0, 1) := by decide +kernel
theorem dX12_figures_2 : decode cX12_figures 2 = .ok (.getfield 58, 3) := by decide +kernel
theorem dX12_figures_5 : decode cX12_figures 5 = .ok (.ifCond .ne 17, 3) := by decide +kernel
theorem dX12_figures_8 : decode cX12_figures 8 = .ok (.aload_n 0, 1) := by decide +kernel
theorem dX12_figures_9 : decode cX12_figures 9 = .ok (.invokevirtual 62, 3) := by decide +kernel
theorem dX12_figures_12 : decode cX12_figures 12 = .ok (.bipush 48, 2) := by decide +kernel
theorem dX12_figures_14 : decode cX12_figures 14 = .ok (.bipush 57, 2) := by decide +kernel
theorem dX12_figures_16 : decode cX12_figures 16 = .ok (.invokestatic 41, 3) := by decide +kernel
theorem dX12_figures_19 : decode cX12_figures 19 = .ok (.ifCond .ne 7, 3) := by decide +kernel
theorem dX12_figures_22 : decode cX12_figures 22 = .ok (.iconst 1, 1) := by decide +kernel
theorem dX12_figures_23 : decode cX12_figures 23 = .ok (.goto 4, 3) := by decide +kernel
theorem dX12_figures_26 : decode cX12_figures 26 = .ok (.iconst 0, 1) := by decide +kernel
theorem dX12_figures_27 : decode cX12_figures 27 = .ok (.putfield 58, 3) := by decide +kernel
theorem dX12_figures_30 : decode cX12_figures 30 = .ok (.iconst 0, 1) := by decide +kernel
theorem dX12_figures_31 : decode cX12_figures 31 = .ok (.istore_n 1, 1) := by decide +kernel
theorem dX12_figures_32 : decode cX12_figures 32 = .ok (.iconst 0, 1) := by decide +kernel
theorem dX12_figures_33 : decode cX12_figures 33 = .ok (.istore_n 2, 1) := by decide +kernel
theorem dX12_figures_34 : decode cX12_figures 34 = .ok (.iload_n 2, 1) := by decide +kernel
theorem dX12_figures_35 : decode cX12_figures 35 = .ok (.iconst 2, 1) := by decide +kernel
theorem dX12_figures_36 : decode cX12_figures 36 = .ok (.if_icmp .ge 61, 3) := by decide +kernel
theorem dX12_figures_39 : decode cX12_figures 39 = .ok (.aload_n 0, 1) := by decide +kernel
theorem dX12_figures_40 : decode cX12_figures 40 = .ok (.getfield 58, 3) := by decide +kernel
theorem dX12_figures_43 : decode cX12_figures 43 = .ok (.ifCond .ne 54, 3) := by decide +kernel
theorem dX12_figures_46 : decode cX12_figures 46 = .ok (.aload_n 0, 1) := by decide +kernel
theorem dX12_figures_47 : decode cX12_figures 47 = .ok (.invokevirtual 62, 3) := by decide +kernel
theorem dX12_figures_50 : decode cX12_figures 50 = .ok (.bipush 48, 2) := by decide +kernel
theorem dX12_figures_52 : decode cX12_figures 52 = .ok (.bipush 57, 2) := by decide +kernel
theorem dX12_figures_54 : decode cX12_figures 54 = .ok (.invokestatic 41, 3) := by decide +kernel
theorem dX12_figures_57 : decode cX12_figures 57 = .ok (.ifCond .eq 40, 3) := by decide +kernel
theorem dX12_figures_60 : decode cX12_figures 60 = .ok (.iload_n 2, 1) := by decide +kernel
theorem dX12_figures_61 : decode cX12_figures 61 = .ok (.ifCond .eq 7, 3) := by decide +kernel
theorem dX12_figures_64 : decode cX12_figures 64 = .ok (.iload_n 1, 1) := by decide +kernel
theorem dX12_figures_65 : decode cX12_figures 65 = .ok (.ifCond .le 32, 3) := by decide +kernel
theorem dX12_figures_68 : decode cX12_figures 68 = .ok (.bipush 10, 2) := by decide +kernel
theorem dX12_figures_70 : decode cX12_figures 70 = .ok (.iload_n 1, 1) := by decide +kernel
theorem dX12_figures_71 : decode cX12_figures 71 = .ok (.imul, 1) := by decide +kernel
theorem dX12_figures_72 : decode cX12_figures 72 = .ok (.aload_n 0, 1) := by decide +kernel
theorem dX12_figures_73 : decode cX12_figures 73 = .ok (.invokevirtual 62, 3) := by decide +kernel
theorem dX12_figures_76 : decode cX12_figures 76 = .ok (.iadd, 1) := by decide +kernel
theorem dX12_figures_77 : decode cX12_figures 77 = .ok (.bipush 48, 2) := by decide +kernel
theorem dX12_figures_79 : decode cX12_figures 79 = .ok (.isub, 1) := by decide +kernel
theorem dX12_figures_80 : decode cX12_figures 80 = .ok (.istore_n 1, 1) := by decide +kernel
theorem dX12_figures_81 : decode cX12_figures 81 = .ok (.aload_n 0, 1) := by decide +kernel
theorem dX12_figures_82 : decode cX12_figures 82 = .ok (.dup, 1) := by decide +kernel
theorem dX12_figures_83 : decode cX12_figures 83 = .ok (.getfield 52, 3) := by decide +kernel
theorem dX12_figures_86 : decode cX12_figures 86 = .ok (.iconst 1, 1) := by decide +kernel
theorem dX12_figures_87 : decode cX12_figures 87 = .ok (.iadd, 1) := by decide +kernel
theorem dX12_figures_88 : decode cX12_figures 88 = .ok (.putfield 52, 3) := by decide +kernel
theorem dX12_figures_91 : decode cX12_figures 91 = .ok (.iinc 2 1, 3) := by decide +kernel
theorem dX12_figures_94 : decode cX12_figures 94 = .ok (.goto (-60), 3) := by decide +kernel
theorem dX12_figures_97 : decode cX12_figures 97 = .ok (.iload_n 1, 1) := by decide +kernel
theorem dX12_figures_98 : decode cX12_figures 98 = .ok (.ireturn, 1) := by decide +kernel
theorem dX12_among_0 : decode cX12_among 0 = .ok (.iconst 0, 1) := by decide +kernel
theorem dX12_among_1 : decode cX12_among 1 = .ok (.istore_n 2, 1) := by decide +kernel
theorem dX12_among_2 : decode cX12_among 2 = .ok (.iload_n 2, 1) := by decide +kernel
theorem dX12_among_3 : decode cX12_among 3 = .ok (.aload_n 1, 1) := by decide +kernel
theorem dX12_among_4 : decode cX12_among 4 = .ok (.invokevirtual 66, 3) := by decide +kernel
theorem dX12_among_7 : decode cX12_among 7 = .ok (.if_icmp .ge 33, 3) := by decide +kernel
theorem dX12_among_10 : decode cX12_among 10 = .ok (.aload_n 0, 1) := by decide +kernel
theorem dX12_among_11 : decode cX12_among 11 = .ok (.invokevirtual 62, 3) := by decide +kernel
theorem dX12_among_14 : decode cX12_among 14 = .ok (.aload_n 1, 1) := by decide +kernel
theorem dX12_among_15 : decode cX12_among 15 = .ok (.iload_n 2, 1) := by decide +kernel
theorem dX12_among_16 : decode cX12_among 16 = .ok (.invokevirtual 71, 3) := by decide +kernel
theorem dX12_among_19 : decode cX12_among 19 = .ok (.if_icmp .ne 15, 3) := by decide +kernel
theorem dX12_among_22 : decode cX12_among 22 = .ok (.aload_n 0, 1) := by decide +kernel
theorem dX12_among_23 : decode cX12_among 23 = .ok (.dup, 1) := by decide +kernel
theorem dX12_among_24 : decode cX12_among 24 = .ok (.getfield 52, 3) := by decide +kernel
theorem dX12_among_27 : decode cX12_among 27 = .ok (.iconst 1, 1) := by decide +kernel
theorem dX12_among_28 : decode cX12_among 28 = .ok (.iadd, 1) := by decide +kernel
theorem dX12_among_29 : decode cX12_among 29 = .ok (.putfield 52, 3) := by decide +kernel
theorem dX12_among_32 : decode cX12_among 32 = .ok (.iload_n 2, 1) := by decide +kernel
theorem dX12_among_33 : decode cX12_among 33 = .ok (.ireturn, 1) := by decide +kernel
theorem dX12_among_34 : decode cX12_among 34 = .ok (.iinc 2 1, 3) := by decide +kernel
theorem dX12_among_37 : decode cX12_among 37 = .ok (.goto (-35), 3) := by decide +kernel
theorem dX12_among_40 : decode cX12_among 40 = .ok (.iconst (-1), 1) := by decide +kernel
theorem dX12_among_41 : decode cX12_among 41 = .ok (.ireturn, 1) := by decide +kernel
theorem dX12_emits_0 : decode cX12_emits 0 = .ok (.aload_n 0, 1) := by decide +kernel
theorem dX12_emits_1 : decode cX12_emits 1 = .ok (.getfield 58, 3) := by decide +kernel
theorem dX12_emits_4 : decode cX12_emits 4 = .ok (.ifCond .ne 52, 3) := by decide +kernel
theorem dX12_emits_7 : decode cX12_emits 7 = .ok (.aload_n 0, 1) := by decide +kernel
theorem dX12_emits_8 : decode cX12_emits 8 = .ok (.getfield 9, 3) := by decide +kernel
theorem dX12_emits_11 : decode cX12_emits 11 = .ok (.sipush 229, 3) := by decide +kernel
theorem dX12_emits_14 : decode cX12_emits 14 = .ok (.sipush 140, 3) := by decide +kernel
theorem dX12_emits_17 : decode cX12_emits 17 = .ok (.aload_n 0, 1) := by decide +kernel
theorem dX12_emits_18 : decode cX12_emits 18 = .ok (.getfield 79, 3) := by decide +kernel
theorem dX12_emits_21 : decode cX12_emits 21 = .ok (.imul, 1) := by decide +kernel
theorem dX12_emits_22 : decode cX12_emits 22 = .ok (.iadd, 1) := by decide +kernel
theorem dX12_emits_23 : decode cX12_emits 23 = .ok (.aload_n 0, 1) := by decide +kernel
theorem dX12_emits_24 : decode cX12_emits 24 = .ok (.getfield 9, 3) := by decide +kernel
theorem dX12_emits_27 : decode cX12_emits 27 = .ok (.sipush 224, 3) := by decide +kernel
theorem dX12_emits_30 : decode cX12_emits 30 = .ok (.aload_n 0, 1) := by decide +kernel
theorem dX12_emits_31 : decode cX12_emits 31 = .ok (.getfield 79, 3) := by decide +kernel
theorem dX12_emits_34 : decode cX12_emits 34 = .ok (.iadd, 1) := by decide +kernel
theorem dX12_emits_35 : decode cX12_emits 35 = .ok (.iaload, 1) := by decide +kernel
theorem dX12_emits_36 : decode cX12_emits 36 = .ok (.iadd, 1) := by decide +kernel
theorem dX12_emits_37 : decode cX12_emits 37 = .ok (.iload_n 1, 1) := by decide +kernel
theorem dX12_emits_38 : decode cX12_emits 38 = .ok (.iastore, 1) := by decide +kernel
theorem dX12_emits_39 : decode cX12_emits 39 = .ok (.aload_n 0, 1) := by decide +kernel
theorem dX12_emits_40 : decode cX12_emits 40 = .ok (.getfield 9, 3) := by decide +kernel
theorem dX12_emits_43 : decode cX12_emits 43 = .ok (.sipush 224, 3) := by decide +kernel
theorem dX12_emits_46 : decode cX12_emits 46 = .ok (.aload_n 0, 1) := by decide +kernel
theorem dX12_emits_47 : decode cX12_emits 47 = .ok (.getfield 79, 3) := by decide +kernel
theorem dX12_emits_50 : decode cX12_emits 50 = .ok (.iadd, 1) := by decide +kernel
theorem dX12_emits_51 : decode cX12_emits 51 = .ok (.dup2, 1) := by decide +kernel
theorem dX12_emits_52 : decode cX12_emits 52 = .ok (.iaload, 1) := by decide +kernel
theorem dX12_emits_53 : decode cX12_emits 53 = .ok (.iconst 1, 1) := by decide +kernel
theorem dX12_emits_54 : decode cX12_emits 54 = .ok (.iadd, 1) := by decide +kernel
theorem dX12_emits_55 : decode cX12_emits 55 = .ok (.iastore, 1) := by decide +kernel
theorem dX12_emits_56 : decode cX12_emits 56 = .ok (.return_, 1) := by decide +kernel
theorem dX12_factor_0 : decode cX12_factor 0 = .ok (.aload_n 0, 1) := by decide +kernel
theorem dX12_factor_1 : decode cX12_factor 1 = .ok (.getfield 58, 3) := by decide +kernel
theorem dX12_factor_4 : decode cX12_factor 4 = .ok (.ifCond .eq 4, 3) := by decide +kernel
theorem dX12_factor_7 : decode cX12_factor 7 = .ok (.return_, 1) := by decide +kernel
theorem dX12_factor_8 : decode cX12_factor 8 = .ok (.aload_n 0, 1) := by decide +kernel
theorem dX12_factor_9 : decode cX12_factor 9 = .ok (.invokevirtual 62, 3) := by decide +kernel
theorem dX12_factor_12 : decode cX12_factor 12 = .ok (.istore_n 1, 1) := by decide +kernel
theorem dX12_factor_13 : decode cX12_factor 13 = .ok (.iload_n 1, 1) := by decide +kernel
theorem dX12_factor_14 : decode cX12_factor 14 = .ok (.bipush 33, 2) := by decide +kernel
theorem dX12_factor_16 : decode cX12_factor 16 = .ok (.if_icmp .eq 9, 3) := by decide +kernel
theorem dX12_factor_19 : decode cX12_factor 19 = .ok (.iload_n 1, 1) := by decide +kernel
theorem dX12_factor_20 : decode cX12_factor 20 = .ok (.bipush 40, 2) := by decide +kernel
theorem dX12_factor_22 : decode cX12_factor 22 = .ok (.if_icmp .ne 90, 3) := by decide +kernel
theorem dX12_factor_25 : decode cX12_factor 25 = .ok (.aload_n 0, 1) := by decide +kernel
theorem dX12_factor_26 : decode cX12_factor 26 = .ok (.aload_n 0, 1) := by decide +kernel
theorem dX12_factor_27 : decode cX12_factor 27 = .ok (.getfield 82, 3) := by decide +kernel
theorem dX12_factor_30 : decode cX12_factor 30 = .ok (.iconst 5, 1) := by decide +kernel
theorem dX12_factor_31 : decode cX12_factor 31 = .ok (.if_icmp .ne 7, 3) := by decide +kernel
theorem dX12_factor_34 : decode cX12_factor 34 = .ok (.iconst 1, 1) := by decide +kernel
theorem dX12_factor_35 : decode cX12_factor 35 = .ok (.goto 4, 3) := by decide +kernel
theorem dX12_factor_38 : decode cX12_factor 38 = .ok (.iconst 0, 1) := by decide +kernel
theorem dX12_factor_39 : decode cX12_factor 39 = .ok (.putfield 58, 3) := by decide +kernel
theorem dX12_factor_42 : decode cX12_factor 42 = .ok (.aload_n 0, 1) := by decide +kernel
theorem dX12_factor_43 : decode cX12_factor 43 = .ok (.dup, 1) := by decide +kernel
theorem dX12_factor_44 : decode cX12_factor 44 = .ok (.getfield 82, 3) := by decide +kernel
theorem dX12_factor_47 : decode cX12_factor 47 = .ok (.iconst 1, 1) := by decide +kernel
theorem dX12_factor_48 : decode cX12_factor 48 = .ok (.iadd, 1) := by decide +kernel
theorem dX12_factor_49 : decode cX12_factor 49 = .ok (.putfield 82, 3) := by decide +kernel
theorem dX12_factor_52 : decode cX12_factor 52 = .ok (.aload_n 0, 1) := by decide +kernel
theorem dX12_factor_53 : decode cX12_factor 53 = .ok (.dup, 1) := by decide +kernel
theorem dX12_factor_54 : decode cX12_factor 54 = .ok (.getfield 52, 3) := by decide +kernel
theorem dX12_factor_57 : decode cX12_factor 57 = .ok (.aload_n 0, 1) := by decide +kernel
theorem dX12_factor_58 : decode cX12_factor 58 = .ok (.getfield 58, 3) := by decide +kernel
theorem dX12_factor_61 : decode cX12_factor 61 = .ok (.ifCond .eq 7, 3) := by decide +kernel
theorem dX12_factor_64 : decode cX12_factor 64 = .ok (.iconst 0, 1) := by decide +kernel
theorem dX12_factor_65 : decode cX12_factor 65 = .ok (.goto 4, 3) := by decide +kernel
theorem dX12_factor_68 : decode cX12_factor 68 = .ok (.iconst 1, 1) := by decide +kernel
theorem dX12_factor_69 : decode cX12_factor 69 = .ok (.iadd, 1) := by decide +kernel
theorem dX12_factor_70 : decode cX12_factor 70 = .ok (.putfield 52, 3) := by decide +kernel
theorem dX12_factor_73 : decode cX12_factor 73 = .ok (.iload_n 1, 1) := by decide +kernel
theorem dX12_factor_74 : decode cX12_factor 74 = .ok (.bipush 33, 2) := by decide +kernel
theorem dX12_factor_76 : decode cX12_factor 76 = .ok (.if_icmp .ne 15, 3) := by decide +kernel
theorem dX12_factor_79 : decode cX12_factor 79 = .ok (.aload_n 0, 1) := by decide +kernel
theorem dX12_factor_80 : decode cX12_factor 80 = .ok (.invokevirtual 85, 3) := by decide +kernel
theorem dX12_factor_83 : decode cX12_factor 83 = .ok (.aload_n 0, 1) := by decide +kernel
theorem dX12_factor_84 : decode cX12_factor 84 = .ok (.iconst (-1), 1) := by decide +kernel
theorem dX12_factor_85 : decode cX12_factor 85 = .ok (.invokevirtual 88, 3) := by decide +kernel
theorem dX12_factor_88 : decode cX12_factor 88 = .ok (.goto 13, 3) := by decide +kernel
theorem dX12_factor_91 : decode cX12_factor 91 = .ok (.aload_n 0, 1) := by decide +kernel
theorem dX12_factor_92 : decode cX12_factor 92 = .ok (.invokevirtual 91, 3) := by decide +kernel
theorem dX12_factor_95 : decode cX12_factor 95 = .ok (.aload_n 0, 1) := by decide +kernel
theorem dX12_factor_96 : decode cX12_factor 96 = .ok (.bipush 41, 2) := by decide +kernel
theorem dX12_factor_98 : decode cX12_factor 98 = .ok (.invokevirtual 75, 3) := by decide +kernel
theorem dX12_factor_101 : decode cX12_factor 101 = .ok (.aload_n 0, 1) := by decide +kernel
theorem dX12_factor_102 : decode cX12_factor 102 = .ok (.dup, 1) := by decide +kernel
theorem dX12_factor_103 : decode cX12_factor 103 = .ok (.getfield 82, 3) := by decide +kernel
theorem dX12_factor_106 : decode cX12_factor 106 = .ok (.iconst 1, 1) := by decide +kernel
theorem dX12_factor_107 : decode cX12_factor 107 = .ok (.isub, 1) := by decide +kernel
theorem dX12_factor_108 : decode cX12_factor 108 = .ok (.putfield 82, 3) := by decide +kernel
theorem dX12_factor_111 : decode cX12_factor 111 = .ok (.return_, 1) := by decide +kernel
theorem dX12_factor_112 : decode cX12_factor 112 = .ok (.aload_n 0, 1) := by decide +kernel
theorem dX12_factor_113 : decode cX12_factor 113 = .ok (.ldc 94, 2) := by decide +kernel
theorem dX12_factor_115 : decode cX12_factor 115 = .ok (.invokevirtual 96, 3) := by decide +kernel
theorem dX12_factor_118 : decode cX12_factor 118 = .ok (.istore_n 2, 1) := by decide +kernel
theorem dX12_factor_119 : decode cX12_factor 119 = .ok (.aload_n 0, 1) := by decide +kernel
theorem dX12_factor_120 : decode cX12_factor 120 = .ok (.iload_n 2, 1) := by decide +kernel
theorem dX12_factor_121 : decode cX12_factor 121 = .ok (.iconst (-1), 1) := by decide +kernel
theorem dX12_factor_122 : decode cX12_factor 122 = .ok (.if_icmp .ne 7, 3) := by decide +kernel
theorem dX12_factor_125 : decode cX12_factor 125 = .ok (.iconst 1, 1) := by decide +kernel
theorem dX12_factor_126 : decode cX12_factor 126 = .ok (.goto 4, 3) := by decide +kernel
theorem dX12_factor_129 : decode cX12_factor 129 = .ok (.iconst 0, 1) := by decide +kernel
theorem dX12_factor_130 : decode cX12_factor 130 = .ok (.putfield 58, 3) := by decide +kernel
theorem dX12_factor_133 : decode cX12_factor 133 = .ok (.aload_n 0, 1) := by decide +kernel
theorem dX12_factor_134 : decode cX12_factor 134 = .ok (.getfield 58, 3) := by decide +kernel
theorem dX12_factor_137 : decode cX12_factor 137 = .ok (.ifCond .eq 7, 3) := by decide +kernel
theorem dX12_factor_140 : decode cX12_factor 140 = .ok (.iconst 0, 1) := by decide +kernel
theorem dX12_factor_141 : decode cX12_factor 141 = .ok (.goto 9, 3) := by decide +kernel
theorem dX12_factor_144 : decode cX12_factor 144 = .ok (.aload_n 0, 1) := by decide +kernel
theorem dX12_factor_145 : decode cX12_factor 145 = .ok (.ldc 100, 2) := by decide +kernel
theorem dX12_factor_147 : decode cX12_factor 147 = .ok (.invokevirtual 96, 3) := by decide +kernel
theorem dX12_factor_150 : decode cX12_factor 150 = .ok (.istore_n 3, 1) := by decide +kernel
theorem dX12_factor_151 : decode cX12_factor 151 = .ok (.aload_n 0, 1) := by decide +kernel
theorem dX12_factor_152 : decode cX12_factor 152 = .ok (.aload_n 0, 1) := by decide +kernel
theorem dX12_factor_153 : decode cX12_factor 153 = .ok (.getfield 58, 3) := by decide +kernel
theorem dX12_factor_156 : decode cX12_factor 156 = .ok (.ifCond .ne 8, 3) := by decide +kernel
theorem dX12_factor_159 : decode cX12_factor 159 = .ok (.iload_n 3, 1) := by decide +kernel
theorem dX12_factor_160 : decode cX12_factor 160 = .ok (.iconst (-1), 1) := by decide +kernel
theorem dX12_factor_161 : decode cX12_factor 161 = .ok (.if_icmp .ne 7, 3) := by decide +kernel
theorem dX12_factor_164 : decode cX12_factor 164 = .ok (.iconst 1, 1) := by decide +kernel
theorem dX12_factor_165 : decode cX12_factor 165 = .ok (.goto 4, 3) := by decide +kernel
theorem dX12_factor_168 : decode cX12_factor 168 = .ok (.iconst 0, 1) := by decide +kernel
theorem dX12_factor_169 : decode cX12_factor 169 = .ok (.putfield 58, 3) := by decide +kernel
theorem dX12_factor_172 : decode cX12_factor 172 = .ok (.aload_n 0, 1) := by decide +kernel
theorem dX12_factor_173 : decode cX12_factor 173 = .ok (.invokevirtual 102, 3) := by decide +kernel
theorem dX12_factor_176 : decode cX12_factor 176 = .ok (.istore 4, 2) := by decide +kernel
theorem dX12_factor_178 : decode cX12_factor 178 = .ok (.aload_n 0, 1) := by decide +kernel
theorem dX12_factor_179 : decode cX12_factor 179 = .ok (.iload_n 2, 1) := by decide +kernel
theorem dX12_factor_180 : decode cX12_factor 180 = .ok (.bipush 8, 2) := by decide +kernel
theorem dX12_factor_182 : decode cX12_factor 182 = .ok (.iload_n 3, 1) := by decide +kernel
theorem dX12_factor_183 : decode cX12_factor 183 = .ok (.imul, 1) := by decide +kernel
theorem dX12_factor_184 : decode cX12_factor 184 = .ok (.iadd, 1) := by decide +kernel
theorem dX12_factor_185 : decode cX12_factor 185 = .ok (.bipush 32, 2) := by decide +kernel
theorem dX12_factor_187 : decode cX12_factor 187 = .ok (.iload 4, 2) := by decide +kernel
theorem dX12_factor_189 : decode cX12_factor 189 = .ok (.imul, 1) := by decide +kernel
theorem dX12_factor_190 : decode cX12_factor 190 = .ok (.iadd, 1) := by decide +kernel
theorem dX12_factor_191 : decode cX12_factor 191 = .ok (.invokevirtual 88, 3) := by decide +kernel
theorem dX12_factor_194 : decode cX12_factor 194 = .ok (.return_, 1) := by decide +kernel
theorem dX12_every_0 : decode cX12_every 0 = .ok (.aload_n 0, 1) := by decide +kernel
theorem dX12_every_1 : decode cX12_every 1 = .ok (.invokevirtual 85, 3) := by decide +kernel
theorem dX12_every_4 : decode cX12_every 4 = .ok (.aload_n 0, 1) := by decide +kernel
theorem dX12_every_5 : decode cX12_every 5 = .ok (.getfield 58, 3) := by decide +kernel
theorem dX12_every_8 : decode cX12_every 8 = .ok (.ifCond .ne 35, 3) := by decide +kernel
theorem dX12_every_11 : decode cX12_every 11 = .ok (.aload_n 0, 1) := by decide +kernel
theorem dX12_every_12 : decode cX12_every 12 = .ok (.invokevirtual 62, 3) := by decide +kernel
theorem dX12_every_15 : decode cX12_every 15 = .ok (.bipush 38, 2) := by decide +kernel
theorem dX12_every_17 : decode cX12_every 17 = .ok (.if_icmp .ne 26, 3) := by decide +kernel
theorem dX12_every_20 : decode cX12_every 20 = .ok (.aload_n 0, 1) := by decide +kernel
theorem dX12_every_21 : decode cX12_every 21 = .ok (.dup, 1) := by decide +kernel
theorem dX12_every_22 : decode cX12_every 22 = .ok (.getfield 52, 3) := by decide +kernel
theorem dX12_every_25 : decode cX12_every 25 = .ok (.iconst 1, 1) := by decide +kernel
theorem dX12_every_26 : decode cX12_every 26 = .ok (.iadd, 1) := by decide +kernel
theorem dX12_every_27 : decode cX12_every 27 = .ok (.putfield 52, 3) := by decide +kernel
theorem dX12_every_30 : decode cX12_every 30 = .ok (.aload_n 0, 1) := by decide +kernel
theorem dX12_every_31 : decode cX12_every 31 = .ok (.invokevirtual 85, 3) := by decide +kernel
theorem dX12_every_34 : decode cX12_every 34 = .ok (.aload_n 0, 1) := by decide +kernel
theorem dX12_every_35 : decode cX12_every 35 = .ok (.bipush (-2), 2) := by decide +kernel
theorem dX12_every_37 : decode cX12_every 37 = .ok (.invokevirtual 88, 3) := by decide +kernel
theorem dX12_every_40 : decode cX12_every 40 = .ok (.goto (-36), 3) := by decide +kernel
theorem dX12_every_43 : decode cX12_every 43 = .ok (.return_, 1) := by decide +kernel
theorem dX12_some_0 : decode cX12_some 0 = .ok (.aload_n 0, 1) := by decide +kernel
theorem dX12_some_1 : decode cX12_some 1 = .ok (.invokevirtual 105, 3) := by decide +kernel
theorem dX12_some_4 : decode cX12_some 4 = .ok (.aload_n 0, 1) := by decide +kernel
theorem dX12_some_5 : decode cX12_some 5 = .ok (.getfield 58, 3) := by decide +kernel
theorem dX12_some_8 : decode cX12_some 8 = .ok (.ifCond .ne 35, 3) := by decide +kernel
theorem dX12_some_11 : decode cX12_some 11 = .ok (.aload_n 0, 1) := by decide +kernel
theorem dX12_some_12 : decode cX12_some 12 = .ok (.invokevirtual 62, 3) := by decide +kernel
theorem dX12_some_15 : decode cX12_some 15 = .ok (.bipush 124, 2) := by decide +kernel
theorem dX12_some_17 : decode cX12_some 17 = .ok (.if_icmp .ne 26, 3) := by decide +kernel
theorem dX12_some_20 : decode cX12_some 20 = .ok (.aload_n 0, 1) := by decide +kernel
theorem dX12_some_21 : decode cX12_some 21 = .ok (.dup, 1) := by decide +kernel
theorem dX12_some_22 : decode cX12_some 22 = .ok (.getfield 52, 3) := by decide +kernel
theorem dX12_some_25 : decode cX12_some 25 = .ok (.iconst 1, 1) := by decide +kernel
theorem dX12_some_26 : decode cX12_some 26 = .ok (.iadd, 1) := by decide +kernel
theorem dX12_some_27 : decode cX12_some 27 = .ok (.putfield 52, 3) := by decide +kernel
theorem dX12_some_30 : decode cX12_some 30 = .ok (.aload_n 0, 1) := by decide +kernel
theorem dX12_some_31 : decode cX12_some 31 = .ok (.invokevirtual 105, 3) := by decide +kernel
theorem dX12_some_34 : decode cX12_some 34 = .ok (.aload_n 0, 1) := by decide +kernel
theorem dX12_some_35 : decode cX12_some 35 = .ok (.bipush (-3), 2) := by decide +kernel
theorem dX12_some_37 : decode cX12_some 37 = .ok (.invokevirtual 88, 3) := by decide +kernel
theorem dX12_some_40 : decode cX12_some 40 = .ok (.goto (-36), 3) := by decide +kernel
theorem dX12_some_43 : decode cX12_some 43 = .ok (.return_, 1) := by decide +kernel
theorem dX12_much_0 : decode cX12_much 0 = .ok (.aload_n 0, 1) := by decide +kernel
theorem dX12_much_1 : decode cX12_much 1 = .ok (.aload_n 2, 1) := by decide +kernel
theorem dX12_much_2 : decode cX12_much 2 = .ok (.invokevirtual 108, 3) := by decide +kernel
theorem dX12_much_5 : decode cX12_much 5 = .ok (.aload_n 0, 1) := by decide +kernel
theorem dX12_much_6 : decode cX12_much 6 = .ok (.invokevirtual 102, 3) := by decide +kernel
theorem dX12_much_9 : decode cX12_much 9 = .ok (.istore_n 3, 1) := by decide +kernel
theorem dX12_much_10 : decode cX12_much 10 = .ok (.aload_n 0, 1) := by decide +kernel
theorem dX12_much_11 : decode cX12_much 11 = .ok (.bipush 32, 2) := by decide +kernel
theorem dX12_much_13 : decode cX12_much 13 = .ok (.invokevirtual 75, 3) := by decide +kernel
theorem dX12_much_16 : decode cX12_much 16 = .ok (.aload_n 0, 1) := by decide +kernel
theorem dX12_much_17 : decode cX12_much 17 = .ok (.invokevirtual 91, 3) := by decide +kernel
theorem dX12_much_20 : decode cX12_much 20 = .ok (.aload_n 0, 1) := by decide +kernel
theorem dX12_much_21 : decode cX12_much 21 = .ok (.iload_n 1, 1) := by decide +kernel
theorem dX12_much_22 : decode cX12_much 22 = .ok (.iload_n 3, 1) := by decide +kernel
theorem dX12_much_23 : decode cX12_much 23 = .ok (.isub, 1) := by decide +kernel
theorem dX12_much_24 : decode cX12_much 24 = .ok (.invokevirtual 88, 3) := by decide +kernel
theorem dX12_much_27 : decode cX12_much 27 = .ok (.return_, 1) := by decide +kernel
theorem dX12_tellsHere_0 : decode cX12_tellsHere 0 = .ok (.aload_n 0, 1) := by decide +kernel
theorem dX12_tellsHere_1 : decode cX12_tellsHere 1 = .ok (.aload_n 2, 1) := by decide +kernel
theorem dX12_tellsHere_2 : decode cX12_tellsHere 2 = .ok (.invokevirtual 108, 3) := by decide +kernel
theorem dX12_tellsHere_5 : decode cX12_tellsHere 5 = .ok (.aload_n 0, 1) := by decide +kernel
theorem dX12_tellsHere_6 : decode cX12_tellsHere 6 = .ok (.invokevirtual 102, 3) := by decide +kernel
theorem dX12_tellsHere_9 : decode cX12_tellsHere 9 = .ok (.istore_n 3, 1) := by decide +kernel
theorem dX12_tellsHere_10 : decode cX12_tellsHere 10 = .ok (.aload_n 0, 1) := by decide +kernel
theorem dX12_tellsHere_11 : decode cX12_tellsHere 11 = .ok (.getfield 58, 3) := by decide +kernel
theorem dX12_tellsHere_14 : decode cX12_tellsHere 14 = .ok (.ifCond .ne 15, 3) := by decide +kernel
theorem dX12_tellsHere_17 : decode cX12_tellsHere 17 = .ok (.aload_n 0, 1) := by decide +kernel
theorem dX12_tellsHere_18 : decode cX12_tellsHere 18 = .ok (.getfield 9, 3) := by decide +kernel
theorem dX12_tellsHere_21 : decode cX12_tellsHere 21 = .ok (.iload_n 1, 1) := by decide +kernel
theorem dX12_tellsHere_22 : decode cX12_tellsHere 22 = .ok (.aload_n 0, 1) := by decide +kernel
theorem dX12_tellsHere_23 : decode cX12_tellsHere 23 = .ok (.getfield 79, 3) := by decide +kernel
theorem dX12_tellsHere_26 : decode cX12_tellsHere 26 = .ok (.iadd, 1) := by decide +kernel
theorem dX12_tellsHere_27 : decode cX12_tellsHere 27 = .ok (.iload_n 3, 1) := by decide +kernel
theorem dX12_tellsHere_28 : decode cX12_tellsHere 28 = .ok (.iastore, 1) := by decide +kernel
theorem dX12_tellsHere_29 : decode cX12_tellsHere 29 = .ok (.return_, 1) := by decide +kernel
theorem dX12_wordOfD_0 : decode cX12_wordOfD 0 = .ok (.aload_n 0, 1) := by decide +kernel
theorem dX12_wordOfD_1 : decode cX12_wordOfD 1 = .ok (.bipush 100, 2) := by decide +kernel
theorem dX12_wordOfD_3 : decode cX12_wordOfD 3 = .ok (.invokevirtual 75, 3) := by decide +kernel
theorem dX12_wordOfD_6 : decode cX12_wordOfD 6 = .ok (.aload_n 0, 1) := by decide +kernel
theorem dX12_wordOfD_7 : decode cX12_wordOfD 7 = .ok (.invokevirtual 62, 3) := by decide +kernel
theorem dX12_wordOfD_10 : decode cX12_wordOfD 10 = .ok (.bipush 101, 2) := by decide +kernel
theorem dX12_wordOfD_12 : decode cX12_wordOfD 12 = .ok (.if_icmp .ne 14, 3) := by decide +kernel
theorem dX12_wordOfD_15 : decode cX12_wordOfD 15 = .ok (.aload_n 0, 1) := by decide +kernel
theorem dX12_wordOfD_16 : decode cX12_wordOfD 16 = .ok (.bipush (-10), 2) := by decide +kernel
theorem dX12_wordOfD_18 : decode cX12_wordOfD 18 = .ok (.ldc 112, 2) := by decide +kernel
theorem dX12_wordOfD_20 : decode cX12_wordOfD 20 = .ok (.invokevirtual 114, 3) := by decide +kernel
theorem dX12_wordOfD_23 : decode cX12_wordOfD 23 = .ok (.goto 12, 3) := by decide +kernel
theorem dX12_wordOfD_26 : decode cX12_wordOfD 26 = .ok (.aload_n 0, 1) := by decide +kernel
theorem dX12_wordOfD_27 : decode cX12_wordOfD 27 = .ok (.sipush (-200), 3) := by decide +kernel
theorem dX12_wordOfD_30 : decode cX12_wordOfD 30 = .ok (.ldc 118, 2) := by decide +kernel
theorem dX12_wordOfD_32 : decode cX12_wordOfD 32 = .ok (.invokevirtual 114, 3) := by decide +kernel
theorem dX12_wordOfD_35 : decode cX12_wordOfD 35 = .ok (.return_, 1) := by decide +kernel
theorem dX12_clauseHere_0 : decode cX12_clauseHere 0 = .ok (.aload_n 0, 1) := by decide +kernel
theorem dX12_clauseHere_1 : decode cX12_clauseHere 1 = .ok (.invokevirtual 62, 3) := by decide +kernel
theorem dX12_clauseHere_4 : decode cX12_clauseHere 4 = .ok (.lookupswitch 67 #[(99, 48), (100, 60), (116, 36)], 36) := by decide +kernel
theorem dX12_clauseHere_40 : decode cX12_clauseHere 40 = .ok (.aload_n 0, 1) := by decide +kernel
theorem dX12_clauseHere_41 : decode cX12_clauseHere 41 = .ok (.sipush 214, 3) := by decide +kernel
theorem dX12_clauseHere_44 : decode cX12_clauseHere 44 = .ok (.ldc 120, 2) := by decide +kernel
theorem dX12_clauseHere_46 : decode cX12_clauseHere 46 = .ok (.invokevirtual 122, 3) := by decide +kernel
theorem dX12_clauseHere_49 : decode cX12_clauseHere 49 = .ok (.goto 27, 3) := by decide +kernel
theorem dX12_clauseHere_52 : decode cX12_clauseHere 52 = .ok (.aload_n 0, 1) := by decide +kernel
theorem dX12_clauseHere_53 : decode cX12_clauseHere 53 = .ok (.sipush 219, 3) := by decide +kernel
theorem dX12_clauseHere_56 : decode cX12_clauseHere 56 = .ok (.ldc 125, 2) := by decide +kernel
theorem dX12_clauseHere_58 : decode cX12_clauseHere 58 = .ok (.invokevirtual 122, 3) := by decide +kernel
theorem dX12_clauseHere_61 : decode cX12_clauseHere 61 = .ok (.goto 15, 3) := by decide +kernel
theorem dX12_clauseHere_64 : decode cX12_clauseHere 64 = .ok (.aload_n 0, 1) := by decide +kernel
theorem dX12_clauseHere_65 : decode cX12_clauseHere 65 = .ok (.invokevirtual 127, 3) := by decide +kernel
theorem dX12_clauseHere_68 : decode cX12_clauseHere 68 = .ok (.goto 8, 3) := by decide +kernel
theorem dX12_clauseHere_71 : decode cX12_clauseHere 71 = .ok (.aload_n 0, 1) := by decide +kernel
theorem dX12_clauseHere_72 : decode cX12_clauseHere 72 = .ok (.iconst 1, 1) := by decide +kernel
theorem dX12_clauseHere_73 : decode cX12_clauseHere 73 = .ok (.putfield 58, 3) := by decide +kernel
theorem dX12_clauseHere_76 : decode cX12_clauseHere 76 = .ok (.return_, 1) := by decide +kernel
theorem dX12_sky_0 : decode cX12_sky 0 = .ok (.aload_n 0, 1) := by decide +kernel
theorem dX12_sky_1 : decode cX12_sky 1 = .ok (.getfield 9, 3) := by decide +kernel
theorem dX12_sky_4 : decode cX12_sky 4 = .ok (.bipush 10, 2) := by decide +kernel
theorem dX12_sky_6 : decode cX12_sky 6 = .ok (.iaload, 1) := by decide +kernel
theorem dX12_sky_7 : decode cX12_sky 7 = .ok (.iconst 5, 1) := by decide +kernel
theorem dX12_sky_8 : decode cX12_sky 8 = .ok (.if_icmp .ne 6, 3) := by decide +kernel
theorem dX12_sky_11 : decode cX12_sky 11 = .ok (.bipush (-4), 2) := by decide +kernel
theorem dX12_sky_13 : decode cX12_sky 13 = .ok (.ireturn, 1) := by decide +kernel
theorem dX12_sky_14 : decode cX12_sky 14 = .ok (.aload_n 0, 1) := by decide +kernel
theorem dX12_sky_15 : decode cX12_sky 15 = .ok (.aload_n 0, 1) := by decide +kernel
theorem dX12_sky_16 : decode cX12_sky 16 = .ok (.getfield 9, 3) := by decide +kernel
theorem dX12_sky_19 : decode cX12_sky 19 = .ok (.bipush 10, 2) := by decide +kernel
theorem dX12_sky_21 : decode cX12_sky 21 = .ok (.iaload, 1) := by decide +kernel
theorem dX12_sky_22 : decode cX12_sky 22 = .ok (.putfield 79, 3) := by decide +kernel
theorem dX12_sky_25 : decode cX12_sky 25 = .ok (.aload_n 0, 1) := by decide +kernel
theorem dX12_sky_26 : decode cX12_sky 26 = .ok (.aload_n 0, 1) := by decide +kernel
theorem dX12_sky_27 : decode cX12_sky 27 = .ok (.getfield 9, 3) := by decide +kernel
theorem dX12_sky_30 : decode cX12_sky 30 = .ok (.bipush 14, 2) := by decide +kernel
theorem dX12_sky_32 : decode cX12_sky 32 = .ok (.iaload, 1) := by decide +kernel
theorem dX12_sky_33 : decode cX12_sky 33 = .ok (.putfield 55, 3) := by decide +kernel
theorem dX12_sky_36 : decode cX12_sky 36 = .ok (.aload_n 0, 1) := by decide +kernel
theorem dX12_sky_37 : decode cX12_sky 37 = .ok (.getfield 9, 3) := by decide +kernel
theorem dX12_sky_40 : decode cX12_sky 40 = .ok (.bipush 14, 2) := by decide +kernel
theorem dX12_sky_42 : decode cX12_sky 42 = .ok (.iconst 0, 1) := by decide +kernel
theorem dX12_sky_43 : decode cX12_sky 43 = .ok (.iastore, 1) := by decide +kernel
theorem dX12_sky_44 : decode cX12_sky 44 = .ok (.aload_n 0, 1) := by decide +kernel
theorem dX12_sky_45 : decode cX12_sky 45 = .ok (.getfield 9, 3) := by decide +kernel
theorem dX12_sky_48 : decode cX12_sky 48 = .ok (.sipush 214, 3) := by decide +kernel
theorem dX12_sky_51 : decode cX12_sky 51 = .ok (.aload_n 0, 1) := by decide +kernel
theorem dX12_sky_52 : decode cX12_sky 52 = .ok (.getfield 79, 3) := by decide +kernel
theorem dX12_sky_55 : decode cX12_sky 55 = .ok (.iadd, 1) := by decide +kernel
theorem dX12_sky_56 : decode cX12_sky 56 = .ok (.iconst 1, 1) := by decide +kernel
theorem dX12_sky_57 : decode cX12_sky 57 = .ok (.iastore, 1) := by decide +kernel
theorem dX12_sky_58 : decode cX12_sky 58 = .ok (.aload_n 0, 1) := by decide +kernel
theorem dX12_sky_59 : decode cX12_sky 59 = .ok (.getfield 9, 3) := by decide +kernel
theorem dX12_sky_62 : decode cX12_sky 62 = .ok (.sipush 219, 3) := by decide +kernel
theorem dX12_sky_65 : decode cX12_sky 65 = .ok (.aload_n 0, 1) := by decide +kernel
theorem dX12_sky_66 : decode cX12_sky 66 = .ok (.getfield 79, 3) := by decide +kernel
theorem dX12_sky_69 : decode cX12_sky 69 = .ok (.iadd, 1) := by decide +kernel
theorem dX12_sky_70 : decode cX12_sky 70 = .ok (.iconst 0, 1) := by decide +kernel
theorem dX12_sky_71 : decode cX12_sky 71 = .ok (.iastore, 1) := by decide +kernel
theorem dX12_sky_72 : decode cX12_sky 72 = .ok (.aload_n 0, 1) := by decide +kernel
theorem dX12_sky_73 : decode cX12_sky 73 = .ok (.getfield 9, 3) := by decide +kernel
theorem dX12_sky_76 : decode cX12_sky 76 = .ok (.sipush 224, 3) := by decide +kernel
theorem dX12_sky_79 : decode cX12_sky 79 = .ok (.aload_n 0, 1) := by decide +kernel
theorem dX12_sky_80 : decode cX12_sky 80 = .ok (.getfield 79, 3) := by decide +kernel
theorem dX12_sky_83 : decode cX12_sky 83 = .ok (.iadd, 1) := by decide +kernel
theorem dX12_sky_84 : decode cX12_sky 84 = .ok (.iconst 0, 1) := by decide +kernel
theorem dX12_sky_85 : decode cX12_sky 85 = .ok (.iastore, 1) := by decide +kernel
theorem dX12_sky_86 : decode cX12_sky 86 = .ok (.aload_n 0, 1) := by decide +kernel
theorem dX12_sky_87 : decode cX12_sky 87 = .ok (.iconst 0, 1) := by decide +kernel
theorem dX12_sky_88 : decode cX12_sky 88 = .ok (.putfield 52, 3) := by decide +kernel
theorem dX12_sky_91 : decode cX12_sky 91 = .ok (.aload_n 0, 1) := by decide +kernel
theorem dX12_sky_92 : decode cX12_sky 92 = .ok (.iconst 0, 1) := by decide +kernel
theorem dX12_sky_93 : decode cX12_sky 93 = .ok (.putfield 58, 3) := by decide +kernel
theorem dX12_sky_96 : decode cX12_sky 96 = .ok (.aload_n 0, 1) := by decide +kernel
theorem dX12_sky_97 : decode cX12_sky 97 = .ok (.iconst 0, 1) := by decide +kernel
theorem dX12_sky_98 : decode cX12_sky 98 = .ok (.putfield 82, 3) := by decide +kernel
theorem dX12_sky_101 : decode cX12_sky 101 = .ok (.iconst 1, 1) := by decide +kernel
theorem dX12_sky_102 : decode cX12_sky 102 = .ok (.istore_n 1, 1) := by decide +kernel
theorem dX12_sky_103 : decode cX12_sky 103 = .ok (.aload_n 0, 1) := by decide +kernel
theorem dX12_sky_104 : decode cX12_sky 104 = .ok (.invokevirtual 130, 3) := by decide +kernel
theorem dX12_sky_107 : decode cX12_sky 107 = .ok (.aload_n 0, 1) := by decide +kernel
theorem dX12_sky_108 : decode cX12_sky 108 = .ok (.getfield 58, 3) := by decide +kernel
theorem dX12_sky_111 : decode cX12_sky 111 = .ok (.ifCond .ne 38, 3) := by decide +kernel
theorem dX12_sky_114 : decode cX12_sky 114 = .ok (.iload_n 1, 1) := by decide +kernel
theorem dX12_sky_115 : decode cX12_sky 115 = .ok (.bipush 10, 2) := by decide +kernel
theorem dX12_sky_117 : decode cX12_sky 117 = .ok (.if_icmp .ge 32, 3) := by decide +kernel
theorem dX12_sky_120 : decode cX12_sky 120 = .ok (.aload_n 0, 1) := by decide +kernel
theorem dX12_sky_121 : decode cX12_sky 121 = .ok (.invokevirtual 62, 3) := by decide +kernel
theorem dX12_sky_124 : decode cX12_sky 124 = .ok (.bipush 59, 2) := by decide +kernel
theorem dX12_sky_126 : decode cX12_sky 126 = .ok (.if_icmp .ne 23, 3) := by decide +kernel
theorem dX12_sky_129 : decode cX12_sky 129 = .ok (.aload_n 0, 1) := by decide +kernel
theorem dX12_sky_130 : decode cX12_sky 130 = .ok (.dup, 1) := by decide +kernel
theorem dX12_sky_131 : decode cX12_sky 131 = .ok (.getfield 52, 3) := by decide +kernel
theorem dX12_sky_134 : decode cX12_sky 134 = .ok (.iconst 1, 1) := by decide +kernel
theorem dX12_sky_135 : decode cX12_sky 135 = .ok (.iadd, 1) := by decide +kernel
theorem dX12_sky_136 : decode cX12_sky 136 = .ok (.putfield 52, 3) := by decide +kernel
theorem dX12_sky_139 : decode cX12_sky 139 = .ok (.aload_n 0, 1) := by decide +kernel
theorem dX12_sky_140 : decode cX12_sky 140 = .ok (.invokevirtual 130, 3) := by decide +kernel
theorem dX12_sky_143 : decode cX12_sky 143 = .ok (.iinc 1 1, 3) := by decide +kernel
theorem dX12_sky_146 : decode cX12_sky 146 = .ok (.goto (-39), 3) := by decide +kernel
theorem dX12_sky_149 : decode cX12_sky 149 = .ok (.aload_n 0, 1) := by decide +kernel
theorem dX12_sky_150 : decode cX12_sky 150 = .ok (.getfield 58, 3) := by decide +kernel
theorem dX12_sky_153 : decode cX12_sky 153 = .ok (.ifCond .ne 14, 3) := by decide +kernel
theorem dX12_sky_156 : decode cX12_sky 156 = .ok (.aload_n 0, 1) := by decide +kernel
theorem dX12_sky_157 : decode cX12_sky 157 = .ok (.getfield 52, 3) := by decide +kernel
theorem dX12_sky_160 : decode cX12_sky 160 = .ok (.aload_n 0, 1) := by decide +kernel
theorem dX12_sky_161 : decode cX12_sky 161 = .ok (.getfield 55, 3) := by decide +kernel
theorem dX12_sky_164 : decode cX12_sky 164 = .ok (.if_icmp .eq 11, 3) := by decide +kernel
theorem dX12_sky_167 : decode cX12_sky 167 = .ok (.bipush (-10), 2) := by decide +kernel
theorem dX12_sky_169 : decode cX12_sky 169 = .ok (.aload_n 0, 1) := by decide +kernel
theorem dX12_sky_170 : decode cX12_sky 170 = .ok (.getfield 52, 3) := by decide +kernel
theorem dX12_sky_173 : decode cX12_sky 173 = .ok (.isub, 1) := by decide +kernel
theorem dX12_sky_174 : decode cX12_sky 174 = .ok (.ireturn, 1) := by decide +kernel
theorem dX12_sky_175 : decode cX12_sky 175 = .ok (.aload_n 0, 1) := by decide +kernel
theorem dX12_sky_176 : decode cX12_sky 176 = .ok (.getfield 9, 3) := by decide +kernel
theorem dX12_sky_179 : decode cX12_sky 179 = .ok (.bipush 10, 2) := by decide +kernel
theorem dX12_sky_181 : decode cX12_sky 181 = .ok (.dup2, 1) := by decide +kernel
theorem dX12_sky_182 : decode cX12_sky 182 = .ok (.iaload, 1) := by decide +kernel
theorem dX12_sky_183 : decode cX12_sky 183 = .ok (.iconst 1, 1) := by decide +kernel
theorem dX12_sky_184 : decode cX12_sky 184 = .ok (.iadd, 1) := by decide +kernel
theorem dX12_sky_185 : decode cX12_sky 185 = .ok (.iastore, 1) := by decide +kernel
theorem dX12_sky_186 : decode cX12_sky 186 = .ok (.aload_n 0, 1) := by decide +kernel
theorem dX12_sky_187 : decode cX12_sky 187 = .ok (.getfield 9, 3) := by decide +kernel
theorem dX12_sky_190 : decode cX12_sky 190 = .ok (.bipush 15, 2) := by decide +kernel
theorem dX12_sky_192 : decode cX12_sky 192 = .ok (.aload_n 0, 1) := by decide +kernel
theorem dX12_sky_193 : decode cX12_sky 193 = .ok (.getfield 79, 3) := by decide +kernel
theorem dX12_sky_196 : decode cX12_sky 196 = .ok (.iastore, 1) := by decide +kernel
theorem dX12_sky_197 : decode cX12_sky 197 = .ok (.aload_n 0, 1) := by decide +kernel
theorem dX12_sky_198 : decode cX12_sky 198 = .ok (.getfield 79, 3) := by decide +kernel
theorem dX12_sky_201 : decode cX12_sky 201 = .ok (.ireturn, 1) := by decide +kernel
theorem dX12_tellsOf_0 : decode cX12_tellsOf 0 = .ok (.aload_n 0, 1) := by decide +kernel
theorem dX12_tellsOf_1 : decode cX12_tellsOf 1 = .ok (.getfield 9, 3) := by decide +kernel
theorem dX12_tellsOf_4 : decode cX12_tellsOf 4 = .ok (.bipush 15, 2) := by decide +kernel
theorem dX12_tellsOf_6 : decode cX12_tellsOf 6 = .ok (.iaload, 1) := by decide +kernel
theorem dX12_tellsOf_7 : decode cX12_tellsOf 7 = .ok (.iconst (-1), 1) := by decide +kernel
theorem dX12_tellsOf_8 : decode cX12_tellsOf 8 = .ok (.if_icmp .ne 7, 3) := by decide +kernel
theorem dX12_tellsOf_11 : decode cX12_tellsOf 11 = .ok (.iload_n 2, 1) := by decide +kernel
theorem dX12_tellsOf_12 : decode cX12_tellsOf 12 = .ok (.goto 17, 3) := by decide +kernel
theorem dX12_tellsOf_15 : decode cX12_tellsOf 15 = .ok (.aload_n 0, 1) := by decide +kernel
theorem dX12_tellsOf_16 : decode cX12_tellsOf 16 = .ok (.getfield 9, 3) := by decide +kernel
theorem dX12_tellsOf_19 : decode cX12_tellsOf 19 = .ok (.iload_n 1, 1) := by decide +kernel
theorem dX12_tellsOf_20 : decode cX12_tellsOf 20 = .ok (.aload_n 0, 1) := by decide +kernel
theorem dX12_tellsOf_21 : decode cX12_tellsOf 21 = .ok (.getfield 9, 3) := by decide +kernel
theorem dX12_tellsOf_24 : decode cX12_tellsOf 24 = .ok (.bipush 15, 2) := by decide +kernel
theorem dX12_tellsOf_26 : decode cX12_tellsOf 26 = .ok (.iaload, 1) := by decide +kernel
theorem dX12_tellsOf_27 : decode cX12_tellsOf 27 = .ok (.iadd, 1) := by decide +kernel
theorem dX12_tellsOf_28 : decode cX12_tellsOf 28 = .ok (.iaload, 1) := by decide +kernel
theorem dX12_tellsOf_29 : decode cX12_tellsOf 29 = .ok (.ireturn, 1) := by decide +kernel
theorem dX12_baseOf_0 : decode cX12_baseOf 0 = .ok (.aload_n 0, 1) := by decide +kernel
theorem dX12_baseOf_1 : decode cX12_baseOf 1 = .ok (.getfield 21, 3) := by decide +kernel
theorem dX12_baseOf_4 : decode cX12_baseOf 4 = .ok (.iconst 0, 1) := by decide +kernel
theorem dX12_baseOf_5 : decode cX12_baseOf 5 = .ok (.iload_n 1, 1) := by decide +kernel
theorem dX12_baseOf_6 : decode cX12_baseOf 6 = .ok (.iastore, 1) := by decide +kernel
theorem dX12_baseOf_7 : decode cX12_baseOf 7 = .ok (.aload_n 0, 1) := by decide +kernel
theorem dX12_baseOf_8 : decode cX12_baseOf 8 = .ok (.getfield 21, 3) := by decide +kernel
theorem dX12_baseOf_11 : decode cX12_baseOf 11 = .ok (.iconst 1, 1) := by decide +kernel
theorem dX12_baseOf_12 : decode cX12_baseOf 12 = .ok (.aload_n 0, 1) := by decide +kernel
theorem dX12_baseOf_13 : decode cX12_baseOf 13 = .ok (.getfield 9, 3) := by decide +kernel
theorem dX12_baseOf_16 : decode cX12_baseOf 16 = .ok (.bipush 16, 2) := by decide +kernel
theorem dX12_baseOf_18 : decode cX12_baseOf 18 = .ok (.iload_n 1, 1) := by decide +kernel
theorem dX12_baseOf_19 : decode cX12_baseOf 19 = .ok (.iadd, 1) := by decide +kernel
theorem dX12_baseOf_20 : decode cX12_baseOf 20 = .ok (.iaload, 1) := by decide +kernel
theorem dX12_baseOf_21 : decode cX12_baseOf 21 = .ok (.iastore, 1) := by decide +kernel
theorem dX12_baseOf_22 : decode cX12_baseOf 22 = .ok (.aload_n 0, 1) := by decide +kernel
theorem dX12_baseOf_23 : decode cX12_baseOf 23 = .ok (.getfield 21, 3) := by decide +kernel
theorem dX12_baseOf_26 : decode cX12_baseOf 26 = .ok (.iconst 2, 1) := by decide +kernel
theorem dX12_baseOf_27 : decode cX12_baseOf 27 = .ok (.aload_n 0, 1) := by decide +kernel
theorem dX12_baseOf_28 : decode cX12_baseOf 28 = .ok (.getfield 9, 3) := by decide +kernel
theorem dX12_baseOf_31 : decode cX12_baseOf 31 = .ok (.bipush 22, 2) := by decide +kernel
theorem dX12_baseOf_33 : decode cX12_baseOf 33 = .ok (.iload_n 1, 1) := by decide +kernel
theorem dX12_baseOf_34 : decode cX12_baseOf 34 = .ok (.iadd, 1) := by decide +kernel
theorem dX12_baseOf_35 : decode cX12_baseOf 35 = .ok (.iaload, 1) := by decide +kernel
theorem dX12_baseOf_36 : decode cX12_baseOf 36 = .ok (.iastore, 1) := by decide +kernel
theorem dX12_baseOf_37 : decode cX12_baseOf 37 = .ok (.aload_n 0, 1) := by decide +kernel
theorem dX12_baseOf_38 : decode cX12_baseOf 38 = .ok (.getfield 21, 3) := by decide +kernel
theorem dX12_baseOf_41 : decode cX12_baseOf 41 = .ok (.iconst 3, 1) := by decide +kernel
theorem dX12_baseOf_42 : decode cX12_baseOf 42 = .ok (.iload_n 2, 1) := by decide +kernel
theorem dX12_baseOf_43 : decode cX12_baseOf 43 = .ok (.iastore, 1) := by decide +kernel
theorem dX12_baseOf_44 : decode cX12_baseOf 44 = .ok (.aload_n 0, 1) := by decide +kernel
theorem dX12_baseOf_45 : decode cX12_baseOf 45 = .ok (.getfield 21, 3) := by decide +kernel
theorem dX12_baseOf_48 : decode cX12_baseOf 48 = .ok (.iconst 4, 1) := by decide +kernel
theorem dX12_baseOf_49 : decode cX12_baseOf 49 = .ok (.iload_n 3, 1) := by decide +kernel
theorem dX12_baseOf_50 : decode cX12_baseOf 50 = .ok (.bipush 10, 2) := by decide +kernel
theorem dX12_baseOf_52 : decode cX12_baseOf 52 = .ok (.irem, 1) := by decide +kernel
theorem dX12_baseOf_53 : decode cX12_baseOf 53 = .ok (.iastore, 1) := by decide +kernel
theorem dX12_baseOf_54 : decode cX12_baseOf 54 = .ok (.aload_n 0, 1) := by decide +kernel
theorem dX12_baseOf_55 : decode cX12_baseOf 55 = .ok (.getfield 21, 3) := by decide +kernel
theorem dX12_baseOf_58 : decode cX12_baseOf 58 = .ok (.iconst 5, 1) := by decide +kernel
theorem dX12_baseOf_59 : decode cX12_baseOf 59 = .ok (.iload_n 3, 1) := by decide +kernel
theorem dX12_baseOf_60 : decode cX12_baseOf 60 = .ok (.bipush 7, 2) := by decide +kernel
theorem dX12_baseOf_62 : decode cX12_baseOf 62 = .ok (.irem, 1) := by decide +kernel
theorem dX12_baseOf_63 : decode cX12_baseOf 63 = .ok (.iastore, 1) := by decide +kernel
theorem dX12_baseOf_64 : decode cX12_baseOf 64 = .ok (.iconst 0, 1) := by decide +kernel
theorem dX12_baseOf_65 : decode cX12_baseOf 65 = .ok (.istore 4, 2) := by decide +kernel
theorem dX12_baseOf_67 : decode cX12_baseOf 67 = .ok (.aload_n 0, 1) := by decide +kernel
theorem dX12_baseOf_68 : decode cX12_baseOf 68 = .ok (.sipush 224, 3) := by decide +kernel
theorem dX12_baseOf_71 : decode cX12_baseOf 71 = .ok (.iconst 0, 1) := by decide +kernel
theorem dX12_baseOf_72 : decode cX12_baseOf 72 = .ok (.invokevirtual 45, 3) := by decide +kernel
theorem dX12_baseOf_75 : decode cX12_baseOf 75 = .ok (.istore 5, 2) := by decide +kernel
theorem dX12_baseOf_77 : decode cX12_baseOf 77 = .ok (.sipush 229, 3) := by decide +kernel
theorem dX12_baseOf_80 : decode cX12_baseOf 80 = .ok (.sipush 140, 3) := by decide +kernel
theorem dX12_baseOf_83 : decode cX12_baseOf 83 = .ok (.aload_n 0, 1) := by decide +kernel
theorem dX12_baseOf_84 : decode cX12_baseOf 84 = .ok (.getfield 9, 3) := by decide +kernel
theorem dX12_baseOf_87 : decode cX12_baseOf 87 = .ok (.bipush 15, 2) := by decide +kernel
theorem dX12_baseOf_89 : decode cX12_baseOf 89 = .ok (.iaload, 1) := by decide +kernel
theorem dX12_baseOf_90 : decode cX12_baseOf 90 = .ok (.imul, 1) := by decide +kernel
theorem dX12_baseOf_91 : decode cX12_baseOf 91 = .ok (.iadd, 1) := by decide +kernel
theorem dX12_baseOf_92 : decode cX12_baseOf 92 = .ok (.istore 6, 2) := by decide +kernel
theorem dX12_baseOf_94 : decode cX12_baseOf 94 = .ok (.iconst 0, 1) := by decide +kernel
theorem dX12_baseOf_95 : decode cX12_baseOf 95 = .ok (.istore 7, 2) := by decide +kernel
theorem dX12_baseOf_97 : decode cX12_baseOf 97 = .ok (.iload 6, 2) := by decide +kernel
theorem dX12_baseOf_99 : decode cX12_baseOf 99 = .ok (.istore 8, 2) := by decide +kernel
theorem dX12_baseOf_101 : decode cX12_baseOf 101 = .ok (.iload 8, 2) := by decide +kernel
theorem dX12_baseOf_103 : decode cX12_baseOf 103 = .ok (.iload 6, 2) := by decide +kernel
theorem dX12_baseOf_105 : decode cX12_baseOf 105 = .ok (.iload 5, 2) := by decide +kernel
theorem dX12_baseOf_107 : decode cX12_baseOf 107 = .ok (.iadd, 1) := by decide +kernel
theorem dX12_baseOf_108 : decode cX12_baseOf 108 = .ok (.if_icmp .ge 304, 3) := by decide +kernel
theorem dX12_baseOf_111 : decode cX12_baseOf 111 = .ok (.aload_n 0, 1) := by decide +kernel
theorem dX12_baseOf_112 : decode cX12_baseOf 112 = .ok (.getfield 9, 3) := by decide +kernel
theorem dX12_baseOf_115 : decode cX12_baseOf 115 = .ok (.iload 8, 2) := by decide +kernel
theorem dX12_baseOf_117 : decode cX12_baseOf 117 = .ok (.iaload, 1) := by decide +kernel
theorem dX12_baseOf_118 : decode cX12_baseOf 118 = .ok (.istore 9, 2) := by decide +kernel
theorem dX12_baseOf_120 : decode cX12_baseOf 120 = .ok (.iload 9, 2) := by decide +kernel
theorem dX12_baseOf_122 : decode cX12_baseOf 122 = .ok (.ifCond .lt 97, 3) := by decide +kernel
theorem dX12_baseOf_125 : decode cX12_baseOf 125 = .ok (.aload_n 0, 1) := by decide +kernel
theorem dX12_baseOf_126 : decode cX12_baseOf 126 = .ok (.getfield 21, 3) := by decide +kernel
theorem dX12_baseOf_129 : decode cX12_baseOf 129 = .ok (.iload 9, 2) := by decide +kernel
theorem dX12_baseOf_131 : decode cX12_baseOf 131 = .ok (.bipush 8, 2) := by decide +kernel
theorem dX12_baseOf_133 : decode cX12_baseOf 133 = .ok (.irem, 1) := by decide +kernel
theorem dX12_baseOf_134 : decode cX12_baseOf 134 = .ok (.iaload, 1) := by decide +kernel
theorem dX12_baseOf_135 : decode cX12_baseOf 135 = .ok (.istore 10, 2) := by decide +kernel
theorem dX12_baseOf_137 : decode cX12_baseOf 137 = .ok (.iload 9, 2) := by decide +kernel
theorem dX12_baseOf_139 : decode cX12_baseOf 139 = .ok (.bipush 8, 2) := by decide +kernel
theorem dX12_baseOf_141 : decode cX12_baseOf 141 = .ok (.idiv, 1) := by decide +kernel
theorem dX12_baseOf_142 : decode cX12_baseOf 142 = .ok (.iconst 4, 1) := by decide +kernel
theorem dX12_baseOf_143 : decode cX12_baseOf 143 = .ok (.irem, 1) := by decide +kernel
theorem dX12_baseOf_144 : decode cX12_baseOf 144 = .ok (.istore 11, 2) := by decide +kernel
theorem dX12_baseOf_146 : decode cX12_baseOf 146 = .ok (.iload 9, 2) := by decide +kernel
theorem dX12_baseOf_148 : decode cX12_baseOf 148 = .ok (.bipush 32, 2) := by decide +kernel
theorem dX12_baseOf_150 : decode cX12_baseOf 150 = .ok (.idiv, 1) := by decide +kernel
theorem dX12_baseOf_151 : decode cX12_baseOf 151 = .ok (.istore 12, 2) := by decide +kernel
theorem dX12_baseOf_153 : decode cX12_baseOf 153 = .ok (.aload_n 0, 1) := by decide +kernel
theorem dX12_baseOf_154 : decode cX12_baseOf 154 = .ok (.getfield 24, 3) := by decide +kernel
theorem dX12_baseOf_157 : decode cX12_baseOf 157 = .ok (.iload 7, 2) := by decide +kernel
theorem dX12_baseOf_159 : decode cX12_baseOf 159 = .ok (.iload 11, 2) := by decide +kernel
theorem dX12_baseOf_161 : decode cX12_baseOf 161 = .ok (.ifCond .ne 18, 3) := by decide +kernel
theorem dX12_baseOf_164 : decode cX12_baseOf 164 = .ok (.iload 10, 2) := by decide +kernel
theorem dX12_baseOf_166 : decode cX12_baseOf 166 = .ok (.iload 12, 2) := by decide +kernel
theorem dX12_baseOf_168 : decode cX12_baseOf 168 = .ok (.if_icmp .ge 7, 3) := by decide +kernel
theorem dX12_baseOf_171 : decode cX12_baseOf 171 = .ok (.iconst 1, 1) := by decide +kernel
theorem dX12_baseOf_172 : decode cX12_baseOf 172 = .ok (.goto 40, 3) := by decide +kernel
theorem dX12_baseOf_175 : decode cX12_baseOf 175 = .ok (.iconst 0, 1) := by decide +kernel
theorem dX12_baseOf_176 : decode cX12_baseOf 176 = .ok (.goto 36, 3) := by decide +kernel
theorem dX12_baseOf_179 : decode cX12_baseOf 179 = .ok (.iload 11, 2) := by decide +kernel
theorem dX12_baseOf_181 : decode cX12_baseOf 181 = .ok (.iconst 1, 1) := by decide +kernel
theorem dX12_baseOf_182 : decode cX12_baseOf 182 = .ok (.if_icmp .ne 18, 3) := by decide +kernel
theorem dX12_baseOf_185 : decode cX12_baseOf 185 = .ok (.iload 10, 2) := by decide +kernel
theorem dX12_baseOf_187 : decode cX12_baseOf 187 = .ok (.iload 12, 2) := by decide +kernel
theorem dX12_baseOf_189 : decode cX12_baseOf 189 = .ok (.if_icmp .ne 7, 3) := by decide +kernel
theorem dX12_baseOf_192 : decode cX12_baseOf 192 = .ok (.iconst 1, 1) := by decide +kernel
theorem dX12_baseOf_193 : decode cX12_baseOf 193 = .ok (.goto 19, 3) := by decide +kernel
theorem dX12_baseOf_196 : decode cX12_baseOf 196 = .ok (.iconst 0, 1) := by decide +kernel
theorem dX12_baseOf_197 : decode cX12_baseOf 197 = .ok (.goto 15, 3) := by decide +kernel
theorem dX12_baseOf_200 : decode cX12_baseOf 200 = .ok (.iload 10, 2) := by decide +kernel
theorem dX12_baseOf_202 : decode cX12_baseOf 202 = .ok (.iload 12, 2) := by decide +kernel
theorem dX12_baseOf_204 : decode cX12_baseOf 204 = .ok (.if_icmp .le 7, 3) := by decide +kernel
theorem dX12_baseOf_207 : decode cX12_baseOf 207 = .ok (.iconst 1, 1) := by decide +kernel
theorem dX12_baseOf_208 : decode cX12_baseOf 208 = .ok (.goto 4, 3) := by decide +kernel
theorem dX12_baseOf_211 : decode cX12_baseOf 211 = .ok (.iconst 0, 1) := by decide +kernel
theorem dX12_baseOf_212 : decode cX12_baseOf 212 = .ok (.bastore, 1) := by decide +kernel
theorem dX12_baseOf_213 : decode cX12_baseOf 213 = .ok (.iinc 7 1, 3) := by decide +kernel
theorem dX12_baseOf_216 : decode cX12_baseOf 216 = .ok (.goto 190, 3) := by decide +kernel
theorem dX12_baseOf_219 : decode cX12_baseOf 219 = .ok (.iload 9, 2) := by decide +kernel
theorem dX12_baseOf_221 : decode cX12_baseOf 221 = .ok (.iconst (-1), 1) := by decide +kernel
theorem dX12_baseOf_222 : decode cX12_baseOf 222 = .ok (.if_icmp .ne 32, 3) := by decide +kernel
theorem dX12_baseOf_225 : decode cX12_baseOf 225 = .ok (.aload_n 0, 1) := by decide +kernel
theorem dX12_baseOf_226 : decode cX12_baseOf 226 = .ok (.getfield 24, 3) := by decide +kernel
theorem dX12_baseOf_229 : decode cX12_baseOf 229 = .ok (.iload 7, 2) := by decide +kernel
theorem dX12_baseOf_231 : decode cX12_baseOf 231 = .ok (.iconst 1, 1) := by decide +kernel
theorem dX12_baseOf_232 : decode cX12_baseOf 232 = .ok (.isub, 1) := by decide +kernel
theorem dX12_baseOf_233 : decode cX12_baseOf 233 = .ok (.aload_n 0, 1) := by decide +kernel
theorem dX12_baseOf_234 : decode cX12_baseOf 234 = .ok (.getfield 24, 3) := by decide +kernel
theorem dX12_baseOf_237 : decode cX12_baseOf 237 = .ok (.iload 7, 2) := by decide +kernel
theorem dX12_baseOf_239 : decode cX12_baseOf 239 = .ok (.iconst 1, 1) := by decide +kernel
theorem dX12_baseOf_240 : decode cX12_baseOf 240 = .ok (.isub, 1) := by decide +kernel
theorem dX12_baseOf_241 : decode cX12_baseOf 241 = .ok (.baload, 1) := by decide +kernel
theorem dX12_baseOf_242 : decode cX12_baseOf 242 = .ok (.ifCond .ne 7, 3) := by decide +kernel
theorem dX12_baseOf_245 : decode cX12_baseOf 245 = .ok (.iconst 1, 1) := by decide +kernel
theorem dX12_baseOf_246 : decode cX12_baseOf 246 = .ok (.goto 4, 3) := by decide +kernel
theorem dX12_baseOf_249 : decode cX12_baseOf 249 = .ok (.iconst 0, 1) := by decide +kernel
theorem dX12_baseOf_250 : decode cX12_baseOf 250 = .ok (.bastore, 1) := by decide +kernel
theorem dX12_baseOf_251 : decode cX12_baseOf 251 = .ok (.goto 155, 3) := by decide +kernel
theorem dX12_baseOf_254 : decode cX12_baseOf 254 = .ok (.iload 9, 2) := by decide +kernel
theorem dX12_baseOf_256 : decode cX12_baseOf 256 = .ok (.bipush (-10), 2) := by decide +kernel
theorem dX12_baseOf_258 : decode cX12_baseOf 258 = .ok (.if_icmp .le 82, 3) := by decide +kernel
theorem dX12_baseOf_261 : decode cX12_baseOf 261 = .ok (.iinc 7 (-1), 3) := by decide +kernel
theorem dX12_baseOf_264 : decode cX12_baseOf 264 = .ok (.aload_n 0, 1) := by decide +kernel
theorem dX12_baseOf_265 : decode cX12_baseOf 265 = .ok (.getfield 24, 3) := by decide +kernel
theorem dX12_baseOf_268 : decode cX12_baseOf 268 = .ok (.iload 7, 2) := by decide +kernel
theorem dX12_baseOf_270 : decode cX12_baseOf 270 = .ok (.iconst 1, 1) := by decide +kernel
theorem dX12_baseOf_271 : decode cX12_baseOf 271 = .ok (.isub, 1) := by decide +kernel
theorem dX12_baseOf_272 : decode cX12_baseOf 272 = .ok (.iload 9, 2) := by decide +kernel
theorem dX12_baseOf_274 : decode cX12_baseOf 274 = .ok (.bipush (-2), 2) := by decide +kernel
theorem dX12_baseOf_276 : decode cX12_baseOf 276 = .ok (.if_icmp .ne 33, 3) := by decide +kernel
theorem dX12_baseOf_279 : decode cX12_baseOf 279 = .ok (.aload_n 0, 1) := by decide +kernel
theorem dX12_baseOf_280 : decode cX12_baseOf 280 = .ok (.getfield 24, 3) := by decide +kernel
theorem dX12_baseOf_283 : decode cX12_baseOf 283 = .ok (.iload 7, 2) := by decide +kernel
theorem dX12_baseOf_285 : decode cX12_baseOf 285 = .ok (.iconst 1, 1) := by decide +kernel
theorem dX12_baseOf_286 : decode cX12_baseOf 286 = .ok (.isub, 1) := by decide +kernel
theorem dX12_baseOf_287 : decode cX12_baseOf 287 = .ok (.baload, 1) := by decide +kernel
theorem dX12_baseOf_288 : decode cX12_baseOf 288 = .ok (.ifCond .eq 17, 3) := by decide +kernel
theorem dX12_baseOf_291 : decode cX12_baseOf 291 = .ok (.aload_n 0, 1) := by decide +kernel
theorem dX12_baseOf_292 : decode cX12_baseOf 292 = .ok (.getfield 24, 3) := by decide +kernel
theorem dX12_baseOf_295 : decode cX12_baseOf 295 = .ok (.iload 7, 2) := by decide +kernel
theorem dX12_baseOf_297 : decode cX12_baseOf 297 = .ok (.baload, 1) := by decide +kernel
theorem dX12_baseOf_298 : decode cX12_baseOf 298 = .ok (.ifCond .eq 7, 3) := by decide +kernel
theorem dX12_baseOf_301 : decode cX12_baseOf 301 = .ok (.iconst 1, 1) := by decide +kernel
theorem dX12_baseOf_302 : decode cX12_baseOf 302 = .ok (.goto 34, 3) := by decide +kernel
theorem dX12_baseOf_305 : decode cX12_baseOf 305 = .ok (.iconst 0, 1) := by decide +kernel
theorem dX12_baseOf_306 : decode cX12_baseOf 306 = .ok (.goto 30, 3) := by decide +kernel
theorem dX12_baseOf_309 : decode cX12_baseOf 309 = .ok (.aload_n 0, 1) := by decide +kernel
theorem dX12_baseOf_310 : decode cX12_baseOf 310 = .ok (.getfield 24, 3) := by decide +kernel
theorem dX12_baseOf_313 : decode cX12_baseOf 313 = .ok (.iload 7, 2) := by decide +kernel
theorem dX12_baseOf_315 : decode cX12_baseOf 315 = .ok (.iconst 1, 1) := by decide +kernel
theorem dX12_baseOf_316 : decode cX12_baseOf 316 = .ok (.isub, 1) := by decide +kernel
theorem dX12_baseOf_317 : decode cX12_baseOf 317 = .ok (.baload, 1) := by decide +kernel
theorem dX12_baseOf_318 : decode cX12_baseOf 318 = .ok (.ifCond .ne 13, 3) := by decide +kernel
theorem dX12_baseOf_321 : decode cX12_baseOf 321 = .ok (.aload_n 0, 1) := by decide +kernel
theorem dX12_baseOf_322 : decode cX12_baseOf 322 = .ok (.getfield 24, 3) := by decide +kernel
theorem dX12_baseOf_325 : decode cX12_baseOf 325 = .ok (.iload 7, 2) := by decide +kernel
theorem dX12_baseOf_327 : decode cX12_baseOf 327 = .ok (.baload, 1) := by decide +kernel
theorem dX12_baseOf_328 : decode cX12_baseOf 328 = .ok (.ifCond .eq 7, 3) := by decide +kernel
theorem dX12_baseOf_331 : decode cX12_baseOf 331 = .ok (.iconst 1, 1) := by decide +kernel
theorem dX12_baseOf_332 : decode cX12_baseOf 332 = .ok (.goto 4, 3) := by decide +kernel
theorem dX12_baseOf_335 : decode cX12_baseOf 335 = .ok (.iconst 0, 1) := by decide +kernel
theorem dX12_baseOf_336 : decode cX12_baseOf 336 = .ok (.bastore, 1) := by decide +kernel
theorem dX12_baseOf_337 : decode cX12_baseOf 337 = .ok (.goto 69, 3) := by decide +kernel
theorem dX12_baseOf_340 : decode cX12_baseOf 340 = .ok (.iconst 0, 1) := by decide +kernel
theorem dX12_baseOf_341 : decode cX12_baseOf 341 = .ok (.istore 7, 2) := by decide +kernel
theorem dX12_baseOf_343 : decode cX12_baseOf 343 = .ok (.aload_n 0, 1) := by decide +kernel
theorem dX12_baseOf_344 : decode cX12_baseOf 344 = .ok (.getfield 24, 3) := by decide +kernel
theorem dX12_baseOf_347 : decode cX12_baseOf 347 = .ok (.iconst 0, 1) := by decide +kernel
theorem dX12_baseOf_348 : decode cX12_baseOf 348 = .ok (.baload, 1) := by decide +kernel
theorem dX12_baseOf_349 : decode cX12_baseOf 349 = .ok (.istore 10, 2) := by decide +kernel
theorem dX12_baseOf_351 : decode cX12_baseOf 351 = .ok (.iload 4, 2) := by decide +kernel
theorem dX12_baseOf_353 : decode cX12_baseOf 353 = .ok (.iload 10, 2) := by decide +kernel
theorem dX12_baseOf_355 : decode cX12_baseOf 355 = .ok (.ifCond .eq 19, 3) := by decide +kernel
theorem dX12_baseOf_358 : decode cX12_baseOf 358 = .ok (.iload 9, 2) := by decide +kernel
theorem dX12_baseOf_360 : decode cX12_baseOf 360 = .ok (.sipush (-200), 3) := by decide +kernel
theorem dX12_baseOf_363 : decode cX12_baseOf 363 = .ok (.if_icmp .le 11, 3) := by decide +kernel
theorem dX12_baseOf_366 : decode cX12_baseOf 366 = .ok (.bipush (-10), 2) := by decide +kernel
theorem dX12_baseOf_368 : decode cX12_baseOf 368 = .ok (.iload 9, 2) := by decide +kernel
theorem dX12_baseOf_370 : decode cX12_baseOf 370 = .ok (.isub, 1) := by decide +kernel
theorem dX12_baseOf_371 : decode cX12_baseOf 371 = .ok (.goto 4, 3) := by decide +kernel
theorem dX12_baseOf_374 : decode cX12_baseOf 374 = .ok (.iconst 0, 1) := by decide +kernel
theorem dX12_baseOf_375 : decode cX12_baseOf 375 = .ok (.iadd, 1) := by decide +kernel
theorem dX12_baseOf_376 : decode cX12_baseOf 376 = .ok (.istore 4, 2) := by decide +kernel
theorem dX12_baseOf_378 : decode cX12_baseOf 378 = .ok (.iload 4, 2) := by decide +kernel
theorem dX12_baseOf_380 : decode cX12_baseOf 380 = .ok (.iload 10, 2) := by decide +kernel
theorem dX12_baseOf_382 : decode cX12_baseOf 382 = .ok (.ifCond .eq 20, 3) := by decide +kernel
theorem dX12_baseOf_385 : decode cX12_baseOf 385 = .ok (.iload 9, 2) := by decide +kernel
theorem dX12_baseOf_387 : decode cX12_baseOf 387 = .ok (.sipush (-200), 3) := by decide +kernel
theorem dX12_baseOf_390 : decode cX12_baseOf 390 = .ok (.if_icmp .gt 12, 3) := by decide +kernel
theorem dX12_baseOf_393 : decode cX12_baseOf 393 = .ok (.sipush (-200), 3) := by decide +kernel
theorem dX12_baseOf_396 : decode cX12_baseOf 396 = .ok (.iload 9, 2) := by decide +kernel
theorem dX12_baseOf_398 : decode cX12_baseOf 398 = .ok (.isub, 1) := by decide +kernel
theorem dX12_baseOf_399 : decode cX12_baseOf 399 = .ok (.goto 4, 3) := by decide +kernel
theorem dX12_baseOf_402 : decode cX12_baseOf 402 = .ok (.iconst 0, 1) := by decide +kernel
theorem dX12_baseOf_403 : decode cX12_baseOf 403 = .ok (.isub, 1) := by decide +kernel
theorem dX12_baseOf_404 : decode cX12_baseOf 404 = .ok (.istore 4, 2) := by decide +kernel
theorem dX12_baseOf_406 : decode cX12_baseOf 406 = .ok (.iinc 8 1, 3) := by decide +kernel
theorem dX12_baseOf_409 : decode cX12_baseOf 409 = .ok (.goto (-308), 3) := by decide +kernel
theorem dX12_baseOf_412 : decode cX12_baseOf 412 = .ok (.iload 4, 2) := by decide +kernel
theorem dX12_baseOf_414 : decode cX12_baseOf 414 = .ok (.ireturn, 1) := by decide +kernel
theorem dX12_turnOn_0 : decode cX12_turnOn 0 = .ok (.aload_n 0, 1) := by decide +kernel
theorem dX12_turnOn_1 : decode cX12_turnOn 1 = .ok (.sipush 214, 3) := by decide +kernel
theorem dX12_turnOn_4 : decode cX12_turnOn 4 = .ok (.iconst 1, 1) := by decide +kernel
theorem dX12_turnOn_5 : decode cX12_turnOn 5 = .ok (.invokevirtual 45, 3) := by decide +kernel
theorem dX12_turnOn_8 : decode cX12_turnOn 8 = .ok (.istore_n 2, 1) := by decide +kernel
theorem dX12_turnOn_9 : decode cX12_turnOn 9 = .ok (.iload_n 1, 1) := by decide +kernel
theorem dX12_turnOn_10 : decode cX12_turnOn 10 = .ok (.iload_n 2, 1) := by decide +kernel
theorem dX12_turnOn_11 : decode cX12_turnOn 11 = .ok (.ifCond .ne 7, 3) := by decide +kernel
theorem dX12_turnOn_14 : decode cX12_turnOn 14 = .ok (.iconst 1, 1) := by decide +kernel
theorem dX12_turnOn_15 : decode cX12_turnOn 15 = .ok (.goto 4, 3) := by decide +kernel
theorem dX12_turnOn_18 : decode cX12_turnOn 18 = .ok (.iload_n 2, 1) := by decide +kernel
theorem dX12_turnOn_19 : decode cX12_turnOn 19 = .ok (.idiv, 1) := by decide +kernel
theorem dX12_turnOn_20 : decode cX12_turnOn 20 = .ok (.iconst 2, 1) := by decide +kernel
theorem dX12_turnOn_21 : decode cX12_turnOn 21 = .ok (.irem, 1) := by decide +kernel
theorem dX12_turnOn_22 : decode cX12_turnOn 22 = .ok (.ireturn, 1) := by decide +kernel
theorem dX12_isClouded_0 : decode cX12_isClouded 0 = .ok (.aload_n 0, 1) := by decide +kernel
theorem dX12_isClouded_1 : decode cX12_isClouded 1 = .ok (.getfield 49, 3) := by decide +kernel
theorem dX12_isClouded_4 : decode cX12_isClouded 4 = .ok (.ifCond .le 22, 3) := by decide +kernel
theorem dX12_isClouded_7 : decode cX12_isClouded 7 = .ok (.iload_n 1, 1) := by decide +kernel
theorem dX12_isClouded_8 : decode cX12_isClouded 8 = .ok (.aload_n 0, 1) := by decide +kernel
theorem dX12_isClouded_9 : decode cX12_isClouded 9 = .ok (.getfield 49, 3) := by decide +kernel
theorem dX12_isClouded_12 : decode cX12_isClouded 12 = .ok (.irem, 1) := by decide +kernel
theorem dX12_isClouded_13 : decode cX12_isClouded 13 = .ok (.aload_n 0, 1) := by decide +kernel
theorem dX12_isClouded_14 : decode cX12_isClouded 14 = .ok (.getfield 49, 3) := by decide +kernel
theorem dX12_isClouded_17 : decode cX12_isClouded 17 = .ok (.iconst 1, 1) := by decide +kernel
theorem dX12_isClouded_18 : decode cX12_isClouded 18 = .ok (.isub, 1) := by decide +kernel
theorem dX12_isClouded_19 : decode cX12_isClouded 19 = .ok (.if_icmp .ne 7, 3) := by decide +kernel
theorem dX12_isClouded_22 : decode cX12_isClouded 22 = .ok (.iconst 1, 1) := by decide +kernel
theorem dX12_isClouded_23 : decode cX12_isClouded 23 = .ok (.goto 4, 3) := by decide +kernel
theorem dX12_isClouded_26 : decode cX12_isClouded 26 = .ok (.iconst 0, 1) := by decide +kernel
theorem dX12_isClouded_27 : decode cX12_isClouded 27 = .ok (.ireturn, 1) := by decide +kernel
theorem dX12_isUp_0 : decode cX12_isUp 0 = .ok (.aload_n 0, 1) := by decide +kernel
theorem dX12_isUp_1 : decode cX12_isUp 1 = .ok (.getfield 9, 3) := by decide +kernel
theorem dX12_isUp_4 : decode cX12_isUp 4 = .ok (.bipush 28, 2) := by decide +kernel
theorem dX12_isUp_6 : decode cX12_isUp 6 = .ok (.iload_n 1, 1) := by decide +kernel
theorem dX12_isUp_7 : decode cX12_isUp 7 = .ok (.iadd, 1) := by decide +kernel
theorem dX12_isUp_8 : decode cX12_isUp 8 = .ok (.iaload, 1) := by decide +kernel
theorem dX12_isUp_9 : decode cX12_isUp 9 = .ok (.istore_n 3, 1) := by decide +kernel
theorem dX12_isUp_10 : decode cX12_isUp 10 = .ok (.iload_n 2, 1) := by decide +kernel
theorem dX12_isUp_11 : decode cX12_isUp 11 = .ok (.aload_n 0, 1) := by decide +kernel
theorem dX12_isUp_12 : decode cX12_isUp 12 = .ok (.getfield 9, 3) := by decide +kernel
theorem dX12_isUp_15 : decode cX12_isUp 15 = .ok (.bipush 34, 2) := by decide +kernel
theorem dX12_isUp_17 : decode cX12_isUp 17 = .ok (.iload_n 1, 1) := by decide +kernel
theorem dX12_isUp_18 : decode cX12_isUp 18 = .ok (.iadd, 1) := by decide +kernel
theorem dX12_isUp_19 : decode cX12_isUp 19 = .ok (.iaload, 1) := by decide +kernel
theorem dX12_isUp_20 : decode cX12_isUp 20 = .ok (.iadd, 1) := by decide +kernel
theorem dX12_isUp_21 : decode cX12_isUp 21 = .ok (.iload_n 3, 1) := by decide +kernel
theorem dX12_isUp_22 : decode cX12_isUp 22 = .ok (.irem, 1) := by decide +kernel
theorem dX12_isUp_23 : decode cX12_isUp 23 = .ok (.istore 4, 2) := by decide +kernel
theorem dX12_isUp_25 : decode cX12_isUp 25 = .ok (.iload 4, 2) := by decide +kernel
theorem dX12_isUp_27 : decode cX12_isUp 27 = .ok (.ifCond .ne 7, 3) := by decide +kernel
theorem dX12_isUp_30 : decode cX12_isUp 30 = .ok (.iconst 1, 1) := by decide +kernel
theorem dX12_isUp_31 : decode cX12_isUp 31 = .ok (.goto 4, 3) := by decide +kernel
theorem dX12_isUp_34 : decode cX12_isUp 34 = .ok (.iconst 0, 1) := by decide +kernel
theorem dX12_isUp_35 : decode cX12_isUp 35 = .ok (.istore 5, 2) := by decide +kernel
theorem dX12_isUp_37 : decode cX12_isUp 37 = .ok (.iload 4, 2) := by decide +kernel
theorem dX12_isUp_39 : decode cX12_isUp 39 = .ok (.iload_n 3, 1) := by decide +kernel
theorem dX12_isUp_40 : decode cX12_isUp 40 = .ok (.iconst 2, 1) := by decide +kernel
theorem dX12_isUp_41 : decode cX12_isUp 41 = .ok (.idiv, 1) := by decide +kernel
theorem dX12_isUp_42 : decode cX12_isUp 42 = .ok (.if_icmp .lt 8, 3) := by decide +kernel
theorem dX12_isUp_45 : decode cX12_isUp 45 = .ok (.iload_n 3, 1) := by decide +kernel
theorem dX12_isUp_46 : decode cX12_isUp 46 = .ok (.iconst 1, 1) := by decide +kernel
theorem dX12_isUp_47 : decode cX12_isUp 47 = .ok (.if_icmp .ne 7, 3) := by decide +kernel
theorem dX12_isUp_50 : decode cX12_isUp 50 = .ok (.iconst 1, 1) := by decide +kernel
theorem dX12_isUp_51 : decode cX12_isUp 51 = .ok (.goto 4, 3) := by decide +kernel
theorem dX12_isUp_54 : decode cX12_isUp 54 = .ok (.iconst 0, 1) := by decide +kernel
theorem dX12_isUp_55 : decode cX12_isUp 55 = .ok (.istore 6, 2) := by decide +kernel
theorem dX12_isUp_57 : decode cX12_isUp 57 = .ok (.iload 5, 2) := by decide +kernel
theorem dX12_isUp_59 : decode cX12_isUp 59 = .ok (.istore 7, 2) := by decide +kernel
theorem dX12_isUp_61 : decode cX12_isUp 61 = .ok (.aload_n 0, 1) := by decide +kernel
theorem dX12_isUp_62 : decode cX12_isUp 62 = .ok (.getfield 9, 3) := by decide +kernel
theorem dX12_isUp_65 : decode cX12_isUp 65 = .ok (.bipush 16, 2) := by decide +kernel
theorem dX12_isUp_67 : decode cX12_isUp 67 = .ok (.iload_n 1, 1) := by decide +kernel
theorem dX12_isUp_68 : decode cX12_isUp 68 = .ok (.iadd, 1) := by decide +kernel
theorem dX12_isUp_69 : decode cX12_isUp 69 = .ok (.iaload, 1) := by decide +kernel
theorem dX12_isUp_70 : decode cX12_isUp 70 = .ok (.tableswitch 130 1 5 #[34, 41, 130, 72, 92], 34) := by decide +kernel
theorem dX12_isUp_104 : decode cX12_isUp 104 = .ok (.iload 6, 2) := by decide +kernel
theorem dX12_isUp_106 : decode cX12_isUp 106 = .ok (.istore 7, 2) := by decide +kernel
theorem dX12_isUp_108 : decode cX12_isUp 108 = .ok (.goto 92, 3) := by decide +kernel
theorem dX12_isUp_111 : decode cX12_isUp 111 = .ok (.iload 5, 2) := by decide +kernel
theorem dX12_isUp_113 : decode cX12_isUp 113 = .ok (.ifCond .eq 23, 3) := by decide +kernel
theorem dX12_isUp_116 : decode cX12_isUp 116 = .ok (.iload_n 2, 1) := by decide +kernel
theorem dX12_isUp_117 : decode cX12_isUp 117 = .ok (.bipush 10, 2) := by decide +kernel
theorem dX12_isUp_119 : decode cX12_isUp 119 = .ok (.aload_n 0, 1) := by decide +kernel
theorem dX12_isUp_120 : decode cX12_isUp 120 = .ok (.getfield 9, 3) := by decide +kernel
theorem dX12_isUp_123 : decode cX12_isUp 123 = .ok (.bipush 22, 2) := by decide +kernel
theorem dX12_isUp_125 : decode cX12_isUp 125 = .ok (.iload_n 1, 1) := by decide +kernel
theorem dX12_isUp_126 : decode cX12_isUp 126 = .ok (.iadd, 1) := by decide +kernel
theorem dX12_isUp_127 : decode cX12_isUp 127 = .ok (.iaload, 1) := by decide +kernel
theorem dX12_isUp_128 : decode cX12_isUp 128 = .ok (.imul, 1) := by decide +kernel
theorem dX12_isUp_129 : decode cX12_isUp 129 = .ok (.if_icmp .lt 7, 3) := by decide +kernel
theorem dX12_isUp_132 : decode cX12_isUp 132 = .ok (.iconst 1, 1) := by decide +kernel
theorem dX12_isUp_133 : decode cX12_isUp 133 = .ok (.goto 4, 3) := by decide +kernel
theorem dX12_isUp_136 : decode cX12_isUp 136 = .ok (.iconst 0, 1) := by decide +kernel
theorem dX12_isUp_137 : decode cX12_isUp 137 = .ok (.istore 7, 2) := by decide +kernel
theorem dX12_isUp_139 : decode cX12_isUp 139 = .ok (.goto 61, 3) := by decide +kernel
theorem dX12_isUp_142 : decode cX12_isUp 142 = .ok (.iload 6, 2) := by decide +kernel
theorem dX12_isUp_144 : decode cX12_isUp 144 = .ok (.ifCond .ne 8, 3) := by decide +kernel
theorem dX12_isUp_147 : decode cX12_isUp 147 = .ok (.iload 5, 2) := by decide +kernel
theorem dX12_isUp_149 : decode cX12_isUp 149 = .ok (.ifCond .eq 7, 3) := by decide +kernel
theorem dX12_isUp_152 : decode cX12_isUp 152 = .ok (.iconst 1, 1) := by decide +kernel
theorem dX12_isUp_153 : decode cX12_isUp 153 = .ok (.goto 4, 3) := by decide +kernel
theorem dX12_isUp_156 : decode cX12_isUp 156 = .ok (.iconst 0, 1) := by decide +kernel
theorem dX12_isUp_157 : decode cX12_isUp 157 = .ok (.istore 7, 2) := by decide +kernel
theorem dX12_isUp_159 : decode cX12_isUp 159 = .ok (.goto 41, 3) := by decide +kernel
theorem dX12_isUp_162 : decode cX12_isUp 162 = .ok (.iload 5, 2) := by decide +kernel
theorem dX12_isUp_164 : decode cX12_isUp 164 = .ok (.ifCond .eq 30, 3) := by decide +kernel
theorem dX12_isUp_167 : decode cX12_isUp 167 = .ok (.iload_n 2, 1) := by decide +kernel
theorem dX12_isUp_168 : decode cX12_isUp 168 = .ok (.bipush 10, 2) := by decide +kernel
theorem dX12_isUp_170 : decode cX12_isUp 170 = .ok (.aload_n 0, 1) := by decide +kernel
theorem dX12_isUp_171 : decode cX12_isUp 171 = .ok (.getfield 9, 3) := by decide +kernel
theorem dX12_isUp_174 : decode cX12_isUp 174 = .ok (.bipush 22, 2) := by decide +kernel
theorem dX12_isUp_176 : decode cX12_isUp 176 = .ok (.iload_n 1, 1) := by decide +kernel
theorem dX12_isUp_177 : decode cX12_isUp 177 = .ok (.iadd, 1) := by decide +kernel
theorem dX12_isUp_178 : decode cX12_isUp 178 = .ok (.iaload, 1) := by decide +kernel
theorem dX12_isUp_179 : decode cX12_isUp 179 = .ok (.imul, 1) := by decide +kernel
theorem dX12_isUp_180 : decode cX12_isUp 180 = .ok (.if_icmp .lt 14, 3) := by decide +kernel
theorem dX12_isUp_183 : decode cX12_isUp 183 = .ok (.iload_n 2, 1) := by decide +kernel
theorem dX12_isUp_184 : decode cX12_isUp 184 = .ok (.bipush 7, 2) := by decide +kernel
theorem dX12_isUp_186 : decode cX12_isUp 186 = .ok (.irem, 1) := by decide +kernel
theorem dX12_isUp_187 : decode cX12_isUp 187 = .ok (.ifCond .eq 7, 3) := by decide +kernel
theorem dX12_isUp_190 : decode cX12_isUp 190 = .ok (.iconst 1, 1) := by decide +kernel
theorem dX12_isUp_191 : decode cX12_isUp 191 = .ok (.goto 4, 3) := by decide +kernel
theorem dX12_isUp_194 : decode cX12_isUp 194 = .ok (.iconst 0, 1) := by decide +kernel
theorem dX12_isUp_195 : decode cX12_isUp 195 = .ok (.istore 7, 2) := by decide +kernel
theorem dX12_isUp_197 : decode cX12_isUp 197 = .ok (.goto 3, 3) := by decide +kernel
theorem dX12_isUp_200 : decode cX12_isUp 200 = .ok (.aload_n 0, 1) := by decide +kernel
theorem dX12_isUp_201 : decode cX12_isUp 201 = .ok (.getfield 9, 3) := by decide +kernel
theorem dX12_isUp_204 : decode cX12_isUp 204 = .ok (.iconst 3, 1) := by decide +kernel
theorem dX12_isUp_205 : decode cX12_isUp 205 = .ok (.iload_n 1, 1) := by decide +kernel
theorem dX12_isUp_206 : decode cX12_isUp 206 = .ok (.iadd, 1) := by decide +kernel
theorem dX12_isUp_207 : decode cX12_isUp 207 = .ok (.iaload, 1) := by decide +kernel
theorem dX12_isUp_208 : decode cX12_isUp 208 = .ok (.ifCond .ne 12, 3) := by decide +kernel
theorem dX12_isUp_211 : decode cX12_isUp 211 = .ok (.iload 7, 2) := by decide +kernel
theorem dX12_isUp_213 : decode cX12_isUp 213 = .ok (.ifCond .eq 7, 3) := by decide +kernel
theorem dX12_isUp_216 : decode cX12_isUp 216 = .ok (.iconst 1, 1) := by decide +kernel
theorem dX12_isUp_217 : decode cX12_isUp 217 = .ok (.goto 4, 3) := by decide +kernel
theorem dX12_isUp_220 : decode cX12_isUp 220 = .ok (.iconst 0, 1) := by decide +kernel
theorem dX12_isUp_221 : decode cX12_isUp 221 = .ok (.ireturn, 1) := by decide +kernel
theorem dX12_worthOf_0 : decode cX12_worthOf 0 = .ok (.aload_n 0, 1) := by decide +kernel
theorem dX12_worthOf_1 : decode cX12_worthOf 1 = .ok (.iload_n 1, 1) := by decide +kernel
theorem dX12_worthOf_2 : decode cX12_worthOf 2 = .ok (.iload_n 2, 1) := by decide +kernel
theorem dX12_worthOf_3 : decode cX12_worthOf 3 = .ok (.iload_n 3, 1) := by decide +kernel
theorem dX12_worthOf_4 : decode cX12_worthOf 4 = .ok (.invokevirtual 133, 3) := by decide +kernel
theorem dX12_worthOf_7 : decode cX12_worthOf 7 = .ok (.istore 4, 2) := by decide +kernel
theorem dX12_worthOf_9 : decode cX12_worthOf 9 = .ok (.iconst 5, 1) := by decide +kernel
theorem dX12_worthOf_10 : decode cX12_worthOf 10 = .ok (.iload 4, 2) := by decide +kernel
theorem dX12_worthOf_12 : decode cX12_worthOf 12 = .ok (.iadd, 1) := by decide +kernel
theorem dX12_worthOf_13 : decode cX12_worthOf 13 = .ok (.istore 5, 2) := by decide +kernel
theorem dX12_worthOf_15 : decode cX12_worthOf 15 = .ok (.aload_n 0, 1) := by decide +kernel
theorem dX12_worthOf_16 : decode cX12_worthOf 16 = .ok (.getfield 9, 3) := by decide +kernel
theorem dX12_worthOf_19 : decode cX12_worthOf 19 = .ok (.bipush 16, 2) := by decide +kernel
theorem dX12_worthOf_21 : decode cX12_worthOf 21 = .ok (.iload_n 1, 1) := by decide +kernel
theorem dX12_worthOf_22 : decode cX12_worthOf 22 = .ok (.iadd, 1) := by decide +kernel
theorem dX12_worthOf_23 : decode cX12_worthOf 23 = .ok (.iaload, 1) := by decide +kernel
theorem dX12_worthOf_24 : decode cX12_worthOf 24 = .ok (.tableswitch 138 1 6 #[40, 138, 49, 66, 77, 105], 40) := by decide +kernel
theorem dX12_worthOf_64 : decode cX12_worthOf 64 = .ok (.iconst 2, 1) := by decide +kernel
theorem dX12_worthOf_65 : decode cX12_worthOf 65 = .ok (.iload 4, 2) := by decide +kernel
theorem dX12_worthOf_67 : decode cX12_worthOf 67 = .ok (.iadd, 1) := by decide +kernel
theorem dX12_worthOf_68 : decode cX12_worthOf 68 = .ok (.istore 5, 2) := by decide +kernel
theorem dX12_worthOf_70 : decode cX12_worthOf 70 = .ok (.goto 92, 3) := by decide +kernel
theorem dX12_worthOf_73 : decode cX12_worthOf 73 = .ok (.iload 4, 2) := by decide +kernel
theorem dX12_worthOf_75 : decode cX12_worthOf 75 = .ok (.aload_n 0, 1) := by decide +kernel
theorem dX12_worthOf_76 : decode cX12_worthOf 76 = .ok (.getfield 9, 3) := by decide +kernel
theorem dX12_worthOf_79 : decode cX12_worthOf 79 = .ok (.bipush 22, 2) := by decide +kernel
theorem dX12_worthOf_81 : decode cX12_worthOf 81 = .ok (.iload_n 1, 1) := by decide +kernel
theorem dX12_worthOf_82 : decode cX12_worthOf 82 = .ok (.iadd, 1) := by decide +kernel
theorem dX12_worthOf_83 : decode cX12_worthOf 83 = .ok (.iaload, 1) := by decide +kernel
theorem dX12_worthOf_84 : decode cX12_worthOf 84 = .ok (.iadd, 1) := by decide +kernel
theorem dX12_worthOf_85 : decode cX12_worthOf 85 = .ok (.istore 5, 2) := by decide +kernel
theorem dX12_worthOf_87 : decode cX12_worthOf 87 = .ok (.goto 75, 3) := by decide +kernel
theorem dX12_worthOf_90 : decode cX12_worthOf 90 = .ok (.iconst 2, 1) := by decide +kernel
theorem dX12_worthOf_91 : decode cX12_worthOf 91 = .ok (.iconst 2, 1) := by decide +kernel
theorem dX12_worthOf_92 : decode cX12_worthOf 92 = .ok (.iload 4, 2) := by decide +kernel
theorem dX12_worthOf_94 : decode cX12_worthOf 94 = .ok (.iadd, 1) := by decide +kernel
theorem dX12_worthOf_95 : decode cX12_worthOf 95 = .ok (.imul, 1) := by decide +kernel
theorem dX12_worthOf_96 : decode cX12_worthOf 96 = .ok (.istore 5, 2) := by decide +kernel
theorem dX12_worthOf_98 : decode cX12_worthOf 98 = .ok (.goto 64, 3) := by decide +kernel
theorem dX12_worthOf_101 : decode cX12_worthOf 101 = .ok (.iconst 5, 1) := by decide +kernel
theorem dX12_worthOf_102 : decode cX12_worthOf 102 = .ok (.iload 4, 2) := by decide +kernel
theorem dX12_worthOf_104 : decode cX12_worthOf 104 = .ok (.iadd, 1) := by decide +kernel
theorem dX12_worthOf_105 : decode cX12_worthOf 105 = .ok (.iload_n 2, 1) := by decide +kernel
theorem dX12_worthOf_106 : decode cX12_worthOf 106 = .ok (.iconst 1, 1) := by decide +kernel
theorem dX12_worthOf_107 : decode cX12_worthOf 107 = .ok (.if_icmp .ne 15, 3) := by decide +kernel
theorem dX12_worthOf_110 : decode cX12_worthOf 110 = .ok (.aload_n 0, 1) := by decide +kernel
theorem dX12_worthOf_111 : decode cX12_worthOf 111 = .ok (.getfield 9, 3) := by decide +kernel
theorem dX12_worthOf_114 : decode cX12_worthOf 114 = .ok (.bipush 22, 2) := by decide +kernel
theorem dX12_worthOf_116 : decode cX12_worthOf 116 = .ok (.iload_n 1, 1) := by decide +kernel
theorem dX12_worthOf_117 : decode cX12_worthOf 117 = .ok (.iadd, 1) := by decide +kernel
theorem dX12_worthOf_118 : decode cX12_worthOf 118 = .ok (.iaload, 1) := by decide +kernel
theorem dX12_worthOf_119 : decode cX12_worthOf 119 = .ok (.goto 4, 3) := by decide +kernel
theorem dX12_worthOf_122 : decode cX12_worthOf 122 = .ok (.iconst 0, 1) := by decide +kernel
theorem dX12_worthOf_123 : decode cX12_worthOf 123 = .ok (.iadd, 1) := by decide +kernel
theorem dX12_worthOf_124 : decode cX12_worthOf 124 = .ok (.istore 5, 2) := by decide +kernel
theorem dX12_worthOf_126 : decode cX12_worthOf 126 = .ok (.goto 36, 3) := by decide +kernel
theorem dX12_worthOf_129 : decode cX12_worthOf 129 = .ok (.iload 4, 2) := by decide +kernel
theorem dX12_worthOf_131 : decode cX12_worthOf 131 = .ok (.aload_n 0, 1) := by decide +kernel
theorem dX12_worthOf_132 : decode cX12_worthOf 132 = .ok (.getfield 9, 3) := by decide +kernel
theorem dX12_worthOf_135 : decode cX12_worthOf 135 = .ok (.bipush 22, 2) := by decide +kernel
theorem dX12_worthOf_137 : decode cX12_worthOf 137 = .ok (.iload_n 1, 1) := by decide +kernel
theorem dX12_worthOf_138 : decode cX12_worthOf 138 = .ok (.iadd, 1) := by decide +kernel
theorem dX12_worthOf_139 : decode cX12_worthOf 139 = .ok (.iaload, 1) := by decide +kernel
theorem dX12_worthOf_140 : decode cX12_worthOf 140 = .ok (.iadd, 1) := by decide +kernel
theorem dX12_worthOf_141 : decode cX12_worthOf 141 = .ok (.aload_n 0, 1) := by decide +kernel
theorem dX12_worthOf_142 : decode cX12_worthOf 142 = .ok (.getfield 9, 3) := by decide +kernel
theorem dX12_worthOf_145 : decode cX12_worthOf 145 = .ok (.bipush 40, 2) := by decide +kernel
theorem dX12_worthOf_147 : decode cX12_worthOf 147 = .ok (.iconst 4, 1) := by decide +kernel
theorem dX12_worthOf_148 : decode cX12_worthOf 148 = .ok (.iload_n 1, 1) := by decide +kernel
theorem dX12_worthOf_149 : decode cX12_worthOf 149 = .ok (.imul, 1) := by decide +kernel
theorem dX12_worthOf_150 : decode cX12_worthOf 150 = .ok (.iadd, 1) := by decide +kernel
theorem dX12_worthOf_151 : decode cX12_worthOf 151 = .ok (.iload_n 3, 1) := by decide +kernel
theorem dX12_worthOf_152 : decode cX12_worthOf 152 = .ok (.iconst 4, 1) := by decide +kernel
theorem dX12_worthOf_153 : decode cX12_worthOf 153 = .ok (.irem, 1) := by decide +kernel
theorem dX12_worthOf_154 : decode cX12_worthOf 154 = .ok (.iadd, 1) := by decide +kernel
theorem dX12_worthOf_155 : decode cX12_worthOf 155 = .ok (.iaload, 1) := by decide +kernel
theorem dX12_worthOf_156 : decode cX12_worthOf 156 = .ok (.iadd, 1) := by decide +kernel
theorem dX12_worthOf_157 : decode cX12_worthOf 157 = .ok (.istore 5, 2) := by decide +kernel
theorem dX12_worthOf_159 : decode cX12_worthOf 159 = .ok (.goto 3, 3) := by decide +kernel
theorem dX12_worthOf_162 : decode cX12_worthOf 162 = .ok (.iload 5, 2) := by decide +kernel
theorem dX12_worthOf_164 : decode cX12_worthOf 164 = .ok (.ifCond .ge 7, 3) := by decide +kernel
theorem dX12_worthOf_167 : decode cX12_worthOf 167 = .ok (.iconst 0, 1) := by decide +kernel
theorem dX12_worthOf_168 : decode cX12_worthOf 168 = .ok (.goto 5, 3) := by decide +kernel
theorem dX12_worthOf_171 : decode cX12_worthOf 171 = .ok (.iload 5, 2) := by decide +kernel
theorem dX12_worthOf_173 : decode cX12_worthOf 173 = .ok (.ireturn, 1) := by decide +kernel
theorem dX12_hasOn_0 : decode cX12_hasOn 0 = .ok (.iconst 0, 1) := by decide +kernel
theorem dX12_hasOn_1 : decode cX12_hasOn 1 = .ok (.istore_n 3, 1) := by decide +kernel
theorem dX12_hasOn_2 : decode cX12_hasOn 2 = .ok (.iconst 0, 1) := by decide +kernel
theorem dX12_hasOn_3 : decode cX12_hasOn 3 = .ok (.istore 4, 2) := by decide +kernel
theorem dX12_hasOn_5 : decode cX12_hasOn 5 = .ok (.iload 4, 2) := by decide +kernel
theorem dX12_hasOn_7 : decode cX12_hasOn 7 = .ok (.aload_n 0, 1) := by decide +kernel
theorem dX12_hasOn_8 : decode cX12_hasOn 8 = .ok (.getfield 9, 3) := by decide +kernel
theorem dX12_hasOn_11 : decode cX12_hasOn 11 = .ok (.bipush 9, 2) := by decide +kernel
theorem dX12_hasOn_13 : decode cX12_hasOn 13 = .ok (.iaload, 1) := by decide +kernel
theorem dX12_hasOn_14 : decode cX12_hasOn 14 = .ok (.if_icmp .ge 42, 3) := by decide +kernel
theorem dX12_hasOn_17 : decode cX12_hasOn 17 = .ok (.aload_n 0, 1) := by decide +kernel
theorem dX12_hasOn_18 : decode cX12_hasOn 18 = .ok (.iload_n 1, 1) := by decide +kernel
theorem dX12_hasOn_19 : decode cX12_hasOn 19 = .ok (.invokevirtual 137, 3) := by decide +kernel
theorem dX12_hasOn_22 : decode cX12_hasOn 22 = .ok (.ifCond .ne 34, 3) := by decide +kernel
theorem dX12_hasOn_25 : decode cX12_hasOn 25 = .ok (.iload_n 3, 1) := by decide +kernel
theorem dX12_hasOn_26 : decode cX12_hasOn 26 = .ok (.aload_n 0, 1) := by decide +kernel
theorem dX12_hasOn_27 : decode cX12_hasOn 27 = .ok (.iload 4, 2) := by decide +kernel
theorem dX12_hasOn_29 : decode cX12_hasOn 29 = .ok (.iload_n 1, 1) := by decide +kernel
theorem dX12_hasOn_30 : decode cX12_hasOn 30 = .ok (.invokevirtual 141, 3) := by decide +kernel
theorem dX12_hasOn_33 : decode cX12_hasOn 33 = .ok (.ifCond .eq 14, 3) := by decide +kernel
theorem dX12_hasOn_36 : decode cX12_hasOn 36 = .ok (.aload_n 0, 1) := by decide +kernel
theorem dX12_hasOn_37 : decode cX12_hasOn 37 = .ok (.iload 4, 2) := by decide +kernel
theorem dX12_hasOn_39 : decode cX12_hasOn 39 = .ok (.iload_n 2, 1) := by decide +kernel
theorem dX12_hasOn_40 : decode cX12_hasOn 40 = .ok (.iload_n 1, 1) := by decide +kernel
theorem dX12_hasOn_41 : decode cX12_hasOn 41 = .ok (.invokevirtual 145, 3) := by decide +kernel
theorem dX12_hasOn_44 : decode cX12_hasOn 44 = .ok (.goto 4, 3) := by decide +kernel
theorem dX12_hasOn_47 : decode cX12_hasOn 47 = .ok (.iconst 0, 1) := by decide +kernel
theorem dX12_hasOn_48 : decode cX12_hasOn 48 = .ok (.iadd, 1) := by decide +kernel
theorem dX12_hasOn_49 : decode cX12_hasOn 49 = .ok (.istore_n 3, 1) := by decide +kernel
theorem dX12_hasOn_50 : decode cX12_hasOn 50 = .ok (.iinc 4 1, 3) := by decide +kernel
theorem dX12_hasOn_53 : decode cX12_hasOn 53 = .ok (.goto (-48), 3) := by decide +kernel
theorem dX12_hasOn_56 : decode cX12_hasOn 56 = .ok (.iload_n 3, 1) := by decide +kernel
theorem dX12_hasOn_57 : decode cX12_hasOn 57 = .ok (.ireturn, 1) := by decide +kernel
theorem dX12_upOn_0 : decode cX12_upOn 0 = .ok (.iconst 0, 1) := by decide +kernel
theorem dX12_upOn_1 : decode cX12_upOn 1 = .ok (.istore_n 2, 1) := by decide +kernel
theorem dX12_upOn_2 : decode cX12_upOn 2 = .ok (.iconst 0, 1) := by decide +kernel
theorem dX12_upOn_3 : decode cX12_upOn 3 = .ok (.istore_n 3, 1) := by decide +kernel
theorem dX12_upOn_4 : decode cX12_upOn 4 = .ok (.iload_n 3, 1) := by decide +kernel
theorem dX12_upOn_5 : decode cX12_upOn 5 = .ok (.aload_n 0, 1) := by decide +kernel
theorem dX12_upOn_6 : decode cX12_upOn 6 = .ok (.getfield 9, 3) := by decide +kernel
theorem dX12_upOn_9 : decode cX12_upOn 9 = .ok (.bipush 9, 2) := by decide +kernel
theorem dX12_upOn_11 : decode cX12_upOn 11 = .ok (.iaload, 1) := by decide +kernel
theorem dX12_upOn_12 : decode cX12_upOn 12 = .ok (.if_icmp .ge 28, 3) := by decide +kernel
theorem dX12_upOn_15 : decode cX12_upOn 15 = .ok (.iload_n 2, 1) := by decide +kernel
theorem dX12_upOn_16 : decode cX12_upOn 16 = .ok (.aload_n 0, 1) := by decide +kernel
theorem dX12_upOn_17 : decode cX12_upOn 17 = .ok (.iload_n 3, 1) := by decide +kernel
theorem dX12_upOn_18 : decode cX12_upOn 18 = .ok (.iload_n 1, 1) := by decide +kernel
theorem dX12_upOn_19 : decode cX12_upOn 19 = .ok (.invokevirtual 141, 3) := by decide +kernel
theorem dX12_upOn_22 : decode cX12_upOn 22 = .ok (.ifCond .eq 9, 3) := by decide +kernel
theorem dX12_upOn_25 : decode cX12_upOn 25 = .ok (.iconst 1, 1) := by decide +kernel
theorem dX12_upOn_26 : decode cX12_upOn 26 = .ok (.iload_n 3, 1) := by decide +kernel
theorem dX12_upOn_27 : decode cX12_upOn 27 = .ok (.ishl, 1) := by decide +kernel
theorem dX12_upOn_28 : decode cX12_upOn 28 = .ok (.goto 4, 3) := by decide +kernel
theorem dX12_upOn_31 : decode cX12_upOn 31 = .ok (.iconst 0, 1) := by decide +kernel
theorem dX12_upOn_32 : decode cX12_upOn 32 = .ok (.ior, 1) := by decide +kernel
theorem dX12_upOn_33 : decode cX12_upOn 33 = .ok (.istore_n 2, 1) := by decide +kernel
theorem dX12_upOn_34 : decode cX12_upOn 34 = .ok (.iinc 3 1, 3) := by decide +kernel
theorem dX12_upOn_37 : decode cX12_upOn 37 = .ok (.goto (-33), 3) := by decide +kernel
theorem dX12_upOn_40 : decode cX12_upOn 40 = .ok (.iload_n 2, 1) := by decide +kernel
theorem dX12_upOn_41 : decode cX12_upOn 41 = .ok (.ireturn, 1) := by decide +kernel
theorem dX12_light_0 : decode cX12_light 0 = .ok (.iload_n 1, 1) := by decide +kernel
theorem dX12_light_1 : decode cX12_light 1 = .ok (.iconst 0, 1) := by decide +kernel
theorem dX12_light_2 : decode cX12_light 2 = .ok (.bipush 6, 2) := by decide +kernel
theorem dX12_light_4 : decode cX12_light 4 = .ok (.invokestatic 41, 3) := by decide +kernel
theorem dX12_light_7 : decode cX12_light 7 = .ok (.ifCond .ne 5, 3) := by decide +kernel
theorem dX12_light_10 : decode cX12_light 10 = .ok (.iconst (-1), 1) := by decide +kernel
theorem dX12_light_11 : decode cX12_light 11 = .ok (.ireturn, 1) := by decide +kernel
theorem dX12_light_12 : decode cX12_light 12 = .ok (.iload_n 2, 1) := by decide +kernel
theorem dX12_light_13 : decode cX12_light 13 = .ok (.iconst 0, 1) := by decide +kernel
theorem dX12_light_14 : decode cX12_light 14 = .ok (.bipush 9, 2) := by decide +kernel
theorem dX12_light_16 : decode cX12_light 16 = .ok (.invokestatic 41, 3) := by decide +kernel
theorem dX12_light_19 : decode cX12_light 19 = .ok (.ifCond .eq 24, 3) := by decide +kernel
theorem dX12_light_22 : decode cX12_light 22 = .ok (.iload_n 3, 1) := by decide +kernel
theorem dX12_light_23 : decode cX12_light 23 = .ok (.iconst 1, 1) := by decide +kernel
theorem dX12_light_24 : decode cX12_light 24 = .ok (.bipush 30, 2) := by decide +kernel
theorem dX12_light_26 : decode cX12_light 26 = .ok (.invokestatic 41, 3) := by decide +kernel
theorem dX12_light_29 : decode cX12_light 29 = .ok (.ifCond .eq 14, 3) := by decide +kernel
theorem dX12_light_32 : decode cX12_light 32 = .ok (.iload 4, 2) := by decide +kernel
theorem dX12_light_34 : decode cX12_light 34 = .ok (.iconst 0, 1) := by decide +kernel
theorem dX12_light_35 : decode cX12_light 35 = .ok (.bipush 29, 2) := by decide +kernel
theorem dX12_light_37 : decode cX12_light 37 = .ok (.invokestatic 41, 3) := by decide +kernel
theorem dX12_light_40 : decode cX12_light 40 = .ok (.ifCond .ne 6, 3) := by decide +kernel
theorem dX12_light_43 : decode cX12_light 43 = .ok (.bipush (-2), 2) := by decide +kernel
theorem dX12_light_45 : decode cX12_light 45 = .ok (.ireturn, 1) := by decide +kernel
theorem dX12_light_46 : decode cX12_light 46 = .ok (.aload_n 0, 1) := by decide +kernel
theorem dX12_light_47 : decode cX12_light 47 = .ok (.getfield 9, 3) := by decide +kernel
theorem dX12_light_50 : decode cX12_light 50 = .ok (.bipush 9, 2) := by decide +kernel
theorem dX12_light_52 : decode cX12_light 52 = .ok (.iaload, 1) := by decide +kernel
theorem dX12_light_53 : decode cX12_light 53 = .ok (.bipush 6, 2) := by decide +kernel
theorem dX12_light_55 : decode cX12_light 55 = .ok (.if_icmp .ne 6, 3) := by decide +kernel
theorem dX12_light_58 : decode cX12_light 58 = .ok (.bipush (-4), 2) := by decide +kernel
theorem dX12_light_60 : decode cX12_light 60 = .ok (.ireturn, 1) := by decide +kernel
theorem dX12_light_61 : decode cX12_light 61 = .ok (.aload_n 0, 1) := by decide +kernel
theorem dX12_light_62 : decode cX12_light 62 = .ok (.getfield 9, 3) := by decide +kernel
theorem dX12_light_65 : decode cX12_light 65 = .ok (.bipush 9, 2) := by decide +kernel
theorem dX12_light_67 : decode cX12_light 67 = .ok (.iaload, 1) := by decide +kernel
theorem dX12_light_68 : decode cX12_light 68 = .ok (.istore 5, 2) := by decide +kernel
theorem dX12_light_70 : decode cX12_light 70 = .ok (.aload_n 0, 1) := by decide +kernel
theorem dX12_light_71 : decode cX12_light 71 = .ok (.getfield 9, 3) := by decide +kernel
theorem dX12_light_74 : decode cX12_light 74 = .ok (.bipush 16, 2) := by decide +kernel
theorem dX12_light_76 : decode cX12_light 76 = .ok (.iload 5, 2) := by decide +kernel
theorem dX12_light_78 : decode cX12_light 78 = .ok (.iadd, 1) := by decide +kernel
theorem dX12_light_79 : decode cX12_light 79 = .ok (.iload_n 1, 1) := by decide +kernel
theorem dX12_light_80 : decode cX12_light 80 = .ok (.iastore, 1) := by decide +kernel
theorem dX12_light_81 : decode cX12_light 81 = .ok (.aload_n 0, 1) := by decide +kernel
theorem dX12_light_82 : decode cX12_light 82 = .ok (.getfield 9, 3) := by decide +kernel
theorem dX12_light_85 : decode cX12_light 85 = .ok (.bipush 22, 2) := by decide +kernel
theorem dX12_light_87 : decode cX12_light 87 = .ok (.iload 5, 2) := by decide +kernel
theorem dX12_light_89 : decode cX12_light 89 = .ok (.iadd, 1) := by decide +kernel
theorem dX12_light_90 : decode cX12_light 90 = .ok (.iload_n 2, 1) := by decide +kernel
theorem dX12_light_91 : decode cX12_light 91 = .ok (.iastore, 1) := by decide +kernel
theorem dX12_light_92 : decode cX12_light 92 = .ok (.aload_n 0, 1) := by decide +kernel
theorem dX12_light_93 : decode cX12_light 93 = .ok (.getfield 9, 3) := by decide +kernel
theorem dX12_light_96 : decode cX12_light 96 = .ok (.bipush 28, 2) := by decide +kernel
theorem dX12_light_98 : decode cX12_light 98 = .ok (.iload 5, 2) := by decide +kernel
theorem dX12_light_100 : decode cX12_light 100 = .ok (.iadd, 1) := by decide +kernel
theorem dX12_light_101 : decode cX12_light 101 = .ok (.iload_n 3, 1) := by decide +kernel
theorem dX12_light_102 : decode cX12_light 102 = .ok (.iastore, 1) := by decide +kernel
theorem dX12_light_103 : decode cX12_light 103 = .ok (.aload_n 0, 1) := by decide +kernel
theorem dX12_light_104 : decode cX12_light 104 = .ok (.getfield 9, 3) := by decide +kernel
theorem dX12_light_107 : decode cX12_light 107 = .ok (.bipush 34, 2) := by decide +kernel
theorem dX12_light_109 : decode cX12_light 109 = .ok (.iload 5, 2) := by decide +kernel
theorem dX12_light_111 : decode cX12_light 111 = .ok (.iadd, 1) := by decide +kernel
theorem dX12_light_112 : decode cX12_light 112 = .ok (.iload 4, 2) := by decide +kernel
theorem dX12_light_114 : decode cX12_light 114 = .ok (.iastore, 1) := by decide +kernel
theorem dX12_light_115 : decode cX12_light 115 = .ok (.aload_n 0, 1) := by decide +kernel
theorem dX12_light_116 : decode cX12_light 116 = .ok (.getfield 9, 3) := by decide +kernel
theorem dX12_light_119 : decode cX12_light 119 = .ok (.iconst 3, 1) := by decide +kernel
theorem dX12_light_120 : decode cX12_light 120 = .ok (.iload 5, 2) := by decide +kernel
theorem dX12_light_122 : decode cX12_light 122 = .ok (.iadd, 1) := by decide +kernel
theorem dX12_light_123 : decode cX12_light 123 = .ok (.iconst 0, 1) := by decide +kernel
theorem dX12_light_124 : decode cX12_light 124 = .ok (.iastore, 1) := by decide +kernel
theorem dX12_light_125 : decode cX12_light 125 = .ok (.iconst 0, 1) := by decide +kernel
theorem dX12_light_126 : decode cX12_light 126 = .ok (.istore 6, 2) := by decide +kernel
theorem dX12_light_128 : decode cX12_light 128 = .ok (.iload 6, 2) := by decide +kernel
theorem dX12_light_130 : decode cX12_light 130 = .ok (.iconst 4, 1) := by decide +kernel
theorem dX12_light_131 : decode cX12_light 131 = .ok (.if_icmp .ge 25, 3) := by decide +kernel
theorem dX12_light_134 : decode cX12_light 134 = .ok (.aload_n 0, 1) := by decide +kernel
theorem dX12_light_135 : decode cX12_light 135 = .ok (.getfield 9, 3) := by decide +kernel
theorem dX12_light_138 : decode cX12_light 138 = .ok (.bipush 40, 2) := by decide +kernel
theorem dX12_light_140 : decode cX12_light 140 = .ok (.iconst 4, 1) := by decide +kernel
theorem dX12_light_141 : decode cX12_light 141 = .ok (.iload 5, 2) := by decide +kernel
theorem dX12_light_143 : decode cX12_light 143 = .ok (.imul, 1) := by decide +kernel
theorem dX12_light_144 : decode cX12_light 144 = .ok (.iadd, 1) := by decide +kernel
theorem dX12_light_145 : decode cX12_light 145 = .ok (.iload 6, 2) := by decide +kernel
theorem dX12_light_147 : decode cX12_light 147 = .ok (.iadd, 1) := by decide +kernel
theorem dX12_light_148 : decode cX12_light 148 = .ok (.iconst 0, 1) := by decide +kernel
theorem dX12_light_149 : decode cX12_light 149 = .ok (.iastore, 1) := by decide +kernel
theorem dX12_light_150 : decode cX12_light 150 = .ok (.iinc 6 1, 3) := by decide +kernel
theorem dX12_light_153 : decode cX12_light 153 = .ok (.goto (-25), 3) := by decide +kernel
theorem dX12_light_156 : decode cX12_light 156 = .ok (.aload_n 0, 1) := by decide +kernel
theorem dX12_light_157 : decode cX12_light 157 = .ok (.getfield 9, 3) := by decide +kernel
theorem dX12_light_160 : decode cX12_light 160 = .ok (.bipush 9, 2) := by decide +kernel
theorem dX12_light_162 : decode cX12_light 162 = .ok (.dup2, 1) := by decide +kernel
theorem dX12_light_163 : decode cX12_light 163 = .ok (.iaload, 1) := by decide +kernel
theorem dX12_light_164 : decode cX12_light 164 = .ok (.iconst 1, 1) := by decide +kernel
theorem dX12_light_165 : decode cX12_light 165 = .ok (.iadd, 1) := by decide +kernel
theorem dX12_light_166 : decode cX12_light 166 = .ok (.iastore, 1) := by decide +kernel
theorem dX12_light_167 : decode cX12_light 167 = .ok (.iload 5, 2) := by decide +kernel
theorem dX12_light_169 : decode cX12_light 169 = .ok (.ireturn, 1) := by decide +kernel
theorem dX12_of_0 : decode cX12_of 0 = .ok (.aload_n 0, 1) := by decide +kernel
theorem dX12_of_1 : decode cX12_of 1 = .ok (.iload_n 1, 1) := by decide +kernel
theorem dX12_of_2 : decode cX12_of 2 = .ok (.invokevirtual 148, 3) := by decide +kernel
theorem dX12_of_5 : decode cX12_of 5 = .ok (.ifCond .ne 5, 3) := by decide +kernel
theorem dX12_of_8 : decode cX12_of 8 = .ok (.iconst (-1), 1) := by decide +kernel
theorem dX12_of_9 : decode cX12_of 9 = .ok (.ireturn, 1) := by decide +kernel
theorem dX12_of_10 : decode cX12_of 10 = .ok (.iload_n 2, 1) := by decide +kernel
theorem dX12_of_11 : decode cX12_of 11 = .ok (.tableswitch 106 0 5 #[37, 47, 57, 67, 77, 86], 37) := by decide +kernel
theorem dX12_of_48 : decode cX12_of 48 = .ok (.aload_n 0, 1) := by decide +kernel
theorem dX12_of_49 : decode cX12_of 49 = .ok (.getfield 9, 3) := by decide +kernel
theorem dX12_of_52 : decode cX12_of 52 = .ok (.bipush 16, 2) := by decide +kernel
theorem dX12_of_54 : decode cX12_of 54 = .ok (.iload_n 1, 1) := by decide +kernel
theorem dX12_of_55 : decode cX12_of 55 = .ok (.iadd, 1) := by decide +kernel
theorem dX12_of_56 : decode cX12_of 56 = .ok (.iaload, 1) := by decide +kernel
theorem dX12_of_57 : decode cX12_of 57 = .ok (.ireturn, 1) := by decide +kernel
theorem dX12_of_58 : decode cX12_of 58 = .ok (.aload_n 0, 1) := by decide +kernel
theorem dX12_of_59 : decode cX12_of 59 = .ok (.getfield 9, 3) := by decide +kernel
theorem dX12_of_62 : decode cX12_of 62 = .ok (.bipush 22, 2) := by decide +kernel
theorem dX12_of_64 : decode cX12_of 64 = .ok (.iload_n 1, 1) := by decide +kernel
theorem dX12_of_65 : decode cX12_of 65 = .ok (.iadd, 1) := by decide +kernel
theorem dX12_of_66 : decode cX12_of 66 = .ok (.iaload, 1) := by decide +kernel
theorem dX12_of_67 : decode cX12_of 67 = .ok (.ireturn, 1) := by decide +kernel
theorem dX12_of_68 : decode cX12_of 68 = .ok (.aload_n 0, 1) := by decide +kernel
theorem dX12_of_69 : decode cX12_of 69 = .ok (.getfield 9, 3) := by decide +kernel
theorem dX12_of_72 : decode cX12_of 72 = .ok (.bipush 28, 2) := by decide +kernel
theorem dX12_of_74 : decode cX12_of 74 = .ok (.iload_n 1, 1) := by decide +kernel
theorem dX12_of_75 : decode cX12_of 75 = .ok (.iadd, 1) := by decide +kernel
theorem dX12_of_76 : decode cX12_of 76 = .ok (.iaload, 1) := by decide +kernel
theorem dX12_of_77 : decode cX12_of 77 = .ok (.ireturn, 1) := by decide +kernel
theorem dX12_of_78 : decode cX12_of 78 = .ok (.aload_n 0, 1) := by decide +kernel
theorem dX12_of_79 : decode cX12_of 79 = .ok (.getfield 9, 3) := by decide +kernel
theorem dX12_of_82 : decode cX12_of 82 = .ok (.bipush 34, 2) := by decide +kernel
theorem dX12_of_84 : decode cX12_of 84 = .ok (.iload_n 1, 1) := by decide +kernel
theorem dX12_of_85 : decode cX12_of 85 = .ok (.iadd, 1) := by decide +kernel
theorem dX12_of_86 : decode cX12_of 86 = .ok (.iaload, 1) := by decide +kernel
theorem dX12_of_87 : decode cX12_of 87 = .ok (.ireturn, 1) := by decide +kernel
theorem dX12_of_88 : decode cX12_of 88 = .ok (.aload_n 0, 1) := by decide +kernel
theorem dX12_of_89 : decode cX12_of 89 = .ok (.getfield 9, 3) := by decide +kernel
theorem dX12_of_92 : decode cX12_of 92 = .ok (.iconst 3, 1) := by decide +kernel
theorem dX12_of_93 : decode cX12_of 93 = .ok (.iload_n 1, 1) := by decide +kernel
theorem dX12_of_94 : decode cX12_of 94 = .ok (.iadd, 1) := by decide +kernel
theorem dX12_of_95 : decode cX12_of 95 = .ok (.iaload, 1) := by decide +kernel
theorem dX12_of_96 : decode cX12_of 96 = .ok (.ireturn, 1) := by decide +kernel
theorem dX12_of_97 : decode cX12_of 97 = .ok (.aload_n 0, 1) := by decide +kernel
theorem dX12_of_98 : decode cX12_of 98 = .ok (.iload_n 1, 1) := by decide +kernel
theorem dX12_of_99 : decode cX12_of 99 = .ok (.aload_n 0, 1) := by decide +kernel
theorem dX12_of_100 : decode cX12_of 100 = .ok (.getfield 9, 3) := by decide +kernel
theorem dX12_of_103 : decode cX12_of 103 = .ok (.iconst 0, 1) := by decide +kernel
theorem dX12_of_104 : decode cX12_of 104 = .ok (.iaload, 1) := by decide +kernel
theorem dX12_of_105 : decode cX12_of 105 = .ok (.invokevirtual 141, 3) := by decide +kernel
theorem dX12_of_108 : decode cX12_of 108 = .ok (.ifCond .eq 7, 3) := by decide +kernel
theorem dX12_of_111 : decode cX12_of 111 = .ok (.iconst 1, 1) := by decide +kernel
theorem dX12_of_112 : decode cX12_of 112 = .ok (.goto 4, 3) := by decide +kernel
theorem dX12_of_115 : decode cX12_of 115 = .ok (.iconst 0, 1) := by decide +kernel
theorem dX12_of_116 : decode cX12_of 116 = .ok (.ireturn, 1) := by decide +kernel
theorem dX12_of_117 : decode cX12_of 117 = .ok (.iconst (-1), 1) := by decide +kernel
theorem dX12_of_118 : decode cX12_of 118 = .ok (.ireturn, 1) := by decide +kernel
theorem dX12_isHouse_0 : decode cX12_isHouse 0 = .ok (.iload_n 0, 1) := by decide +kernel
theorem dX12_isHouse_1 : decode cX12_isHouse 1 = .ok (.iconst 0, 1) := by decide +kernel
theorem dX12_isHouse_2 : decode cX12_isHouse 2 = .ok (.iconst 1, 1) := by decide +kernel
theorem dX12_isHouse_3 : decode cX12_isHouse 3 = .ok (.invokestatic 41, 3) := by decide +kernel
theorem dX12_isHouse_6 : decode cX12_isHouse 6 = .ok (.ireturn, 1) := by decide +kernel
theorem dX12_base_0 : decode cX12_base 0 = .ok (.aload_n 0, 1) := by decide +kernel
theorem dX12_base_1 : decode cX12_base 1 = .ok (.iload_n 1, 1) := by decide +kernel
theorem dX12_base_2 : decode cX12_base 2 = .ok (.invokevirtual 148, 3) := by decide +kernel
theorem dX12_base_5 : decode cX12_base 5 = .ok (.ifCond .eq 37, 3) := by decide +kernel
theorem dX12_base_8 : decode cX12_base 8 = .ok (.iload_n 2, 1) := by decide +kernel
theorem dX12_base_9 : decode cX12_base 9 = .ok (.invokestatic 151, 3) := by decide +kernel
theorem dX12_base_12 : decode cX12_base 12 = .ok (.ifCond .eq 30, 3) := by decide +kernel
theorem dX12_base_15 : decode cX12_base 15 = .ok (.iload_n 3, 1) := by decide +kernel
theorem dX12_base_16 : decode cX12_base 16 = .ok (.iconst 0, 1) := by decide +kernel
theorem dX12_base_17 : decode cX12_base 17 = .ok (.bipush 60, 2) := by decide +kernel
theorem dX12_base_19 : decode cX12_base 19 = .ok (.invokestatic 41, 3) := by decide +kernel
theorem dX12_base_22 : decode cX12_base 22 = .ok (.ifCond .eq 20, 3) := by decide +kernel
theorem dX12_base_25 : decode cX12_base 25 = .ok (.aload_n 0, 1) := by decide +kernel
theorem dX12_base_26 : decode cX12_base 26 = .ok (.iload_n 1, 1) := by decide +kernel
theorem dX12_base_27 : decode cX12_base 27 = .ok (.iload_n 2, 1) := by decide +kernel
theorem dX12_base_28 : decode cX12_base 28 = .ok (.aload_n 0, 1) := by decide +kernel
theorem dX12_base_29 : decode cX12_base 29 = .ok (.getfield 9, 3) := by decide +kernel
theorem dX12_base_32 : decode cX12_base 32 = .ok (.iconst 0, 1) := by decide +kernel
theorem dX12_base_33 : decode cX12_base 33 = .ok (.iaload, 1) := by decide +kernel
theorem dX12_base_34 : decode cX12_base 34 = .ok (.iload_n 3, 1) := by decide +kernel
theorem dX12_base_35 : decode cX12_base 35 = .ok (.iadd, 1) := by decide +kernel
theorem dX12_base_36 : decode cX12_base 36 = .ok (.invokevirtual 133, 3) := by decide +kernel
theorem dX12_base_39 : decode cX12_base 39 = .ok (.goto 5, 3) := by decide +kernel
theorem dX12_base_42 : decode cX12_base 42 = .ok (.ldc 154, 2) := by decide +kernel
theorem dX12_base_44 : decode cX12_base 44 = .ok (.ireturn, 1) := by decide +kernel
theorem dX12_worth_0 : decode cX12_worth 0 = .ok (.aload_n 0, 1) := by decide +kernel
theorem dX12_worth_1 : decode cX12_worth 1 = .ok (.iload_n 1, 1) := by decide +kernel
theorem dX12_worth_2 : decode cX12_worth 2 = .ok (.invokevirtual 148, 3) := by decide +kernel
theorem dX12_worth_5 : decode cX12_worth 5 = .ok (.ifCond .eq 10, 3) := by decide +kernel
theorem dX12_worth_8 : decode cX12_worth 8 = .ok (.iload_n 2, 1) := by decide +kernel
theorem dX12_worth_9 : decode cX12_worth 9 = .ok (.invokestatic 151, 3) := by decide +kernel
theorem dX12_worth_12 : decode cX12_worth 12 = .ok (.ifCond .ne 5, 3) := by decide +kernel
theorem dX12_worth_15 : decode cX12_worth 15 = .ok (.iconst (-1), 1) := by decide +kernel
theorem dX12_worth_16 : decode cX12_worth 16 = .ok (.ireturn, 1) := by decide +kernel
theorem dX12_worth_17 : decode cX12_worth 17 = .ok (.iload_n 3, 1) := by decide +kernel
theorem dX12_worth_18 : decode cX12_worth 18 = .ok (.iconst 0, 1) := by decide +kernel
theorem dX12_worth_19 : decode cX12_worth 19 = .ok (.bipush 60, 2) := by decide +kernel
theorem dX12_worth_21 : decode cX12_worth 21 = .ok (.invokestatic 41, 3) := by decide +kernel
theorem dX12_worth_24 : decode cX12_worth 24 = .ok (.ifCond .eq 20, 3) := by decide +kernel
theorem dX12_worth_27 : decode cX12_worth 27 = .ok (.aload_n 0, 1) := by decide +kernel
theorem dX12_worth_28 : decode cX12_worth 28 = .ok (.iload_n 1, 1) := by decide +kernel
theorem dX12_worth_29 : decode cX12_worth 29 = .ok (.iload_n 2, 1) := by decide +kernel
theorem dX12_worth_30 : decode cX12_worth 30 = .ok (.aload_n 0, 1) := by decide +kernel
theorem dX12_worth_31 : decode cX12_worth 31 = .ok (.getfield 9, 3) := by decide +kernel
theorem dX12_worth_34 : decode cX12_worth 34 = .ok (.iconst 0, 1) := by decide +kernel
theorem dX12_worth_35 : decode cX12_worth 35 = .ok (.iaload, 1) := by decide +kernel
theorem dX12_worth_36 : decode cX12_worth 36 = .ok (.iload_n 3, 1) := by decide +kernel
theorem dX12_worth_37 : decode cX12_worth 37 = .ok (.iadd, 1) := by decide +kernel
theorem dX12_worth_38 : decode cX12_worth 38 = .ok (.invokevirtual 145, 3) := by decide +kernel
theorem dX12_worth_41 : decode cX12_worth 41 = .ok (.goto 5, 3) := by decide +kernel
theorem dX12_worth_44 : decode cX12_worth 44 = .ok (.bipush (-2), 2) := by decide +kernel
theorem dX12_worth_46 : decode cX12_worth 46 = .ok (.ireturn, 1) := by decide +kernel
theorem dX12_row_0 : decode cX12_row 0 = .ok (.aload_n 0, 1) := by decide +kernel
theorem dX12_row_1 : decode cX12_row 1 = .ok (.iload_n 1, 1) := by decide +kernel
theorem dX12_row_2 : decode cX12_row 2 = .ok (.invokevirtual 148, 3) := by decide +kernel
theorem dX12_row_5 : decode cX12_row 5 = .ok (.ifCond .eq 12, 3) := by decide +kernel
theorem dX12_row_8 : decode cX12_row 8 = .ok (.iload_n 2, 1) := by decide +kernel
theorem dX12_row_9 : decode cX12_row 9 = .ok (.iconst 0, 1) := by decide +kernel
theorem dX12_row_10 : decode cX12_row 10 = .ok (.iconst 3, 1) := by decide +kernel
theorem dX12_row_11 : decode cX12_row 11 = .ok (.invokestatic 41, 3) := by decide +kernel
theorem dX12_row_14 : decode cX12_row 14 = .ok (.ifCond .ne 5, 3) := by decide +kernel
theorem dX12_row_17 : decode cX12_row 17 = .ok (.iconst (-1), 1) := by decide +kernel
theorem dX12_row_18 : decode cX12_row 18 = .ok (.ireturn, 1) := by decide +kernel
theorem dX12_row_19 : decode cX12_row 19 = .ok (.iload_n 3, 1) := by decide +kernel
theorem dX12_row_20 : decode cX12_row 20 = .ok (.iconst 0, 1) := by decide +kernel
theorem dX12_row_21 : decode cX12_row 21 = .ok (.bipush 9, 2) := by decide +kernel
theorem dX12_row_23 : decode cX12_row 23 = .ok (.invokestatic 41, 3) := by decide +kernel
theorem dX12_row_26 : decode cX12_row 26 = .ok (.ifCond .ne 6, 3) := by decide +kernel
theorem dX12_row_29 : decode cX12_row 29 = .ok (.bipush (-2), 2) := by decide +kernel
theorem dX12_row_31 : decode cX12_row 31 = .ok (.ireturn, 1) := by decide +kernel
theorem dX12_row_32 : decode cX12_row 32 = .ok (.aload_n 0, 1) := by decide +kernel
theorem dX12_row_33 : decode cX12_row 33 = .ok (.getfield 9, 3) := by decide +kernel
theorem dX12_row_36 : decode cX12_row 36 = .ok (.bipush 16, 2) := by decide +kernel
theorem dX12_row_38 : decode cX12_row 38 = .ok (.iload_n 1, 1) := by decide +kernel
theorem dX12_row_39 : decode cX12_row 39 = .ok (.iadd, 1) := by decide +kernel
theorem dX12_row_40 : decode cX12_row 40 = .ok (.iaload, 1) := by decide +kernel
theorem dX12_row_41 : decode cX12_row 41 = .ok (.bipush 6, 2) := by decide +kernel
theorem dX12_row_43 : decode cX12_row 43 = .ok (.if_icmp .eq 6, 3) := by decide +kernel
theorem dX12_row_46 : decode cX12_row 46 = .ok (.bipush (-3), 2) := by decide +kernel
theorem dX12_row_48 : decode cX12_row 48 = .ok (.ireturn, 1) := by decide +kernel
theorem dX12_row_49 : decode cX12_row 49 = .ok (.aload_n 0, 1) := by decide +kernel
theorem dX12_row_50 : decode cX12_row 50 = .ok (.getfield 9, 3) := by decide +kernel
theorem dX12_row_53 : decode cX12_row 53 = .ok (.bipush 40, 2) := by decide +kernel
theorem dX12_row_55 : decode cX12_row 55 = .ok (.iconst 4, 1) := by decide +kernel
theorem dX12_row_56 : decode cX12_row 56 = .ok (.iload_n 1, 1) := by decide +kernel
theorem dX12_row_57 : decode cX12_row 57 = .ok (.imul, 1) := by decide +kernel
theorem dX12_row_58 : decode cX12_row 58 = .ok (.iadd, 1) := by decide +kernel
theorem dX12_row_59 : decode cX12_row 59 = .ok (.iload_n 2, 1) := by decide +kernel
theorem dX12_row_60 : decode cX12_row 60 = .ok (.iadd, 1) := by decide +kernel
theorem dX12_row_61 : decode cX12_row 61 = .ok (.iaload, 1) := by decide +kernel
theorem dX12_row_62 : decode cX12_row 62 = .ok (.istore 4, 2) := by decide +kernel
theorem dX12_row_64 : decode cX12_row 64 = .ok (.aload_n 0, 1) := by decide +kernel
theorem dX12_row_65 : decode cX12_row 65 = .ok (.getfield 9, 3) := by decide +kernel
theorem dX12_row_68 : decode cX12_row 68 = .ok (.bipush 40, 2) := by decide +kernel
theorem dX12_row_70 : decode cX12_row 70 = .ok (.iconst 4, 1) := by decide +kernel
theorem dX12_row_71 : decode cX12_row 71 = .ok (.iload_n 1, 1) := by decide +kernel
theorem dX12_row_72 : decode cX12_row 72 = .ok (.imul, 1) := by decide +kernel
theorem dX12_row_73 : decode cX12_row 73 = .ok (.iadd, 1) := by decide +kernel
theorem dX12_row_74 : decode cX12_row 74 = .ok (.iload_n 2, 1) := by decide +kernel
theorem dX12_row_75 : decode cX12_row 75 = .ok (.iadd, 1) := by decide +kernel
theorem dX12_row_76 : decode cX12_row 76 = .ok (.iload_n 3, 1) := by decide +kernel
theorem dX12_row_77 : decode cX12_row 77 = .ok (.iastore, 1) := by decide +kernel
theorem dX12_row_78 : decode cX12_row 78 = .ok (.iload 4, 2) := by decide +kernel
theorem dX12_row_80 : decode cX12_row 80 = .ok (.ireturn, 1) := by decide +kernel
theorem dX12_set_0 : decode cX12_set 0 = .ok (.aload_n 0, 1) := by decide +kernel
theorem dX12_set_1 : decode cX12_set 1 = .ok (.iload_n 1, 1) := by decide +kernel
theorem dX12_set_2 : decode cX12_set 2 = .ok (.invokevirtual 148, 3) := by decide +kernel
theorem dX12_set_5 : decode cX12_set 5 = .ok (.ifCond .eq 12, 3) := by decide +kernel
theorem dX12_set_8 : decode cX12_set 8 = .ok (.iload_n 2, 1) := by decide +kernel
theorem dX12_set_9 : decode cX12_set 9 = .ok (.iconst 0, 1) := by decide +kernel
theorem dX12_set_10 : decode cX12_set 10 = .ok (.iconst 1, 1) := by decide +kernel
theorem dX12_set_11 : decode cX12_set 11 = .ok (.invokestatic 41, 3) := by decide +kernel
theorem dX12_set_14 : decode cX12_set 14 = .ok (.ifCond .ne 5, 3) := by decide +kernel
theorem dX12_set_17 : decode cX12_set 17 = .ok (.iconst (-1), 1) := by decide +kernel
theorem dX12_set_18 : decode cX12_set 18 = .ok (.ireturn, 1) := by decide +kernel
theorem dX12_set_19 : decode cX12_set 19 = .ok (.iload_n 2, 1) := by decide +kernel
theorem dX12_set_20 : decode cX12_set 20 = .ok (.ifCond .ne 16, 3) := by decide +kernel
theorem dX12_set_23 : decode cX12_set 23 = .ok (.iload_n 3, 1) := by decide +kernel
theorem dX12_set_24 : decode cX12_set 24 = .ok (.iconst 1, 1) := by decide +kernel
theorem dX12_set_25 : decode cX12_set 25 = .ok (.bipush 30, 2) := by decide +kernel
theorem dX12_set_27 : decode cX12_set 27 = .ok (.invokestatic 41, 3) := by decide +kernel
theorem dX12_set_30 : decode cX12_set 30 = .ok (.ifCond .ne 19, 3) := by decide +kernel
theorem dX12_set_33 : decode cX12_set 33 = .ok (.goto 13, 3) := by decide +kernel
theorem dX12_set_36 : decode cX12_set 36 = .ok (.iload_n 3, 1) := by decide +kernel
theorem dX12_set_37 : decode cX12_set 37 = .ok (.iconst 0, 1) := by decide +kernel
theorem dX12_set_38 : decode cX12_set 38 = .ok (.bipush 29, 2) := by decide +kernel
theorem dX12_set_40 : decode cX12_set 40 = .ok (.invokestatic 41, 3) := by decide +kernel
theorem dX12_set_43 : decode cX12_set 43 = .ok (.ifCond .ne 6, 3) := by decide +kernel
theorem dX12_set_46 : decode cX12_set 46 = .ok (.bipush (-2), 2) := by decide +kernel
theorem dX12_set_48 : decode cX12_set 48 = .ok (.ireturn, 1) := by decide +kernel
theorem dX12_set_49 : decode cX12_set 49 = .ok (.iload_n 2, 1) := by decide +kernel
theorem dX12_set_50 : decode cX12_set 50 = .ok (.ifCond .ne 8, 3) := by decide +kernel
theorem dX12_set_53 : decode cX12_set 53 = .ok (.bipush 28, 2) := by decide +kernel
theorem dX12_set_55 : decode cX12_set 55 = .ok (.goto 5, 3) := by decide +kernel
theorem dX12_set_58 : decode cX12_set 58 = .ok (.bipush 34, 2) := by decide +kernel
theorem dX12_set_60 : decode cX12_set 60 = .ok (.iload_n 1, 1) := by decide +kernel
theorem dX12_set_61 : decode cX12_set 61 = .ok (.iadd, 1) := by decide +kernel
theorem dX12_set_62 : decode cX12_set 62 = .ok (.istore 4, 2) := by decide +kernel
theorem dX12_set_64 : decode cX12_set 64 = .ok (.aload_n 0, 1) := by decide +kernel
theorem dX12_set_65 : decode cX12_set 65 = .ok (.getfield 9, 3) := by decide +kernel
theorem dX12_set_68 : decode cX12_set 68 = .ok (.iload 4, 2) := by decide +kernel
theorem dX12_set_70 : decode cX12_set 70 = .ok (.iaload, 1) := by decide +kernel
theorem dX12_set_71 : decode cX12_set 71 = .ok (.istore 5, 2) := by decide +kernel
theorem dX12_set_73 : decode cX12_set 73 = .ok (.aload_n 0, 1) := by decide +kernel
theorem dX12_set_74 : decode cX12_set 74 = .ok (.getfield 9, 3) := by decide +kernel
theorem dX12_set_77 : decode cX12_set 77 = .ok (.iload 4, 2) := by decide +kernel
theorem dX12_set_79 : decode cX12_set 79 = .ok (.iload_n 3, 1) := by decide +kernel
theorem dX12_set_80 : decode cX12_set 80 = .ok (.iastore, 1) := by decide +kernel
theorem dX12_set_81 : decode cX12_set 81 = .ok (.iload 5, 2) := by decide +kernel
theorem dX12_set_83 : decode cX12_set 83 = .ok (.ireturn, 1) := by decide +kernel
theorem dX12_hide_0 : decode cX12_hide 0 = .ok (.aload_n 0, 1) := by decide +kernel
theorem dX12_hide_1 : decode cX12_hide 1 = .ok (.iload_n 1, 1) := by decide +kernel
theorem dX12_hide_2 : decode cX12_hide 2 = .ok (.invokevirtual 148, 3) := by decide +kernel
theorem dX12_hide_5 : decode cX12_hide 5 = .ok (.ifCond .ne 5, 3) := by decide +kernel
theorem dX12_hide_8 : decode cX12_hide 8 = .ok (.iconst (-1), 1) := by decide +kernel
theorem dX12_hide_9 : decode cX12_hide 9 = .ok (.ireturn, 1) := by decide +kernel
theorem dX12_hide_10 : decode cX12_hide 10 = .ok (.aload_n 0, 1) := by decide +kernel
theorem dX12_hide_11 : decode cX12_hide 11 = .ok (.getfield 9, 3) := by decide +kernel
theorem dX12_hide_14 : decode cX12_hide 14 = .ok (.iconst 3, 1) := by decide +kernel
theorem dX12_hide_15 : decode cX12_hide 15 = .ok (.iload_n 1, 1) := by decide +kernel
theorem dX12_hide_16 : decode cX12_hide 16 = .ok (.iadd, 1) := by decide +kernel
theorem dX12_hide_17 : decode cX12_hide 17 = .ok (.iaload, 1) := by decide +kernel
theorem dX12_hide_18 : decode cX12_hide 18 = .ok (.istore_n 3, 1) := by decide +kernel
theorem dX12_hide_19 : decode cX12_hide 19 = .ok (.aload_n 0, 1) := by decide +kernel
theorem dX12_hide_20 : decode cX12_hide 20 = .ok (.getfield 9, 3) := by decide +kernel
theorem dX12_hide_23 : decode cX12_hide 23 = .ok (.iconst 3, 1) := by decide +kernel
theorem dX12_hide_24 : decode cX12_hide 24 = .ok (.iload_n 1, 1) := by decide +kernel
theorem dX12_hide_25 : decode cX12_hide 25 = .ok (.iadd, 1) := by decide +kernel
theorem dX12_hide_26 : decode cX12_hide 26 = .ok (.iload_n 2, 1) := by decide +kernel
theorem dX12_hide_27 : decode cX12_hide 27 = .ok (.ifCond .eq 7, 3) := by decide +kernel
theorem dX12_hide_30 : decode cX12_hide 30 = .ok (.iconst 1, 1) := by decide +kernel
theorem dX12_hide_31 : decode cX12_hide 31 = .ok (.goto 4, 3) := by decide +kernel
theorem dX12_hide_34 : decode cX12_hide 34 = .ok (.iconst 0, 1) := by decide +kernel
theorem dX12_hide_35 : decode cX12_hide 35 = .ok (.iastore, 1) := by decide +kernel
theorem dX12_hide_36 : decode cX12_hide 36 = .ok (.iload_n 3, 1) := by decide +kernel
theorem dX12_hide_37 : decode cX12_hide 37 = .ok (.ireturn, 1) := by decide +kernel
theorem dX12_told_0 : decode cX12_told 0 = .ok (.aload_n 0, 1) := by decide +kernel
theorem dX12_told_1 : decode cX12_told 1 = .ok (.invokevirtual 155, 3) := by decide +kernel
theorem dX12_told_4 : decode cX12_told 4 = .ok (.iload_n 1, 1) := by decide +kernel
theorem dX12_told_5 : decode cX12_told 5 = .ok (.tableswitch 159 0 9 #[55, 62, 86, 91, 102, 121, 132, 132, 144, 144], 55) := by decide +kernel
theorem dX12_told_60 : decode cX12_told 60 = .ok (.aload_n 0, 1) := by decide +kernel
theorem dX12_told_61 : decode cX12_told 61 = .ok (.getfield 9, 3) := by decide +kernel
theorem dX12_told_64 : decode cX12_told 64 = .ok (.iconst 0, 1) := by decide +kernel
theorem dX12_told_65 : decode cX12_told 65 = .ok (.iaload, 1) := by decide +kernel
theorem dX12_told_66 : decode cX12_told 66 = .ok (.ireturn, 1) := by decide +kernel
theorem dX12_told_67 : decode cX12_told 67 = .ok (.aload_n 0, 1) := by decide +kernel
theorem dX12_told_68 : decode cX12_told 68 = .ok (.sipush 214, 3) := by decide +kernel
theorem dX12_told_71 : decode cX12_told 71 = .ok (.iconst 1, 1) := by decide +kernel
theorem dX12_told_72 : decode cX12_told 72 = .ok (.invokevirtual 45, 3) := by decide +kernel
theorem dX12_told_75 : decode cX12_told 75 = .ok (.ifCond .ne 7, 3) := by decide +kernel
theorem dX12_told_78 : decode cX12_told 78 = .ok (.iconst 1, 1) := by decide +kernel
theorem dX12_told_79 : decode cX12_told 79 = .ok (.goto 11, 3) := by decide +kernel
theorem dX12_told_82 : decode cX12_told 82 = .ok (.aload_n 0, 1) := by decide +kernel
theorem dX12_told_83 : decode cX12_told 83 = .ok (.sipush 214, 3) := by decide +kernel
theorem dX12_told_86 : decode cX12_told 86 = .ok (.iconst 1, 1) := by decide +kernel
theorem dX12_told_87 : decode cX12_told 87 = .ok (.invokevirtual 45, 3) := by decide +kernel
theorem dX12_told_90 : decode cX12_told 90 = .ok (.ireturn, 1) := by decide +kernel
theorem dX12_told_91 : decode cX12_told 91 = .ok (.aload_n 0, 1) := by decide +kernel
theorem dX12_told_92 : decode cX12_told 92 = .ok (.getfield 49, 3) := by decide +kernel
theorem dX12_told_95 : decode cX12_told 95 = .ok (.ireturn, 1) := by decide +kernel
theorem dX12_told_96 : decode cX12_told 96 = .ok (.aload_n 0, 1) := by decide +kernel
theorem dX12_told_97 : decode cX12_told 97 = .ok (.aload_n 0, 1) := by decide +kernel
theorem dX12_told_98 : decode cX12_told 98 = .ok (.getfield 9, 3) := by decide +kernel
theorem dX12_told_101 : decode cX12_told 101 = .ok (.iconst 0, 1) := by decide +kernel
theorem dX12_told_102 : decode cX12_told 102 = .ok (.iaload, 1) := by decide +kernel
theorem dX12_told_103 : decode cX12_told 103 = .ok (.invokevirtual 158, 3) := by decide +kernel
theorem dX12_told_106 : decode cX12_told 106 = .ok (.ireturn, 1) := by decide +kernel
theorem dX12_told_107 : decode cX12_told 107 = .ok (.aload_n 0, 1) := by decide +kernel
theorem dX12_told_108 : decode cX12_told 108 = .ok (.aload_n 0, 1) := by decide +kernel
theorem dX12_told_109 : decode cX12_told 109 = .ok (.getfield 9, 3) := by decide +kernel
theorem dX12_told_112 : decode cX12_told 112 = .ok (.iconst 0, 1) := by decide +kernel
theorem dX12_told_113 : decode cX12_told 113 = .ok (.iaload, 1) := by decide +kernel
theorem dX12_told_114 : decode cX12_told 114 = .ok (.invokevirtual 137, 3) := by decide +kernel
theorem dX12_told_117 : decode cX12_told 117 = .ok (.ifCond .eq 7, 3) := by decide +kernel
theorem dX12_told_120 : decode cX12_told 120 = .ok (.iconst 1, 1) := by decide +kernel
theorem dX12_told_121 : decode cX12_told 121 = .ok (.goto 4, 3) := by decide +kernel
theorem dX12_told_124 : decode cX12_told 124 = .ok (.iconst 0, 1) := by decide +kernel
theorem dX12_told_125 : decode cX12_told 125 = .ok (.ireturn, 1) := by decide +kernel
theorem dX12_told_126 : decode cX12_told 126 = .ok (.aload_n 0, 1) := by decide +kernel
theorem dX12_told_127 : decode cX12_told 127 = .ok (.aload_n 0, 1) := by decide +kernel
theorem dX12_told_128 : decode cX12_told 128 = .ok (.getfield 9, 3) := by decide +kernel
theorem dX12_told_131 : decode cX12_told 131 = .ok (.iconst 0, 1) := by decide +kernel
theorem dX12_told_132 : decode cX12_told 132 = .ok (.iaload, 1) := by decide +kernel
theorem dX12_told_133 : decode cX12_told 133 = .ok (.invokevirtual 162, 3) := by decide +kernel
theorem dX12_told_136 : decode cX12_told 136 = .ok (.ireturn, 1) := by decide +kernel
theorem dX12_told_137 : decode cX12_told 137 = .ok (.aload_n 0, 1) := by decide +kernel
theorem dX12_told_138 : decode cX12_told 138 = .ok (.getfield 9, 3) := by decide +kernel
theorem dX12_told_141 : decode cX12_told 141 = .ok (.iconst 1, 1) := by decide +kernel
theorem dX12_told_142 : decode cX12_told 142 = .ok (.iload_n 1, 1) := by decide +kernel
theorem dX12_told_143 : decode cX12_told 143 = .ok (.iadd, 1) := by decide +kernel
theorem dX12_told_144 : decode cX12_told 144 = .ok (.bipush 6, 2) := by decide +kernel
theorem dX12_told_146 : decode cX12_told 146 = .ok (.isub, 1) := by decide +kernel
theorem dX12_told_147 : decode cX12_told 147 = .ok (.iaload, 1) := by decide +kernel
theorem dX12_told_148 : decode cX12_told 148 = .ok (.ireturn, 1) := by decide +kernel
theorem dX12_told_149 : decode cX12_told 149 = .ok (.aload_n 0, 1) := by decide +kernel
theorem dX12_told_150 : decode cX12_told 150 = .ok (.aload_n 0, 1) := by decide +kernel
theorem dX12_told_151 : decode cX12_told 151 = .ok (.getfield 9, 3) := by decide +kernel
theorem dX12_told_154 : decode cX12_told 154 = .ok (.iconst 0, 1) := by decide +kernel
theorem dX12_told_155 : decode cX12_told 155 = .ok (.iaload, 1) := by decide +kernel
theorem dX12_told_156 : decode cX12_told 156 = .ok (.iload_n 1, 1) := by decide +kernel
theorem dX12_told_157 : decode cX12_told 157 = .ok (.bipush 8, 2) := by decide +kernel
theorem dX12_told_159 : decode cX12_told 159 = .ok (.isub, 1) := by decide +kernel
theorem dX12_told_160 : decode cX12_told 160 = .ok (.invokevirtual 165, 3) := by decide +kernel
theorem dX12_told_163 : decode cX12_told 163 = .ok (.ireturn, 1) := by decide +kernel
theorem dX12_told_164 : decode cX12_told 164 = .ok (.iconst (-1), 1) := by decide +kernel
theorem dX12_told_165 : decode cX12_told 165 = .ok (.ireturn, 1) := by decide +kernel
theorem dX12_goes_0 : decode cX12_goes 0 = .ok (.aload_n 0, 1) := by decide +kernel
theorem dX12_goes_1 : decode cX12_goes 1 = .ok (.aload_n 0, 1) := by decide +kernel
theorem dX12_goes_2 : decode cX12_goes 2 = .ok (.getfield 9, 3) := by decide +kernel
theorem dX12_goes_5 : decode cX12_goes 5 = .ok (.iconst 0, 1) := by decide +kernel
theorem dX12_goes_6 : decode cX12_goes 6 = .ok (.iaload, 1) := by decide +kernel
theorem dX12_goes_7 : decode cX12_goes 7 = .ok (.invokevirtual 158, 3) := by decide +kernel
theorem dX12_goes_10 : decode cX12_goes 10 = .ok (.istore_n 1, 1) := by decide +kernel
theorem dX12_goes_11 : decode cX12_goes 11 = .ok (.aload_n 0, 1) := by decide +kernel
theorem dX12_goes_12 : decode cX12_goes 12 = .ok (.getfield 9, 3) := by decide +kernel
theorem dX12_goes_15 : decode cX12_goes 15 = .ok (.iconst 1, 1) := by decide +kernel
theorem dX12_goes_16 : decode cX12_goes 16 = .ok (.iload_n 1, 1) := by decide +kernel
theorem dX12_goes_17 : decode cX12_goes 17 = .ok (.iadd, 1) := by decide +kernel
theorem dX12_goes_18 : decode cX12_goes 18 = .ok (.dup2, 1) := by decide +kernel
theorem dX12_goes_19 : decode cX12_goes 19 = .ok (.iaload, 1) := by decide +kernel
theorem dX12_goes_20 : decode cX12_goes 20 = .ok (.aload_n 0, 1) := by decide +kernel
theorem dX12_goes_21 : decode cX12_goes 21 = .ok (.aload_n 0, 1) := by decide +kernel
theorem dX12_goes_22 : decode cX12_goes 22 = .ok (.getfield 9, 3) := by decide +kernel
theorem dX12_goes_25 : decode cX12_goes 25 = .ok (.iconst 0, 1) := by decide +kernel
theorem dX12_goes_26 : decode cX12_goes 26 = .ok (.iaload, 1) := by decide +kernel
theorem dX12_goes_27 : decode cX12_goes 27 = .ok (.iload_n 1, 1) := by decide +kernel
theorem dX12_goes_28 : decode cX12_goes 28 = .ok (.invokevirtual 165, 3) := by decide +kernel
theorem dX12_goes_31 : decode cX12_goes 31 = .ok (.iadd, 1) := by decide +kernel
theorem dX12_goes_32 : decode cX12_goes 32 = .ok (.iastore, 1) := by decide +kernel
theorem dX12_goes_33 : decode cX12_goes 33 = .ok (.aload_n 0, 1) := by decide +kernel
theorem dX12_goes_34 : decode cX12_goes 34 = .ok (.getfield 9, 3) := by decide +kernel
theorem dX12_goes_37 : decode cX12_goes 37 = .ok (.iconst 0, 1) := by decide +kernel
theorem dX12_goes_38 : decode cX12_goes 38 = .ok (.dup2, 1) := by decide +kernel
theorem dX12_goes_39 : decode cX12_goes 39 = .ok (.iaload, 1) := by decide +kernel
theorem dX12_goes_40 : decode cX12_goes 40 = .ok (.iconst 1, 1) := by decide +kernel
theorem dX12_goes_41 : decode cX12_goes 41 = .ok (.iadd, 1) := by decide +kernel
theorem dX12_goes_42 : decode cX12_goes 42 = .ok (.iastore, 1) := by decide +kernel
theorem dX12_goes_43 : decode cX12_goes 43 = .ok (.return_, 1) := by decide +kernel
theorem dX12_goesOn_0 : decode cX12_goesOn 0 = .ok (.iconst 0, 1) := by decide +kernel
theorem dX12_goesOn_1 : decode cX12_goesOn 1 = .ok (.istore_n 2, 1) := by decide +kernel
theorem dX12_goesOn_2 : decode cX12_goesOn 2 = .ok (.iload_n 2, 1) := by decide +kernel
theorem dX12_goesOn_3 : decode cX12_goesOn 3 = .ok (.iload_n 1, 1) := by decide +kernel
theorem dX12_goesOn_4 : decode cX12_goesOn 4 = .ok (.if_icmp .ge 13, 3) := by decide +kernel
theorem dX12_goesOn_7 : decode cX12_goesOn 7 = .ok (.aload_n 0, 1) := by decide +kernel
theorem dX12_goesOn_8 : decode cX12_goesOn 8 = .ok (.invokevirtual 168, 3) := by decide +kernel
theorem dX12_goesOn_11 : decode cX12_goesOn 11 = .ok (.iinc 2 1, 3) := by decide +kernel
theorem dX12_goesOn_14 : decode cX12_goesOn 14 = .ok (.goto (-12), 3) := by decide +kernel
theorem dX12_goesOn_17 : decode cX12_goesOn 17 = .ok (.return_, 1) := by decide +kernel
theorem dX12_pass_0 : decode cX12_pass 0 = .ok (.iload_n 1, 1) := by decide +kernel
theorem dX12_pass_1 : decode cX12_pass 1 = .ok (.iconst 0, 1) := by decide +kernel
theorem dX12_pass_2 : decode cX12_pass 2 = .ok (.bipush 60, 2) := by decide +kernel
theorem dX12_pass_4 : decode cX12_pass 4 = .ok (.invokestatic 41, 3) := by decide +kernel
theorem dX12_pass_7 : decode cX12_pass 7 = .ok (.ifCond .ne 6, 3) := by decide +kernel
theorem dX12_pass_10 : decode cX12_pass 10 = .ok (.bipush (-2), 2) := by decide +kernel
theorem dX12_pass_12 : decode cX12_pass 12 = .ok (.ireturn, 1) := by decide +kernel
theorem dX12_pass_13 : decode cX12_pass 13 = .ok (.aload_n 0, 1) := by decide +kernel
theorem dX12_pass_14 : decode cX12_pass 14 = .ok (.getfield 9, 3) := by decide +kernel
theorem dX12_pass_17 : decode cX12_pass 17 = .ok (.iconst 0, 1) := by decide +kernel
theorem dX12_pass_18 : decode cX12_pass 18 = .ok (.iaload, 1) := by decide +kernel
theorem dX12_pass_19 : decode cX12_pass 19 = .ok (.iload_n 1, 1) := by decide +kernel
theorem dX12_pass_20 : decode cX12_pass 20 = .ok (.iadd, 1) := by decide +kernel
theorem dX12_pass_21 : decode cX12_pass 21 = .ok (.sipush 9999, 3) := by decide +kernel
theorem dX12_pass_24 : decode cX12_pass 24 = .ok (.if_icmp .le 6, 3) := by decide +kernel
theorem dX12_pass_27 : decode cX12_pass 27 = .ok (.bipush (-3), 2) := by decide +kernel
theorem dX12_pass_29 : decode cX12_pass 29 = .ok (.ireturn, 1) := by decide +kernel
theorem dX12_pass_30 : decode cX12_pass 30 = .ok (.aload_n 0, 1) := by decide +kernel
theorem dX12_pass_31 : decode cX12_pass 31 = .ok (.invokevirtual 155, 3) := by decide +kernel
theorem dX12_pass_34 : decode cX12_pass 34 = .ok (.iconst 0, 1) := by decide +kernel
theorem dX12_pass_35 : decode cX12_pass 35 = .ok (.istore_n 2, 1) := by decide +kernel
theorem dX12_pass_36 : decode cX12_pass 36 = .ok (.iload_n 2, 1) := by decide +kernel
theorem dX12_pass_37 : decode cX12_pass 37 = .ok (.iload_n 1, 1) := by decide +kernel
theorem dX12_pass_38 : decode cX12_pass 38 = .ok (.if_icmp .ge 49, 3) := by decide +kernel
theorem dX12_pass_41 : decode cX12_pass 41 = .ok (.aload_n 0, 1) := by decide +kernel
theorem dX12_pass_42 : decode cX12_pass 42 = .ok (.invokevirtual 168, 3) := by decide +kernel
theorem dX12_pass_45 : decode cX12_pass 45 = .ok (.aload_n 0, 1) := by decide +kernel
theorem dX12_pass_46 : decode cX12_pass 46 = .ok (.getfield 9, 3) := by decide +kernel
theorem dX12_pass_49 : decode cX12_pass 49 = .ok (.iconst 1, 1) := by decide +kernel
theorem dX12_pass_50 : decode cX12_pass 50 = .ok (.aload_n 0, 1) := by decide +kernel
theorem dX12_pass_51 : decode cX12_pass 51 = .ok (.getfield 9, 3) := by decide +kernel
theorem dX12_pass_54 : decode cX12_pass 54 = .ok (.iconst 1, 1) := by decide +kernel
theorem dX12_pass_55 : decode cX12_pass 55 = .ok (.iaload, 1) := by decide +kernel
theorem dX12_pass_56 : decode cX12_pass 56 = .ok (.iconst 0, 1) := by decide +kernel
theorem dX12_pass_57 : decode cX12_pass 57 = .ok (.ldc 171, 2) := by decide +kernel
theorem dX12_pass_59 : decode cX12_pass 59 = .ok (.invokestatic 172, 3) := by decide +kernel
theorem dX12_pass_62 : decode cX12_pass 62 = .ok (.iastore, 1) := by decide +kernel
theorem dX12_pass_63 : decode cX12_pass 63 = .ok (.aload_n 0, 1) := by decide +kernel
theorem dX12_pass_64 : decode cX12_pass 64 = .ok (.getfield 9, 3) := by decide +kernel
theorem dX12_pass_67 : decode cX12_pass 67 = .ok (.iconst 2, 1) := by decide +kernel
theorem dX12_pass_68 : decode cX12_pass 68 = .ok (.aload_n 0, 1) := by decide +kernel
theorem dX12_pass_69 : decode cX12_pass 69 = .ok (.getfield 9, 3) := by decide +kernel
theorem dX12_pass_72 : decode cX12_pass 72 = .ok (.iconst 2, 1) := by decide +kernel
theorem dX12_pass_73 : decode cX12_pass 73 = .ok (.iaload, 1) := by decide +kernel
theorem dX12_pass_74 : decode cX12_pass 74 = .ok (.iconst 0, 1) := by decide +kernel
theorem dX12_pass_75 : decode cX12_pass 75 = .ok (.ldc 171, 2) := by decide +kernel
theorem dX12_pass_77 : decode cX12_pass 77 = .ok (.invokestatic 172, 3) := by decide +kernel
theorem dX12_pass_80 : decode cX12_pass 80 = .ok (.iastore, 1) := by decide +kernel
theorem dX12_pass_81 : decode cX12_pass 81 = .ok (.iinc 2 1, 3) := by decide +kernel
theorem dX12_pass_84 : decode cX12_pass 84 = .ok (.goto (-48), 3) := by decide +kernel
theorem dX12_pass_87 : decode cX12_pass 87 = .ok (.aload_n 0, 1) := by decide +kernel
theorem dX12_pass_88 : decode cX12_pass 88 = .ok (.getfield 9, 3) := by decide +kernel
theorem dX12_pass_91 : decode cX12_pass 91 = .ok (.iconst 0, 1) := by decide +kernel
theorem dX12_pass_92 : decode cX12_pass 92 = .ok (.iaload, 1) := by decide +kernel
theorem dX12_pass_93 : decode cX12_pass 93 = .ok (.ireturn, 1) := by decide +kernel
theorem dX12_countOf_0 : decode cX12_countOf 0 = .ok (.iconst 0, 1) := by decide +kernel
theorem dX12_countOf_1 : decode cX12_countOf 1 = .ok (.istore_n 1, 1) := by decide +kernel
theorem dX12_countOf_2 : decode cX12_countOf 2 = .ok (.iconst 0, 1) := by decide +kernel
theorem dX12_countOf_3 : decode cX12_countOf 3 = .ok (.istore_n 2, 1) := by decide +kernel
theorem dX12_countOf_4 : decode cX12_countOf 4 = .ok (.iload_n 2, 1) := by decide +kernel
theorem dX12_countOf_5 : decode cX12_countOf 5 = .ok (.bipush 9, 2) := by decide +kernel
theorem dX12_countOf_7 : decode cX12_countOf 7 = .ok (.if_icmp .ge 17, 3) := by decide +kernel
theorem dX12_countOf_10 : decode cX12_countOf 10 = .ok (.iload_n 1, 1) := by decide +kernel
theorem dX12_countOf_11 : decode cX12_countOf 11 = .ok (.iload_n 0, 1) := by decide +kernel
theorem dX12_countOf_12 : decode cX12_countOf 12 = .ok (.iload_n 2, 1) := by decide +kernel
theorem dX12_countOf_13 : decode cX12_countOf 13 = .ok (.ishr, 1) := by decide +kernel
theorem dX12_countOf_14 : decode cX12_countOf 14 = .ok (.iconst 1, 1) := by decide +kernel
theorem dX12_countOf_15 : decode cX12_countOf 15 = .ok (.iand, 1) := by decide +kernel
theorem dX12_countOf_16 : decode cX12_countOf 16 = .ok (.iadd, 1) := by decide +kernel
theorem dX12_countOf_17 : decode cX12_countOf 17 = .ok (.istore_n 1, 1) := by decide +kernel
theorem dX12_countOf_18 : decode cX12_countOf 18 = .ok (.iinc 2 1, 3) := by decide +kernel
theorem dX12_countOf_21 : decode cX12_countOf 21 = .ok (.goto (-17), 3) := by decide +kernel
theorem dX12_countOf_24 : decode cX12_countOf 24 = .ok (.iload_n 1, 1) := by decide +kernel
theorem dX12_countOf_25 : decode cX12_countOf 25 = .ok (.ireturn, 1) := by decide +kernel
theorem dX12_on_0 : decode cX12_on 0 = .ok (.iload_n 2, 1) := by decide +kernel
theorem dX12_on_1 : decode cX12_on 1 = .ok (.iconst 0, 1) := by decide +kernel
theorem dX12_on_2 : decode cX12_on 2 = .ok (.iconst 2, 1) := by decide +kernel
theorem dX12_on_3 : decode cX12_on 3 = .ok (.invokestatic 41, 3) := by decide +kernel
theorem dX12_on_6 : decode cX12_on 6 = .ok (.ifCond .ne 5, 3) := by decide +kernel
theorem dX12_on_9 : decode cX12_on 9 = .ok (.iconst (-1), 1) := by decide +kernel
theorem dX12_on_10 : decode cX12_on 10 = .ok (.ireturn, 1) := by decide +kernel
theorem dX12_on_11 : decode cX12_on 11 = .ok (.iload_n 1, 1) := by decide +kernel
theorem dX12_on_12 : decode cX12_on 12 = .ok (.iconst 0, 1) := by decide +kernel
theorem dX12_on_13 : decode cX12_on 13 = .ok (.bipush 60, 2) := by decide +kernel
theorem dX12_on_15 : decode cX12_on 15 = .ok (.invokestatic 41, 3) := by decide +kernel
theorem dX12_on_18 : decode cX12_on 18 = .ok (.ifCond .ne 6, 3) := by decide +kernel
theorem dX12_on_21 : decode cX12_on 21 = .ok (.bipush (-2), 2) := by decide +kernel
theorem dX12_on_23 : decode cX12_on 23 = .ok (.ireturn, 1) := by decide +kernel
theorem dX12_on_24 : decode cX12_on 24 = .ok (.aload_n 0, 1) := by decide +kernel
theorem dX12_on_25 : decode cX12_on 25 = .ok (.invokevirtual 155, 3) := by decide +kernel
theorem dX12_on_28 : decode cX12_on 28 = .ok (.aload_n 0, 1) := by decide +kernel
theorem dX12_on_29 : decode cX12_on 29 = .ok (.invokevirtual 175, 3) := by decide +kernel
theorem dX12_on_32 : decode cX12_on 32 = .ok (.aload_n 0, 1) := by decide +kernel
theorem dX12_on_33 : decode cX12_on 33 = .ok (.iload_n 1, 1) := by decide +kernel
theorem dX12_on_34 : decode cX12_on 34 = .ok (.invokevirtual 178, 3) := by decide +kernel
theorem dX12_on_37 : decode cX12_on 37 = .ok (.iload_n 2, 1) := by decide +kernel
theorem dX12_on_38 : decode cX12_on 38 = .ok (.iconst 2, 1) := by decide +kernel
theorem dX12_on_39 : decode cX12_on 39 = .ok (.if_icmp .ne 19, 3) := by decide +kernel
theorem dX12_on_42 : decode cX12_on 42 = .ok (.aload_n 0, 1) := by decide +kernel
theorem dX12_on_43 : decode cX12_on 43 = .ok (.aload_n 0, 1) := by decide +kernel
theorem dX12_on_44 : decode cX12_on 44 = .ok (.getfield 9, 3) := by decide +kernel
theorem dX12_on_47 : decode cX12_on 47 = .ok (.iconst 0, 1) := by decide +kernel
theorem dX12_on_48 : decode cX12_on 48 = .ok (.iaload, 1) := by decide +kernel
theorem dX12_on_49 : decode cX12_on 49 = .ok (.invokevirtual 162, 3) := by decide +kernel
theorem dX12_on_52 : decode cX12_on 52 = .ok (.invokestatic 181, 3) := by decide +kernel
theorem dX12_on_55 : decode cX12_on 55 = .ok (.goto 11, 3) := by decide +kernel
theorem dX12_on_58 : decode cX12_on 58 = .ok (.aload_n 0, 1) := by decide +kernel
theorem dX12_on_59 : decode cX12_on 59 = .ok (.getfield 9, 3) := by decide +kernel
theorem dX12_on_62 : decode cX12_on 62 = .ok (.iconst 1, 1) := by decide +kernel
theorem dX12_on_63 : decode cX12_on 63 = .ok (.iload_n 2, 1) := by decide +kernel
theorem dX12_on_64 : decode cX12_on 64 = .ok (.iadd, 1) := by decide +kernel
theorem dX12_on_65 : decode cX12_on 65 = .ok (.iaload, 1) := by decide +kernel
theorem dX12_on_66 : decode cX12_on 66 = .ok (.istore_n 3, 1) := by decide +kernel
theorem dX12_on_67 : decode cX12_on 67 = .ok (.aload_n 0, 1) := by decide +kernel
theorem dX12_on_68 : decode cX12_on 68 = .ok (.invokevirtual 184, 3) := by decide +kernel
theorem dX12_on_71 : decode cX12_on 71 = .ok (.iload_n 3, 1) := by decide +kernel
theorem dX12_on_72 : decode cX12_on 72 = .ok (.ireturn, 1) := by decide +kernel
theorem dX12_when_0 : decode cX12_when 0 = .ok (.aload_n 0, 1) := by decide +kernel
theorem dX12_when_1 : decode cX12_when 1 = .ok (.iload_n 1, 1) := by decide +kernel
theorem dX12_when_2 : decode cX12_when 2 = .ok (.invokevirtual 148, 3) := by decide +kernel
theorem dX12_when_5 : decode cX12_when 5 = .ok (.ifCond .ne 5, 3) := by decide +kernel
theorem dX12_when_8 : decode cX12_when 8 = .ok (.iconst (-1), 1) := by decide +kernel
theorem dX12_when_9 : decode cX12_when 9 = .ok (.ireturn, 1) := by decide +kernel
theorem dX12_when_10 : decode cX12_when 10 = .ok (.iconst 0, 1) := by decide +kernel
theorem dX12_when_11 : decode cX12_when 11 = .ok (.istore_n 2, 1) := by decide +kernel
theorem dX12_when_12 : decode cX12_when 12 = .ok (.iload_n 2, 1) := by decide +kernel
theorem dX12_when_13 : decode cX12_when 13 = .ok (.sipush 900, 3) := by decide +kernel
theorem dX12_when_16 : decode cX12_when 16 = .ok (.if_icmp .gt 27, 3) := by decide +kernel
theorem dX12_when_19 : decode cX12_when 19 = .ok (.aload_n 0, 1) := by decide +kernel
theorem dX12_when_20 : decode cX12_when 20 = .ok (.iload_n 1, 1) := by decide +kernel
theorem dX12_when_21 : decode cX12_when 21 = .ok (.aload_n 0, 1) := by decide +kernel
theorem dX12_when_22 : decode cX12_when 22 = .ok (.getfield 9, 3) := by decide +kernel
theorem dX12_when_25 : decode cX12_when 25 = .ok (.iconst 0, 1) := by decide +kernel
theorem dX12_when_26 : decode cX12_when 26 = .ok (.iaload, 1) := by decide +kernel
theorem dX12_when_27 : decode cX12_when 27 = .ok (.iload_n 2, 1) := by decide +kernel
theorem dX12_when_28 : decode cX12_when 28 = .ok (.iadd, 1) := by decide +kernel
theorem dX12_when_29 : decode cX12_when 29 = .ok (.invokevirtual 141, 3) := by decide +kernel
theorem dX12_when_32 : decode cX12_when 32 = .ok (.ifCond .eq 5, 3) := by decide +kernel
theorem dX12_when_35 : decode cX12_when 35 = .ok (.iload_n 2, 1) := by decide +kernel
theorem dX12_when_36 : decode cX12_when 36 = .ok (.ireturn, 1) := by decide +kernel
theorem dX12_when_37 : decode cX12_when 37 = .ok (.iinc 2 1, 3) := by decide +kernel
theorem dX12_when_40 : decode cX12_when 40 = .ok (.goto (-28), 3) := by decide +kernel
theorem dX12_when_43 : decode cX12_when 43 = .ok (.bipush (-5), 2) := by decide +kernel
theorem dX12_when_45 : decode cX12_when 45 = .ok (.ireturn, 1) := by decide +kernel
theorem dX12_meet_0 : decode cX12_meet 0 = .ok (.aload_n 0, 1) := by decide +kernel
theorem dX12_meet_1 : decode cX12_meet 1 = .ok (.iload_n 1, 1) := by decide +kernel
theorem dX12_meet_2 : decode cX12_meet 2 = .ok (.invokevirtual 148, 3) := by decide +kernel
theorem dX12_meet_5 : decode cX12_meet 5 = .ok (.ifCond .eq 11, 3) := by decide +kernel
theorem dX12_meet_8 : decode cX12_meet 8 = .ok (.aload_n 0, 1) := by decide +kernel
theorem dX12_meet_9 : decode cX12_meet 9 = .ok (.iload_n 2, 1) := by decide +kernel
theorem dX12_meet_10 : decode cX12_meet 10 = .ok (.invokevirtual 148, 3) := by decide +kernel
theorem dX12_meet_13 : decode cX12_meet 13 = .ok (.ifCond .ne 5, 3) := by decide +kernel
theorem dX12_meet_16 : decode cX12_meet 16 = .ok (.iconst (-1), 1) := by decide +kernel
theorem dX12_meet_17 : decode cX12_meet 17 = .ok (.ireturn, 1) := by decide +kernel
theorem dX12_meet_18 : decode cX12_meet 18 = .ok (.iload_n 1, 1) := by decide +kernel
theorem dX12_meet_19 : decode cX12_meet 19 = .ok (.iload_n 2, 1) := by decide +kernel
theorem dX12_meet_20 : decode cX12_meet 20 = .ok (.if_icmp .ne 6, 3) := by decide +kernel
theorem dX12_meet_23 : decode cX12_meet 23 = .ok (.bipush (-2), 2) := by decide +kernel
theorem dX12_meet_25 : decode cX12_meet 25 = .ok (.ireturn, 1) := by decide +kernel
theorem dX12_meet_26 : decode cX12_meet 26 = .ok (.iconst 0, 1) := by decide +kernel
theorem dX12_meet_27 : decode cX12_meet 27 = .ok (.istore_n 3, 1) := by decide +kernel
theorem dX12_meet_28 : decode cX12_meet 28 = .ok (.iload_n 3, 1) := by decide +kernel
theorem dX12_meet_29 : decode cX12_meet 29 = .ok (.sipush 900, 3) := by decide +kernel
theorem dX12_meet_32 : decode cX12_meet 32 = .ok (.if_icmp .gt 43, 3) := by decide +kernel
theorem dX12_meet_35 : decode cX12_meet 35 = .ok (.aload_n 0, 1) := by decide +kernel
theorem dX12_meet_36 : decode cX12_meet 36 = .ok (.iload_n 1, 1) := by decide +kernel
theorem dX12_meet_37 : decode cX12_meet 37 = .ok (.aload_n 0, 1) := by decide +kernel
theorem dX12_meet_38 : decode cX12_meet 38 = .ok (.getfield 9, 3) := by decide +kernel
theorem dX12_meet_41 : decode cX12_meet 41 = .ok (.iconst 0, 1) := by decide +kernel
theorem dX12_meet_42 : decode cX12_meet 42 = .ok (.iaload, 1) := by decide +kernel
theorem dX12_meet_43 : decode cX12_meet 43 = .ok (.iload_n 3, 1) := by decide +kernel
theorem dX12_meet_44 : decode cX12_meet 44 = .ok (.iadd, 1) := by decide +kernel
theorem dX12_meet_45 : decode cX12_meet 45 = .ok (.invokevirtual 141, 3) := by decide +kernel
theorem dX12_meet_48 : decode cX12_meet 48 = .ok (.ifCond .eq 21, 3) := by decide +kernel
theorem dX12_meet_51 : decode cX12_meet 51 = .ok (.aload_n 0, 1) := by decide +kernel
theorem dX12_meet_52 : decode cX12_meet 52 = .ok (.iload_n 2, 1) := by decide +kernel
theorem dX12_meet_53 : decode cX12_meet 53 = .ok (.aload_n 0, 1) := by decide +kernel
theorem dX12_meet_54 : decode cX12_meet 54 = .ok (.getfield 9, 3) := by decide +kernel
theorem dX12_meet_57 : decode cX12_meet 57 = .ok (.iconst 0, 1) := by decide +kernel
theorem dX12_meet_58 : decode cX12_meet 58 = .ok (.iaload, 1) := by decide +kernel
theorem dX12_meet_59 : decode cX12_meet 59 = .ok (.iload_n 3, 1) := by decide +kernel
theorem dX12_meet_60 : decode cX12_meet 60 = .ok (.iadd, 1) := by decide +kernel
theorem dX12_meet_61 : decode cX12_meet 61 = .ok (.invokevirtual 141, 3) := by decide +kernel
theorem dX12_meet_64 : decode cX12_meet 64 = .ok (.ifCond .eq 5, 3) := by decide +kernel
theorem dX12_meet_67 : decode cX12_meet 67 = .ok (.iload_n 3, 1) := by decide +kernel
theorem dX12_meet_68 : decode cX12_meet 68 = .ok (.ireturn, 1) := by decide +kernel
theorem dX12_meet_69 : decode cX12_meet 69 = .ok (.iinc 3 1, 3) := by decide +kernel
theorem dX12_meet_72 : decode cX12_meet 72 = .ok (.goto (-44), 3) := by decide +kernel
theorem dX12_meet_75 : decode cX12_meet 75 = .ok (.bipush (-5), 2) := by decide +kernel
theorem dX12_meet_77 : decode cX12_meet 77 = .ok (.ireturn, 1) := by decide +kernel
theorem dX12_dealt_0 : decode cX12_dealt 0 = .ok (.iconst 0, 1) := by decide +kernel
theorem dX12_dealt_1 : decode cX12_dealt 1 = .ok (.istore 4, 2) := by decide +kernel
theorem dX12_dealt_3 : decode cX12_dealt 3 = .ok (.iconst 0, 1) := by decide +kernel
theorem dX12_dealt_4 : decode cX12_dealt 4 = .ok (.istore 5, 2) := by decide +kernel
theorem dX12_dealt_6 : decode cX12_dealt 6 = .ok (.iload 5, 2) := by decide +kernel
theorem dX12_dealt_8 : decode cX12_dealt 8 = .ok (.iload_n 2, 1) := by decide +kernel
theorem dX12_dealt_9 : decode cX12_dealt 9 = .ok (.if_icmp .ge 39, 3) := by decide +kernel
theorem dX12_dealt_12 : decode cX12_dealt 12 = .ok (.iload 4, 2) := by decide +kernel
theorem dX12_dealt_14 : decode cX12_dealt 14 = .ok (.iload_n 1, 1) := by decide +kernel
theorem dX12_dealt_15 : decode cX12_dealt 15 = .ok (.iload 5, 2) := by decide +kernel
theorem dX12_dealt_17 : decode cX12_dealt 17 = .ok (.ishr, 1) := by decide +kernel
theorem dX12_dealt_18 : decode cX12_dealt 18 = .ok (.iconst 1, 1) := by decide +kernel
theorem dX12_dealt_19 : decode cX12_dealt 19 = .ok (.iand, 1) := by decide +kernel
theorem dX12_dealt_20 : decode cX12_dealt 20 = .ok (.iload_n 3, 1) := by decide +kernel
theorem dX12_dealt_21 : decode cX12_dealt 21 = .ok (.if_icmp .ne 17, 3) := by decide +kernel
theorem dX12_dealt_24 : decode cX12_dealt 24 = .ok (.aload_n 0, 1) := by decide +kernel
theorem dX12_dealt_25 : decode cX12_dealt 25 = .ok (.getfield 28, 3) := by decide +kernel
theorem dX12_dealt_28 : decode cX12_dealt 28 = .ok (.iconst 2, 1) := by decide +kernel
theorem dX12_dealt_29 : decode cX12_dealt 29 = .ok (.iload 5, 2) := by decide +kernel
theorem dX12_dealt_31 : decode cX12_dealt 31 = .ok (.imul, 1) := by decide +kernel
theorem dX12_dealt_32 : decode cX12_dealt 32 = .ok (.iload_n 3, 1) := by decide +kernel
theorem dX12_dealt_33 : decode cX12_dealt 33 = .ok (.iadd, 1) := by decide +kernel
theorem dX12_dealt_34 : decode cX12_dealt 34 = .ok (.iaload, 1) := by decide +kernel
theorem dX12_dealt_35 : decode cX12_dealt 35 = .ok (.goto 4, 3) := by decide +kernel
theorem dX12_dealt_38 : decode cX12_dealt 38 = .ok (.iconst 0, 1) := by decide +kernel
theorem dX12_dealt_39 : decode cX12_dealt 39 = .ok (.iadd, 1) := by decide +kernel
theorem dX12_dealt_40 : decode cX12_dealt 40 = .ok (.istore 4, 2) := by decide +kernel
theorem dX12_dealt_42 : decode cX12_dealt 42 = .ok (.iinc 5 1, 3) := by decide +kernel
theorem dX12_dealt_45 : decode cX12_dealt 45 = .ok (.goto (-39), 3) := by decide +kernel
theorem dX12_dealt_48 : decode cX12_dealt 48 = .ok (.iload 4, 2) := by decide +kernel
theorem dX12_dealt_50 : decode cX12_dealt 50 = .ok (.ireturn, 1) := by decide +kernel
theorem dX12_deal_0 : decode cX12_deal 0 = .ok (.iload_n 2, 1) := by decide +kernel
theorem dX12_deal_1 : decode cX12_deal 1 = .ok (.iconst 0, 1) := by decide +kernel
theorem dX12_deal_2 : decode cX12_deal 2 = .ok (.iconst 1, 1) := by decide +kernel
theorem dX12_deal_3 : decode cX12_deal 3 = .ok (.invokestatic 41, 3) := by decide +kernel
theorem dX12_deal_6 : decode cX12_deal 6 = .ok (.ifCond .eq 12, 3) := by decide +kernel
theorem dX12_deal_9 : decode cX12_deal 9 = .ok (.iload_n 3, 1) := by decide +kernel
theorem dX12_deal_10 : decode cX12_deal 10 = .ok (.iconst 0, 1) := by decide +kernel
theorem dX12_deal_11 : decode cX12_deal 11 = .ok (.iconst 2, 1) := by decide +kernel
theorem dX12_deal_12 : decode cX12_deal 12 = .ok (.invokestatic 41, 3) := by decide +kernel
theorem dX12_deal_15 : decode cX12_deal 15 = .ok (.ifCond .ne 5, 3) := by decide +kernel
theorem dX12_deal_18 : decode cX12_deal 18 = .ok (.iconst (-1), 1) := by decide +kernel
theorem dX12_deal_19 : decode cX12_deal 19 = .ok (.ireturn, 1) := by decide +kernel
theorem dX12_deal_20 : decode cX12_deal 20 = .ok (.iload_n 1, 1) := by decide +kernel
theorem dX12_deal_21 : decode cX12_deal 21 = .ok (.iconst 1, 1) := by decide +kernel
theorem dX12_deal_22 : decode cX12_deal 22 = .ok (.bipush 9, 2) := by decide +kernel
theorem dX12_deal_24 : decode cX12_deal 24 = .ok (.invokestatic 41, 3) := by decide +kernel
theorem dX12_deal_27 : decode cX12_deal 27 = .ok (.ifCond .ne 6, 3) := by decide +kernel
theorem dX12_deal_30 : decode cX12_deal 30 = .ok (.bipush (-2), 2) := by decide +kernel
theorem dX12_deal_32 : decode cX12_deal 32 = .ok (.ireturn, 1) := by decide +kernel
theorem dX12_deal_33 : decode cX12_deal 33 = .ok (.aload_n 0, 1) := by decide +kernel
theorem dX12_deal_34 : decode cX12_deal 34 = .ok (.invokevirtual 155, 3) := by decide +kernel
theorem dX12_deal_37 : decode cX12_deal 37 = .ok (.iconst 0, 1) := by decide +kernel
theorem dX12_deal_38 : decode cX12_deal 38 = .ok (.istore 4, 2) := by decide +kernel
theorem dX12_deal_40 : decode cX12_deal 40 = .ok (.iload 4, 2) := by decide +kernel
theorem dX12_deal_42 : decode cX12_deal 42 = .ok (.iconst 2, 1) := by decide +kernel
theorem dX12_deal_43 : decode cX12_deal 43 = .ok (.iload_n 1, 1) := by decide +kernel
theorem dX12_deal_44 : decode cX12_deal 44 = .ok (.imul, 1) := by decide +kernel
theorem dX12_deal_45 : decode cX12_deal 45 = .ok (.if_icmp .ge 35, 3) := by decide +kernel
theorem dX12_deal_48 : decode cX12_deal 48 = .ok (.aload_n 0, 1) := by decide +kernel
theorem dX12_deal_49 : decode cX12_deal 49 = .ok (.getfield 28, 3) := by decide +kernel
theorem dX12_deal_52 : decode cX12_deal 52 = .ok (.iload 4, 2) := by decide +kernel
theorem dX12_deal_54 : decode cX12_deal 54 = .ok (.aload_n 0, 1) := by decide +kernel
theorem dX12_deal_55 : decode cX12_deal 55 = .ok (.aload_n 0, 1) := by decide +kernel
theorem dX12_deal_56 : decode cX12_deal 56 = .ok (.getfield 9, 3) := by decide +kernel
theorem dX12_deal_59 : decode cX12_deal 59 = .ok (.iconst 0, 1) := by decide +kernel
theorem dX12_deal_60 : decode cX12_deal 60 = .ok (.iaload, 1) := by decide +kernel
theorem dX12_deal_61 : decode cX12_deal 61 = .ok (.iload 4, 2) := by decide +kernel
theorem dX12_deal_63 : decode cX12_deal 63 = .ok (.iconst 2, 1) := by decide +kernel
theorem dX12_deal_64 : decode cX12_deal 64 = .ok (.idiv, 1) := by decide +kernel
theorem dX12_deal_65 : decode cX12_deal 65 = .ok (.iadd, 1) := by decide +kernel
theorem dX12_deal_66 : decode cX12_deal 66 = .ok (.iload 4, 2) := by decide +kernel
theorem dX12_deal_68 : decode cX12_deal 68 = .ok (.iconst 2, 1) := by decide +kernel
theorem dX12_deal_69 : decode cX12_deal 69 = .ok (.irem, 1) := by decide +kernel
theorem dX12_deal_70 : decode cX12_deal 70 = .ok (.invokevirtual 165, 3) := by decide +kernel
theorem dX12_deal_73 : decode cX12_deal 73 = .ok (.iastore, 1) := by decide +kernel
theorem dX12_deal_74 : decode cX12_deal 74 = .ok (.iinc 4 1, 3) := by decide +kernel
theorem dX12_deal_77 : decode cX12_deal 77 = .ok (.goto (-37), 3) := by decide +kernel
theorem dX12_deal_80 : decode cX12_deal 80 = .ok (.iconst 0, 1) := by decide +kernel
theorem dX12_deal_81 : decode cX12_deal 81 = .ok (.istore 4, 2) := by decide +kernel
theorem dX12_deal_83 : decode cX12_deal 83 = .ok (.iconst (-1), 1) := by decide +kernel
theorem dX12_deal_84 : decode cX12_deal 84 = .ok (.istore 5, 2) := by decide +kernel
theorem dX12_deal_86 : decode cX12_deal 86 = .ok (.iconst (-1), 1) := by decide +kernel
theorem dX12_deal_87 : decode cX12_deal 87 = .ok (.istore 6, 2) := by decide +kernel
theorem dX12_deal_89 : decode cX12_deal 89 = .ok (.iconst 0, 1) := by decide +kernel
theorem dX12_deal_90 : decode cX12_deal 90 = .ok (.istore 7, 2) := by decide +kernel
theorem dX12_deal_92 : decode cX12_deal 92 = .ok (.iload 7, 2) := by decide +kernel
theorem dX12_deal_94 : decode cX12_deal 94 = .ok (.iconst 1, 1) := by decide +kernel
theorem dX12_deal_95 : decode cX12_deal 95 = .ok (.iload_n 1, 1) := by decide +kernel
theorem dX12_deal_96 : decode cX12_deal 96 = .ok (.ishl, 1) := by decide +kernel
theorem dX12_deal_97 : decode cX12_deal 97 = .ok (.if_icmp .ge 142, 3) := by decide +kernel
theorem dX12_deal_100 : decode cX12_deal 100 = .ok (.aload_n 0, 1) := by decide +kernel
theorem dX12_deal_101 : decode cX12_deal 101 = .ok (.iload 7, 2) := by decide +kernel
theorem dX12_deal_103 : decode cX12_deal 103 = .ok (.iload_n 1, 1) := by decide +kernel
theorem dX12_deal_104 : decode cX12_deal 104 = .ok (.iconst 0, 1) := by decide +kernel
theorem dX12_deal_105 : decode cX12_deal 105 = .ok (.invokevirtual 187, 3) := by decide +kernel
theorem dX12_deal_108 : decode cX12_deal 108 = .ok (.istore 8, 2) := by decide +kernel
theorem dX12_deal_110 : decode cX12_deal 110 = .ok (.aload_n 0, 1) := by decide +kernel
theorem dX12_deal_111 : decode cX12_deal 111 = .ok (.iload 7, 2) := by decide +kernel
theorem dX12_deal_113 : decode cX12_deal 113 = .ok (.iload_n 1, 1) := by decide +kernel
theorem dX12_deal_114 : decode cX12_deal 114 = .ok (.iconst 1, 1) := by decide +kernel
theorem dX12_deal_115 : decode cX12_deal 115 = .ok (.invokevirtual 187, 3) := by decide +kernel
theorem dX12_deal_118 : decode cX12_deal 118 = .ok (.istore 9, 2) := by decide +kernel
theorem dX12_deal_120 : decode cX12_deal 120 = .ok (.iload_n 2, 1) := by decide +kernel
theorem dX12_deal_121 : decode cX12_deal 121 = .ok (.ifCond .ne 11, 3) := by decide +kernel
theorem dX12_deal_124 : decode cX12_deal 124 = .ok (.iload 8, 2) := by decide +kernel
theorem dX12_deal_126 : decode cX12_deal 126 = .ok (.iload 9, 2) := by decide +kernel
theorem dX12_deal_128 : decode cX12_deal 128 = .ok (.iadd, 1) := by decide +kernel
theorem dX12_deal_129 : decode cX12_deal 129 = .ok (.goto 17, 3) := by decide +kernel
theorem dX12_deal_132 : decode cX12_deal 132 = .ok (.iload 8, 2) := by decide +kernel
theorem dX12_deal_134 : decode cX12_deal 134 = .ok (.iload 9, 2) := by decide +kernel
theorem dX12_deal_136 : decode cX12_deal 136 = .ok (.if_icmp .ge 8, 3) := by decide +kernel
theorem dX12_deal_139 : decode cX12_deal 139 = .ok (.iload 8, 2) := by decide +kernel
theorem dX12_deal_141 : decode cX12_deal 141 = .ok (.goto 5, 3) := by decide +kernel
theorem dX12_deal_144 : decode cX12_deal 144 = .ok (.iload 9, 2) := by decide +kernel
theorem dX12_deal_146 : decode cX12_deal 146 = .ok (.istore 10, 2) := by decide +kernel
theorem dX12_deal_148 : decode cX12_deal 148 = .ok (.iload_n 2, 1) := by decide +kernel
theorem dX12_deal_149 : decode cX12_deal 149 = .ok (.ifCond .ne 7, 3) := by decide +kernel
theorem dX12_deal_152 : decode cX12_deal 152 = .ok (.iconst 0, 1) := by decide +kernel
theorem dX12_deal_153 : decode cX12_deal 153 = .ok (.goto 8, 3) := by decide +kernel
theorem dX12_deal_156 : decode cX12_deal 156 = .ok (.iload 8, 2) := by decide +kernel
theorem dX12_deal_158 : decode cX12_deal 158 = .ok (.iload 9, 2) := by decide +kernel
theorem dX12_deal_160 : decode cX12_deal 160 = .ok (.iadd, 1) := by decide +kernel
theorem dX12_deal_161 : decode cX12_deal 161 = .ok (.istore 11, 2) := by decide +kernel
theorem dX12_deal_163 : decode cX12_deal 163 = .ok (.iload 10, 2) := by decide +kernel
theorem dX12_deal_165 : decode cX12_deal 165 = .ok (.iload 5, 2) := by decide +kernel
theorem dX12_deal_167 : decode cX12_deal 167 = .ok (.if_icmp .gt 17, 3) := by decide +kernel
theorem dX12_deal_170 : decode cX12_deal 170 = .ok (.iload 10, 2) := by decide +kernel
theorem dX12_deal_172 : decode cX12_deal 172 = .ok (.iload 5, 2) := by decide +kernel
theorem dX12_deal_174 : decode cX12_deal 174 = .ok (.if_icmp .ne 14, 3) := by decide +kernel
theorem dX12_deal_177 : decode cX12_deal 177 = .ok (.iload 11, 2) := by decide +kernel
theorem dX12_deal_179 : decode cX12_deal 179 = .ok (.iload 6, 2) := by decide +kernel
theorem dX12_deal_181 : decode cX12_deal 181 = .ok (.if_icmp .le 7, 3) := by decide +kernel
theorem dX12_deal_184 : decode cX12_deal 184 = .ok (.iconst 1, 1) := by decide +kernel
theorem dX12_deal_185 : decode cX12_deal 185 = .ok (.goto 4, 3) := by decide +kernel
theorem dX12_deal_188 : decode cX12_deal 188 = .ok (.iconst 0, 1) := by decide +kernel
theorem dX12_deal_189 : decode cX12_deal 189 = .ok (.istore 12, 2) := by decide +kernel
theorem dX12_deal_191 : decode cX12_deal 191 = .ok (.iload 12, 2) := by decide +kernel
theorem dX12_deal_193 : decode cX12_deal 193 = .ok (.ifCond .eq 8, 3) := by decide +kernel
theorem dX12_deal_196 : decode cX12_deal 196 = .ok (.iload 7, 2) := by decide +kernel
theorem dX12_deal_198 : decode cX12_deal 198 = .ok (.goto 5, 3) := by decide +kernel
theorem dX12_deal_201 : decode cX12_deal 201 = .ok (.iload 4, 2) := by decide +kernel
theorem dX12_deal_203 : decode cX12_deal 203 = .ok (.istore 4, 2) := by decide +kernel
theorem dX12_deal_205 : decode cX12_deal 205 = .ok (.iload 12, 2) := by decide +kernel
theorem dX12_deal_207 : decode cX12_deal 207 = .ok (.ifCond .eq 8, 3) := by decide +kernel
theorem dX12_deal_210 : decode cX12_deal 210 = .ok (.iload 10, 2) := by decide +kernel
theorem dX12_deal_212 : decode cX12_deal 212 = .ok (.goto 5, 3) := by decide +kernel
theorem dX12_deal_215 : decode cX12_deal 215 = .ok (.iload 5, 2) := by decide +kernel
theorem dX12_deal_217 : decode cX12_deal 217 = .ok (.istore 5, 2) := by decide +kernel
theorem dX12_deal_219 : decode cX12_deal 219 = .ok (.iload 12, 2) := by decide +kernel
theorem dX12_deal_221 : decode cX12_deal 221 = .ok (.ifCond .eq 8, 3) := by decide +kernel
theorem dX12_deal_224 : decode cX12_deal 224 = .ok (.iload 11, 2) := by decide +kernel
theorem dX12_deal_226 : decode cX12_deal 226 = .ok (.goto 5, 3) := by decide +kernel
theorem dX12_deal_229 : decode cX12_deal 229 = .ok (.iload 6, 2) := by decide +kernel
theorem dX12_deal_231 : decode cX12_deal 231 = .ok (.istore 6, 2) := by decide +kernel
theorem dX12_deal_233 : decode cX12_deal 233 = .ok (.iinc 7 1, 3) := by decide +kernel
theorem dX12_deal_236 : decode cX12_deal 236 = .ok (.goto (-144), 3) := by decide +kernel
theorem dX12_deal_239 : decode cX12_deal 239 = .ok (.iload_n 3, 1) := by decide +kernel
theorem dX12_deal_240 : decode cX12_deal 240 = .ok (.ifCond .ne 8, 3) := by decide +kernel
theorem dX12_deal_243 : decode cX12_deal 243 = .ok (.iload 4, 2) := by decide +kernel
theorem dX12_deal_245 : decode cX12_deal 245 = .ok (.goto 13, 3) := by decide +kernel
theorem dX12_deal_248 : decode cX12_deal 248 = .ok (.aload_n 0, 1) := by decide +kernel
theorem dX12_deal_249 : decode cX12_deal 249 = .ok (.iload 4, 2) := by decide +kernel
theorem dX12_deal_251 : decode cX12_deal 251 = .ok (.iload_n 1, 1) := by decide +kernel
theorem dX12_deal_252 : decode cX12_deal 252 = .ok (.iload_n 3, 1) := by decide +kernel
theorem dX12_deal_253 : decode cX12_deal 253 = .ok (.iconst 1, 1) := by decide +kernel
theorem dX12_deal_254 : decode cX12_deal 254 = .ok (.isub, 1) := by decide +kernel
theorem dX12_deal_255 : decode cX12_deal 255 = .ok (.invokevirtual 187, 3) := by decide +kernel
theorem dX12_deal_258 : decode cX12_deal 258 = .ok (.ireturn, 1) := by decide +kernel
theorem dX12_looksForWorths_0 : decode cX12_looksForWorths 0 = .ok (.iconst 0, 1) := by decide +kernel
theorem dX12_looksForWorths_1 : decode cX12_looksForWorths 1 = .ok (.istore_n 1, 1) := by decide +kernel
theorem dX12_looksForWorths_2 : decode cX12_looksForWorths 2 = .ok (.iload_n 1, 1) := by decide +kernel
theorem dX12_looksForWorths_3 : decode cX12_looksForWorths 3 = .ok (.iconst 2, 1) := by decide +kernel
theorem dX12_looksForWorths_4 : decode cX12_looksForWorths 4 = .ok (.aload_n 0, 1) := by decide +kernel
theorem dX12_looksForWorths_5 : decode cX12_looksForWorths 5 = .ok (.getfield 9, 3) := by decide +kernel
theorem dX12_looksForWorths_8 : decode cX12_looksForWorths 8 = .ok (.bipush 9, 2) := by decide +kernel
theorem dX12_looksForWorths_10 : decode cX12_looksForWorths 10 = .ok (.iaload, 1) := by decide +kernel
theorem dX12_looksForWorths_11 : decode cX12_looksForWorths 11 = .ok (.imul, 1) := by decide +kernel
theorem dX12_looksForWorths_12 : decode cX12_looksForWorths 12 = .ok (.if_icmp .ge 79, 3) := by decide +kernel
theorem dX12_looksForWorths_15 : decode cX12_looksForWorths 15 = .ok (.aload_n 0, 1) := by decide +kernel
theorem dX12_looksForWorths_16 : decode cX12_looksForWorths 16 = .ok (.getfield 31, 3) := by decide +kernel
theorem dX12_looksForWorths_19 : decode cX12_looksForWorths 19 = .ok (.iload_n 1, 1) := by decide +kernel
theorem dX12_looksForWorths_20 : decode cX12_looksForWorths 20 = .ok (.iconst 0, 1) := by decide +kernel
theorem dX12_looksForWorths_21 : decode cX12_looksForWorths 21 = .ok (.iastore, 1) := by decide +kernel
theorem dX12_looksForWorths_22 : decode cX12_looksForWorths 22 = .ok (.iconst 0, 1) := by decide +kernel
theorem dX12_looksForWorths_23 : decode cX12_looksForWorths 23 = .ok (.istore_n 2, 1) := by decide +kernel
theorem dX12_looksForWorths_24 : decode cX12_looksForWorths 24 = .ok (.iload_n 2, 1) := by decide +kernel
theorem dX12_looksForWorths_25 : decode cX12_looksForWorths 25 = .ok (.bipush 28, 2) := by decide +kernel
theorem dX12_looksForWorths_27 : decode cX12_looksForWorths 27 = .ok (.if_icmp .ge 58, 3) := by decide +kernel
theorem dX12_looksForWorths_30 : decode cX12_looksForWorths 30 = .ok (.aload_n 0, 1) := by decide +kernel
theorem dX12_looksForWorths_31 : decode cX12_looksForWorths 31 = .ok (.getfield 31, 3) := by decide +kernel
theorem dX12_looksForWorths_34 : decode cX12_looksForWorths 34 = .ok (.iload_n 1, 1) := by decide +kernel
theorem dX12_looksForWorths_35 : decode cX12_looksForWorths 35 = .ok (.dup2, 1) := by decide +kernel
theorem dX12_looksForWorths_36 : decode cX12_looksForWorths 36 = .ok (.iaload, 1) := by decide +kernel
theorem dX12_looksForWorths_37 : decode cX12_looksForWorths 37 = .ok (.aload_n 0, 1) := by decide +kernel
theorem dX12_looksForWorths_38 : decode cX12_looksForWorths 38 = .ok (.iload_n 1, 1) := by decide +kernel
theorem dX12_looksForWorths_39 : decode cX12_looksForWorths 39 = .ok (.iconst 2, 1) := by decide +kernel
theorem dX12_looksForWorths_40 : decode cX12_looksForWorths 40 = .ok (.idiv, 1) := by decide +kernel
theorem dX12_looksForWorths_41 : decode cX12_looksForWorths 41 = .ok (.aload_n 0, 1) := by decide +kernel
theorem dX12_looksForWorths_42 : decode cX12_looksForWorths 42 = .ok (.getfield 9, 3) := by decide +kernel
theorem dX12_looksForWorths_45 : decode cX12_looksForWorths 45 = .ok (.iconst 0, 1) := by decide +kernel
theorem dX12_looksForWorths_46 : decode cX12_looksForWorths 46 = .ok (.iaload, 1) := by decide +kernel
theorem dX12_looksForWorths_47 : decode cX12_looksForWorths 47 = .ok (.iload_n 2, 1) := by decide +kernel
theorem dX12_looksForWorths_48 : decode cX12_looksForWorths 48 = .ok (.iadd, 1) := by decide +kernel
theorem dX12_looksForWorths_49 : decode cX12_looksForWorths 49 = .ok (.invokevirtual 141, 3) := by decide +kernel
theorem dX12_looksForWorths_52 : decode cX12_looksForWorths 52 = .ok (.ifCond .eq 24, 3) := by decide +kernel
theorem dX12_looksForWorths_55 : decode cX12_looksForWorths 55 = .ok (.aload_n 0, 1) := by decide +kernel
theorem dX12_looksForWorths_56 : decode cX12_looksForWorths 56 = .ok (.iload_n 1, 1) := by decide +kernel
theorem dX12_looksForWorths_57 : decode cX12_looksForWorths 57 = .ok (.iconst 2, 1) := by decide +kernel
theorem dX12_looksForWorths_58 : decode cX12_looksForWorths 58 = .ok (.idiv, 1) := by decide +kernel
theorem dX12_looksForWorths_59 : decode cX12_looksForWorths 59 = .ok (.iload_n 1, 1) := by decide +kernel
theorem dX12_looksForWorths_60 : decode cX12_looksForWorths 60 = .ok (.iconst 2, 1) := by decide +kernel
theorem dX12_looksForWorths_61 : decode cX12_looksForWorths 61 = .ok (.irem, 1) := by decide +kernel
theorem dX12_looksForWorths_62 : decode cX12_looksForWorths 62 = .ok (.aload_n 0, 1) := by decide +kernel
theorem dX12_looksForWorths_63 : decode cX12_looksForWorths 63 = .ok (.getfield 9, 3) := by decide +kernel
theorem dX12_looksForWorths_66 : decode cX12_looksForWorths 66 = .ok (.iconst 0, 1) := by decide +kernel
theorem dX12_looksForWorths_67 : decode cX12_looksForWorths 67 = .ok (.iaload, 1) := by decide +kernel
theorem dX12_looksForWorths_68 : decode cX12_looksForWorths 68 = .ok (.iload_n 2, 1) := by decide +kernel
theorem dX12_looksForWorths_69 : decode cX12_looksForWorths 69 = .ok (.iadd, 1) := by decide +kernel
theorem dX12_looksForWorths_70 : decode cX12_looksForWorths 70 = .ok (.invokevirtual 145, 3) := by decide +kernel
theorem dX12_looksForWorths_73 : decode cX12_looksForWorths 73 = .ok (.goto 4, 3) := by decide +kernel
theorem dX12_looksForWorths_76 : decode cX12_looksForWorths 76 = .ok (.iconst 0, 1) := by decide +kernel
theorem dX12_looksForWorths_77 : decode cX12_looksForWorths 77 = .ok (.iadd, 1) := by decide +kernel
theorem dX12_looksForWorths_78 : decode cX12_looksForWorths 78 = .ok (.iastore, 1) := by decide +kernel
theorem dX12_looksForWorths_79 : decode cX12_looksForWorths 79 = .ok (.iinc 2 1, 3) := by decide +kernel
theorem dX12_looksForWorths_82 : decode cX12_looksForWorths 82 = .ok (.goto (-58), 3) := by decide +kernel
theorem dX12_looksForWorths_85 : decode cX12_looksForWorths 85 = .ok (.iinc 1 1, 3) := by decide +kernel
theorem dX12_looksForWorths_88 : decode cX12_looksForWorths 88 = .ok (.goto (-86), 3) := by decide +kernel
theorem dX12_looksForWorths_91 : decode cX12_looksForWorths 91 = .ok (.return_, 1) := by decide +kernel
theorem dX12_shareOf_0 : decode cX12_shareOf 0 = .ok (.iconst 0, 1) := by decide +kernel
theorem dX12_shareOf_1 : decode cX12_shareOf 1 = .ok (.istore 4, 2) := by decide +kernel
theorem dX12_shareOf_3 : decode cX12_shareOf 3 = .ok (.iconst 0, 1) := by decide +kernel
theorem dX12_shareOf_4 : decode cX12_shareOf 4 = .ok (.istore 5, 2) := by decide +kernel
theorem dX12_shareOf_6 : decode cX12_shareOf 6 = .ok (.iload 5, 2) := by decide +kernel
theorem dX12_shareOf_8 : decode cX12_shareOf 8 = .ok (.aload_n 0, 1) := by decide +kernel
theorem dX12_shareOf_9 : decode cX12_shareOf 9 = .ok (.getfield 9, 3) := by decide +kernel
theorem dX12_shareOf_12 : decode cX12_shareOf 12 = .ok (.bipush 9, 2) := by decide +kernel
theorem dX12_shareOf_14 : decode cX12_shareOf 14 = .ok (.iaload, 1) := by decide +kernel
theorem dX12_shareOf_15 : decode cX12_shareOf 15 = .ok (.if_icmp .ge 39, 3) := by decide +kernel
theorem dX12_shareOf_18 : decode cX12_shareOf 18 = .ok (.iload 4, 2) := by decide +kernel
theorem dX12_shareOf_20 : decode cX12_shareOf 20 = .ok (.iload_n 1, 1) := by decide +kernel
theorem dX12_shareOf_21 : decode cX12_shareOf 21 = .ok (.iload 5, 2) := by decide +kernel
theorem dX12_shareOf_23 : decode cX12_shareOf 23 = .ok (.ishr, 1) := by decide +kernel
theorem dX12_shareOf_24 : decode cX12_shareOf 24 = .ok (.iconst 1, 1) := by decide +kernel
theorem dX12_shareOf_25 : decode cX12_shareOf 25 = .ok (.iand, 1) := by decide +kernel
theorem dX12_shareOf_26 : decode cX12_shareOf 26 = .ok (.iload_n 2, 1) := by decide +kernel
theorem dX12_shareOf_27 : decode cX12_shareOf 27 = .ok (.if_icmp .ne 17, 3) := by decide +kernel
theorem dX12_shareOf_30 : decode cX12_shareOf 30 = .ok (.aload_n 0, 1) := by decide +kernel
theorem dX12_shareOf_31 : decode cX12_shareOf 31 = .ok (.getfield 31, 3) := by decide +kernel
theorem dX12_shareOf_34 : decode cX12_shareOf 34 = .ok (.iconst 2, 1) := by decide +kernel
theorem dX12_shareOf_35 : decode cX12_shareOf 35 = .ok (.iload 5, 2) := by decide +kernel
theorem dX12_shareOf_37 : decode cX12_shareOf 37 = .ok (.imul, 1) := by decide +kernel
theorem dX12_shareOf_38 : decode cX12_shareOf 38 = .ok (.iload_n 3, 1) := by decide +kernel
theorem dX12_shareOf_39 : decode cX12_shareOf 39 = .ok (.iadd, 1) := by decide +kernel
theorem dX12_shareOf_40 : decode cX12_shareOf 40 = .ok (.iaload, 1) := by decide +kernel
theorem dX12_shareOf_41 : decode cX12_shareOf 41 = .ok (.goto 4, 3) := by decide +kernel
theorem dX12_shareOf_44 : decode cX12_shareOf 44 = .ok (.iconst 0, 1) := by decide +kernel
theorem dX12_shareOf_45 : decode cX12_shareOf 45 = .ok (.iadd, 1) := by decide +kernel
theorem dX12_shareOf_46 : decode cX12_shareOf 46 = .ok (.istore 4, 2) := by decide +kernel
theorem dX12_shareOf_48 : decode cX12_shareOf 48 = .ok (.iinc 5 1, 3) := by decide +kernel
theorem dX12_shareOf_51 : decode cX12_shareOf 51 = .ok (.goto (-45), 3) := by decide +kernel
theorem dX12_shareOf_54 : decode cX12_shareOf 54 = .ok (.iload 4, 2) := by decide +kernel
theorem dX12_shareOf_56 : decode cX12_shareOf 56 = .ok (.ireturn, 1) := by decide +kernel
theorem dX12_shares_0 : decode cX12_shares 0 = .ok (.iload_n 1, 1) := by decide +kernel
theorem dX12_shares_1 : decode cX12_shares 1 = .ok (.iconst 0, 1) := by decide +kernel
theorem dX12_shares_2 : decode cX12_shares 2 = .ok (.iconst 1, 1) := by decide +kernel
theorem dX12_shares_3 : decode cX12_shares 3 = .ok (.invokestatic 41, 3) := by decide +kernel
theorem dX12_shares_6 : decode cX12_shares 6 = .ok (.ifCond .ne 5, 3) := by decide +kernel
theorem dX12_shares_9 : decode cX12_shares 9 = .ok (.iconst (-1), 1) := by decide +kernel
theorem dX12_shares_10 : decode cX12_shares 10 = .ok (.ireturn, 1) := by decide +kernel
theorem dX12_shares_11 : decode cX12_shares 11 = .ok (.aload_n 0, 1) := by decide +kernel
theorem dX12_shares_12 : decode cX12_shares 12 = .ok (.invokevirtual 190, 3) := by decide +kernel
theorem dX12_shares_15 : decode cX12_shares 15 = .ok (.bipush (-5), 2) := by decide +kernel
theorem dX12_shares_17 : decode cX12_shares 17 = .ok (.istore_n 2, 1) := by decide +kernel
theorem dX12_shares_18 : decode cX12_shares 18 = .ok (.iconst 0, 1) := by decide +kernel
theorem dX12_shares_19 : decode cX12_shares 19 = .ok (.istore_n 3, 1) := by decide +kernel
theorem dX12_shares_20 : decode cX12_shares 20 = .ok (.iconst (-1), 1) := by decide +kernel
theorem dX12_shares_21 : decode cX12_shares 21 = .ok (.istore 4, 2) := by decide +kernel
theorem dX12_shares_23 : decode cX12_shares 23 = .ok (.iconst 0, 1) := by decide +kernel
theorem dX12_shares_24 : decode cX12_shares 24 = .ok (.istore 5, 2) := by decide +kernel
theorem dX12_shares_26 : decode cX12_shares 26 = .ok (.iload 5, 2) := by decide +kernel
theorem dX12_shares_28 : decode cX12_shares 28 = .ok (.iconst 1, 1) := by decide +kernel
theorem dX12_shares_29 : decode cX12_shares 29 = .ok (.aload_n 0, 1) := by decide +kernel
theorem dX12_shares_30 : decode cX12_shares 30 = .ok (.getfield 9, 3) := by decide +kernel
theorem dX12_shares_33 : decode cX12_shares 33 = .ok (.bipush 9, 2) := by decide +kernel
theorem dX12_shares_35 : decode cX12_shares 35 = .ok (.iaload, 1) := by decide +kernel
theorem dX12_shares_36 : decode cX12_shares 36 = .ok (.ishl, 1) := by decide +kernel
theorem dX12_shares_37 : decode cX12_shares 37 = .ok (.if_icmp .ge 121, 3) := by decide +kernel
theorem dX12_shares_40 : decode cX12_shares 40 = .ok (.aload_n 0, 1) := by decide +kernel
theorem dX12_shares_41 : decode cX12_shares 41 = .ok (.iload 5, 2) := by decide +kernel
theorem dX12_shares_43 : decode cX12_shares 43 = .ok (.iconst 0, 1) := by decide +kernel
theorem dX12_shares_44 : decode cX12_shares 44 = .ok (.iconst 0, 1) := by decide +kernel
theorem dX12_shares_45 : decode cX12_shares 45 = .ok (.invokevirtual 193, 3) := by decide +kernel
theorem dX12_shares_48 : decode cX12_shares 48 = .ok (.aload_n 0, 1) := by decide +kernel
theorem dX12_shares_49 : decode cX12_shares 49 = .ok (.iload 5, 2) := by decide +kernel
theorem dX12_shares_51 : decode cX12_shares 51 = .ok (.iconst 1, 1) := by decide +kernel
theorem dX12_shares_52 : decode cX12_shares 52 = .ok (.iconst 0, 1) := by decide +kernel
theorem dX12_shares_53 : decode cX12_shares 53 = .ok (.invokevirtual 193, 3) := by decide +kernel
theorem dX12_shares_56 : decode cX12_shares 56 = .ok (.if_icmp .lt 22, 3) := by decide +kernel
theorem dX12_shares_59 : decode cX12_shares 59 = .ok (.aload_n 0, 1) := by decide +kernel
theorem dX12_shares_60 : decode cX12_shares 60 = .ok (.iload 5, 2) := by decide +kernel
theorem dX12_shares_62 : decode cX12_shares 62 = .ok (.iconst 1, 1) := by decide +kernel
theorem dX12_shares_63 : decode cX12_shares 63 = .ok (.iconst 1, 1) := by decide +kernel
theorem dX12_shares_64 : decode cX12_shares 64 = .ok (.invokevirtual 193, 3) := by decide +kernel
theorem dX12_shares_67 : decode cX12_shares 67 = .ok (.aload_n 0, 1) := by decide +kernel
theorem dX12_shares_68 : decode cX12_shares 68 = .ok (.iload 5, 2) := by decide +kernel
theorem dX12_shares_70 : decode cX12_shares 70 = .ok (.iconst 0, 1) := by decide +kernel
theorem dX12_shares_71 : decode cX12_shares 71 = .ok (.iconst 1, 1) := by decide +kernel
theorem dX12_shares_72 : decode cX12_shares 72 = .ok (.invokevirtual 193, 3) := by decide +kernel
theorem dX12_shares_75 : decode cX12_shares 75 = .ok (.if_icmp .ge 7, 3) := by decide +kernel
theorem dX12_shares_78 : decode cX12_shares 78 = .ok (.iconst 1, 1) := by decide +kernel
theorem dX12_shares_79 : decode cX12_shares 79 = .ok (.goto 4, 3) := by decide +kernel
theorem dX12_shares_82 : decode cX12_shares 82 = .ok (.iconst 0, 1) := by decide +kernel
theorem dX12_shares_83 : decode cX12_shares 83 = .ok (.istore 6, 2) := by decide +kernel
theorem dX12_shares_85 : decode cX12_shares 85 = .ok (.iload_n 2, 1) := by decide +kernel
theorem dX12_shares_86 : decode cX12_shares 86 = .ok (.bipush (-5), 2) := by decide +kernel
theorem dX12_shares_88 : decode cX12_shares 88 = .ok (.if_icmp .ne 13, 3) := by decide +kernel
theorem dX12_shares_91 : decode cX12_shares 91 = .ok (.iload 6, 2) := by decide +kernel
theorem dX12_shares_93 : decode cX12_shares 93 = .ok (.ifCond .ne 8, 3) := by decide +kernel
theorem dX12_shares_96 : decode cX12_shares 96 = .ok (.iload 5, 2) := by decide +kernel
theorem dX12_shares_98 : decode cX12_shares 98 = .ok (.goto 4, 3) := by decide +kernel
theorem dX12_shares_101 : decode cX12_shares 101 = .ok (.iload_n 2, 1) := by decide +kernel
theorem dX12_shares_102 : decode cX12_shares 102 = .ok (.istore_n 2, 1) := by decide +kernel
theorem dX12_shares_103 : decode cX12_shares 103 = .ok (.aload_n 0, 1) := by decide +kernel
theorem dX12_shares_104 : decode cX12_shares 104 = .ok (.iload 5, 2) := by decide +kernel
theorem dX12_shares_106 : decode cX12_shares 106 = .ok (.iconst 0, 1) := by decide +kernel
theorem dX12_shares_107 : decode cX12_shares 107 = .ok (.iconst 0, 1) := by decide +kernel
theorem dX12_shares_108 : decode cX12_shares 108 = .ok (.invokevirtual 193, 3) := by decide +kernel
theorem dX12_shares_111 : decode cX12_shares 111 = .ok (.aload_n 0, 1) := by decide +kernel
theorem dX12_shares_112 : decode cX12_shares 112 = .ok (.iload 5, 2) := by decide +kernel
theorem dX12_shares_114 : decode cX12_shares 114 = .ok (.iconst 1, 1) := by decide +kernel
theorem dX12_shares_115 : decode cX12_shares 115 = .ok (.iconst 1, 1) := by decide +kernel
theorem dX12_shares_116 : decode cX12_shares 116 = .ok (.invokevirtual 193, 3) := by decide +kernel
theorem dX12_shares_119 : decode cX12_shares 119 = .ok (.iadd, 1) := by decide +kernel
theorem dX12_shares_120 : decode cX12_shares 120 = .ok (.istore 7, 2) := by decide +kernel
theorem dX12_shares_122 : decode cX12_shares 122 = .ok (.iload 7, 2) := by decide +kernel
theorem dX12_shares_124 : decode cX12_shares 124 = .ok (.iload 4, 2) := by decide +kernel
theorem dX12_shares_126 : decode cX12_shares 126 = .ok (.if_icmp .le 8, 3) := by decide +kernel
theorem dX12_shares_129 : decode cX12_shares 129 = .ok (.iload 5, 2) := by decide +kernel
theorem dX12_shares_131 : decode cX12_shares 131 = .ok (.goto 4, 3) := by decide +kernel
theorem dX12_shares_134 : decode cX12_shares 134 = .ok (.iload_n 3, 1) := by decide +kernel
theorem dX12_shares_135 : decode cX12_shares 135 = .ok (.istore_n 3, 1) := by decide +kernel
theorem dX12_shares_136 : decode cX12_shares 136 = .ok (.iload 7, 2) := by decide +kernel
theorem dX12_shares_138 : decode cX12_shares 138 = .ok (.iload 4, 2) := by decide +kernel
theorem dX12_shares_140 : decode cX12_shares 140 = .ok (.if_icmp .le 8, 3) := by decide +kernel
theorem dX12_shares_143 : decode cX12_shares 143 = .ok (.iload 7, 2) := by decide +kernel
theorem dX12_shares_145 : decode cX12_shares 145 = .ok (.goto 5, 3) := by decide +kernel
theorem dX12_shares_148 : decode cX12_shares 148 = .ok (.iload 4, 2) := by decide +kernel
theorem dX12_shares_150 : decode cX12_shares 150 = .ok (.istore 4, 2) := by decide +kernel
theorem dX12_shares_152 : decode cX12_shares 152 = .ok (.iinc 5 1, 3) := by decide +kernel
theorem dX12_shares_155 : decode cX12_shares 155 = .ok (.goto (-129), 3) := by decide +kernel
theorem dX12_shares_158 : decode cX12_shares 158 = .ok (.iload_n 1, 1) := by decide +kernel
theorem dX12_shares_159 : decode cX12_shares 159 = .ok (.ifCond .ne 7, 3) := by decide +kernel
theorem dX12_shares_162 : decode cX12_shares 162 = .ok (.iload_n 2, 1) := by decide +kernel
theorem dX12_shares_163 : decode cX12_shares 163 = .ok (.goto 4, 3) := by decide +kernel
theorem dX12_shares_166 : decode cX12_shares 166 = .ok (.iload_n 3, 1) := by decide +kernel
theorem dX12_shares_167 : decode cX12_shares 167 = .ok (.ireturn, 1) := by decide +kernel
theorem dX12_note_0 : decode cX12_note 0 = .ok (.iload_n 1, 1) := by decide +kernel
theorem dX12_note_1 : decode cX12_note 1 = .ok (.iconst (-1), 1) := by decide +kernel
theorem dX12_note_2 : decode cX12_note 2 = .ok (.if_icmp .ne 13, 3) := by decide +kernel
theorem dX12_note_5 : decode cX12_note 5 = .ok (.aload_n 0, 1) := by decide +kernel
theorem dX12_note_6 : decode cX12_note 6 = .ok (.getfield 9, 3) := by decide +kernel
theorem dX12_note_9 : decode cX12_note 9 = .ok (.bipush 11, 2) := by decide +kernel
theorem dX12_note_11 : decode cX12_note 11 = .ok (.iconst 0, 1) := by decide +kernel
theorem dX12_note_12 : decode cX12_note 12 = .ok (.iastore, 1) := by decide +kernel
theorem dX12_note_13 : decode cX12_note 13 = .ok (.iconst 0, 1) := by decide +kernel
theorem dX12_note_14 : decode cX12_note 14 = .ok (.ireturn, 1) := by decide +kernel
theorem dX12_note_15 : decode cX12_note 15 = .ok (.aload_n 0, 1) := by decide +kernel
theorem dX12_note_16 : decode cX12_note 16 = .ok (.iload_n 1, 1) := by decide +kernel
theorem dX12_note_17 : decode cX12_note 17 = .ok (.invokevirtual 148, 3) := by decide +kernel
theorem dX12_note_20 : decode cX12_note 20 = .ok (.ifCond .ne 5, 3) := by decide +kernel
theorem dX12_note_23 : decode cX12_note 23 = .ok (.iconst (-1), 1) := by decide +kernel
theorem dX12_note_24 : decode cX12_note 24 = .ok (.ireturn, 1) := by decide +kernel
theorem dX12_note_25 : decode cX12_note 25 = .ok (.iload_n 2, 1) := by decide +kernel
theorem dX12_note_26 : decode cX12_note 26 = .ok (.iconst 0, 1) := by decide +kernel
theorem dX12_note_27 : decode cX12_note 27 = .ok (.bipush 60, 2) := by decide +kernel
theorem dX12_note_29 : decode cX12_note 29 = .ok (.invokestatic 41, 3) := by decide +kernel
theorem dX12_note_32 : decode cX12_note 32 = .ok (.ifCond .ne 6, 3) := by decide +kernel
theorem dX12_note_35 : decode cX12_note 35 = .ok (.bipush (-2), 2) := by decide +kernel
theorem dX12_note_37 : decode cX12_note 37 = .ok (.ireturn, 1) := by decide +kernel
theorem dX12_note_38 : decode cX12_note 38 = .ok (.aload_n 0, 1) := by decide +kernel
theorem dX12_note_39 : decode cX12_note 39 = .ok (.getfield 9, 3) := by decide +kernel
theorem dX12_note_42 : decode cX12_note 42 = .ok (.bipush 11, 2) := by decide +kernel
theorem dX12_note_44 : decode cX12_note 44 = .ok (.iaload, 1) := by decide +kernel
theorem dX12_note_45 : decode cX12_note 45 = .ok (.bipush 6, 2) := by decide +kernel
theorem dX12_note_47 : decode cX12_note 47 = .ok (.if_icmp .ne 6, 3) := by decide +kernel
theorem dX12_note_50 : decode cX12_note 50 = .ok (.bipush (-4), 2) := by decide +kernel
theorem dX12_note_52 : decode cX12_note 52 = .ok (.ireturn, 1) := by decide +kernel
theorem dX12_note_53 : decode cX12_note 53 = .ok (.aload_n 0, 1) := by decide +kernel
theorem dX12_note_54 : decode cX12_note 54 = .ok (.getfield 9, 3) := by decide +kernel
theorem dX12_note_57 : decode cX12_note 57 = .ok (.bipush 64, 2) := by decide +kernel
theorem dX12_note_59 : decode cX12_note 59 = .ok (.aload_n 0, 1) := by decide +kernel
theorem dX12_note_60 : decode cX12_note 60 = .ok (.getfield 9, 3) := by decide +kernel
theorem dX12_note_63 : decode cX12_note 63 = .ok (.bipush 11, 2) := by decide +kernel
theorem dX12_note_65 : decode cX12_note 65 = .ok (.iaload, 1) := by decide +kernel
theorem dX12_note_66 : decode cX12_note 66 = .ok (.iadd, 1) := by decide +kernel
theorem dX12_note_67 : decode cX12_note 67 = .ok (.iload_n 1, 1) := by decide +kernel
theorem dX12_note_68 : decode cX12_note 68 = .ok (.iastore, 1) := by decide +kernel
theorem dX12_note_69 : decode cX12_note 69 = .ok (.aload_n 0, 1) := by decide +kernel
theorem dX12_note_70 : decode cX12_note 70 = .ok (.getfield 9, 3) := by decide +kernel
theorem dX12_note_73 : decode cX12_note 73 = .ok (.bipush 70, 2) := by decide +kernel
theorem dX12_note_75 : decode cX12_note 75 = .ok (.aload_n 0, 1) := by decide +kernel
theorem dX12_note_76 : decode cX12_note 76 = .ok (.getfield 9, 3) := by decide +kernel
theorem dX12_note_79 : decode cX12_note 79 = .ok (.bipush 11, 2) := by decide +kernel
theorem dX12_note_81 : decode cX12_note 81 = .ok (.iaload, 1) := by decide +kernel
theorem dX12_note_82 : decode cX12_note 82 = .ok (.iadd, 1) := by decide +kernel
theorem dX12_note_83 : decode cX12_note 83 = .ok (.iload_n 2, 1) := by decide +kernel
theorem dX12_note_84 : decode cX12_note 84 = .ok (.iastore, 1) := by decide +kernel
theorem dX12_note_85 : decode cX12_note 85 = .ok (.aload_n 0, 1) := by decide +kernel
theorem dX12_note_86 : decode cX12_note 86 = .ok (.getfield 9, 3) := by decide +kernel
theorem dX12_note_89 : decode cX12_note 89 = .ok (.bipush 76, 2) := by decide +kernel
theorem dX12_note_91 : decode cX12_note 91 = .ok (.aload_n 0, 1) := by decide +kernel
theorem dX12_note_92 : decode cX12_note 92 = .ok (.getfield 9, 3) := by decide +kernel
theorem dX12_note_95 : decode cX12_note 95 = .ok (.bipush 11, 2) := by decide +kernel
theorem dX12_note_97 : decode cX12_note 97 = .ok (.iaload, 1) := by decide +kernel
theorem dX12_note_98 : decode cX12_note 98 = .ok (.iadd, 1) := by decide +kernel
theorem dX12_note_99 : decode cX12_note 99 = .ok (.iload_n 3, 1) := by decide +kernel
theorem dX12_note_100 : decode cX12_note 100 = .ok (.ifCond .eq 7, 3) := by decide +kernel
theorem dX12_note_103 : decode cX12_note 103 = .ok (.iconst 1, 1) := by decide +kernel
theorem dX12_note_104 : decode cX12_note 104 = .ok (.goto 4, 3) := by decide +kernel
theorem dX12_note_107 : decode cX12_note 107 = .ok (.iconst 0, 1) := by decide +kernel
theorem dX12_note_108 : decode cX12_note 108 = .ok (.iastore, 1) := by decide +kernel
theorem dX12_note_109 : decode cX12_note 109 = .ok (.aload_n 0, 1) := by decide +kernel
theorem dX12_note_110 : decode cX12_note 110 = .ok (.getfield 9, 3) := by decide +kernel
theorem dX12_note_113 : decode cX12_note 113 = .ok (.bipush 11, 2) := by decide +kernel
theorem dX12_note_115 : decode cX12_note 115 = .ok (.dup2, 1) := by decide +kernel
theorem dX12_note_116 : decode cX12_note 116 = .ok (.iaload, 1) := by decide +kernel
theorem dX12_note_117 : decode cX12_note 117 = .ok (.iconst 1, 1) := by decide +kernel
theorem dX12_note_118 : decode cX12_note 118 = .ok (.iadd, 1) := by decide +kernel
theorem dX12_note_119 : decode cX12_note 119 = .ok (.iastore, 1) := by decide +kernel
theorem dX12_note_120 : decode cX12_note 120 = .ok (.aload_n 0, 1) := by decide +kernel
theorem dX12_note_121 : decode cX12_note 121 = .ok (.getfield 9, 3) := by decide +kernel
theorem dX12_note_124 : decode cX12_note 124 = .ok (.bipush 11, 2) := by decide +kernel
theorem dX12_note_126 : decode cX12_note 126 = .ok (.iaload, 1) := by decide +kernel
theorem dX12_note_127 : decode cX12_note 127 = .ok (.ireturn, 1) := by decide +kernel
theorem dX12_areAsNoted_0 : decode cX12_areAsNoted 0 = .ok (.iconst 1, 1) := by decide +kernel
theorem dX12_areAsNoted_1 : decode cX12_areAsNoted 1 = .ok (.istore_n 2, 1) := by decide +kernel
theorem dX12_areAsNoted_2 : decode cX12_areAsNoted 2 = .ok (.iconst 0, 1) := by decide +kernel
theorem dX12_areAsNoted_3 : decode cX12_areAsNoted 3 = .ok (.istore_n 3, 1) := by decide +kernel
theorem dX12_areAsNoted_4 : decode cX12_areAsNoted 4 = .ok (.iload_n 3, 1) := by decide +kernel
theorem dX12_areAsNoted_5 : decode cX12_areAsNoted 5 = .ok (.aload_n 0, 1) := by decide +kernel
theorem dX12_areAsNoted_6 : decode cX12_areAsNoted 6 = .ok (.getfield 9, 3) := by decide +kernel
theorem dX12_areAsNoted_9 : decode cX12_areAsNoted 9 = .ok (.bipush 11, 2) := by decide +kernel
theorem dX12_areAsNoted_11 : decode cX12_areAsNoted 11 = .ok (.iaload, 1) := by decide +kernel
theorem dX12_areAsNoted_12 : decode cX12_areAsNoted 12 = .ok (.if_icmp .ge 74, 3) := by decide +kernel
theorem dX12_areAsNoted_15 : decode cX12_areAsNoted 15 = .ok (.iload_n 2, 1) := by decide +kernel
theorem dX12_areAsNoted_16 : decode cX12_areAsNoted 16 = .ok (.ifCond .eq 62, 3) := by decide +kernel
theorem dX12_areAsNoted_19 : decode cX12_areAsNoted 19 = .ok (.aload_n 0, 1) := by decide +kernel
theorem dX12_areAsNoted_20 : decode cX12_areAsNoted 20 = .ok (.getfield 9, 3) := by decide +kernel
theorem dX12_areAsNoted_23 : decode cX12_areAsNoted 23 = .ok (.bipush 64, 2) := by decide +kernel
theorem dX12_areAsNoted_25 : decode cX12_areAsNoted 25 = .ok (.iload_n 3, 1) := by decide +kernel
theorem dX12_areAsNoted_26 : decode cX12_areAsNoted 26 = .ok (.iadd, 1) := by decide +kernel
theorem dX12_areAsNoted_27 : decode cX12_areAsNoted 27 = .ok (.iaload, 1) := by decide +kernel
theorem dX12_areAsNoted_28 : decode cX12_areAsNoted 28 = .ok (.iload_n 1, 1) := by decide +kernel
theorem dX12_areAsNoted_29 : decode cX12_areAsNoted 29 = .ok (.if_icmp .ne 45, 3) := by decide +kernel
theorem dX12_areAsNoted_32 : decode cX12_areAsNoted 32 = .ok (.aload_n 0, 1) := by decide +kernel
theorem dX12_areAsNoted_33 : decode cX12_areAsNoted 33 = .ok (.iload_n 1, 1) := by decide +kernel
theorem dX12_areAsNoted_34 : decode cX12_areAsNoted 34 = .ok (.aload_n 0, 1) := by decide +kernel
theorem dX12_areAsNoted_35 : decode cX12_areAsNoted 35 = .ok (.getfield 9, 3) := by decide +kernel
theorem dX12_areAsNoted_38 : decode cX12_areAsNoted 38 = .ok (.iconst 0, 1) := by decide +kernel
theorem dX12_areAsNoted_39 : decode cX12_areAsNoted 39 = .ok (.iaload, 1) := by decide +kernel
theorem dX12_areAsNoted_40 : decode cX12_areAsNoted 40 = .ok (.aload_n 0, 1) := by decide +kernel
theorem dX12_areAsNoted_41 : decode cX12_areAsNoted 41 = .ok (.getfield 9, 3) := by decide +kernel
theorem dX12_areAsNoted_44 : decode cX12_areAsNoted 44 = .ok (.bipush 70, 2) := by decide +kernel
theorem dX12_areAsNoted_46 : decode cX12_areAsNoted 46 = .ok (.iload_n 3, 1) := by decide +kernel
theorem dX12_areAsNoted_47 : decode cX12_areAsNoted 47 = .ok (.iadd, 1) := by decide +kernel
theorem dX12_areAsNoted_48 : decode cX12_areAsNoted 48 = .ok (.iaload, 1) := by decide +kernel
theorem dX12_areAsNoted_49 : decode cX12_areAsNoted 49 = .ok (.iadd, 1) := by decide +kernel
theorem dX12_areAsNoted_50 : decode cX12_areAsNoted 50 = .ok (.invokevirtual 141, 3) := by decide +kernel
theorem dX12_areAsNoted_53 : decode cX12_areAsNoted 53 = .ok (.aload_n 0, 1) := by decide +kernel
theorem dX12_areAsNoted_54 : decode cX12_areAsNoted 54 = .ok (.getfield 9, 3) := by decide +kernel
theorem dX12_areAsNoted_57 : decode cX12_areAsNoted 57 = .ok (.bipush 76, 2) := by decide +kernel
theorem dX12_areAsNoted_59 : decode cX12_areAsNoted 59 = .ok (.iload_n 3, 1) := by decide +kernel
theorem dX12_areAsNoted_60 : decode cX12_areAsNoted 60 = .ok (.iadd, 1) := by decide +kernel
theorem dX12_areAsNoted_61 : decode cX12_areAsNoted 61 = .ok (.iaload, 1) := by decide +kernel
theorem dX12_areAsNoted_62 : decode cX12_areAsNoted 62 = .ok (.iconst 1, 1) := by decide +kernel
theorem dX12_areAsNoted_63 : decode cX12_areAsNoted 63 = .ok (.if_icmp .ne 7, 3) := by decide +kernel
theorem dX12_areAsNoted_66 : decode cX12_areAsNoted 66 = .ok (.iconst 1, 1) := by decide +kernel
theorem dX12_areAsNoted_67 : decode cX12_areAsNoted 67 = .ok (.goto 4, 3) := by decide +kernel
theorem dX12_areAsNoted_70 : decode cX12_areAsNoted 70 = .ok (.iconst 0, 1) := by decide +kernel
theorem dX12_areAsNoted_71 : decode cX12_areAsNoted 71 = .ok (.if_icmp .ne 7, 3) := by decide +kernel
theorem dX12_areAsNoted_74 : decode cX12_areAsNoted 74 = .ok (.iconst 1, 1) := by decide +kernel
theorem dX12_areAsNoted_75 : decode cX12_areAsNoted 75 = .ok (.goto 4, 3) := by decide +kernel
theorem dX12_areAsNoted_78 : decode cX12_areAsNoted 78 = .ok (.iconst 0, 1) := by decide +kernel
theorem dX12_areAsNoted_79 : decode cX12_areAsNoted 79 = .ok (.istore_n 2, 1) := by decide +kernel
theorem dX12_areAsNoted_80 : decode cX12_areAsNoted 80 = .ok (.iinc 3 1, 3) := by decide +kernel
theorem dX12_areAsNoted_83 : decode cX12_areAsNoted 83 = .ok (.goto (-79), 3) := by decide +kernel
theorem dX12_areAsNoted_86 : decode cX12_areAsNoted 86 = .ok (.iload_n 2, 1) := by decide +kernel
theorem dX12_areAsNoted_87 : decode cX12_areAsNoted 87 = .ok (.ireturn, 1) := by decide +kernel
theorem dX12_fitting_0 : decode cX12_fitting 0 = .ok (.aload_n 0, 1) := by decide +kernel
theorem dX12_fitting_1 : decode cX12_fitting 1 = .ok (.getfield 9, 3) := by decide +kernel
theorem dX12_fitting_4 : decode cX12_fitting 4 = .ok (.iload_n 2, 1) := by decide +kernel
theorem dX12_fitting_5 : decode cX12_fitting 5 = .ok (.iaload, 1) := by decide +kernel
theorem dX12_fitting_6 : decode cX12_fitting 6 = .ok (.istore 6, 2) := by decide +kernel
theorem dX12_fitting_8 : decode cX12_fitting 8 = .ok (.iconst 0, 1) := by decide +kernel
theorem dX12_fitting_9 : decode cX12_fitting 9 = .ok (.istore 7, 2) := by decide +kernel
theorem dX12_fitting_11 : decode cX12_fitting 11 = .ok (.bipush (-5), 2) := by decide +kernel
theorem dX12_fitting_13 : decode cX12_fitting 13 = .ok (.istore 8, 2) := by decide +kernel
theorem dX12_fitting_15 : decode cX12_fitting 15 = .ok (.iload 4, 2) := by decide +kernel
theorem dX12_fitting_17 : decode cX12_fitting 17 = .ok (.istore 9, 2) := by decide +kernel
theorem dX12_fitting_19 : decode cX12_fitting 19 = .ok (.iload 9, 2) := by decide +kernel
theorem dX12_fitting_21 : decode cX12_fitting 21 = .ok (.iload_n 3, 1) := by decide +kernel
theorem dX12_fitting_22 : decode cX12_fitting 22 = .ok (.if_icmp .lt 53, 3) := by decide +kernel
theorem dX12_fitting_25 : decode cX12_fitting 25 = .ok (.aload_n 0, 1) := by decide +kernel
theorem dX12_fitting_26 : decode cX12_fitting 26 = .ok (.getfield 9, 3) := by decide +kernel
theorem dX12_fitting_29 : decode cX12_fitting 29 = .ok (.iload_n 2, 1) := by decide +kernel
theorem dX12_fitting_30 : decode cX12_fitting 30 = .ok (.iload 9, 2) := by decide +kernel
theorem dX12_fitting_32 : decode cX12_fitting 32 = .ok (.iastore, 1) := by decide +kernel
theorem dX12_fitting_33 : decode cX12_fitting 33 = .ok (.aload_n 0, 1) := by decide +kernel
theorem dX12_fitting_34 : decode cX12_fitting 34 = .ok (.iload_n 1, 1) := by decide +kernel
theorem dX12_fitting_35 : decode cX12_fitting 35 = .ok (.invokevirtual 196, 3) := by decide +kernel
theorem dX12_fitting_38 : decode cX12_fitting 38 = .ok (.istore 10, 2) := by decide +kernel
theorem dX12_fitting_40 : decode cX12_fitting 40 = .ok (.iload 7, 2) := by decide +kernel
theorem dX12_fitting_42 : decode cX12_fitting 42 = .ok (.iload 10, 2) := by decide +kernel
theorem dX12_fitting_44 : decode cX12_fitting 44 = .ok (.ifCond .eq 7, 3) := by decide +kernel
theorem dX12_fitting_47 : decode cX12_fitting 47 = .ok (.iconst 1, 1) := by decide +kernel
theorem dX12_fitting_48 : decode cX12_fitting 48 = .ok (.goto 4, 3) := by decide +kernel
theorem dX12_fitting_51 : decode cX12_fitting 51 = .ok (.iconst 0, 1) := by decide +kernel
theorem dX12_fitting_52 : decode cX12_fitting 52 = .ok (.iadd, 1) := by decide +kernel
theorem dX12_fitting_53 : decode cX12_fitting 53 = .ok (.istore 7, 2) := by decide +kernel
theorem dX12_fitting_55 : decode cX12_fitting 55 = .ok (.iload 10, 2) := by decide +kernel
theorem dX12_fitting_57 : decode cX12_fitting 57 = .ok (.ifCond .eq 8, 3) := by decide +kernel
theorem dX12_fitting_60 : decode cX12_fitting 60 = .ok (.iload 9, 2) := by decide +kernel
theorem dX12_fitting_62 : decode cX12_fitting 62 = .ok (.goto 5, 3) := by decide +kernel
theorem dX12_fitting_65 : decode cX12_fitting 65 = .ok (.iload 8, 2) := by decide +kernel
theorem dX12_fitting_67 : decode cX12_fitting 67 = .ok (.istore 8, 2) := by decide +kernel
theorem dX12_fitting_69 : decode cX12_fitting 69 = .ok (.iinc 9 (-1), 3) := by decide +kernel
theorem dX12_fitting_72 : decode cX12_fitting 72 = .ok (.goto (-53), 3) := by decide +kernel
theorem dX12_fitting_75 : decode cX12_fitting 75 = .ok (.aload_n 0, 1) := by decide +kernel
theorem dX12_fitting_76 : decode cX12_fitting 76 = .ok (.getfield 9, 3) := by decide +kernel
theorem dX12_fitting_79 : decode cX12_fitting 79 = .ok (.iload_n 2, 1) := by decide +kernel
theorem dX12_fitting_80 : decode cX12_fitting 80 = .ok (.iload 6, 2) := by decide +kernel
theorem dX12_fitting_82 : decode cX12_fitting 82 = .ok (.iastore, 1) := by decide +kernel
theorem dX12_fitting_83 : decode cX12_fitting 83 = .ok (.iload 5, 2) := by decide +kernel
theorem dX12_fitting_85 : decode cX12_fitting 85 = .ok (.ifCond .ne 8, 3) := by decide +kernel
theorem dX12_fitting_88 : decode cX12_fitting 88 = .ok (.iload 7, 2) := by decide +kernel
theorem dX12_fitting_90 : decode cX12_fitting 90 = .ok (.goto 5, 3) := by decide +kernel
theorem dX12_fitting_93 : decode cX12_fitting 93 = .ok (.iload 8, 2) := by decide +kernel
theorem dX12_fitting_95 : decode cX12_fitting 95 = .ok (.ireturn, 1) := by decide +kernel
theorem dX12_rounds_0 : decode cX12_rounds 0 = .ok (.aload_n 0, 1) := by decide +kernel
theorem dX12_rounds_1 : decode cX12_rounds 1 = .ok (.iload_n 1, 1) := by decide +kernel
theorem dX12_rounds_2 : decode cX12_rounds 2 = .ok (.invokevirtual 148, 3) := by decide +kernel
theorem dX12_rounds_5 : decode cX12_rounds 5 = .ok (.ifCond .eq 28, 3) := by decide +kernel
theorem dX12_rounds_8 : decode cX12_rounds 8 = .ok (.iload_n 2, 1) := by decide +kernel
theorem dX12_rounds_9 : decode cX12_rounds 9 = .ok (.iconst 0, 1) := by decide +kernel
theorem dX12_rounds_10 : decode cX12_rounds 10 = .ok (.iconst 1, 1) := by decide +kernel
theorem dX12_rounds_11 : decode cX12_rounds 11 = .ok (.invokestatic 41, 3) := by decide +kernel
theorem dX12_rounds_14 : decode cX12_rounds 14 = .ok (.ifCond .eq 19, 3) := by decide +kernel
theorem dX12_rounds_17 : decode cX12_rounds 17 = .ok (.aload_n 0, 1) := by decide +kernel
theorem dX12_rounds_18 : decode cX12_rounds 18 = .ok (.iload_n 1, 1) := by decide +kernel
theorem dX12_rounds_19 : decode cX12_rounds 19 = .ok (.bipush 28, 2) := by decide +kernel
theorem dX12_rounds_21 : decode cX12_rounds 21 = .ok (.iload_n 1, 1) := by decide +kernel
theorem dX12_rounds_22 : decode cX12_rounds 22 = .ok (.iadd, 1) := by decide +kernel
theorem dX12_rounds_23 : decode cX12_rounds 23 = .ok (.iconst 1, 1) := by decide +kernel
theorem dX12_rounds_24 : decode cX12_rounds 24 = .ok (.bipush 30, 2) := by decide +kernel
theorem dX12_rounds_26 : decode cX12_rounds 26 = .ok (.iload_n 2, 1) := by decide +kernel
theorem dX12_rounds_27 : decode cX12_rounds 27 = .ok (.invokevirtual 199, 3) := by decide +kernel
theorem dX12_rounds_30 : decode cX12_rounds 30 = .ok (.goto 4, 3) := by decide +kernel
theorem dX12_rounds_33 : decode cX12_rounds 33 = .ok (.iconst (-1), 1) := by decide +kernel
theorem dX12_rounds_34 : decode cX12_rounds 34 = .ok (.ireturn, 1) := by decide +kernel
theorem dX12_phases_0 : decode cX12_phases 0 = .ok (.aload_n 0, 1) := by decide +kernel
theorem dX12_phases_1 : decode cX12_phases 1 = .ok (.iload_n 1, 1) := by decide +kernel
theorem dX12_phases_2 : decode cX12_phases 2 = .ok (.invokevirtual 148, 3) := by decide +kernel
theorem dX12_phases_5 : decode cX12_phases 5 = .ok (.ifCond .eq 28, 3) := by decide +kernel
theorem dX12_phases_8 : decode cX12_phases 8 = .ok (.iload_n 2, 1) := by decide +kernel
theorem dX12_phases_9 : decode cX12_phases 9 = .ok (.iconst 0, 1) := by decide +kernel
theorem dX12_phases_10 : decode cX12_phases 10 = .ok (.iconst 1, 1) := by decide +kernel
theorem dX12_phases_11 : decode cX12_phases 11 = .ok (.invokestatic 41, 3) := by decide +kernel
theorem dX12_phases_14 : decode cX12_phases 14 = .ok (.ifCond .eq 19, 3) := by decide +kernel
theorem dX12_phases_17 : decode cX12_phases 17 = .ok (.aload_n 0, 1) := by decide +kernel
theorem dX12_phases_18 : decode cX12_phases 18 = .ok (.iload_n 1, 1) := by decide +kernel
theorem dX12_phases_19 : decode cX12_phases 19 = .ok (.bipush 34, 2) := by decide +kernel
theorem dX12_phases_21 : decode cX12_phases 21 = .ok (.iload_n 1, 1) := by decide +kernel
theorem dX12_phases_22 : decode cX12_phases 22 = .ok (.iadd, 1) := by decide +kernel
theorem dX12_phases_23 : decode cX12_phases 23 = .ok (.iconst 0, 1) := by decide +kernel
theorem dX12_phases_24 : decode cX12_phases 24 = .ok (.bipush 29, 2) := by decide +kernel
theorem dX12_phases_26 : decode cX12_phases 26 = .ok (.iload_n 2, 1) := by decide +kernel
theorem dX12_phases_27 : decode cX12_phases 27 = .ok (.invokevirtual 199, 3) := by decide +kernel
theorem dX12_phases_30 : decode cX12_phases 30 = .ok (.goto 4, 3) := by decide +kernel
theorem dX12_phases_33 : decode cX12_phases 33 = .ok (.iconst (-1), 1) := by decide +kernel
theorem dX12_phases_34 : decode cX12_phases 34 = .ok (.ireturn, 1) := by decide +kernel
theorem dX12_firm_0 : decode cX12_firm 0 = .ok (.aload_n 0, 1) := by decide +kernel
theorem dX12_firm_1 : decode cX12_firm 1 = .ok (.iload_n 1, 1) := by decide +kernel
theorem dX12_firm_2 : decode cX12_firm 2 = .ok (.invokevirtual 148, 3) := by decide +kernel
theorem dX12_firm_5 : decode cX12_firm 5 = .ok (.ifCond .eq 28, 3) := by decide +kernel
theorem dX12_firm_8 : decode cX12_firm 8 = .ok (.iload_n 2, 1) := by decide +kernel
theorem dX12_firm_9 : decode cX12_firm 9 = .ok (.iconst 0, 1) := by decide +kernel
theorem dX12_firm_10 : decode cX12_firm 10 = .ok (.iconst 1, 1) := by decide +kernel
theorem dX12_firm_11 : decode cX12_firm 11 = .ok (.invokestatic 41, 3) := by decide +kernel
theorem dX12_firm_14 : decode cX12_firm 14 = .ok (.ifCond .eq 19, 3) := by decide +kernel
theorem dX12_firm_17 : decode cX12_firm 17 = .ok (.aload_n 0, 1) := by decide +kernel
theorem dX12_firm_18 : decode cX12_firm 18 = .ok (.iload_n 1, 1) := by decide +kernel
theorem dX12_firm_19 : decode cX12_firm 19 = .ok (.bipush 22, 2) := by decide +kernel
theorem dX12_firm_21 : decode cX12_firm 21 = .ok (.iload_n 1, 1) := by decide +kernel
theorem dX12_firm_22 : decode cX12_firm 22 = .ok (.iadd, 1) := by decide +kernel
theorem dX12_firm_23 : decode cX12_firm 23 = .ok (.iconst 0, 1) := by decide +kernel
theorem dX12_firm_24 : decode cX12_firm 24 = .ok (.bipush 9, 2) := by decide +kernel
theorem dX12_firm_26 : decode cX12_firm 26 = .ok (.iload_n 2, 1) := by decide +kernel
theorem dX12_firm_27 : decode cX12_firm 27 = .ok (.invokevirtual 199, 3) := by decide +kernel
theorem dX12_firm_30 : decode cX12_firm 30 = .ok (.goto 4, 3) := by decide +kernel
theorem dX12_firm_33 : decode cX12_firm 33 = .ok (.iconst (-1), 1) := by decide +kernel
theorem dX12_firm_34 : decode cX12_firm 34 = .ok (.ireturn, 1) := by decide +kernel
theorem dX12_lowest_0 : decode cX12_lowest 0 = .ok (.lload_n 0, 1) := by decide +kernel
theorem dX12_lowest_1 : decode cX12_lowest 1 = .ok (.lconst 0, 1) := by decide +kernel
theorem dX12_lowest_2 : decode cX12_lowest 2 = .ok (.lcmp, 1) := by decide +kernel
theorem dX12_lowest_3 : decode cX12_lowest 3 = .ok (.ifCond .ge 8, 3) := by decide +kernel
theorem dX12_lowest_6 : decode cX12_lowest 6 = .ok (.lload_n 0, 1) := by decide +kernel
theorem dX12_lowest_7 : decode cX12_lowest 7 = .ok (.lneg, 1) := by decide +kernel
theorem dX12_lowest_8 : decode cX12_lowest 8 = .ok (.goto 4, 3) := by decide +kernel
theorem dX12_lowest_11 : decode cX12_lowest 11 = .ok (.lload_n 0, 1) := by decide +kernel
theorem dX12_lowest_12 : decode cX12_lowest 12 = .ok (.lstore 5, 2) := by decide +kernel
theorem dX12_lowest_14 : decode cX12_lowest 14 = .ok (.lload_n 2, 1) := by decide +kernel
theorem dX12_lowest_15 : decode cX12_lowest 15 = .ok (.lstore 7, 2) := by decide +kernel
theorem dX12_lowest_17 : decode cX12_lowest 17 = .ok (.lload 7, 2) := by decide +kernel
theorem dX12_lowest_19 : decode cX12_lowest 19 = .ok (.lconst 0, 1) := by decide +kernel
theorem dX12_lowest_20 : decode cX12_lowest 20 = .ok (.lcmp, 1) := by decide +kernel
theorem dX12_lowest_21 : decode cX12_lowest 21 = .ok (.ifCond .eq 21, 3) := by decide +kernel
theorem dX12_lowest_24 : decode cX12_lowest 24 = .ok (.lload 5, 2) := by decide +kernel
theorem dX12_lowest_26 : decode cX12_lowest 26 = .ok (.lload 7, 2) := by decide +kernel
theorem dX12_lowest_28 : decode cX12_lowest 28 = .ok (.lrem, 1) := by decide +kernel
theorem dX12_lowest_29 : decode cX12_lowest 29 = .ok (.lstore 9, 2) := by decide +kernel
theorem dX12_lowest_31 : decode cX12_lowest 31 = .ok (.lload 7, 2) := by decide +kernel
theorem dX12_lowest_33 : decode cX12_lowest 33 = .ok (.lstore 5, 2) := by decide +kernel
theorem dX12_lowest_35 : decode cX12_lowest 35 = .ok (.lload 9, 2) := by decide +kernel
theorem dX12_lowest_37 : decode cX12_lowest 37 = .ok (.lstore 7, 2) := by decide +kernel
theorem dX12_lowest_39 : decode cX12_lowest 39 = .ok (.goto (-22), 3) := by decide +kernel
theorem dX12_lowest_42 : decode cX12_lowest 42 = .ok (.iload 4, 2) := by decide +kernel
theorem dX12_lowest_44 : decode cX12_lowest 44 = .ok (.ifCond .ne 7, 3) := by decide +kernel
theorem dX12_lowest_47 : decode cX12_lowest 47 = .ok (.lload_n 0, 1) := by decide +kernel
theorem dX12_lowest_48 : decode cX12_lowest 48 = .ok (.goto 4, 3) := by decide +kernel
theorem dX12_lowest_51 : decode cX12_lowest 51 = .ok (.lload_n 2, 1) := by decide +kernel
theorem dX12_lowest_52 : decode cX12_lowest 52 = .ok (.lload 5, 2) := by decide +kernel
theorem dX12_lowest_54 : decode cX12_lowest 54 = .ok (.ldiv, 1) := by decide +kernel
theorem dX12_lowest_55 : decode cX12_lowest 55 = .ok (.lreturn, 1) := by decide +kernel
theorem dX12_odds_0 : decode cX12_odds 0 = .ok (.iload_n 1, 1) := by decide +kernel
theorem dX12_odds_1 : decode cX12_odds 1 = .ok (.invokestatic 151, 3) := by decide +kernel
theorem dX12_odds_4 : decode cX12_odds 4 = .ok (.ifCond .eq 34, 3) := by decide +kernel
theorem dX12_odds_7 : decode cX12_odds 7 = .ok (.iload_n 2, 1) := by decide +kernel
theorem dX12_odds_8 : decode cX12_odds 8 = .ok (.iconst 0, 1) := by decide +kernel
theorem dX12_odds_9 : decode cX12_odds 9 = .ok (.bipush 60, 2) := by decide +kernel
theorem dX12_odds_11 : decode cX12_odds 11 = .ok (.invokestatic 41, 3) := by decide +kernel
theorem dX12_odds_14 : decode cX12_odds 14 = .ok (.ifCond .eq 24, 3) := by decide +kernel
theorem dX12_odds_17 : decode cX12_odds 17 = .ok (.iload_n 3, 1) := by decide +kernel
theorem dX12_odds_18 : decode cX12_odds 18 = .ok (.iconst 0, 1) := by decide +kernel
theorem dX12_odds_19 : decode cX12_odds 19 = .ok (.sipush 9999, 3) := by decide +kernel
theorem dX12_odds_22 : decode cX12_odds 22 = .ok (.invokestatic 41, 3) := by decide +kernel
theorem dX12_odds_25 : decode cX12_odds 25 = .ok (.ifCond .eq 13, 3) := by decide +kernel
theorem dX12_odds_28 : decode cX12_odds 28 = .ok (.iload 4, 2) := by decide +kernel
theorem dX12_odds_30 : decode cX12_odds 30 = .ok (.iconst 0, 1) := by decide +kernel
theorem dX12_odds_31 : decode cX12_odds 31 = .ok (.iconst 1, 1) := by decide +kernel
theorem dX12_odds_32 : decode cX12_odds 32 = .ok (.invokestatic 41, 3) := by decide +kernel
theorem dX12_odds_35 : decode cX12_odds 35 = .ok (.ifCond .ne 7, 3) := by decide +kernel
theorem dX12_odds_38 : decode cX12_odds 38 = .ok (.ldc2_w 203, 3) := by decide +kernel
theorem dX12_odds_41 : decode cX12_odds 41 = .ok (.lreturn, 1) := by decide +kernel
theorem dX12_odds_42 : decode cX12_odds 42 = .ok (.lconst 0, 1) := by decide +kernel
theorem dX12_odds_43 : decode cX12_odds 43 = .ok (.lstore 5, 2) := by decide +kernel
theorem dX12_odds_45 : decode cX12_odds 45 = .ok (.aload_n 0, 1) := by decide +kernel
theorem dX12_odds_46 : decode cX12_odds 46 = .ok (.iconst 0, 1) := by decide +kernel
theorem dX12_odds_47 : decode cX12_odds 47 = .ok (.putfield 49, 3) := by decide +kernel
theorem dX12_odds_50 : decode cX12_odds 50 = .ok (.aload_n 0, 1) := by decide +kernel
theorem dX12_odds_51 : decode cX12_odds 51 = .ok (.getfield 49, 3) := by decide +kernel
theorem dX12_odds_54 : decode cX12_odds 54 = .ok (.bipush 12, 2) := by decide +kernel
theorem dX12_odds_56 : decode cX12_odds 56 = .ok (.if_icmp .gt 60, 3) := by decide +kernel
theorem dX12_odds_59 : decode cX12_odds 59 = .ok (.aload_n 0, 1) := by decide +kernel
theorem dX12_odds_60 : decode cX12_odds 60 = .ok (.invokevirtual 175, 3) := by decide +kernel
theorem dX12_odds_63 : decode cX12_odds 63 = .ok (.aload_n 0, 1) := by decide +kernel
theorem dX12_odds_64 : decode cX12_odds 64 = .ok (.iload_n 2, 1) := by decide +kernel
theorem dX12_odds_65 : decode cX12_odds 65 = .ok (.invokevirtual 178, 3) := by decide +kernel
theorem dX12_odds_68 : decode cX12_odds 68 = .ok (.lload 5, 2) := by decide +kernel
theorem dX12_odds_70 : decode cX12_odds 70 = .ok (.aload_n 0, 1) := by decide +kernel
theorem dX12_odds_71 : decode cX12_odds 71 = .ok (.getfield 9, 3) := by decide +kernel
theorem dX12_odds_74 : decode cX12_odds 74 = .ok (.iconst 1, 1) := by decide +kernel
theorem dX12_odds_75 : decode cX12_odds 75 = .ok (.iload_n 1, 1) := by decide +kernel
theorem dX12_odds_76 : decode cX12_odds 76 = .ok (.iadd, 1) := by decide +kernel
theorem dX12_odds_77 : decode cX12_odds 77 = .ok (.iaload, 1) := by decide +kernel
theorem dX12_odds_78 : decode cX12_odds 78 = .ok (.aload_n 0, 1) := by decide +kernel
theorem dX12_odds_79 : decode cX12_odds 79 = .ok (.getfield 18, 3) := by decide +kernel
theorem dX12_odds_82 : decode cX12_odds 82 = .ok (.iconst 1, 1) := by decide +kernel
theorem dX12_odds_83 : decode cX12_odds 83 = .ok (.iload_n 1, 1) := by decide +kernel
theorem dX12_odds_84 : decode cX12_odds 84 = .ok (.iadd, 1) := by decide +kernel
theorem dX12_odds_85 : decode cX12_odds 85 = .ok (.iaload, 1) := by decide +kernel
theorem dX12_odds_86 : decode cX12_odds 86 = .ok (.isub, 1) := by decide +kernel
theorem dX12_odds_87 : decode cX12_odds 87 = .ok (.iload_n 3, 1) := by decide +kernel
theorem dX12_odds_88 : decode cX12_odds 88 = .ok (.if_icmp .lt 7, 3) := by decide +kernel
theorem dX12_odds_91 : decode cX12_odds 91 = .ok (.lconst 1, 1) := by decide +kernel
theorem dX12_odds_92 : decode cX12_odds 92 = .ok (.goto 4, 3) := by decide +kernel
theorem dX12_odds_95 : decode cX12_odds 95 = .ok (.lconst 0, 1) := by decide +kernel
theorem dX12_odds_96 : decode cX12_odds 96 = .ok (.ladd, 1) := by decide +kernel
theorem dX12_odds_97 : decode cX12_odds 97 = .ok (.lstore 5, 2) := by decide +kernel
theorem dX12_odds_99 : decode cX12_odds 99 = .ok (.aload_n 0, 1) := by decide +kernel
theorem dX12_odds_100 : decode cX12_odds 100 = .ok (.invokevirtual 184, 3) := by decide +kernel
theorem dX12_odds_103 : decode cX12_odds 103 = .ok (.aload_n 0, 1) := by decide +kernel
theorem dX12_odds_104 : decode cX12_odds 104 = .ok (.dup, 1) := by decide +kernel
theorem dX12_odds_105 : decode cX12_odds 105 = .ok (.getfield 49, 3) := by decide +kernel
theorem dX12_odds_108 : decode cX12_odds 108 = .ok (.iconst 1, 1) := by decide +kernel
theorem dX12_odds_109 : decode cX12_odds 109 = .ok (.iadd, 1) := by decide +kernel
theorem dX12_odds_110 : decode cX12_odds 110 = .ok (.putfield 49, 3) := by decide +kernel
theorem dX12_odds_113 : decode cX12_odds 113 = .ok (.goto (-63), 3) := by decide +kernel
theorem dX12_odds_116 : decode cX12_odds 116 = .ok (.lload 5, 2) := by decide +kernel
theorem dX12_odds_118 : decode cX12_odds 118 = .ok (.ldc2_w 205, 3) := by decide +kernel
theorem dX12_odds_121 : decode cX12_odds 121 = .ok (.iload 4, 2) := by decide +kernel
theorem dX12_odds_123 : decode cX12_odds 123 = .ok (.invokestatic 207, 3) := by decide +kernel
theorem dX12_odds_126 : decode cX12_odds 126 = .ok (.lreturn, 1) := by decide +kernel
theorem dX12_mean_0 : decode cX12_mean 0 = .ok (.iload_n 1, 1) := by decide +kernel
theorem dX12_mean_1 : decode cX12_mean 1 = .ok (.invokestatic 151, 3) := by decide +kernel
theorem dX12_mean_4 : decode cX12_mean 4 = .ok (.ifCond .eq 12, 3) := by decide +kernel
theorem dX12_mean_7 : decode cX12_mean 7 = .ok (.iload_n 2, 1) := by decide +kernel
theorem dX12_mean_8 : decode cX12_mean 8 = .ok (.iconst 0, 1) := by decide +kernel
theorem dX12_mean_9 : decode cX12_mean 9 = .ok (.iconst 1, 1) := by decide +kernel
theorem dX12_mean_10 : decode cX12_mean 10 = .ok (.invokestatic 41, 3) := by decide +kernel
theorem dX12_mean_13 : decode cX12_mean 13 = .ok (.ifCond .ne 7, 3) := by decide +kernel
theorem dX12_mean_16 : decode cX12_mean 16 = .ok (.ldc2_w 203, 3) := by decide +kernel
theorem dX12_mean_19 : decode cX12_mean 19 = .ok (.lreturn, 1) := by decide +kernel
theorem dX12_mean_20 : decode cX12_mean 20 = .ok (.aload_n 0, 1) := by decide +kernel
theorem dX12_mean_21 : decode cX12_mean 21 = .ok (.invokevirtual 155, 3) := by decide +kernel
theorem dX12_mean_24 : decode cX12_mean 24 = .ok (.lconst 0, 1) := by decide +kernel
theorem dX12_mean_25 : decode cX12_mean 25 = .ok (.lstore_n 3, 1) := by decide +kernel
theorem dX12_mean_26 : decode cX12_mean 26 = .ok (.iconst 0, 1) := by decide +kernel
theorem dX12_mean_27 : decode cX12_mean 27 = .ok (.istore 5, 2) := by decide +kernel
theorem dX12_mean_29 : decode cX12_mean 29 = .ok (.iload 5, 2) := by decide +kernel
theorem dX12_mean_31 : decode cX12_mean 31 = .ok (.bipush 28, 2) := by decide +kernel
theorem dX12_mean_33 : decode cX12_mean 33 = .ok (.if_icmp .ge 27, 3) := by decide +kernel
theorem dX12_mean_36 : decode cX12_mean 36 = .ok (.lload_n 3, 1) := by decide +kernel
theorem dX12_mean_37 : decode cX12_mean 37 = .ok (.aload_n 0, 1) := by decide +kernel
theorem dX12_mean_38 : decode cX12_mean 38 = .ok (.aload_n 0, 1) := by decide +kernel
theorem dX12_mean_39 : decode cX12_mean 39 = .ok (.getfield 9, 3) := by decide +kernel
theorem dX12_mean_42 : decode cX12_mean 42 = .ok (.iconst 0, 1) := by decide +kernel
theorem dX12_mean_43 : decode cX12_mean 43 = .ok (.iaload, 1) := by decide +kernel
theorem dX12_mean_44 : decode cX12_mean 44 = .ok (.iload 5, 2) := by decide +kernel
theorem dX12_mean_46 : decode cX12_mean 46 = .ok (.iadd, 1) := by decide +kernel
theorem dX12_mean_47 : decode cX12_mean 47 = .ok (.iload_n 1, 1) := by decide +kernel
theorem dX12_mean_48 : decode cX12_mean 48 = .ok (.invokevirtual 165, 3) := by decide +kernel
theorem dX12_mean_51 : decode cX12_mean 51 = .ok (.i2l, 1) := by decide +kernel
theorem dX12_mean_52 : decode cX12_mean 52 = .ok (.ladd, 1) := by decide +kernel
theorem dX12_mean_53 : decode cX12_mean 53 = .ok (.lstore_n 3, 1) := by decide +kernel
theorem dX12_mean_54 : decode cX12_mean 54 = .ok (.iinc 5 1, 3) := by decide +kernel
theorem dX12_mean_57 : decode cX12_mean 57 = .ok (.goto (-28), 3) := by decide +kernel
theorem dX12_mean_60 : decode cX12_mean 60 = .ok (.lload_n 3, 1) := by decide +kernel
theorem dX12_mean_61 : decode cX12_mean 61 = .ok (.ldc2_w 211, 3) := by decide +kernel
theorem dX12_mean_64 : decode cX12_mean 64 = .ok (.iload_n 2, 1) := by decide +kernel
theorem dX12_mean_65 : decode cX12_mean 65 = .ok (.invokestatic 207, 3) := by decide +kernel
theorem dX12_mean_68 : decode cX12_mean 68 = .ok (.lreturn, 1) := by decide +kernel
theorem dX12_plan_0 : decode cX12_plan 0 = .ok (.iload_n 1, 1) := by decide +kernel
theorem dX12_plan_1 : decode cX12_plan 1 = .ok (.iconst (-1), 1) := by decide +kernel
theorem dX12_plan_2 : decode cX12_plan 2 = .ok (.if_icmp .ne 13, 3) := by decide +kernel
theorem dX12_plan_5 : decode cX12_plan 5 = .ok (.aload_n 0, 1) := by decide +kernel
theorem dX12_plan_6 : decode cX12_plan 6 = .ok (.getfield 9, 3) := by decide +kernel
theorem dX12_plan_9 : decode cX12_plan 9 = .ok (.bipush 12, 2) := by decide +kernel
theorem dX12_plan_11 : decode cX12_plan 11 = .ok (.iconst 0, 1) := by decide +kernel
theorem dX12_plan_12 : decode cX12_plan 12 = .ok (.iastore, 1) := by decide +kernel
theorem dX12_plan_13 : decode cX12_plan 13 = .ok (.iconst 0, 1) := by decide +kernel
theorem dX12_plan_14 : decode cX12_plan 14 = .ok (.ireturn, 1) := by decide +kernel
theorem dX12_plan_15 : decode cX12_plan 15 = .ok (.iload_n 1, 1) := by decide +kernel
theorem dX12_plan_16 : decode cX12_plan 16 = .ok (.iconst 0, 1) := by decide +kernel
theorem dX12_plan_17 : decode cX12_plan 17 = .ok (.iconst 2, 1) := by decide +kernel
theorem dX12_plan_18 : decode cX12_plan 18 = .ok (.invokestatic 41, 3) := by decide +kernel
theorem dX12_plan_21 : decode cX12_plan 21 = .ok (.ifCond .eq 15, 3) := by decide +kernel
theorem dX12_plan_24 : decode cX12_plan 24 = .ok (.iload_n 1, 1) := by decide +kernel
theorem dX12_plan_25 : decode cX12_plan 25 = .ok (.ifCond .le 13, 3) := by decide +kernel
theorem dX12_plan_28 : decode cX12_plan 28 = .ok (.aload_n 0, 1) := by decide +kernel
theorem dX12_plan_29 : decode cX12_plan 29 = .ok (.iload_n 2, 1) := by decide +kernel
theorem dX12_plan_30 : decode cX12_plan 30 = .ok (.invokevirtual 148, 3) := by decide +kernel
theorem dX12_plan_33 : decode cX12_plan 33 = .ok (.ifCond .ne 5, 3) := by decide +kernel
theorem dX12_plan_36 : decode cX12_plan 36 = .ok (.iconst (-1), 1) := by decide +kernel
theorem dX12_plan_37 : decode cX12_plan 37 = .ok (.ireturn, 1) := by decide +kernel
theorem dX12_plan_38 : decode cX12_plan 38 = .ok (.aload_n 0, 1) := by decide +kernel
theorem dX12_plan_39 : decode cX12_plan 39 = .ok (.getfield 9, 3) := by decide +kernel
theorem dX12_plan_42 : decode cX12_plan 42 = .ok (.bipush 12, 2) := by decide +kernel
theorem dX12_plan_44 : decode cX12_plan 44 = .ok (.iaload, 1) := by decide +kernel
theorem dX12_plan_45 : decode cX12_plan 45 = .ok (.bipush 8, 2) := by decide +kernel
theorem dX12_plan_47 : decode cX12_plan 47 = .ok (.if_icmp .ne 6, 3) := by decide +kernel
theorem dX12_plan_50 : decode cX12_plan 50 = .ok (.bipush (-4), 2) := by decide +kernel
theorem dX12_plan_52 : decode cX12_plan 52 = .ok (.ireturn, 1) := by decide +kernel
theorem dX12_plan_53 : decode cX12_plan 53 = .ok (.aload_n 0, 1) := by decide +kernel
theorem dX12_plan_54 : decode cX12_plan 54 = .ok (.getfield 9, 3) := by decide +kernel
theorem dX12_plan_57 : decode cX12_plan 57 = .ok (.bipush 82, 2) := by decide +kernel
theorem dX12_plan_59 : decode cX12_plan 59 = .ok (.aload_n 0, 1) := by decide +kernel
theorem dX12_plan_60 : decode cX12_plan 60 = .ok (.getfield 9, 3) := by decide +kernel
theorem dX12_plan_63 : decode cX12_plan 63 = .ok (.bipush 12, 2) := by decide +kernel
theorem dX12_plan_65 : decode cX12_plan 65 = .ok (.iaload, 1) := by decide +kernel
theorem dX12_plan_66 : decode cX12_plan 66 = .ok (.iadd, 1) := by decide +kernel
theorem dX12_plan_67 : decode cX12_plan 67 = .ok (.iload_n 1, 1) := by decide +kernel
theorem dX12_plan_68 : decode cX12_plan 68 = .ok (.iastore, 1) := by decide +kernel
theorem dX12_plan_69 : decode cX12_plan 69 = .ok (.aload_n 0, 1) := by decide +kernel
theorem dX12_plan_70 : decode cX12_plan 70 = .ok (.getfield 9, 3) := by decide +kernel
theorem dX12_plan_73 : decode cX12_plan 73 = .ok (.bipush 90, 2) := by decide +kernel
theorem dX12_plan_75 : decode cX12_plan 75 = .ok (.aload_n 0, 1) := by decide +kernel
theorem dX12_plan_76 : decode cX12_plan 76 = .ok (.getfield 9, 3) := by decide +kernel
theorem dX12_plan_79 : decode cX12_plan 79 = .ok (.bipush 12, 2) := by decide +kernel
theorem dX12_plan_81 : decode cX12_plan 81 = .ok (.iaload, 1) := by decide +kernel
theorem dX12_plan_82 : decode cX12_plan 82 = .ok (.iadd, 1) := by decide +kernel
theorem dX12_plan_83 : decode cX12_plan 83 = .ok (.iload_n 2, 1) := by decide +kernel
theorem dX12_plan_84 : decode cX12_plan 84 = .ok (.iastore, 1) := by decide +kernel
theorem dX12_plan_85 : decode cX12_plan 85 = .ok (.aload_n 0, 1) := by decide +kernel
theorem dX12_plan_86 : decode cX12_plan 86 = .ok (.getfield 9, 3) := by decide +kernel
theorem dX12_plan_89 : decode cX12_plan 89 = .ok (.bipush 12, 2) := by decide +kernel
theorem dX12_plan_91 : decode cX12_plan 91 = .ok (.dup2, 1) := by decide +kernel
theorem dX12_plan_92 : decode cX12_plan 92 = .ok (.iaload, 1) := by decide +kernel
theorem dX12_plan_93 : decode cX12_plan 93 = .ok (.iconst 1, 1) := by decide +kernel
theorem dX12_plan_94 : decode cX12_plan 94 = .ok (.iadd, 1) := by decide +kernel
theorem dX12_plan_95 : decode cX12_plan 95 = .ok (.iastore, 1) := by decide +kernel
theorem dX12_plan_96 : decode cX12_plan 96 = .ok (.aload_n 0, 1) := by decide +kernel
theorem dX12_plan_97 : decode cX12_plan 97 = .ok (.getfield 9, 3) := by decide +kernel
theorem dX12_plan_100 : decode cX12_plan 100 = .ok (.bipush 12, 2) := by decide +kernel
theorem dX12_plan_102 : decode cX12_plan 102 = .ok (.iaload, 1) := by decide +kernel
theorem dX12_plan_103 : decode cX12_plan 103 = .ok (.ireturn, 1) := by decide +kernel
theorem dX12_goesBy_0 : decode cX12_goesBy 0 = .ok (.iload_n 1, 1) := by decide +kernel
theorem dX12_goesBy_1 : decode cX12_goesBy 1 = .ok (.ifCond .ne 10, 3) := by decide +kernel
theorem dX12_goesBy_4 : decode cX12_goesBy 4 = .ok (.aload_n 0, 1) := by decide +kernel
theorem dX12_goesBy_5 : decode cX12_goesBy 5 = .ok (.invokevirtual 168, 3) := by decide +kernel
theorem dX12_goesBy_8 : decode cX12_goesBy 8 = .ok (.goto 21, 3) := by decide +kernel
theorem dX12_goesBy_11 : decode cX12_goesBy 11 = .ok (.aload_n 0, 1) := by decide +kernel
theorem dX12_goesBy_12 : decode cX12_goesBy 12 = .ok (.getfield 9, 3) := by decide +kernel
theorem dX12_goesBy_15 : decode cX12_goesBy 15 = .ok (.iconst 3, 1) := by decide +kernel
theorem dX12_goesBy_16 : decode cX12_goesBy 16 = .ok (.iload_n 2, 1) := by decide +kernel
theorem dX12_goesBy_17 : decode cX12_goesBy 17 = .ok (.iadd, 1) := by decide +kernel
theorem dX12_goesBy_18 : decode cX12_goesBy 18 = .ok (.iload_n 1, 1) := by decide +kernel
theorem dX12_goesBy_19 : decode cX12_goesBy 19 = .ok (.iconst 1, 1) := by decide +kernel
theorem dX12_goesBy_20 : decode cX12_goesBy 20 = .ok (.if_icmp .ne 7, 3) := by decide +kernel
theorem dX12_goesBy_23 : decode cX12_goesBy 23 = .ok (.iconst 1, 1) := by decide +kernel
theorem dX12_goesBy_24 : decode cX12_goesBy 24 = .ok (.goto 4, 3) := by decide +kernel
theorem dX12_goesBy_27 : decode cX12_goesBy 27 = .ok (.iconst 0, 1) := by decide +kernel
theorem dX12_goesBy_28 : decode cX12_goesBy 28 = .ok (.iastore, 1) := by decide +kernel
theorem dX12_goesBy_29 : decode cX12_goesBy 29 = .ok (.return_, 1) := by decide +kernel
theorem dX12_done_0 : decode cX12_done 0 = .ok (.iload_n 1, 1) := by decide +kernel
theorem dX12_done_1 : decode cX12_done 1 = .ok (.iconst 0, 1) := by decide +kernel
theorem dX12_done_2 : decode cX12_done 2 = .ok (.iconst 1, 1) := by decide +kernel
theorem dX12_done_3 : decode cX12_done 3 = .ok (.invokestatic 41, 3) := by decide +kernel
theorem dX12_done_6 : decode cX12_done 6 = .ok (.ifCond .ne 5, 3) := by decide +kernel
theorem dX12_done_9 : decode cX12_done 9 = .ok (.iconst (-1), 1) := by decide +kernel
theorem dX12_done_10 : decode cX12_done 10 = .ok (.ireturn, 1) := by decide +kernel
theorem dX12_done_11 : decode cX12_done 11 = .ok (.aload_n 0, 1) := by decide +kernel
theorem dX12_done_12 : decode cX12_done 12 = .ok (.invokevirtual 155, 3) := by decide +kernel
theorem dX12_done_15 : decode cX12_done 15 = .ok (.aload_n 0, 1) := by decide +kernel
theorem dX12_done_16 : decode cX12_done 16 = .ok (.invokevirtual 175, 3) := by decide +kernel
theorem dX12_done_19 : decode cX12_done 19 = .ok (.iconst 0, 1) := by decide +kernel
theorem dX12_done_20 : decode cX12_done 20 = .ok (.istore_n 2, 1) := by decide +kernel
theorem dX12_done_21 : decode cX12_done 21 = .ok (.iload_n 2, 1) := by decide +kernel
theorem dX12_done_22 : decode cX12_done 22 = .ok (.aload_n 0, 1) := by decide +kernel
theorem dX12_done_23 : decode cX12_done 23 = .ok (.getfield 9, 3) := by decide +kernel
theorem dX12_done_26 : decode cX12_done 26 = .ok (.bipush 12, 2) := by decide +kernel
theorem dX12_done_28 : decode cX12_done 28 = .ok (.iaload, 1) := by decide +kernel
theorem dX12_done_29 : decode cX12_done 29 = .ok (.if_icmp .ge 31, 3) := by decide +kernel
theorem dX12_done_32 : decode cX12_done 32 = .ok (.aload_n 0, 1) := by decide +kernel
theorem dX12_done_33 : decode cX12_done 33 = .ok (.aload_n 0, 1) := by decide +kernel
theorem dX12_done_34 : decode cX12_done 34 = .ok (.getfield 9, 3) := by decide +kernel
theorem dX12_done_37 : decode cX12_done 37 = .ok (.bipush 82, 2) := by decide +kernel
theorem dX12_done_39 : decode cX12_done 39 = .ok (.iload_n 2, 1) := by decide +kernel
theorem dX12_done_40 : decode cX12_done 40 = .ok (.iadd, 1) := by decide +kernel
theorem dX12_done_41 : decode cX12_done 41 = .ok (.iaload, 1) := by decide +kernel
theorem dX12_done_42 : decode cX12_done 42 = .ok (.aload_n 0, 1) := by decide +kernel
theorem dX12_done_43 : decode cX12_done 43 = .ok (.getfield 9, 3) := by decide +kernel
theorem dX12_done_46 : decode cX12_done 46 = .ok (.bipush 90, 2) := by decide +kernel
theorem dX12_done_48 : decode cX12_done 48 = .ok (.iload_n 2, 1) := by decide +kernel
theorem dX12_done_49 : decode cX12_done 49 = .ok (.iadd, 1) := by decide +kernel
theorem dX12_done_50 : decode cX12_done 50 = .ok (.iaload, 1) := by decide +kernel
theorem dX12_done_51 : decode cX12_done 51 = .ok (.invokevirtual 213, 3) := by decide +kernel
theorem dX12_done_54 : decode cX12_done 54 = .ok (.iinc 2 1, 3) := by decide +kernel
theorem dX12_done_57 : decode cX12_done 57 = .ok (.goto (-36), 3) := by decide +kernel
theorem dX12_done_60 : decode cX12_done 60 = .ok (.aload_n 0, 1) := by decide +kernel
theorem dX12_done_61 : decode cX12_done 61 = .ok (.getfield 9, 3) := by decide +kernel
theorem dX12_done_64 : decode cX12_done 64 = .ok (.iconst 1, 1) := by decide +kernel
theorem dX12_done_65 : decode cX12_done 65 = .ok (.iload_n 1, 1) := by decide +kernel
theorem dX12_done_66 : decode cX12_done 66 = .ok (.iadd, 1) := by decide +kernel
theorem dX12_done_67 : decode cX12_done 67 = .ok (.iaload, 1) := by decide +kernel
theorem dX12_done_68 : decode cX12_done 68 = .ok (.istore_n 2, 1) := by decide +kernel
theorem dX12_done_69 : decode cX12_done 69 = .ok (.aload_n 0, 1) := by decide +kernel
theorem dX12_done_70 : decode cX12_done 70 = .ok (.invokevirtual 184, 3) := by decide +kernel
theorem dX12_done_73 : decode cX12_done 73 = .ok (.iload_n 2, 1) := by decide +kernel
theorem dX12_done_74 : decode cX12_done 74 = .ok (.ireturn, 1) := by decide +kernel
theorem dX12_book_0 : decode cX12_book 0 = .ok (.iload_n 1, 1) := by decide +kernel
theorem dX12_book_1 : decode cX12_book 1 = .ok (.iconst (-1), 1) := by decide +kernel
theorem dX12_book_2 : decode cX12_book 2 = .ok (.if_icmp .ne 13, 3) := by decide +kernel
theorem dX12_book_5 : decode cX12_book 5 = .ok (.aload_n 0, 1) := by decide +kernel
theorem dX12_book_6 : decode cX12_book 6 = .ok (.getfield 9, 3) := by decide +kernel
theorem dX12_book_9 : decode cX12_book 9 = .ok (.bipush 13, 2) := by decide +kernel
theorem dX12_book_11 : decode cX12_book 11 = .ok (.iconst 0, 1) := by decide +kernel
theorem dX12_book_12 : decode cX12_book 12 = .ok (.iastore, 1) := by decide +kernel
theorem dX12_book_13 : decode cX12_book 13 = .ok (.iconst 0, 1) := by decide +kernel
theorem dX12_book_14 : decode cX12_book 14 = .ok (.ireturn, 1) := by decide +kernel
theorem dX12_book_15 : decode cX12_book 15 = .ok (.iload_n 2, 1) := by decide +kernel
theorem dX12_book_16 : decode cX12_book 16 = .ok (.invokestatic 151, 3) := by decide +kernel
theorem dX12_book_19 : decode cX12_book 19 = .ok (.ifCond .ne 5, 3) := by decide +kernel
theorem dX12_book_22 : decode cX12_book 22 = .ok (.iconst (-1), 1) := by decide +kernel
theorem dX12_book_23 : decode cX12_book 23 = .ok (.ireturn, 1) := by decide +kernel
theorem dX12_book_24 : decode cX12_book 24 = .ok (.iload_n 1, 1) := by decide +kernel
theorem dX12_book_25 : decode cX12_book 25 = .ok (.iconst 0, 1) := by decide +kernel
theorem dX12_book_26 : decode cX12_book 26 = .ok (.bipush 60, 2) := by decide +kernel
theorem dX12_book_28 : decode cX12_book 28 = .ok (.invokestatic 41, 3) := by decide +kernel
theorem dX12_book_31 : decode cX12_book 31 = .ok (.ifCond .ne 6, 3) := by decide +kernel
theorem dX12_book_34 : decode cX12_book 34 = .ok (.bipush (-2), 2) := by decide +kernel
theorem dX12_book_36 : decode cX12_book 36 = .ok (.ireturn, 1) := by decide +kernel
theorem dX12_book_37 : decode cX12_book 37 = .ok (.aload_n 0, 1) := by decide +kernel
theorem dX12_book_38 : decode cX12_book 38 = .ok (.getfield 9, 3) := by decide +kernel
theorem dX12_book_41 : decode cX12_book 41 = .ok (.bipush 13, 2) := by decide +kernel
theorem dX12_book_43 : decode cX12_book 43 = .ok (.iaload, 1) := by decide +kernel
theorem dX12_book_44 : decode cX12_book 44 = .ok (.bipush 8, 2) := by decide +kernel
theorem dX12_book_46 : decode cX12_book 46 = .ok (.if_icmp .ne 6, 3) := by decide +kernel
theorem dX12_book_49 : decode cX12_book 49 = .ok (.bipush (-4), 2) := by decide +kernel
theorem dX12_book_51 : decode cX12_book 51 = .ok (.ireturn, 1) := by decide +kernel
theorem dX12_book_52 : decode cX12_book 52 = .ok (.aload_n 0, 1) := by decide +kernel
theorem dX12_book_53 : decode cX12_book 53 = .ok (.getfield 9, 3) := by decide +kernel
theorem dX12_book_56 : decode cX12_book 56 = .ok (.bipush 98, 2) := by decide +kernel
theorem dX12_book_58 : decode cX12_book 58 = .ok (.aload_n 0, 1) := by decide +kernel
theorem dX12_book_59 : decode cX12_book 59 = .ok (.getfield 9, 3) := by decide +kernel
theorem dX12_book_62 : decode cX12_book 62 = .ok (.bipush 13, 2) := by decide +kernel
theorem dX12_book_64 : decode cX12_book 64 = .ok (.iaload, 1) := by decide +kernel
theorem dX12_book_65 : decode cX12_book 65 = .ok (.iadd, 1) := by decide +kernel
theorem dX12_book_66 : decode cX12_book 66 = .ok (.iload_n 1, 1) := by decide +kernel
theorem dX12_book_67 : decode cX12_book 67 = .ok (.iastore, 1) := by decide +kernel
theorem dX12_book_68 : decode cX12_book 68 = .ok (.aload_n 0, 1) := by decide +kernel
theorem dX12_book_69 : decode cX12_book 69 = .ok (.getfield 9, 3) := by decide +kernel
theorem dX12_book_72 : decode cX12_book 72 = .ok (.bipush 106, 2) := by decide +kernel
theorem dX12_book_74 : decode cX12_book 74 = .ok (.aload_n 0, 1) := by decide +kernel
theorem dX12_book_75 : decode cX12_book 75 = .ok (.getfield 9, 3) := by decide +kernel
theorem dX12_book_78 : decode cX12_book 78 = .ok (.bipush 13, 2) := by decide +kernel
theorem dX12_book_80 : decode cX12_book 80 = .ok (.iaload, 1) := by decide +kernel
theorem dX12_book_81 : decode cX12_book 81 = .ok (.iadd, 1) := by decide +kernel
theorem dX12_book_82 : decode cX12_book 82 = .ok (.iload_n 2, 1) := by decide +kernel
theorem dX12_book_83 : decode cX12_book 83 = .ok (.iastore, 1) := by decide +kernel
theorem dX12_book_84 : decode cX12_book 84 = .ok (.aload_n 0, 1) := by decide +kernel
theorem dX12_book_85 : decode cX12_book 85 = .ok (.getfield 9, 3) := by decide +kernel
theorem dX12_book_88 : decode cX12_book 88 = .ok (.bipush 13, 2) := by decide +kernel
theorem dX12_book_90 : decode cX12_book 90 = .ok (.dup2, 1) := by decide +kernel
theorem dX12_book_91 : decode cX12_book 91 = .ok (.iaload, 1) := by decide +kernel
theorem dX12_book_92 : decode cX12_book 92 = .ok (.iconst 1, 1) := by decide +kernel
theorem dX12_book_93 : decode cX12_book 93 = .ok (.iadd, 1) := by decide +kernel
theorem dX12_book_94 : decode cX12_book 94 = .ok (.iastore, 1) := by decide +kernel
theorem dX12_book_95 : decode cX12_book 95 = .ok (.aload_n 0, 1) := by decide +kernel
theorem dX12_book_96 : decode cX12_book 96 = .ok (.getfield 9, 3) := by decide +kernel
theorem dX12_book_99 : decode cX12_book 99 = .ok (.bipush 13, 2) := by decide +kernel
theorem dX12_book_101 : decode cX12_book 101 = .ok (.iaload, 1) := by decide +kernel
theorem dX12_book_102 : decode cX12_book 102 = .ok (.ireturn, 1) := by decide +kernel
theorem dX12_looked_0 : decode cX12_looked 0 = .ok (.iconst 0, 1) := by decide +kernel
theorem dX12_looked_1 : decode cX12_looked 1 = .ok (.istore_n 1, 1) := by decide +kernel
theorem dX12_looked_2 : decode cX12_looked 2 = .ok (.iload_n 1, 1) := by decide +kernel
theorem dX12_looked_3 : decode cX12_looked 3 = .ok (.aload_n 0, 1) := by decide +kernel
theorem dX12_looked_4 : decode cX12_looked 4 = .ok (.getfield 9, 3) := by decide +kernel
theorem dX12_looked_7 : decode cX12_looked 7 = .ok (.bipush 13, 2) := by decide +kernel
theorem dX12_looked_9 : decode cX12_looked 9 = .ok (.iaload, 1) := by decide +kernel
theorem dX12_looked_10 : decode cX12_looked 10 = .ok (.if_icmp .ge 43, 3) := by decide +kernel
theorem dX12_looked_13 : decode cX12_looked 13 = .ok (.aload_n 0, 1) := by decide +kernel
theorem dX12_looked_14 : decode cX12_looked 14 = .ok (.aload_n 0, 1) := by decide +kernel
theorem dX12_looked_15 : decode cX12_looked 15 = .ok (.getfield 9, 3) := by decide +kernel
theorem dX12_looked_18 : decode cX12_looked 18 = .ok (.iconst 0, 1) := by decide +kernel
theorem dX12_looked_19 : decode cX12_looked 19 = .ok (.iaload, 1) := by decide +kernel
theorem dX12_looked_20 : decode cX12_looked 20 = .ok (.aload_n 0, 1) := by decide +kernel
theorem dX12_looked_21 : decode cX12_looked 21 = .ok (.getfield 9, 3) := by decide +kernel
theorem dX12_looked_24 : decode cX12_looked 24 = .ok (.bipush 98, 2) := by decide +kernel
theorem dX12_looked_26 : decode cX12_looked 26 = .ok (.iload_n 1, 1) := by decide +kernel
theorem dX12_looked_27 : decode cX12_looked 27 = .ok (.iadd, 1) := by decide +kernel
theorem dX12_looked_28 : decode cX12_looked 28 = .ok (.iaload, 1) := by decide +kernel
theorem dX12_looked_29 : decode cX12_looked 29 = .ok (.iadd, 1) := by decide +kernel
theorem dX12_looked_30 : decode cX12_looked 30 = .ok (.invokevirtual 158, 3) := by decide +kernel
theorem dX12_looked_33 : decode cX12_looked 33 = .ok (.aload_n 0, 1) := by decide +kernel
theorem dX12_looked_34 : decode cX12_looked 34 = .ok (.getfield 9, 3) := by decide +kernel
theorem dX12_looked_37 : decode cX12_looked 37 = .ok (.bipush 106, 2) := by decide +kernel
theorem dX12_looked_39 : decode cX12_looked 39 = .ok (.iload_n 1, 1) := by decide +kernel
theorem dX12_looked_40 : decode cX12_looked 40 = .ok (.iadd, 1) := by decide +kernel
theorem dX12_looked_41 : decode cX12_looked 41 = .ok (.iaload, 1) := by decide +kernel
theorem dX12_looked_42 : decode cX12_looked 42 = .ok (.if_icmp .eq 5, 3) := by decide +kernel
theorem dX12_looked_45 : decode cX12_looked 45 = .ok (.iload_n 1, 1) := by decide +kernel
theorem dX12_looked_46 : decode cX12_looked 46 = .ok (.ireturn, 1) := by decide +kernel
theorem dX12_looked_47 : decode cX12_looked 47 = .ok (.iinc 1 1, 3) := by decide +kernel
theorem dX12_looked_50 : decode cX12_looked 50 = .ok (.goto (-48), 3) := by decide +kernel
theorem dX12_looked_53 : decode cX12_looked 53 = .ok (.bipush (-5), 2) := by decide +kernel
theorem dX12_looked_55 : decode cX12_looked 55 = .ok (.ireturn, 1) := by decide +kernel
theorem dX12_ranBody_0 : decode cX12_ranBody 0 = .ok (.aload_n 0, 1) := by decide +kernel
theorem dX12_ranBody_1 : decode cX12_ranBody 1 = .ok (.getfield 217, 3) := by decide +kernel
theorem dX12_ranBody_4 : decode cX12_ranBody 4 = .ok (.bipush 20, 2) := by decide +kernel
theorem dX12_ranBody_6 : decode cX12_ranBody 6 = .ok (.if_icmp .ge 13, 3) := by decide +kernel
theorem dX12_ranBody_9 : decode cX12_ranBody 9 = .ok (.aload_n 0, 1) := by decide +kernel
theorem dX12_ranBody_10 : decode cX12_ranBody 10 = .ok (.getfield 34, 3) := by decide +kernel
theorem dX12_ranBody_13 : decode cX12_ranBody 13 = .ok (.aload_n 0, 1) := by decide +kernel
theorem dX12_ranBody_14 : decode cX12_ranBody 14 = .ok (.getfield 217, 3) := by decide +kernel
theorem dX12_ranBody_17 : decode cX12_ranBody 17 = .ok (.iload_n 1, 1) := by decide +kernel
theorem dX12_ranBody_18 : decode cX12_ranBody 18 = .ok (.iastore, 1) := by decide +kernel
theorem dX12_ranBody_19 : decode cX12_ranBody 19 = .ok (.aload_n 0, 1) := by decide +kernel
theorem dX12_ranBody_20 : decode cX12_ranBody 20 = .ok (.dup, 1) := by decide +kernel
theorem dX12_ranBody_21 : decode cX12_ranBody 21 = .ok (.getfield 217, 3) := by decide +kernel
theorem dX12_ranBody_24 : decode cX12_ranBody 24 = .ok (.iconst 1, 1) := by decide +kernel
theorem dX12_ranBody_25 : decode cX12_ranBody 25 = .ok (.iadd, 1) := by decide +kernel
theorem dX12_ranBody_26 : decode cX12_ranBody 26 = .ok (.putfield 217, 3) := by decide +kernel
theorem dX12_ranBody_29 : decode cX12_ranBody 29 = .ok (.return_, 1) := by decide +kernel
theorem dX12_isUnder_0 : decode cX12_isUnder 0 = .ok (.iload_n 1, 1) := by decide +kernel
theorem dX12_isUnder_1 : decode cX12_isUnder 1 = .ok (.ifCond .eq 24, 3) := by decide +kernel
theorem dX12_isUnder_4 : decode cX12_isUnder 4 = .ok (.iload_n 1, 1) := by decide +kernel
theorem dX12_isUnder_5 : decode cX12_isUnder 5 = .ok (.iload_n 0, 1) := by decide +kernel
theorem dX12_isUnder_6 : decode cX12_isUnder 6 = .ok (.if_icmp .eq 19, 3) := by decide +kernel
theorem dX12_isUnder_9 : decode cX12_isUnder 9 = .ok (.iload_n 1, 1) := by decide +kernel
theorem dX12_isUnder_10 : decode cX12_isUnder 10 = .ok (.ifCond .le 19, 3) := by decide +kernel
theorem dX12_isUnder_13 : decode cX12_isUnder 13 = .ok (.iload_n 1, 1) := by decide +kernel
theorem dX12_isUnder_14 : decode cX12_isUnder 14 = .ok (.iconst 4, 1) := by decide +kernel
theorem dX12_isUnder_15 : decode cX12_isUnder 15 = .ok (.if_icmp .ge 14, 3) := by decide +kernel
theorem dX12_isUnder_18 : decode cX12_isUnder 18 = .ok (.iload_n 0, 1) := by decide +kernel
theorem dX12_isUnder_19 : decode cX12_isUnder 19 = .ok (.iload_n 1, 1) := by decide +kernel
theorem dX12_isUnder_20 : decode cX12_isUnder 20 = .ok (.iconst 3, 1) := by decide +kernel
theorem dX12_isUnder_21 : decode cX12_isUnder 21 = .ok (.iadd, 1) := by decide +kernel
theorem dX12_isUnder_22 : decode cX12_isUnder 22 = .ok (.if_icmp .ne 7, 3) := by decide +kernel
theorem dX12_isUnder_25 : decode cX12_isUnder 25 = .ok (.iconst 1, 1) := by decide +kernel
theorem dX12_isUnder_26 : decode cX12_isUnder 26 = .ok (.goto 4, 3) := by decide +kernel
theorem dX12_isUnder_29 : decode cX12_isUnder 29 = .ok (.iconst 0, 1) := by decide +kernel
theorem dX12_isUnder_30 : decode cX12_isUnder 30 = .ok (.ireturn, 1) := by decide +kernel
theorem dX12_plainGlows_0 : decode cX12_plainGlows 0 = .ok (.aload_n 0, 1) := by decide +kernel
theorem dX12_plainGlows_1 : decode cX12_plainGlows 1 = .ok (.iconst 1, 1) := by decide +kernel
theorem dX12_plainGlows_2 : decode cX12_plainGlows 2 = .ok (.invokevirtual 220, 3) := by decide +kernel
theorem dX12_plainGlows_5 : decode cX12_plainGlows 5 = .ok (.iload_n 1, 1) := by decide +kernel
theorem dX12_plainGlows_6 : decode cX12_plainGlows 6 = .ok (.aload_n 0, 1) := by decide +kernel
theorem dX12_plainGlows_7 : decode cX12_plainGlows 7 = .ok (.getfield 223, 3) := by decide +kernel
theorem dX12_plainGlows_10 : decode cX12_plainGlows 10 = .ok (.iadd, 1) := by decide +kernel
theorem dX12_plainGlows_11 : decode cX12_plainGlows 11 = .ok (.ireturn, 1) := by decide +kernel
theorem dX12_glowsActs_0 : decode cX12_glowsActs 0 = .ok (.aload_n 0, 1) := by decide +kernel
theorem dX12_glowsActs_1 : decode cX12_glowsActs 1 = .ok (.getfield 226, 3) := by decide +kernel
theorem dX12_glowsActs_4 : decode cX12_glowsActs 4 = .ok (.iconst 1, 1) := by decide +kernel
theorem dX12_glowsActs_5 : decode cX12_glowsActs 5 = .ok (.invokestatic 229, 3) := by decide +kernel
theorem dX12_glowsActs_8 : decode cX12_glowsActs 8 = .ok (.ifCond .eq 17, 3) := by decide +kernel
theorem dX12_glowsActs_11 : decode cX12_glowsActs 11 = .ok (.aload_n 0, 1) := by decide +kernel
theorem dX12_glowsActs_12 : decode cX12_glowsActs 12 = .ok (.bipush 11, 2) := by decide +kernel
theorem dX12_glowsActs_14 : decode cX12_glowsActs 14 = .ok (.invokevirtual 220, 3) := by decide +kernel
theorem dX12_glowsActs_17 : decode cX12_glowsActs 17 = .ok (.aload_n 0, 1) := by decide +kernel
theorem dX12_glowsActs_18 : decode cX12_glowsActs 18 = .ok (.iload_n 1, 1) := by decide +kernel
theorem dX12_glowsActs_19 : decode cX12_glowsActs 19 = .ok (.iconst 3, 1) := by decide +kernel
theorem dX12_glowsActs_20 : decode cX12_glowsActs 20 = .ok (.imul, 1) := by decide +kernel
theorem dX12_glowsActs_21 : decode cX12_glowsActs 21 = .ok (.invokevirtual 232, 3) := by decide +kernel
theorem dX12_glowsActs_24 : decode cX12_glowsActs 24 = .ok (.ireturn, 1) := by decide +kernel
theorem dX12_glowsActs_25 : decode cX12_glowsActs 25 = .ok (.aload_n 0, 1) := by decide +kernel
theorem dX12_glowsActs_26 : decode cX12_glowsActs 26 = .ok (.getfield 226, 3) := by decide +kernel
theorem dX12_glowsActs_29 : decode cX12_glowsActs 29 = .ok (.iconst 5, 1) := by decide +kernel
theorem dX12_glowsActs_30 : decode cX12_glowsActs 30 = .ok (.if_icmp .ne 20, 3) := by decide +kernel
theorem dX12_glowsActs_33 : decode cX12_glowsActs 33 = .ok (.aload_n 0, 1) := by decide +kernel
theorem dX12_glowsActs_34 : decode cX12_glowsActs 34 = .ok (.bipush 51, 2) := by decide +kernel
theorem dX12_glowsActs_36 : decode cX12_glowsActs 36 = .ok (.invokevirtual 220, 3) := by decide +kernel
theorem dX12_glowsActs_39 : decode cX12_glowsActs 39 = .ok (.aload_n 0, 1) := by decide +kernel
theorem dX12_glowsActs_40 : decode cX12_glowsActs 40 = .ok (.iload_n 1, 1) := by decide +kernel
theorem dX12_glowsActs_41 : decode cX12_glowsActs 41 = .ok (.invokevirtual 232, 3) := by decide +kernel
theorem dX12_glowsActs_44 : decode cX12_glowsActs 44 = .ok (.aload_n 0, 1) := by decide +kernel
theorem dX12_glowsActs_45 : decode cX12_glowsActs 45 = .ok (.getfield 223, 3) := by decide +kernel
theorem dX12_glowsActs_48 : decode cX12_glowsActs 48 = .ok (.ixor, 1) := by decide +kernel
theorem dX12_glowsActs_49 : decode cX12_glowsActs 49 = .ok (.ireturn, 1) := by decide +kernel
theorem dX12_glowsActs_50 : decode cX12_glowsActs 50 = .ok (.aload_n 0, 1) := by decide +kernel
theorem dX12_glowsActs_51 : decode cX12_glowsActs 51 = .ok (.iload_n 1, 1) := by decide +kernel
theorem dX12_glowsActs_52 : decode cX12_glowsActs 52 = .ok (.invokevirtual 232, 3) := by decide +kernel
theorem dX12_glowsActs_55 : decode cX12_glowsActs 55 = .ok (.ireturn, 1) := by decide +kernel
theorem dX12_plainClaims_0 : decode cX12_plainClaims 0 = .ok (.aload_n 0, 1) := by decide +kernel
theorem dX12_plainClaims_1 : decode cX12_plainClaims 1 = .ok (.iconst 2, 1) := by decide +kernel
theorem dX12_plainClaims_2 : decode cX12_plainClaims 2 = .ok (.invokevirtual 220, 3) := by decide +kernel
theorem dX12_plainClaims_5 : decode cX12_plainClaims 5 = .ok (.aload_n 0, 1) := by decide +kernel
theorem dX12_plainClaims_6 : decode cX12_plainClaims 6 = .ok (.iload_n 1, 1) := by decide +kernel
theorem dX12_plainClaims_7 : decode cX12_plainClaims 7 = .ok (.invokevirtual 235, 3) := by decide +kernel
theorem dX12_plainClaims_10 : decode cX12_plainClaims 10 = .ok (.aload_n 0, 1) := by decide +kernel
theorem dX12_plainClaims_11 : decode cX12_plainClaims 11 = .ok (.getfield 238, 3) := by decide +kernel
theorem dX12_plainClaims_14 : decode cX12_plainClaims 14 = .ok (.isub, 1) := by decide +kernel
theorem dX12_plainClaims_15 : decode cX12_plainClaims 15 = .ok (.ireturn, 1) := by decide +kernel
theorem dX12_claimsActs_0 : decode cX12_claimsActs 0 = .ok (.aload_n 0, 1) := by decide +kernel
theorem dX12_claimsActs_1 : decode cX12_claimsActs 1 = .ok (.getfield 226, 3) := by decide +kernel
theorem dX12_claimsActs_4 : decode cX12_claimsActs 4 = .ok (.iconst 2, 1) := by decide +kernel
theorem dX12_claimsActs_5 : decode cX12_claimsActs 5 = .ok (.invokestatic 229, 3) := by decide +kernel
theorem dX12_claimsActs_8 : decode cX12_claimsActs 8 = .ok (.ifCond .eq 16, 3) := by decide +kernel
theorem dX12_claimsActs_11 : decode cX12_claimsActs 11 = .ok (.aload_n 0, 1) := by decide +kernel
theorem dX12_claimsActs_12 : decode cX12_claimsActs 12 = .ok (.bipush 21, 2) := by decide +kernel
theorem dX12_claimsActs_14 : decode cX12_claimsActs 14 = .ok (.invokevirtual 220, 3) := by decide +kernel
theorem dX12_claimsActs_17 : decode cX12_claimsActs 17 = .ok (.aload_n 0, 1) := by decide +kernel
theorem dX12_claimsActs_18 : decode cX12_claimsActs 18 = .ok (.iload_n 1, 1) := by decide +kernel
theorem dX12_claimsActs_19 : decode cX12_claimsActs 19 = .ok (.invokevirtual 241, 3) := by decide +kernel
theorem dX12_claimsActs_22 : decode cX12_claimsActs 22 = .ok (.ineg, 1) := by decide +kernel
theorem dX12_claimsActs_23 : decode cX12_claimsActs 23 = .ok (.ireturn, 1) := by decide +kernel
theorem dX12_claimsActs_24 : decode cX12_claimsActs 24 = .ok (.aload_n 0, 1) := by decide +kernel
theorem dX12_claimsActs_25 : decode cX12_claimsActs 25 = .ok (.getfield 226, 3) := by decide +kernel
theorem dX12_claimsActs_28 : decode cX12_claimsActs 28 = .ok (.bipush 6, 2) := by decide +kernel
theorem dX12_claimsActs_30 : decode cX12_claimsActs 30 = .ok (.if_icmp .ne 20, 3) := by decide +kernel
theorem dX12_claimsActs_33 : decode cX12_claimsActs 33 = .ok (.aload_n 0, 1) := by decide +kernel
theorem dX12_claimsActs_34 : decode cX12_claimsActs 34 = .ok (.bipush 61, 2) := by decide +kernel
theorem dX12_claimsActs_36 : decode cX12_claimsActs 36 = .ok (.invokevirtual 220, 3) := by decide +kernel
theorem dX12_claimsActs_39 : decode cX12_claimsActs 39 = .ok (.aload_n 0, 1) := by decide +kernel
theorem dX12_claimsActs_40 : decode cX12_claimsActs 40 = .ok (.iload_n 1, 1) := by decide +kernel
theorem dX12_claimsActs_41 : decode cX12_claimsActs 41 = .ok (.invokevirtual 241, 3) := by decide +kernel
theorem dX12_claimsActs_44 : decode cX12_claimsActs 44 = .ok (.aload_n 0, 1) := by decide +kernel
theorem dX12_claimsActs_45 : decode cX12_claimsActs 45 = .ok (.getfield 238, 3) := by decide +kernel
theorem dX12_claimsActs_48 : decode cX12_claimsActs 48 = .ok (.iadd, 1) := by decide +kernel
theorem dX12_claimsActs_49 : decode cX12_claimsActs 49 = .ok (.ireturn, 1) := by decide +kernel
theorem dX12_claimsActs_50 : decode cX12_claimsActs 50 = .ok (.aload_n 0, 1) := by decide +kernel
theorem dX12_claimsActs_51 : decode cX12_claimsActs 51 = .ok (.iload_n 1, 1) := by decide +kernel
theorem dX12_claimsActs_52 : decode cX12_claimsActs 52 = .ok (.invokevirtual 241, 3) := by decide +kernel
theorem dX12_claimsActs_55 : decode cX12_claimsActs 55 = .ok (.ireturn, 1) := by decide +kernel
theorem dX12_plainTelling_0 : decode cX12_plainTelling 0 = .ok (.aload_n 0, 1) := by decide +kernel
theorem dX12_plainTelling_1 : decode cX12_plainTelling 1 = .ok (.iconst 3, 1) := by decide +kernel
theorem dX12_plainTelling_2 : decode cX12_plainTelling 2 = .ok (.invokevirtual 220, 3) := by decide +kernel
theorem dX12_plainTelling_5 : decode cX12_plainTelling 5 = .ok (.aload_n 0, 1) := by decide +kernel
theorem dX12_plainTelling_6 : decode cX12_plainTelling 6 = .ok (.iload_n 1, 1) := by decide +kernel
theorem dX12_plainTelling_7 : decode cX12_plainTelling 7 = .ok (.invokevirtual 244, 3) := by decide +kernel
theorem dX12_plainTelling_10 : decode cX12_plainTelling 10 = .ok (.iconst 2, 1) := by decide +kernel
theorem dX12_plainTelling_11 : decode cX12_plainTelling 11 = .ok (.imul, 1) := by decide +kernel
theorem dX12_plainTelling_12 : decode cX12_plainTelling 12 = .ok (.ireturn, 1) := by decide +kernel
theorem dX12_tellsActs_0 : decode cX12_tellsActs 0 = .ok (.aload_n 0, 1) := by decide +kernel
theorem dX12_tellsActs_1 : decode cX12_tellsActs 1 = .ok (.getfield 226, 3) := by decide +kernel
theorem dX12_tellsActs_4 : decode cX12_tellsActs 4 = .ok (.iconst 3, 1) := by decide +kernel
theorem dX12_tellsActs_5 : decode cX12_tellsActs 5 = .ok (.invokestatic 229, 3) := by decide +kernel
theorem dX12_tellsActs_8 : decode cX12_tellsActs 8 = .ok (.ifCond .eq 18, 3) := by decide +kernel
theorem dX12_tellsActs_11 : decode cX12_tellsActs 11 = .ok (.aload_n 0, 1) := by decide +kernel
theorem dX12_tellsActs_12 : decode cX12_tellsActs 12 = .ok (.bipush 31, 2) := by decide +kernel
theorem dX12_tellsActs_14 : decode cX12_tellsActs 14 = .ok (.invokevirtual 220, 3) := by decide +kernel
theorem dX12_tellsActs_17 : decode cX12_tellsActs 17 = .ok (.aload_n 0, 1) := by decide +kernel
theorem dX12_tellsActs_18 : decode cX12_tellsActs 18 = .ok (.iload_n 1, 1) := by decide +kernel
theorem dX12_tellsActs_19 : decode cX12_tellsActs 19 = .ok (.invokevirtual 247, 3) := by decide +kernel
theorem dX12_tellsActs_22 : decode cX12_tellsActs 22 = .ok (.bipush 7, 2) := by decide +kernel
theorem dX12_tellsActs_24 : decode cX12_tellsActs 24 = .ok (.ixor, 1) := by decide +kernel
theorem dX12_tellsActs_25 : decode cX12_tellsActs 25 = .ok (.ireturn, 1) := by decide +kernel
theorem dX12_tellsActs_26 : decode cX12_tellsActs 26 = .ok (.aload_n 0, 1) := by decide +kernel
theorem dX12_tellsActs_27 : decode cX12_tellsActs 27 = .ok (.getfield 226, 3) := by decide +kernel
theorem dX12_tellsActs_30 : decode cX12_tellsActs 30 = .ok (.iconst 4, 1) := by decide +kernel
theorem dX12_tellsActs_31 : decode cX12_tellsActs 31 = .ok (.if_icmp .ne 25, 3) := by decide +kernel
theorem dX12_tellsActs_34 : decode cX12_tellsActs 34 = .ok (.aload_n 0, 1) := by decide +kernel
theorem dX12_tellsActs_35 : decode cX12_tellsActs 35 = .ok (.bipush 41, 2) := by decide +kernel
theorem dX12_tellsActs_37 : decode cX12_tellsActs 37 = .ok (.invokevirtual 220, 3) := by decide +kernel
theorem dX12_tellsActs_40 : decode cX12_tellsActs 40 = .ok (.aload_n 0, 1) := by decide +kernel
theorem dX12_tellsActs_41 : decode cX12_tellsActs 41 = .ok (.iload_n 1, 1) := by decide +kernel
theorem dX12_tellsActs_42 : decode cX12_tellsActs 42 = .ok (.iconst 1, 1) := by decide +kernel
theorem dX12_tellsActs_43 : decode cX12_tellsActs 43 = .ok (.isub, 1) := by decide +kernel
theorem dX12_tellsActs_44 : decode cX12_tellsActs 44 = .ok (.invokevirtual 247, 3) := by decide +kernel
theorem dX12_tellsActs_47 : decode cX12_tellsActs 47 = .ok (.istore_n 2, 1) := by decide +kernel
theorem dX12_tellsActs_48 : decode cX12_tellsActs 48 = .ok (.iload_n 2, 1) := by decide +kernel
theorem dX12_tellsActs_49 : decode cX12_tellsActs 49 = .ok (.aload_n 0, 1) := by decide +kernel
theorem dX12_tellsActs_50 : decode cX12_tellsActs 50 = .ok (.iconst 2, 1) := by decide +kernel
theorem dX12_tellsActs_51 : decode cX12_tellsActs 51 = .ok (.invokevirtual 235, 3) := by decide +kernel
theorem dX12_tellsActs_54 : decode cX12_tellsActs 54 = .ok (.iadd, 1) := by decide +kernel
theorem dX12_tellsActs_55 : decode cX12_tellsActs 55 = .ok (.ireturn, 1) := by decide +kernel
theorem dX12_tellsActs_56 : decode cX12_tellsActs 56 = .ok (.aload_n 0, 1) := by decide +kernel
theorem dX12_tellsActs_57 : decode cX12_tellsActs 57 = .ok (.iload_n 1, 1) := by decide +kernel
theorem dX12_tellsActs_58 : decode cX12_tellsActs 58 = .ok (.invokevirtual 247, 3) := by decide +kernel
theorem dX12_tellsActs_61 : decode cX12_tellsActs 61 = .ok (.ireturn, 1) := by decide +kernel
theorem dX12_act_0 : decode cX12_act 0 = .ok (.aload_n 0, 1) := by decide +kernel
theorem dX12_act_1 : decode cX12_act 1 = .ok (.iconst 0, 1) := by decide +kernel
theorem dX12_act_2 : decode cX12_act 2 = .ok (.putfield 217, 3) := by decide +kernel
theorem dX12_act_5 : decode cX12_act 5 = .ok (.aload_n 0, 1) := by decide +kernel
theorem dX12_act_6 : decode cX12_act 6 = .ok (.iload_n 1, 1) := by decide +kernel
theorem dX12_act_7 : decode cX12_act 7 = .ok (.invokevirtual 148, 3) := by decide +kernel
theorem dX12_act_10 : decode cX12_act 10 = .ok (.ifCond .eq 12, 3) := by decide +kernel
theorem dX12_act_13 : decode cX12_act 13 = .ok (.iload_n 2, 1) := by decide +kernel
theorem dX12_act_14 : decode cX12_act 14 = .ok (.iconst 0, 1) := by decide +kernel
theorem dX12_act_15 : decode cX12_act 15 = .ok (.iconst 2, 1) := by decide +kernel
theorem dX12_act_16 : decode cX12_act 16 = .ok (.invokestatic 41, 3) := by decide +kernel
theorem dX12_act_19 : decode cX12_act 19 = .ok (.ifCond .ne 5, 3) := by decide +kernel
theorem dX12_act_22 : decode cX12_act 22 = .ok (.iconst 0, 1) := by decide +kernel
theorem dX12_act_23 : decode cX12_act 23 = .ok (.ireturn, 1) := by decide +kernel
theorem dX12_act_24 : decode cX12_act 24 = .ok (.aload_n 0, 1) := by decide +kernel
theorem dX12_act_25 : decode cX12_act 25 = .ok (.aload_n 0, 1) := by decide +kernel
theorem dX12_act_26 : decode cX12_act 26 = .ok (.getfield 9, 3) := by decide +kernel
theorem dX12_act_29 : decode cX12_act 29 = .ok (.bipush 16, 2) := by decide +kernel
theorem dX12_act_31 : decode cX12_act 31 = .ok (.iload_n 1, 1) := by decide +kernel
theorem dX12_act_32 : decode cX12_act 32 = .ok (.iadd, 1) := by decide +kernel
theorem dX12_act_33 : decode cX12_act 33 = .ok (.iaload, 1) := by decide +kernel
theorem dX12_act_34 : decode cX12_act 34 = .ok (.putfield 226, 3) := by decide +kernel
theorem dX12_act_37 : decode cX12_act 37 = .ok (.aload_n 0, 1) := by decide +kernel
theorem dX12_act_38 : decode cX12_act 38 = .ok (.iload_n 1, 1) := by decide +kernel
theorem dX12_act_39 : decode cX12_act 39 = .ok (.putfield 223, 3) := by decide +kernel
theorem dX12_act_42 : decode cX12_act 42 = .ok (.aload_n 0, 1) := by decide +kernel
theorem dX12_act_43 : decode cX12_act 43 = .ok (.aload_n 0, 1) := by decide +kernel
theorem dX12_act_44 : decode cX12_act 44 = .ok (.getfield 9, 3) := by decide +kernel
theorem dX12_act_47 : decode cX12_act 47 = .ok (.bipush 22, 2) := by decide +kernel
theorem dX12_act_49 : decode cX12_act 49 = .ok (.iload_n 1, 1) := by decide +kernel
theorem dX12_act_50 : decode cX12_act 50 = .ok (.iadd, 1) := by decide +kernel
theorem dX12_act_51 : decode cX12_act 51 = .ok (.iaload, 1) := by decide +kernel
theorem dX12_act_52 : decode cX12_act 52 = .ok (.putfield 238, 3) := by decide +kernel
theorem dX12_act_55 : decode cX12_act 55 = .ok (.iload_n 2, 1) := by decide +kernel
theorem dX12_act_56 : decode cX12_act 56 = .ok (.ifCond .ne 11, 3) := by decide +kernel
theorem dX12_act_59 : decode cX12_act 59 = .ok (.aload_n 0, 1) := by decide +kernel
theorem dX12_act_60 : decode cX12_act 60 = .ok (.iload_n 3, 1) := by decide +kernel
theorem dX12_act_61 : decode cX12_act 61 = .ok (.invokevirtual 235, 3) := by decide +kernel
theorem dX12_act_64 : decode cX12_act 64 = .ok (.goto 21, 3) := by decide +kernel
theorem dX12_act_67 : decode cX12_act 67 = .ok (.iload_n 2, 1) := by decide +kernel
theorem dX12_act_68 : decode cX12_act 68 = .ok (.iconst 1, 1) := by decide +kernel
theorem dX12_act_69 : decode cX12_act 69 = .ok (.if_icmp .ne 11, 3) := by decide +kernel
theorem dX12_act_72 : decode cX12_act 72 = .ok (.aload_n 0, 1) := by decide +kernel
theorem dX12_act_73 : decode cX12_act 73 = .ok (.iload_n 3, 1) := by decide +kernel
theorem dX12_act_74 : decode cX12_act 74 = .ok (.invokevirtual 244, 3) := by decide +kernel
theorem dX12_act_77 : decode cX12_act 77 = .ok (.goto 8, 3) := by decide +kernel
theorem dX12_act_80 : decode cX12_act 80 = .ok (.aload_n 0, 1) := by decide +kernel
theorem dX12_act_81 : decode cX12_act 81 = .ok (.iload_n 3, 1) := by decide +kernel
theorem dX12_act_82 : decode cX12_act 82 = .ok (.invokevirtual 250, 3) := by decide +kernel
theorem dX12_act_85 : decode cX12_act 85 = .ok (.ireturn, 1) := by decide +kernel
theorem dX12_trace_0 : decode cX12_trace 0 = .ok (.iload_n 1, 1) := by decide +kernel
theorem dX12_trace_1 : decode cX12_trace 1 = .ok (.iconst 0, 1) := by decide +kernel
theorem dX12_trace_2 : decode cX12_trace 2 = .ok (.aload_n 0, 1) := by decide +kernel
theorem dX12_trace_3 : decode cX12_trace 3 = .ok (.getfield 217, 3) := by decide +kernel
theorem dX12_trace_6 : decode cX12_trace 6 = .ok (.bipush 20, 2) := by decide +kernel
theorem dX12_trace_8 : decode cX12_trace 8 = .ok (.if_icmp .ge 10, 3) := by decide +kernel
theorem dX12_trace_11 : decode cX12_trace 11 = .ok (.aload_n 0, 1) := by decide +kernel
theorem dX12_trace_12 : decode cX12_trace 12 = .ok (.getfield 217, 3) := by decide +kernel
theorem dX12_trace_15 : decode cX12_trace 15 = .ok (.goto 5, 3) := by decide +kernel
theorem dX12_trace_18 : decode cX12_trace 18 = .ok (.bipush 20, 2) := by decide +kernel
theorem dX12_trace_20 : decode cX12_trace 20 = .ok (.iconst 1, 1) := by decide +kernel
theorem dX12_trace_21 : decode cX12_trace 21 = .ok (.isub, 1) := by decide +kernel
theorem dX12_trace_22 : decode cX12_trace 22 = .ok (.invokestatic 41, 3) := by decide +kernel
theorem dX12_trace_25 : decode cX12_trace 25 = .ok (.ifCond .eq 12, 3) := by decide +kernel
theorem dX12_trace_28 : decode cX12_trace 28 = .ok (.aload_n 0, 1) := by decide +kernel
theorem dX12_trace_29 : decode cX12_trace 29 = .ok (.getfield 34, 3) := by decide +kernel
theorem dX12_trace_32 : decode cX12_trace 32 = .ok (.iload_n 1, 1) := by decide +kernel
theorem dX12_trace_33 : decode cX12_trace 33 = .ok (.iaload, 1) := by decide +kernel
theorem dX12_trace_34 : decode cX12_trace 34 = .ok (.goto 4, 3) := by decide +kernel
theorem dX12_trace_37 : decode cX12_trace 37 = .ok (.iconst (-1), 1) := by decide +kernel
theorem dX12_trace_38 : decode cX12_trace 38 = .ok (.ireturn, 1) := by decide +kernel
theorem dX12_as_0 : decode cX12_as 0 = .ok (.aload_n 0, 1) := by decide +kernel
theorem dX12_as_1 : decode cX12_as 1 = .ok (.iload_n 1, 1) := by decide +kernel
theorem dX12_as_2 : decode cX12_as 2 = .ok (.invokevirtual 148, 3) := by decide +kernel
theorem dX12_as_5 : decode cX12_as 5 = .ok (.ifCond .eq 13, 3) := by decide +kernel
theorem dX12_as_8 : decode cX12_as 8 = .ok (.iload_n 2, 1) := by decide +kernel
theorem dX12_as_9 : decode cX12_as 9 = .ok (.iconst 0, 1) := by decide +kernel
theorem dX12_as_10 : decode cX12_as 10 = .ok (.bipush 6, 2) := by decide +kernel
theorem dX12_as_12 : decode cX12_as 12 = .ok (.invokestatic 41, 3) := by decide +kernel
theorem dX12_as_15 : decode cX12_as 15 = .ok (.ifCond .ne 5, 3) := by decide +kernel
theorem dX12_as_18 : decode cX12_as 18 = .ok (.iconst (-1), 1) := by decide +kernel
theorem dX12_as_19 : decode cX12_as 19 = .ok (.ireturn, 1) := by decide +kernel
theorem dX12_as_20 : decode cX12_as 20 = .ok (.aload_n 0, 1) := by decide +kernel
theorem dX12_as_21 : decode cX12_as 21 = .ok (.getfield 9, 3) := by decide +kernel
theorem dX12_as_24 : decode cX12_as 24 = .ok (.bipush 16, 2) := by decide +kernel
theorem dX12_as_26 : decode cX12_as 26 = .ok (.iload_n 1, 1) := by decide +kernel
theorem dX12_as_27 : decode cX12_as 27 = .ok (.iadd, 1) := by decide +kernel
theorem dX12_as_28 : decode cX12_as 28 = .ok (.iaload, 1) := by decide +kernel
theorem dX12_as_29 : decode cX12_as 29 = .ok (.iload_n 2, 1) := by decide +kernel
theorem dX12_as_30 : decode cX12_as 30 = .ok (.invokestatic 229, 3) := by decide +kernel
theorem dX12_as_33 : decode cX12_as 33 = .ok (.ifCond .eq 15, 3) := by decide +kernel
theorem dX12_as_36 : decode cX12_as 36 = .ok (.aload_n 0, 1) := by decide +kernel
theorem dX12_as_37 : decode cX12_as 37 = .ok (.getfield 9, 3) := by decide +kernel
theorem dX12_as_40 : decode cX12_as 40 = .ok (.bipush 22, 2) := by decide +kernel
theorem dX12_as_42 : decode cX12_as 42 = .ok (.iload_n 1, 1) := by decide +kernel
theorem dX12_as_43 : decode cX12_as 43 = .ok (.iadd, 1) := by decide +kernel
theorem dX12_as_44 : decode cX12_as 44 = .ok (.iaload, 1) := by decide +kernel
theorem dX12_as_45 : decode cX12_as 45 = .ok (.goto 5, 3) := by decide +kernel
theorem dX12_as_48 : decode cX12_as 48 = .ok (.bipush (-6), 2) := by decide +kernel
theorem dX12_as_50 : decode cX12_as 50 = .ok (.ireturn, 1) := by decide +kernel
theorem dX12_image_0 : decode cX12_image 0 = .ok (.iconst 0, 1) := by decide +kernel
theorem dX12_image_1 : decode cX12_image 1 = .ok (.istore_n 1, 1) := by decide +kernel
theorem dX12_image_2 : decode cX12_image 2 = .ok (.iload_n 1, 1) := by decide +kernel
theorem dX12_image_3 : decode cX12_image 3 = .ok (.sipush 929, 3) := by decide +kernel
theorem dX12_image_6 : decode cX12_image 6 = .ok (.if_icmp .ge 21, 3) := by decide +kernel
theorem dX12_image_9 : decode cX12_image 9 = .ok (.aload_n 0, 1) := by decide +kernel
theorem dX12_image_10 : decode cX12_image 10 = .ok (.getfield 15, 3) := by decide +kernel
theorem dX12_image_13 : decode cX12_image 13 = .ok (.iload_n 1, 1) := by decide +kernel
theorem dX12_image_14 : decode cX12_image 14 = .ok (.aload_n 0, 1) := by decide +kernel
theorem dX12_image_15 : decode cX12_image 15 = .ok (.getfield 9, 3) := by decide +kernel
theorem dX12_image_18 : decode cX12_image 18 = .ok (.iload_n 1, 1) := by decide +kernel
theorem dX12_image_19 : decode cX12_image 19 = .ok (.iaload, 1) := by decide +kernel
theorem dX12_image_20 : decode cX12_image 20 = .ok (.iastore, 1) := by decide +kernel
theorem dX12_image_21 : decode cX12_image 21 = .ok (.iinc 1 1, 3) := by decide +kernel
theorem dX12_image_24 : decode cX12_image 24 = .ok (.goto (-22), 3) := by decide +kernel
theorem dX12_image_27 : decode cX12_image 27 = .ok (.aload_n 0, 1) := by decide +kernel
theorem dX12_image_28 : decode cX12_image 28 = .ok (.iconst 1, 1) := by decide +kernel
theorem dX12_image_29 : decode cX12_image 29 = .ok (.putfield 253, 3) := by decide +kernel
theorem dX12_image_32 : decode cX12_image 32 = .ok (.aload_n 0, 1) := by decide +kernel
theorem dX12_image_33 : decode cX12_image 33 = .ok (.getfield 9, 3) := by decide +kernel
theorem dX12_image_36 : decode cX12_image 36 = .ok (.bipush 9, 2) := by decide +kernel
theorem dX12_image_38 : decode cX12_image 38 = .ok (.iaload, 1) := by decide +kernel
theorem dX12_image_39 : decode cX12_image 39 = .ok (.ireturn, 1) := by decide +kernel
theorem dX12_undo_0 : decode cX12_undo 0 = .ok (.aload_n 0, 1) := by decide +kernel
theorem dX12_undo_1 : decode cX12_undo 1 = .ok (.getfield 253, 3) := by decide +kernel
theorem dX12_undo_4 : decode cX12_undo 4 = .ok (.ifCond .ne 6, 3) := by decide +kernel
theorem dX12_undo_7 : decode cX12_undo 7 = .ok (.bipush (-3), 2) := by decide +kernel
theorem dX12_undo_9 : decode cX12_undo 9 = .ok (.ireturn, 1) := by decide +kernel
theorem dX12_undo_10 : decode cX12_undo 10 = .ok (.iconst 0, 1) := by decide +kernel
theorem dX12_undo_11 : decode cX12_undo 11 = .ok (.istore_n 1, 1) := by decide +kernel
theorem dX12_undo_12 : decode cX12_undo 12 = .ok (.iload_n 1, 1) := by decide +kernel
theorem dX12_undo_13 : decode cX12_undo 13 = .ok (.sipush 929, 3) := by decide +kernel
theorem dX12_undo_16 : decode cX12_undo 16 = .ok (.if_icmp .ge 21, 3) := by decide +kernel
theorem dX12_undo_19 : decode cX12_undo 19 = .ok (.aload_n 0, 1) := by decide +kernel
theorem dX12_undo_20 : decode cX12_undo 20 = .ok (.getfield 9, 3) := by decide +kernel
theorem dX12_undo_23 : decode cX12_undo 23 = .ok (.iload_n 1, 1) := by decide +kernel
theorem dX12_undo_24 : decode cX12_undo 24 = .ok (.aload_n 0, 1) := by decide +kernel
theorem dX12_undo_25 : decode cX12_undo 25 = .ok (.getfield 15, 3) := by decide +kernel
theorem dX12_undo_28 : decode cX12_undo 28 = .ok (.iload_n 1, 1) := by decide +kernel
theorem dX12_undo_29 : decode cX12_undo 29 = .ok (.iaload, 1) := by decide +kernel
theorem dX12_undo_30 : decode cX12_undo 30 = .ok (.iastore, 1) := by decide +kernel
theorem dX12_undo_31 : decode cX12_undo 31 = .ok (.iinc 1 1, 3) := by decide +kernel
theorem dX12_undo_34 : decode cX12_undo 34 = .ok (.goto (-22), 3) := by decide +kernel
theorem dX12_undo_37 : decode cX12_undo 37 = .ok (.aload_n 0, 1) := by decide +kernel
theorem dX12_undo_38 : decode cX12_undo 38 = .ok (.getfield 9, 3) := by decide +kernel
theorem dX12_undo_41 : decode cX12_undo 41 = .ok (.bipush 9, 2) := by decide +kernel
theorem dX12_undo_43 : decode cX12_undo 43 = .ok (.iaload, 1) := by decide +kernel
theorem dX12_undo_44 : decode cX12_undo 44 = .ok (.ireturn, 1) := by decide +kernel
theorem dX12_count_0 : decode cX12_count 0 = .ok (.iload_n 1, 1) := by decide +kernel
theorem dX12_count_1 : decode cX12_count 1 = .ok (.bipush 6, 2) := by decide +kernel
theorem dX12_count_3 : decode cX12_count 3 = .ok (.if_icmp .ne 10, 3) := by decide +kernel
theorem dX12_count_6 : decode cX12_count 6 = .ok (.aload_n 0, 1) := by decide +kernel
theorem dX12_count_7 : decode cX12_count 7 = .ok (.getfield 217, 3) := by decide +kernel
theorem dX12_count_10 : decode cX12_count 10 = .ok (.goto 25, 3) := by decide +kernel
theorem dX12_count_13 : decode cX12_count 13 = .ok (.iload_n 1, 1) := by decide +kernel
theorem dX12_count_14 : decode cX12_count 14 = .ok (.iconst 0, 1) := by decide +kernel
theorem dX12_count_15 : decode cX12_count 15 = .ok (.iconst 5, 1) := by decide +kernel
theorem dX12_count_16 : decode cX12_count 16 = .ok (.invokestatic 41, 3) := by decide +kernel
theorem dX12_count_19 : decode cX12_count 19 = .ok (.ifCond .eq 15, 3) := by decide +kernel
theorem dX12_count_22 : decode cX12_count 22 = .ok (.aload_n 0, 1) := by decide +kernel
theorem dX12_count_23 : decode cX12_count 23 = .ok (.getfield 9, 3) := by decide +kernel
theorem dX12_count_26 : decode cX12_count 26 = .ok (.bipush 9, 2) := by decide +kernel
theorem dX12_count_28 : decode cX12_count 28 = .ok (.iload_n 1, 1) := by decide +kernel
theorem dX12_count_29 : decode cX12_count 29 = .ok (.iadd, 1) := by decide +kernel
theorem dX12_count_30 : decode cX12_count 30 = .ok (.iaload, 1) := by decide +kernel
theorem dX12_count_31 : decode cX12_count 31 = .ok (.goto 4, 3) := by decide +kernel
theorem dX12_count_34 : decode cX12_count 34 = .ok (.iconst (-1), 1) := by decide +kernel
theorem dX12_count_35 : decode cX12_count 35 = .ok (.ireturn, 1) := by decide +kernel
