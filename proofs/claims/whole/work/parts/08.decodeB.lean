theorem dX10_in_0 : decode cX10_in 0 = .ok (.iload_n 0, 1) := by decide +kernel
theorem dX10_in_1 : decode cX10_in 1 = .ok (.iload_n 1, 1) := by decide +kernel
theorem dX10_in_2 : decode cX10_in 2 = .ok (.if_icmp .lt 12, 3) := by decide +kernel
theorem dX10_in_5 : decode cX10_in 5 = .ok (.iload_n 0, 1) := by decide +kernel
theorem dX10_in_6 : decode cX10_in 6 = .ok (.iload_n 2, 1) := by decide +kernel
theorem dX10_in_7 : decode cX10_in 7 = .ok (.if_icmp .gt 7, 3) := by decide +kernel
theorem dX10_in_10 : decode cX10_in 10 = .ok (.iconst 1, 1) := by decide +kernel
theorem dX10_in_11 : decode cX10_in 11 = .ok (.goto 4, 3) := by decide +kernel
theorem dX10_in_14 : decode cX10_in 14 = .ok (.iconst 0, 1) := by decide +kernel
theorem dX10_in_15 : decode cX10_in 15 = .ok (.ireturn, 1) := by decide +kernel
theorem dX10_errs_0 : decode cX10_errs 0 = .ok (.aload_n 0, 1) := by decide +kernel
theorem dX10_errs_1 : decode cX10_errs 1 = .ok (.getfield 22, 3) := by decide +kernel
theorem dX10_errs_4 : decode cX10_errs 4 = .ok (.ldc 50, 2) := by decide +kernel
theorem dX10_errs_6 : decode cX10_errs 6 = .ok (.iload_n 1, 1) := by decide +kernel
theorem dX10_errs_7 : decode cX10_errs 7 = .ok (.isub, 1) := by decide +kernel
theorem dX10_errs_8 : decode cX10_errs 8 = .ok (.dup2, 1) := by decide +kernel
theorem dX10_errs_9 : decode cX10_errs 9 = .ok (.iaload, 1) := by decide +kernel
theorem dX10_errs_10 : decode cX10_errs 10 = .ok (.iconst 1, 1) := by decide +kernel
theorem dX10_errs_11 : decode cX10_errs 11 = .ok (.iadd, 1) := by decide +kernel
theorem dX10_errs_12 : decode cX10_errs 12 = .ok (.iastore, 1) := by decide +kernel
theorem dX10_errs_13 : decode cX10_errs 13 = .ok (.iload_n 1, 1) := by decide +kernel
theorem dX10_errs_14 : decode cX10_errs 14 = .ok (.ireturn, 1) := by decide +kernel
theorem dX10_held_0 : decode cX10_held 0 = .ok (.iload_n 0, 1) := by decide +kernel
theorem dX10_held_1 : decode cX10_held 1 = .ok (.iload_n 1, 1) := by decide +kernel
theorem dX10_held_2 : decode cX10_held 2 = .ok (.if_icmp .ge 7, 3) := by decide +kernel
theorem dX10_held_5 : decode cX10_held 5 = .ok (.iload_n 1, 1) := by decide +kernel
theorem dX10_held_6 : decode cX10_held 6 = .ok (.goto 13, 3) := by decide +kernel
theorem dX10_held_9 : decode cX10_held 9 = .ok (.iload_n 0, 1) := by decide +kernel
theorem dX10_held_10 : decode cX10_held 10 = .ok (.iload_n 2, 1) := by decide +kernel
theorem dX10_held_11 : decode cX10_held 11 = .ok (.if_icmp .le 7, 3) := by decide +kernel
theorem dX10_held_14 : decode cX10_held 14 = .ok (.iload_n 2, 1) := by decide +kernel
theorem dX10_held_15 : decode cX10_held 15 = .ok (.goto 4, 3) := by decide +kernel
theorem dX10_held_18 : decode cX10_held 18 = .ok (.iload_n 0, 1) := by decide +kernel
theorem dX10_held_19 : decode cX10_held 19 = .ok (.ireturn, 1) := by decide +kernel
theorem dX10_moveAll_0 : decode cX10_moveAll 0 = .ok (.iconst 0, 1) := by decide +kernel
theorem dX10_moveAll_1 : decode cX10_moveAll 1 = .ok (.istore_n 3, 1) := by decide +kernel
theorem dX10_moveAll_2 : decode cX10_moveAll 2 = .ok (.iload_n 3, 1) := by decide +kernel
theorem dX10_moveAll_3 : decode cX10_moveAll 3 = .ok (.sipush 254, 3) := by decide +kernel
theorem dX10_moveAll_6 : decode cX10_moveAll 6 = .ok (.if_icmp .ge 15, 3) := by decide +kernel
theorem dX10_moveAll_9 : decode cX10_moveAll 9 = .ok (.aload_n 2, 1) := by decide +kernel
theorem dX10_moveAll_10 : decode cX10_moveAll 10 = .ok (.iload_n 3, 1) := by decide +kernel
theorem dX10_moveAll_11 : decode cX10_moveAll 11 = .ok (.aload_n 1, 1) := by decide +kernel
theorem dX10_moveAll_12 : decode cX10_moveAll 12 = .ok (.iload_n 3, 1) := by decide +kernel
theorem dX10_moveAll_13 : decode cX10_moveAll 13 = .ok (.iaload, 1) := by decide +kernel
theorem dX10_moveAll_14 : decode cX10_moveAll 14 = .ok (.iastore, 1) := by decide +kernel
theorem dX10_moveAll_15 : decode cX10_moveAll 15 = .ok (.iinc 3 1, 3) := by decide +kernel
theorem dX10_moveAll_18 : decode cX10_moveAll 18 = .ok (.goto (-16), 3) := by decide +kernel
theorem dX10_moveAll_21 : decode cX10_moveAll 21 = .ok (.return_, 1) := by decide +kernel
theorem dX10_ones_0 : decode cX10_ones 0 = .ok (.iconst 0, 1) := by decide +kernel
theorem dX10_ones_1 : decode cX10_ones 1 = .ok (.istore_n 1, 1) := by decide +kernel
theorem dX10_ones_2 : decode cX10_ones 2 = .ok (.iload_n 0, 1) := by decide +kernel
theorem dX10_ones_3 : decode cX10_ones 3 = .ok (.istore_n 2, 1) := by decide +kernel
theorem dX10_ones_4 : decode cX10_ones 4 = .ok (.iload_n 2, 1) := by decide +kernel
theorem dX10_ones_5 : decode cX10_ones 5 = .ok (.ifCond .eq 15, 3) := by decide +kernel
theorem dX10_ones_8 : decode cX10_ones 8 = .ok (.iinc 1 1, 3) := by decide +kernel
theorem dX10_ones_11 : decode cX10_ones 11 = .ok (.iload_n 2, 1) := by decide +kernel
theorem dX10_ones_12 : decode cX10_ones 12 = .ok (.iload_n 2, 1) := by decide +kernel
theorem dX10_ones_13 : decode cX10_ones 13 = .ok (.iconst 1, 1) := by decide +kernel
theorem dX10_ones_14 : decode cX10_ones 14 = .ok (.isub, 1) := by decide +kernel
theorem dX10_ones_15 : decode cX10_ones 15 = .ok (.iand, 1) := by decide +kernel
theorem dX10_ones_16 : decode cX10_ones 16 = .ok (.istore_n 2, 1) := by decide +kernel
theorem dX10_ones_17 : decode cX10_ones 17 = .ok (.goto (-13), 3) := by decide +kernel
theorem dX10_ones_20 : decode cX10_ones 20 = .ok (.iload_n 1, 1) := by decide +kernel
theorem dX10_ones_21 : decode cX10_ones 21 = .ok (.ireturn, 1) := by decide +kernel
theorem dX10_its_0 : decode cX10_its 0 = .ok (.aload_n 0, 1) := by decide +kernel
theorem dX10_its_1 : decode cX10_its 1 = .ok (.getfield 7, 3) := by decide +kernel
theorem dX10_its_4 : decode cX10_its 4 = .ok (.bipush 52, 2) := by decide +kernel
theorem dX10_its_6 : decode cX10_its 6 = .ok (.iconst 4, 1) := by decide +kernel
theorem dX10_its_7 : decode cX10_its 7 = .ok (.iload_n 1, 1) := by decide +kernel
theorem dX10_its_8 : decode cX10_its 8 = .ok (.imul, 1) := by decide +kernel
theorem dX10_its_9 : decode cX10_its 9 = .ok (.iadd, 1) := by decide +kernel
theorem dX10_its_10 : decode cX10_its 10 = .ok (.iload_n 2, 1) := by decide +kernel
theorem dX10_its_11 : decode cX10_its 11 = .ok (.iadd, 1) := by decide +kernel
theorem dX10_its_12 : decode cX10_its 12 = .ok (.iaload, 1) := by decide +kernel
theorem dX10_its_13 : decode cX10_its 13 = .ok (.ireturn, 1) := by decide +kernel
theorem dX10_puts_0 : decode cX10_puts 0 = .ok (.aload_n 0, 1) := by decide +kernel
theorem dX10_puts_1 : decode cX10_puts 1 = .ok (.getfield 7, 3) := by decide +kernel
theorem dX10_puts_4 : decode cX10_puts 4 = .ok (.bipush 52, 2) := by decide +kernel
theorem dX10_puts_6 : decode cX10_puts 6 = .ok (.iconst 4, 1) := by decide +kernel
theorem dX10_puts_7 : decode cX10_puts 7 = .ok (.iload_n 1, 1) := by decide +kernel
theorem dX10_puts_8 : decode cX10_puts 8 = .ok (.imul, 1) := by decide +kernel
theorem dX10_puts_9 : decode cX10_puts 9 = .ok (.iadd, 1) := by decide +kernel
theorem dX10_puts_10 : decode cX10_puts 10 = .ok (.iload_n 2, 1) := by decide +kernel
theorem dX10_puts_11 : decode cX10_puts 11 = .ok (.iadd, 1) := by decide +kernel
theorem dX10_puts_12 : decode cX10_puts 12 = .ok (.iload_n 3, 1) := by decide +kernel
theorem dX10_puts_13 : decode cX10_puts 13 = .ok (.iastore, 1) := by decide +kernel
theorem dX10_puts_14 : decode cX10_puts 14 = .ok (.return_, 1) := by decide +kernel
theorem dX10_isVisitor_0 : decode cX10_isVisitor 0 = .ok (.iload_n 1, 1) := by decide +kernel
theorem dX10_isVisitor_1 : decode cX10_isVisitor 1 = .ok (.iconst 0, 1) := by decide +kernel
theorem dX10_isVisitor_2 : decode cX10_isVisitor 2 = .ok (.aload_n 0, 1) := by decide +kernel
theorem dX10_isVisitor_3 : decode cX10_isVisitor 3 = .ok (.getfield 7, 3) := by decide +kernel
theorem dX10_isVisitor_6 : decode cX10_isVisitor 6 = .ok (.iconst 2, 1) := by decide +kernel
theorem dX10_isVisitor_7 : decode cX10_isVisitor 7 = .ok (.iaload, 1) := by decide +kernel
theorem dX10_isVisitor_8 : decode cX10_isVisitor 8 = .ok (.iconst 1, 1) := by decide +kernel
theorem dX10_isVisitor_9 : decode cX10_isVisitor 9 = .ok (.isub, 1) := by decide +kernel
theorem dX10_isVisitor_10 : decode cX10_isVisitor 10 = .ok (.invokestatic 51, 3) := by decide +kernel
theorem dX10_isVisitor_13 : decode cX10_isVisitor 13 = .ok (.ireturn, 1) := by decide +kernel
theorem dX10_becomes_0 : decode cX10_becomes 0 = .ok (.aload_n 0, 1) := by decide +kernel
theorem dX10_becomes_1 : decode cX10_becomes 1 = .ok (.getfield 7, 3) := by decide +kernel
theorem dX10_becomes_4 : decode cX10_becomes 4 = .ok (.iload_n 1, 1) := by decide +kernel
theorem dX10_becomes_5 : decode cX10_becomes 5 = .ok (.iaload, 1) := by decide +kernel
theorem dX10_becomes_6 : decode cX10_becomes 6 = .ok (.istore_n 3, 1) := by decide +kernel
theorem dX10_becomes_7 : decode cX10_becomes 7 = .ok (.aload_n 0, 1) := by decide +kernel
theorem dX10_becomes_8 : decode cX10_becomes 8 = .ok (.getfield 7, 3) := by decide +kernel
theorem dX10_becomes_11 : decode cX10_becomes 11 = .ok (.iload_n 1, 1) := by decide +kernel
theorem dX10_becomes_12 : decode cX10_becomes 12 = .ok (.iload_n 2, 1) := by decide +kernel
theorem dX10_becomes_13 : decode cX10_becomes 13 = .ok (.iastore, 1) := by decide +kernel
theorem dX10_becomes_14 : decode cX10_becomes 14 = .ok (.iload_n 3, 1) := by decide +kernel
theorem dX10_becomes_15 : decode cX10_becomes 15 = .ok (.ireturn, 1) := by decide +kernel
theorem dX10_season_0 : decode cX10_season 0 = .ok (.iload_n 1, 1) := by decide +kernel
theorem dX10_season_1 : decode cX10_season 1 = .ok (.iconst 0, 1) := by decide +kernel
theorem dX10_season_2 : decode cX10_season 2 = .ok (.iconst 5, 1) := by decide +kernel
theorem dX10_season_3 : decode cX10_season 3 = .ok (.invokestatic 51, 3) := by decide +kernel
theorem dX10_season_6 : decode cX10_season 6 = .ok (.ifCond .eq 38, 3) := by decide +kernel
theorem dX10_season_9 : decode cX10_season 9 = .ok (.iload_n 2, 1) := by decide +kernel
theorem dX10_season_10 : decode cX10_season 10 = .ok (.iconst 0, 1) := by decide +kernel
theorem dX10_season_11 : decode cX10_season 11 = .ok (.iconst 1, 1) := by decide +kernel
theorem dX10_season_12 : decode cX10_season 12 = .ok (.invokestatic 51, 3) := by decide +kernel
theorem dX10_season_15 : decode cX10_season 15 = .ok (.ifCond .eq 29, 3) := by decide +kernel
theorem dX10_season_18 : decode cX10_season 18 = .ok (.iload_n 3, 1) := by decide +kernel
theorem dX10_season_19 : decode cX10_season 19 = .ok (.iconst 0, 1) := by decide +kernel
theorem dX10_season_20 : decode cX10_season 20 = .ok (.bipush 9, 2) := by decide +kernel
theorem dX10_season_22 : decode cX10_season 22 = .ok (.invokestatic 51, 3) := by decide +kernel
theorem dX10_season_25 : decode cX10_season 25 = .ok (.ifCond .eq 19, 3) := by decide +kernel
theorem dX10_season_28 : decode cX10_season 28 = .ok (.aload_n 0, 1) := by decide +kernel
theorem dX10_season_29 : decode cX10_season 29 = .ok (.bipush 12, 2) := by decide +kernel
theorem dX10_season_31 : decode cX10_season 31 = .ok (.iconst 2, 1) := by decide +kernel
theorem dX10_season_32 : decode cX10_season 32 = .ok (.iload_n 1, 1) := by decide +kernel
theorem dX10_season_33 : decode cX10_season 33 = .ok (.imul, 1) := by decide +kernel
theorem dX10_season_34 : decode cX10_season 34 = .ok (.iadd, 1) := by decide +kernel
theorem dX10_season_35 : decode cX10_season 35 = .ok (.iload_n 2, 1) := by decide +kernel
theorem dX10_season_36 : decode cX10_season 36 = .ok (.iadd, 1) := by decide +kernel
theorem dX10_season_37 : decode cX10_season 37 = .ok (.iload_n 3, 1) := by decide +kernel
theorem dX10_season_38 : decode cX10_season 38 = .ok (.invokevirtual 55, 3) := by decide +kernel
theorem dX10_season_41 : decode cX10_season 41 = .ok (.goto 9, 3) := by decide +kernel
theorem dX10_season_44 : decode cX10_season 44 = .ok (.aload_n 0, 1) := by decide +kernel
theorem dX10_season_45 : decode cX10_season 45 = .ok (.ldc 59, 2) := by decide +kernel
theorem dX10_season_47 : decode cX10_season 47 = .ok (.invokevirtual 60, 3) := by decide +kernel
theorem dX10_season_50 : decode cX10_season 50 = .ok (.ireturn, 1) := by decide +kernel
theorem dX10_ofSeason_0 : decode cX10_ofSeason 0 = .ok (.iload_n 1, 1) := by decide +kernel
theorem dX10_ofSeason_1 : decode cX10_ofSeason 1 = .ok (.iconst 0, 1) := by decide +kernel
theorem dX10_ofSeason_2 : decode cX10_ofSeason 2 = .ok (.iconst 5, 1) := by decide +kernel
theorem dX10_ofSeason_3 : decode cX10_ofSeason 3 = .ok (.invokestatic 51, 3) := by decide +kernel
theorem dX10_ofSeason_6 : decode cX10_ofSeason 6 = .ok (.ifCond .eq 28, 3) := by decide +kernel
theorem dX10_ofSeason_9 : decode cX10_ofSeason 9 = .ok (.iload_n 2, 1) := by decide +kernel
theorem dX10_ofSeason_10 : decode cX10_ofSeason 10 = .ok (.iconst 0, 1) := by decide +kernel
theorem dX10_ofSeason_11 : decode cX10_ofSeason 11 = .ok (.iconst 1, 1) := by decide +kernel
theorem dX10_ofSeason_12 : decode cX10_ofSeason 12 = .ok (.invokestatic 51, 3) := by decide +kernel
theorem dX10_ofSeason_15 : decode cX10_ofSeason 15 = .ok (.ifCond .eq 19, 3) := by decide +kernel
theorem dX10_ofSeason_18 : decode cX10_ofSeason 18 = .ok (.aload_n 0, 1) := by decide +kernel
theorem dX10_ofSeason_19 : decode cX10_ofSeason 19 = .ok (.getfield 7, 3) := by decide +kernel
theorem dX10_ofSeason_22 : decode cX10_ofSeason 22 = .ok (.bipush 12, 2) := by decide +kernel
theorem dX10_ofSeason_24 : decode cX10_ofSeason 24 = .ok (.iconst 2, 1) := by decide +kernel
theorem dX10_ofSeason_25 : decode cX10_ofSeason 25 = .ok (.iload_n 1, 1) := by decide +kernel
theorem dX10_ofSeason_26 : decode cX10_ofSeason 26 = .ok (.imul, 1) := by decide +kernel
theorem dX10_ofSeason_27 : decode cX10_ofSeason 27 = .ok (.iadd, 1) := by decide +kernel
theorem dX10_ofSeason_28 : decode cX10_ofSeason 28 = .ok (.iload_n 2, 1) := by decide +kernel
theorem dX10_ofSeason_29 : decode cX10_ofSeason 29 = .ok (.iadd, 1) := by decide +kernel
theorem dX10_ofSeason_30 : decode cX10_ofSeason 30 = .ok (.iaload, 1) := by decide +kernel
theorem dX10_ofSeason_31 : decode cX10_ofSeason 31 = .ok (.goto 9, 3) := by decide +kernel
theorem dX10_ofSeason_34 : decode cX10_ofSeason 34 = .ok (.aload_n 0, 1) := by decide +kernel
theorem dX10_ofSeason_35 : decode cX10_ofSeason 35 = .ok (.ldc 59, 2) := by decide +kernel
theorem dX10_ofSeason_37 : decode cX10_ofSeason 37 = .ok (.invokevirtual 60, 3) := by decide +kernel
theorem dX10_ofSeason_40 : decode cX10_ofSeason 40 = .ok (.ireturn, 1) := by decide +kernel
theorem dX10_mostOf_0 : decode cX10_mostOf 0 = .ok (.iload_n 0, 1) := by decide +kernel
theorem dX10_mostOf_1 : decode cX10_mostOf 1 = .ok (.iconst 3, 1) := by decide +kernel
theorem dX10_mostOf_2 : decode cX10_mostOf 2 = .ok (.if_icmp .ne 8, 3) := by decide +kernel
theorem dX10_mostOf_5 : decode cX10_mostOf 5 = .ok (.bipush 60, 2) := by decide +kernel
theorem dX10_mostOf_7 : decode cX10_mostOf 7 = .ok (.goto 15, 3) := by decide +kernel
theorem dX10_mostOf_10 : decode cX10_mostOf 10 = .ok (.iload_n 0, 1) := by decide +kernel
theorem dX10_mostOf_11 : decode cX10_mostOf 11 = .ok (.iconst 4, 1) := by decide +kernel
theorem dX10_mostOf_12 : decode cX10_mostOf 12 = .ok (.if_icmp .ne 8, 3) := by decide +kernel
theorem dX10_mostOf_15 : decode cX10_mostOf 15 = .ok (.bipush 15, 2) := by decide +kernel
theorem dX10_mostOf_17 : decode cX10_mostOf 17 = .ok (.goto 5, 3) := by decide +kernel
theorem dX10_mostOf_20 : decode cX10_mostOf 20 = .ok (.bipush 99, 2) := by decide +kernel
theorem dX10_mostOf_22 : decode cX10_mostOf 22 = .ok (.ireturn, 1) := by decide +kernel
theorem dX10_figure_0 : decode cX10_figure 0 = .ok (.iload_n 1, 1) := by decide +kernel
theorem dX10_figure_1 : decode cX10_figure 1 = .ok (.iconst 0, 1) := by decide +kernel
theorem dX10_figure_2 : decode cX10_figure 2 = .ok (.iconst 4, 1) := by decide +kernel
theorem dX10_figure_3 : decode cX10_figure 3 = .ok (.invokestatic 51, 3) := by decide +kernel
theorem dX10_figure_6 : decode cX10_figure 6 = .ok (.ifCond .eq 26, 3) := by decide +kernel
theorem dX10_figure_9 : decode cX10_figure 9 = .ok (.iload_n 2, 1) := by decide +kernel
theorem dX10_figure_10 : decode cX10_figure 10 = .ok (.iconst 0, 1) := by decide +kernel
theorem dX10_figure_11 : decode cX10_figure 11 = .ok (.iload_n 1, 1) := by decide +kernel
theorem dX10_figure_12 : decode cX10_figure 12 = .ok (.invokestatic 64, 3) := by decide +kernel
theorem dX10_figure_15 : decode cX10_figure 15 = .ok (.invokestatic 51, 3) := by decide +kernel
theorem dX10_figure_18 : decode cX10_figure 18 = .ok (.ifCond .eq 14, 3) := by decide +kernel
theorem dX10_figure_21 : decode cX10_figure 21 = .ok (.aload_n 0, 1) := by decide +kernel
theorem dX10_figure_22 : decode cX10_figure 22 = .ok (.iconst 3, 1) := by decide +kernel
theorem dX10_figure_23 : decode cX10_figure 23 = .ok (.iload_n 1, 1) := by decide +kernel
theorem dX10_figure_24 : decode cX10_figure 24 = .ok (.iadd, 1) := by decide +kernel
theorem dX10_figure_25 : decode cX10_figure 25 = .ok (.iload_n 2, 1) := by decide +kernel
theorem dX10_figure_26 : decode cX10_figure 26 = .ok (.invokevirtual 55, 3) := by decide +kernel
theorem dX10_figure_29 : decode cX10_figure 29 = .ok (.goto 9, 3) := by decide +kernel
theorem dX10_figure_32 : decode cX10_figure 32 = .ok (.aload_n 0, 1) := by decide +kernel
theorem dX10_figure_33 : decode cX10_figure 33 = .ok (.ldc 59, 2) := by decide +kernel
theorem dX10_figure_35 : decode cX10_figure 35 = .ok (.invokevirtual 60, 3) := by decide +kernel
theorem dX10_figure_38 : decode cX10_figure 38 = .ok (.ireturn, 1) := by decide +kernel
theorem dX10_weight_0 : decode cX10_weight 0 = .ok (.bipush 40, 2) := by decide +kernel
theorem dX10_weight_2 : decode cX10_weight 2 = .ok (.aload_n 0, 1) := by decide +kernel
theorem dX10_weight_3 : decode cX10_weight 3 = .ok (.getfield 7, 3) := by decide +kernel
theorem dX10_weight_6 : decode cX10_weight 6 = .ok (.iconst 5, 1) := by decide +kernel
theorem dX10_weight_7 : decode cX10_weight 7 = .ok (.iaload, 1) := by decide +kernel
theorem dX10_weight_8 : decode cX10_weight 8 = .ok (.iconst 4, 1) := by decide +kernel
theorem dX10_weight_9 : decode cX10_weight 9 = .ok (.idiv, 1) := by decide +kernel
theorem dX10_weight_10 : decode cX10_weight 10 = .ok (.iadd, 1) := by decide +kernel
theorem dX10_weight_11 : decode cX10_weight 11 = .ok (.ireturn, 1) := by decide +kernel
theorem dX10_isGood_0 : decode cX10_isGood 0 = .ok (.aload_n 0, 1) := by decide +kernel
theorem dX10_isGood_1 : decode cX10_isGood 1 = .ok (.getfield 7, 3) := by decide +kernel
theorem dX10_isGood_4 : decode cX10_isGood 4 = .ok (.bipush 24, 2) := by decide +kernel
theorem dX10_isGood_6 : decode cX10_isGood 6 = .ok (.iconst 2, 1) := by decide +kernel
theorem dX10_isGood_7 : decode cX10_isGood 7 = .ok (.iload_n 1, 1) := by decide +kernel
theorem dX10_isGood_8 : decode cX10_isGood 8 = .ok (.imul, 1) := by decide +kernel
theorem dX10_isGood_9 : decode cX10_isGood 9 = .ok (.iadd, 1) := by decide +kernel
theorem dX10_isGood_10 : decode cX10_isGood 10 = .ok (.iconst 1, 1) := by decide +kernel
theorem dX10_isGood_11 : decode cX10_isGood 11 = .ok (.iadd, 1) := by decide +kernel
theorem dX10_isGood_12 : decode cX10_isGood 12 = .ok (.iaload, 1) := by decide +kernel
theorem dX10_isGood_13 : decode cX10_isGood 13 = .ok (.aload_n 0, 1) := by decide +kernel
theorem dX10_isGood_14 : decode cX10_isGood 14 = .ok (.invokevirtual 67, 3) := by decide +kernel
theorem dX10_isGood_17 : decode cX10_isGood 17 = .ok (.if_icmp .lt 7, 3) := by decide +kernel
theorem dX10_isGood_20 : decode cX10_isGood 20 = .ok (.iconst 1, 1) := by decide +kernel
theorem dX10_isGood_21 : decode cX10_isGood 21 = .ok (.goto 4, 3) := by decide +kernel
theorem dX10_isGood_24 : decode cX10_isGood 24 = .ok (.iconst 0, 1) := by decide +kernel
theorem dX10_isGood_25 : decode cX10_isGood 25 = .ok (.ireturn, 1) := by decide +kernel
theorem dX10_step_0 : decode cX10_step 0 = .ok (.iload_n 1, 1) := by decide +kernel
theorem dX10_step_1 : decode cX10_step 1 = .ok (.iconst 0, 1) := by decide +kernel
theorem dX10_step_2 : decode cX10_step 2 = .ok (.bipush 9, 2) := by decide +kernel
theorem dX10_step_4 : decode cX10_step 4 = .ok (.invokestatic 51, 3) := by decide +kernel
theorem dX10_step_7 : decode cX10_step 7 = .ok (.ifCond .eq 47, 3) := by decide +kernel
theorem dX10_step_10 : decode cX10_step 10 = .ok (.iload_n 2, 1) := by decide +kernel
theorem dX10_step_11 : decode cX10_step 11 = .ok (.iconst 0, 1) := by decide +kernel
theorem dX10_step_12 : decode cX10_step 12 = .ok (.iconst 1, 1) := by decide +kernel
theorem dX10_step_13 : decode cX10_step 13 = .ok (.invokestatic 51, 3) := by decide +kernel
theorem dX10_step_16 : decode cX10_step 16 = .ok (.ifCond .eq 38, 3) := by decide +kernel
theorem dX10_step_19 : decode cX10_step 19 = .ok (.iload_n 3, 1) := by decide +kernel
theorem dX10_step_20 : decode cX10_step 20 = .ok (.iconst 0, 1) := by decide +kernel
theorem dX10_step_21 : decode cX10_step 21 = .ok (.iload_n 2, 1) := by decide +kernel
theorem dX10_step_22 : decode cX10_step 22 = .ok (.ifCond .ne 8, 3) := by decide +kernel
theorem dX10_step_25 : decode cX10_step 25 = .ok (.bipush 9, 2) := by decide +kernel
theorem dX10_step_27 : decode cX10_step 27 = .ok (.goto 5, 3) := by decide +kernel
theorem dX10_step_30 : decode cX10_step 30 = .ok (.bipush 99, 2) := by decide +kernel
theorem dX10_step_32 : decode cX10_step 32 = .ok (.invokestatic 51, 3) := by decide +kernel
theorem dX10_step_35 : decode cX10_step 35 = .ok (.ifCond .eq 19, 3) := by decide +kernel
theorem dX10_step_38 : decode cX10_step 38 = .ok (.aload_n 0, 1) := by decide +kernel
theorem dX10_step_39 : decode cX10_step 39 = .ok (.bipush 24, 2) := by decide +kernel
theorem dX10_step_41 : decode cX10_step 41 = .ok (.iconst 2, 1) := by decide +kernel
theorem dX10_step_42 : decode cX10_step 42 = .ok (.iload_n 1, 1) := by decide +kernel
theorem dX10_step_43 : decode cX10_step 43 = .ok (.imul, 1) := by decide +kernel
theorem dX10_step_44 : decode cX10_step 44 = .ok (.iadd, 1) := by decide +kernel
theorem dX10_step_45 : decode cX10_step 45 = .ok (.iload_n 2, 1) := by decide +kernel
theorem dX10_step_46 : decode cX10_step 46 = .ok (.iadd, 1) := by decide +kernel
theorem dX10_step_47 : decode cX10_step 47 = .ok (.iload_n 3, 1) := by decide +kernel
theorem dX10_step_48 : decode cX10_step 48 = .ok (.invokevirtual 55, 3) := by decide +kernel
theorem dX10_step_51 : decode cX10_step 51 = .ok (.goto 9, 3) := by decide +kernel
theorem dX10_step_54 : decode cX10_step 54 = .ok (.aload_n 0, 1) := by decide +kernel
theorem dX10_step_55 : decode cX10_step 55 = .ok (.ldc 59, 2) := by decide +kernel
theorem dX10_step_57 : decode cX10_step 57 = .ok (.invokevirtual 60, 3) := by decide +kernel
theorem dX10_step_60 : decode cX10_step 60 = .ok (.ireturn, 1) := by decide +kernel
theorem dX10_ofStep_0 : decode cX10_ofStep 0 = .ok (.iload_n 1, 1) := by decide +kernel
theorem dX10_ofStep_1 : decode cX10_ofStep 1 = .ok (.iconst 0, 1) := by decide +kernel
theorem dX10_ofStep_2 : decode cX10_ofStep 2 = .ok (.bipush 9, 2) := by decide +kernel
theorem dX10_ofStep_4 : decode cX10_ofStep 4 = .ok (.invokestatic 51, 3) := by decide +kernel
theorem dX10_ofStep_7 : decode cX10_ofStep 7 = .ok (.ifCond .eq 12, 3) := by decide +kernel
theorem dX10_ofStep_10 : decode cX10_ofStep 10 = .ok (.iload_n 2, 1) := by decide +kernel
theorem dX10_ofStep_11 : decode cX10_ofStep 11 = .ok (.iconst 0, 1) := by decide +kernel
theorem dX10_ofStep_12 : decode cX10_ofStep 12 = .ok (.iconst 2, 1) := by decide +kernel
theorem dX10_ofStep_13 : decode cX10_ofStep 13 = .ok (.invokestatic 51, 3) := by decide +kernel
theorem dX10_ofStep_16 : decode cX10_ofStep 16 = .ok (.ifCond .ne 10, 3) := by decide +kernel
theorem dX10_ofStep_19 : decode cX10_ofStep 19 = .ok (.aload_n 0, 1) := by decide +kernel
theorem dX10_ofStep_20 : decode cX10_ofStep 20 = .ok (.ldc 59, 2) := by decide +kernel
theorem dX10_ofStep_22 : decode cX10_ofStep 22 = .ok (.invokevirtual 60, 3) := by decide +kernel
theorem dX10_ofStep_25 : decode cX10_ofStep 25 = .ok (.ireturn, 1) := by decide +kernel
theorem dX10_ofStep_26 : decode cX10_ofStep 26 = .ok (.iload_n 2, 1) := by decide +kernel
theorem dX10_ofStep_27 : decode cX10_ofStep 27 = .ok (.iconst 2, 1) := by decide +kernel
theorem dX10_ofStep_28 : decode cX10_ofStep 28 = .ok (.if_icmp .ge 19, 3) := by decide +kernel
theorem dX10_ofStep_31 : decode cX10_ofStep 31 = .ok (.aload_n 0, 1) := by decide +kernel
theorem dX10_ofStep_32 : decode cX10_ofStep 32 = .ok (.getfield 7, 3) := by decide +kernel
theorem dX10_ofStep_35 : decode cX10_ofStep 35 = .ok (.bipush 24, 2) := by decide +kernel
theorem dX10_ofStep_37 : decode cX10_ofStep 37 = .ok (.iconst 2, 1) := by decide +kernel
theorem dX10_ofStep_38 : decode cX10_ofStep 38 = .ok (.iload_n 1, 1) := by decide +kernel
theorem dX10_ofStep_39 : decode cX10_ofStep 39 = .ok (.imul, 1) := by decide +kernel
theorem dX10_ofStep_40 : decode cX10_ofStep 40 = .ok (.iadd, 1) := by decide +kernel
theorem dX10_ofStep_41 : decode cX10_ofStep 41 = .ok (.iload_n 2, 1) := by decide +kernel
theorem dX10_ofStep_42 : decode cX10_ofStep 42 = .ok (.iadd, 1) := by decide +kernel
theorem dX10_ofStep_43 : decode cX10_ofStep 43 = .ok (.iaload, 1) := by decide +kernel
theorem dX10_ofStep_44 : decode cX10_ofStep 44 = .ok (.goto 16, 3) := by decide +kernel
theorem dX10_ofStep_47 : decode cX10_ofStep 47 = .ok (.aload_n 0, 1) := by decide +kernel
theorem dX10_ofStep_48 : decode cX10_ofStep 48 = .ok (.iload_n 1, 1) := by decide +kernel
theorem dX10_ofStep_49 : decode cX10_ofStep 49 = .ok (.invokevirtual 71, 3) := by decide +kernel
theorem dX10_ofStep_52 : decode cX10_ofStep 52 = .ok (.ifCond .eq 7, 3) := by decide +kernel
theorem dX10_ofStep_55 : decode cX10_ofStep 55 = .ok (.iconst 1, 1) := by decide +kernel
theorem dX10_ofStep_56 : decode cX10_ofStep 56 = .ok (.goto 4, 3) := by decide +kernel
theorem dX10_ofStep_59 : decode cX10_ofStep 59 = .ok (.iconst 0, 1) := by decide +kernel
theorem dX10_ofStep_60 : decode cX10_ofStep 60 = .ok (.ireturn, 1) := by decide +kernel
theorem dX10_trees_0 : decode cX10_trees 0 = .ok (.iload_n 1, 1) := by decide +kernel
theorem dX10_trees_1 : decode cX10_trees 1 = .ok (.iconst 0, 1) := by decide +kernel
theorem dX10_trees_2 : decode cX10_trees 2 = .ok (.bipush 7, 2) := by decide +kernel
theorem dX10_trees_4 : decode cX10_trees 4 = .ok (.invokestatic 51, 3) := by decide +kernel
theorem dX10_trees_7 : decode cX10_trees 7 = .ok (.ifCond .eq 26, 3) := by decide +kernel
theorem dX10_trees_10 : decode cX10_trees 10 = .ok (.iload_n 2, 1) := by decide +kernel
theorem dX10_trees_11 : decode cX10_trees 11 = .ok (.iconst 0, 1) := by decide +kernel
theorem dX10_trees_12 : decode cX10_trees 12 = .ok (.sipush 255, 3) := by decide +kernel
theorem dX10_trees_15 : decode cX10_trees 15 = .ok (.invokestatic 51, 3) := by decide +kernel
theorem dX10_trees_18 : decode cX10_trees 18 = .ok (.ifCond .eq 15, 3) := by decide +kernel
theorem dX10_trees_21 : decode cX10_trees 21 = .ok (.aload_n 0, 1) := by decide +kernel
theorem dX10_trees_22 : decode cX10_trees 22 = .ok (.bipush 44, 2) := by decide +kernel
theorem dX10_trees_24 : decode cX10_trees 24 = .ok (.iload_n 1, 1) := by decide +kernel
theorem dX10_trees_25 : decode cX10_trees 25 = .ok (.iadd, 1) := by decide +kernel
theorem dX10_trees_26 : decode cX10_trees 26 = .ok (.iload_n 2, 1) := by decide +kernel
theorem dX10_trees_27 : decode cX10_trees 27 = .ok (.invokevirtual 55, 3) := by decide +kernel
theorem dX10_trees_30 : decode cX10_trees 30 = .ok (.goto 9, 3) := by decide +kernel
theorem dX10_trees_33 : decode cX10_trees 33 = .ok (.aload_n 0, 1) := by decide +kernel
theorem dX10_trees_34 : decode cX10_trees 34 = .ok (.ldc 59, 2) := by decide +kernel
theorem dX10_trees_36 : decode cX10_trees 36 = .ok (.invokevirtual 60, 3) := by decide +kernel
theorem dX10_trees_39 : decode cX10_trees 39 = .ok (.ireturn, 1) := by decide +kernel
theorem dX10_visitor_0 : decode cX10_visitor 0 = .ok (.iload_n 1, 1) := by decide +kernel
theorem dX10_visitor_1 : decode cX10_visitor 1 = .ok (.iconst 0, 1) := by decide +kernel
theorem dX10_visitor_2 : decode cX10_visitor 2 = .ok (.bipush 69, 2) := by decide +kernel
theorem dX10_visitor_4 : decode cX10_visitor 4 = .ok (.invokestatic 51, 3) := by decide +kernel
theorem dX10_visitor_7 : decode cX10_visitor 7 = .ok (.ifCond .eq 23, 3) := by decide +kernel
theorem dX10_visitor_10 : decode cX10_visitor 10 = .ok (.iload_n 2, 1) := by decide +kernel
theorem dX10_visitor_11 : decode cX10_visitor 11 = .ok (.iconst 0, 1) := by decide +kernel
theorem dX10_visitor_12 : decode cX10_visitor 12 = .ok (.bipush 9, 2) := by decide +kernel
theorem dX10_visitor_14 : decode cX10_visitor 14 = .ok (.invokestatic 51, 3) := by decide +kernel
theorem dX10_visitor_17 : decode cX10_visitor 17 = .ok (.ifCond .eq 13, 3) := by decide +kernel
theorem dX10_visitor_20 : decode cX10_visitor 20 = .ok (.iload_n 3, 1) := by decide +kernel
theorem dX10_visitor_21 : decode cX10_visitor 21 = .ok (.iconst 1, 1) := by decide +kernel
theorem dX10_visitor_22 : decode cX10_visitor 22 = .ok (.bipush 12, 2) := by decide +kernel
theorem dX10_visitor_24 : decode cX10_visitor 24 = .ok (.invokestatic 51, 3) := by decide +kernel
theorem dX10_visitor_27 : decode cX10_visitor 27 = .ok (.ifCond .ne 10, 3) := by decide +kernel
theorem dX10_visitor_30 : decode cX10_visitor 30 = .ok (.aload_n 0, 1) := by decide +kernel
theorem dX10_visitor_31 : decode cX10_visitor 31 = .ok (.ldc 59, 2) := by decide +kernel
theorem dX10_visitor_33 : decode cX10_visitor 33 = .ok (.invokevirtual 60, 3) := by decide +kernel
theorem dX10_visitor_36 : decode cX10_visitor 36 = .ok (.ireturn, 1) := by decide +kernel
theorem dX10_visitor_37 : decode cX10_visitor 37 = .ok (.aload_n 0, 1) := by decide +kernel
theorem dX10_visitor_38 : decode cX10_visitor 38 = .ok (.getfield 7, 3) := by decide +kernel
theorem dX10_visitor_41 : decode cX10_visitor 41 = .ok (.iconst 2, 1) := by decide +kernel
theorem dX10_visitor_42 : decode cX10_visitor 42 = .ok (.iaload, 1) := by decide +kernel
theorem dX10_visitor_43 : decode cX10_visitor 43 = .ok (.bipush 8, 2) := by decide +kernel
theorem dX10_visitor_45 : decode cX10_visitor 45 = .ok (.if_icmp .ne 10, 3) := by decide +kernel
theorem dX10_visitor_48 : decode cX10_visitor 48 = .ok (.aload_n 0, 1) := by decide +kernel
theorem dX10_visitor_49 : decode cX10_visitor 49 = .ok (.ldc 75, 2) := by decide +kernel
theorem dX10_visitor_51 : decode cX10_visitor 51 = .ok (.invokevirtual 60, 3) := by decide +kernel
theorem dX10_visitor_54 : decode cX10_visitor 54 = .ok (.ireturn, 1) := by decide +kernel
theorem dX10_visitor_55 : decode cX10_visitor 55 = .ok (.aload_n 0, 1) := by decide +kernel
theorem dX10_visitor_56 : decode cX10_visitor 56 = .ok (.getfield 7, 3) := by decide +kernel
theorem dX10_visitor_59 : decode cX10_visitor 59 = .ok (.iconst 2, 1) := by decide +kernel
theorem dX10_visitor_60 : decode cX10_visitor 60 = .ok (.iaload, 1) := by decide +kernel
theorem dX10_visitor_61 : decode cX10_visitor 61 = .ok (.istore 4, 2) := by decide +kernel
theorem dX10_visitor_63 : decode cX10_visitor 63 = .ok (.aload_n 0, 1) := by decide +kernel
theorem dX10_visitor_64 : decode cX10_visitor 64 = .ok (.iload 4, 2) := by decide +kernel
theorem dX10_visitor_66 : decode cX10_visitor 66 = .ok (.iconst 0, 1) := by decide +kernel
theorem dX10_visitor_67 : decode cX10_visitor 67 = .ok (.iload_n 1, 1) := by decide +kernel
theorem dX10_visitor_68 : decode cX10_visitor 68 = .ok (.bipush 10, 2) := by decide +kernel
theorem dX10_visitor_70 : decode cX10_visitor 70 = .ok (.idiv, 1) := by decide +kernel
theorem dX10_visitor_71 : decode cX10_visitor 71 = .ok (.invokevirtual 76, 3) := by decide +kernel
theorem dX10_visitor_74 : decode cX10_visitor 74 = .ok (.aload_n 0, 1) := by decide +kernel
theorem dX10_visitor_75 : decode cX10_visitor 75 = .ok (.iload 4, 2) := by decide +kernel
theorem dX10_visitor_77 : decode cX10_visitor 77 = .ok (.iconst 1, 1) := by decide +kernel
theorem dX10_visitor_78 : decode cX10_visitor 78 = .ok (.iload_n 1, 1) := by decide +kernel
theorem dX10_visitor_79 : decode cX10_visitor 79 = .ok (.bipush 10, 2) := by decide +kernel
theorem dX10_visitor_81 : decode cX10_visitor 81 = .ok (.irem, 1) := by decide +kernel
theorem dX10_visitor_82 : decode cX10_visitor 82 = .ok (.invokevirtual 76, 3) := by decide +kernel
theorem dX10_visitor_85 : decode cX10_visitor 85 = .ok (.aload_n 0, 1) := by decide +kernel
theorem dX10_visitor_86 : decode cX10_visitor 86 = .ok (.iload 4, 2) := by decide +kernel
theorem dX10_visitor_88 : decode cX10_visitor 88 = .ok (.iconst 2, 1) := by decide +kernel
theorem dX10_visitor_89 : decode cX10_visitor 89 = .ok (.iload_n 2, 1) := by decide +kernel
theorem dX10_visitor_90 : decode cX10_visitor 90 = .ok (.invokevirtual 76, 3) := by decide +kernel
theorem dX10_visitor_93 : decode cX10_visitor 93 = .ok (.aload_n 0, 1) := by decide +kernel
theorem dX10_visitor_94 : decode cX10_visitor 94 = .ok (.iload 4, 2) := by decide +kernel
theorem dX10_visitor_96 : decode cX10_visitor 96 = .ok (.iconst 3, 1) := by decide +kernel
theorem dX10_visitor_97 : decode cX10_visitor 97 = .ok (.iload_n 3, 1) := by decide +kernel
theorem dX10_visitor_98 : decode cX10_visitor 98 = .ok (.invokevirtual 76, 3) := by decide +kernel
theorem dX10_visitor_101 : decode cX10_visitor 101 = .ok (.aload_n 0, 1) := by decide +kernel
theorem dX10_visitor_102 : decode cX10_visitor 102 = .ok (.getfield 7, 3) := by decide +kernel
theorem dX10_visitor_105 : decode cX10_visitor 105 = .ok (.iconst 2, 1) := by decide +kernel
theorem dX10_visitor_106 : decode cX10_visitor 106 = .ok (.dup2, 1) := by decide +kernel
theorem dX10_visitor_107 : decode cX10_visitor 107 = .ok (.iaload, 1) := by decide +kernel
theorem dX10_visitor_108 : decode cX10_visitor 108 = .ok (.iconst 1, 1) := by decide +kernel
theorem dX10_visitor_109 : decode cX10_visitor 109 = .ok (.iadd, 1) := by decide +kernel
theorem dX10_visitor_110 : decode cX10_visitor 110 = .ok (.iastore, 1) := by decide +kernel
theorem dX10_visitor_111 : decode cX10_visitor 111 = .ok (.iload 4, 2) := by decide +kernel
theorem dX10_visitor_113 : decode cX10_visitor 113 = .ok (.ireturn, 1) := by decide +kernel
theorem dX10_ofVisitor_0 : decode cX10_ofVisitor 0 = .ok (.aload_n 0, 1) := by decide +kernel
theorem dX10_ofVisitor_1 : decode cX10_ofVisitor 1 = .ok (.iload_n 1, 1) := by decide +kernel
theorem dX10_ofVisitor_2 : decode cX10_ofVisitor 2 = .ok (.invokevirtual 80, 3) := by decide +kernel
theorem dX10_ofVisitor_5 : decode cX10_ofVisitor 5 = .ok (.ifCond .eq 12, 3) := by decide +kernel
theorem dX10_ofVisitor_8 : decode cX10_ofVisitor 8 = .ok (.iload_n 2, 1) := by decide +kernel
theorem dX10_ofVisitor_9 : decode cX10_ofVisitor 9 = .ok (.iconst 0, 1) := by decide +kernel
theorem dX10_ofVisitor_10 : decode cX10_ofVisitor 10 = .ok (.iconst 5, 1) := by decide +kernel
theorem dX10_ofVisitor_11 : decode cX10_ofVisitor 11 = .ok (.invokestatic 51, 3) := by decide +kernel
theorem dX10_ofVisitor_14 : decode cX10_ofVisitor 14 = .ok (.ifCond .ne 10, 3) := by decide +kernel
theorem dX10_ofVisitor_17 : decode cX10_ofVisitor 17 = .ok (.aload_n 0, 1) := by decide +kernel
theorem dX10_ofVisitor_18 : decode cX10_ofVisitor 18 = .ok (.ldc 59, 2) := by decide +kernel
theorem dX10_ofVisitor_20 : decode cX10_ofVisitor 20 = .ok (.invokevirtual 60, 3) := by decide +kernel
theorem dX10_ofVisitor_23 : decode cX10_ofVisitor 23 = .ok (.ireturn, 1) := by decide +kernel
theorem dX10_ofVisitor_24 : decode cX10_ofVisitor 24 = .ok (.iload_n 2, 1) := by decide +kernel
theorem dX10_ofVisitor_25 : decode cX10_ofVisitor 25 = .ok (.iconst 4, 1) := by decide +kernel
theorem dX10_ofVisitor_26 : decode cX10_ofVisitor 26 = .ok (.if_icmp .ge 12, 3) := by decide +kernel
theorem dX10_ofVisitor_29 : decode cX10_ofVisitor 29 = .ok (.aload_n 0, 1) := by decide +kernel
theorem dX10_ofVisitor_30 : decode cX10_ofVisitor 30 = .ok (.iload_n 1, 1) := by decide +kernel
theorem dX10_ofVisitor_31 : decode cX10_ofVisitor 31 = .ok (.iload_n 2, 1) := by decide +kernel
theorem dX10_ofVisitor_32 : decode cX10_ofVisitor 32 = .ok (.invokevirtual 83, 3) := by decide +kernel
theorem dX10_ofVisitor_35 : decode cX10_ofVisitor 35 = .ok (.goto 29, 3) := by decide +kernel
theorem dX10_ofVisitor_38 : decode cX10_ofVisitor 38 = .ok (.iload_n 2, 1) := by decide +kernel
theorem dX10_ofVisitor_39 : decode cX10_ofVisitor 39 = .ok (.iconst 5, 1) := by decide +kernel
theorem dX10_ofVisitor_40 : decode cX10_ofVisitor 40 = .ok (.if_icmp .ne 11, 3) := by decide +kernel
theorem dX10_ofVisitor_43 : decode cX10_ofVisitor 43 = .ok (.aload_n 0, 1) := by decide +kernel
theorem dX10_ofVisitor_44 : decode cX10_ofVisitor 44 = .ok (.iload_n 1, 1) := by decide +kernel
theorem dX10_ofVisitor_45 : decode cX10_ofVisitor 45 = .ok (.invokevirtual 86, 3) := by decide +kernel
theorem dX10_ofVisitor_48 : decode cX10_ofVisitor 48 = .ok (.goto 16, 3) := by decide +kernel
theorem dX10_ofVisitor_51 : decode cX10_ofVisitor 51 = .ok (.aload_n 0, 1) := by decide +kernel
theorem dX10_ofVisitor_52 : decode cX10_ofVisitor 52 = .ok (.iload_n 1, 1) := by decide +kernel
theorem dX10_ofVisitor_53 : decode cX10_ofVisitor 53 = .ok (.invokevirtual 89, 3) := by decide +kernel
theorem dX10_ofVisitor_56 : decode cX10_ofVisitor 56 = .ok (.ifCond .eq 7, 3) := by decide +kernel
theorem dX10_ofVisitor_59 : decode cX10_ofVisitor 59 = .ok (.iconst 1, 1) := by decide +kernel
theorem dX10_ofVisitor_60 : decode cX10_ofVisitor 60 = .ok (.goto 4, 3) := by decide +kernel
theorem dX10_ofVisitor_63 : decode cX10_ofVisitor 63 = .ok (.iconst 0, 1) := by decide +kernel
theorem dX10_ofVisitor_64 : decode cX10_ofVisitor 64 = .ok (.ireturn, 1) := by decide +kernel
theorem dX10_change_0 : decode cX10_change 0 = .ok (.iload_n 2, 1) := by decide +kernel
theorem dX10_change_1 : decode cX10_change 1 = .ok (.ifCond .ne 13, 3) := by decide +kernel
theorem dX10_change_4 : decode cX10_change 4 = .ok (.iload_n 3, 1) := by decide +kernel
theorem dX10_change_5 : decode cX10_change 5 = .ok (.iconst 0, 1) := by decide +kernel
theorem dX10_change_6 : decode cX10_change 6 = .ok (.bipush 9, 2) := by decide +kernel
theorem dX10_change_8 : decode cX10_change 8 = .ok (.invokestatic 51, 3) := by decide +kernel
theorem dX10_change_11 : decode cX10_change 11 = .ok (.goto 23, 3) := by decide +kernel
theorem dX10_change_14 : decode cX10_change 14 = .ok (.iload_n 2, 1) := by decide +kernel
theorem dX10_change_15 : decode cX10_change 15 = .ok (.iconst 1, 1) := by decide +kernel
theorem dX10_change_16 : decode cX10_change 16 = .ok (.if_icmp .ne 17, 3) := by decide +kernel
theorem dX10_change_19 : decode cX10_change 19 = .ok (.iload_n 3, 1) := by decide +kernel
theorem dX10_change_20 : decode cX10_change 20 = .ok (.iconst 1, 1) := by decide +kernel
theorem dX10_change_21 : decode cX10_change 21 = .ok (.bipush 12, 2) := by decide +kernel
theorem dX10_change_23 : decode cX10_change 23 = .ok (.invokestatic 51, 3) := by decide +kernel
theorem dX10_change_26 : decode cX10_change 26 = .ok (.ifCond .eq 7, 3) := by decide +kernel
theorem dX10_change_29 : decode cX10_change 29 = .ok (.iconst 1, 1) := by decide +kernel
theorem dX10_change_30 : decode cX10_change 30 = .ok (.goto 4, 3) := by decide +kernel
theorem dX10_change_33 : decode cX10_change 33 = .ok (.iconst 0, 1) := by decide +kernel
theorem dX10_change_34 : decode cX10_change 34 = .ok (.istore 4, 2) := by decide +kernel
theorem dX10_change_36 : decode cX10_change 36 = .ok (.aload_n 0, 1) := by decide +kernel
theorem dX10_change_37 : decode cX10_change 37 = .ok (.iload_n 1, 1) := by decide +kernel
theorem dX10_change_38 : decode cX10_change 38 = .ok (.invokevirtual 80, 3) := by decide +kernel
theorem dX10_change_41 : decode cX10_change 41 = .ok (.ifCond .eq 26, 3) := by decide +kernel
theorem dX10_change_44 : decode cX10_change 44 = .ok (.iload 4, 2) := by decide +kernel
theorem dX10_change_46 : decode cX10_change 46 = .ok (.ifCond .eq 21, 3) := by decide +kernel
theorem dX10_change_49 : decode cX10_change 49 = .ok (.aload_n 0, 1) := by decide +kernel
theorem dX10_change_50 : decode cX10_change 50 = .ok (.bipush 52, 2) := by decide +kernel
theorem dX10_change_52 : decode cX10_change 52 = .ok (.iconst 4, 1) := by decide +kernel
theorem dX10_change_53 : decode cX10_change 53 = .ok (.iload_n 1, 1) := by decide +kernel
theorem dX10_change_54 : decode cX10_change 54 = .ok (.imul, 1) := by decide +kernel
theorem dX10_change_55 : decode cX10_change 55 = .ok (.iadd, 1) := by decide +kernel
theorem dX10_change_56 : decode cX10_change 56 = .ok (.iconst 2, 1) := by decide +kernel
theorem dX10_change_57 : decode cX10_change 57 = .ok (.iadd, 1) := by decide +kernel
theorem dX10_change_58 : decode cX10_change 58 = .ok (.iload_n 2, 1) := by decide +kernel
theorem dX10_change_59 : decode cX10_change 59 = .ok (.iadd, 1) := by decide +kernel
theorem dX10_change_60 : decode cX10_change 60 = .ok (.iload_n 3, 1) := by decide +kernel
theorem dX10_change_61 : decode cX10_change 61 = .ok (.invokevirtual 55, 3) := by decide +kernel
theorem dX10_change_64 : decode cX10_change 64 = .ok (.goto 9, 3) := by decide +kernel
theorem dX10_change_67 : decode cX10_change 67 = .ok (.aload_n 0, 1) := by decide +kernel
theorem dX10_change_68 : decode cX10_change 68 = .ok (.ldc 59, 2) := by decide +kernel
theorem dX10_change_70 : decode cX10_change 70 = .ok (.invokevirtual 60, 3) := by decide +kernel
theorem dX10_change_73 : decode cX10_change 73 = .ok (.ireturn, 1) := by decide +kernel
theorem dX10_become_0 : decode cX10_become 0 = .ok (.aload_n 0, 1) := by decide +kernel
theorem dX10_become_1 : decode cX10_become 1 = .ok (.iload_n 1, 1) := by decide +kernel
theorem dX10_become_2 : decode cX10_become 2 = .ok (.invokevirtual 80, 3) := by decide +kernel
theorem dX10_become_5 : decode cX10_become 5 = .ok (.ifCond .eq 13, 3) := by decide +kernel
theorem dX10_become_8 : decode cX10_become 8 = .ok (.iload_n 2, 1) := by decide +kernel
theorem dX10_become_9 : decode cX10_become 9 = .ok (.iconst 0, 1) := by decide +kernel
theorem dX10_become_10 : decode cX10_become 10 = .ok (.bipush 69, 2) := by decide +kernel
theorem dX10_become_12 : decode cX10_become 12 = .ok (.invokestatic 51, 3) := by decide +kernel
theorem dX10_become_15 : decode cX10_become 15 = .ok (.ifCond .ne 10, 3) := by decide +kernel
theorem dX10_become_18 : decode cX10_become 18 = .ok (.aload_n 0, 1) := by decide +kernel
theorem dX10_become_19 : decode cX10_become 19 = .ok (.ldc 59, 2) := by decide +kernel
theorem dX10_become_21 : decode cX10_become 21 = .ok (.invokevirtual 60, 3) := by decide +kernel
theorem dX10_become_24 : decode cX10_become 24 = .ok (.ireturn, 1) := by decide +kernel
theorem dX10_become_25 : decode cX10_become 25 = .ok (.aload_n 0, 1) := by decide +kernel
theorem dX10_become_26 : decode cX10_become 26 = .ok (.iload_n 1, 1) := by decide +kernel
theorem dX10_become_27 : decode cX10_become 27 = .ok (.iconst 1, 1) := by decide +kernel
theorem dX10_become_28 : decode cX10_become 28 = .ok (.iload_n 2, 1) := by decide +kernel
theorem dX10_become_29 : decode cX10_become 29 = .ok (.bipush 10, 2) := by decide +kernel
theorem dX10_become_31 : decode cX10_become 31 = .ok (.irem, 1) := by decide +kernel
theorem dX10_become_32 : decode cX10_become 32 = .ok (.invokevirtual 76, 3) := by decide +kernel
theorem dX10_become_35 : decode cX10_become 35 = .ok (.aload_n 0, 1) := by decide +kernel
theorem dX10_become_36 : decode cX10_become 36 = .ok (.bipush 52, 2) := by decide +kernel
theorem dX10_become_38 : decode cX10_become 38 = .ok (.iconst 4, 1) := by decide +kernel
theorem dX10_become_39 : decode cX10_become 39 = .ok (.iload_n 1, 1) := by decide +kernel
theorem dX10_become_40 : decode cX10_become 40 = .ok (.imul, 1) := by decide +kernel
theorem dX10_become_41 : decode cX10_become 41 = .ok (.iadd, 1) := by decide +kernel
theorem dX10_become_42 : decode cX10_become 42 = .ok (.iload_n 2, 1) := by decide +kernel
theorem dX10_become_43 : decode cX10_become 43 = .ok (.bipush 10, 2) := by decide +kernel
theorem dX10_become_45 : decode cX10_become 45 = .ok (.idiv, 1) := by decide +kernel
theorem dX10_become_46 : decode cX10_become 46 = .ok (.invokevirtual 55, 3) := by decide +kernel
theorem dX10_become_49 : decode cX10_become 49 = .ok (.ireturn, 1) := by decide +kernel
theorem dX10_above_0 : decode cX10_above 0 = .ok (.iload_n 0, 1) := by decide +kernel
theorem dX10_above_1 : decode cX10_above 1 = .ok (.ifCond .ne 7, 3) := by decide +kernel
theorem dX10_above_4 : decode cX10_above 4 = .ok (.iconst (-1), 1) := by decide +kernel
theorem dX10_above_5 : decode cX10_above 5 = .ok (.goto 15, 3) := by decide +kernel
theorem dX10_above_8 : decode cX10_above 8 = .ok (.iload_n 0, 1) := by decide +kernel
theorem dX10_above_9 : decode cX10_above 9 = .ok (.iconst 3, 1) := by decide +kernel
theorem dX10_above_10 : decode cX10_above 10 = .ok (.if_icmp .le 9, 3) := by decide +kernel
theorem dX10_above_13 : decode cX10_above 13 = .ok (.iload_n 0, 1) := by decide +kernel
theorem dX10_above_14 : decode cX10_above 14 = .ok (.iconst 3, 1) := by decide +kernel
theorem dX10_above_15 : decode cX10_above 15 = .ok (.isub, 1) := by decide +kernel
theorem dX10_above_16 : decode cX10_above 16 = .ok (.goto 4, 3) := by decide +kernel
theorem dX10_above_19 : decode cX10_above 19 = .ok (.iconst 0, 1) := by decide +kernel
theorem dX10_above_20 : decode cX10_above 20 = .ok (.ireturn, 1) := by decide +kernel
theorem dX10_as_0 : decode cX10_as 0 = .ok (.aload_n 0, 1) := by decide +kernel
theorem dX10_as_1 : decode cX10_as 1 = .ok (.iload_n 1, 1) := by decide +kernel
theorem dX10_as_2 : decode cX10_as 2 = .ok (.invokevirtual 80, 3) := by decide +kernel
theorem dX10_as_5 : decode cX10_as 5 = .ok (.ifCond .eq 13, 3) := by decide +kernel
theorem dX10_as_8 : decode cX10_as 8 = .ok (.iload_n 2, 1) := by decide +kernel
theorem dX10_as_9 : decode cX10_as 9 = .ok (.iconst 0, 1) := by decide +kernel
theorem dX10_as_10 : decode cX10_as 10 = .ok (.bipush 6, 2) := by decide +kernel
theorem dX10_as_12 : decode cX10_as 12 = .ok (.invokestatic 51, 3) := by decide +kernel
theorem dX10_as_15 : decode cX10_as 15 = .ok (.ifCond .ne 10, 3) := by decide +kernel
theorem dX10_as_18 : decode cX10_as 18 = .ok (.aload_n 0, 1) := by decide +kernel
theorem dX10_as_19 : decode cX10_as 19 = .ok (.ldc 59, 2) := by decide +kernel
theorem dX10_as_21 : decode cX10_as 21 = .ok (.invokevirtual 60, 3) := by decide +kernel
theorem dX10_as_24 : decode cX10_as 24 = .ok (.ireturn, 1) := by decide +kernel
theorem dX10_as_25 : decode cX10_as 25 = .ok (.aload_n 0, 1) := by decide +kernel
theorem dX10_as_26 : decode cX10_as 26 = .ok (.iload_n 1, 1) := by decide +kernel
theorem dX10_as_27 : decode cX10_as 27 = .ok (.iconst 0, 1) := by decide +kernel
theorem dX10_as_28 : decode cX10_as 28 = .ok (.invokevirtual 83, 3) := by decide +kernel
theorem dX10_as_31 : decode cX10_as 31 = .ok (.istore_n 3, 1) := by decide +kernel
theorem dX10_as_32 : decode cX10_as 32 = .ok (.iload_n 3, 1) := by decide +kernel
theorem dX10_as_33 : decode cX10_as 33 = .ok (.ifCond .lt 16, 3) := by decide +kernel
theorem dX10_as_36 : decode cX10_as 36 = .ok (.iload_n 3, 1) := by decide +kernel
theorem dX10_as_37 : decode cX10_as 37 = .ok (.iload_n 2, 1) := by decide +kernel
theorem dX10_as_38 : decode cX10_as 38 = .ok (.if_icmp .eq 11, 3) := by decide +kernel
theorem dX10_as_41 : decode cX10_as 41 = .ok (.iload_n 3, 1) := by decide +kernel
theorem dX10_as_42 : decode cX10_as 42 = .ok (.invokestatic 92, 3) := by decide +kernel
theorem dX10_as_45 : decode cX10_as 45 = .ok (.istore_n 3, 1) := by decide +kernel
theorem dX10_as_46 : decode cX10_as 46 = .ok (.goto (-14), 3) := by decide +kernel
theorem dX10_as_49 : decode cX10_as 49 = .ok (.iload_n 3, 1) := by decide +kernel
theorem dX10_as_50 : decode cX10_as 50 = .ok (.ifCond .ge 12, 3) := by decide +kernel
theorem dX10_as_53 : decode cX10_as 53 = .ok (.aload_n 0, 1) := by decide +kernel
theorem dX10_as_54 : decode cX10_as 54 = .ok (.ldc 95, 2) := by decide +kernel
theorem dX10_as_56 : decode cX10_as 56 = .ok (.invokevirtual 60, 3) := by decide +kernel
theorem dX10_as_59 : decode cX10_as 59 = .ok (.goto 9, 3) := by decide +kernel
theorem dX10_as_62 : decode cX10_as 62 = .ok (.aload_n 0, 1) := by decide +kernel
theorem dX10_as_63 : decode cX10_as 63 = .ok (.iload_n 1, 1) := by decide +kernel
theorem dX10_as_64 : decode cX10_as 64 = .ok (.iconst 1, 1) := by decide +kernel
theorem dX10_as_65 : decode cX10_as 65 = .ok (.invokevirtual 83, 3) := by decide +kernel
theorem dX10_as_68 : decode cX10_as 68 = .ok (.ireturn, 1) := by decide +kernel
theorem dX10_byteAt_0 : decode cX10_byteAt 0 = .ok (.iload_n 1, 1) := by decide +kernel
theorem dX10_byteAt_1 : decode cX10_byteAt 1 = .ok (.aload_n 0, 1) := by decide +kernel
theorem dX10_byteAt_2 : decode cX10_byteAt 2 = .ok (.getfield 96, 3) := by decide +kernel
theorem dX10_byteAt_5 : decode cX10_byteAt 5 = .ok (.if_icmp .ge 24, 3) := by decide +kernel
theorem dX10_byteAt_8 : decode cX10_byteAt 8 = .ok (.aload_n 0, 1) := by decide +kernel
theorem dX10_byteAt_9 : decode cX10_byteAt 9 = .ok (.getfield 7, 3) := by decide +kernel
theorem dX10_byteAt_12 : decode cX10_byteAt 12 = .ok (.sipush 154, 3) := by decide +kernel
theorem dX10_byteAt_15 : decode cX10_byteAt 15 = .ok (.bipush 50, 2) := by decide +kernel
theorem dX10_byteAt_17 : decode cX10_byteAt 17 = .ok (.aload_n 0, 1) := by decide +kernel
theorem dX10_byteAt_18 : decode cX10_byteAt 18 = .ok (.getfield 99, 3) := by decide +kernel
theorem dX10_byteAt_21 : decode cX10_byteAt 21 = .ok (.imul, 1) := by decide +kernel
theorem dX10_byteAt_22 : decode cX10_byteAt 22 = .ok (.iadd, 1) := by decide +kernel
theorem dX10_byteAt_23 : decode cX10_byteAt 23 = .ok (.iload_n 1, 1) := by decide +kernel
theorem dX10_byteAt_24 : decode cX10_byteAt 24 = .ok (.iadd, 1) := by decide +kernel
theorem dX10_byteAt_25 : decode cX10_byteAt 25 = .ok (.iaload, 1) := by decide +kernel
theorem dX10_byteAt_26 : decode cX10_byteAt 26 = .ok (.goto 4, 3) := by decide +kernel
theorem dX10_byteAt_29 : decode cX10_byteAt 29 = .ok (.iconst (-1), 1) := by decide +kernel
theorem dX10_byteAt_30 : decode cX10_byteAt 30 = .ok (.ireturn, 1) := by decide +kernel
theorem dX10_isDigit_0 : decode cX10_isDigit 0 = .ok (.iload_n 0, 1) := by decide +kernel
theorem dX10_isDigit_1 : decode cX10_isDigit 1 = .ok (.bipush 48, 2) := by decide +kernel
theorem dX10_isDigit_3 : decode cX10_isDigit 3 = .ok (.bipush 57, 2) := by decide +kernel
theorem dX10_isDigit_5 : decode cX10_isDigit 5 = .ok (.invokestatic 51, 3) := by decide +kernel
theorem dX10_isDigit_8 : decode cX10_isDigit 8 = .ok (.ireturn, 1) := by decide +kernel
theorem dX10_fails_0 : decode cX10_fails 0 = .ok (.aload_n 0, 1) := by decide +kernel
theorem dX10_fails_1 : decode cX10_fails 1 = .ok (.iconst 0, 1) := by decide +kernel
theorem dX10_fails_2 : decode cX10_fails 2 = .ok (.putfield 102, 3) := by decide +kernel
theorem dX10_fails_5 : decode cX10_fails 5 = .ok (.iconst 0, 1) := by decide +kernel
theorem dX10_fails_6 : decode cX10_fails 6 = .ok (.ireturn, 1) := by decide +kernel
theorem dX10_number_0 : decode cX10_number 0 = .ok (.iconst 0, 1) := by decide +kernel
theorem dX10_number_1 : decode cX10_number 1 = .ok (.istore_n 1, 1) := by decide +kernel
theorem dX10_number_2 : decode cX10_number 2 = .ok (.iconst 0, 1) := by decide +kernel
theorem dX10_number_3 : decode cX10_number 3 = .ok (.istore_n 2, 1) := by decide +kernel
theorem dX10_number_4 : decode cX10_number 4 = .ok (.iload_n 2, 1) := by decide +kernel
theorem dX10_number_5 : decode cX10_number 5 = .ok (.iconst 4, 1) := by decide +kernel
theorem dX10_number_6 : decode cX10_number 6 = .ok (.if_icmp .ge 50, 3) := by decide +kernel
theorem dX10_number_9 : decode cX10_number 9 = .ok (.aload_n 0, 1) := by decide +kernel
theorem dX10_number_10 : decode cX10_number 10 = .ok (.aload_n 0, 1) := by decide +kernel
theorem dX10_number_11 : decode cX10_number 11 = .ok (.getfield 106, 3) := by decide +kernel
theorem dX10_number_14 : decode cX10_number 14 = .ok (.invokevirtual 109, 3) := by decide +kernel
theorem dX10_number_17 : decode cX10_number 17 = .ok (.invokestatic 112, 3) := by decide +kernel
theorem dX10_number_20 : decode cX10_number 20 = .ok (.ifCond .eq 36, 3) := by decide +kernel
theorem dX10_number_23 : decode cX10_number 23 = .ok (.bipush 10, 2) := by decide +kernel
theorem dX10_number_25 : decode cX10_number 25 = .ok (.iload_n 1, 1) := by decide +kernel
theorem dX10_number_26 : decode cX10_number 26 = .ok (.imul, 1) := by decide +kernel
theorem dX10_number_27 : decode cX10_number 27 = .ok (.aload_n 0, 1) := by decide +kernel
theorem dX10_number_28 : decode cX10_number 28 = .ok (.aload_n 0, 1) := by decide +kernel
theorem dX10_number_29 : decode cX10_number 29 = .ok (.getfield 106, 3) := by decide +kernel
theorem dX10_number_32 : decode cX10_number 32 = .ok (.invokevirtual 109, 3) := by decide +kernel
theorem dX10_number_35 : decode cX10_number 35 = .ok (.iadd, 1) := by decide +kernel
theorem dX10_number_36 : decode cX10_number 36 = .ok (.bipush 48, 2) := by decide +kernel
theorem dX10_number_38 : decode cX10_number 38 = .ok (.isub, 1) := by decide +kernel
theorem dX10_number_39 : decode cX10_number 39 = .ok (.istore_n 1, 1) := by decide +kernel
theorem dX10_number_40 : decode cX10_number 40 = .ok (.aload_n 0, 1) := by decide +kernel
theorem dX10_number_41 : decode cX10_number 41 = .ok (.dup, 1) := by decide +kernel
theorem dX10_number_42 : decode cX10_number 42 = .ok (.getfield 106, 3) := by decide +kernel
theorem dX10_number_45 : decode cX10_number 45 = .ok (.iconst 1, 1) := by decide +kernel
theorem dX10_number_46 : decode cX10_number 46 = .ok (.iadd, 1) := by decide +kernel
theorem dX10_number_47 : decode cX10_number 47 = .ok (.putfield 106, 3) := by decide +kernel
theorem dX10_number_50 : decode cX10_number 50 = .ok (.iinc 2 1, 3) := by decide +kernel
theorem dX10_number_53 : decode cX10_number 53 = .ok (.goto (-49), 3) := by decide +kernel
theorem dX10_number_56 : decode cX10_number 56 = .ok (.iload_n 1, 1) := by decide +kernel
theorem dX10_number_57 : decode cX10_number 57 = .ok (.ireturn, 1) := by decide +kernel
theorem dX10_named_0 : decode cX10_named 0 = .ok (.iload_n 1, 1) := by decide +kernel
theorem dX10_named_1 : decode cX10_named 1 = .ok (.bipush 119, 2) := by decide +kernel
theorem dX10_named_3 : decode cX10_named 3 = .ok (.if_icmp .ne 7, 3) := by decide +kernel
theorem dX10_named_6 : decode cX10_named 6 = .ok (.iconst 1, 1) := by decide +kernel
theorem dX10_named_7 : decode cX10_named 7 = .ok (.goto 4, 3) := by decide +kernel
theorem dX10_named_10 : decode cX10_named 10 = .ok (.iconst 0, 1) := by decide +kernel
theorem dX10_named_11 : decode cX10_named 11 = .ok (.istore_n 2, 1) := by decide +kernel
theorem dX10_named_12 : decode cX10_named 12 = .ok (.iload_n 1, 1) := by decide +kernel
theorem dX10_named_13 : decode cX10_named 13 = .ok (.bipush 104, 2) := by decide +kernel
theorem dX10_named_15 : decode cX10_named 15 = .ok (.if_icmp .ne 7, 3) := by decide +kernel
theorem dX10_named_18 : decode cX10_named 18 = .ok (.iconst 1, 1) := by decide +kernel
theorem dX10_named_19 : decode cX10_named 19 = .ok (.goto 4, 3) := by decide +kernel
theorem dX10_named_22 : decode cX10_named 22 = .ok (.iconst 0, 1) := by decide +kernel
theorem dX10_named_23 : decode cX10_named 23 = .ok (.istore_n 3, 1) := by decide +kernel
theorem dX10_named_24 : decode cX10_named 24 = .ok (.iload_n 1, 1) := by decide +kernel
theorem dX10_named_25 : decode cX10_named 25 = .ok (.aload_n 0, 1) := by decide +kernel
theorem dX10_named_26 : decode cX10_named 26 = .ok (.getfield 99, 3) := by decide +kernel
theorem dX10_named_29 : decode cX10_named 29 = .ok (.ifCond .ne 8, 3) := by decide +kernel
theorem dX10_named_32 : decode cX10_named 32 = .ok (.bipush 108, 2) := by decide +kernel
theorem dX10_named_34 : decode cX10_named 34 = .ok (.goto 5, 3) := by decide +kernel
theorem dX10_named_37 : decode cX10_named 37 = .ok (.bipush 102, 2) := by decide +kernel
theorem dX10_named_39 : decode cX10_named 39 = .ok (.if_icmp .ne 7, 3) := by decide +kernel
theorem dX10_named_42 : decode cX10_named 42 = .ok (.iconst 1, 1) := by decide +kernel
theorem dX10_named_43 : decode cX10_named 43 = .ok (.goto 4, 3) := by decide +kernel
theorem dX10_named_46 : decode cX10_named 46 = .ok (.iconst 0, 1) := by decide +kernel
theorem dX10_named_47 : decode cX10_named 47 = .ok (.istore 4, 2) := by decide +kernel
theorem dX10_named_49 : decode cX10_named 49 = .ok (.iload_n 2, 1) := by decide +kernel
theorem dX10_named_50 : decode cX10_named 50 = .ok (.ifCond .ne 17, 3) := by decide +kernel
theorem dX10_named_53 : decode cX10_named 53 = .ok (.iload_n 3, 1) := by decide +kernel
theorem dX10_named_54 : decode cX10_named 54 = .ok (.ifCond .ne 13, 3) := by decide +kernel
theorem dX10_named_57 : decode cX10_named 57 = .ok (.iload 4, 2) := by decide +kernel
theorem dX10_named_59 : decode cX10_named 59 = .ok (.ifCond .ne 8, 3) := by decide +kernel
theorem dX10_named_62 : decode cX10_named 62 = .ok (.aload_n 0, 1) := by decide +kernel
theorem dX10_named_63 : decode cX10_named 63 = .ok (.invokevirtual 115, 3) := by decide +kernel
theorem dX10_named_66 : decode cX10_named 66 = .ok (.ireturn, 1) := by decide +kernel
theorem dX10_named_67 : decode cX10_named 67 = .ok (.aload_n 0, 1) := by decide +kernel
theorem dX10_named_68 : decode cX10_named 68 = .ok (.dup, 1) := by decide +kernel
theorem dX10_named_69 : decode cX10_named 69 = .ok (.getfield 106, 3) := by decide +kernel
theorem dX10_named_72 : decode cX10_named 72 = .ok (.iconst 1, 1) := by decide +kernel
theorem dX10_named_73 : decode cX10_named 73 = .ok (.iadd, 1) := by decide +kernel
theorem dX10_named_74 : decode cX10_named 74 = .ok (.putfield 106, 3) := by decide +kernel
theorem dX10_named_77 : decode cX10_named 77 = .ok (.iload_n 2, 1) := by decide +kernel
theorem dX10_named_78 : decode cX10_named 78 = .ok (.ifCond .eq 10, 3) := by decide +kernel
theorem dX10_named_81 : decode cX10_named 81 = .ok (.aload_n 0, 1) := by decide +kernel
theorem dX10_named_82 : decode cX10_named 82 = .ok (.getfield 118, 3) := by decide +kernel
theorem dX10_named_85 : decode cX10_named 85 = .ok (.goto 18, 3) := by decide +kernel
theorem dX10_named_88 : decode cX10_named 88 = .ok (.iload_n 3, 1) := by decide +kernel
theorem dX10_named_89 : decode cX10_named 89 = .ok (.ifCond .eq 10, 3) := by decide +kernel
theorem dX10_named_92 : decode cX10_named 92 = .ok (.aload_n 0, 1) := by decide +kernel
theorem dX10_named_93 : decode cX10_named 93 = .ok (.getfield 121, 3) := by decide +kernel
theorem dX10_named_96 : decode cX10_named 96 = .ok (.goto 7, 3) := by decide +kernel
theorem dX10_named_99 : decode cX10_named 99 = .ok (.aload_n 0, 1) := by decide +kernel
theorem dX10_named_100 : decode cX10_named 100 = .ok (.getfield 124, 3) := by decide +kernel
theorem dX10_named_103 : decode cX10_named 103 = .ok (.ireturn, 1) := by decide +kernel
theorem dX10_factor_0 : decode cX10_factor 0 = .ok (.aload_n 0, 1) := by decide +kernel
theorem dX10_factor_1 : decode cX10_factor 1 = .ok (.aload_n 0, 1) := by decide +kernel
theorem dX10_factor_2 : decode cX10_factor 2 = .ok (.getfield 106, 3) := by decide +kernel
theorem dX10_factor_5 : decode cX10_factor 5 = .ok (.invokevirtual 109, 3) := by decide +kernel
theorem dX10_factor_8 : decode cX10_factor 8 = .ok (.istore_n 1, 1) := by decide +kernel
theorem dX10_factor_9 : decode cX10_factor 9 = .ok (.iload_n 1, 1) := by decide +kernel
theorem dX10_factor_10 : decode cX10_factor 10 = .ok (.invokestatic 112, 3) := by decide +kernel
theorem dX10_factor_13 : decode cX10_factor 13 = .ok (.ifCond .eq 8, 3) := by decide +kernel
theorem dX10_factor_16 : decode cX10_factor 16 = .ok (.aload_n 0, 1) := by decide +kernel
theorem dX10_factor_17 : decode cX10_factor 17 = .ok (.invokevirtual 127, 3) := by decide +kernel
theorem dX10_factor_20 : decode cX10_factor 20 = .ok (.ireturn, 1) := by decide +kernel
theorem dX10_factor_21 : decode cX10_factor 21 = .ok (.iload_n 1, 1) := by decide +kernel
theorem dX10_factor_22 : decode cX10_factor 22 = .ok (.bipush 33, 2) := by decide +kernel
theorem dX10_factor_24 : decode cX10_factor 24 = .ok (.if_icmp .eq 15, 3) := by decide +kernel
theorem dX10_factor_27 : decode cX10_factor 27 = .ok (.iload_n 1, 1) := by decide +kernel
theorem dX10_factor_28 : decode cX10_factor 28 = .ok (.bipush 40, 2) := by decide +kernel
theorem dX10_factor_30 : decode cX10_factor 30 = .ok (.if_icmp .eq 9, 3) := by decide +kernel
theorem dX10_factor_33 : decode cX10_factor 33 = .ok (.aload_n 0, 1) := by decide +kernel
theorem dX10_factor_34 : decode cX10_factor 34 = .ok (.iload_n 1, 1) := by decide +kernel
theorem dX10_factor_35 : decode cX10_factor 35 = .ok (.invokevirtual 130, 3) := by decide +kernel
theorem dX10_factor_38 : decode cX10_factor 38 = .ok (.ireturn, 1) := by decide +kernel
theorem dX10_factor_39 : decode cX10_factor 39 = .ok (.aload_n 0, 1) := by decide +kernel
theorem dX10_factor_40 : decode cX10_factor 40 = .ok (.getfield 133, 3) := by decide +kernel
theorem dX10_factor_43 : decode cX10_factor 43 = .ok (.iconst 5, 1) := by decide +kernel
theorem dX10_factor_44 : decode cX10_factor 44 = .ok (.if_icmp .ne 8, 3) := by decide +kernel
theorem dX10_factor_47 : decode cX10_factor 47 = .ok (.aload_n 0, 1) := by decide +kernel
theorem dX10_factor_48 : decode cX10_factor 48 = .ok (.invokevirtual 115, 3) := by decide +kernel
theorem dX10_factor_51 : decode cX10_factor 51 = .ok (.ireturn, 1) := by decide +kernel
theorem dX10_factor_52 : decode cX10_factor 52 = .ok (.aload_n 0, 1) := by decide +kernel
theorem dX10_factor_53 : decode cX10_factor 53 = .ok (.dup, 1) := by decide +kernel
theorem dX10_factor_54 : decode cX10_factor 54 = .ok (.getfield 133, 3) := by decide +kernel
theorem dX10_factor_57 : decode cX10_factor 57 = .ok (.iconst 1, 1) := by decide +kernel
theorem dX10_factor_58 : decode cX10_factor 58 = .ok (.iadd, 1) := by decide +kernel
theorem dX10_factor_59 : decode cX10_factor 59 = .ok (.putfield 133, 3) := by decide +kernel
theorem dX10_factor_62 : decode cX10_factor 62 = .ok (.aload_n 0, 1) := by decide +kernel
theorem dX10_factor_63 : decode cX10_factor 63 = .ok (.dup, 1) := by decide +kernel
theorem dX10_factor_64 : decode cX10_factor 64 = .ok (.getfield 106, 3) := by decide +kernel
theorem dX10_factor_67 : decode cX10_factor 67 = .ok (.iconst 1, 1) := by decide +kernel
theorem dX10_factor_68 : decode cX10_factor 68 = .ok (.iadd, 1) := by decide +kernel
theorem dX10_factor_69 : decode cX10_factor 69 = .ok (.putfield 106, 3) := by decide +kernel
theorem dX10_factor_72 : decode cX10_factor 72 = .ok (.iload_n 1, 1) := by decide +kernel
theorem dX10_factor_73 : decode cX10_factor 73 = .ok (.bipush 33, 2) := by decide +kernel
theorem dX10_factor_75 : decode cX10_factor 75 = .ok (.if_icmp .ne 10, 3) := by decide +kernel
theorem dX10_factor_78 : decode cX10_factor 78 = .ok (.aload_n 0, 1) := by decide +kernel
theorem dX10_factor_79 : decode cX10_factor 79 = .ok (.invokevirtual 136, 3) := by decide +kernel
theorem dX10_factor_82 : decode cX10_factor 82 = .ok (.goto 7, 3) := by decide +kernel
theorem dX10_factor_85 : decode cX10_factor 85 = .ok (.aload_n 0, 1) := by decide +kernel
theorem dX10_factor_86 : decode cX10_factor 86 = .ok (.invokevirtual 139, 3) := by decide +kernel
theorem dX10_factor_89 : decode cX10_factor 89 = .ok (.istore_n 2, 1) := by decide +kernel
theorem dX10_factor_90 : decode cX10_factor 90 = .ok (.aload_n 0, 1) := by decide +kernel
theorem dX10_factor_91 : decode cX10_factor 91 = .ok (.dup, 1) := by decide +kernel
theorem dX10_factor_92 : decode cX10_factor 92 = .ok (.getfield 133, 3) := by decide +kernel
theorem dX10_factor_95 : decode cX10_factor 95 = .ok (.iconst 1, 1) := by decide +kernel
theorem dX10_factor_96 : decode cX10_factor 96 = .ok (.isub, 1) := by decide +kernel
theorem dX10_factor_97 : decode cX10_factor 97 = .ok (.putfield 133, 3) := by decide +kernel
theorem dX10_factor_100 : decode cX10_factor 100 = .ok (.iload_n 1, 1) := by decide +kernel
theorem dX10_factor_101 : decode cX10_factor 101 = .ok (.bipush 33, 2) := by decide +kernel
theorem dX10_factor_103 : decode cX10_factor 103 = .ok (.if_icmp .ne 13, 3) := by decide +kernel
theorem dX10_factor_106 : decode cX10_factor 106 = .ok (.iload_n 2, 1) := by decide +kernel
theorem dX10_factor_107 : decode cX10_factor 107 = .ok (.ifCond .ne 7, 3) := by decide +kernel
theorem dX10_factor_110 : decode cX10_factor 110 = .ok (.iconst 1, 1) := by decide +kernel
theorem dX10_factor_111 : decode cX10_factor 111 = .ok (.goto 4, 3) := by decide +kernel
theorem dX10_factor_114 : decode cX10_factor 114 = .ok (.iconst 0, 1) := by decide +kernel
theorem dX10_factor_115 : decode cX10_factor 115 = .ok (.ireturn, 1) := by decide +kernel
theorem dX10_factor_116 : decode cX10_factor 116 = .ok (.aload_n 0, 1) := by decide +kernel
theorem dX10_factor_117 : decode cX10_factor 117 = .ok (.getfield 102, 3) := by decide +kernel
theorem dX10_factor_120 : decode cX10_factor 120 = .ok (.ifCond .eq 28, 3) := by decide +kernel
theorem dX10_factor_123 : decode cX10_factor 123 = .ok (.aload_n 0, 1) := by decide +kernel
theorem dX10_factor_124 : decode cX10_factor 124 = .ok (.aload_n 0, 1) := by decide +kernel
theorem dX10_factor_125 : decode cX10_factor 125 = .ok (.getfield 106, 3) := by decide +kernel
theorem dX10_factor_128 : decode cX10_factor 128 = .ok (.invokevirtual 109, 3) := by decide +kernel
theorem dX10_factor_131 : decode cX10_factor 131 = .ok (.bipush 41, 2) := by decide +kernel
theorem dX10_factor_133 : decode cX10_factor 133 = .ok (.if_icmp .ne 15, 3) := by decide +kernel
theorem dX10_factor_136 : decode cX10_factor 136 = .ok (.aload_n 0, 1) := by decide +kernel
theorem dX10_factor_137 : decode cX10_factor 137 = .ok (.dup, 1) := by decide +kernel
theorem dX10_factor_138 : decode cX10_factor 138 = .ok (.getfield 106, 3) := by decide +kernel
theorem dX10_factor_141 : decode cX10_factor 141 = .ok (.iconst 1, 1) := by decide +kernel
theorem dX10_factor_142 : decode cX10_factor 142 = .ok (.iadd, 1) := by decide +kernel
theorem dX10_factor_143 : decode cX10_factor 143 = .ok (.putfield 106, 3) := by decide +kernel
theorem dX10_factor_146 : decode cX10_factor 146 = .ok (.iload_n 2, 1) := by decide +kernel
theorem dX10_factor_147 : decode cX10_factor 147 = .ok (.ireturn, 1) := by decide +kernel
theorem dX10_factor_148 : decode cX10_factor 148 = .ok (.aload_n 0, 1) := by decide +kernel
theorem dX10_factor_149 : decode cX10_factor 149 = .ok (.invokevirtual 115, 3) := by decide +kernel
theorem dX10_factor_152 : decode cX10_factor 152 = .ok (.ireturn, 1) := by decide +kernel
theorem dX10_product_0 : decode cX10_product 0 = .ok (.aload_n 0, 1) := by decide +kernel
theorem dX10_product_1 : decode cX10_product 1 = .ok (.invokevirtual 136, 3) := by decide +kernel
theorem dX10_product_4 : decode cX10_product 4 = .ok (.istore_n 1, 1) := by decide +kernel
theorem dX10_product_5 : decode cX10_product 5 = .ok (.aload_n 0, 1) := by decide +kernel
theorem dX10_product_6 : decode cX10_product 6 = .ok (.getfield 102, 3) := by decide +kernel
theorem dX10_product_9 : decode cX10_product 9 = .ok (.ifCond .eq 105, 3) := by decide +kernel
theorem dX10_product_12 : decode cX10_product 12 = .ok (.aload_n 0, 1) := by decide +kernel
theorem dX10_product_13 : decode cX10_product 13 = .ok (.aload_n 0, 1) := by decide +kernel
theorem dX10_product_14 : decode cX10_product 14 = .ok (.getfield 106, 3) := by decide +kernel
theorem dX10_product_17 : decode cX10_product 17 = .ok (.invokevirtual 109, 3) := by decide +kernel
theorem dX10_product_20 : decode cX10_product 20 = .ok (.bipush 42, 2) := by decide +kernel
theorem dX10_product_22 : decode cX10_product 22 = .ok (.if_icmp .eq 29, 3) := by decide +kernel
theorem dX10_product_25 : decode cX10_product 25 = .ok (.aload_n 0, 1) := by decide +kernel
theorem dX10_product_26 : decode cX10_product 26 = .ok (.aload_n 0, 1) := by decide +kernel
theorem dX10_product_27 : decode cX10_product 27 = .ok (.getfield 106, 3) := by decide +kernel
theorem dX10_product_30 : decode cX10_product 30 = .ok (.invokevirtual 109, 3) := by decide +kernel
theorem dX10_product_33 : decode cX10_product 33 = .ok (.bipush 47, 2) := by decide +kernel
theorem dX10_product_35 : decode cX10_product 35 = .ok (.if_icmp .eq 16, 3) := by decide +kernel
theorem dX10_product_38 : decode cX10_product 38 = .ok (.aload_n 0, 1) := by decide +kernel
theorem dX10_product_39 : decode cX10_product 39 = .ok (.aload_n 0, 1) := by decide +kernel
theorem dX10_product_40 : decode cX10_product 40 = .ok (.getfield 106, 3) := by decide +kernel
theorem dX10_product_43 : decode cX10_product 43 = .ok (.invokevirtual 109, 3) := by decide +kernel
theorem dX10_product_46 : decode cX10_product 46 = .ok (.bipush 37, 2) := by decide +kernel
theorem dX10_product_48 : decode cX10_product 48 = .ok (.if_icmp .ne 66, 3) := by decide +kernel
theorem dX10_product_51 : decode cX10_product 51 = .ok (.aload_n 0, 1) := by decide +kernel
theorem dX10_product_52 : decode cX10_product 52 = .ok (.aload_n 0, 1) := by decide +kernel
theorem dX10_product_53 : decode cX10_product 53 = .ok (.getfield 106, 3) := by decide +kernel
theorem dX10_product_56 : decode cX10_product 56 = .ok (.invokevirtual 109, 3) := by decide +kernel
theorem dX10_product_59 : decode cX10_product 59 = .ok (.istore_n 2, 1) := by decide +kernel
theorem dX10_product_60 : decode cX10_product 60 = .ok (.aload_n 0, 1) := by decide +kernel
theorem dX10_product_61 : decode cX10_product 61 = .ok (.dup, 1) := by decide +kernel
theorem dX10_product_62 : decode cX10_product 62 = .ok (.getfield 106, 3) := by decide +kernel
theorem dX10_product_65 : decode cX10_product 65 = .ok (.iconst 1, 1) := by decide +kernel
theorem dX10_product_66 : decode cX10_product 66 = .ok (.iadd, 1) := by decide +kernel
theorem dX10_product_67 : decode cX10_product 67 = .ok (.putfield 106, 3) := by decide +kernel
theorem dX10_product_70 : decode cX10_product 70 = .ok (.aload_n 0, 1) := by decide +kernel
theorem dX10_product_71 : decode cX10_product 71 = .ok (.invokevirtual 136, 3) := by decide +kernel
theorem dX10_product_74 : decode cX10_product 74 = .ok (.istore_n 3, 1) := by decide +kernel
theorem dX10_product_75 : decode cX10_product 75 = .ok (.iload_n 2, 1) := by decide +kernel
theorem dX10_product_76 : decode cX10_product 76 = .ok (.bipush 42, 2) := by decide +kernel
theorem dX10_product_78 : decode cX10_product 78 = .ok (.if_icmp .ne 9, 3) := by decide +kernel
theorem dX10_product_81 : decode cX10_product 81 = .ok (.iload_n 1, 1) := by decide +kernel
theorem dX10_product_82 : decode cX10_product 82 = .ok (.iload_n 3, 1) := by decide +kernel
theorem dX10_product_83 : decode cX10_product 83 = .ok (.imul, 1) := by decide +kernel
theorem dX10_product_84 : decode cX10_product 84 = .ok (.goto 26, 3) := by decide +kernel
theorem dX10_product_87 : decode cX10_product 87 = .ok (.iload_n 3, 1) := by decide +kernel
theorem dX10_product_88 : decode cX10_product 88 = .ok (.ifCond .ne 7, 3) := by decide +kernel
theorem dX10_product_91 : decode cX10_product 91 = .ok (.iconst 0, 1) := by decide +kernel
theorem dX10_product_92 : decode cX10_product 92 = .ok (.goto 18, 3) := by decide +kernel
theorem dX10_product_95 : decode cX10_product 95 = .ok (.iload_n 2, 1) := by decide +kernel
theorem dX10_product_96 : decode cX10_product 96 = .ok (.bipush 47, 2) := by decide +kernel
theorem dX10_product_98 : decode cX10_product 98 = .ok (.if_icmp .ne 9, 3) := by decide +kernel
theorem dX10_product_101 : decode cX10_product 101 = .ok (.iload_n 1, 1) := by decide +kernel
theorem dX10_product_102 : decode cX10_product 102 = .ok (.iload_n 3, 1) := by decide +kernel
theorem dX10_product_103 : decode cX10_product 103 = .ok (.idiv, 1) := by decide +kernel
theorem dX10_product_104 : decode cX10_product 104 = .ok (.goto 6, 3) := by decide +kernel
theorem dX10_product_107 : decode cX10_product 107 = .ok (.iload_n 1, 1) := by decide +kernel
theorem dX10_product_108 : decode cX10_product 108 = .ok (.iload_n 3, 1) := by decide +kernel
theorem dX10_product_109 : decode cX10_product 109 = .ok (.irem, 1) := by decide +kernel
theorem dX10_product_110 : decode cX10_product 110 = .ok (.istore_n 1, 1) := by decide +kernel
theorem dX10_product_111 : decode cX10_product 111 = .ok (.goto (-106), 3) := by decide +kernel
theorem dX10_product_114 : decode cX10_product 114 = .ok (.iload_n 1, 1) := by decide +kernel
theorem dX10_product_115 : decode cX10_product 115 = .ok (.ireturn, 1) := by decide +kernel
theorem dX10_sum_0 : decode cX10_sum 0 = .ok (.aload_n 0, 1) := by decide +kernel
theorem dX10_sum_1 : decode cX10_sum 1 = .ok (.invokevirtual 142, 3) := by decide +kernel
theorem dX10_sum_4 : decode cX10_sum 4 = .ok (.istore_n 1, 1) := by decide +kernel
theorem dX10_sum_5 : decode cX10_sum 5 = .ok (.aload_n 0, 1) := by decide +kernel
theorem dX10_sum_6 : decode cX10_sum 6 = .ok (.getfield 102, 3) := by decide +kernel
theorem dX10_sum_9 : decode cX10_sum 9 = .ok (.ifCond .eq 72, 3) := by decide +kernel
theorem dX10_sum_12 : decode cX10_sum 12 = .ok (.aload_n 0, 1) := by decide +kernel
theorem dX10_sum_13 : decode cX10_sum 13 = .ok (.aload_n 0, 1) := by decide +kernel
theorem dX10_sum_14 : decode cX10_sum 14 = .ok (.getfield 106, 3) := by decide +kernel
theorem dX10_sum_17 : decode cX10_sum 17 = .ok (.invokevirtual 109, 3) := by decide +kernel
theorem dX10_sum_20 : decode cX10_sum 20 = .ok (.bipush 43, 2) := by decide +kernel
theorem dX10_sum_22 : decode cX10_sum 22 = .ok (.if_icmp .eq 16, 3) := by decide +kernel
theorem dX10_sum_25 : decode cX10_sum 25 = .ok (.aload_n 0, 1) := by decide +kernel
theorem dX10_sum_26 : decode cX10_sum 26 = .ok (.aload_n 0, 1) := by decide +kernel
theorem dX10_sum_27 : decode cX10_sum 27 = .ok (.getfield 106, 3) := by decide +kernel
theorem dX10_sum_30 : decode cX10_sum 30 = .ok (.invokevirtual 109, 3) := by decide +kernel
theorem dX10_sum_33 : decode cX10_sum 33 = .ok (.bipush 45, 2) := by decide +kernel
theorem dX10_sum_35 : decode cX10_sum 35 = .ok (.if_icmp .ne 46, 3) := by decide +kernel
theorem dX10_sum_38 : decode cX10_sum 38 = .ok (.aload_n 0, 1) := by decide +kernel
theorem dX10_sum_39 : decode cX10_sum 39 = .ok (.aload_n 0, 1) := by decide +kernel
theorem dX10_sum_40 : decode cX10_sum 40 = .ok (.getfield 106, 3) := by decide +kernel
theorem dX10_sum_43 : decode cX10_sum 43 = .ok (.invokevirtual 109, 3) := by decide +kernel
theorem dX10_sum_46 : decode cX10_sum 46 = .ok (.istore_n 2, 1) := by decide +kernel
theorem dX10_sum_47 : decode cX10_sum 47 = .ok (.aload_n 0, 1) := by decide +kernel
theorem dX10_sum_48 : decode cX10_sum 48 = .ok (.dup, 1) := by decide +kernel
theorem dX10_sum_49 : decode cX10_sum 49 = .ok (.getfield 106, 3) := by decide +kernel
theorem dX10_sum_52 : decode cX10_sum 52 = .ok (.iconst 1, 1) := by decide +kernel
theorem dX10_sum_53 : decode cX10_sum 53 = .ok (.iadd, 1) := by decide +kernel
theorem dX10_sum_54 : decode cX10_sum 54 = .ok (.putfield 106, 3) := by decide +kernel
theorem dX10_sum_57 : decode cX10_sum 57 = .ok (.aload_n 0, 1) := by decide +kernel
theorem dX10_sum_58 : decode cX10_sum 58 = .ok (.invokevirtual 142, 3) := by decide +kernel
theorem dX10_sum_61 : decode cX10_sum 61 = .ok (.istore_n 3, 1) := by decide +kernel
theorem dX10_sum_62 : decode cX10_sum 62 = .ok (.iload_n 2, 1) := by decide +kernel
theorem dX10_sum_63 : decode cX10_sum 63 = .ok (.bipush 43, 2) := by decide +kernel
theorem dX10_sum_65 : decode cX10_sum 65 = .ok (.if_icmp .ne 9, 3) := by decide +kernel
theorem dX10_sum_68 : decode cX10_sum 68 = .ok (.iload_n 1, 1) := by decide +kernel
theorem dX10_sum_69 : decode cX10_sum 69 = .ok (.iload_n 3, 1) := by decide +kernel
theorem dX10_sum_70 : decode cX10_sum 70 = .ok (.iadd, 1) := by decide +kernel
theorem dX10_sum_71 : decode cX10_sum 71 = .ok (.goto 6, 3) := by decide +kernel
theorem dX10_sum_74 : decode cX10_sum 74 = .ok (.iload_n 1, 1) := by decide +kernel
theorem dX10_sum_75 : decode cX10_sum 75 = .ok (.iload_n 3, 1) := by decide +kernel
theorem dX10_sum_76 : decode cX10_sum 76 = .ok (.isub, 1) := by decide +kernel
theorem dX10_sum_77 : decode cX10_sum 77 = .ok (.istore_n 1, 1) := by decide +kernel
theorem dX10_sum_78 : decode cX10_sum 78 = .ok (.goto (-73), 3) := by decide +kernel
theorem dX10_sum_81 : decode cX10_sum 81 = .ok (.iload_n 1, 1) := by decide +kernel
theorem dX10_sum_82 : decode cX10_sum 82 = .ok (.ireturn, 1) := by decide +kernel
theorem dX10_compared_0 : decode cX10_compared 0 = .ok (.aload_n 0, 1) := by decide +kernel
theorem dX10_compared_1 : decode cX10_compared 1 = .ok (.invokevirtual 145, 3) := by decide +kernel
theorem dX10_compared_4 : decode cX10_compared 4 = .ok (.istore_n 1, 1) := by decide +kernel
theorem dX10_compared_5 : decode cX10_compared 5 = .ok (.aload_n 0, 1) := by decide +kernel
theorem dX10_compared_6 : decode cX10_compared 6 = .ok (.getfield 102, 3) := by decide +kernel
theorem dX10_compared_9 : decode cX10_compared 9 = .ok (.ifCond .eq 14, 3) := by decide +kernel
theorem dX10_compared_12 : decode cX10_compared 12 = .ok (.aload_n 0, 1) := by decide +kernel
theorem dX10_compared_13 : decode cX10_compared 13 = .ok (.aload_n 0, 1) := by decide +kernel
theorem dX10_compared_14 : decode cX10_compared 14 = .ok (.getfield 106, 3) := by decide +kernel
theorem dX10_compared_17 : decode cX10_compared 17 = .ok (.invokevirtual 109, 3) := by decide +kernel
theorem dX10_compared_20 : decode cX10_compared 20 = .ok (.goto 4, 3) := by decide +kernel
theorem dX10_compared_23 : decode cX10_compared 23 = .ok (.iconst (-1), 1) := by decide +kernel
theorem dX10_compared_24 : decode cX10_compared 24 = .ok (.istore_n 2, 1) := by decide +kernel
theorem dX10_compared_25 : decode cX10_compared 25 = .ok (.iload_n 2, 1) := by decide +kernel
theorem dX10_compared_26 : decode cX10_compared 26 = .ok (.bipush 60, 2) := by decide +kernel
theorem dX10_compared_28 : decode cX10_compared 28 = .ok (.if_icmp .eq 17, 3) := by decide +kernel
theorem dX10_compared_31 : decode cX10_compared 31 = .ok (.iload_n 2, 1) := by decide +kernel
theorem dX10_compared_32 : decode cX10_compared 32 = .ok (.bipush 61, 2) := by decide +kernel
theorem dX10_compared_34 : decode cX10_compared 34 = .ok (.if_icmp .eq 11, 3) := by decide +kernel
theorem dX10_compared_37 : decode cX10_compared 37 = .ok (.iload_n 2, 1) := by decide +kernel
theorem dX10_compared_38 : decode cX10_compared 38 = .ok (.bipush 62, 2) := by decide +kernel
theorem dX10_compared_40 : decode cX10_compared 40 = .ok (.if_icmp .eq 5, 3) := by decide +kernel
theorem dX10_compared_43 : decode cX10_compared 43 = .ok (.iload_n 1, 1) := by decide +kernel
theorem dX10_compared_44 : decode cX10_compared 44 = .ok (.ireturn, 1) := by decide +kernel
theorem dX10_compared_45 : decode cX10_compared 45 = .ok (.aload_n 0, 1) := by decide +kernel
theorem dX10_compared_46 : decode cX10_compared 46 = .ok (.dup, 1) := by decide +kernel
theorem dX10_compared_47 : decode cX10_compared 47 = .ok (.getfield 106, 3) := by decide +kernel
theorem dX10_compared_50 : decode cX10_compared 50 = .ok (.iconst 1, 1) := by decide +kernel
theorem dX10_compared_51 : decode cX10_compared 51 = .ok (.iadd, 1) := by decide +kernel
theorem dX10_compared_52 : decode cX10_compared 52 = .ok (.putfield 106, 3) := by decide +kernel
theorem dX10_compared_55 : decode cX10_compared 55 = .ok (.aload_n 0, 1) := by decide +kernel
theorem dX10_compared_56 : decode cX10_compared 56 = .ok (.invokevirtual 145, 3) := by decide +kernel
theorem dX10_compared_59 : decode cX10_compared 59 = .ok (.istore_n 3, 1) := by decide +kernel
theorem dX10_compared_60 : decode cX10_compared 60 = .ok (.iload_n 2, 1) := by decide +kernel
theorem dX10_compared_61 : decode cX10_compared 61 = .ok (.bipush 60, 2) := by decide +kernel
theorem dX10_compared_63 : decode cX10_compared 63 = .ok (.if_icmp .ne 16, 3) := by decide +kernel
theorem dX10_compared_66 : decode cX10_compared 66 = .ok (.iload_n 1, 1) := by decide +kernel
theorem dX10_compared_67 : decode cX10_compared 67 = .ok (.iload_n 3, 1) := by decide +kernel
theorem dX10_compared_68 : decode cX10_compared 68 = .ok (.if_icmp .ge 7, 3) := by decide +kernel
theorem dX10_compared_71 : decode cX10_compared 71 = .ok (.iconst 1, 1) := by decide +kernel
theorem dX10_compared_72 : decode cX10_compared 72 = .ok (.goto 36, 3) := by decide +kernel
theorem dX10_compared_75 : decode cX10_compared 75 = .ok (.iconst 0, 1) := by decide +kernel
theorem dX10_compared_76 : decode cX10_compared 76 = .ok (.goto 32, 3) := by decide +kernel
theorem dX10_compared_79 : decode cX10_compared 79 = .ok (.iload_n 2, 1) := by decide +kernel
theorem dX10_compared_80 : decode cX10_compared 80 = .ok (.bipush 61, 2) := by decide +kernel
theorem dX10_compared_82 : decode cX10_compared 82 = .ok (.if_icmp .ne 16, 3) := by decide +kernel
theorem dX10_compared_85 : decode cX10_compared 85 = .ok (.iload_n 1, 1) := by decide +kernel
theorem dX10_compared_86 : decode cX10_compared 86 = .ok (.iload_n 3, 1) := by decide +kernel
theorem dX10_compared_87 : decode cX10_compared 87 = .ok (.if_icmp .ne 7, 3) := by decide +kernel
theorem dX10_compared_90 : decode cX10_compared 90 = .ok (.iconst 1, 1) := by decide +kernel
theorem dX10_compared_91 : decode cX10_compared 91 = .ok (.goto 17, 3) := by decide +kernel
theorem dX10_compared_94 : decode cX10_compared 94 = .ok (.iconst 0, 1) := by decide +kernel
theorem dX10_compared_95 : decode cX10_compared 95 = .ok (.goto 13, 3) := by decide +kernel
theorem dX10_compared_98 : decode cX10_compared 98 = .ok (.iload_n 1, 1) := by decide +kernel
theorem dX10_compared_99 : decode cX10_compared 99 = .ok (.iload_n 3, 1) := by decide +kernel
theorem dX10_compared_100 : decode cX10_compared 100 = .ok (.if_icmp .le 7, 3) := by decide +kernel
theorem dX10_compared_103 : decode cX10_compared 103 = .ok (.iconst 1, 1) := by decide +kernel
theorem dX10_compared_104 : decode cX10_compared 104 = .ok (.goto 4, 3) := by decide +kernel
theorem dX10_compared_107 : decode cX10_compared 107 = .ok (.iconst 0, 1) := by decide +kernel
theorem dX10_compared_108 : decode cX10_compared 108 = .ok (.istore 4, 2) := by decide +kernel
theorem dX10_compared_110 : decode cX10_compared 110 = .ok (.iload 4, 2) := by decide +kernel
theorem dX10_compared_112 : decode cX10_compared 112 = .ok (.ifCond .eq 7, 3) := by decide +kernel
theorem dX10_compared_115 : decode cX10_compared 115 = .ok (.iconst 1, 1) := by decide +kernel
theorem dX10_compared_116 : decode cX10_compared 116 = .ok (.goto 4, 3) := by decide +kernel
theorem dX10_compared_119 : decode cX10_compared 119 = .ok (.iconst 0, 1) := by decide +kernel
theorem dX10_compared_120 : decode cX10_compared 120 = .ok (.ireturn, 1) := by decide +kernel
theorem dX10_both_0 : decode cX10_both 0 = .ok (.aload_n 0, 1) := by decide +kernel
theorem dX10_both_1 : decode cX10_both 1 = .ok (.invokevirtual 148, 3) := by decide +kernel
theorem dX10_both_4 : decode cX10_both 4 = .ok (.istore_n 1, 1) := by decide +kernel
theorem dX10_both_5 : decode cX10_both 5 = .ok (.aload_n 0, 1) := by decide +kernel
theorem dX10_both_6 : decode cX10_both 6 = .ok (.getfield 102, 3) := by decide +kernel
theorem dX10_both_9 : decode cX10_both 9 = .ok (.ifCond .eq 48, 3) := by decide +kernel
theorem dX10_both_12 : decode cX10_both 12 = .ok (.aload_n 0, 1) := by decide +kernel
theorem dX10_both_13 : decode cX10_both 13 = .ok (.aload_n 0, 1) := by decide +kernel
theorem dX10_both_14 : decode cX10_both 14 = .ok (.getfield 106, 3) := by decide +kernel
theorem dX10_both_17 : decode cX10_both 17 = .ok (.invokevirtual 109, 3) := by decide +kernel
theorem dX10_both_20 : decode cX10_both 20 = .ok (.bipush 38, 2) := by decide +kernel
theorem dX10_both_22 : decode cX10_both 22 = .ok (.if_icmp .ne 35, 3) := by decide +kernel
theorem dX10_both_25 : decode cX10_both 25 = .ok (.aload_n 0, 1) := by decide +kernel
theorem dX10_both_26 : decode cX10_both 26 = .ok (.dup, 1) := by decide +kernel
theorem dX10_both_27 : decode cX10_both 27 = .ok (.getfield 106, 3) := by decide +kernel
theorem dX10_both_30 : decode cX10_both 30 = .ok (.iconst 1, 1) := by decide +kernel
theorem dX10_both_31 : decode cX10_both 31 = .ok (.iadd, 1) := by decide +kernel
theorem dX10_both_32 : decode cX10_both 32 = .ok (.putfield 106, 3) := by decide +kernel
theorem dX10_both_35 : decode cX10_both 35 = .ok (.aload_n 0, 1) := by decide +kernel
theorem dX10_both_36 : decode cX10_both 36 = .ok (.invokevirtual 148, 3) := by decide +kernel
theorem dX10_both_39 : decode cX10_both 39 = .ok (.istore_n 2, 1) := by decide +kernel
theorem dX10_both_40 : decode cX10_both 40 = .ok (.iload_n 1, 1) := by decide +kernel
theorem dX10_both_41 : decode cX10_both 41 = .ok (.ifCond .eq 11, 3) := by decide +kernel
theorem dX10_both_44 : decode cX10_both 44 = .ok (.iload_n 2, 1) := by decide +kernel
theorem dX10_both_45 : decode cX10_both 45 = .ok (.ifCond .eq 7, 3) := by decide +kernel
theorem dX10_both_48 : decode cX10_both 48 = .ok (.iconst 1, 1) := by decide +kernel
theorem dX10_both_49 : decode cX10_both 49 = .ok (.goto 4, 3) := by decide +kernel
theorem dX10_both_52 : decode cX10_both 52 = .ok (.iconst 0, 1) := by decide +kernel
theorem dX10_both_53 : decode cX10_both 53 = .ok (.istore_n 1, 1) := by decide +kernel
theorem dX10_both_54 : decode cX10_both 54 = .ok (.goto (-49), 3) := by decide +kernel
theorem dX10_both_57 : decode cX10_both 57 = .ok (.iload_n 1, 1) := by decide +kernel
theorem dX10_both_58 : decode cX10_both 58 = .ok (.ireturn, 1) := by decide +kernel
theorem dX10_whole_0 : decode cX10_whole 0 = .ok (.aload_n 0, 1) := by decide +kernel
theorem dX10_whole_1 : decode cX10_whole 1 = .ok (.invokevirtual 151, 3) := by decide +kernel
theorem dX10_whole_4 : decode cX10_whole 4 = .ok (.istore_n 1, 1) := by decide +kernel
theorem dX10_whole_5 : decode cX10_whole 5 = .ok (.aload_n 0, 1) := by decide +kernel
theorem dX10_whole_6 : decode cX10_whole 6 = .ok (.getfield 102, 3) := by decide +kernel
theorem dX10_whole_9 : decode cX10_whole 9 = .ok (.ifCond .eq 48, 3) := by decide +kernel
theorem dX10_whole_12 : decode cX10_whole 12 = .ok (.aload_n 0, 1) := by decide +kernel
theorem dX10_whole_13 : decode cX10_whole 13 = .ok (.aload_n 0, 1) := by decide +kernel
theorem dX10_whole_14 : decode cX10_whole 14 = .ok (.getfield 106, 3) := by decide +kernel
theorem dX10_whole_17 : decode cX10_whole 17 = .ok (.invokevirtual 109, 3) := by decide +kernel
theorem dX10_whole_20 : decode cX10_whole 20 = .ok (.bipush 124, 2) := by decide +kernel
theorem dX10_whole_22 : decode cX10_whole 22 = .ok (.if_icmp .ne 35, 3) := by decide +kernel
theorem dX10_whole_25 : decode cX10_whole 25 = .ok (.aload_n 0, 1) := by decide +kernel
theorem dX10_whole_26 : decode cX10_whole 26 = .ok (.dup, 1) := by decide +kernel
theorem dX10_whole_27 : decode cX10_whole 27 = .ok (.getfield 106, 3) := by decide +kernel
theorem dX10_whole_30 : decode cX10_whole 30 = .ok (.iconst 1, 1) := by decide +kernel
theorem dX10_whole_31 : decode cX10_whole 31 = .ok (.iadd, 1) := by decide +kernel
theorem dX10_whole_32 : decode cX10_whole 32 = .ok (.putfield 106, 3) := by decide +kernel
theorem dX10_whole_35 : decode cX10_whole 35 = .ok (.aload_n 0, 1) := by decide +kernel
theorem dX10_whole_36 : decode cX10_whole 36 = .ok (.invokevirtual 151, 3) := by decide +kernel
theorem dX10_whole_39 : decode cX10_whole 39 = .ok (.istore_n 2, 1) := by decide +kernel
theorem dX10_whole_40 : decode cX10_whole 40 = .ok (.iload_n 1, 1) := by decide +kernel
theorem dX10_whole_41 : decode cX10_whole 41 = .ok (.ifCond .ne 7, 3) := by decide +kernel
theorem dX10_whole_44 : decode cX10_whole 44 = .ok (.iload_n 2, 1) := by decide +kernel
theorem dX10_whole_45 : decode cX10_whole 45 = .ok (.ifCond .eq 7, 3) := by decide +kernel
theorem dX10_whole_48 : decode cX10_whole 48 = .ok (.iconst 1, 1) := by decide +kernel
theorem dX10_whole_49 : decode cX10_whole 49 = .ok (.goto 4, 3) := by decide +kernel
theorem dX10_whole_52 : decode cX10_whole 52 = .ok (.iconst 0, 1) := by decide +kernel
theorem dX10_whole_53 : decode cX10_whole 53 = .ok (.istore_n 1, 1) := by decide +kernel
theorem dX10_whole_54 : decode cX10_whole 54 = .ok (.goto (-49), 3) := by decide +kernel
theorem dX10_whole_57 : decode cX10_whole 57 = .ok (.iload_n 1, 1) := by decide +kernel
theorem dX10_whole_58 : decode cX10_whole 58 = .ok (.ireturn, 1) := by decide +kernel
theorem dX10_walks_0 : decode cX10_walks 0 = .ok (.aload_n 0, 1) := by decide +kernel
theorem dX10_walks_1 : decode cX10_walks 1 = .ok (.iload_n 1, 1) := by decide +kernel
theorem dX10_walks_2 : decode cX10_walks 2 = .ok (.putfield 99, 3) := by decide +kernel
theorem dX10_walks_5 : decode cX10_walks 5 = .ok (.aload_n 0, 1) := by decide +kernel
theorem dX10_walks_6 : decode cX10_walks 6 = .ok (.iconst 0, 1) := by decide +kernel
theorem dX10_walks_7 : decode cX10_walks 7 = .ok (.putfield 106, 3) := by decide +kernel
theorem dX10_walks_10 : decode cX10_walks 10 = .ok (.aload_n 0, 1) := by decide +kernel
theorem dX10_walks_11 : decode cX10_walks 11 = .ok (.aload_n 0, 1) := by decide +kernel
theorem dX10_walks_12 : decode cX10_walks 12 = .ok (.getfield 7, 3) := by decide +kernel
theorem dX10_walks_15 : decode cX10_walks 15 = .ok (.bipush 10, 2) := by decide +kernel
theorem dX10_walks_17 : decode cX10_walks 17 = .ok (.iload_n 1, 1) := by decide +kernel
theorem dX10_walks_18 : decode cX10_walks 18 = .ok (.iadd, 1) := by decide +kernel
theorem dX10_walks_19 : decode cX10_walks 19 = .ok (.iaload, 1) := by decide +kernel
theorem dX10_walks_20 : decode cX10_walks 20 = .ok (.putfield 96, 3) := by decide +kernel
theorem dX10_walks_23 : decode cX10_walks 23 = .ok (.aload_n 0, 1) := by decide +kernel
theorem dX10_walks_24 : decode cX10_walks 24 = .ok (.iconst 0, 1) := by decide +kernel
theorem dX10_walks_25 : decode cX10_walks 25 = .ok (.putfield 133, 3) := by decide +kernel
theorem dX10_walks_28 : decode cX10_walks 28 = .ok (.aload_n 0, 1) := by decide +kernel
theorem dX10_walks_29 : decode cX10_walks 29 = .ok (.iconst 1, 1) := by decide +kernel
theorem dX10_walks_30 : decode cX10_walks 30 = .ok (.putfield 102, 3) := by decide +kernel
theorem dX10_walks_33 : decode cX10_walks 33 = .ok (.aload_n 0, 1) := by decide +kernel
theorem dX10_walks_34 : decode cX10_walks 34 = .ok (.iload_n 2, 1) := by decide +kernel
theorem dX10_walks_35 : decode cX10_walks 35 = .ok (.putfield 118, 3) := by decide +kernel
theorem dX10_walks_38 : decode cX10_walks 38 = .ok (.aload_n 0, 1) := by decide +kernel
theorem dX10_walks_39 : decode cX10_walks 39 = .ok (.iload_n 3, 1) := by decide +kernel
theorem dX10_walks_40 : decode cX10_walks 40 = .ok (.putfield 121, 3) := by decide +kernel
theorem dX10_walks_43 : decode cX10_walks 43 = .ok (.aload_n 0, 1) := by decide +kernel
theorem dX10_walks_44 : decode cX10_walks 44 = .ok (.iload 4, 2) := by decide +kernel
theorem dX10_walks_46 : decode cX10_walks 46 = .ok (.putfield 124, 3) := by decide +kernel
theorem dX10_walks_49 : decode cX10_walks 49 = .ok (.aload_n 0, 1) := by decide +kernel
theorem dX10_walks_50 : decode cX10_walks 50 = .ok (.invokevirtual 139, 3) := by decide +kernel
theorem dX10_walks_53 : decode cX10_walks 53 = .ok (.istore 5, 2) := by decide +kernel
theorem dX10_walks_55 : decode cX10_walks 55 = .ok (.aload_n 0, 1) := by decide +kernel
theorem dX10_walks_56 : decode cX10_walks 56 = .ok (.aload_n 0, 1) := by decide +kernel
theorem dX10_walks_57 : decode cX10_walks 57 = .ok (.getfield 102, 3) := by decide +kernel
theorem dX10_walks_60 : decode cX10_walks 60 = .ok (.ifCond .eq 18, 3) := by decide +kernel
theorem dX10_walks_63 : decode cX10_walks 63 = .ok (.aload_n 0, 1) := by decide +kernel
theorem dX10_walks_64 : decode cX10_walks 64 = .ok (.getfield 106, 3) := by decide +kernel
theorem dX10_walks_67 : decode cX10_walks 67 = .ok (.aload_n 0, 1) := by decide +kernel
theorem dX10_walks_68 : decode cX10_walks 68 = .ok (.getfield 96, 3) := by decide +kernel
theorem dX10_walks_71 : decode cX10_walks 71 = .ok (.if_icmp .ne 7, 3) := by decide +kernel
theorem dX10_walks_74 : decode cX10_walks 74 = .ok (.iconst 1, 1) := by decide +kernel
theorem dX10_walks_75 : decode cX10_walks 75 = .ok (.goto 4, 3) := by decide +kernel
theorem dX10_walks_78 : decode cX10_walks 78 = .ok (.iconst 0, 1) := by decide +kernel
theorem dX10_walks_79 : decode cX10_walks 79 = .ok (.putfield 102, 3) := by decide +kernel
theorem dX10_walks_82 : decode cX10_walks 82 = .ok (.iload 5, 2) := by decide +kernel
theorem dX10_walks_84 : decode cX10_walks 84 = .ok (.ireturn, 1) := by decide +kernel
theorem dX10_lawOf_0 : decode cX10_lawOf 0 = .ok (.aload_n 0, 1) := by decide +kernel
theorem dX10_lawOf_1 : decode cX10_lawOf 1 = .ok (.getfield 7, 3) := by decide +kernel
theorem dX10_lawOf_4 : decode cX10_lawOf 4 = .ok (.bipush 10, 2) := by decide +kernel
theorem dX10_lawOf_6 : decode cX10_lawOf 6 = .ok (.iload_n 1, 1) := by decide +kernel
theorem dX10_lawOf_7 : decode cX10_lawOf 7 = .ok (.iadd, 1) := by decide +kernel
theorem dX10_lawOf_8 : decode cX10_lawOf 8 = .ok (.iaload, 1) := by decide +kernel
theorem dX10_lawOf_9 : decode cX10_lawOf 9 = .ok (.ifCond .lt 15, 3) := by decide +kernel
theorem dX10_lawOf_12 : decode cX10_lawOf 12 = .ok (.aload_n 0, 1) := by decide +kernel
theorem dX10_lawOf_13 : decode cX10_lawOf 13 = .ok (.iload_n 1, 1) := by decide +kernel
theorem dX10_lawOf_14 : decode cX10_lawOf 14 = .ok (.iload_n 2, 1) := by decide +kernel
theorem dX10_lawOf_15 : decode cX10_lawOf 15 = .ok (.iload_n 3, 1) := by decide +kernel
theorem dX10_lawOf_16 : decode cX10_lawOf 16 = .ok (.iload 4, 2) := by decide +kernel
theorem dX10_lawOf_18 : decode cX10_lawOf 18 = .ok (.invokevirtual 154, 3) := by decide +kernel
theorem dX10_lawOf_21 : decode cX10_lawOf 21 = .ok (.goto 15, 3) := by decide +kernel
theorem dX10_lawOf_24 : decode cX10_lawOf 24 = .ok (.iload_n 1, 1) := by decide +kernel
theorem dX10_lawOf_25 : decode cX10_lawOf 25 = .ok (.ifCond .ne 7, 3) := by decide +kernel
theorem dX10_lawOf_28 : decode cX10_lawOf 28 = .ok (.iload_n 3, 1) := by decide +kernel
theorem dX10_lawOf_29 : decode cX10_lawOf 29 = .ok (.goto 7, 3) := by decide +kernel
theorem dX10_lawOf_32 : decode cX10_lawOf 32 = .ok (.iload_n 2, 1) := by decide +kernel
theorem dX10_lawOf_33 : decode cX10_lawOf 33 = .ok (.bipush 10, 2) := by decide +kernel
theorem dX10_lawOf_35 : decode cX10_lawOf 35 = .ok (.idiv, 1) := by decide +kernel
theorem dX10_lawOf_36 : decode cX10_lawOf 36 = .ok (.istore 5, 2) := by decide +kernel
theorem dX10_lawOf_38 : decode cX10_lawOf 38 = .ok (.iload 5, 2) := by decide +kernel
theorem dX10_lawOf_40 : decode cX10_lawOf 40 = .ok (.iconst 0, 1) := by decide +kernel
theorem dX10_lawOf_41 : decode cX10_lawOf 41 = .ok (.iload_n 1, 1) := by decide +kernel
theorem dX10_lawOf_42 : decode cX10_lawOf 42 = .ok (.ifCond .ne 8, 3) := by decide +kernel
theorem dX10_lawOf_45 : decode cX10_lawOf 45 = .ok (.bipush 20, 2) := by decide +kernel
theorem dX10_lawOf_47 : decode cX10_lawOf 47 = .ok (.goto 5, 3) := by decide +kernel
theorem dX10_lawOf_50 : decode cX10_lawOf 50 = .ok (.bipush 9, 2) := by decide +kernel
theorem dX10_lawOf_52 : decode cX10_lawOf 52 = .ok (.invokestatic 158, 3) := by decide +kernel
theorem dX10_lawOf_55 : decode cX10_lawOf 55 = .ok (.ireturn, 1) := by decide +kernel
theorem dX10_law_0 : decode cX10_law 0 = .ok (.iload_n 1, 1) := by decide +kernel
theorem dX10_law_1 : decode cX10_law 1 = .ok (.iconst 0, 1) := by decide +kernel
theorem dX10_law_2 : decode cX10_law 2 = .ok (.iconst 1, 1) := by decide +kernel
theorem dX10_law_3 : decode cX10_law 3 = .ok (.invokestatic 51, 3) := by decide +kernel
theorem dX10_law_6 : decode cX10_law 6 = .ok (.ifCond .eq 15, 3) := by decide +kernel
theorem dX10_law_9 : decode cX10_law 9 = .ok (.aload_n 0, 1) := by decide +kernel
theorem dX10_law_10 : decode cX10_law 10 = .ok (.iload_n 1, 1) := by decide +kernel
theorem dX10_law_11 : decode cX10_law 11 = .ok (.iload_n 2, 1) := by decide +kernel
theorem dX10_law_12 : decode cX10_law 12 = .ok (.iload_n 3, 1) := by decide +kernel
theorem dX10_law_13 : decode cX10_law 13 = .ok (.iload 4, 2) := by decide +kernel
theorem dX10_law_15 : decode cX10_law 15 = .ok (.invokevirtual 162, 3) := by decide +kernel
theorem dX10_law_18 : decode cX10_law 18 = .ok (.goto 9, 3) := by decide +kernel
theorem dX10_law_21 : decode cX10_law 21 = .ok (.aload_n 0, 1) := by decide +kernel
theorem dX10_law_22 : decode cX10_law 22 = .ok (.ldc 59, 2) := by decide +kernel
theorem dX10_law_24 : decode cX10_law 24 = .ok (.invokevirtual 60, 3) := by decide +kernel
theorem dX10_law_27 : decode cX10_law 27 = .ok (.ireturn, 1) := by decide +kernel
theorem dX10_feed_0 : decode cX10_feed 0 = .ok (.iload_n 3, 1) := by decide +kernel
theorem dX10_feed_1 : decode cX10_feed 1 = .ok (.iconst 1, 1) := by decide +kernel
theorem dX10_feed_2 : decode cX10_feed 2 = .ok (.bipush 8, 2) := by decide +kernel
theorem dX10_feed_4 : decode cX10_feed 4 = .ok (.invokestatic 51, 3) := by decide +kernel
theorem dX10_feed_7 : decode cX10_feed 7 = .ok (.ifCond .ne 10, 3) := by decide +kernel
theorem dX10_feed_10 : decode cX10_feed 10 = .ok (.aload_n 0, 1) := by decide +kernel
theorem dX10_feed_11 : decode cX10_feed 11 = .ok (.ldc 59, 2) := by decide +kernel
theorem dX10_feed_13 : decode cX10_feed 13 = .ok (.invokevirtual 60, 3) := by decide +kernel
theorem dX10_feed_16 : decode cX10_feed 16 = .ok (.ireturn, 1) := by decide +kernel
theorem dX10_feed_17 : decode cX10_feed 17 = .ok (.aload_n 0, 1) := by decide +kernel
theorem dX10_feed_18 : decode cX10_feed 18 = .ok (.getfield 7, 3) := by decide +kernel
theorem dX10_feed_21 : decode cX10_feed 21 = .ok (.bipush 8, 2) := by decide +kernel
theorem dX10_feed_23 : decode cX10_feed 23 = .ok (.iaload, 1) := by decide +kernel
theorem dX10_feed_24 : decode cX10_feed 24 = .ok (.iload_n 3, 1) := by decide +kernel
theorem dX10_feed_25 : decode cX10_feed 25 = .ok (.iadd, 1) := by decide +kernel
theorem dX10_feed_26 : decode cX10_feed 26 = .ok (.bipush 50, 2) := by decide +kernel
theorem dX10_feed_28 : decode cX10_feed 28 = .ok (.if_icmp .le 10, 3) := by decide +kernel
theorem dX10_feed_31 : decode cX10_feed 31 = .ok (.aload_n 0, 1) := by decide +kernel
theorem dX10_feed_32 : decode cX10_feed 32 = .ok (.ldc 75, 2) := by decide +kernel
theorem dX10_feed_34 : decode cX10_feed 34 = .ok (.invokevirtual 60, 3) := by decide +kernel
theorem dX10_feed_37 : decode cX10_feed 37 = .ok (.ireturn, 1) := by decide +kernel
theorem dX10_feed_38 : decode cX10_feed 38 = .ok (.iconst 0, 1) := by decide +kernel
theorem dX10_feed_39 : decode cX10_feed 39 = .ok (.istore 4, 2) := by decide +kernel
theorem dX10_feed_41 : decode cX10_feed 41 = .ok (.iload 4, 2) := by decide +kernel
theorem dX10_feed_43 : decode cX10_feed 43 = .ok (.iload_n 3, 1) := by decide +kernel
theorem dX10_feed_44 : decode cX10_feed 44 = .ok (.if_icmp .ge 47, 3) := by decide +kernel
theorem dX10_feed_47 : decode cX10_feed 47 = .ok (.aload_n 0, 1) := by decide +kernel
theorem dX10_feed_48 : decode cX10_feed 48 = .ok (.getfield 7, 3) := by decide +kernel
theorem dX10_feed_51 : decode cX10_feed 51 = .ok (.bipush 84, 2) := by decide +kernel
theorem dX10_feed_53 : decode cX10_feed 53 = .ok (.aload_n 0, 1) := by decide +kernel
theorem dX10_feed_54 : decode cX10_feed 54 = .ok (.getfield 7, 3) := by decide +kernel
theorem dX10_feed_57 : decode cX10_feed 57 = .ok (.bipush 8, 2) := by decide +kernel
theorem dX10_feed_59 : decode cX10_feed 59 = .ok (.iaload, 1) := by decide +kernel
theorem dX10_feed_60 : decode cX10_feed 60 = .ok (.iadd, 1) := by decide +kernel
theorem dX10_feed_61 : decode cX10_feed 61 = .ok (.lload_n 1, 1) := by decide +kernel
theorem dX10_feed_62 : decode cX10_feed 62 = .ok (.bipush 8, 2) := by decide +kernel
theorem dX10_feed_64 : decode cX10_feed 64 = .ok (.iload 4, 2) := by decide +kernel
theorem dX10_feed_66 : decode cX10_feed 66 = .ok (.imul, 1) := by decide +kernel
theorem dX10_feed_67 : decode cX10_feed 67 = .ok (.lshr, 1) := by decide +kernel
theorem dX10_feed_68 : decode cX10_feed 68 = .ok (.ldc2_w 165, 3) := by decide +kernel
theorem dX10_feed_71 : decode cX10_feed 71 = .ok (.land, 1) := by decide +kernel
theorem dX10_feed_72 : decode cX10_feed 72 = .ok (.l2i, 1) := by decide +kernel
theorem dX10_feed_73 : decode cX10_feed 73 = .ok (.iastore, 1) := by decide +kernel
theorem dX10_feed_74 : decode cX10_feed 74 = .ok (.aload_n 0, 1) := by decide +kernel
theorem dX10_feed_75 : decode cX10_feed 75 = .ok (.getfield 7, 3) := by decide +kernel
theorem dX10_feed_78 : decode cX10_feed 78 = .ok (.bipush 8, 2) := by decide +kernel
theorem dX10_feed_80 : decode cX10_feed 80 = .ok (.dup2, 1) := by decide +kernel
theorem dX10_feed_81 : decode cX10_feed 81 = .ok (.iaload, 1) := by decide +kernel
theorem dX10_feed_82 : decode cX10_feed 82 = .ok (.iconst 1, 1) := by decide +kernel
theorem dX10_feed_83 : decode cX10_feed 83 = .ok (.iadd, 1) := by decide +kernel
theorem dX10_feed_84 : decode cX10_feed 84 = .ok (.iastore, 1) := by decide +kernel
theorem dX10_feed_85 : decode cX10_feed 85 = .ok (.iinc 4 1, 3) := by decide +kernel
theorem dX10_feed_88 : decode cX10_feed 88 = .ok (.goto (-47), 3) := by decide +kernel
theorem dX10_feed_91 : decode cX10_feed 91 = .ok (.aload_n 0, 1) := by decide +kernel
theorem dX10_feed_92 : decode cX10_feed 92 = .ok (.getfield 7, 3) := by decide +kernel
theorem dX10_feed_95 : decode cX10_feed 95 = .ok (.bipush 8, 2) := by decide +kernel
theorem dX10_feed_97 : decode cX10_feed 97 = .ok (.iaload, 1) := by decide +kernel
theorem dX10_feed_98 : decode cX10_feed 98 = .ok (.ireturn, 1) := by decide +kernel
theorem dX10_text_0 : decode cX10_text 0 = .ok (.iload_n 1, 1) := by decide +kernel
theorem dX10_text_1 : decode cX10_text 1 = .ok (.iconst 0, 1) := by decide +kernel
theorem dX10_text_2 : decode cX10_text 2 = .ok (.iconst 1, 1) := by decide +kernel
theorem dX10_text_3 : decode cX10_text 3 = .ok (.invokestatic 51, 3) := by decide +kernel
theorem dX10_text_6 : decode cX10_text 6 = .ok (.ifCond .ne 10, 3) := by decide +kernel
theorem dX10_text_9 : decode cX10_text 9 = .ok (.aload_n 0, 1) := by decide +kernel
theorem dX10_text_10 : decode cX10_text 10 = .ok (.ldc 59, 2) := by decide +kernel
theorem dX10_text_12 : decode cX10_text 12 = .ok (.invokevirtual 60, 3) := by decide +kernel
theorem dX10_text_15 : decode cX10_text 15 = .ok (.ireturn, 1) := by decide +kernel
theorem dX10_text_16 : decode cX10_text 16 = .ok (.aload_n 0, 1) := by decide +kernel
theorem dX10_text_17 : decode cX10_text 17 = .ok (.aload_n 0, 1) := by decide +kernel
theorem dX10_text_18 : decode cX10_text 18 = .ok (.getfield 7, 3) := by decide +kernel
theorem dX10_text_21 : decode cX10_text 21 = .ok (.aload_n 0, 1) := by decide +kernel
theorem dX10_text_22 : decode cX10_text 22 = .ok (.getfield 19, 3) := by decide +kernel
theorem dX10_text_25 : decode cX10_text 25 = .ok (.invokevirtual 167, 3) := by decide +kernel
theorem dX10_text_28 : decode cX10_text 28 = .ok (.iconst 0, 1) := by decide +kernel
theorem dX10_text_29 : decode cX10_text 29 = .ok (.istore_n 2, 1) := by decide +kernel
theorem dX10_text_30 : decode cX10_text 30 = .ok (.iload_n 2, 1) := by decide +kernel
theorem dX10_text_31 : decode cX10_text 31 = .ok (.bipush 50, 2) := by decide +kernel
theorem dX10_text_33 : decode cX10_text 33 = .ok (.if_icmp .ge 33, 3) := by decide +kernel
theorem dX10_text_36 : decode cX10_text 36 = .ok (.aload_n 0, 1) := by decide +kernel
theorem dX10_text_37 : decode cX10_text 37 = .ok (.getfield 7, 3) := by decide +kernel
theorem dX10_text_40 : decode cX10_text 40 = .ok (.sipush 154, 3) := by decide +kernel
theorem dX10_text_43 : decode cX10_text 43 = .ok (.bipush 50, 2) := by decide +kernel
theorem dX10_text_45 : decode cX10_text 45 = .ok (.iload_n 1, 1) := by decide +kernel
theorem dX10_text_46 : decode cX10_text 46 = .ok (.imul, 1) := by decide +kernel
theorem dX10_text_47 : decode cX10_text 47 = .ok (.iadd, 1) := by decide +kernel
theorem dX10_text_48 : decode cX10_text 48 = .ok (.iload_n 2, 1) := by decide +kernel
theorem dX10_text_49 : decode cX10_text 49 = .ok (.iadd, 1) := by decide +kernel
theorem dX10_text_50 : decode cX10_text 50 = .ok (.aload_n 0, 1) := by decide +kernel
theorem dX10_text_51 : decode cX10_text 51 = .ok (.getfield 7, 3) := by decide +kernel
theorem dX10_text_54 : decode cX10_text 54 = .ok (.bipush 84, 2) := by decide +kernel
theorem dX10_text_56 : decode cX10_text 56 = .ok (.iload_n 2, 1) := by decide +kernel
theorem dX10_text_57 : decode cX10_text 57 = .ok (.iadd, 1) := by decide +kernel
theorem dX10_text_58 : decode cX10_text 58 = .ok (.iaload, 1) := by decide +kernel
theorem dX10_text_59 : decode cX10_text 59 = .ok (.iastore, 1) := by decide +kernel
theorem dX10_text_60 : decode cX10_text 60 = .ok (.iinc 2 1, 3) := by decide +kernel
theorem dX10_text_63 : decode cX10_text 63 = .ok (.goto (-33), 3) := by decide +kernel
theorem dX10_text_66 : decode cX10_text 66 = .ok (.aload_n 0, 1) := by decide +kernel
theorem dX10_text_67 : decode cX10_text 67 = .ok (.getfield 7, 3) := by decide +kernel
theorem dX10_text_70 : decode cX10_text 70 = .ok (.bipush 10, 2) := by decide +kernel
theorem dX10_text_72 : decode cX10_text 72 = .ok (.iload_n 1, 1) := by decide +kernel
theorem dX10_text_73 : decode cX10_text 73 = .ok (.iadd, 1) := by decide +kernel
theorem dX10_text_74 : decode cX10_text 74 = .ok (.aload_n 0, 1) := by decide +kernel
theorem dX10_text_75 : decode cX10_text 75 = .ok (.getfield 7, 3) := by decide +kernel
theorem dX10_text_78 : decode cX10_text 78 = .ok (.bipush 8, 2) := by decide +kernel
theorem dX10_text_80 : decode cX10_text 80 = .ok (.iaload, 1) := by decide +kernel
theorem dX10_text_81 : decode cX10_text 81 = .ok (.iastore, 1) := by decide +kernel
theorem dX10_text_82 : decode cX10_text 82 = .ok (.aload_n 0, 1) := by decide +kernel
theorem dX10_text_83 : decode cX10_text 83 = .ok (.iload_n 1, 1) := by decide +kernel
theorem dX10_text_84 : decode cX10_text 84 = .ok (.iconst 1, 1) := by decide +kernel
theorem dX10_text_85 : decode cX10_text 85 = .ok (.iconst 1, 1) := by decide +kernel
theorem dX10_text_86 : decode cX10_text 86 = .ok (.iconst 1, 1) := by decide +kernel
theorem dX10_text_87 : decode cX10_text 87 = .ok (.invokevirtual 154, 3) := by decide +kernel
theorem dX10_text_90 : decode cX10_text 90 = .ok (.istore_n 2, 1) := by decide +kernel
theorem dX10_text_91 : decode cX10_text 91 = .ok (.aload_n 0, 1) := by decide +kernel
theorem dX10_text_92 : decode cX10_text 92 = .ok (.getfield 102, 3) := by decide +kernel
theorem dX10_text_95 : decode cX10_text 95 = .ok (.ifCond .eq 12, 3) := by decide +kernel
theorem dX10_text_98 : decode cX10_text 98 = .ok (.iload_n 2, 1) := by decide +kernel
theorem dX10_text_99 : decode cX10_text 99 = .ok (.iload_n 2, 1) := by decide +kernel
theorem dX10_text_100 : decode cX10_text 100 = .ok (.if_icmp .ne 7, 3) := by decide +kernel
theorem dX10_text_103 : decode cX10_text 103 = .ok (.iconst 1, 1) := by decide +kernel
theorem dX10_text_104 : decode cX10_text 104 = .ok (.goto 4, 3) := by decide +kernel
theorem dX10_text_107 : decode cX10_text 107 = .ok (.iconst 0, 1) := by decide +kernel
theorem dX10_text_108 : decode cX10_text 108 = .ok (.istore_n 3, 1) := by decide +kernel
theorem dX10_text_109 : decode cX10_text 109 = .ok (.aload_n 0, 1) := by decide +kernel
theorem dX10_text_110 : decode cX10_text 110 = .ok (.getfield 106, 3) := by decide +kernel
theorem dX10_text_113 : decode cX10_text 113 = .ok (.istore 4, 2) := by decide +kernel
theorem dX10_text_115 : decode cX10_text 115 = .ok (.iload_n 3, 1) := by decide +kernel
theorem dX10_text_116 : decode cX10_text 116 = .ok (.ifCond .ne 15, 3) := by decide +kernel
theorem dX10_text_119 : decode cX10_text 119 = .ok (.aload_n 0, 1) := by decide +kernel
theorem dX10_text_120 : decode cX10_text 120 = .ok (.aload_n 0, 1) := by decide +kernel
theorem dX10_text_121 : decode cX10_text 121 = .ok (.getfield 19, 3) := by decide +kernel
theorem dX10_text_124 : decode cX10_text 124 = .ok (.aload_n 0, 1) := by decide +kernel
theorem dX10_text_125 : decode cX10_text 125 = .ok (.getfield 7, 3) := by decide +kernel
theorem dX10_text_128 : decode cX10_text 128 = .ok (.invokevirtual 167, 3) := by decide +kernel
theorem dX10_text_131 : decode cX10_text 131 = .ok (.aload_n 0, 1) := by decide +kernel
theorem dX10_text_132 : decode cX10_text 132 = .ok (.getfield 7, 3) := by decide +kernel
theorem dX10_text_135 : decode cX10_text 135 = .ok (.bipush 8, 2) := by decide +kernel
theorem dX10_text_137 : decode cX10_text 137 = .ok (.iconst 0, 1) := by decide +kernel
theorem dX10_text_138 : decode cX10_text 138 = .ok (.iastore, 1) := by decide +kernel
theorem dX10_text_139 : decode cX10_text 139 = .ok (.iload_n 3, 1) := by decide +kernel
theorem dX10_text_140 : decode cX10_text 140 = .ok (.ifCond .eq 7, 3) := by decide +kernel
theorem dX10_text_143 : decode cX10_text 143 = .ok (.iconst 1, 1) := by decide +kernel
theorem dX10_text_144 : decode cX10_text 144 = .ok (.goto 8, 3) := by decide +kernel
theorem dX10_text_147 : decode cX10_text 147 = .ok (.bipush (-10), 2) := by decide +kernel
theorem dX10_text_149 : decode cX10_text 149 = .ok (.iload 4, 2) := by decide +kernel
theorem dX10_text_151 : decode cX10_text 151 = .ok (.isub, 1) := by decide +kernel
theorem dX10_text_152 : decode cX10_text 152 = .ok (.ireturn, 1) := by decide +kernel
theorem dX10_heat_0 : decode cX10_heat 0 = .ok (.aload_n 0, 1) := by decide +kernel
theorem dX10_heat_1 : decode cX10_heat 1 = .ok (.getfield 7, 3) := by decide +kernel
theorem dX10_heat_4 : decode cX10_heat 4 = .ok (.bipush 12, 2) := by decide +kernel
theorem dX10_heat_6 : decode cX10_heat 6 = .ok (.iconst 2, 1) := by decide +kernel
theorem dX10_heat_7 : decode cX10_heat 7 = .ok (.aload_n 0, 1) := by decide +kernel
theorem dX10_heat_8 : decode cX10_heat 8 = .ok (.getfield 7, 3) := by decide +kernel
theorem dX10_heat_11 : decode cX10_heat 11 = .ok (.iconst 0, 1) := by decide +kernel
theorem dX10_heat_12 : decode cX10_heat 12 = .ok (.iaload, 1) := by decide +kernel
theorem dX10_heat_13 : decode cX10_heat 13 = .ok (.bipush 6, 2) := by decide +kernel
theorem dX10_heat_15 : decode cX10_heat 15 = .ok (.irem, 1) := by decide +kernel
theorem dX10_heat_16 : decode cX10_heat 16 = .ok (.imul, 1) := by decide +kernel
theorem dX10_heat_17 : decode cX10_heat 17 = .ok (.iadd, 1) := by decide +kernel
theorem dX10_heat_18 : decode cX10_heat 18 = .ok (.iaload, 1) := by decide +kernel
theorem dX10_heat_19 : decode cX10_heat 19 = .ok (.ireturn, 1) := by decide +kernel
theorem dX10_rain_0 : decode cX10_rain 0 = .ok (.aload_n 0, 1) := by decide +kernel
theorem dX10_rain_1 : decode cX10_rain 1 = .ok (.getfield 7, 3) := by decide +kernel
theorem dX10_rain_4 : decode cX10_rain 4 = .ok (.bipush 12, 2) := by decide +kernel
theorem dX10_rain_6 : decode cX10_rain 6 = .ok (.iconst 2, 1) := by decide +kernel
theorem dX10_rain_7 : decode cX10_rain 7 = .ok (.aload_n 0, 1) := by decide +kernel
theorem dX10_rain_8 : decode cX10_rain 8 = .ok (.getfield 7, 3) := by decide +kernel
theorem dX10_rain_11 : decode cX10_rain 11 = .ok (.iconst 0, 1) := by decide +kernel
theorem dX10_rain_12 : decode cX10_rain 12 = .ok (.iaload, 1) := by decide +kernel
theorem dX10_rain_13 : decode cX10_rain 13 = .ok (.bipush 6, 2) := by decide +kernel
theorem dX10_rain_15 : decode cX10_rain 15 = .ok (.irem, 1) := by decide +kernel
theorem dX10_rain_16 : decode cX10_rain 16 = .ok (.imul, 1) := by decide +kernel
theorem dX10_rain_17 : decode cX10_rain 17 = .ok (.iadd, 1) := by decide +kernel
theorem dX10_rain_18 : decode cX10_rain 18 = .ok (.iconst 1, 1) := by decide +kernel
theorem dX10_rain_19 : decode cX10_rain 19 = .ok (.iadd, 1) := by decide +kernel
theorem dX10_rain_20 : decode cX10_rain 20 = .ok (.iaload, 1) := by decide +kernel
theorem dX10_rain_21 : decode cX10_rain 21 = .ok (.ireturn, 1) := by decide +kernel
theorem dX10_isComing_0 : decode cX10_isComing 0 = .ok (.aload_n 0, 1) := by decide +kernel
theorem dX10_isComing_1 : decode cX10_isComing 1 = .ok (.getfield 7, 3) := by decide +kernel
theorem dX10_isComing_4 : decode cX10_isComing 4 = .ok (.iconst 0, 1) := by decide +kernel
theorem dX10_isComing_5 : decode cX10_isComing 5 = .ok (.iaload, 1) := by decide +kernel
theorem dX10_isComing_6 : decode cX10_isComing 6 = .ok (.aload_n 0, 1) := by decide +kernel
theorem dX10_isComing_7 : decode cX10_isComing 7 = .ok (.iload_n 1, 1) := by decide +kernel
theorem dX10_isComing_8 : decode cX10_isComing 8 = .ok (.iconst 3, 1) := by decide +kernel
theorem dX10_isComing_9 : decode cX10_isComing 9 = .ok (.invokevirtual 83, 3) := by decide +kernel
theorem dX10_isComing_12 : decode cX10_isComing 12 = .ok (.irem, 1) := by decide +kernel
theorem dX10_isComing_13 : decode cX10_isComing 13 = .ok (.ifCond .ne 7, 3) := by decide +kernel
theorem dX10_isComing_16 : decode cX10_isComing 16 = .ok (.iconst 1, 1) := by decide +kernel
theorem dX10_isComing_17 : decode cX10_isComing 17 = .ok (.goto 4, 3) := by decide +kernel
theorem dX10_isComing_20 : decode cX10_isComing 20 = .ok (.iconst 0, 1) := by decide +kernel
theorem dX10_isComing_21 : decode cX10_isComing 21 = .ok (.istore_n 2, 1) := by decide +kernel
theorem dX10_isComing_22 : decode cX10_isComing 22 = .ok (.aload_n 0, 1) := by decide +kernel
theorem dX10_isComing_23 : decode cX10_isComing 23 = .ok (.iload_n 1, 1) := by decide +kernel
theorem dX10_isComing_24 : decode cX10_isComing 24 = .ok (.iconst 0, 1) := by decide +kernel
theorem dX10_isComing_25 : decode cX10_isComing 25 = .ok (.invokevirtual 83, 3) := by decide +kernel
theorem dX10_isComing_28 : decode cX10_isComing 28 = .ok (.tableswitch 115 2 6 #[36, 115, 50, 69, 87], 36) := by decide +kernel
theorem dX10_isComing_64 : decode cX10_isComing 64 = .ok (.aload_n 0, 1) := by decide +kernel
theorem dX10_isComing_65 : decode cX10_isComing 65 = .ok (.invokevirtual 171, 3) := by decide +kernel
theorem dX10_isComing_68 : decode cX10_isComing 68 = .ok (.iconst 5, 1) := by decide +kernel
theorem dX10_isComing_69 : decode cX10_isComing 69 = .ok (.if_icmp .ge 7, 3) := by decide +kernel
theorem dX10_isComing_72 : decode cX10_isComing 72 = .ok (.iconst 1, 1) := by decide +kernel
theorem dX10_isComing_73 : decode cX10_isComing 73 = .ok (.goto 4, 3) := by decide +kernel
theorem dX10_isComing_76 : decode cX10_isComing 76 = .ok (.iconst 0, 1) := by decide +kernel
theorem dX10_isComing_77 : decode cX10_isComing 77 = .ok (.ireturn, 1) := by decide +kernel
theorem dX10_isComing_78 : decode cX10_isComing 78 = .ok (.iload_n 2, 1) := by decide +kernel
theorem dX10_isComing_79 : decode cX10_isComing 79 = .ok (.ifCond .eq 16, 3) := by decide +kernel
theorem dX10_isComing_82 : decode cX10_isComing 82 = .ok (.aload_n 0, 1) := by decide +kernel
theorem dX10_isComing_83 : decode cX10_isComing 83 = .ok (.invokevirtual 171, 3) := by decide +kernel
theorem dX10_isComing_86 : decode cX10_isComing 86 = .ok (.bipush 6, 2) := by decide +kernel
theorem dX10_isComing_88 : decode cX10_isComing 88 = .ok (.if_icmp .gt 7, 3) := by decide +kernel
theorem dX10_isComing_91 : decode cX10_isComing 91 = .ok (.iconst 1, 1) := by decide +kernel
theorem dX10_isComing_92 : decode cX10_isComing 92 = .ok (.goto 4, 3) := by decide +kernel
theorem dX10_isComing_95 : decode cX10_isComing 95 = .ok (.iconst 0, 1) := by decide +kernel
theorem dX10_isComing_96 : decode cX10_isComing 96 = .ok (.ireturn, 1) := by decide +kernel
theorem dX10_isComing_97 : decode cX10_isComing 97 = .ok (.iload_n 2, 1) := by decide +kernel
theorem dX10_isComing_98 : decode cX10_isComing 98 = .ok (.ifCond .eq 15, 3) := by decide +kernel
theorem dX10_isComing_101 : decode cX10_isComing 101 = .ok (.aload_n 0, 1) := by decide +kernel
theorem dX10_isComing_102 : decode cX10_isComing 102 = .ok (.invokevirtual 171, 3) := by decide +kernel
theorem dX10_isComing_105 : decode cX10_isComing 105 = .ok (.iconst 5, 1) := by decide +kernel
theorem dX10_isComing_106 : decode cX10_isComing 106 = .ok (.if_icmp .ge 7, 3) := by decide +kernel
theorem dX10_isComing_109 : decode cX10_isComing 109 = .ok (.iconst 1, 1) := by decide +kernel
theorem dX10_isComing_110 : decode cX10_isComing 110 = .ok (.goto 4, 3) := by decide +kernel
theorem dX10_isComing_113 : decode cX10_isComing 113 = .ok (.iconst 0, 1) := by decide +kernel
theorem dX10_isComing_114 : decode cX10_isComing 114 = .ok (.ireturn, 1) := by decide +kernel
theorem dX10_isComing_115 : decode cX10_isComing 115 = .ok (.iload_n 2, 1) := by decide +kernel
theorem dX10_isComing_116 : decode cX10_isComing 116 = .ok (.ifCond .eq 25, 3) := by decide +kernel
theorem dX10_isComing_119 : decode cX10_isComing 119 = .ok (.aload_n 0, 1) := by decide +kernel
theorem dX10_isComing_120 : decode cX10_isComing 120 = .ok (.getfield 7, 3) := by decide +kernel
theorem dX10_isComing_123 : decode cX10_isComing 123 = .ok (.iconst 0, 1) := by decide +kernel
theorem dX10_isComing_124 : decode cX10_isComing 124 = .ok (.iaload, 1) := by decide +kernel
theorem dX10_isComing_125 : decode cX10_isComing 125 = .ok (.bipush 10, 2) := by decide +kernel
theorem dX10_isComing_127 : decode cX10_isComing 127 = .ok (.irem, 1) := by decide +kernel
theorem dX10_isComing_128 : decode cX10_isComing 128 = .ok (.aload_n 0, 1) := by decide +kernel
theorem dX10_isComing_129 : decode cX10_isComing 129 = .ok (.iload_n 1, 1) := by decide +kernel
theorem dX10_isComing_130 : decode cX10_isComing 130 = .ok (.iconst 1, 1) := by decide +kernel
theorem dX10_isComing_131 : decode cX10_isComing 131 = .ok (.invokevirtual 83, 3) := by decide +kernel
theorem dX10_isComing_134 : decode cX10_isComing 134 = .ok (.if_icmp .eq 7, 3) := by decide +kernel
theorem dX10_isComing_137 : decode cX10_isComing 137 = .ok (.iconst 1, 1) := by decide +kernel
theorem dX10_isComing_138 : decode cX10_isComing 138 = .ok (.goto 4, 3) := by decide +kernel
theorem dX10_isComing_141 : decode cX10_isComing 141 = .ok (.iconst 0, 1) := by decide +kernel
theorem dX10_isComing_142 : decode cX10_isComing 142 = .ok (.ireturn, 1) := by decide +kernel
theorem dX10_isComing_143 : decode cX10_isComing 143 = .ok (.iload_n 2, 1) := by decide +kernel
theorem dX10_isComing_144 : decode cX10_isComing 144 = .ok (.ireturn, 1) := by decide +kernel
theorem dX10_keeps_0 : decode cX10_keeps 0 = .ok (.aload_n 0, 1) := by decide +kernel
theorem dX10_keeps_1 : decode cX10_keeps 1 = .ok (.iload_n 1, 1) := by decide +kernel
theorem dX10_keeps_2 : decode cX10_keeps 2 = .ok (.iconst 2, 1) := by decide +kernel
theorem dX10_keeps_3 : decode cX10_keeps 3 = .ok (.invokevirtual 83, 3) := by decide +kernel
theorem dX10_keeps_6 : decode cX10_keeps 6 = .ok (.istore_n 2, 1) := by decide +kernel
theorem dX10_keeps_7 : decode cX10_keeps 7 = .ok (.iload_n 2, 1) := by decide +kernel
theorem dX10_keeps_8 : decode cX10_keeps 8 = .ok (.iconst 2, 1) := by decide +kernel
theorem dX10_keeps_9 : decode cX10_keeps 9 = .ok (.idiv, 1) := by decide +kernel
theorem dX10_keeps_10 : decode cX10_keeps 10 = .ok (.aload_n 0, 1) := by decide +kernel
theorem dX10_keeps_11 : decode cX10_keeps 11 = .ok (.iload_n 1, 1) := by decide +kernel
theorem dX10_keeps_12 : decode cX10_keeps 12 = .ok (.iconst 1, 1) := by decide +kernel
theorem dX10_keeps_13 : decode cX10_keeps 13 = .ok (.invokevirtual 83, 3) := by decide +kernel
theorem dX10_keeps_16 : decode cX10_keeps 16 = .ok (.iconst 3, 1) := by decide +kernel
theorem dX10_keeps_17 : decode cX10_keeps 17 = .ok (.idiv, 1) := by decide +kernel
theorem dX10_keeps_18 : decode cX10_keeps 18 = .ok (.iadd, 1) := by decide +kernel
theorem dX10_keeps_19 : decode cX10_keeps 19 = .ok (.istore_n 3, 1) := by decide +kernel
theorem dX10_keeps_20 : decode cX10_keeps 20 = .ok (.aload_n 0, 1) := by decide +kernel
theorem dX10_keeps_21 : decode cX10_keeps 21 = .ok (.iload_n 1, 1) := by decide +kernel
theorem dX10_keeps_22 : decode cX10_keeps 22 = .ok (.iconst 0, 1) := by decide +kernel
theorem dX10_keeps_23 : decode cX10_keeps 23 = .ok (.invokevirtual 83, 3) := by decide +kernel
theorem dX10_keeps_26 : decode cX10_keeps 26 = .ok (.tableswitch 81 1 6 #[38, 56, 60, 40, 58, 62], 38) := by decide +kernel
theorem dX10_keeps_64 : decode cX10_keeps 64 = .ok (.iload_n 2, 1) := by decide +kernel
theorem dX10_keeps_65 : decode cX10_keeps 65 = .ok (.ireturn, 1) := by decide +kernel
theorem dX10_keeps_66 : decode cX10_keeps 66 = .ok (.aload_n 0, 1) := by decide +kernel
theorem dX10_keeps_67 : decode cX10_keeps 67 = .ok (.invokevirtual 174, 3) := by decide +kernel
theorem dX10_keeps_70 : decode cX10_keeps 70 = .ok (.iconst 5, 1) := by decide +kernel
theorem dX10_keeps_71 : decode cX10_keeps 71 = .ok (.if_icmp .le 9, 3) := by decide +kernel
theorem dX10_keeps_74 : decode cX10_keeps 74 = .ok (.iload_n 2, 1) := by decide +kernel
theorem dX10_keeps_75 : decode cX10_keeps 75 = .ok (.iconst 2, 1) := by decide +kernel
theorem dX10_keeps_76 : decode cX10_keeps 76 = .ok (.iadd, 1) := by decide +kernel
theorem dX10_keeps_77 : decode cX10_keeps 77 = .ok (.goto 4, 3) := by decide +kernel
theorem dX10_keeps_80 : decode cX10_keeps 80 = .ok (.iload_n 2, 1) := by decide +kernel
theorem dX10_keeps_81 : decode cX10_keeps 81 = .ok (.ireturn, 1) := by decide +kernel
theorem dX10_keeps_82 : decode cX10_keeps 82 = .ok (.iconst 1, 1) := by decide +kernel
theorem dX10_keeps_83 : decode cX10_keeps 83 = .ok (.ireturn, 1) := by decide +kernel
theorem dX10_keeps_84 : decode cX10_keeps 84 = .ok (.iconst 2, 1) := by decide +kernel
theorem dX10_keeps_85 : decode cX10_keeps 85 = .ok (.ireturn, 1) := by decide +kernel
theorem dX10_keeps_86 : decode cX10_keeps 86 = .ok (.iload_n 3, 1) := by decide +kernel
theorem dX10_keeps_87 : decode cX10_keeps 87 = .ok (.ireturn, 1) := by decide +kernel
theorem dX10_keeps_88 : decode cX10_keeps 88 = .ok (.aload_n 0, 1) := by decide +kernel
theorem dX10_keeps_89 : decode cX10_keeps 89 = .ok (.getfield 7, 3) := by decide +kernel
theorem dX10_keeps_92 : decode cX10_keeps 92 = .ok (.iconst 3, 1) := by decide +kernel
theorem dX10_keeps_93 : decode cX10_keeps 93 = .ok (.iaload, 1) := by decide +kernel
theorem dX10_keeps_94 : decode cX10_keeps 94 = .ok (.bipush 60, 2) := by decide +kernel
theorem dX10_keeps_96 : decode cX10_keeps 96 = .ok (.if_icmp .le 7, 3) := by decide +kernel
theorem dX10_keeps_99 : decode cX10_keeps 99 = .ok (.iconst 0, 1) := by decide +kernel
theorem dX10_keeps_100 : decode cX10_keeps 100 = .ok (.goto 6, 3) := by decide +kernel
theorem dX10_keeps_103 : decode cX10_keeps 103 = .ok (.iconst 2, 1) := by decide +kernel
theorem dX10_keeps_104 : decode cX10_keeps 104 = .ok (.iload_n 3, 1) := by decide +kernel
theorem dX10_keeps_105 : decode cX10_keeps 105 = .ok (.imul, 1) := by decide +kernel
theorem dX10_keeps_106 : decode cX10_keeps 106 = .ok (.ireturn, 1) := by decide +kernel
theorem dX10_keeps_107 : decode cX10_keeps 107 = .ok (.iload_n 2, 1) := by decide +kernel
theorem dX10_keeps_108 : decode cX10_keeps 108 = .ok (.iconst 2, 1) := by decide +kernel
theorem dX10_keeps_109 : decode cX10_keeps 109 = .ok (.idiv, 1) := by decide +kernel
theorem dX10_keeps_110 : decode cX10_keeps 110 = .ok (.ireturn, 1) := by decide +kernel
theorem dX10_yearns_0 : decode cX10_yearns 0 = .ok (.aload_n 0, 1) := by decide +kernel
theorem dX10_yearns_1 : decode cX10_yearns 1 = .ok (.iconst 0, 1) := by decide +kernel
theorem dX10_yearns_2 : decode cX10_yearns 2 = .ok (.aload_n 0, 1) := by decide +kernel
theorem dX10_yearns_3 : decode cX10_yearns 3 = .ok (.getfield 7, 3) := by decide +kernel
theorem dX10_yearns_6 : decode cX10_yearns 6 = .ok (.iconst 3, 1) := by decide +kernel
theorem dX10_yearns_7 : decode cX10_yearns 7 = .ok (.iaload, 1) := by decide +kernel
theorem dX10_yearns_8 : decode cX10_yearns 8 = .ok (.aload_n 0, 1) := by decide +kernel
theorem dX10_yearns_9 : decode cX10_yearns 9 = .ok (.invokevirtual 174, 3) := by decide +kernel
theorem dX10_yearns_12 : decode cX10_yearns 12 = .ok (.aload_n 0, 1) := by decide +kernel
theorem dX10_yearns_13 : decode cX10_yearns 13 = .ok (.getfield 7, 3) := by decide +kernel
theorem dX10_yearns_16 : decode cX10_yearns 16 = .ok (.iconst 4, 1) := by decide +kernel
theorem dX10_yearns_17 : decode cX10_yearns 17 = .ok (.iaload, 1) := by decide +kernel
theorem dX10_yearns_18 : decode cX10_yearns 18 = .ok (.invokevirtual 162, 3) := by decide +kernel
theorem dX10_yearns_21 : decode cX10_yearns 21 = .ok (.ireturn, 1) := by decide +kernel
theorem dX10_shifts_0 : decode cX10_shifts 0 = .ok (.aload_n 0, 1) := by decide +kernel
theorem dX10_shifts_1 : decode cX10_shifts 1 = .ok (.iconst 1, 1) := by decide +kernel
theorem dX10_shifts_2 : decode cX10_shifts 2 = .ok (.aload_n 0, 1) := by decide +kernel
theorem dX10_shifts_3 : decode cX10_shifts 3 = .ok (.getfield 7, 3) := by decide +kernel
theorem dX10_shifts_6 : decode cX10_shifts 6 = .ok (.iconst 3, 1) := by decide +kernel
theorem dX10_shifts_7 : decode cX10_shifts 7 = .ok (.iaload, 1) := by decide +kernel
theorem dX10_shifts_8 : decode cX10_shifts 8 = .ok (.aload_n 0, 1) := by decide +kernel
theorem dX10_shifts_9 : decode cX10_shifts 9 = .ok (.invokevirtual 174, 3) := by decide +kernel
theorem dX10_shifts_12 : decode cX10_shifts 12 = .ok (.aload_n 0, 1) := by decide +kernel
theorem dX10_shifts_13 : decode cX10_shifts 13 = .ok (.getfield 7, 3) := by decide +kernel
theorem dX10_shifts_16 : decode cX10_shifts 16 = .ok (.iconst 5, 1) := by decide +kernel
theorem dX10_shifts_17 : decode cX10_shifts 17 = .ok (.iaload, 1) := by decide +kernel
theorem dX10_shifts_18 : decode cX10_shifts 18 = .ok (.invokevirtual 162, 3) := by decide +kernel
theorem dX10_shifts_21 : decode cX10_shifts 21 = .ok (.ireturn, 1) := by decide +kernel
theorem dX10_ofFigure_0 : decode cX10_ofFigure 0 = .ok (.iload_n 1, 1) := by decide +kernel
theorem dX10_ofFigure_1 : decode cX10_ofFigure 1 = .ok (.tableswitch 42 5 7 #[27, 32, 37], 27) := by decide +kernel
theorem dX10_ofFigure_28 : decode cX10_ofFigure 28 = .ok (.aload_n 0, 1) := by decide +kernel
theorem dX10_ofFigure_29 : decode cX10_ofFigure 29 = .ok (.invokevirtual 67, 3) := by decide +kernel
theorem dX10_ofFigure_32 : decode cX10_ofFigure 32 = .ok (.ireturn, 1) := by decide +kernel
theorem dX10_ofFigure_33 : decode cX10_ofFigure 33 = .ok (.aload_n 0, 1) := by decide +kernel
theorem dX10_ofFigure_34 : decode cX10_ofFigure 34 = .ok (.invokevirtual 177, 3) := by decide +kernel
theorem dX10_ofFigure_37 : decode cX10_ofFigure 37 = .ok (.ireturn, 1) := by decide +kernel
theorem dX10_ofFigure_38 : decode cX10_ofFigure 38 = .ok (.aload_n 0, 1) := by decide +kernel
theorem dX10_ofFigure_39 : decode cX10_ofFigure 39 = .ok (.invokevirtual 180, 3) := by decide +kernel
theorem dX10_ofFigure_42 : decode cX10_ofFigure 42 = .ok (.ireturn, 1) := by decide +kernel
theorem dX10_ofFigure_43 : decode cX10_ofFigure 43 = .ok (.iload_n 1, 1) := by decide +kernel
theorem dX10_ofFigure_44 : decode cX10_ofFigure 44 = .ok (.iconst 0, 1) := by decide +kernel
theorem dX10_ofFigure_45 : decode cX10_ofFigure 45 = .ok (.iconst 4, 1) := by decide +kernel
theorem dX10_ofFigure_46 : decode cX10_ofFigure 46 = .ok (.invokestatic 51, 3) := by decide +kernel
theorem dX10_ofFigure_49 : decode cX10_ofFigure 49 = .ok (.ifCond .eq 14, 3) := by decide +kernel
theorem dX10_ofFigure_52 : decode cX10_ofFigure 52 = .ok (.aload_n 0, 1) := by decide +kernel
theorem dX10_ofFigure_53 : decode cX10_ofFigure 53 = .ok (.getfield 7, 3) := by decide +kernel
theorem dX10_ofFigure_56 : decode cX10_ofFigure 56 = .ok (.iconst 3, 1) := by decide +kernel
theorem dX10_ofFigure_57 : decode cX10_ofFigure 57 = .ok (.iload_n 1, 1) := by decide +kernel
theorem dX10_ofFigure_58 : decode cX10_ofFigure 58 = .ok (.iadd, 1) := by decide +kernel
theorem dX10_ofFigure_59 : decode cX10_ofFigure 59 = .ok (.iaload, 1) := by decide +kernel
theorem dX10_ofFigure_60 : decode cX10_ofFigure 60 = .ok (.goto 9, 3) := by decide +kernel
theorem dX10_ofFigure_63 : decode cX10_ofFigure 63 = .ok (.aload_n 0, 1) := by decide +kernel
theorem dX10_ofFigure_64 : decode cX10_ofFigure 64 = .ok (.ldc 59, 2) := by decide +kernel
theorem dX10_ofFigure_66 : decode cX10_ofFigure 66 = .ok (.invokevirtual 60, 3) := by decide +kernel
theorem dX10_ofFigure_69 : decode cX10_ofFigure 69 = .ok (.ireturn, 1) := by decide +kernel
theorem dX10_oneYear_0 : decode cX10_oneYear 0 = .ok (.aload_n 0, 1) := by decide +kernel
theorem dX10_oneYear_1 : decode cX10_oneYear 1 = .ok (.getfield 7, 3) := by decide +kernel
theorem dX10_oneYear_4 : decode cX10_oneYear 4 = .ok (.iconst 3, 1) := by decide +kernel
theorem dX10_oneYear_5 : decode cX10_oneYear 5 = .ok (.aload_n 0, 1) := by decide +kernel
theorem dX10_oneYear_6 : decode cX10_oneYear 6 = .ok (.getfield 7, 3) := by decide +kernel
theorem dX10_oneYear_9 : decode cX10_oneYear 9 = .ok (.iconst 3, 1) := by decide +kernel
theorem dX10_oneYear_10 : decode cX10_oneYear 10 = .ok (.iaload, 1) := by decide +kernel
theorem dX10_oneYear_11 : decode cX10_oneYear 11 = .ok (.aload_n 0, 1) := by decide +kernel
theorem dX10_oneYear_12 : decode cX10_oneYear 12 = .ok (.invokevirtual 177, 3) := by decide +kernel
theorem dX10_oneYear_15 : decode cX10_oneYear 15 = .ok (.iadd, 1) := by decide +kernel
theorem dX10_oneYear_16 : decode cX10_oneYear 16 = .ok (.iconst 0, 1) := by decide +kernel
theorem dX10_oneYear_17 : decode cX10_oneYear 17 = .ok (.bipush 99, 2) := by decide +kernel
theorem dX10_oneYear_19 : decode cX10_oneYear 19 = .ok (.invokestatic 158, 3) := by decide +kernel
theorem dX10_oneYear_22 : decode cX10_oneYear 22 = .ok (.iastore, 1) := by decide +kernel
theorem dX10_oneYear_23 : decode cX10_oneYear 23 = .ok (.iconst 0, 1) := by decide +kernel
theorem dX10_oneYear_24 : decode cX10_oneYear 24 = .ok (.istore_n 1, 1) := by decide +kernel
theorem dX10_oneYear_25 : decode cX10_oneYear 25 = .ok (.iload_n 1, 1) := by decide +kernel
theorem dX10_oneYear_26 : decode cX10_oneYear 26 = .ok (.aload_n 0, 1) := by decide +kernel
theorem dX10_oneYear_27 : decode cX10_oneYear 27 = .ok (.getfield 7, 3) := by decide +kernel
theorem dX10_oneYear_30 : decode cX10_oneYear 30 = .ok (.iconst 2, 1) := by decide +kernel
theorem dX10_oneYear_31 : decode cX10_oneYear 31 = .ok (.iaload, 1) := by decide +kernel
theorem dX10_oneYear_32 : decode cX10_oneYear 32 = .ok (.if_icmp .ge 49, 3) := by decide +kernel
theorem dX10_oneYear_35 : decode cX10_oneYear 35 = .ok (.iload_n 1, 1) := by decide +kernel
theorem dX10_oneYear_36 : decode cX10_oneYear 36 = .ok (.aload_n 0, 1) := by decide +kernel
theorem dX10_oneYear_37 : decode cX10_oneYear 37 = .ok (.getfield 25, 3) := by decide +kernel
theorem dX10_oneYear_40 : decode cX10_oneYear 40 = .ok (.if_icmp .eq 35, 3) := by decide +kernel
theorem dX10_oneYear_43 : decode cX10_oneYear 43 = .ok (.aload_n 0, 1) := by decide +kernel
theorem dX10_oneYear_44 : decode cX10_oneYear 44 = .ok (.iload_n 1, 1) := by decide +kernel
theorem dX10_oneYear_45 : decode cX10_oneYear 45 = .ok (.invokevirtual 89, 3) := by decide +kernel
theorem dX10_oneYear_48 : decode cX10_oneYear 48 = .ok (.ifCond .eq 27, 3) := by decide +kernel
theorem dX10_oneYear_51 : decode cX10_oneYear 51 = .ok (.aload_n 0, 1) := by decide +kernel
theorem dX10_oneYear_52 : decode cX10_oneYear 52 = .ok (.getfield 7, 3) := by decide +kernel
theorem dX10_oneYear_55 : decode cX10_oneYear 55 = .ok (.iconst 3, 1) := by decide +kernel
theorem dX10_oneYear_56 : decode cX10_oneYear 56 = .ok (.aload_n 0, 1) := by decide +kernel
theorem dX10_oneYear_57 : decode cX10_oneYear 57 = .ok (.getfield 7, 3) := by decide +kernel
theorem dX10_oneYear_60 : decode cX10_oneYear 60 = .ok (.iconst 3, 1) := by decide +kernel
theorem dX10_oneYear_61 : decode cX10_oneYear 61 = .ok (.iaload, 1) := by decide +kernel
theorem dX10_oneYear_62 : decode cX10_oneYear 62 = .ok (.aload_n 0, 1) := by decide +kernel
theorem dX10_oneYear_63 : decode cX10_oneYear 63 = .ok (.iload_n 1, 1) := by decide +kernel
theorem dX10_oneYear_64 : decode cX10_oneYear 64 = .ok (.invokevirtual 86, 3) := by decide +kernel
theorem dX10_oneYear_67 : decode cX10_oneYear 67 = .ok (.isub, 1) := by decide +kernel
theorem dX10_oneYear_68 : decode cX10_oneYear 68 = .ok (.iconst 0, 1) := by decide +kernel
theorem dX10_oneYear_69 : decode cX10_oneYear 69 = .ok (.bipush 99, 2) := by decide +kernel
theorem dX10_oneYear_71 : decode cX10_oneYear 71 = .ok (.invokestatic 158, 3) := by decide +kernel
theorem dX10_oneYear_74 : decode cX10_oneYear 74 = .ok (.iastore, 1) := by decide +kernel
theorem dX10_oneYear_75 : decode cX10_oneYear 75 = .ok (.iinc 1 1, 3) := by decide +kernel
theorem dX10_oneYear_78 : decode cX10_oneYear 78 = .ok (.goto (-53), 3) := by decide +kernel
theorem dX10_oneYear_81 : decode cX10_oneYear 81 = .ok (.aload_n 0, 1) := by decide +kernel
theorem dX10_oneYear_82 : decode cX10_oneYear 82 = .ok (.getfield 7, 3) := by decide +kernel
theorem dX10_oneYear_85 : decode cX10_oneYear 85 = .ok (.iconst 4, 1) := by decide +kernel
theorem dX10_oneYear_86 : decode cX10_oneYear 86 = .ok (.aload_n 0, 1) := by decide +kernel
theorem dX10_oneYear_87 : decode cX10_oneYear 87 = .ok (.getfield 7, 3) := by decide +kernel
theorem dX10_oneYear_90 : decode cX10_oneYear 90 = .ok (.iconst 4, 1) := by decide +kernel
theorem dX10_oneYear_91 : decode cX10_oneYear 91 = .ok (.iaload, 1) := by decide +kernel
theorem dX10_oneYear_92 : decode cX10_oneYear 92 = .ok (.aload_n 0, 1) := by decide +kernel
theorem dX10_oneYear_93 : decode cX10_oneYear 93 = .ok (.invokevirtual 180, 3) := by decide +kernel
theorem dX10_oneYear_96 : decode cX10_oneYear 96 = .ok (.iadd, 1) := by decide +kernel
theorem dX10_oneYear_97 : decode cX10_oneYear 97 = .ok (.iconst 0, 1) := by decide +kernel
theorem dX10_oneYear_98 : decode cX10_oneYear 98 = .ok (.bipush 99, 2) := by decide +kernel
theorem dX10_oneYear_100 : decode cX10_oneYear 100 = .ok (.invokestatic 158, 3) := by decide +kernel
theorem dX10_oneYear_103 : decode cX10_oneYear 103 = .ok (.iastore, 1) := by decide +kernel
theorem dX10_oneYear_104 : decode cX10_oneYear 104 = .ok (.aload_n 0, 1) := by decide +kernel
theorem dX10_oneYear_105 : decode cX10_oneYear 105 = .ok (.getfield 7, 3) := by decide +kernel
theorem dX10_oneYear_108 : decode cX10_oneYear 108 = .ok (.iconst 5, 1) := by decide +kernel
theorem dX10_oneYear_109 : decode cX10_oneYear 109 = .ok (.aload_n 0, 1) := by decide +kernel
theorem dX10_oneYear_110 : decode cX10_oneYear 110 = .ok (.getfield 7, 3) := by decide +kernel
theorem dX10_oneYear_113 : decode cX10_oneYear 113 = .ok (.iconst 5, 1) := by decide +kernel
theorem dX10_oneYear_114 : decode cX10_oneYear 114 = .ok (.iaload, 1) := by decide +kernel
theorem dX10_oneYear_115 : decode cX10_oneYear 115 = .ok (.aload_n 0, 1) := by decide +kernel
theorem dX10_oneYear_116 : decode cX10_oneYear 116 = .ok (.invokevirtual 174, 3) := by decide +kernel
theorem dX10_oneYear_119 : decode cX10_oneYear 119 = .ok (.isub, 1) := by decide +kernel
theorem dX10_oneYear_120 : decode cX10_oneYear 120 = .ok (.iconst 0, 1) := by decide +kernel
theorem dX10_oneYear_121 : decode cX10_oneYear 121 = .ok (.bipush 99, 2) := by decide +kernel
theorem dX10_oneYear_123 : decode cX10_oneYear 123 = .ok (.invokestatic 158, 3) := by decide +kernel
theorem dX10_oneYear_126 : decode cX10_oneYear 126 = .ok (.aload_n 0, 1) := by decide +kernel
theorem dX10_oneYear_127 : decode cX10_oneYear 127 = .ok (.invokevirtual 171, 3) := by decide +kernel
theorem dX10_oneYear_130 : decode cX10_oneYear 130 = .ok (.iadd, 1) := by decide +kernel
theorem dX10_oneYear_131 : decode cX10_oneYear 131 = .ok (.iconst 0, 1) := by decide +kernel
theorem dX10_oneYear_132 : decode cX10_oneYear 132 = .ok (.bipush 99, 2) := by decide +kernel
theorem dX10_oneYear_134 : decode cX10_oneYear 134 = .ok (.invokestatic 158, 3) := by decide +kernel
theorem dX10_oneYear_137 : decode cX10_oneYear 137 = .ok (.iastore, 1) := by decide +kernel
theorem dX10_oneYear_138 : decode cX10_oneYear 138 = .ok (.aload_n 0, 1) := by decide +kernel
theorem dX10_oneYear_139 : decode cX10_oneYear 139 = .ok (.getfield 7, 3) := by decide +kernel
theorem dX10_oneYear_142 : decode cX10_oneYear 142 = .ok (.iconst 0, 1) := by decide +kernel
theorem dX10_oneYear_143 : decode cX10_oneYear 143 = .ok (.dup2, 1) := by decide +kernel
theorem dX10_oneYear_144 : decode cX10_oneYear 144 = .ok (.iaload, 1) := by decide +kernel
theorem dX10_oneYear_145 : decode cX10_oneYear 145 = .ok (.iconst 1, 1) := by decide +kernel
theorem dX10_oneYear_146 : decode cX10_oneYear 146 = .ok (.iadd, 1) := by decide +kernel
theorem dX10_oneYear_147 : decode cX10_oneYear 147 = .ok (.iastore, 1) := by decide +kernel
theorem dX10_oneYear_148 : decode cX10_oneYear 148 = .ok (.return_, 1) := by decide +kernel
theorem dX10_passes_0 : decode cX10_passes 0 = .ok (.iconst 0, 1) := by decide +kernel
theorem dX10_passes_1 : decode cX10_passes 1 = .ok (.istore_n 2, 1) := by decide +kernel
theorem dX10_passes_2 : decode cX10_passes 2 = .ok (.iload_n 2, 1) := by decide +kernel
theorem dX10_passes_3 : decode cX10_passes 3 = .ok (.iload_n 1, 1) := by decide +kernel
theorem dX10_passes_4 : decode cX10_passes 4 = .ok (.if_icmp .ge 13, 3) := by decide +kernel
theorem dX10_passes_7 : decode cX10_passes 7 = .ok (.aload_n 0, 1) := by decide +kernel
theorem dX10_passes_8 : decode cX10_passes 8 = .ok (.invokevirtual 183, 3) := by decide +kernel
theorem dX10_passes_11 : decode cX10_passes 11 = .ok (.iinc 2 1, 3) := by decide +kernel
theorem dX10_passes_14 : decode cX10_passes 14 = .ok (.goto (-12), 3) := by decide +kernel
theorem dX10_passes_17 : decode cX10_passes 17 = .ok (.return_, 1) := by decide +kernel
theorem dX10_years_0 : decode cX10_years 0 = .ok (.iload_n 1, 1) := by decide +kernel
theorem dX10_years_1 : decode cX10_years 1 = .ok (.iconst 1, 1) := by decide +kernel
theorem dX10_years_2 : decode cX10_years 2 = .ok (.bipush 60, 2) := by decide +kernel
theorem dX10_years_4 : decode cX10_years 4 = .ok (.invokestatic 51, 3) := by decide +kernel
theorem dX10_years_7 : decode cX10_years 7 = .ok (.ifCond .ne 10, 3) := by decide +kernel
theorem dX10_years_10 : decode cX10_years 10 = .ok (.aload_n 0, 1) := by decide +kernel
theorem dX10_years_11 : decode cX10_years 11 = .ok (.ldc 59, 2) := by decide +kernel
theorem dX10_years_13 : decode cX10_years 13 = .ok (.invokevirtual 60, 3) := by decide +kernel
theorem dX10_years_16 : decode cX10_years 16 = .ok (.ireturn, 1) := by decide +kernel
theorem dX10_years_17 : decode cX10_years 17 = .ok (.aload_n 0, 1) := by decide +kernel
theorem dX10_years_18 : decode cX10_years 18 = .ok (.getfield 7, 3) := by decide +kernel
theorem dX10_years_21 : decode cX10_years 21 = .ok (.iconst 0, 1) := by decide +kernel
theorem dX10_years_22 : decode cX10_years 22 = .ok (.iaload, 1) := by decide +kernel
theorem dX10_years_23 : decode cX10_years 23 = .ok (.iload_n 1, 1) := by decide +kernel
theorem dX10_years_24 : decode cX10_years 24 = .ok (.iadd, 1) := by decide +kernel
theorem dX10_years_25 : decode cX10_years 25 = .ok (.sipush 9999, 3) := by decide +kernel
theorem dX10_years_28 : decode cX10_years 28 = .ok (.if_icmp .le 10, 3) := by decide +kernel
theorem dX10_years_31 : decode cX10_years 31 = .ok (.aload_n 0, 1) := by decide +kernel
theorem dX10_years_32 : decode cX10_years 32 = .ok (.ldc 186, 2) := by decide +kernel
theorem dX10_years_34 : decode cX10_years 34 = .ok (.invokevirtual 60, 3) := by decide +kernel
theorem dX10_years_37 : decode cX10_years 37 = .ok (.ireturn, 1) := by decide +kernel
theorem dX10_years_38 : decode cX10_years 38 = .ok (.aload_n 0, 1) := by decide +kernel
theorem dX10_years_39 : decode cX10_years 39 = .ok (.iload_n 1, 1) := by decide +kernel
theorem dX10_years_40 : decode cX10_years 40 = .ok (.invokevirtual 187, 3) := by decide +kernel
theorem dX10_years_43 : decode cX10_years 43 = .ok (.aload_n 0, 1) := by decide +kernel
theorem dX10_years_44 : decode cX10_years 44 = .ok (.getfield 7, 3) := by decide +kernel
theorem dX10_years_47 : decode cX10_years 47 = .ok (.iconst 4, 1) := by decide +kernel
theorem dX10_years_48 : decode cX10_years 48 = .ok (.iaload, 1) := by decide +kernel
theorem dX10_years_49 : decode cX10_years 49 = .ok (.ireturn, 1) := by decide +kernel
theorem dX10_drawn_0 : decode cX10_drawn 0 = .ok (.aload_n 0, 1) := by decide +kernel
theorem dX10_drawn_1 : decode cX10_drawn 1 = .ok (.getfield 7, 3) := by decide +kernel
theorem dX10_drawn_4 : decode cX10_drawn 4 = .ok (.iconst 1, 1) := by decide +kernel
theorem dX10_drawn_5 : decode cX10_drawn 5 = .ok (.aload_n 0, 1) := by decide +kernel
theorem dX10_drawn_6 : decode cX10_drawn 6 = .ok (.getfield 7, 3) := by decide +kernel
theorem dX10_drawn_9 : decode cX10_drawn 9 = .ok (.iconst 1, 1) := by decide +kernel
theorem dX10_drawn_10 : decode cX10_drawn 10 = .ok (.iaload, 1) := by decide +kernel
theorem dX10_drawn_11 : decode cX10_drawn 11 = .ok (.ldc 191, 2) := by decide +kernel
theorem dX10_drawn_13 : decode cX10_drawn 13 = .ok (.imul, 1) := by decide +kernel
theorem dX10_drawn_14 : decode cX10_drawn 14 = .ok (.sipush 12345, 3) := by decide +kernel
theorem dX10_drawn_17 : decode cX10_drawn 17 = .ok (.iadd, 1) := by decide +kernel
theorem dX10_drawn_18 : decode cX10_drawn 18 = .ok (.iastore, 1) := by decide +kernel
theorem dX10_drawn_19 : decode cX10_drawn 19 = .ok (.aload_n 0, 1) := by decide +kernel
theorem dX10_drawn_20 : decode cX10_drawn 20 = .ok (.getfield 7, 3) := by decide +kernel
theorem dX10_drawn_23 : decode cX10_drawn 23 = .ok (.iconst 1, 1) := by decide +kernel
theorem dX10_drawn_24 : decode cX10_drawn 24 = .ok (.iaload, 1) := by decide +kernel
theorem dX10_drawn_25 : decode cX10_drawn 25 = .ok (.bipush 8, 2) := by decide +kernel
theorem dX10_drawn_27 : decode cX10_drawn 27 = .ok (.iushr, 1) := by decide +kernel
theorem dX10_drawn_28 : decode cX10_drawn 28 = .ok (.ireturn, 1) := by decide +kernel
theorem dX10_loose_0 : decode cX10_loose 0 = .ok (.iload_n 1, 1) := by decide +kernel
theorem dX10_loose_1 : decode cX10_loose 1 = .ok (.iconst 1, 1) := by decide +kernel
theorem dX10_loose_2 : decode cX10_loose 2 = .ok (.bipush 40, 2) := by decide +kernel
theorem dX10_loose_4 : decode cX10_loose 4 = .ok (.invokestatic 51, 3) := by decide +kernel
theorem dX10_loose_7 : decode cX10_loose 7 = .ok (.ifCond .ne 10, 3) := by decide +kernel
theorem dX10_loose_10 : decode cX10_loose 10 = .ok (.aload_n 0, 1) := by decide +kernel
theorem dX10_loose_11 : decode cX10_loose 11 = .ok (.ldc 59, 2) := by decide +kernel
theorem dX10_loose_13 : decode cX10_loose 13 = .ok (.invokevirtual 60, 3) := by decide +kernel
theorem dX10_loose_16 : decode cX10_loose 16 = .ok (.ireturn, 1) := by decide +kernel
theorem dX10_loose_17 : decode cX10_loose 17 = .ok (.aload_n 0, 1) := by decide +kernel
theorem dX10_loose_18 : decode cX10_loose 18 = .ok (.getfield 7, 3) := by decide +kernel
theorem dX10_loose_21 : decode cX10_loose 21 = .ok (.iconst 0, 1) := by decide +kernel
theorem dX10_loose_22 : decode cX10_loose 22 = .ok (.iaload, 1) := by decide +kernel
theorem dX10_loose_23 : decode cX10_loose 23 = .ok (.iload_n 1, 1) := by decide +kernel
theorem dX10_loose_24 : decode cX10_loose 24 = .ok (.iadd, 1) := by decide +kernel
theorem dX10_loose_25 : decode cX10_loose 25 = .ok (.sipush 9999, 3) := by decide +kernel
theorem dX10_loose_28 : decode cX10_loose 28 = .ok (.if_icmp .le 10, 3) := by decide +kernel
theorem dX10_loose_31 : decode cX10_loose 31 = .ok (.aload_n 0, 1) := by decide +kernel
theorem dX10_loose_32 : decode cX10_loose 32 = .ok (.ldc 186, 2) := by decide +kernel
theorem dX10_loose_34 : decode cX10_loose 34 = .ok (.invokevirtual 60, 3) := by decide +kernel
theorem dX10_loose_37 : decode cX10_loose 37 = .ok (.ireturn, 1) := by decide +kernel
theorem dX10_loose_38 : decode cX10_loose 38 = .ok (.iconst 0, 1) := by decide +kernel
theorem dX10_loose_39 : decode cX10_loose 39 = .ok (.istore_n 2, 1) := by decide +kernel
theorem dX10_loose_40 : decode cX10_loose 40 = .ok (.iload_n 2, 1) := by decide +kernel
theorem dX10_loose_41 : decode cX10_loose 41 = .ok (.iload_n 1, 1) := by decide +kernel
theorem dX10_loose_42 : decode cX10_loose 42 = .ok (.if_icmp .ge 41, 3) := by decide +kernel
theorem dX10_loose_45 : decode cX10_loose 45 = .ok (.aload_n 0, 1) := by decide +kernel
theorem dX10_loose_46 : decode cX10_loose 46 = .ok (.invokevirtual 192, 3) := by decide +kernel
theorem dX10_loose_49 : decode cX10_loose 49 = .ok (.bipush 6, 2) := by decide +kernel
theorem dX10_loose_51 : decode cX10_loose 51 = .ok (.irem, 1) := by decide +kernel
theorem dX10_loose_52 : decode cX10_loose 52 = .ok (.istore_n 3, 1) := by decide +kernel
theorem dX10_loose_53 : decode cX10_loose 53 = .ok (.aload_n 0, 1) := by decide +kernel
theorem dX10_loose_54 : decode cX10_loose 54 = .ok (.getfield 7, 3) := by decide +kernel
theorem dX10_loose_57 : decode cX10_loose 57 = .ok (.bipush 12, 2) := by decide +kernel
theorem dX10_loose_59 : decode cX10_loose 59 = .ok (.iconst 2, 1) := by decide +kernel
theorem dX10_loose_60 : decode cX10_loose 60 = .ok (.iload_n 3, 1) := by decide +kernel
theorem dX10_loose_61 : decode cX10_loose 61 = .ok (.imul, 1) := by decide +kernel
theorem dX10_loose_62 : decode cX10_loose 62 = .ok (.iadd, 1) := by decide +kernel
theorem dX10_loose_63 : decode cX10_loose 63 = .ok (.iconst 1, 1) := by decide +kernel
theorem dX10_loose_64 : decode cX10_loose 64 = .ok (.iadd, 1) := by decide +kernel
theorem dX10_loose_65 : decode cX10_loose 65 = .ok (.aload_n 0, 1) := by decide +kernel
theorem dX10_loose_66 : decode cX10_loose 66 = .ok (.invokevirtual 192, 3) := by decide +kernel
theorem dX10_loose_69 : decode cX10_loose 69 = .ok (.bipush 10, 2) := by decide +kernel
theorem dX10_loose_71 : decode cX10_loose 71 = .ok (.irem, 1) := by decide +kernel
theorem dX10_loose_72 : decode cX10_loose 72 = .ok (.iastore, 1) := by decide +kernel
theorem dX10_loose_73 : decode cX10_loose 73 = .ok (.aload_n 0, 1) := by decide +kernel
theorem dX10_loose_74 : decode cX10_loose 74 = .ok (.invokevirtual 183, 3) := by decide +kernel
theorem dX10_loose_77 : decode cX10_loose 77 = .ok (.iinc 2 1, 3) := by decide +kernel
theorem dX10_loose_80 : decode cX10_loose 80 = .ok (.goto (-40), 3) := by decide +kernel
theorem dX10_loose_83 : decode cX10_loose 83 = .ok (.aload_n 0, 1) := by decide +kernel
theorem dX10_loose_84 : decode cX10_loose 84 = .ok (.getfield 7, 3) := by decide +kernel
theorem dX10_loose_87 : decode cX10_loose 87 = .ok (.iconst 4, 1) := by decide +kernel
theorem dX10_loose_88 : decode cX10_loose 88 = .ok (.iaload, 1) := by decide +kernel
theorem dX10_loose_89 : decode cX10_loose 89 = .ok (.ireturn, 1) := by decide +kernel
theorem dX10_behind_0 : decode cX10_behind 0 = .ok (.aload_n 0, 1) := by decide +kernel
theorem dX10_behind_1 : decode cX10_behind 1 = .ok (.iload_n 1, 1) := by decide +kernel
theorem dX10_behind_2 : decode cX10_behind 2 = .ok (.invokevirtual 187, 3) := by decide +kernel
theorem dX10_behind_5 : decode cX10_behind 5 = .ok (.aload_n 0, 1) := by decide +kernel
theorem dX10_behind_6 : decode cX10_behind 6 = .ok (.getfield 7, 3) := by decide +kernel
theorem dX10_behind_9 : decode cX10_behind 9 = .ok (.iload_n 2, 1) := by decide +kernel
theorem dX10_behind_10 : decode cX10_behind 10 = .ok (.iaload, 1) := by decide +kernel
theorem dX10_behind_11 : decode cX10_behind 11 = .ok (.istore_n 3, 1) := by decide +kernel
theorem dX10_behind_12 : decode cX10_behind 12 = .ok (.aload_n 0, 1) := by decide +kernel
theorem dX10_behind_13 : decode cX10_behind 13 = .ok (.aload_n 0, 1) := by decide +kernel
theorem dX10_behind_14 : decode cX10_behind 14 = .ok (.getfield 16, 3) := by decide +kernel
theorem dX10_behind_17 : decode cX10_behind 17 = .ok (.aload_n 0, 1) := by decide +kernel
theorem dX10_behind_18 : decode cX10_behind 18 = .ok (.getfield 7, 3) := by decide +kernel
theorem dX10_behind_21 : decode cX10_behind 21 = .ok (.invokevirtual 167, 3) := by decide +kernel
theorem dX10_behind_24 : decode cX10_behind 24 = .ok (.iload_n 3, 1) := by decide +kernel
theorem dX10_behind_25 : decode cX10_behind 25 = .ok (.ireturn, 1) := by decide +kernel
theorem dX10_then_0 : decode cX10_then 0 = .ok (.iload_n 1, 1) := by decide +kernel
theorem dX10_then_1 : decode cX10_then 1 = .ok (.iconst 0, 1) := by decide +kernel
theorem dX10_then_2 : decode cX10_then 2 = .ok (.bipush 60, 2) := by decide +kernel
theorem dX10_then_4 : decode cX10_then 4 = .ok (.invokestatic 51, 3) := by decide +kernel
theorem dX10_then_7 : decode cX10_then 7 = .ok (.ifCond .eq 12, 3) := by decide +kernel
theorem dX10_then_10 : decode cX10_then 10 = .ok (.iload_n 2, 1) := by decide +kernel
theorem dX10_then_11 : decode cX10_then 11 = .ok (.iconst 0, 1) := by decide +kernel
theorem dX10_then_12 : decode cX10_then 12 = .ok (.iconst 2, 1) := by decide +kernel
theorem dX10_then_13 : decode cX10_then 13 = .ok (.invokestatic 51, 3) := by decide +kernel
theorem dX10_then_16 : decode cX10_then 16 = .ok (.ifCond .ne 10, 3) := by decide +kernel
theorem dX10_then_19 : decode cX10_then 19 = .ok (.aload_n 0, 1) := by decide +kernel
theorem dX10_then_20 : decode cX10_then 20 = .ok (.ldc 59, 2) := by decide +kernel
theorem dX10_then_22 : decode cX10_then 22 = .ok (.invokevirtual 60, 3) := by decide +kernel
theorem dX10_then_25 : decode cX10_then 25 = .ok (.ireturn, 1) := by decide +kernel
theorem dX10_then_26 : decode cX10_then 26 = .ok (.aload_n 0, 1) := by decide +kernel
theorem dX10_then_27 : decode cX10_then 27 = .ok (.aload_n 0, 1) := by decide +kernel
theorem dX10_then_28 : decode cX10_then 28 = .ok (.getfield 7, 3) := by decide +kernel
theorem dX10_then_31 : decode cX10_then 31 = .ok (.aload_n 0, 1) := by decide +kernel
theorem dX10_then_32 : decode cX10_then 32 = .ok (.getfield 16, 3) := by decide +kernel
theorem dX10_then_35 : decode cX10_then 35 = .ok (.invokevirtual 167, 3) := by decide +kernel
theorem dX10_then_38 : decode cX10_then 38 = .ok (.aload_n 0, 1) := by decide +kernel
theorem dX10_then_39 : decode cX10_then 39 = .ok (.iload_n 1, 1) := by decide +kernel
theorem dX10_then_40 : decode cX10_then 40 = .ok (.iconst 3, 1) := by decide +kernel
theorem dX10_then_41 : decode cX10_then 41 = .ok (.iload_n 2, 1) := by decide +kernel
theorem dX10_then_42 : decode cX10_then 42 = .ok (.iadd, 1) := by decide +kernel
theorem dX10_then_43 : decode cX10_then 43 = .ok (.invokevirtual 195, 3) := by decide +kernel
theorem dX10_then_46 : decode cX10_then 46 = .ok (.ireturn, 1) := by decide +kernel
theorem dX10_falls_0 : decode cX10_falls 0 = .ok (.aload_n 0, 1) := by decide +kernel
theorem dX10_falls_1 : decode cX10_falls 1 = .ok (.aload_n 0, 1) := by decide +kernel
theorem dX10_falls_2 : decode cX10_falls 2 = .ok (.getfield 7, 3) := by decide +kernel
theorem dX10_falls_5 : decode cX10_falls 5 = .ok (.aload_n 0, 1) := by decide +kernel
theorem dX10_falls_6 : decode cX10_falls 6 = .ok (.getfield 16, 3) := by decide +kernel
theorem dX10_falls_9 : decode cX10_falls 9 = .ok (.invokevirtual 167, 3) := by decide +kernel
theorem dX10_falls_12 : decode cX10_falls 12 = .ok (.iconst 0, 1) := by decide +kernel
theorem dX10_falls_13 : decode cX10_falls 13 = .ok (.istore_n 1, 1) := by decide +kernel
theorem dX10_falls_14 : decode cX10_falls 14 = .ok (.iload_n 1, 1) := by decide +kernel
theorem dX10_falls_15 : decode cX10_falls 15 = .ok (.bipush 60, 2) := by decide +kernel
theorem dX10_falls_17 : decode cX10_falls 17 = .ok (.if_icmp .gt 24, 3) := by decide +kernel
theorem dX10_falls_20 : decode cX10_falls 20 = .ok (.aload_n 0, 1) := by decide +kernel
theorem dX10_falls_21 : decode cX10_falls 21 = .ok (.getfield 7, 3) := by decide +kernel
theorem dX10_falls_24 : decode cX10_falls 24 = .ok (.iconst 4, 1) := by decide +kernel
theorem dX10_falls_25 : decode cX10_falls 25 = .ok (.iaload, 1) := by decide +kernel
theorem dX10_falls_26 : decode cX10_falls 26 = .ok (.bipush 60, 2) := by decide +kernel
theorem dX10_falls_28 : decode cX10_falls 28 = .ok (.if_icmp .ge 13, 3) := by decide +kernel
theorem dX10_falls_31 : decode cX10_falls 31 = .ok (.aload_n 0, 1) := by decide +kernel
theorem dX10_falls_32 : decode cX10_falls 32 = .ok (.invokevirtual 183, 3) := by decide +kernel
theorem dX10_falls_35 : decode cX10_falls 35 = .ok (.iinc 1 1, 3) := by decide +kernel
theorem dX10_falls_38 : decode cX10_falls 38 = .ok (.goto (-24), 3) := by decide +kernel
theorem dX10_falls_41 : decode cX10_falls 41 = .ok (.aload_n 0, 1) := by decide +kernel
theorem dX10_falls_42 : decode cX10_falls 42 = .ok (.aload_n 0, 1) := by decide +kernel
theorem dX10_falls_43 : decode cX10_falls 43 = .ok (.getfield 16, 3) := by decide +kernel
theorem dX10_falls_46 : decode cX10_falls 46 = .ok (.aload_n 0, 1) := by decide +kernel
theorem dX10_falls_47 : decode cX10_falls 47 = .ok (.getfield 7, 3) := by decide +kernel
theorem dX10_falls_50 : decode cX10_falls 50 = .ok (.invokevirtual 167, 3) := by decide +kernel
theorem dX10_falls_53 : decode cX10_falls 53 = .ok (.iload_n 1, 1) := by decide +kernel
theorem dX10_falls_54 : decode cX10_falls 54 = .ok (.bipush 60, 2) := by decide +kernel
theorem dX10_falls_56 : decode cX10_falls 56 = .ok (.if_icmp .le 12, 3) := by decide +kernel
theorem dX10_falls_59 : decode cX10_falls 59 = .ok (.aload_n 0, 1) := by decide +kernel
theorem dX10_falls_60 : decode cX10_falls 60 = .ok (.ldc 198, 2) := by decide +kernel
theorem dX10_falls_62 : decode cX10_falls 62 = .ok (.invokevirtual 60, 3) := by decide +kernel
theorem dX10_falls_65 : decode cX10_falls 65 = .ok (.goto 4, 3) := by decide +kernel
theorem dX10_falls_68 : decode cX10_falls 68 = .ok (.iload_n 1, 1) := by decide +kernel
theorem dX10_falls_69 : decode cX10_falls 69 = .ok (.ireturn, 1) := by decide +kernel
theorem dX10_wet_0 : decode cX10_wet 0 = .ok (.iload_n 1, 1) := by decide +kernel
theorem dX10_wet_1 : decode cX10_wet 1 = .ok (.iconst 0, 1) := by decide +kernel
theorem dX10_wet_2 : decode cX10_wet 2 = .ok (.bipush 60, 2) := by decide +kernel
theorem dX10_wet_4 : decode cX10_wet 4 = .ok (.invokestatic 51, 3) := by decide +kernel
theorem dX10_wet_7 : decode cX10_wet 7 = .ok (.ifCond .eq 13, 3) := by decide +kernel
theorem dX10_wet_10 : decode cX10_wet 10 = .ok (.iload_n 2, 1) := by decide +kernel
theorem dX10_wet_11 : decode cX10_wet 11 = .ok (.iconst 1, 1) := by decide +kernel
theorem dX10_wet_12 : decode cX10_wet 12 = .ok (.bipush 99, 2) := by decide +kernel
theorem dX10_wet_14 : decode cX10_wet 14 = .ok (.invokestatic 51, 3) := by decide +kernel
theorem dX10_wet_17 : decode cX10_wet 17 = .ok (.ifCond .ne 10, 3) := by decide +kernel
theorem dX10_wet_20 : decode cX10_wet 20 = .ok (.aload_n 0, 1) := by decide +kernel
theorem dX10_wet_21 : decode cX10_wet 21 = .ok (.ldc 59, 2) := by decide +kernel
theorem dX10_wet_23 : decode cX10_wet 23 = .ok (.invokevirtual 60, 3) := by decide +kernel
theorem dX10_wet_26 : decode cX10_wet 26 = .ok (.ireturn, 1) := by decide +kernel
theorem dX10_wet_27 : decode cX10_wet 27 = .ok (.aload_n 0, 1) := by decide +kernel
theorem dX10_wet_28 : decode cX10_wet 28 = .ok (.aload_n 0, 1) := by decide +kernel
theorem dX10_wet_29 : decode cX10_wet 29 = .ok (.getfield 7, 3) := by decide +kernel
theorem dX10_wet_32 : decode cX10_wet 32 = .ok (.aload_n 0, 1) := by decide +kernel
theorem dX10_wet_33 : decode cX10_wet 33 = .ok (.getfield 16, 3) := by decide +kernel
theorem dX10_wet_36 : decode cX10_wet 36 = .ok (.invokevirtual 167, 3) := by decide +kernel
theorem dX10_wet_39 : decode cX10_wet 39 = .ok (.iconst 0, 1) := by decide +kernel
theorem dX10_wet_40 : decode cX10_wet 40 = .ok (.istore_n 3, 1) := by decide +kernel
theorem dX10_wet_41 : decode cX10_wet 41 = .ok (.iconst 0, 1) := by decide +kernel
theorem dX10_wet_42 : decode cX10_wet 42 = .ok (.istore 4, 2) := by decide +kernel
theorem dX10_wet_44 : decode cX10_wet 44 = .ok (.iload 4, 2) := by decide +kernel
theorem dX10_wet_46 : decode cX10_wet 46 = .ok (.iload_n 1, 1) := by decide +kernel
theorem dX10_wet_47 : decode cX10_wet 47 = .ok (.if_icmp .ge 31, 3) := by decide +kernel
theorem dX10_wet_50 : decode cX10_wet 50 = .ok (.aload_n 0, 1) := by decide +kernel
theorem dX10_wet_51 : decode cX10_wet 51 = .ok (.invokevirtual 183, 3) := by decide +kernel
theorem dX10_wet_54 : decode cX10_wet 54 = .ok (.iload_n 3, 1) := by decide +kernel
theorem dX10_wet_55 : decode cX10_wet 55 = .ok (.aload_n 0, 1) := by decide +kernel
theorem dX10_wet_56 : decode cX10_wet 56 = .ok (.getfield 7, 3) := by decide +kernel
theorem dX10_wet_59 : decode cX10_wet 59 = .ok (.iconst 5, 1) := by decide +kernel
theorem dX10_wet_60 : decode cX10_wet 60 = .ok (.iaload, 1) := by decide +kernel
theorem dX10_wet_61 : decode cX10_wet 61 = .ok (.iload_n 2, 1) := by decide +kernel
theorem dX10_wet_62 : decode cX10_wet 62 = .ok (.if_icmp .lt 7, 3) := by decide +kernel
theorem dX10_wet_65 : decode cX10_wet 65 = .ok (.iconst 1, 1) := by decide +kernel
theorem dX10_wet_66 : decode cX10_wet 66 = .ok (.goto 4, 3) := by decide +kernel
theorem dX10_wet_69 : decode cX10_wet 69 = .ok (.iconst 0, 1) := by decide +kernel
theorem dX10_wet_70 : decode cX10_wet 70 = .ok (.iadd, 1) := by decide +kernel
theorem dX10_wet_71 : decode cX10_wet 71 = .ok (.istore_n 3, 1) := by decide +kernel
theorem dX10_wet_72 : decode cX10_wet 72 = .ok (.iinc 4 1, 3) := by decide +kernel
theorem dX10_wet_75 : decode cX10_wet 75 = .ok (.goto (-31), 3) := by decide +kernel
theorem dX10_wet_78 : decode cX10_wet 78 = .ok (.aload_n 0, 1) := by decide +kernel
theorem dX10_wet_79 : decode cX10_wet 79 = .ok (.aload_n 0, 1) := by decide +kernel
theorem dX10_wet_80 : decode cX10_wet 80 = .ok (.getfield 16, 3) := by decide +kernel
theorem dX10_wet_83 : decode cX10_wet 83 = .ok (.aload_n 0, 1) := by decide +kernel
theorem dX10_wet_84 : decode cX10_wet 84 = .ok (.getfield 7, 3) := by decide +kernel
theorem dX10_wet_87 : decode cX10_wet 87 = .ok (.invokevirtual 167, 3) := by decide +kernel
theorem dX10_wet_90 : decode cX10_wet 90 = .ok (.iload_n 3, 1) := by decide +kernel
theorem dX10_wet_91 : decode cX10_wet 91 = .ok (.ireturn, 1) := by decide +kernel
theorem dX10_loudFor_0 : decode cX10_loudFor 0 = .ok (.aload_n 0, 1) := by decide +kernel
theorem dX10_loudFor_1 : decode cX10_loudFor 1 = .ok (.iload_n 1, 1) := by decide +kernel
theorem dX10_loudFor_2 : decode cX10_loudFor 2 = .ok (.invokevirtual 80, 3) := by decide +kernel
theorem dX10_loudFor_5 : decode cX10_loudFor 5 = .ok (.ifCond .eq 23, 3) := by decide +kernel
theorem dX10_loudFor_8 : decode cX10_loudFor 8 = .ok (.iload_n 2, 1) := by decide +kernel
theorem dX10_loudFor_9 : decode cX10_loudFor 9 = .ok (.iconst 0, 1) := by decide +kernel
theorem dX10_loudFor_10 : decode cX10_loudFor 10 = .ok (.bipush 60, 2) := by decide +kernel
theorem dX10_loudFor_12 : decode cX10_loudFor 12 = .ok (.invokestatic 51, 3) := by decide +kernel
theorem dX10_loudFor_15 : decode cX10_loudFor 15 = .ok (.ifCond .eq 13, 3) := by decide +kernel
theorem dX10_loudFor_18 : decode cX10_loudFor 18 = .ok (.iload_n 3, 1) := by decide +kernel
theorem dX10_loudFor_19 : decode cX10_loudFor 19 = .ok (.iconst 0, 1) := by decide +kernel
theorem dX10_loudFor_20 : decode cX10_loudFor 20 = .ok (.bipush 99, 2) := by decide +kernel
theorem dX10_loudFor_22 : decode cX10_loudFor 22 = .ok (.invokestatic 51, 3) := by decide +kernel
theorem dX10_loudFor_25 : decode cX10_loudFor 25 = .ok (.ifCond .ne 10, 3) := by decide +kernel
theorem dX10_loudFor_28 : decode cX10_loudFor 28 = .ok (.aload_n 0, 1) := by decide +kernel
theorem dX10_loudFor_29 : decode cX10_loudFor 29 = .ok (.ldc 59, 2) := by decide +kernel
theorem dX10_loudFor_31 : decode cX10_loudFor 31 = .ok (.invokevirtual 60, 3) := by decide +kernel
theorem dX10_loudFor_34 : decode cX10_loudFor 34 = .ok (.ireturn, 1) := by decide +kernel
theorem dX10_loudFor_35 : decode cX10_loudFor 35 = .ok (.aload_n 0, 1) := by decide +kernel
theorem dX10_loudFor_36 : decode cX10_loudFor 36 = .ok (.aload_n 0, 1) := by decide +kernel
theorem dX10_loudFor_37 : decode cX10_loudFor 37 = .ok (.getfield 7, 3) := by decide +kernel
theorem dX10_loudFor_40 : decode cX10_loudFor 40 = .ok (.aload_n 0, 1) := by decide +kernel
theorem dX10_loudFor_41 : decode cX10_loudFor 41 = .ok (.getfield 16, 3) := by decide +kernel
theorem dX10_loudFor_44 : decode cX10_loudFor 44 = .ok (.invokevirtual 167, 3) := by decide +kernel
theorem dX10_loudFor_47 : decode cX10_loudFor 47 = .ok (.iconst (-1), 1) := by decide +kernel
theorem dX10_loudFor_48 : decode cX10_loudFor 48 = .ok (.istore 4, 2) := by decide +kernel
theorem dX10_loudFor_50 : decode cX10_loudFor 50 = .ok (.iconst 0, 1) := by decide +kernel
theorem dX10_loudFor_51 : decode cX10_loudFor 51 = .ok (.istore 5, 2) := by decide +kernel
theorem dX10_loudFor_53 : decode cX10_loudFor 53 = .ok (.iload 4, 2) := by decide +kernel
theorem dX10_loudFor_55 : decode cX10_loudFor 55 = .ok (.bipush 9, 2) := by decide +kernel
theorem dX10_loudFor_57 : decode cX10_loudFor 57 = .ok (.if_icmp .ge 39, 3) := by decide +kernel
theorem dX10_loudFor_60 : decode cX10_loudFor 60 = .ok (.iload 5, 2) := by decide +kernel
theorem dX10_loudFor_62 : decode cX10_loudFor 62 = .ok (.ifCond .ne 34, 3) := by decide +kernel
theorem dX10_loudFor_65 : decode cX10_loudFor 65 = .ok (.iinc 4 1, 3) := by decide +kernel
theorem dX10_loudFor_68 : decode cX10_loudFor 68 = .ok (.aload_n 0, 1) := by decide +kernel
theorem dX10_loudFor_69 : decode cX10_loudFor 69 = .ok (.iload_n 1, 1) := by decide +kernel
theorem dX10_loudFor_70 : decode cX10_loudFor 70 = .ok (.iconst 2, 1) := by decide +kernel
theorem dX10_loudFor_71 : decode cX10_loudFor 71 = .ok (.iload 4, 2) := by decide +kernel
theorem dX10_loudFor_73 : decode cX10_loudFor 73 = .ok (.invokevirtual 76, 3) := by decide +kernel
theorem dX10_loudFor_76 : decode cX10_loudFor 76 = .ok (.aload_n 0, 1) := by decide +kernel
theorem dX10_loudFor_77 : decode cX10_loudFor 77 = .ok (.iload_n 2, 1) := by decide +kernel
theorem dX10_loudFor_78 : decode cX10_loudFor 78 = .ok (.iconst 4, 1) := by decide +kernel
theorem dX10_loudFor_79 : decode cX10_loudFor 79 = .ok (.invokevirtual 195, 3) := by decide +kernel
theorem dX10_loudFor_82 : decode cX10_loudFor 82 = .ok (.iload_n 3, 1) := by decide +kernel
theorem dX10_loudFor_83 : decode cX10_loudFor 83 = .ok (.if_icmp .gt 7, 3) := by decide +kernel
theorem dX10_loudFor_86 : decode cX10_loudFor 86 = .ok (.iconst 1, 1) := by decide +kernel
theorem dX10_loudFor_87 : decode cX10_loudFor 87 = .ok (.goto 4, 3) := by decide +kernel
theorem dX10_loudFor_90 : decode cX10_loudFor 90 = .ok (.iconst 0, 1) := by decide +kernel
theorem dX10_loudFor_91 : decode cX10_loudFor 91 = .ok (.istore 5, 2) := by decide +kernel
theorem dX10_loudFor_93 : decode cX10_loudFor 93 = .ok (.goto (-40), 3) := by decide +kernel
theorem dX10_loudFor_96 : decode cX10_loudFor 96 = .ok (.iload 5, 2) := by decide +kernel
theorem dX10_loudFor_98 : decode cX10_loudFor 98 = .ok (.ifCond .eq 8, 3) := by decide +kernel
theorem dX10_loudFor_101 : decode cX10_loudFor 101 = .ok (.iload 4, 2) := by decide +kernel
theorem dX10_loudFor_103 : decode cX10_loudFor 103 = .ok (.goto 9, 3) := by decide +kernel
theorem dX10_loudFor_106 : decode cX10_loudFor 106 = .ok (.aload_n 0, 1) := by decide +kernel
theorem dX10_loudFor_107 : decode cX10_loudFor 107 = .ok (.ldc 198, 2) := by decide +kernel
theorem dX10_loudFor_109 : decode cX10_loudFor 109 = .ok (.invokevirtual 60, 3) := by decide +kernel
theorem dX10_loudFor_112 : decode cX10_loudFor 112 = .ok (.ireturn, 1) := by decide +kernel
theorem dX10_everyFor_0 : decode cX10_everyFor 0 = .ok (.aload_n 0, 1) := by decide +kernel
theorem dX10_everyFor_1 : decode cX10_everyFor 1 = .ok (.iload_n 1, 1) := by decide +kernel
theorem dX10_everyFor_2 : decode cX10_everyFor 2 = .ok (.invokevirtual 80, 3) := by decide +kernel
theorem dX10_everyFor_5 : decode cX10_everyFor 5 = .ok (.ifCond .eq 13, 3) := by decide +kernel
theorem dX10_everyFor_8 : decode cX10_everyFor 8 = .ok (.iload_n 2, 1) := by decide +kernel
theorem dX10_everyFor_9 : decode cX10_everyFor 9 = .ok (.iconst 0, 1) := by decide +kernel
theorem dX10_everyFor_10 : decode cX10_everyFor 10 = .ok (.bipush 60, 2) := by decide +kernel
theorem dX10_everyFor_12 : decode cX10_everyFor 12 = .ok (.invokestatic 51, 3) := by decide +kernel
theorem dX10_everyFor_15 : decode cX10_everyFor 15 = .ok (.ifCond .ne 10, 3) := by decide +kernel
theorem dX10_everyFor_18 : decode cX10_everyFor 18 = .ok (.aload_n 0, 1) := by decide +kernel
theorem dX10_everyFor_19 : decode cX10_everyFor 19 = .ok (.ldc 59, 2) := by decide +kernel
theorem dX10_everyFor_21 : decode cX10_everyFor 21 = .ok (.invokevirtual 60, 3) := by decide +kernel
theorem dX10_everyFor_24 : decode cX10_everyFor 24 = .ok (.ireturn, 1) := by decide +kernel
theorem dX10_everyFor_25 : decode cX10_everyFor 25 = .ok (.aload_n 0, 1) := by decide +kernel
theorem dX10_everyFor_26 : decode cX10_everyFor 26 = .ok (.aload_n 0, 1) := by decide +kernel
theorem dX10_everyFor_27 : decode cX10_everyFor 27 = .ok (.getfield 7, 3) := by decide +kernel
theorem dX10_everyFor_30 : decode cX10_everyFor 30 = .ok (.aload_n 0, 1) := by decide +kernel
theorem dX10_everyFor_31 : decode cX10_everyFor 31 = .ok (.getfield 16, 3) := by decide +kernel
theorem dX10_everyFor_34 : decode cX10_everyFor 34 = .ok (.invokevirtual 167, 3) := by decide +kernel
theorem dX10_everyFor_37 : decode cX10_everyFor 37 = .ok (.iconst 0, 1) := by decide +kernel
theorem dX10_everyFor_38 : decode cX10_everyFor 38 = .ok (.istore_n 3, 1) := by decide +kernel
theorem dX10_everyFor_39 : decode cX10_everyFor 39 = .ok (.bipush 100, 2) := by decide +kernel
theorem dX10_everyFor_41 : decode cX10_everyFor 41 = .ok (.istore 4, 2) := by decide +kernel
theorem dX10_everyFor_43 : decode cX10_everyFor 43 = .ok (.iconst 1, 1) := by decide +kernel
theorem dX10_everyFor_44 : decode cX10_everyFor 44 = .ok (.istore 5, 2) := by decide +kernel
theorem dX10_everyFor_46 : decode cX10_everyFor 46 = .ok (.iload 5, 2) := by decide +kernel
theorem dX10_everyFor_48 : decode cX10_everyFor 48 = .ok (.bipush 12, 2) := by decide +kernel
theorem dX10_everyFor_50 : decode cX10_everyFor 50 = .ok (.if_icmp .gt 55, 3) := by decide +kernel
theorem dX10_everyFor_53 : decode cX10_everyFor 53 = .ok (.aload_n 0, 1) := by decide +kernel
theorem dX10_everyFor_54 : decode cX10_everyFor 54 = .ok (.iload_n 1, 1) := by decide +kernel
theorem dX10_everyFor_55 : decode cX10_everyFor 55 = .ok (.iconst 3, 1) := by decide +kernel
theorem dX10_everyFor_56 : decode cX10_everyFor 56 = .ok (.iload 5, 2) := by decide +kernel
theorem dX10_everyFor_58 : decode cX10_everyFor 58 = .ok (.invokevirtual 76, 3) := by decide +kernel
theorem dX10_everyFor_61 : decode cX10_everyFor 61 = .ok (.aload_n 0, 1) := by decide +kernel
theorem dX10_everyFor_62 : decode cX10_everyFor 62 = .ok (.iload_n 2, 1) := by decide +kernel
theorem dX10_everyFor_63 : decode cX10_everyFor 63 = .ok (.iconst 4, 1) := by decide +kernel
theorem dX10_everyFor_64 : decode cX10_everyFor 64 = .ok (.invokevirtual 195, 3) := by decide +kernel
theorem dX10_everyFor_67 : decode cX10_everyFor 67 = .ok (.istore 6, 2) := by decide +kernel
theorem dX10_everyFor_69 : decode cX10_everyFor 69 = .ok (.iload 6, 2) := by decide +kernel
theorem dX10_everyFor_71 : decode cX10_everyFor 71 = .ok (.iload 4, 2) := by decide +kernel
theorem dX10_everyFor_73 : decode cX10_everyFor 73 = .ok (.if_icmp .ge 8, 3) := by decide +kernel
theorem dX10_everyFor_76 : decode cX10_everyFor 76 = .ok (.iload 5, 2) := by decide +kernel
theorem dX10_everyFor_78 : decode cX10_everyFor 78 = .ok (.goto 4, 3) := by decide +kernel
theorem dX10_everyFor_81 : decode cX10_everyFor 81 = .ok (.iload_n 3, 1) := by decide +kernel
theorem dX10_everyFor_82 : decode cX10_everyFor 82 = .ok (.istore_n 3, 1) := by decide +kernel
theorem dX10_everyFor_83 : decode cX10_everyFor 83 = .ok (.iload 6, 2) := by decide +kernel
theorem dX10_everyFor_85 : decode cX10_everyFor 85 = .ok (.iload 4, 2) := by decide +kernel
theorem dX10_everyFor_87 : decode cX10_everyFor 87 = .ok (.if_icmp .ge 8, 3) := by decide +kernel
theorem dX10_everyFor_90 : decode cX10_everyFor 90 = .ok (.iload 6, 2) := by decide +kernel
theorem dX10_everyFor_92 : decode cX10_everyFor 92 = .ok (.goto 5, 3) := by decide +kernel
theorem dX10_everyFor_95 : decode cX10_everyFor 95 = .ok (.iload 4, 2) := by decide +kernel
theorem dX10_everyFor_97 : decode cX10_everyFor 97 = .ok (.istore 4, 2) := by decide +kernel
theorem dX10_everyFor_99 : decode cX10_everyFor 99 = .ok (.iinc 5 1, 3) := by decide +kernel
theorem dX10_everyFor_102 : decode cX10_everyFor 102 = .ok (.goto (-56), 3) := by decide +kernel
theorem dX10_everyFor_105 : decode cX10_everyFor 105 = .ok (.iload_n 3, 1) := by decide +kernel
theorem dX10_everyFor_106 : decode cX10_everyFor 106 = .ok (.ireturn, 1) := by decide +kernel
theorem dX10_needless_0 : decode cX10_needless 0 = .ok (.iload_n 1, 1) := by decide +kernel
theorem dX10_needless_1 : decode cX10_needless 1 = .ok (.iconst 0, 1) := by decide +kernel
theorem dX10_needless_2 : decode cX10_needless 2 = .ok (.bipush 60, 2) := by decide +kernel
theorem dX10_needless_4 : decode cX10_needless 4 = .ok (.invokestatic 51, 3) := by decide +kernel
theorem dX10_needless_7 : decode cX10_needless 7 = .ok (.ifCond .ne 10, 3) := by decide +kernel
theorem dX10_needless_10 : decode cX10_needless 10 = .ok (.aload_n 0, 1) := by decide +kernel
theorem dX10_needless_11 : decode cX10_needless 11 = .ok (.ldc 59, 2) := by decide +kernel
theorem dX10_needless_13 : decode cX10_needless 13 = .ok (.invokevirtual 60, 3) := by decide +kernel
theorem dX10_needless_16 : decode cX10_needless 16 = .ok (.ireturn, 1) := by decide +kernel
theorem dX10_needless_17 : decode cX10_needless 17 = .ok (.aload_n 0, 1) := by decide +kernel
theorem dX10_needless_18 : decode cX10_needless 18 = .ok (.aload_n 0, 1) := by decide +kernel
theorem dX10_needless_19 : decode cX10_needless 19 = .ok (.getfield 7, 3) := by decide +kernel
theorem dX10_needless_22 : decode cX10_needless 22 = .ok (.aload_n 0, 1) := by decide +kernel
theorem dX10_needless_23 : decode cX10_needless 23 = .ok (.getfield 16, 3) := by decide +kernel
theorem dX10_needless_26 : decode cX10_needless 26 = .ok (.invokevirtual 167, 3) := by decide +kernel
theorem dX10_needless_29 : decode cX10_needless 29 = .ok (.aload_n 0, 1) := by decide +kernel
theorem dX10_needless_30 : decode cX10_needless 30 = .ok (.iload_n 1, 1) := by decide +kernel
theorem dX10_needless_31 : decode cX10_needless 31 = .ok (.iconst 4, 1) := by decide +kernel
theorem dX10_needless_32 : decode cX10_needless 32 = .ok (.invokevirtual 195, 3) := by decide +kernel
theorem dX10_needless_35 : decode cX10_needless 35 = .ok (.istore_n 2, 1) := by decide +kernel
theorem dX10_needless_36 : decode cX10_needless 36 = .ok (.iconst 0, 1) := by decide +kernel
theorem dX10_needless_37 : decode cX10_needless 37 = .ok (.istore_n 3, 1) := by decide +kernel
theorem dX10_needless_38 : decode cX10_needless 38 = .ok (.iconst 0, 1) := by decide +kernel
theorem dX10_needless_39 : decode cX10_needless 39 = .ok (.istore 4, 2) := by decide +kernel
theorem dX10_needless_41 : decode cX10_needless 41 = .ok (.iload 4, 2) := by decide +kernel
theorem dX10_needless_43 : decode cX10_needless 43 = .ok (.aload_n 0, 1) := by decide +kernel
theorem dX10_needless_44 : decode cX10_needless 44 = .ok (.getfield 7, 3) := by decide +kernel
theorem dX10_needless_47 : decode cX10_needless 47 = .ok (.iconst 2, 1) := by decide +kernel
theorem dX10_needless_48 : decode cX10_needless 48 = .ok (.iaload, 1) := by decide +kernel
theorem dX10_needless_49 : decode cX10_needless 49 = .ok (.if_icmp .ge 36, 3) := by decide +kernel
theorem dX10_needless_52 : decode cX10_needless 52 = .ok (.aload_n 0, 1) := by decide +kernel
theorem dX10_needless_53 : decode cX10_needless 53 = .ok (.iload 4, 2) := by decide +kernel
theorem dX10_needless_55 : decode cX10_needless 55 = .ok (.putfield 25, 3) := by decide +kernel
theorem dX10_needless_58 : decode cX10_needless 58 = .ok (.iload_n 3, 1) := by decide +kernel
theorem dX10_needless_59 : decode cX10_needless 59 = .ok (.aload_n 0, 1) := by decide +kernel
theorem dX10_needless_60 : decode cX10_needless 60 = .ok (.iload_n 1, 1) := by decide +kernel
theorem dX10_needless_61 : decode cX10_needless 61 = .ok (.iconst 4, 1) := by decide +kernel
theorem dX10_needless_62 : decode cX10_needless 62 = .ok (.invokevirtual 195, 3) := by decide +kernel
theorem dX10_needless_65 : decode cX10_needless 65 = .ok (.iload_n 2, 1) := by decide +kernel
theorem dX10_needless_66 : decode cX10_needless 66 = .ok (.if_icmp .gt 10, 3) := by decide +kernel
theorem dX10_needless_69 : decode cX10_needless 69 = .ok (.iconst 1, 1) := by decide +kernel
theorem dX10_needless_70 : decode cX10_needless 70 = .ok (.iload 4, 2) := by decide +kernel
theorem dX10_needless_72 : decode cX10_needless 72 = .ok (.ishl, 1) := by decide +kernel
theorem dX10_needless_73 : decode cX10_needless 73 = .ok (.goto 4, 3) := by decide +kernel
theorem dX10_needless_76 : decode cX10_needless 76 = .ok (.iconst 0, 1) := by decide +kernel
theorem dX10_needless_77 : decode cX10_needless 77 = .ok (.ior, 1) := by decide +kernel
theorem dX10_needless_78 : decode cX10_needless 78 = .ok (.istore_n 3, 1) := by decide +kernel
theorem dX10_needless_79 : decode cX10_needless 79 = .ok (.iinc 4 1, 3) := by decide +kernel
theorem dX10_needless_82 : decode cX10_needless 82 = .ok (.goto (-41), 3) := by decide +kernel
theorem dX10_needless_85 : decode cX10_needless 85 = .ok (.aload_n 0, 1) := by decide +kernel
theorem dX10_needless_86 : decode cX10_needless 86 = .ok (.iconst (-1), 1) := by decide +kernel
theorem dX10_needless_87 : decode cX10_needless 87 = .ok (.putfield 25, 3) := by decide +kernel
theorem dX10_needless_90 : decode cX10_needless 90 = .ok (.iload_n 3, 1) := by decide +kernel
theorem dX10_needless_91 : decode cX10_needless 91 = .ok (.ireturn, 1) := by decide +kernel
theorem dX10_isSheet_0 : decode cX10_isSheet 0 = .ok (.iload_n 0, 1) := by decide +kernel
theorem dX10_isSheet_1 : decode cX10_isSheet 1 = .ok (.iconst 0, 1) := by decide +kernel
theorem dX10_isSheet_2 : decode cX10_isSheet 2 = .ok (.iconst 3, 1) := by decide +kernel
theorem dX10_isSheet_3 : decode cX10_isSheet 3 = .ok (.invokestatic 51, 3) := by decide +kernel
theorem dX10_isSheet_6 : decode cX10_isSheet 6 = .ok (.ireturn, 1) := by decide +kernel
theorem dX10_leansSo_0 : decode cX10_leansSo 0 = .ok (.iconst 1, 1) := by decide +kernel
theorem dX10_leansSo_1 : decode cX10_leansSo 1 = .ok (.istore_n 2, 1) := by decide +kernel
theorem dX10_leansSo_2 : decode cX10_leansSo 2 = .ok (.iconst 0, 1) := by decide +kernel
theorem dX10_leansSo_3 : decode cX10_leansSo 3 = .ok (.istore_n 3, 1) := by decide +kernel
theorem dX10_leansSo_4 : decode cX10_leansSo 4 = .ok (.iload_n 3, 1) := by decide +kernel
theorem dX10_leansSo_5 : decode cX10_leansSo 5 = .ok (.aload_n 0, 1) := by decide +kernel
theorem dX10_leansSo_6 : decode cX10_leansSo 6 = .ok (.getfield 32, 3) := by decide +kernel
theorem dX10_leansSo_9 : decode cX10_leansSo 9 = .ok (.iload_n 1, 1) := by decide +kernel
theorem dX10_leansSo_10 : decode cX10_leansSo 10 = .ok (.iaload, 1) := by decide +kernel
theorem dX10_leansSo_11 : decode cX10_leansSo 11 = .ok (.if_icmp .ge 43, 3) := by decide +kernel
theorem dX10_leansSo_14 : decode cX10_leansSo 14 = .ok (.iload_n 2, 1) := by decide +kernel
theorem dX10_leansSo_15 : decode cX10_leansSo 15 = .ok (.ifCond .eq 39, 3) := by decide +kernel
theorem dX10_leansSo_18 : decode cX10_leansSo 18 = .ok (.aload_n 0, 1) := by decide +kernel
theorem dX10_leansSo_19 : decode cX10_leansSo 19 = .ok (.invokevirtual 183, 3) := by decide +kernel
theorem dX10_leansSo_22 : decode cX10_leansSo 22 = .ok (.aload_n 0, 1) := by decide +kernel
theorem dX10_leansSo_23 : decode cX10_leansSo 23 = .ok (.getfield 35, 3) := by decide +kernel
theorem dX10_leansSo_26 : decode cX10_leansSo 26 = .ok (.bipush 40, 2) := by decide +kernel
theorem dX10_leansSo_28 : decode cX10_leansSo 28 = .ok (.iload_n 1, 1) := by decide +kernel
theorem dX10_leansSo_29 : decode cX10_leansSo 29 = .ok (.imul, 1) := by decide +kernel
theorem dX10_leansSo_30 : decode cX10_leansSo 30 = .ok (.iload_n 3, 1) := by decide +kernel
theorem dX10_leansSo_31 : decode cX10_leansSo 31 = .ok (.iadd, 1) := by decide +kernel
theorem dX10_leansSo_32 : decode cX10_leansSo 32 = .ok (.iaload, 1) := by decide +kernel
theorem dX10_leansSo_33 : decode cX10_leansSo 33 = .ok (.aload_n 0, 1) := by decide +kernel
theorem dX10_leansSo_34 : decode cX10_leansSo 34 = .ok (.getfield 7, 3) := by decide +kernel
theorem dX10_leansSo_37 : decode cX10_leansSo 37 = .ok (.iconst 4, 1) := by decide +kernel
theorem dX10_leansSo_38 : decode cX10_leansSo 38 = .ok (.iaload, 1) := by decide +kernel
theorem dX10_leansSo_39 : decode cX10_leansSo 39 = .ok (.if_icmp .ne 7, 3) := by decide +kernel
theorem dX10_leansSo_42 : decode cX10_leansSo 42 = .ok (.iconst 1, 1) := by decide +kernel
theorem dX10_leansSo_43 : decode cX10_leansSo 43 = .ok (.goto 4, 3) := by decide +kernel
theorem dX10_leansSo_46 : decode cX10_leansSo 46 = .ok (.iconst 0, 1) := by decide +kernel
theorem dX10_leansSo_47 : decode cX10_leansSo 47 = .ok (.istore_n 2, 1) := by decide +kernel
theorem dX10_leansSo_48 : decode cX10_leansSo 48 = .ok (.iinc 3 1, 3) := by decide +kernel
theorem dX10_leansSo_51 : decode cX10_leansSo 51 = .ok (.goto (-47), 3) := by decide +kernel
theorem dX10_leansSo_54 : decode cX10_leansSo 54 = .ok (.aload_n 0, 1) := by decide +kernel
theorem dX10_leansSo_55 : decode cX10_leansSo 55 = .ok (.aload_n 0, 1) := by decide +kernel
theorem dX10_leansSo_56 : decode cX10_leansSo 56 = .ok (.getfield 16, 3) := by decide +kernel
theorem dX10_leansSo_59 : decode cX10_leansSo 59 = .ok (.aload_n 0, 1) := by decide +kernel
theorem dX10_leansSo_60 : decode cX10_leansSo 60 = .ok (.getfield 7, 3) := by decide +kernel
theorem dX10_leansSo_63 : decode cX10_leansSo 63 = .ok (.invokevirtual 167, 3) := by decide +kernel
theorem dX10_leansSo_66 : decode cX10_leansSo 66 = .ok (.iload_n 2, 1) := by decide +kernel
theorem dX10_leansSo_67 : decode cX10_leansSo 67 = .ok (.ireturn, 1) := by decide +kernel
theorem dX10_wanted_0 : decode cX10_wanted 0 = .ok (.iload_n 1, 1) := by decide +kernel
theorem dX10_wanted_1 : decode cX10_wanted 1 = .ok (.invokestatic 199, 3) := by decide +kernel
theorem dX10_wanted_4 : decode cX10_wanted 4 = .ok (.ifCond .eq 12, 3) := by decide +kernel
theorem dX10_wanted_7 : decode cX10_wanted 7 = .ok (.iload_n 2, 1) := by decide +kernel
theorem dX10_wanted_8 : decode cX10_wanted 8 = .ok (.iconst 0, 1) := by decide +kernel
theorem dX10_wanted_9 : decode cX10_wanted 9 = .ok (.iconst 1, 1) := by decide +kernel
theorem dX10_wanted_10 : decode cX10_wanted 10 = .ok (.invokestatic 51, 3) := by decide +kernel
theorem dX10_wanted_13 : decode cX10_wanted 13 = .ok (.ifCond .ne 10, 3) := by decide +kernel
theorem dX10_wanted_16 : decode cX10_wanted 16 = .ok (.aload_n 0, 1) := by decide +kernel
theorem dX10_wanted_17 : decode cX10_wanted 17 = .ok (.ldc 59, 2) := by decide +kernel
theorem dX10_wanted_19 : decode cX10_wanted 19 = .ok (.invokevirtual 60, 3) := by decide +kernel
theorem dX10_wanted_22 : decode cX10_wanted 22 = .ok (.ireturn, 1) := by decide +kernel
theorem dX10_wanted_23 : decode cX10_wanted 23 = .ok (.aload_n 0, 1) := by decide +kernel
theorem dX10_wanted_24 : decode cX10_wanted 24 = .ok (.getfield 29, 3) := by decide +kernel
theorem dX10_wanted_27 : decode cX10_wanted 27 = .ok (.iload_n 1, 1) := by decide +kernel
theorem dX10_wanted_28 : decode cX10_wanted 28 = .ok (.iaload, 1) := by decide +kernel
theorem dX10_wanted_29 : decode cX10_wanted 29 = .ok (.ifCond .ne 10, 3) := by decide +kernel
theorem dX10_wanted_32 : decode cX10_wanted 32 = .ok (.aload_n 0, 1) := by decide +kernel
theorem dX10_wanted_33 : decode cX10_wanted 33 = .ok (.ldc 198, 2) := by decide +kernel
theorem dX10_wanted_35 : decode cX10_wanted 35 = .ok (.invokevirtual 60, 3) := by decide +kernel
theorem dX10_wanted_38 : decode cX10_wanted 38 = .ok (.ireturn, 1) := by decide +kernel
theorem dX10_wanted_39 : decode cX10_wanted 39 = .ok (.aload_n 0, 1) := by decide +kernel
theorem dX10_wanted_40 : decode cX10_wanted 40 = .ok (.aload_n 0, 1) := by decide +kernel
theorem dX10_wanted_41 : decode cX10_wanted 41 = .ok (.getfield 7, 3) := by decide +kernel
theorem dX10_wanted_44 : decode cX10_wanted 44 = .ok (.aload_n 0, 1) := by decide +kernel
theorem dX10_wanted_45 : decode cX10_wanted 45 = .ok (.getfield 16, 3) := by decide +kernel
theorem dX10_wanted_48 : decode cX10_wanted 48 = .ok (.invokevirtual 167, 3) := by decide +kernel
theorem dX10_wanted_51 : decode cX10_wanted 51 = .ok (.iconst 0, 1) := by decide +kernel
theorem dX10_wanted_52 : decode cX10_wanted 52 = .ok (.istore_n 3, 1) := by decide +kernel
theorem dX10_wanted_53 : decode cX10_wanted 53 = .ok (.ldc 198, 2) := by decide +kernel
theorem dX10_wanted_55 : decode cX10_wanted 55 = .ok (.istore 4, 2) := by decide +kernel
theorem dX10_wanted_57 : decode cX10_wanted 57 = .ok (.bipush 99, 2) := by decide +kernel
theorem dX10_wanted_59 : decode cX10_wanted 59 = .ok (.istore 5, 2) := by decide +kernel
theorem dX10_wanted_61 : decode cX10_wanted 61 = .ok (.iload 5, 2) := by decide +kernel
theorem dX10_wanted_63 : decode cX10_wanted 63 = .ok (.ifCond .lt 51, 3) := by decide +kernel
theorem dX10_wanted_66 : decode cX10_wanted 66 = .ok (.aload_n 0, 1) := by decide +kernel
theorem dX10_wanted_67 : decode cX10_wanted 67 = .ok (.getfield 7, 3) := by decide +kernel
theorem dX10_wanted_70 : decode cX10_wanted 70 = .ok (.iconst 3, 1) := by decide +kernel
theorem dX10_wanted_71 : decode cX10_wanted 71 = .ok (.iload 5, 2) := by decide +kernel
theorem dX10_wanted_73 : decode cX10_wanted 73 = .ok (.iastore, 1) := by decide +kernel
theorem dX10_wanted_74 : decode cX10_wanted 74 = .ok (.aload_n 0, 1) := by decide +kernel
theorem dX10_wanted_75 : decode cX10_wanted 75 = .ok (.iload_n 1, 1) := by decide +kernel
theorem dX10_wanted_76 : decode cX10_wanted 76 = .ok (.invokevirtual 202, 3) := by decide +kernel
theorem dX10_wanted_79 : decode cX10_wanted 79 = .ok (.istore 6, 2) := by decide +kernel
theorem dX10_wanted_81 : decode cX10_wanted 81 = .ok (.iload_n 3, 1) := by decide +kernel
theorem dX10_wanted_82 : decode cX10_wanted 82 = .ok (.iload 6, 2) := by decide +kernel
theorem dX10_wanted_84 : decode cX10_wanted 84 = .ok (.ifCond .eq 7, 3) := by decide +kernel
theorem dX10_wanted_87 : decode cX10_wanted 87 = .ok (.iconst 1, 1) := by decide +kernel
theorem dX10_wanted_88 : decode cX10_wanted 88 = .ok (.goto 4, 3) := by decide +kernel
theorem dX10_wanted_91 : decode cX10_wanted 91 = .ok (.iconst 0, 1) := by decide +kernel
theorem dX10_wanted_92 : decode cX10_wanted 92 = .ok (.iadd, 1) := by decide +kernel
theorem dX10_wanted_93 : decode cX10_wanted 93 = .ok (.istore_n 3, 1) := by decide +kernel
theorem dX10_wanted_94 : decode cX10_wanted 94 = .ok (.iload 6, 2) := by decide +kernel
theorem dX10_wanted_96 : decode cX10_wanted 96 = .ok (.ifCond .eq 8, 3) := by decide +kernel
theorem dX10_wanted_99 : decode cX10_wanted 99 = .ok (.iload 5, 2) := by decide +kernel
theorem dX10_wanted_101 : decode cX10_wanted 101 = .ok (.goto 5, 3) := by decide +kernel
theorem dX10_wanted_104 : decode cX10_wanted 104 = .ok (.iload 4, 2) := by decide +kernel
theorem dX10_wanted_106 : decode cX10_wanted 106 = .ok (.istore 4, 2) := by decide +kernel
theorem dX10_wanted_108 : decode cX10_wanted 108 = .ok (.iinc 5 (-1), 3) := by decide +kernel
theorem dX10_wanted_111 : decode cX10_wanted 111 = .ok (.goto (-50), 3) := by decide +kernel
theorem dX10_wanted_114 : decode cX10_wanted 114 = .ok (.iload_n 2, 1) := by decide +kernel
theorem dX10_wanted_115 : decode cX10_wanted 115 = .ok (.ifCond .ne 7, 3) := by decide +kernel
theorem dX10_wanted_118 : decode cX10_wanted 118 = .ok (.iload_n 3, 1) := by decide +kernel
theorem dX10_wanted_119 : decode cX10_wanted 119 = .ok (.goto 19, 3) := by decide +kernel
theorem dX10_wanted_122 : decode cX10_wanted 122 = .ok (.iload 4, 2) := by decide +kernel
theorem dX10_wanted_124 : decode cX10_wanted 124 = .ok (.ifCond .ge 12, 3) := by decide +kernel
theorem dX10_wanted_127 : decode cX10_wanted 127 = .ok (.aload_n 0, 1) := by decide +kernel
theorem dX10_wanted_128 : decode cX10_wanted 128 = .ok (.ldc 198, 2) := by decide +kernel
theorem dX10_wanted_130 : decode cX10_wanted 130 = .ok (.invokevirtual 60, 3) := by decide +kernel
theorem dX10_wanted_133 : decode cX10_wanted 133 = .ok (.goto 5, 3) := by decide +kernel
theorem dX10_wanted_136 : decode cX10_wanted 136 = .ok (.iload 4, 2) := by decide +kernel
theorem dX10_wanted_138 : decode cX10_wanted 138 = .ok (.ireturn, 1) := by decide +kernel
theorem dX10_which_0 : decode cX10_which 0 = .ok (.iload_n 1, 1) := by decide +kernel
theorem dX10_which_1 : decode cX10_which 1 = .ok (.invokestatic 199, 3) := by decide +kernel
theorem dX10_which_4 : decode cX10_which 4 = .ok (.ifCond .eq 11, 3) := by decide +kernel
theorem dX10_which_7 : decode cX10_which 7 = .ok (.aload_n 0, 1) := by decide +kernel
theorem dX10_which_8 : decode cX10_which 8 = .ok (.iload_n 2, 1) := by decide +kernel
theorem dX10_which_9 : decode cX10_which 9 = .ok (.invokevirtual 80, 3) := by decide +kernel
theorem dX10_which_12 : decode cX10_which 12 = .ok (.ifCond .ne 10, 3) := by decide +kernel
theorem dX10_which_15 : decode cX10_which 15 = .ok (.aload_n 0, 1) := by decide +kernel
theorem dX10_which_16 : decode cX10_which 16 = .ok (.ldc 59, 2) := by decide +kernel
theorem dX10_which_18 : decode cX10_which 18 = .ok (.invokevirtual 60, 3) := by decide +kernel
theorem dX10_which_21 : decode cX10_which 21 = .ok (.ireturn, 1) := by decide +kernel
theorem dX10_which_22 : decode cX10_which 22 = .ok (.aload_n 0, 1) := by decide +kernel
theorem dX10_which_23 : decode cX10_which 23 = .ok (.getfield 29, 3) := by decide +kernel
theorem dX10_which_26 : decode cX10_which 26 = .ok (.iload_n 1, 1) := by decide +kernel
theorem dX10_which_27 : decode cX10_which 27 = .ok (.iaload, 1) := by decide +kernel
theorem dX10_which_28 : decode cX10_which 28 = .ok (.ifCond .ne 10, 3) := by decide +kernel
theorem dX10_which_31 : decode cX10_which 31 = .ok (.aload_n 0, 1) := by decide +kernel
theorem dX10_which_32 : decode cX10_which 32 = .ok (.ldc 198, 2) := by decide +kernel
theorem dX10_which_34 : decode cX10_which 34 = .ok (.invokevirtual 60, 3) := by decide +kernel
theorem dX10_which_37 : decode cX10_which 37 = .ok (.ireturn, 1) := by decide +kernel
theorem dX10_which_38 : decode cX10_which 38 = .ok (.aload_n 0, 1) := by decide +kernel
theorem dX10_which_39 : decode cX10_which 39 = .ok (.aload_n 0, 1) := by decide +kernel
theorem dX10_which_40 : decode cX10_which 40 = .ok (.getfield 7, 3) := by decide +kernel
theorem dX10_which_43 : decode cX10_which 43 = .ok (.aload_n 0, 1) := by decide +kernel
theorem dX10_which_44 : decode cX10_which 44 = .ok (.getfield 16, 3) := by decide +kernel
theorem dX10_which_47 : decode cX10_which 47 = .ok (.invokevirtual 167, 3) := by decide +kernel
theorem dX10_which_50 : decode cX10_which 50 = .ok (.iconst 0, 1) := by decide +kernel
theorem dX10_which_51 : decode cX10_which 51 = .ok (.istore_n 3, 1) := by decide +kernel
theorem dX10_which_52 : decode cX10_which 52 = .ok (.iconst 0, 1) := by decide +kernel
theorem dX10_which_53 : decode cX10_which 53 = .ok (.istore 4, 2) := by decide +kernel
theorem dX10_which_55 : decode cX10_which 55 = .ok (.iload 4, 2) := by decide +kernel
theorem dX10_which_57 : decode cX10_which 57 = .ok (.bipush 6, 2) := by decide +kernel
theorem dX10_which_59 : decode cX10_which 59 = .ok (.if_icmp .gt 36, 3) := by decide +kernel
theorem dX10_which_62 : decode cX10_which 62 = .ok (.aload_n 0, 1) := by decide +kernel
theorem dX10_which_63 : decode cX10_which 63 = .ok (.iload_n 2, 1) := by decide +kernel
theorem dX10_which_64 : decode cX10_which 64 = .ok (.iconst 0, 1) := by decide +kernel
theorem dX10_which_65 : decode cX10_which 65 = .ok (.iload 4, 2) := by decide +kernel
theorem dX10_which_67 : decode cX10_which 67 = .ok (.invokevirtual 76, 3) := by decide +kernel
theorem dX10_which_70 : decode cX10_which 70 = .ok (.iload_n 3, 1) := by decide +kernel
theorem dX10_which_71 : decode cX10_which 71 = .ok (.aload_n 0, 1) := by decide +kernel
theorem dX10_which_72 : decode cX10_which 72 = .ok (.iload_n 1, 1) := by decide +kernel
theorem dX10_which_73 : decode cX10_which 73 = .ok (.invokevirtual 202, 3) := by decide +kernel
theorem dX10_which_76 : decode cX10_which 76 = .ok (.ifCond .eq 10, 3) := by decide +kernel
theorem dX10_which_79 : decode cX10_which 79 = .ok (.iconst 1, 1) := by decide +kernel
theorem dX10_which_80 : decode cX10_which 80 = .ok (.iload 4, 2) := by decide +kernel
theorem dX10_which_82 : decode cX10_which 82 = .ok (.ishl, 1) := by decide +kernel
theorem dX10_which_83 : decode cX10_which 83 = .ok (.goto 4, 3) := by decide +kernel
theorem dX10_which_86 : decode cX10_which 86 = .ok (.iconst 0, 1) := by decide +kernel
theorem dX10_which_87 : decode cX10_which 87 = .ok (.ior, 1) := by decide +kernel
theorem dX10_which_88 : decode cX10_which 88 = .ok (.istore_n 3, 1) := by decide +kernel
theorem dX10_which_89 : decode cX10_which 89 = .ok (.iinc 4 1, 3) := by decide +kernel
theorem dX10_which_92 : decode cX10_which 92 = .ok (.goto (-37), 3) := by decide +kernel
theorem dX10_which_95 : decode cX10_which 95 = .ok (.iload_n 3, 1) := by decide +kernel
theorem dX10_which_96 : decode cX10_which 96 = .ok (.ireturn, 1) := by decide +kernel
theorem dX10_goodSet_0 : decode cX10_goodSet 0 = .ok (.iconst 0, 1) := by decide +kernel
theorem dX10_goodSet_1 : decode cX10_goodSet 1 = .ok (.istore_n 1, 1) := by decide +kernel
theorem dX10_goodSet_2 : decode cX10_goodSet 2 = .ok (.iconst 0, 1) := by decide +kernel
theorem dX10_goodSet_3 : decode cX10_goodSet 3 = .ok (.istore_n 2, 1) := by decide +kernel
theorem dX10_goodSet_4 : decode cX10_goodSet 4 = .ok (.iload_n 2, 1) := by decide +kernel
theorem dX10_goodSet_5 : decode cX10_goodSet 5 = .ok (.bipush 10, 2) := by decide +kernel
theorem dX10_goodSet_7 : decode cX10_goodSet 7 = .ok (.if_icmp .ge 27, 3) := by decide +kernel
theorem dX10_goodSet_10 : decode cX10_goodSet 10 = .ok (.iload_n 1, 1) := by decide +kernel
theorem dX10_goodSet_11 : decode cX10_goodSet 11 = .ok (.aload_n 0, 1) := by decide +kernel
theorem dX10_goodSet_12 : decode cX10_goodSet 12 = .ok (.iload_n 2, 1) := by decide +kernel
theorem dX10_goodSet_13 : decode cX10_goodSet 13 = .ok (.invokevirtual 71, 3) := by decide +kernel
theorem dX10_goodSet_16 : decode cX10_goodSet 16 = .ok (.ifCond .eq 9, 3) := by decide +kernel
theorem dX10_goodSet_19 : decode cX10_goodSet 19 = .ok (.iconst 1, 1) := by decide +kernel
theorem dX10_goodSet_20 : decode cX10_goodSet 20 = .ok (.iload_n 2, 1) := by decide +kernel
theorem dX10_goodSet_21 : decode cX10_goodSet 21 = .ok (.ishl, 1) := by decide +kernel
theorem dX10_goodSet_22 : decode cX10_goodSet 22 = .ok (.goto 4, 3) := by decide +kernel
theorem dX10_goodSet_25 : decode cX10_goodSet 25 = .ok (.iconst 0, 1) := by decide +kernel
theorem dX10_goodSet_26 : decode cX10_goodSet 26 = .ok (.ior, 1) := by decide +kernel
theorem dX10_goodSet_27 : decode cX10_goodSet 27 = .ok (.istore_n 1, 1) := by decide +kernel
theorem dX10_goodSet_28 : decode cX10_goodSet 28 = .ok (.iinc 2 1, 3) := by decide +kernel
theorem dX10_goodSet_31 : decode cX10_goodSet 31 = .ok (.goto (-27), 3) := by decide +kernel
theorem dX10_goodSet_34 : decode cX10_goodSet 34 = .ok (.iload_n 1, 1) := by decide +kernel
theorem dX10_goodSet_35 : decode cX10_goodSet 35 = .ok (.ireturn, 1) := by decide +kernel
theorem dX10_tallOf_0 : decode cX10_tallOf 0 = .ok (.iconst 0, 1) := by decide +kernel
theorem dX10_tallOf_1 : decode cX10_tallOf 1 = .ok (.istore_n 2, 1) := by decide +kernel
theorem dX10_tallOf_2 : decode cX10_tallOf 2 = .ok (.iconst 0, 1) := by decide +kernel
theorem dX10_tallOf_3 : decode cX10_tallOf 3 = .ok (.istore_n 3, 1) := by decide +kernel
theorem dX10_tallOf_4 : decode cX10_tallOf 4 = .ok (.iload_n 3, 1) := by decide +kernel
theorem dX10_tallOf_5 : decode cX10_tallOf 5 = .ok (.bipush 10, 2) := by decide +kernel
theorem dX10_tallOf_7 : decode cX10_tallOf 7 = .ok (.if_icmp .ge 36, 3) := by decide +kernel
theorem dX10_tallOf_10 : decode cX10_tallOf 10 = .ok (.iload_n 2, 1) := by decide +kernel
theorem dX10_tallOf_11 : decode cX10_tallOf 11 = .ok (.iload_n 1, 1) := by decide +kernel
theorem dX10_tallOf_12 : decode cX10_tallOf 12 = .ok (.iload_n 3, 1) := by decide +kernel
theorem dX10_tallOf_13 : decode cX10_tallOf 13 = .ok (.ishr, 1) := by decide +kernel
theorem dX10_tallOf_14 : decode cX10_tallOf 14 = .ok (.iconst 1, 1) := by decide +kernel
theorem dX10_tallOf_15 : decode cX10_tallOf 15 = .ok (.iand, 1) := by decide +kernel
theorem dX10_tallOf_16 : decode cX10_tallOf 16 = .ok (.iconst 1, 1) := by decide +kernel
theorem dX10_tallOf_17 : decode cX10_tallOf 17 = .ok (.if_icmp .ne 17, 3) := by decide +kernel
theorem dX10_tallOf_20 : decode cX10_tallOf 20 = .ok (.aload_n 0, 1) := by decide +kernel
theorem dX10_tallOf_21 : decode cX10_tallOf 21 = .ok (.getfield 7, 3) := by decide +kernel
theorem dX10_tallOf_24 : decode cX10_tallOf 24 = .ok (.bipush 24, 2) := by decide +kernel
theorem dX10_tallOf_26 : decode cX10_tallOf 26 = .ok (.iconst 2, 1) := by decide +kernel
theorem dX10_tallOf_27 : decode cX10_tallOf 27 = .ok (.iload_n 3, 1) := by decide +kernel
theorem dX10_tallOf_28 : decode cX10_tallOf 28 = .ok (.imul, 1) := by decide +kernel
theorem dX10_tallOf_29 : decode cX10_tallOf 29 = .ok (.iadd, 1) := by decide +kernel
theorem dX10_tallOf_30 : decode cX10_tallOf 30 = .ok (.iaload, 1) := by decide +kernel
theorem dX10_tallOf_31 : decode cX10_tallOf 31 = .ok (.goto 4, 3) := by decide +kernel
theorem dX10_tallOf_34 : decode cX10_tallOf 34 = .ok (.iconst 0, 1) := by decide +kernel
theorem dX10_tallOf_35 : decode cX10_tallOf 35 = .ok (.iadd, 1) := by decide +kernel
theorem dX10_tallOf_36 : decode cX10_tallOf 36 = .ok (.istore_n 2, 1) := by decide +kernel
theorem dX10_tallOf_37 : decode cX10_tallOf 37 = .ok (.iinc 3 1, 3) := by decide +kernel
theorem dX10_tallOf_40 : decode cX10_tallOf 40 = .ok (.goto (-36), 3) := by decide +kernel
theorem dX10_tallOf_43 : decode cX10_tallOf 43 = .ok (.iload_n 2, 1) := by decide +kernel
theorem dX10_tallOf_44 : decode cX10_tallOf 44 = .ok (.ireturn, 1) := by decide +kernel
theorem dX10_stair_0 : decode cX10_stair 0 = .ok (.iload_n 1, 1) := by decide +kernel
theorem dX10_stair_1 : decode cX10_stair 1 = .ok (.iconst 0, 1) := by decide +kernel
theorem dX10_stair_2 : decode cX10_stair 2 = .ok (.iconst 1, 1) := by decide +kernel
theorem dX10_stair_3 : decode cX10_stair 3 = .ok (.invokestatic 51, 3) := by decide +kernel
theorem dX10_stair_6 : decode cX10_stair 6 = .ok (.ifCond .ne 10, 3) := by decide +kernel
theorem dX10_stair_9 : decode cX10_stair 9 = .ok (.aload_n 0, 1) := by decide +kernel
theorem dX10_stair_10 : decode cX10_stair 10 = .ok (.ldc 59, 2) := by decide +kernel
theorem dX10_stair_12 : decode cX10_stair 12 = .ok (.invokevirtual 60, 3) := by decide +kernel
theorem dX10_stair_15 : decode cX10_stair 15 = .ok (.ireturn, 1) := by decide +kernel
theorem dX10_stair_16 : decode cX10_stair 16 = .ok (.aload_n 0, 1) := by decide +kernel
theorem dX10_stair_17 : decode cX10_stair 17 = .ok (.invokevirtual 205, 3) := by decide +kernel
theorem dX10_stair_20 : decode cX10_stair 20 = .ok (.istore_n 2, 1) := by decide +kernel
theorem dX10_stair_21 : decode cX10_stair 21 = .ok (.iconst (-1), 1) := by decide +kernel
theorem dX10_stair_22 : decode cX10_stair 22 = .ok (.istore_n 3, 1) := by decide +kernel
theorem dX10_stair_23 : decode cX10_stair 23 = .ok (.iconst 0, 1) := by decide +kernel
theorem dX10_stair_24 : decode cX10_stair 24 = .ok (.istore 4, 2) := by decide +kernel
theorem dX10_stair_26 : decode cX10_stair 26 = .ok (.iload 4, 2) := by decide +kernel
theorem dX10_stair_28 : decode cX10_stair 28 = .ok (.iload_n 2, 1) := by decide +kernel
theorem dX10_stair_29 : decode cX10_stair 29 = .ok (.if_icmp .gt 53, 3) := by decide +kernel
theorem dX10_stair_32 : decode cX10_stair 32 = .ok (.iload 4, 2) := by decide +kernel
theorem dX10_stair_34 : decode cX10_stair 34 = .ok (.iload_n 2, 1) := by decide +kernel
theorem dX10_stair_35 : decode cX10_stair 35 = .ok (.iconst (-1), 1) := by decide +kernel
theorem dX10_stair_36 : decode cX10_stair 36 = .ok (.ixor, 1) := by decide +kernel
theorem dX10_stair_37 : decode cX10_stair 37 = .ok (.iand, 1) := by decide +kernel
theorem dX10_stair_38 : decode cX10_stair 38 = .ok (.ifCond .ne 38, 3) := by decide +kernel
theorem dX10_stair_41 : decode cX10_stair 41 = .ok (.iload_n 3, 1) := by decide +kernel
theorem dX10_stair_42 : decode cX10_stair 42 = .ok (.ifCond .lt 15, 3) := by decide +kernel
theorem dX10_stair_45 : decode cX10_stair 45 = .ok (.iload 4, 2) := by decide +kernel
theorem dX10_stair_47 : decode cX10_stair 47 = .ok (.invokestatic 208, 3) := by decide +kernel
theorem dX10_stair_50 : decode cX10_stair 50 = .ok (.iload_n 3, 1) := by decide +kernel
theorem dX10_stair_51 : decode cX10_stair 51 = .ok (.invokestatic 208, 3) := by decide +kernel
theorem dX10_stair_54 : decode cX10_stair 54 = .ok (.if_icmp .ge 22, 3) := by decide +kernel
theorem dX10_stair_57 : decode cX10_stair 57 = .ok (.aload_n 0, 1) := by decide +kernel
theorem dX10_stair_58 : decode cX10_stair 58 = .ok (.iload 4, 2) := by decide +kernel
theorem dX10_stair_60 : decode cX10_stair 60 = .ok (.invokevirtual 211, 3) := by decide +kernel
theorem dX10_stair_63 : decode cX10_stair 63 = .ok (.aload_n 0, 1) := by decide +kernel
theorem dX10_stair_64 : decode cX10_stair 64 = .ok (.getfield 7, 3) := by decide +kernel
theorem dX10_stair_67 : decode cX10_stair 67 = .ok (.bipush 6, 2) := by decide +kernel
theorem dX10_stair_69 : decode cX10_stair 69 = .ok (.iaload, 1) := by decide +kernel
theorem dX10_stair_70 : decode cX10_stair 70 = .ok (.if_icmp .lt 6, 3) := by decide +kernel
theorem dX10_stair_73 : decode cX10_stair 73 = .ok (.iload 4, 2) := by decide +kernel
theorem dX10_stair_75 : decode cX10_stair 75 = .ok (.istore_n 3, 1) := by decide +kernel
theorem dX10_stair_76 : decode cX10_stair 76 = .ok (.iinc 4 1, 3) := by decide +kernel
theorem dX10_stair_79 : decode cX10_stair 79 = .ok (.goto (-53), 3) := by decide +kernel
theorem dX10_stair_82 : decode cX10_stair 82 = .ok (.iload_n 3, 1) := by decide +kernel
theorem dX10_stair_83 : decode cX10_stair 83 = .ok (.ifCond .ge 12, 3) := by decide +kernel
theorem dX10_stair_86 : decode cX10_stair 86 = .ok (.aload_n 0, 1) := by decide +kernel
theorem dX10_stair_87 : decode cX10_stair 87 = .ok (.ldc 198, 2) := by decide +kernel
theorem dX10_stair_89 : decode cX10_stair 89 = .ok (.invokevirtual 60, 3) := by decide +kernel
theorem dX10_stair_92 : decode cX10_stair 92 = .ok (.goto 15, 3) := by decide +kernel
theorem dX10_stair_95 : decode cX10_stair 95 = .ok (.iload_n 1, 1) := by decide +kernel
theorem dX10_stair_96 : decode cX10_stair 96 = .ok (.ifCond .ne 7, 3) := by decide +kernel
theorem dX10_stair_99 : decode cX10_stair 99 = .ok (.iload_n 3, 1) := by decide +kernel
theorem dX10_stair_100 : decode cX10_stair 100 = .ok (.goto 7, 3) := by decide +kernel
theorem dX10_stair_103 : decode cX10_stair 103 = .ok (.iload_n 3, 1) := by decide +kernel
theorem dX10_stair_104 : decode cX10_stair 104 = .ok (.invokestatic 208, 3) := by decide +kernel
theorem dX10_stair_107 : decode cX10_stair 107 = .ok (.ireturn, 1) := by decide +kernel
theorem dX10_exact_0 : decode cX10_exact 0 = .ok (.aload_n 0, 1) := by decide +kernel
theorem dX10_exact_1 : decode cX10_exact 1 = .ok (.invokevirtual 205, 3) := by decide +kernel
theorem dX10_exact_4 : decode cX10_exact 4 = .ok (.istore_n 1, 1) := by decide +kernel
theorem dX10_exact_5 : decode cX10_exact 5 = .ok (.iconst 0, 1) := by decide +kernel
theorem dX10_exact_6 : decode cX10_exact 6 = .ok (.istore_n 2, 1) := by decide +kernel
theorem dX10_exact_7 : decode cX10_exact 7 = .ok (.iconst 0, 1) := by decide +kernel
theorem dX10_exact_8 : decode cX10_exact 8 = .ok (.istore_n 3, 1) := by decide +kernel
theorem dX10_exact_9 : decode cX10_exact 9 = .ok (.iload_n 3, 1) := by decide +kernel
theorem dX10_exact_10 : decode cX10_exact 10 = .ok (.iload_n 1, 1) := by decide +kernel
theorem dX10_exact_11 : decode cX10_exact 11 = .ok (.if_icmp .gt 40, 3) := by decide +kernel
theorem dX10_exact_14 : decode cX10_exact 14 = .ok (.iload_n 2, 1) := by decide +kernel
theorem dX10_exact_15 : decode cX10_exact 15 = .ok (.iload_n 3, 1) := by decide +kernel
theorem dX10_exact_16 : decode cX10_exact 16 = .ok (.iload_n 1, 1) := by decide +kernel
theorem dX10_exact_17 : decode cX10_exact 17 = .ok (.iconst (-1), 1) := by decide +kernel
theorem dX10_exact_18 : decode cX10_exact 18 = .ok (.ixor, 1) := by decide +kernel
theorem dX10_exact_19 : decode cX10_exact 19 = .ok (.iand, 1) := by decide +kernel
theorem dX10_exact_20 : decode cX10_exact 20 = .ok (.ifCond .ne 22, 3) := by decide +kernel
theorem dX10_exact_23 : decode cX10_exact 23 = .ok (.aload_n 0, 1) := by decide +kernel
theorem dX10_exact_24 : decode cX10_exact 24 = .ok (.iload_n 3, 1) := by decide +kernel
theorem dX10_exact_25 : decode cX10_exact 25 = .ok (.invokevirtual 211, 3) := by decide +kernel
theorem dX10_exact_28 : decode cX10_exact 28 = .ok (.aload_n 0, 1) := by decide +kernel
theorem dX10_exact_29 : decode cX10_exact 29 = .ok (.getfield 7, 3) := by decide +kernel
theorem dX10_exact_32 : decode cX10_exact 32 = .ok (.bipush 6, 2) := by decide +kernel
theorem dX10_exact_34 : decode cX10_exact 34 = .ok (.iaload, 1) := by decide +kernel
theorem dX10_exact_35 : decode cX10_exact 35 = .ok (.if_icmp .ne 7, 3) := by decide +kernel
theorem dX10_exact_38 : decode cX10_exact 38 = .ok (.iconst 1, 1) := by decide +kernel
theorem dX10_exact_39 : decode cX10_exact 39 = .ok (.goto 4, 3) := by decide +kernel
theorem dX10_exact_42 : decode cX10_exact 42 = .ok (.iconst 0, 1) := by decide +kernel
theorem dX10_exact_43 : decode cX10_exact 43 = .ok (.iadd, 1) := by decide +kernel
theorem dX10_exact_44 : decode cX10_exact 44 = .ok (.istore_n 2, 1) := by decide +kernel
theorem dX10_exact_45 : decode cX10_exact 45 = .ok (.iinc 3 1, 3) := by decide +kernel
theorem dX10_exact_48 : decode cX10_exact 48 = .ok (.goto (-39), 3) := by decide +kernel
theorem dX10_exact_51 : decode cX10_exact 51 = .ok (.iload_n 2, 1) := by decide +kernel
theorem dX10_exact_52 : decode cX10_exact 52 = .ok (.ireturn, 1) := by decide +kernel
theorem dX10_tree_0 : decode cX10_tree 0 = .ok (.iload_n 1, 1) := by decide +kernel
theorem dX10_tree_1 : decode cX10_tree 1 = .ok (.iconst 0, 1) := by decide +kernel
theorem dX10_tree_2 : decode cX10_tree 2 = .ok (.bipush 7, 2) := by decide +kernel
theorem dX10_tree_4 : decode cX10_tree 4 = .ok (.invokestatic 51, 3) := by decide +kernel
theorem dX10_tree_7 : decode cX10_tree 7 = .ok (.ifCond .eq 29, 3) := by decide +kernel
theorem dX10_tree_10 : decode cX10_tree 10 = .ok (.iload_n 2, 1) := by decide +kernel
theorem dX10_tree_11 : decode cX10_tree 11 = .ok (.iconst 0, 1) := by decide +kernel
theorem dX10_tree_12 : decode cX10_tree 12 = .ok (.bipush 7, 2) := by decide +kernel
theorem dX10_tree_14 : decode cX10_tree 14 = .ok (.invokestatic 51, 3) := by decide +kernel
theorem dX10_tree_17 : decode cX10_tree 17 = .ok (.ifCond .eq 19, 3) := by decide +kernel
theorem dX10_tree_20 : decode cX10_tree 20 = .ok (.aload_n 0, 1) := by decide +kernel
theorem dX10_tree_21 : decode cX10_tree 21 = .ok (.getfield 7, 3) := by decide +kernel
theorem dX10_tree_24 : decode cX10_tree 24 = .ok (.bipush 44, 2) := by decide +kernel
theorem dX10_tree_26 : decode cX10_tree 26 = .ok (.iload_n 1, 1) := by decide +kernel
theorem dX10_tree_27 : decode cX10_tree 27 = .ok (.iadd, 1) := by decide +kernel
theorem dX10_tree_28 : decode cX10_tree 28 = .ok (.iaload, 1) := by decide +kernel
theorem dX10_tree_29 : decode cX10_tree 29 = .ok (.iload_n 2, 1) := by decide +kernel
theorem dX10_tree_30 : decode cX10_tree 30 = .ok (.ishr, 1) := by decide +kernel
theorem dX10_tree_31 : decode cX10_tree 31 = .ok (.iconst 1, 1) := by decide +kernel
theorem dX10_tree_32 : decode cX10_tree 32 = .ok (.iand, 1) := by decide +kernel
theorem dX10_tree_33 : decode cX10_tree 33 = .ok (.goto 4, 3) := by decide +kernel
theorem dX10_tree_36 : decode cX10_tree 36 = .ok (.iconst 0, 1) := by decide +kernel
theorem dX10_tree_37 : decode cX10_tree 37 = .ok (.ireturn, 1) := by decide +kernel
theorem dX10_treesBy_0 : decode cX10_treesBy 0 = .ok (.iconst 0, 1) := by decide +kernel
theorem dX10_treesBy_1 : decode cX10_treesBy 1 = .ok (.istore 4, 2) := by decide +kernel
theorem dX10_treesBy_3 : decode cX10_treesBy 3 = .ok (.iconst 0, 1) := by decide +kernel
theorem dX10_treesBy_4 : decode cX10_treesBy 4 = .ok (.istore 5, 2) := by decide +kernel
theorem dX10_treesBy_6 : decode cX10_treesBy 6 = .ok (.iload 5, 2) := by decide +kernel
theorem dX10_treesBy_8 : decode cX10_treesBy 8 = .ok (.bipush 8, 2) := by decide +kernel
theorem dX10_treesBy_10 : decode cX10_treesBy 10 = .ok (.if_icmp .ge 40, 3) := by decide +kernel
theorem dX10_treesBy_13 : decode cX10_treesBy 13 = .ok (.iload_n 3, 1) := by decide +kernel
theorem dX10_treesBy_14 : decode cX10_treesBy 14 = .ok (.iconst 2, 1) := by decide +kernel
theorem dX10_treesBy_15 : decode cX10_treesBy 15 = .ok (.if_icmp .ge 35, 3) := by decide +kernel
theorem dX10_treesBy_18 : decode cX10_treesBy 18 = .ok (.iload 4, 2) := by decide +kernel
theorem dX10_treesBy_20 : decode cX10_treesBy 20 = .ok (.iload_n 3, 1) := by decide +kernel
theorem dX10_treesBy_21 : decode cX10_treesBy 21 = .ok (.ifCond .ne 13, 3) := by decide +kernel
theorem dX10_treesBy_24 : decode cX10_treesBy 24 = .ok (.aload_n 0, 1) := by decide +kernel
theorem dX10_treesBy_25 : decode cX10_treesBy 25 = .ok (.iload_n 1, 1) := by decide +kernel
theorem dX10_treesBy_26 : decode cX10_treesBy 26 = .ok (.iload 5, 2) := by decide +kernel
theorem dX10_treesBy_28 : decode cX10_treesBy 28 = .ok (.invokevirtual 214, 3) := by decide +kernel
theorem dX10_treesBy_31 : decode cX10_treesBy 31 = .ok (.goto 10, 3) := by decide +kernel
theorem dX10_treesBy_34 : decode cX10_treesBy 34 = .ok (.aload_n 0, 1) := by decide +kernel
theorem dX10_treesBy_35 : decode cX10_treesBy 35 = .ok (.iload 5, 2) := by decide +kernel
theorem dX10_treesBy_37 : decode cX10_treesBy 37 = .ok (.iload_n 2, 1) := by decide +kernel
theorem dX10_treesBy_38 : decode cX10_treesBy 38 = .ok (.invokevirtual 214, 3) := by decide +kernel
theorem dX10_treesBy_41 : decode cX10_treesBy 41 = .ok (.iadd, 1) := by decide +kernel
theorem dX10_treesBy_42 : decode cX10_treesBy 42 = .ok (.istore 4, 2) := by decide +kernel
theorem dX10_treesBy_44 : decode cX10_treesBy 44 = .ok (.iinc 5 1, 3) := by decide +kernel
theorem dX10_treesBy_47 : decode cX10_treesBy 47 = .ok (.goto (-41), 3) := by decide +kernel
theorem dX10_treesBy_50 : decode cX10_treesBy 50 = .ok (.iconst 0, 1) := by decide +kernel
theorem dX10_treesBy_51 : decode cX10_treesBy 51 = .ok (.istore 5, 2) := by decide +kernel
theorem dX10_treesBy_53 : decode cX10_treesBy 53 = .ok (.iload 5, 2) := by decide +kernel
theorem dX10_treesBy_55 : decode cX10_treesBy 55 = .ok (.bipush 9, 2) := by decide +kernel
theorem dX10_treesBy_57 : decode cX10_treesBy 57 = .ok (.if_icmp .ge 49, 3) := by decide +kernel
theorem dX10_treesBy_60 : decode cX10_treesBy 60 = .ok (.iload_n 3, 1) := by decide +kernel
theorem dX10_treesBy_61 : decode cX10_treesBy 61 = .ok (.iconst 2, 1) := by decide +kernel
theorem dX10_treesBy_62 : decode cX10_treesBy 62 = .ok (.if_icmp .ne 44, 3) := by decide +kernel
theorem dX10_treesBy_65 : decode cX10_treesBy 65 = .ok (.iload 4, 2) := by decide +kernel
theorem dX10_treesBy_67 : decode cX10_treesBy 67 = .ok (.iload 5, 2) := by decide +kernel
theorem dX10_treesBy_69 : decode cX10_treesBy 69 = .ok (.iconst 4, 1) := by decide +kernel
theorem dX10_treesBy_70 : decode cX10_treesBy 70 = .ok (.if_icmp .ne 7, 3) := by decide +kernel
theorem dX10_treesBy_73 : decode cX10_treesBy 73 = .ok (.iconst 0, 1) := by decide +kernel
theorem dX10_treesBy_74 : decode cX10_treesBy 74 = .ok (.goto 23, 3) := by decide +kernel
theorem dX10_treesBy_77 : decode cX10_treesBy 77 = .ok (.aload_n 0, 1) := by decide +kernel
theorem dX10_treesBy_78 : decode cX10_treesBy 78 = .ok (.iload_n 1, 1) := by decide +kernel
theorem dX10_treesBy_79 : decode cX10_treesBy 79 = .ok (.iconst 1, 1) := by decide +kernel
theorem dX10_treesBy_80 : decode cX10_treesBy 80 = .ok (.isub, 1) := by decide +kernel
theorem dX10_treesBy_81 : decode cX10_treesBy 81 = .ok (.iload 5, 2) := by decide +kernel
theorem dX10_treesBy_83 : decode cX10_treesBy 83 = .ok (.iconst 3, 1) := by decide +kernel
theorem dX10_treesBy_84 : decode cX10_treesBy 84 = .ok (.idiv, 1) := by decide +kernel
theorem dX10_treesBy_85 : decode cX10_treesBy 85 = .ok (.iadd, 1) := by decide +kernel
theorem dX10_treesBy_86 : decode cX10_treesBy 86 = .ok (.iload_n 2, 1) := by decide +kernel
theorem dX10_treesBy_87 : decode cX10_treesBy 87 = .ok (.iconst 1, 1) := by decide +kernel
theorem dX10_treesBy_88 : decode cX10_treesBy 88 = .ok (.isub, 1) := by decide +kernel
theorem dX10_treesBy_89 : decode cX10_treesBy 89 = .ok (.iload 5, 2) := by decide +kernel
theorem dX10_treesBy_91 : decode cX10_treesBy 91 = .ok (.iconst 3, 1) := by decide +kernel
theorem dX10_treesBy_92 : decode cX10_treesBy 92 = .ok (.irem, 1) := by decide +kernel
theorem dX10_treesBy_93 : decode cX10_treesBy 93 = .ok (.iadd, 1) := by decide +kernel
theorem dX10_treesBy_94 : decode cX10_treesBy 94 = .ok (.invokevirtual 214, 3) := by decide +kernel
theorem dX10_treesBy_97 : decode cX10_treesBy 97 = .ok (.iadd, 1) := by decide +kernel
theorem dX10_treesBy_98 : decode cX10_treesBy 98 = .ok (.istore 4, 2) := by decide +kernel
theorem dX10_treesBy_100 : decode cX10_treesBy 100 = .ok (.iinc 5 1, 3) := by decide +kernel
theorem dX10_treesBy_103 : decode cX10_treesBy 103 = .ok (.goto (-50), 3) := by decide +kernel
theorem dX10_treesBy_106 : decode cX10_treesBy 106 = .ok (.iload 4, 2) := by decide +kernel
theorem dX10_treesBy_108 : decode cX10_treesBy 108 = .ok (.ireturn, 1) := by decide +kernel
theorem dX10_isThere_0 : decode cX10_isThere 0 = .ok (.aload_n 0, 1) := by decide +kernel
theorem dX10_isThere_1 : decode cX10_isThere 1 = .ok (.getfield 32, 3) := by decide +kernel
theorem dX10_isThere_4 : decode cX10_isThere 4 = .ok (.iload_n 1, 1) := by decide +kernel
theorem dX10_isThere_5 : decode cX10_isThere 5 = .ok (.iaload, 1) := by decide +kernel
theorem dX10_isThere_6 : decode cX10_isThere 6 = .ok (.iconst 3, 1) := by decide +kernel
theorem dX10_isThere_7 : decode cX10_isThere 7 = .ok (.if_icmp .gt 7, 3) := by decide +kernel
theorem dX10_isThere_10 : decode cX10_isThere 10 = .ok (.iconst 1, 1) := by decide +kernel
theorem dX10_isThere_11 : decode cX10_isThere 11 = .ok (.goto 4, 3) := by decide +kernel
theorem dX10_isThere_14 : decode cX10_isThere 14 = .ok (.iconst 0, 1) := by decide +kernel
theorem dX10_isThere_15 : decode cX10_isThere 15 = .ok (.istore_n 3, 1) := by decide +kernel
theorem dX10_isThere_16 : decode cX10_isThere 16 = .ok (.iconst 0, 1) := by decide +kernel
theorem dX10_isThere_17 : decode cX10_isThere 17 = .ok (.istore 4, 2) := by decide +kernel
theorem dX10_isThere_19 : decode cX10_isThere 19 = .ok (.iload 4, 2) := by decide +kernel
theorem dX10_isThere_21 : decode cX10_isThere 21 = .ok (.aload_n 0, 1) := by decide +kernel
theorem dX10_isThere_22 : decode cX10_isThere 22 = .ok (.getfield 32, 3) := by decide +kernel
theorem dX10_isThere_25 : decode cX10_isThere 25 = .ok (.iload_n 1, 1) := by decide +kernel
theorem dX10_isThere_26 : decode cX10_isThere 26 = .ok (.iaload, 1) := by decide +kernel
theorem dX10_isThere_27 : decode cX10_isThere 27 = .ok (.if_icmp .ge 48, 3) := by decide +kernel
theorem dX10_isThere_30 : decode cX10_isThere 30 = .ok (.iload_n 3, 1) := by decide +kernel
theorem dX10_isThere_31 : decode cX10_isThere 31 = .ok (.ifCond .eq 44, 3) := by decide +kernel
theorem dX10_isThere_34 : decode cX10_isThere 34 = .ok (.aload_n 0, 1) := by decide +kernel
theorem dX10_isThere_35 : decode cX10_isThere 35 = .ok (.getfield 35, 3) := by decide +kernel
theorem dX10_isThere_38 : decode cX10_isThere 38 = .ok (.bipush 40, 2) := by decide +kernel
theorem dX10_isThere_40 : decode cX10_isThere 40 = .ok (.iload_n 1, 1) := by decide +kernel
theorem dX10_isThere_41 : decode cX10_isThere 41 = .ok (.imul, 1) := by decide +kernel
theorem dX10_isThere_42 : decode cX10_isThere 42 = .ok (.iload 4, 2) := by decide +kernel
theorem dX10_isThere_44 : decode cX10_isThere 44 = .ok (.iadd, 1) := by decide +kernel
theorem dX10_isThere_45 : decode cX10_isThere 45 = .ok (.iaload, 1) := by decide +kernel
theorem dX10_isThere_46 : decode cX10_isThere 46 = .ok (.aload_n 0, 1) := by decide +kernel
theorem dX10_isThere_47 : decode cX10_isThere 47 = .ok (.iload_n 2, 1) := by decide +kernel
theorem dX10_isThere_48 : decode cX10_isThere 48 = .ok (.bipush 8, 2) := by decide +kernel
theorem dX10_isThere_50 : decode cX10_isThere 50 = .ok (.idiv, 1) := by decide +kernel
theorem dX10_isThere_51 : decode cX10_isThere 51 = .ok (.iload_n 2, 1) := by decide +kernel
theorem dX10_isThere_52 : decode cX10_isThere 52 = .ok (.bipush 8, 2) := by decide +kernel
theorem dX10_isThere_54 : decode cX10_isThere 54 = .ok (.irem, 1) := by decide +kernel
theorem dX10_isThere_55 : decode cX10_isThere 55 = .ok (.iload 4, 2) := by decide +kernel
theorem dX10_isThere_57 : decode cX10_isThere 57 = .ok (.invokevirtual 217, 3) := by decide +kernel
theorem dX10_isThere_60 : decode cX10_isThere 60 = .ok (.if_icmp .ne 7, 3) := by decide +kernel
theorem dX10_isThere_63 : decode cX10_isThere 63 = .ok (.iconst 1, 1) := by decide +kernel
theorem dX10_isThere_64 : decode cX10_isThere 64 = .ok (.goto 4, 3) := by decide +kernel
theorem dX10_isThere_67 : decode cX10_isThere 67 = .ok (.iconst 0, 1) := by decide +kernel
theorem dX10_isThere_68 : decode cX10_isThere 68 = .ok (.istore_n 3, 1) := by decide +kernel
theorem dX10_isThere_69 : decode cX10_isThere 69 = .ok (.iinc 4 1, 3) := by decide +kernel
theorem dX10_isThere_72 : decode cX10_isThere 72 = .ok (.goto (-53), 3) := by decide +kernel
theorem dX10_isThere_75 : decode cX10_isThere 75 = .ok (.iload_n 3, 1) := by decide +kernel
theorem dX10_isThere_76 : decode cX10_isThere 76 = .ok (.ireturn, 1) := by decide +kernel
theorem dX10_house_0 : decode cX10_house 0 = .ok (.iload_n 1, 1) := by decide +kernel
theorem dX10_house_1 : decode cX10_house 1 = .ok (.invokestatic 199, 3) := by decide +kernel
theorem dX10_house_4 : decode cX10_house 4 = .ok (.ifCond .eq 12, 3) := by decide +kernel
theorem dX10_house_7 : decode cX10_house 7 = .ok (.iload_n 2, 1) := by decide +kernel
theorem dX10_house_8 : decode cX10_house 8 = .ok (.iconst 0, 1) := by decide +kernel
theorem dX10_house_9 : decode cX10_house 9 = .ok (.iconst 1, 1) := by decide +kernel
theorem dX10_house_10 : decode cX10_house 10 = .ok (.invokestatic 51, 3) := by decide +kernel
theorem dX10_house_13 : decode cX10_house 13 = .ok (.ifCond .ne 10, 3) := by decide +kernel
theorem dX10_house_16 : decode cX10_house 16 = .ok (.aload_n 0, 1) := by decide +kernel
theorem dX10_house_17 : decode cX10_house 17 = .ok (.ldc 59, 2) := by decide +kernel
theorem dX10_house_19 : decode cX10_house 19 = .ok (.invokevirtual 60, 3) := by decide +kernel
theorem dX10_house_22 : decode cX10_house 22 = .ok (.ireturn, 1) := by decide +kernel
theorem dX10_house_23 : decode cX10_house 23 = .ok (.aload_n 0, 1) := by decide +kernel
theorem dX10_house_24 : decode cX10_house 24 = .ok (.getfield 29, 3) := by decide +kernel
theorem dX10_house_27 : decode cX10_house 27 = .ok (.iload_n 1, 1) := by decide +kernel
theorem dX10_house_28 : decode cX10_house 28 = .ok (.iaload, 1) := by decide +kernel
theorem dX10_house_29 : decode cX10_house 29 = .ok (.ifCond .ne 10, 3) := by decide +kernel
theorem dX10_house_32 : decode cX10_house 32 = .ok (.aload_n 0, 1) := by decide +kernel
theorem dX10_house_33 : decode cX10_house 33 = .ok (.ldc 198, 2) := by decide +kernel
theorem dX10_house_35 : decode cX10_house 35 = .ok (.invokevirtual 60, 3) := by decide +kernel
theorem dX10_house_38 : decode cX10_house 38 = .ok (.ireturn, 1) := by decide +kernel
theorem dX10_house_39 : decode cX10_house 39 = .ok (.iconst 0, 1) := by decide +kernel
theorem dX10_house_40 : decode cX10_house 40 = .ok (.istore_n 3, 1) := by decide +kernel
theorem dX10_house_41 : decode cX10_house 41 = .ok (.iconst (-1), 1) := by decide +kernel
theorem dX10_house_42 : decode cX10_house 42 = .ok (.istore 4, 2) := by decide +kernel
theorem dX10_house_44 : decode cX10_house 44 = .ok (.bipush 63, 2) := by decide +kernel
theorem dX10_house_46 : decode cX10_house 46 = .ok (.istore 5, 2) := by decide +kernel
theorem dX10_house_48 : decode cX10_house 48 = .ok (.iload 5, 2) := by decide +kernel
theorem dX10_house_50 : decode cX10_house 50 = .ok (.ifCond .lt 45, 3) := by decide +kernel
theorem dX10_house_53 : decode cX10_house 53 = .ok (.aload_n 0, 1) := by decide +kernel
theorem dX10_house_54 : decode cX10_house 54 = .ok (.iload_n 1, 1) := by decide +kernel
theorem dX10_house_55 : decode cX10_house 55 = .ok (.iload 5, 2) := by decide +kernel
theorem dX10_house_57 : decode cX10_house 57 = .ok (.invokevirtual 220, 3) := by decide +kernel
theorem dX10_house_60 : decode cX10_house 60 = .ok (.istore 6, 2) := by decide +kernel
theorem dX10_house_62 : decode cX10_house 62 = .ok (.iload_n 3, 1) := by decide +kernel
theorem dX10_house_63 : decode cX10_house 63 = .ok (.iload 6, 2) := by decide +kernel
theorem dX10_house_65 : decode cX10_house 65 = .ok (.ifCond .eq 7, 3) := by decide +kernel
theorem dX10_house_68 : decode cX10_house 68 = .ok (.iconst 1, 1) := by decide +kernel
theorem dX10_house_69 : decode cX10_house 69 = .ok (.goto 4, 3) := by decide +kernel
theorem dX10_house_72 : decode cX10_house 72 = .ok (.iconst 0, 1) := by decide +kernel
theorem dX10_house_73 : decode cX10_house 73 = .ok (.iadd, 1) := by decide +kernel
theorem dX10_house_74 : decode cX10_house 74 = .ok (.istore_n 3, 1) := by decide +kernel
theorem dX10_house_75 : decode cX10_house 75 = .ok (.iload 6, 2) := by decide +kernel
theorem dX10_house_77 : decode cX10_house 77 = .ok (.ifCond .eq 8, 3) := by decide +kernel
theorem dX10_house_80 : decode cX10_house 80 = .ok (.iload 5, 2) := by decide +kernel
theorem dX10_house_82 : decode cX10_house 82 = .ok (.goto 5, 3) := by decide +kernel
theorem dX10_house_85 : decode cX10_house 85 = .ok (.iload 4, 2) := by decide +kernel
theorem dX10_house_87 : decode cX10_house 87 = .ok (.istore 4, 2) := by decide +kernel
theorem dX10_house_89 : decode cX10_house 89 = .ok (.iinc 5 (-1), 3) := by decide +kernel
theorem dX10_house_92 : decode cX10_house 92 = .ok (.goto (-44), 3) := by decide +kernel
theorem dX10_house_95 : decode cX10_house 95 = .ok (.iload_n 2, 1) := by decide +kernel
theorem dX10_house_96 : decode cX10_house 96 = .ok (.ifCond .ne 7, 3) := by decide +kernel
theorem dX10_house_99 : decode cX10_house 99 = .ok (.iload_n 3, 1) := by decide +kernel
theorem dX10_house_100 : decode cX10_house 100 = .ok (.goto 19, 3) := by decide +kernel
theorem dX10_house_103 : decode cX10_house 103 = .ok (.iload 4, 2) := by decide +kernel
theorem dX10_house_105 : decode cX10_house 105 = .ok (.ifCond .ge 12, 3) := by decide +kernel
theorem dX10_house_108 : decode cX10_house 108 = .ok (.aload_n 0, 1) := by decide +kernel
theorem dX10_house_109 : decode cX10_house 109 = .ok (.ldc 198, 2) := by decide +kernel
theorem dX10_house_111 : decode cX10_house 111 = .ok (.invokevirtual 60, 3) := by decide +kernel
theorem dX10_house_114 : decode cX10_house 114 = .ok (.goto 5, 3) := by decide +kernel
theorem dX10_house_117 : decode cX10_house 117 = .ok (.iload 4, 2) := by decide +kernel
theorem dX10_house_119 : decode cX10_house 119 = .ok (.ireturn, 1) := by decide +kernel
theorem dX10_loudOf_0 : decode cX10_loudOf 0 = .ok (.iconst 0, 1) := by decide +kernel
theorem dX10_loudOf_1 : decode cX10_loudOf 1 = .ok (.istore_n 2, 1) := by decide +kernel
theorem dX10_loudOf_2 : decode cX10_loudOf 2 = .ok (.iconst 0, 1) := by decide +kernel
theorem dX10_loudOf_3 : decode cX10_loudOf 3 = .ok (.istore_n 3, 1) := by decide +kernel
theorem dX10_loudOf_4 : decode cX10_loudOf 4 = .ok (.iload_n 3, 1) := by decide +kernel
theorem dX10_loudOf_5 : decode cX10_loudOf 5 = .ok (.aload_n 0, 1) := by decide +kernel
theorem dX10_loudOf_6 : decode cX10_loudOf 6 = .ok (.getfield 7, 3) := by decide +kernel
theorem dX10_loudOf_9 : decode cX10_loudOf 9 = .ok (.iconst 2, 1) := by decide +kernel
theorem dX10_loudOf_10 : decode cX10_loudOf 10 = .ok (.iaload, 1) := by decide +kernel
theorem dX10_loudOf_11 : decode cX10_loudOf 11 = .ok (.if_icmp .ge 31, 3) := by decide +kernel
theorem dX10_loudOf_14 : decode cX10_loudOf 14 = .ok (.iload_n 2, 1) := by decide +kernel
theorem dX10_loudOf_15 : decode cX10_loudOf 15 = .ok (.iload_n 1, 1) := by decide +kernel
theorem dX10_loudOf_16 : decode cX10_loudOf 16 = .ok (.iload_n 3, 1) := by decide +kernel
theorem dX10_loudOf_17 : decode cX10_loudOf 17 = .ok (.ishr, 1) := by decide +kernel
theorem dX10_loudOf_18 : decode cX10_loudOf 18 = .ok (.iconst 1, 1) := by decide +kernel
theorem dX10_loudOf_19 : decode cX10_loudOf 19 = .ok (.iand, 1) := by decide +kernel
theorem dX10_loudOf_20 : decode cX10_loudOf 20 = .ok (.iconst 1, 1) := by decide +kernel
theorem dX10_loudOf_21 : decode cX10_loudOf 21 = .ok (.if_icmp .ne 12, 3) := by decide +kernel
theorem dX10_loudOf_24 : decode cX10_loudOf 24 = .ok (.aload_n 0, 1) := by decide +kernel
theorem dX10_loudOf_25 : decode cX10_loudOf 25 = .ok (.iload_n 3, 1) := by decide +kernel
theorem dX10_loudOf_26 : decode cX10_loudOf 26 = .ok (.iconst 2, 1) := by decide +kernel
theorem dX10_loudOf_27 : decode cX10_loudOf 27 = .ok (.invokevirtual 83, 3) := by decide +kernel
theorem dX10_loudOf_30 : decode cX10_loudOf 30 = .ok (.goto 4, 3) := by decide +kernel
theorem dX10_loudOf_33 : decode cX10_loudOf 33 = .ok (.iconst 0, 1) := by decide +kernel
theorem dX10_loudOf_34 : decode cX10_loudOf 34 = .ok (.iadd, 1) := by decide +kernel
theorem dX10_loudOf_35 : decode cX10_loudOf 35 = .ok (.istore_n 2, 1) := by decide +kernel
theorem dX10_loudOf_36 : decode cX10_loudOf 36 = .ok (.iinc 3 1, 3) := by decide +kernel
theorem dX10_loudOf_39 : decode cX10_loudOf 39 = .ok (.goto (-35), 3) := by decide +kernel
theorem dX10_loudOf_42 : decode cX10_loudOf 42 = .ok (.iload_n 2, 1) := by decide +kernel
theorem dX10_loudOf_43 : decode cX10_loudOf 43 = .ok (.ireturn, 1) := by decide +kernel
theorem dX10_orders_0 : decode cX10_orders 0 = .ok (.iconst 1, 1) := by decide +kernel
theorem dX10_orders_1 : decode cX10_orders 1 = .ok (.istore_n 1, 1) := by decide +kernel
theorem dX10_orders_2 : decode cX10_orders 2 = .ok (.iconst 2, 1) := by decide +kernel
theorem dX10_orders_3 : decode cX10_orders 3 = .ok (.istore_n 2, 1) := by decide +kernel
theorem dX10_orders_4 : decode cX10_orders 4 = .ok (.iload_n 2, 1) := by decide +kernel
theorem dX10_orders_5 : decode cX10_orders 5 = .ok (.iload_n 0, 1) := by decide +kernel
theorem dX10_orders_6 : decode cX10_orders 6 = .ok (.if_icmp .gt 13, 3) := by decide +kernel
theorem dX10_orders_9 : decode cX10_orders 9 = .ok (.iload_n 1, 1) := by decide +kernel
theorem dX10_orders_10 : decode cX10_orders 10 = .ok (.iload_n 2, 1) := by decide +kernel
theorem dX10_orders_11 : decode cX10_orders 11 = .ok (.imul, 1) := by decide +kernel
theorem dX10_orders_12 : decode cX10_orders 12 = .ok (.istore_n 1, 1) := by decide +kernel
theorem dX10_orders_13 : decode cX10_orders 13 = .ok (.iinc 2 1, 3) := by decide +kernel
theorem dX10_orders_16 : decode cX10_orders 16 = .ok (.goto (-12), 3) := by decide +kernel
theorem dX10_orders_19 : decode cX10_orders 19 = .ok (.iload_n 1, 1) := by decide +kernel
theorem dX10_orders_20 : decode cX10_orders 20 = .ok (.ireturn, 1) := by decide +kernel
theorem dX10_power_0 : decode cX10_power 0 = .ok (.aload_n 0, 1) := by decide +kernel
theorem dX10_power_1 : decode cX10_power 1 = .ok (.iload_n 1, 1) := by decide +kernel
theorem dX10_power_2 : decode cX10_power 2 = .ok (.invokevirtual 80, 3) := by decide +kernel
theorem dX10_power_5 : decode cX10_power 5 = .ok (.ifCond .ne 10, 3) := by decide +kernel
theorem dX10_power_8 : decode cX10_power 8 = .ok (.aload_n 0, 1) := by decide +kernel
theorem dX10_power_9 : decode cX10_power 9 = .ok (.ldc 59, 2) := by decide +kernel
theorem dX10_power_11 : decode cX10_power 11 = .ok (.invokevirtual 60, 3) := by decide +kernel
theorem dX10_power_14 : decode cX10_power 14 = .ok (.ireturn, 1) := by decide +kernel
theorem dX10_power_15 : decode cX10_power 15 = .ok (.iconst 1, 1) := by decide +kernel
theorem dX10_power_16 : decode cX10_power 16 = .ok (.aload_n 0, 1) := by decide +kernel
theorem dX10_power_17 : decode cX10_power 17 = .ok (.getfield 7, 3) := by decide +kernel
theorem dX10_power_20 : decode cX10_power 20 = .ok (.iconst 2, 1) := by decide +kernel
theorem dX10_power_21 : decode cX10_power 21 = .ok (.iaload, 1) := by decide +kernel
theorem dX10_power_22 : decode cX10_power 22 = .ok (.ishl, 1) := by decide +kernel
theorem dX10_power_23 : decode cX10_power 23 = .ok (.iconst 1, 1) := by decide +kernel
theorem dX10_power_24 : decode cX10_power 24 = .ok (.isub, 1) := by decide +kernel
theorem dX10_power_25 : decode cX10_power 25 = .ok (.istore_n 2, 1) := by decide +kernel
theorem dX10_power_26 : decode cX10_power 26 = .ok (.aload_n 0, 1) := by decide +kernel
theorem dX10_power_27 : decode cX10_power 27 = .ok (.iload_n 2, 1) := by decide +kernel
theorem dX10_power_28 : decode cX10_power 28 = .ok (.invokevirtual 224, 3) := by decide +kernel
theorem dX10_power_31 : decode cX10_power 31 = .ok (.istore_n 3, 1) := by decide +kernel
theorem dX10_power_32 : decode cX10_power 32 = .ok (.iconst 0, 1) := by decide +kernel
theorem dX10_power_33 : decode cX10_power 33 = .ok (.istore 4, 2) := by decide +kernel
theorem dX10_power_35 : decode cX10_power 35 = .ok (.iconst 0, 1) := by decide +kernel
theorem dX10_power_36 : decode cX10_power 36 = .ok (.istore 5, 2) := by decide +kernel
theorem dX10_power_38 : decode cX10_power 38 = .ok (.iload 5, 2) := by decide +kernel
theorem dX10_power_40 : decode cX10_power 40 = .ok (.iload_n 2, 1) := by decide +kernel
theorem dX10_power_41 : decode cX10_power 41 = .ok (.if_icmp .gt 93, 3) := by decide +kernel
theorem dX10_power_44 : decode cX10_power 44 = .ok (.iload 5, 2) := by decide +kernel
theorem dX10_power_46 : decode cX10_power 46 = .ok (.iload_n 1, 1) := by decide +kernel
theorem dX10_power_47 : decode cX10_power 47 = .ok (.ishr, 1) := by decide +kernel
theorem dX10_power_48 : decode cX10_power 48 = .ok (.iconst 1, 1) := by decide +kernel
theorem dX10_power_49 : decode cX10_power 49 = .ok (.iand, 1) := by decide +kernel
theorem dX10_power_50 : decode cX10_power 50 = .ok (.ifCond .ne 35, 3) := by decide +kernel
theorem dX10_power_53 : decode cX10_power 53 = .ok (.iconst 2, 1) := by decide +kernel
theorem dX10_power_54 : decode cX10_power 54 = .ok (.aload_n 0, 1) := by decide +kernel
theorem dX10_power_55 : decode cX10_power 55 = .ok (.iload 5, 2) := by decide +kernel
theorem dX10_power_57 : decode cX10_power 57 = .ok (.invokevirtual 224, 3) := by decide +kernel
theorem dX10_power_60 : decode cX10_power 60 = .ok (.imul, 1) := by decide +kernel
theorem dX10_power_61 : decode cX10_power 61 = .ok (.iload_n 3, 1) := by decide +kernel
theorem dX10_power_62 : decode cX10_power 62 = .ok (.if_icmp .gt 23, 3) := by decide +kernel
theorem dX10_power_65 : decode cX10_power 65 = .ok (.iconst 2, 1) := by decide +kernel
theorem dX10_power_66 : decode cX10_power 66 = .ok (.aload_n 0, 1) := by decide +kernel
theorem dX10_power_67 : decode cX10_power 67 = .ok (.iload 5, 2) := by decide +kernel
theorem dX10_power_69 : decode cX10_power 69 = .ok (.iconst 1, 1) := by decide +kernel
theorem dX10_power_70 : decode cX10_power 70 = .ok (.iload_n 1, 1) := by decide +kernel
theorem dX10_power_71 : decode cX10_power 71 = .ok (.ishl, 1) := by decide +kernel
theorem dX10_power_72 : decode cX10_power 72 = .ok (.ior, 1) := by decide +kernel
theorem dX10_power_73 : decode cX10_power 73 = .ok (.invokevirtual 224, 3) := by decide +kernel
theorem dX10_power_76 : decode cX10_power 76 = .ok (.imul, 1) := by decide +kernel
theorem dX10_power_77 : decode cX10_power 77 = .ok (.iload_n 3, 1) := by decide +kernel
theorem dX10_power_78 : decode cX10_power 78 = .ok (.if_icmp .le 7, 3) := by decide +kernel
theorem dX10_power_81 : decode cX10_power 81 = .ok (.iconst 1, 1) := by decide +kernel
theorem dX10_power_82 : decode cX10_power 82 = .ok (.goto 4, 3) := by decide +kernel
theorem dX10_power_85 : decode cX10_power 85 = .ok (.iconst 0, 1) := by decide +kernel
theorem dX10_power_86 : decode cX10_power 86 = .ok (.istore 6, 2) := by decide +kernel
theorem dX10_power_88 : decode cX10_power 88 = .ok (.iload 4, 2) := by decide +kernel
theorem dX10_power_90 : decode cX10_power 90 = .ok (.iload 6, 2) := by decide +kernel
theorem dX10_power_92 : decode cX10_power 92 = .ok (.ifCond .eq 32, 3) := by decide +kernel
theorem dX10_power_95 : decode cX10_power 95 = .ok (.iload 5, 2) := by decide +kernel
theorem dX10_power_97 : decode cX10_power 97 = .ok (.invokestatic 208, 3) := by decide +kernel
theorem dX10_power_100 : decode cX10_power 100 = .ok (.invokestatic 227, 3) := by decide +kernel
theorem dX10_power_103 : decode cX10_power 103 = .ok (.aload_n 0, 1) := by decide +kernel
theorem dX10_power_104 : decode cX10_power 104 = .ok (.getfield 7, 3) := by decide +kernel
theorem dX10_power_107 : decode cX10_power 107 = .ok (.iconst 2, 1) := by decide +kernel
theorem dX10_power_108 : decode cX10_power 108 = .ok (.iaload, 1) := by decide +kernel
theorem dX10_power_109 : decode cX10_power 109 = .ok (.iconst 1, 1) := by decide +kernel
theorem dX10_power_110 : decode cX10_power 110 = .ok (.isub, 1) := by decide +kernel
theorem dX10_power_111 : decode cX10_power 111 = .ok (.iload 5, 2) := by decide +kernel
theorem dX10_power_113 : decode cX10_power 113 = .ok (.invokestatic 208, 3) := by decide +kernel
theorem dX10_power_116 : decode cX10_power 116 = .ok (.isub, 1) := by decide +kernel
theorem dX10_power_117 : decode cX10_power 117 = .ok (.invokestatic 227, 3) := by decide +kernel
theorem dX10_power_120 : decode cX10_power 120 = .ok (.imul, 1) := by decide +kernel
theorem dX10_power_121 : decode cX10_power 121 = .ok (.goto 4, 3) := by decide +kernel
theorem dX10_power_124 : decode cX10_power 124 = .ok (.iconst 0, 1) := by decide +kernel
theorem dX10_power_125 : decode cX10_power 125 = .ok (.iadd, 1) := by decide +kernel
theorem dX10_power_126 : decode cX10_power 126 = .ok (.istore 4, 2) := by decide +kernel
theorem dX10_power_128 : decode cX10_power 128 = .ok (.iinc 5 1, 3) := by decide +kernel
theorem dX10_power_131 : decode cX10_power 131 = .ok (.goto (-93), 3) := by decide +kernel
theorem dX10_power_134 : decode cX10_power 134 = .ok (.iload 4, 2) := by decide +kernel
theorem dX10_power_136 : decode cX10_power 136 = .ok (.ireturn, 1) := by decide +kernel
theorem dX10_stands_0 : decode cX10_stands 0 = .ok (.iload_n 0, 1) := by decide +kernel
theorem dX10_stands_1 : decode cX10_stands 1 = .ok (.invokestatic 208, 3) := by decide +kernel
theorem dX10_stands_4 : decode cX10_stands 4 = .ok (.iconst 2, 1) := by decide +kernel
theorem dX10_stands_5 : decode cX10_stands 5 = .ok (.if_icmp .gt 23, 3) := by decide +kernel
theorem dX10_stands_8 : decode cX10_stands 8 = .ok (.iload_n 0, 1) := by decide +kernel
theorem dX10_stands_9 : decode cX10_stands 9 = .ok (.iconst 3, 1) := by decide +kernel
theorem dX10_stands_10 : decode cX10_stands 10 = .ok (.iand, 1) := by decide +kernel
theorem dX10_stands_11 : decode cX10_stands 11 = .ok (.iconst 3, 1) := by decide +kernel
theorem dX10_stands_12 : decode cX10_stands 12 = .ok (.if_icmp .eq 16, 3) := by decide +kernel
theorem dX10_stands_15 : decode cX10_stands 15 = .ok (.iload_n 0, 1) := by decide +kernel
theorem dX10_stands_16 : decode cX10_stands 16 = .ok (.bipush 12, 2) := by decide +kernel
theorem dX10_stands_18 : decode cX10_stands 18 = .ok (.iand, 1) := by decide +kernel
theorem dX10_stands_19 : decode cX10_stands 19 = .ok (.bipush 12, 2) := by decide +kernel
theorem dX10_stands_21 : decode cX10_stands 21 = .ok (.if_icmp .eq 7, 3) := by decide +kernel
theorem dX10_stands_24 : decode cX10_stands 24 = .ok (.iconst 1, 1) := by decide +kernel
theorem dX10_stands_25 : decode cX10_stands 25 = .ok (.goto 4, 3) := by decide +kernel
theorem dX10_stands_28 : decode cX10_stands 28 = .ok (.iconst 0, 1) := by decide +kernel
theorem dX10_stands_29 : decode cX10_stands 29 = .ok (.ireturn, 1) := by decide +kernel
theorem dX10_gait_0 : decode cX10_gait 0 = .ok (.iload_n 1, 1) := by decide +kernel
theorem dX10_gait_1 : decode cX10_gait 1 = .ok (.iconst 0, 1) := by decide +kernel
theorem dX10_gait_2 : decode cX10_gait 2 = .ok (.bipush 12, 2) := by decide +kernel
theorem dX10_gait_4 : decode cX10_gait 4 = .ok (.invokestatic 51, 3) := by decide +kernel
theorem dX10_gait_7 : decode cX10_gait 7 = .ok (.ifCond .ne 10, 3) := by decide +kernel
theorem dX10_gait_10 : decode cX10_gait 10 = .ok (.aload_n 0, 1) := by decide +kernel
theorem dX10_gait_11 : decode cX10_gait 11 = .ok (.ldc 59, 2) := by decide +kernel
theorem dX10_gait_13 : decode cX10_gait 13 = .ok (.invokevirtual 60, 3) := by decide +kernel
theorem dX10_gait_16 : decode cX10_gait 16 = .ok (.ireturn, 1) := by decide +kernel
theorem dX10_gait_17 : decode cX10_gait 17 = .ok (.iconst 0, 1) := by decide +kernel
theorem dX10_gait_18 : decode cX10_gait 18 = .ok (.istore_n 2, 1) := by decide +kernel
theorem dX10_gait_19 : decode cX10_gait 19 = .ok (.iload_n 2, 1) := by decide +kernel
theorem dX10_gait_20 : decode cX10_gait 20 = .ok (.bipush 16, 2) := by decide +kernel
theorem dX10_gait_22 : decode cX10_gait 22 = .ok (.if_icmp .ge 38, 3) := by decide +kernel
theorem dX10_gait_25 : decode cX10_gait 25 = .ok (.aload_n 0, 1) := by decide +kernel
theorem dX10_gait_26 : decode cX10_gait 26 = .ok (.getfield 41, 3) := by decide +kernel
theorem dX10_gait_29 : decode cX10_gait 29 = .ok (.iload_n 2, 1) := by decide +kernel
theorem dX10_gait_30 : decode cX10_gait 30 = .ok (.iload_n 2, 1) := by decide +kernel
theorem dX10_gait_31 : decode cX10_gait 31 = .ok (.aload_n 0, 1) := by decide +kernel
theorem dX10_gait_32 : decode cX10_gait 32 = .ok (.getfield 7, 3) := by decide +kernel
theorem dX10_gait_35 : decode cX10_gait 35 = .ok (.bipush 7, 2) := by decide +kernel
theorem dX10_gait_37 : decode cX10_gait 37 = .ok (.iaload, 1) := by decide +kernel
theorem dX10_gait_38 : decode cX10_gait 38 = .ok (.if_icmp .ne 14, 3) := by decide +kernel
theorem dX10_gait_41 : decode cX10_gait 41 = .ok (.iload_n 2, 1) := by decide +kernel
theorem dX10_gait_42 : decode cX10_gait 42 = .ok (.invokestatic 230, 3) := by decide +kernel
theorem dX10_gait_45 : decode cX10_gait 45 = .ok (.ifCond .eq 7, 3) := by decide +kernel
theorem dX10_gait_48 : decode cX10_gait 48 = .ok (.iconst 1, 1) := by decide +kernel
theorem dX10_gait_49 : decode cX10_gait 49 = .ok (.goto 4, 3) := by decide +kernel
theorem dX10_gait_52 : decode cX10_gait 52 = .ok (.iconst 0, 1) := by decide +kernel
theorem dX10_gait_53 : decode cX10_gait 53 = .ok (.iastore, 1) := by decide +kernel
theorem dX10_gait_54 : decode cX10_gait 54 = .ok (.iinc 2 1, 3) := by decide +kernel
theorem dX10_gait_57 : decode cX10_gait 57 = .ok (.goto (-38), 3) := by decide +kernel
theorem dX10_gait_60 : decode cX10_gait 60 = .ok (.iconst 0, 1) := by decide +kernel
theorem dX10_gait_61 : decode cX10_gait 61 = .ok (.istore_n 2, 1) := by decide +kernel
theorem dX10_gait_62 : decode cX10_gait 62 = .ok (.iload_n 2, 1) := by decide +kernel
theorem dX10_gait_63 : decode cX10_gait 63 = .ok (.iload_n 1, 1) := by decide +kernel
theorem dX10_gait_64 : decode cX10_gait 64 = .ok (.if_icmp .ge 102, 3) := by decide +kernel
theorem dX10_gait_67 : decode cX10_gait 67 = .ok (.iconst 0, 1) := by decide +kernel
theorem dX10_gait_68 : decode cX10_gait 68 = .ok (.istore_n 3, 1) := by decide +kernel
theorem dX10_gait_69 : decode cX10_gait 69 = .ok (.iload_n 3, 1) := by decide +kernel
theorem dX10_gait_70 : decode cX10_gait 70 = .ok (.bipush 16, 2) := by decide +kernel
theorem dX10_gait_72 : decode cX10_gait 72 = .ok (.if_icmp .ge 62, 3) := by decide +kernel
theorem dX10_gait_75 : decode cX10_gait 75 = .ok (.aload_n 0, 1) := by decide +kernel
theorem dX10_gait_76 : decode cX10_gait 76 = .ok (.getfield 44, 3) := by decide +kernel
theorem dX10_gait_79 : decode cX10_gait 79 = .ok (.iload_n 3, 1) := by decide +kernel
theorem dX10_gait_80 : decode cX10_gait 80 = .ok (.iload_n 3, 1) := by decide +kernel
theorem dX10_gait_81 : decode cX10_gait 81 = .ok (.invokestatic 230, 3) := by decide +kernel
theorem dX10_gait_84 : decode cX10_gait 84 = .ok (.ifCond .eq 42, 3) := by decide +kernel
theorem dX10_gait_87 : decode cX10_gait 87 = .ok (.aload_n 0, 1) := by decide +kernel
theorem dX10_gait_88 : decode cX10_gait 88 = .ok (.getfield 41, 3) := by decide +kernel
theorem dX10_gait_91 : decode cX10_gait 91 = .ok (.iload_n 3, 1) := by decide +kernel
theorem dX10_gait_92 : decode cX10_gait 92 = .ok (.iconst 1, 1) := by decide +kernel
theorem dX10_gait_93 : decode cX10_gait 93 = .ok (.ixor, 1) := by decide +kernel
theorem dX10_gait_94 : decode cX10_gait 94 = .ok (.iaload, 1) := by decide +kernel
theorem dX10_gait_95 : decode cX10_gait 95 = .ok (.aload_n 0, 1) := by decide +kernel
theorem dX10_gait_96 : decode cX10_gait 96 = .ok (.getfield 41, 3) := by decide +kernel
theorem dX10_gait_99 : decode cX10_gait 99 = .ok (.iload_n 3, 1) := by decide +kernel
theorem dX10_gait_100 : decode cX10_gait 100 = .ok (.iconst 2, 1) := by decide +kernel
theorem dX10_gait_101 : decode cX10_gait 101 = .ok (.ixor, 1) := by decide +kernel
theorem dX10_gait_102 : decode cX10_gait 102 = .ok (.iaload, 1) := by decide +kernel
theorem dX10_gait_103 : decode cX10_gait 103 = .ok (.iadd, 1) := by decide +kernel
theorem dX10_gait_104 : decode cX10_gait 104 = .ok (.aload_n 0, 1) := by decide +kernel
theorem dX10_gait_105 : decode cX10_gait 105 = .ok (.getfield 41, 3) := by decide +kernel
theorem dX10_gait_108 : decode cX10_gait 108 = .ok (.iload_n 3, 1) := by decide +kernel
theorem dX10_gait_109 : decode cX10_gait 109 = .ok (.iconst 4, 1) := by decide +kernel
theorem dX10_gait_110 : decode cX10_gait 110 = .ok (.ixor, 1) := by decide +kernel
theorem dX10_gait_111 : decode cX10_gait 111 = .ok (.iaload, 1) := by decide +kernel
theorem dX10_gait_112 : decode cX10_gait 112 = .ok (.iadd, 1) := by decide +kernel
theorem dX10_gait_113 : decode cX10_gait 113 = .ok (.aload_n 0, 1) := by decide +kernel
theorem dX10_gait_114 : decode cX10_gait 114 = .ok (.getfield 41, 3) := by decide +kernel
theorem dX10_gait_117 : decode cX10_gait 117 = .ok (.iload_n 3, 1) := by decide +kernel
theorem dX10_gait_118 : decode cX10_gait 118 = .ok (.bipush 8, 2) := by decide +kernel
theorem dX10_gait_120 : decode cX10_gait 120 = .ok (.ixor, 1) := by decide +kernel
theorem dX10_gait_121 : decode cX10_gait 121 = .ok (.iaload, 1) := by decide +kernel
theorem dX10_gait_122 : decode cX10_gait 122 = .ok (.iadd, 1) := by decide +kernel
theorem dX10_gait_123 : decode cX10_gait 123 = .ok (.goto 4, 3) := by decide +kernel
theorem dX10_gait_126 : decode cX10_gait 126 = .ok (.iconst 0, 1) := by decide +kernel
theorem dX10_gait_127 : decode cX10_gait 127 = .ok (.iastore, 1) := by decide +kernel
theorem dX10_gait_128 : decode cX10_gait 128 = .ok (.iinc 3 1, 3) := by decide +kernel
theorem dX10_gait_131 : decode cX10_gait 131 = .ok (.goto (-62), 3) := by decide +kernel
theorem dX10_gait_134 : decode cX10_gait 134 = .ok (.iconst 0, 1) := by decide +kernel
theorem dX10_gait_135 : decode cX10_gait 135 = .ok (.istore_n 3, 1) := by decide +kernel
theorem dX10_gait_136 : decode cX10_gait 136 = .ok (.iload_n 3, 1) := by decide +kernel
theorem dX10_gait_137 : decode cX10_gait 137 = .ok (.bipush 16, 2) := by decide +kernel
theorem dX10_gait_139 : decode cX10_gait 139 = .ok (.if_icmp .ge 21, 3) := by decide +kernel
theorem dX10_gait_142 : decode cX10_gait 142 = .ok (.aload_n 0, 1) := by decide +kernel
theorem dX10_gait_143 : decode cX10_gait 143 = .ok (.getfield 41, 3) := by decide +kernel
theorem dX10_gait_146 : decode cX10_gait 146 = .ok (.iload_n 3, 1) := by decide +kernel
theorem dX10_gait_147 : decode cX10_gait 147 = .ok (.aload_n 0, 1) := by decide +kernel
theorem dX10_gait_148 : decode cX10_gait 148 = .ok (.getfield 44, 3) := by decide +kernel
theorem dX10_gait_151 : decode cX10_gait 151 = .ok (.iload_n 3, 1) := by decide +kernel
theorem dX10_gait_152 : decode cX10_gait 152 = .ok (.iaload, 1) := by decide +kernel
theorem dX10_gait_153 : decode cX10_gait 153 = .ok (.iastore, 1) := by decide +kernel
theorem dX10_gait_154 : decode cX10_gait 154 = .ok (.iinc 3 1, 3) := by decide +kernel
theorem dX10_gait_157 : decode cX10_gait 157 = .ok (.goto (-21), 3) := by decide +kernel
theorem dX10_gait_160 : decode cX10_gait 160 = .ok (.iinc 2 1, 3) := by decide +kernel
theorem dX10_gait_163 : decode cX10_gait 163 = .ok (.goto (-101), 3) := by decide +kernel
theorem dX10_gait_166 : decode cX10_gait 166 = .ok (.aload_n 0, 1) := by decide +kernel
theorem dX10_gait_167 : decode cX10_gait 167 = .ok (.getfield 41, 3) := by decide +kernel
theorem dX10_gait_170 : decode cX10_gait 170 = .ok (.aload_n 0, 1) := by decide +kernel
theorem dX10_gait_171 : decode cX10_gait 171 = .ok (.getfield 7, 3) := by decide +kernel
theorem dX10_gait_174 : decode cX10_gait 174 = .ok (.bipush 7, 2) := by decide +kernel
theorem dX10_gait_176 : decode cX10_gait 176 = .ok (.iaload, 1) := by decide +kernel
theorem dX10_gait_177 : decode cX10_gait 177 = .ok (.iaload, 1) := by decide +kernel
theorem dX10_gait_178 : decode cX10_gait 178 = .ok (.ireturn, 1) := by decide +kernel
theorem dX10_odds_0 : decode cX10_odds 0 = .ok (.iload_n 1, 1) := by decide +kernel
theorem dX10_odds_1 : decode cX10_odds 1 = .ok (.iconst 0, 1) := by decide +kernel
theorem dX10_odds_2 : decode cX10_odds 2 = .ok (.bipush 30, 2) := by decide +kernel
theorem dX10_odds_4 : decode cX10_odds 4 = .ok (.invokestatic 51, 3) := by decide +kernel
theorem dX10_odds_7 : decode cX10_odds 7 = .ok (.ifCond .eq 22, 3) := by decide +kernel
theorem dX10_odds_10 : decode cX10_odds 10 = .ok (.iload_n 2, 1) := by decide +kernel
theorem dX10_odds_11 : decode cX10_odds 11 = .ok (.iconst 0, 1) := by decide +kernel
theorem dX10_odds_12 : decode cX10_odds 12 = .ok (.bipush 99, 2) := by decide +kernel
theorem dX10_odds_14 : decode cX10_odds 14 = .ok (.invokestatic 51, 3) := by decide +kernel
theorem dX10_odds_17 : decode cX10_odds 17 = .ok (.ifCond .eq 12, 3) := by decide +kernel
theorem dX10_odds_20 : decode cX10_odds 20 = .ok (.iload_n 3, 1) := by decide +kernel
theorem dX10_odds_21 : decode cX10_odds 21 = .ok (.iconst 0, 1) := by decide +kernel
theorem dX10_odds_22 : decode cX10_odds 22 = .ok (.iconst 1, 1) := by decide +kernel
theorem dX10_odds_23 : decode cX10_odds 23 = .ok (.invokestatic 51, 3) := by decide +kernel
theorem dX10_odds_26 : decode cX10_odds 26 = .ok (.ifCond .ne 10, 3) := by decide +kernel
theorem dX10_odds_29 : decode cX10_odds 29 = .ok (.aload_n 0, 1) := by decide +kernel
theorem dX10_odds_30 : decode cX10_odds 30 = .ok (.ldc 59, 2) := by decide +kernel
theorem dX10_odds_32 : decode cX10_odds 32 = .ok (.invokevirtual 60, 3) := by decide +kernel
theorem dX10_odds_35 : decode cX10_odds 35 = .ok (.ireturn, 1) := by decide +kernel
theorem dX10_odds_36 : decode cX10_odds 36 = .ok (.aload_n 0, 1) := by decide +kernel
theorem dX10_odds_37 : decode cX10_odds 37 = .ok (.aload_n 0, 1) := by decide +kernel
theorem dX10_odds_38 : decode cX10_odds 38 = .ok (.getfield 7, 3) := by decide +kernel
theorem dX10_odds_41 : decode cX10_odds 41 = .ok (.aload_n 0, 1) := by decide +kernel
theorem dX10_odds_42 : decode cX10_odds 42 = .ok (.getfield 16, 3) := by decide +kernel
theorem dX10_odds_45 : decode cX10_odds 45 = .ok (.invokevirtual 167, 3) := by decide +kernel
theorem dX10_odds_48 : decode cX10_odds 48 = .ok (.iconst 0, 1) := by decide +kernel
theorem dX10_odds_49 : decode cX10_odds 49 = .ok (.istore 4, 2) := by decide +kernel
theorem dX10_odds_51 : decode cX10_odds 51 = .ok (.iconst 0, 1) := by decide +kernel
theorem dX10_odds_52 : decode cX10_odds 52 = .ok (.istore 5, 2) := by decide +kernel
theorem dX10_odds_54 : decode cX10_odds 54 = .ok (.iload 5, 2) := by decide +kernel
theorem dX10_odds_56 : decode cX10_odds 56 = .ok (.bipush 10, 2) := by decide +kernel
theorem dX10_odds_58 : decode cX10_odds 58 = .ok (.if_icmp .ge 40, 3) := by decide +kernel
theorem dX10_odds_61 : decode cX10_odds 61 = .ok (.aload_n 0, 1) := by decide +kernel
theorem dX10_odds_62 : decode cX10_odds 62 = .ok (.getfield 7, 3) := by decide +kernel
theorem dX10_odds_65 : decode cX10_odds 65 = .ok (.iconst 3, 1) := by decide +kernel
theorem dX10_odds_66 : decode cX10_odds 66 = .ok (.bipush 10, 2) := by decide +kernel
theorem dX10_odds_68 : decode cX10_odds 68 = .ok (.iload 5, 2) := by decide +kernel
theorem dX10_odds_70 : decode cX10_odds 70 = .ok (.imul, 1) := by decide +kernel
theorem dX10_odds_71 : decode cX10_odds 71 = .ok (.iastore, 1) := by decide +kernel
theorem dX10_odds_72 : decode cX10_odds 72 = .ok (.iload 4, 2) := by decide +kernel
theorem dX10_odds_74 : decode cX10_odds 74 = .ok (.aload_n 0, 1) := by decide +kernel
theorem dX10_odds_75 : decode cX10_odds 75 = .ok (.iload_n 1, 1) := by decide +kernel
theorem dX10_odds_76 : decode cX10_odds 76 = .ok (.iconst 4, 1) := by decide +kernel
theorem dX10_odds_77 : decode cX10_odds 77 = .ok (.invokevirtual 195, 3) := by decide +kernel
theorem dX10_odds_80 : decode cX10_odds 80 = .ok (.iload_n 2, 1) := by decide +kernel
theorem dX10_odds_81 : decode cX10_odds 81 = .ok (.if_icmp .gt 7, 3) := by decide +kernel
theorem dX10_odds_84 : decode cX10_odds 84 = .ok (.iconst 1, 1) := by decide +kernel
theorem dX10_odds_85 : decode cX10_odds 85 = .ok (.goto 4, 3) := by decide +kernel
theorem dX10_odds_88 : decode cX10_odds 88 = .ok (.iconst 0, 1) := by decide +kernel
theorem dX10_odds_89 : decode cX10_odds 89 = .ok (.iadd, 1) := by decide +kernel
theorem dX10_odds_90 : decode cX10_odds 90 = .ok (.istore 4, 2) := by decide +kernel
theorem dX10_odds_92 : decode cX10_odds 92 = .ok (.iinc 5 1, 3) := by decide +kernel
theorem dX10_odds_95 : decode cX10_odds 95 = .ok (.goto (-41), 3) := by decide +kernel
theorem dX10_odds_98 : decode cX10_odds 98 = .ok (.iload 4, 2) := by decide +kernel
theorem dX10_odds_100 : decode cX10_odds 100 = .ok (.bipush 10, 2) := by decide +kernel
theorem dX10_odds_102 : decode cX10_odds 102 = .ok (.irem, 1) := by decide +kernel
theorem dX10_odds_103 : decode cX10_odds 103 = .ok (.ifCond .ne 8, 3) := by decide +kernel
theorem dX10_odds_106 : decode cX10_odds 106 = .ok (.bipush 10, 2) := by decide +kernel
theorem dX10_odds_108 : decode cX10_odds 108 = .ok (.goto 25, 3) := by decide +kernel
theorem dX10_odds_111 : decode cX10_odds 111 = .ok (.iload 4, 2) := by decide +kernel
theorem dX10_odds_113 : decode cX10_odds 113 = .ok (.iconst 5, 1) := by decide +kernel
theorem dX10_odds_114 : decode cX10_odds 114 = .ok (.if_icmp .ne 7, 3) := by decide +kernel
theorem dX10_odds_117 : decode cX10_odds 117 = .ok (.iconst 5, 1) := by decide +kernel
theorem dX10_odds_118 : decode cX10_odds 118 = .ok (.goto 15, 3) := by decide +kernel
theorem dX10_odds_121 : decode cX10_odds 121 = .ok (.iload 4, 2) := by decide +kernel
theorem dX10_odds_123 : decode cX10_odds 123 = .ok (.iconst 2, 1) := by decide +kernel
theorem dX10_odds_124 : decode cX10_odds 124 = .ok (.irem, 1) := by decide +kernel
theorem dX10_odds_125 : decode cX10_odds 125 = .ok (.ifCond .ne 7, 3) := by decide +kernel
theorem dX10_odds_128 : decode cX10_odds 128 = .ok (.iconst 2, 1) := by decide +kernel
theorem dX10_odds_129 : decode cX10_odds 129 = .ok (.goto 4, 3) := by decide +kernel
theorem dX10_odds_132 : decode cX10_odds 132 = .ok (.iconst 1, 1) := by decide +kernel
theorem dX10_odds_133 : decode cX10_odds 133 = .ok (.istore 5, 2) := by decide +kernel
theorem dX10_odds_135 : decode cX10_odds 135 = .ok (.iload_n 3, 1) := by decide +kernel
theorem dX10_odds_136 : decode cX10_odds 136 = .ok (.ifCond .ne 11, 3) := by decide +kernel
theorem dX10_odds_139 : decode cX10_odds 139 = .ok (.iload 4, 2) := by decide +kernel
theorem dX10_odds_141 : decode cX10_odds 141 = .ok (.iload 5, 2) := by decide +kernel
theorem dX10_odds_143 : decode cX10_odds 143 = .ok (.idiv, 1) := by decide +kernel
theorem dX10_odds_144 : decode cX10_odds 144 = .ok (.goto 8, 3) := by decide +kernel
theorem dX10_odds_147 : decode cX10_odds 147 = .ok (.bipush 10, 2) := by decide +kernel
theorem dX10_odds_149 : decode cX10_odds 149 = .ok (.iload 5, 2) := by decide +kernel
theorem dX10_odds_151 : decode cX10_odds 151 = .ok (.idiv, 1) := by decide +kernel
theorem dX10_odds_152 : decode cX10_odds 152 = .ok (.ireturn, 1) := by decide +kernel
theorem dX10_seed_0 : decode cX10_seed 0 = .ok (.aload_n 0, 1) := by decide +kernel
theorem dX10_seed_1 : decode cX10_seed 1 = .ok (.getfield 7, 3) := by decide +kernel
theorem dX10_seed_4 : decode cX10_seed 4 = .ok (.iconst 1, 1) := by decide +kernel
theorem dX10_seed_5 : decode cX10_seed 5 = .ok (.iaload, 1) := by decide +kernel
theorem dX10_seed_6 : decode cX10_seed 6 = .ok (.istore_n 2, 1) := by decide +kernel
theorem dX10_seed_7 : decode cX10_seed 7 = .ok (.aload_n 0, 1) := by decide +kernel
theorem dX10_seed_8 : decode cX10_seed 8 = .ok (.getfield 7, 3) := by decide +kernel
theorem dX10_seed_11 : decode cX10_seed 11 = .ok (.iconst 1, 1) := by decide +kernel
theorem dX10_seed_12 : decode cX10_seed 12 = .ok (.iload_n 1, 1) := by decide +kernel
theorem dX10_seed_13 : decode cX10_seed 13 = .ok (.iastore, 1) := by decide +kernel
theorem dX10_seed_14 : decode cX10_seed 14 = .ok (.iload_n 2, 1) := by decide +kernel
theorem dX10_seed_15 : decode cX10_seed 15 = .ok (.ireturn, 1) := by decide +kernel
theorem dX10_ran_0 : decode cX10_ran 0 = .ok (.aload_n 0, 1) := by decide +kernel
theorem dX10_ran_1 : decode cX10_ran 1 = .ok (.getfield 233, 3) := by decide +kernel
theorem dX10_ran_4 : decode cX10_ran 4 = .ok (.bipush 40, 2) := by decide +kernel
theorem dX10_ran_6 : decode cX10_ran 6 = .ok (.if_icmp .ge 23, 3) := by decide +kernel
theorem dX10_ran_9 : decode cX10_ran 9 = .ok (.aload_n 0, 1) := by decide +kernel
theorem dX10_ran_10 : decode cX10_ran 10 = .ok (.getfield 47, 3) := by decide +kernel
theorem dX10_ran_13 : decode cX10_ran 13 = .ok (.aload_n 0, 1) := by decide +kernel
theorem dX10_ran_14 : decode cX10_ran 14 = .ok (.getfield 233, 3) := by decide +kernel
theorem dX10_ran_17 : decode cX10_ran 17 = .ok (.iload_n 1, 1) := by decide +kernel
theorem dX10_ran_18 : decode cX10_ran 18 = .ok (.iastore, 1) := by decide +kernel
theorem dX10_ran_19 : decode cX10_ran 19 = .ok (.aload_n 0, 1) := by decide +kernel
theorem dX10_ran_20 : decode cX10_ran 20 = .ok (.dup, 1) := by decide +kernel
theorem dX10_ran_21 : decode cX10_ran 21 = .ok (.getfield 233, 3) := by decide +kernel
theorem dX10_ran_24 : decode cX10_ran 24 = .ok (.iconst 1, 1) := by decide +kernel
theorem dX10_ran_25 : decode cX10_ran 25 = .ok (.iadd, 1) := by decide +kernel
theorem dX10_ran_26 : decode cX10_ran 26 = .ok (.putfield 233, 3) := by decide +kernel
theorem dX10_ran_29 : decode cX10_ran 29 = .ok (.return_, 1) := by decide +kernel
theorem dX10_callsIn_0 : decode cX10_callsIn 0 = .ok (.iload_n 1, 1) := by decide +kernel
theorem dX10_callsIn_1 : decode cX10_callsIn 1 = .ok (.ifCond .ne 16, 3) := by decide +kernel
theorem dX10_callsIn_4 : decode cX10_callsIn 4 = .ok (.aload_n 0, 1) := by decide +kernel
theorem dX10_callsIn_5 : decode cX10_callsIn 5 = .ok (.bipush 10, 2) := by decide +kernel
theorem dX10_callsIn_7 : decode cX10_callsIn 7 = .ok (.invokevirtual 236, 3) := by decide +kernel
theorem dX10_callsIn_10 : decode cX10_callsIn 10 = .ok (.iload_n 2, 1) := by decide +kernel
theorem dX10_callsIn_11 : decode cX10_callsIn 11 = .ok (.aload_n 0, 1) := by decide +kernel
theorem dX10_callsIn_12 : decode cX10_callsIn 12 = .ok (.getfield 239, 3) := by decide +kernel
theorem dX10_callsIn_15 : decode cX10_callsIn 15 = .ok (.iadd, 1) := by decide +kernel
theorem dX10_callsIn_16 : decode cX10_callsIn 16 = .ok (.ireturn, 1) := by decide +kernel
theorem dX10_callsIn_17 : decode cX10_callsIn 17 = .ok (.iload_n 1, 1) := by decide +kernel
theorem dX10_callsIn_18 : decode cX10_callsIn 18 = .ok (.iconst 1, 1) := by decide +kernel
theorem dX10_callsIn_19 : decode cX10_callsIn 19 = .ok (.if_icmp .ne 18, 3) := by decide +kernel
theorem dX10_callsIn_22 : decode cX10_callsIn 22 = .ok (.aload_n 0, 1) := by decide +kernel
theorem dX10_callsIn_23 : decode cX10_callsIn 23 = .ok (.bipush 20, 2) := by decide +kernel
theorem dX10_callsIn_25 : decode cX10_callsIn 25 = .ok (.invokevirtual 236, 3) := by decide +kernel
theorem dX10_callsIn_28 : decode cX10_callsIn 28 = .ok (.aload_n 0, 1) := by decide +kernel
theorem dX10_callsIn_29 : decode cX10_callsIn 29 = .ok (.iconst 0, 1) := by decide +kernel
theorem dX10_callsIn_30 : decode cX10_callsIn 30 = .ok (.iload_n 2, 1) := by decide +kernel
theorem dX10_callsIn_31 : decode cX10_callsIn 31 = .ok (.invokevirtual 242, 3) := by decide +kernel
theorem dX10_callsIn_34 : decode cX10_callsIn 34 = .ok (.iconst 3, 1) := by decide +kernel
theorem dX10_callsIn_35 : decode cX10_callsIn 35 = .ok (.imul, 1) := by decide +kernel
theorem dX10_callsIn_36 : decode cX10_callsIn 36 = .ok (.ireturn, 1) := by decide +kernel
theorem dX10_callsIn_37 : decode cX10_callsIn 37 = .ok (.aload_n 0, 1) := by decide +kernel
theorem dX10_callsIn_38 : decode cX10_callsIn 38 = .ok (.iload_n 1, 1) := by decide +kernel
theorem dX10_callsIn_39 : decode cX10_callsIn 39 = .ok (.invokestatic 92, 3) := by decide +kernel
theorem dX10_callsIn_42 : decode cX10_callsIn 42 = .ok (.iload_n 2, 1) := by decide +kernel
theorem dX10_callsIn_43 : decode cX10_callsIn 43 = .ok (.invokevirtual 242, 3) := by decide +kernel
theorem dX10_callsIn_46 : decode cX10_callsIn 46 = .ok (.ireturn, 1) := by decide +kernel
theorem dX10_nodsIn_0 : decode cX10_nodsIn 0 = .ok (.iload_n 1, 1) := by decide +kernel
theorem dX10_nodsIn_1 : decode cX10_nodsIn 1 = .ok (.ifCond .ne 16, 3) := by decide +kernel
theorem dX10_nodsIn_4 : decode cX10_nodsIn 4 = .ok (.aload_n 0, 1) := by decide +kernel
theorem dX10_nodsIn_5 : decode cX10_nodsIn 5 = .ok (.bipush 12, 2) := by decide +kernel
theorem dX10_nodsIn_7 : decode cX10_nodsIn 7 = .ok (.invokevirtual 236, 3) := by decide +kernel
theorem dX10_nodsIn_10 : decode cX10_nodsIn 10 = .ok (.iload_n 2, 1) := by decide +kernel
theorem dX10_nodsIn_11 : decode cX10_nodsIn 11 = .ok (.aload_n 0, 1) := by decide +kernel
theorem dX10_nodsIn_12 : decode cX10_nodsIn 12 = .ok (.getfield 245, 3) := by decide +kernel
theorem dX10_nodsIn_15 : decode cX10_nodsIn 15 = .ok (.isub, 1) := by decide +kernel
theorem dX10_nodsIn_16 : decode cX10_nodsIn 16 = .ok (.ireturn, 1) := by decide +kernel
theorem dX10_nodsIn_17 : decode cX10_nodsIn 17 = .ok (.iload_n 1, 1) := by decide +kernel
theorem dX10_nodsIn_18 : decode cX10_nodsIn 18 = .ok (.iconst 3, 1) := by decide +kernel
theorem dX10_nodsIn_19 : decode cX10_nodsIn 19 = .ok (.if_icmp .ne 17, 3) := by decide +kernel
theorem dX10_nodsIn_22 : decode cX10_nodsIn 22 = .ok (.aload_n 0, 1) := by decide +kernel
theorem dX10_nodsIn_23 : decode cX10_nodsIn 23 = .ok (.bipush 40, 2) := by decide +kernel
theorem dX10_nodsIn_25 : decode cX10_nodsIn 25 = .ok (.invokevirtual 236, 3) := by decide +kernel
theorem dX10_nodsIn_28 : decode cX10_nodsIn 28 = .ok (.aload_n 0, 1) := by decide +kernel
theorem dX10_nodsIn_29 : decode cX10_nodsIn 29 = .ok (.iconst 0, 1) := by decide +kernel
theorem dX10_nodsIn_30 : decode cX10_nodsIn 30 = .ok (.iload_n 2, 1) := by decide +kernel
theorem dX10_nodsIn_31 : decode cX10_nodsIn 31 = .ok (.invokevirtual 248, 3) := by decide +kernel
theorem dX10_nodsIn_34 : decode cX10_nodsIn 34 = .ok (.ineg, 1) := by decide +kernel
theorem dX10_nodsIn_35 : decode cX10_nodsIn 35 = .ok (.ireturn, 1) := by decide +kernel
theorem dX10_nodsIn_36 : decode cX10_nodsIn 36 = .ok (.iload_n 1, 1) := by decide +kernel
theorem dX10_nodsIn_37 : decode cX10_nodsIn 37 = .ok (.bipush 6, 2) := by decide +kernel
theorem dX10_nodsIn_39 : decode cX10_nodsIn 39 = .ok (.if_icmp .ne 21, 3) := by decide +kernel
theorem dX10_nodsIn_42 : decode cX10_nodsIn 42 = .ok (.aload_n 0, 1) := by decide +kernel
theorem dX10_nodsIn_43 : decode cX10_nodsIn 43 = .ok (.bipush 70, 2) := by decide +kernel
theorem dX10_nodsIn_45 : decode cX10_nodsIn 45 = .ok (.invokevirtual 236, 3) := by decide +kernel
theorem dX10_nodsIn_48 : decode cX10_nodsIn 48 = .ok (.aload_n 0, 1) := by decide +kernel
theorem dX10_nodsIn_49 : decode cX10_nodsIn 49 = .ok (.iconst 3, 1) := by decide +kernel
theorem dX10_nodsIn_50 : decode cX10_nodsIn 50 = .ok (.iload_n 2, 1) := by decide +kernel
theorem dX10_nodsIn_51 : decode cX10_nodsIn 51 = .ok (.invokevirtual 248, 3) := by decide +kernel
theorem dX10_nodsIn_54 : decode cX10_nodsIn 54 = .ok (.aload_n 0, 1) := by decide +kernel
theorem dX10_nodsIn_55 : decode cX10_nodsIn 55 = .ok (.getfield 239, 3) := by decide +kernel
theorem dX10_nodsIn_58 : decode cX10_nodsIn 58 = .ok (.ixor, 1) := by decide +kernel
theorem dX10_nodsIn_59 : decode cX10_nodsIn 59 = .ok (.ireturn, 1) := by decide +kernel
theorem dX10_nodsIn_60 : decode cX10_nodsIn 60 = .ok (.aload_n 0, 1) := by decide +kernel
theorem dX10_nodsIn_61 : decode cX10_nodsIn 61 = .ok (.iload_n 1, 1) := by decide +kernel
theorem dX10_nodsIn_62 : decode cX10_nodsIn 62 = .ok (.invokestatic 92, 3) := by decide +kernel
theorem dX10_nodsIn_65 : decode cX10_nodsIn 65 = .ok (.iload_n 2, 1) := by decide +kernel
theorem dX10_nodsIn_66 : decode cX10_nodsIn 66 = .ok (.invokevirtual 248, 3) := by decide +kernel
theorem dX10_nodsIn_69 : decode cX10_nodsIn 69 = .ok (.ireturn, 1) := by decide +kernel
theorem dX10_holdsIn_0 : decode cX10_holdsIn 0 = .ok (.iload_n 1, 1) := by decide +kernel
theorem dX10_holdsIn_1 : decode cX10_holdsIn 1 = .ok (.ifCond .ne 21, 3) := by decide +kernel
theorem dX10_holdsIn_4 : decode cX10_holdsIn 4 = .ok (.aload_n 0, 1) := by decide +kernel
theorem dX10_holdsIn_5 : decode cX10_holdsIn 5 = .ok (.bipush 11, 2) := by decide +kernel
theorem dX10_holdsIn_7 : decode cX10_holdsIn 7 = .ok (.invokevirtual 236, 3) := by decide +kernel
theorem dX10_holdsIn_10 : decode cX10_holdsIn 10 = .ok (.aload_n 0, 1) := by decide +kernel
theorem dX10_holdsIn_11 : decode cX10_holdsIn 11 = .ok (.aload_n 0, 1) := by decide +kernel
theorem dX10_holdsIn_12 : decode cX10_holdsIn 12 = .ok (.getfield 251, 3) := by decide +kernel
theorem dX10_holdsIn_15 : decode cX10_holdsIn 15 = .ok (.iload_n 2, 1) := by decide +kernel
theorem dX10_holdsIn_16 : decode cX10_holdsIn 16 = .ok (.invokevirtual 242, 3) := by decide +kernel
theorem dX10_holdsIn_19 : decode cX10_holdsIn 19 = .ok (.iconst 2, 1) := by decide +kernel
theorem dX10_holdsIn_20 : decode cX10_holdsIn 20 = .ok (.imul, 1) := by decide +kernel
theorem dX10_holdsIn_21 : decode cX10_holdsIn 21 = .ok (.ireturn, 1) := by decide +kernel
theorem dX10_holdsIn_22 : decode cX10_holdsIn 22 = .ok (.iload_n 1, 1) := by decide +kernel
theorem dX10_holdsIn_23 : decode cX10_holdsIn 23 = .ok (.iconst 2, 1) := by decide +kernel
theorem dX10_holdsIn_24 : decode cX10_holdsIn 24 = .ok (.if_icmp .ne 28, 3) := by decide +kernel
theorem dX10_holdsIn_27 : decode cX10_holdsIn 27 = .ok (.aload_n 0, 1) := by decide +kernel
theorem dX10_holdsIn_28 : decode cX10_holdsIn 28 = .ok (.bipush 30, 2) := by decide +kernel
theorem dX10_holdsIn_30 : decode cX10_holdsIn 30 = .ok (.invokevirtual 236, 3) := by decide +kernel
theorem dX10_holdsIn_33 : decode cX10_holdsIn 33 = .ok (.aload_n 0, 1) := by decide +kernel
theorem dX10_holdsIn_34 : decode cX10_holdsIn 34 = .ok (.iconst 0, 1) := by decide +kernel
theorem dX10_holdsIn_35 : decode cX10_holdsIn 35 = .ok (.iload_n 2, 1) := by decide +kernel
theorem dX10_holdsIn_36 : decode cX10_holdsIn 36 = .ok (.invokevirtual 254, 3) := by decide +kernel
theorem dX10_holdsIn_39 : decode cX10_holdsIn 39 = .ok (.istore_n 3, 1) := by decide +kernel
theorem dX10_holdsIn_40 : decode cX10_holdsIn 40 = .ok (.iload_n 3, 1) := by decide +kernel
theorem dX10_holdsIn_41 : decode cX10_holdsIn 41 = .ok (.aload_n 0, 1) := by decide +kernel
theorem dX10_holdsIn_42 : decode cX10_holdsIn 42 = .ok (.aload_n 0, 1) := by decide +kernel
theorem dX10_holdsIn_43 : decode cX10_holdsIn 43 = .ok (.getfield 251, 3) := by decide +kernel
theorem dX10_holdsIn_46 : decode cX10_holdsIn 46 = .ok (.iconst 1, 1) := by decide +kernel
theorem dX10_holdsIn_47 : decode cX10_holdsIn 47 = .ok (.invokevirtual 248, 3) := by decide +kernel
theorem dX10_holdsIn_50 : decode cX10_holdsIn 50 = .ok (.isub, 1) := by decide +kernel
theorem dX10_holdsIn_51 : decode cX10_holdsIn 51 = .ok (.ireturn, 1) := by decide +kernel
theorem dX10_holdsIn_52 : decode cX10_holdsIn 52 = .ok (.iload_n 1, 1) := by decide +kernel
theorem dX10_holdsIn_53 : decode cX10_holdsIn 53 = .ok (.iconst 5, 1) := by decide +kernel
theorem dX10_holdsIn_54 : decode cX10_holdsIn 54 = .ok (.if_icmp .ne 18, 3) := by decide +kernel
theorem dX10_holdsIn_57 : decode cX10_holdsIn 57 = .ok (.aload_n 0, 1) := by decide +kernel
theorem dX10_holdsIn_58 : decode cX10_holdsIn 58 = .ok (.bipush 60, 2) := by decide +kernel
theorem dX10_holdsIn_60 : decode cX10_holdsIn 60 = .ok (.invokevirtual 236, 3) := by decide +kernel
theorem dX10_holdsIn_63 : decode cX10_holdsIn 63 = .ok (.aload_n 0, 1) := by decide +kernel
theorem dX10_holdsIn_64 : decode cX10_holdsIn 64 = .ok (.iconst 2, 1) := by decide +kernel
theorem dX10_holdsIn_65 : decode cX10_holdsIn 65 = .ok (.iload_n 2, 1) := by decide +kernel
theorem dX10_holdsIn_66 : decode cX10_holdsIn 66 = .ok (.iconst 1, 1) := by decide +kernel
theorem dX10_holdsIn_67 : decode cX10_holdsIn 67 = .ok (.iadd, 1) := by decide +kernel
theorem dX10_holdsIn_68 : decode cX10_holdsIn 68 = .ok (.invokevirtual 254, 3) := by decide +kernel
theorem dX10_holdsIn_71 : decode cX10_holdsIn 71 = .ok (.ireturn, 1) := by decide +kernel
theorem dX10_holdsIn_72 : decode cX10_holdsIn 72 = .ok (.aload_n 0, 1) := by decide +kernel
theorem dX10_holdsIn_73 : decode cX10_holdsIn 73 = .ok (.iload_n 1, 1) := by decide +kernel
theorem dX10_holdsIn_74 : decode cX10_holdsIn 74 = .ok (.invokestatic 92, 3) := by decide +kernel
theorem dX10_holdsIn_77 : decode cX10_holdsIn 77 = .ok (.iload_n 2, 1) := by decide +kernel
theorem dX10_holdsIn_78 : decode cX10_holdsIn 78 = .ok (.invokevirtual 254, 3) := by decide +kernel
theorem dX10_holdsIn_81 : decode cX10_holdsIn 81 = .ok (.ireturn, 1) := by decide +kernel
theorem dX10_tellsIn_0 : decode cX10_tellsIn 0 = .ok (.iload_n 1, 1) := by decide +kernel
theorem dX10_tellsIn_1 : decode cX10_tellsIn 1 = .ok (.ifCond .ne 31, 3) := by decide +kernel
theorem dX10_tellsIn_4 : decode cX10_tellsIn 4 = .ok (.aload_n 0, 1) := by decide +kernel
theorem dX10_tellsIn_5 : decode cX10_tellsIn 5 = .ok (.bipush 13, 2) := by decide +kernel
theorem dX10_tellsIn_7 : decode cX10_tellsIn 7 = .ok (.invokevirtual 236, 3) := by decide +kernel
theorem dX10_tellsIn_10 : decode cX10_tellsIn 10 = .ok (.aload_n 0, 1) := by decide +kernel
theorem dX10_tellsIn_11 : decode cX10_tellsIn 11 = .ok (.aload_n 0, 1) := by decide +kernel
theorem dX10_tellsIn_12 : decode cX10_tellsIn 12 = .ok (.getfield 251, 3) := by decide +kernel
theorem dX10_tellsIn_15 : decode cX10_tellsIn 15 = .ok (.iload_n 2, 1) := by decide +kernel
theorem dX10_tellsIn_16 : decode cX10_tellsIn 16 = .ok (.invokevirtual 254, 3) := by decide +kernel
theorem dX10_tellsIn_19 : decode cX10_tellsIn 19 = .ok (.istore_n 3, 1) := by decide +kernel
theorem dX10_tellsIn_20 : decode cX10_tellsIn 20 = .ok (.iload_n 3, 1) := by decide +kernel
theorem dX10_tellsIn_21 : decode cX10_tellsIn 21 = .ok (.aload_n 0, 1) := by decide +kernel
theorem dX10_tellsIn_22 : decode cX10_tellsIn 22 = .ok (.aload_n 0, 1) := by decide +kernel
theorem dX10_tellsIn_23 : decode cX10_tellsIn 23 = .ok (.getfield 251, 3) := by decide +kernel
theorem dX10_tellsIn_26 : decode cX10_tellsIn 26 = .ok (.iload_n 2, 1) := by decide +kernel
theorem dX10_tellsIn_27 : decode cX10_tellsIn 27 = .ok (.invokevirtual 248, 3) := by decide +kernel
theorem dX10_tellsIn_30 : decode cX10_tellsIn 30 = .ok (.ixor, 1) := by decide +kernel
theorem dX10_tellsIn_31 : decode cX10_tellsIn 31 = .ok (.ireturn, 1) := by decide +kernel
theorem dX10_tellsIn_32 : decode cX10_tellsIn 32 = .ok (.iload_n 1, 1) := by decide +kernel
theorem dX10_tellsIn_33 : decode cX10_tellsIn 33 = .ok (.iconst 4, 1) := by decide +kernel
theorem dX10_tellsIn_34 : decode cX10_tellsIn 34 = .ok (.if_icmp .ne 28, 3) := by decide +kernel
theorem dX10_tellsIn_37 : decode cX10_tellsIn 37 = .ok (.aload_n 0, 1) := by decide +kernel
theorem dX10_tellsIn_38 : decode cX10_tellsIn 38 = .ok (.bipush 50, 2) := by decide +kernel
theorem dX10_tellsIn_40 : decode cX10_tellsIn 40 = .ok (.invokevirtual 236, 3) := by decide +kernel
theorem dX10_tellsIn_43 : decode cX10_tellsIn 43 = .ok (.aload_n 0, 1) := by decide +kernel
theorem dX10_tellsIn_44 : decode cX10_tellsIn 44 = .ok (.iconst 1, 1) := by decide +kernel
theorem dX10_tellsIn_45 : decode cX10_tellsIn 45 = .ok (.iload_n 2, 1) := by decide +kernel
theorem dX10_tellsIn_46 : decode cX10_tellsIn 46 = .ok (.invokevirtual 257, 3) := by decide +kernel
theorem dX10_tellsIn_49 : decode cX10_tellsIn 49 = .ok (.istore_n 3, 1) := by decide +kernel
theorem dX10_tellsIn_50 : decode cX10_tellsIn 50 = .ok (.iload_n 3, 1) := by decide +kernel
theorem dX10_tellsIn_51 : decode cX10_tellsIn 51 = .ok (.aload_n 0, 1) := by decide +kernel
theorem dX10_tellsIn_52 : decode cX10_tellsIn 52 = .ok (.aload_n 0, 1) := by decide +kernel
theorem dX10_tellsIn_53 : decode cX10_tellsIn 53 = .ok (.getfield 251, 3) := by decide +kernel
theorem dX10_tellsIn_56 : decode cX10_tellsIn 56 = .ok (.iconst 2, 1) := by decide +kernel
theorem dX10_tellsIn_57 : decode cX10_tellsIn 57 = .ok (.invokevirtual 242, 3) := by decide +kernel
theorem dX10_tellsIn_60 : decode cX10_tellsIn 60 = .ok (.isub, 1) := by decide +kernel
theorem dX10_tellsIn_61 : decode cX10_tellsIn 61 = .ok (.ireturn, 1) := by decide +kernel
theorem dX10_tellsIn_62 : decode cX10_tellsIn 62 = .ok (.iload_n 1, 1) := by decide +kernel
theorem dX10_tellsIn_63 : decode cX10_tellsIn 63 = .ok (.bipush 6, 2) := by decide +kernel
theorem dX10_tellsIn_65 : decode cX10_tellsIn 65 = .ok (.if_icmp .ne 28, 3) := by decide +kernel
theorem dX10_tellsIn_68 : decode cX10_tellsIn 68 = .ok (.aload_n 0, 1) := by decide +kernel
theorem dX10_tellsIn_69 : decode cX10_tellsIn 69 = .ok (.bipush 71, 2) := by decide +kernel
theorem dX10_tellsIn_71 : decode cX10_tellsIn 71 = .ok (.invokevirtual 236, 3) := by decide +kernel
theorem dX10_tellsIn_74 : decode cX10_tellsIn 74 = .ok (.aload_n 0, 1) := by decide +kernel
theorem dX10_tellsIn_75 : decode cX10_tellsIn 75 = .ok (.aload_n 0, 1) := by decide +kernel
theorem dX10_tellsIn_76 : decode cX10_tellsIn 76 = .ok (.getfield 251, 3) := by decide +kernel
theorem dX10_tellsIn_79 : decode cX10_tellsIn 79 = .ok (.iload_n 2, 1) := by decide +kernel
theorem dX10_tellsIn_80 : decode cX10_tellsIn 80 = .ok (.invokevirtual 254, 3) := by decide +kernel
theorem dX10_tellsIn_83 : decode cX10_tellsIn 83 = .ok (.istore_n 3, 1) := by decide +kernel
theorem dX10_tellsIn_84 : decode cX10_tellsIn 84 = .ok (.iload_n 3, 1) := by decide +kernel
theorem dX10_tellsIn_85 : decode cX10_tellsIn 85 = .ok (.aload_n 0, 1) := by decide +kernel
theorem dX10_tellsIn_86 : decode cX10_tellsIn 86 = .ok (.iconst 3, 1) := by decide +kernel
theorem dX10_tellsIn_87 : decode cX10_tellsIn 87 = .ok (.iload_n 2, 1) := by decide +kernel
theorem dX10_tellsIn_88 : decode cX10_tellsIn 88 = .ok (.invokevirtual 257, 3) := by decide +kernel
theorem dX10_tellsIn_91 : decode cX10_tellsIn 91 = .ok (.isub, 1) := by decide +kernel
theorem dX10_tellsIn_92 : decode cX10_tellsIn 92 = .ok (.ireturn, 1) := by decide +kernel
theorem dX10_tellsIn_93 : decode cX10_tellsIn 93 = .ok (.aload_n 0, 1) := by decide +kernel
theorem dX10_tellsIn_94 : decode cX10_tellsIn 94 = .ok (.iload_n 1, 1) := by decide +kernel
theorem dX10_tellsIn_95 : decode cX10_tellsIn 95 = .ok (.invokestatic 92, 3) := by decide +kernel
theorem dX10_tellsIn_98 : decode cX10_tellsIn 98 = .ok (.iload_n 2, 1) := by decide +kernel
theorem dX10_tellsIn_99 : decode cX10_tellsIn 99 = .ok (.invokevirtual 257, 3) := by decide +kernel
theorem dX10_tellsIn_102 : decode cX10_tellsIn 102 = .ok (.ireturn, 1) := by decide +kernel
theorem dX10_voice_0 : decode cX10_voice 0 = .ok (.aload_n 0, 1) := by decide +kernel
theorem dX10_voice_1 : decode cX10_voice 1 = .ok (.iload_n 1, 1) := by decide +kernel
theorem dX10_voice_2 : decode cX10_voice 2 = .ok (.invokevirtual 80, 3) := by decide +kernel
theorem dX10_voice_5 : decode cX10_voice 5 = .ok (.ifCond .eq 12, 3) := by decide +kernel
theorem dX10_voice_8 : decode cX10_voice 8 = .ok (.iload_n 2, 1) := by decide +kernel
theorem dX10_voice_9 : decode cX10_voice 9 = .ok (.iconst 0, 1) := by decide +kernel
theorem dX10_voice_10 : decode cX10_voice 10 = .ok (.iconst 3, 1) := by decide +kernel
theorem dX10_voice_11 : decode cX10_voice 11 = .ok (.invokestatic 51, 3) := by decide +kernel
theorem dX10_voice_14 : decode cX10_voice 14 = .ok (.ifCond .ne 10, 3) := by decide +kernel
theorem dX10_voice_17 : decode cX10_voice 17 = .ok (.aload_n 0, 1) := by decide +kernel
theorem dX10_voice_18 : decode cX10_voice 18 = .ok (.ldc 59, 2) := by decide +kernel
theorem dX10_voice_20 : decode cX10_voice 20 = .ok (.invokevirtual 60, 3) := by decide +kernel
theorem dX10_voice_23 : decode cX10_voice 23 = .ok (.ireturn, 1) := by decide +kernel
theorem dX10_voice_24 : decode cX10_voice 24 = .ok (.aload_n 0, 1) := by decide +kernel
theorem dX10_voice_25 : decode cX10_voice 25 = .ok (.iconst 0, 1) := by decide +kernel
theorem dX10_voice_26 : decode cX10_voice 26 = .ok (.putfield 233, 3) := by decide +kernel
theorem dX10_voice_29 : decode cX10_voice 29 = .ok (.aload_n 0, 1) := by decide +kernel
theorem dX10_voice_30 : decode cX10_voice 30 = .ok (.aload_n 0, 1) := by decide +kernel
theorem dX10_voice_31 : decode cX10_voice 31 = .ok (.iload_n 1, 1) := by decide +kernel
theorem dX10_voice_32 : decode cX10_voice 32 = .ok (.iconst 0, 1) := by decide +kernel
theorem dX10_voice_33 : decode cX10_voice 33 = .ok (.invokevirtual 83, 3) := by decide +kernel
theorem dX10_voice_36 : decode cX10_voice 36 = .ok (.putfield 251, 3) := by decide +kernel
theorem dX10_voice_39 : decode cX10_voice 39 = .ok (.aload_n 0, 1) := by decide +kernel
theorem dX10_voice_40 : decode cX10_voice 40 = .ok (.iload_n 1, 1) := by decide +kernel
theorem dX10_voice_41 : decode cX10_voice 41 = .ok (.putfield 239, 3) := by decide +kernel
theorem dX10_voice_44 : decode cX10_voice 44 = .ok (.aload_n 0, 1) := by decide +kernel
theorem dX10_voice_45 : decode cX10_voice 45 = .ok (.aload_n 0, 1) := by decide +kernel
theorem dX10_voice_46 : decode cX10_voice 46 = .ok (.iload_n 1, 1) := by decide +kernel
theorem dX10_voice_47 : decode cX10_voice 47 = .ok (.iconst 1, 1) := by decide +kernel
theorem dX10_voice_48 : decode cX10_voice 48 = .ok (.invokevirtual 83, 3) := by decide +kernel
theorem dX10_voice_51 : decode cX10_voice 51 = .ok (.putfield 245, 3) := by decide +kernel
theorem dX10_voice_54 : decode cX10_voice 54 = .ok (.iload_n 2, 1) := by decide +kernel
theorem dX10_voice_55 : decode cX10_voice 55 = .ok (.tableswitch 55 0 2 #[25, 35, 45], 25) := by decide +kernel
theorem dX10_voice_80 : decode cX10_voice 80 = .ok (.aload_n 0, 1) := by decide +kernel
theorem dX10_voice_81 : decode cX10_voice 81 = .ok (.aload_n 0, 1) := by decide +kernel
theorem dX10_voice_82 : decode cX10_voice 82 = .ok (.getfield 251, 3) := by decide +kernel
theorem dX10_voice_85 : decode cX10_voice 85 = .ok (.iload_n 3, 1) := by decide +kernel
theorem dX10_voice_86 : decode cX10_voice 86 = .ok (.invokevirtual 242, 3) := by decide +kernel
theorem dX10_voice_89 : decode cX10_voice 89 = .ok (.ireturn, 1) := by decide +kernel
theorem dX10_voice_90 : decode cX10_voice 90 = .ok (.aload_n 0, 1) := by decide +kernel
theorem dX10_voice_91 : decode cX10_voice 91 = .ok (.aload_n 0, 1) := by decide +kernel
theorem dX10_voice_92 : decode cX10_voice 92 = .ok (.getfield 251, 3) := by decide +kernel
theorem dX10_voice_95 : decode cX10_voice 95 = .ok (.iload_n 3, 1) := by decide +kernel
theorem dX10_voice_96 : decode cX10_voice 96 = .ok (.invokevirtual 254, 3) := by decide +kernel
theorem dX10_voice_99 : decode cX10_voice 99 = .ok (.ireturn, 1) := by decide +kernel
theorem dX10_voice_100 : decode cX10_voice 100 = .ok (.aload_n 0, 1) := by decide +kernel
theorem dX10_voice_101 : decode cX10_voice 101 = .ok (.aload_n 0, 1) := by decide +kernel
theorem dX10_voice_102 : decode cX10_voice 102 = .ok (.getfield 251, 3) := by decide +kernel
theorem dX10_voice_105 : decode cX10_voice 105 = .ok (.iload_n 3, 1) := by decide +kernel
theorem dX10_voice_106 : decode cX10_voice 106 = .ok (.invokevirtual 248, 3) := by decide +kernel
theorem dX10_voice_109 : decode cX10_voice 109 = .ok (.ireturn, 1) := by decide +kernel
theorem dX10_voice_110 : decode cX10_voice 110 = .ok (.aload_n 0, 1) := by decide +kernel
theorem dX10_voice_111 : decode cX10_voice 111 = .ok (.aload_n 0, 1) := by decide +kernel
theorem dX10_voice_112 : decode cX10_voice 112 = .ok (.getfield 251, 3) := by decide +kernel
theorem dX10_voice_115 : decode cX10_voice 115 = .ok (.iload_n 3, 1) := by decide +kernel
theorem dX10_voice_116 : decode cX10_voice 116 = .ok (.invokevirtual 257, 3) := by decide +kernel
theorem dX10_voice_119 : decode cX10_voice 119 = .ok (.ireturn, 1) := by decide +kernel
theorem dX10_trace_0 : decode cX10_trace 0 = .ok (.iload_n 1, 1) := by decide +kernel
theorem dX10_trace_1 : decode cX10_trace 1 = .ok (.iconst 0, 1) := by decide +kernel
theorem dX10_trace_2 : decode cX10_trace 2 = .ok (.aload_n 0, 1) := by decide +kernel
theorem dX10_trace_3 : decode cX10_trace 3 = .ok (.getfield 233, 3) := by decide +kernel
theorem dX10_trace_6 : decode cX10_trace 6 = .ok (.iconst 1, 1) := by decide +kernel
theorem dX10_trace_7 : decode cX10_trace 7 = .ok (.isub, 1) := by decide +kernel
theorem dX10_trace_8 : decode cX10_trace 8 = .ok (.invokestatic 51, 3) := by decide +kernel
theorem dX10_trace_11 : decode cX10_trace 11 = .ok (.ifCond .eq 12, 3) := by decide +kernel
theorem dX10_trace_14 : decode cX10_trace 14 = .ok (.aload_n 0, 1) := by decide +kernel
theorem dX10_trace_15 : decode cX10_trace 15 = .ok (.getfield 47, 3) := by decide +kernel
theorem dX10_trace_18 : decode cX10_trace 18 = .ok (.iload_n 1, 1) := by decide +kernel
theorem dX10_trace_19 : decode cX10_trace 19 = .ok (.iaload, 1) := by decide +kernel
theorem dX10_trace_20 : decode cX10_trace 20 = .ok (.goto 9, 3) := by decide +kernel
theorem dX10_trace_23 : decode cX10_trace 23 = .ok (.aload_n 0, 1) := by decide +kernel
theorem dX10_trace_24 : decode cX10_trace 24 = .ok (.ldc 198, 2) := by decide +kernel
theorem dX10_trace_26 : decode cX10_trace 26 = .ok (.invokevirtual 60, 3) := by decide +kernel
theorem dX10_trace_29 : decode cX10_trace 29 = .ok (.ireturn, 1) := by decide +kernel
theorem dX10_narrow_0 : decode cX10_narrow 0 = .ok (.iload_n 0, 1) := by decide +kernel
theorem dX10_narrow_1 : decode cX10_narrow 1 = .ok (.bipush 8, 2) := by decide +kernel
theorem dX10_narrow_3 : decode cX10_narrow 3 = .ok (.if_icmp .ne 8, 3) := by decide +kernel
theorem dX10_narrow_6 : decode cX10_narrow 6 = .ok (.iload_n 1, 1) := by decide +kernel
theorem dX10_narrow_7 : decode cX10_narrow 7 = .ok (.i2b, 1) := by decide +kernel
theorem dX10_narrow_8 : decode cX10_narrow 8 = .ok (.goto 15, 3) := by decide +kernel
theorem dX10_narrow_11 : decode cX10_narrow 11 = .ok (.iload_n 0, 1) := by decide +kernel
theorem dX10_narrow_12 : decode cX10_narrow 12 = .ok (.bipush 16, 2) := by decide +kernel
theorem dX10_narrow_14 : decode cX10_narrow 14 = .ok (.if_icmp .ne 8, 3) := by decide +kernel
theorem dX10_narrow_17 : decode cX10_narrow 17 = .ok (.iload_n 1, 1) := by decide +kernel
theorem dX10_narrow_18 : decode cX10_narrow 18 = .ok (.i2s, 1) := by decide +kernel
theorem dX10_narrow_19 : decode cX10_narrow 19 = .ok (.goto 4, 3) := by decide +kernel
theorem dX10_narrow_22 : decode cX10_narrow 22 = .ok (.iload_n 1, 1) := by decide +kernel
theorem dX10_narrow_23 : decode cX10_narrow 23 = .ok (.ireturn, 1) := by decide +kernel
theorem dX10_sheet_0 : decode cX10_sheet 0 = .ok (.iload_n 1, 1) := by decide +kernel
theorem dX10_sheet_1 : decode cX10_sheet 1 = .ok (.invokestatic 199, 3) := by decide +kernel
theorem dX10_sheet_4 : decode cX10_sheet 4 = .ok (.ifCond .eq 25, 3) := by decide +kernel
theorem dX10_sheet_7 : decode cX10_sheet 7 = .ok (.iload_n 2, 1) := by decide +kernel
theorem dX10_sheet_8 : decode cX10_sheet 8 = .ok (.ifCond .eq 28, 3) := by decide +kernel
theorem dX10_sheet_11 : decode cX10_sheet 11 = .ok (.iload_n 2, 1) := by decide +kernel
theorem dX10_sheet_12 : decode cX10_sheet 12 = .ok (.bipush 8, 2) := by decide +kernel
theorem dX10_sheet_14 : decode cX10_sheet 14 = .ok (.if_icmp .eq 22, 3) := by decide +kernel
theorem dX10_sheet_17 : decode cX10_sheet 17 = .ok (.iload_n 2, 1) := by decide +kernel
theorem dX10_sheet_18 : decode cX10_sheet 18 = .ok (.bipush 16, 2) := by decide +kernel
theorem dX10_sheet_20 : decode cX10_sheet 20 = .ok (.if_icmp .eq 16, 3) := by decide +kernel
theorem dX10_sheet_23 : decode cX10_sheet 23 = .ok (.iload_n 2, 1) := by decide +kernel
theorem dX10_sheet_24 : decode cX10_sheet 24 = .ok (.bipush 32, 2) := by decide +kernel
theorem dX10_sheet_26 : decode cX10_sheet 26 = .ok (.if_icmp .eq 10, 3) := by decide +kernel
theorem dX10_sheet_29 : decode cX10_sheet 29 = .ok (.aload_n 0, 1) := by decide +kernel
theorem dX10_sheet_30 : decode cX10_sheet 30 = .ok (.ldc 59, 2) := by decide +kernel
theorem dX10_sheet_32 : decode cX10_sheet 32 = .ok (.invokevirtual 60, 3) := by decide +kernel
theorem dX10_sheet_35 : decode cX10_sheet 35 = .ok (.ireturn, 1) := by decide +kernel
theorem dX10_sheet_36 : decode cX10_sheet 36 = .ok (.iload_n 2, 1) := by decide +kernel
theorem dX10_sheet_37 : decode cX10_sheet 37 = .ok (.ifCond .eq 14, 3) := by decide +kernel
theorem dX10_sheet_40 : decode cX10_sheet 40 = .ok (.iload_n 3, 1) := by decide +kernel
theorem dX10_sheet_41 : decode cX10_sheet 41 = .ok (.ifCond .ge 10, 3) := by decide +kernel
theorem dX10_sheet_44 : decode cX10_sheet 44 = .ok (.aload_n 0, 1) := by decide +kernel
theorem dX10_sheet_45 : decode cX10_sheet 45 = .ok (.ldc 186, 2) := by decide +kernel
theorem dX10_sheet_47 : decode cX10_sheet 47 = .ok (.invokevirtual 60, 3) := by decide +kernel
theorem dX10_sheet_50 : decode cX10_sheet 50 = .ok (.ireturn, 1) := by decide +kernel
theorem dX10_sheet_51 : decode cX10_sheet 51 = .ok (.iload_n 2, 1) := by decide +kernel
theorem dX10_sheet_52 : decode cX10_sheet 52 = .ok (.ifCond .eq 16, 3) := by decide +kernel
theorem dX10_sheet_55 : decode cX10_sheet 55 = .ok (.iload_n 3, 1) := by decide +kernel
theorem dX10_sheet_56 : decode cX10_sheet 56 = .ok (.bipush 40, 2) := by decide +kernel
theorem dX10_sheet_58 : decode cX10_sheet 58 = .ok (.if_icmp .le 10, 3) := by decide +kernel
theorem dX10_sheet_61 : decode cX10_sheet 61 = .ok (.aload_n 0, 1) := by decide +kernel
theorem dX10_sheet_62 : decode cX10_sheet 62 = .ok (.ldc 59, 2) := by decide +kernel
theorem dX10_sheet_64 : decode cX10_sheet 64 = .ok (.invokevirtual 60, 3) := by decide +kernel
theorem dX10_sheet_67 : decode cX10_sheet 67 = .ok (.ireturn, 1) := by decide +kernel
theorem dX10_sheet_68 : decode cX10_sheet 68 = .ok (.aload_n 0, 1) := by decide +kernel
theorem dX10_sheet_69 : decode cX10_sheet 69 = .ok (.getfield 29, 3) := by decide +kernel
theorem dX10_sheet_72 : decode cX10_sheet 72 = .ok (.iload_n 1, 1) := by decide +kernel
theorem dX10_sheet_73 : decode cX10_sheet 73 = .ok (.iload_n 2, 1) := by decide +kernel
theorem dX10_sheet_74 : decode cX10_sheet 74 = .ok (.iastore, 1) := by decide +kernel
theorem dX10_sheet_75 : decode cX10_sheet 75 = .ok (.aload_n 0, 1) := by decide +kernel
theorem dX10_sheet_76 : decode cX10_sheet 76 = .ok (.getfield 32, 3) := by decide +kernel
theorem dX10_sheet_79 : decode cX10_sheet 79 = .ok (.iload_n 1, 1) := by decide +kernel
theorem dX10_sheet_80 : decode cX10_sheet 80 = .ok (.iload_n 2, 1) := by decide +kernel
theorem dX10_sheet_81 : decode cX10_sheet 81 = .ok (.ifCond .ne 7, 3) := by decide +kernel
theorem dX10_sheet_84 : decode cX10_sheet 84 = .ok (.iconst 0, 1) := by decide +kernel
theorem dX10_sheet_85 : decode cX10_sheet 85 = .ok (.goto 4, 3) := by decide +kernel
theorem dX10_sheet_88 : decode cX10_sheet 88 = .ok (.iload_n 3, 1) := by decide +kernel
theorem dX10_sheet_89 : decode cX10_sheet 89 = .ok (.iastore, 1) := by decide +kernel
theorem dX10_sheet_90 : decode cX10_sheet 90 = .ok (.iconst 0, 1) := by decide +kernel
theorem dX10_sheet_91 : decode cX10_sheet 91 = .ok (.istore 4, 2) := by decide +kernel
theorem dX10_sheet_93 : decode cX10_sheet 93 = .ok (.iload 4, 2) := by decide +kernel
theorem dX10_sheet_95 : decode cX10_sheet 95 = .ok (.bipush 40, 2) := by decide +kernel
theorem dX10_sheet_97 : decode cX10_sheet 97 = .ok (.if_icmp .ge 22, 3) := by decide +kernel
theorem dX10_sheet_100 : decode cX10_sheet 100 = .ok (.aload_n 0, 1) := by decide +kernel
theorem dX10_sheet_101 : decode cX10_sheet 101 = .ok (.getfield 35, 3) := by decide +kernel
theorem dX10_sheet_104 : decode cX10_sheet 104 = .ok (.bipush 40, 2) := by decide +kernel
theorem dX10_sheet_106 : decode cX10_sheet 106 = .ok (.iload_n 1, 1) := by decide +kernel
theorem dX10_sheet_107 : decode cX10_sheet 107 = .ok (.imul, 1) := by decide +kernel
theorem dX10_sheet_108 : decode cX10_sheet 108 = .ok (.iload 4, 2) := by decide +kernel
theorem dX10_sheet_110 : decode cX10_sheet 110 = .ok (.iadd, 1) := by decide +kernel
theorem dX10_sheet_111 : decode cX10_sheet 111 = .ok (.iconst 0, 1) := by decide +kernel
theorem dX10_sheet_112 : decode cX10_sheet 112 = .ok (.iastore, 1) := by decide +kernel
theorem dX10_sheet_113 : decode cX10_sheet 113 = .ok (.iinc 4 1, 3) := by decide +kernel
theorem dX10_sheet_116 : decode cX10_sheet 116 = .ok (.goto (-23), 3) := by decide +kernel
theorem dX10_sheet_119 : decode cX10_sheet 119 = .ok (.iconst 1, 1) := by decide +kernel
theorem dX10_sheet_120 : decode cX10_sheet 120 = .ok (.ireturn, 1) := by decide +kernel
theorem dX10_put_0 : decode cX10_put 0 = .ok (.iload_n 1, 1) := by decide +kernel
theorem dX10_put_1 : decode cX10_put 1 = .ok (.invokestatic 199, 3) := by decide +kernel
theorem dX10_put_4 : decode cX10_put 4 = .ok (.ifCond .ne 10, 3) := by decide +kernel
theorem dX10_put_7 : decode cX10_put 7 = .ok (.aload_n 0, 1) := by decide +kernel
theorem dX10_put_8 : decode cX10_put 8 = .ok (.ldc 59, 2) := by decide +kernel
theorem dX10_put_10 : decode cX10_put 10 = .ok (.invokevirtual 60, 3) := by decide +kernel
theorem dX10_put_13 : decode cX10_put 13 = .ok (.ireturn, 1) := by decide +kernel
theorem dX10_put_14 : decode cX10_put 14 = .ok (.aload_n 0, 1) := by decide +kernel
theorem dX10_put_15 : decode cX10_put 15 = .ok (.getfield 29, 3) := by decide +kernel
theorem dX10_put_18 : decode cX10_put 18 = .ok (.iload_n 1, 1) := by decide +kernel
theorem dX10_put_19 : decode cX10_put 19 = .ok (.iaload, 1) := by decide +kernel
theorem dX10_put_20 : decode cX10_put 20 = .ok (.ifCond .ne 10, 3) := by decide +kernel
theorem dX10_put_23 : decode cX10_put 23 = .ok (.aload_n 0, 1) := by decide +kernel
theorem dX10_put_24 : decode cX10_put 24 = .ok (.ldc 198, 2) := by decide +kernel
theorem dX10_put_26 : decode cX10_put 26 = .ok (.invokevirtual 60, 3) := by decide +kernel
theorem dX10_put_29 : decode cX10_put 29 = .ok (.ireturn, 1) := by decide +kernel
theorem dX10_put_30 : decode cX10_put 30 = .ok (.iload_n 2, 1) := by decide +kernel
theorem dX10_put_31 : decode cX10_put 31 = .ok (.iconst 0, 1) := by decide +kernel
theorem dX10_put_32 : decode cX10_put 32 = .ok (.aload_n 0, 1) := by decide +kernel
theorem dX10_put_33 : decode cX10_put 33 = .ok (.getfield 32, 3) := by decide +kernel
theorem dX10_put_36 : decode cX10_put 36 = .ok (.iload_n 1, 1) := by decide +kernel
theorem dX10_put_37 : decode cX10_put 37 = .ok (.iaload, 1) := by decide +kernel
theorem dX10_put_38 : decode cX10_put 38 = .ok (.iconst 1, 1) := by decide +kernel
theorem dX10_put_39 : decode cX10_put 39 = .ok (.isub, 1) := by decide +kernel
theorem dX10_put_40 : decode cX10_put 40 = .ok (.invokestatic 51, 3) := by decide +kernel
theorem dX10_put_43 : decode cX10_put 43 = .ok (.ifCond .ne 10, 3) := by decide +kernel
theorem dX10_put_46 : decode cX10_put 46 = .ok (.aload_n 0, 1) := by decide +kernel
theorem dX10_put_47 : decode cX10_put 47 = .ok (.ldc 59, 2) := by decide +kernel
theorem dX10_put_49 : decode cX10_put 49 = .ok (.invokevirtual 60, 3) := by decide +kernel
theorem dX10_put_52 : decode cX10_put 52 = .ok (.ireturn, 1) := by decide +kernel
theorem dX10_put_53 : decode cX10_put 53 = .ok (.aload_n 0, 1) := by decide +kernel
theorem dX10_put_54 : decode cX10_put 54 = .ok (.getfield 35, 3) := by decide +kernel
theorem dX10_put_57 : decode cX10_put 57 = .ok (.bipush 40, 2) := by decide +kernel
theorem dX10_put_59 : decode cX10_put 59 = .ok (.iload_n 1, 1) := by decide +kernel
theorem dX10_put_60 : decode cX10_put 60 = .ok (.imul, 1) := by decide +kernel
theorem dX10_put_61 : decode cX10_put 61 = .ok (.iload_n 2, 1) := by decide +kernel
theorem dX10_put_62 : decode cX10_put 62 = .ok (.iadd, 1) := by decide +kernel
theorem dX10_put_63 : decode cX10_put 63 = .ok (.aload_n 0, 1) := by decide +kernel
theorem dX10_put_64 : decode cX10_put 64 = .ok (.getfield 29, 3) := by decide +kernel
theorem dX10_put_67 : decode cX10_put 67 = .ok (.iload_n 1, 1) := by decide +kernel
theorem dX10_put_68 : decode cX10_put 68 = .ok (.iaload, 1) := by decide +kernel
theorem dX10_put_69 : decode cX10_put 69 = .ok (.iload_n 3, 1) := by decide +kernel
theorem dX10_put_70 : decode cX10_put 70 = .ok (.invokestatic 260, 3) := by decide +kernel
theorem dX10_put_73 : decode cX10_put 73 = .ok (.iastore, 1) := by decide +kernel
theorem dX10_put_74 : decode cX10_put 74 = .ok (.iconst 1, 1) := by decide +kernel
theorem dX10_put_75 : decode cX10_put 75 = .ok (.ireturn, 1) := by decide +kernel
theorem dX10_move_0 : decode cX10_move 0 = .ok (.iload_n 1, 1) := by decide +kernel
theorem dX10_move_1 : decode cX10_move 1 = .ok (.invokestatic 199, 3) := by decide +kernel
theorem dX10_move_4 : decode cX10_move 4 = .ok (.ifCond .eq 10, 3) := by decide +kernel
theorem dX10_move_7 : decode cX10_move 7 = .ok (.iload_n 3, 1) := by decide +kernel
theorem dX10_move_8 : decode cX10_move 8 = .ok (.invokestatic 199, 3) := by decide +kernel
theorem dX10_move_11 : decode cX10_move 11 = .ok (.ifCond .ne 10, 3) := by decide +kernel
theorem dX10_move_14 : decode cX10_move 14 = .ok (.aload_n 0, 1) := by decide +kernel
theorem dX10_move_15 : decode cX10_move 15 = .ok (.ldc 59, 2) := by decide +kernel
theorem dX10_move_17 : decode cX10_move 17 = .ok (.invokevirtual 60, 3) := by decide +kernel
theorem dX10_move_20 : decode cX10_move 20 = .ok (.ireturn, 1) := by decide +kernel
theorem dX10_move_21 : decode cX10_move 21 = .ok (.aload_n 0, 1) := by decide +kernel
theorem dX10_move_22 : decode cX10_move 22 = .ok (.getfield 29, 3) := by decide +kernel
theorem dX10_move_25 : decode cX10_move 25 = .ok (.iload_n 1, 1) := by decide +kernel
theorem dX10_move_26 : decode cX10_move 26 = .ok (.iaload, 1) := by decide +kernel
theorem dX10_move_27 : decode cX10_move 27 = .ok (.ifCond .eq 12, 3) := by decide +kernel
theorem dX10_move_30 : decode cX10_move 30 = .ok (.aload_n 0, 1) := by decide +kernel
theorem dX10_move_31 : decode cX10_move 31 = .ok (.getfield 29, 3) := by decide +kernel
theorem dX10_move_34 : decode cX10_move 34 = .ok (.iload_n 3, 1) := by decide +kernel
theorem dX10_move_35 : decode cX10_move 35 = .ok (.iaload, 1) := by decide +kernel
theorem dX10_move_36 : decode cX10_move 36 = .ok (.ifCond .ne 10, 3) := by decide +kernel
theorem dX10_move_39 : decode cX10_move 39 = .ok (.aload_n 0, 1) := by decide +kernel
theorem dX10_move_40 : decode cX10_move 40 = .ok (.ldc 198, 2) := by decide +kernel
theorem dX10_move_42 : decode cX10_move 42 = .ok (.invokevirtual 60, 3) := by decide +kernel
theorem dX10_move_45 : decode cX10_move 45 = .ok (.ireturn, 1) := by decide +kernel
theorem dX10_move_46 : decode cX10_move 46 = .ok (.aload_n 0, 1) := by decide +kernel
theorem dX10_move_47 : decode cX10_move 47 = .ok (.getfield 29, 3) := by decide +kernel
theorem dX10_move_50 : decode cX10_move 50 = .ok (.iload_n 1, 1) := by decide +kernel
theorem dX10_move_51 : decode cX10_move 51 = .ok (.iaload, 1) := by decide +kernel
theorem dX10_move_52 : decode cX10_move 52 = .ok (.aload_n 0, 1) := by decide +kernel
theorem dX10_move_53 : decode cX10_move 53 = .ok (.getfield 29, 3) := by decide +kernel
theorem dX10_move_56 : decode cX10_move 56 = .ok (.iload_n 3, 1) := by decide +kernel
theorem dX10_move_57 : decode cX10_move 57 = .ok (.iaload, 1) := by decide +kernel
theorem dX10_move_58 : decode cX10_move 58 = .ok (.if_icmp .eq 10, 3) := by decide +kernel
theorem dX10_move_61 : decode cX10_move 61 = .ok (.aload_n 0, 1) := by decide +kernel
theorem dX10_move_62 : decode cX10_move 62 = .ok (.ldc 95, 2) := by decide +kernel
theorem dX10_move_64 : decode cX10_move 64 = .ok (.invokevirtual 60, 3) := by decide +kernel
theorem dX10_move_67 : decode cX10_move 67 = .ok (.ireturn, 1) := by decide +kernel
theorem dX10_move_68 : decode cX10_move 68 = .ok (.iload 5, 2) := by decide +kernel
theorem dX10_move_70 : decode cX10_move 70 = .ok (.ifCond .lt 39, 3) := by decide +kernel
theorem dX10_move_73 : decode cX10_move 73 = .ok (.iload_n 2, 1) := by decide +kernel
theorem dX10_move_74 : decode cX10_move 74 = .ok (.ifCond .lt 35, 3) := by decide +kernel
theorem dX10_move_77 : decode cX10_move 77 = .ok (.iload 4, 2) := by decide +kernel
theorem dX10_move_79 : decode cX10_move 79 = .ok (.ifCond .lt 30, 3) := by decide +kernel
theorem dX10_move_82 : decode cX10_move 82 = .ok (.iload_n 2, 1) := by decide +kernel
theorem dX10_move_83 : decode cX10_move 83 = .ok (.aload_n 0, 1) := by decide +kernel
theorem dX10_move_84 : decode cX10_move 84 = .ok (.getfield 32, 3) := by decide +kernel
theorem dX10_move_87 : decode cX10_move 87 = .ok (.iload_n 1, 1) := by decide +kernel
theorem dX10_move_88 : decode cX10_move 88 = .ok (.iaload, 1) := by decide +kernel
theorem dX10_move_89 : decode cX10_move 89 = .ok (.iload 5, 2) := by decide +kernel
theorem dX10_move_91 : decode cX10_move 91 = .ok (.isub, 1) := by decide +kernel
theorem dX10_move_92 : decode cX10_move 92 = .ok (.if_icmp .gt 17, 3) := by decide +kernel
theorem dX10_move_95 : decode cX10_move 95 = .ok (.iload 4, 2) := by decide +kernel
theorem dX10_move_97 : decode cX10_move 97 = .ok (.aload_n 0, 1) := by decide +kernel
theorem dX10_move_98 : decode cX10_move 98 = .ok (.getfield 32, 3) := by decide +kernel
theorem dX10_move_101 : decode cX10_move 101 = .ok (.iload_n 3, 1) := by decide +kernel
theorem dX10_move_102 : decode cX10_move 102 = .ok (.iaload, 1) := by decide +kernel
theorem dX10_move_103 : decode cX10_move 103 = .ok (.iload 5, 2) := by decide +kernel
theorem dX10_move_105 : decode cX10_move 105 = .ok (.isub, 1) := by decide +kernel
theorem dX10_move_106 : decode cX10_move 106 = .ok (.if_icmp .le 10, 3) := by decide +kernel
theorem dX10_move_109 : decode cX10_move 109 = .ok (.aload_n 0, 1) := by decide +kernel
theorem dX10_move_110 : decode cX10_move 110 = .ok (.ldc 59, 2) := by decide +kernel
theorem dX10_move_112 : decode cX10_move 112 = .ok (.invokevirtual 60, 3) := by decide +kernel
theorem dX10_move_115 : decode cX10_move 115 = .ok (.ireturn, 1) := by decide +kernel
theorem dX10_move_116 : decode cX10_move 116 = .ok (.iconst 0, 1) := by decide +kernel
theorem dX10_move_117 : decode cX10_move 117 = .ok (.istore 6, 2) := by decide +kernel
theorem dX10_move_119 : decode cX10_move 119 = .ok (.iload 6, 2) := by decide +kernel
theorem dX10_move_121 : decode cX10_move 121 = .ok (.iload 5, 2) := by decide +kernel
theorem dX10_move_123 : decode cX10_move 123 = .ok (.if_icmp .ge 30, 3) := by decide +kernel
theorem dX10_move_126 : decode cX10_move 126 = .ok (.aload_n 0, 1) := by decide +kernel
theorem dX10_move_127 : decode cX10_move 127 = .ok (.getfield 38, 3) := by decide +kernel
theorem dX10_move_130 : decode cX10_move 130 = .ok (.iload 6, 2) := by decide +kernel
theorem dX10_move_132 : decode cX10_move 132 = .ok (.aload_n 0, 1) := by decide +kernel
theorem dX10_move_133 : decode cX10_move 133 = .ok (.getfield 35, 3) := by decide +kernel
theorem dX10_move_136 : decode cX10_move 136 = .ok (.bipush 40, 2) := by decide +kernel
theorem dX10_move_138 : decode cX10_move 138 = .ok (.iload_n 1, 1) := by decide +kernel
theorem dX10_move_139 : decode cX10_move 139 = .ok (.imul, 1) := by decide +kernel
theorem dX10_move_140 : decode cX10_move 140 = .ok (.iload_n 2, 1) := by decide +kernel
theorem dX10_move_141 : decode cX10_move 141 = .ok (.iadd, 1) := by decide +kernel
theorem dX10_move_142 : decode cX10_move 142 = .ok (.iload 6, 2) := by decide +kernel
theorem dX10_move_144 : decode cX10_move 144 = .ok (.iadd, 1) := by decide +kernel
theorem dX10_move_145 : decode cX10_move 145 = .ok (.iaload, 1) := by decide +kernel
theorem dX10_move_146 : decode cX10_move 146 = .ok (.iastore, 1) := by decide +kernel
theorem dX10_move_147 : decode cX10_move 147 = .ok (.iinc 6 1, 3) := by decide +kernel
theorem dX10_move_150 : decode cX10_move 150 = .ok (.goto (-31), 3) := by decide +kernel
theorem dX10_move_153 : decode cX10_move 153 = .ok (.iconst 0, 1) := by decide +kernel
theorem dX10_move_154 : decode cX10_move 154 = .ok (.istore 6, 2) := by decide +kernel
theorem dX10_move_156 : decode cX10_move 156 = .ok (.iload 6, 2) := by decide +kernel
theorem dX10_move_158 : decode cX10_move 158 = .ok (.iload 5, 2) := by decide +kernel
theorem dX10_move_160 : decode cX10_move 160 = .ok (.if_icmp .ge 31, 3) := by decide +kernel
theorem dX10_move_163 : decode cX10_move 163 = .ok (.aload_n 0, 1) := by decide +kernel
theorem dX10_move_164 : decode cX10_move 164 = .ok (.getfield 35, 3) := by decide +kernel
theorem dX10_move_167 : decode cX10_move 167 = .ok (.bipush 40, 2) := by decide +kernel
theorem dX10_move_169 : decode cX10_move 169 = .ok (.iload_n 3, 1) := by decide +kernel
theorem dX10_move_170 : decode cX10_move 170 = .ok (.imul, 1) := by decide +kernel
theorem dX10_move_171 : decode cX10_move 171 = .ok (.iload 4, 2) := by decide +kernel
theorem dX10_move_173 : decode cX10_move 173 = .ok (.iadd, 1) := by decide +kernel
theorem dX10_move_174 : decode cX10_move 174 = .ok (.iload 6, 2) := by decide +kernel
theorem dX10_move_176 : decode cX10_move 176 = .ok (.iadd, 1) := by decide +kernel
theorem dX10_move_177 : decode cX10_move 177 = .ok (.aload_n 0, 1) := by decide +kernel
theorem dX10_move_178 : decode cX10_move 178 = .ok (.getfield 38, 3) := by decide +kernel
theorem dX10_move_181 : decode cX10_move 181 = .ok (.iload 6, 2) := by decide +kernel
theorem dX10_move_183 : decode cX10_move 183 = .ok (.iaload, 1) := by decide +kernel
theorem dX10_move_184 : decode cX10_move 184 = .ok (.iastore, 1) := by decide +kernel
theorem dX10_move_185 : decode cX10_move 185 = .ok (.iinc 6 1, 3) := by decide +kernel
theorem dX10_move_188 : decode cX10_move 188 = .ok (.goto (-32), 3) := by decide +kernel
theorem dX10_move_191 : decode cX10_move 191 = .ok (.iload 5, 2) := by decide +kernel
theorem dX10_move_193 : decode cX10_move 193 = .ok (.ireturn, 1) := by decide +kernel
theorem dX10_talls_0 : decode cX10_talls 0 = .ok (.iload_n 1, 1) := by decide +kernel
theorem dX10_talls_1 : decode cX10_talls 1 = .ok (.invokestatic 199, 3) := by decide +kernel
theorem dX10_talls_4 : decode cX10_talls 4 = .ok (.ifCond .ne 10, 3) := by decide +kernel
theorem dX10_talls_7 : decode cX10_talls 7 = .ok (.aload_n 0, 1) := by decide +kernel
theorem dX10_talls_8 : decode cX10_talls 8 = .ok (.ldc 59, 2) := by decide +kernel
theorem dX10_talls_10 : decode cX10_talls 10 = .ok (.invokevirtual 60, 3) := by decide +kernel
theorem dX10_talls_13 : decode cX10_talls 13 = .ok (.ireturn, 1) := by decide +kernel
theorem dX10_talls_14 : decode cX10_talls 14 = .ok (.aload_n 0, 1) := by decide +kernel
theorem dX10_talls_15 : decode cX10_talls 15 = .ok (.getfield 29, 3) := by decide +kernel
theorem dX10_talls_18 : decode cX10_talls 18 = .ok (.iload_n 1, 1) := by decide +kernel
theorem dX10_talls_19 : decode cX10_talls 19 = .ok (.iaload, 1) := by decide +kernel
theorem dX10_talls_20 : decode cX10_talls 20 = .ok (.ifCond .ne 10, 3) := by decide +kernel
theorem dX10_talls_23 : decode cX10_talls 23 = .ok (.aload_n 0, 1) := by decide +kernel
theorem dX10_talls_24 : decode cX10_talls 24 = .ok (.ldc 198, 2) := by decide +kernel
theorem dX10_talls_26 : decode cX10_talls 26 = .ok (.invokevirtual 60, 3) := by decide +kernel
theorem dX10_talls_29 : decode cX10_talls 29 = .ok (.ireturn, 1) := by decide +kernel
theorem dX10_talls_30 : decode cX10_talls 30 = .ok (.iconst 0, 1) := by decide +kernel
theorem dX10_talls_31 : decode cX10_talls 31 = .ok (.istore_n 2, 1) := by decide +kernel
theorem dX10_talls_32 : decode cX10_talls 32 = .ok (.iload_n 2, 1) := by decide +kernel
theorem dX10_talls_33 : decode cX10_talls 33 = .ok (.aload_n 0, 1) := by decide +kernel
theorem dX10_talls_34 : decode cX10_talls 34 = .ok (.getfield 32, 3) := by decide +kernel
theorem dX10_talls_37 : decode cX10_talls 37 = .ok (.iload_n 1, 1) := by decide +kernel
theorem dX10_talls_38 : decode cX10_talls 38 = .ok (.iaload, 1) := by decide +kernel
theorem dX10_talls_39 : decode cX10_talls 39 = .ok (.if_icmp .ge 57, 3) := by decide +kernel
theorem dX10_talls_42 : decode cX10_talls 42 = .ok (.iload_n 2, 1) := by decide +kernel
theorem dX10_talls_43 : decode cX10_talls 43 = .ok (.bipush 10, 2) := by decide +kernel
theorem dX10_talls_45 : decode cX10_talls 45 = .ok (.if_icmp .ge 51, 3) := by decide +kernel
theorem dX10_talls_48 : decode cX10_talls 48 = .ok (.aload_n 0, 1) := by decide +kernel
theorem dX10_talls_49 : decode cX10_talls 49 = .ok (.getfield 35, 3) := by decide +kernel
theorem dX10_talls_52 : decode cX10_talls 52 = .ok (.bipush 40, 2) := by decide +kernel
theorem dX10_talls_54 : decode cX10_talls 54 = .ok (.iload_n 1, 1) := by decide +kernel
theorem dX10_talls_55 : decode cX10_talls 55 = .ok (.imul, 1) := by decide +kernel
theorem dX10_talls_56 : decode cX10_talls 56 = .ok (.iload_n 2, 1) := by decide +kernel
theorem dX10_talls_57 : decode cX10_talls 57 = .ok (.iadd, 1) := by decide +kernel
theorem dX10_talls_58 : decode cX10_talls 58 = .ok (.iaload, 1) := by decide +kernel
theorem dX10_talls_59 : decode cX10_talls 59 = .ok (.iconst 0, 1) := by decide +kernel
theorem dX10_talls_60 : decode cX10_talls 60 = .ok (.bipush 9, 2) := by decide +kernel
theorem dX10_talls_62 : decode cX10_talls 62 = .ok (.invokestatic 51, 3) := by decide +kernel
theorem dX10_talls_65 : decode cX10_talls 65 = .ok (.ifCond .eq 31, 3) := by decide +kernel
theorem dX10_talls_68 : decode cX10_talls 68 = .ok (.aload_n 0, 1) := by decide +kernel
theorem dX10_talls_69 : decode cX10_talls 69 = .ok (.getfield 7, 3) := by decide +kernel
theorem dX10_talls_72 : decode cX10_talls 72 = .ok (.bipush 24, 2) := by decide +kernel
theorem dX10_talls_74 : decode cX10_talls 74 = .ok (.iconst 2, 1) := by decide +kernel
theorem dX10_talls_75 : decode cX10_talls 75 = .ok (.iload_n 2, 1) := by decide +kernel
theorem dX10_talls_76 : decode cX10_talls 76 = .ok (.imul, 1) := by decide +kernel
theorem dX10_talls_77 : decode cX10_talls 77 = .ok (.iadd, 1) := by decide +kernel
theorem dX10_talls_78 : decode cX10_talls 78 = .ok (.aload_n 0, 1) := by decide +kernel
theorem dX10_talls_79 : decode cX10_talls 79 = .ok (.getfield 35, 3) := by decide +kernel
theorem dX10_talls_82 : decode cX10_talls 82 = .ok (.bipush 40, 2) := by decide +kernel
theorem dX10_talls_84 : decode cX10_talls 84 = .ok (.iload_n 1, 1) := by decide +kernel
theorem dX10_talls_85 : decode cX10_talls 85 = .ok (.imul, 1) := by decide +kernel
theorem dX10_talls_86 : decode cX10_talls 86 = .ok (.iload_n 2, 1) := by decide +kernel
theorem dX10_talls_87 : decode cX10_talls 87 = .ok (.iadd, 1) := by decide +kernel
theorem dX10_talls_88 : decode cX10_talls 88 = .ok (.iaload, 1) := by decide +kernel
theorem dX10_talls_89 : decode cX10_talls 89 = .ok (.iastore, 1) := by decide +kernel
theorem dX10_talls_90 : decode cX10_talls 90 = .ok (.iinc 2 1, 3) := by decide +kernel
theorem dX10_talls_93 : decode cX10_talls 93 = .ok (.goto (-61), 3) := by decide +kernel
theorem dX10_talls_96 : decode cX10_talls 96 = .ok (.iload_n 2, 1) := by decide +kernel
theorem dX10_talls_97 : decode cX10_talls 97 = .ok (.ireturn, 1) := by decide +kernel
theorem dX10_judge_0 : decode cX10_judge 0 = .ok (.iload_n 1, 1) := by decide +kernel
theorem dX10_judge_1 : decode cX10_judge 1 = .ok (.invokestatic 199, 3) := by decide +kernel
theorem dX10_judge_4 : decode cX10_judge 4 = .ok (.ifCond .ne 10, 3) := by decide +kernel
theorem dX10_judge_7 : decode cX10_judge 7 = .ok (.aload_n 0, 1) := by decide +kernel
theorem dX10_judge_8 : decode cX10_judge 8 = .ok (.ldc 59, 2) := by decide +kernel
theorem dX10_judge_10 : decode cX10_judge 10 = .ok (.invokevirtual 60, 3) := by decide +kernel
theorem dX10_judge_13 : decode cX10_judge 13 = .ok (.ireturn, 1) := by decide +kernel
theorem dX10_judge_14 : decode cX10_judge 14 = .ok (.aload_n 0, 1) := by decide +kernel
theorem dX10_judge_15 : decode cX10_judge 15 = .ok (.getfield 29, 3) := by decide +kernel
theorem dX10_judge_18 : decode cX10_judge 18 = .ok (.iload_n 1, 1) := by decide +kernel
theorem dX10_judge_19 : decode cX10_judge 19 = .ok (.iaload, 1) := by decide +kernel
theorem dX10_judge_20 : decode cX10_judge 20 = .ok (.ifCond .ne 10, 3) := by decide +kernel
theorem dX10_judge_23 : decode cX10_judge 23 = .ok (.aload_n 0, 1) := by decide +kernel
theorem dX10_judge_24 : decode cX10_judge 24 = .ok (.ldc 198, 2) := by decide +kernel
theorem dX10_judge_26 : decode cX10_judge 26 = .ok (.invokevirtual 60, 3) := by decide +kernel
theorem dX10_judge_29 : decode cX10_judge 29 = .ok (.ireturn, 1) := by decide +kernel
theorem dX10_judge_30 : decode cX10_judge 30 = .ok (.iconst 0, 1) := by decide +kernel
theorem dX10_judge_31 : decode cX10_judge 31 = .ok (.istore_n 2, 1) := by decide +kernel
theorem dX10_judge_32 : decode cX10_judge 32 = .ok (.iload_n 2, 1) := by decide +kernel
theorem dX10_judge_33 : decode cX10_judge 33 = .ok (.aload_n 0, 1) := by decide +kernel
theorem dX10_judge_34 : decode cX10_judge 34 = .ok (.getfield 7, 3) := by decide +kernel
theorem dX10_judge_37 : decode cX10_judge 37 = .ok (.iconst 2, 1) := by decide +kernel
theorem dX10_judge_38 : decode cX10_judge 38 = .ok (.iaload, 1) := by decide +kernel
theorem dX10_judge_39 : decode cX10_judge 39 = .ok (.if_icmp .ge 39, 3) := by decide +kernel
theorem dX10_judge_42 : decode cX10_judge 42 = .ok (.iload_n 2, 1) := by decide +kernel
theorem dX10_judge_43 : decode cX10_judge 43 = .ok (.aload_n 0, 1) := by decide +kernel
theorem dX10_judge_44 : decode cX10_judge 44 = .ok (.getfield 32, 3) := by decide +kernel
theorem dX10_judge_47 : decode cX10_judge 47 = .ok (.iload_n 1, 1) := by decide +kernel
theorem dX10_judge_48 : decode cX10_judge 48 = .ok (.iaload, 1) := by decide +kernel
theorem dX10_judge_49 : decode cX10_judge 49 = .ok (.if_icmp .ge 29, 3) := by decide +kernel
theorem dX10_judge_52 : decode cX10_judge 52 = .ok (.aload_n 0, 1) := by decide +kernel
theorem dX10_judge_53 : decode cX10_judge 53 = .ok (.getfield 35, 3) := by decide +kernel
theorem dX10_judge_56 : decode cX10_judge 56 = .ok (.bipush 40, 2) := by decide +kernel
theorem dX10_judge_58 : decode cX10_judge 58 = .ok (.iload_n 1, 1) := by decide +kernel
theorem dX10_judge_59 : decode cX10_judge 59 = .ok (.imul, 1) := by decide +kernel
theorem dX10_judge_60 : decode cX10_judge 60 = .ok (.iload_n 2, 1) := by decide +kernel
theorem dX10_judge_61 : decode cX10_judge 61 = .ok (.iadd, 1) := by decide +kernel
theorem dX10_judge_62 : decode cX10_judge 62 = .ok (.iaload, 1) := by decide +kernel
theorem dX10_judge_63 : decode cX10_judge 63 = .ok (.aload_n 0, 1) := by decide +kernel
theorem dX10_judge_64 : decode cX10_judge 64 = .ok (.iload_n 2, 1) := by decide +kernel
theorem dX10_judge_65 : decode cX10_judge 65 = .ok (.iconst 2, 1) := by decide +kernel
theorem dX10_judge_66 : decode cX10_judge 66 = .ok (.invokevirtual 83, 3) := by decide +kernel
theorem dX10_judge_69 : decode cX10_judge 69 = .ok (.if_icmp .ne 9, 3) := by decide +kernel
theorem dX10_judge_72 : decode cX10_judge 72 = .ok (.iinc 2 1, 3) := by decide +kernel
theorem dX10_judge_75 : decode cX10_judge 75 = .ok (.goto (-43), 3) := by decide +kernel
theorem dX10_judge_78 : decode cX10_judge 78 = .ok (.iload_n 2, 1) := by decide +kernel
theorem dX10_judge_79 : decode cX10_judge 79 = .ok (.aload_n 0, 1) := by decide +kernel
theorem dX10_judge_80 : decode cX10_judge 80 = .ok (.getfield 7, 3) := by decide +kernel
theorem dX10_judge_83 : decode cX10_judge 83 = .ok (.iconst 2, 1) := by decide +kernel
theorem dX10_judge_84 : decode cX10_judge 84 = .ok (.iaload, 1) := by decide +kernel
theorem dX10_judge_85 : decode cX10_judge 85 = .ok (.if_icmp .ne 17, 3) := by decide +kernel
theorem dX10_judge_88 : decode cX10_judge 88 = .ok (.iload_n 2, 1) := by decide +kernel
theorem dX10_judge_89 : decode cX10_judge 89 = .ok (.aload_n 0, 1) := by decide +kernel
theorem dX10_judge_90 : decode cX10_judge 90 = .ok (.getfield 32, 3) := by decide +kernel
theorem dX10_judge_93 : decode cX10_judge 93 = .ok (.iload_n 1, 1) := by decide +kernel
theorem dX10_judge_94 : decode cX10_judge 94 = .ok (.iaload, 1) := by decide +kernel
theorem dX10_judge_95 : decode cX10_judge 95 = .ok (.if_icmp .ne 7, 3) := by decide +kernel
theorem dX10_judge_98 : decode cX10_judge 98 = .ok (.iconst (-1), 1) := by decide +kernel
theorem dX10_judge_99 : decode cX10_judge 99 = .ok (.goto 4, 3) := by decide +kernel
theorem dX10_judge_102 : decode cX10_judge 102 = .ok (.iload_n 2, 1) := by decide +kernel
theorem dX10_judge_103 : decode cX10_judge 103 = .ok (.ireturn, 1) := by decide +kernel
theorem dX10_image_0 : decode cX10_image 0 = .ok (.aload_n 0, 1) := by decide +kernel
theorem dX10_image_1 : decode cX10_image 1 = .ok (.aload_n 0, 1) := by decide +kernel
theorem dX10_image_2 : decode cX10_image 2 = .ok (.getfield 7, 3) := by decide +kernel
theorem dX10_image_5 : decode cX10_image 5 = .ok (.aload_n 0, 1) := by decide +kernel
theorem dX10_image_6 : decode cX10_image 6 = .ok (.getfield 13, 3) := by decide +kernel
theorem dX10_image_9 : decode cX10_image 9 = .ok (.invokevirtual 167, 3) := by decide +kernel
theorem dX10_image_12 : decode cX10_image 12 = .ok (.aload_n 0, 1) := by decide +kernel
theorem dX10_image_13 : decode cX10_image 13 = .ok (.iconst 1, 1) := by decide +kernel
theorem dX10_image_14 : decode cX10_image 14 = .ok (.putfield 263, 3) := by decide +kernel
theorem dX10_image_17 : decode cX10_image 17 = .ok (.aload_n 0, 1) := by decide +kernel
theorem dX10_image_18 : decode cX10_image 18 = .ok (.dup, 1) := by decide +kernel
theorem dX10_image_19 : decode cX10_image 19 = .ok (.getfield 266, 3) := by decide +kernel
theorem dX10_image_22 : decode cX10_image 22 = .ok (.iconst 1, 1) := by decide +kernel
theorem dX10_image_23 : decode cX10_image 23 = .ok (.iadd, 1) := by decide +kernel
theorem dX10_image_24 : decode cX10_image 24 = .ok (.putfield 266, 3) := by decide +kernel
theorem dX10_image_27 : decode cX10_image 27 = .ok (.aload_n 0, 1) := by decide +kernel
theorem dX10_image_28 : decode cX10_image 28 = .ok (.getfield 266, 3) := by decide +kernel
theorem dX10_image_31 : decode cX10_image 31 = .ok (.ireturn, 1) := by decide +kernel
theorem dX10_restore_0 : decode cX10_restore 0 = .ok (.aload_n 0, 1) := by decide +kernel
theorem dX10_restore_1 : decode cX10_restore 1 = .ok (.getfield 263, 3) := by decide +kernel
theorem dX10_restore_4 : decode cX10_restore 4 = .ok (.ifCond .ne 10, 3) := by decide +kernel
theorem dX10_restore_7 : decode cX10_restore 7 = .ok (.aload_n 0, 1) := by decide +kernel
theorem dX10_restore_8 : decode cX10_restore 8 = .ok (.ldc 198, 2) := by decide +kernel
theorem dX10_restore_10 : decode cX10_restore 10 = .ok (.invokevirtual 60, 3) := by decide +kernel
theorem dX10_restore_13 : decode cX10_restore 13 = .ok (.ireturn, 1) := by decide +kernel
theorem dX10_restore_14 : decode cX10_restore 14 = .ok (.aload_n 0, 1) := by decide +kernel
theorem dX10_restore_15 : decode cX10_restore 15 = .ok (.aload_n 0, 1) := by decide +kernel
theorem dX10_restore_16 : decode cX10_restore 16 = .ok (.getfield 13, 3) := by decide +kernel
theorem dX10_restore_19 : decode cX10_restore 19 = .ok (.aload_n 0, 1) := by decide +kernel
theorem dX10_restore_20 : decode cX10_restore 20 = .ok (.getfield 7, 3) := by decide +kernel
theorem dX10_restore_23 : decode cX10_restore 23 = .ok (.invokevirtual 167, 3) := by decide +kernel
theorem dX10_restore_26 : decode cX10_restore 26 = .ok (.aload_n 0, 1) := by decide +kernel
theorem dX10_restore_27 : decode cX10_restore 27 = .ok (.getfield 7, 3) := by decide +kernel
theorem dX10_restore_30 : decode cX10_restore 30 = .ok (.iconst 0, 1) := by decide +kernel
theorem dX10_restore_31 : decode cX10_restore 31 = .ok (.iaload, 1) := by decide +kernel
theorem dX10_restore_32 : decode cX10_restore 32 = .ok (.ireturn, 1) := by decide +kernel
theorem dX10_tell_0 : decode cX10_tell 0 = .ok (.aload_n 0, 1) := by decide +kernel
theorem dX10_tell_1 : decode cX10_tell 1 = .ok (.getfield 7, 3) := by decide +kernel
theorem dX10_tell_4 : decode cX10_tell 4 = .ok (.bipush 9, 2) := by decide +kernel
theorem dX10_tell_6 : decode cX10_tell 6 = .ok (.iaload, 1) := by decide +kernel
theorem dX10_tell_7 : decode cX10_tell 7 = .ok (.bipush 20, 2) := by decide +kernel
theorem dX10_tell_9 : decode cX10_tell 9 = .ok (.if_icmp .ne 10, 3) := by decide +kernel
theorem dX10_tell_12 : decode cX10_tell 12 = .ok (.aload_n 0, 1) := by decide +kernel
theorem dX10_tell_13 : decode cX10_tell 13 = .ok (.ldc 75, 2) := by decide +kernel
theorem dX10_tell_15 : decode cX10_tell 15 = .ok (.invokevirtual 60, 3) := by decide +kernel
theorem dX10_tell_18 : decode cX10_tell 18 = .ok (.ireturn, 1) := by decide +kernel
theorem dX10_tell_19 : decode cX10_tell 19 = .ok (.aload_n 0, 1) := by decide +kernel
theorem dX10_tell_20 : decode cX10_tell 20 = .ok (.getfield 7, 3) := by decide +kernel
theorem dX10_tell_23 : decode cX10_tell 23 = .ok (.sipush 134, 3) := by decide +kernel
theorem dX10_tell_26 : decode cX10_tell 26 = .ok (.aload_n 0, 1) := by decide +kernel
theorem dX10_tell_27 : decode cX10_tell 27 = .ok (.getfield 7, 3) := by decide +kernel
theorem dX10_tell_30 : decode cX10_tell 30 = .ok (.bipush 9, 2) := by decide +kernel
theorem dX10_tell_32 : decode cX10_tell 32 = .ok (.iaload, 1) := by decide +kernel
theorem dX10_tell_33 : decode cX10_tell 33 = .ok (.iadd, 1) := by decide +kernel
theorem dX10_tell_34 : decode cX10_tell 34 = .ok (.iload_n 1, 1) := by decide +kernel
theorem dX10_tell_35 : decode cX10_tell 35 = .ok (.iastore, 1) := by decide +kernel
theorem dX10_tell_36 : decode cX10_tell 36 = .ok (.aload_n 0, 1) := by decide +kernel
theorem dX10_tell_37 : decode cX10_tell 37 = .ok (.getfield 7, 3) := by decide +kernel
theorem dX10_tell_40 : decode cX10_tell 40 = .ok (.bipush 9, 2) := by decide +kernel
theorem dX10_tell_42 : decode cX10_tell 42 = .ok (.dup2, 1) := by decide +kernel
theorem dX10_tell_43 : decode cX10_tell 43 = .ok (.iaload, 1) := by decide +kernel
theorem dX10_tell_44 : decode cX10_tell 44 = .ok (.iconst 1, 1) := by decide +kernel
theorem dX10_tell_45 : decode cX10_tell 45 = .ok (.iadd, 1) := by decide +kernel
theorem dX10_tell_46 : decode cX10_tell 46 = .ok (.iastore, 1) := by decide +kernel
theorem dX10_tell_47 : decode cX10_tell 47 = .ok (.aload_n 0, 1) := by decide +kernel
theorem dX10_tell_48 : decode cX10_tell 48 = .ok (.getfield 7, 3) := by decide +kernel
theorem dX10_tell_51 : decode cX10_tell 51 = .ok (.bipush 9, 2) := by decide +kernel
theorem dX10_tell_53 : decode cX10_tell 53 = .ok (.iaload, 1) := by decide +kernel
theorem dX10_tell_54 : decode cX10_tell 54 = .ok (.ireturn, 1) := by decide +kernel
theorem dX10_check_0 : decode cX10_check 0 = .ok (.aload_n 0, 1) := by decide +kernel
theorem dX10_check_1 : decode cX10_check 1 = .ok (.getfield 7, 3) := by decide +kernel
theorem dX10_check_4 : decode cX10_check 4 = .ok (.bipush 9, 2) := by decide +kernel
theorem dX10_check_6 : decode cX10_check 6 = .ok (.iaload, 1) := by decide +kernel
theorem dX10_check_7 : decode cX10_check 7 = .ok (.istore_n 1, 1) := by decide +kernel
theorem dX10_check_8 : decode cX10_check 8 = .ok (.aload_n 0, 1) := by decide +kernel
theorem dX10_check_9 : decode cX10_check 9 = .ok (.getfield 7, 3) := by decide +kernel
theorem dX10_check_12 : decode cX10_check 12 = .ok (.bipush 9, 2) := by decide +kernel
theorem dX10_check_14 : decode cX10_check 14 = .ok (.iconst 0, 1) := by decide +kernel
theorem dX10_check_15 : decode cX10_check 15 = .ok (.iastore, 1) := by decide +kernel
theorem dX10_check_16 : decode cX10_check 16 = .ok (.aload_n 0, 1) := by decide +kernel
theorem dX10_check_17 : decode cX10_check 17 = .ok (.aload_n 0, 1) := by decide +kernel
theorem dX10_check_18 : decode cX10_check 18 = .ok (.getfield 7, 3) := by decide +kernel
theorem dX10_check_21 : decode cX10_check 21 = .ok (.aload_n 0, 1) := by decide +kernel
theorem dX10_check_22 : decode cX10_check 22 = .ok (.getfield 16, 3) := by decide +kernel
theorem dX10_check_25 : decode cX10_check 25 = .ok (.invokevirtual 167, 3) := by decide +kernel
theorem dX10_check_28 : decode cX10_check 28 = .ok (.iconst 0, 1) := by decide +kernel
theorem dX10_check_29 : decode cX10_check 29 = .ok (.istore_n 2, 1) := by decide +kernel
theorem dX10_check_30 : decode cX10_check 30 = .ok (.iconst 1, 1) := by decide +kernel
theorem dX10_check_31 : decode cX10_check 31 = .ok (.istore_n 3, 1) := by decide +kernel
theorem dX10_check_32 : decode cX10_check 32 = .ok (.iload_n 2, 1) := by decide +kernel
theorem dX10_check_33 : decode cX10_check 33 = .ok (.iload_n 1, 1) := by decide +kernel
theorem dX10_check_34 : decode cX10_check 34 = .ok (.if_icmp .ge 51, 3) := by decide +kernel
theorem dX10_check_37 : decode cX10_check 37 = .ok (.iload_n 3, 1) := by decide +kernel
theorem dX10_check_38 : decode cX10_check 38 = .ok (.ifCond .eq 47, 3) := by decide +kernel
theorem dX10_check_41 : decode cX10_check 41 = .ok (.aload_n 0, 1) := by decide +kernel
theorem dX10_check_42 : decode cX10_check 42 = .ok (.invokevirtual 183, 3) := by decide +kernel
theorem dX10_check_45 : decode cX10_check 45 = .ok (.aload_n 0, 1) := by decide +kernel
theorem dX10_check_46 : decode cX10_check 46 = .ok (.getfield 7, 3) := by decide +kernel
theorem dX10_check_49 : decode cX10_check 49 = .ok (.iconst 4, 1) := by decide +kernel
theorem dX10_check_50 : decode cX10_check 50 = .ok (.iaload, 1) := by decide +kernel
theorem dX10_check_51 : decode cX10_check 51 = .ok (.aload_n 0, 1) := by decide +kernel
theorem dX10_check_52 : decode cX10_check 52 = .ok (.getfield 7, 3) := by decide +kernel
theorem dX10_check_55 : decode cX10_check 55 = .ok (.sipush 134, 3) := by decide +kernel
theorem dX10_check_58 : decode cX10_check 58 = .ok (.iload_n 2, 1) := by decide +kernel
theorem dX10_check_59 : decode cX10_check 59 = .ok (.iadd, 1) := by decide +kernel
theorem dX10_check_60 : decode cX10_check 60 = .ok (.iaload, 1) := by decide +kernel
theorem dX10_check_61 : decode cX10_check 61 = .ok (.if_icmp .ne 7, 3) := by decide +kernel
theorem dX10_check_64 : decode cX10_check 64 = .ok (.iconst 1, 1) := by decide +kernel
theorem dX10_check_65 : decode cX10_check 65 = .ok (.goto 4, 3) := by decide +kernel
theorem dX10_check_68 : decode cX10_check 68 = .ok (.iconst 0, 1) := by decide +kernel
theorem dX10_check_69 : decode cX10_check 69 = .ok (.istore_n 3, 1) := by decide +kernel
theorem dX10_check_70 : decode cX10_check 70 = .ok (.iload_n 2, 1) := by decide +kernel
theorem dX10_check_71 : decode cX10_check 71 = .ok (.iload_n 3, 1) := by decide +kernel
theorem dX10_check_72 : decode cX10_check 72 = .ok (.ifCond .eq 7, 3) := by decide +kernel
theorem dX10_check_75 : decode cX10_check 75 = .ok (.iconst 1, 1) := by decide +kernel
theorem dX10_check_76 : decode cX10_check 76 = .ok (.goto 4, 3) := by decide +kernel
theorem dX10_check_79 : decode cX10_check 79 = .ok (.iconst 0, 1) := by decide +kernel
theorem dX10_check_80 : decode cX10_check 80 = .ok (.iadd, 1) := by decide +kernel
theorem dX10_check_81 : decode cX10_check 81 = .ok (.istore_n 2, 1) := by decide +kernel
theorem dX10_check_82 : decode cX10_check 82 = .ok (.goto (-50), 3) := by decide +kernel
theorem dX10_check_85 : decode cX10_check 85 = .ok (.aload_n 0, 1) := by decide +kernel
theorem dX10_check_86 : decode cX10_check 86 = .ok (.aload_n 0, 1) := by decide +kernel
theorem dX10_check_87 : decode cX10_check 87 = .ok (.getfield 16, 3) := by decide +kernel
theorem dX10_check_90 : decode cX10_check 90 = .ok (.aload_n 0, 1) := by decide +kernel
theorem dX10_check_91 : decode cX10_check 91 = .ok (.getfield 7, 3) := by decide +kernel
theorem dX10_check_94 : decode cX10_check 94 = .ok (.invokevirtual 167, 3) := by decide +kernel
theorem dX10_check_97 : decode cX10_check 97 = .ok (.iload_n 3, 1) := by decide +kernel
theorem dX10_check_98 : decode cX10_check 98 = .ok (.ifCond .eq 7, 3) := by decide +kernel
theorem dX10_check_101 : decode cX10_check 101 = .ok (.iconst 0, 1) := by decide +kernel
theorem dX10_check_102 : decode cX10_check 102 = .ok (.goto 6, 3) := by decide +kernel
theorem dX10_check_105 : decode cX10_check 105 = .ok (.iconst 1, 1) := by decide +kernel
theorem dX10_check_106 : decode cX10_check 106 = .ok (.iload_n 2, 1) := by decide +kernel
theorem dX10_check_107 : decode cX10_check 107 = .ok (.iadd, 1) := by decide +kernel
theorem dX10_check_108 : decode cX10_check 108 = .ok (.ireturn, 1) := by decide +kernel
theorem dX10_sumOfTrees_0 : decode cX10_sumOfTrees 0 = .ok (.iconst 0, 1) := by decide +kernel
theorem dX10_sumOfTrees_1 : decode cX10_sumOfTrees 1 = .ok (.istore_n 1, 1) := by decide +kernel
theorem dX10_sumOfTrees_2 : decode cX10_sumOfTrees 2 = .ok (.iconst 0, 1) := by decide +kernel
theorem dX10_sumOfTrees_3 : decode cX10_sumOfTrees 3 = .ok (.istore_n 2, 1) := by decide +kernel
theorem dX10_sumOfTrees_4 : decode cX10_sumOfTrees 4 = .ok (.iload_n 2, 1) := by decide +kernel
theorem dX10_sumOfTrees_5 : decode cX10_sumOfTrees 5 = .ok (.bipush 8, 2) := by decide +kernel
theorem dX10_sumOfTrees_7 : decode cX10_sumOfTrees 7 = .ok (.if_icmp .ge 24, 3) := by decide +kernel
theorem dX10_sumOfTrees_10 : decode cX10_sumOfTrees 10 = .ok (.iload_n 1, 1) := by decide +kernel
theorem dX10_sumOfTrees_11 : decode cX10_sumOfTrees 11 = .ok (.aload_n 0, 1) := by decide +kernel
theorem dX10_sumOfTrees_12 : decode cX10_sumOfTrees 12 = .ok (.getfield 7, 3) := by decide +kernel
theorem dX10_sumOfTrees_15 : decode cX10_sumOfTrees 15 = .ok (.bipush 44, 2) := by decide +kernel
theorem dX10_sumOfTrees_17 : decode cX10_sumOfTrees 17 = .ok (.iload_n 2, 1) := by decide +kernel
theorem dX10_sumOfTrees_18 : decode cX10_sumOfTrees 18 = .ok (.iadd, 1) := by decide +kernel
theorem dX10_sumOfTrees_19 : decode cX10_sumOfTrees 19 = .ok (.iaload, 1) := by decide +kernel
theorem dX10_sumOfTrees_20 : decode cX10_sumOfTrees 20 = .ok (.invokestatic 208, 3) := by decide +kernel
theorem dX10_sumOfTrees_23 : decode cX10_sumOfTrees 23 = .ok (.iadd, 1) := by decide +kernel
theorem dX10_sumOfTrees_24 : decode cX10_sumOfTrees 24 = .ok (.istore_n 1, 1) := by decide +kernel
theorem dX10_sumOfTrees_25 : decode cX10_sumOfTrees 25 = .ok (.iinc 2 1, 3) := by decide +kernel
theorem dX10_sumOfTrees_28 : decode cX10_sumOfTrees 28 = .ok (.goto (-24), 3) := by decide +kernel
theorem dX10_sumOfTrees_31 : decode cX10_sumOfTrees 31 = .ok (.iload_n 1, 1) := by decide +kernel
theorem dX10_sumOfTrees_32 : decode cX10_sumOfTrees 32 = .ok (.ireturn, 1) := by decide +kernel
theorem dX10_count_0 : decode cX10_count 0 = .ok (.iload_n 1, 1) := by decide +kernel
theorem dX10_count_1 : decode cX10_count 1 = .ok (.tableswitch 135 0 10 #[59, 66, 73, 80, 87, 94, 102, 107, 115, 123, 128], 59) := by decide +kernel
theorem dX10_count_60 : decode cX10_count 60 = .ok (.aload_n 0, 1) := by decide +kernel
theorem dX10_count_61 : decode cX10_count 61 = .ok (.getfield 7, 3) := by decide +kernel
theorem dX10_count_64 : decode cX10_count 64 = .ok (.iconst 2, 1) := by decide +kernel
theorem dX10_count_65 : decode cX10_count 65 = .ok (.iaload, 1) := by decide +kernel
theorem dX10_count_66 : decode cX10_count 66 = .ok (.ireturn, 1) := by decide +kernel
theorem dX10_count_67 : decode cX10_count 67 = .ok (.aload_n 0, 1) := by decide +kernel
theorem dX10_count_68 : decode cX10_count 68 = .ok (.getfield 7, 3) := by decide +kernel
theorem dX10_count_71 : decode cX10_count 71 = .ok (.iconst 0, 1) := by decide +kernel
theorem dX10_count_72 : decode cX10_count 72 = .ok (.iaload, 1) := by decide +kernel
theorem dX10_count_73 : decode cX10_count 73 = .ok (.ireturn, 1) := by decide +kernel
theorem dX10_count_74 : decode cX10_count 74 = .ok (.aload_n 0, 1) := by decide +kernel
theorem dX10_count_75 : decode cX10_count 75 = .ok (.getfield 7, 3) := by decide +kernel
theorem dX10_count_78 : decode cX10_count 78 = .ok (.iconst 3, 1) := by decide +kernel
theorem dX10_count_79 : decode cX10_count 79 = .ok (.iaload, 1) := by decide +kernel
theorem dX10_count_80 : decode cX10_count 80 = .ok (.ireturn, 1) := by decide +kernel
theorem dX10_count_81 : decode cX10_count 81 = .ok (.aload_n 0, 1) := by decide +kernel
theorem dX10_count_82 : decode cX10_count 82 = .ok (.getfield 7, 3) := by decide +kernel
theorem dX10_count_85 : decode cX10_count 85 = .ok (.iconst 4, 1) := by decide +kernel
theorem dX10_count_86 : decode cX10_count 86 = .ok (.iaload, 1) := by decide +kernel
theorem dX10_count_87 : decode cX10_count 87 = .ok (.ireturn, 1) := by decide +kernel
theorem dX10_count_88 : decode cX10_count 88 = .ok (.aload_n 0, 1) := by decide +kernel
theorem dX10_count_89 : decode cX10_count 89 = .ok (.getfield 7, 3) := by decide +kernel
theorem dX10_count_92 : decode cX10_count 92 = .ok (.iconst 5, 1) := by decide +kernel
theorem dX10_count_93 : decode cX10_count 93 = .ok (.iaload, 1) := by decide +kernel
theorem dX10_count_94 : decode cX10_count 94 = .ok (.ireturn, 1) := by decide +kernel
theorem dX10_count_95 : decode cX10_count 95 = .ok (.aload_n 0, 1) := by decide +kernel
theorem dX10_count_96 : decode cX10_count 96 = .ok (.sipush 255, 3) := by decide +kernel
theorem dX10_count_99 : decode cX10_count 99 = .ok (.invokevirtual 224, 3) := by decide +kernel
theorem dX10_count_102 : decode cX10_count 102 = .ok (.ireturn, 1) := by decide +kernel
theorem dX10_count_103 : decode cX10_count 103 = .ok (.aload_n 0, 1) := by decide +kernel
theorem dX10_count_104 : decode cX10_count 104 = .ok (.invokevirtual 269, 3) := by decide +kernel
theorem dX10_count_107 : decode cX10_count 107 = .ok (.ireturn, 1) := by decide +kernel
theorem dX10_count_108 : decode cX10_count 108 = .ok (.aload_n 0, 1) := by decide +kernel
theorem dX10_count_109 : decode cX10_count 109 = .ok (.getfield 7, 3) := by decide +kernel
theorem dX10_count_112 : decode cX10_count 112 = .ok (.bipush 8, 2) := by decide +kernel
theorem dX10_count_114 : decode cX10_count 114 = .ok (.iaload, 1) := by decide +kernel
theorem dX10_count_115 : decode cX10_count 115 = .ok (.ireturn, 1) := by decide +kernel
theorem dX10_count_116 : decode cX10_count 116 = .ok (.aload_n 0, 1) := by decide +kernel
theorem dX10_count_117 : decode cX10_count 117 = .ok (.getfield 7, 3) := by decide +kernel
theorem dX10_count_120 : decode cX10_count 120 = .ok (.bipush 9, 2) := by decide +kernel
theorem dX10_count_122 : decode cX10_count 122 = .ok (.iaload, 1) := by decide +kernel
theorem dX10_count_123 : decode cX10_count 123 = .ok (.ireturn, 1) := by decide +kernel
theorem dX10_count_124 : decode cX10_count 124 = .ok (.aload_n 0, 1) := by decide +kernel
theorem dX10_count_125 : decode cX10_count 125 = .ok (.getfield 233, 3) := by decide +kernel
theorem dX10_count_128 : decode cX10_count 128 = .ok (.ireturn, 1) := by decide +kernel
theorem dX10_count_129 : decode cX10_count 129 = .ok (.aload_n 0, 1) := by decide +kernel
theorem dX10_count_130 : decode cX10_count 130 = .ok (.getfield 7, 3) := by decide +kernel
theorem dX10_count_133 : decode cX10_count 133 = .ok (.iconst 1, 1) := by decide +kernel
theorem dX10_count_134 : decode cX10_count 134 = .ok (.iaload, 1) := by decide +kernel
theorem dX10_count_135 : decode cX10_count 135 = .ok (.ireturn, 1) := by decide +kernel
theorem dX10_count_136 : decode cX10_count 136 = .ok (.aload_n 0, 1) := by decide +kernel
theorem dX10_count_137 : decode cX10_count 137 = .ok (.ldc 59, 2) := by decide +kernel
theorem dX10_count_139 : decode cX10_count 139 = .ok (.invokevirtual 60, 3) := by decide +kernel
theorem dX10_count_142 : decode cX10_count 142 = .ok (.ireturn, 1) := by decide +kernel
theorem dX10_told_0 : decode cX10_told 0 = .ok (.iload_n 1, 1) := by decide +kernel
theorem dX10_told_1 : decode cX10_told 1 = .ok (.iconst 1, 1) := by decide +kernel
theorem dX10_told_2 : decode cX10_told 2 = .ok (.iconst 5, 1) := by decide +kernel
theorem dX10_told_3 : decode cX10_told 3 = .ok (.invokestatic 51, 3) := by decide +kernel
theorem dX10_told_6 : decode cX10_told 6 = .ok (.ifCond .eq 12, 3) := by decide +kernel
theorem dX10_told_9 : decode cX10_told 9 = .ok (.aload_n 0, 1) := by decide +kernel
theorem dX10_told_10 : decode cX10_told 10 = .ok (.getfield 22, 3) := by decide +kernel
theorem dX10_told_13 : decode cX10_told 13 = .ok (.iload_n 1, 1) := by decide +kernel
theorem dX10_told_14 : decode cX10_told 14 = .ok (.iaload, 1) := by decide +kernel
theorem dX10_told_15 : decode cX10_told 15 = .ok (.goto 9, 3) := by decide +kernel
theorem dX10_told_18 : decode cX10_told 18 = .ok (.aload_n 0, 1) := by decide +kernel
theorem dX10_told_19 : decode cX10_told 19 = .ok (.ldc 59, 2) := by decide +kernel
theorem dX10_told_21 : decode cX10_told 21 = .ok (.invokevirtual 60, 3) := by decide +kernel
theorem dX10_told_24 : decode cX10_told 24 = .ok (.ireturn, 1) := by decide +kernel
