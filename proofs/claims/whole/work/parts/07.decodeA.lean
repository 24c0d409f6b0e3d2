theorem dX9_season_0 : decode cX9_season 0 = .ok (.aload_n 0, 1) := by decide +kernel
theorem dX9_season_1 : decode cX9_season 1 = .ok (.getfield 12, 3) := by decide +kernel
theorem dX9_season_4 : decode cX9_season 4 = .ok (.getfield 55, 3) := by decide +kernel
theorem dX9_season_7 : decode cX9_season 7 = .ok (.iload_n 2, 1) := by decide +kernel
theorem dX9_season_8 : decode cX9_season 8 = .ok (.invokevirtual 58, 3) := by decide +kernel
theorem dX9_season_11 : decode cX9_season 11 = .ok (.astore 4, 2) := by decide +kernel
theorem dX9_season_13 : decode cX9_season 13 = .ok (.aload 4, 2) := by decide +kernel
theorem dX9_season_15 : decode cX9_season 15 = .ok (.ifnull 22, 3) := by decide +kernel
theorem dX9_season_18 : decode cX9_season 18 = .ok (.iload_n 1, 1) := by decide +kernel
theorem dX9_season_19 : decode cX9_season 19 = .ok (.aload 4, 2) := by decide +kernel
theorem dX9_season_21 : decode cX9_season 21 = .ok (.invokestatic 62, 3) := by decide +kernel
theorem dX9_season_24 : decode cX9_season 24 = .ok (.ifCond .eq 13, 3) := by decide +kernel
theorem dX9_season_27 : decode cX9_season 27 = .ok (.iload_n 3, 1) := by decide +kernel
theorem dX9_season_28 : decode cX9_season 28 = .ok (.iconst 0, 1) := by decide +kernel
theorem dX9_season_29 : decode cX9_season 29 = .ok (.bipush 9, 2) := by decide +kernel
theorem dX9_season_31 : decode cX9_season 31 = .ok (.invokestatic 66, 3) := by decide +kernel
theorem dX9_season_34 : decode cX9_season 34 = .ok (.ifCond .ne 10, 3) := by decide +kernel
theorem dX9_season_37 : decode cX9_season 37 = .ok (.aload_n 0, 1) := by decide +kernel
theorem dX9_season_38 : decode cX9_season 38 = .ok (.ldc 70, 2) := by decide +kernel
theorem dX9_season_40 : decode cX9_season 40 = .ok (.invokevirtual 71, 3) := by decide +kernel
theorem dX9_season_43 : decode cX9_season 43 = .ok (.ireturn, 1) := by decide +kernel
theorem dX9_season_44 : decode cX9_season 44 = .ok (.aload 4, 2) := by decide +kernel
theorem dX9_season_46 : decode cX9_season 46 = .ok (.iload_n 1, 1) := by decide +kernel
theorem dX9_season_47 : decode cX9_season 47 = .ok (.iaload, 1) := by decide +kernel
theorem dX9_season_48 : decode cX9_season 48 = .ok (.istore 5, 2) := by decide +kernel
theorem dX9_season_50 : decode cX9_season 50 = .ok (.aload 4, 2) := by decide +kernel
theorem dX9_season_52 : decode cX9_season 52 = .ok (.iload_n 1, 1) := by decide +kernel
theorem dX9_season_53 : decode cX9_season 53 = .ok (.iload_n 3, 1) := by decide +kernel
theorem dX9_season_54 : decode cX9_season 54 = .ok (.iastore, 1) := by decide +kernel
theorem dX9_season_55 : decode cX9_season 55 = .ok (.iload 5, 2) := by decide +kernel
theorem dX9_season_57 : decode cX9_season 57 = .ok (.ireturn, 1) := by decide +kernel
theorem dX9_ofSeason_0 : decode cX9_ofSeason 0 = .ok (.aload_n 0, 1) := by decide +kernel
theorem dX9_ofSeason_1 : decode cX9_ofSeason 1 = .ok (.getfield 12, 3) := by decide +kernel
theorem dX9_ofSeason_4 : decode cX9_ofSeason 4 = .ok (.getfield 55, 3) := by decide +kernel
theorem dX9_ofSeason_7 : decode cX9_ofSeason 7 = .ok (.iload_n 2, 1) := by decide +kernel
theorem dX9_ofSeason_8 : decode cX9_ofSeason 8 = .ok (.invokevirtual 58, 3) := by decide +kernel
theorem dX9_ofSeason_11 : decode cX9_ofSeason 11 = .ok (.astore_n 3, 1) := by decide +kernel
theorem dX9_ofSeason_12 : decode cX9_ofSeason 12 = .ok (.aload_n 3, 1) := by decide +kernel
theorem dX9_ofSeason_13 : decode cX9_ofSeason 13 = .ok (.ifnull 11, 3) := by decide +kernel
theorem dX9_ofSeason_16 : decode cX9_ofSeason 16 = .ok (.iload_n 1, 1) := by decide +kernel
theorem dX9_ofSeason_17 : decode cX9_ofSeason 17 = .ok (.aload_n 3, 1) := by decide +kernel
theorem dX9_ofSeason_18 : decode cX9_ofSeason 18 = .ok (.invokestatic 62, 3) := by decide +kernel
theorem dX9_ofSeason_21 : decode cX9_ofSeason 21 = .ok (.ifCond .ne 10, 3) := by decide +kernel
theorem dX9_ofSeason_24 : decode cX9_ofSeason 24 = .ok (.aload_n 0, 1) := by decide +kernel
theorem dX9_ofSeason_25 : decode cX9_ofSeason 25 = .ok (.ldc 70, 2) := by decide +kernel
theorem dX9_ofSeason_27 : decode cX9_ofSeason 27 = .ok (.invokevirtual 71, 3) := by decide +kernel
theorem dX9_ofSeason_30 : decode cX9_ofSeason 30 = .ok (.ireturn, 1) := by decide +kernel
theorem dX9_ofSeason_31 : decode cX9_ofSeason 31 = .ok (.aload_n 3, 1) := by decide +kernel
theorem dX9_ofSeason_32 : decode cX9_ofSeason 32 = .ok (.iload_n 1, 1) := by decide +kernel
theorem dX9_ofSeason_33 : decode cX9_ofSeason 33 = .ok (.iaload, 1) := by decide +kernel
theorem dX9_ofSeason_34 : decode cX9_ofSeason 34 = .ok (.ireturn, 1) := by decide +kernel
theorem dX9_figure_0 : decode cX9_figure 0 = .ok (.iload_n 1, 1) := by decide +kernel
theorem dX9_figure_1 : decode cX9_figure 1 = .ok (.getstatic 75, 3) := by decide +kernel
theorem dX9_figure_4 : decode cX9_figure 4 = .ok (.invokestatic 62, 3) := by decide +kernel
theorem dX9_figure_7 : decode cX9_figure 7 = .ok (.ifCond .eq 16, 3) := by decide +kernel
theorem dX9_figure_10 : decode cX9_figure 10 = .ok (.iload_n 2, 1) := by decide +kernel
theorem dX9_figure_11 : decode cX9_figure 11 = .ok (.iconst 0, 1) := by decide +kernel
theorem dX9_figure_12 : decode cX9_figure 12 = .ok (.getstatic 75, 3) := by decide +kernel
theorem dX9_figure_15 : decode cX9_figure 15 = .ok (.iload_n 1, 1) := by decide +kernel
theorem dX9_figure_16 : decode cX9_figure 16 = .ok (.iaload, 1) := by decide +kernel
theorem dX9_figure_17 : decode cX9_figure 17 = .ok (.invokestatic 66, 3) := by decide +kernel
theorem dX9_figure_20 : decode cX9_figure 20 = .ok (.ifCond .ne 10, 3) := by decide +kernel
theorem dX9_figure_23 : decode cX9_figure 23 = .ok (.aload_n 0, 1) := by decide +kernel
theorem dX9_figure_24 : decode cX9_figure 24 = .ok (.ldc 70, 2) := by decide +kernel
theorem dX9_figure_26 : decode cX9_figure 26 = .ok (.invokevirtual 71, 3) := by decide +kernel
theorem dX9_figure_29 : decode cX9_figure 29 = .ok (.ireturn, 1) := by decide +kernel
theorem dX9_figure_30 : decode cX9_figure 30 = .ok (.aload_n 0, 1) := by decide +kernel
theorem dX9_figure_31 : decode cX9_figure 31 = .ok (.getfield 12, 3) := by decide +kernel
theorem dX9_figure_34 : decode cX9_figure 34 = .ok (.iload_n 1, 1) := by decide +kernel
theorem dX9_figure_35 : decode cX9_figure 35 = .ok (.invokevirtual 78, 3) := by decide +kernel
theorem dX9_figure_38 : decode cX9_figure 38 = .ok (.istore_n 3, 1) := by decide +kernel
theorem dX9_figure_39 : decode cX9_figure 39 = .ok (.aload_n 0, 1) := by decide +kernel
theorem dX9_figure_40 : decode cX9_figure 40 = .ok (.getfield 12, 3) := by decide +kernel
theorem dX9_figure_43 : decode cX9_figure 43 = .ok (.iload_n 1, 1) := by decide +kernel
theorem dX9_figure_44 : decode cX9_figure 44 = .ok (.iload_n 2, 1) := by decide +kernel
theorem dX9_figure_45 : decode cX9_figure 45 = .ok (.invokevirtual 81, 3) := by decide +kernel
theorem dX9_figure_48 : decode cX9_figure 48 = .ok (.iload_n 3, 1) := by decide +kernel
theorem dX9_figure_49 : decode cX9_figure 49 = .ok (.ireturn, 1) := by decide +kernel
theorem dX9_ofFigure_0 : decode cX9_ofFigure 0 = .ok (.iload_n 1, 1) := by decide +kernel
theorem dX9_ofFigure_1 : decode cX9_ofFigure 1 = .ok (.tableswitch 60 5 7 #[27, 38, 49], 27) := by decide +kernel
theorem dX9_ofFigure_28 : decode cX9_ofFigure 28 = .ok (.aload_n 0, 1) := by decide +kernel
theorem dX9_ofFigure_29 : decode cX9_ofFigure 29 = .ok (.getfield 12, 3) := by decide +kernel
theorem dX9_ofFigure_32 : decode cX9_ofFigure 32 = .ok (.getfield 55, 3) := by decide +kernel
theorem dX9_ofFigure_35 : decode cX9_ofFigure 35 = .ok (.invokevirtual 85, 3) := by decide +kernel
theorem dX9_ofFigure_38 : decode cX9_ofFigure 38 = .ok (.ireturn, 1) := by decide +kernel
theorem dX9_ofFigure_39 : decode cX9_ofFigure 39 = .ok (.aload_n 0, 1) := by decide +kernel
theorem dX9_ofFigure_40 : decode cX9_ofFigure 40 = .ok (.getfield 12, 3) := by decide +kernel
theorem dX9_ofFigure_43 : decode cX9_ofFigure 43 = .ok (.getfield 55, 3) := by decide +kernel
theorem dX9_ofFigure_46 : decode cX9_ofFigure 46 = .ok (.invokevirtual 89, 3) := by decide +kernel
theorem dX9_ofFigure_49 : decode cX9_ofFigure 49 = .ok (.ireturn, 1) := by decide +kernel
theorem dX9_ofFigure_50 : decode cX9_ofFigure 50 = .ok (.aload_n 0, 1) := by decide +kernel
theorem dX9_ofFigure_51 : decode cX9_ofFigure 51 = .ok (.getfield 12, 3) := by decide +kernel
theorem dX9_ofFigure_54 : decode cX9_ofFigure 54 = .ok (.getfield 55, 3) := by decide +kernel
theorem dX9_ofFigure_57 : decode cX9_ofFigure 57 = .ok (.invokevirtual 92, 3) := by decide +kernel
theorem dX9_ofFigure_60 : decode cX9_ofFigure 60 = .ok (.ireturn, 1) := by decide +kernel
theorem dX9_ofFigure_61 : decode cX9_ofFigure 61 = .ok (.iload_n 1, 1) := by decide +kernel
theorem dX9_ofFigure_62 : decode cX9_ofFigure 62 = .ok (.getstatic 75, 3) := by decide +kernel
theorem dX9_ofFigure_65 : decode cX9_ofFigure 65 = .ok (.invokestatic 62, 3) := by decide +kernel
theorem dX9_ofFigure_68 : decode cX9_ofFigure 68 = .ok (.ifCond .eq 14, 3) := by decide +kernel
theorem dX9_ofFigure_71 : decode cX9_ofFigure 71 = .ok (.aload_n 0, 1) := by decide +kernel
theorem dX9_ofFigure_72 : decode cX9_ofFigure 72 = .ok (.getfield 12, 3) := by decide +kernel
theorem dX9_ofFigure_75 : decode cX9_ofFigure 75 = .ok (.iload_n 1, 1) := by decide +kernel
theorem dX9_ofFigure_76 : decode cX9_ofFigure 76 = .ok (.invokevirtual 78, 3) := by decide +kernel
theorem dX9_ofFigure_79 : decode cX9_ofFigure 79 = .ok (.goto 9, 3) := by decide +kernel
theorem dX9_ofFigure_82 : decode cX9_ofFigure 82 = .ok (.aload_n 0, 1) := by decide +kernel
theorem dX9_ofFigure_83 : decode cX9_ofFigure 83 = .ok (.ldc 70, 2) := by decide +kernel
theorem dX9_ofFigure_85 : decode cX9_ofFigure 85 = .ok (.invokevirtual 71, 3) := by decide +kernel
theorem dX9_ofFigure_88 : decode cX9_ofFigure 88 = .ok (.ireturn, 1) := by decide +kernel
theorem dX9_step_0 : decode cX9_step 0 = .ok (.aload_n 0, 1) := by decide +kernel
theorem dX9_step_1 : decode cX9_step 1 = .ok (.getfield 12, 3) := by decide +kernel
theorem dX9_step_4 : decode cX9_step 4 = .ok (.getfield 95, 3) := by decide +kernel
theorem dX9_step_7 : decode cX9_step 7 = .ok (.iload_n 2, 1) := by decide +kernel
theorem dX9_step_8 : decode cX9_step 8 = .ok (.invokevirtual 99, 3) := by decide +kernel
theorem dX9_step_11 : decode cX9_step 11 = .ok (.astore 4, 2) := by decide +kernel
theorem dX9_step_13 : decode cX9_step 13 = .ok (.aload 4, 2) := by decide +kernel
theorem dX9_step_15 : decode cX9_step 15 = .ok (.ifnull 31, 3) := by decide +kernel
theorem dX9_step_18 : decode cX9_step 18 = .ok (.iload_n 1, 1) := by decide +kernel
theorem dX9_step_19 : decode cX9_step 19 = .ok (.aload 4, 2) := by decide +kernel
theorem dX9_step_21 : decode cX9_step 21 = .ok (.invokestatic 62, 3) := by decide +kernel
theorem dX9_step_24 : decode cX9_step 24 = .ok (.ifCond .eq 22, 3) := by decide +kernel
theorem dX9_step_27 : decode cX9_step 27 = .ok (.iload_n 3, 1) := by decide +kernel
theorem dX9_step_28 : decode cX9_step 28 = .ok (.iconst 0, 1) := by decide +kernel
theorem dX9_step_29 : decode cX9_step 29 = .ok (.iload_n 2, 1) := by decide +kernel
theorem dX9_step_30 : decode cX9_step 30 = .ok (.ifCond .ne 8, 3) := by decide +kernel
theorem dX9_step_33 : decode cX9_step 33 = .ok (.bipush 9, 2) := by decide +kernel
theorem dX9_step_35 : decode cX9_step 35 = .ok (.goto 5, 3) := by decide +kernel
theorem dX9_step_38 : decode cX9_step 38 = .ok (.bipush 99, 2) := by decide +kernel
theorem dX9_step_40 : decode cX9_step 40 = .ok (.invokestatic 66, 3) := by decide +kernel
theorem dX9_step_43 : decode cX9_step 43 = .ok (.ifCond .ne 10, 3) := by decide +kernel
theorem dX9_step_46 : decode cX9_step 46 = .ok (.aload_n 0, 1) := by decide +kernel
theorem dX9_step_47 : decode cX9_step 47 = .ok (.ldc 70, 2) := by decide +kernel
theorem dX9_step_49 : decode cX9_step 49 = .ok (.invokevirtual 71, 3) := by decide +kernel
theorem dX9_step_52 : decode cX9_step 52 = .ok (.ireturn, 1) := by decide +kernel
theorem dX9_step_53 : decode cX9_step 53 = .ok (.aload 4, 2) := by decide +kernel
theorem dX9_step_55 : decode cX9_step 55 = .ok (.iload_n 1, 1) := by decide +kernel
theorem dX9_step_56 : decode cX9_step 56 = .ok (.iaload, 1) := by decide +kernel
theorem dX9_step_57 : decode cX9_step 57 = .ok (.istore 5, 2) := by decide +kernel
theorem dX9_step_59 : decode cX9_step 59 = .ok (.aload 4, 2) := by decide +kernel
theorem dX9_step_61 : decode cX9_step 61 = .ok (.iload_n 1, 1) := by decide +kernel
theorem dX9_step_62 : decode cX9_step 62 = .ok (.iload_n 3, 1) := by decide +kernel
theorem dX9_step_63 : decode cX9_step 63 = .ok (.iastore, 1) := by decide +kernel
theorem dX9_step_64 : decode cX9_step 64 = .ok (.iload 5, 2) := by decide +kernel
theorem dX9_step_66 : decode cX9_step 66 = .ok (.ireturn, 1) := by decide +kernel
theorem dX9_ofStep_0 : decode cX9_ofStep 0 = .ok (.iload_n 2, 1) := by decide +kernel
theorem dX9_ofStep_1 : decode cX9_ofStep 1 = .ok (.iconst 2, 1) := by decide +kernel
theorem dX9_ofStep_2 : decode cX9_ofStep 2 = .ok (.if_icmp .ne 43, 3) := by decide +kernel
theorem dX9_ofStep_5 : decode cX9_ofStep 5 = .ok (.iload_n 1, 1) := by decide +kernel
theorem dX9_ofStep_6 : decode cX9_ofStep 6 = .ok (.iconst 0, 1) := by decide +kernel
theorem dX9_ofStep_7 : decode cX9_ofStep 7 = .ok (.bipush 9, 2) := by decide +kernel
theorem dX9_ofStep_9 : decode cX9_ofStep 9 = .ok (.invokestatic 66, 3) := by decide +kernel
theorem dX9_ofStep_12 : decode cX9_ofStep 12 = .ok (.ifCond .eq 33, 3) := by decide +kernel
theorem dX9_ofStep_15 : decode cX9_ofStep 15 = .ok (.aload_n 0, 1) := by decide +kernel
theorem dX9_ofStep_16 : decode cX9_ofStep 16 = .ok (.getfield 12, 3) := by decide +kernel
theorem dX9_ofStep_19 : decode cX9_ofStep 19 = .ok (.getfield 95, 3) := by decide +kernel
theorem dX9_ofStep_22 : decode cX9_ofStep 22 = .ok (.iload_n 1, 1) := by decide +kernel
theorem dX9_ofStep_23 : decode cX9_ofStep 23 = .ok (.aload_n 0, 1) := by decide +kernel
theorem dX9_ofStep_24 : decode cX9_ofStep 24 = .ok (.getfield 12, 3) := by decide +kernel
theorem dX9_ofStep_27 : decode cX9_ofStep 27 = .ok (.getfield 55, 3) := by decide +kernel
theorem dX9_ofStep_30 : decode cX9_ofStep 30 = .ok (.invokevirtual 85, 3) := by decide +kernel
theorem dX9_ofStep_33 : decode cX9_ofStep 33 = .ok (.invokevirtual 104, 3) := by decide +kernel
theorem dX9_ofStep_36 : decode cX9_ofStep 36 = .ok (.ifCond .eq 7, 3) := by decide +kernel
theorem dX9_ofStep_39 : decode cX9_ofStep 39 = .ok (.iconst 1, 1) := by decide +kernel
theorem dX9_ofStep_40 : decode cX9_ofStep 40 = .ok (.goto 4, 3) := by decide +kernel
theorem dX9_ofStep_43 : decode cX9_ofStep 43 = .ok (.iconst 0, 1) := by decide +kernel
theorem dX9_ofStep_44 : decode cX9_ofStep 44 = .ok (.ireturn, 1) := by decide +kernel
theorem dX9_ofStep_45 : decode cX9_ofStep 45 = .ok (.aload_n 0, 1) := by decide +kernel
theorem dX9_ofStep_46 : decode cX9_ofStep 46 = .ok (.getfield 12, 3) := by decide +kernel
theorem dX9_ofStep_49 : decode cX9_ofStep 49 = .ok (.getfield 95, 3) := by decide +kernel
theorem dX9_ofStep_52 : decode cX9_ofStep 52 = .ok (.iload_n 2, 1) := by decide +kernel
theorem dX9_ofStep_53 : decode cX9_ofStep 53 = .ok (.invokevirtual 99, 3) := by decide +kernel
theorem dX9_ofStep_56 : decode cX9_ofStep 56 = .ok (.astore_n 3, 1) := by decide +kernel
theorem dX9_ofStep_57 : decode cX9_ofStep 57 = .ok (.aload_n 3, 1) := by decide +kernel
theorem dX9_ofStep_58 : decode cX9_ofStep 58 = .ok (.ifnull 11, 3) := by decide +kernel
theorem dX9_ofStep_61 : decode cX9_ofStep 61 = .ok (.iload_n 1, 1) := by decide +kernel
theorem dX9_ofStep_62 : decode cX9_ofStep 62 = .ok (.aload_n 3, 1) := by decide +kernel
theorem dX9_ofStep_63 : decode cX9_ofStep 63 = .ok (.invokestatic 62, 3) := by decide +kernel
theorem dX9_ofStep_66 : decode cX9_ofStep 66 = .ok (.ifCond .ne 10, 3) := by decide +kernel
theorem dX9_ofStep_69 : decode cX9_ofStep 69 = .ok (.aload_n 0, 1) := by decide +kernel
theorem dX9_ofStep_70 : decode cX9_ofStep 70 = .ok (.ldc 70, 2) := by decide +kernel
theorem dX9_ofStep_72 : decode cX9_ofStep 72 = .ok (.invokevirtual 71, 3) := by decide +kernel
theorem dX9_ofStep_75 : decode cX9_ofStep 75 = .ok (.ireturn, 1) := by decide +kernel
theorem dX9_ofStep_76 : decode cX9_ofStep 76 = .ok (.aload_n 3, 1) := by decide +kernel
theorem dX9_ofStep_77 : decode cX9_ofStep 77 = .ok (.iload_n 1, 1) := by decide +kernel
theorem dX9_ofStep_78 : decode cX9_ofStep 78 = .ok (.iaload, 1) := by decide +kernel
theorem dX9_ofStep_79 : decode cX9_ofStep 79 = .ok (.ireturn, 1) := by decide +kernel
theorem dX9_trees_0 : decode cX9_trees 0 = .ok (.aload_n 0, 1) := by decide +kernel
theorem dX9_trees_1 : decode cX9_trees 1 = .ok (.getfield 12, 3) := by decide +kernel
theorem dX9_trees_4 : decode cX9_trees 4 = .ok (.getfield 95, 3) := by decide +kernel
theorem dX9_trees_7 : decode cX9_trees 7 = .ok (.getfield 108, 3) := by decide +kernel
theorem dX9_trees_10 : decode cX9_trees 10 = .ok (.astore_n 3, 1) := by decide +kernel
theorem dX9_trees_11 : decode cX9_trees 11 = .ok (.iload_n 1, 1) := by decide +kernel
theorem dX9_trees_12 : decode cX9_trees 12 = .ok (.aload_n 3, 1) := by decide +kernel
theorem dX9_trees_13 : decode cX9_trees 13 = .ok (.invokestatic 62, 3) := by decide +kernel
theorem dX9_trees_16 : decode cX9_trees 16 = .ok (.ifCond .eq 14, 3) := by decide +kernel
theorem dX9_trees_19 : decode cX9_trees 19 = .ok (.iload_n 2, 1) := by decide +kernel
theorem dX9_trees_20 : decode cX9_trees 20 = .ok (.iconst 0, 1) := by decide +kernel
theorem dX9_trees_21 : decode cX9_trees 21 = .ok (.sipush 255, 3) := by decide +kernel
theorem dX9_trees_24 : decode cX9_trees 24 = .ok (.invokestatic 66, 3) := by decide +kernel
theorem dX9_trees_27 : decode cX9_trees 27 = .ok (.ifCond .ne 10, 3) := by decide +kernel
theorem dX9_trees_30 : decode cX9_trees 30 = .ok (.aload_n 0, 1) := by decide +kernel
theorem dX9_trees_31 : decode cX9_trees 31 = .ok (.ldc 70, 2) := by decide +kernel
theorem dX9_trees_33 : decode cX9_trees 33 = .ok (.invokevirtual 71, 3) := by decide +kernel
theorem dX9_trees_36 : decode cX9_trees 36 = .ok (.ireturn, 1) := by decide +kernel
theorem dX9_trees_37 : decode cX9_trees 37 = .ok (.aload_n 3, 1) := by decide +kernel
theorem dX9_trees_38 : decode cX9_trees 38 = .ok (.iload_n 1, 1) := by decide +kernel
theorem dX9_trees_39 : decode cX9_trees 39 = .ok (.iaload, 1) := by decide +kernel
theorem dX9_trees_40 : decode cX9_trees 40 = .ok (.istore 4, 2) := by decide +kernel
theorem dX9_trees_42 : decode cX9_trees 42 = .ok (.aload_n 3, 1) := by decide +kernel
theorem dX9_trees_43 : decode cX9_trees 43 = .ok (.iload_n 1, 1) := by decide +kernel
theorem dX9_trees_44 : decode cX9_trees 44 = .ok (.iload_n 2, 1) := by decide +kernel
theorem dX9_trees_45 : decode cX9_trees 45 = .ok (.iastore, 1) := by decide +kernel
theorem dX9_trees_46 : decode cX9_trees 46 = .ok (.iload 4, 2) := by decide +kernel
theorem dX9_trees_48 : decode cX9_trees 48 = .ok (.ireturn, 1) := by decide +kernel
theorem dX9_visitor_0 : decode cX9_visitor 0 = .ok (.iload_n 1, 1) := by decide +kernel
theorem dX9_visitor_1 : decode cX9_visitor 1 = .ok (.iconst 0, 1) := by decide +kernel
theorem dX9_visitor_2 : decode cX9_visitor 2 = .ok (.bipush 69, 2) := by decide +kernel
theorem dX9_visitor_4 : decode cX9_visitor 4 = .ok (.invokestatic 66, 3) := by decide +kernel
theorem dX9_visitor_7 : decode cX9_visitor 7 = .ok (.ifCond .eq 23, 3) := by decide +kernel
theorem dX9_visitor_10 : decode cX9_visitor 10 = .ok (.iload_n 2, 1) := by decide +kernel
theorem dX9_visitor_11 : decode cX9_visitor 11 = .ok (.iconst 0, 1) := by decide +kernel
theorem dX9_visitor_12 : decode cX9_visitor 12 = .ok (.bipush 9, 2) := by decide +kernel
theorem dX9_visitor_14 : decode cX9_visitor 14 = .ok (.invokestatic 66, 3) := by decide +kernel
theorem dX9_visitor_17 : decode cX9_visitor 17 = .ok (.ifCond .eq 13, 3) := by decide +kernel
theorem dX9_visitor_20 : decode cX9_visitor 20 = .ok (.iload_n 3, 1) := by decide +kernel
theorem dX9_visitor_21 : decode cX9_visitor 21 = .ok (.iconst 1, 1) := by decide +kernel
theorem dX9_visitor_22 : decode cX9_visitor 22 = .ok (.bipush 12, 2) := by decide +kernel
theorem dX9_visitor_24 : decode cX9_visitor 24 = .ok (.invokestatic 66, 3) := by decide +kernel
theorem dX9_visitor_27 : decode cX9_visitor 27 = .ok (.ifCond .ne 10, 3) := by decide +kernel
theorem dX9_visitor_30 : decode cX9_visitor 30 = .ok (.aload_n 0, 1) := by decide +kernel
theorem dX9_visitor_31 : decode cX9_visitor 31 = .ok (.ldc 70, 2) := by decide +kernel
theorem dX9_visitor_33 : decode cX9_visitor 33 = .ok (.invokevirtual 71, 3) := by decide +kernel
theorem dX9_visitor_36 : decode cX9_visitor 36 = .ok (.ireturn, 1) := by decide +kernel
theorem dX9_visitor_37 : decode cX9_visitor 37 = .ok (.aload_n 0, 1) := by decide +kernel
theorem dX9_visitor_38 : decode cX9_visitor 38 = .ok (.getfield 12, 3) := by decide +kernel
theorem dX9_visitor_41 : decode cX9_visitor 41 = .ok (.getfield 55, 3) := by decide +kernel
theorem dX9_visitor_44 : decode cX9_visitor 44 = .ok (.getfield 111, 3) := by decide +kernel
theorem dX9_visitor_47 : decode cX9_visitor 47 = .ok (.iload_n 1, 1) := by decide +kernel
theorem dX9_visitor_48 : decode cX9_visitor 48 = .ok (.iload_n 2, 1) := by decide +kernel
theorem dX9_visitor_49 : decode cX9_visitor 49 = .ok (.iload_n 3, 1) := by decide +kernel
theorem dX9_visitor_50 : decode cX9_visitor 50 = .ok (.invokevirtual 115, 3) := by decide +kernel
theorem dX9_visitor_53 : decode cX9_visitor 53 = .ok (.istore 4, 2) := by decide +kernel
theorem dX9_visitor_55 : decode cX9_visitor 55 = .ok (.iload 4, 2) := by decide +kernel
theorem dX9_visitor_57 : decode cX9_visitor 57 = .ok (.ifCond .lt 8, 3) := by decide +kernel
theorem dX9_visitor_60 : decode cX9_visitor 60 = .ok (.iload 4, 2) := by decide +kernel
theorem dX9_visitor_62 : decode cX9_visitor 62 = .ok (.goto 9, 3) := by decide +kernel
theorem dX9_visitor_65 : decode cX9_visitor 65 = .ok (.aload_n 0, 1) := by decide +kernel
theorem dX9_visitor_66 : decode cX9_visitor 66 = .ok (.ldc 121, 2) := by decide +kernel
theorem dX9_visitor_68 : decode cX9_visitor 68 = .ok (.invokevirtual 71, 3) := by decide +kernel
theorem dX9_visitor_71 : decode cX9_visitor 71 = .ok (.ireturn, 1) := by decide +kernel
theorem dX9_ofVisitor_0 : decode cX9_ofVisitor 0 = .ok (.aload_n 0, 1) := by decide +kernel
theorem dX9_ofVisitor_1 : decode cX9_ofVisitor 1 = .ok (.getfield 12, 3) := by decide +kernel
theorem dX9_ofVisitor_4 : decode cX9_ofVisitor 4 = .ok (.getfield 55, 3) := by decide +kernel
theorem dX9_ofVisitor_7 : decode cX9_ofVisitor 7 = .ok (.getfield 111, 3) := by decide +kernel
theorem dX9_ofVisitor_10 : decode cX9_ofVisitor 10 = .ok (.astore_n 3, 1) := by decide +kernel
theorem dX9_ofVisitor_11 : decode cX9_ofVisitor 11 = .ok (.aload_n 3, 1) := by decide +kernel
theorem dX9_ofVisitor_12 : decode cX9_ofVisitor 12 = .ok (.iload_n 1, 1) := by decide +kernel
theorem dX9_ofVisitor_13 : decode cX9_ofVisitor 13 = .ok (.invokevirtual 122, 3) := by decide +kernel
theorem dX9_ofVisitor_16 : decode cX9_ofVisitor 16 = .ok (.ifCond .eq 12, 3) := by decide +kernel
theorem dX9_ofVisitor_19 : decode cX9_ofVisitor 19 = .ok (.iload_n 2, 1) := by decide +kernel
theorem dX9_ofVisitor_20 : decode cX9_ofVisitor 20 = .ok (.iconst 0, 1) := by decide +kernel
theorem dX9_ofVisitor_21 : decode cX9_ofVisitor 21 = .ok (.iconst 5, 1) := by decide +kernel
theorem dX9_ofVisitor_22 : decode cX9_ofVisitor 22 = .ok (.invokestatic 66, 3) := by decide +kernel
theorem dX9_ofVisitor_25 : decode cX9_ofVisitor 25 = .ok (.ifCond .ne 10, 3) := by decide +kernel
theorem dX9_ofVisitor_28 : decode cX9_ofVisitor 28 = .ok (.aload_n 0, 1) := by decide +kernel
theorem dX9_ofVisitor_29 : decode cX9_ofVisitor 29 = .ok (.ldc 70, 2) := by decide +kernel
theorem dX9_ofVisitor_31 : decode cX9_ofVisitor 31 = .ok (.invokevirtual 71, 3) := by decide +kernel
theorem dX9_ofVisitor_34 : decode cX9_ofVisitor 34 = .ok (.ireturn, 1) := by decide +kernel
theorem dX9_ofVisitor_35 : decode cX9_ofVisitor 35 = .ok (.iload_n 2, 1) := by decide +kernel
theorem dX9_ofVisitor_36 : decode cX9_ofVisitor 36 = .ok (.tableswitch 98 0 4 #[36, 43, 50, 57, 64], 36) := by decide +kernel
theorem dX9_ofVisitor_72 : decode cX9_ofVisitor 72 = .ok (.aload_n 3, 1) := by decide +kernel
theorem dX9_ofVisitor_73 : decode cX9_ofVisitor 73 = .ok (.getfield 126, 3) := by decide +kernel
theorem dX9_ofVisitor_76 : decode cX9_ofVisitor 76 = .ok (.iload_n 1, 1) := by decide +kernel
theorem dX9_ofVisitor_77 : decode cX9_ofVisitor 77 = .ok (.iaload, 1) := by decide +kernel
theorem dX9_ofVisitor_78 : decode cX9_ofVisitor 78 = .ok (.ireturn, 1) := by decide +kernel
theorem dX9_ofVisitor_79 : decode cX9_ofVisitor 79 = .ok (.aload_n 3, 1) := by decide +kernel
theorem dX9_ofVisitor_80 : decode cX9_ofVisitor 80 = .ok (.getfield 129, 3) := by decide +kernel
theorem dX9_ofVisitor_83 : decode cX9_ofVisitor 83 = .ok (.iload_n 1, 1) := by decide +kernel
theorem dX9_ofVisitor_84 : decode cX9_ofVisitor 84 = .ok (.iaload, 1) := by decide +kernel
theorem dX9_ofVisitor_85 : decode cX9_ofVisitor 85 = .ok (.ireturn, 1) := by decide +kernel
theorem dX9_ofVisitor_86 : decode cX9_ofVisitor 86 = .ok (.aload_n 3, 1) := by decide +kernel
theorem dX9_ofVisitor_87 : decode cX9_ofVisitor 87 = .ok (.getfield 132, 3) := by decide +kernel
theorem dX9_ofVisitor_90 : decode cX9_ofVisitor 90 = .ok (.iload_n 1, 1) := by decide +kernel
theorem dX9_ofVisitor_91 : decode cX9_ofVisitor 91 = .ok (.iaload, 1) := by decide +kernel
theorem dX9_ofVisitor_92 : decode cX9_ofVisitor 92 = .ok (.ireturn, 1) := by decide +kernel
theorem dX9_ofVisitor_93 : decode cX9_ofVisitor 93 = .ok (.aload_n 3, 1) := by decide +kernel
theorem dX9_ofVisitor_94 : decode cX9_ofVisitor 94 = .ok (.getfield 135, 3) := by decide +kernel
theorem dX9_ofVisitor_97 : decode cX9_ofVisitor 97 = .ok (.iload_n 1, 1) := by decide +kernel
theorem dX9_ofVisitor_98 : decode cX9_ofVisitor 98 = .ok (.iaload, 1) := by decide +kernel
theorem dX9_ofVisitor_99 : decode cX9_ofVisitor 99 = .ok (.ireturn, 1) := by decide +kernel
theorem dX9_ofVisitor_100 : decode cX9_ofVisitor 100 = .ok (.aload_n 3, 1) := by decide +kernel
theorem dX9_ofVisitor_101 : decode cX9_ofVisitor 101 = .ok (.iload_n 1, 1) := by decide +kernel
theorem dX9_ofVisitor_102 : decode cX9_ofVisitor 102 = .ok (.aload_n 0, 1) := by decide +kernel
theorem dX9_ofVisitor_103 : decode cX9_ofVisitor 103 = .ok (.getfield 12, 3) := by decide +kernel
theorem dX9_ofVisitor_106 : decode cX9_ofVisitor 106 = .ok (.getfield 55, 3) := by decide +kernel
theorem dX9_ofVisitor_109 : decode cX9_ofVisitor 109 = .ok (.getfield 138, 3) := by decide +kernel
theorem dX9_ofVisitor_112 : decode cX9_ofVisitor 112 = .ok (.aload_n 0, 1) := by decide +kernel
theorem dX9_ofVisitor_113 : decode cX9_ofVisitor 113 = .ok (.getfield 12, 3) := by decide +kernel
theorem dX9_ofVisitor_116 : decode cX9_ofVisitor 116 = .ok (.getfield 55, 3) := by decide +kernel
theorem dX9_ofVisitor_119 : decode cX9_ofVisitor 119 = .ok (.invokevirtual 141, 3) := by decide +kernel
theorem dX9_ofVisitor_122 : decode cX9_ofVisitor 122 = .ok (.invokevirtual 144, 3) := by decide +kernel
theorem dX9_ofVisitor_125 : decode cX9_ofVisitor 125 = .ok (.ifCond .eq 7, 3) := by decide +kernel
theorem dX9_ofVisitor_128 : decode cX9_ofVisitor 128 = .ok (.iconst 1, 1) := by decide +kernel
theorem dX9_ofVisitor_129 : decode cX9_ofVisitor 129 = .ok (.goto 4, 3) := by decide +kernel
theorem dX9_ofVisitor_132 : decode cX9_ofVisitor 132 = .ok (.iconst 0, 1) := by decide +kernel
theorem dX9_ofVisitor_133 : decode cX9_ofVisitor 133 = .ok (.ireturn, 1) := by decide +kernel
theorem dX9_ofVisitor_134 : decode cX9_ofVisitor 134 = .ok (.aload_n 3, 1) := by decide +kernel
theorem dX9_ofVisitor_135 : decode cX9_ofVisitor 135 = .ok (.iload_n 1, 1) := by decide +kernel
theorem dX9_ofVisitor_136 : decode cX9_ofVisitor 136 = .ok (.aload_n 0, 1) := by decide +kernel
theorem dX9_ofVisitor_137 : decode cX9_ofVisitor 137 = .ok (.getfield 12, 3) := by decide +kernel
theorem dX9_ofVisitor_140 : decode cX9_ofVisitor 140 = .ok (.getfield 55, 3) := by decide +kernel
theorem dX9_ofVisitor_143 : decode cX9_ofVisitor 143 = .ok (.getfield 147, 3) := by decide +kernel
theorem dX9_ofVisitor_146 : decode cX9_ofVisitor 146 = .ok (.aload_n 0, 1) := by decide +kernel
theorem dX9_ofVisitor_147 : decode cX9_ofVisitor 147 = .ok (.getfield 12, 3) := by decide +kernel
theorem dX9_ofVisitor_150 : decode cX9_ofVisitor 150 = .ok (.getfield 55, 3) := by decide +kernel
theorem dX9_ofVisitor_153 : decode cX9_ofVisitor 153 = .ok (.invokevirtual 150, 3) := by decide +kernel
theorem dX9_ofVisitor_156 : decode cX9_ofVisitor 156 = .ok (.invokevirtual 153, 3) := by decide +kernel
theorem dX9_ofVisitor_159 : decode cX9_ofVisitor 159 = .ok (.ireturn, 1) := by decide +kernel
theorem dX9_change_0 : decode cX9_change 0 = .ok (.aload_n 0, 1) := by decide +kernel
theorem dX9_change_1 : decode cX9_change 1 = .ok (.getfield 12, 3) := by decide +kernel
theorem dX9_change_4 : decode cX9_change 4 = .ok (.getfield 55, 3) := by decide +kernel
theorem dX9_change_7 : decode cX9_change 7 = .ok (.getfield 111, 3) := by decide +kernel
theorem dX9_change_10 : decode cX9_change 10 = .ok (.astore 4, 2) := by decide +kernel
theorem dX9_change_12 : decode cX9_change 12 = .ok (.iload_n 2, 1) := by decide +kernel
theorem dX9_change_13 : decode cX9_change 13 = .ok (.ifCond .ne 13, 3) := by decide +kernel
theorem dX9_change_16 : decode cX9_change 16 = .ok (.iload_n 3, 1) := by decide +kernel
theorem dX9_change_17 : decode cX9_change 17 = .ok (.iconst 0, 1) := by decide +kernel
theorem dX9_change_18 : decode cX9_change 18 = .ok (.bipush 9, 2) := by decide +kernel
theorem dX9_change_20 : decode cX9_change 20 = .ok (.invokestatic 66, 3) := by decide +kernel
theorem dX9_change_23 : decode cX9_change 23 = .ok (.ifCond .ne 18, 3) := by decide +kernel
theorem dX9_change_26 : decode cX9_change 26 = .ok (.iload_n 2, 1) := by decide +kernel
theorem dX9_change_27 : decode cX9_change 27 = .ok (.iconst 1, 1) := by decide +kernel
theorem dX9_change_28 : decode cX9_change 28 = .ok (.if_icmp .ne 17, 3) := by decide +kernel
theorem dX9_change_31 : decode cX9_change 31 = .ok (.iload_n 3, 1) := by decide +kernel
theorem dX9_change_32 : decode cX9_change 32 = .ok (.iconst 1, 1) := by decide +kernel
theorem dX9_change_33 : decode cX9_change 33 = .ok (.bipush 12, 2) := by decide +kernel
theorem dX9_change_35 : decode cX9_change 35 = .ok (.invokestatic 66, 3) := by decide +kernel
theorem dX9_change_38 : decode cX9_change 38 = .ok (.ifCond .eq 7, 3) := by decide +kernel
theorem dX9_change_41 : decode cX9_change 41 = .ok (.iconst 1, 1) := by decide +kernel
theorem dX9_change_42 : decode cX9_change 42 = .ok (.goto 4, 3) := by decide +kernel
theorem dX9_change_45 : decode cX9_change 45 = .ok (.iconst 0, 1) := by decide +kernel
theorem dX9_change_46 : decode cX9_change 46 = .ok (.istore 5, 2) := by decide +kernel
theorem dX9_change_48 : decode cX9_change 48 = .ok (.aload 4, 2) := by decide +kernel
theorem dX9_change_50 : decode cX9_change 50 = .ok (.iload_n 1, 1) := by decide +kernel
theorem dX9_change_51 : decode cX9_change 51 = .ok (.invokevirtual 122, 3) := by decide +kernel
theorem dX9_change_54 : decode cX9_change 54 = .ok (.ifCond .eq 8, 3) := by decide +kernel
theorem dX9_change_57 : decode cX9_change 57 = .ok (.iload 5, 2) := by decide +kernel
theorem dX9_change_59 : decode cX9_change 59 = .ok (.ifCond .ne 10, 3) := by decide +kernel
theorem dX9_change_62 : decode cX9_change 62 = .ok (.aload_n 0, 1) := by decide +kernel
theorem dX9_change_63 : decode cX9_change 63 = .ok (.ldc 70, 2) := by decide +kernel
theorem dX9_change_65 : decode cX9_change 65 = .ok (.invokevirtual 71, 3) := by decide +kernel
theorem dX9_change_68 : decode cX9_change 68 = .ok (.ireturn, 1) := by decide +kernel
theorem dX9_change_69 : decode cX9_change 69 = .ok (.iload_n 2, 1) := by decide +kernel
theorem dX9_change_70 : decode cX9_change 70 = .ok (.ifCond .ne 11, 3) := by decide +kernel
theorem dX9_change_73 : decode cX9_change 73 = .ok (.aload 4, 2) := by decide +kernel
theorem dX9_change_75 : decode cX9_change 75 = .ok (.getfield 132, 3) := by decide +kernel
theorem dX9_change_78 : decode cX9_change 78 = .ok (.goto 8, 3) := by decide +kernel
theorem dX9_change_81 : decode cX9_change 81 = .ok (.aload 4, 2) := by decide +kernel
theorem dX9_change_83 : decode cX9_change 83 = .ok (.getfield 135, 3) := by decide +kernel
theorem dX9_change_86 : decode cX9_change 86 = .ok (.astore 6, 2) := by decide +kernel
theorem dX9_change_88 : decode cX9_change 88 = .ok (.aload 6, 2) := by decide +kernel
theorem dX9_change_90 : decode cX9_change 90 = .ok (.iload_n 1, 1) := by decide +kernel
theorem dX9_change_91 : decode cX9_change 91 = .ok (.iaload, 1) := by decide +kernel
theorem dX9_change_92 : decode cX9_change 92 = .ok (.istore 7, 2) := by decide +kernel
theorem dX9_change_94 : decode cX9_change 94 = .ok (.aload 6, 2) := by decide +kernel
theorem dX9_change_96 : decode cX9_change 96 = .ok (.iload_n 1, 1) := by decide +kernel
theorem dX9_change_97 : decode cX9_change 97 = .ok (.iload_n 3, 1) := by decide +kernel
theorem dX9_change_98 : decode cX9_change 98 = .ok (.iastore, 1) := by decide +kernel
theorem dX9_change_99 : decode cX9_change 99 = .ok (.iload 7, 2) := by decide +kernel
theorem dX9_change_101 : decode cX9_change 101 = .ok (.ireturn, 1) := by decide +kernel
theorem dX9_become_0 : decode cX9_become 0 = .ok (.aload_n 0, 1) := by decide +kernel
theorem dX9_become_1 : decode cX9_become 1 = .ok (.getfield 12, 3) := by decide +kernel
theorem dX9_become_4 : decode cX9_become 4 = .ok (.getfield 55, 3) := by decide +kernel
theorem dX9_become_7 : decode cX9_become 7 = .ok (.getfield 111, 3) := by decide +kernel
theorem dX9_become_10 : decode cX9_become 10 = .ok (.astore_n 3, 1) := by decide +kernel
theorem dX9_become_11 : decode cX9_become 11 = .ok (.aload_n 3, 1) := by decide +kernel
theorem dX9_become_12 : decode cX9_become 12 = .ok (.iload_n 1, 1) := by decide +kernel
theorem dX9_become_13 : decode cX9_become 13 = .ok (.invokevirtual 122, 3) := by decide +kernel
theorem dX9_become_16 : decode cX9_become 16 = .ok (.ifCond .eq 13, 3) := by decide +kernel
theorem dX9_become_19 : decode cX9_become 19 = .ok (.iload_n 2, 1) := by decide +kernel
theorem dX9_become_20 : decode cX9_become 20 = .ok (.iconst 0, 1) := by decide +kernel
theorem dX9_become_21 : decode cX9_become 21 = .ok (.bipush 69, 2) := by decide +kernel
theorem dX9_become_23 : decode cX9_become 23 = .ok (.invokestatic 66, 3) := by decide +kernel
theorem dX9_become_26 : decode cX9_become 26 = .ok (.ifCond .ne 10, 3) := by decide +kernel
theorem dX9_become_29 : decode cX9_become 29 = .ok (.aload_n 0, 1) := by decide +kernel
theorem dX9_become_30 : decode cX9_become 30 = .ok (.ldc 70, 2) := by decide +kernel
theorem dX9_become_32 : decode cX9_become 32 = .ok (.invokevirtual 71, 3) := by decide +kernel
theorem dX9_become_35 : decode cX9_become 35 = .ok (.ireturn, 1) := by decide +kernel
theorem dX9_become_36 : decode cX9_become 36 = .ok (.aload_n 3, 1) := by decide +kernel
theorem dX9_become_37 : decode cX9_become 37 = .ok (.getfield 126, 3) := by decide +kernel
theorem dX9_become_40 : decode cX9_become 40 = .ok (.iload_n 1, 1) := by decide +kernel
theorem dX9_become_41 : decode cX9_become 41 = .ok (.iaload, 1) := by decide +kernel
theorem dX9_become_42 : decode cX9_become 42 = .ok (.istore 4, 2) := by decide +kernel
theorem dX9_become_44 : decode cX9_become 44 = .ok (.aload_n 3, 1) := by decide +kernel
theorem dX9_become_45 : decode cX9_become 45 = .ok (.getfield 126, 3) := by decide +kernel
theorem dX9_become_48 : decode cX9_become 48 = .ok (.iload_n 1, 1) := by decide +kernel
theorem dX9_become_49 : decode cX9_become 49 = .ok (.iload_n 2, 1) := by decide +kernel
theorem dX9_become_50 : decode cX9_become 50 = .ok (.bipush 10, 2) := by decide +kernel
theorem dX9_become_52 : decode cX9_become 52 = .ok (.idiv, 1) := by decide +kernel
theorem dX9_become_53 : decode cX9_become 53 = .ok (.iastore, 1) := by decide +kernel
theorem dX9_become_54 : decode cX9_become 54 = .ok (.aload_n 3, 1) := by decide +kernel
theorem dX9_become_55 : decode cX9_become 55 = .ok (.getfield 129, 3) := by decide +kernel
theorem dX9_become_58 : decode cX9_become 58 = .ok (.iload_n 1, 1) := by decide +kernel
theorem dX9_become_59 : decode cX9_become 59 = .ok (.iload_n 2, 1) := by decide +kernel
theorem dX9_become_60 : decode cX9_become 60 = .ok (.bipush 10, 2) := by decide +kernel
theorem dX9_become_62 : decode cX9_become 62 = .ok (.irem, 1) := by decide +kernel
theorem dX9_become_63 : decode cX9_become 63 = .ok (.iastore, 1) := by decide +kernel
theorem dX9_become_64 : decode cX9_become 64 = .ok (.iload 4, 2) := by decide +kernel
theorem dX9_become_66 : decode cX9_become 66 = .ok (.ireturn, 1) := by decide +kernel
theorem dX9_as_0 : decode cX9_as 0 = .ok (.aload_n 0, 1) := by decide +kernel
theorem dX9_as_1 : decode cX9_as 1 = .ok (.getfield 12, 3) := by decide +kernel
theorem dX9_as_4 : decode cX9_as 4 = .ok (.getfield 55, 3) := by decide +kernel
theorem dX9_as_7 : decode cX9_as 7 = .ok (.getfield 111, 3) := by decide +kernel
theorem dX9_as_10 : decode cX9_as 10 = .ok (.astore_n 3, 1) := by decide +kernel
theorem dX9_as_11 : decode cX9_as 11 = .ok (.aload_n 3, 1) := by decide +kernel
theorem dX9_as_12 : decode cX9_as 12 = .ok (.iload_n 1, 1) := by decide +kernel
theorem dX9_as_13 : decode cX9_as 13 = .ok (.invokevirtual 122, 3) := by decide +kernel
theorem dX9_as_16 : decode cX9_as 16 = .ok (.ifCond .eq 13, 3) := by decide +kernel
theorem dX9_as_19 : decode cX9_as 19 = .ok (.iload_n 2, 1) := by decide +kernel
theorem dX9_as_20 : decode cX9_as 20 = .ok (.iconst 0, 1) := by decide +kernel
theorem dX9_as_21 : decode cX9_as 21 = .ok (.bipush 6, 2) := by decide +kernel
theorem dX9_as_23 : decode cX9_as 23 = .ok (.invokestatic 66, 3) := by decide +kernel
theorem dX9_as_26 : decode cX9_as 26 = .ok (.ifCond .ne 10, 3) := by decide +kernel
theorem dX9_as_29 : decode cX9_as 29 = .ok (.aload_n 0, 1) := by decide +kernel
theorem dX9_as_30 : decode cX9_as 30 = .ok (.ldc 70, 2) := by decide +kernel
theorem dX9_as_32 : decode cX9_as 32 = .ok (.invokevirtual 71, 3) := by decide +kernel
theorem dX9_as_35 : decode cX9_as 35 = .ok (.ireturn, 1) := by decide +kernel
theorem dX9_as_36 : decode cX9_as 36 = .ok (.aload_n 3, 1) := by decide +kernel
theorem dX9_as_37 : decode cX9_as 37 = .ok (.getfield 126, 3) := by decide +kernel
theorem dX9_as_40 : decode cX9_as 40 = .ok (.iload_n 1, 1) := by decide +kernel
theorem dX9_as_41 : decode cX9_as 41 = .ok (.iaload, 1) := by decide +kernel
theorem dX9_as_42 : decode cX9_as 42 = .ok (.iload_n 2, 1) := by decide +kernel
theorem dX9_as_43 : decode cX9_as 43 = .ok (.invokestatic 156, 3) := by decide +kernel
theorem dX9_as_46 : decode cX9_as 46 = .ok (.ifCond .eq 12, 3) := by decide +kernel
theorem dX9_as_49 : decode cX9_as 49 = .ok (.aload_n 3, 1) := by decide +kernel
theorem dX9_as_50 : decode cX9_as 50 = .ok (.getfield 129, 3) := by decide +kernel
theorem dX9_as_53 : decode cX9_as 53 = .ok (.iload_n 1, 1) := by decide +kernel
theorem dX9_as_54 : decode cX9_as 54 = .ok (.iaload, 1) := by decide +kernel
theorem dX9_as_55 : decode cX9_as 55 = .ok (.goto 9, 3) := by decide +kernel
theorem dX9_as_58 : decode cX9_as 58 = .ok (.aload_n 0, 1) := by decide +kernel
theorem dX9_as_59 : decode cX9_as 59 = .ok (.ldc 159, 2) := by decide +kernel
theorem dX9_as_61 : decode cX9_as 61 = .ok (.invokevirtual 71, 3) := by decide +kernel
theorem dX9_as_64 : decode cX9_as 64 = .ok (.ireturn, 1) := by decide +kernel
theorem dX9_feed_0 : decode cX9_feed 0 = .ok (.iload_n 3, 1) := by decide +kernel
theorem dX9_feed_1 : decode cX9_feed 1 = .ok (.iconst 1, 1) := by decide +kernel
theorem dX9_feed_2 : decode cX9_feed 2 = .ok (.bipush 8, 2) := by decide +kernel
theorem dX9_feed_4 : decode cX9_feed 4 = .ok (.invokestatic 66, 3) := by decide +kernel
theorem dX9_feed_7 : decode cX9_feed 7 = .ok (.ifCond .ne 10, 3) := by decide +kernel
theorem dX9_feed_10 : decode cX9_feed 10 = .ok (.aload_n 0, 1) := by decide +kernel
theorem dX9_feed_11 : decode cX9_feed 11 = .ok (.ldc 70, 2) := by decide +kernel
theorem dX9_feed_13 : decode cX9_feed 13 = .ok (.invokevirtual 71, 3) := by decide +kernel
theorem dX9_feed_16 : decode cX9_feed 16 = .ok (.ireturn, 1) := by decide +kernel
theorem dX9_feed_17 : decode cX9_feed 17 = .ok (.aload_n 0, 1) := by decide +kernel
theorem dX9_feed_18 : decode cX9_feed 18 = .ok (.getfield 12, 3) := by decide +kernel
theorem dX9_feed_21 : decode cX9_feed 21 = .ok (.getfield 160, 3) := by decide +kernel
theorem dX9_feed_24 : decode cX9_feed 24 = .ok (.getfield 164, 3) := by decide +kernel
theorem dX9_feed_27 : decode cX9_feed 27 = .ok (.iload_n 3, 1) := by decide +kernel
theorem dX9_feed_28 : decode cX9_feed 28 = .ok (.iadd, 1) := by decide +kernel
theorem dX9_feed_29 : decode cX9_feed 29 = .ok (.bipush 50, 2) := by decide +kernel
theorem dX9_feed_31 : decode cX9_feed 31 = .ok (.if_icmp .le 10, 3) := by decide +kernel
theorem dX9_feed_34 : decode cX9_feed 34 = .ok (.aload_n 0, 1) := by decide +kernel
theorem dX9_feed_35 : decode cX9_feed 35 = .ok (.ldc 121, 2) := by decide +kernel
theorem dX9_feed_37 : decode cX9_feed 37 = .ok (.invokevirtual 71, 3) := by decide +kernel
theorem dX9_feed_40 : decode cX9_feed 40 = .ok (.ireturn, 1) := by decide +kernel
theorem dX9_feed_41 : decode cX9_feed 41 = .ok (.iconst 0, 1) := by decide +kernel
theorem dX9_feed_42 : decode cX9_feed 42 = .ok (.istore 4, 2) := by decide +kernel
theorem dX9_feed_44 : decode cX9_feed 44 = .ok (.iload 4, 2) := by decide +kernel
theorem dX9_feed_46 : decode cX9_feed 46 = .ok (.iload_n 3, 1) := by decide +kernel
theorem dX9_feed_47 : decode cX9_feed 47 = .ok (.if_icmp .ge 32, 3) := by decide +kernel
theorem dX9_feed_50 : decode cX9_feed 50 = .ok (.aload_n 0, 1) := by decide +kernel
theorem dX9_feed_51 : decode cX9_feed 51 = .ok (.getfield 12, 3) := by decide +kernel
theorem dX9_feed_54 : decode cX9_feed 54 = .ok (.getfield 160, 3) := by decide +kernel
theorem dX9_feed_57 : decode cX9_feed 57 = .ok (.lload_n 1, 1) := by decide +kernel
theorem dX9_feed_58 : decode cX9_feed 58 = .ok (.bipush 8, 2) := by decide +kernel
theorem dX9_feed_60 : decode cX9_feed 60 = .ok (.iload 4, 2) := by decide +kernel
theorem dX9_feed_62 : decode cX9_feed 62 = .ok (.imul, 1) := by decide +kernel
theorem dX9_feed_63 : decode cX9_feed 63 = .ok (.lushr, 1) := by decide +kernel
theorem dX9_feed_64 : decode cX9_feed 64 = .ok (.ldc2_w 169, 3) := by decide +kernel
theorem dX9_feed_67 : decode cX9_feed 67 = .ok (.land, 1) := by decide +kernel
theorem dX9_feed_68 : decode cX9_feed 68 = .ok (.l2i, 1) := by decide +kernel
theorem dX9_feed_69 : decode cX9_feed 69 = .ok (.invokevirtual 171, 3) := by decide +kernel
theorem dX9_feed_72 : decode cX9_feed 72 = .ok (.pop, 1) := by decide +kernel
theorem dX9_feed_73 : decode cX9_feed 73 = .ok (.iinc 4 1, 3) := by decide +kernel
theorem dX9_feed_76 : decode cX9_feed 76 = .ok (.goto (-32), 3) := by decide +kernel
theorem dX9_feed_79 : decode cX9_feed 79 = .ok (.aload_n 0, 1) := by decide +kernel
theorem dX9_feed_80 : decode cX9_feed 80 = .ok (.getfield 12, 3) := by decide +kernel
theorem dX9_feed_83 : decode cX9_feed 83 = .ok (.getfield 160, 3) := by decide +kernel
theorem dX9_feed_86 : decode cX9_feed 86 = .ok (.getfield 164, 3) := by decide +kernel
theorem dX9_feed_89 : decode cX9_feed 89 = .ok (.ireturn, 1) := by decide +kernel
theorem dX9_text_0 : decode cX9_text 0 = .ok (.iload_n 1, 1) := by decide +kernel
theorem dX9_text_1 : decode cX9_text 1 = .ok (.iconst 0, 1) := by decide +kernel
theorem dX9_text_2 : decode cX9_text 2 = .ok (.iconst 1, 1) := by decide +kernel
theorem dX9_text_3 : decode cX9_text 3 = .ok (.invokestatic 66, 3) := by decide +kernel
theorem dX9_text_6 : decode cX9_text 6 = .ok (.ifCond .ne 10, 3) := by decide +kernel
theorem dX9_text_9 : decode cX9_text 9 = .ok (.aload_n 0, 1) := by decide +kernel
theorem dX9_text_10 : decode cX9_text 10 = .ok (.ldc 70, 2) := by decide +kernel
theorem dX9_text_12 : decode cX9_text 12 = .ok (.invokevirtual 71, 3) := by decide +kernel
theorem dX9_text_15 : decode cX9_text 15 = .ok (.ireturn, 1) := by decide +kernel
theorem dX9_text_16 : decode cX9_text 16 = .ok (.aload_n 0, 1) := by decide +kernel
theorem dX9_text_17 : decode cX9_text 17 = .ok (.getfield 39, 3) := by decide +kernel
theorem dX9_text_20 : decode cX9_text 20 = .ok (.aload_n 0, 1) := by decide +kernel
theorem dX9_text_21 : decode cX9_text 21 = .ok (.getfield 12, 3) := by decide +kernel
theorem dX9_text_24 : decode cX9_text 24 = .ok (.getfield 160, 3) := by decide +kernel
theorem dX9_text_27 : decode cX9_text 27 = .ok (.iload_n 1, 1) := by decide +kernel
theorem dX9_text_28 : decode cX9_text 28 = .ok (.invokevirtual 173, 3) := by decide +kernel
theorem dX9_text_31 : decode cX9_text 31 = .ok (.istore_n 2, 1) := by decide +kernel
theorem dX9_text_32 : decode cX9_text 32 = .ok (.aload_n 0, 1) := by decide +kernel
theorem dX9_text_33 : decode cX9_text 33 = .ok (.getfield 12, 3) := by decide +kernel
theorem dX9_text_36 : decode cX9_text 36 = .ok (.getfield 160, 3) := by decide +kernel
theorem dX9_text_39 : decode cX9_text 39 = .ok (.invokevirtual 177, 3) := by decide +kernel
theorem dX9_text_42 : decode cX9_text 42 = .ok (.iload_n 2, 1) := by decide +kernel
theorem dX9_text_43 : decode cX9_text 43 = .ok (.ifCond .lt 8, 3) := by decide +kernel
theorem dX9_text_46 : decode cX9_text 46 = .ok (.bipush (-10), 2) := by decide +kernel
theorem dX9_text_48 : decode cX9_text 48 = .ok (.iload_n 2, 1) := by decide +kernel
theorem dX9_text_49 : decode cX9_text 49 = .ok (.isub, 1) := by decide +kernel
theorem dX9_text_50 : decode cX9_text 50 = .ok (.ireturn, 1) := by decide +kernel
theorem dX9_text_51 : decode cX9_text 51 = .ok (.aload_n 0, 1) := by decide +kernel
theorem dX9_text_52 : decode cX9_text 52 = .ok (.getfield 12, 3) := by decide +kernel
theorem dX9_text_55 : decode cX9_text 55 = .ok (.getfield 55, 3) := by decide +kernel
theorem dX9_text_58 : decode cX9_text 58 = .ok (.iload_n 1, 1) := by decide +kernel
theorem dX9_text_59 : decode cX9_text 59 = .ok (.invokevirtual 180, 3) := by decide +kernel
theorem dX9_text_62 : decode cX9_text 62 = .ok (.aload_n 0, 1) := by decide +kernel
theorem dX9_text_63 : decode cX9_text 63 = .ok (.getfield 39, 3) := by decide +kernel
theorem dX9_text_66 : decode cX9_text 66 = .ok (.getfield 184, 3) := by decide +kernel
theorem dX9_text_69 : decode cX9_text 69 = .ok (.invokevirtual 188, 3) := by decide +kernel
theorem dX9_text_72 : decode cX9_text 72 = .ok (.iconst 1, 1) := by decide +kernel
theorem dX9_text_73 : decode cX9_text 73 = .ok (.ireturn, 1) := by decide +kernel
theorem dX9_law_0 : decode cX9_law 0 = .ok (.iload_n 1, 1) := by decide +kernel
theorem dX9_law_1 : decode cX9_law 1 = .ok (.iconst 0, 1) := by decide +kernel
theorem dX9_law_2 : decode cX9_law 2 = .ok (.iconst 1, 1) := by decide +kernel
theorem dX9_law_3 : decode cX9_law 3 = .ok (.invokestatic 66, 3) := by decide +kernel
theorem dX9_law_6 : decode cX9_law 6 = .ok (.ifCond .ne 10, 3) := by decide +kernel
theorem dX9_law_9 : decode cX9_law 9 = .ok (.aload_n 0, 1) := by decide +kernel
theorem dX9_law_10 : decode cX9_law 10 = .ok (.ldc 70, 2) := by decide +kernel
theorem dX9_law_12 : decode cX9_law 12 = .ok (.invokevirtual 71, 3) := by decide +kernel
theorem dX9_law_15 : decode cX9_law 15 = .ok (.ireturn, 1) := by decide +kernel
theorem dX9_law_16 : decode cX9_law 16 = .ok (.aload_n 0, 1) := by decide +kernel
theorem dX9_law_17 : decode cX9_law 17 = .ok (.getfield 12, 3) := by decide +kernel
theorem dX9_law_20 : decode cX9_law 20 = .ok (.getfield 55, 3) := by decide +kernel
theorem dX9_law_23 : decode cX9_law 23 = .ok (.iload_n 1, 1) := by decide +kernel
theorem dX9_law_24 : decode cX9_law 24 = .ok (.iload_n 2, 1) := by decide +kernel
theorem dX9_law_25 : decode cX9_law 25 = .ok (.iload_n 3, 1) := by decide +kernel
theorem dX9_law_26 : decode cX9_law 26 = .ok (.iload 4, 2) := by decide +kernel
theorem dX9_law_28 : decode cX9_law 28 = .ok (.invokevirtual 194, 3) := by decide +kernel
theorem dX9_law_31 : decode cX9_law 31 = .ok (.ireturn, 1) := by decide +kernel
theorem dX9_years_0 : decode cX9_years 0 = .ok (.iload_n 1, 1) := by decide +kernel
theorem dX9_years_1 : decode cX9_years 1 = .ok (.iconst 1, 1) := by decide +kernel
theorem dX9_years_2 : decode cX9_years 2 = .ok (.bipush 60, 2) := by decide +kernel
theorem dX9_years_4 : decode cX9_years 4 = .ok (.invokestatic 66, 3) := by decide +kernel
theorem dX9_years_7 : decode cX9_years 7 = .ok (.ifCond .ne 10, 3) := by decide +kernel
theorem dX9_years_10 : decode cX9_years 10 = .ok (.aload_n 0, 1) := by decide +kernel
theorem dX9_years_11 : decode cX9_years 11 = .ok (.ldc 70, 2) := by decide +kernel
theorem dX9_years_13 : decode cX9_years 13 = .ok (.invokevirtual 71, 3) := by decide +kernel
theorem dX9_years_16 : decode cX9_years 16 = .ok (.ireturn, 1) := by decide +kernel
theorem dX9_years_17 : decode cX9_years 17 = .ok (.aload_n 0, 1) := by decide +kernel
theorem dX9_years_18 : decode cX9_years 18 = .ok (.getfield 12, 3) := by decide +kernel
theorem dX9_years_21 : decode cX9_years 21 = .ok (.getfield 55, 3) := by decide +kernel
theorem dX9_years_24 : decode cX9_years 24 = .ok (.getfield 138, 3) := by decide +kernel
theorem dX9_years_27 : decode cX9_years 27 = .ok (.iload_n 1, 1) := by decide +kernel
theorem dX9_years_28 : decode cX9_years 28 = .ok (.iadd, 1) := by decide +kernel
theorem dX9_years_29 : decode cX9_years 29 = .ok (.sipush 9999, 3) := by decide +kernel
theorem dX9_years_32 : decode cX9_years 32 = .ok (.if_icmp .le 10, 3) := by decide +kernel
theorem dX9_years_35 : decode cX9_years 35 = .ok (.aload_n 0, 1) := by decide +kernel
theorem dX9_years_36 : decode cX9_years 36 = .ok (.ldc 198, 2) := by decide +kernel
theorem dX9_years_38 : decode cX9_years 38 = .ok (.invokevirtual 71, 3) := by decide +kernel
theorem dX9_years_41 : decode cX9_years 41 = .ok (.ireturn, 1) := by decide +kernel
theorem dX9_years_42 : decode cX9_years 42 = .ok (.aload_n 0, 1) := by decide +kernel
theorem dX9_years_43 : decode cX9_years 43 = .ok (.getfield 12, 3) := by decide +kernel
theorem dX9_years_46 : decode cX9_years 46 = .ok (.getfield 55, 3) := by decide +kernel
theorem dX9_years_49 : decode cX9_years 49 = .ok (.iload_n 1, 1) := by decide +kernel
theorem dX9_years_50 : decode cX9_years 50 = .ok (.invokevirtual 199, 3) := by decide +kernel
theorem dX9_years_53 : decode cX9_years 53 = .ok (.ireturn, 1) := by decide +kernel
theorem dX9_loose_0 : decode cX9_loose 0 = .ok (.iload_n 1, 1) := by decide +kernel
theorem dX9_loose_1 : decode cX9_loose 1 = .ok (.iconst 1, 1) := by decide +kernel
theorem dX9_loose_2 : decode cX9_loose 2 = .ok (.bipush 40, 2) := by decide +kernel
theorem dX9_loose_4 : decode cX9_loose 4 = .ok (.invokestatic 66, 3) := by decide +kernel
theorem dX9_loose_7 : decode cX9_loose 7 = .ok (.ifCond .ne 10, 3) := by decide +kernel
theorem dX9_loose_10 : decode cX9_loose 10 = .ok (.aload_n 0, 1) := by decide +kernel
theorem dX9_loose_11 : decode cX9_loose 11 = .ok (.ldc 70, 2) := by decide +kernel
theorem dX9_loose_13 : decode cX9_loose 13 = .ok (.invokevirtual 71, 3) := by decide +kernel
theorem dX9_loose_16 : decode cX9_loose 16 = .ok (.ireturn, 1) := by decide +kernel
theorem dX9_loose_17 : decode cX9_loose 17 = .ok (.aload_n 0, 1) := by decide +kernel
theorem dX9_loose_18 : decode cX9_loose 18 = .ok (.getfield 12, 3) := by decide +kernel
theorem dX9_loose_21 : decode cX9_loose 21 = .ok (.getfield 55, 3) := by decide +kernel
theorem dX9_loose_24 : decode cX9_loose 24 = .ok (.getfield 138, 3) := by decide +kernel
theorem dX9_loose_27 : decode cX9_loose 27 = .ok (.iload_n 1, 1) := by decide +kernel
theorem dX9_loose_28 : decode cX9_loose 28 = .ok (.iadd, 1) := by decide +kernel
theorem dX9_loose_29 : decode cX9_loose 29 = .ok (.sipush 9999, 3) := by decide +kernel
theorem dX9_loose_32 : decode cX9_loose 32 = .ok (.if_icmp .le 10, 3) := by decide +kernel
theorem dX9_loose_35 : decode cX9_loose 35 = .ok (.aload_n 0, 1) := by decide +kernel
theorem dX9_loose_36 : decode cX9_loose 36 = .ok (.ldc 198, 2) := by decide +kernel
theorem dX9_loose_38 : decode cX9_loose 38 = .ok (.invokevirtual 71, 3) := by decide +kernel
theorem dX9_loose_41 : decode cX9_loose 41 = .ok (.ireturn, 1) := by decide +kernel
theorem dX9_loose_42 : decode cX9_loose 42 = .ok (.iconst 0, 1) := by decide +kernel
theorem dX9_loose_43 : decode cX9_loose 43 = .ok (.istore_n 2, 1) := by decide +kernel
theorem dX9_loose_44 : decode cX9_loose 44 = .ok (.iload_n 2, 1) := by decide +kernel
theorem dX9_loose_45 : decode cX9_loose 45 = .ok (.iload_n 1, 1) := by decide +kernel
theorem dX9_loose_46 : decode cX9_loose 46 = .ok (.if_icmp .ge 28, 3) := by decide +kernel
theorem dX9_loose_49 : decode cX9_loose 49 = .ok (.aload_n 0, 1) := by decide +kernel
theorem dX9_loose_50 : decode cX9_loose 50 = .ok (.getfield 12, 3) := by decide +kernel
theorem dX9_loose_53 : decode cX9_loose 53 = .ok (.invokevirtual 202, 3) := by decide +kernel
theorem dX9_loose_56 : decode cX9_loose 56 = .ok (.aload_n 0, 1) := by decide +kernel
theorem dX9_loose_57 : decode cX9_loose 57 = .ok (.getfield 12, 3) := by decide +kernel
theorem dX9_loose_60 : decode cX9_loose 60 = .ok (.getfield 55, 3) := by decide +kernel
theorem dX9_loose_63 : decode cX9_loose 63 = .ok (.iconst 1, 1) := by decide +kernel
theorem dX9_loose_64 : decode cX9_loose 64 = .ok (.invokevirtual 199, 3) := by decide +kernel
theorem dX9_loose_67 : decode cX9_loose 67 = .ok (.pop, 1) := by decide +kernel
theorem dX9_loose_68 : decode cX9_loose 68 = .ok (.iinc 2 1, 3) := by decide +kernel
theorem dX9_loose_71 : decode cX9_loose 71 = .ok (.goto (-27), 3) := by decide +kernel
theorem dX9_loose_74 : decode cX9_loose 74 = .ok (.aload_n 0, 1) := by decide +kernel
theorem dX9_loose_75 : decode cX9_loose 75 = .ok (.getfield 12, 3) := by decide +kernel
theorem dX9_loose_78 : decode cX9_loose 78 = .ok (.getfield 55, 3) := by decide +kernel
theorem dX9_loose_81 : decode cX9_loose 81 = .ok (.getfield 205, 3) := by decide +kernel
theorem dX9_loose_84 : decode cX9_loose 84 = .ok (.ireturn, 1) := by decide +kernel
theorem dX9_then_0 : decode cX9_then 0 = .ok (.iload_n 1, 1) := by decide +kernel
theorem dX9_then_1 : decode cX9_then 1 = .ok (.iconst 0, 1) := by decide +kernel
theorem dX9_then_2 : decode cX9_then 2 = .ok (.bipush 60, 2) := by decide +kernel
theorem dX9_then_4 : decode cX9_then 4 = .ok (.invokestatic 66, 3) := by decide +kernel
theorem dX9_then_7 : decode cX9_then 7 = .ok (.ifCond .eq 12, 3) := by decide +kernel
theorem dX9_then_10 : decode cX9_then 10 = .ok (.iload_n 2, 1) := by decide +kernel
theorem dX9_then_11 : decode cX9_then 11 = .ok (.iconst 0, 1) := by decide +kernel
theorem dX9_then_12 : decode cX9_then 12 = .ok (.iconst 2, 1) := by decide +kernel
theorem dX9_then_13 : decode cX9_then 13 = .ok (.invokestatic 66, 3) := by decide +kernel
theorem dX9_then_16 : decode cX9_then 16 = .ok (.ifCond .ne 10, 3) := by decide +kernel
theorem dX9_then_19 : decode cX9_then 19 = .ok (.aload_n 0, 1) := by decide +kernel
theorem dX9_then_20 : decode cX9_then 20 = .ok (.ldc 70, 2) := by decide +kernel
theorem dX9_then_22 : decode cX9_then 22 = .ok (.invokevirtual 71, 3) := by decide +kernel
theorem dX9_then_25 : decode cX9_then 25 = .ok (.ireturn, 1) := by decide +kernel
theorem dX9_then_26 : decode cX9_then 26 = .ok (.aload_n 0, 1) := by decide +kernel
theorem dX9_then_27 : decode cX9_then 27 = .ok (.invokevirtual 208, 3) := by decide +kernel
theorem dX9_then_30 : decode cX9_then 30 = .ok (.aload_n 0, 1) := by decide +kernel
theorem dX9_then_31 : decode cX9_then 31 = .ok (.getfield 26, 3) := by decide +kernel
theorem dX9_then_34 : decode cX9_then 34 = .ok (.iload_n 1, 1) := by decide +kernel
theorem dX9_then_35 : decode cX9_then 35 = .ok (.invokevirtual 199, 3) := by decide +kernel
theorem dX9_then_38 : decode cX9_then 38 = .ok (.pop, 1) := by decide +kernel
theorem dX9_then_39 : decode cX9_then 39 = .ok (.iload_n 2, 1) := by decide +kernel
theorem dX9_then_40 : decode cX9_then 40 = .ok (.lookupswitch 44 #[(0, 28), (1, 36)], 28) := by decide +kernel
theorem dX9_then_68 : decode cX9_then 68 = .ok (.aload_n 0, 1) := by decide +kernel
theorem dX9_then_69 : decode cX9_then 69 = .ok (.getfield 26, 3) := by decide +kernel
theorem dX9_then_72 : decode cX9_then 72 = .ok (.getfield 147, 3) := by decide +kernel
theorem dX9_then_75 : decode cX9_then 75 = .ok (.ireturn, 1) := by decide +kernel
theorem dX9_then_76 : decode cX9_then 76 = .ok (.aload_n 0, 1) := by decide +kernel
theorem dX9_then_77 : decode cX9_then 77 = .ok (.getfield 26, 3) := by decide +kernel
theorem dX9_then_80 : decode cX9_then 80 = .ok (.getfield 205, 3) := by decide +kernel
theorem dX9_then_83 : decode cX9_then 83 = .ok (.ireturn, 1) := by decide +kernel
theorem dX9_then_84 : decode cX9_then 84 = .ok (.aload_n 0, 1) := by decide +kernel
theorem dX9_then_85 : decode cX9_then 85 = .ok (.getfield 26, 3) := by decide +kernel
theorem dX9_then_88 : decode cX9_then 88 = .ok (.getfield 211, 3) := by decide +kernel
theorem dX9_then_91 : decode cX9_then 91 = .ok (.ireturn, 1) := by decide +kernel
theorem dX9_falls_0 : decode cX9_falls 0 = .ok (.aload_n 0, 1) := by decide +kernel
theorem dX9_falls_1 : decode cX9_falls 1 = .ok (.invokevirtual 208, 3) := by decide +kernel
theorem dX9_falls_4 : decode cX9_falls 4 = .ok (.iconst 0, 1) := by decide +kernel
theorem dX9_falls_5 : decode cX9_falls 5 = .ok (.istore_n 1, 1) := by decide +kernel
theorem dX9_falls_6 : decode cX9_falls 6 = .ok (.iload_n 1, 1) := by decide +kernel
theorem dX9_falls_7 : decode cX9_falls 7 = .ok (.bipush 60, 2) := by decide +kernel
theorem dX9_falls_9 : decode cX9_falls 9 = .ok (.if_icmp .gt 32, 3) := by decide +kernel
theorem dX9_falls_12 : decode cX9_falls 12 = .ok (.aload_n 0, 1) := by decide +kernel
theorem dX9_falls_13 : decode cX9_falls 13 = .ok (.getfield 26, 3) := by decide +kernel
theorem dX9_falls_16 : decode cX9_falls 16 = .ok (.getfield 205, 3) := by decide +kernel
theorem dX9_falls_19 : decode cX9_falls 19 = .ok (.bipush 60, 2) := by decide +kernel
theorem dX9_falls_21 : decode cX9_falls 21 = .ok (.if_icmp .lt 5, 3) := by decide +kernel
theorem dX9_falls_24 : decode cX9_falls 24 = .ok (.iload_n 1, 1) := by decide +kernel
theorem dX9_falls_25 : decode cX9_falls 25 = .ok (.ireturn, 1) := by decide +kernel
theorem dX9_falls_26 : decode cX9_falls 26 = .ok (.aload_n 0, 1) := by decide +kernel
theorem dX9_falls_27 : decode cX9_falls 27 = .ok (.getfield 26, 3) := by decide +kernel
theorem dX9_falls_30 : decode cX9_falls 30 = .ok (.iconst 1, 1) := by decide +kernel
theorem dX9_falls_31 : decode cX9_falls 31 = .ok (.invokevirtual 199, 3) := by decide +kernel
theorem dX9_falls_34 : decode cX9_falls 34 = .ok (.pop, 1) := by decide +kernel
theorem dX9_falls_35 : decode cX9_falls 35 = .ok (.iinc 1 1, 3) := by decide +kernel
theorem dX9_falls_38 : decode cX9_falls 38 = .ok (.goto (-32), 3) := by decide +kernel
theorem dX9_falls_41 : decode cX9_falls 41 = .ok (.aload_n 0, 1) := by decide +kernel
theorem dX9_falls_42 : decode cX9_falls 42 = .ok (.ldc 214, 2) := by decide +kernel
theorem dX9_falls_44 : decode cX9_falls 44 = .ok (.invokevirtual 71, 3) := by decide +kernel
theorem dX9_falls_47 : decode cX9_falls 47 = .ok (.ireturn, 1) := by decide +kernel
theorem dX9_wet_0 : decode cX9_wet 0 = .ok (.iload_n 1, 1) := by decide +kernel
theorem dX9_wet_1 : decode cX9_wet 1 = .ok (.iconst 0, 1) := by decide +kernel
theorem dX9_wet_2 : decode cX9_wet 2 = .ok (.bipush 60, 2) := by decide +kernel
theorem dX9_wet_4 : decode cX9_wet 4 = .ok (.invokestatic 66, 3) := by decide +kernel
theorem dX9_wet_7 : decode cX9_wet 7 = .ok (.ifCond .eq 13, 3) := by decide +kernel
theorem dX9_wet_10 : decode cX9_wet 10 = .ok (.iload_n 2, 1) := by decide +kernel
theorem dX9_wet_11 : decode cX9_wet 11 = .ok (.iconst 1, 1) := by decide +kernel
theorem dX9_wet_12 : decode cX9_wet 12 = .ok (.bipush 99, 2) := by decide +kernel
theorem dX9_wet_14 : decode cX9_wet 14 = .ok (.invokestatic 66, 3) := by decide +kernel
theorem dX9_wet_17 : decode cX9_wet 17 = .ok (.ifCond .ne 10, 3) := by decide +kernel
theorem dX9_wet_20 : decode cX9_wet 20 = .ok (.aload_n 0, 1) := by decide +kernel
theorem dX9_wet_21 : decode cX9_wet 21 = .ok (.ldc 70, 2) := by decide +kernel
theorem dX9_wet_23 : decode cX9_wet 23 = .ok (.invokevirtual 71, 3) := by decide +kernel
theorem dX9_wet_26 : decode cX9_wet 26 = .ok (.ireturn, 1) := by decide +kernel
theorem dX9_wet_27 : decode cX9_wet 27 = .ok (.aload_n 0, 1) := by decide +kernel
theorem dX9_wet_28 : decode cX9_wet 28 = .ok (.invokevirtual 208, 3) := by decide +kernel
theorem dX9_wet_31 : decode cX9_wet 31 = .ok (.iconst 0, 1) := by decide +kernel
theorem dX9_wet_32 : decode cX9_wet 32 = .ok (.istore_n 3, 1) := by decide +kernel
theorem dX9_wet_33 : decode cX9_wet 33 = .ok (.iconst 0, 1) := by decide +kernel
theorem dX9_wet_34 : decode cX9_wet 34 = .ok (.istore 4, 2) := by decide +kernel
theorem dX9_wet_36 : decode cX9_wet 36 = .ok (.iload 4, 2) := by decide +kernel
theorem dX9_wet_38 : decode cX9_wet 38 = .ok (.iload_n 1, 1) := by decide +kernel
theorem dX9_wet_39 : decode cX9_wet 39 = .ok (.if_icmp .ge 32, 3) := by decide +kernel
theorem dX9_wet_42 : decode cX9_wet 42 = .ok (.aload_n 0, 1) := by decide +kernel
theorem dX9_wet_43 : decode cX9_wet 43 = .ok (.getfield 26, 3) := by decide +kernel
theorem dX9_wet_46 : decode cX9_wet 46 = .ok (.iconst 1, 1) := by decide +kernel
theorem dX9_wet_47 : decode cX9_wet 47 = .ok (.invokevirtual 199, 3) := by decide +kernel
theorem dX9_wet_50 : decode cX9_wet 50 = .ok (.pop, 1) := by decide +kernel
theorem dX9_wet_51 : decode cX9_wet 51 = .ok (.aload_n 0, 1) := by decide +kernel
theorem dX9_wet_52 : decode cX9_wet 52 = .ok (.getfield 26, 3) := by decide +kernel
theorem dX9_wet_55 : decode cX9_wet 55 = .ok (.getfield 211, 3) := by decide +kernel
theorem dX9_wet_58 : decode cX9_wet 58 = .ok (.iload_n 2, 1) := by decide +kernel
theorem dX9_wet_59 : decode cX9_wet 59 = .ok (.if_icmp .lt 6, 3) := by decide +kernel
theorem dX9_wet_62 : decode cX9_wet 62 = .ok (.iinc 3 1, 3) := by decide +kernel
theorem dX9_wet_65 : decode cX9_wet 65 = .ok (.iinc 4 1, 3) := by decide +kernel
theorem dX9_wet_68 : decode cX9_wet 68 = .ok (.goto (-32), 3) := by decide +kernel
theorem dX9_wet_71 : decode cX9_wet 71 = .ok (.iload_n 3, 1) := by decide +kernel
theorem dX9_wet_72 : decode cX9_wet 72 = .ok (.ireturn, 1) := by decide +kernel
theorem dX9_loudFor_0 : decode cX9_loudFor 0 = .ok (.aload_n 0, 1) := by decide +kernel
theorem dX9_loudFor_1 : decode cX9_loudFor 1 = .ok (.getfield 12, 3) := by decide +kernel
theorem dX9_loudFor_4 : decode cX9_loudFor 4 = .ok (.getfield 55, 3) := by decide +kernel
theorem dX9_loudFor_7 : decode cX9_loudFor 7 = .ok (.getfield 111, 3) := by decide +kernel
theorem dX9_loudFor_10 : decode cX9_loudFor 10 = .ok (.iload_n 1, 1) := by decide +kernel
theorem dX9_loudFor_11 : decode cX9_loudFor 11 = .ok (.invokevirtual 122, 3) := by decide +kernel
theorem dX9_loudFor_14 : decode cX9_loudFor 14 = .ok (.ifCond .eq 23, 3) := by decide +kernel
theorem dX9_loudFor_17 : decode cX9_loudFor 17 = .ok (.iload_n 2, 1) := by decide +kernel
theorem dX9_loudFor_18 : decode cX9_loudFor 18 = .ok (.iconst 0, 1) := by decide +kernel
theorem dX9_loudFor_19 : decode cX9_loudFor 19 = .ok (.bipush 60, 2) := by decide +kernel
theorem dX9_loudFor_21 : decode cX9_loudFor 21 = .ok (.invokestatic 66, 3) := by decide +kernel
theorem dX9_loudFor_24 : decode cX9_loudFor 24 = .ok (.ifCond .eq 13, 3) := by decide +kernel
theorem dX9_loudFor_27 : decode cX9_loudFor 27 = .ok (.iload_n 3, 1) := by decide +kernel
theorem dX9_loudFor_28 : decode cX9_loudFor 28 = .ok (.iconst 0, 1) := by decide +kernel
theorem dX9_loudFor_29 : decode cX9_loudFor 29 = .ok (.bipush 99, 2) := by decide +kernel
theorem dX9_loudFor_31 : decode cX9_loudFor 31 = .ok (.invokestatic 66, 3) := by decide +kernel
theorem dX9_loudFor_34 : decode cX9_loudFor 34 = .ok (.ifCond .ne 10, 3) := by decide +kernel
theorem dX9_loudFor_37 : decode cX9_loudFor 37 = .ok (.aload_n 0, 1) := by decide +kernel
theorem dX9_loudFor_38 : decode cX9_loudFor 38 = .ok (.ldc 70, 2) := by decide +kernel
theorem dX9_loudFor_40 : decode cX9_loudFor 40 = .ok (.invokevirtual 71, 3) := by decide +kernel
theorem dX9_loudFor_43 : decode cX9_loudFor 43 = .ok (.ireturn, 1) := by decide +kernel
theorem dX9_loudFor_44 : decode cX9_loudFor 44 = .ok (.iconst 0, 1) := by decide +kernel
theorem dX9_loudFor_45 : decode cX9_loudFor 45 = .ok (.istore 4, 2) := by decide +kernel
theorem dX9_loudFor_47 : decode cX9_loudFor 47 = .ok (.iload 4, 2) := by decide +kernel
theorem dX9_loudFor_49 : decode cX9_loudFor 49 = .ok (.bipush 9, 2) := by decide +kernel
theorem dX9_loudFor_51 : decode cX9_loudFor 51 = .ok (.if_icmp .gt 42, 3) := by decide +kernel
theorem dX9_loudFor_54 : decode cX9_loudFor 54 = .ok (.aload_n 0, 1) := by decide +kernel
theorem dX9_loudFor_55 : decode cX9_loudFor 55 = .ok (.invokevirtual 208, 3) := by decide +kernel
theorem dX9_loudFor_58 : decode cX9_loudFor 58 = .ok (.aload_n 0, 1) := by decide +kernel
theorem dX9_loudFor_59 : decode cX9_loudFor 59 = .ok (.getfield 26, 3) := by decide +kernel
theorem dX9_loudFor_62 : decode cX9_loudFor 62 = .ok (.getfield 111, 3) := by decide +kernel
theorem dX9_loudFor_65 : decode cX9_loudFor 65 = .ok (.getfield 132, 3) := by decide +kernel
theorem dX9_loudFor_68 : decode cX9_loudFor 68 = .ok (.iload_n 1, 1) := by decide +kernel
theorem dX9_loudFor_69 : decode cX9_loudFor 69 = .ok (.iload 4, 2) := by decide +kernel
theorem dX9_loudFor_71 : decode cX9_loudFor 71 = .ok (.iastore, 1) := by decide +kernel
theorem dX9_loudFor_72 : decode cX9_loudFor 72 = .ok (.aload_n 0, 1) := by decide +kernel
theorem dX9_loudFor_73 : decode cX9_loudFor 73 = .ok (.getfield 26, 3) := by decide +kernel
theorem dX9_loudFor_76 : decode cX9_loudFor 76 = .ok (.iload_n 2, 1) := by decide +kernel
theorem dX9_loudFor_77 : decode cX9_loudFor 77 = .ok (.invokevirtual 199, 3) := by decide +kernel
theorem dX9_loudFor_80 : decode cX9_loudFor 80 = .ok (.iload_n 3, 1) := by decide +kernel
theorem dX9_loudFor_81 : decode cX9_loudFor 81 = .ok (.if_icmp .gt 6, 3) := by decide +kernel
theorem dX9_loudFor_84 : decode cX9_loudFor 84 = .ok (.iload 4, 2) := by decide +kernel
theorem dX9_loudFor_86 : decode cX9_loudFor 86 = .ok (.ireturn, 1) := by decide +kernel
theorem dX9_loudFor_87 : decode cX9_loudFor 87 = .ok (.iinc 4 1, 3) := by decide +kernel
theorem dX9_loudFor_90 : decode cX9_loudFor 90 = .ok (.goto (-43), 3) := by decide +kernel
theorem dX9_loudFor_93 : decode cX9_loudFor 93 = .ok (.aload_n 0, 1) := by decide +kernel
theorem dX9_loudFor_94 : decode cX9_loudFor 94 = .ok (.ldc 214, 2) := by decide +kernel
theorem dX9_loudFor_96 : decode cX9_loudFor 96 = .ok (.invokevirtual 71, 3) := by decide +kernel
theorem dX9_loudFor_99 : decode cX9_loudFor 99 = .ok (.ireturn, 1) := by decide +kernel
theorem dX9_everyFor_0 : decode cX9_everyFor 0 = .ok (.aload_n 0, 1) := by decide +kernel
theorem dX9_everyFor_1 : decode cX9_everyFor 1 = .ok (.getfield 12, 3) := by decide +kernel
theorem dX9_everyFor_4 : decode cX9_everyFor 4 = .ok (.getfield 55, 3) := by decide +kernel
theorem dX9_everyFor_7 : decode cX9_everyFor 7 = .ok (.getfield 111, 3) := by decide +kernel
theorem dX9_everyFor_10 : decode cX9_everyFor 10 = .ok (.iload_n 1, 1) := by decide +kernel
theorem dX9_everyFor_11 : decode cX9_everyFor 11 = .ok (.invokevirtual 122, 3) := by decide +kernel
theorem dX9_everyFor_14 : decode cX9_everyFor 14 = .ok (.ifCond .eq 13, 3) := by decide +kernel
theorem dX9_everyFor_17 : decode cX9_everyFor 17 = .ok (.iload_n 2, 1) := by decide +kernel
theorem dX9_everyFor_18 : decode cX9_everyFor 18 = .ok (.iconst 0, 1) := by decide +kernel
theorem dX9_everyFor_19 : decode cX9_everyFor 19 = .ok (.bipush 60, 2) := by decide +kernel
theorem dX9_everyFor_21 : decode cX9_everyFor 21 = .ok (.invokestatic 66, 3) := by decide +kernel
theorem dX9_everyFor_24 : decode cX9_everyFor 24 = .ok (.ifCond .ne 10, 3) := by decide +kernel
theorem dX9_everyFor_27 : decode cX9_everyFor 27 = .ok (.aload_n 0, 1) := by decide +kernel
theorem dX9_everyFor_28 : decode cX9_everyFor 28 = .ok (.ldc 70, 2) := by decide +kernel
theorem dX9_everyFor_30 : decode cX9_everyFor 30 = .ok (.invokevirtual 71, 3) := by decide +kernel
theorem dX9_everyFor_33 : decode cX9_everyFor 33 = .ok (.ireturn, 1) := by decide +kernel
theorem dX9_everyFor_34 : decode cX9_everyFor 34 = .ok (.iconst 1, 1) := by decide +kernel
theorem dX9_everyFor_35 : decode cX9_everyFor 35 = .ok (.istore_n 3, 1) := by decide +kernel
theorem dX9_everyFor_36 : decode cX9_everyFor 36 = .ok (.bipush 100, 2) := by decide +kernel
theorem dX9_everyFor_38 : decode cX9_everyFor 38 = .ok (.istore 4, 2) := by decide +kernel
theorem dX9_everyFor_40 : decode cX9_everyFor 40 = .ok (.iconst 1, 1) := by decide +kernel
theorem dX9_everyFor_41 : decode cX9_everyFor 41 = .ok (.istore 5, 2) := by decide +kernel
theorem dX9_everyFor_43 : decode cX9_everyFor 43 = .ok (.iload 5, 2) := by decide +kernel
theorem dX9_everyFor_45 : decode cX9_everyFor 45 = .ok (.bipush 12, 2) := by decide +kernel
theorem dX9_everyFor_47 : decode cX9_everyFor 47 = .ok (.if_icmp .gt 51, 3) := by decide +kernel
theorem dX9_everyFor_50 : decode cX9_everyFor 50 = .ok (.aload_n 0, 1) := by decide +kernel
theorem dX9_everyFor_51 : decode cX9_everyFor 51 = .ok (.invokevirtual 208, 3) := by decide +kernel
theorem dX9_everyFor_54 : decode cX9_everyFor 54 = .ok (.aload_n 0, 1) := by decide +kernel
theorem dX9_everyFor_55 : decode cX9_everyFor 55 = .ok (.getfield 26, 3) := by decide +kernel
theorem dX9_everyFor_58 : decode cX9_everyFor 58 = .ok (.getfield 111, 3) := by decide +kernel
theorem dX9_everyFor_61 : decode cX9_everyFor 61 = .ok (.getfield 135, 3) := by decide +kernel
theorem dX9_everyFor_64 : decode cX9_everyFor 64 = .ok (.iload_n 1, 1) := by decide +kernel
theorem dX9_everyFor_65 : decode cX9_everyFor 65 = .ok (.iload 5, 2) := by decide +kernel
theorem dX9_everyFor_67 : decode cX9_everyFor 67 = .ok (.iastore, 1) := by decide +kernel
theorem dX9_everyFor_68 : decode cX9_everyFor 68 = .ok (.aload_n 0, 1) := by decide +kernel
theorem dX9_everyFor_69 : decode cX9_everyFor 69 = .ok (.getfield 26, 3) := by decide +kernel
theorem dX9_everyFor_72 : decode cX9_everyFor 72 = .ok (.iload_n 2, 1) := by decide +kernel
theorem dX9_everyFor_73 : decode cX9_everyFor 73 = .ok (.invokevirtual 199, 3) := by decide +kernel
theorem dX9_everyFor_76 : decode cX9_everyFor 76 = .ok (.istore 6, 2) := by decide +kernel
theorem dX9_everyFor_78 : decode cX9_everyFor 78 = .ok (.iload 6, 2) := by decide +kernel
theorem dX9_everyFor_80 : decode cX9_everyFor 80 = .ok (.iload 4, 2) := by decide +kernel
theorem dX9_everyFor_82 : decode cX9_everyFor 82 = .ok (.if_icmp .ge 10, 3) := by decide +kernel
theorem dX9_everyFor_85 : decode cX9_everyFor 85 = .ok (.iload 6, 2) := by decide +kernel
theorem dX9_everyFor_87 : decode cX9_everyFor 87 = .ok (.istore 4, 2) := by decide +kernel
theorem dX9_everyFor_89 : decode cX9_everyFor 89 = .ok (.iload 5, 2) := by decide +kernel
theorem dX9_everyFor_91 : decode cX9_everyFor 91 = .ok (.istore_n 3, 1) := by decide +kernel
theorem dX9_everyFor_92 : decode cX9_everyFor 92 = .ok (.iinc 5 1, 3) := by decide +kernel
theorem dX9_everyFor_95 : decode cX9_everyFor 95 = .ok (.goto (-52), 3) := by decide +kernel
theorem dX9_everyFor_98 : decode cX9_everyFor 98 = .ok (.iload_n 3, 1) := by decide +kernel
theorem dX9_everyFor_99 : decode cX9_everyFor 99 = .ok (.ireturn, 1) := by decide +kernel
theorem dX9_needless_0 : decode cX9_needless 0 = .ok (.iload_n 1, 1) := by decide +kernel
theorem dX9_needless_1 : decode cX9_needless 1 = .ok (.iconst 0, 1) := by decide +kernel
theorem dX9_needless_2 : decode cX9_needless 2 = .ok (.bipush 60, 2) := by decide +kernel
theorem dX9_needless_4 : decode cX9_needless 4 = .ok (.invokestatic 66, 3) := by decide +kernel
theorem dX9_needless_7 : decode cX9_needless 7 = .ok (.ifCond .ne 10, 3) := by decide +kernel
theorem dX9_needless_10 : decode cX9_needless 10 = .ok (.aload_n 0, 1) := by decide +kernel
theorem dX9_needless_11 : decode cX9_needless 11 = .ok (.ldc 70, 2) := by decide +kernel
theorem dX9_needless_13 : decode cX9_needless 13 = .ok (.invokevirtual 71, 3) := by decide +kernel
theorem dX9_needless_16 : decode cX9_needless 16 = .ok (.ireturn, 1) := by decide +kernel
theorem dX9_needless_17 : decode cX9_needless 17 = .ok (.aload_n 0, 1) := by decide +kernel
theorem dX9_needless_18 : decode cX9_needless 18 = .ok (.invokevirtual 208, 3) := by decide +kernel
theorem dX9_needless_21 : decode cX9_needless 21 = .ok (.aload_n 0, 1) := by decide +kernel
theorem dX9_needless_22 : decode cX9_needless 22 = .ok (.getfield 26, 3) := by decide +kernel
theorem dX9_needless_25 : decode cX9_needless 25 = .ok (.iload_n 1, 1) := by decide +kernel
theorem dX9_needless_26 : decode cX9_needless 26 = .ok (.invokevirtual 199, 3) := by decide +kernel
theorem dX9_needless_29 : decode cX9_needless 29 = .ok (.istore_n 2, 1) := by decide +kernel
theorem dX9_needless_30 : decode cX9_needless 30 = .ok (.iconst 0, 1) := by decide +kernel
theorem dX9_needless_31 : decode cX9_needless 31 = .ok (.istore_n 3, 1) := by decide +kernel
theorem dX9_needless_32 : decode cX9_needless 32 = .ok (.iconst 0, 1) := by decide +kernel
theorem dX9_needless_33 : decode cX9_needless 33 = .ok (.istore 4, 2) := by decide +kernel
theorem dX9_needless_35 : decode cX9_needless 35 = .ok (.iload 4, 2) := by decide +kernel
theorem dX9_needless_37 : decode cX9_needless 37 = .ok (.aload_n 0, 1) := by decide +kernel
theorem dX9_needless_38 : decode cX9_needless 38 = .ok (.getfield 12, 3) := by decide +kernel
theorem dX9_needless_41 : decode cX9_needless 41 = .ok (.getfield 55, 3) := by decide +kernel
theorem dX9_needless_44 : decode cX9_needless 44 = .ok (.getfield 111, 3) := by decide +kernel
theorem dX9_needless_47 : decode cX9_needless 47 = .ok (.getfield 215, 3) := by decide +kernel
theorem dX9_needless_50 : decode cX9_needless 50 = .ok (.if_icmp .ge 44, 3) := by decide +kernel
theorem dX9_needless_53 : decode cX9_needless 53 = .ok (.aload_n 0, 1) := by decide +kernel
theorem dX9_needless_54 : decode cX9_needless 54 = .ok (.invokevirtual 208, 3) := by decide +kernel
theorem dX9_needless_57 : decode cX9_needless 57 = .ok (.aload_n 0, 1) := by decide +kernel
theorem dX9_needless_58 : decode cX9_needless 58 = .ok (.getfield 26, 3) := by decide +kernel
theorem dX9_needless_61 : decode cX9_needless 61 = .ok (.getfield 111, 3) := by decide +kernel
theorem dX9_needless_64 : decode cX9_needless 64 = .ok (.iload 4, 2) := by decide +kernel
theorem dX9_needless_66 : decode cX9_needless 66 = .ok (.putfield 216, 3) := by decide +kernel
theorem dX9_needless_69 : decode cX9_needless 69 = .ok (.aload_n 0, 1) := by decide +kernel
theorem dX9_needless_70 : decode cX9_needless 70 = .ok (.getfield 26, 3) := by decide +kernel
theorem dX9_needless_73 : decode cX9_needless 73 = .ok (.iload_n 1, 1) := by decide +kernel
theorem dX9_needless_74 : decode cX9_needless 74 = .ok (.invokevirtual 199, 3) := by decide +kernel
theorem dX9_needless_77 : decode cX9_needless 77 = .ok (.iload_n 2, 1) := by decide +kernel
theorem dX9_needless_78 : decode cX9_needless 78 = .ok (.if_icmp .gt 10, 3) := by decide +kernel
theorem dX9_needless_81 : decode cX9_needless 81 = .ok (.iload_n 3, 1) := by decide +kernel
theorem dX9_needless_82 : decode cX9_needless 82 = .ok (.iconst 1, 1) := by decide +kernel
theorem dX9_needless_83 : decode cX9_needless 83 = .ok (.iload 4, 2) := by decide +kernel
theorem dX9_needless_85 : decode cX9_needless 85 = .ok (.ishl, 1) := by decide +kernel
theorem dX9_needless_86 : decode cX9_needless 86 = .ok (.ior, 1) := by decide +kernel
theorem dX9_needless_87 : decode cX9_needless 87 = .ok (.istore_n 3, 1) := by decide +kernel
theorem dX9_needless_88 : decode cX9_needless 88 = .ok (.iinc 4 1, 3) := by decide +kernel
theorem dX9_needless_91 : decode cX9_needless 91 = .ok (.goto (-56), 3) := by decide +kernel
theorem dX9_needless_94 : decode cX9_needless 94 = .ok (.iload_n 3, 1) := by decide +kernel
theorem dX9_needless_95 : decode cX9_needless 95 = .ok (.ireturn, 1) := by decide +kernel
theorem dX9_wanted_0 : decode cX9_wanted 0 = .ok (.aload_n 0, 1) := by decide +kernel
theorem dX9_wanted_1 : decode cX9_wanted 1 = .ok (.iload_n 1, 1) := by decide +kernel
theorem dX9_wanted_2 : decode cX9_wanted 2 = .ok (.invokevirtual 219, 3) := by decide +kernel
theorem dX9_wanted_5 : decode cX9_wanted 5 = .ok (.astore_n 3, 1) := by decide +kernel
theorem dX9_wanted_6 : decode cX9_wanted 6 = .ok (.aload_n 3, 1) := by decide +kernel
theorem dX9_wanted_7 : decode cX9_wanted 7 = .ok (.ifnull 12, 3) := by decide +kernel
theorem dX9_wanted_10 : decode cX9_wanted 10 = .ok (.iload_n 2, 1) := by decide +kernel
theorem dX9_wanted_11 : decode cX9_wanted 11 = .ok (.iconst 0, 1) := by decide +kernel
theorem dX9_wanted_12 : decode cX9_wanted 12 = .ok (.iconst 1, 1) := by decide +kernel
theorem dX9_wanted_13 : decode cX9_wanted 13 = .ok (.invokestatic 66, 3) := by decide +kernel
theorem dX9_wanted_16 : decode cX9_wanted 16 = .ok (.ifCond .ne 10, 3) := by decide +kernel
theorem dX9_wanted_19 : decode cX9_wanted 19 = .ok (.aload_n 0, 1) := by decide +kernel
theorem dX9_wanted_20 : decode cX9_wanted 20 = .ok (.ldc 70, 2) := by decide +kernel
theorem dX9_wanted_22 : decode cX9_wanted 22 = .ok (.invokevirtual 71, 3) := by decide +kernel
theorem dX9_wanted_25 : decode cX9_wanted 25 = .ok (.ireturn, 1) := by decide +kernel
theorem dX9_wanted_26 : decode cX9_wanted 26 = .ok (.aload_n 3, 1) := by decide +kernel
theorem dX9_wanted_27 : decode cX9_wanted 27 = .ok (.invokevirtual 223, 3) := by decide +kernel
theorem dX9_wanted_30 : decode cX9_wanted 30 = .ok (.ifCond .eq 10, 3) := by decide +kernel
theorem dX9_wanted_33 : decode cX9_wanted 33 = .ok (.aload_n 0, 1) := by decide +kernel
theorem dX9_wanted_34 : decode cX9_wanted 34 = .ok (.ldc 214, 2) := by decide +kernel
theorem dX9_wanted_36 : decode cX9_wanted 36 = .ok (.invokevirtual 71, 3) := by decide +kernel
theorem dX9_wanted_39 : decode cX9_wanted 39 = .ok (.ireturn, 1) := by decide +kernel
theorem dX9_wanted_40 : decode cX9_wanted 40 = .ok (.iconst 0, 1) := by decide +kernel
theorem dX9_wanted_41 : decode cX9_wanted 41 = .ok (.istore 4, 2) := by decide +kernel
theorem dX9_wanted_43 : decode cX9_wanted 43 = .ok (.bipush 100, 2) := by decide +kernel
theorem dX9_wanted_45 : decode cX9_wanted 45 = .ok (.istore 5, 2) := by decide +kernel
theorem dX9_wanted_47 : decode cX9_wanted 47 = .ok (.iconst 0, 1) := by decide +kernel
theorem dX9_wanted_48 : decode cX9_wanted 48 = .ok (.istore 6, 2) := by decide +kernel
theorem dX9_wanted_50 : decode cX9_wanted 50 = .ok (.iload 6, 2) := by decide +kernel
theorem dX9_wanted_52 : decode cX9_wanted 52 = .ok (.bipush 99, 2) := by decide +kernel
theorem dX9_wanted_54 : decode cX9_wanted 54 = .ok (.if_icmp .gt 45, 3) := by decide +kernel
theorem dX9_wanted_57 : decode cX9_wanted 57 = .ok (.aload_n 0, 1) := by decide +kernel
theorem dX9_wanted_58 : decode cX9_wanted 58 = .ok (.invokevirtual 208, 3) := by decide +kernel
theorem dX9_wanted_61 : decode cX9_wanted 61 = .ok (.aload_n 0, 1) := by decide +kernel
theorem dX9_wanted_62 : decode cX9_wanted 62 = .ok (.getfield 26, 3) := by decide +kernel
theorem dX9_wanted_65 : decode cX9_wanted 65 = .ok (.iload 6, 2) := by decide +kernel
theorem dX9_wanted_67 : decode cX9_wanted 67 = .ok (.putfield 147, 3) := by decide +kernel
theorem dX9_wanted_70 : decode cX9_wanted 70 = .ok (.aload_n 0, 1) := by decide +kernel
theorem dX9_wanted_71 : decode cX9_wanted 71 = .ok (.aload_n 3, 1) := by decide +kernel
theorem dX9_wanted_72 : decode cX9_wanted 72 = .ok (.getfield 227, 3) := by decide +kernel
theorem dX9_wanted_75 : decode cX9_wanted 75 = .ok (.invokevirtual 230, 3) := by decide +kernel
theorem dX9_wanted_78 : decode cX9_wanted 78 = .ok (.ifCond .ge 15, 3) := by decide +kernel
theorem dX9_wanted_81 : decode cX9_wanted 81 = .ok (.iinc 4 1, 3) := by decide +kernel
theorem dX9_wanted_84 : decode cX9_wanted 84 = .ok (.iload 5, 2) := by decide +kernel
theorem dX9_wanted_86 : decode cX9_wanted 86 = .ok (.iload 6, 2) := by decide +kernel
theorem dX9_wanted_88 : decode cX9_wanted 88 = .ok (.invokestatic 234, 3) := by decide +kernel
theorem dX9_wanted_91 : decode cX9_wanted 91 = .ok (.istore 5, 2) := by decide +kernel
theorem dX9_wanted_93 : decode cX9_wanted 93 = .ok (.iinc 6 1, 3) := by decide +kernel
theorem dX9_wanted_96 : decode cX9_wanted 96 = .ok (.goto (-46), 3) := by decide +kernel
theorem dX9_wanted_99 : decode cX9_wanted 99 = .ok (.iload_n 2, 1) := by decide +kernel
theorem dX9_wanted_100 : decode cX9_wanted 100 = .ok (.ifCond .ne 8, 3) := by decide +kernel
theorem dX9_wanted_103 : decode cX9_wanted 103 = .ok (.iload 4, 2) := by decide +kernel
theorem dX9_wanted_105 : decode cX9_wanted 105 = .ok (.goto 19, 3) := by decide +kernel
theorem dX9_wanted_108 : decode cX9_wanted 108 = .ok (.iload 4, 2) := by decide +kernel
theorem dX9_wanted_110 : decode cX9_wanted 110 = .ok (.ifCond .le 8, 3) := by decide +kernel
theorem dX9_wanted_113 : decode cX9_wanted 113 = .ok (.iload 5, 2) := by decide +kernel
theorem dX9_wanted_115 : decode cX9_wanted 115 = .ok (.goto 9, 3) := by decide +kernel
theorem dX9_wanted_118 : decode cX9_wanted 118 = .ok (.aload_n 0, 1) := by decide +kernel
theorem dX9_wanted_119 : decode cX9_wanted 119 = .ok (.ldc 214, 2) := by decide +kernel
theorem dX9_wanted_121 : decode cX9_wanted 121 = .ok (.invokevirtual 71, 3) := by decide +kernel
theorem dX9_wanted_124 : decode cX9_wanted 124 = .ok (.ireturn, 1) := by decide +kernel
theorem dX9_which_0 : decode cX9_which 0 = .ok (.aload_n 0, 1) := by decide +kernel
theorem dX9_which_1 : decode cX9_which 1 = .ok (.iload_n 1, 1) := by decide +kernel
theorem dX9_which_2 : decode cX9_which 2 = .ok (.invokevirtual 219, 3) := by decide +kernel
theorem dX9_which_5 : decode cX9_which 5 = .ok (.astore_n 3, 1) := by decide +kernel
theorem dX9_which_6 : decode cX9_which 6 = .ok (.aload_n 3, 1) := by decide +kernel
theorem dX9_which_7 : decode cX9_which 7 = .ok (.ifnull 20, 3) := by decide +kernel
theorem dX9_which_10 : decode cX9_which 10 = .ok (.aload_n 0, 1) := by decide +kernel
theorem dX9_which_11 : decode cX9_which 11 = .ok (.getfield 12, 3) := by decide +kernel
theorem dX9_which_14 : decode cX9_which 14 = .ok (.getfield 55, 3) := by decide +kernel
theorem dX9_which_17 : decode cX9_which 17 = .ok (.getfield 111, 3) := by decide +kernel
theorem dX9_which_20 : decode cX9_which 20 = .ok (.iload_n 2, 1) := by decide +kernel
theorem dX9_which_21 : decode cX9_which 21 = .ok (.invokevirtual 122, 3) := by decide +kernel
theorem dX9_which_24 : decode cX9_which 24 = .ok (.ifCond .ne 10, 3) := by decide +kernel
theorem dX9_which_27 : decode cX9_which 27 = .ok (.aload_n 0, 1) := by decide +kernel
theorem dX9_which_28 : decode cX9_which 28 = .ok (.ldc 70, 2) := by decide +kernel
theorem dX9_which_30 : decode cX9_which 30 = .ok (.invokevirtual 71, 3) := by decide +kernel
theorem dX9_which_33 : decode cX9_which 33 = .ok (.ireturn, 1) := by decide +kernel
theorem dX9_which_34 : decode cX9_which 34 = .ok (.aload_n 3, 1) := by decide +kernel
theorem dX9_which_35 : decode cX9_which 35 = .ok (.invokevirtual 223, 3) := by decide +kernel
theorem dX9_which_38 : decode cX9_which 38 = .ok (.ifCond .eq 10, 3) := by decide +kernel
theorem dX9_which_41 : decode cX9_which 41 = .ok (.aload_n 0, 1) := by decide +kernel
theorem dX9_which_42 : decode cX9_which 42 = .ok (.ldc 214, 2) := by decide +kernel
theorem dX9_which_44 : decode cX9_which 44 = .ok (.invokevirtual 71, 3) := by decide +kernel
theorem dX9_which_47 : decode cX9_which 47 = .ok (.ireturn, 1) := by decide +kernel
theorem dX9_which_48 : decode cX9_which 48 = .ok (.iconst 0, 1) := by decide +kernel
theorem dX9_which_49 : decode cX9_which 49 = .ok (.istore 4, 2) := by decide +kernel
theorem dX9_which_51 : decode cX9_which 51 = .ok (.iconst 0, 1) := by decide +kernel
theorem dX9_which_52 : decode cX9_which 52 = .ok (.istore 5, 2) := by decide +kernel
theorem dX9_which_54 : decode cX9_which 54 = .ok (.iload 5, 2) := by decide +kernel
theorem dX9_which_56 : decode cX9_which 56 = .ok (.bipush 7, 2) := by decide +kernel
theorem dX9_which_58 : decode cX9_which 58 = .ok (.if_icmp .ge 47, 3) := by decide +kernel
theorem dX9_which_61 : decode cX9_which 61 = .ok (.aload_n 0, 1) := by decide +kernel
theorem dX9_which_62 : decode cX9_which 62 = .ok (.invokevirtual 208, 3) := by decide +kernel
theorem dX9_which_65 : decode cX9_which 65 = .ok (.aload_n 0, 1) := by decide +kernel
theorem dX9_which_66 : decode cX9_which 66 = .ok (.getfield 26, 3) := by decide +kernel
theorem dX9_which_69 : decode cX9_which 69 = .ok (.getfield 111, 3) := by decide +kernel
theorem dX9_which_72 : decode cX9_which 72 = .ok (.getfield 126, 3) := by decide +kernel
theorem dX9_which_75 : decode cX9_which 75 = .ok (.iload_n 2, 1) := by decide +kernel
theorem dX9_which_76 : decode cX9_which 76 = .ok (.iload 5, 2) := by decide +kernel
theorem dX9_which_78 : decode cX9_which 78 = .ok (.iastore, 1) := by decide +kernel
theorem dX9_which_79 : decode cX9_which 79 = .ok (.aload_n 0, 1) := by decide +kernel
theorem dX9_which_80 : decode cX9_which 80 = .ok (.aload_n 3, 1) := by decide +kernel
theorem dX9_which_81 : decode cX9_which 81 = .ok (.getfield 227, 3) := by decide +kernel
theorem dX9_which_84 : decode cX9_which 84 = .ok (.invokevirtual 230, 3) := by decide +kernel
theorem dX9_which_87 : decode cX9_which 87 = .ok (.ifCond .ge 12, 3) := by decide +kernel
theorem dX9_which_90 : decode cX9_which 90 = .ok (.iload 4, 2) := by decide +kernel
theorem dX9_which_92 : decode cX9_which 92 = .ok (.iconst 1, 1) := by decide +kernel
theorem dX9_which_93 : decode cX9_which 93 = .ok (.iload 5, 2) := by decide +kernel
theorem dX9_which_95 : decode cX9_which 95 = .ok (.ishl, 1) := by decide +kernel
theorem dX9_which_96 : decode cX9_which 96 = .ok (.ior, 1) := by decide +kernel
theorem dX9_which_97 : decode cX9_which 97 = .ok (.istore 4, 2) := by decide +kernel
theorem dX9_which_99 : decode cX9_which 99 = .ok (.iinc 5 1, 3) := by decide +kernel
theorem dX9_which_102 : decode cX9_which 102 = .ok (.goto (-48), 3) := by decide +kernel
theorem dX9_which_105 : decode cX9_which 105 = .ok (.iload 4, 2) := by decide +kernel
theorem dX9_which_107 : decode cX9_which 107 = .ok (.ireturn, 1) := by decide +kernel
theorem dX9_stair_0 : decode cX9_stair 0 = .ok (.iload_n 1, 1) := by decide +kernel
theorem dX9_stair_1 : decode cX9_stair 1 = .ok (.iconst 0, 1) := by decide +kernel
theorem dX9_stair_2 : decode cX9_stair 2 = .ok (.iconst 1, 1) := by decide +kernel
theorem dX9_stair_3 : decode cX9_stair 3 = .ok (.invokestatic 66, 3) := by decide +kernel
theorem dX9_stair_6 : decode cX9_stair 6 = .ok (.ifCond .ne 10, 3) := by decide +kernel
theorem dX9_stair_9 : decode cX9_stair 9 = .ok (.aload_n 0, 1) := by decide +kernel
theorem dX9_stair_10 : decode cX9_stair 10 = .ok (.ldc 70, 2) := by decide +kernel
theorem dX9_stair_12 : decode cX9_stair 12 = .ok (.invokevirtual 71, 3) := by decide +kernel
theorem dX9_stair_15 : decode cX9_stair 15 = .ok (.ireturn, 1) := by decide +kernel
theorem dX9_stair_16 : decode cX9_stair 16 = .ok (.aload_n 0, 1) := by decide +kernel
theorem dX9_stair_17 : decode cX9_stair 17 = .ok (.getfield 12, 3) := by decide +kernel
theorem dX9_stair_20 : decode cX9_stair 20 = .ok (.getfield 95, 3) := by decide +kernel
theorem dX9_stair_23 : decode cX9_stair 23 = .ok (.aload_n 0, 1) := by decide +kernel
theorem dX9_stair_24 : decode cX9_stair 24 = .ok (.getfield 12, 3) := by decide +kernel
theorem dX9_stair_27 : decode cX9_stair 27 = .ok (.getfield 55, 3) := by decide +kernel
theorem dX9_stair_30 : decode cX9_stair 30 = .ok (.invokevirtual 85, 3) := by decide +kernel
theorem dX9_stair_33 : decode cX9_stair 33 = .ok (.invokevirtual 240, 3) := by decide +kernel
theorem dX9_stair_36 : decode cX9_stair 36 = .ok (.istore_n 2, 1) := by decide +kernel
theorem dX9_stair_37 : decode cX9_stair 37 = .ok (.iload_n 2, 1) := by decide +kernel
theorem dX9_stair_38 : decode cX9_stair 38 = .ok (.ifCond .ge 10, 3) := by decide +kernel
theorem dX9_stair_41 : decode cX9_stair 41 = .ok (.aload_n 0, 1) := by decide +kernel
theorem dX9_stair_42 : decode cX9_stair 42 = .ok (.ldc 214, 2) := by decide +kernel
theorem dX9_stair_44 : decode cX9_stair 44 = .ok (.invokevirtual 71, 3) := by decide +kernel
theorem dX9_stair_47 : decode cX9_stair 47 = .ok (.ireturn, 1) := by decide +kernel
theorem dX9_stair_48 : decode cX9_stair 48 = .ok (.iload_n 1, 1) := by decide +kernel
theorem dX9_stair_49 : decode cX9_stair 49 = .ok (.ifCond .ne 7, 3) := by decide +kernel
theorem dX9_stair_52 : decode cX9_stair 52 = .ok (.iload_n 2, 1) := by decide +kernel
theorem dX9_stair_53 : decode cX9_stair 53 = .ok (.goto 7, 3) := by decide +kernel
theorem dX9_stair_56 : decode cX9_stair 56 = .ok (.iload_n 2, 1) := by decide +kernel
theorem dX9_stair_57 : decode cX9_stair 57 = .ok (.invokestatic 243, 3) := by decide +kernel
theorem dX9_stair_60 : decode cX9_stair 60 = .ok (.ireturn, 1) := by decide +kernel
theorem dX9_exact_0 : decode cX9_exact 0 = .ok (.aload_n 0, 1) := by decide +kernel
theorem dX9_exact_1 : decode cX9_exact 1 = .ok (.getfield 12, 3) := by decide +kernel
theorem dX9_exact_4 : decode cX9_exact 4 = .ok (.getfield 95, 3) := by decide +kernel
theorem dX9_exact_7 : decode cX9_exact 7 = .ok (.aload_n 0, 1) := by decide +kernel
theorem dX9_exact_8 : decode cX9_exact 8 = .ok (.getfield 12, 3) := by decide +kernel
theorem dX9_exact_11 : decode cX9_exact 11 = .ok (.getfield 55, 3) := by decide +kernel
theorem dX9_exact_14 : decode cX9_exact 14 = .ok (.invokevirtual 85, 3) := by decide +kernel
theorem dX9_exact_17 : decode cX9_exact 17 = .ok (.invokevirtual 248, 3) := by decide +kernel
theorem dX9_exact_20 : decode cX9_exact 20 = .ok (.ireturn, 1) := by decide +kernel
theorem dX9_house_0 : decode cX9_house 0 = .ok (.aload_n 0, 1) := by decide +kernel
theorem dX9_house_1 : decode cX9_house 1 = .ok (.iload_n 1, 1) := by decide +kernel
theorem dX9_house_2 : decode cX9_house 2 = .ok (.invokevirtual 219, 3) := by decide +kernel
theorem dX9_house_5 : decode cX9_house 5 = .ok (.astore_n 3, 1) := by decide +kernel
theorem dX9_house_6 : decode cX9_house 6 = .ok (.aload_n 3, 1) := by decide +kernel
theorem dX9_house_7 : decode cX9_house 7 = .ok (.ifnull 12, 3) := by decide +kernel
theorem dX9_house_10 : decode cX9_house 10 = .ok (.iload_n 2, 1) := by decide +kernel
theorem dX9_house_11 : decode cX9_house 11 = .ok (.iconst 0, 1) := by decide +kernel
theorem dX9_house_12 : decode cX9_house 12 = .ok (.iconst 1, 1) := by decide +kernel
theorem dX9_house_13 : decode cX9_house 13 = .ok (.invokestatic 66, 3) := by decide +kernel
theorem dX9_house_16 : decode cX9_house 16 = .ok (.ifCond .ne 10, 3) := by decide +kernel
theorem dX9_house_19 : decode cX9_house 19 = .ok (.aload_n 0, 1) := by decide +kernel
theorem dX9_house_20 : decode cX9_house 20 = .ok (.ldc 70, 2) := by decide +kernel
theorem dX9_house_22 : decode cX9_house 22 = .ok (.invokevirtual 71, 3) := by decide +kernel
theorem dX9_house_25 : decode cX9_house 25 = .ok (.ireturn, 1) := by decide +kernel
theorem dX9_house_26 : decode cX9_house 26 = .ok (.aload_n 3, 1) := by decide +kernel
theorem dX9_house_27 : decode cX9_house 27 = .ok (.invokevirtual 223, 3) := by decide +kernel
theorem dX9_house_30 : decode cX9_house 30 = .ok (.ifCond .eq 10, 3) := by decide +kernel
theorem dX9_house_33 : decode cX9_house 33 = .ok (.aload_n 0, 1) := by decide +kernel
theorem dX9_house_34 : decode cX9_house 34 = .ok (.ldc 214, 2) := by decide +kernel
theorem dX9_house_36 : decode cX9_house 36 = .ok (.invokevirtual 71, 3) := by decide +kernel
theorem dX9_house_39 : decode cX9_house 39 = .ok (.ireturn, 1) := by decide +kernel
theorem dX9_house_40 : decode cX9_house 40 = .ok (.iconst 0, 1) := by decide +kernel
theorem dX9_house_41 : decode cX9_house 41 = .ok (.istore 4, 2) := by decide +kernel
theorem dX9_house_43 : decode cX9_house 43 = .ok (.iconst (-1), 1) := by decide +kernel
theorem dX9_house_44 : decode cX9_house 44 = .ok (.istore 5, 2) := by decide +kernel
theorem dX9_house_46 : decode cX9_house 46 = .ok (.iconst 0, 1) := by decide +kernel
theorem dX9_house_47 : decode cX9_house 47 = .ok (.istore 6, 2) := by decide +kernel
theorem dX9_house_49 : decode cX9_house 49 = .ok (.iload 6, 2) := by decide +kernel
theorem dX9_house_51 : decode cX9_house 51 = .ok (.bipush 64, 2) := by decide +kernel
theorem dX9_house_53 : decode cX9_house 53 = .ok (.if_icmp .ge 45, 3) := by decide +kernel
theorem dX9_house_56 : decode cX9_house 56 = .ok (.aload_n 0, 1) := by decide +kernel
theorem dX9_house_57 : decode cX9_house 57 = .ok (.getfield 12, 3) := by decide +kernel
theorem dX9_house_60 : decode cX9_house 60 = .ok (.getfield 95, 3) := by decide +kernel
theorem dX9_house_63 : decode cX9_house 63 = .ok (.iload 6, 2) := by decide +kernel
theorem dX9_house_65 : decode cX9_house 65 = .ok (.aload_n 3, 1) := by decide +kernel
theorem dX9_house_66 : decode cX9_house 66 = .ok (.getfield 227, 3) := by decide +kernel
theorem dX9_house_69 : decode cX9_house 69 = .ok (.invokevirtual 251, 3) := by decide +kernel
theorem dX9_house_72 : decode cX9_house 72 = .ok (.ifCond .eq 20, 3) := by decide +kernel
theorem dX9_house_75 : decode cX9_house 75 = .ok (.iload 4, 2) := by decide +kernel
theorem dX9_house_77 : decode cX9_house 77 = .ok (.ifCond .ne 8, 3) := by decide +kernel
theorem dX9_house_80 : decode cX9_house 80 = .ok (.iload 6, 2) := by decide +kernel
theorem dX9_house_82 : decode cX9_house 82 = .ok (.goto 5, 3) := by decide +kernel
theorem dX9_house_85 : decode cX9_house 85 = .ok (.iload 5, 2) := by decide +kernel
theorem dX9_house_87 : decode cX9_house 87 = .ok (.istore 5, 2) := by decide +kernel
theorem dX9_house_89 : decode cX9_house 89 = .ok (.iinc 4 1, 3) := by decide +kernel
theorem dX9_house_92 : decode cX9_house 92 = .ok (.iinc 6 1, 3) := by decide +kernel
theorem dX9_house_95 : decode cX9_house 95 = .ok (.goto (-46), 3) := by decide +kernel
theorem dX9_house_98 : decode cX9_house 98 = .ok (.iload_n 2, 1) := by decide +kernel
theorem dX9_house_99 : decode cX9_house 99 = .ok (.ifCond .ne 8, 3) := by decide +kernel
theorem dX9_house_102 : decode cX9_house 102 = .ok (.iload 4, 2) := by decide +kernel
theorem dX9_house_104 : decode cX9_house 104 = .ok (.goto 19, 3) := by decide +kernel
theorem dX9_house_107 : decode cX9_house 107 = .ok (.iload 4, 2) := by decide +kernel
theorem dX9_house_109 : decode cX9_house 109 = .ok (.ifCond .le 8, 3) := by decide +kernel
theorem dX9_house_112 : decode cX9_house 112 = .ok (.iload 5, 2) := by decide +kernel
theorem dX9_house_114 : decode cX9_house 114 = .ok (.goto 9, 3) := by decide +kernel
theorem dX9_house_117 : decode cX9_house 117 = .ok (.aload_n 0, 1) := by decide +kernel
theorem dX9_house_118 : decode cX9_house 118 = .ok (.ldc 214, 2) := by decide +kernel
theorem dX9_house_120 : decode cX9_house 120 = .ok (.invokevirtual 71, 3) := by decide +kernel
theorem dX9_house_123 : decode cX9_house 123 = .ok (.ireturn, 1) := by decide +kernel
theorem dX9_power_0 : decode cX9_power 0 = .ok (.aload_n 0, 1) := by decide +kernel
theorem dX9_power_1 : decode cX9_power 1 = .ok (.getfield 12, 3) := by decide +kernel
theorem dX9_power_4 : decode cX9_power 4 = .ok (.getfield 55, 3) := by decide +kernel
theorem dX9_power_7 : decode cX9_power 7 = .ok (.getfield 111, 3) := by decide +kernel
theorem dX9_power_10 : decode cX9_power 10 = .ok (.astore_n 2, 1) := by decide +kernel
theorem dX9_power_11 : decode cX9_power 11 = .ok (.aload_n 2, 1) := by decide +kernel
theorem dX9_power_12 : decode cX9_power 12 = .ok (.iload_n 1, 1) := by decide +kernel
theorem dX9_power_13 : decode cX9_power 13 = .ok (.invokevirtual 122, 3) := by decide +kernel
theorem dX9_power_16 : decode cX9_power 16 = .ok (.ifCond .eq 11, 3) := by decide +kernel
theorem dX9_power_19 : decode cX9_power 19 = .ok (.aload_n 2, 1) := by decide +kernel
theorem dX9_power_20 : decode cX9_power 20 = .ok (.iload_n 1, 1) := by decide +kernel
theorem dX9_power_21 : decode cX9_power 21 = .ok (.invokevirtual 255, 3) := by decide +kernel
theorem dX9_power_24 : decode cX9_power 24 = .ok (.goto 9, 3) := by decide +kernel
theorem dX9_power_27 : decode cX9_power 27 = .ok (.aload_n 0, 1) := by decide +kernel
theorem dX9_power_28 : decode cX9_power 28 = .ok (.ldc 70, 2) := by decide +kernel
theorem dX9_power_30 : decode cX9_power 30 = .ok (.invokevirtual 71, 3) := by decide +kernel
theorem dX9_power_33 : decode cX9_power 33 = .ok (.ireturn, 1) := by decide +kernel
theorem dX9_gait_0 : decode cX9_gait 0 = .ok (.iload_n 1, 1) := by decide +kernel
theorem dX9_gait_1 : decode cX9_gait 1 = .ok (.iconst 0, 1) := by decide +kernel
theorem dX9_gait_2 : decode cX9_gait 2 = .ok (.bipush 12, 2) := by decide +kernel
theorem dX9_gait_4 : decode cX9_gait 4 = .ok (.invokestatic 66, 3) := by decide +kernel
theorem dX9_gait_7 : decode cX9_gait 7 = .ok (.ifCond .eq 17, 3) := by decide +kernel
theorem dX9_gait_10 : decode cX9_gait 10 = .ok (.aload_n 0, 1) := by decide +kernel
theorem dX9_gait_11 : decode cX9_gait 11 = .ok (.getfield 12, 3) := by decide +kernel
theorem dX9_gait_14 : decode cX9_gait 14 = .ok (.getfield 95, 3) := by decide +kernel
theorem dX9_gait_17 : decode cX9_gait 17 = .ok (.iload_n 1, 1) := by decide +kernel
theorem dX9_gait_18 : decode cX9_gait 18 = .ok (.invokevirtual 258, 3) := by decide +kernel
theorem dX9_gait_21 : decode cX9_gait 21 = .ok (.goto 9, 3) := by decide +kernel
theorem dX9_gait_24 : decode cX9_gait 24 = .ok (.aload_n 0, 1) := by decide +kernel
theorem dX9_gait_25 : decode cX9_gait 25 = .ok (.ldc 70, 2) := by decide +kernel
theorem dX9_gait_27 : decode cX9_gait 27 = .ok (.invokevirtual 71, 3) := by decide +kernel
theorem dX9_gait_30 : decode cX9_gait 30 = .ok (.ireturn, 1) := by decide +kernel
theorem dX9_odds_0 : decode cX9_odds 0 = .ok (.iload_n 1, 1) := by decide +kernel
theorem dX9_odds_1 : decode cX9_odds 1 = .ok (.iconst 0, 1) := by decide +kernel
theorem dX9_odds_2 : decode cX9_odds 2 = .ok (.bipush 30, 2) := by decide +kernel
theorem dX9_odds_4 : decode cX9_odds 4 = .ok (.invokestatic 66, 3) := by decide +kernel
theorem dX9_odds_7 : decode cX9_odds 7 = .ok (.ifCond .eq 22, 3) := by decide +kernel
theorem dX9_odds_10 : decode cX9_odds 10 = .ok (.iload_n 2, 1) := by decide +kernel
theorem dX9_odds_11 : decode cX9_odds 11 = .ok (.iconst 0, 1) := by decide +kernel
theorem dX9_odds_12 : decode cX9_odds 12 = .ok (.bipush 99, 2) := by decide +kernel
theorem dX9_odds_14 : decode cX9_odds 14 = .ok (.invokestatic 66, 3) := by decide +kernel
theorem dX9_odds_17 : decode cX9_odds 17 = .ok (.ifCond .eq 12, 3) := by decide +kernel
theorem dX9_odds_20 : decode cX9_odds 20 = .ok (.iload_n 3, 1) := by decide +kernel
theorem dX9_odds_21 : decode cX9_odds 21 = .ok (.iconst 0, 1) := by decide +kernel
theorem dX9_odds_22 : decode cX9_odds 22 = .ok (.iconst 1, 1) := by decide +kernel
theorem dX9_odds_23 : decode cX9_odds 23 = .ok (.invokestatic 66, 3) := by decide +kernel
theorem dX9_odds_26 : decode cX9_odds 26 = .ok (.ifCond .ne 10, 3) := by decide +kernel
theorem dX9_odds_29 : decode cX9_odds 29 = .ok (.aload_n 0, 1) := by decide +kernel
theorem dX9_odds_30 : decode cX9_odds 30 = .ok (.ldc 70, 2) := by decide +kernel
theorem dX9_odds_32 : decode cX9_odds 32 = .ok (.invokevirtual 71, 3) := by decide +kernel
theorem dX9_odds_35 : decode cX9_odds 35 = .ok (.ireturn, 1) := by decide +kernel
theorem dX9_odds_36 : decode cX9_odds 36 = .ok (.iconst 0, 1) := by decide +kernel
theorem dX9_odds_37 : decode cX9_odds 37 = .ok (.istore 4, 2) := by decide +kernel
theorem dX9_odds_39 : decode cX9_odds 39 = .ok (.iconst 0, 1) := by decide +kernel
theorem dX9_odds_40 : decode cX9_odds 40 = .ok (.istore 5, 2) := by decide +kernel
theorem dX9_odds_42 : decode cX9_odds 42 = .ok (.iload 5, 2) := by decide +kernel
theorem dX9_odds_44 : decode cX9_odds 44 = .ok (.bipush 10, 2) := by decide +kernel
theorem dX9_odds_46 : decode cX9_odds 46 = .ok (.if_icmp .ge 40, 3) := by decide +kernel
theorem dX9_odds_49 : decode cX9_odds 49 = .ok (.aload_n 0, 1) := by decide +kernel
theorem dX9_odds_50 : decode cX9_odds 50 = .ok (.invokevirtual 208, 3) := by decide +kernel
theorem dX9_odds_53 : decode cX9_odds 53 = .ok (.aload_n 0, 1) := by decide +kernel
theorem dX9_odds_54 : decode cX9_odds 54 = .ok (.getfield 26, 3) := by decide +kernel
theorem dX9_odds_57 : decode cX9_odds 57 = .ok (.bipush 10, 2) := by decide +kernel
theorem dX9_odds_59 : decode cX9_odds 59 = .ok (.iload 5, 2) := by decide +kernel
theorem dX9_odds_61 : decode cX9_odds 61 = .ok (.imul, 1) := by decide +kernel
theorem dX9_odds_62 : decode cX9_odds 62 = .ok (.putfield 147, 3) := by decide +kernel
theorem dX9_odds_65 : decode cX9_odds 65 = .ok (.aload_n 0, 1) := by decide +kernel
theorem dX9_odds_66 : decode cX9_odds 66 = .ok (.getfield 26, 3) := by decide +kernel
theorem dX9_odds_69 : decode cX9_odds 69 = .ok (.iload_n 1, 1) := by decide +kernel
theorem dX9_odds_70 : decode cX9_odds 70 = .ok (.invokevirtual 199, 3) := by decide +kernel
theorem dX9_odds_73 : decode cX9_odds 73 = .ok (.iload_n 2, 1) := by decide +kernel
theorem dX9_odds_74 : decode cX9_odds 74 = .ok (.if_icmp .gt 6, 3) := by decide +kernel
theorem dX9_odds_77 : decode cX9_odds 77 = .ok (.iinc 4 1, 3) := by decide +kernel
theorem dX9_odds_80 : decode cX9_odds 80 = .ok (.iinc 5 1, 3) := by decide +kernel
theorem dX9_odds_83 : decode cX9_odds 83 = .ok (.goto (-41), 3) := by decide +kernel
theorem dX9_odds_86 : decode cX9_odds 86 = .ok (.iload 4, 2) := by decide +kernel
theorem dX9_odds_88 : decode cX9_odds 88 = .ok (.bipush 10, 2) := by decide +kernel
theorem dX9_odds_90 : decode cX9_odds 90 = .ok (.iload_n 3, 1) := by decide +kernel
theorem dX9_odds_91 : decode cX9_odds 91 = .ok (.invokestatic 261, 3) := by decide +kernel
theorem dX9_odds_94 : decode cX9_odds 94 = .ok (.ireturn, 1) := by decide +kernel
theorem dX9_seed_0 : decode cX9_seed 0 = .ok (.aload_n 0, 1) := by decide +kernel
theorem dX9_seed_1 : decode cX9_seed 1 = .ok (.getfield 12, 3) := by decide +kernel
theorem dX9_seed_4 : decode cX9_seed 4 = .ok (.getfield 264, 3) := by decide +kernel
theorem dX9_seed_7 : decode cX9_seed 7 = .ok (.istore_n 2, 1) := by decide +kernel
theorem dX9_seed_8 : decode cX9_seed 8 = .ok (.aload_n 0, 1) := by decide +kernel
theorem dX9_seed_9 : decode cX9_seed 9 = .ok (.getfield 12, 3) := by decide +kernel
theorem dX9_seed_12 : decode cX9_seed 12 = .ok (.iload_n 1, 1) := by decide +kernel
theorem dX9_seed_13 : decode cX9_seed 13 = .ok (.putfield 264, 3) := by decide +kernel
theorem dX9_seed_16 : decode cX9_seed 16 = .ok (.iload_n 2, 1) := by decide +kernel
theorem dX9_seed_17 : decode cX9_seed 17 = .ok (.ireturn, 1) := by decide +kernel
theorem dX9_voice_0 : decode cX9_voice 0 = .ok (.aload_n 0, 1) := by decide +kernel
theorem dX9_voice_1 : decode cX9_voice 1 = .ok (.getfield 12, 3) := by decide +kernel
theorem dX9_voice_4 : decode cX9_voice 4 = .ok (.getfield 55, 3) := by decide +kernel
theorem dX9_voice_7 : decode cX9_voice 7 = .ok (.getfield 111, 3) := by decide +kernel
theorem dX9_voice_10 : decode cX9_voice 10 = .ok (.astore 4, 2) := by decide +kernel
theorem dX9_voice_12 : decode cX9_voice 12 = .ok (.aload 4, 2) := by decide +kernel
theorem dX9_voice_14 : decode cX9_voice 14 = .ok (.iload_n 1, 1) := by decide +kernel
theorem dX9_voice_15 : decode cX9_voice 15 = .ok (.invokevirtual 122, 3) := by decide +kernel
theorem dX9_voice_18 : decode cX9_voice 18 = .ok (.ifCond .eq 12, 3) := by decide +kernel
theorem dX9_voice_21 : decode cX9_voice 21 = .ok (.iload_n 2, 1) := by decide +kernel
theorem dX9_voice_22 : decode cX9_voice 22 = .ok (.iconst 0, 1) := by decide +kernel
theorem dX9_voice_23 : decode cX9_voice 23 = .ok (.iconst 3, 1) := by decide +kernel
theorem dX9_voice_24 : decode cX9_voice 24 = .ok (.invokestatic 66, 3) := by decide +kernel
theorem dX9_voice_27 : decode cX9_voice 27 = .ok (.ifCond .ne 10, 3) := by decide +kernel
theorem dX9_voice_30 : decode cX9_voice 30 = .ok (.aload_n 0, 1) := by decide +kernel
theorem dX9_voice_31 : decode cX9_voice 31 = .ok (.ldc 70, 2) := by decide +kernel
theorem dX9_voice_33 : decode cX9_voice 33 = .ok (.invokevirtual 71, 3) := by decide +kernel
theorem dX9_voice_36 : decode cX9_voice 36 = .ok (.ireturn, 1) := by decide +kernel
theorem dX9_voice_37 : decode cX9_voice 37 = .ok (.aload_n 0, 1) := by decide +kernel
theorem dX9_voice_38 : decode cX9_voice 38 = .ok (.getfield 46, 3) := by decide +kernel
theorem dX9_voice_41 : decode cX9_voice 41 = .ok (.iload_n 1, 1) := by decide +kernel
theorem dX9_voice_42 : decode cX9_voice 42 = .ok (.aload 4, 2) := by decide +kernel
theorem dX9_voice_44 : decode cX9_voice 44 = .ok (.getfield 126, 3) := by decide +kernel
theorem dX9_voice_47 : decode cX9_voice 47 = .ok (.iload_n 1, 1) := by decide +kernel
theorem dX9_voice_48 : decode cX9_voice 48 = .ok (.iaload, 1) := by decide +kernel
theorem dX9_voice_49 : decode cX9_voice 49 = .ok (.aload 4, 2) := by decide +kernel
theorem dX9_voice_51 : decode cX9_voice 51 = .ok (.getfield 129, 3) := by decide +kernel
theorem dX9_voice_54 : decode cX9_voice 54 = .ok (.iload_n 1, 1) := by decide +kernel
theorem dX9_voice_55 : decode cX9_voice 55 = .ok (.iaload, 1) := by decide +kernel
theorem dX9_voice_56 : decode cX9_voice 56 = .ok (.iload_n 2, 1) := by decide +kernel
theorem dX9_voice_57 : decode cX9_voice 57 = .ok (.iload_n 3, 1) := by decide +kernel
theorem dX9_voice_58 : decode cX9_voice 58 = .ok (.invokevirtual 267, 3) := by decide +kernel
theorem dX9_voice_61 : decode cX9_voice 61 = .ok (.ireturn, 1) := by decide +kernel
theorem dX9_trace_0 : decode cX9_trace 0 = .ok (.aload_n 0, 1) := by decide +kernel
theorem dX9_trace_1 : decode cX9_trace 1 = .ok (.getfield 46, 3) := by decide +kernel
theorem dX9_trace_4 : decode cX9_trace 4 = .ok (.getfield 271, 3) := by decide +kernel
theorem dX9_trace_7 : decode cX9_trace 7 = .ok (.iload_n 1, 1) := by decide +kernel
theorem dX9_trace_8 : decode cX9_trace 8 = .ok (.invokevirtual 274, 3) := by decide +kernel
theorem dX9_trace_11 : decode cX9_trace 11 = .ok (.ifCond .eq 17, 3) := by decide +kernel
theorem dX9_trace_14 : decode cX9_trace 14 = .ok (.aload_n 0, 1) := by decide +kernel
theorem dX9_trace_15 : decode cX9_trace 15 = .ok (.getfield 46, 3) := by decide +kernel
theorem dX9_trace_18 : decode cX9_trace 18 = .ok (.getfield 271, 3) := by decide +kernel
theorem dX9_trace_21 : decode cX9_trace 21 = .ok (.iload_n 1, 1) := by decide +kernel
theorem dX9_trace_22 : decode cX9_trace 22 = .ok (.invokevirtual 275, 3) := by decide +kernel
theorem dX9_trace_25 : decode cX9_trace 25 = .ok (.goto 9, 3) := by decide +kernel
theorem dX9_trace_28 : decode cX9_trace 28 = .ok (.aload_n 0, 1) := by decide +kernel
theorem dX9_trace_29 : decode cX9_trace 29 = .ok (.ldc 214, 2) := by decide +kernel
theorem dX9_trace_31 : decode cX9_trace 31 = .ok (.invokevirtual 71, 3) := by decide +kernel
theorem dX9_trace_34 : decode cX9_trace 34 = .ok (.ireturn, 1) := by decide +kernel
theorem dX9_sheet_0 : decode cX9_sheet 0 = .ok (.aload_n 0, 1) := by decide +kernel
theorem dX9_sheet_1 : decode cX9_sheet 1 = .ok (.iload_n 1, 1) := by decide +kernel
theorem dX9_sheet_2 : decode cX9_sheet 2 = .ok (.invokevirtual 219, 3) := by decide +kernel
theorem dX9_sheet_5 : decode cX9_sheet 5 = .ok (.astore 4, 2) := by decide +kernel
theorem dX9_sheet_7 : decode cX9_sheet 7 = .ok (.aload 4, 2) := by decide +kernel
theorem dX9_sheet_9 : decode cX9_sheet 9 = .ok (.ifnull 10, 3) := by decide +kernel
theorem dX9_sheet_12 : decode cX9_sheet 12 = .ok (.iload_n 2, 1) := by decide +kernel
theorem dX9_sheet_13 : decode cX9_sheet 13 = .ok (.invokestatic 278, 3) := by decide +kernel
theorem dX9_sheet_16 : decode cX9_sheet 16 = .ok (.ifCond .ne 10, 3) := by decide +kernel
theorem dX9_sheet_19 : decode cX9_sheet 19 = .ok (.aload_n 0, 1) := by decide +kernel
theorem dX9_sheet_20 : decode cX9_sheet 20 = .ok (.ldc 70, 2) := by decide +kernel
theorem dX9_sheet_22 : decode cX9_sheet 22 = .ok (.invokevirtual 71, 3) := by decide +kernel
theorem dX9_sheet_25 : decode cX9_sheet 25 = .ok (.ireturn, 1) := by decide +kernel
theorem dX9_sheet_26 : decode cX9_sheet 26 = .ok (.iload_n 2, 1) := by decide +kernel
theorem dX9_sheet_27 : decode cX9_sheet 27 = .ok (.ifCond .eq 14, 3) := by decide +kernel
theorem dX9_sheet_30 : decode cX9_sheet 30 = .ok (.iload_n 3, 1) := by decide +kernel
theorem dX9_sheet_31 : decode cX9_sheet 31 = .ok (.ifCond .ge 10, 3) := by decide +kernel
theorem dX9_sheet_34 : decode cX9_sheet 34 = .ok (.aload_n 0, 1) := by decide +kernel
theorem dX9_sheet_35 : decode cX9_sheet 35 = .ok (.ldc 198, 2) := by decide +kernel
theorem dX9_sheet_37 : decode cX9_sheet 37 = .ok (.invokevirtual 71, 3) := by decide +kernel
theorem dX9_sheet_40 : decode cX9_sheet 40 = .ok (.ireturn, 1) := by decide +kernel
theorem dX9_sheet_41 : decode cX9_sheet 41 = .ok (.iload_n 2, 1) := by decide +kernel
theorem dX9_sheet_42 : decode cX9_sheet 42 = .ok (.ifCond .eq 16, 3) := by decide +kernel
theorem dX9_sheet_45 : decode cX9_sheet 45 = .ok (.iload_n 3, 1) := by decide +kernel
theorem dX9_sheet_46 : decode cX9_sheet 46 = .ok (.bipush 40, 2) := by decide +kernel
theorem dX9_sheet_48 : decode cX9_sheet 48 = .ok (.if_icmp .le 10, 3) := by decide +kernel
theorem dX9_sheet_51 : decode cX9_sheet 51 = .ok (.aload_n 0, 1) := by decide +kernel
theorem dX9_sheet_52 : decode cX9_sheet 52 = .ok (.ldc 70, 2) := by decide +kernel
theorem dX9_sheet_54 : decode cX9_sheet 54 = .ok (.invokevirtual 71, 3) := by decide +kernel
theorem dX9_sheet_57 : decode cX9_sheet 57 = .ok (.ireturn, 1) := by decide +kernel
theorem dX9_sheet_58 : decode cX9_sheet 58 = .ok (.aload 4, 2) := by decide +kernel
theorem dX9_sheet_60 : decode cX9_sheet 60 = .ok (.iload_n 2, 1) := by decide +kernel
theorem dX9_sheet_61 : decode cX9_sheet 61 = .ok (.iload_n 2, 1) := by decide +kernel
theorem dX9_sheet_62 : decode cX9_sheet 62 = .ok (.ifCond .ne 7, 3) := by decide +kernel
theorem dX9_sheet_65 : decode cX9_sheet 65 = .ok (.iconst 0, 1) := by decide +kernel
theorem dX9_sheet_66 : decode cX9_sheet 66 = .ok (.goto 4, 3) := by decide +kernel
theorem dX9_sheet_69 : decode cX9_sheet 69 = .ok (.iload_n 3, 1) := by decide +kernel
theorem dX9_sheet_70 : decode cX9_sheet 70 = .ok (.invokevirtual 281, 3) := by decide +kernel
theorem dX9_sheet_73 : decode cX9_sheet 73 = .ok (.iconst 1, 1) := by decide +kernel
theorem dX9_sheet_74 : decode cX9_sheet 74 = .ok (.ireturn, 1) := by decide +kernel
theorem dX9_put_0 : decode cX9_put 0 = .ok (.aload_n 0, 1) := by decide +kernel
theorem dX9_put_1 : decode cX9_put 1 = .ok (.iload_n 1, 1) := by decide +kernel
theorem dX9_put_2 : decode cX9_put 2 = .ok (.invokevirtual 219, 3) := by decide +kernel
theorem dX9_put_5 : decode cX9_put 5 = .ok (.astore 4, 2) := by decide +kernel
theorem dX9_put_7 : decode cX9_put 7 = .ok (.aload 4, 2) := by decide +kernel
theorem dX9_put_9 : decode cX9_put 9 = .ok (.ifnonnull 10, 3) := by decide +kernel
theorem dX9_put_12 : decode cX9_put 12 = .ok (.aload_n 0, 1) := by decide +kernel
theorem dX9_put_13 : decode cX9_put 13 = .ok (.ldc 70, 2) := by decide +kernel
theorem dX9_put_15 : decode cX9_put 15 = .ok (.invokevirtual 71, 3) := by decide +kernel
theorem dX9_put_18 : decode cX9_put 18 = .ok (.ireturn, 1) := by decide +kernel
theorem dX9_put_19 : decode cX9_put 19 = .ok (.aload 4, 2) := by decide +kernel
theorem dX9_put_21 : decode cX9_put 21 = .ok (.invokevirtual 223, 3) := by decide +kernel
theorem dX9_put_24 : decode cX9_put 24 = .ok (.ifCond .eq 10, 3) := by decide +kernel
theorem dX9_put_27 : decode cX9_put 27 = .ok (.aload_n 0, 1) := by decide +kernel
theorem dX9_put_28 : decode cX9_put 28 = .ok (.ldc 214, 2) := by decide +kernel
theorem dX9_put_30 : decode cX9_put 30 = .ok (.invokevirtual 71, 3) := by decide +kernel
theorem dX9_put_33 : decode cX9_put 33 = .ok (.ireturn, 1) := by decide +kernel
theorem dX9_put_34 : decode cX9_put 34 = .ok (.aload 4, 2) := by decide +kernel
theorem dX9_put_36 : decode cX9_put 36 = .ok (.getfield 227, 3) := by decide +kernel
theorem dX9_put_39 : decode cX9_put 39 = .ok (.iload_n 2, 1) := by decide +kernel
theorem dX9_put_40 : decode cX9_put 40 = .ok (.invokevirtual 274, 3) := by decide +kernel
theorem dX9_put_43 : decode cX9_put 43 = .ok (.ifCond .ne 10, 3) := by decide +kernel
theorem dX9_put_46 : decode cX9_put 46 = .ok (.aload_n 0, 1) := by decide +kernel
theorem dX9_put_47 : decode cX9_put 47 = .ok (.ldc 70, 2) := by decide +kernel
theorem dX9_put_49 : decode cX9_put 49 = .ok (.invokevirtual 71, 3) := by decide +kernel
theorem dX9_put_52 : decode cX9_put 52 = .ok (.ireturn, 1) := by decide +kernel
theorem dX9_put_53 : decode cX9_put 53 = .ok (.aload 4, 2) := by decide +kernel
theorem dX9_put_55 : decode cX9_put 55 = .ok (.iload_n 2, 1) := by decide +kernel
theorem dX9_put_56 : decode cX9_put 56 = .ok (.iload_n 3, 1) := by decide +kernel
theorem dX9_put_57 : decode cX9_put 57 = .ok (.invokevirtual 284, 3) := by decide +kernel
theorem dX9_put_60 : decode cX9_put 60 = .ok (.iconst 1, 1) := by decide +kernel
theorem dX9_put_61 : decode cX9_put 61 = .ok (.ireturn, 1) := by decide +kernel
theorem dX9_move_0 : decode cX9_move 0 = .ok (.aload_n 0, 1) := by decide +kernel
theorem dX9_move_1 : decode cX9_move 1 = .ok (.iload_n 1, 1) := by decide +kernel
theorem dX9_move_2 : decode cX9_move 2 = .ok (.invokevirtual 219, 3) := by decide +kernel
theorem dX9_move_5 : decode cX9_move 5 = .ok (.astore 6, 2) := by decide +kernel
theorem dX9_move_7 : decode cX9_move 7 = .ok (.aload_n 0, 1) := by decide +kernel
theorem dX9_move_8 : decode cX9_move 8 = .ok (.iload_n 3, 1) := by decide +kernel
theorem dX9_move_9 : decode cX9_move 9 = .ok (.invokevirtual 219, 3) := by decide +kernel
theorem dX9_move_12 : decode cX9_move 12 = .ok (.astore 7, 2) := by decide +kernel
theorem dX9_move_14 : decode cX9_move 14 = .ok (.aload 6, 2) := by decide +kernel
theorem dX9_move_16 : decode cX9_move 16 = .ok (.ifnull 8, 3) := by decide +kernel
theorem dX9_move_19 : decode cX9_move 19 = .ok (.aload 7, 2) := by decide +kernel
theorem dX9_move_21 : decode cX9_move 21 = .ok (.ifnonnull 10, 3) := by decide +kernel
theorem dX9_move_24 : decode cX9_move 24 = .ok (.aload_n 0, 1) := by decide +kernel
theorem dX9_move_25 : decode cX9_move 25 = .ok (.ldc 70, 2) := by decide +kernel
theorem dX9_move_27 : decode cX9_move 27 = .ok (.invokevirtual 71, 3) := by decide +kernel
theorem dX9_move_30 : decode cX9_move 30 = .ok (.ireturn, 1) := by decide +kernel
theorem dX9_move_31 : decode cX9_move 31 = .ok (.aload 6, 2) := by decide +kernel
theorem dX9_move_33 : decode cX9_move 33 = .ok (.invokevirtual 223, 3) := by decide +kernel
theorem dX9_move_36 : decode cX9_move 36 = .ok (.ifCond .ne 11, 3) := by decide +kernel
theorem dX9_move_39 : decode cX9_move 39 = .ok (.aload 7, 2) := by decide +kernel
theorem dX9_move_41 : decode cX9_move 41 = .ok (.invokevirtual 223, 3) := by decide +kernel
theorem dX9_move_44 : decode cX9_move 44 = .ok (.ifCond .eq 10, 3) := by decide +kernel
theorem dX9_move_47 : decode cX9_move 47 = .ok (.aload_n 0, 1) := by decide +kernel
theorem dX9_move_48 : decode cX9_move 48 = .ok (.ldc 214, 2) := by decide +kernel
theorem dX9_move_50 : decode cX9_move 50 = .ok (.invokevirtual 71, 3) := by decide +kernel
theorem dX9_move_53 : decode cX9_move 53 = .ok (.ireturn, 1) := by decide +kernel
theorem dX9_move_54 : decode cX9_move 54 = .ok (.aload 6, 2) := by decide +kernel
theorem dX9_move_56 : decode cX9_move 56 = .ok (.getfield 287, 3) := by decide +kernel
theorem dX9_move_59 : decode cX9_move 59 = .ok (.aload 7, 2) := by decide +kernel
theorem dX9_move_61 : decode cX9_move 61 = .ok (.getfield 287, 3) := by decide +kernel
theorem dX9_move_64 : decode cX9_move 64 = .ok (.if_icmp .eq 10, 3) := by decide +kernel
theorem dX9_move_67 : decode cX9_move 67 = .ok (.aload_n 0, 1) := by decide +kernel
theorem dX9_move_68 : decode cX9_move 68 = .ok (.ldc 159, 2) := by decide +kernel
theorem dX9_move_70 : decode cX9_move 70 = .ok (.invokevirtual 71, 3) := by decide +kernel
theorem dX9_move_73 : decode cX9_move 73 = .ok (.ireturn, 1) := by decide +kernel
theorem dX9_move_74 : decode cX9_move 74 = .ok (.aload 6, 2) := by decide +kernel
theorem dX9_move_76 : decode cX9_move 76 = .ok (.getfield 227, 3) := by decide +kernel
theorem dX9_move_79 : decode cX9_move 79 = .ok (.iload_n 2, 1) := by decide +kernel
theorem dX9_move_80 : decode cX9_move 80 = .ok (.iload 5, 2) := by decide +kernel
theorem dX9_move_82 : decode cX9_move 82 = .ok (.invokevirtual 290, 3) := by decide +kernel
theorem dX9_move_85 : decode cX9_move 85 = .ok (.ifCond .eq 18, 3) := by decide +kernel
theorem dX9_move_88 : decode cX9_move 88 = .ok (.aload 7, 2) := by decide +kernel
theorem dX9_move_90 : decode cX9_move 90 = .ok (.getfield 227, 3) := by decide +kernel
theorem dX9_move_93 : decode cX9_move 93 = .ok (.iload 4, 2) := by decide +kernel
theorem dX9_move_95 : decode cX9_move 95 = .ok (.iload 5, 2) := by decide +kernel
theorem dX9_move_97 : decode cX9_move 97 = .ok (.invokevirtual 290, 3) := by decide +kernel
theorem dX9_move_100 : decode cX9_move 100 = .ok (.ifCond .ne 10, 3) := by decide +kernel
theorem dX9_move_103 : decode cX9_move 103 = .ok (.aload_n 0, 1) := by decide +kernel
theorem dX9_move_104 : decode cX9_move 104 = .ok (.ldc 70, 2) := by decide +kernel
theorem dX9_move_106 : decode cX9_move 106 = .ok (.invokevirtual 71, 3) := by decide +kernel
theorem dX9_move_109 : decode cX9_move 109 = .ok (.ireturn, 1) := by decide +kernel
theorem dX9_move_110 : decode cX9_move 110 = .ok (.aload 7, 2) := by decide +kernel
theorem dX9_move_112 : decode cX9_move 112 = .ok (.getfield 227, 3) := by decide +kernel
theorem dX9_move_115 : decode cX9_move 115 = .ok (.aload 6, 2) := by decide +kernel
theorem dX9_move_117 : decode cX9_move 117 = .ok (.getfield 227, 3) := by decide +kernel
theorem dX9_move_120 : decode cX9_move 120 = .ok (.iload_n 2, 1) := by decide +kernel
theorem dX9_move_121 : decode cX9_move 121 = .ok (.iload 4, 2) := by decide +kernel
theorem dX9_move_123 : decode cX9_move 123 = .ok (.iload 5, 2) := by decide +kernel
theorem dX9_move_125 : decode cX9_move 125 = .ok (.invokevirtual 293, 3) := by decide +kernel
theorem dX9_move_128 : decode cX9_move 128 = .ok (.iload 5, 2) := by decide +kernel
theorem dX9_move_130 : decode cX9_move 130 = .ok (.ireturn, 1) := by decide +kernel
theorem dX9_talls_0 : decode cX9_talls 0 = .ok (.aload_n 0, 1) := by decide +kernel
theorem dX9_talls_1 : decode cX9_talls 1 = .ok (.iload_n 1, 1) := by decide +kernel
theorem dX9_talls_2 : decode cX9_talls 2 = .ok (.invokevirtual 219, 3) := by decide +kernel
theorem dX9_talls_5 : decode cX9_talls 5 = .ok (.astore_n 2, 1) := by decide +kernel
theorem dX9_talls_6 : decode cX9_talls 6 = .ok (.aload_n 2, 1) := by decide +kernel
theorem dX9_talls_7 : decode cX9_talls 7 = .ok (.ifnonnull 10, 3) := by decide +kernel
theorem dX9_talls_10 : decode cX9_talls 10 = .ok (.aload_n 0, 1) := by decide +kernel
theorem dX9_talls_11 : decode cX9_talls 11 = .ok (.ldc 70, 2) := by decide +kernel
theorem dX9_talls_13 : decode cX9_talls 13 = .ok (.invokevirtual 71, 3) := by decide +kernel
theorem dX9_talls_16 : decode cX9_talls 16 = .ok (.ireturn, 1) := by decide +kernel
theorem dX9_talls_17 : decode cX9_talls 17 = .ok (.aload_n 2, 1) := by decide +kernel
theorem dX9_talls_18 : decode cX9_talls 18 = .ok (.invokevirtual 223, 3) := by decide +kernel
theorem dX9_talls_21 : decode cX9_talls 21 = .ok (.ifCond .eq 12, 3) := by decide +kernel
theorem dX9_talls_24 : decode cX9_talls 24 = .ok (.aload_n 0, 1) := by decide +kernel
theorem dX9_talls_25 : decode cX9_talls 25 = .ok (.ldc 214, 2) := by decide +kernel
theorem dX9_talls_27 : decode cX9_talls 27 = .ok (.invokevirtual 71, 3) := by decide +kernel
theorem dX9_talls_30 : decode cX9_talls 30 = .ok (.goto 17, 3) := by decide +kernel
theorem dX9_talls_33 : decode cX9_talls 33 = .ok (.aload_n 0, 1) := by decide +kernel
theorem dX9_talls_34 : decode cX9_talls 34 = .ok (.getfield 12, 3) := by decide +kernel
theorem dX9_talls_37 : decode cX9_talls 37 = .ok (.getfield 95, 3) := by decide +kernel
theorem dX9_talls_40 : decode cX9_talls 40 = .ok (.aload_n 2, 1) := by decide +kernel
theorem dX9_talls_41 : decode cX9_talls 41 = .ok (.getfield 227, 3) := by decide +kernel
theorem dX9_talls_44 : decode cX9_talls 44 = .ok (.invokevirtual 297, 3) := by decide +kernel
theorem dX9_talls_47 : decode cX9_talls 47 = .ok (.ireturn, 1) := by decide +kernel
theorem dX9_judge_0 : decode cX9_judge 0 = .ok (.aload_n 0, 1) := by decide +kernel
theorem dX9_judge_1 : decode cX9_judge 1 = .ok (.iload_n 1, 1) := by decide +kernel
theorem dX9_judge_2 : decode cX9_judge 2 = .ok (.invokevirtual 219, 3) := by decide +kernel
theorem dX9_judge_5 : decode cX9_judge 5 = .ok (.astore_n 2, 1) := by decide +kernel
theorem dX9_judge_6 : decode cX9_judge 6 = .ok (.aload_n 2, 1) := by decide +kernel
theorem dX9_judge_7 : decode cX9_judge 7 = .ok (.ifnonnull 10, 3) := by decide +kernel
theorem dX9_judge_10 : decode cX9_judge 10 = .ok (.aload_n 0, 1) := by decide +kernel
theorem dX9_judge_11 : decode cX9_judge 11 = .ok (.ldc 70, 2) := by decide +kernel
theorem dX9_judge_13 : decode cX9_judge 13 = .ok (.invokevirtual 71, 3) := by decide +kernel
theorem dX9_judge_16 : decode cX9_judge 16 = .ok (.ireturn, 1) := by decide +kernel
theorem dX9_judge_17 : decode cX9_judge 17 = .ok (.aload_n 2, 1) := by decide +kernel
theorem dX9_judge_18 : decode cX9_judge 18 = .ok (.invokevirtual 223, 3) := by decide +kernel
theorem dX9_judge_21 : decode cX9_judge 21 = .ok (.ifCond .eq 12, 3) := by decide +kernel
theorem dX9_judge_24 : decode cX9_judge 24 = .ok (.aload_n 0, 1) := by decide +kernel
theorem dX9_judge_25 : decode cX9_judge 25 = .ok (.ldc 214, 2) := by decide +kernel
theorem dX9_judge_27 : decode cX9_judge 27 = .ok (.invokevirtual 71, 3) := by decide +kernel
theorem dX9_judge_30 : decode cX9_judge 30 = .ok (.goto 20, 3) := by decide +kernel
theorem dX9_judge_33 : decode cX9_judge 33 = .ok (.aload_n 0, 1) := by decide +kernel
theorem dX9_judge_34 : decode cX9_judge 34 = .ok (.getfield 12, 3) := by decide +kernel
theorem dX9_judge_37 : decode cX9_judge 37 = .ok (.getfield 55, 3) := by decide +kernel
theorem dX9_judge_40 : decode cX9_judge 40 = .ok (.getfield 111, 3) := by decide +kernel
theorem dX9_judge_43 : decode cX9_judge 43 = .ok (.aload_n 2, 1) := by decide +kernel
theorem dX9_judge_44 : decode cX9_judge 44 = .ok (.getfield 227, 3) := by decide +kernel
theorem dX9_judge_47 : decode cX9_judge 47 = .ok (.invokevirtual 300, 3) := by decide +kernel
theorem dX9_judge_50 : decode cX9_judge 50 = .ok (.ireturn, 1) := by decide +kernel
theorem dX9_image_0 : decode cX9_image 0 = .ok (.aload_n 0, 1) := by decide +kernel
theorem dX9_image_1 : decode cX9_image 1 = .ok (.getfield 16, 3) := by decide +kernel
theorem dX9_image_4 : decode cX9_image 4 = .ok (.aload_n 0, 1) := by decide +kernel
theorem dX9_image_5 : decode cX9_image 5 = .ok (.getfield 12, 3) := by decide +kernel
theorem dX9_image_8 : decode cX9_image 8 = .ok (.invokevirtual 303, 3) := by decide +kernel
theorem dX9_image_11 : decode cX9_image 11 = .ok (.aload_n 0, 1) := by decide +kernel
theorem dX9_image_12 : decode cX9_image 12 = .ok (.dup, 1) := by decide +kernel
theorem dX9_image_13 : decode cX9_image 13 = .ok (.getfield 19, 3) := by decide +kernel
theorem dX9_image_16 : decode cX9_image 16 = .ok (.iconst 1, 1) := by decide +kernel
theorem dX9_image_17 : decode cX9_image 17 = .ok (.iadd, 1) := by decide +kernel
theorem dX9_image_18 : decode cX9_image 18 = .ok (.putfield 19, 3) := by decide +kernel
theorem dX9_image_21 : decode cX9_image 21 = .ok (.aload_n 0, 1) := by decide +kernel
theorem dX9_image_22 : decode cX9_image 22 = .ok (.getfield 19, 3) := by decide +kernel
theorem dX9_image_25 : decode cX9_image 25 = .ok (.ireturn, 1) := by decide +kernel
theorem dX9_restore_0 : decode cX9_restore 0 = .ok (.aload_n 0, 1) := by decide +kernel
theorem dX9_restore_1 : decode cX9_restore 1 = .ok (.getfield 19, 3) := by decide +kernel
theorem dX9_restore_4 : decode cX9_restore 4 = .ok (.ifCond .ne 10, 3) := by decide +kernel
theorem dX9_restore_7 : decode cX9_restore 7 = .ok (.aload_n 0, 1) := by decide +kernel
theorem dX9_restore_8 : decode cX9_restore 8 = .ok (.ldc 214, 2) := by decide +kernel
theorem dX9_restore_10 : decode cX9_restore 10 = .ok (.invokevirtual 71, 3) := by decide +kernel
theorem dX9_restore_13 : decode cX9_restore 13 = .ok (.ireturn, 1) := by decide +kernel
theorem dX9_restore_14 : decode cX9_restore 14 = .ok (.aload_n 0, 1) := by decide +kernel
theorem dX9_restore_15 : decode cX9_restore 15 = .ok (.getfield 12, 3) := by decide +kernel
theorem dX9_restore_18 : decode cX9_restore 18 = .ok (.aload_n 0, 1) := by decide +kernel
theorem dX9_restore_19 : decode cX9_restore 19 = .ok (.getfield 16, 3) := by decide +kernel
theorem dX9_restore_22 : decode cX9_restore 22 = .ok (.invokevirtual 303, 3) := by decide +kernel
theorem dX9_restore_25 : decode cX9_restore 25 = .ok (.aload_n 0, 1) := by decide +kernel
theorem dX9_restore_26 : decode cX9_restore 26 = .ok (.getfield 12, 3) := by decide +kernel
theorem dX9_restore_29 : decode cX9_restore 29 = .ok (.getfield 55, 3) := by decide +kernel
theorem dX9_restore_32 : decode cX9_restore 32 = .ok (.getfield 138, 3) := by decide +kernel
theorem dX9_restore_35 : decode cX9_restore 35 = .ok (.ireturn, 1) := by decide +kernel
theorem dX9_tell_0 : decode cX9_tell 0 = .ok (.aload_n 0, 1) := by decide +kernel
theorem dX9_tell_1 : decode cX9_tell 1 = .ok (.getfield 12, 3) := by decide +kernel
theorem dX9_tell_4 : decode cX9_tell 4 = .ok (.getfield 306, 3) := by decide +kernel
theorem dX9_tell_7 : decode cX9_tell 7 = .ok (.iload_n 1, 1) := by decide +kernel
theorem dX9_tell_8 : decode cX9_tell 8 = .ok (.invokevirtual 171, 3) := by decide +kernel
theorem dX9_tell_11 : decode cX9_tell 11 = .ok (.ifCond .eq 16, 3) := by decide +kernel
theorem dX9_tell_14 : decode cX9_tell 14 = .ok (.aload_n 0, 1) := by decide +kernel
theorem dX9_tell_15 : decode cX9_tell 15 = .ok (.getfield 12, 3) := by decide +kernel
theorem dX9_tell_18 : decode cX9_tell 18 = .ok (.getfield 306, 3) := by decide +kernel
theorem dX9_tell_21 : decode cX9_tell 21 = .ok (.getfield 164, 3) := by decide +kernel
theorem dX9_tell_24 : decode cX9_tell 24 = .ok (.goto 9, 3) := by decide +kernel
theorem dX9_tell_27 : decode cX9_tell 27 = .ok (.aload_n 0, 1) := by decide +kernel
theorem dX9_tell_28 : decode cX9_tell 28 = .ok (.ldc 121, 2) := by decide +kernel
theorem dX9_tell_30 : decode cX9_tell 30 = .ok (.invokevirtual 71, 3) := by decide +kernel
theorem dX9_tell_33 : decode cX9_tell 33 = .ok (.ireturn, 1) := by decide +kernel
theorem dX9_check_0 : decode cX9_check 0 = .ok (.aload_n 0, 1) := by decide +kernel
theorem dX9_check_1 : decode cX9_check 1 = .ok (.invokevirtual 208, 3) := by decide +kernel
theorem dX9_check_4 : decode cX9_check 4 = .ok (.aload_n 0, 1) := by decide +kernel
theorem dX9_check_5 : decode cX9_check 5 = .ok (.aload_n 0, 1) := by decide +kernel
theorem dX9_check_6 : decode cX9_check 6 = .ok (.getfield 12, 3) := by decide +kernel
theorem dX9_check_9 : decode cX9_check 9 = .ok (.getfield 306, 3) := by decide +kernel
theorem dX9_check_12 : decode cX9_check 12 = .ok (.invokevirtual 230, 3) := by decide +kernel
theorem dX9_check_15 : decode cX9_check 15 = .ok (.istore_n 1, 1) := by decide +kernel
theorem dX9_check_16 : decode cX9_check 16 = .ok (.aload_n 0, 1) := by decide +kernel
theorem dX9_check_17 : decode cX9_check 17 = .ok (.getfield 12, 3) := by decide +kernel
theorem dX9_check_20 : decode cX9_check 20 = .ok (.getfield 306, 3) := by decide +kernel
theorem dX9_check_23 : decode cX9_check 23 = .ok (.invokevirtual 177, 3) := by decide +kernel
theorem dX9_check_26 : decode cX9_check 26 = .ok (.iload_n 1, 1) := by decide +kernel
theorem dX9_check_27 : decode cX9_check 27 = .ok (.iconst 1, 1) := by decide +kernel
theorem dX9_check_28 : decode cX9_check 28 = .ok (.iadd, 1) := by decide +kernel
theorem dX9_check_29 : decode cX9_check 29 = .ok (.ireturn, 1) := by decide +kernel
theorem dX9_count_0 : decode cX9_count 0 = .ok (.iload_n 1, 1) := by decide +kernel
theorem dX9_count_1 : decode cX9_count 1 = .ok (.tableswitch 183 0 10 #[59, 73, 84, 95, 106, 117, 131, 142, 153, 164, 175], 59) := by decide +kernel
theorem dX9_count_60 : decode cX9_count 60 = .ok (.aload_n 0, 1) := by decide +kernel
theorem dX9_count_61 : decode cX9_count 61 = .ok (.getfield 12, 3) := by decide +kernel
theorem dX9_count_64 : decode cX9_count 64 = .ok (.getfield 55, 3) := by decide +kernel
theorem dX9_count_67 : decode cX9_count 67 = .ok (.getfield 111, 3) := by decide +kernel
theorem dX9_count_70 : decode cX9_count 70 = .ok (.getfield 215, 3) := by decide +kernel
theorem dX9_count_73 : decode cX9_count 73 = .ok (.ireturn, 1) := by decide +kernel
theorem dX9_count_74 : decode cX9_count 74 = .ok (.aload_n 0, 1) := by decide +kernel
theorem dX9_count_75 : decode cX9_count 75 = .ok (.getfield 12, 3) := by decide +kernel
theorem dX9_count_78 : decode cX9_count 78 = .ok (.getfield 55, 3) := by decide +kernel
theorem dX9_count_81 : decode cX9_count 81 = .ok (.getfield 138, 3) := by decide +kernel
theorem dX9_count_84 : decode cX9_count 84 = .ok (.ireturn, 1) := by decide +kernel
theorem dX9_count_85 : decode cX9_count 85 = .ok (.aload_n 0, 1) := by decide +kernel
theorem dX9_count_86 : decode cX9_count 86 = .ok (.getfield 12, 3) := by decide +kernel
theorem dX9_count_89 : decode cX9_count 89 = .ok (.getfield 55, 3) := by decide +kernel
theorem dX9_count_92 : decode cX9_count 92 = .ok (.getfield 147, 3) := by decide +kernel
theorem dX9_count_95 : decode cX9_count 95 = .ok (.ireturn, 1) := by decide +kernel
theorem dX9_count_96 : decode cX9_count 96 = .ok (.aload_n 0, 1) := by decide +kernel
theorem dX9_count_97 : decode cX9_count 97 = .ok (.getfield 12, 3) := by decide +kernel
theorem dX9_count_100 : decode cX9_count 100 = .ok (.getfield 55, 3) := by decide +kernel
theorem dX9_count_103 : decode cX9_count 103 = .ok (.getfield 205, 3) := by decide +kernel
theorem dX9_count_106 : decode cX9_count 106 = .ok (.ireturn, 1) := by decide +kernel
theorem dX9_count_107 : decode cX9_count 107 = .ok (.aload_n 0, 1) := by decide +kernel
theorem dX9_count_108 : decode cX9_count 108 = .ok (.getfield 12, 3) := by decide +kernel
theorem dX9_count_111 : decode cX9_count 111 = .ok (.getfield 55, 3) := by decide +kernel
theorem dX9_count_114 : decode cX9_count 114 = .ok (.getfield 211, 3) := by decide +kernel
theorem dX9_count_117 : decode cX9_count 117 = .ok (.ireturn, 1) := by decide +kernel
theorem dX9_count_118 : decode cX9_count 118 = .ok (.aload_n 0, 1) := by decide +kernel
theorem dX9_count_119 : decode cX9_count 119 = .ok (.getfield 12, 3) := by decide +kernel
theorem dX9_count_122 : decode cX9_count 122 = .ok (.getfield 55, 3) := by decide +kernel
theorem dX9_count_125 : decode cX9_count 125 = .ok (.getfield 111, 3) := by decide +kernel
theorem dX9_count_128 : decode cX9_count 128 = .ok (.invokevirtual 309, 3) := by decide +kernel
theorem dX9_count_131 : decode cX9_count 131 = .ok (.ireturn, 1) := by decide +kernel
theorem dX9_count_132 : decode cX9_count 132 = .ok (.aload_n 0, 1) := by decide +kernel
theorem dX9_count_133 : decode cX9_count 133 = .ok (.getfield 12, 3) := by decide +kernel
theorem dX9_count_136 : decode cX9_count 136 = .ok (.getfield 95, 3) := by decide +kernel
theorem dX9_count_139 : decode cX9_count 139 = .ok (.invokevirtual 312, 3) := by decide +kernel
theorem dX9_count_142 : decode cX9_count 142 = .ok (.ireturn, 1) := by decide +kernel
theorem dX9_count_143 : decode cX9_count 143 = .ok (.aload_n 0, 1) := by decide +kernel
theorem dX9_count_144 : decode cX9_count 144 = .ok (.getfield 12, 3) := by decide +kernel
theorem dX9_count_147 : decode cX9_count 147 = .ok (.getfield 160, 3) := by decide +kernel
theorem dX9_count_150 : decode cX9_count 150 = .ok (.getfield 164, 3) := by decide +kernel
theorem dX9_count_153 : decode cX9_count 153 = .ok (.ireturn, 1) := by decide +kernel
theorem dX9_count_154 : decode cX9_count 154 = .ok (.aload_n 0, 1) := by decide +kernel
theorem dX9_count_155 : decode cX9_count 155 = .ok (.getfield 12, 3) := by decide +kernel
theorem dX9_count_158 : decode cX9_count 158 = .ok (.getfield 306, 3) := by decide +kernel
theorem dX9_count_161 : decode cX9_count 161 = .ok (.getfield 164, 3) := by decide +kernel
theorem dX9_count_164 : decode cX9_count 164 = .ok (.ireturn, 1) := by decide +kernel
theorem dX9_count_165 : decode cX9_count 165 = .ok (.aload_n 0, 1) := by decide +kernel
theorem dX9_count_166 : decode cX9_count 166 = .ok (.getfield 46, 3) := by decide +kernel
theorem dX9_count_169 : decode cX9_count 169 = .ok (.getfield 271, 3) := by decide +kernel
theorem dX9_count_172 : decode cX9_count 172 = .ok (.getfield 164, 3) := by decide +kernel
theorem dX9_count_175 : decode cX9_count 175 = .ok (.ireturn, 1) := by decide +kernel
theorem dX9_count_176 : decode cX9_count 176 = .ok (.aload_n 0, 1) := by decide +kernel
theorem dX9_count_177 : decode cX9_count 177 = .ok (.getfield 12, 3) := by decide +kernel
theorem dX9_count_180 : decode cX9_count 180 = .ok (.getfield 264, 3) := by decide +kernel
theorem dX9_count_183 : decode cX9_count 183 = .ok (.ireturn, 1) := by decide +kernel
theorem dX9_count_184 : decode cX9_count 184 = .ok (.aload_n 0, 1) := by decide +kernel
theorem dX9_count_185 : decode cX9_count 185 = .ok (.ldc 70, 2) := by decide +kernel
theorem dX9_count_187 : decode cX9_count 187 = .ok (.invokevirtual 71, 3) := by decide +kernel
theorem dX9_count_190 : decode cX9_count 190 = .ok (.ireturn, 1) := by decide +kernel
theorem dX9_told_0 : decode cX9_told 0 = .ok (.iload_n 1, 1) := by decide +kernel
theorem dX9_told_1 : decode cX9_told 1 = .ok (.iconst 1, 1) := by decide +kernel
theorem dX9_told_2 : decode cX9_told 2 = .ok (.iconst 5, 1) := by decide +kernel
theorem dX9_told_3 : decode cX9_told 3 = .ok (.invokestatic 66, 3) := by decide +kernel
theorem dX9_told_6 : decode cX9_told 6 = .ok (.ifCond .eq 12, 3) := by decide +kernel
theorem dX9_told_9 : decode cX9_told 9 = .ok (.aload_n 0, 1) := by decide +kernel
theorem dX9_told_10 : decode cX9_told 10 = .ok (.getfield 50, 3) := by decide +kernel
theorem dX9_told_13 : decode cX9_told 13 = .ok (.iload_n 1, 1) := by decide +kernel
theorem dX9_told_14 : decode cX9_told 14 = .ok (.iaload, 1) := by decide +kernel
theorem dX9_told_15 : decode cX9_told 15 = .ok (.goto 9, 3) := by decide +kernel
theorem dX9_told_18 : decode cX9_told 18 = .ok (.aload_n 0, 1) := by decide +kernel
theorem dX9_told_19 : decode cX9_told 19 = .ok (.ldc 70, 2) := by decide +kernel
theorem dX9_told_21 : decode cX9_told 21 = .ok (.invokevirtual 71, 3) := by decide +kernel
theorem dX9_told_24 : decode cX9_told 24 = .ok (.ireturn, 1) := by decide +kernel
theorem dX9_fails_0 : decode cX9_fails 0 = .ok (.ldc_w 315, 3) := by decide +kernel
theorem dX9_fails_3 : decode cX9_fails 3 = .ok (.iload_n 1, 1) := by decide +kernel
theorem dX9_fails_4 : decode cX9_fails 4 = .ok (.isub, 1) := by decide +kernel
theorem dX9_fails_5 : decode cX9_fails 5 = .ok (.istore_n 2, 1) := by decide +kernel
theorem dX9_fails_6 : decode cX9_fails 6 = .ok (.iload_n 2, 1) := by decide +kernel
theorem dX9_fails_7 : decode cX9_fails 7 = .ok (.aload_n 0, 1) := by decide +kernel
theorem dX9_fails_8 : decode cX9_fails 8 = .ok (.getfield 50, 3) := by decide +kernel
theorem dX9_fails_11 : decode cX9_fails 11 = .ok (.invokestatic 62, 3) := by decide +kernel
theorem dX9_fails_14 : decode cX9_fails 14 = .ok (.ifCond .eq 13, 3) := by decide +kernel
theorem dX9_fails_17 : decode cX9_fails 17 = .ok (.aload_n 0, 1) := by decide +kernel
theorem dX9_fails_18 : decode cX9_fails 18 = .ok (.getfield 50, 3) := by decide +kernel
theorem dX9_fails_21 : decode cX9_fails 21 = .ok (.iload_n 2, 1) := by decide +kernel
theorem dX9_fails_22 : decode cX9_fails 22 = .ok (.dup2, 1) := by decide +kernel
theorem dX9_fails_23 : decode cX9_fails 23 = .ok (.iaload, 1) := by decide +kernel
theorem dX9_fails_24 : decode cX9_fails 24 = .ok (.iconst 1, 1) := by decide +kernel
theorem dX9_fails_25 : decode cX9_fails 25 = .ok (.iadd, 1) := by decide +kernel
theorem dX9_fails_26 : decode cX9_fails 26 = .ok (.iastore, 1) := by decide +kernel
theorem dX9_fails_27 : decode cX9_fails 27 = .ok (.iload_n 1, 1) := by decide +kernel
theorem dX9_fails_28 : decode cX9_fails 28 = .ok (.ireturn, 1) := by decide +kernel
theorem dX9_within_0 : decode cX9_within 0 = .ok (.iload_n 0, 1) := by decide +kernel
theorem dX9_within_1 : decode cX9_within 1 = .ok (.iload_n 1, 1) := by decide +kernel
theorem dX9_within_2 : decode cX9_within 2 = .ok (.if_icmp .lt 12, 3) := by decide +kernel
theorem dX9_within_5 : decode cX9_within 5 = .ok (.iload_n 0, 1) := by decide +kernel
theorem dX9_within_6 : decode cX9_within 6 = .ok (.iload_n 2, 1) := by decide +kernel
theorem dX9_within_7 : decode cX9_within 7 = .ok (.if_icmp .gt 7, 3) := by decide +kernel
theorem dX9_within_10 : decode cX9_within 10 = .ok (.iconst 1, 1) := by decide +kernel
theorem dX9_within_11 : decode cX9_within 11 = .ok (.goto 4, 3) := by decide +kernel
theorem dX9_within_14 : decode cX9_within 14 = .ok (.iconst 0, 1) := by decide +kernel
theorem dX9_within_15 : decode cX9_within 15 = .ok (.ireturn, 1) := by decide +kernel
theorem dX9_isPlace_0 : decode cX9_isPlace 0 = .ok (.iload_n 0, 1) := by decide +kernel
theorem dX9_isPlace_1 : decode cX9_isPlace 1 = .ok (.ifCond .lt 13, 3) := by decide +kernel
theorem dX9_isPlace_4 : decode cX9_isPlace 4 = .ok (.iload_n 0, 1) := by decide +kernel
theorem dX9_isPlace_5 : decode cX9_isPlace 5 = .ok (.aload_n 1, 1) := by decide +kernel
theorem dX9_isPlace_6 : decode cX9_isPlace 6 = .ok (.arraylength, 1) := by decide +kernel
theorem dX9_isPlace_7 : decode cX9_isPlace 7 = .ok (.if_icmp .ge 7, 3) := by decide +kernel
theorem dX9_isPlace_10 : decode cX9_isPlace 10 = .ok (.iconst 1, 1) := by decide +kernel
theorem dX9_isPlace_11 : decode cX9_isPlace 11 = .ok (.goto 4, 3) := by decide +kernel
theorem dX9_isPlace_14 : decode cX9_isPlace 14 = .ok (.iconst 0, 1) := by decide +kernel
theorem dX9_isPlace_15 : decode cX9_isPlace 15 = .ok (.ireturn, 1) := by decide +kernel
theorem dX9_inLowestTerms_0 : decode cX9_inLowestTerms 0 = .ok (.iload_n 1, 1) := by decide +kernel
theorem dX9_inLowestTerms_1 : decode cX9_inLowestTerms 1 = .ok (.istore_n 3, 1) := by decide +kernel
theorem dX9_inLowestTerms_2 : decode cX9_inLowestTerms 2 = .ok (.iload_n 3, 1) := by decide +kernel
theorem dX9_inLowestTerms_3 : decode cX9_inLowestTerms 3 = .ok (.iconst 1, 1) := by decide +kernel
theorem dX9_inLowestTerms_4 : decode cX9_inLowestTerms 4 = .ok (.if_icmp .le 35, 3) := by decide +kernel
theorem dX9_inLowestTerms_7 : decode cX9_inLowestTerms 7 = .ok (.iload_n 0, 1) := by decide +kernel
theorem dX9_inLowestTerms_8 : decode cX9_inLowestTerms 8 = .ok (.iload_n 3, 1) := by decide +kernel
theorem dX9_inLowestTerms_9 : decode cX9_inLowestTerms 9 = .ok (.irem, 1) := by decide +kernel
theorem dX9_inLowestTerms_10 : decode cX9_inLowestTerms 10 = .ok (.ifCond .ne 23, 3) := by decide +kernel
theorem dX9_inLowestTerms_13 : decode cX9_inLowestTerms 13 = .ok (.iload_n 1, 1) := by decide +kernel
theorem dX9_inLowestTerms_14 : decode cX9_inLowestTerms 14 = .ok (.iload_n 3, 1) := by decide +kernel
theorem dX9_inLowestTerms_15 : decode cX9_inLowestTerms 15 = .ok (.irem, 1) := by decide +kernel
theorem dX9_inLowestTerms_16 : decode cX9_inLowestTerms 16 = .ok (.ifCond .ne 17, 3) := by decide +kernel
theorem dX9_inLowestTerms_19 : decode cX9_inLowestTerms 19 = .ok (.iload_n 2, 1) := by decide +kernel
theorem dX9_inLowestTerms_20 : decode cX9_inLowestTerms 20 = .ok (.ifCond .ne 9, 3) := by decide +kernel
theorem dX9_inLowestTerms_23 : decode cX9_inLowestTerms 23 = .ok (.iload_n 0, 1) := by decide +kernel
theorem dX9_inLowestTerms_24 : decode cX9_inLowestTerms 24 = .ok (.iload_n 3, 1) := by decide +kernel
theorem dX9_inLowestTerms_25 : decode cX9_inLowestTerms 25 = .ok (.idiv, 1) := by decide +kernel
theorem dX9_inLowestTerms_26 : decode cX9_inLowestTerms 26 = .ok (.goto 6, 3) := by decide +kernel
theorem dX9_inLowestTerms_29 : decode cX9_inLowestTerms 29 = .ok (.iload_n 1, 1) := by decide +kernel
theorem dX9_inLowestTerms_30 : decode cX9_inLowestTerms 30 = .ok (.iload_n 3, 1) := by decide +kernel
theorem dX9_inLowestTerms_31 : decode cX9_inLowestTerms 31 = .ok (.idiv, 1) := by decide +kernel
theorem dX9_inLowestTerms_32 : decode cX9_inLowestTerms 32 = .ok (.ireturn, 1) := by decide +kernel
theorem dX9_inLowestTerms_33 : decode cX9_inLowestTerms 33 = .ok (.iinc 3 (-1), 3) := by decide +kernel
theorem dX9_inLowestTerms_36 : decode cX9_inLowestTerms 36 = .ok (.goto (-34), 3) := by decide +kernel
theorem dX9_inLowestTerms_39 : decode cX9_inLowestTerms 39 = .ok (.iload_n 2, 1) := by decide +kernel
theorem dX9_inLowestTerms_40 : decode cX9_inLowestTerms 40 = .ok (.ifCond .ne 7, 3) := by decide +kernel
theorem dX9_inLowestTerms_43 : decode cX9_inLowestTerms 43 = .ok (.iload_n 0, 1) := by decide +kernel
theorem dX9_inLowestTerms_44 : decode cX9_inLowestTerms 44 = .ok (.goto 4, 3) := by decide +kernel
theorem dX9_inLowestTerms_47 : decode cX9_inLowestTerms 47 = .ok (.iload_n 1, 1) := by decide +kernel
theorem dX9_inLowestTerms_48 : decode cX9_inLowestTerms 48 = .ok (.ireturn, 1) := by decide +kernel
theorem dX9_sheetOf_0 : decode cX9_sheetOf 0 = .ok (.iload_n 1, 1) := by decide +kernel
theorem dX9_sheetOf_1 : decode cX9_sheetOf 1 = .ok (.ifCond .lt 21, 3) := by decide +kernel
theorem dX9_sheetOf_4 : decode cX9_sheetOf 4 = .ok (.iload_n 1, 1) := by decide +kernel
theorem dX9_sheetOf_5 : decode cX9_sheetOf 5 = .ok (.aload_n 0, 1) := by decide +kernel
theorem dX9_sheetOf_6 : decode cX9_sheetOf 6 = .ok (.getfield 32, 3) := by decide +kernel
theorem dX9_sheetOf_9 : decode cX9_sheetOf 9 = .ok (.arraylength, 1) := by decide +kernel
theorem dX9_sheetOf_10 : decode cX9_sheetOf 10 = .ok (.if_icmp .ge 12, 3) := by decide +kernel
theorem dX9_sheetOf_13 : decode cX9_sheetOf 13 = .ok (.aload_n 0, 1) := by decide +kernel
theorem dX9_sheetOf_14 : decode cX9_sheetOf 14 = .ok (.getfield 32, 3) := by decide +kernel
theorem dX9_sheetOf_17 : decode cX9_sheetOf 17 = .ok (.iload_n 1, 1) := by decide +kernel
theorem dX9_sheetOf_18 : decode cX9_sheetOf 18 = .ok (.aaload, 1) := by decide +kernel
theorem dX9_sheetOf_19 : decode cX9_sheetOf 19 = .ok (.goto 4, 3) := by decide +kernel
theorem dX9_sheetOf_22 : decode cX9_sheetOf 22 = .ok (.aconst_null, 1) := by decide +kernel
theorem dX9_sheetOf_23 : decode cX9_sheetOf 23 = .ok (.areturn, 1) := by decide +kernel
theorem dX9_thinkAfresh_0 : decode cX9_thinkAfresh 0 = .ok (.aload_n 0, 1) := by decide +kernel
theorem dX9_thinkAfresh_1 : decode cX9_thinkAfresh 1 = .ok (.getfield 26, 3) := by decide +kernel
theorem dX9_thinkAfresh_4 : decode cX9_thinkAfresh 4 = .ok (.aload_n 0, 1) := by decide +kernel
theorem dX9_thinkAfresh_5 : decode cX9_thinkAfresh 5 = .ok (.getfield 12, 3) := by decide +kernel
theorem dX9_thinkAfresh_8 : decode cX9_thinkAfresh 8 = .ok (.getfield 55, 3) := by decide +kernel
theorem dX9_thinkAfresh_11 : decode cX9_thinkAfresh 11 = .ok (.invokevirtual 316, 3) := by decide +kernel
theorem dX9_thinkAfresh_14 : decode cX9_thinkAfresh 14 = .ok (.return_, 1) := by decide +kernel
theorem dX9_firstUnlike_0 : decode cX9_firstUnlike 0 = .ok (.iconst 0, 1) := by decide +kernel
theorem dX9_firstUnlike_1 : decode cX9_firstUnlike 1 = .ok (.istore_n 2, 1) := by decide +kernel
theorem dX9_firstUnlike_2 : decode cX9_firstUnlike 2 = .ok (.iload_n 2, 1) := by decide +kernel
theorem dX9_firstUnlike_3 : decode cX9_firstUnlike 3 = .ok (.aload_n 1, 1) := by decide +kernel
theorem dX9_firstUnlike_4 : decode cX9_firstUnlike 4 = .ok (.getfield 164, 3) := by decide +kernel
theorem dX9_firstUnlike_7 : decode cX9_firstUnlike 7 = .ok (.if_icmp .ge 27, 3) := by decide +kernel
theorem dX9_firstUnlike_10 : decode cX9_firstUnlike 10 = .ok (.aload_n 0, 1) := by decide +kernel
theorem dX9_firstUnlike_11 : decode cX9_firstUnlike 11 = .ok (.getfield 26, 3) := by decide +kernel
theorem dX9_firstUnlike_14 : decode cX9_firstUnlike 14 = .ok (.iconst 1, 1) := by decide +kernel
theorem dX9_firstUnlike_15 : decode cX9_firstUnlike 15 = .ok (.invokevirtual 199, 3) := by decide +kernel
theorem dX9_firstUnlike_18 : decode cX9_firstUnlike 18 = .ok (.aload_n 1, 1) := by decide +kernel
theorem dX9_firstUnlike_19 : decode cX9_firstUnlike 19 = .ok (.iload_n 2, 1) := by decide +kernel
theorem dX9_firstUnlike_20 : decode cX9_firstUnlike 20 = .ok (.invokevirtual 275, 3) := by decide +kernel
theorem dX9_firstUnlike_23 : decode cX9_firstUnlike 23 = .ok (.if_icmp .eq 5, 3) := by decide +kernel
theorem dX9_firstUnlike_26 : decode cX9_firstUnlike 26 = .ok (.iload_n 2, 1) := by decide +kernel
theorem dX9_firstUnlike_27 : decode cX9_firstUnlike 27 = .ok (.ireturn, 1) := by decide +kernel
theorem dX9_firstUnlike_28 : decode cX9_firstUnlike 28 = .ok (.iinc 2 1, 3) := by decide +kernel
theorem dX9_firstUnlike_31 : decode cX9_firstUnlike 31 = .ok (.goto (-29), 3) := by decide +kernel
theorem dX9_firstUnlike_34 : decode cX9_firstUnlike 34 = .ok (.iconst (-1), 1) := by decide +kernel
theorem dX9_firstUnlike_35 : decode cX9_firstUnlike 35 = .ok (.ireturn, 1) := by decide +kernel
theorem dX0_rowOfSeasons_0 : decode cX0_rowOfSeasons 0 = .ok (.iload_n 1, 1) := by decide +kernel
theorem dX0_rowOfSeasons_1 : decode cX0_rowOfSeasons 1 = .ok (.ifCond .ne 10, 3) := by decide +kernel
theorem dX0_rowOfSeasons_4 : decode cX0_rowOfSeasons 4 = .ok (.aload_n 0, 1) := by decide +kernel
theorem dX0_rowOfSeasons_5 : decode cX0_rowOfSeasons 5 = .ok (.getfield 9, 3) := by decide +kernel
theorem dX0_rowOfSeasons_8 : decode cX0_rowOfSeasons 8 = .ok (.goto 16, 3) := by decide +kernel
theorem dX0_rowOfSeasons_11 : decode cX0_rowOfSeasons 11 = .ok (.iload_n 1, 1) := by decide +kernel
theorem dX0_rowOfSeasons_12 : decode cX0_rowOfSeasons 12 = .ok (.iconst 1, 1) := by decide +kernel
theorem dX0_rowOfSeasons_13 : decode cX0_rowOfSeasons 13 = .ok (.if_icmp .ne 10, 3) := by decide +kernel
theorem dX0_rowOfSeasons_16 : decode cX0_rowOfSeasons 16 = .ok (.aload_n 0, 1) := by decide +kernel
theorem dX0_rowOfSeasons_17 : decode cX0_rowOfSeasons 17 = .ok (.getfield 15, 3) := by decide +kernel
theorem dX0_rowOfSeasons_20 : decode cX0_rowOfSeasons 20 = .ok (.goto 4, 3) := by decide +kernel
theorem dX0_rowOfSeasons_23 : decode cX0_rowOfSeasons 23 = .ok (.aconst_null, 1) := by decide +kernel
theorem dX0_rowOfSeasons_24 : decode cX0_rowOfSeasons 24 = .ok (.areturn, 1) := by decide +kernel
theorem dX0_heatNow_0 : decode cX0_heatNow 0 = .ok (.aload_n 0, 1) := by decide +kernel
theorem dX0_heatNow_1 : decode cX0_heatNow 1 = .ok (.getfield 9, 3) := by decide +kernel
theorem dX0_heatNow_4 : decode cX0_heatNow 4 = .ok (.aload_n 0, 1) := by decide +kernel
theorem dX0_heatNow_5 : decode cX0_heatNow 5 = .ok (.getfield 45, 3) := by decide +kernel
theorem dX0_heatNow_8 : decode cX0_heatNow 8 = .ok (.bipush 6, 2) := by decide +kernel
theorem dX0_heatNow_10 : decode cX0_heatNow 10 = .ok (.invokestatic 48, 3) := by decide +kernel
theorem dX0_heatNow_13 : decode cX0_heatNow 13 = .ok (.iaload, 1) := by decide +kernel
theorem dX0_heatNow_14 : decode cX0_heatNow 14 = .ok (.ireturn, 1) := by decide +kernel
theorem dX0_rainNow_0 : decode cX0_rainNow 0 = .ok (.aload_n 0, 1) := by decide +kernel
theorem dX0_rainNow_1 : decode cX0_rainNow 1 = .ok (.getfield 15, 3) := by decide +kernel
theorem dX0_rainNow_4 : decode cX0_rainNow 4 = .ok (.aload_n 0, 1) := by decide +kernel
theorem dX0_rainNow_5 : decode cX0_rainNow 5 = .ok (.getfield 45, 3) := by decide +kernel
theorem dX0_rainNow_8 : decode cX0_rainNow 8 = .ok (.bipush 6, 2) := by decide +kernel
theorem dX0_rainNow_10 : decode cX0_rainNow 10 = .ok (.invokestatic 48, 3) := by decide +kernel
theorem dX0_rainNow_13 : decode cX0_rainNow 13 = .ok (.iaload, 1) := by decide +kernel
theorem dX0_rainNow_14 : decode cX0_rainNow 14 = .ok (.ireturn, 1) := by decide +kernel
theorem dX0_weight_0 : decode cX0_weight 0 = .ok (.bipush 40, 2) := by decide +kernel
theorem dX0_weight_2 : decode cX0_weight 2 = .ok (.aload_n 0, 1) := by decide +kernel
theorem dX0_weight_3 : decode cX0_weight 3 = .ok (.getfield 42, 3) := by decide +kernel
theorem dX0_weight_6 : decode cX0_weight 6 = .ok (.iconst 4, 1) := by decide +kernel
theorem dX0_weight_7 : decode cX0_weight 7 = .ok (.idiv, 1) := by decide +kernel
theorem dX0_weight_8 : decode cX0_weight 8 = .ok (.iadd, 1) := by decide +kernel
theorem dX0_weight_9 : decode cX0_weight 9 = .ok (.ireturn, 1) := by decide +kernel
theorem dX0_lawOf_0 : decode cX0_lawOf 0 = .ok (.iload_n 1, 1) := by decide +kernel
theorem dX0_lawOf_1 : decode cX0_lawOf 1 = .ok (.ifCond .ne 10, 3) := by decide +kernel
theorem dX0_lawOf_4 : decode cX0_lawOf 4 = .ok (.aload_n 0, 1) := by decide +kernel
theorem dX0_lawOf_5 : decode cX0_lawOf 5 = .ok (.getfield 28, 3) := by decide +kernel
theorem dX0_lawOf_8 : decode cX0_lawOf 8 = .ok (.goto 7, 3) := by decide +kernel
theorem dX0_lawOf_11 : decode cX0_lawOf 11 = .ok (.aload_n 0, 1) := by decide +kernel
theorem dX0_lawOf_12 : decode cX0_lawOf 12 = .ok (.getfield 32, 3) := by decide +kernel
theorem dX0_lawOf_15 : decode cX0_lawOf 15 = .ok (.areturn, 1) := by decide +kernel
theorem dX0_given_0 : decode cX0_given 0 = .ok (.aload_n 0, 1) := by decide +kernel
theorem dX0_given_1 : decode cX0_given 1 = .ok (.iload_n 1, 1) := by decide +kernel
theorem dX0_given_2 : decode cX0_given 2 = .ok (.invokevirtual 54, 3) := by decide +kernel
theorem dX0_given_5 : decode cX0_given 5 = .ok (.astore 5, 2) := by decide +kernel
theorem dX0_given_7 : decode cX0_given 7 = .ok (.iload_n 1, 1) := by decide +kernel
theorem dX0_given_8 : decode cX0_given 8 = .ok (.ifCond .ne 34, 3) := by decide +kernel
theorem dX0_given_11 : decode cX0_given 11 = .ok (.iconst 0, 1) := by decide +kernel
theorem dX0_given_12 : decode cX0_given 12 = .ok (.bipush 20, 2) := by decide +kernel
theorem dX0_given_14 : decode cX0_given 14 = .ok (.aload 5, 2) := by decide +kernel
theorem dX0_given_16 : decode cX0_given 16 = .ok (.getfield 58, 3) := by decide +kernel
theorem dX0_given_19 : decode cX0_given 19 = .ok (.ifCond .eq 15, 3) := by decide +kernel
theorem dX0_given_22 : decode cX0_given 22 = .ok (.aload 5, 2) := by decide +kernel
theorem dX0_given_24 : decode cX0_given 24 = .ok (.iload_n 2, 1) := by decide +kernel
theorem dX0_given_25 : decode cX0_given 25 = .ok (.iload_n 3, 1) := by decide +kernel
theorem dX0_given_26 : decode cX0_given 26 = .ok (.iload 4, 2) := by decide +kernel
theorem dX0_given_28 : decode cX0_given 28 = .ok (.invokevirtual 62, 3) := by decide +kernel
theorem dX0_given_31 : decode cX0_given 31 = .ok (.goto 4, 3) := by decide +kernel
theorem dX0_given_34 : decode cX0_given 34 = .ok (.iload_n 3, 1) := by decide +kernel
theorem dX0_given_35 : decode cX0_given 35 = .ok (.invokestatic 66, 3) := by decide +kernel
theorem dX0_given_38 : decode cX0_given 38 = .ok (.invokestatic 69, 3) := by decide +kernel
theorem dX0_given_41 : decode cX0_given 41 = .ok (.ireturn, 1) := by decide +kernel
theorem dX0_given_42 : decode cX0_given 42 = .ok (.iconst 0, 1) := by decide +kernel
theorem dX0_given_43 : decode cX0_given 43 = .ok (.bipush 9, 2) := by decide +kernel
theorem dX0_given_45 : decode cX0_given 45 = .ok (.aload 5, 2) := by decide +kernel
theorem dX0_given_47 : decode cX0_given 47 = .ok (.getfield 58, 3) := by decide +kernel
theorem dX0_given_50 : decode cX0_given 50 = .ok (.ifCond .eq 15, 3) := by decide +kernel
theorem dX0_given_53 : decode cX0_given 53 = .ok (.aload 5, 2) := by decide +kernel
theorem dX0_given_55 : decode cX0_given 55 = .ok (.iload_n 2, 1) := by decide +kernel
theorem dX0_given_56 : decode cX0_given 56 = .ok (.iload_n 3, 1) := by decide +kernel
theorem dX0_given_57 : decode cX0_given 57 = .ok (.iload 4, 2) := by decide +kernel
theorem dX0_given_59 : decode cX0_given 59 = .ok (.invokevirtual 62, 3) := by decide +kernel
theorem dX0_given_62 : decode cX0_given 62 = .ok (.goto 7, 3) := by decide +kernel
theorem dX0_given_65 : decode cX0_given 65 = .ok (.iload_n 2, 1) := by decide +kernel
theorem dX0_given_66 : decode cX0_given 66 = .ok (.bipush 10, 2) := by decide +kernel
theorem dX0_given_68 : decode cX0_given 68 = .ok (.idiv, 1) := by decide +kernel
theorem dX0_given_69 : decode cX0_given 69 = .ok (.invokestatic 66, 3) := by decide +kernel
theorem dX0_given_72 : decode cX0_given 72 = .ok (.invokestatic 69, 3) := by decide +kernel
theorem dX0_given_75 : decode cX0_given 75 = .ok (.ireturn, 1) := by decide +kernel
theorem dX0_yearning_0 : decode cX0_yearning 0 = .ok (.aload_n 0, 1) := by decide +kernel
theorem dX0_yearning_1 : decode cX0_yearning 1 = .ok (.iconst 0, 1) := by decide +kernel
theorem dX0_yearning_2 : decode cX0_yearning 2 = .ok (.aload_n 0, 1) := by decide +kernel
theorem dX0_yearning_3 : decode cX0_yearning 3 = .ok (.getfield 35, 3) := by decide +kernel
theorem dX0_yearning_6 : decode cX0_yearning 6 = .ok (.aload_n 0, 1) := by decide +kernel
theorem dX0_yearning_7 : decode cX0_yearning 7 = .ok (.invokevirtual 72, 3) := by decide +kernel
theorem dX0_yearning_10 : decode cX0_yearning 10 = .ok (.aload_n 0, 1) := by decide +kernel
theorem dX0_yearning_11 : decode cX0_yearning 11 = .ok (.getfield 39, 3) := by decide +kernel
theorem dX0_yearning_14 : decode cX0_yearning 14 = .ok (.invokevirtual 76, 3) := by decide +kernel
theorem dX0_yearning_17 : decode cX0_yearning 17 = .ok (.ireturn, 1) := by decide +kernel
theorem dX0_shifting_0 : decode cX0_shifting 0 = .ok (.aload_n 0, 1) := by decide +kernel
theorem dX0_shifting_1 : decode cX0_shifting 1 = .ok (.iconst 1, 1) := by decide +kernel
theorem dX0_shifting_2 : decode cX0_shifting 2 = .ok (.aload_n 0, 1) := by decide +kernel
theorem dX0_shifting_3 : decode cX0_shifting 3 = .ok (.getfield 35, 3) := by decide +kernel
theorem dX0_shifting_6 : decode cX0_shifting 6 = .ok (.aload_n 0, 1) := by decide +kernel
theorem dX0_shifting_7 : decode cX0_shifting 7 = .ok (.invokevirtual 72, 3) := by decide +kernel
theorem dX0_shifting_10 : decode cX0_shifting 10 = .ok (.aload_n 0, 1) := by decide +kernel
theorem dX0_shifting_11 : decode cX0_shifting 11 = .ok (.getfield 42, 3) := by decide +kernel
theorem dX0_shifting_14 : decode cX0_shifting 14 = .ok (.invokevirtual 76, 3) := by decide +kernel
theorem dX0_shifting_17 : decode cX0_shifting 17 = .ok (.ireturn, 1) := by decide +kernel
theorem dX0_pass_0 : decode cX0_pass 0 = .ok (.iconst 0, 1) := by decide +kernel
theorem dX0_pass_1 : decode cX0_pass 1 = .ok (.istore_n 2, 1) := by decide +kernel
theorem dX0_pass_2 : decode cX0_pass 2 = .ok (.iload_n 2, 1) := by decide +kernel
theorem dX0_pass_3 : decode cX0_pass 3 = .ok (.iload_n 1, 1) := by decide +kernel
theorem dX0_pass_4 : decode cX0_pass 4 = .ok (.if_icmp .ge 13, 3) := by decide +kernel
theorem dX0_pass_7 : decode cX0_pass 7 = .ok (.aload_n 0, 1) := by decide +kernel
theorem dX0_pass_8 : decode cX0_pass 8 = .ok (.invokevirtual 80, 3) := by decide +kernel
theorem dX0_pass_11 : decode cX0_pass 11 = .ok (.iinc 2 1, 3) := by decide +kernel
theorem dX0_pass_14 : decode cX0_pass 14 = .ok (.goto (-12), 3) := by decide +kernel
theorem dX0_pass_17 : decode cX0_pass 17 = .ok (.aload_n 0, 1) := by decide +kernel
theorem dX0_pass_18 : decode cX0_pass 18 = .ok (.getfield 39, 3) := by decide +kernel
theorem dX0_pass_21 : decode cX0_pass 21 = .ok (.ireturn, 1) := by decide +kernel
theorem dX0_passYear_0 : decode cX0_passYear 0 = .ok (.aload_n 0, 1) := by decide +kernel
theorem dX0_passYear_1 : decode cX0_passYear 1 = .ok (.bipush 99, 2) := by decide +kernel
theorem dX0_passYear_3 : decode cX0_passYear 3 = .ok (.aload_n 0, 1) := by decide +kernel
theorem dX0_passYear_4 : decode cX0_passYear 4 = .ok (.getfield 35, 3) := by decide +kernel
theorem dX0_passYear_7 : decode cX0_passYear 7 = .ok (.aload_n 0, 1) := by decide +kernel
theorem dX0_passYear_8 : decode cX0_passYear 8 = .ok (.invokevirtual 83, 3) := by decide +kernel
theorem dX0_passYear_11 : decode cX0_passYear 11 = .ok (.iadd, 1) := by decide +kernel
theorem dX0_passYear_12 : decode cX0_passYear 12 = .ok (.invokestatic 66, 3) := by decide +kernel
theorem dX0_passYear_15 : decode cX0_passYear 15 = .ok (.putfield 35, 3) := by decide +kernel
theorem dX0_passYear_18 : decode cX0_passYear 18 = .ok (.aload_n 0, 1) := by decide +kernel
theorem dX0_passYear_19 : decode cX0_passYear 19 = .ok (.invokevirtual 72, 3) := by decide +kernel
theorem dX0_passYear_22 : decode cX0_passYear 22 = .ok (.istore_n 1, 1) := by decide +kernel
theorem dX0_passYear_23 : decode cX0_passYear 23 = .ok (.aload_n 0, 1) := by decide +kernel
theorem dX0_passYear_24 : decode cX0_passYear 24 = .ok (.invokevirtual 86, 3) := by decide +kernel
theorem dX0_passYear_27 : decode cX0_passYear 27 = .ok (.istore_n 2, 1) := by decide +kernel
theorem dX0_passYear_28 : decode cX0_passYear 28 = .ok (.iconst 0, 1) := by decide +kernel
theorem dX0_passYear_29 : decode cX0_passYear 29 = .ok (.istore_n 3, 1) := by decide +kernel
theorem dX0_passYear_30 : decode cX0_passYear 30 = .ok (.iload_n 3, 1) := by decide +kernel
theorem dX0_passYear_31 : decode cX0_passYear 31 = .ok (.aload_n 0, 1) := by decide +kernel
theorem dX0_passYear_32 : decode cX0_passYear 32 = .ok (.getfield 21, 3) := by decide +kernel
theorem dX0_passYear_35 : decode cX0_passYear 35 = .ok (.getfield 89, 3) := by decide +kernel
theorem dX0_passYear_38 : decode cX0_passYear 38 = .ok (.if_icmp .ge 51, 3) := by decide +kernel
theorem dX0_passYear_41 : decode cX0_passYear 41 = .ok (.aload_n 0, 1) := by decide +kernel
theorem dX0_passYear_42 : decode cX0_passYear 42 = .ok (.getfield 21, 3) := by decide +kernel
theorem dX0_passYear_45 : decode cX0_passYear 45 = .ok (.iload_n 3, 1) := by decide +kernel
theorem dX0_passYear_46 : decode cX0_passYear 46 = .ok (.aload_n 0, 1) := by decide +kernel
theorem dX0_passYear_47 : decode cX0_passYear 47 = .ok (.getfield 45, 3) := by decide +kernel
theorem dX0_passYear_50 : decode cX0_passYear 50 = .ok (.iload_n 2, 1) := by decide +kernel
theorem dX0_passYear_51 : decode cX0_passYear 51 = .ok (.invokevirtual 92, 3) := by decide +kernel
theorem dX0_passYear_54 : decode cX0_passYear 54 = .ok (.ifCond .eq 29, 3) := by decide +kernel
theorem dX0_passYear_57 : decode cX0_passYear 57 = .ok (.aload_n 0, 1) := by decide +kernel
theorem dX0_passYear_58 : decode cX0_passYear 58 = .ok (.iconst 0, 1) := by decide +kernel
theorem dX0_passYear_59 : decode cX0_passYear 59 = .ok (.aload_n 0, 1) := by decide +kernel
theorem dX0_passYear_60 : decode cX0_passYear 60 = .ok (.getfield 35, 3) := by decide +kernel
theorem dX0_passYear_63 : decode cX0_passYear 63 = .ok (.aload_n 0, 1) := by decide +kernel
theorem dX0_passYear_64 : decode cX0_passYear 64 = .ok (.getfield 21, 3) := by decide +kernel
theorem dX0_passYear_67 : decode cX0_passYear 67 = .ok (.iload_n 3, 1) := by decide +kernel
theorem dX0_passYear_68 : decode cX0_passYear 68 = .ok (.aload_n 0, 1) := by decide +kernel
theorem dX0_passYear_69 : decode cX0_passYear 69 = .ok (.getfield 35, 3) := by decide +kernel
theorem dX0_passYear_72 : decode cX0_passYear 72 = .ok (.iload_n 1, 1) := by decide +kernel
theorem dX0_passYear_73 : decode cX0_passYear 73 = .ok (.invokevirtual 96, 3) := by decide +kernel
theorem dX0_passYear_76 : decode cX0_passYear 76 = .ok (.isub, 1) := by decide +kernel
theorem dX0_passYear_77 : decode cX0_passYear 77 = .ok (.invokestatic 69, 3) := by decide +kernel
theorem dX0_passYear_80 : decode cX0_passYear 80 = .ok (.putfield 35, 3) := by decide +kernel
theorem dX0_passYear_83 : decode cX0_passYear 83 = .ok (.iinc 3 1, 3) := by decide +kernel
theorem dX0_passYear_86 : decode cX0_passYear 86 = .ok (.goto (-56), 3) := by decide +kernel
theorem dX0_passYear_89 : decode cX0_passYear 89 = .ok (.aload_n 0, 1) := by decide +kernel
theorem dX0_passYear_90 : decode cX0_passYear 90 = .ok (.bipush 99, 2) := by decide +kernel
theorem dX0_passYear_92 : decode cX0_passYear 92 = .ok (.aload_n 0, 1) := by decide +kernel
theorem dX0_passYear_93 : decode cX0_passYear 93 = .ok (.getfield 39, 3) := by decide +kernel
theorem dX0_passYear_96 : decode cX0_passYear 96 = .ok (.aload_n 0, 1) := by decide +kernel
theorem dX0_passYear_97 : decode cX0_passYear 97 = .ok (.invokevirtual 99, 3) := by decide +kernel
theorem dX0_passYear_100 : decode cX0_passYear 100 = .ok (.iadd, 1) := by decide +kernel
theorem dX0_passYear_101 : decode cX0_passYear 101 = .ok (.invokestatic 66, 3) := by decide +kernel
theorem dX0_passYear_104 : decode cX0_passYear 104 = .ok (.putfield 39, 3) := by decide +kernel
theorem dX0_passYear_107 : decode cX0_passYear 107 = .ok (.aload_n 0, 1) := by decide +kernel
theorem dX0_passYear_108 : decode cX0_passYear 108 = .ok (.bipush 99, 2) := by decide +kernel
theorem dX0_passYear_110 : decode cX0_passYear 110 = .ok (.iconst 0, 1) := by decide +kernel
theorem dX0_passYear_111 : decode cX0_passYear 111 = .ok (.aload_n 0, 1) := by decide +kernel
theorem dX0_passYear_112 : decode cX0_passYear 112 = .ok (.getfield 42, 3) := by decide +kernel
theorem dX0_passYear_115 : decode cX0_passYear 115 = .ok (.iload_n 1, 1) := by decide +kernel
theorem dX0_passYear_116 : decode cX0_passYear 116 = .ok (.isub, 1) := by decide +kernel
theorem dX0_passYear_117 : decode cX0_passYear 117 = .ok (.invokestatic 69, 3) := by decide +kernel
theorem dX0_passYear_120 : decode cX0_passYear 120 = .ok (.iload_n 2, 1) := by decide +kernel
theorem dX0_passYear_121 : decode cX0_passYear 121 = .ok (.iadd, 1) := by decide +kernel
theorem dX0_passYear_122 : decode cX0_passYear 122 = .ok (.invokestatic 66, 3) := by decide +kernel
theorem dX0_passYear_125 : decode cX0_passYear 125 = .ok (.putfield 42, 3) := by decide +kernel
theorem dX0_passYear_128 : decode cX0_passYear 128 = .ok (.aload_n 0, 1) := by decide +kernel
theorem dX0_passYear_129 : decode cX0_passYear 129 = .ok (.dup, 1) := by decide +kernel
theorem dX0_passYear_130 : decode cX0_passYear 130 = .ok (.getfield 45, 3) := by decide +kernel
theorem dX0_passYear_133 : decode cX0_passYear 133 = .ok (.iconst 1, 1) := by decide +kernel
theorem dX0_passYear_134 : decode cX0_passYear 134 = .ok (.iadd, 1) := by decide +kernel
theorem dX0_passYear_135 : decode cX0_passYear 135 = .ok (.putfield 45, 3) := by decide +kernel
theorem dX0_passYear_138 : decode cX0_passYear 138 = .ok (.return_, 1) := by decide +kernel
theorem dX0_copyFrom_0 : decode cX0_copyFrom 0 = .ok (.aload_n 1, 1) := by decide +kernel
theorem dX0_copyFrom_1 : decode cX0_copyFrom 1 = .ok (.getfield 9, 3) := by decide +kernel
theorem dX0_copyFrom_4 : decode cX0_copyFrom 4 = .ok (.iconst 0, 1) := by decide +kernel
theorem dX0_copyFrom_5 : decode cX0_copyFrom 5 = .ok (.aload_n 0, 1) := by decide +kernel
theorem dX0_copyFrom_6 : decode cX0_copyFrom 6 = .ok (.getfield 9, 3) := by decide +kernel
theorem dX0_copyFrom_9 : decode cX0_copyFrom 9 = .ok (.iconst 0, 1) := by decide +kernel
theorem dX0_copyFrom_10 : decode cX0_copyFrom 10 = .ok (.bipush 6, 2) := by decide +kernel
theorem dX0_copyFrom_12 : decode cX0_copyFrom 12 = .ok (.invokestatic 102, 3) := by decide +kernel
theorem dX0_copyFrom_15 : decode cX0_copyFrom 15 = .ok (.aload_n 1, 1) := by decide +kernel
theorem dX0_copyFrom_16 : decode cX0_copyFrom 16 = .ok (.getfield 15, 3) := by decide +kernel
theorem dX0_copyFrom_19 : decode cX0_copyFrom 19 = .ok (.iconst 0, 1) := by decide +kernel
theorem dX0_copyFrom_20 : decode cX0_copyFrom 20 = .ok (.aload_n 0, 1) := by decide +kernel
theorem dX0_copyFrom_21 : decode cX0_copyFrom 21 = .ok (.getfield 15, 3) := by decide +kernel
theorem dX0_copyFrom_24 : decode cX0_copyFrom 24 = .ok (.iconst 0, 1) := by decide +kernel
theorem dX0_copyFrom_25 : decode cX0_copyFrom 25 = .ok (.bipush 6, 2) := by decide +kernel
theorem dX0_copyFrom_27 : decode cX0_copyFrom 27 = .ok (.invokestatic 102, 3) := by decide +kernel
theorem dX0_copyFrom_30 : decode cX0_copyFrom 30 = .ok (.aload_n 0, 1) := by decide +kernel
theorem dX0_copyFrom_31 : decode cX0_copyFrom 31 = .ok (.getfield 21, 3) := by decide +kernel
theorem dX0_copyFrom_34 : decode cX0_copyFrom 34 = .ok (.aload_n 1, 1) := by decide +kernel
theorem dX0_copyFrom_35 : decode cX0_copyFrom 35 = .ok (.getfield 21, 3) := by decide +kernel
theorem dX0_copyFrom_38 : decode cX0_copyFrom 38 = .ok (.invokevirtual 108, 3) := by decide +kernel
theorem dX0_copyFrom_41 : decode cX0_copyFrom 41 = .ok (.aload_n 0, 1) := by decide +kernel
theorem dX0_copyFrom_42 : decode cX0_copyFrom 42 = .ok (.getfield 28, 3) := by decide +kernel
theorem dX0_copyFrom_45 : decode cX0_copyFrom 45 = .ok (.aload_n 1, 1) := by decide +kernel
theorem dX0_copyFrom_46 : decode cX0_copyFrom 46 = .ok (.getfield 28, 3) := by decide +kernel
theorem dX0_copyFrom_49 : decode cX0_copyFrom 49 = .ok (.invokevirtual 112, 3) := by decide +kernel
theorem dX0_copyFrom_52 : decode cX0_copyFrom 52 = .ok (.aload_n 0, 1) := by decide +kernel
theorem dX0_copyFrom_53 : decode cX0_copyFrom 53 = .ok (.getfield 32, 3) := by decide +kernel
theorem dX0_copyFrom_56 : decode cX0_copyFrom 56 = .ok (.aload_n 1, 1) := by decide +kernel
theorem dX0_copyFrom_57 : decode cX0_copyFrom 57 = .ok (.getfield 32, 3) := by decide +kernel
theorem dX0_copyFrom_60 : decode cX0_copyFrom 60 = .ok (.invokevirtual 112, 3) := by decide +kernel
theorem dX0_copyFrom_63 : decode cX0_copyFrom 63 = .ok (.aload_n 0, 1) := by decide +kernel
theorem dX0_copyFrom_64 : decode cX0_copyFrom 64 = .ok (.aload_n 1, 1) := by decide +kernel
theorem dX0_copyFrom_65 : decode cX0_copyFrom 65 = .ok (.getfield 35, 3) := by decide +kernel
theorem dX0_copyFrom_68 : decode cX0_copyFrom 68 = .ok (.putfield 35, 3) := by decide +kernel
theorem dX0_copyFrom_71 : decode cX0_copyFrom 71 = .ok (.aload_n 0, 1) := by decide +kernel
theorem dX0_copyFrom_72 : decode cX0_copyFrom 72 = .ok (.aload_n 1, 1) := by decide +kernel
theorem dX0_copyFrom_73 : decode cX0_copyFrom 73 = .ok (.getfield 39, 3) := by decide +kernel
theorem dX0_copyFrom_76 : decode cX0_copyFrom 76 = .ok (.putfield 39, 3) := by decide +kernel
theorem dX0_copyFrom_79 : decode cX0_copyFrom 79 = .ok (.aload_n 0, 1) := by decide +kernel
theorem dX0_copyFrom_80 : decode cX0_copyFrom 80 = .ok (.aload_n 1, 1) := by decide +kernel
theorem dX0_copyFrom_81 : decode cX0_copyFrom 81 = .ok (.getfield 42, 3) := by decide +kernel
theorem dX0_copyFrom_84 : decode cX0_copyFrom 84 = .ok (.putfield 42, 3) := by decide +kernel
theorem dX0_copyFrom_87 : decode cX0_copyFrom 87 = .ok (.aload_n 0, 1) := by decide +kernel
theorem dX0_copyFrom_88 : decode cX0_copyFrom 88 = .ok (.aload_n 1, 1) := by decide +kernel
theorem dX0_copyFrom_89 : decode cX0_copyFrom 89 = .ok (.getfield 45, 3) := by decide +kernel
theorem dX0_copyFrom_92 : decode cX0_copyFrom 92 = .ok (.putfield 45, 3) := by decide +kernel
theorem dX0_copyFrom_95 : decode cX0_copyFrom 95 = .ok (.return_, 1) := by decide +kernel
theorem dX1_rowOfSteps_0 : decode cX1_rowOfSteps 0 = .ok (.iload_n 1, 1) := by decide +kernel
theorem dX1_rowOfSteps_1 : decode cX1_rowOfSteps 1 = .ok (.ifCond .ne 10, 3) := by decide +kernel
theorem dX1_rowOfSteps_4 : decode cX1_rowOfSteps 4 = .ok (.aload_n 0, 1) := by decide +kernel
theorem dX1_rowOfSteps_5 : decode cX1_rowOfSteps 5 = .ok (.getfield 7, 3) := by decide +kernel
theorem dX1_rowOfSteps_8 : decode cX1_rowOfSteps 8 = .ok (.goto 16, 3) := by decide +kernel
theorem dX1_rowOfSteps_11 : decode cX1_rowOfSteps 11 = .ok (.iload_n 1, 1) := by decide +kernel
theorem dX1_rowOfSteps_12 : decode cX1_rowOfSteps 12 = .ok (.iconst 1, 1) := by decide +kernel
theorem dX1_rowOfSteps_13 : decode cX1_rowOfSteps 13 = .ok (.if_icmp .ne 10, 3) := by decide +kernel
theorem dX1_rowOfSteps_16 : decode cX1_rowOfSteps 16 = .ok (.aload_n 0, 1) := by decide +kernel
theorem dX1_rowOfSteps_17 : decode cX1_rowOfSteps 17 = .ok (.getfield 13, 3) := by decide +kernel
theorem dX1_rowOfSteps_20 : decode cX1_rowOfSteps 20 = .ok (.goto 4, 3) := by decide +kernel
theorem dX1_rowOfSteps_23 : decode cX1_rowOfSteps 23 = .ok (.aconst_null, 1) := by decide +kernel
theorem dX1_rowOfSteps_24 : decode cX1_rowOfSteps 24 = .ok (.areturn, 1) := by decide +kernel
theorem dX1_isGood_0 : decode cX1_isGood 0 = .ok (.iload_n 1, 1) := by decide +kernel
theorem dX1_isGood_1 : decode cX1_isGood 1 = .ok (.aload_n 0, 1) := by decide +kernel
theorem dX1_isGood_2 : decode cX1_isGood 2 = .ok (.getfield 13, 3) := by decide +kernel
theorem dX1_isGood_5 : decode cX1_isGood 5 = .ok (.invokestatic 32, 3) := by decide +kernel
theorem dX1_isGood_8 : decode cX1_isGood 8 = .ok (.ifCond .eq 17, 3) := by decide +kernel
theorem dX1_isGood_11 : decode cX1_isGood 11 = .ok (.aload_n 0, 1) := by decide +kernel
theorem dX1_isGood_12 : decode cX1_isGood 12 = .ok (.getfield 13, 3) := by decide +kernel
theorem dX1_isGood_15 : decode cX1_isGood 15 = .ok (.iload_n 1, 1) := by decide +kernel
theorem dX1_isGood_16 : decode cX1_isGood 16 = .ok (.iaload, 1) := by decide +kernel
theorem dX1_isGood_17 : decode cX1_isGood 17 = .ok (.iload_n 2, 1) := by decide +kernel
theorem dX1_isGood_18 : decode cX1_isGood 18 = .ok (.if_icmp .lt 7, 3) := by decide +kernel
theorem dX1_isGood_21 : decode cX1_isGood 21 = .ok (.iconst 1, 1) := by decide +kernel
theorem dX1_isGood_22 : decode cX1_isGood 22 = .ok (.goto 4, 3) := by decide +kernel
theorem dX1_isGood_25 : decode cX1_isGood 25 = .ok (.iconst 0, 1) := by decide +kernel
theorem dX1_isGood_26 : decode cX1_isGood 26 = .ok (.ireturn, 1) := by decide +kernel
theorem dX1_goodSteps_0 : decode cX1_goodSteps 0 = .ok (.iconst 0, 1) := by decide +kernel
theorem dX1_goodSteps_1 : decode cX1_goodSteps 1 = .ok (.istore_n 2, 1) := by decide +kernel
theorem dX1_goodSteps_2 : decode cX1_goodSteps 2 = .ok (.iconst 0, 1) := by decide +kernel
theorem dX1_goodSteps_3 : decode cX1_goodSteps 3 = .ok (.istore_n 3, 1) := by decide +kernel
theorem dX1_goodSteps_4 : decode cX1_goodSteps 4 = .ok (.iload_n 3, 1) := by decide +kernel
theorem dX1_goodSteps_5 : decode cX1_goodSteps 5 = .ok (.bipush 10, 2) := by decide +kernel
theorem dX1_goodSteps_7 : decode cX1_goodSteps 7 = .ok (.if_icmp .ge 24, 3) := by decide +kernel
theorem dX1_goodSteps_10 : decode cX1_goodSteps 10 = .ok (.aload_n 0, 1) := by decide +kernel
theorem dX1_goodSteps_11 : decode cX1_goodSteps 11 = .ok (.iload_n 3, 1) := by decide +kernel
theorem dX1_goodSteps_12 : decode cX1_goodSteps 12 = .ok (.iload_n 1, 1) := by decide +kernel
theorem dX1_goodSteps_13 : decode cX1_goodSteps 13 = .ok (.invokevirtual 38, 3) := by decide +kernel
theorem dX1_goodSteps_16 : decode cX1_goodSteps 16 = .ok (.ifCond .eq 9, 3) := by decide +kernel
theorem dX1_goodSteps_19 : decode cX1_goodSteps 19 = .ok (.iload_n 2, 1) := by decide +kernel
theorem dX1_goodSteps_20 : decode cX1_goodSteps 20 = .ok (.iconst 1, 1) := by decide +kernel
theorem dX1_goodSteps_21 : decode cX1_goodSteps 21 = .ok (.iload_n 3, 1) := by decide +kernel
theorem dX1_goodSteps_22 : decode cX1_goodSteps 22 = .ok (.ishl, 1) := by decide +kernel
theorem dX1_goodSteps_23 : decode cX1_goodSteps 23 = .ok (.ior, 1) := by decide +kernel
theorem dX1_goodSteps_24 : decode cX1_goodSteps 24 = .ok (.istore_n 2, 1) := by decide +kernel
theorem dX1_goodSteps_25 : decode cX1_goodSteps 25 = .ok (.iinc 3 1, 3) := by decide +kernel
theorem dX1_goodSteps_28 : decode cX1_goodSteps 28 = .ok (.goto (-24), 3) := by decide +kernel
theorem dX1_goodSteps_31 : decode cX1_goodSteps 31 = .ok (.iload_n 2, 1) := by decide +kernel
theorem dX1_goodSteps_32 : decode cX1_goodSteps 32 = .ok (.ireturn, 1) := by decide +kernel
theorem dX1_tallOf_0 : decode cX1_tallOf 0 = .ok (.iconst 0, 1) := by decide +kernel
theorem dX1_tallOf_1 : decode cX1_tallOf 1 = .ok (.istore_n 2, 1) := by decide +kernel
theorem dX1_tallOf_2 : decode cX1_tallOf 2 = .ok (.iconst 0, 1) := by decide +kernel
theorem dX1_tallOf_3 : decode cX1_tallOf 3 = .ok (.istore_n 3, 1) := by decide +kernel
theorem dX1_tallOf_4 : decode cX1_tallOf 4 = .ok (.iload_n 3, 1) := by decide +kernel
theorem dX1_tallOf_5 : decode cX1_tallOf 5 = .ok (.bipush 10, 2) := by decide +kernel
theorem dX1_tallOf_7 : decode cX1_tallOf 7 = .ok (.if_icmp .ge 24, 3) := by decide +kernel
theorem dX1_tallOf_10 : decode cX1_tallOf 10 = .ok (.iload_n 2, 1) := by decide +kernel
theorem dX1_tallOf_11 : decode cX1_tallOf 11 = .ok (.iload_n 1, 1) := by decide +kernel
theorem dX1_tallOf_12 : decode cX1_tallOf 12 = .ok (.iload_n 3, 1) := by decide +kernel
theorem dX1_tallOf_13 : decode cX1_tallOf 13 = .ok (.ishr, 1) := by decide +kernel
theorem dX1_tallOf_14 : decode cX1_tallOf 14 = .ok (.iconst 1, 1) := by decide +kernel
theorem dX1_tallOf_15 : decode cX1_tallOf 15 = .ok (.iand, 1) := by decide +kernel
theorem dX1_tallOf_16 : decode cX1_tallOf 16 = .ok (.aload_n 0, 1) := by decide +kernel
theorem dX1_tallOf_17 : decode cX1_tallOf 17 = .ok (.getfield 7, 3) := by decide +kernel
theorem dX1_tallOf_20 : decode cX1_tallOf 20 = .ok (.iload_n 3, 1) := by decide +kernel
theorem dX1_tallOf_21 : decode cX1_tallOf 21 = .ok (.iaload, 1) := by decide +kernel
theorem dX1_tallOf_22 : decode cX1_tallOf 22 = .ok (.imul, 1) := by decide +kernel
theorem dX1_tallOf_23 : decode cX1_tallOf 23 = .ok (.iadd, 1) := by decide +kernel
theorem dX1_tallOf_24 : decode cX1_tallOf 24 = .ok (.istore_n 2, 1) := by decide +kernel
theorem dX1_tallOf_25 : decode cX1_tallOf 25 = .ok (.iinc 3 1, 3) := by decide +kernel
theorem dX1_tallOf_28 : decode cX1_tallOf 28 = .ok (.goto (-24), 3) := by decide +kernel
theorem dX1_tallOf_31 : decode cX1_tallOf 31 = .ok (.iload_n 2, 1) := by decide +kernel
theorem dX1_tallOf_32 : decode cX1_tallOf 32 = .ok (.ireturn, 1) := by decide +kernel
theorem dX1_leastStair_0 : decode cX1_leastStair 0 = .ok (.aload_n 0, 1) := by decide +kernel
theorem dX1_leastStair_1 : decode cX1_leastStair 1 = .ok (.iload_n 1, 1) := by decide +kernel
theorem dX1_leastStair_2 : decode cX1_leastStair 2 = .ok (.invokevirtual 42, 3) := by decide +kernel
theorem dX1_leastStair_5 : decode cX1_leastStair 5 = .ok (.istore_n 2, 1) := by decide +kernel
theorem dX1_leastStair_6 : decode cX1_leastStair 6 = .ok (.iconst (-1), 1) := by decide +kernel
theorem dX1_leastStair_7 : decode cX1_leastStair 7 = .ok (.istore_n 3, 1) := by decide +kernel
theorem dX1_leastStair_8 : decode cX1_leastStair 8 = .ok (.bipush 11, 2) := by decide +kernel
theorem dX1_leastStair_10 : decode cX1_leastStair 10 = .ok (.istore 4, 2) := by decide +kernel
theorem dX1_leastStair_12 : decode cX1_leastStair 12 = .ok (.iconst 0, 1) := by decide +kernel
theorem dX1_leastStair_13 : decode cX1_leastStair 13 = .ok (.istore 5, 2) := by decide +kernel
theorem dX1_leastStair_15 : decode cX1_leastStair 15 = .ok (.iload 5, 2) := by decide +kernel
theorem dX1_leastStair_17 : decode cX1_leastStair 17 = .ok (.sipush 1024, 3) := by decide +kernel
theorem dX1_leastStair_20 : decode cX1_leastStair 20 = .ok (.if_icmp .ge 63, 3) := by decide +kernel
theorem dX1_leastStair_23 : decode cX1_leastStair 23 = .ok (.iload 5, 2) := by decide +kernel
theorem dX1_leastStair_25 : decode cX1_leastStair 25 = .ok (.iload_n 2, 1) := by decide +kernel
theorem dX1_leastStair_26 : decode cX1_leastStair 26 = .ok (.iconst (-1), 1) := by decide +kernel
theorem dX1_leastStair_27 : decode cX1_leastStair 27 = .ok (.ixor, 1) := by decide +kernel
theorem dX1_leastStair_28 : decode cX1_leastStair 28 = .ok (.iand, 1) := by decide +kernel
theorem dX1_leastStair_29 : decode cX1_leastStair 29 = .ok (.ifCond .ne 17, 3) := by decide +kernel
theorem dX1_leastStair_32 : decode cX1_leastStair 32 = .ok (.iload 5, 2) := by decide +kernel
theorem dX1_leastStair_34 : decode cX1_leastStair 34 = .ok (.invokestatic 46, 3) := by decide +kernel
theorem dX1_leastStair_37 : decode cX1_leastStair 37 = .ok (.iload 4, 2) := by decide +kernel
theorem dX1_leastStair_39 : decode cX1_leastStair 39 = .ok (.if_icmp .ge 7, 3) := by decide +kernel
theorem dX1_leastStair_42 : decode cX1_leastStair 42 = .ok (.iconst 1, 1) := by decide +kernel
theorem dX1_leastStair_43 : decode cX1_leastStair 43 = .ok (.goto 4, 3) := by decide +kernel
theorem dX1_leastStair_46 : decode cX1_leastStair 46 = .ok (.iconst 0, 1) := by decide +kernel
theorem dX1_leastStair_47 : decode cX1_leastStair 47 = .ok (.istore 6, 2) := by decide +kernel
theorem dX1_leastStair_49 : decode cX1_leastStair 49 = .ok (.iload 6, 2) := by decide +kernel
theorem dX1_leastStair_51 : decode cX1_leastStair 51 = .ok (.ifCond .eq 26, 3) := by decide +kernel
theorem dX1_leastStair_54 : decode cX1_leastStair 54 = .ok (.aload_n 0, 1) := by decide +kernel
theorem dX1_leastStair_55 : decode cX1_leastStair 55 = .ok (.iload 5, 2) := by decide +kernel
theorem dX1_leastStair_57 : decode cX1_leastStair 57 = .ok (.invokevirtual 51, 3) := by decide +kernel
theorem dX1_leastStair_60 : decode cX1_leastStair 60 = .ok (.aload_n 0, 1) := by decide +kernel
theorem dX1_leastStair_61 : decode cX1_leastStair 61 = .ok (.getfield 25, 3) := by decide +kernel
theorem dX1_leastStair_64 : decode cX1_leastStair 64 = .ok (.if_icmp .lt 13, 3) := by decide +kernel
theorem dX1_leastStair_67 : decode cX1_leastStair 67 = .ok (.iload 5, 2) := by decide +kernel
theorem dX1_leastStair_69 : decode cX1_leastStair 69 = .ok (.istore_n 3, 1) := by decide +kernel
theorem dX1_leastStair_70 : decode cX1_leastStair 70 = .ok (.iload 5, 2) := by decide +kernel
theorem dX1_leastStair_72 : decode cX1_leastStair 72 = .ok (.invokestatic 46, 3) := by decide +kernel
theorem dX1_leastStair_75 : decode cX1_leastStair 75 = .ok (.istore 4, 2) := by decide +kernel
theorem dX1_leastStair_77 : decode cX1_leastStair 77 = .ok (.iinc 5 1, 3) := by decide +kernel
theorem dX1_leastStair_80 : decode cX1_leastStair 80 = .ok (.goto (-65), 3) := by decide +kernel
theorem dX1_leastStair_83 : decode cX1_leastStair 83 = .ok (.iload_n 3, 1) := by decide +kernel
theorem dX1_leastStair_84 : decode cX1_leastStair 84 = .ok (.ireturn, 1) := by decide +kernel
theorem dX1_exactStairs_0 : decode cX1_exactStairs 0 = .ok (.aload_n 0, 1) := by decide +kernel
theorem dX1_exactStairs_1 : decode cX1_exactStairs 1 = .ok (.iload_n 1, 1) := by decide +kernel
theorem dX1_exactStairs_2 : decode cX1_exactStairs 2 = .ok (.invokevirtual 42, 3) := by decide +kernel
theorem dX1_exactStairs_5 : decode cX1_exactStairs 5 = .ok (.istore_n 2, 1) := by decide +kernel
theorem dX1_exactStairs_6 : decode cX1_exactStairs 6 = .ok (.iconst 0, 1) := by decide +kernel
theorem dX1_exactStairs_7 : decode cX1_exactStairs 7 = .ok (.istore_n 3, 1) := by decide +kernel
theorem dX1_exactStairs_8 : decode cX1_exactStairs 8 = .ok (.iconst 0, 1) := by decide +kernel
theorem dX1_exactStairs_9 : decode cX1_exactStairs 9 = .ok (.istore 4, 2) := by decide +kernel
theorem dX1_exactStairs_11 : decode cX1_exactStairs 11 = .ok (.iload 4, 2) := by decide +kernel
theorem dX1_exactStairs_13 : decode cX1_exactStairs 13 = .ok (.sipush 1024, 3) := by decide +kernel
theorem dX1_exactStairs_16 : decode cX1_exactStairs 16 = .ok (.if_icmp .ge 34, 3) := by decide +kernel
theorem dX1_exactStairs_19 : decode cX1_exactStairs 19 = .ok (.iload 4, 2) := by decide +kernel
theorem dX1_exactStairs_21 : decode cX1_exactStairs 21 = .ok (.iload_n 2, 1) := by decide +kernel
theorem dX1_exactStairs_22 : decode cX1_exactStairs 22 = .ok (.iconst (-1), 1) := by decide +kernel
theorem dX1_exactStairs_23 : decode cX1_exactStairs 23 = .ok (.ixor, 1) := by decide +kernel
theorem dX1_exactStairs_24 : decode cX1_exactStairs 24 = .ok (.iand, 1) := by decide +kernel
theorem dX1_exactStairs_25 : decode cX1_exactStairs 25 = .ok (.ifCond .ne 19, 3) := by decide +kernel
theorem dX1_exactStairs_28 : decode cX1_exactStairs 28 = .ok (.aload_n 0, 1) := by decide +kernel
theorem dX1_exactStairs_29 : decode cX1_exactStairs 29 = .ok (.iload 4, 2) := by decide +kernel
theorem dX1_exactStairs_31 : decode cX1_exactStairs 31 = .ok (.invokevirtual 51, 3) := by decide +kernel
theorem dX1_exactStairs_34 : decode cX1_exactStairs 34 = .ok (.aload_n 0, 1) := by decide +kernel
theorem dX1_exactStairs_35 : decode cX1_exactStairs 35 = .ok (.getfield 25, 3) := by decide +kernel
theorem dX1_exactStairs_38 : decode cX1_exactStairs 38 = .ok (.if_icmp .ne 6, 3) := by decide +kernel
theorem dX1_exactStairs_41 : decode cX1_exactStairs 41 = .ok (.iinc 3 1, 3) := by decide +kernel
theorem dX1_exactStairs_44 : decode cX1_exactStairs 44 = .ok (.iinc 4 1, 3) := by decide +kernel
theorem dX1_exactStairs_47 : decode cX1_exactStairs 47 = .ok (.goto (-36), 3) := by decide +kernel
theorem dX1_exactStairs_50 : decode cX1_exactStairs 50 = .ok (.iload_n 3, 1) := by decide +kernel
theorem dX1_exactStairs_51 : decode cX1_exactStairs 51 = .ok (.ireturn, 1) := by decide +kernel
theorem dX1_takeTalls_0 : decode cX1_takeTalls 0 = .ok (.aload_n 1, 1) := by decide +kernel
theorem dX1_takeTalls_1 : decode cX1_takeTalls 1 = .ok (.getfield 54, 3) := by decide +kernel
theorem dX1_takeTalls_4 : decode cX1_takeTalls 4 = .ok (.bipush 10, 2) := by decide +kernel
theorem dX1_takeTalls_6 : decode cX1_takeTalls 6 = .ok (.invokestatic 59, 3) := by decide +kernel
theorem dX1_takeTalls_9 : decode cX1_takeTalls 9 = .ok (.istore_n 2, 1) := by decide +kernel
theorem dX1_takeTalls_10 : decode cX1_takeTalls 10 = .ok (.iconst 0, 1) := by decide +kernel
theorem dX1_takeTalls_11 : decode cX1_takeTalls 11 = .ok (.istore_n 3, 1) := by decide +kernel
theorem dX1_takeTalls_12 : decode cX1_takeTalls 12 = .ok (.iload_n 3, 1) := by decide +kernel
theorem dX1_takeTalls_13 : decode cX1_takeTalls 13 = .ok (.iload_n 2, 1) := by decide +kernel
theorem dX1_takeTalls_14 : decode cX1_takeTalls 14 = .ok (.if_icmp .ge 36, 3) := by decide +kernel
theorem dX1_takeTalls_17 : decode cX1_takeTalls 17 = .ok (.aload_n 1, 1) := by decide +kernel
theorem dX1_takeTalls_18 : decode cX1_takeTalls 18 = .ok (.iload_n 3, 1) := by decide +kernel
theorem dX1_takeTalls_19 : decode cX1_takeTalls 19 = .ok (.invokevirtual 65, 3) := by decide +kernel
theorem dX1_takeTalls_22 : decode cX1_takeTalls 22 = .ok (.iconst 0, 1) := by decide +kernel
theorem dX1_takeTalls_23 : decode cX1_takeTalls 23 = .ok (.bipush 9, 2) := by decide +kernel
theorem dX1_takeTalls_25 : decode cX1_takeTalls 25 = .ok (.invokestatic 68, 3) := by decide +kernel
theorem dX1_takeTalls_28 : decode cX1_takeTalls 28 = .ok (.ifCond .ne 5, 3) := by decide +kernel
theorem dX1_takeTalls_31 : decode cX1_takeTalls 31 = .ok (.iload_n 3, 1) := by decide +kernel
theorem dX1_takeTalls_32 : decode cX1_takeTalls 32 = .ok (.ireturn, 1) := by decide +kernel
theorem dX1_takeTalls_33 : decode cX1_takeTalls 33 = .ok (.aload_n 0, 1) := by decide +kernel
theorem dX1_takeTalls_34 : decode cX1_takeTalls 34 = .ok (.getfield 7, 3) := by decide +kernel
theorem dX1_takeTalls_37 : decode cX1_takeTalls 37 = .ok (.iload_n 3, 1) := by decide +kernel
theorem dX1_takeTalls_38 : decode cX1_takeTalls 38 = .ok (.aload_n 1, 1) := by decide +kernel
theorem dX1_takeTalls_39 : decode cX1_takeTalls 39 = .ok (.iload_n 3, 1) := by decide +kernel
theorem dX1_takeTalls_40 : decode cX1_takeTalls 40 = .ok (.invokevirtual 65, 3) := by decide +kernel
theorem dX1_takeTalls_43 : decode cX1_takeTalls 43 = .ok (.iastore, 1) := by decide +kernel
theorem dX1_takeTalls_44 : decode cX1_takeTalls 44 = .ok (.iinc 3 1, 3) := by decide +kernel
theorem dX1_takeTalls_47 : decode cX1_takeTalls 47 = .ok (.goto (-35), 3) := by decide +kernel
theorem dX1_takeTalls_50 : decode cX1_takeTalls 50 = .ok (.iload_n 2, 1) := by decide +kernel
theorem dX1_takeTalls_51 : decode cX1_takeTalls 51 = .ok (.ireturn, 1) := by decide +kernel
theorem dX1_treesOfAll_0 : decode cX1_treesOfAll 0 = .ok (.iconst 0, 1) := by decide +kernel
theorem dX1_treesOfAll_1 : decode cX1_treesOfAll 1 = .ok (.istore_n 1, 1) := by decide +kernel
theorem dX1_treesOfAll_2 : decode cX1_treesOfAll 2 = .ok (.iconst 0, 1) := by decide +kernel
theorem dX1_treesOfAll_3 : decode cX1_treesOfAll 3 = .ok (.istore_n 2, 1) := by decide +kernel
theorem dX1_treesOfAll_4 : decode cX1_treesOfAll 4 = .ok (.iload_n 2, 1) := by decide +kernel
theorem dX1_treesOfAll_5 : decode cX1_treesOfAll 5 = .ok (.bipush 8, 2) := by decide +kernel
theorem dX1_treesOfAll_7 : decode cX1_treesOfAll 7 = .ok (.if_icmp .ge 17, 3) := by decide +kernel
theorem dX1_treesOfAll_10 : decode cX1_treesOfAll 10 = .ok (.iload_n 1, 1) := by decide +kernel
theorem dX1_treesOfAll_11 : decode cX1_treesOfAll 11 = .ok (.aload_n 0, 1) := by decide +kernel
theorem dX1_treesOfAll_12 : decode cX1_treesOfAll 12 = .ok (.iload_n 2, 1) := by decide +kernel
theorem dX1_treesOfAll_13 : decode cX1_treesOfAll 13 = .ok (.invokevirtual 72, 3) := by decide +kernel
theorem dX1_treesOfAll_16 : decode cX1_treesOfAll 16 = .ok (.iadd, 1) := by decide +kernel
theorem dX1_treesOfAll_17 : decode cX1_treesOfAll 17 = .ok (.istore_n 1, 1) := by decide +kernel
theorem dX1_treesOfAll_18 : decode cX1_treesOfAll 18 = .ok (.iinc 2 1, 3) := by decide +kernel
theorem dX1_treesOfAll_21 : decode cX1_treesOfAll 21 = .ok (.goto (-17), 3) := by decide +kernel
theorem dX1_treesOfAll_24 : decode cX1_treesOfAll 24 = .ok (.iload_n 1, 1) := by decide +kernel
theorem dX1_treesOfAll_25 : decode cX1_treesOfAll 25 = .ok (.ireturn, 1) := by decide +kernel
theorem dX1_isToldOf_0 : decode cX1_isToldOf 0 = .ok (.aload_n 2, 1) := by decide +kernel
theorem dX1_isToldOf_1 : decode cX1_isToldOf 1 = .ok (.getfield 54, 3) := by decide +kernel
theorem dX1_isToldOf_4 : decode cX1_isToldOf 4 = .ok (.iconst 3, 1) := by decide +kernel
theorem dX1_isToldOf_5 : decode cX1_isToldOf 5 = .ok (.if_icmp .le 5, 3) := by decide +kernel
theorem dX1_isToldOf_8 : decode cX1_isToldOf 8 = .ok (.iconst 0, 1) := by decide +kernel
theorem dX1_isToldOf_9 : decode cX1_isToldOf 9 = .ok (.ireturn, 1) := by decide +kernel
theorem dX1_isToldOf_10 : decode cX1_isToldOf 10 = .ok (.iload_n 1, 1) := by decide +kernel
theorem dX1_isToldOf_11 : decode cX1_isToldOf 11 = .ok (.bipush 8, 2) := by decide +kernel
theorem dX1_isToldOf_13 : decode cX1_isToldOf 13 = .ok (.idiv, 1) := by decide +kernel
theorem dX1_isToldOf_14 : decode cX1_isToldOf 14 = .ok (.istore_n 3, 1) := by decide +kernel
theorem dX1_isToldOf_15 : decode cX1_isToldOf 15 = .ok (.iload_n 1, 1) := by decide +kernel
theorem dX1_isToldOf_16 : decode cX1_isToldOf 16 = .ok (.bipush 8, 2) := by decide +kernel
theorem dX1_isToldOf_18 : decode cX1_isToldOf 18 = .ok (.irem, 1) := by decide +kernel
theorem dX1_isToldOf_19 : decode cX1_isToldOf 19 = .ok (.istore 4, 2) := by decide +kernel
theorem dX1_isToldOf_21 : decode cX1_isToldOf 21 = .ok (.aload_n 2, 1) := by decide +kernel
theorem dX1_isToldOf_22 : decode cX1_isToldOf 22 = .ok (.getfield 54, 3) := by decide +kernel
theorem dX1_isToldOf_25 : decode cX1_isToldOf 25 = .ok (.iconst 1, 1) := by decide +kernel
theorem dX1_isToldOf_26 : decode cX1_isToldOf 26 = .ok (.if_icmp .lt 16, 3) := by decide +kernel
theorem dX1_isToldOf_29 : decode cX1_isToldOf 29 = .ok (.aload_n 2, 1) := by decide +kernel
theorem dX1_isToldOf_30 : decode cX1_isToldOf 30 = .ok (.iconst 0, 1) := by decide +kernel
theorem dX1_isToldOf_31 : decode cX1_isToldOf 31 = .ok (.invokevirtual 65, 3) := by decide +kernel
theorem dX1_isToldOf_34 : decode cX1_isToldOf 34 = .ok (.aload_n 0, 1) := by decide +kernel
theorem dX1_isToldOf_35 : decode cX1_isToldOf 35 = .ok (.iload_n 3, 1) := by decide +kernel
theorem dX1_isToldOf_36 : decode cX1_isToldOf 36 = .ok (.invokevirtual 72, 3) := by decide +kernel
theorem dX1_isToldOf_39 : decode cX1_isToldOf 39 = .ok (.if_icmp .ne 52, 3) := by decide +kernel
theorem dX1_isToldOf_42 : decode cX1_isToldOf 42 = .ok (.aload_n 2, 1) := by decide +kernel
theorem dX1_isToldOf_43 : decode cX1_isToldOf 43 = .ok (.getfield 54, 3) := by decide +kernel
theorem dX1_isToldOf_46 : decode cX1_isToldOf 46 = .ok (.iconst 2, 1) := by decide +kernel
theorem dX1_isToldOf_47 : decode cX1_isToldOf 47 = .ok (.if_icmp .lt 17, 3) := by decide +kernel
theorem dX1_isToldOf_50 : decode cX1_isToldOf 50 = .ok (.aload_n 2, 1) := by decide +kernel
theorem dX1_isToldOf_51 : decode cX1_isToldOf 51 = .ok (.iconst 1, 1) := by decide +kernel
theorem dX1_isToldOf_52 : decode cX1_isToldOf 52 = .ok (.invokevirtual 65, 3) := by decide +kernel
theorem dX1_isToldOf_55 : decode cX1_isToldOf 55 = .ok (.aload_n 0, 1) := by decide +kernel
theorem dX1_isToldOf_56 : decode cX1_isToldOf 56 = .ok (.iload 4, 2) := by decide +kernel
theorem dX1_isToldOf_58 : decode cX1_isToldOf 58 = .ok (.invokevirtual 75, 3) := by decide +kernel
theorem dX1_isToldOf_61 : decode cX1_isToldOf 61 = .ok (.if_icmp .ne 30, 3) := by decide +kernel
theorem dX1_isToldOf_64 : decode cX1_isToldOf 64 = .ok (.aload_n 2, 1) := by decide +kernel
theorem dX1_isToldOf_65 : decode cX1_isToldOf 65 = .ok (.getfield 54, 3) := by decide +kernel
theorem dX1_isToldOf_68 : decode cX1_isToldOf 68 = .ok (.iconst 3, 1) := by decide +kernel
theorem dX1_isToldOf_69 : decode cX1_isToldOf 69 = .ok (.if_icmp .lt 18, 3) := by decide +kernel
theorem dX1_isToldOf_72 : decode cX1_isToldOf 72 = .ok (.aload_n 2, 1) := by decide +kernel
theorem dX1_isToldOf_73 : decode cX1_isToldOf 73 = .ok (.iconst 2, 1) := by decide +kernel
theorem dX1_isToldOf_74 : decode cX1_isToldOf 74 = .ok (.invokevirtual 65, 3) := by decide +kernel
theorem dX1_isToldOf_77 : decode cX1_isToldOf 77 = .ok (.aload_n 0, 1) := by decide +kernel
theorem dX1_isToldOf_78 : decode cX1_isToldOf 78 = .ok (.iload_n 3, 1) := by decide +kernel
theorem dX1_isToldOf_79 : decode cX1_isToldOf 79 = .ok (.iload 4, 2) := by decide +kernel
theorem dX1_isToldOf_81 : decode cX1_isToldOf 81 = .ok (.invokevirtual 78, 3) := by decide +kernel
theorem dX1_isToldOf_84 : decode cX1_isToldOf 84 = .ok (.if_icmp .ne 7, 3) := by decide +kernel
theorem dX1_isToldOf_87 : decode cX1_isToldOf 87 = .ok (.iconst 1, 1) := by decide +kernel
theorem dX1_isToldOf_88 : decode cX1_isToldOf 88 = .ok (.goto 4, 3) := by decide +kernel
theorem dX1_isToldOf_91 : decode cX1_isToldOf 91 = .ok (.iconst 0, 1) := by decide +kernel
theorem dX1_isToldOf_92 : decode cX1_isToldOf 92 = .ok (.ireturn, 1) := by decide +kernel
theorem dX1_treesOfRow_0 : decode cX1_treesOfRow 0 = .ok (.iload_n 1, 1) := by decide +kernel
theorem dX1_treesOfRow_1 : decode cX1_treesOfRow 1 = .ok (.aload_n 0, 1) := by decide +kernel
theorem dX1_treesOfRow_2 : decode cX1_treesOfRow 2 = .ok (.getfield 16, 3) := by decide +kernel
theorem dX1_treesOfRow_5 : decode cX1_treesOfRow 5 = .ok (.invokestatic 32, 3) := by decide +kernel
theorem dX1_treesOfRow_8 : decode cX1_treesOfRow 8 = .ok (.ifCond .eq 15, 3) := by decide +kernel
theorem dX1_treesOfRow_11 : decode cX1_treesOfRow 11 = .ok (.aload_n 0, 1) := by decide +kernel
theorem dX1_treesOfRow_12 : decode cX1_treesOfRow 12 = .ok (.getfield 16, 3) := by decide +kernel
theorem dX1_treesOfRow_15 : decode cX1_treesOfRow 15 = .ok (.iload_n 1, 1) := by decide +kernel
theorem dX1_treesOfRow_16 : decode cX1_treesOfRow 16 = .ok (.iaload, 1) := by decide +kernel
theorem dX1_treesOfRow_17 : decode cX1_treesOfRow 17 = .ok (.invokestatic 46, 3) := by decide +kernel
theorem dX1_treesOfRow_20 : decode cX1_treesOfRow 20 = .ok (.goto 4, 3) := by decide +kernel
theorem dX1_treesOfRow_23 : decode cX1_treesOfRow 23 = .ok (.iconst 0, 1) := by decide +kernel
theorem dX1_treesOfRow_24 : decode cX1_treesOfRow 24 = .ok (.ireturn, 1) := by decide +kernel
theorem dX1_treesOfLine_0 : decode cX1_treesOfLine 0 = .ok (.iconst 0, 1) := by decide +kernel
theorem dX1_treesOfLine_1 : decode cX1_treesOfLine 1 = .ok (.istore_n 2, 1) := by decide +kernel
theorem dX1_treesOfLine_2 : decode cX1_treesOfLine 2 = .ok (.iconst 0, 1) := by decide +kernel
theorem dX1_treesOfLine_3 : decode cX1_treesOfLine 3 = .ok (.istore_n 3, 1) := by decide +kernel
theorem dX1_treesOfLine_4 : decode cX1_treesOfLine 4 = .ok (.iload_n 3, 1) := by decide +kernel
theorem dX1_treesOfLine_5 : decode cX1_treesOfLine 5 = .ok (.bipush 8, 2) := by decide +kernel
theorem dX1_treesOfLine_7 : decode cX1_treesOfLine 7 = .ok (.if_icmp .ge 18, 3) := by decide +kernel
theorem dX1_treesOfLine_10 : decode cX1_treesOfLine 10 = .ok (.iload_n 2, 1) := by decide +kernel
theorem dX1_treesOfLine_11 : decode cX1_treesOfLine 11 = .ok (.aload_n 0, 1) := by decide +kernel
theorem dX1_treesOfLine_12 : decode cX1_treesOfLine 12 = .ok (.iload_n 3, 1) := by decide +kernel
theorem dX1_treesOfLine_13 : decode cX1_treesOfLine 13 = .ok (.iload_n 1, 1) := by decide +kernel
theorem dX1_treesOfLine_14 : decode cX1_treesOfLine 14 = .ok (.invokevirtual 81, 3) := by decide +kernel
theorem dX1_treesOfLine_17 : decode cX1_treesOfLine 17 = .ok (.iadd, 1) := by decide +kernel
theorem dX1_treesOfLine_18 : decode cX1_treesOfLine 18 = .ok (.istore_n 2, 1) := by decide +kernel
theorem dX1_treesOfLine_19 : decode cX1_treesOfLine 19 = .ok (.iinc 3 1, 3) := by decide +kernel
theorem dX1_treesOfLine_22 : decode cX1_treesOfLine 22 = .ok (.goto (-18), 3) := by decide +kernel
theorem dX1_treesOfLine_25 : decode cX1_treesOfLine 25 = .ok (.iload_n 2, 1) := by decide +kernel
theorem dX1_treesOfLine_26 : decode cX1_treesOfLine 26 = .ok (.ireturn, 1) := by decide +kernel
theorem dX1_treesNextTo_0 : decode cX1_treesNextTo 0 = .ok (.aload_n 0, 1) := by decide +kernel
theorem dX1_treesNextTo_1 : decode cX1_treesNextTo 1 = .ok (.iload_n 1, 1) := by decide +kernel
theorem dX1_treesNextTo_2 : decode cX1_treesNextTo 2 = .ok (.iload_n 2, 1) := by decide +kernel
theorem dX1_treesNextTo_3 : decode cX1_treesNextTo 3 = .ok (.invokevirtual 81, 3) := by decide +kernel
theorem dX1_treesNextTo_6 : decode cX1_treesNextTo 6 = .ok (.ineg, 1) := by decide +kernel
theorem dX1_treesNextTo_7 : decode cX1_treesNextTo 7 = .ok (.istore_n 3, 1) := by decide +kernel
theorem dX1_treesNextTo_8 : decode cX1_treesNextTo 8 = .ok (.iload_n 1, 1) := by decide +kernel
theorem dX1_treesNextTo_9 : decode cX1_treesNextTo 9 = .ok (.iconst 1, 1) := by decide +kernel
theorem dX1_treesNextTo_10 : decode cX1_treesNextTo 10 = .ok (.isub, 1) := by decide +kernel
theorem dX1_treesNextTo_11 : decode cX1_treesNextTo 11 = .ok (.istore 4, 2) := by decide +kernel
theorem dX1_treesNextTo_13 : decode cX1_treesNextTo 13 = .ok (.iload 4, 2) := by decide +kernel
theorem dX1_treesNextTo_15 : decode cX1_treesNextTo 15 = .ok (.iload_n 1, 1) := by decide +kernel
theorem dX1_treesNextTo_16 : decode cX1_treesNextTo 16 = .ok (.iconst 1, 1) := by decide +kernel
theorem dX1_treesNextTo_17 : decode cX1_treesNextTo 17 = .ok (.iadd, 1) := by decide +kernel
theorem dX1_treesNextTo_18 : decode cX1_treesNextTo 18 = .ok (.if_icmp .gt 39, 3) := by decide +kernel
theorem dX1_treesNextTo_21 : decode cX1_treesNextTo 21 = .ok (.iload_n 2, 1) := by decide +kernel
theorem dX1_treesNextTo_22 : decode cX1_treesNextTo 22 = .ok (.iconst 1, 1) := by decide +kernel
theorem dX1_treesNextTo_23 : decode cX1_treesNextTo 23 = .ok (.isub, 1) := by decide +kernel
theorem dX1_treesNextTo_24 : decode cX1_treesNextTo 24 = .ok (.istore 5, 2) := by decide +kernel
theorem dX1_treesNextTo_26 : decode cX1_treesNextTo 26 = .ok (.iload 5, 2) := by decide +kernel
theorem dX1_treesNextTo_28 : decode cX1_treesNextTo 28 = .ok (.iload_n 2, 1) := by decide +kernel
theorem dX1_treesNextTo_29 : decode cX1_treesNextTo 29 = .ok (.iconst 1, 1) := by decide +kernel
theorem dX1_treesNextTo_30 : decode cX1_treesNextTo 30 = .ok (.iadd, 1) := by decide +kernel
theorem dX1_treesNextTo_31 : decode cX1_treesNextTo 31 = .ok (.if_icmp .gt 20, 3) := by decide +kernel
theorem dX1_treesNextTo_34 : decode cX1_treesNextTo 34 = .ok (.iload_n 3, 1) := by decide +kernel
theorem dX1_treesNextTo_35 : decode cX1_treesNextTo 35 = .ok (.aload_n 0, 1) := by decide +kernel
theorem dX1_treesNextTo_36 : decode cX1_treesNextTo 36 = .ok (.iload 4, 2) := by decide +kernel
theorem dX1_treesNextTo_38 : decode cX1_treesNextTo 38 = .ok (.iload 5, 2) := by decide +kernel
theorem dX1_treesNextTo_40 : decode cX1_treesNextTo 40 = .ok (.invokevirtual 81, 3) := by decide +kernel
theorem dX1_treesNextTo_43 : decode cX1_treesNextTo 43 = .ok (.iadd, 1) := by decide +kernel
theorem dX1_treesNextTo_44 : decode cX1_treesNextTo 44 = .ok (.istore_n 3, 1) := by decide +kernel
theorem dX1_treesNextTo_45 : decode cX1_treesNextTo 45 = .ok (.iinc 5 1, 3) := by decide +kernel
theorem dX1_treesNextTo_48 : decode cX1_treesNextTo 48 = .ok (.goto (-22), 3) := by decide +kernel
theorem dX1_treesNextTo_51 : decode cX1_treesNextTo 51 = .ok (.iinc 4 1, 3) := by decide +kernel
theorem dX1_treesNextTo_54 : decode cX1_treesNextTo 54 = .ok (.goto (-41), 3) := by decide +kernel
theorem dX1_treesNextTo_57 : decode cX1_treesNextTo 57 = .ok (.iload_n 3, 1) := by decide +kernel
theorem dX1_treesNextTo_58 : decode cX1_treesNextTo 58 = .ok (.ireturn, 1) := by decide +kernel
theorem dX1_treeAt_0 : decode cX1_treeAt 0 = .ok (.iload_n 1, 1) := by decide +kernel
theorem dX1_treeAt_1 : decode cX1_treeAt 1 = .ok (.aload_n 0, 1) := by decide +kernel
theorem dX1_treeAt_2 : decode cX1_treeAt 2 = .ok (.getfield 16, 3) := by decide +kernel
theorem dX1_treeAt_5 : decode cX1_treeAt 5 = .ok (.invokestatic 32, 3) := by decide +kernel
theorem dX1_treeAt_8 : decode cX1_treeAt 8 = .ok (.ifCond .eq 17, 3) := by decide +kernel
theorem dX1_treeAt_11 : decode cX1_treeAt 11 = .ok (.iload_n 2, 1) := by decide +kernel
theorem dX1_treeAt_12 : decode cX1_treeAt 12 = .ok (.iconst 0, 1) := by decide +kernel
theorem dX1_treeAt_13 : decode cX1_treeAt 13 = .ok (.bipush 7, 2) := by decide +kernel
theorem dX1_treeAt_15 : decode cX1_treeAt 15 = .ok (.invokestatic 68, 3) := by decide +kernel
theorem dX1_treeAt_18 : decode cX1_treeAt 18 = .ok (.ifCond .eq 7, 3) := by decide +kernel
theorem dX1_treeAt_21 : decode cX1_treeAt 21 = .ok (.iconst 1, 1) := by decide +kernel
theorem dX1_treeAt_22 : decode cX1_treeAt 22 = .ok (.goto 4, 3) := by decide +kernel
theorem dX1_treeAt_25 : decode cX1_treeAt 25 = .ok (.iconst 0, 1) := by decide +kernel
theorem dX1_treeAt_26 : decode cX1_treeAt 26 = .ok (.istore_n 3, 1) := by decide +kernel
theorem dX1_treeAt_27 : decode cX1_treeAt 27 = .ok (.iload_n 3, 1) := by decide +kernel
theorem dX1_treeAt_28 : decode cX1_treeAt 28 = .ok (.ifCond .eq 16, 3) := by decide +kernel
theorem dX1_treeAt_31 : decode cX1_treeAt 31 = .ok (.aload_n 0, 1) := by decide +kernel
theorem dX1_treeAt_32 : decode cX1_treeAt 32 = .ok (.getfield 16, 3) := by decide +kernel
theorem dX1_treeAt_35 : decode cX1_treeAt 35 = .ok (.iload_n 1, 1) := by decide +kernel
theorem dX1_treeAt_36 : decode cX1_treeAt 36 = .ok (.iaload, 1) := by decide +kernel
theorem dX1_treeAt_37 : decode cX1_treeAt 37 = .ok (.iload_n 2, 1) := by decide +kernel
theorem dX1_treeAt_38 : decode cX1_treeAt 38 = .ok (.ishr, 1) := by decide +kernel
theorem dX1_treeAt_39 : decode cX1_treeAt 39 = .ok (.iconst 1, 1) := by decide +kernel
theorem dX1_treeAt_40 : decode cX1_treeAt 40 = .ok (.iand, 1) := by decide +kernel
theorem dX1_treeAt_41 : decode cX1_treeAt 41 = .ok (.goto 4, 3) := by decide +kernel
theorem dX1_treeAt_44 : decode cX1_treeAt 44 = .ok (.iconst 0, 1) := by decide +kernel
theorem dX1_treeAt_45 : decode cX1_treeAt 45 = .ok (.ireturn, 1) := by decide +kernel
theorem dX1_gaits_0 : decode cX1_gaits 0 = .ok (.aload_n 0, 1) := by decide +kernel
theorem dX1_gaits_1 : decode cX1_gaits 1 = .ok (.getfield 29, 3) := by decide +kernel
theorem dX1_gaits_4 : decode cX1_gaits 4 = .ok (.aload_n 0, 1) := by decide +kernel
theorem dX1_gaits_5 : decode cX1_gaits 5 = .ok (.getfield 19, 3) := by decide +kernel
theorem dX1_gaits_8 : decode cX1_gaits 8 = .ok (.invokestatic 32, 3) := by decide +kernel
theorem dX1_gaits_11 : decode cX1_gaits 11 = .ok (.ifCond .eq 13, 3) := by decide +kernel
theorem dX1_gaits_14 : decode cX1_gaits 14 = .ok (.aload_n 0, 1) := by decide +kernel
theorem dX1_gaits_15 : decode cX1_gaits 15 = .ok (.getfield 29, 3) := by decide +kernel
theorem dX1_gaits_18 : decode cX1_gaits 18 = .ok (.invokestatic 84, 3) := by decide +kernel
theorem dX1_gaits_21 : decode cX1_gaits 21 = .ok (.ifCond .eq 5, 3) := by decide +kernel
theorem dX1_gaits_24 : decode cX1_gaits 24 = .ok (.iconst 0, 1) := by decide +kernel
theorem dX1_gaits_25 : decode cX1_gaits 25 = .ok (.ireturn, 1) := by decide +kernel
theorem dX1_gaits_26 : decode cX1_gaits 26 = .ok (.iconst 0, 1) := by decide +kernel
theorem dX1_gaits_27 : decode cX1_gaits 27 = .ok (.istore_n 2, 1) := by decide +kernel
theorem dX1_gaits_28 : decode cX1_gaits 28 = .ok (.iload_n 2, 1) := by decide +kernel
theorem dX1_gaits_29 : decode cX1_gaits 29 = .ok (.bipush 16, 2) := by decide +kernel
theorem dX1_gaits_31 : decode cX1_gaits 31 = .ok (.if_icmp .ge 28, 3) := by decide +kernel
theorem dX1_gaits_34 : decode cX1_gaits 34 = .ok (.aload_n 0, 1) := by decide +kernel
theorem dX1_gaits_35 : decode cX1_gaits 35 = .ok (.getfield 19, 3) := by decide +kernel
theorem dX1_gaits_38 : decode cX1_gaits 38 = .ok (.iload_n 2, 1) := by decide +kernel
theorem dX1_gaits_39 : decode cX1_gaits 39 = .ok (.iload_n 2, 1) := by decide +kernel
theorem dX1_gaits_40 : decode cX1_gaits 40 = .ok (.aload_n 0, 1) := by decide +kernel
theorem dX1_gaits_41 : decode cX1_gaits 41 = .ok (.getfield 29, 3) := by decide +kernel
theorem dX1_gaits_44 : decode cX1_gaits 44 = .ok (.if_icmp .ne 7, 3) := by decide +kernel
theorem dX1_gaits_47 : decode cX1_gaits 47 = .ok (.iconst 1, 1) := by decide +kernel
theorem dX1_gaits_48 : decode cX1_gaits 48 = .ok (.goto 4, 3) := by decide +kernel
theorem dX1_gaits_51 : decode cX1_gaits 51 = .ok (.iconst 0, 1) := by decide +kernel
theorem dX1_gaits_52 : decode cX1_gaits 52 = .ok (.iastore, 1) := by decide +kernel
theorem dX1_gaits_53 : decode cX1_gaits 53 = .ok (.iinc 2 1, 3) := by decide +kernel
theorem dX1_gaits_56 : decode cX1_gaits 56 = .ok (.goto (-28), 3) := by decide +kernel
theorem dX1_gaits_59 : decode cX1_gaits 59 = .ok (.iconst 0, 1) := by decide +kernel
theorem dX1_gaits_60 : decode cX1_gaits 60 = .ok (.istore_n 2, 1) := by decide +kernel
theorem dX1_gaits_61 : decode cX1_gaits 61 = .ok (.iload_n 2, 1) := by decide +kernel
theorem dX1_gaits_62 : decode cX1_gaits 62 = .ok (.iload_n 1, 1) := by decide +kernel
theorem dX1_gaits_63 : decode cX1_gaits 63 = .ok (.if_icmp .ge 13, 3) := by decide +kernel
theorem dX1_gaits_66 : decode cX1_gaits 66 = .ok (.aload_n 0, 1) := by decide +kernel
theorem dX1_gaits_67 : decode cX1_gaits 67 = .ok (.invokevirtual 88, 3) := by decide +kernel
theorem dX1_gaits_70 : decode cX1_gaits 70 = .ok (.iinc 2 1, 3) := by decide +kernel
theorem dX1_gaits_73 : decode cX1_gaits 73 = .ok (.goto (-12), 3) := by decide +kernel
theorem dX1_gaits_76 : decode cX1_gaits 76 = .ok (.aload_n 0, 1) := by decide +kernel
theorem dX1_gaits_77 : decode cX1_gaits 77 = .ok (.getfield 19, 3) := by decide +kernel
theorem dX1_gaits_80 : decode cX1_gaits 80 = .ok (.aload_n 0, 1) := by decide +kernel
theorem dX1_gaits_81 : decode cX1_gaits 81 = .ok (.getfield 29, 3) := by decide +kernel
theorem dX1_gaits_84 : decode cX1_gaits 84 = .ok (.iaload, 1) := by decide +kernel
theorem dX1_gaits_85 : decode cX1_gaits 85 = .ok (.ireturn, 1) := by decide +kernel
theorem dX1_moveOneFoot_0 : decode cX1_moveOneFoot 0 = .ok (.iconst 0, 1) := by decide +kernel
theorem dX1_moveOneFoot_1 : decode cX1_moveOneFoot 1 = .ok (.istore_n 1, 1) := by decide +kernel
theorem dX1_moveOneFoot_2 : decode cX1_moveOneFoot 2 = .ok (.iload_n 1, 1) := by decide +kernel
theorem dX1_moveOneFoot_3 : decode cX1_moveOneFoot 3 = .ok (.bipush 16, 2) := by decide +kernel
theorem dX1_moveOneFoot_5 : decode cX1_moveOneFoot 5 = .ok (.if_icmp .ge 72, 3) := by decide +kernel
theorem dX1_moveOneFoot_8 : decode cX1_moveOneFoot 8 = .ok (.iload_n 1, 1) := by decide +kernel
theorem dX1_moveOneFoot_9 : decode cX1_moveOneFoot 9 = .ok (.invokestatic 84, 3) := by decide +kernel
theorem dX1_moveOneFoot_12 : decode cX1_moveOneFoot 12 = .ok (.ifCond .ne 7, 3) := by decide +kernel
theorem dX1_moveOneFoot_15 : decode cX1_moveOneFoot 15 = .ok (.iconst 1, 1) := by decide +kernel
theorem dX1_moveOneFoot_16 : decode cX1_moveOneFoot 16 = .ok (.goto 4, 3) := by decide +kernel
theorem dX1_moveOneFoot_19 : decode cX1_moveOneFoot 19 = .ok (.iconst 0, 1) := by decide +kernel
theorem dX1_moveOneFoot_20 : decode cX1_moveOneFoot 20 = .ok (.istore_n 2, 1) := by decide +kernel
theorem dX1_moveOneFoot_21 : decode cX1_moveOneFoot 21 = .ok (.aload_n 0, 1) := by decide +kernel
theorem dX1_moveOneFoot_22 : decode cX1_moveOneFoot 22 = .ok (.getfield 22, 3) := by decide +kernel
theorem dX1_moveOneFoot_25 : decode cX1_moveOneFoot 25 = .ok (.iload_n 1, 1) := by decide +kernel
theorem dX1_moveOneFoot_26 : decode cX1_moveOneFoot 26 = .ok (.iload_n 2, 1) := by decide +kernel
theorem dX1_moveOneFoot_27 : decode cX1_moveOneFoot 27 = .ok (.ifCond .eq 42, 3) := by decide +kernel
theorem dX1_moveOneFoot_30 : decode cX1_moveOneFoot 30 = .ok (.aload_n 0, 1) := by decide +kernel
theorem dX1_moveOneFoot_31 : decode cX1_moveOneFoot 31 = .ok (.getfield 19, 3) := by decide +kernel
theorem dX1_moveOneFoot_34 : decode cX1_moveOneFoot 34 = .ok (.iload_n 1, 1) := by decide +kernel
theorem dX1_moveOneFoot_35 : decode cX1_moveOneFoot 35 = .ok (.iconst 1, 1) := by decide +kernel
theorem dX1_moveOneFoot_36 : decode cX1_moveOneFoot 36 = .ok (.ixor, 1) := by decide +kernel
theorem dX1_moveOneFoot_37 : decode cX1_moveOneFoot 37 = .ok (.iaload, 1) := by decide +kernel
theorem dX1_moveOneFoot_38 : decode cX1_moveOneFoot 38 = .ok (.aload_n 0, 1) := by decide +kernel
theorem dX1_moveOneFoot_39 : decode cX1_moveOneFoot 39 = .ok (.getfield 19, 3) := by decide +kernel
theorem dX1_moveOneFoot_42 : decode cX1_moveOneFoot 42 = .ok (.iload_n 1, 1) := by decide +kernel
theorem dX1_moveOneFoot_43 : decode cX1_moveOneFoot 43 = .ok (.iconst 2, 1) := by decide +kernel
theorem dX1_moveOneFoot_44 : decode cX1_moveOneFoot 44 = .ok (.ixor, 1) := by decide +kernel
theorem dX1_moveOneFoot_45 : decode cX1_moveOneFoot 45 = .ok (.iaload, 1) := by decide +kernel
theorem dX1_moveOneFoot_46 : decode cX1_moveOneFoot 46 = .ok (.iadd, 1) := by decide +kernel
theorem dX1_moveOneFoot_47 : decode cX1_moveOneFoot 47 = .ok (.aload_n 0, 1) := by decide +kernel
theorem dX1_moveOneFoot_48 : decode cX1_moveOneFoot 48 = .ok (.getfield 19, 3) := by decide +kernel
theorem dX1_moveOneFoot_51 : decode cX1_moveOneFoot 51 = .ok (.iload_n 1, 1) := by decide +kernel
theorem dX1_moveOneFoot_52 : decode cX1_moveOneFoot 52 = .ok (.iconst 4, 1) := by decide +kernel
theorem dX1_moveOneFoot_53 : decode cX1_moveOneFoot 53 = .ok (.ixor, 1) := by decide +kernel
theorem dX1_moveOneFoot_54 : decode cX1_moveOneFoot 54 = .ok (.iaload, 1) := by decide +kernel
theorem dX1_moveOneFoot_55 : decode cX1_moveOneFoot 55 = .ok (.iadd, 1) := by decide +kernel
theorem dX1_moveOneFoot_56 : decode cX1_moveOneFoot 56 = .ok (.aload_n 0, 1) := by decide +kernel
theorem dX1_moveOneFoot_57 : decode cX1_moveOneFoot 57 = .ok (.getfield 19, 3) := by decide +kernel
theorem dX1_moveOneFoot_60 : decode cX1_moveOneFoot 60 = .ok (.iload_n 1, 1) := by decide +kernel
theorem dX1_moveOneFoot_61 : decode cX1_moveOneFoot 61 = .ok (.bipush 8, 2) := by decide +kernel
theorem dX1_moveOneFoot_63 : decode cX1_moveOneFoot 63 = .ok (.ixor, 1) := by decide +kernel
theorem dX1_moveOneFoot_64 : decode cX1_moveOneFoot 64 = .ok (.iaload, 1) := by decide +kernel
theorem dX1_moveOneFoot_65 : decode cX1_moveOneFoot 65 = .ok (.iadd, 1) := by decide +kernel
theorem dX1_moveOneFoot_66 : decode cX1_moveOneFoot 66 = .ok (.goto 4, 3) := by decide +kernel
theorem dX1_moveOneFoot_69 : decode cX1_moveOneFoot 69 = .ok (.iconst 0, 1) := by decide +kernel
theorem dX1_moveOneFoot_70 : decode cX1_moveOneFoot 70 = .ok (.iastore, 1) := by decide +kernel
theorem dX1_moveOneFoot_71 : decode cX1_moveOneFoot 71 = .ok (.iinc 1 1, 3) := by decide +kernel
theorem dX1_moveOneFoot_74 : decode cX1_moveOneFoot 74 = .ok (.goto (-72), 3) := by decide +kernel
theorem dX1_moveOneFoot_77 : decode cX1_moveOneFoot 77 = .ok (.aload_n 0, 1) := by decide +kernel
theorem dX1_moveOneFoot_78 : decode cX1_moveOneFoot 78 = .ok (.getfield 22, 3) := by decide +kernel
theorem dX1_moveOneFoot_81 : decode cX1_moveOneFoot 81 = .ok (.iconst 0, 1) := by decide +kernel
theorem dX1_moveOneFoot_82 : decode cX1_moveOneFoot 82 = .ok (.aload_n 0, 1) := by decide +kernel
theorem dX1_moveOneFoot_83 : decode cX1_moveOneFoot 83 = .ok (.getfield 19, 3) := by decide +kernel
theorem dX1_moveOneFoot_86 : decode cX1_moveOneFoot 86 = .ok (.iconst 0, 1) := by decide +kernel
theorem dX1_moveOneFoot_87 : decode cX1_moveOneFoot 87 = .ok (.bipush 16, 2) := by decide +kernel
theorem dX1_moveOneFoot_89 : decode cX1_moveOneFoot 89 = .ok (.invokestatic 91, 3) := by decide +kernel
theorem dX1_moveOneFoot_92 : decode cX1_moveOneFoot 92 = .ok (.return_, 1) := by decide +kernel
theorem dX1_tumbles_0 : decode cX1_tumbles 0 = .ok (.iload_n 0, 1) := by decide +kernel
theorem dX1_tumbles_1 : decode cX1_tumbles 1 = .ok (.invokestatic 46, 3) := by decide +kernel
theorem dX1_tumbles_4 : decode cX1_tumbles 4 = .ok (.iconst 2, 1) := by decide +kernel
theorem dX1_tumbles_5 : decode cX1_tumbles 5 = .ok (.if_icmp .gt 19, 3) := by decide +kernel
theorem dX1_tumbles_8 : decode cX1_tumbles 8 = .ok (.iload_n 0, 1) := by decide +kernel
theorem dX1_tumbles_9 : decode cX1_tumbles 9 = .ok (.iconst 3, 1) := by decide +kernel
theorem dX1_tumbles_10 : decode cX1_tumbles 10 = .ok (.iand, 1) := by decide +kernel
theorem dX1_tumbles_11 : decode cX1_tumbles 11 = .ok (.iconst 3, 1) := by decide +kernel
theorem dX1_tumbles_12 : decode cX1_tumbles 12 = .ok (.if_icmp .eq 12, 3) := by decide +kernel
theorem dX1_tumbles_15 : decode cX1_tumbles 15 = .ok (.iload_n 0, 1) := by decide +kernel
theorem dX1_tumbles_16 : decode cX1_tumbles 16 = .ok (.bipush 12, 2) := by decide +kernel
theorem dX1_tumbles_18 : decode cX1_tumbles 18 = .ok (.iand, 1) := by decide +kernel
theorem dX1_tumbles_19 : decode cX1_tumbles 19 = .ok (.bipush 12, 2) := by decide +kernel
theorem dX1_tumbles_21 : decode cX1_tumbles 21 = .ok (.if_icmp .ne 7, 3) := by decide +kernel
theorem dX1_tumbles_24 : decode cX1_tumbles 24 = .ok (.iconst 1, 1) := by decide +kernel
theorem dX1_tumbles_25 : decode cX1_tumbles 25 = .ok (.goto 4, 3) := by decide +kernel
theorem dX1_tumbles_28 : decode cX1_tumbles 28 = .ok (.iconst 0, 1) := by decide +kernel
theorem dX1_tumbles_29 : decode cX1_tumbles 29 = .ok (.ireturn, 1) := by decide +kernel
theorem dX1_copyFrom_0 : decode cX1_copyFrom 0 = .ok (.aload_n 1, 1) := by decide +kernel
theorem dX1_copyFrom_1 : decode cX1_copyFrom 1 = .ok (.getfield 7, 3) := by decide +kernel
theorem dX1_copyFrom_4 : decode cX1_copyFrom 4 = .ok (.iconst 0, 1) := by decide +kernel
theorem dX1_copyFrom_5 : decode cX1_copyFrom 5 = .ok (.aload_n 0, 1) := by decide +kernel
theorem dX1_copyFrom_6 : decode cX1_copyFrom 6 = .ok (.getfield 7, 3) := by decide +kernel
theorem dX1_copyFrom_9 : decode cX1_copyFrom 9 = .ok (.iconst 0, 1) := by decide +kernel
theorem dX1_copyFrom_10 : decode cX1_copyFrom 10 = .ok (.bipush 10, 2) := by decide +kernel
theorem dX1_copyFrom_12 : decode cX1_copyFrom 12 = .ok (.invokestatic 91, 3) := by decide +kernel
theorem dX1_copyFrom_15 : decode cX1_copyFrom 15 = .ok (.aload_n 1, 1) := by decide +kernel
theorem dX1_copyFrom_16 : decode cX1_copyFrom 16 = .ok (.getfield 13, 3) := by decide +kernel
theorem dX1_copyFrom_19 : decode cX1_copyFrom 19 = .ok (.iconst 0, 1) := by decide +kernel
theorem dX1_copyFrom_20 : decode cX1_copyFrom 20 = .ok (.aload_n 0, 1) := by decide +kernel
theorem dX1_copyFrom_21 : decode cX1_copyFrom 21 = .ok (.getfield 13, 3) := by decide +kernel
theorem dX1_copyFrom_24 : decode cX1_copyFrom 24 = .ok (.iconst 0, 1) := by decide +kernel
theorem dX1_copyFrom_25 : decode cX1_copyFrom 25 = .ok (.bipush 10, 2) := by decide +kernel
theorem dX1_copyFrom_27 : decode cX1_copyFrom 27 = .ok (.invokestatic 91, 3) := by decide +kernel
theorem dX1_copyFrom_30 : decode cX1_copyFrom 30 = .ok (.aload_n 1, 1) := by decide +kernel
theorem dX1_copyFrom_31 : decode cX1_copyFrom 31 = .ok (.getfield 16, 3) := by decide +kernel
theorem dX1_copyFrom_34 : decode cX1_copyFrom 34 = .ok (.iconst 0, 1) := by decide +kernel
theorem dX1_copyFrom_35 : decode cX1_copyFrom 35 = .ok (.aload_n 0, 1) := by decide +kernel
theorem dX1_copyFrom_36 : decode cX1_copyFrom 36 = .ok (.getfield 16, 3) := by decide +kernel
theorem dX1_copyFrom_39 : decode cX1_copyFrom 39 = .ok (.iconst 0, 1) := by decide +kernel
theorem dX1_copyFrom_40 : decode cX1_copyFrom 40 = .ok (.bipush 8, 2) := by decide +kernel
theorem dX1_copyFrom_42 : decode cX1_copyFrom 42 = .ok (.invokestatic 91, 3) := by decide +kernel
theorem dX1_copyFrom_45 : decode cX1_copyFrom 45 = .ok (.aload_n 0, 1) := by decide +kernel
theorem dX1_copyFrom_46 : decode cX1_copyFrom 46 = .ok (.aload_n 1, 1) := by decide +kernel
theorem dX1_copyFrom_47 : decode cX1_copyFrom 47 = .ok (.getfield 25, 3) := by decide +kernel
theorem dX1_copyFrom_50 : decode cX1_copyFrom 50 = .ok (.putfield 25, 3) := by decide +kernel
theorem dX1_copyFrom_53 : decode cX1_copyFrom 53 = .ok (.aload_n 0, 1) := by decide +kernel
theorem dX1_copyFrom_54 : decode cX1_copyFrom 54 = .ok (.aload_n 1, 1) := by decide +kernel
theorem dX1_copyFrom_55 : decode cX1_copyFrom 55 = .ok (.getfield 29, 3) := by decide +kernel
theorem dX1_copyFrom_58 : decode cX1_copyFrom 58 = .ok (.putfield 29, 3) := by decide +kernel
theorem dX1_copyFrom_61 : decode cX1_copyFrom 61 = .ok (.return_, 1) := by decide +kernel
theorem dX2_copyFrom_0 : decode cX2_copyFrom 0 = .ok (.aload_n 0, 1) := by decide +kernel
theorem dX2_copyFrom_1 : decode cX2_copyFrom 1 = .ok (.getfield 14, 3) := by decide +kernel
theorem dX2_copyFrom_4 : decode cX2_copyFrom 4 = .ok (.aload_n 1, 1) := by decide +kernel
theorem dX2_copyFrom_5 : decode cX2_copyFrom 5 = .ok (.getfield 14, 3) := by decide +kernel
theorem dX2_copyFrom_8 : decode cX2_copyFrom 8 = .ok (.invokevirtual 28, 3) := by decide +kernel
theorem dX2_copyFrom_11 : decode cX2_copyFrom 11 = .ok (.aload_n 0, 1) := by decide +kernel
theorem dX2_copyFrom_12 : decode cX2_copyFrom 12 = .ok (.aload_n 1, 1) := by decide +kernel
theorem dX2_copyFrom_13 : decode cX2_copyFrom 13 = .ok (.getfield 24, 3) := by decide +kernel
theorem dX2_copyFrom_16 : decode cX2_copyFrom 16 = .ok (.putfield 24, 3) := by decide +kernel
theorem dX2_copyFrom_19 : decode cX2_copyFrom 19 = .ok (.return_, 1) := by decide +kernel
theorem dX2_workOut_0 : decode cX2_workOut 0 = .ok (.iconst 0, 1) := by decide +kernel
theorem dX2_workOut_1 : decode cX2_workOut 1 = .ok (.istore 4, 2) := by decide +kernel
theorem dX2_workOut_3 : decode cX2_workOut 3 = .ok (.iconst 0, 1) := by decide +kernel
theorem dX2_workOut_4 : decode cX2_workOut 4 = .ok (.istore 5, 2) := by decide +kernel
theorem dX2_workOut_6 : decode cX2_workOut 6 = .ok (.iload 5, 2) := by decide +kernel
theorem dX2_workOut_8 : decode cX2_workOut 8 = .ok (.aload_n 0, 1) := by decide +kernel
theorem dX2_workOut_9 : decode cX2_workOut 9 = .ok (.getfield 14, 3) := by decide +kernel
theorem dX2_workOut_12 : decode cX2_workOut 12 = .ok (.getfield 32, 3) := by decide +kernel
theorem dX2_workOut_15 : decode cX2_workOut 15 = .ok (.if_icmp .ge 160, 3) := by decide +kernel
theorem dX2_workOut_18 : decode cX2_workOut 18 = .ok (.aload_n 0, 1) := by decide +kernel
theorem dX2_workOut_19 : decode cX2_workOut 19 = .ok (.getfield 14, 3) := by decide +kernel
theorem dX2_workOut_22 : decode cX2_workOut 22 = .ok (.iload 5, 2) := by decide +kernel
theorem dX2_workOut_24 : decode cX2_workOut 24 = .ok (.invokevirtual 36, 3) := by decide +kernel
theorem dX2_workOut_27 : decode cX2_workOut 27 = .ok (.istore 6, 2) := by decide +kernel
theorem dX2_workOut_29 : decode cX2_workOut 29 = .ok (.iload 6, 2) := by decide +kernel
theorem dX2_workOut_31 : decode cX2_workOut 31 = .ok (.bipush (-3), 2) := by decide +kernel
theorem dX2_workOut_33 : decode cX2_workOut 33 = .ok (.if_icmp .lt 34, 3) := by decide +kernel
theorem dX2_workOut_36 : decode cX2_workOut 36 = .ok (.iload 4, 2) := by decide +kernel
theorem dX2_workOut_38 : decode cX2_workOut 38 = .ok (.aload_n 0, 1) := by decide +kernel
theorem dX2_workOut_39 : decode cX2_workOut 39 = .ok (.getfield 20, 3) := by decide +kernel
theorem dX2_workOut_42 : decode cX2_workOut 42 = .ok (.arraylength, 1) := by decide +kernel
theorem dX2_workOut_43 : decode cX2_workOut 43 = .ok (.if_icmp .ge 126, 3) := by decide +kernel
theorem dX2_workOut_46 : decode cX2_workOut 46 = .ok (.aload_n 0, 1) := by decide +kernel
theorem dX2_workOut_47 : decode cX2_workOut 47 = .ok (.getfield 20, 3) := by decide +kernel
theorem dX2_workOut_50 : decode cX2_workOut 50 = .ok (.iload 4, 2) := by decide +kernel
theorem dX2_workOut_52 : decode cX2_workOut 52 = .ok (.iload 6, 2) := by decide +kernel
theorem dX2_workOut_54 : decode cX2_workOut 54 = .ok (.iload_n 1, 1) := by decide +kernel
theorem dX2_workOut_55 : decode cX2_workOut 55 = .ok (.iload_n 2, 1) := by decide +kernel
theorem dX2_workOut_56 : decode cX2_workOut 56 = .ok (.iload_n 3, 1) := by decide +kernel
theorem dX2_workOut_57 : decode cX2_workOut 57 = .ok (.invokestatic 40, 3) := by decide +kernel
theorem dX2_workOut_60 : decode cX2_workOut 60 = .ok (.iastore, 1) := by decide +kernel
theorem dX2_workOut_61 : decode cX2_workOut 61 = .ok (.iinc 4 1, 3) := by decide +kernel
theorem dX2_workOut_64 : decode cX2_workOut 64 = .ok (.goto 105, 3) := by decide +kernel
theorem dX2_workOut_67 : decode cX2_workOut 67 = .ok (.iload 6, 2) := by decide +kernel
theorem dX2_workOut_69 : decode cX2_workOut 69 = .ok (.bipush (-33), 2) := by decide +kernel
theorem dX2_workOut_71 : decode cX2_workOut 71 = .ok (.if_icmp .ne 48, 3) := by decide +kernel
theorem dX2_workOut_74 : decode cX2_workOut 74 = .ok (.iload 4, 2) := by decide +kernel
theorem dX2_workOut_76 : decode cX2_workOut 76 = .ok (.iconst 1, 1) := by decide +kernel
theorem dX2_workOut_77 : decode cX2_workOut 77 = .ok (.if_icmp .lt 92, 3) := by decide +kernel
theorem dX2_workOut_80 : decode cX2_workOut 80 = .ok (.iload 4, 2) := by decide +kernel
theorem dX2_workOut_82 : decode cX2_workOut 82 = .ok (.aload_n 0, 1) := by decide +kernel
theorem dX2_workOut_83 : decode cX2_workOut 83 = .ok (.getfield 20, 3) := by decide +kernel
theorem dX2_workOut_86 : decode cX2_workOut 86 = .ok (.arraylength, 1) := by decide +kernel
theorem dX2_workOut_87 : decode cX2_workOut 87 = .ok (.if_icmp .gt 82, 3) := by decide +kernel
theorem dX2_workOut_90 : decode cX2_workOut 90 = .ok (.aload_n 0, 1) := by decide +kernel
theorem dX2_workOut_91 : decode cX2_workOut 91 = .ok (.getfield 20, 3) := by decide +kernel
theorem dX2_workOut_94 : decode cX2_workOut 94 = .ok (.iload 4, 2) := by decide +kernel
theorem dX2_workOut_96 : decode cX2_workOut 96 = .ok (.iconst 1, 1) := by decide +kernel
theorem dX2_workOut_97 : decode cX2_workOut 97 = .ok (.isub, 1) := by decide +kernel
theorem dX2_workOut_98 : decode cX2_workOut 98 = .ok (.aload_n 0, 1) := by decide +kernel
theorem dX2_workOut_99 : decode cX2_workOut 99 = .ok (.getfield 20, 3) := by decide +kernel
theorem dX2_workOut_102 : decode cX2_workOut 102 = .ok (.iload 4, 2) := by decide +kernel
theorem dX2_workOut_104 : decode cX2_workOut 104 = .ok (.iconst 1, 1) := by decide +kernel
theorem dX2_workOut_105 : decode cX2_workOut 105 = .ok (.isub, 1) := by decide +kernel
theorem dX2_workOut_106 : decode cX2_workOut 106 = .ok (.iaload, 1) := by decide +kernel
theorem dX2_workOut_107 : decode cX2_workOut 107 = .ok (.ifCond .ne 7, 3) := by decide +kernel
theorem dX2_workOut_110 : decode cX2_workOut 110 = .ok (.iconst 1, 1) := by decide +kernel
theorem dX2_workOut_111 : decode cX2_workOut 111 = .ok (.goto 4, 3) := by decide +kernel
theorem dX2_workOut_114 : decode cX2_workOut 114 = .ok (.iconst 0, 1) := by decide +kernel
theorem dX2_workOut_115 : decode cX2_workOut 115 = .ok (.iastore, 1) := by decide +kernel
theorem dX2_workOut_116 : decode cX2_workOut 116 = .ok (.goto 53, 3) := by decide +kernel
theorem dX2_workOut_119 : decode cX2_workOut 119 = .ok (.iload 4, 2) := by decide +kernel
theorem dX2_workOut_121 : decode cX2_workOut 121 = .ok (.iconst 2, 1) := by decide +kernel
theorem dX2_workOut_122 : decode cX2_workOut 122 = .ok (.if_icmp .lt 47, 3) := by decide +kernel
theorem dX2_workOut_125 : decode cX2_workOut 125 = .ok (.iload 4, 2) := by decide +kernel
theorem dX2_workOut_127 : decode cX2_workOut 127 = .ok (.aload_n 0, 1) := by decide +kernel
theorem dX2_workOut_128 : decode cX2_workOut 128 = .ok (.getfield 20, 3) := by decide +kernel
theorem dX2_workOut_131 : decode cX2_workOut 131 = .ok (.arraylength, 1) := by decide +kernel
theorem dX2_workOut_132 : decode cX2_workOut 132 = .ok (.if_icmp .gt 37, 3) := by decide +kernel
theorem dX2_workOut_135 : decode cX2_workOut 135 = .ok (.iinc 4 (-1), 3) := by decide +kernel
theorem dX2_workOut_138 : decode cX2_workOut 138 = .ok (.aload_n 0, 1) := by decide +kernel
theorem dX2_workOut_139 : decode cX2_workOut 139 = .ok (.getfield 20, 3) := by decide +kernel
theorem dX2_workOut_142 : decode cX2_workOut 142 = .ok (.iload 4, 2) := by decide +kernel
theorem dX2_workOut_144 : decode cX2_workOut 144 = .ok (.iconst 1, 1) := by decide +kernel
theorem dX2_workOut_145 : decode cX2_workOut 145 = .ok (.isub, 1) := by decide +kernel
theorem dX2_workOut_146 : decode cX2_workOut 146 = .ok (.iload 6, 2) := by decide +kernel
theorem dX2_workOut_148 : decode cX2_workOut 148 = .ok (.ineg, 1) := by decide +kernel
theorem dX2_workOut_149 : decode cX2_workOut 149 = .ok (.aload_n 0, 1) := by decide +kernel
theorem dX2_workOut_150 : decode cX2_workOut 150 = .ok (.getfield 20, 3) := by decide +kernel
theorem dX2_workOut_153 : decode cX2_workOut 153 = .ok (.iload 4, 2) := by decide +kernel
theorem dX2_workOut_155 : decode cX2_workOut 155 = .ok (.iconst 1, 1) := by decide +kernel
theorem dX2_workOut_156 : decode cX2_workOut 156 = .ok (.isub, 1) := by decide +kernel
theorem dX2_workOut_157 : decode cX2_workOut 157 = .ok (.iaload, 1) := by decide +kernel
theorem dX2_workOut_158 : decode cX2_workOut 158 = .ok (.aload_n 0, 1) := by decide +kernel
theorem dX2_workOut_159 : decode cX2_workOut 159 = .ok (.getfield 20, 3) := by decide +kernel
theorem dX2_workOut_162 : decode cX2_workOut 162 = .ok (.iload 4, 2) := by decide +kernel
theorem dX2_workOut_164 : decode cX2_workOut 164 = .ok (.iaload, 1) := by decide +kernel
theorem dX2_workOut_165 : decode cX2_workOut 165 = .ok (.invokestatic 44, 3) := by decide +kernel
theorem dX2_workOut_168 : decode cX2_workOut 168 = .ok (.iastore, 1) := by decide +kernel
theorem dX2_workOut_169 : decode cX2_workOut 169 = .ok (.iinc 5 1, 3) := by decide +kernel
theorem dX2_workOut_172 : decode cX2_workOut 172 = .ok (.goto (-166), 3) := by decide +kernel
theorem dX2_workOut_175 : decode cX2_workOut 175 = .ok (.iload 4, 2) := by decide +kernel
theorem dX2_workOut_177 : decode cX2_workOut 177 = .ok (.ifCond .le 12, 3) := by decide +kernel
theorem dX2_workOut_180 : decode cX2_workOut 180 = .ok (.aload_n 0, 1) := by decide +kernel
theorem dX2_workOut_181 : decode cX2_workOut 181 = .ok (.getfield 20, 3) := by decide +kernel
theorem dX2_workOut_184 : decode cX2_workOut 184 = .ok (.iconst 0, 1) := by decide +kernel
theorem dX2_workOut_185 : decode cX2_workOut 185 = .ok (.iaload, 1) := by decide +kernel
theorem dX2_workOut_186 : decode cX2_workOut 186 = .ok (.goto 4, 3) := by decide +kernel
theorem dX2_workOut_189 : decode cX2_workOut 189 = .ok (.iconst 0, 1) := by decide +kernel
theorem dX2_workOut_190 : decode cX2_workOut 190 = .ok (.ireturn, 1) := by decide +kernel
theorem dX2_operand_0 : decode cX2_operand 0 = .ok (.iload_n 0, 1) := by decide +kernel
theorem dX2_operand_1 : decode cX2_operand 1 = .ok (.ifCond .lt 5, 3) := by decide +kernel
theorem dX2_operand_4 : decode cX2_operand 4 = .ok (.iload_n 0, 1) := by decide +kernel
theorem dX2_operand_5 : decode cX2_operand 5 = .ok (.ireturn, 1) := by decide +kernel
theorem dX2_operand_6 : decode cX2_operand 6 = .ok (.iload_n 0, 1) := by decide +kernel
theorem dX2_operand_7 : decode cX2_operand 7 = .ok (.iconst (-1), 1) := by decide +kernel
theorem dX2_operand_8 : decode cX2_operand 8 = .ok (.if_icmp .ne 7, 3) := by decide +kernel
theorem dX2_operand_11 : decode cX2_operand 11 = .ok (.iload_n 1, 1) := by decide +kernel
theorem dX2_operand_12 : decode cX2_operand 12 = .ok (.goto 14, 3) := by decide +kernel
theorem dX2_operand_15 : decode cX2_operand 15 = .ok (.iload_n 0, 1) := by decide +kernel
theorem dX2_operand_16 : decode cX2_operand 16 = .ok (.bipush (-3), 2) := by decide +kernel
theorem dX2_operand_18 : decode cX2_operand 18 = .ok (.if_icmp .ne 7, 3) := by decide +kernel
theorem dX2_operand_21 : decode cX2_operand 21 = .ok (.iload_n 3, 1) := by decide +kernel
theorem dX2_operand_22 : decode cX2_operand 22 = .ok (.goto 4, 3) := by decide +kernel
theorem dX2_operand_25 : decode cX2_operand 25 = .ok (.iload_n 2, 1) := by decide +kernel
theorem dX2_operand_26 : decode cX2_operand 26 = .ok (.ireturn, 1) := by decide +kernel
theorem dX2_joined_0 : decode cX2_joined 0 = .ok (.iload_n 0, 1) := by decide +kernel
theorem dX2_joined_1 : decode cX2_joined 1 = .ok (.lookupswitch 188 #[(37, 176), (38, 105), (42, 160), (43, 152), (45, 156), (47, 164), (60, 119), (61, 130), (62, 141), (124, 91)], 91) := by decide +kernel
theorem dX2_joined_92 : decode cX2_joined 92 = .ok (.iload_n 1, 1) := by decide +kernel
theorem dX2_joined_93 : decode cX2_joined 93 = .ok (.ifCond .ne 7, 3) := by decide +kernel
theorem dX2_joined_96 : decode cX2_joined 96 = .ok (.iload_n 2, 1) := by decide +kernel
theorem dX2_joined_97 : decode cX2_joined 97 = .ok (.ifCond .eq 7, 3) := by decide +kernel
theorem dX2_joined_100 : decode cX2_joined 100 = .ok (.iconst 1, 1) := by decide +kernel
theorem dX2_joined_101 : decode cX2_joined 101 = .ok (.goto 4, 3) := by decide +kernel
theorem dX2_joined_104 : decode cX2_joined 104 = .ok (.iconst 0, 1) := by decide +kernel
theorem dX2_joined_105 : decode cX2_joined 105 = .ok (.ireturn, 1) := by decide +kernel
theorem dX2_joined_106 : decode cX2_joined 106 = .ok (.iload_n 1, 1) := by decide +kernel
theorem dX2_joined_107 : decode cX2_joined 107 = .ok (.ifCond .eq 11, 3) := by decide +kernel
theorem dX2_joined_110 : decode cX2_joined 110 = .ok (.iload_n 2, 1) := by decide +kernel
theorem dX2_joined_111 : decode cX2_joined 111 = .ok (.ifCond .eq 7, 3) := by decide +kernel
theorem dX2_joined_114 : decode cX2_joined 114 = .ok (.iconst 1, 1) := by decide +kernel
theorem dX2_joined_115 : decode cX2_joined 115 = .ok (.goto 4, 3) := by decide +kernel
theorem dX2_joined_118 : decode cX2_joined 118 = .ok (.iconst 0, 1) := by decide +kernel
theorem dX2_joined_119 : decode cX2_joined 119 = .ok (.ireturn, 1) := by decide +kernel
theorem dX2_joined_120 : decode cX2_joined 120 = .ok (.iload_n 1, 1) := by decide +kernel
theorem dX2_joined_121 : decode cX2_joined 121 = .ok (.iload_n 2, 1) := by decide +kernel
theorem dX2_joined_122 : decode cX2_joined 122 = .ok (.if_icmp .ge 7, 3) := by decide +kernel
theorem dX2_joined_125 : decode cX2_joined 125 = .ok (.iconst 1, 1) := by decide +kernel
theorem dX2_joined_126 : decode cX2_joined 126 = .ok (.goto 4, 3) := by decide +kernel
theorem dX2_joined_129 : decode cX2_joined 129 = .ok (.iconst 0, 1) := by decide +kernel
theorem dX2_joined_130 : decode cX2_joined 130 = .ok (.ireturn, 1) := by decide +kernel
theorem dX2_joined_131 : decode cX2_joined 131 = .ok (.iload_n 1, 1) := by decide +kernel
theorem dX2_joined_132 : decode cX2_joined 132 = .ok (.iload_n 2, 1) := by decide +kernel
theorem dX2_joined_133 : decode cX2_joined 133 = .ok (.if_icmp .ne 7, 3) := by decide +kernel
theorem dX2_joined_136 : decode cX2_joined 136 = .ok (.iconst 1, 1) := by decide +kernel
theorem dX2_joined_137 : decode cX2_joined 137 = .ok (.goto 4, 3) := by decide +kernel
theorem dX2_joined_140 : decode cX2_joined 140 = .ok (.iconst 0, 1) := by decide +kernel
theorem dX2_joined_141 : decode cX2_joined 141 = .ok (.ireturn, 1) := by decide +kernel
theorem dX2_joined_142 : decode cX2_joined 142 = .ok (.iload_n 1, 1) := by decide +kernel
theorem dX2_joined_143 : decode cX2_joined 143 = .ok (.iload_n 2, 1) := by decide +kernel
theorem dX2_joined_144 : decode cX2_joined 144 = .ok (.if_icmp .le 7, 3) := by decide +kernel
theorem dX2_joined_147 : decode cX2_joined 147 = .ok (.iconst 1, 1) := by decide +kernel
theorem dX2_joined_148 : decode cX2_joined 148 = .ok (.goto 4, 3) := by decide +kernel
theorem dX2_joined_151 : decode cX2_joined 151 = .ok (.iconst 0, 1) := by decide +kernel
theorem dX2_joined_152 : decode cX2_joined 152 = .ok (.ireturn, 1) := by decide +kernel
theorem dX2_joined_153 : decode cX2_joined 153 = .ok (.iload_n 1, 1) := by decide +kernel
theorem dX2_joined_154 : decode cX2_joined 154 = .ok (.iload_n 2, 1) := by decide +kernel
theorem dX2_joined_155 : decode cX2_joined 155 = .ok (.iadd, 1) := by decide +kernel
theorem dX2_joined_156 : decode cX2_joined 156 = .ok (.ireturn, 1) := by decide +kernel
theorem dX2_joined_157 : decode cX2_joined 157 = .ok (.iload_n 1, 1) := by decide +kernel
theorem dX2_joined_158 : decode cX2_joined 158 = .ok (.iload_n 2, 1) := by decide +kernel
theorem dX2_joined_159 : decode cX2_joined 159 = .ok (.isub, 1) := by decide +kernel
theorem dX2_joined_160 : decode cX2_joined 160 = .ok (.ireturn, 1) := by decide +kernel
theorem dX2_joined_161 : decode cX2_joined 161 = .ok (.iload_n 1, 1) := by decide +kernel
theorem dX2_joined_162 : decode cX2_joined 162 = .ok (.iload_n 2, 1) := by decide +kernel
theorem dX2_joined_163 : decode cX2_joined 163 = .ok (.imul, 1) := by decide +kernel
theorem dX2_joined_164 : decode cX2_joined 164 = .ok (.ireturn, 1) := by decide +kernel
theorem dX2_joined_165 : decode cX2_joined 165 = .ok (.iload_n 2, 1) := by decide +kernel
theorem dX2_joined_166 : decode cX2_joined 166 = .ok (.ifCond .ne 7, 3) := by decide +kernel
theorem dX2_joined_169 : decode cX2_joined 169 = .ok (.iconst 0, 1) := by decide +kernel
theorem dX2_joined_170 : decode cX2_joined 170 = .ok (.goto 6, 3) := by decide +kernel
theorem dX2_joined_173 : decode cX2_joined 173 = .ok (.iload_n 1, 1) := by decide +kernel
theorem dX2_joined_174 : decode cX2_joined 174 = .ok (.iload_n 2, 1) := by decide +kernel
theorem dX2_joined_175 : decode cX2_joined 175 = .ok (.idiv, 1) := by decide +kernel
theorem dX2_joined_176 : decode cX2_joined 176 = .ok (.ireturn, 1) := by decide +kernel
theorem dX2_joined_177 : decode cX2_joined 177 = .ok (.iload_n 2, 1) := by decide +kernel
theorem dX2_joined_178 : decode cX2_joined 178 = .ok (.ifCond .ne 7, 3) := by decide +kernel
theorem dX2_joined_181 : decode cX2_joined 181 = .ok (.iconst 0, 1) := by decide +kernel
theorem dX2_joined_182 : decode cX2_joined 182 = .ok (.goto 6, 3) := by decide +kernel
theorem dX2_joined_185 : decode cX2_joined 185 = .ok (.iload_n 1, 1) := by decide +kernel
theorem dX2_joined_186 : decode cX2_joined 186 = .ok (.iload_n 2, 1) := by decide +kernel
theorem dX2_joined_187 : decode cX2_joined 187 = .ok (.irem, 1) := by decide +kernel
theorem dX2_joined_188 : decode cX2_joined 188 = .ok (.ireturn, 1) := by decide +kernel
theorem dX2_joined_189 : decode cX2_joined 189 = .ok (.iconst 0, 1) := by decide +kernel
theorem dX2_joined_190 : decode cX2_joined 190 = .ok (.ireturn, 1) := by decide +kernel
theorem dX3_read_0 : decode cX3_read 0 = .ok (.aload_n 0, 1) := by decide +kernel
theorem dX3_read_1 : decode cX3_read 1 = .ok (.getfield 14, 3) := by decide +kernel
theorem dX3_read_4 : decode cX3_read 4 = .ok (.aload_n 1, 1) := by decide +kernel
theorem dX3_read_5 : decode cX3_read 5 = .ok (.invokevirtual 38, 3) := by decide +kernel
theorem dX3_read_8 : decode cX3_read 8 = .ok (.aload_n 0, 1) := by decide +kernel
theorem dX3_read_9 : decode cX3_read 9 = .ok (.iload_n 2, 1) := by decide +kernel
theorem dX3_read_10 : decode cX3_read 10 = .ok (.putfield 27, 3) := by decide +kernel
theorem dX3_read_13 : decode cX3_read 13 = .ok (.aload_n 0, 1) := by decide +kernel
theorem dX3_read_14 : decode cX3_read 14 = .ok (.iconst 0, 1) := by decide +kernel
theorem dX3_read_15 : decode cX3_read 15 = .ok (.putfield 31, 3) := by decide +kernel
theorem dX3_read_18 : decode cX3_read 18 = .ok (.aload_n 0, 1) := by decide +kernel
theorem dX3_read_19 : decode cX3_read 19 = .ok (.iconst 0, 1) := by decide +kernel
theorem dX3_read_20 : decode cX3_read 20 = .ok (.putfield 34, 3) := by decide +kernel
theorem dX3_read_23 : decode cX3_read 23 = .ok (.aload_n 0, 1) := by decide +kernel
theorem dX3_read_24 : decode cX3_read 24 = .ok (.getfield 23, 3) := by decide +kernel
theorem dX3_read_27 : decode cX3_read 27 = .ok (.iconst 1, 1) := by decide +kernel
theorem dX3_read_28 : decode cX3_read 28 = .ok (.putfield 42, 3) := by decide +kernel
theorem dX3_read_31 : decode cX3_read 31 = .ok (.aload_n 0, 1) := by decide +kernel
theorem dX3_read_32 : decode cX3_read 32 = .ok (.getfield 23, 3) := by decide +kernel
theorem dX3_read_35 : decode cX3_read 35 = .ok (.getfield 45, 3) := by decide +kernel
theorem dX3_read_38 : decode cX3_read 38 = .ok (.invokevirtual 48, 3) := by decide +kernel
theorem dX3_read_41 : decode cX3_read 41 = .ok (.aload_n 0, 1) := by decide +kernel
theorem dX3_read_42 : decode cX3_read 42 = .ok (.iconst 0, 1) := by decide +kernel
theorem dX3_read_43 : decode cX3_read 43 = .ok (.iconst 0, 1) := by decide +kernel
theorem dX3_read_44 : decode cX3_read 44 = .ok (.invokevirtual 51, 3) := by decide +kernel
theorem dX3_read_47 : decode cX3_read 47 = .ok (.aload_n 0, 1) := by decide +kernel
theorem dX3_read_48 : decode cX3_read 48 = .ok (.aload_n 0, 1) := by decide +kernel
theorem dX3_read_49 : decode cX3_read 49 = .ok (.getfield 34, 3) := by decide +kernel
theorem dX3_read_52 : decode cX3_read 52 = .ok (.ifCond .ne 17, 3) := by decide +kernel
theorem dX3_read_55 : decode cX3_read 55 = .ok (.aload_n 0, 1) := by decide +kernel
theorem dX3_read_56 : decode cX3_read 56 = .ok (.getfield 31, 3) := by decide +kernel
theorem dX3_read_59 : decode cX3_read 59 = .ok (.aload_n 0, 1) := by decide +kernel
theorem dX3_read_60 : decode cX3_read 60 = .ok (.getfield 14, 3) := by decide +kernel
theorem dX3_read_63 : decode cX3_read 63 = .ok (.getfield 55, 3) := by decide +kernel
theorem dX3_read_66 : decode cX3_read 66 = .ok (.if_icmp .ge 7, 3) := by decide +kernel
theorem dX3_read_69 : decode cX3_read 69 = .ok (.iconst 1, 1) := by decide +kernel
theorem dX3_read_70 : decode cX3_read 70 = .ok (.goto 4, 3) := by decide +kernel
theorem dX3_read_73 : decode cX3_read 73 = .ok (.iconst 0, 1) := by decide +kernel
theorem dX3_read_74 : decode cX3_read 74 = .ok (.putfield 34, 3) := by decide +kernel
theorem dX3_read_77 : decode cX3_read 77 = .ok (.aload_n 0, 1) := by decide +kernel
theorem dX3_read_78 : decode cX3_read 78 = .ok (.getfield 34, 3) := by decide +kernel
theorem dX3_read_81 : decode cX3_read 81 = .ok (.ifCond .eq 10, 3) := by decide +kernel
theorem dX3_read_84 : decode cX3_read 84 = .ok (.aload_n 0, 1) := by decide +kernel
theorem dX3_read_85 : decode cX3_read 85 = .ok (.getfield 31, 3) := by decide +kernel
theorem dX3_read_88 : decode cX3_read 88 = .ok (.goto 4, 3) := by decide +kernel
theorem dX3_read_91 : decode cX3_read 91 = .ok (.iconst (-1), 1) := by decide +kernel
theorem dX3_read_92 : decode cX3_read 92 = .ok (.ireturn, 1) := by decide +kernel
theorem dX3_readLevel_0 : decode cX3_readLevel 0 = .ok (.iload_n 1, 1) := by decide +kernel
theorem dX3_readLevel_1 : decode cX3_readLevel 1 = .ok (.iconst 5, 1) := by decide +kernel
theorem dX3_readLevel_2 : decode cX3_readLevel 2 = .ok (.if_icmp .lt 9, 3) := by decide +kernel
theorem dX3_readLevel_5 : decode cX3_readLevel 5 = .ok (.aload_n 0, 1) := by decide +kernel
theorem dX3_readLevel_6 : decode cX3_readLevel 6 = .ok (.iload_n 2, 1) := by decide +kernel
theorem dX3_readLevel_7 : decode cX3_readLevel 7 = .ok (.invokevirtual 58, 3) := by decide +kernel
theorem dX3_readLevel_10 : decode cX3_readLevel 10 = .ok (.return_, 1) := by decide +kernel
theorem dX3_readLevel_11 : decode cX3_readLevel 11 = .ok (.aload_n 0, 1) := by decide +kernel
theorem dX3_readLevel_12 : decode cX3_readLevel 12 = .ok (.iload_n 1, 1) := by decide +kernel
theorem dX3_readLevel_13 : decode cX3_readLevel 13 = .ok (.iconst 1, 1) := by decide +kernel
theorem dX3_readLevel_14 : decode cX3_readLevel 14 = .ok (.iadd, 1) := by decide +kernel
theorem dX3_readLevel_15 : decode cX3_readLevel 15 = .ok (.iload_n 2, 1) := by decide +kernel
theorem dX3_readLevel_16 : decode cX3_readLevel 16 = .ok (.invokevirtual 51, 3) := by decide +kernel
theorem dX3_readLevel_19 : decode cX3_readLevel 19 = .ok (.iload_n 1, 1) := by decide +kernel
theorem dX3_readLevel_20 : decode cX3_readLevel 20 = .ok (.iconst 2, 1) := by decide +kernel
theorem dX3_readLevel_21 : decode cX3_readLevel 21 = .ok (.if_icmp .ne 7, 3) := by decide +kernel
theorem dX3_readLevel_24 : decode cX3_readLevel 24 = .ok (.iconst 1, 1) := by decide +kernel
theorem dX3_readLevel_25 : decode cX3_readLevel 25 = .ok (.goto 5, 3) := by decide +kernel
theorem dX3_readLevel_28 : decode cX3_readLevel 28 = .ok (.bipush 50, 2) := by decide +kernel
theorem dX3_readLevel_30 : decode cX3_readLevel 30 = .ok (.istore_n 3, 1) := by decide +kernel
theorem dX3_readLevel_31 : decode cX3_readLevel 31 = .ok (.iconst 0, 1) := by decide +kernel
theorem dX3_readLevel_32 : decode cX3_readLevel 32 = .ok (.istore 4, 2) := by decide +kernel
theorem dX3_readLevel_34 : decode cX3_readLevel 34 = .ok (.iload 4, 2) := by decide +kernel
theorem dX3_readLevel_36 : decode cX3_readLevel 36 = .ok (.iload_n 3, 1) := by decide +kernel
theorem dX3_readLevel_37 : decode cX3_readLevel 37 = .ok (.if_icmp .ge 65, 3) := by decide +kernel
theorem dX3_readLevel_40 : decode cX3_readLevel 40 = .ok (.aload_n 0, 1) := by decide +kernel
theorem dX3_readLevel_41 : decode cX3_readLevel 41 = .ok (.getfield 34, 3) := by decide +kernel
theorem dX3_readLevel_44 : decode cX3_readLevel 44 = .ok (.ifCond .ne 58, 3) := by decide +kernel
theorem dX3_readLevel_47 : decode cX3_readLevel 47 = .ok (.aload_n 0, 1) := by decide +kernel
theorem dX3_readLevel_48 : decode cX3_readLevel 48 = .ok (.invokevirtual 61, 3) := by decide +kernel
theorem dX3_readLevel_51 : decode cX3_readLevel 51 = .ok (.invokestatic 65, 3) := by decide +kernel
theorem dX3_readLevel_54 : decode cX3_readLevel 54 = .ok (.iload_n 1, 1) := by decide +kernel
theorem dX3_readLevel_55 : decode cX3_readLevel 55 = .ok (.if_icmp .ne 47, 3) := by decide +kernel
theorem dX3_readLevel_58 : decode cX3_readLevel 58 = .ok (.aload_n 0, 1) := by decide +kernel
theorem dX3_readLevel_59 : decode cX3_readLevel 59 = .ok (.invokevirtual 61, 3) := by decide +kernel
theorem dX3_readLevel_62 : decode cX3_readLevel 62 = .ok (.istore 5, 2) := by decide +kernel
theorem dX3_readLevel_64 : decode cX3_readLevel 64 = .ok (.aload_n 0, 1) := by decide +kernel
theorem dX3_readLevel_65 : decode cX3_readLevel 65 = .ok (.dup, 1) := by decide +kernel
theorem dX3_readLevel_66 : decode cX3_readLevel 66 = .ok (.getfield 31, 3) := by decide +kernel
theorem dX3_readLevel_69 : decode cX3_readLevel 69 = .ok (.iconst 1, 1) := by decide +kernel
theorem dX3_readLevel_70 : decode cX3_readLevel 70 = .ok (.iadd, 1) := by decide +kernel
theorem dX3_readLevel_71 : decode cX3_readLevel 71 = .ok (.putfield 31, 3) := by decide +kernel
theorem dX3_readLevel_74 : decode cX3_readLevel 74 = .ok (.aload_n 0, 1) := by decide +kernel
theorem dX3_readLevel_75 : decode cX3_readLevel 75 = .ok (.iload_n 1, 1) := by decide +kernel
theorem dX3_readLevel_76 : decode cX3_readLevel 76 = .ok (.iconst 1, 1) := by decide +kernel
theorem dX3_readLevel_77 : decode cX3_readLevel 77 = .ok (.iadd, 1) := by decide +kernel
theorem dX3_readLevel_78 : decode cX3_readLevel 78 = .ok (.iload_n 2, 1) := by decide +kernel
theorem dX3_readLevel_79 : decode cX3_readLevel 79 = .ok (.invokevirtual 51, 3) := by decide +kernel
theorem dX3_readLevel_82 : decode cX3_readLevel 82 = .ok (.aload_n 0, 1) := by decide +kernel
theorem dX3_readLevel_83 : decode cX3_readLevel 83 = .ok (.getfield 23, 3) := by decide +kernel
theorem dX3_readLevel_86 : decode cX3_readLevel 86 = .ok (.getfield 45, 3) := by decide +kernel
theorem dX3_readLevel_89 : decode cX3_readLevel 89 = .ok (.iload 5, 2) := by decide +kernel
theorem dX3_readLevel_91 : decode cX3_readLevel 91 = .ok (.ineg, 1) := by decide +kernel
theorem dX3_readLevel_92 : decode cX3_readLevel 92 = .ok (.invokevirtual 69, 3) := by decide +kernel
theorem dX3_readLevel_95 : decode cX3_readLevel 95 = .ok (.pop, 1) := by decide +kernel
theorem dX3_readLevel_96 : decode cX3_readLevel 96 = .ok (.iinc 4 1, 3) := by decide +kernel
theorem dX3_readLevel_99 : decode cX3_readLevel 99 = .ok (.goto (-65), 3) := by decide +kernel
theorem dX3_readLevel_102 : decode cX3_readLevel 102 = .ok (.return_, 1) := by decide +kernel
theorem dX3_readUnit_0 : decode cX3_readUnit 0 = .ok (.aload_n 0, 1) := by decide +kernel
theorem dX3_readUnit_1 : decode cX3_readUnit 1 = .ok (.invokevirtual 61, 3) := by decide +kernel
theorem dX3_readUnit_4 : decode cX3_readUnit 4 = .ok (.istore_n 2, 1) := by decide +kernel
theorem dX3_readUnit_5 : decode cX3_readUnit 5 = .ok (.iload_n 2, 1) := by decide +kernel
theorem dX3_readUnit_6 : decode cX3_readUnit 6 = .ok (.invokestatic 73, 3) := by decide +kernel
theorem dX3_readUnit_9 : decode cX3_readUnit 9 = .ok (.ifCond .eq 10, 3) := by decide +kernel
theorem dX3_readUnit_12 : decode cX3_readUnit 12 = .ok (.aload_n 0, 1) := by decide +kernel
theorem dX3_readUnit_13 : decode cX3_readUnit 13 = .ok (.invokevirtual 76, 3) := by decide +kernel
theorem dX3_readUnit_16 : decode cX3_readUnit 16 = .ok (.goto 125, 3) := by decide +kernel
theorem dX3_readUnit_19 : decode cX3_readUnit 19 = .ok (.aload_n 0, 1) := by decide +kernel
theorem dX3_readUnit_20 : decode cX3_readUnit 20 = .ok (.iload_n 2, 1) := by decide +kernel
theorem dX3_readUnit_21 : decode cX3_readUnit 21 = .ok (.invokevirtual 79, 3) := by decide +kernel
theorem dX3_readUnit_24 : decode cX3_readUnit 24 = .ok (.ifCond .eq 32, 3) := by decide +kernel
theorem dX3_readUnit_27 : decode cX3_readUnit 27 = .ok (.aload_n 0, 1) := by decide +kernel
theorem dX3_readUnit_28 : decode cX3_readUnit 28 = .ok (.dup, 1) := by decide +kernel
theorem dX3_readUnit_29 : decode cX3_readUnit 29 = .ok (.getfield 31, 3) := by decide +kernel
theorem dX3_readUnit_32 : decode cX3_readUnit 32 = .ok (.iconst 1, 1) := by decide +kernel
theorem dX3_readUnit_33 : decode cX3_readUnit 33 = .ok (.iadd, 1) := by decide +kernel
theorem dX3_readUnit_34 : decode cX3_readUnit 34 = .ok (.putfield 31, 3) := by decide +kernel
theorem dX3_readUnit_37 : decode cX3_readUnit 37 = .ok (.aload_n 0, 1) := by decide +kernel
theorem dX3_readUnit_38 : decode cX3_readUnit 38 = .ok (.getfield 23, 3) := by decide +kernel
theorem dX3_readUnit_41 : decode cX3_readUnit 41 = .ok (.getfield 45, 3) := by decide +kernel
theorem dX3_readUnit_44 : decode cX3_readUnit 44 = .ok (.aload_n 0, 1) := by decide +kernel
theorem dX3_readUnit_45 : decode cX3_readUnit 45 = .ok (.iload_n 2, 1) := by decide +kernel
theorem dX3_readUnit_46 : decode cX3_readUnit 46 = .ok (.invokevirtual 79, 3) := by decide +kernel
theorem dX3_readUnit_49 : decode cX3_readUnit 49 = .ok (.invokevirtual 69, 3) := by decide +kernel
theorem dX3_readUnit_52 : decode cX3_readUnit 52 = .ok (.pop, 1) := by decide +kernel
theorem dX3_readUnit_53 : decode cX3_readUnit 53 = .ok (.goto 88, 3) := by decide +kernel
theorem dX3_readUnit_56 : decode cX3_readUnit 56 = .ok (.iload_n 2, 1) := by decide +kernel
theorem dX3_readUnit_57 : decode cX3_readUnit 57 = .ok (.bipush 33, 2) := by decide +kernel
theorem dX3_readUnit_59 : decode cX3_readUnit 59 = .ok (.if_icmp .ne 41, 3) := by decide +kernel
theorem dX3_readUnit_62 : decode cX3_readUnit 62 = .ok (.iload_n 1, 1) := by decide +kernel
theorem dX3_readUnit_63 : decode cX3_readUnit 63 = .ok (.iconst 5, 1) := by decide +kernel
theorem dX3_readUnit_64 : decode cX3_readUnit 64 = .ok (.if_icmp .ge 36, 3) := by decide +kernel
theorem dX3_readUnit_67 : decode cX3_readUnit 67 = .ok (.aload_n 0, 1) := by decide +kernel
theorem dX3_readUnit_68 : decode cX3_readUnit 68 = .ok (.dup, 1) := by decide +kernel
theorem dX3_readUnit_69 : decode cX3_readUnit 69 = .ok (.getfield 31, 3) := by decide +kernel
theorem dX3_readUnit_72 : decode cX3_readUnit 72 = .ok (.iconst 1, 1) := by decide +kernel
theorem dX3_readUnit_73 : decode cX3_readUnit 73 = .ok (.iadd, 1) := by decide +kernel
theorem dX3_readUnit_74 : decode cX3_readUnit 74 = .ok (.putfield 31, 3) := by decide +kernel
theorem dX3_readUnit_77 : decode cX3_readUnit 77 = .ok (.aload_n 0, 1) := by decide +kernel
theorem dX3_readUnit_78 : decode cX3_readUnit 78 = .ok (.iload_n 1, 1) := by decide +kernel
theorem dX3_readUnit_79 : decode cX3_readUnit 79 = .ok (.iconst 1, 1) := by decide +kernel
theorem dX3_readUnit_80 : decode cX3_readUnit 80 = .ok (.iadd, 1) := by decide +kernel
theorem dX3_readUnit_81 : decode cX3_readUnit 81 = .ok (.invokevirtual 58, 3) := by decide +kernel
theorem dX3_readUnit_84 : decode cX3_readUnit 84 = .ok (.aload_n 0, 1) := by decide +kernel
theorem dX3_readUnit_85 : decode cX3_readUnit 85 = .ok (.getfield 23, 3) := by decide +kernel
theorem dX3_readUnit_88 : decode cX3_readUnit 88 = .ok (.getfield 45, 3) := by decide +kernel
theorem dX3_readUnit_91 : decode cX3_readUnit 91 = .ok (.bipush (-33), 2) := by decide +kernel
theorem dX3_readUnit_93 : decode cX3_readUnit 93 = .ok (.invokevirtual 69, 3) := by decide +kernel
theorem dX3_readUnit_96 : decode cX3_readUnit 96 = .ok (.pop, 1) := by decide +kernel
theorem dX3_readUnit_97 : decode cX3_readUnit 97 = .ok (.goto 44, 3) := by decide +kernel
theorem dX3_readUnit_100 : decode cX3_readUnit 100 = .ok (.iload_n 2, 1) := by decide +kernel
theorem dX3_readUnit_101 : decode cX3_readUnit 101 = .ok (.bipush 40, 2) := by decide +kernel
theorem dX3_readUnit_103 : decode cX3_readUnit 103 = .ok (.if_icmp .ne 33, 3) := by decide +kernel
theorem dX3_readUnit_106 : decode cX3_readUnit 106 = .ok (.iload_n 1, 1) := by decide +kernel
theorem dX3_readUnit_107 : decode cX3_readUnit 107 = .ok (.iconst 5, 1) := by decide +kernel
theorem dX3_readUnit_108 : decode cX3_readUnit 108 = .ok (.if_icmp .ge 28, 3) := by decide +kernel
theorem dX3_readUnit_111 : decode cX3_readUnit 111 = .ok (.aload_n 0, 1) := by decide +kernel
theorem dX3_readUnit_112 : decode cX3_readUnit 112 = .ok (.dup, 1) := by decide +kernel
theorem dX3_readUnit_113 : decode cX3_readUnit 113 = .ok (.getfield 31, 3) := by decide +kernel
theorem dX3_readUnit_116 : decode cX3_readUnit 116 = .ok (.iconst 1, 1) := by decide +kernel
theorem dX3_readUnit_117 : decode cX3_readUnit 117 = .ok (.iadd, 1) := by decide +kernel
theorem dX3_readUnit_118 : decode cX3_readUnit 118 = .ok (.putfield 31, 3) := by decide +kernel
theorem dX3_readUnit_121 : decode cX3_readUnit 121 = .ok (.aload_n 0, 1) := by decide +kernel
theorem dX3_readUnit_122 : decode cX3_readUnit 122 = .ok (.iconst 0, 1) := by decide +kernel
theorem dX3_readUnit_123 : decode cX3_readUnit 123 = .ok (.iload_n 1, 1) := by decide +kernel
theorem dX3_readUnit_124 : decode cX3_readUnit 124 = .ok (.iconst 1, 1) := by decide +kernel
theorem dX3_readUnit_125 : decode cX3_readUnit 125 = .ok (.iadd, 1) := by decide +kernel
theorem dX3_readUnit_126 : decode cX3_readUnit 126 = .ok (.invokevirtual 51, 3) := by decide +kernel
theorem dX3_readUnit_129 : decode cX3_readUnit 129 = .ok (.aload_n 0, 1) := by decide +kernel
theorem dX3_readUnit_130 : decode cX3_readUnit 130 = .ok (.invokevirtual 82, 3) := by decide +kernel
theorem dX3_readUnit_133 : decode cX3_readUnit 133 = .ok (.goto 8, 3) := by decide +kernel
theorem dX3_readUnit_136 : decode cX3_readUnit 136 = .ok (.aload_n 0, 1) := by decide +kernel
theorem dX3_readUnit_137 : decode cX3_readUnit 137 = .ok (.iconst 1, 1) := by decide +kernel
theorem dX3_readUnit_138 : decode cX3_readUnit 138 = .ok (.putfield 34, 3) := by decide +kernel
theorem dX3_readUnit_141 : decode cX3_readUnit 141 = .ok (.return_, 1) := by decide +kernel
theorem dX3_close_0 : decode cX3_close 0 = .ok (.aload_n 0, 1) := by decide +kernel
theorem dX3_close_1 : decode cX3_close 1 = .ok (.getfield 34, 3) := by decide +kernel
theorem dX3_close_4 : decode cX3_close 4 = .ok (.ifCond .ne 25, 3) := by decide +kernel
theorem dX3_close_7 : decode cX3_close 7 = .ok (.aload_n 0, 1) := by decide +kernel
theorem dX3_close_8 : decode cX3_close 8 = .ok (.invokevirtual 61, 3) := by decide +kernel
theorem dX3_close_11 : decode cX3_close 11 = .ok (.bipush 41, 2) := by decide +kernel
theorem dX3_close_13 : decode cX3_close 13 = .ok (.if_icmp .ne 16, 3) := by decide +kernel
theorem dX3_close_16 : decode cX3_close 16 = .ok (.aload_n 0, 1) := by decide +kernel
theorem dX3_close_17 : decode cX3_close 17 = .ok (.dup, 1) := by decide +kernel
theorem dX3_close_18 : decode cX3_close 18 = .ok (.getfield 31, 3) := by decide +kernel
theorem dX3_close_21 : decode cX3_close 21 = .ok (.iconst 1, 1) := by decide +kernel
theorem dX3_close_22 : decode cX3_close 22 = .ok (.iadd, 1) := by decide +kernel
theorem dX3_close_23 : decode cX3_close 23 = .ok (.putfield 31, 3) := by decide +kernel
theorem dX3_close_26 : decode cX3_close 26 = .ok (.goto 8, 3) := by decide +kernel
theorem dX3_close_29 : decode cX3_close 29 = .ok (.aload_n 0, 1) := by decide +kernel
theorem dX3_close_30 : decode cX3_close 30 = .ok (.iconst 1, 1) := by decide +kernel
theorem dX3_close_31 : decode cX3_close 31 = .ok (.putfield 34, 3) := by decide +kernel
theorem dX3_close_34 : decode cX3_close 34 = .ok (.return_, 1) := by decide +kernel
theorem dX3_readNumber_0 : decode cX3_readNumber 0 = .ok (.iconst 0, 1) := by decide +kernel
theorem dX3_readNumber_1 : decode cX3_readNumber 1 = .ok (.istore_n 1, 1) := by decide +kernel
theorem dX3_readNumber_2 : decode cX3_readNumber 2 = .ok (.iconst 0, 1) := by decide +kernel
theorem dX3_readNumber_3 : decode cX3_readNumber 3 = .ok (.istore_n 2, 1) := by decide +kernel
theorem dX3_readNumber_4 : decode cX3_readNumber 4 = .ok (.iload_n 2, 1) := by decide +kernel
theorem dX3_readNumber_5 : decode cX3_readNumber 5 = .ok (.iconst 4, 1) := by decide +kernel
theorem dX3_readNumber_6 : decode cX3_readNumber 6 = .ok (.if_icmp .ge 42, 3) := by decide +kernel
theorem dX3_readNumber_9 : decode cX3_readNumber 9 = .ok (.aload_n 0, 1) := by decide +kernel
theorem dX3_readNumber_10 : decode cX3_readNumber 10 = .ok (.invokevirtual 61, 3) := by decide +kernel
theorem dX3_readNumber_13 : decode cX3_readNumber 13 = .ok (.invokestatic 73, 3) := by decide +kernel
theorem dX3_readNumber_16 : decode cX3_readNumber 16 = .ok (.ifCond .eq 32, 3) := by decide +kernel
theorem dX3_readNumber_19 : decode cX3_readNumber 19 = .ok (.iload_n 1, 1) := by decide +kernel
theorem dX3_readNumber_20 : decode cX3_readNumber 20 = .ok (.bipush 10, 2) := by decide +kernel
theorem dX3_readNumber_22 : decode cX3_readNumber 22 = .ok (.imul, 1) := by decide +kernel
theorem dX3_readNumber_23 : decode cX3_readNumber 23 = .ok (.aload_n 0, 1) := by decide +kernel
theorem dX3_readNumber_24 : decode cX3_readNumber 24 = .ok (.invokevirtual 61, 3) := by decide +kernel
theorem dX3_readNumber_27 : decode cX3_readNumber 27 = .ok (.iadd, 1) := by decide +kernel
theorem dX3_readNumber_28 : decode cX3_readNumber 28 = .ok (.bipush 48, 2) := by decide +kernel
theorem dX3_readNumber_30 : decode cX3_readNumber 30 = .ok (.isub, 1) := by decide +kernel
theorem dX3_readNumber_31 : decode cX3_readNumber 31 = .ok (.istore_n 1, 1) := by decide +kernel
theorem dX3_readNumber_32 : decode cX3_readNumber 32 = .ok (.aload_n 0, 1) := by decide +kernel
theorem dX3_readNumber_33 : decode cX3_readNumber 33 = .ok (.dup, 1) := by decide +kernel
theorem dX3_readNumber_34 : decode cX3_readNumber 34 = .ok (.getfield 31, 3) := by decide +kernel
theorem dX3_readNumber_37 : decode cX3_readNumber 37 = .ok (.iconst 1, 1) := by decide +kernel
theorem dX3_readNumber_38 : decode cX3_readNumber 38 = .ok (.iadd, 1) := by decide +kernel
theorem dX3_readNumber_39 : decode cX3_readNumber 39 = .ok (.putfield 31, 3) := by decide +kernel
theorem dX3_readNumber_42 : decode cX3_readNumber 42 = .ok (.iinc 2 1, 3) := by decide +kernel
theorem dX3_readNumber_45 : decode cX3_readNumber 45 = .ok (.goto (-41), 3) := by decide +kernel
theorem dX3_readNumber_48 : decode cX3_readNumber 48 = .ok (.aload_n 0, 1) := by decide +kernel
theorem dX3_readNumber_49 : decode cX3_readNumber 49 = .ok (.getfield 23, 3) := by decide +kernel
theorem dX3_readNumber_52 : decode cX3_readNumber 52 = .ok (.getfield 45, 3) := by decide +kernel
theorem dX3_readNumber_55 : decode cX3_readNumber 55 = .ok (.iload_n 1, 1) := by decide +kernel
theorem dX3_readNumber_56 : decode cX3_readNumber 56 = .ok (.invokevirtual 69, 3) := by decide +kernel
theorem dX3_readNumber_59 : decode cX3_readNumber 59 = .ok (.pop, 1) := by decide +kernel
theorem dX3_readNumber_60 : decode cX3_readNumber 60 = .ok (.return_, 1) := by decide +kernel
theorem dX3_next_0 : decode cX3_next 0 = .ok (.aload_n 0, 1) := by decide +kernel
theorem dX3_next_1 : decode cX3_next 1 = .ok (.getfield 14, 3) := by decide +kernel
theorem dX3_next_4 : decode cX3_next 4 = .ok (.aload_n 0, 1) := by decide +kernel
theorem dX3_next_5 : decode cX3_next 5 = .ok (.getfield 31, 3) := by decide +kernel
theorem dX3_next_8 : decode cX3_next 8 = .ok (.invokevirtual 85, 3) := by decide +kernel
theorem dX3_next_11 : decode cX3_next 11 = .ok (.ifCond .eq 17, 3) := by decide +kernel
theorem dX3_next_14 : decode cX3_next 14 = .ok (.aload_n 0, 1) := by decide +kernel
theorem dX3_next_15 : decode cX3_next 15 = .ok (.getfield 14, 3) := by decide +kernel
theorem dX3_next_18 : decode cX3_next 18 = .ok (.aload_n 0, 1) := by decide +kernel
theorem dX3_next_19 : decode cX3_next 19 = .ok (.getfield 31, 3) := by decide +kernel
theorem dX3_next_22 : decode cX3_next 22 = .ok (.invokevirtual 88, 3) := by decide +kernel
theorem dX3_next_25 : decode cX3_next 25 = .ok (.goto 4, 3) := by decide +kernel
theorem dX3_next_28 : decode cX3_next 28 = .ok (.iconst (-1), 1) := by decide +kernel
theorem dX3_next_29 : decode cX3_next 29 = .ok (.ireturn, 1) := by decide +kernel
theorem dX3_isDigit_0 : decode cX3_isDigit 0 = .ok (.iload_n 0, 1) := by decide +kernel
theorem dX3_isDigit_1 : decode cX3_isDigit 1 = .ok (.bipush 48, 2) := by decide +kernel
theorem dX3_isDigit_3 : decode cX3_isDigit 3 = .ok (.if_icmp .lt 13, 3) := by decide +kernel
theorem dX3_isDigit_6 : decode cX3_isDigit 6 = .ok (.iload_n 0, 1) := by decide +kernel
theorem dX3_isDigit_7 : decode cX3_isDigit 7 = .ok (.bipush 57, 2) := by decide +kernel
theorem dX3_isDigit_9 : decode cX3_isDigit 9 = .ok (.if_icmp .gt 7, 3) := by decide +kernel
theorem dX3_isDigit_12 : decode cX3_isDigit 12 = .ok (.iconst 1, 1) := by decide +kernel
theorem dX3_isDigit_13 : decode cX3_isDigit 13 = .ok (.goto 4, 3) := by decide +kernel
theorem dX3_isDigit_16 : decode cX3_isDigit 16 = .ok (.iconst 0, 1) := by decide +kernel
theorem dX3_isDigit_17 : decode cX3_isDigit 17 = .ok (.ireturn, 1) := by decide +kernel
theorem dX3_nameOf_0 : decode cX3_nameOf 0 = .ok (.iload_n 1, 1) := by decide +kernel
theorem dX3_nameOf_1 : decode cX3_nameOf 1 = .ok (.lookupswitch 77 #[(102, 62), (104, 45), (108, 48), (119, 43)], 43) := by decide +kernel
theorem dX3_nameOf_44 : decode cX3_nameOf 44 = .ok (.iconst (-1), 1) := by decide +kernel
theorem dX3_nameOf_45 : decode cX3_nameOf 45 = .ok (.ireturn, 1) := by decide +kernel
theorem dX3_nameOf_46 : decode cX3_nameOf 46 = .ok (.bipush (-2), 2) := by decide +kernel
theorem dX3_nameOf_48 : decode cX3_nameOf 48 = .ok (.ireturn, 1) := by decide +kernel
theorem dX3_nameOf_49 : decode cX3_nameOf 49 = .ok (.aload_n 0, 1) := by decide +kernel
theorem dX3_nameOf_50 : decode cX3_nameOf 50 = .ok (.getfield 27, 3) := by decide +kernel
theorem dX3_nameOf_53 : decode cX3_nameOf 53 = .ok (.ifCond .ne 8, 3) := by decide +kernel
theorem dX3_nameOf_56 : decode cX3_nameOf 56 = .ok (.bipush (-3), 2) := by decide +kernel
theorem dX3_nameOf_58 : decode cX3_nameOf 58 = .ok (.goto 4, 3) := by decide +kernel
theorem dX3_nameOf_61 : decode cX3_nameOf 61 = .ok (.iconst 0, 1) := by decide +kernel
theorem dX3_nameOf_62 : decode cX3_nameOf 62 = .ok (.ireturn, 1) := by decide +kernel
theorem dX3_nameOf_63 : decode cX3_nameOf 63 = .ok (.aload_n 0, 1) := by decide +kernel
theorem dX3_nameOf_64 : decode cX3_nameOf 64 = .ok (.getfield 27, 3) := by decide +kernel
theorem dX3_nameOf_67 : decode cX3_nameOf 67 = .ok (.iconst 1, 1) := by decide +kernel
theorem dX3_nameOf_68 : decode cX3_nameOf 68 = .ok (.if_icmp .ne 8, 3) := by decide +kernel
theorem dX3_nameOf_71 : decode cX3_nameOf 71 = .ok (.bipush (-3), 2) := by decide +kernel
theorem dX3_nameOf_73 : decode cX3_nameOf 73 = .ok (.goto 4, 3) := by decide +kernel
theorem dX3_nameOf_76 : decode cX3_nameOf 76 = .ok (.iconst 0, 1) := by decide +kernel
theorem dX3_nameOf_77 : decode cX3_nameOf 77 = .ok (.ireturn, 1) := by decide +kernel
theorem dX3_nameOf_78 : decode cX3_nameOf 78 = .ok (.iconst 0, 1) := by decide +kernel
theorem dX3_nameOf_79 : decode cX3_nameOf 79 = .ok (.ireturn, 1) := by decide +kernel
theorem dX3_levelOf_0 : decode cX3_levelOf 0 = .ok (.iload_n 0, 1) := by decide +kernel
theorem dX3_levelOf_1 : decode cX3_levelOf 1 = .ok (.lookupswitch 101 #[(37, 99), (38, 93), (42, 99), (43, 97), (45, 97), (47, 99), (60, 95), (61, 95), (62, 95), (124, 91)], 91) := by decide +kernel
theorem dX3_levelOf_92 : decode cX3_levelOf 92 = .ok (.iconst 0, 1) := by decide +kernel
theorem dX3_levelOf_93 : decode cX3_levelOf 93 = .ok (.ireturn, 1) := by decide +kernel
theorem dX3_levelOf_94 : decode cX3_levelOf 94 = .ok (.iconst 1, 1) := by decide +kernel
theorem dX3_levelOf_95 : decode cX3_levelOf 95 = .ok (.ireturn, 1) := by decide +kernel
theorem dX3_levelOf_96 : decode cX3_levelOf 96 = .ok (.iconst 2, 1) := by decide +kernel
theorem dX3_levelOf_97 : decode cX3_levelOf 97 = .ok (.ireturn, 1) := by decide +kernel
theorem dX3_levelOf_98 : decode cX3_levelOf 98 = .ok (.iconst 3, 1) := by decide +kernel
theorem dX3_levelOf_99 : decode cX3_levelOf 99 = .ok (.ireturn, 1) := by decide +kernel
theorem dX3_levelOf_100 : decode cX3_levelOf 100 = .ok (.iconst 4, 1) := by decide +kernel
theorem dX3_levelOf_101 : decode cX3_levelOf 101 = .ok (.ireturn, 1) := by decide +kernel
theorem dX3_levelOf_102 : decode cX3_levelOf 102 = .ok (.iconst 5, 1) := by decide +kernel
theorem dX3_levelOf_103 : decode cX3_levelOf 103 = .ok (.ireturn, 1) := by decide +kernel
theorem dX4_has_0 : decode cX4_has 0 = .ok (.iload_n 1, 1) := by decide +kernel
theorem dX4_has_1 : decode cX4_has 1 = .ok (.ifCond .lt 24, 3) := by decide +kernel
theorem dX4_has_4 : decode cX4_has 4 = .ok (.iload_n 1, 1) := by decide +kernel
theorem dX4_has_5 : decode cX4_has 5 = .ok (.aload_n 0, 1) := by decide +kernel
theorem dX4_has_6 : decode cX4_has 6 = .ok (.getfield 7, 3) := by decide +kernel
theorem dX4_has_9 : decode cX4_has 9 = .ok (.if_icmp .ge 16, 3) := by decide +kernel
theorem dX4_has_12 : decode cX4_has 12 = .ok (.iload_n 1, 1) := by decide +kernel
theorem dX4_has_13 : decode cX4_has 13 = .ok (.aload_n 0, 1) := by decide +kernel
theorem dX4_has_14 : decode cX4_has 14 = .ok (.getfield 19, 3) := by decide +kernel
theorem dX4_has_17 : decode cX4_has 17 = .ok (.arraylength, 1) := by decide +kernel
theorem dX4_has_18 : decode cX4_has 18 = .ok (.if_icmp .ge 7, 3) := by decide +kernel
theorem dX4_has_21 : decode cX4_has 21 = .ok (.iconst 1, 1) := by decide +kernel
theorem dX4_has_22 : decode cX4_has 22 = .ok (.goto 4, 3) := by decide +kernel
theorem dX4_has_25 : decode cX4_has 25 = .ok (.iconst 0, 1) := by decide +kernel
theorem dX4_has_26 : decode cX4_has 26 = .ok (.ireturn, 1) := by decide +kernel
theorem dX4_at_0 : decode cX4_at 0 = .ok (.iload_n 1, 1) := by decide +kernel
theorem dX4_at_1 : decode cX4_at 1 = .ok (.ifCond .lt 29, 3) := by decide +kernel
theorem dX4_at_4 : decode cX4_at 4 = .ok (.iload_n 1, 1) := by decide +kernel
theorem dX4_at_5 : decode cX4_at 5 = .ok (.aload_n 0, 1) := by decide +kernel
theorem dX4_at_6 : decode cX4_at 6 = .ok (.getfield 7, 3) := by decide +kernel
theorem dX4_at_9 : decode cX4_at 9 = .ok (.if_icmp .ge 21, 3) := by decide +kernel
theorem dX4_at_12 : decode cX4_at 12 = .ok (.iload_n 1, 1) := by decide +kernel
theorem dX4_at_13 : decode cX4_at 13 = .ok (.aload_n 0, 1) := by decide +kernel
theorem dX4_at_14 : decode cX4_at 14 = .ok (.getfield 19, 3) := by decide +kernel
theorem dX4_at_17 : decode cX4_at 17 = .ok (.arraylength, 1) := by decide +kernel
theorem dX4_at_18 : decode cX4_at 18 = .ok (.if_icmp .ge 12, 3) := by decide +kernel
theorem dX4_at_21 : decode cX4_at 21 = .ok (.aload_n 0, 1) := by decide +kernel
theorem dX4_at_22 : decode cX4_at 22 = .ok (.getfield 19, 3) := by decide +kernel
theorem dX4_at_25 : decode cX4_at 25 = .ok (.iload_n 1, 1) := by decide +kernel
theorem dX4_at_26 : decode cX4_at 26 = .ok (.iaload, 1) := by decide +kernel
theorem dX4_at_27 : decode cX4_at 27 = .ok (.goto 4, 3) := by decide +kernel
theorem dX4_at_30 : decode cX4_at 30 = .ok (.iconst 0, 1) := by decide +kernel
theorem dX4_at_31 : decode cX4_at 31 = .ok (.ireturn, 1) := by decide +kernel
theorem dX4_write_0 : decode cX4_write 0 = .ok (.aload_n 0, 1) := by decide +kernel
theorem dX4_write_1 : decode cX4_write 1 = .ok (.iload_n 1, 1) := by decide +kernel
theorem dX4_write_2 : decode cX4_write 2 = .ok (.invokevirtual 23, 3) := by decide +kernel
theorem dX4_write_5 : decode cX4_write 5 = .ok (.ifCond .eq 10, 3) := by decide +kernel
theorem dX4_write_8 : decode cX4_write 8 = .ok (.aload_n 0, 1) := by decide +kernel
theorem dX4_write_9 : decode cX4_write 9 = .ok (.getfield 19, 3) := by decide +kernel
theorem dX4_write_12 : decode cX4_write 12 = .ok (.iload_n 1, 1) := by decide +kernel
theorem dX4_write_13 : decode cX4_write 13 = .ok (.iload_n 2, 1) := by decide +kernel
theorem dX4_write_14 : decode cX4_write 14 = .ok (.iastore, 1) := by decide +kernel
theorem dX4_write_15 : decode cX4_write 15 = .ok (.return_, 1) := by decide +kernel
theorem dX4_add_0 : decode cX4_add 0 = .ok (.aload_n 0, 1) := by decide +kernel
theorem dX4_add_1 : decode cX4_add 1 = .ok (.getfield 7, 3) := by decide +kernel
theorem dX4_add_4 : decode cX4_add 4 = .ok (.aload_n 0, 1) := by decide +kernel
theorem dX4_add_5 : decode cX4_add 5 = .ok (.getfield 19, 3) := by decide +kernel
theorem dX4_add_8 : decode cX4_add 8 = .ok (.arraylength, 1) := by decide +kernel
theorem dX4_add_9 : decode cX4_add 9 = .ok (.if_icmp .lt 5, 3) := by decide +kernel
theorem dX4_add_12 : decode cX4_add 12 = .ok (.iconst 0, 1) := by decide +kernel
theorem dX4_add_13 : decode cX4_add 13 = .ok (.ireturn, 1) := by decide +kernel
theorem dX4_add_14 : decode cX4_add 14 = .ok (.aload_n 0, 1) := by decide +kernel
theorem dX4_add_15 : decode cX4_add 15 = .ok (.getfield 19, 3) := by decide +kernel
theorem dX4_add_18 : decode cX4_add 18 = .ok (.aload_n 0, 1) := by decide +kernel
theorem dX4_add_19 : decode cX4_add 19 = .ok (.getfield 7, 3) := by decide +kernel
theorem dX4_add_22 : decode cX4_add 22 = .ok (.iload_n 1, 1) := by decide +kernel
theorem dX4_add_23 : decode cX4_add 23 = .ok (.iastore, 1) := by decide +kernel
theorem dX4_add_24 : decode cX4_add 24 = .ok (.aload_n 0, 1) := by decide +kernel
theorem dX4_add_25 : decode cX4_add 25 = .ok (.dup, 1) := by decide +kernel
theorem dX4_add_26 : decode cX4_add 26 = .ok (.getfield 7, 3) := by decide +kernel
theorem dX4_add_29 : decode cX4_add 29 = .ok (.iconst 1, 1) := by decide +kernel
theorem dX4_add_30 : decode cX4_add 30 = .ok (.iadd, 1) := by decide +kernel
theorem dX4_add_31 : decode cX4_add 31 = .ok (.putfield 7, 3) := by decide +kernel
theorem dX4_add_34 : decode cX4_add 34 = .ok (.iconst 1, 1) := by decide +kernel
theorem dX4_add_35 : decode cX4_add 35 = .ok (.ireturn, 1) := by decide +kernel
theorem dX4_clear_0 : decode cX4_clear 0 = .ok (.aload_n 0, 1) := by decide +kernel
theorem dX4_clear_1 : decode cX4_clear 1 = .ok (.iconst 0, 1) := by decide +kernel
theorem dX4_clear_2 : decode cX4_clear 2 = .ok (.putfield 7, 3) := by decide +kernel
theorem dX4_clear_5 : decode cX4_clear 5 = .ok (.return_, 1) := by decide +kernel
theorem dX4_fillWithZeros_0 : decode cX4_fillWithZeros 0 = .ok (.aload_n 0, 1) := by decide +kernel
theorem dX4_fillWithZeros_1 : decode cX4_fillWithZeros 1 = .ok (.iconst 0, 1) := by decide +kernel
theorem dX4_fillWithZeros_2 : decode cX4_fillWithZeros 2 = .ok (.iload_n 1, 1) := by decide +kernel
theorem dX4_fillWithZeros_3 : decode cX4_fillWithZeros 3 = .ok (.aload_n 0, 1) := by decide +kernel
theorem dX4_fillWithZeros_4 : decode cX4_fillWithZeros 4 = .ok (.getfield 19, 3) := by decide +kernel
theorem dX4_fillWithZeros_7 : decode cX4_fillWithZeros 7 = .ok (.arraylength, 1) := by decide +kernel
theorem dX4_fillWithZeros_8 : decode cX4_fillWithZeros 8 = .ok (.invokestatic 27, 3) := by decide +kernel
theorem dX4_fillWithZeros_11 : decode cX4_fillWithZeros 11 = .ok (.invokestatic 13, 3) := by decide +kernel
theorem dX4_fillWithZeros_14 : decode cX4_fillWithZeros 14 = .ok (.putfield 7, 3) := by decide +kernel
theorem dX4_fillWithZeros_17 : decode cX4_fillWithZeros 17 = .ok (.iconst 0, 1) := by decide +kernel
theorem dX4_fillWithZeros_18 : decode cX4_fillWithZeros 18 = .ok (.istore_n 2, 1) := by decide +kernel
theorem dX4_fillWithZeros_19 : decode cX4_fillWithZeros 19 = .ok (.iload_n 2, 1) := by decide +kernel
theorem dX4_fillWithZeros_20 : decode cX4_fillWithZeros 20 = .ok (.aload_n 0, 1) := by decide +kernel
theorem dX4_fillWithZeros_21 : decode cX4_fillWithZeros 21 = .ok (.getfield 7, 3) := by decide +kernel
theorem dX4_fillWithZeros_24 : decode cX4_fillWithZeros 24 = .ok (.if_icmp .ge 16, 3) := by decide +kernel
theorem dX4_fillWithZeros_27 : decode cX4_fillWithZeros 27 = .ok (.aload_n 0, 1) := by decide +kernel
theorem dX4_fillWithZeros_28 : decode cX4_fillWithZeros 28 = .ok (.getfield 19, 3) := by decide +kernel
theorem dX4_fillWithZeros_31 : decode cX4_fillWithZeros 31 = .ok (.iload_n 2, 1) := by decide +kernel
theorem dX4_fillWithZeros_32 : decode cX4_fillWithZeros 32 = .ok (.iconst 0, 1) := by decide +kernel
theorem dX4_fillWithZeros_33 : decode cX4_fillWithZeros 33 = .ok (.iastore, 1) := by decide +kernel
theorem dX4_fillWithZeros_34 : decode cX4_fillWithZeros 34 = .ok (.iinc 2 1, 3) := by decide +kernel
theorem dX4_fillWithZeros_37 : decode cX4_fillWithZeros 37 = .ok (.goto (-18), 3) := by decide +kernel
theorem dX4_fillWithZeros_40 : decode cX4_fillWithZeros 40 = .ok (.return_, 1) := by decide +kernel
theorem dX4_hasRun_0 : decode cX4_hasRun 0 = .ok (.iload_n 1, 1) := by decide +kernel
theorem dX4_hasRun_1 : decode cX4_hasRun 1 = .ok (.ifCond .lt 29, 3) := by decide +kernel
theorem dX4_hasRun_4 : decode cX4_hasRun 4 = .ok (.iload_n 2, 1) := by decide +kernel
theorem dX4_hasRun_5 : decode cX4_hasRun 5 = .ok (.ifCond .lt 25, 3) := by decide +kernel
theorem dX4_hasRun_8 : decode cX4_hasRun 8 = .ok (.iload_n 1, 1) := by decide +kernel
theorem dX4_hasRun_9 : decode cX4_hasRun 9 = .ok (.aload_n 0, 1) := by decide +kernel
theorem dX4_hasRun_10 : decode cX4_hasRun 10 = .ok (.getfield 7, 3) := by decide +kernel
theorem dX4_hasRun_13 : decode cX4_hasRun 13 = .ok (.if_icmp .gt 17, 3) := by decide +kernel
theorem dX4_hasRun_16 : decode cX4_hasRun 16 = .ok (.iload_n 2, 1) := by decide +kernel
theorem dX4_hasRun_17 : decode cX4_hasRun 17 = .ok (.aload_n 0, 1) := by decide +kernel
theorem dX4_hasRun_18 : decode cX4_hasRun 18 = .ok (.getfield 7, 3) := by decide +kernel
theorem dX4_hasRun_21 : decode cX4_hasRun 21 = .ok (.iload_n 1, 1) := by decide +kernel
theorem dX4_hasRun_22 : decode cX4_hasRun 22 = .ok (.isub, 1) := by decide +kernel
theorem dX4_hasRun_23 : decode cX4_hasRun 23 = .ok (.if_icmp .gt 7, 3) := by decide +kernel
theorem dX4_hasRun_26 : decode cX4_hasRun 26 = .ok (.iconst 1, 1) := by decide +kernel
theorem dX4_hasRun_27 : decode cX4_hasRun 27 = .ok (.goto 4, 3) := by decide +kernel
theorem dX4_hasRun_30 : decode cX4_hasRun 30 = .ok (.iconst 0, 1) := by decide +kernel
theorem dX4_hasRun_31 : decode cX4_hasRun 31 = .ok (.ireturn, 1) := by decide +kernel
theorem dX4_takeRun_0 : decode cX4_takeRun 0 = .ok (.aload_n 1, 1) := by decide +kernel
theorem dX4_takeRun_1 : decode cX4_takeRun 1 = .ok (.iload_n 2, 1) := by decide +kernel
theorem dX4_takeRun_2 : decode cX4_takeRun 2 = .ok (.iload 4, 2) := by decide +kernel
theorem dX4_takeRun_4 : decode cX4_takeRun 4 = .ok (.invokevirtual 30, 3) := by decide +kernel
theorem dX4_takeRun_7 : decode cX4_takeRun 7 = .ok (.ifCond .eq 28, 3) := by decide +kernel
theorem dX4_takeRun_10 : decode cX4_takeRun 10 = .ok (.aload_n 0, 1) := by decide +kernel
theorem dX4_takeRun_11 : decode cX4_takeRun 11 = .ok (.iload_n 3, 1) := by decide +kernel
theorem dX4_takeRun_12 : decode cX4_takeRun 12 = .ok (.iload 4, 2) := by decide +kernel
theorem dX4_takeRun_14 : decode cX4_takeRun 14 = .ok (.invokevirtual 30, 3) := by decide +kernel
theorem dX4_takeRun_17 : decode cX4_takeRun 17 = .ok (.ifCond .eq 18, 3) := by decide +kernel
theorem dX4_takeRun_20 : decode cX4_takeRun 20 = .ok (.aload_n 1, 1) := by decide +kernel
theorem dX4_takeRun_21 : decode cX4_takeRun 21 = .ok (.getfield 19, 3) := by decide +kernel
theorem dX4_takeRun_24 : decode cX4_takeRun 24 = .ok (.iload_n 2, 1) := by decide +kernel
theorem dX4_takeRun_25 : decode cX4_takeRun 25 = .ok (.aload_n 0, 1) := by decide +kernel
theorem dX4_takeRun_26 : decode cX4_takeRun 26 = .ok (.getfield 19, 3) := by decide +kernel
theorem dX4_takeRun_29 : decode cX4_takeRun 29 = .ok (.iload_n 3, 1) := by decide +kernel
theorem dX4_takeRun_30 : decode cX4_takeRun 30 = .ok (.iload 4, 2) := by decide +kernel
theorem dX4_takeRun_32 : decode cX4_takeRun 32 = .ok (.invokestatic 34, 3) := by decide +kernel
theorem dX4_takeRun_35 : decode cX4_takeRun 35 = .ok (.return_, 1) := by decide +kernel
theorem dX4_copyFrom_0 : decode cX4_copyFrom 0 = .ok (.aload_n 0, 1) := by decide +kernel
theorem dX4_copyFrom_1 : decode cX4_copyFrom 1 = .ok (.aload_n 1, 1) := by decide +kernel
theorem dX4_copyFrom_2 : decode cX4_copyFrom 2 = .ok (.getfield 7, 3) := by decide +kernel
theorem dX4_copyFrom_5 : decode cX4_copyFrom 5 = .ok (.aload_n 0, 1) := by decide +kernel
theorem dX4_copyFrom_6 : decode cX4_copyFrom 6 = .ok (.getfield 19, 3) := by decide +kernel
theorem dX4_copyFrom_9 : decode cX4_copyFrom 9 = .ok (.arraylength, 1) := by decide +kernel
theorem dX4_copyFrom_10 : decode cX4_copyFrom 10 = .ok (.invokestatic 27, 3) := by decide +kernel
theorem dX4_copyFrom_13 : decode cX4_copyFrom 13 = .ok (.putfield 7, 3) := by decide +kernel
theorem dX4_copyFrom_16 : decode cX4_copyFrom 16 = .ok (.aload_n 0, 1) := by decide +kernel
theorem dX4_copyFrom_17 : decode cX4_copyFrom 17 = .ok (.aload_n 1, 1) := by decide +kernel
theorem dX4_copyFrom_18 : decode cX4_copyFrom 18 = .ok (.iconst 0, 1) := by decide +kernel
theorem dX4_copyFrom_19 : decode cX4_copyFrom 19 = .ok (.iconst 0, 1) := by decide +kernel
theorem dX4_copyFrom_20 : decode cX4_copyFrom 20 = .ok (.aload_n 0, 1) := by decide +kernel
theorem dX4_copyFrom_21 : decode cX4_copyFrom 21 = .ok (.getfield 7, 3) := by decide +kernel
theorem dX4_copyFrom_24 : decode cX4_copyFrom 24 = .ok (.invokevirtual 40, 3) := by decide +kernel
theorem dX4_copyFrom_27 : decode cX4_copyFrom 27 = .ok (.return_, 1) := by decide +kernel
theorem dX5_areBits_0 : decode cX5_areBits 0 = .ok (.iload_n 0, 1) := by decide +kernel
theorem dX5_areBits_1 : decode cX5_areBits 1 = .ok (.ifCond .eq 21, 3) := by decide +kernel
theorem dX5_areBits_4 : decode cX5_areBits 4 = .ok (.iload_n 0, 1) := by decide +kernel
theorem dX5_areBits_5 : decode cX5_areBits 5 = .ok (.bipush 8, 2) := by decide +kernel
theorem dX5_areBits_7 : decode cX5_areBits 7 = .ok (.if_icmp .eq 15, 3) := by decide +kernel
theorem dX5_areBits_10 : decode cX5_areBits 10 = .ok (.iload_n 0, 1) := by decide +kernel
theorem dX5_areBits_11 : decode cX5_areBits 11 = .ok (.bipush 16, 2) := by decide +kernel
theorem dX5_areBits_13 : decode cX5_areBits 13 = .ok (.if_icmp .eq 9, 3) := by decide +kernel
theorem dX5_areBits_16 : decode cX5_areBits 16 = .ok (.iload_n 0, 1) := by decide +kernel
theorem dX5_areBits_17 : decode cX5_areBits 17 = .ok (.bipush 32, 2) := by decide +kernel
theorem dX5_areBits_19 : decode cX5_areBits 19 = .ok (.if_icmp .ne 7, 3) := by decide +kernel
theorem dX5_areBits_22 : decode cX5_areBits 22 = .ok (.iconst 1, 1) := by decide +kernel
theorem dX5_areBits_23 : decode cX5_areBits 23 = .ok (.goto 4, 3) := by decide +kernel
theorem dX5_areBits_26 : decode cX5_areBits 26 = .ok (.iconst 0, 1) := by decide +kernel
theorem dX5_areBits_27 : decode cX5_areBits 27 = .ok (.ireturn, 1) := by decide +kernel
theorem dX5_isMissing_0 : decode cX5_isMissing 0 = .ok (.aload_n 0, 1) := by decide +kernel
theorem dX5_isMissing_1 : decode cX5_isMissing 1 = .ok (.getfield 20, 3) := by decide +kernel
theorem dX5_isMissing_4 : decode cX5_isMissing 4 = .ok (.ifCond .ne 7, 3) := by decide +kernel
theorem dX5_isMissing_7 : decode cX5_isMissing 7 = .ok (.iconst 1, 1) := by decide +kernel
theorem dX5_isMissing_8 : decode cX5_isMissing 8 = .ok (.goto 4, 3) := by decide +kernel
theorem dX5_isMissing_11 : decode cX5_isMissing 11 = .ok (.iconst 0, 1) := by decide +kernel
theorem dX5_isMissing_12 : decode cX5_isMissing 12 = .ok (.ireturn, 1) := by decide +kernel
theorem dX5_make_0 : decode cX5_make 0 = .ok (.aload_n 0, 1) := by decide +kernel
theorem dX5_make_1 : decode cX5_make 1 = .ok (.iload_n 1, 1) := by decide +kernel
theorem dX5_make_2 : decode cX5_make 2 = .ok (.putfield 20, 3) := by decide +kernel
theorem dX5_make_5 : decode cX5_make 5 = .ok (.aload_n 0, 1) := by decide +kernel
theorem dX5_make_6 : decode cX5_make 6 = .ok (.getfield 14, 3) := by decide +kernel
theorem dX5_make_9 : decode cX5_make 9 = .ok (.iload_n 2, 1) := by decide +kernel
theorem dX5_make_10 : decode cX5_make 10 = .ok (.invokevirtual 24, 3) := by decide +kernel
theorem dX5_make_13 : decode cX5_make 13 = .ok (.return_, 1) := by decide +kernel
theorem dX5_write_0 : decode cX5_write 0 = .ok (.aload_n 0, 1) := by decide +kernel
theorem dX5_write_1 : decode cX5_write 1 = .ok (.getfield 14, 3) := by decide +kernel
theorem dX5_write_4 : decode cX5_write 4 = .ok (.iload_n 1, 1) := by decide +kernel
theorem dX5_write_5 : decode cX5_write 5 = .ok (.aload_n 0, 1) := by decide +kernel
theorem dX5_write_6 : decode cX5_write 6 = .ok (.getfield 20, 3) := by decide +kernel
theorem dX5_write_9 : decode cX5_write 9 = .ok (.bipush 8, 2) := by decide +kernel
theorem dX5_write_11 : decode cX5_write 11 = .ok (.if_icmp .ne 8, 3) := by decide +kernel
theorem dX5_write_14 : decode cX5_write 14 = .ok (.iload_n 2, 1) := by decide +kernel
theorem dX5_write_15 : decode cX5_write 15 = .ok (.i2b, 1) := by decide +kernel
theorem dX5_write_16 : decode cX5_write 16 = .ok (.goto 18, 3) := by decide +kernel
theorem dX5_write_19 : decode cX5_write 19 = .ok (.aload_n 0, 1) := by decide +kernel
theorem dX5_write_20 : decode cX5_write 20 = .ok (.getfield 20, 3) := by decide +kernel
theorem dX5_write_23 : decode cX5_write 23 = .ok (.bipush 16, 2) := by decide +kernel
theorem dX5_write_25 : decode cX5_write 25 = .ok (.if_icmp .ne 8, 3) := by decide +kernel
theorem dX5_write_28 : decode cX5_write 28 = .ok (.iload_n 2, 1) := by decide +kernel
theorem dX5_write_29 : decode cX5_write 29 = .ok (.i2s, 1) := by decide +kernel
theorem dX5_write_30 : decode cX5_write 30 = .ok (.goto 4, 3) := by decide +kernel
theorem dX5_write_33 : decode cX5_write 33 = .ok (.iload_n 2, 1) := by decide +kernel
theorem dX5_write_34 : decode cX5_write 34 = .ok (.invokevirtual 27, 3) := by decide +kernel
theorem dX5_write_37 : decode cX5_write 37 = .ok (.return_, 1) := by decide +kernel
theorem dX6_partOfFigure_0 : decode cX6_partOfFigure 0 = .ok (.iload_n 1, 1) := by decide +kernel
theorem dX6_partOfFigure_1 : decode cX6_partOfFigure 1 = .ok (.tableswitch 63 0 3 #[31, 39, 47, 55], 31) := by decide +kernel
theorem dX6_partOfFigure_32 : decode cX6_partOfFigure 32 = .ok (.aload_n 0, 1) := by decide +kernel
theorem dX6_partOfFigure_33 : decode cX6_partOfFigure 33 = .ok (.getfield 12, 3) := by decide +kernel
theorem dX6_partOfFigure_36 : decode cX6_partOfFigure 36 = .ok (.getfield 41, 3) := by decide +kernel
theorem dX6_partOfFigure_39 : decode cX6_partOfFigure 39 = .ok (.ireturn, 1) := by decide +kernel
theorem dX6_partOfFigure_40 : decode cX6_partOfFigure 40 = .ok (.aload_n 0, 1) := by decide +kernel
theorem dX6_partOfFigure_41 : decode cX6_partOfFigure 41 = .ok (.getfield 12, 3) := by decide +kernel
theorem dX6_partOfFigure_44 : decode cX6_partOfFigure 44 = .ok (.getfield 44, 3) := by decide +kernel
theorem dX6_partOfFigure_47 : decode cX6_partOfFigure 47 = .ok (.ireturn, 1) := by decide +kernel
theorem dX6_partOfFigure_48 : decode cX6_partOfFigure 48 = .ok (.aload_n 0, 1) := by decide +kernel
theorem dX6_partOfFigure_49 : decode cX6_partOfFigure 49 = .ok (.getfield 12, 3) := by decide +kernel
theorem dX6_partOfFigure_52 : decode cX6_partOfFigure 52 = .ok (.getfield 47, 3) := by decide +kernel
theorem dX6_partOfFigure_55 : decode cX6_partOfFigure 55 = .ok (.ireturn, 1) := by decide +kernel
theorem dX6_partOfFigure_56 : decode cX6_partOfFigure 56 = .ok (.aload_n 0, 1) := by decide +kernel
theorem dX6_partOfFigure_57 : decode cX6_partOfFigure 57 = .ok (.getfield 21, 3) := by decide +kernel
theorem dX6_partOfFigure_60 : decode cX6_partOfFigure 60 = .ok (.getfield 50, 3) := by decide +kernel
theorem dX6_partOfFigure_63 : decode cX6_partOfFigure 63 = .ok (.ireturn, 1) := by decide +kernel
theorem dX6_partOfFigure_64 : decode cX6_partOfFigure 64 = .ok (.aload_n 0, 1) := by decide +kernel
theorem dX6_partOfFigure_65 : decode cX6_partOfFigure 65 = .ok (.getfield 21, 3) := by decide +kernel
theorem dX6_partOfFigure_68 : decode cX6_partOfFigure 68 = .ok (.getfield 53, 3) := by decide +kernel
theorem dX6_partOfFigure_71 : decode cX6_partOfFigure 71 = .ok (.ireturn, 1) := by decide +kernel
theorem dX6_setPartOfFigure_0 : decode cX6_setPartOfFigure 0 = .ok (.iload_n 1, 1) := by decide +kernel
theorem dX6_setPartOfFigure_1 : decode cX6_setPartOfFigure 1 = .ok (.tableswitch 75 0 3 #[31, 42, 53, 64], 31) := by decide +kernel
theorem dX6_setPartOfFigure_32 : decode cX6_setPartOfFigure 32 = .ok (.aload_n 0, 1) := by decide +kernel
theorem dX6_setPartOfFigure_33 : decode cX6_setPartOfFigure 33 = .ok (.getfield 12, 3) := by decide +kernel
theorem dX6_setPartOfFigure_36 : decode cX6_setPartOfFigure 36 = .ok (.iload_n 2, 1) := by decide +kernel
theorem dX6_setPartOfFigure_37 : decode cX6_setPartOfFigure 37 = .ok (.putfield 41, 3) := by decide +kernel
theorem dX6_setPartOfFigure_40 : decode cX6_setPartOfFigure 40 = .ok (.goto 44, 3) := by decide +kernel
theorem dX6_setPartOfFigure_43 : decode cX6_setPartOfFigure 43 = .ok (.aload_n 0, 1) := by decide +kernel
theorem dX6_setPartOfFigure_44 : decode cX6_setPartOfFigure 44 = .ok (.getfield 12, 3) := by decide +kernel
theorem dX6_setPartOfFigure_47 : decode cX6_setPartOfFigure 47 = .ok (.iload_n 2, 1) := by decide +kernel
theorem dX6_setPartOfFigure_48 : decode cX6_setPartOfFigure 48 = .ok (.putfield 44, 3) := by decide +kernel
theorem dX6_setPartOfFigure_51 : decode cX6_setPartOfFigure 51 = .ok (.goto 33, 3) := by decide +kernel
theorem dX6_setPartOfFigure_54 : decode cX6_setPartOfFigure 54 = .ok (.aload_n 0, 1) := by decide +kernel
theorem dX6_setPartOfFigure_55 : decode cX6_setPartOfFigure 55 = .ok (.getfield 12, 3) := by decide +kernel
theorem dX6_setPartOfFigure_58 : decode cX6_setPartOfFigure 58 = .ok (.iload_n 2, 1) := by decide +kernel
theorem dX6_setPartOfFigure_59 : decode cX6_setPartOfFigure 59 = .ok (.putfield 47, 3) := by decide +kernel
theorem dX6_setPartOfFigure_62 : decode cX6_setPartOfFigure 62 = .ok (.goto 22, 3) := by decide +kernel
theorem dX6_setPartOfFigure_65 : decode cX6_setPartOfFigure 65 = .ok (.aload_n 0, 1) := by decide +kernel
theorem dX6_setPartOfFigure_66 : decode cX6_setPartOfFigure 66 = .ok (.getfield 21, 3) := by decide +kernel
theorem dX6_setPartOfFigure_69 : decode cX6_setPartOfFigure 69 = .ok (.iload_n 2, 1) := by decide +kernel
theorem dX6_setPartOfFigure_70 : decode cX6_setPartOfFigure 70 = .ok (.putfield 50, 3) := by decide +kernel
theorem dX6_setPartOfFigure_73 : decode cX6_setPartOfFigure 73 = .ok (.goto 11, 3) := by decide +kernel
theorem dX6_setPartOfFigure_76 : decode cX6_setPartOfFigure 76 = .ok (.aload_n 0, 1) := by decide +kernel
theorem dX6_setPartOfFigure_77 : decode cX6_setPartOfFigure 77 = .ok (.getfield 21, 3) := by decide +kernel
theorem dX6_setPartOfFigure_80 : decode cX6_setPartOfFigure 80 = .ok (.iload_n 2, 1) := by decide +kernel
theorem dX6_setPartOfFigure_81 : decode cX6_setPartOfFigure 81 = .ok (.putfield 53, 3) := by decide +kernel
theorem dX6_setPartOfFigure_84 : decode cX6_setPartOfFigure 84 = .ok (.return_, 1) := by decide +kernel
theorem dX6_drawRain_0 : decode cX6_drawRain 0 = .ok (.aload_n 0, 1) := by decide +kernel
theorem dX6_drawRain_1 : decode cX6_drawRain 1 = .ok (.invokevirtual 56, 3) := by decide +kernel
theorem dX6_drawRain_4 : decode cX6_drawRain 4 = .ok (.bipush 6, 2) := by decide +kernel
theorem dX6_drawRain_6 : decode cX6_drawRain 6 = .ok (.irem, 1) := by decide +kernel
theorem dX6_drawRain_7 : decode cX6_drawRain 7 = .ok (.istore_n 1, 1) := by decide +kernel
theorem dX6_drawRain_8 : decode cX6_drawRain 8 = .ok (.aload_n 0, 1) := by decide +kernel
theorem dX6_drawRain_9 : decode cX6_drawRain 9 = .ok (.invokevirtual 56, 3) := by decide +kernel
theorem dX6_drawRain_12 : decode cX6_drawRain 12 = .ok (.bipush 10, 2) := by decide +kernel
theorem dX6_drawRain_14 : decode cX6_drawRain 14 = .ok (.irem, 1) := by decide +kernel
theorem dX6_drawRain_15 : decode cX6_drawRain 15 = .ok (.istore_n 2, 1) := by decide +kernel
theorem dX6_drawRain_16 : decode cX6_drawRain 16 = .ok (.iload_n 1, 1) := by decide +kernel
theorem dX6_drawRain_17 : decode cX6_drawRain 17 = .ok (.aload_n 0, 1) := by decide +kernel
theorem dX6_drawRain_18 : decode cX6_drawRain 18 = .ok (.getfield 12, 3) := by decide +kernel
theorem dX6_drawRain_21 : decode cX6_drawRain 21 = .ok (.getfield 60, 3) := by decide +kernel
theorem dX6_drawRain_24 : decode cX6_drawRain 24 = .ok (.invokestatic 64, 3) := by decide +kernel
theorem dX6_drawRain_27 : decode cX6_drawRain 27 = .ok (.ifCond .eq 13, 3) := by decide +kernel
theorem dX6_drawRain_30 : decode cX6_drawRain 30 = .ok (.aload_n 0, 1) := by decide +kernel
theorem dX6_drawRain_31 : decode cX6_drawRain 31 = .ok (.getfield 12, 3) := by decide +kernel
theorem dX6_drawRain_34 : decode cX6_drawRain 34 = .ok (.getfield 60, 3) := by decide +kernel
theorem dX6_drawRain_37 : decode cX6_drawRain 37 = .ok (.iload_n 1, 1) := by decide +kernel
theorem dX6_drawRain_38 : decode cX6_drawRain 38 = .ok (.iload_n 2, 1) := by decide +kernel
theorem dX6_drawRain_39 : decode cX6_drawRain 39 = .ok (.iastore, 1) := by decide +kernel
theorem dX6_drawRain_40 : decode cX6_drawRain 40 = .ok (.return_, 1) := by decide +kernel
theorem dX6_draw_0 : decode cX6_draw 0 = .ok (.aload_n 0, 1) := by decide +kernel
theorem dX6_draw_1 : decode cX6_draw 1 = .ok (.aload_n 0, 1) := by decide +kernel
theorem dX6_draw_2 : decode cX6_draw 2 = .ok (.getfield 37, 3) := by decide +kernel
theorem dX6_draw_5 : decode cX6_draw 5 = .ok (.ldc 68, 2) := by decide +kernel
theorem dX6_draw_7 : decode cX6_draw 7 = .ok (.imul, 1) := by decide +kernel
theorem dX6_draw_8 : decode cX6_draw 8 = .ok (.sipush 12345, 3) := by decide +kernel
theorem dX6_draw_11 : decode cX6_draw 11 = .ok (.iadd, 1) := by decide +kernel
theorem dX6_draw_12 : decode cX6_draw 12 = .ok (.putfield 37, 3) := by decide +kernel
theorem dX6_draw_15 : decode cX6_draw 15 = .ok (.aload_n 0, 1) := by decide +kernel
theorem dX6_draw_16 : decode cX6_draw 16 = .ok (.getfield 37, 3) := by decide +kernel
theorem dX6_draw_19 : decode cX6_draw 19 = .ok (.bipush 8, 2) := by decide +kernel
theorem dX6_draw_21 : decode cX6_draw 21 = .ok (.iushr, 1) := by decide +kernel
theorem dX6_draw_22 : decode cX6_draw 22 = .ok (.ireturn, 1) := by decide +kernel
theorem dX6_copyFrom_0 : decode cX6_copyFrom 0 = .ok (.aload_n 0, 1) := by decide +kernel
theorem dX6_copyFrom_1 : decode cX6_copyFrom 1 = .ok (.getfield 12, 3) := by decide +kernel
theorem dX6_copyFrom_4 : decode cX6_copyFrom 4 = .ok (.aload_n 1, 1) := by decide +kernel
theorem dX6_copyFrom_5 : decode cX6_copyFrom 5 = .ok (.getfield 12, 3) := by decide +kernel
theorem dX6_copyFrom_8 : decode cX6_copyFrom 8 = .ok (.invokevirtual 69, 3) := by decide +kernel
theorem dX6_copyFrom_11 : decode cX6_copyFrom 11 = .ok (.aload_n 0, 1) := by decide +kernel
theorem dX6_copyFrom_12 : decode cX6_copyFrom 12 = .ok (.getfield 21, 3) := by decide +kernel
theorem dX6_copyFrom_15 : decode cX6_copyFrom 15 = .ok (.aload_n 1, 1) := by decide +kernel
theorem dX6_copyFrom_16 : decode cX6_copyFrom 16 = .ok (.getfield 21, 3) := by decide +kernel
theorem dX6_copyFrom_19 : decode cX6_copyFrom 19 = .ok (.invokevirtual 73, 3) := by decide +kernel
theorem dX6_copyFrom_22 : decode cX6_copyFrom 22 = .ok (.aload_n 0, 1) := by decide +kernel
theorem dX6_copyFrom_23 : decode cX6_copyFrom 23 = .ok (.getfield 30, 3) := by decide +kernel
theorem dX6_copyFrom_26 : decode cX6_copyFrom 26 = .ok (.aload_n 1, 1) := by decide +kernel
theorem dX6_copyFrom_27 : decode cX6_copyFrom 27 = .ok (.getfield 30, 3) := by decide +kernel
theorem dX6_copyFrom_30 : decode cX6_copyFrom 30 = .ok (.invokevirtual 76, 3) := by decide +kernel
theorem dX6_copyFrom_33 : decode cX6_copyFrom 33 = .ok (.aload_n 0, 1) := by decide +kernel
theorem dX6_copyFrom_34 : decode cX6_copyFrom 34 = .ok (.getfield 34, 3) := by decide +kernel
theorem dX6_copyFrom_37 : decode cX6_copyFrom 37 = .ok (.aload_n 1, 1) := by decide +kernel
theorem dX6_copyFrom_38 : decode cX6_copyFrom 38 = .ok (.getfield 34, 3) := by decide +kernel
theorem dX6_copyFrom_41 : decode cX6_copyFrom 41 = .ok (.invokevirtual 76, 3) := by decide +kernel
theorem dX6_copyFrom_44 : decode cX6_copyFrom 44 = .ok (.aload_n 0, 1) := by decide +kernel
theorem dX6_copyFrom_45 : decode cX6_copyFrom 45 = .ok (.aload_n 1, 1) := by decide +kernel
theorem dX6_copyFrom_46 : decode cX6_copyFrom 46 = .ok (.getfield 37, 3) := by decide +kernel
theorem dX6_copyFrom_49 : decode cX6_copyFrom 49 = .ok (.putfield 37, 3) := by decide +kernel
theorem dX6_copyFrom_52 : decode cX6_copyFrom 52 = .ok (.return_, 1) := by decide +kernel
theorem dX7_has_0 : decode cX7_has 0 = .ok (.iload_n 1, 1) := by decide +kernel
theorem dX7_has_1 : decode cX7_has 1 = .ok (.ifCond .lt 24, 3) := by decide +kernel
theorem dX7_has_4 : decode cX7_has 4 = .ok (.iload_n 1, 1) := by decide +kernel
theorem dX7_has_5 : decode cX7_has 5 = .ok (.aload_n 0, 1) := by decide +kernel
theorem dX7_has_6 : decode cX7_has 6 = .ok (.getfield 22, 3) := by decide +kernel
theorem dX7_has_9 : decode cX7_has 9 = .ok (.if_icmp .ge 16, 3) := by decide +kernel
theorem dX7_has_12 : decode cX7_has 12 = .ok (.aload_n 0, 1) := by decide +kernel
theorem dX7_has_13 : decode cX7_has 13 = .ok (.getfield 22, 3) := by decide +kernel
theorem dX7_has_16 : decode cX7_has 16 = .ok (.bipush 8, 2) := by decide +kernel
theorem dX7_has_18 : decode cX7_has 18 = .ok (.if_icmp .gt 7, 3) := by decide +kernel
theorem dX7_has_21 : decode cX7_has 21 = .ok (.iconst 1, 1) := by decide +kernel
theorem dX7_has_22 : decode cX7_has 22 = .ok (.goto 4, 3) := by decide +kernel
theorem dX7_has_25 : decode cX7_has 25 = .ok (.iconst 0, 1) := by decide +kernel
theorem dX7_has_26 : decode cX7_has 26 = .ok (.ireturn, 1) := by decide +kernel
theorem dX7_add_0 : decode cX7_add 0 = .ok (.aload_n 0, 1) := by decide +kernel
theorem dX7_add_1 : decode cX7_add 1 = .ok (.getfield 22, 3) := by decide +kernel
theorem dX7_add_4 : decode cX7_add 4 = .ok (.bipush 8, 2) := by decide +kernel
theorem dX7_add_6 : decode cX7_add 6 = .ok (.if_icmp .lt 5, 3) := by decide +kernel
theorem dX7_add_9 : decode cX7_add 9 = .ok (.iconst (-1), 1) := by decide +kernel
theorem dX7_add_10 : decode cX7_add 10 = .ok (.ireturn, 1) := by decide +kernel
theorem dX7_add_11 : decode cX7_add 11 = .ok (.aload_n 0, 1) := by decide +kernel
theorem dX7_add_12 : decode cX7_add 12 = .ok (.getfield 9, 3) := by decide +kernel
theorem dX7_add_15 : decode cX7_add 15 = .ok (.aload_n 0, 1) := by decide +kernel
theorem dX7_add_16 : decode cX7_add 16 = .ok (.getfield 22, 3) := by decide +kernel
theorem dX7_add_19 : decode cX7_add 19 = .ok (.iload_n 1, 1) := by decide +kernel
theorem dX7_add_20 : decode cX7_add 20 = .ok (.bipush 10, 2) := by decide +kernel
theorem dX7_add_22 : decode cX7_add 22 = .ok (.idiv, 1) := by decide +kernel
theorem dX7_add_23 : decode cX7_add 23 = .ok (.iastore, 1) := by decide +kernel
theorem dX7_add_24 : decode cX7_add 24 = .ok (.aload_n 0, 1) := by decide +kernel
theorem dX7_add_25 : decode cX7_add 25 = .ok (.getfield 13, 3) := by decide +kernel
theorem dX7_add_28 : decode cX7_add 28 = .ok (.aload_n 0, 1) := by decide +kernel
theorem dX7_add_29 : decode cX7_add 29 = .ok (.getfield 22, 3) := by decide +kernel
theorem dX7_add_32 : decode cX7_add 32 = .ok (.iload_n 1, 1) := by decide +kernel
theorem dX7_add_33 : decode cX7_add 33 = .ok (.bipush 10, 2) := by decide +kernel
theorem dX7_add_35 : decode cX7_add 35 = .ok (.irem, 1) := by decide +kernel
theorem dX7_add_36 : decode cX7_add 36 = .ok (.iastore, 1) := by decide +kernel
theorem dX7_add_37 : decode cX7_add 37 = .ok (.aload_n 0, 1) := by decide +kernel
theorem dX7_add_38 : decode cX7_add 38 = .ok (.getfield 16, 3) := by decide +kernel
theorem dX7_add_41 : decode cX7_add 41 = .ok (.aload_n 0, 1) := by decide +kernel
theorem dX7_add_42 : decode cX7_add 42 = .ok (.getfield 22, 3) := by decide +kernel
theorem dX7_add_45 : decode cX7_add 45 = .ok (.iload_n 2, 1) := by decide +kernel
theorem dX7_add_46 : decode cX7_add 46 = .ok (.iastore, 1) := by decide +kernel
theorem dX7_add_47 : decode cX7_add 47 = .ok (.aload_n 0, 1) := by decide +kernel
theorem dX7_add_48 : decode cX7_add 48 = .ok (.getfield 19, 3) := by decide +kernel
theorem dX7_add_51 : decode cX7_add 51 = .ok (.aload_n 0, 1) := by decide +kernel
theorem dX7_add_52 : decode cX7_add 52 = .ok (.getfield 22, 3) := by decide +kernel
theorem dX7_add_55 : decode cX7_add 55 = .ok (.iload_n 3, 1) := by decide +kernel
theorem dX7_add_56 : decode cX7_add 56 = .ok (.iastore, 1) := by decide +kernel
theorem dX7_add_57 : decode cX7_add 57 = .ok (.aload_n 0, 1) := by decide +kernel
theorem dX7_add_58 : decode cX7_add 58 = .ok (.dup, 1) := by decide +kernel
theorem dX7_add_59 : decode cX7_add 59 = .ok (.getfield 22, 3) := by decide +kernel
theorem dX7_add_62 : decode cX7_add 62 = .ok (.iconst 1, 1) := by decide +kernel
theorem dX7_add_63 : decode cX7_add 63 = .ok (.iadd, 1) := by decide +kernel
theorem dX7_add_64 : decode cX7_add 64 = .ok (.putfield 22, 3) := by decide +kernel
theorem dX7_add_67 : decode cX7_add 67 = .ok (.aload_n 0, 1) := by decide +kernel
theorem dX7_add_68 : decode cX7_add 68 = .ok (.getfield 22, 3) := by decide +kernel
theorem dX7_add_71 : decode cX7_add 71 = .ok (.iconst 1, 1) := by decide +kernel
theorem dX7_add_72 : decode cX7_add 72 = .ok (.isub, 1) := by decide +kernel
theorem dX7_add_73 : decode cX7_add 73 = .ok (.ireturn, 1) := by decide +kernel
theorem dX7_kindAbove_0 : decode cX7_kindAbove 0 = .ok (.iload_n 0, 1) := by decide +kernel
theorem dX7_kindAbove_1 : decode cX7_kindAbove 1 = .ok (.getstatic 29, 3) := by decide +kernel
theorem dX7_kindAbove_4 : decode cX7_kindAbove 4 = .ok (.invokestatic 32, 3) := by decide +kernel
theorem dX7_kindAbove_7 : decode cX7_kindAbove 7 = .ok (.ifCond .eq 11, 3) := by decide +kernel
theorem dX7_kindAbove_10 : decode cX7_kindAbove 10 = .ok (.getstatic 29, 3) := by decide +kernel
theorem dX7_kindAbove_13 : decode cX7_kindAbove 13 = .ok (.iload_n 0, 1) := by decide +kernel
theorem dX7_kindAbove_14 : decode cX7_kindAbove 14 = .ok (.iaload, 1) := by decide +kernel
theorem dX7_kindAbove_15 : decode cX7_kindAbove 15 = .ok (.goto 4, 3) := by decide +kernel
theorem dX7_kindAbove_18 : decode cX7_kindAbove 18 = .ok (.iconst (-1), 1) := by decide +kernel
theorem dX7_kindAbove_19 : decode cX7_kindAbove 19 = .ok (.ireturn, 1) := by decide +kernel
theorem dX7_isUnder_0 : decode cX7_isUnder 0 = .ok (.iload_n 0, 1) := by decide +kernel
theorem dX7_isUnder_1 : decode cX7_isUnder 1 = .ok (.istore_n 2, 1) := by decide +kernel
theorem dX7_isUnder_2 : decode cX7_isUnder 2 = .ok (.iconst 0, 1) := by decide +kernel
theorem dX7_isUnder_3 : decode cX7_isUnder 3 = .ok (.istore_n 3, 1) := by decide +kernel
theorem dX7_isUnder_4 : decode cX7_isUnder 4 = .ok (.iload_n 3, 1) := by decide +kernel
theorem dX7_isUnder_5 : decode cX7_isUnder 5 = .ok (.bipush 7, 2) := by decide +kernel
theorem dX7_isUnder_7 : decode cX7_isUnder 7 = .ok (.if_icmp .ge 25, 3) := by decide +kernel
theorem dX7_isUnder_10 : decode cX7_isUnder 10 = .ok (.iload_n 2, 1) := by decide +kernel
theorem dX7_isUnder_11 : decode cX7_isUnder 11 = .ok (.ifCond .lt 21, 3) := by decide +kernel
theorem dX7_isUnder_14 : decode cX7_isUnder 14 = .ok (.iload_n 2, 1) := by decide +kernel
theorem dX7_isUnder_15 : decode cX7_isUnder 15 = .ok (.iload_n 1, 1) := by decide +kernel
theorem dX7_isUnder_16 : decode cX7_isUnder 16 = .ok (.if_icmp .ne 5, 3) := by decide +kernel
theorem dX7_isUnder_19 : decode cX7_isUnder 19 = .ok (.iconst 1, 1) := by decide +kernel
theorem dX7_isUnder_20 : decode cX7_isUnder 20 = .ok (.ireturn, 1) := by decide +kernel
theorem dX7_isUnder_21 : decode cX7_isUnder 21 = .ok (.iload_n 2, 1) := by decide +kernel
theorem dX7_isUnder_22 : decode cX7_isUnder 22 = .ok (.invokestatic 38, 3) := by decide +kernel
theorem dX7_isUnder_25 : decode cX7_isUnder 25 = .ok (.istore_n 2, 1) := by decide +kernel
theorem dX7_isUnder_26 : decode cX7_isUnder 26 = .ok (.iinc 3 1, 3) := by decide +kernel
theorem dX7_isUnder_29 : decode cX7_isUnder 29 = .ok (.goto (-25), 3) := by decide +kernel
theorem dX7_isUnder_32 : decode cX7_isUnder 32 = .ok (.iconst 0, 1) := by decide +kernel
theorem dX7_isUnder_33 : decode cX7_isUnder 33 = .ok (.ireturn, 1) := by decide +kernel
theorem dX7_comes_0 : decode cX7_comes 0 = .ok (.aload_n 0, 1) := by decide +kernel
theorem dX7_comes_1 : decode cX7_comes 1 = .ok (.iload_n 1, 1) := by decide +kernel
theorem dX7_comes_2 : decode cX7_comes 2 = .ok (.invokevirtual 42, 3) := by decide +kernel
theorem dX7_comes_5 : decode cX7_comes 5 = .ok (.ifCond .eq 11, 3) := by decide +kernel
theorem dX7_comes_8 : decode cX7_comes 8 = .ok (.iload_n 1, 1) := by decide +kernel
theorem dX7_comes_9 : decode cX7_comes 9 = .ok (.aload_n 0, 1) := by decide +kernel
theorem dX7_comes_10 : decode cX7_comes 10 = .ok (.getfield 26, 3) := by decide +kernel
theorem dX7_comes_13 : decode cX7_comes 13 = .ok (.if_icmp .ne 5, 3) := by decide +kernel
theorem dX7_comes_16 : decode cX7_comes 16 = .ok (.iconst 0, 1) := by decide +kernel
theorem dX7_comes_17 : decode cX7_comes 17 = .ok (.ireturn, 1) := by decide +kernel
theorem dX7_comes_18 : decode cX7_comes 18 = .ok (.aload_n 0, 1) := by decide +kernel
theorem dX7_comes_19 : decode cX7_comes 19 = .ok (.getfield 19, 3) := by decide +kernel
theorem dX7_comes_22 : decode cX7_comes 22 = .ok (.iload_n 1, 1) := by decide +kernel
theorem dX7_comes_23 : decode cX7_comes 23 = .ok (.iaload, 1) := by decide +kernel
theorem dX7_comes_24 : decode cX7_comes 24 = .ok (.ifCond .le 18, 3) := by decide +kernel
theorem dX7_comes_27 : decode cX7_comes 27 = .ok (.iload_n 2, 1) := by decide +kernel
theorem dX7_comes_28 : decode cX7_comes 28 = .ok (.aload_n 0, 1) := by decide +kernel
theorem dX7_comes_29 : decode cX7_comes 29 = .ok (.getfield 19, 3) := by decide +kernel
theorem dX7_comes_32 : decode cX7_comes 32 = .ok (.iload_n 1, 1) := by decide +kernel
theorem dX7_comes_33 : decode cX7_comes 33 = .ok (.iaload, 1) := by decide +kernel
theorem dX7_comes_34 : decode cX7_comes 34 = .ok (.irem, 1) := by decide +kernel
theorem dX7_comes_35 : decode cX7_comes 35 = .ok (.ifCond .ne 7, 3) := by decide +kernel
theorem dX7_comes_38 : decode cX7_comes 38 = .ok (.iconst 1, 1) := by decide +kernel
theorem dX7_comes_39 : decode cX7_comes 39 = .ok (.goto 4, 3) := by decide +kernel
theorem dX7_comes_42 : decode cX7_comes 42 = .ok (.iconst 0, 1) := by decide +kernel
theorem dX7_comes_43 : decode cX7_comes 43 = .ok (.istore 4, 2) := by decide +kernel
theorem dX7_comes_45 : decode cX7_comes 45 = .ok (.aload_n 0, 1) := by decide +kernel
theorem dX7_comes_46 : decode cX7_comes 46 = .ok (.getfield 9, 3) := by decide +kernel
theorem dX7_comes_49 : decode cX7_comes 49 = .ok (.iload_n 1, 1) := by decide +kernel
theorem dX7_comes_50 : decode cX7_comes 50 = .ok (.iaload, 1) := by decide +kernel
theorem dX7_comes_51 : decode cX7_comes 51 = .ok (.tableswitch 101 2 6 #[33, 101, 44, 61, 77], 33) := by decide +kernel
theorem dX7_comes_84 : decode cX7_comes 84 = .ok (.iload_n 3, 1) := by decide +kernel
theorem dX7_comes_85 : decode cX7_comes 85 = .ok (.iconst 5, 1) := by decide +kernel
theorem dX7_comes_86 : decode cX7_comes 86 = .ok (.if_icmp .ge 7, 3) := by decide +kernel
theorem dX7_comes_89 : decode cX7_comes 89 = .ok (.iconst 1, 1) := by decide +kernel
theorem dX7_comes_90 : decode cX7_comes 90 = .ok (.goto 4, 3) := by decide +kernel
theorem dX7_comes_93 : decode cX7_comes 93 = .ok (.iconst 0, 1) := by decide +kernel
theorem dX7_comes_94 : decode cX7_comes 94 = .ok (.ireturn, 1) := by decide +kernel
theorem dX7_comes_95 : decode cX7_comes 95 = .ok (.iload 4, 2) := by decide +kernel
theorem dX7_comes_97 : decode cX7_comes 97 = .ok (.ifCond .eq 13, 3) := by decide +kernel
theorem dX7_comes_100 : decode cX7_comes 100 = .ok (.iload_n 3, 1) := by decide +kernel
theorem dX7_comes_101 : decode cX7_comes 101 = .ok (.bipush 6, 2) := by decide +kernel
theorem dX7_comes_103 : decode cX7_comes 103 = .ok (.if_icmp .gt 7, 3) := by decide +kernel
theorem dX7_comes_106 : decode cX7_comes 106 = .ok (.iconst 1, 1) := by decide +kernel
theorem dX7_comes_107 : decode cX7_comes 107 = .ok (.goto 4, 3) := by decide +kernel
theorem dX7_comes_110 : decode cX7_comes 110 = .ok (.iconst 0, 1) := by decide +kernel
theorem dX7_comes_111 : decode cX7_comes 111 = .ok (.ireturn, 1) := by decide +kernel
theorem dX7_comes_112 : decode cX7_comes 112 = .ok (.iload_n 3, 1) := by decide +kernel
theorem dX7_comes_113 : decode cX7_comes 113 = .ok (.iconst 5, 1) := by decide +kernel
theorem dX7_comes_114 : decode cX7_comes 114 = .ok (.if_icmp .ge 12, 3) := by decide +kernel
theorem dX7_comes_117 : decode cX7_comes 117 = .ok (.iload 4, 2) := by decide +kernel
theorem dX7_comes_119 : decode cX7_comes 119 = .ok (.ifCond .eq 7, 3) := by decide +kernel
theorem dX7_comes_122 : decode cX7_comes 122 = .ok (.iconst 1, 1) := by decide +kernel
theorem dX7_comes_123 : decode cX7_comes 123 = .ok (.goto 4, 3) := by decide +kernel
theorem dX7_comes_126 : decode cX7_comes 126 = .ok (.iconst 0, 1) := by decide +kernel
theorem dX7_comes_127 : decode cX7_comes 127 = .ok (.ireturn, 1) := by decide +kernel
theorem dX7_comes_128 : decode cX7_comes 128 = .ok (.iload 4, 2) := by decide +kernel
theorem dX7_comes_130 : decode cX7_comes 130 = .ok (.ifCond .eq 20, 3) := by decide +kernel
theorem dX7_comes_133 : decode cX7_comes 133 = .ok (.iload_n 2, 1) := by decide +kernel
theorem dX7_comes_134 : decode cX7_comes 134 = .ok (.bipush 10, 2) := by decide +kernel
theorem dX7_comes_136 : decode cX7_comes 136 = .ok (.irem, 1) := by decide +kernel
theorem dX7_comes_137 : decode cX7_comes 137 = .ok (.aload_n 0, 1) := by decide +kernel
theorem dX7_comes_138 : decode cX7_comes 138 = .ok (.getfield 13, 3) := by decide +kernel
theorem dX7_comes_141 : decode cX7_comes 141 = .ok (.iload_n 1, 1) := by decide +kernel
theorem dX7_comes_142 : decode cX7_comes 142 = .ok (.iaload, 1) := by decide +kernel
theorem dX7_comes_143 : decode cX7_comes 143 = .ok (.if_icmp .eq 7, 3) := by decide +kernel
theorem dX7_comes_146 : decode cX7_comes 146 = .ok (.iconst 1, 1) := by decide +kernel
theorem dX7_comes_147 : decode cX7_comes 147 = .ok (.goto 4, 3) := by decide +kernel
theorem dX7_comes_150 : decode cX7_comes 150 = .ok (.iconst 0, 1) := by decide +kernel
theorem dX7_comes_151 : decode cX7_comes 151 = .ok (.ireturn, 1) := by decide +kernel
theorem dX7_comes_152 : decode cX7_comes 152 = .ok (.iload 4, 2) := by decide +kernel
theorem dX7_comes_154 : decode cX7_comes 154 = .ok (.ireturn, 1) := by decide +kernel
theorem dX7_keeps_0 : decode cX7_keeps 0 = .ok (.aload_n 0, 1) := by decide +kernel
theorem dX7_keeps_1 : decode cX7_keeps 1 = .ok (.iload_n 1, 1) := by decide +kernel
theorem dX7_keeps_2 : decode cX7_keeps 2 = .ok (.invokevirtual 42, 3) := by decide +kernel
theorem dX7_keeps_5 : decode cX7_keeps 5 = .ok (.ifCond .ne 5, 3) := by decide +kernel
theorem dX7_keeps_8 : decode cX7_keeps 8 = .ok (.iconst 0, 1) := by decide +kernel
theorem dX7_keeps_9 : decode cX7_keeps 9 = .ok (.ireturn, 1) := by decide +kernel
theorem dX7_keeps_10 : decode cX7_keeps 10 = .ok (.aload_n 0, 1) := by decide +kernel
theorem dX7_keeps_11 : decode cX7_keeps 11 = .ok (.getfield 16, 3) := by decide +kernel
theorem dX7_keeps_14 : decode cX7_keeps 14 = .ok (.iload_n 1, 1) := by decide +kernel
theorem dX7_keeps_15 : decode cX7_keeps 15 = .ok (.iaload, 1) := by decide +kernel
theorem dX7_keeps_16 : decode cX7_keeps 16 = .ok (.iconst 2, 1) := by decide +kernel
theorem dX7_keeps_17 : decode cX7_keeps 17 = .ok (.idiv, 1) := by decide +kernel
theorem dX7_keeps_18 : decode cX7_keeps 18 = .ok (.aload_n 0, 1) := by decide +kernel
theorem dX7_keeps_19 : decode cX7_keeps 19 = .ok (.getfield 13, 3) := by decide +kernel
theorem dX7_keeps_22 : decode cX7_keeps 22 = .ok (.iload_n 1, 1) := by decide +kernel
theorem dX7_keeps_23 : decode cX7_keeps 23 = .ok (.iaload, 1) := by decide +kernel
theorem dX7_keeps_24 : decode cX7_keeps 24 = .ok (.iconst 3, 1) := by decide +kernel
theorem dX7_keeps_25 : decode cX7_keeps 25 = .ok (.idiv, 1) := by decide +kernel
theorem dX7_keeps_26 : decode cX7_keeps 26 = .ok (.iadd, 1) := by decide +kernel
theorem dX7_keeps_27 : decode cX7_keeps 27 = .ok (.istore 4, 2) := by decide +kernel
theorem dX7_keeps_29 : decode cX7_keeps 29 = .ok (.aload_n 0, 1) := by decide +kernel
theorem dX7_keeps_30 : decode cX7_keeps 30 = .ok (.getfield 9, 3) := by decide +kernel
theorem dX7_keeps_33 : decode cX7_keeps 33 = .ok (.iload_n 1, 1) := by decide +kernel
theorem dX7_keeps_34 : decode cX7_keeps 34 = .ok (.iaload, 1) := by decide +kernel
theorem dX7_keeps_35 : decode cX7_keeps 35 = .ok (.tableswitch 84 1 6 #[37, 44, 46, 49, 67, 69], 37) := by decide +kernel
theorem dX7_keeps_72 : decode cX7_keeps 72 = .ok (.aload_n 0, 1) := by decide +kernel
theorem dX7_keeps_73 : decode cX7_keeps 73 = .ok (.getfield 16, 3) := by decide +kernel
theorem dX7_keeps_76 : decode cX7_keeps 76 = .ok (.iload_n 1, 1) := by decide +kernel
theorem dX7_keeps_77 : decode cX7_keeps 77 = .ok (.iaload, 1) := by decide +kernel
theorem dX7_keeps_78 : decode cX7_keeps 78 = .ok (.ireturn, 1) := by decide +kernel
theorem dX7_keeps_79 : decode cX7_keeps 79 = .ok (.iconst 1, 1) := by decide +kernel
theorem dX7_keeps_80 : decode cX7_keeps 80 = .ok (.ireturn, 1) := by decide +kernel
theorem dX7_keeps_81 : decode cX7_keeps 81 = .ok (.iload 4, 2) := by decide +kernel
theorem dX7_keeps_83 : decode cX7_keeps 83 = .ok (.ireturn, 1) := by decide +kernel
theorem dX7_keeps_84 : decode cX7_keeps 84 = .ok (.aload_n 0, 1) := by decide +kernel
theorem dX7_keeps_85 : decode cX7_keeps 85 = .ok (.getfield 16, 3) := by decide +kernel
theorem dX7_keeps_88 : decode cX7_keeps 88 = .ok (.iload_n 1, 1) := by decide +kernel
theorem dX7_keeps_89 : decode cX7_keeps 89 = .ok (.iaload, 1) := by decide +kernel
theorem dX7_keeps_90 : decode cX7_keeps 90 = .ok (.iload_n 3, 1) := by decide +kernel
theorem dX7_keeps_91 : decode cX7_keeps 91 = .ok (.iconst 5, 1) := by decide +kernel
theorem dX7_keeps_92 : decode cX7_keeps 92 = .ok (.if_icmp .le 7, 3) := by decide +kernel
theorem dX7_keeps_95 : decode cX7_keeps 95 = .ok (.iconst 2, 1) := by decide +kernel
theorem dX7_keeps_96 : decode cX7_keeps 96 = .ok (.goto 4, 3) := by decide +kernel
theorem dX7_keeps_99 : decode cX7_keeps 99 = .ok (.iconst 0, 1) := by decide +kernel
theorem dX7_keeps_100 : decode cX7_keeps 100 = .ok (.iadd, 1) := by decide +kernel
theorem dX7_keeps_101 : decode cX7_keeps 101 = .ok (.ireturn, 1) := by decide +kernel
theorem dX7_keeps_102 : decode cX7_keeps 102 = .ok (.iconst 2, 1) := by decide +kernel
theorem dX7_keeps_103 : decode cX7_keeps 103 = .ok (.ireturn, 1) := by decide +kernel
theorem dX7_keeps_104 : decode cX7_keeps 104 = .ok (.iload_n 2, 1) := by decide +kernel
theorem dX7_keeps_105 : decode cX7_keeps 105 = .ok (.bipush 60, 2) := by decide +kernel
theorem dX7_keeps_107 : decode cX7_keeps 107 = .ok (.if_icmp .le 7, 3) := by decide +kernel
theorem dX7_keeps_110 : decode cX7_keeps 110 = .ok (.iconst 0, 1) := by decide +kernel
theorem dX7_keeps_111 : decode cX7_keeps 111 = .ok (.goto 7, 3) := by decide +kernel
theorem dX7_keeps_114 : decode cX7_keeps 114 = .ok (.iconst 2, 1) := by decide +kernel
theorem dX7_keeps_115 : decode cX7_keeps 115 = .ok (.iload 4, 2) := by decide +kernel
theorem dX7_keeps_117 : decode cX7_keeps 117 = .ok (.imul, 1) := by decide +kernel
theorem dX7_keeps_118 : decode cX7_keeps 118 = .ok (.ireturn, 1) := by decide +kernel
theorem dX7_keeps_119 : decode cX7_keeps 119 = .ok (.aload_n 0, 1) := by decide +kernel
theorem dX7_keeps_120 : decode cX7_keeps 120 = .ok (.getfield 16, 3) := by decide +kernel
theorem dX7_keeps_123 : decode cX7_keeps 123 = .ok (.iload_n 1, 1) := by decide +kernel
theorem dX7_keeps_124 : decode cX7_keeps 124 = .ok (.iaload, 1) := by decide +kernel
theorem dX7_keeps_125 : decode cX7_keeps 125 = .ok (.iconst 2, 1) := by decide +kernel
theorem dX7_keeps_126 : decode cX7_keeps 126 = .ok (.idiv, 1) := by decide +kernel
theorem dX7_keeps_127 : decode cX7_keeps 127 = .ok (.ireturn, 1) := by decide +kernel
theorem dX7_loudOfAll_0 : decode cX7_loudOfAll 0 = .ok (.aload_n 0, 1) := by decide +kernel
theorem dX7_loudOfAll_1 : decode cX7_loudOfAll 1 = .ok (.iconst 1, 1) := by decide +kernel
theorem dX7_loudOfAll_2 : decode cX7_loudOfAll 2 = .ok (.aload_n 0, 1) := by decide +kernel
theorem dX7_loudOfAll_3 : decode cX7_loudOfAll 3 = .ok (.getfield 22, 3) := by decide +kernel
theorem dX7_loudOfAll_6 : decode cX7_loudOfAll 6 = .ok (.ishl, 1) := by decide +kernel
theorem dX7_loudOfAll_7 : decode cX7_loudOfAll 7 = .ok (.iconst 1, 1) := by decide +kernel
theorem dX7_loudOfAll_8 : decode cX7_loudOfAll 8 = .ok (.isub, 1) := by decide +kernel
theorem dX7_loudOfAll_9 : decode cX7_loudOfAll 9 = .ok (.invokevirtual 46, 3) := by decide +kernel
theorem dX7_loudOfAll_12 : decode cX7_loudOfAll 12 = .ok (.ireturn, 1) := by decide +kernel
theorem dX7_loudOf_0 : decode cX7_loudOf 0 = .ok (.iconst 0, 1) := by decide +kernel
theorem dX7_loudOf_1 : decode cX7_loudOf 1 = .ok (.istore_n 2, 1) := by decide +kernel
theorem dX7_loudOf_2 : decode cX7_loudOf 2 = .ok (.iconst 0, 1) := by decide +kernel
theorem dX7_loudOf_3 : decode cX7_loudOf 3 = .ok (.istore_n 3, 1) := by decide +kernel
theorem dX7_loudOf_4 : decode cX7_loudOf 4 = .ok (.iload_n 3, 1) := by decide +kernel
theorem dX7_loudOf_5 : decode cX7_loudOf 5 = .ok (.bipush 8, 2) := by decide +kernel
theorem dX7_loudOf_7 : decode cX7_loudOf 7 = .ok (.if_icmp .ge 24, 3) := by decide +kernel
theorem dX7_loudOf_10 : decode cX7_loudOf 10 = .ok (.iload_n 2, 1) := by decide +kernel
theorem dX7_loudOf_11 : decode cX7_loudOf 11 = .ok (.iload_n 1, 1) := by decide +kernel
theorem dX7_loudOf_12 : decode cX7_loudOf 12 = .ok (.iload_n 3, 1) := by decide +kernel
theorem dX7_loudOf_13 : decode cX7_loudOf 13 = .ok (.ishr, 1) := by decide +kernel
theorem dX7_loudOf_14 : decode cX7_loudOf 14 = .ok (.iconst 1, 1) := by decide +kernel
theorem dX7_loudOf_15 : decode cX7_loudOf 15 = .ok (.iand, 1) := by decide +kernel
theorem dX7_loudOf_16 : decode cX7_loudOf 16 = .ok (.aload_n 0, 1) := by decide +kernel
theorem dX7_loudOf_17 : decode cX7_loudOf 17 = .ok (.getfield 16, 3) := by decide +kernel
theorem dX7_loudOf_20 : decode cX7_loudOf 20 = .ok (.iload_n 3, 1) := by decide +kernel
theorem dX7_loudOf_21 : decode cX7_loudOf 21 = .ok (.iaload, 1) := by decide +kernel
theorem dX7_loudOf_22 : decode cX7_loudOf 22 = .ok (.imul, 1) := by decide +kernel
theorem dX7_loudOf_23 : decode cX7_loudOf 23 = .ok (.iadd, 1) := by decide +kernel
theorem dX7_loudOf_24 : decode cX7_loudOf 24 = .ok (.istore_n 2, 1) := by decide +kernel
theorem dX7_loudOf_25 : decode cX7_loudOf 25 = .ok (.iinc 3 1, 3) := by decide +kernel
theorem dX7_loudOf_28 : decode cX7_loudOf 28 = .ok (.goto (-24), 3) := by decide +kernel
theorem dX7_loudOf_31 : decode cX7_loudOf 31 = .ok (.iload_n 2, 1) := by decide +kernel
theorem dX7_loudOf_32 : decode cX7_loudOf 32 = .ok (.ireturn, 1) := by decide +kernel
theorem dX7_ordersTippedBy_0 : decode cX7_ordersTippedBy 0 = .ok (.aload_n 0, 1) := by decide +kernel
theorem dX7_ordersTippedBy_1 : decode cX7_ordersTippedBy 1 = .ok (.iload_n 1, 1) := by decide +kernel
theorem dX7_ordersTippedBy_2 : decode cX7_ordersTippedBy 2 = .ok (.invokevirtual 42, 3) := by decide +kernel
theorem dX7_ordersTippedBy_5 : decode cX7_ordersTippedBy 5 = .ok (.ifCond .ne 5, 3) := by decide +kernel
theorem dX7_ordersTippedBy_8 : decode cX7_ordersTippedBy 8 = .ok (.iconst 0, 1) := by decide +kernel
theorem dX7_ordersTippedBy_9 : decode cX7_ordersTippedBy 9 = .ok (.ireturn, 1) := by decide +kernel
theorem dX7_ordersTippedBy_10 : decode cX7_ordersTippedBy 10 = .ok (.aload_n 0, 1) := by decide +kernel
theorem dX7_ordersTippedBy_11 : decode cX7_ordersTippedBy 11 = .ok (.invokevirtual 49, 3) := by decide +kernel
theorem dX7_ordersTippedBy_14 : decode cX7_ordersTippedBy 14 = .ok (.istore_n 2, 1) := by decide +kernel
theorem dX7_ordersTippedBy_15 : decode cX7_ordersTippedBy 15 = .ok (.iconst 0, 1) := by decide +kernel
theorem dX7_ordersTippedBy_16 : decode cX7_ordersTippedBy 16 = .ok (.istore_n 3, 1) := by decide +kernel
theorem dX7_ordersTippedBy_17 : decode cX7_ordersTippedBy 17 = .ok (.iconst 0, 1) := by decide +kernel
theorem dX7_ordersTippedBy_18 : decode cX7_ordersTippedBy 18 = .ok (.istore 4, 2) := by decide +kernel
theorem dX7_ordersTippedBy_20 : decode cX7_ordersTippedBy 20 = .ok (.iload 4, 2) := by decide +kernel
theorem dX7_ordersTippedBy_22 : decode cX7_ordersTippedBy 22 = .ok (.iconst 1, 1) := by decide +kernel
theorem dX7_ordersTippedBy_23 : decode cX7_ordersTippedBy 23 = .ok (.aload_n 0, 1) := by decide +kernel
theorem dX7_ordersTippedBy_24 : decode cX7_ordersTippedBy 24 = .ok (.getfield 22, 3) := by decide +kernel
theorem dX7_ordersTippedBy_27 : decode cX7_ordersTippedBy 27 = .ok (.ishl, 1) := by decide +kernel
theorem dX7_ordersTippedBy_28 : decode cX7_ordersTippedBy 28 = .ok (.if_icmp .ge 89, 3) := by decide +kernel
theorem dX7_ordersTippedBy_31 : decode cX7_ordersTippedBy 31 = .ok (.aload_n 0, 1) := by decide +kernel
theorem dX7_ordersTippedBy_32 : decode cX7_ordersTippedBy 32 = .ok (.iload 4, 2) := by decide +kernel
theorem dX7_ordersTippedBy_34 : decode cX7_ordersTippedBy 34 = .ok (.invokevirtual 46, 3) := by decide +kernel
theorem dX7_ordersTippedBy_37 : decode cX7_ordersTippedBy 37 = .ok (.istore 5, 2) := by decide +kernel
theorem dX7_ordersTippedBy_39 : decode cX7_ordersTippedBy 39 = .ok (.iconst 2, 1) := by decide +kernel
theorem dX7_ordersTippedBy_40 : decode cX7_ordersTippedBy 40 = .ok (.iload 5, 2) := by decide +kernel
theorem dX7_ordersTippedBy_42 : decode cX7_ordersTippedBy 42 = .ok (.imul, 1) := by decide +kernel
theorem dX7_ordersTippedBy_43 : decode cX7_ordersTippedBy 43 = .ok (.iload_n 2, 1) := by decide +kernel
theorem dX7_ordersTippedBy_44 : decode cX7_ordersTippedBy 44 = .ok (.if_icmp .gt 22, 3) := by decide +kernel
theorem dX7_ordersTippedBy_47 : decode cX7_ordersTippedBy 47 = .ok (.iconst 2, 1) := by decide +kernel
theorem dX7_ordersTippedBy_48 : decode cX7_ordersTippedBy 48 = .ok (.iload 5, 2) := by decide +kernel
theorem dX7_ordersTippedBy_50 : decode cX7_ordersTippedBy 50 = .ok (.aload_n 0, 1) := by decide +kernel
theorem dX7_ordersTippedBy_51 : decode cX7_ordersTippedBy 51 = .ok (.getfield 16, 3) := by decide +kernel
theorem dX7_ordersTippedBy_54 : decode cX7_ordersTippedBy 54 = .ok (.iload_n 1, 1) := by decide +kernel
theorem dX7_ordersTippedBy_55 : decode cX7_ordersTippedBy 55 = .ok (.iaload, 1) := by decide +kernel
theorem dX7_ordersTippedBy_56 : decode cX7_ordersTippedBy 56 = .ok (.iadd, 1) := by decide +kernel
theorem dX7_ordersTippedBy_57 : decode cX7_ordersTippedBy 57 = .ok (.imul, 1) := by decide +kernel
theorem dX7_ordersTippedBy_58 : decode cX7_ordersTippedBy 58 = .ok (.iload_n 2, 1) := by decide +kernel
theorem dX7_ordersTippedBy_59 : decode cX7_ordersTippedBy 59 = .ok (.if_icmp .le 7, 3) := by decide +kernel
theorem dX7_ordersTippedBy_62 : decode cX7_ordersTippedBy 62 = .ok (.iconst 1, 1) := by decide +kernel
theorem dX7_ordersTippedBy_63 : decode cX7_ordersTippedBy 63 = .ok (.goto 4, 3) := by decide +kernel
theorem dX7_ordersTippedBy_66 : decode cX7_ordersTippedBy 66 = .ok (.iconst 0, 1) := by decide +kernel
theorem dX7_ordersTippedBy_67 : decode cX7_ordersTippedBy 67 = .ok (.istore 6, 2) := by decide +kernel
theorem dX7_ordersTippedBy_69 : decode cX7_ordersTippedBy 69 = .ok (.iload 4, 2) := by decide +kernel
theorem dX7_ordersTippedBy_71 : decode cX7_ordersTippedBy 71 = .ok (.iload_n 1, 1) := by decide +kernel
theorem dX7_ordersTippedBy_72 : decode cX7_ordersTippedBy 72 = .ok (.ishr, 1) := by decide +kernel
theorem dX7_ordersTippedBy_73 : decode cX7_ordersTippedBy 73 = .ok (.iconst 1, 1) := by decide +kernel
theorem dX7_ordersTippedBy_74 : decode cX7_ordersTippedBy 74 = .ok (.iand, 1) := by decide +kernel
theorem dX7_ordersTippedBy_75 : decode cX7_ordersTippedBy 75 = .ok (.ifCond .ne 36, 3) := by decide +kernel
theorem dX7_ordersTippedBy_78 : decode cX7_ordersTippedBy 78 = .ok (.iload 6, 2) := by decide +kernel
theorem dX7_ordersTippedBy_80 : decode cX7_ordersTippedBy 80 = .ok (.ifCond .eq 31, 3) := by decide +kernel
theorem dX7_ordersTippedBy_83 : decode cX7_ordersTippedBy 83 = .ok (.iload 4, 2) := by decide +kernel
theorem dX7_ordersTippedBy_85 : decode cX7_ordersTippedBy 85 = .ok (.invokestatic 53, 3) := by decide +kernel
theorem dX7_ordersTippedBy_88 : decode cX7_ordersTippedBy 88 = .ok (.istore 7, 2) := by decide +kernel
theorem dX7_ordersTippedBy_90 : decode cX7_ordersTippedBy 90 = .ok (.iload_n 3, 1) := by decide +kernel
theorem dX7_ordersTippedBy_91 : decode cX7_ordersTippedBy 91 = .ok (.iload 7, 2) := by decide +kernel
theorem dX7_ordersTippedBy_93 : decode cX7_ordersTippedBy 93 = .ok (.invokestatic 58, 3) := by decide +kernel
theorem dX7_ordersTippedBy_96 : decode cX7_ordersTippedBy 96 = .ok (.aload_n 0, 1) := by decide +kernel
theorem dX7_ordersTippedBy_97 : decode cX7_ordersTippedBy 97 = .ok (.getfield 22, 3) := by decide +kernel
theorem dX7_ordersTippedBy_100 : decode cX7_ordersTippedBy 100 = .ok (.iconst 1, 1) := by decide +kernel
theorem dX7_ordersTippedBy_101 : decode cX7_ordersTippedBy 101 = .ok (.isub, 1) := by decide +kernel
theorem dX7_ordersTippedBy_102 : decode cX7_ordersTippedBy 102 = .ok (.iload 7, 2) := by decide +kernel
theorem dX7_ordersTippedBy_104 : decode cX7_ordersTippedBy 104 = .ok (.isub, 1) := by decide +kernel
theorem dX7_ordersTippedBy_105 : decode cX7_ordersTippedBy 105 = .ok (.invokestatic 58, 3) := by decide +kernel
theorem dX7_ordersTippedBy_108 : decode cX7_ordersTippedBy 108 = .ok (.imul, 1) := by decide +kernel
theorem dX7_ordersTippedBy_109 : decode cX7_ordersTippedBy 109 = .ok (.iadd, 1) := by decide +kernel
theorem dX7_ordersTippedBy_110 : decode cX7_ordersTippedBy 110 = .ok (.istore_n 3, 1) := by decide +kernel
theorem dX7_ordersTippedBy_111 : decode cX7_ordersTippedBy 111 = .ok (.iinc 4 1, 3) := by decide +kernel
theorem dX7_ordersTippedBy_114 : decode cX7_ordersTippedBy 114 = .ok (.goto (-94), 3) := by decide +kernel
theorem dX7_ordersTippedBy_117 : decode cX7_ordersTippedBy 117 = .ok (.iload_n 3, 1) := by decide +kernel
theorem dX7_ordersTippedBy_118 : decode cX7_ordersTippedBy 118 = .ok (.ireturn, 1) := by decide +kernel
theorem dX7_ordersOf_0 : decode cX7_ordersOf 0 = .ok (.iload_n 0, 1) := by decide +kernel
theorem dX7_ordersOf_1 : decode cX7_ordersOf 1 = .ok (.getstatic 61, 3) := by decide +kernel
theorem dX7_ordersOf_4 : decode cX7_ordersOf 4 = .ok (.invokestatic 32, 3) := by decide +kernel
theorem dX7_ordersOf_7 : decode cX7_ordersOf 7 = .ok (.ifCond .eq 11, 3) := by decide +kernel
theorem dX7_ordersOf_10 : decode cX7_ordersOf 10 = .ok (.getstatic 61, 3) := by decide +kernel
theorem dX7_ordersOf_13 : decode cX7_ordersOf 13 = .ok (.iload_n 0, 1) := by decide +kernel
theorem dX7_ordersOf_14 : decode cX7_ordersOf 14 = .ok (.iaload, 1) := by decide +kernel
theorem dX7_ordersOf_15 : decode cX7_ordersOf 15 = .ok (.goto 4, 3) := by decide +kernel
theorem dX7_ordersOf_18 : decode cX7_ordersOf 18 = .ok (.iconst 0, 1) := by decide +kernel
theorem dX7_ordersOf_19 : decode cX7_ordersOf 19 = .ok (.ireturn, 1) := by decide +kernel
theorem dX7_firstNotSoLoud_0 : decode cX7_firstNotSoLoud 0 = .ok (.aload_n 0, 1) := by decide +kernel
theorem dX7_firstNotSoLoud_1 : decode cX7_firstNotSoLoud 1 = .ok (.getfield 22, 3) := by decide +kernel
theorem dX7_firstNotSoLoud_4 : decode cX7_firstNotSoLoud 4 = .ok (.aload_n 1, 1) := by decide +kernel
theorem dX7_firstNotSoLoud_5 : decode cX7_firstNotSoLoud 5 = .ok (.getfield 64, 3) := by decide +kernel
theorem dX7_firstNotSoLoud_8 : decode cX7_firstNotSoLoud 8 = .ok (.invokestatic 67, 3) := by decide +kernel
theorem dX7_firstNotSoLoud_11 : decode cX7_firstNotSoLoud 11 = .ok (.istore_n 2, 1) := by decide +kernel
theorem dX7_firstNotSoLoud_12 : decode cX7_firstNotSoLoud 12 = .ok (.iconst 0, 1) := by decide +kernel
theorem dX7_firstNotSoLoud_13 : decode cX7_firstNotSoLoud 13 = .ok (.istore_n 3, 1) := by decide +kernel
theorem dX7_firstNotSoLoud_14 : decode cX7_firstNotSoLoud 14 = .ok (.iload_n 3, 1) := by decide +kernel
theorem dX7_firstNotSoLoud_15 : decode cX7_firstNotSoLoud 15 = .ok (.iload_n 2, 1) := by decide +kernel
theorem dX7_firstNotSoLoud_16 : decode cX7_firstNotSoLoud 16 = .ok (.if_icmp .ge 41, 3) := by decide +kernel
theorem dX7_firstNotSoLoud_19 : decode cX7_firstNotSoLoud 19 = .ok (.aload_n 0, 1) := by decide +kernel
theorem dX7_firstNotSoLoud_20 : decode cX7_firstNotSoLoud 20 = .ok (.iload_n 3, 1) := by decide +kernel
theorem dX7_firstNotSoLoud_21 : decode cX7_firstNotSoLoud 21 = .ok (.invokevirtual 42, 3) := by decide +kernel
theorem dX7_firstNotSoLoud_24 : decode cX7_firstNotSoLoud 24 = .ok (.ifCond .eq 25, 3) := by decide +kernel
theorem dX7_firstNotSoLoud_27 : decode cX7_firstNotSoLoud 27 = .ok (.aload_n 1, 1) := by decide +kernel
theorem dX7_firstNotSoLoud_28 : decode cX7_firstNotSoLoud 28 = .ok (.iload_n 3, 1) := by decide +kernel
theorem dX7_firstNotSoLoud_29 : decode cX7_firstNotSoLoud 29 = .ok (.invokevirtual 73, 3) := by decide +kernel
theorem dX7_firstNotSoLoud_32 : decode cX7_firstNotSoLoud 32 = .ok (.ifCond .eq 17, 3) := by decide +kernel
theorem dX7_firstNotSoLoud_35 : decode cX7_firstNotSoLoud 35 = .ok (.aload_n 0, 1) := by decide +kernel
theorem dX7_firstNotSoLoud_36 : decode cX7_firstNotSoLoud 36 = .ok (.getfield 16, 3) := by decide +kernel
theorem dX7_firstNotSoLoud_39 : decode cX7_firstNotSoLoud 39 = .ok (.iload_n 3, 1) := by decide +kernel
theorem dX7_firstNotSoLoud_40 : decode cX7_firstNotSoLoud 40 = .ok (.iaload, 1) := by decide +kernel
theorem dX7_firstNotSoLoud_41 : decode cX7_firstNotSoLoud 41 = .ok (.aload_n 1, 1) := by decide +kernel
theorem dX7_firstNotSoLoud_42 : decode cX7_firstNotSoLoud 42 = .ok (.iload_n 3, 1) := by decide +kernel
theorem dX7_firstNotSoLoud_43 : decode cX7_firstNotSoLoud 43 = .ok (.invokevirtual 74, 3) := by decide +kernel
theorem dX7_firstNotSoLoud_46 : decode cX7_firstNotSoLoud 46 = .ok (.if_icmp .eq 5, 3) := by decide +kernel
theorem dX7_firstNotSoLoud_49 : decode cX7_firstNotSoLoud 49 = .ok (.iload_n 3, 1) := by decide +kernel
theorem dX7_firstNotSoLoud_50 : decode cX7_firstNotSoLoud 50 = .ok (.ireturn, 1) := by decide +kernel
theorem dX7_firstNotSoLoud_51 : decode cX7_firstNotSoLoud 51 = .ok (.iinc 3 1, 3) := by decide +kernel
theorem dX7_firstNotSoLoud_54 : decode cX7_firstNotSoLoud 54 = .ok (.goto (-40), 3) := by decide +kernel
theorem dX7_firstNotSoLoud_57 : decode cX7_firstNotSoLoud 57 = .ok (.iconst (-1), 1) := by decide +kernel
theorem dX7_firstNotSoLoud_58 : decode cX7_firstNotSoLoud 58 = .ok (.ireturn, 1) := by decide +kernel
theorem dX7_copyFrom_0 : decode cX7_copyFrom 0 = .ok (.aload_n 1, 1) := by decide +kernel
theorem dX7_copyFrom_1 : decode cX7_copyFrom 1 = .ok (.getfield 9, 3) := by decide +kernel
theorem dX7_copyFrom_4 : decode cX7_copyFrom 4 = .ok (.iconst 0, 1) := by decide +kernel
theorem dX7_copyFrom_5 : decode cX7_copyFrom 5 = .ok (.aload_n 0, 1) := by decide +kernel
theorem dX7_copyFrom_6 : decode cX7_copyFrom 6 = .ok (.getfield 9, 3) := by decide +kernel
theorem dX7_copyFrom_9 : decode cX7_copyFrom 9 = .ok (.iconst 0, 1) := by decide +kernel
theorem dX7_copyFrom_10 : decode cX7_copyFrom 10 = .ok (.bipush 8, 2) := by decide +kernel
theorem dX7_copyFrom_12 : decode cX7_copyFrom 12 = .ok (.invokestatic 77, 3) := by decide +kernel
theorem dX7_copyFrom_15 : decode cX7_copyFrom 15 = .ok (.aload_n 1, 1) := by decide +kernel
theorem dX7_copyFrom_16 : decode cX7_copyFrom 16 = .ok (.getfield 13, 3) := by decide +kernel
theorem dX7_copyFrom_19 : decode cX7_copyFrom 19 = .ok (.iconst 0, 1) := by decide +kernel
theorem dX7_copyFrom_20 : decode cX7_copyFrom 20 = .ok (.aload_n 0, 1) := by decide +kernel
theorem dX7_copyFrom_21 : decode cX7_copyFrom 21 = .ok (.getfield 13, 3) := by decide +kernel
theorem dX7_copyFrom_24 : decode cX7_copyFrom 24 = .ok (.iconst 0, 1) := by decide +kernel
theorem dX7_copyFrom_25 : decode cX7_copyFrom 25 = .ok (.bipush 8, 2) := by decide +kernel
theorem dX7_copyFrom_27 : decode cX7_copyFrom 27 = .ok (.invokestatic 77, 3) := by decide +kernel
theorem dX7_copyFrom_30 : decode cX7_copyFrom 30 = .ok (.aload_n 1, 1) := by decide +kernel
theorem dX7_copyFrom_31 : decode cX7_copyFrom 31 = .ok (.getfield 16, 3) := by decide +kernel
theorem dX7_copyFrom_34 : decode cX7_copyFrom 34 = .ok (.iconst 0, 1) := by decide +kernel
theorem dX7_copyFrom_35 : decode cX7_copyFrom 35 = .ok (.aload_n 0, 1) := by decide +kernel
theorem dX7_copyFrom_36 : decode cX7_copyFrom 36 = .ok (.getfield 16, 3) := by decide +kernel
theorem dX7_copyFrom_39 : decode cX7_copyFrom 39 = .ok (.iconst 0, 1) := by decide +kernel
theorem dX7_copyFrom_40 : decode cX7_copyFrom 40 = .ok (.bipush 8, 2) := by decide +kernel
theorem dX7_copyFrom_42 : decode cX7_copyFrom 42 = .ok (.invokestatic 77, 3) := by decide +kernel
theorem dX7_copyFrom_45 : decode cX7_copyFrom 45 = .ok (.aload_n 1, 1) := by decide +kernel
theorem dX7_copyFrom_46 : decode cX7_copyFrom 46 = .ok (.getfield 19, 3) := by decide +kernel
theorem dX7_copyFrom_49 : decode cX7_copyFrom 49 = .ok (.iconst 0, 1) := by decide +kernel
theorem dX7_copyFrom_50 : decode cX7_copyFrom 50 = .ok (.aload_n 0, 1) := by decide +kernel
theorem dX7_copyFrom_51 : decode cX7_copyFrom 51 = .ok (.getfield 19, 3) := by decide +kernel
theorem dX7_copyFrom_54 : decode cX7_copyFrom 54 = .ok (.iconst 0, 1) := by decide +kernel
theorem dX7_copyFrom_55 : decode cX7_copyFrom 55 = .ok (.bipush 8, 2) := by decide +kernel
theorem dX7_copyFrom_57 : decode cX7_copyFrom 57 = .ok (.invokestatic 77, 3) := by decide +kernel
theorem dX7_copyFrom_60 : decode cX7_copyFrom 60 = .ok (.aload_n 0, 1) := by decide +kernel
theorem dX7_copyFrom_61 : decode cX7_copyFrom 61 = .ok (.aload_n 1, 1) := by decide +kernel
theorem dX7_copyFrom_62 : decode cX7_copyFrom 62 = .ok (.getfield 22, 3) := by decide +kernel
theorem dX7_copyFrom_65 : decode cX7_copyFrom 65 = .ok (.putfield 22, 3) := by decide +kernel
theorem dX7_copyFrom_68 : decode cX7_copyFrom 68 = .ok (.aload_n 0, 1) := by decide +kernel
theorem dX7_copyFrom_69 : decode cX7_copyFrom 69 = .ok (.aload_n 1, 1) := by decide +kernel
theorem dX7_copyFrom_70 : decode cX7_copyFrom 70 = .ok (.getfield 26, 3) := by decide +kernel
theorem dX7_copyFrom_73 : decode cX7_copyFrom 73 = .ok (.putfield 26, 3) := by decide +kernel
theorem dX7_copyFrom_76 : decode cX7_copyFrom 76 = .ok (.return_, 1) := by decide +kernel
theorem dX8_raise_0 : decode cX8_raise 0 = .ok (.aload_n 0, 1) := by decide +kernel
theorem dX8_raise_1 : decode cX8_raise 1 = .ok (.iload_n 1, 1) := by decide +kernel
theorem dX8_raise_2 : decode cX8_raise 2 = .ok (.putfield 18, 3) := by decide +kernel
theorem dX8_raise_5 : decode cX8_raise 5 = .ok (.aload_n 0, 1) := by decide +kernel
theorem dX8_raise_6 : decode cX8_raise 6 = .ok (.iload_n 2, 1) := by decide +kernel
theorem dX8_raise_7 : decode cX8_raise 7 = .ok (.putfield 22, 3) := by decide +kernel
theorem dX8_raise_10 : decode cX8_raise 10 = .ok (.aload_n 0, 1) := by decide +kernel
theorem dX8_raise_11 : decode cX8_raise 11 = .ok (.iload_n 3, 1) := by decide +kernel
theorem dX8_raise_12 : decode cX8_raise 12 = .ok (.putfield 25, 3) := by decide +kernel
theorem dX8_raise_15 : decode cX8_raise 15 = .ok (.aload_n 0, 1) := by decide +kernel
theorem dX8_raise_16 : decode cX8_raise 16 = .ok (.getfield 14, 3) := by decide +kernel
theorem dX8_raise_19 : decode cX8_raise 19 = .ok (.invokevirtual 28, 3) := by decide +kernel
theorem dX8_raise_22 : decode cX8_raise 22 = .ok (.aload_n 0, 1) := by decide +kernel
theorem dX8_raise_23 : decode cX8_raise 23 = .ok (.iload 4, 2) := by decide +kernel
theorem dX8_raise_25 : decode cX8_raise 25 = .ok (.aload_n 0, 1) := by decide +kernel
theorem dX8_raise_26 : decode cX8_raise 26 = .ok (.getfield 22, 3) := by decide +kernel
theorem dX8_raise_29 : decode cX8_raise 29 = .ok (.iload 5, 2) := by decide +kernel
theorem dX8_raise_31 : decode cX8_raise 31 = .ok (.iconst 0, 1) := by decide +kernel
theorem dX8_raise_32 : decode cX8_raise 32 = .ok (.invokevirtual 31, 3) := by decide +kernel
theorem dX8_raise_35 : decode cX8_raise 35 = .ok (.ireturn, 1) := by decide +kernel
theorem dX8_say_0 : decode cX8_say 0 = .ok (.iload_n 1, 1) := by decide +kernel
theorem dX8_say_1 : decode cX8_say 1 = .ok (.iload_n 2, 1) := by decide +kernel
theorem dX8_say_2 : decode cX8_say 2 = .ok (.invokestatic 35, 3) := by decide +kernel
theorem dX8_say_5 : decode cX8_say 5 = .ok (.istore 5, 2) := by decide +kernel
theorem dX8_say_7 : decode cX8_say 7 = .ok (.iload 5, 2) := by decide +kernel
theorem dX8_say_9 : decode cX8_say 9 = .ok (.ifCond .lt 10, 3) := by decide +kernel
theorem dX8_say_12 : decode cX8_say 12 = .ok (.iload 4, 2) := by decide +kernel
theorem dX8_say_14 : decode cX8_say 14 = .ok (.bipush 40, 2) := by decide +kernel
theorem dX8_say_16 : decode cX8_say 16 = .ok (.if_icmp .le 5, 3) := by decide +kernel
theorem dX8_say_19 : decode cX8_say 19 = .ok (.iconst 0, 1) := by decide +kernel
theorem dX8_say_20 : decode cX8_say 20 = .ok (.ireturn, 1) := by decide +kernel
theorem dX8_say_21 : decode cX8_say 21 = .ok (.iload_n 1, 1) := by decide +kernel
theorem dX8_say_22 : decode cX8_say 22 = .ok (.iload 5, 2) := by decide +kernel
theorem dX8_say_24 : decode cX8_say 24 = .ok (.invokestatic 39, 3) := by decide +kernel
theorem dX8_say_27 : decode cX8_say 27 = .ok (.istore 6, 2) := by decide +kernel
theorem dX8_say_29 : decode cX8_say 29 = .ok (.aload_n 0, 1) := by decide +kernel
theorem dX8_say_30 : decode cX8_say 30 = .ok (.getfield 14, 3) := by decide +kernel
theorem dX8_say_33 : decode cX8_say 33 = .ok (.iload 6, 2) := by decide +kernel
theorem dX8_say_35 : decode cX8_say 35 = .ok (.invokevirtual 42, 3) := by decide +kernel
theorem dX8_say_38 : decode cX8_say 38 = .ok (.pop, 1) := by decide +kernel
theorem dX8_say_39 : decode cX8_say 39 = .ok (.iload 5, 2) := by decide +kernel
theorem dX8_say_41 : decode cX8_say 41 = .ok (.invokestatic 46, 3) := by decide +kernel
theorem dX8_say_44 : decode cX8_say 44 = .ok (.istore 7, 2) := by decide +kernel
theorem dX8_say_46 : decode cX8_say 46 = .ok (.iload 6, 2) := by decide +kernel
theorem dX8_say_48 : decode cX8_say 48 = .ok (.bipush 20, 2) := by decide +kernel
theorem dX8_say_50 : decode cX8_say 50 = .ok (.if_icmp .ge 17, 3) := by decide +kernel
theorem dX8_say_53 : decode cX8_say 53 = .ok (.aload_n 0, 1) := by decide +kernel
theorem dX8_say_54 : decode cX8_say 54 = .ok (.iload 6, 2) := by decide +kernel
theorem dX8_say_56 : decode cX8_say 56 = .ok (.iload_n 3, 1) := by decide +kernel
theorem dX8_say_57 : decode cX8_say 57 = .ok (.iload 4, 2) := by decide +kernel
theorem dX8_say_59 : decode cX8_say 59 = .ok (.iconst 1, 1) := by decide +kernel
theorem dX8_say_60 : decode cX8_say 60 = .ok (.iadd, 1) := by decide +kernel
theorem dX8_say_61 : decode cX8_say 61 = .ok (.invokevirtual 52, 3) := by decide +kernel
theorem dX8_say_64 : decode cX8_say 64 = .ok (.goto 16, 3) := by decide +kernel
theorem dX8_say_67 : decode cX8_say 67 = .ok (.aload_n 0, 1) := by decide +kernel
theorem dX8_say_68 : decode cX8_say 68 = .ok (.iload 6, 2) := by decide +kernel
theorem dX8_say_70 : decode cX8_say 70 = .ok (.iload 7, 2) := by decide +kernel
theorem dX8_say_72 : decode cX8_say 72 = .ok (.iload_n 3, 1) := by decide +kernel
theorem dX8_say_73 : decode cX8_say 73 = .ok (.iload 4, 2) := by decide +kernel
theorem dX8_say_75 : decode cX8_say 75 = .ok (.iconst 1, 1) := by decide +kernel
theorem dX8_say_76 : decode cX8_say 76 = .ok (.iadd, 1) := by decide +kernel
theorem dX8_say_77 : decode cX8_say 77 = .ok (.invokevirtual 56, 3) := by decide +kernel
theorem dX8_say_80 : decode cX8_say 80 = .ok (.ireturn, 1) := by decide +kernel
theorem dX8_sayPlain_0 : decode cX8_sayPlain 0 = .ok (.iload_n 1, 1) := by decide +kernel
theorem dX8_sayPlain_1 : decode cX8_sayPlain 1 = .ok (.tableswitch 55 10 12 #[27, 34, 48], 27) := by decide +kernel
theorem dX8_sayPlain_28 : decode cX8_sayPlain 28 = .ok (.iload_n 2, 1) := by decide +kernel
theorem dX8_sayPlain_29 : decode cX8_sayPlain 29 = .ok (.aload_n 0, 1) := by decide +kernel
theorem dX8_sayPlain_30 : decode cX8_sayPlain 30 = .ok (.getfield 18, 3) := by decide +kernel
theorem dX8_sayPlain_33 : decode cX8_sayPlain 33 = .ok (.iadd, 1) := by decide +kernel
theorem dX8_sayPlain_34 : decode cX8_sayPlain 34 = .ok (.ireturn, 1) := by decide +kernel
theorem dX8_sayPlain_35 : decode cX8_sayPlain 35 = .ok (.aload_n 0, 1) := by decide +kernel
theorem dX8_sayPlain_36 : decode cX8_sayPlain 36 = .ok (.iconst 0, 1) := by decide +kernel
theorem dX8_sayPlain_37 : decode cX8_sayPlain 37 = .ok (.aload_n 0, 1) := by decide +kernel
theorem dX8_sayPlain_38 : decode cX8_sayPlain 38 = .ok (.getfield 22, 3) := by decide +kernel
theorem dX8_sayPlain_41 : decode cX8_sayPlain 41 = .ok (.iload_n 2, 1) := by decide +kernel
theorem dX8_sayPlain_42 : decode cX8_sayPlain 42 = .ok (.iload_n 3, 1) := by decide +kernel
theorem dX8_sayPlain_43 : decode cX8_sayPlain 43 = .ok (.invokevirtual 31, 3) := by decide +kernel
theorem dX8_sayPlain_46 : decode cX8_sayPlain 46 = .ok (.iconst 2, 1) := by decide +kernel
theorem dX8_sayPlain_47 : decode cX8_sayPlain 47 = .ok (.imul, 1) := by decide +kernel
theorem dX8_sayPlain_48 : decode cX8_sayPlain 48 = .ok (.ireturn, 1) := by decide +kernel
theorem dX8_sayPlain_49 : decode cX8_sayPlain 49 = .ok (.iload_n 2, 1) := by decide +kernel
theorem dX8_sayPlain_50 : decode cX8_sayPlain 50 = .ok (.aload_n 0, 1) := by decide +kernel
theorem dX8_sayPlain_51 : decode cX8_sayPlain 51 = .ok (.getfield 25, 3) := by decide +kernel
theorem dX8_sayPlain_54 : decode cX8_sayPlain 54 = .ok (.isub, 1) := by decide +kernel
theorem dX8_sayPlain_55 : decode cX8_sayPlain 55 = .ok (.ireturn, 1) := by decide +kernel
theorem dX8_sayPlain_56 : decode cX8_sayPlain 56 = .ok (.aload_n 0, 1) := by decide +kernel
theorem dX8_sayPlain_57 : decode cX8_sayPlain 57 = .ok (.iconst 1, 1) := by decide +kernel
theorem dX8_sayPlain_58 : decode cX8_sayPlain 58 = .ok (.aload_n 0, 1) := by decide +kernel
theorem dX8_sayPlain_59 : decode cX8_sayPlain 59 = .ok (.getfield 22, 3) := by decide +kernel
theorem dX8_sayPlain_62 : decode cX8_sayPlain 62 = .ok (.iload_n 2, 1) := by decide +kernel
theorem dX8_sayPlain_63 : decode cX8_sayPlain 63 = .ok (.iload_n 3, 1) := by decide +kernel
theorem dX8_sayPlain_64 : decode cX8_sayPlain 64 = .ok (.invokevirtual 31, 3) := by decide +kernel
theorem dX8_sayPlain_67 : decode cX8_sayPlain 67 = .ok (.aload_n 0, 1) := by decide +kernel
theorem dX8_sayPlain_68 : decode cX8_sayPlain 68 = .ok (.iconst 2, 1) := by decide +kernel
theorem dX8_sayPlain_69 : decode cX8_sayPlain 69 = .ok (.aload_n 0, 1) := by decide +kernel
theorem dX8_sayPlain_70 : decode cX8_sayPlain 70 = .ok (.getfield 22, 3) := by decide +kernel
theorem dX8_sayPlain_73 : decode cX8_sayPlain 73 = .ok (.iload_n 2, 1) := by decide +kernel
theorem dX8_sayPlain_74 : decode cX8_sayPlain 74 = .ok (.iload_n 3, 1) := by decide +kernel
theorem dX8_sayPlain_75 : decode cX8_sayPlain 75 = .ok (.invokevirtual 31, 3) := by decide +kernel
theorem dX8_sayPlain_78 : decode cX8_sayPlain 78 = .ok (.ixor, 1) := by decide +kernel
theorem dX8_sayPlain_79 : decode cX8_sayPlain 79 = .ok (.ireturn, 1) := by decide +kernel
theorem dX8_saySpecial_0 : decode cX8_saySpecial 0 = .ok (.iload_n 1, 1) := by decide +kernel
theorem dX8_saySpecial_1 : decode cX8_saySpecial 1 = .ok (.lookupswitch 155 #[(20, 59), (30, 71), (40, 94), (50, 105), (60, 128), (70, 140)], 59) := by decide +kernel
theorem dX8_saySpecial_60 : decode cX8_saySpecial 60 = .ok (.aload_n 0, 1) := by decide +kernel
theorem dX8_saySpecial_61 : decode cX8_saySpecial 61 = .ok (.iconst 0, 1) := by decide +kernel
theorem dX8_saySpecial_62 : decode cX8_saySpecial 62 = .ok (.iload_n 2, 1) := by decide +kernel
theorem dX8_saySpecial_63 : decode cX8_saySpecial 63 = .ok (.iload_n 3, 1) := by decide +kernel
theorem dX8_saySpecial_64 : decode cX8_saySpecial 64 = .ok (.iload 4, 2) := by decide +kernel
theorem dX8_saySpecial_66 : decode cX8_saySpecial 66 = .ok (.invokevirtual 31, 3) := by decide +kernel
theorem dX8_saySpecial_69 : decode cX8_saySpecial 69 = .ok (.iconst 3, 1) := by decide +kernel
theorem dX8_saySpecial_70 : decode cX8_saySpecial 70 = .ok (.imul, 1) := by decide +kernel
theorem dX8_saySpecial_71 : decode cX8_saySpecial 71 = .ok (.ireturn, 1) := by decide +kernel
theorem dX8_saySpecial_72 : decode cX8_saySpecial 72 = .ok (.aload_n 0, 1) := by decide +kernel
theorem dX8_saySpecial_73 : decode cX8_saySpecial 73 = .ok (.iconst 1, 1) := by decide +kernel
theorem dX8_saySpecial_74 : decode cX8_saySpecial 74 = .ok (.iload_n 2, 1) := by decide +kernel
theorem dX8_saySpecial_75 : decode cX8_saySpecial 75 = .ok (.iload_n 3, 1) := by decide +kernel
theorem dX8_saySpecial_76 : decode cX8_saySpecial 76 = .ok (.iload 4, 2) := by decide +kernel
theorem dX8_saySpecial_78 : decode cX8_saySpecial 78 = .ok (.invokevirtual 31, 3) := by decide +kernel
theorem dX8_saySpecial_81 : decode cX8_saySpecial 81 = .ok (.aload_n 0, 1) := by decide +kernel
theorem dX8_saySpecial_82 : decode cX8_saySpecial 82 = .ok (.iconst 2, 1) := by decide +kernel
theorem dX8_saySpecial_83 : decode cX8_saySpecial 83 = .ok (.aload_n 0, 1) := by decide +kernel
theorem dX8_saySpecial_84 : decode cX8_saySpecial 84 = .ok (.getfield 22, 3) := by decide +kernel
theorem dX8_saySpecial_87 : decode cX8_saySpecial 87 = .ok (.iconst 1, 1) := by decide +kernel
theorem dX8_saySpecial_88 : decode cX8_saySpecial 88 = .ok (.iload 4, 2) := by decide +kernel
theorem dX8_saySpecial_90 : decode cX8_saySpecial 90 = .ok (.invokevirtual 31, 3) := by decide +kernel
theorem dX8_saySpecial_93 : decode cX8_saySpecial 93 = .ok (.isub, 1) := by decide +kernel
theorem dX8_saySpecial_94 : decode cX8_saySpecial 94 = .ok (.ireturn, 1) := by decide +kernel
theorem dX8_saySpecial_95 : decode cX8_saySpecial 95 = .ok (.aload_n 0, 1) := by decide +kernel
theorem dX8_saySpecial_96 : decode cX8_saySpecial 96 = .ok (.iconst 2, 1) := by decide +kernel
theorem dX8_saySpecial_97 : decode cX8_saySpecial 97 = .ok (.iload_n 2, 1) := by decide +kernel
theorem dX8_saySpecial_98 : decode cX8_saySpecial 98 = .ok (.iload_n 3, 1) := by decide +kernel
theorem dX8_saySpecial_99 : decode cX8_saySpecial 99 = .ok (.iload 4, 2) := by decide +kernel
theorem dX8_saySpecial_101 : decode cX8_saySpecial 101 = .ok (.invokevirtual 31, 3) := by decide +kernel
theorem dX8_saySpecial_104 : decode cX8_saySpecial 104 = .ok (.ineg, 1) := by decide +kernel
theorem dX8_saySpecial_105 : decode cX8_saySpecial 105 = .ok (.ireturn, 1) := by decide +kernel
theorem dX8_saySpecial_106 : decode cX8_saySpecial 106 = .ok (.aload_n 0, 1) := by decide +kernel
theorem dX8_saySpecial_107 : decode cX8_saySpecial 107 = .ok (.iconst 3, 1) := by decide +kernel
theorem dX8_saySpecial_108 : decode cX8_saySpecial 108 = .ok (.iload_n 2, 1) := by decide +kernel
theorem dX8_saySpecial_109 : decode cX8_saySpecial 109 = .ok (.iload_n 3, 1) := by decide +kernel
theorem dX8_saySpecial_110 : decode cX8_saySpecial 110 = .ok (.iload 4, 2) := by decide +kernel
theorem dX8_saySpecial_112 : decode cX8_saySpecial 112 = .ok (.invokevirtual 31, 3) := by decide +kernel
theorem dX8_saySpecial_115 : decode cX8_saySpecial 115 = .ok (.aload_n 0, 1) := by decide +kernel
theorem dX8_saySpecial_116 : decode cX8_saySpecial 116 = .ok (.iconst 0, 1) := by decide +kernel
theorem dX8_saySpecial_117 : decode cX8_saySpecial 117 = .ok (.aload_n 0, 1) := by decide +kernel
theorem dX8_saySpecial_118 : decode cX8_saySpecial 118 = .ok (.getfield 22, 3) := by decide +kernel
theorem dX8_saySpecial_121 : decode cX8_saySpecial 121 = .ok (.iconst 2, 1) := by decide +kernel
theorem dX8_saySpecial_122 : decode cX8_saySpecial 122 = .ok (.iload 4, 2) := by decide +kernel
theorem dX8_saySpecial_124 : decode cX8_saySpecial 124 = .ok (.invokevirtual 31, 3) := by decide +kernel
theorem dX8_saySpecial_127 : decode cX8_saySpecial 127 = .ok (.isub, 1) := by decide +kernel
theorem dX8_saySpecial_128 : decode cX8_saySpecial 128 = .ok (.ireturn, 1) := by decide +kernel
theorem dX8_saySpecial_129 : decode cX8_saySpecial 129 = .ok (.aload_n 0, 1) := by decide +kernel
theorem dX8_saySpecial_130 : decode cX8_saySpecial 130 = .ok (.iconst 1, 1) := by decide +kernel
theorem dX8_saySpecial_131 : decode cX8_saySpecial 131 = .ok (.iload_n 2, 1) := by decide +kernel
theorem dX8_saySpecial_132 : decode cX8_saySpecial 132 = .ok (.iload_n 3, 1) := by decide +kernel
theorem dX8_saySpecial_133 : decode cX8_saySpecial 133 = .ok (.iconst 1, 1) := by decide +kernel
theorem dX8_saySpecial_134 : decode cX8_saySpecial 134 = .ok (.iadd, 1) := by decide +kernel
theorem dX8_saySpecial_135 : decode cX8_saySpecial 135 = .ok (.iload 4, 2) := by decide +kernel
theorem dX8_saySpecial_137 : decode cX8_saySpecial 137 = .ok (.invokevirtual 31, 3) := by decide +kernel
theorem dX8_saySpecial_140 : decode cX8_saySpecial 140 = .ok (.ireturn, 1) := by decide +kernel
theorem dX8_saySpecial_141 : decode cX8_saySpecial 141 = .ok (.aload_n 0, 1) := by decide +kernel
theorem dX8_saySpecial_142 : decode cX8_saySpecial 142 = .ok (.iconst 2, 1) := by decide +kernel
theorem dX8_saySpecial_143 : decode cX8_saySpecial 143 = .ok (.iload_n 2, 1) := by decide +kernel
theorem dX8_saySpecial_144 : decode cX8_saySpecial 144 = .ok (.iload_n 3, 1) := by decide +kernel
theorem dX8_saySpecial_145 : decode cX8_saySpecial 145 = .ok (.iload 4, 2) := by decide +kernel
theorem dX8_saySpecial_147 : decode cX8_saySpecial 147 = .ok (.invokevirtual 31, 3) := by decide +kernel
theorem dX8_saySpecial_150 : decode cX8_saySpecial 150 = .ok (.aload_n 0, 1) := by decide +kernel
theorem dX8_saySpecial_151 : decode cX8_saySpecial 151 = .ok (.getfield 18, 3) := by decide +kernel
theorem dX8_saySpecial_154 : decode cX8_saySpecial 154 = .ok (.ixor, 1) := by decide +kernel
theorem dX8_saySpecial_155 : decode cX8_saySpecial 155 = .ok (.ireturn, 1) := by decide +kernel
theorem dX8_saySpecial_156 : decode cX8_saySpecial 156 = .ok (.aload_n 0, 1) := by decide +kernel
theorem dX8_saySpecial_157 : decode cX8_saySpecial 157 = .ok (.iconst 1, 1) := by decide +kernel
theorem dX8_saySpecial_158 : decode cX8_saySpecial 158 = .ok (.aload_n 0, 1) := by decide +kernel
theorem dX8_saySpecial_159 : decode cX8_saySpecial 159 = .ok (.getfield 22, 3) := by decide +kernel
theorem dX8_saySpecial_162 : decode cX8_saySpecial 162 = .ok (.iload_n 3, 1) := by decide +kernel
theorem dX8_saySpecial_163 : decode cX8_saySpecial 163 = .ok (.iload 4, 2) := by decide +kernel
theorem dX8_saySpecial_165 : decode cX8_saySpecial 165 = .ok (.invokevirtual 31, 3) := by decide +kernel
theorem dX8_saySpecial_168 : decode cX8_saySpecial 168 = .ok (.aload_n 0, 1) := by decide +kernel
theorem dX8_saySpecial_169 : decode cX8_saySpecial 169 = .ok (.iconst 3, 1) := by decide +kernel
theorem dX8_saySpecial_170 : decode cX8_saySpecial 170 = .ok (.iload_n 2, 1) := by decide +kernel
theorem dX8_saySpecial_171 : decode cX8_saySpecial 171 = .ok (.iload_n 3, 1) := by decide +kernel
theorem dX8_saySpecial_172 : decode cX8_saySpecial 172 = .ok (.iload 4, 2) := by decide +kernel
theorem dX8_saySpecial_174 : decode cX8_saySpecial 174 = .ok (.invokevirtual 31, 3) := by decide +kernel
theorem dX8_saySpecial_177 : decode cX8_saySpecial 177 = .ok (.isub, 1) := by decide +kernel
theorem dX8_saySpecial_178 : decode cX8_saySpecial 178 = .ok (.ireturn, 1) := by decide +kernel
theorem dX8_ownerOf_0 : decode cX8_ownerOf 0 = .ok (.iload_n 1, 1) := by decide +kernel
theorem dX8_ownerOf_1 : decode cX8_ownerOf 1 = .ok (.istore_n 2, 1) := by decide +kernel
theorem dX8_ownerOf_2 : decode cX8_ownerOf 2 = .ok (.iconst 0, 1) := by decide +kernel
theorem dX8_ownerOf_3 : decode cX8_ownerOf 3 = .ok (.istore_n 3, 1) := by decide +kernel
theorem dX8_ownerOf_4 : decode cX8_ownerOf 4 = .ok (.iload_n 3, 1) := by decide +kernel
theorem dX8_ownerOf_5 : decode cX8_ownerOf 5 = .ok (.bipush 7, 2) := by decide +kernel
theorem dX8_ownerOf_7 : decode cX8_ownerOf 7 = .ok (.if_icmp .ge 28, 3) := by decide +kernel
theorem dX8_ownerOf_10 : decode cX8_ownerOf 10 = .ok (.iload_n 2, 1) := by decide +kernel
theorem dX8_ownerOf_11 : decode cX8_ownerOf 11 = .ok (.ifCond .lt 24, 3) := by decide +kernel
theorem dX8_ownerOf_14 : decode cX8_ownerOf 14 = .ok (.iload_n 0, 1) := by decide +kernel
theorem dX8_ownerOf_15 : decode cX8_ownerOf 15 = .ok (.iload_n 2, 1) := by decide +kernel
theorem dX8_ownerOf_16 : decode cX8_ownerOf 16 = .ok (.invokestatic 39, 3) := by decide +kernel
theorem dX8_ownerOf_19 : decode cX8_ownerOf 19 = .ok (.ifCond .eq 5, 3) := by decide +kernel
theorem dX8_ownerOf_22 : decode cX8_ownerOf 22 = .ok (.iload_n 2, 1) := by decide +kernel
theorem dX8_ownerOf_23 : decode cX8_ownerOf 23 = .ok (.ireturn, 1) := by decide +kernel
theorem dX8_ownerOf_24 : decode cX8_ownerOf 24 = .ok (.iload_n 2, 1) := by decide +kernel
theorem dX8_ownerOf_25 : decode cX8_ownerOf 25 = .ok (.invokestatic 46, 3) := by decide +kernel
theorem dX8_ownerOf_28 : decode cX8_ownerOf 28 = .ok (.istore_n 2, 1) := by decide +kernel
theorem dX8_ownerOf_29 : decode cX8_ownerOf 29 = .ok (.iinc 3 1, 3) := by decide +kernel
theorem dX8_ownerOf_32 : decode cX8_ownerOf 32 = .ok (.goto (-28), 3) := by decide +kernel
theorem dX8_ownerOf_35 : decode cX8_ownerOf 35 = .ok (.iconst (-1), 1) := by decide +kernel
theorem dX8_ownerOf_36 : decode cX8_ownerOf 36 = .ok (.ireturn, 1) := by decide +kernel
theorem dX8_bodyOf_0 : decode cX8_bodyOf 0 = .ok (.iload_n 1, 1) := by decide +kernel
theorem dX8_bodyOf_1 : decode cX8_bodyOf 1 = .ok (.iconst 4, 1) := by decide +kernel
theorem dX8_bodyOf_2 : decode cX8_bodyOf 2 = .ok (.imul, 1) := by decide +kernel
theorem dX8_bodyOf_3 : decode cX8_bodyOf 3 = .ok (.iload_n 0, 1) := by decide +kernel
theorem dX8_bodyOf_4 : decode cX8_bodyOf 4 = .ok (.iadd, 1) := by decide +kernel
theorem dX8_bodyOf_5 : decode cX8_bodyOf 5 = .ok (.istore_n 2, 1) := by decide +kernel
theorem dX8_bodyOf_6 : decode cX8_bodyOf 6 = .ok (.iload_n 2, 1) := by decide +kernel
theorem dX8_bodyOf_7 : decode cX8_bodyOf 7 = .ok (.getstatic 59, 3) := by decide +kernel
theorem dX8_bodyOf_10 : decode cX8_bodyOf 10 = .ok (.invokestatic 63, 3) := by decide +kernel
theorem dX8_bodyOf_13 : decode cX8_bodyOf 13 = .ok (.ifCond .eq 11, 3) := by decide +kernel
theorem dX8_bodyOf_16 : decode cX8_bodyOf 16 = .ok (.getstatic 59, 3) := by decide +kernel
theorem dX8_bodyOf_19 : decode cX8_bodyOf 19 = .ok (.iload_n 2, 1) := by decide +kernel
theorem dX8_bodyOf_20 : decode cX8_bodyOf 20 = .ok (.iaload, 1) := by decide +kernel
theorem dX8_bodyOf_21 : decode cX8_bodyOf 21 = .ok (.goto 4, 3) := by decide +kernel
theorem dX8_bodyOf_24 : decode cX8_bodyOf 24 = .ok (.iconst 0, 1) := by decide +kernel
theorem dX8_bodyOf_25 : decode cX8_bodyOf 25 = .ok (.ireturn, 1) := by decide +kernel
theorem dJ_bitCount_0 : decode cJ_bitCount 0 = .ok (.iload_n 0, 1) := by decide +kernel
theorem dJ_bitCount_1 : decode cJ_bitCount 1 = .ok (.iload_n 0, 1) := by decide +kernel
theorem dJ_bitCount_2 : decode cJ_bitCount 2 = .ok (.iconst 1, 1) := by decide +kernel
theorem dJ_bitCount_3 : decode cJ_bitCount 3 = .ok (.iushr, 1) := by decide +kernel
theorem dJ_bitCount_4 : decode cJ_bitCount 4 = .ok (.ldc_w 265, 3) := by decide +kernel
theorem dJ_bitCount_7 : decode cJ_bitCount 7 = .ok (.iand, 1) := by decide +kernel
theorem dJ_bitCount_8 : decode cJ_bitCount 8 = .ok (.isub, 1) := by decide +kernel
theorem dJ_bitCount_9 : decode cJ_bitCount 9 = .ok (.istore_n 0, 1) := by decide +kernel
theorem dJ_bitCount_10 : decode cJ_bitCount 10 = .ok (.iload_n 0, 1) := by decide +kernel
theorem dJ_bitCount_11 : decode cJ_bitCount 11 = .ok (.ldc_w 266, 3) := by decide +kernel
theorem dJ_bitCount_14 : decode cJ_bitCount 14 = .ok (.iand, 1) := by decide +kernel
theorem dJ_bitCount_15 : decode cJ_bitCount 15 = .ok (.iload_n 0, 1) := by decide +kernel
theorem dJ_bitCount_16 : decode cJ_bitCount 16 = .ok (.iconst 2, 1) := by decide +kernel
theorem dJ_bitCount_17 : decode cJ_bitCount 17 = .ok (.iushr, 1) := by decide +kernel
theorem dJ_bitCount_18 : decode cJ_bitCount 18 = .ok (.ldc_w 266, 3) := by decide +kernel
theorem dJ_bitCount_21 : decode cJ_bitCount 21 = .ok (.iand, 1) := by decide +kernel
theorem dJ_bitCount_22 : decode cJ_bitCount 22 = .ok (.iadd, 1) := by decide +kernel
theorem dJ_bitCount_23 : decode cJ_bitCount 23 = .ok (.istore_n 0, 1) := by decide +kernel
theorem dJ_bitCount_24 : decode cJ_bitCount 24 = .ok (.iload_n 0, 1) := by decide +kernel
theorem dJ_bitCount_25 : decode cJ_bitCount 25 = .ok (.iload_n 0, 1) := by decide +kernel
theorem dJ_bitCount_26 : decode cJ_bitCount 26 = .ok (.iconst 4, 1) := by decide +kernel
theorem dJ_bitCount_27 : decode cJ_bitCount 27 = .ok (.iushr, 1) := by decide +kernel
theorem dJ_bitCount_28 : decode cJ_bitCount 28 = .ok (.iadd, 1) := by decide +kernel
theorem dJ_bitCount_29 : decode cJ_bitCount 29 = .ok (.ldc_w 267, 3) := by decide +kernel
theorem dJ_bitCount_32 : decode cJ_bitCount 32 = .ok (.iand, 1) := by decide +kernel
theorem dJ_bitCount_33 : decode cJ_bitCount 33 = .ok (.istore_n 0, 1) := by decide +kernel
theorem dJ_bitCount_34 : decode cJ_bitCount 34 = .ok (.iload_n 0, 1) := by decide +kernel
theorem dJ_bitCount_35 : decode cJ_bitCount 35 = .ok (.iload_n 0, 1) := by decide +kernel
theorem dJ_bitCount_36 : decode cJ_bitCount 36 = .ok (.bipush 8, 2) := by decide +kernel
theorem dJ_bitCount_38 : decode cJ_bitCount 38 = .ok (.iushr, 1) := by decide +kernel
theorem dJ_bitCount_39 : decode cJ_bitCount 39 = .ok (.iadd, 1) := by decide +kernel
theorem dJ_bitCount_40 : decode cJ_bitCount 40 = .ok (.istore_n 0, 1) := by decide +kernel
theorem dJ_bitCount_41 : decode cJ_bitCount 41 = .ok (.iload_n 0, 1) := by decide +kernel
theorem dJ_bitCount_42 : decode cJ_bitCount 42 = .ok (.iload_n 0, 1) := by decide +kernel
theorem dJ_bitCount_43 : decode cJ_bitCount 43 = .ok (.bipush 16, 2) := by decide +kernel
theorem dJ_bitCount_45 : decode cJ_bitCount 45 = .ok (.iushr, 1) := by decide +kernel
theorem dJ_bitCount_46 : decode cJ_bitCount 46 = .ok (.iadd, 1) := by decide +kernel
theorem dJ_bitCount_47 : decode cJ_bitCount 47 = .ok (.istore_n 0, 1) := by decide +kernel
theorem dJ_bitCount_48 : decode cJ_bitCount 48 = .ok (.iload_n 0, 1) := by decide +kernel
theorem dJ_bitCount_49 : decode cJ_bitCount 49 = .ok (.bipush 63, 2) := by decide +kernel
theorem dJ_bitCount_51 : decode cJ_bitCount 51 = .ok (.iand, 1) := by decide +kernel
theorem dJ_bitCount_52 : decode cJ_bitCount 52 = .ok (.ireturn, 1) := by decide +kernel
theorem dJ_floorMod_0 : decode cJ_floorMod 0 = .ok (.iload_n 0, 1) := by decide +kernel
theorem dJ_floorMod_1 : decode cJ_floorMod 1 = .ok (.iload_n 1, 1) := by decide +kernel
theorem dJ_floorMod_2 : decode cJ_floorMod 2 = .ok (.irem, 1) := by decide +kernel
theorem dJ_floorMod_3 : decode cJ_floorMod 3 = .ok (.istore_n 2, 1) := by decide +kernel
theorem dJ_floorMod_4 : decode cJ_floorMod 4 = .ok (.iload_n 0, 1) := by decide +kernel
theorem dJ_floorMod_5 : decode cJ_floorMod 5 = .ok (.iload_n 1, 1) := by decide +kernel
theorem dJ_floorMod_6 : decode cJ_floorMod 6 = .ok (.ixor, 1) := by decide +kernel
theorem dJ_floorMod_7 : decode cJ_floorMod 7 = .ok (.ifCond .ge 11, 3) := by decide +kernel
theorem dJ_floorMod_10 : decode cJ_floorMod 10 = .ok (.iload_n 2, 1) := by decide +kernel
theorem dJ_floorMod_11 : decode cJ_floorMod 11 = .ok (.ifCond .eq 7, 3) := by decide +kernel
theorem dJ_floorMod_14 : decode cJ_floorMod 14 = .ok (.iload_n 2, 1) := by decide +kernel
theorem dJ_floorMod_15 : decode cJ_floorMod 15 = .ok (.iload_n 1, 1) := by decide +kernel
theorem dJ_floorMod_16 : decode cJ_floorMod 16 = .ok (.iadd, 1) := by decide +kernel
theorem dJ_floorMod_17 : decode cJ_floorMod 17 = .ok (.ireturn, 1) := by decide +kernel
theorem dJ_floorMod_18 : decode cJ_floorMod 18 = .ok (.iload_n 2, 1) := by decide +kernel
theorem dJ_floorMod_19 : decode cJ_floorMod 19 = .ok (.ireturn, 1) := by decide +kernel
theorem dJ_max_0 : decode cJ_max 0 = .ok (.iload_n 0, 1) := by decide +kernel
theorem dJ_max_1 : decode cJ_max 1 = .ok (.iload_n 1, 1) := by decide +kernel
theorem dJ_max_2 : decode cJ_max 2 = .ok (.if_icmp .lt 7, 3) := by decide +kernel
theorem dJ_max_5 : decode cJ_max 5 = .ok (.iload_n 0, 1) := by decide +kernel
theorem dJ_max_6 : decode cJ_max 6 = .ok (.goto 4, 3) := by decide +kernel
theorem dJ_max_9 : decode cJ_max 9 = .ok (.iload_n 1, 1) := by decide +kernel
theorem dJ_max_10 : decode cJ_max 10 = .ok (.ireturn, 1) := by decide +kernel
theorem dJ_min_0 : decode cJ_min 0 = .ok (.iload_n 0, 1) := by decide +kernel
theorem dJ_min_1 : decode cJ_min 1 = .ok (.iload_n 1, 1) := by decide +kernel
theorem dJ_min_2 : decode cJ_min 2 = .ok (.if_icmp .gt 7, 3) := by decide +kernel
theorem dJ_min_5 : decode cJ_min 5 = .ok (.iload_n 0, 1) := by decide +kernel
theorem dJ_min_6 : decode cJ_min 6 = .ok (.goto 4, 3) := by decide +kernel
theorem dJ_min_9 : decode cJ_min 9 = .ok (.iload_n 1, 1) := by decide +kernel
theorem dJ_min_10 : decode cJ_min 10 = .ok (.ireturn, 1) := by decide +kernel
