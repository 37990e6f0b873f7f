theorem dX10_mend_50 : decode cX10_mend 50 = .ok (.getfield 181, 3) := by decide +kernel
theorem dX10_mend_53 : decode cX10_mend 53 = .ok (.iload_n 1, 1) := by decide +kernel
theorem dX10_mend_54 : decode cX10_mend 54 = .ok (.iaload, 1) := by decide +kernel
theorem dX10_mend_55 : decode cX10_mend 55 = .ok (.ifCond .ne 9, 3) := by decide +kernel
theorem dX10_mend_58 : decode cX10_mend 58 = .ok (.aload_n 0, 1) := by decide +kernel
theorem dX10_mend_59 : decode cX10_mend 59 = .ok (.iconst 3, 1) := by decide +kernel
theorem dX10_mend_60 : decode cX10_mend 60 = .ok (.invokevirtual 271, 3) := by decide +kernel
theorem dX10_mend_63 : decode cX10_mend 63 = .ok (.ireturn, 1) := by decide +kernel
theorem dX10_mend_64 : decode cX10_mend 64 = .ok (.aload_n 0, 1) := by decide +kernel
theorem dX10_mend_65 : decode cX10_mend 65 = .ok (.getfield 61, 3) := by decide +kernel
theorem dX10_mend_68 : decode cX10_mend 68 = .ok (.aload_n 0, 1) := by decide +kernel
theorem dX10_mend_69 : decode cX10_mend 69 = .ok (.getfield 51, 3) := by decide +kernel
theorem dX10_mend_72 : decode cX10_mend 72 = .ok (.invokevirtual 277, 3) := by decide +kernel
theorem dX10_mend_75 : decode cX10_mend 75 = .ok (.aload_n 0, 1) := by decide +kernel
theorem dX10_mend_76 : decode cX10_mend 76 = .ok (.getfield 51, 3) := by decide +kernel
theorem dX10_mend_79 : decode cX10_mend 79 = .ok (.getfield 181, 3) := by decide +kernel
theorem dX10_mend_82 : decode cX10_mend 82 = .ok (.iload_n 1, 1) := by decide +kernel
theorem dX10_mend_83 : decode cX10_mend 83 = .ok (.dup2, 1) := by decide +kernel
theorem dX10_mend_84 : decode cX10_mend 84 = .ok (.iaload, 1) := by decide +kernel
theorem dX10_mend_85 : decode cX10_mend 85 = .ok (.iload_n 2, 1) := by decide +kernel
theorem dX10_mend_86 : decode cX10_mend 86 = .ok (.iadd, 1) := by decide +kernel
theorem dX10_mend_87 : decode cX10_mend 87 = .ok (.iastore, 1) := by decide +kernel
theorem dX10_mend_88 : decode cX10_mend 88 = .ok (.aload_n 0, 1) := by decide +kernel
theorem dX10_mend_89 : decode cX10_mend 89 = .ok (.getfield 51, 3) := by decide +kernel
theorem dX10_mend_92 : decode cX10_mend 92 = .ok (.getfield 181, 3) := by decide +kernel
theorem dX10_mend_95 : decode cX10_mend 95 = .ok (.iload_n 1, 1) := by decide +kernel
theorem dX10_mend_96 : decode cX10_mend 96 = .ok (.iaload, 1) := by decide +kernel
theorem dX10_mend_97 : decode cX10_mend 97 = .ok (.ireturn, 1) := by decide +kernel
theorem dX10_years_0 : decode cX10_years 0 = .ok (.aload_n 0, 1) := by decide +kernel
theorem dX10_years_1 : decode cX10_years 1 = .ok (.invokevirtual 152, 3) := by decide +kernel
theorem dX10_years_4 : decode cX10_years 4 = .ok (.ifCond .ne 9, 3) := by decide +kernel
theorem dX10_years_7 : decode cX10_years 7 = .ok (.aload_n 0, 1) := by decide +kernel
theorem dX10_years_8 : decode cX10_years 8 = .ok (.iconst 0, 1) := by decide +kernel
theorem dX10_years_9 : decode cX10_years 9 = .ok (.invokevirtual 271, 3) := by decide +kernel
theorem dX10_years_12 : decode cX10_years 12 = .ok (.ireturn, 1) := by decide +kernel
theorem dX10_years_13 : decode cX10_years 13 = .ok (.iload_n 1, 1) := by decide +kernel
theorem dX10_years_14 : decode cX10_years 14 = .ok (.iconst 1, 1) := by decide +kernel
theorem dX10_years_15 : decode cX10_years 15 = .ok (.bipush 60, 2) := by decide +kernel
theorem dX10_years_17 : decode cX10_years 17 = .ok (.invokestatic 204, 3) := by decide +kernel
theorem dX10_years_20 : decode cX10_years 20 = .ok (.ifCond .ne 9, 3) := by decide +kernel
theorem dX10_years_23 : decode cX10_years 23 = .ok (.aload_n 0, 1) := by decide +kernel
theorem dX10_years_24 : decode cX10_years 24 = .ok (.iconst 1, 1) := by decide +kernel
theorem dX10_years_25 : decode cX10_years 25 = .ok (.invokevirtual 271, 3) := by decide +kernel
theorem dX10_years_28 : decode cX10_years 28 = .ok (.ireturn, 1) := by decide +kernel
theorem dX10_years_29 : decode cX10_years 29 = .ok (.aload_n 0, 1) := by decide +kernel
theorem dX10_years_30 : decode cX10_years 30 = .ok (.getfield 51, 3) := by decide +kernel
theorem dX10_years_33 : decode cX10_years 33 = .ok (.getfield 287, 3) := by decide +kernel
theorem dX10_years_36 : decode cX10_years 36 = .ok (.iload_n 1, 1) := by decide +kernel
theorem dX10_years_37 : decode cX10_years 37 = .ok (.iadd, 1) := by decide +kernel
theorem dX10_years_38 : decode cX10_years 38 = .ok (.sipush 999, 3) := by decide +kernel
theorem dX10_years_41 : decode cX10_years 41 = .ok (.if_icmp .le 9, 3) := by decide +kernel
theorem dX10_years_44 : decode cX10_years 44 = .ok (.aload_n 0, 1) := by decide +kernel
theorem dX10_years_45 : decode cX10_years 45 = .ok (.iconst 4, 1) := by decide +kernel
theorem dX10_years_46 : decode cX10_years 46 = .ok (.invokevirtual 271, 3) := by decide +kernel
theorem dX10_years_49 : decode cX10_years 49 = .ok (.ireturn, 1) := by decide +kernel
theorem dX10_years_50 : decode cX10_years 50 = .ok (.iconst 0, 1) := by decide +kernel
theorem dX10_years_51 : decode cX10_years 51 = .ok (.istore_n 2, 1) := by decide +kernel
theorem dX10_years_52 : decode cX10_years 52 = .ok (.iload_n 2, 1) := by decide +kernel
theorem dX10_years_53 : decode cX10_years 53 = .ok (.iload_n 1, 1) := by decide +kernel
theorem dX10_years_54 : decode cX10_years 54 = .ok (.if_icmp .ge 24, 3) := by decide +kernel
theorem dX10_years_57 : decode cX10_years 57 = .ok (.aload_n 0, 1) := by decide +kernel
theorem dX10_years_58 : decode cX10_years 58 = .ok (.getfield 61, 3) := by decide +kernel
theorem dX10_years_61 : decode cX10_years 61 = .ok (.aload_n 0, 1) := by decide +kernel
theorem dX10_years_62 : decode cX10_years 62 = .ok (.getfield 51, 3) := by decide +kernel
theorem dX10_years_65 : decode cX10_years 65 = .ok (.invokevirtual 277, 3) := by decide +kernel
theorem dX10_years_68 : decode cX10_years 68 = .ok (.aload_n 0, 1) := by decide +kernel
theorem dX10_years_69 : decode cX10_years 69 = .ok (.invokevirtual 290, 3) := by decide +kernel
theorem dX10_years_72 : decode cX10_years 72 = .ok (.iinc 2 1, 3) := by decide +kernel
theorem dX10_years_75 : decode cX10_years 75 = .ok (.goto (-23), 3) := by decide +kernel
theorem dX10_years_78 : decode cX10_years 78 = .ok (.aload_n 0, 1) := by decide +kernel
theorem dX10_years_79 : decode cX10_years 79 = .ok (.getfield 51, 3) := by decide +kernel
theorem dX10_years_82 : decode cX10_years 82 = .ok (.getfield 287, 3) := by decide +kernel
theorem dX10_years_85 : decode cX10_years 85 = .ok (.ireturn, 1) := by decide +kernel
theorem dX10_liveYear_0 : decode cX10_liveYear 0 = .ok (.aload_n 0, 1) := by decide +kernel
theorem dX10_liveYear_1 : decode cX10_liveYear 1 = .ok (.aload_n 0, 1) := by decide +kernel
theorem dX10_liveYear_2 : decode cX10_liveYear 2 = .ok (.getfield 51, 3) := by decide +kernel
theorem dX10_liveYear_5 : decode cX10_liveYear 5 = .ok (.invokevirtual 261, 3) := by decide +kernel
theorem dX10_liveYear_8 : decode cX10_liveYear 8 = .ok (.aload_n 0, 1) := by decide +kernel
theorem dX10_liveYear_9 : decode cX10_liveYear 9 = .ok (.getfield 51, 3) := by decide +kernel
theorem dX10_liveYear_12 : decode cX10_liveYear 12 = .ok (.aload_n 0, 1) := by decide +kernel
theorem dX10_liveYear_13 : decode cX10_liveYear 13 = .ok (.getfield 75, 3) := by decide +kernel
theorem dX10_liveYear_16 : decode cX10_liveYear 16 = .ok (.getfield 265, 3) := by decide +kernel
theorem dX10_liveYear_19 : decode cX10_liveYear 19 = .ok (.invokevirtual 293, 3) := by decide +kernel
theorem dX10_liveYear_22 : decode cX10_liveYear 22 = .ok (.istore_n 1, 1) := by decide +kernel
theorem dX10_liveYear_23 : decode cX10_liveYear 23 = .ok (.aload_n 0, 1) := by decide +kernel
theorem dX10_liveYear_24 : decode cX10_liveYear 24 = .ok (.aload_n 0, 1) := by decide +kernel
theorem dX10_liveYear_25 : decode cX10_liveYear 25 = .ok (.getfield 51, 3) := by decide +kernel
theorem dX10_liveYear_28 : decode cX10_liveYear 28 = .ok (.invokevirtual 261, 3) := by decide +kernel
theorem dX10_liveYear_31 : decode cX10_liveYear 31 = .ok (.aload_n 0, 1) := by decide +kernel
theorem dX10_liveYear_32 : decode cX10_liveYear 32 = .ok (.getfield 61, 3) := by decide +kernel
theorem dX10_liveYear_35 : decode cX10_liveYear 35 = .ok (.aload_n 0, 1) := by decide +kernel
theorem dX10_liveYear_36 : decode cX10_liveYear 36 = .ok (.getfield 51, 3) := by decide +kernel
theorem dX10_liveYear_39 : decode cX10_liveYear 39 = .ok (.getfield 287, 3) := by decide +kernel
theorem dX10_liveYear_42 : decode cX10_liveYear 42 = .ok (.aload_n 0, 1) := by decide +kernel
theorem dX10_liveYear_43 : decode cX10_liveYear 43 = .ok (.aload_n 0, 1) := by decide +kernel
theorem dX10_liveYear_44 : decode cX10_liveYear 44 = .ok (.getfield 51, 3) := by decide +kernel
theorem dX10_liveYear_47 : decode cX10_liveYear 47 = .ok (.invokevirtual 280, 3) := by decide +kernel
theorem dX10_liveYear_50 : decode cX10_liveYear 50 = .ok (.aload_n 0, 1) := by decide +kernel
theorem dX10_liveYear_51 : decode cX10_liveYear 51 = .ok (.getfield 75, 3) := by decide +kernel
theorem dX10_liveYear_54 : decode cX10_liveYear 54 = .ok (.aload_n 0, 1) := by decide +kernel
theorem dX10_liveYear_55 : decode cX10_liveYear 55 = .ok (.getfield 41, 3) := by decide +kernel
theorem dX10_liveYear_58 : decode cX10_liveYear 58 = .ok (.getfield 143, 3) := by decide +kernel
theorem dX10_liveYear_61 : decode cX10_liveYear 61 = .ok (.invokevirtual 297, 3) := by decide +kernel
theorem dX10_liveYear_64 : decode cX10_liveYear 64 = .ok (.iload_n 1, 1) := by decide +kernel
theorem dX10_liveYear_65 : decode cX10_liveYear 65 = .ok (.invokevirtual 300, 3) := by decide +kernel
theorem dX10_liveYear_68 : decode cX10_liveYear 68 = .ok (.return_, 1) := by decide +kernel
theorem dX10_heat_0 : decode cX10_heat 0 = .ok (.iload_n 1, 1) := by decide +kernel
theorem dX10_heat_1 : decode cX10_heat 1 = .ok (.iconst 0, 1) := by decide +kernel
theorem dX10_heat_2 : decode cX10_heat 2 = .ok (.bipush 99, 2) := by decide +kernel
theorem dX10_heat_4 : decode cX10_heat 4 = .ok (.invokestatic 204, 3) := by decide +kernel
theorem dX10_heat_7 : decode cX10_heat 7 = .ok (.ifCond .eq 11, 3) := by decide +kernel
theorem dX10_heat_10 : decode cX10_heat 10 = .ok (.iload_n 1, 1) := by decide +kernel
theorem dX10_heat_11 : decode cX10_heat 11 = .ok (.aload_n 0, 1) := by decide +kernel
theorem dX10_heat_12 : decode cX10_heat 12 = .ok (.getfield 89, 3) := by decide +kernel
theorem dX10_heat_15 : decode cX10_heat 15 = .ok (.if_icmp .ne 5, 3) := by decide +kernel
theorem dX10_heat_18 : decode cX10_heat 18 = .ok (.iconst 0, 1) := by decide +kernel
theorem dX10_heat_19 : decode cX10_heat 19 = .ok (.ireturn, 1) := by decide +kernel
theorem dX10_heat_20 : decode cX10_heat 20 = .ok (.aload_n 0, 1) := by decide +kernel
theorem dX10_heat_21 : decode cX10_heat 21 = .ok (.iload_n 1, 1) := by decide +kernel
theorem dX10_heat_22 : decode cX10_heat 22 = .ok (.putfield 89, 3) := by decide +kernel
theorem dX10_heat_25 : decode cX10_heat 25 = .ok (.iconst 1, 1) := by decide +kernel
theorem dX10_heat_26 : decode cX10_heat 26 = .ok (.ireturn, 1) := by decide +kernel
theorem dX10_centuries_0 : decode cX10_centuries 0 = .ok (.aload_n 0, 1) := by decide +kernel
theorem dX10_centuries_1 : decode cX10_centuries 1 = .ok (.invokevirtual 152, 3) := by decide +kernel
theorem dX10_centuries_4 : decode cX10_centuries 4 = .ok (.ifCond .eq 28, 3) := by decide +kernel
theorem dX10_centuries_7 : decode cX10_centuries 7 = .ok (.iload_n 1, 1) := by decide +kernel
theorem dX10_centuries_8 : decode cX10_centuries 8 = .ok (.iconst 1, 1) := by decide +kernel
theorem dX10_centuries_9 : decode cX10_centuries 9 = .ok (.bipush 60, 2) := by decide +kernel
theorem dX10_centuries_11 : decode cX10_centuries 11 = .ok (.invokestatic 204, 3) := by decide +kernel
theorem dX10_centuries_14 : decode cX10_centuries 14 = .ok (.ifCond .eq 18, 3) := by decide +kernel
theorem dX10_centuries_17 : decode cX10_centuries 17 = .ok (.aload_n 0, 1) := by decide +kernel
theorem dX10_centuries_18 : decode cX10_centuries 18 = .ok (.getfield 51, 3) := by decide +kernel
theorem dX10_centuries_21 : decode cX10_centuries 21 = .ok (.getfield 287, 3) := by decide +kernel
theorem dX10_centuries_24 : decode cX10_centuries 24 = .ok (.iload_n 1, 1) := by decide +kernel
theorem dX10_centuries_25 : decode cX10_centuries 25 = .ok (.iadd, 1) := by decide +kernel
theorem dX10_centuries_26 : decode cX10_centuries 26 = .ok (.sipush 999, 3) := by decide +kernel
theorem dX10_centuries_29 : decode cX10_centuries 29 = .ok (.if_icmp .le 5, 3) := by decide +kernel
theorem dX10_centuries_32 : decode cX10_centuries 32 = .ok (.iconst (-1), 1) := by decide +kernel
theorem dX10_centuries_33 : decode cX10_centuries 33 = .ok (.ireturn, 1) := by decide +kernel
theorem dX10_centuries_34 : decode cX10_centuries 34 = .ok (.aload_n 0, 1) := by decide +kernel
theorem dX10_centuries_35 : decode cX10_centuries 35 = .ok (.lload_n 2, 1) := by decide +kernel
theorem dX10_centuries_36 : decode cX10_centuries 36 = .ok (.putfield 92, 3) := by decide +kernel
theorem dX10_centuries_39 : decode cX10_centuries 39 = .ok (.iconst 0, 1) := by decide +kernel
theorem dX10_centuries_40 : decode cX10_centuries 40 = .ok (.istore 4, 2) := by decide +kernel
theorem dX10_centuries_42 : decode cX10_centuries 42 = .ok (.iload 4, 2) := by decide +kernel
theorem dX10_centuries_44 : decode cX10_centuries 44 = .ok (.iload_n 1, 1) := by decide +kernel
theorem dX10_centuries_45 : decode cX10_centuries 45 = .ok (.if_icmp .ge 32, 3) := by decide +kernel
theorem dX10_centuries_48 : decode cX10_centuries 48 = .ok (.aload_n 0, 1) := by decide +kernel
theorem dX10_centuries_49 : decode cX10_centuries 49 = .ok (.getfield 61, 3) := by decide +kernel
theorem dX10_centuries_52 : decode cX10_centuries 52 = .ok (.aload_n 0, 1) := by decide +kernel
theorem dX10_centuries_53 : decode cX10_centuries 53 = .ok (.getfield 51, 3) := by decide +kernel
theorem dX10_centuries_56 : decode cX10_centuries 56 = .ok (.invokevirtual 277, 3) := by decide +kernel
theorem dX10_centuries_59 : decode cX10_centuries 59 = .ok (.aload_n 0, 1) := by decide +kernel
theorem dX10_centuries_60 : decode cX10_centuries 60 = .ok (.invokevirtual 304, 3) := by decide +kernel
theorem dX10_centuries_63 : decode cX10_centuries 63 = .ok (.aload_n 0, 1) := by decide +kernel
theorem dX10_centuries_64 : decode cX10_centuries 64 = .ok (.invokevirtual 307, 3) := by decide +kernel
theorem dX10_centuries_67 : decode cX10_centuries 67 = .ok (.aload_n 0, 1) := by decide +kernel
theorem dX10_centuries_68 : decode cX10_centuries 68 = .ok (.invokevirtual 290, 3) := by decide +kernel
theorem dX10_centuries_71 : decode cX10_centuries 71 = .ok (.iinc 4 1, 3) := by decide +kernel
theorem dX10_centuries_74 : decode cX10_centuries 74 = .ok (.goto (-32), 3) := by decide +kernel
theorem dX10_centuries_77 : decode cX10_centuries 77 = .ok (.aload_n 0, 1) := by decide +kernel
theorem dX10_centuries_78 : decode cX10_centuries 78 = .ok (.getfield 51, 3) := by decide +kernel
theorem dX10_centuries_81 : decode cX10_centuries 81 = .ok (.getfield 287, 3) := by decide +kernel
theorem dX10_centuries_84 : decode cX10_centuries 84 = .ok (.ireturn, 1) := by decide +kernel
theorem dX10_draw_0 : decode cX10_draw 0 = .ok (.aload_n 0, 1) := by decide +kernel
theorem dX10_draw_1 : decode cX10_draw 1 = .ok (.aload_n 0, 1) := by decide +kernel
theorem dX10_draw_2 : decode cX10_draw 2 = .ok (.getfield 92, 3) := by decide +kernel
theorem dX10_draw_5 : decode cX10_draw 5 = .ok (.ldc2_w 310, 3) := by decide +kernel
theorem dX10_draw_8 : decode cX10_draw 8 = .ok (.lmul, 1) := by decide +kernel
theorem dX10_draw_9 : decode cX10_draw 9 = .ok (.ldc2_w 312, 3) := by decide +kernel
theorem dX10_draw_12 : decode cX10_draw 12 = .ok (.ladd, 1) := by decide +kernel
theorem dX10_draw_13 : decode cX10_draw 13 = .ok (.putfield 92, 3) := by decide +kernel
theorem dX10_draw_16 : decode cX10_draw 16 = .ok (.iload_n 1, 1) := by decide +kernel
theorem dX10_draw_17 : decode cX10_draw 17 = .ok (.ifCond .le 17, 3) := by decide +kernel
theorem dX10_draw_20 : decode cX10_draw 20 = .ok (.aload_n 0, 1) := by decide +kernel
theorem dX10_draw_21 : decode cX10_draw 21 = .ok (.getfield 92, 3) := by decide +kernel
theorem dX10_draw_24 : decode cX10_draw 24 = .ok (.bipush 33, 2) := by decide +kernel
theorem dX10_draw_26 : decode cX10_draw 26 = .ok (.lushr, 1) := by decide +kernel
theorem dX10_draw_27 : decode cX10_draw 27 = .ok (.iload_n 1, 1) := by decide +kernel
theorem dX10_draw_28 : decode cX10_draw 28 = .ok (.i2l, 1) := by decide +kernel
theorem dX10_draw_29 : decode cX10_draw 29 = .ok (.lrem, 1) := by decide +kernel
theorem dX10_draw_30 : decode cX10_draw 30 = .ok (.l2i, 1) := by decide +kernel
theorem dX10_draw_31 : decode cX10_draw 31 = .ok (.goto 4, 3) := by decide +kernel
theorem dX10_draw_34 : decode cX10_draw 34 = .ok (.iconst 0, 1) := by decide +kernel
theorem dX10_draw_35 : decode cX10_draw 35 = .ok (.ireturn, 1) := by decide +kernel
theorem dX10_drawCurtains_0 : decode cX10_drawCurtains 0 = .ok (.aload_n 0, 1) := by decide +kernel
theorem dX10_drawCurtains_1 : decode cX10_drawCurtains 1 = .ok (.bipush 100, 2) := by decide +kernel
theorem dX10_drawCurtains_3 : decode cX10_drawCurtains 3 = .ok (.invokevirtual 314, 3) := by decide +kernel
theorem dX10_drawCurtains_6 : decode cX10_drawCurtains 6 = .ok (.aload_n 0, 1) := by decide +kernel
theorem dX10_drawCurtains_7 : decode cX10_drawCurtains 7 = .ok (.getfield 89, 3) := by decide +kernel
theorem dX10_drawCurtains_10 : decode cX10_drawCurtains 10 = .ok (.if_icmp .ge 20, 3) := by decide +kernel
theorem dX10_drawCurtains_13 : decode cX10_drawCurtains 13 = .ok (.aload_n 0, 1) := by decide +kernel
theorem dX10_drawCurtains_14 : decode cX10_drawCurtains 14 = .ok (.getfield 51, 3) := by decide +kernel
theorem dX10_drawCurtains_17 : decode cX10_drawCurtains 17 = .ok (.aload_n 0, 1) := by decide +kernel
theorem dX10_drawCurtains_18 : decode cX10_drawCurtains 18 = .ok (.getfield 41, 3) := by decide +kernel
theorem dX10_drawCurtains_21 : decode cX10_drawCurtains 21 = .ok (.invokevirtual 317, 3) := by decide +kernel
theorem dX10_drawCurtains_24 : decode cX10_drawCurtains 24 = .ok (.putfield 187, 3) := by decide +kernel
theorem dX10_drawCurtains_27 : decode cX10_drawCurtains 27 = .ok (.goto 48, 3) := by decide +kernel
theorem dX10_drawCurtains_30 : decode cX10_drawCurtains 30 = .ok (.aload_n 0, 1) := by decide +kernel
theorem dX10_drawCurtains_31 : decode cX10_drawCurtains 31 = .ok (.getfield 41, 3) := by decide +kernel
theorem dX10_drawCurtains_34 : decode cX10_drawCurtains 34 = .ok (.getfield 146, 3) := by decide +kernel
theorem dX10_drawCurtains_37 : decode cX10_drawCurtains 37 = .ok (.ifCond .le 38, 3) := by decide +kernel
theorem dX10_drawCurtains_40 : decode cX10_drawCurtains 40 = .ok (.aload_n 0, 1) := by decide +kernel
theorem dX10_drawCurtains_41 : decode cX10_drawCurtains 41 = .ok (.getfield 51, 3) := by decide +kernel
theorem dX10_drawCurtains_44 : decode cX10_drawCurtains 44 = .ok (.dup, 1) := by decide +kernel
theorem dX10_drawCurtains_45 : decode cX10_drawCurtains 45 = .ok (.getfield 187, 3) := by decide +kernel
theorem dX10_drawCurtains_48 : decode cX10_drawCurtains 48 = .ok (.iconst 1, 1) := by decide +kernel
theorem dX10_drawCurtains_49 : decode cX10_drawCurtains 49 = .ok (.aload_n 0, 1) := by decide +kernel
theorem dX10_drawCurtains_50 : decode cX10_drawCurtains 50 = .ok (.aload_n 0, 1) := by decide +kernel
theorem dX10_drawCurtains_51 : decode cX10_drawCurtains 51 = .ok (.getfield 41, 3) := by decide +kernel
theorem dX10_drawCurtains_54 : decode cX10_drawCurtains 54 = .ok (.getfield 146, 3) := by decide +kernel
theorem dX10_drawCurtains_57 : decode cX10_drawCurtains 57 = .ok (.invokevirtual 314, 3) := by decide +kernel
theorem dX10_drawCurtains_60 : decode cX10_drawCurtains 60 = .ok (.ishl, 1) := by decide +kernel
theorem dX10_drawCurtains_61 : decode cX10_drawCurtains 61 = .ok (.aload_n 0, 1) := by decide +kernel
theorem dX10_drawCurtains_62 : decode cX10_drawCurtains 62 = .ok (.getfield 51, 3) := by decide +kernel
theorem dX10_drawCurtains_65 : decode cX10_drawCurtains 65 = .ok (.invokevirtual 320, 3) := by decide +kernel
theorem dX10_drawCurtains_68 : decode cX10_drawCurtains 68 = .ok (.iconst (-1), 1) := by decide +kernel
theorem dX10_drawCurtains_69 : decode cX10_drawCurtains 69 = .ok (.ixor, 1) := by decide +kernel
theorem dX10_drawCurtains_70 : decode cX10_drawCurtains 70 = .ok (.iand, 1) := by decide +kernel
theorem dX10_drawCurtains_71 : decode cX10_drawCurtains 71 = .ok (.ixor, 1) := by decide +kernel
theorem dX10_drawCurtains_72 : decode cX10_drawCurtains 72 = .ok (.putfield 187, 3) := by decide +kernel
theorem dX10_drawCurtains_75 : decode cX10_drawCurtains 75 = .ok (.return_, 1) := by decide +kernel
theorem dX10_drawPerson_0 : decode cX10_drawPerson 0 = .ok (.aload_n 0, 1) := by decide +kernel
theorem dX10_drawPerson_1 : decode cX10_drawPerson 1 = .ok (.aload_n 0, 1) := by decide +kernel
theorem dX10_drawPerson_2 : decode cX10_drawPerson 2 = .ok (.getfield 41, 3) := by decide +kernel
theorem dX10_drawPerson_5 : decode cX10_drawPerson 5 = .ok (.getfield 149, 3) := by decide +kernel
theorem dX10_drawPerson_8 : decode cX10_drawPerson 8 = .ok (.invokevirtual 314, 3) := by decide +kernel
theorem dX10_drawPerson_11 : decode cX10_drawPerson 11 = .ok (.istore_n 1, 1) := by decide +kernel
theorem dX10_drawPerson_12 : decode cX10_drawPerson 12 = .ok (.aload_n 0, 1) := by decide +kernel
theorem dX10_drawPerson_13 : decode cX10_drawPerson 13 = .ok (.aload_n 0, 1) := by decide +kernel
theorem dX10_drawPerson_14 : decode cX10_drawPerson 14 = .ok (.getfield 41, 3) := by decide +kernel
theorem dX10_drawPerson_17 : decode cX10_drawPerson 17 = .ok (.getfield 143, 3) := by decide +kernel
theorem dX10_drawPerson_20 : decode cX10_drawPerson 20 = .ok (.invokevirtual 314, 3) := by decide +kernel
theorem dX10_drawPerson_23 : decode cX10_drawPerson 23 = .ok (.istore_n 2, 1) := by decide +kernel
theorem dX10_drawPerson_24 : decode cX10_drawPerson 24 = .ok (.aload_n 0, 1) := by decide +kernel
theorem dX10_drawPerson_25 : decode cX10_drawPerson 25 = .ok (.iload_n 1, 1) := by decide +kernel
theorem dX10_drawPerson_26 : decode cX10_drawPerson 26 = .ok (.invokevirtual 201, 3) := by decide +kernel
theorem dX10_drawPerson_29 : decode cX10_drawPerson 29 = .ok (.ifCond .eq 33, 3) := by decide +kernel
theorem dX10_drawPerson_32 : decode cX10_drawPerson 32 = .ok (.aload_n 0, 1) := by decide +kernel
theorem dX10_drawPerson_33 : decode cX10_drawPerson 33 = .ok (.aload_n 0, 1) := by decide +kernel
theorem dX10_drawPerson_34 : decode cX10_drawPerson 34 = .ok (.getfield 51, 3) := by decide +kernel
theorem dX10_drawPerson_37 : decode cX10_drawPerson 37 = .ok (.getfield 211, 3) := by decide +kernel
theorem dX10_drawPerson_40 : decode cX10_drawPerson 40 = .ok (.iload_n 1, 1) := by decide +kernel
theorem dX10_drawPerson_41 : decode cX10_drawPerson 41 = .ok (.iaload, 1) := by decide +kernel
theorem dX10_drawPerson_42 : decode cX10_drawPerson 42 = .ok (.invokevirtual 217, 3) := by decide +kernel
theorem dX10_drawPerson_45 : decode cX10_drawPerson 45 = .ok (.iload_n 2, 1) := by decide +kernel
theorem dX10_drawPerson_46 : decode cX10_drawPerson 46 = .ok (.invokestatic 190, 3) := by decide +kernel
theorem dX10_drawPerson_49 : decode cX10_drawPerson 49 = .ok (.ifCond .eq 13, 3) := by decide +kernel
theorem dX10_drawPerson_52 : decode cX10_drawPerson 52 = .ok (.aload_n 0, 1) := by decide +kernel
theorem dX10_drawPerson_53 : decode cX10_drawPerson 53 = .ok (.getfield 51, 3) := by decide +kernel
theorem dX10_drawPerson_56 : decode cX10_drawPerson 56 = .ok (.getfield 211, 3) := by decide +kernel
theorem dX10_drawPerson_59 : decode cX10_drawPerson 59 = .ok (.iload_n 1, 1) := by decide +kernel
theorem dX10_drawPerson_60 : decode cX10_drawPerson 60 = .ok (.iload_n 2, 1) := by decide +kernel
theorem dX10_drawPerson_61 : decode cX10_drawPerson 61 = .ok (.iastore, 1) := by decide +kernel
theorem dX10_drawPerson_62 : decode cX10_drawPerson 62 = .ok (.return_, 1) := by decide +kernel
theorem dX10_status_0 : decode cX10_status 0 = .ok (.iload_n 1, 1) := by decide +kernel
theorem dX10_status_1 : decode cX10_status 1 = .ok (.iconst 0, 1) := by decide +kernel
theorem dX10_status_2 : decode cX10_status 2 = .ok (.iconst 4, 1) := by decide +kernel
theorem dX10_status_3 : decode cX10_status 3 = .ok (.invokestatic 204, 3) := by decide +kernel
theorem dX10_status_6 : decode cX10_status 6 = .ok (.ifCond .eq 12, 3) := by decide +kernel
theorem dX10_status_9 : decode cX10_status 9 = .ok (.aload_n 0, 1) := by decide +kernel
theorem dX10_status_10 : decode cX10_status 10 = .ok (.getfield 86, 3) := by decide +kernel
theorem dX10_status_13 : decode cX10_status 13 = .ok (.iload_n 1, 1) := by decide +kernel
theorem dX10_status_14 : decode cX10_status 14 = .ok (.iaload, 1) := by decide +kernel
theorem dX10_status_15 : decode cX10_status 15 = .ok (.goto 4, 3) := by decide +kernel
theorem dX10_status_18 : decode cX10_status 18 = .ok (.iconst (-1), 1) := by decide +kernel
theorem dX10_status_19 : decode cX10_status 19 = .ok (.ireturn, 1) := by decide +kernel
theorem dX10_undo_0 : decode cX10_undo 0 = .ok (.aload_n 0, 1) := by decide +kernel
theorem dX10_undo_1 : decode cX10_undo 1 = .ok (.getfield 61, 3) := by decide +kernel
theorem dX10_undo_4 : decode cX10_undo 4 = .ok (.getfield 323, 3) := by decide +kernel
theorem dX10_undo_7 : decode cX10_undo 7 = .ok (.ifCond .ne 5, 3) := by decide +kernel
theorem dX10_undo_10 : decode cX10_undo 10 = .ok (.iconst (-1), 1) := by decide +kernel
theorem dX10_undo_11 : decode cX10_undo 11 = .ok (.ireturn, 1) := by decide +kernel
theorem dX10_undo_12 : decode cX10_undo 12 = .ok (.aload_n 0, 1) := by decide +kernel
theorem dX10_undo_13 : decode cX10_undo 13 = .ok (.getfield 61, 3) := by decide +kernel
theorem dX10_undo_16 : decode cX10_undo 16 = .ok (.aload_n 0, 1) := by decide +kernel
theorem dX10_undo_17 : decode cX10_undo 17 = .ok (.getfield 51, 3) := by decide +kernel
theorem dX10_undo_20 : decode cX10_undo 20 = .ok (.invokevirtual 326, 3) := by decide +kernel
theorem dX10_undo_23 : decode cX10_undo 23 = .ok (.aload_n 0, 1) := by decide +kernel
theorem dX10_undo_24 : decode cX10_undo 24 = .ok (.getfield 61, 3) := by decide +kernel
theorem dX10_undo_27 : decode cX10_undo 27 = .ok (.getfield 323, 3) := by decide +kernel
theorem dX10_undo_30 : decode cX10_undo 30 = .ok (.ireturn, 1) := by decide +kernel
theorem dX10_logged_0 : decode cX10_logged 0 = .ok (.aload_n 0, 1) := by decide +kernel
theorem dX10_logged_1 : decode cX10_logged 1 = .ok (.getfield 51, 3) := by decide +kernel
theorem dX10_logged_4 : decode cX10_logged 4 = .ok (.getfield 287, 3) := by decide +kernel
theorem dX10_logged_7 : decode cX10_logged 7 = .ok (.bipush 60, 2) := by decide +kernel
theorem dX10_logged_9 : decode cX10_logged 9 = .ok (.invokestatic 329, 3) := by decide +kernel
theorem dX10_logged_12 : decode cX10_logged 12 = .ok (.ireturn, 1) := by decide +kernel
theorem dX10_log_0 : decode cX10_log 0 = .ok (.iload_n 1, 1) := by decide +kernel
theorem dX10_log_1 : decode cX10_log 1 = .ok (.iconst 0, 1) := by decide +kernel
theorem dX10_log_2 : decode cX10_log 2 = .ok (.aload_n 0, 1) := by decide +kernel
theorem dX10_log_3 : decode cX10_log 3 = .ok (.invokevirtual 335, 3) := by decide +kernel
theorem dX10_log_6 : decode cX10_log 6 = .ok (.iconst 1, 1) := by decide +kernel
theorem dX10_log_7 : decode cX10_log 7 = .ok (.isub, 1) := by decide +kernel
theorem dX10_log_8 : decode cX10_log 8 = .ok (.invokestatic 204, 3) := by decide +kernel
theorem dX10_log_11 : decode cX10_log 11 = .ok (.ifCond .eq 12, 3) := by decide +kernel
theorem dX10_log_14 : decode cX10_log 14 = .ok (.iload_n 2, 1) := by decide +kernel
theorem dX10_log_15 : decode cX10_log 15 = .ok (.iconst 0, 1) := by decide +kernel
theorem dX10_log_16 : decode cX10_log 16 = .ok (.iconst 2, 1) := by decide +kernel
theorem dX10_log_17 : decode cX10_log 17 = .ok (.invokestatic 204, 3) := by decide +kernel
theorem dX10_log_20 : decode cX10_log 20 = .ok (.ifCond .ne 5, 3) := by decide +kernel
theorem dX10_log_23 : decode cX10_log 23 = .ok (.iconst (-1), 1) := by decide +kernel
theorem dX10_log_24 : decode cX10_log 24 = .ok (.ireturn, 1) := by decide +kernel
theorem dX10_log_25 : decode cX10_log 25 = .ok (.aload_n 0, 1) := by decide +kernel
theorem dX10_log_26 : decode cX10_log 26 = .ok (.getfield 61, 3) := by decide +kernel
theorem dX10_log_29 : decode cX10_log 29 = .ok (.aload_n 0, 1) := by decide +kernel
theorem dX10_log_30 : decode cX10_log 30 = .ok (.getfield 51, 3) := by decide +kernel
theorem dX10_log_33 : decode cX10_log 33 = .ok (.getfield 287, 3) := by decide +kernel
theorem dX10_log_36 : decode cX10_log 36 = .ok (.iload_n 1, 1) := by decide +kernel
theorem dX10_log_37 : decode cX10_log 37 = .ok (.isub, 1) := by decide +kernel
theorem dX10_log_38 : decode cX10_log 38 = .ok (.iload_n 2, 1) := by decide +kernel
theorem dX10_log_39 : decode cX10_log 39 = .ok (.invokevirtual 338, 3) := by decide +kernel
theorem dX10_log_42 : decode cX10_log 42 = .ok (.ireturn, 1) := by decide +kernel
theorem dX10_areSquares_0 : decode cX10_areSquares 0 = .ok (.iload_n 1, 1) := by decide +kernel
theorem dX10_areSquares_1 : decode cX10_areSquares 1 = .ok (.aload_n 0, 1) := by decide +kernel
theorem dX10_areSquares_2 : decode cX10_areSquares 2 = .ok (.getfield 41, 3) := by decide +kernel
theorem dX10_areSquares_5 : decode cX10_areSquares 5 = .ok (.invokevirtual 241, 3) := by decide +kernel
theorem dX10_areSquares_8 : decode cX10_areSquares 8 = .ok (.iconst (-1), 1) := by decide +kernel
theorem dX10_areSquares_9 : decode cX10_areSquares 9 = .ok (.ixor, 1) := by decide +kernel
theorem dX10_areSquares_10 : decode cX10_areSquares 10 = .ok (.iand, 1) := by decide +kernel
theorem dX10_areSquares_11 : decode cX10_areSquares 11 = .ok (.ifCond .ne 7, 3) := by decide +kernel
theorem dX10_areSquares_14 : decode cX10_areSquares 14 = .ok (.iconst 1, 1) := by decide +kernel
theorem dX10_areSquares_15 : decode cX10_areSquares 15 = .ok (.goto 4, 3) := by decide +kernel
theorem dX10_areSquares_18 : decode cX10_areSquares 18 = .ok (.iconst 0, 1) := by decide +kernel
theorem dX10_areSquares_19 : decode cX10_areSquares 19 = .ok (.ireturn, 1) := by decide +kernel
theorem dX10_join_0 : decode cX10_join 0 = .ok (.aload_n 0, 1) := by decide +kernel
theorem dX10_join_1 : decode cX10_join 1 = .ok (.invokevirtual 152, 3) := by decide +kernel
theorem dX10_join_4 : decode cX10_join 4 = .ok (.ifCond .eq 23, 3) := by decide +kernel
theorem dX10_join_7 : decode cX10_join 7 = .ok (.aload_n 0, 1) := by decide +kernel
theorem dX10_join_8 : decode cX10_join 8 = .ok (.iload_n 1, 1) := by decide +kernel
theorem dX10_join_9 : decode cX10_join 9 = .ok (.invokevirtual 341, 3) := by decide +kernel
theorem dX10_join_12 : decode cX10_join 12 = .ok (.ifCond .eq 15, 3) := by decide +kernel
theorem dX10_join_15 : decode cX10_join 15 = .ok (.aload_n 0, 1) := by decide +kernel
theorem dX10_join_16 : decode cX10_join 16 = .ok (.iload_n 2, 1) := by decide +kernel
theorem dX10_join_17 : decode cX10_join 17 = .ok (.invokevirtual 341, 3) := by decide +kernel
theorem dX10_join_20 : decode cX10_join 20 = .ok (.ifCond .eq 7, 3) := by decide +kernel
theorem dX10_join_23 : decode cX10_join 23 = .ok (.iload_n 1, 1) := by decide +kernel
theorem dX10_join_24 : decode cX10_join 24 = .ok (.ifCond .ne 5, 3) := by decide +kernel
theorem dX10_join_27 : decode cX10_join 27 = .ok (.iconst (-1), 1) := by decide +kernel
theorem dX10_join_28 : decode cX10_join 28 = .ok (.ireturn, 1) := by decide +kernel
theorem dX10_join_29 : decode cX10_join 29 = .ok (.aload_n 0, 1) := by decide +kernel
theorem dX10_join_30 : decode cX10_join 30 = .ok (.getfield 51, 3) := by decide +kernel
theorem dX10_join_33 : decode cX10_join 33 = .ok (.invokevirtual 194, 3) := by decide +kernel
theorem dX10_join_36 : decode cX10_join 36 = .ok (.istore_n 3, 1) := by decide +kernel
theorem dX10_join_37 : decode cX10_join 37 = .ok (.aload_n 0, 1) := by decide +kernel
theorem dX10_join_38 : decode cX10_join 38 = .ok (.getfield 51, 3) := by decide +kernel
theorem dX10_join_41 : decode cX10_join 41 = .ok (.invokevirtual 320, 3) := by decide +kernel
theorem dX10_join_44 : decode cX10_join 44 = .ok (.istore 4, 2) := by decide +kernel
theorem dX10_join_46 : decode cX10_join 46 = .ok (.iconst (-1), 1) := by decide +kernel
theorem dX10_join_47 : decode cX10_join 47 = .ok (.istore 5, 2) := by decide +kernel
theorem dX10_join_49 : decode cX10_join 49 = .ok (.iconst 0, 1) := by decide +kernel
theorem dX10_join_50 : decode cX10_join 50 = .ok (.istore 6, 2) := by decide +kernel
theorem dX10_join_52 : decode cX10_join 52 = .ok (.iload 6, 2) := by decide +kernel
theorem dX10_join_54 : decode cX10_join 54 = .ok (.aload_n 0, 1) := by decide +kernel
theorem dX10_join_55 : decode cX10_join 55 = .ok (.getfield 41, 3) := by decide +kernel
theorem dX10_join_58 : decode cX10_join 58 = .ok (.invokevirtual 317, 3) := by decide +kernel
theorem dX10_join_61 : decode cX10_join 61 = .ok (.if_icmp .gt 87, 3) := by decide +kernel
theorem dX10_join_64 : decode cX10_join 64 = .ok (.iload 6, 2) := by decide +kernel
theorem dX10_join_66 : decode cX10_join 66 = .ok (.iload 4, 2) := by decide +kernel
theorem dX10_join_68 : decode cX10_join 68 = .ok (.iand, 1) := by decide +kernel
theorem dX10_join_69 : decode cX10_join 69 = .ok (.ifCond .ne 73, 3) := by decide +kernel
theorem dX10_join_72 : decode cX10_join 72 = .ok (.iload 5, 2) := by decide +kernel
theorem dX10_join_74 : decode cX10_join 74 = .ok (.iconst (-1), 1) := by decide +kernel
theorem dX10_join_75 : decode cX10_join 75 = .ok (.if_icmp .eq 19, 3) := by decide +kernel
theorem dX10_join_78 : decode cX10_join 78 = .ok (.iload 6, 2) := by decide +kernel
theorem dX10_join_80 : decode cX10_join 80 = .ok (.invokestatic 344, 3) := by decide +kernel
theorem dX10_join_83 : decode cX10_join 83 = .ok (.iload 5, 2) := by decide +kernel
theorem dX10_join_85 : decode cX10_join 85 = .ok (.invokestatic 344, 3) := by decide +kernel
theorem dX10_join_88 : decode cX10_join 88 = .ok (.if_icmp .lt 6, 3) := by decide +kernel
theorem dX10_join_91 : decode cX10_join 91 = .ok (.goto 51, 3) := by decide +kernel
theorem dX10_join_94 : decode cX10_join 94 = .ok (.aload_n 0, 1) := by decide +kernel
theorem dX10_join_95 : decode cX10_join 95 = .ok (.getfield 68, 3) := by decide +kernel
theorem dX10_join_98 : decode cX10_join 98 = .ok (.aload_n 0, 1) := by decide +kernel
theorem dX10_join_99 : decode cX10_join 99 = .ok (.getfield 41, 3) := by decide +kernel
theorem dX10_join_102 : decode cX10_join 102 = .ok (.iload_n 3, 1) := by decide +kernel
theorem dX10_join_103 : decode cX10_join 103 = .ok (.iload 6, 2) := by decide +kernel
theorem dX10_join_105 : decode cX10_join 105 = .ok (.ixor, 1) := by decide +kernel
theorem dX10_join_106 : decode cX10_join 106 = .ok (.invokevirtual 234, 3) := by decide +kernel
theorem dX10_join_109 : decode cX10_join 109 = .ok (.aload_n 0, 1) := by decide +kernel
theorem dX10_join_110 : decode cX10_join 110 = .ok (.getfield 68, 3) := by decide +kernel
theorem dX10_join_113 : decode cX10_join 113 = .ok (.iload_n 1, 1) := by decide +kernel
theorem dX10_join_114 : decode cX10_join 114 = .ok (.iload_n 1, 1) := by decide +kernel
theorem dX10_join_115 : decode cX10_join 115 = .ok (.ineg, 1) := by decide +kernel
theorem dX10_join_116 : decode cX10_join 116 = .ok (.iand, 1) := by decide +kernel
theorem dX10_join_117 : decode cX10_join 117 = .ok (.invokevirtual 238, 3) := by decide +kernel
theorem dX10_join_120 : decode cX10_join 120 = .ok (.istore 7, 2) := by decide +kernel
theorem dX10_join_122 : decode cX10_join 122 = .ok (.iload_n 1, 1) := by decide +kernel
theorem dX10_join_123 : decode cX10_join 123 = .ok (.iload 7, 2) := by decide +kernel
theorem dX10_join_125 : decode cX10_join 125 = .ok (.iconst (-1), 1) := by decide +kernel
theorem dX10_join_126 : decode cX10_join 126 = .ok (.ixor, 1) := by decide +kernel
theorem dX10_join_127 : decode cX10_join 127 = .ok (.iand, 1) := by decide +kernel
theorem dX10_join_128 : decode cX10_join 128 = .ok (.ifCond .ne 14, 3) := by decide +kernel
theorem dX10_join_131 : decode cX10_join 131 = .ok (.iload_n 2, 1) := by decide +kernel
theorem dX10_join_132 : decode cX10_join 132 = .ok (.iload 7, 2) := by decide +kernel
theorem dX10_join_134 : decode cX10_join 134 = .ok (.iand, 1) := by decide +kernel
theorem dX10_join_135 : decode cX10_join 135 = .ok (.ifCond .ne 7, 3) := by decide +kernel
theorem dX10_join_138 : decode cX10_join 138 = .ok (.iload 6, 2) := by decide +kernel
theorem dX10_join_140 : decode cX10_join 140 = .ok (.istore 5, 2) := by decide +kernel
theorem dX10_join_142 : decode cX10_join 142 = .ok (.iinc 6 1, 3) := by decide +kernel
theorem dX10_join_145 : decode cX10_join 145 = .ok (.goto (-93), 3) := by decide +kernel
theorem dX10_join_148 : decode cX10_join 148 = .ok (.iload 5, 2) := by decide +kernel
theorem dX10_join_150 : decode cX10_join 150 = .ok (.ireturn, 1) := by decide +kernel
theorem dX10_hide_0 : decode cX10_hide 0 = .ok (.aload_n 0, 1) := by decide +kernel
theorem dX10_hide_1 : decode cX10_hide 1 = .ok (.iload_n 1, 1) := by decide +kernel
theorem dX10_hide_2 : decode cX10_hide 2 = .ok (.invokevirtual 258, 3) := by decide +kernel
theorem dX10_hide_5 : decode cX10_hide 5 = .ok (.ifCond .eq 21, 3) := by decide +kernel
theorem dX10_hide_8 : decode cX10_hide 8 = .ok (.aload_n 0, 1) := by decide +kernel
theorem dX10_hide_9 : decode cX10_hide 9 = .ok (.iload_n 2, 1) := by decide +kernel
theorem dX10_hide_10 : decode cX10_hide 10 = .ok (.invokevirtual 258, 3) := by decide +kernel
theorem dX10_hide_13 : decode cX10_hide 13 = .ok (.ifCond .eq 13, 3) := by decide +kernel
theorem dX10_hide_16 : decode cX10_hide 16 = .ok (.iload_n 3, 1) := by decide +kernel
theorem dX10_hide_17 : decode cX10_hide 17 = .ok (.iconst 1, 1) := by decide +kernel
theorem dX10_hide_18 : decode cX10_hide 18 = .ok (.bipush 99, 2) := by decide +kernel
theorem dX10_hide_20 : decode cX10_hide 20 = .ok (.invokestatic 204, 3) := by decide +kernel
theorem dX10_hide_23 : decode cX10_hide 23 = .ok (.ifCond .ne 5, 3) := by decide +kernel
theorem dX10_hide_26 : decode cX10_hide 26 = .ok (.iconst (-1), 1) := by decide +kernel
theorem dX10_hide_27 : decode cX10_hide 27 = .ok (.ireturn, 1) := by decide +kernel
theorem dX10_hide_28 : decode cX10_hide 28 = .ok (.aload_n 0, 1) := by decide +kernel
theorem dX10_hide_29 : decode cX10_hide 29 = .ok (.getfield 51, 3) := by decide +kernel
theorem dX10_hide_32 : decode cX10_hide 32 = .ok (.invokevirtual 194, 3) := by decide +kernel
theorem dX10_hide_35 : decode cX10_hide 35 = .ok (.istore 4, 2) := by decide +kernel
theorem dX10_hide_37 : decode cX10_hide 37 = .ok (.aload_n 0, 1) := by decide +kernel
theorem dX10_hide_38 : decode cX10_hide 38 = .ok (.getfield 51, 3) := by decide +kernel
theorem dX10_hide_41 : decode cX10_hide 41 = .ok (.invokevirtual 347, 3) := by decide +kernel
theorem dX10_hide_44 : decode cX10_hide 44 = .ok (.istore 5, 2) := by decide +kernel
theorem dX10_hide_46 : decode cX10_hide 46 = .ok (.aload_n 0, 1) := by decide +kernel
theorem dX10_hide_47 : decode cX10_hide 47 = .ok (.getfield 75, 3) := by decide +kernel
theorem dX10_hide_50 : decode cX10_hide 50 = .ok (.aload_n 0, 1) := by decide +kernel
theorem dX10_hide_51 : decode cX10_hide 51 = .ok (.getfield 51, 3) := by decide +kernel
theorem dX10_hide_54 : decode cX10_hide 54 = .ok (.aload_n 0, 1) := by decide +kernel
theorem dX10_hide_55 : decode cX10_hide 55 = .ok (.getfield 34, 3) := by decide +kernel
theorem dX10_hide_58 : decode cX10_hide 58 = .ok (.iload 4, 2) := by decide +kernel
theorem dX10_hide_60 : decode cX10_hide 60 = .ok (.iload 5, 2) := by decide +kernel
theorem dX10_hide_62 : decode cX10_hide 62 = .ok (.ior, 1) := by decide +kernel
theorem dX10_hide_63 : decode cX10_hide 63 = .ok (.invokevirtual 247, 3) := by decide +kernel
theorem dX10_hide_66 : decode cX10_hide 66 = .ok (.aload_n 0, 1) := by decide +kernel
theorem dX10_hide_67 : decode cX10_hide 67 = .ok (.iload 4, 2) := by decide +kernel
theorem dX10_hide_69 : decode cX10_hide 69 = .ok (.iload 5, 2) := by decide +kernel
theorem dX10_hide_71 : decode cX10_hide 71 = .ok (.ior, 1) := by decide +kernel
theorem dX10_hide_72 : decode cX10_hide 72 = .ok (.iload_n 1, 1) := by decide +kernel
theorem dX10_hide_73 : decode cX10_hide 73 = .ok (.iload_n 2, 1) := by decide +kernel
theorem dX10_hide_74 : decode cX10_hide 74 = .ok (.iload_n 3, 1) := by decide +kernel
theorem dX10_hide_75 : decode cX10_hide 75 = .ok (.invokevirtual 350, 3) := by decide +kernel
theorem dX10_hide_78 : decode cX10_hide 78 = .ok (.ifCond .le 5, 3) := by decide +kernel
theorem dX10_hide_81 : decode cX10_hide 81 = .ok (.iconst (-1), 1) := by decide +kernel
theorem dX10_hide_82 : decode cX10_hide 82 = .ok (.ireturn, 1) := by decide +kernel
theorem dX10_hide_83 : decode cX10_hide 83 = .ok (.iload 5, 2) := by decide +kernel
theorem dX10_hide_85 : decode cX10_hide 85 = .ok (.istore 6, 2) := by decide +kernel
theorem dX10_hide_87 : decode cX10_hide 87 = .ok (.iconst 0, 1) := by decide +kernel
theorem dX10_hide_88 : decode cX10_hide 88 = .ok (.istore 7, 2) := by decide +kernel
theorem dX10_hide_90 : decode cX10_hide 90 = .ok (.iload 7, 2) := by decide +kernel
theorem dX10_hide_92 : decode cX10_hide 92 = .ok (.iload 5, 2) := by decide +kernel
theorem dX10_hide_94 : decode cX10_hide 94 = .ok (.if_icmp .ge 54, 3) := by decide +kernel
theorem dX10_hide_97 : decode cX10_hide 97 = .ok (.iload 7, 2) := by decide +kernel
theorem dX10_hide_99 : decode cX10_hide 99 = .ok (.iload 5, 2) := by decide +kernel
theorem dX10_hide_101 : decode cX10_hide 101 = .ok (.iconst (-1), 1) := by decide +kernel
theorem dX10_hide_102 : decode cX10_hide 102 = .ok (.ixor, 1) := by decide +kernel
theorem dX10_hide_103 : decode cX10_hide 103 = .ok (.iand, 1) := by decide +kernel
theorem dX10_hide_104 : decode cX10_hide 104 = .ok (.ifCond .ne 38, 3) := by decide +kernel
theorem dX10_hide_107 : decode cX10_hide 107 = .ok (.iload 7, 2) := by decide +kernel
theorem dX10_hide_109 : decode cX10_hide 109 = .ok (.invokestatic 344, 3) := by decide +kernel
theorem dX10_hide_112 : decode cX10_hide 112 = .ok (.iload 6, 2) := by decide +kernel
theorem dX10_hide_114 : decode cX10_hide 114 = .ok (.invokestatic 344, 3) := by decide +kernel
theorem dX10_hide_117 : decode cX10_hide 117 = .ok (.if_icmp .lt 6, 3) := by decide +kernel
theorem dX10_hide_120 : decode cX10_hide 120 = .ok (.goto 22, 3) := by decide +kernel
theorem dX10_hide_123 : decode cX10_hide 123 = .ok (.aload_n 0, 1) := by decide +kernel
theorem dX10_hide_124 : decode cX10_hide 124 = .ok (.iload 4, 2) := by decide +kernel
theorem dX10_hide_126 : decode cX10_hide 126 = .ok (.iload 7, 2) := by decide +kernel
theorem dX10_hide_128 : decode cX10_hide 128 = .ok (.ior, 1) := by decide +kernel
theorem dX10_hide_129 : decode cX10_hide 129 = .ok (.iload_n 1, 1) := by decide +kernel
theorem dX10_hide_130 : decode cX10_hide 130 = .ok (.iload_n 2, 1) := by decide +kernel
theorem dX10_hide_131 : decode cX10_hide 131 = .ok (.iload_n 3, 1) := by decide +kernel
theorem dX10_hide_132 : decode cX10_hide 132 = .ok (.invokevirtual 350, 3) := by decide +kernel
theorem dX10_hide_135 : decode cX10_hide 135 = .ok (.ifCond .ne 7, 3) := by decide +kernel
theorem dX10_hide_138 : decode cX10_hide 138 = .ok (.iload 7, 2) := by decide +kernel
theorem dX10_hide_140 : decode cX10_hide 140 = .ok (.istore 6, 2) := by decide +kernel
theorem dX10_hide_142 : decode cX10_hide 142 = .ok (.iinc 7 1, 3) := by decide +kernel
theorem dX10_hide_145 : decode cX10_hide 145 = .ok (.goto (-55), 3) := by decide +kernel
theorem dX10_hide_148 : decode cX10_hide 148 = .ok (.iload 6, 2) := by decide +kernel
theorem dX10_hide_150 : decode cX10_hide 150 = .ok (.ireturn, 1) := by decide +kernel
theorem dX10_brightWith_0 : decode cX10_brightWith 0 = .ok (.aload_n 0, 1) := by decide +kernel
theorem dX10_brightWith_1 : decode cX10_brightWith 1 = .ok (.getfield 75, 3) := by decide +kernel
theorem dX10_brightWith_4 : decode cX10_brightWith 4 = .ok (.aload_n 0, 1) := by decide +kernel
theorem dX10_brightWith_5 : decode cX10_brightWith 5 = .ok (.getfield 41, 3) := by decide +kernel
theorem dX10_brightWith_8 : decode cX10_brightWith 8 = .ok (.iload_n 1, 1) := by decide +kernel
theorem dX10_brightWith_9 : decode cX10_brightWith 9 = .ok (.invokevirtual 251, 3) := by decide +kernel
theorem dX10_brightWith_12 : decode cX10_brightWith 12 = .ok (.aload_n 0, 1) := by decide +kernel
theorem dX10_brightWith_13 : decode cX10_brightWith 13 = .ok (.getfield 75, 3) := by decide +kernel
theorem dX10_brightWith_16 : decode cX10_brightWith 16 = .ok (.aload_n 0, 1) := by decide +kernel
theorem dX10_brightWith_17 : decode cX10_brightWith 17 = .ok (.getfield 41, 3) := by decide +kernel
theorem dX10_brightWith_20 : decode cX10_brightWith 20 = .ok (.iload_n 2, 1) := by decide +kernel
theorem dX10_brightWith_21 : decode cX10_brightWith 21 = .ok (.iload 4, 2) := by decide +kernel
theorem dX10_brightWith_23 : decode cX10_brightWith 23 = .ok (.invokevirtual 254, 3) := by decide +kernel
theorem dX10_brightWith_26 : decode cX10_brightWith 26 = .ok (.aload_n 0, 1) := by decide +kernel
theorem dX10_brightWith_27 : decode cX10_brightWith 27 = .ok (.getfield 75, 3) := by decide +kernel
theorem dX10_brightWith_30 : decode cX10_brightWith 30 = .ok (.getfield 265, 3) := by decide +kernel
theorem dX10_brightWith_33 : decode cX10_brightWith 33 = .ok (.iload_n 3, 1) := by decide +kernel
theorem dX10_brightWith_34 : decode cX10_brightWith 34 = .ok (.iaload, 1) := by decide +kernel
theorem dX10_brightWith_35 : decode cX10_brightWith 35 = .ok (.ireturn, 1) := by decide +kernel
theorem dX10_seen_0 : decode cX10_seen 0 = .ok (.aload_n 0, 1) := by decide +kernel
theorem dX10_seen_1 : decode cX10_seen 1 = .ok (.iload_n 1, 1) := by decide +kernel
theorem dX10_seen_2 : decode cX10_seen 2 = .ok (.invokevirtual 258, 3) := by decide +kernel
theorem dX10_seen_5 : decode cX10_seen 5 = .ok (.ifCond .eq 13, 3) := by decide +kernel
theorem dX10_seen_8 : decode cX10_seen 8 = .ok (.iload_n 2, 1) := by decide +kernel
theorem dX10_seen_9 : decode cX10_seen 9 = .ok (.iconst 1, 1) := by decide +kernel
theorem dX10_seen_10 : decode cX10_seen 10 = .ok (.bipush 99, 2) := by decide +kernel
theorem dX10_seen_12 : decode cX10_seen 12 = .ok (.invokestatic 204, 3) := by decide +kernel
theorem dX10_seen_15 : decode cX10_seen 15 = .ok (.ifCond .ne 5, 3) := by decide +kernel
theorem dX10_seen_18 : decode cX10_seen 18 = .ok (.iconst (-1), 1) := by decide +kernel
theorem dX10_seen_19 : decode cX10_seen 19 = .ok (.ireturn, 1) := by decide +kernel
theorem dX10_seen_20 : decode cX10_seen 20 = .ok (.aload_n 0, 1) := by decide +kernel
theorem dX10_seen_21 : decode cX10_seen 21 = .ok (.getfield 51, 3) := by decide +kernel
theorem dX10_seen_24 : decode cX10_seen 24 = .ok (.invokevirtual 194, 3) := by decide +kernel
theorem dX10_seen_27 : decode cX10_seen 27 = .ok (.istore_n 3, 1) := by decide +kernel
theorem dX10_seen_28 : decode cX10_seen 28 = .ok (.aload_n 0, 1) := by decide +kernel
theorem dX10_seen_29 : decode cX10_seen 29 = .ok (.getfield 75, 3) := by decide +kernel
theorem dX10_seen_32 : decode cX10_seen 32 = .ok (.aload_n 0, 1) := by decide +kernel
theorem dX10_seen_33 : decode cX10_seen 33 = .ok (.getfield 51, 3) := by decide +kernel
theorem dX10_seen_36 : decode cX10_seen 36 = .ok (.aload_n 0, 1) := by decide +kernel
theorem dX10_seen_37 : decode cX10_seen 37 = .ok (.getfield 34, 3) := by decide +kernel
theorem dX10_seen_40 : decode cX10_seen 40 = .ok (.iload_n 3, 1) := by decide +kernel
theorem dX10_seen_41 : decode cX10_seen 41 = .ok (.invokevirtual 247, 3) := by decide +kernel
theorem dX10_seen_44 : decode cX10_seen 44 = .ok (.aload_n 0, 1) := by decide +kernel
theorem dX10_seen_45 : decode cX10_seen 45 = .ok (.getfield 75, 3) := by decide +kernel
theorem dX10_seen_48 : decode cX10_seen 48 = .ok (.aload_n 0, 1) := by decide +kernel
theorem dX10_seen_49 : decode cX10_seen 49 = .ok (.getfield 41, 3) := by decide +kernel
theorem dX10_seen_52 : decode cX10_seen 52 = .ok (.iload_n 3, 1) := by decide +kernel
theorem dX10_seen_53 : decode cX10_seen 53 = .ok (.invokevirtual 251, 3) := by decide +kernel
theorem dX10_seen_56 : decode cX10_seen 56 = .ok (.aload_n 0, 1) := by decide +kernel
theorem dX10_seen_57 : decode cX10_seen 57 = .ok (.getfield 75, 3) := by decide +kernel
theorem dX10_seen_60 : decode cX10_seen 60 = .ok (.aload_n 0, 1) := by decide +kernel
theorem dX10_seen_61 : decode cX10_seen 61 = .ok (.getfield 41, 3) := by decide +kernel
theorem dX10_seen_64 : decode cX10_seen 64 = .ok (.iload_n 1, 1) := by decide +kernel
theorem dX10_seen_65 : decode cX10_seen 65 = .ok (.iload_n 2, 1) := by decide +kernel
theorem dX10_seen_66 : decode cX10_seen 66 = .ok (.invokevirtual 254, 3) := by decide +kernel
theorem dX10_seen_69 : decode cX10_seen 69 = .ok (.aload_n 0, 1) := by decide +kernel
theorem dX10_seen_70 : decode cX10_seen 70 = .ok (.getfield 41, 3) := by decide +kernel
theorem dX10_seen_73 : decode cX10_seen 73 = .ok (.invokevirtual 241, 3) := by decide +kernel
theorem dX10_seen_76 : decode cX10_seen 76 = .ok (.aload_n 0, 1) := by decide +kernel
theorem dX10_seen_77 : decode cX10_seen 77 = .ok (.getfield 75, 3) := by decide +kernel
theorem dX10_seen_80 : decode cX10_seen 80 = .ok (.aload_n 0, 1) := by decide +kernel
theorem dX10_seen_81 : decode cX10_seen 81 = .ok (.getfield 41, 3) := by decide +kernel
theorem dX10_seen_84 : decode cX10_seen 84 = .ok (.getfield 143, 3) := by decide +kernel
theorem dX10_seen_87 : decode cX10_seen 87 = .ok (.invokevirtual 354, 3) := by decide +kernel
theorem dX10_seen_90 : decode cX10_seen 90 = .ok (.iconst (-1), 1) := by decide +kernel
theorem dX10_seen_91 : decode cX10_seen 91 = .ok (.ixor, 1) := by decide +kernel
theorem dX10_seen_92 : decode cX10_seen 92 = .ok (.iand, 1) := by decide +kernel
theorem dX10_seen_93 : decode cX10_seen 93 = .ok (.ireturn, 1) := by decide +kernel
theorem dX10_under_0 : decode cX10_under 0 = .ok (.aload_n 0, 1) := by decide +kernel
theorem dX10_under_1 : decode cX10_under 1 = .ok (.iload_n 1, 1) := by decide +kernel
theorem dX10_under_2 : decode cX10_under 2 = .ok (.invokevirtual 258, 3) := by decide +kernel
theorem dX10_under_5 : decode cX10_under 5 = .ok (.ifCond .eq 21, 3) := by decide +kernel
theorem dX10_under_8 : decode cX10_under 8 = .ok (.aload_n 0, 1) := by decide +kernel
theorem dX10_under_9 : decode cX10_under 9 = .ok (.iload_n 2, 1) := by decide +kernel
theorem dX10_under_10 : decode cX10_under 10 = .ok (.invokevirtual 258, 3) := by decide +kernel
theorem dX10_under_13 : decode cX10_under 13 = .ok (.ifCond .eq 13, 3) := by decide +kernel
theorem dX10_under_16 : decode cX10_under 16 = .ok (.iload_n 3, 1) := by decide +kernel
theorem dX10_under_17 : decode cX10_under 17 = .ok (.iconst 0, 1) := by decide +kernel
theorem dX10_under_18 : decode cX10_under 18 = .ok (.bipush 9, 2) := by decide +kernel
theorem dX10_under_20 : decode cX10_under 20 = .ok (.invokestatic 204, 3) := by decide +kernel
theorem dX10_under_23 : decode cX10_under 23 = .ok (.ifCond .ne 5, 3) := by decide +kernel
theorem dX10_under_26 : decode cX10_under 26 = .ok (.iconst (-1), 1) := by decide +kernel
theorem dX10_under_27 : decode cX10_under 27 = .ok (.ireturn, 1) := by decide +kernel
theorem dX10_under_28 : decode cX10_under 28 = .ok (.aload_n 0, 1) := by decide +kernel
theorem dX10_under_29 : decode cX10_under 29 = .ok (.iload_n 3, 1) := by decide +kernel
theorem dX10_under_30 : decode cX10_under 30 = .ok (.invokevirtual 357, 3) := by decide +kernel
theorem dX10_under_33 : decode cX10_under 33 = .ok (.istore 4, 2) := by decide +kernel
theorem dX10_under_35 : decode cX10_under 35 = .ok (.aload_n 0, 1) := by decide +kernel
theorem dX10_under_36 : decode cX10_under 36 = .ok (.iload_n 1, 1) := by decide +kernel
theorem dX10_under_37 : decode cX10_under 37 = .ok (.invokevirtual 217, 3) := by decide +kernel
theorem dX10_under_40 : decode cX10_under 40 = .ok (.istore 5, 2) := by decide +kernel
theorem dX10_under_42 : decode cX10_under 42 = .ok (.iconst 0, 1) := by decide +kernel
theorem dX10_under_43 : decode cX10_under 43 = .ok (.istore 6, 2) := by decide +kernel
theorem dX10_under_45 : decode cX10_under 45 = .ok (.iload 6, 2) := by decide +kernel
theorem dX10_under_47 : decode cX10_under 47 = .ok (.aload_n 0, 1) := by decide +kernel
theorem dX10_under_48 : decode cX10_under 48 = .ok (.getfield 41, 3) := by decide +kernel
theorem dX10_under_51 : decode cX10_under 51 = .ok (.getfield 146, 3) := by decide +kernel
theorem dX10_under_54 : decode cX10_under 54 = .ok (.if_icmp .gt 41, 3) := by decide +kernel
theorem dX10_under_57 : decode cX10_under 57 = .ok (.iload 5, 2) := by decide +kernel
theorem dX10_under_59 : decode cX10_under 59 = .ok (.iload_n 2, 1) := by decide +kernel
theorem dX10_under_60 : decode cX10_under 60 = .ok (.invokestatic 190, 3) := by decide +kernel
theorem dX10_under_63 : decode cX10_under 63 = .ok (.ifCond .eq 6, 3) := by decide +kernel
theorem dX10_under_66 : decode cX10_under 66 = .ok (.iload 6, 2) := by decide +kernel
theorem dX10_under_68 : decode cX10_under 68 = .ok (.ireturn, 1) := by decide +kernel
theorem dX10_under_69 : decode cX10_under 69 = .ok (.aload_n 0, 1) := by decide +kernel
theorem dX10_under_70 : decode cX10_under 70 = .ok (.getfield 68, 3) := by decide +kernel
theorem dX10_under_73 : decode cX10_under 73 = .ok (.iload 5, 2) := by decide +kernel
theorem dX10_under_75 : decode cX10_under 75 = .ok (.aload_n 0, 1) := by decide +kernel
theorem dX10_under_76 : decode cX10_under 76 = .ok (.iload 5, 2) := by decide +kernel
theorem dX10_under_78 : decode cX10_under 78 = .ok (.iload 4, 2) := by decide +kernel
theorem dX10_under_80 : decode cX10_under 80 = .ok (.invokevirtual 360, 3) := by decide +kernel
theorem dX10_under_83 : decode cX10_under 83 = .ok (.ior, 1) := by decide +kernel
theorem dX10_under_84 : decode cX10_under 84 = .ok (.invokevirtual 238, 3) := by decide +kernel
theorem dX10_under_87 : decode cX10_under 87 = .ok (.istore 5, 2) := by decide +kernel
theorem dX10_under_89 : decode cX10_under 89 = .ok (.iinc 6 1, 3) := by decide +kernel
theorem dX10_under_92 : decode cX10_under 92 = .ok (.goto (-47), 3) := by decide +kernel
theorem dX10_under_95 : decode cX10_under 95 = .ok (.iconst (-1), 1) := by decide +kernel
theorem dX10_under_96 : decode cX10_under 96 = .ok (.ireturn, 1) := by decide +kernel
theorem dX10_beyond_0 : decode cX10_beyond 0 = .ok (.iconst 0, 1) := by decide +kernel
theorem dX10_beyond_1 : decode cX10_beyond 1 = .ok (.istore_n 3, 1) := by decide +kernel
theorem dX10_beyond_2 : decode cX10_beyond 2 = .ok (.iconst 0, 1) := by decide +kernel
theorem dX10_beyond_3 : decode cX10_beyond 3 = .ok (.istore 4, 2) := by decide +kernel
theorem dX10_beyond_5 : decode cX10_beyond 5 = .ok (.iload 4, 2) := by decide +kernel
theorem dX10_beyond_7 : decode cX10_beyond 7 = .ok (.aload_n 0, 1) := by decide +kernel
theorem dX10_beyond_8 : decode cX10_beyond 8 = .ok (.getfield 41, 3) := by decide +kernel
theorem dX10_beyond_11 : decode cX10_beyond 11 = .ok (.getfield 146, 3) := by decide +kernel
theorem dX10_beyond_14 : decode cX10_beyond 14 = .ok (.if_icmp .ge 91, 3) := by decide +kernel
theorem dX10_beyond_17 : decode cX10_beyond 17 = .ok (.iload_n 2, 1) := by decide +kernel
theorem dX10_beyond_18 : decode cX10_beyond 18 = .ok (.iload 4, 2) := by decide +kernel
theorem dX10_beyond_20 : decode cX10_beyond 20 = .ok (.invokestatic 190, 3) := by decide +kernel
theorem dX10_beyond_23 : decode cX10_beyond 23 = .ok (.ifCond .eq 35, 3) := by decide +kernel
theorem dX10_beyond_26 : decode cX10_beyond 26 = .ok (.iload_n 1, 1) := by decide +kernel
theorem dX10_beyond_27 : decode cX10_beyond 27 = .ok (.aload_n 0, 1) := by decide +kernel
theorem dX10_beyond_28 : decode cX10_beyond 28 = .ok (.getfield 41, 3) := by decide +kernel
theorem dX10_beyond_31 : decode cX10_beyond 31 = .ok (.getfield 172, 3) := by decide +kernel
theorem dX10_beyond_34 : decode cX10_beyond 34 = .ok (.iload 4, 2) := by decide +kernel
theorem dX10_beyond_36 : decode cX10_beyond 36 = .ok (.iaload, 1) := by decide +kernel
theorem dX10_beyond_37 : decode cX10_beyond 37 = .ok (.invokestatic 190, 3) := by decide +kernel
theorem dX10_beyond_40 : decode cX10_beyond 40 = .ok (.ifCond .eq 18, 3) := by decide +kernel
theorem dX10_beyond_43 : decode cX10_beyond 43 = .ok (.iload_n 3, 1) := by decide +kernel
theorem dX10_beyond_44 : decode cX10_beyond 44 = .ok (.iconst 1, 1) := by decide +kernel
theorem dX10_beyond_45 : decode cX10_beyond 45 = .ok (.aload_n 0, 1) := by decide +kernel
theorem dX10_beyond_46 : decode cX10_beyond 46 = .ok (.getfield 41, 3) := by decide +kernel
theorem dX10_beyond_49 : decode cX10_beyond 49 = .ok (.getfield 175, 3) := by decide +kernel
theorem dX10_beyond_52 : decode cX10_beyond 52 = .ok (.iload 4, 2) := by decide +kernel
theorem dX10_beyond_54 : decode cX10_beyond 54 = .ok (.iaload, 1) := by decide +kernel
theorem dX10_beyond_55 : decode cX10_beyond 55 = .ok (.ishl, 1) := by decide +kernel
theorem dX10_beyond_56 : decode cX10_beyond 56 = .ok (.ior, 1) := by decide +kernel
theorem dX10_beyond_57 : decode cX10_beyond 57 = .ok (.istore_n 3, 1) := by decide +kernel
theorem dX10_beyond_58 : decode cX10_beyond 58 = .ok (.iload_n 2, 1) := by decide +kernel
theorem dX10_beyond_59 : decode cX10_beyond 59 = .ok (.iload 4, 2) := by decide +kernel
theorem dX10_beyond_61 : decode cX10_beyond 61 = .ok (.invokestatic 190, 3) := by decide +kernel
theorem dX10_beyond_64 : decode cX10_beyond 64 = .ok (.ifCond .eq 35, 3) := by decide +kernel
theorem dX10_beyond_67 : decode cX10_beyond 67 = .ok (.iload_n 1, 1) := by decide +kernel
theorem dX10_beyond_68 : decode cX10_beyond 68 = .ok (.aload_n 0, 1) := by decide +kernel
theorem dX10_beyond_69 : decode cX10_beyond 69 = .ok (.getfield 41, 3) := by decide +kernel
theorem dX10_beyond_72 : decode cX10_beyond 72 = .ok (.getfield 175, 3) := by decide +kernel
theorem dX10_beyond_75 : decode cX10_beyond 75 = .ok (.iload 4, 2) := by decide +kernel
theorem dX10_beyond_77 : decode cX10_beyond 77 = .ok (.iaload, 1) := by decide +kernel
theorem dX10_beyond_78 : decode cX10_beyond 78 = .ok (.invokestatic 190, 3) := by decide +kernel
theorem dX10_beyond_81 : decode cX10_beyond 81 = .ok (.ifCond .eq 18, 3) := by decide +kernel
theorem dX10_beyond_84 : decode cX10_beyond 84 = .ok (.iload_n 3, 1) := by decide +kernel
theorem dX10_beyond_85 : decode cX10_beyond 85 = .ok (.iconst 1, 1) := by decide +kernel
theorem dX10_beyond_86 : decode cX10_beyond 86 = .ok (.aload_n 0, 1) := by decide +kernel
theorem dX10_beyond_87 : decode cX10_beyond 87 = .ok (.getfield 41, 3) := by decide +kernel
theorem dX10_beyond_90 : decode cX10_beyond 90 = .ok (.getfield 172, 3) := by decide +kernel
theorem dX10_beyond_93 : decode cX10_beyond 93 = .ok (.iload 4, 2) := by decide +kernel
theorem dX10_beyond_95 : decode cX10_beyond 95 = .ok (.iaload, 1) := by decide +kernel
theorem dX10_beyond_96 : decode cX10_beyond 96 = .ok (.ishl, 1) := by decide +kernel
theorem dX10_beyond_97 : decode cX10_beyond 97 = .ok (.ior, 1) := by decide +kernel
theorem dX10_beyond_98 : decode cX10_beyond 98 = .ok (.istore_n 3, 1) := by decide +kernel
theorem dX10_beyond_99 : decode cX10_beyond 99 = .ok (.iinc 4 1, 3) := by decide +kernel
theorem dX10_beyond_102 : decode cX10_beyond 102 = .ok (.goto (-97), 3) := by decide +kernel
theorem dX10_beyond_105 : decode cX10_beyond 105 = .ok (.iload_n 3, 1) := by decide +kernel
theorem dX10_beyond_106 : decode cX10_beyond 106 = .ok (.ireturn, 1) := by decide +kernel
theorem dX10_wideEnough_0 : decode cX10_wideEnough 0 = .ok (.aload_n 0, 1) := by decide +kernel
theorem dX10_wideEnough_1 : decode cX10_wideEnough 1 = .ok (.getfield 51, 3) := by decide +kernel
theorem dX10_wideEnough_4 : decode cX10_wideEnough 4 = .ok (.invokevirtual 194, 3) := by decide +kernel
theorem dX10_wideEnough_7 : decode cX10_wideEnough 7 = .ok (.istore_n 2, 1) := by decide +kernel
theorem dX10_wideEnough_8 : decode cX10_wideEnough 8 = .ok (.iconst 0, 1) := by decide +kernel
theorem dX10_wideEnough_9 : decode cX10_wideEnough 9 = .ok (.istore_n 3, 1) := by decide +kernel
theorem dX10_wideEnough_10 : decode cX10_wideEnough 10 = .ok (.iconst 0, 1) := by decide +kernel
theorem dX10_wideEnough_11 : decode cX10_wideEnough 11 = .ok (.istore 4, 2) := by decide +kernel
theorem dX10_wideEnough_13 : decode cX10_wideEnough 13 = .ok (.iload 4, 2) := by decide +kernel
theorem dX10_wideEnough_15 : decode cX10_wideEnough 15 = .ok (.aload_n 0, 1) := by decide +kernel
theorem dX10_wideEnough_16 : decode cX10_wideEnough 16 = .ok (.getfield 41, 3) := by decide +kernel
theorem dX10_wideEnough_19 : decode cX10_wideEnough 19 = .ok (.getfield 146, 3) := by decide +kernel
theorem dX10_wideEnough_22 : decode cX10_wideEnough 22 = .ok (.if_icmp .ge 39, 3) := by decide +kernel
theorem dX10_wideEnough_25 : decode cX10_wideEnough 25 = .ok (.iload_n 2, 1) := by decide +kernel
theorem dX10_wideEnough_26 : decode cX10_wideEnough 26 = .ok (.iload 4, 2) := by decide +kernel
theorem dX10_wideEnough_28 : decode cX10_wideEnough 28 = .ok (.invokestatic 190, 3) := by decide +kernel
theorem dX10_wideEnough_31 : decode cX10_wideEnough 31 = .ok (.ifCond .eq 24, 3) := by decide +kernel
theorem dX10_wideEnough_34 : decode cX10_wideEnough 34 = .ok (.aload_n 0, 1) := by decide +kernel
theorem dX10_wideEnough_35 : decode cX10_wideEnough 35 = .ok (.getfield 41, 3) := by decide +kernel
theorem dX10_wideEnough_38 : decode cX10_wideEnough 38 = .ok (.getfield 184, 3) := by decide +kernel
theorem dX10_wideEnough_41 : decode cX10_wideEnough 41 = .ok (.iload 4, 2) := by decide +kernel
theorem dX10_wideEnough_43 : decode cX10_wideEnough 43 = .ok (.iaload, 1) := by decide +kernel
theorem dX10_wideEnough_44 : decode cX10_wideEnough 44 = .ok (.iload_n 1, 1) := by decide +kernel
theorem dX10_wideEnough_45 : decode cX10_wideEnough 45 = .ok (.if_icmp .lt 10, 3) := by decide +kernel
theorem dX10_wideEnough_48 : decode cX10_wideEnough 48 = .ok (.iload_n 3, 1) := by decide +kernel
theorem dX10_wideEnough_49 : decode cX10_wideEnough 49 = .ok (.iconst 1, 1) := by decide +kernel
theorem dX10_wideEnough_50 : decode cX10_wideEnough 50 = .ok (.iload 4, 2) := by decide +kernel
theorem dX10_wideEnough_52 : decode cX10_wideEnough 52 = .ok (.ishl, 1) := by decide +kernel
theorem dX10_wideEnough_53 : decode cX10_wideEnough 53 = .ok (.ior, 1) := by decide +kernel
theorem dX10_wideEnough_54 : decode cX10_wideEnough 54 = .ok (.istore_n 3, 1) := by decide +kernel
theorem dX10_wideEnough_55 : decode cX10_wideEnough 55 = .ok (.iinc 4 1, 3) := by decide +kernel
theorem dX10_wideEnough_58 : decode cX10_wideEnough 58 = .ok (.goto (-45), 3) := by decide +kernel
theorem dX10_wideEnough_61 : decode cX10_wideEnough 61 = .ok (.iload_n 3, 1) := by decide +kernel
theorem dX10_wideEnough_62 : decode cX10_wideEnough 62 = .ok (.ireturn, 1) := by decide +kernel
theorem dX10_lead_0 : decode cX10_lead 0 = .ok (.aload_n 0, 1) := by decide +kernel
theorem dX10_lead_1 : decode cX10_lead 1 = .ok (.invokevirtual 152, 3) := by decide +kernel
theorem dX10_lead_4 : decode cX10_lead 4 = .ok (.ifCond .eq 21, 3) := by decide +kernel
theorem dX10_lead_7 : decode cX10_lead 7 = .ok (.iload_n 1, 1) := by decide +kernel
theorem dX10_lead_8 : decode cX10_lead 8 = .ok (.iconst 0, 1) := by decide +kernel
theorem dX10_lead_9 : decode cX10_lead 9 = .ok (.bipush 9, 2) := by decide +kernel
theorem dX10_lead_11 : decode cX10_lead 11 = .ok (.invokestatic 204, 3) := by decide +kernel
theorem dX10_lead_14 : decode cX10_lead 14 = .ok (.ifCond .eq 11, 3) := by decide +kernel
theorem dX10_lead_17 : decode cX10_lead 17 = .ok (.aload_n 0, 1) := by decide +kernel
theorem dX10_lead_18 : decode cX10_lead 18 = .ok (.iload_n 1, 1) := by decide +kernel
theorem dX10_lead_19 : decode cX10_lead 19 = .ok (.invokevirtual 357, 3) := by decide +kernel
theorem dX10_lead_22 : decode cX10_lead 22 = .ok (.goto 4, 3) := by decide +kernel
theorem dX10_lead_25 : decode cX10_lead 25 = .ok (.iconst (-1), 1) := by decide +kernel
theorem dX10_lead_26 : decode cX10_lead 26 = .ok (.ireturn, 1) := by decide +kernel
theorem dX10_first_0 : decode cX10_first 0 = .ok (.aload_n 0, 1) := by decide +kernel
theorem dX10_first_1 : decode cX10_first 1 = .ok (.invokevirtual 152, 3) := by decide +kernel
theorem dX10_first_4 : decode cX10_first 4 = .ok (.ifCond .eq 22, 3) := by decide +kernel
theorem dX10_first_7 : decode cX10_first 7 = .ok (.iload_n 1, 1) := by decide +kernel
theorem dX10_first_8 : decode cX10_first 8 = .ok (.iconst 0, 1) := by decide +kernel
theorem dX10_first_9 : decode cX10_first 9 = .ok (.iconst 1, 1) := by decide +kernel
theorem dX10_first_10 : decode cX10_first 10 = .ok (.invokestatic 204, 3) := by decide +kernel
theorem dX10_first_13 : decode cX10_first 13 = .ok (.ifCond .eq 13, 3) := by decide +kernel
theorem dX10_first_16 : decode cX10_first 16 = .ok (.aload_n 0, 1) := by decide +kernel
theorem dX10_first_17 : decode cX10_first 17 = .ok (.getfield 51, 3) := by decide +kernel
theorem dX10_first_20 : decode cX10_first 20 = .ok (.invokevirtual 194, 3) := by decide +kernel
theorem dX10_first_23 : decode cX10_first 23 = .ok (.ifCond .ne 5, 3) := by decide +kernel
theorem dX10_first_26 : decode cX10_first 26 = .ok (.iconst (-1), 1) := by decide +kernel
theorem dX10_first_27 : decode cX10_first 27 = .ok (.ireturn, 1) := by decide +kernel
theorem dX10_first_28 : decode cX10_first 28 = .ok (.aload_n 0, 1) := by decide +kernel
theorem dX10_first_29 : decode cX10_first 29 = .ok (.getfield 55, 3) := by decide +kernel
theorem dX10_first_32 : decode cX10_first 32 = .ok (.aload_n 0, 1) := by decide +kernel
theorem dX10_first_33 : decode cX10_first 33 = .ok (.getfield 51, 3) := by decide +kernel
theorem dX10_first_36 : decode cX10_first 36 = .ok (.invokevirtual 363, 3) := by decide +kernel
theorem dX10_first_39 : decode cX10_first 39 = .ok (.iconst 1, 1) := by decide +kernel
theorem dX10_first_40 : decode cX10_first 40 = .ok (.istore_n 2, 1) := by decide +kernel
theorem dX10_first_41 : decode cX10_first 41 = .ok (.iload_n 2, 1) := by decide +kernel
theorem dX10_first_42 : decode cX10_first 42 = .ok (.sipush 200, 3) := by decide +kernel
theorem dX10_first_45 : decode cX10_first 45 = .ok (.if_icmp .gt 49, 3) := by decide +kernel
theorem dX10_first_48 : decode cX10_first 48 = .ok (.aload_n 0, 1) := by decide +kernel
theorem dX10_first_49 : decode cX10_first 49 = .ok (.aload_n 0, 1) := by decide +kernel
theorem dX10_first_50 : decode cX10_first 50 = .ok (.getfield 55, 3) := by decide +kernel
theorem dX10_first_53 : decode cX10_first 53 = .ok (.invokevirtual 261, 3) := by decide +kernel
theorem dX10_first_56 : decode cX10_first 56 = .ok (.aload_n 0, 1) := by decide +kernel
theorem dX10_first_57 : decode cX10_first 57 = .ok (.getfield 55, 3) := by decide +kernel
theorem dX10_first_60 : decode cX10_first 60 = .ok (.aload_n 0, 1) := by decide +kernel
theorem dX10_first_61 : decode cX10_first 61 = .ok (.getfield 75, 3) := by decide +kernel
theorem dX10_first_64 : decode cX10_first 64 = .ok (.getfield 265, 3) := by decide +kernel
theorem dX10_first_67 : decode cX10_first 67 = .ok (.invokevirtual 293, 3) := by decide +kernel
theorem dX10_first_70 : decode cX10_first 70 = .ok (.istore_n 3, 1) := by decide +kernel
theorem dX10_first_71 : decode cX10_first 71 = .ok (.iload_n 3, 1) := by decide +kernel
theorem dX10_first_72 : decode cX10_first 72 = .ok (.ifCond .eq 16, 3) := by decide +kernel
theorem dX10_first_75 : decode cX10_first 75 = .ok (.iload_n 1, 1) := by decide +kernel
theorem dX10_first_76 : decode cX10_first 76 = .ok (.ifCond .ne 10, 3) := by decide +kernel
theorem dX10_first_79 : decode cX10_first 79 = .ok (.iload_n 3, 1) := by decide +kernel
theorem dX10_first_80 : decode cX10_first 80 = .ok (.invokestatic 220, 3) := by decide +kernel
theorem dX10_first_83 : decode cX10_first 83 = .ok (.goto 4, 3) := by decide +kernel
theorem dX10_first_86 : decode cX10_first 86 = .ok (.iload_n 2, 1) := by decide +kernel
theorem dX10_first_87 : decode cX10_first 87 = .ok (.ireturn, 1) := by decide +kernel
theorem dX10_first_88 : decode cX10_first 88 = .ok (.iinc 2 1, 3) := by decide +kernel
theorem dX10_first_91 : decode cX10_first 91 = .ok (.goto (-50), 3) := by decide +kernel
theorem dX10_first_94 : decode cX10_first 94 = .ok (.iconst (-1), 1) := by decide +kernel
theorem dX10_first_95 : decode cX10_first 95 = .ok (.ireturn, 1) := by decide +kernel
theorem dX10_cloth_0 : decode cX10_cloth 0 = .ok (.aload_n 0, 1) := by decide +kernel
theorem dX10_cloth_1 : decode cX10_cloth 1 = .ok (.invokevirtual 152, 3) := by decide +kernel
theorem dX10_cloth_4 : decode cX10_cloth 4 = .ok (.ifCond .eq 13, 3) := by decide +kernel
theorem dX10_cloth_7 : decode cX10_cloth 7 = .ok (.iload_n 1, 1) := by decide +kernel
theorem dX10_cloth_8 : decode cX10_cloth 8 = .ok (.iconst 1, 1) := by decide +kernel
theorem dX10_cloth_9 : decode cX10_cloth 9 = .ok (.bipush 60, 2) := by decide +kernel
theorem dX10_cloth_11 : decode cX10_cloth 11 = .ok (.invokestatic 204, 3) := by decide +kernel
theorem dX10_cloth_14 : decode cX10_cloth 14 = .ok (.ifCond .ne 5, 3) := by decide +kernel
theorem dX10_cloth_17 : decode cX10_cloth 17 = .ok (.iconst (-1), 1) := by decide +kernel
theorem dX10_cloth_18 : decode cX10_cloth 18 = .ok (.ireturn, 1) := by decide +kernel
theorem dX10_cloth_19 : decode cX10_cloth 19 = .ok (.aload_n 0, 1) := by decide +kernel
theorem dX10_cloth_20 : decode cX10_cloth 20 = .ok (.getfield 55, 3) := by decide +kernel
theorem dX10_cloth_23 : decode cX10_cloth 23 = .ok (.aload_n 0, 1) := by decide +kernel
theorem dX10_cloth_24 : decode cX10_cloth 24 = .ok (.getfield 51, 3) := by decide +kernel
theorem dX10_cloth_27 : decode cX10_cloth 27 = .ok (.invokevirtual 363, 3) := by decide +kernel
theorem dX10_cloth_30 : decode cX10_cloth 30 = .ok (.iconst 0, 1) := by decide +kernel
theorem dX10_cloth_31 : decode cX10_cloth 31 = .ok (.istore_n 2, 1) := by decide +kernel
theorem dX10_cloth_32 : decode cX10_cloth 32 = .ok (.iload_n 2, 1) := by decide +kernel
theorem dX10_cloth_33 : decode cX10_cloth 33 = .ok (.iload_n 1, 1) := by decide +kernel
theorem dX10_cloth_34 : decode cX10_cloth 34 = .ok (.if_icmp .ge 32, 3) := by decide +kernel
theorem dX10_cloth_37 : decode cX10_cloth 37 = .ok (.aload_n 0, 1) := by decide +kernel
theorem dX10_cloth_38 : decode cX10_cloth 38 = .ok (.aload_n 0, 1) := by decide +kernel
theorem dX10_cloth_39 : decode cX10_cloth 39 = .ok (.getfield 55, 3) := by decide +kernel
theorem dX10_cloth_42 : decode cX10_cloth 42 = .ok (.invokevirtual 261, 3) := by decide +kernel
theorem dX10_cloth_45 : decode cX10_cloth 45 = .ok (.aload_n 0, 1) := by decide +kernel
theorem dX10_cloth_46 : decode cX10_cloth 46 = .ok (.getfield 55, 3) := by decide +kernel
theorem dX10_cloth_49 : decode cX10_cloth 49 = .ok (.aload_n 0, 1) := by decide +kernel
theorem dX10_cloth_50 : decode cX10_cloth 50 = .ok (.getfield 75, 3) := by decide +kernel
theorem dX10_cloth_53 : decode cX10_cloth 53 = .ok (.getfield 265, 3) := by decide +kernel
theorem dX10_cloth_56 : decode cX10_cloth 56 = .ok (.invokevirtual 293, 3) := by decide +kernel
theorem dX10_cloth_59 : decode cX10_cloth 59 = .ok (.pop, 1) := by decide +kernel
theorem dX10_cloth_60 : decode cX10_cloth 60 = .ok (.iinc 2 1, 3) := by decide +kernel
theorem dX10_cloth_63 : decode cX10_cloth 63 = .ok (.goto (-31), 3) := by decide +kernel
theorem dX10_cloth_66 : decode cX10_cloth 66 = .ok (.aload_n 0, 1) := by decide +kernel
theorem dX10_cloth_67 : decode cX10_cloth 67 = .ok (.getfield 51, 3) := by decide +kernel
theorem dX10_cloth_70 : decode cX10_cloth 70 = .ok (.invokevirtual 366, 3) := by decide +kernel
theorem dX10_cloth_73 : decode cX10_cloth 73 = .ok (.aload_n 0, 1) := by decide +kernel
theorem dX10_cloth_74 : decode cX10_cloth 74 = .ok (.getfield 55, 3) := by decide +kernel
theorem dX10_cloth_77 : decode cX10_cloth 77 = .ok (.invokevirtual 366, 3) := by decide +kernel
theorem dX10_cloth_80 : decode cX10_cloth 80 = .ok (.isub, 1) := by decide +kernel
theorem dX10_cloth_81 : decode cX10_cloth 81 = .ok (.ireturn, 1) := by decide +kernel
theorem dX10_arePlayers_0 : decode cX10_arePlayers 0 = .ok (.aload_n 0, 1) := by decide +kernel
theorem dX10_arePlayers_1 : decode cX10_arePlayers 1 = .ok (.iload_n 1, 1) := by decide +kernel
theorem dX10_arePlayers_2 : decode cX10_arePlayers 2 = .ok (.invokevirtual 201, 3) := by decide +kernel
theorem dX10_arePlayers_5 : decode cX10_arePlayers 5 = .ok (.ifCond .eq 20, 3) := by decide +kernel
theorem dX10_arePlayers_8 : decode cX10_arePlayers 8 = .ok (.aload_n 0, 1) := by decide +kernel
theorem dX10_arePlayers_9 : decode cX10_arePlayers 9 = .ok (.iload_n 2, 1) := by decide +kernel
theorem dX10_arePlayers_10 : decode cX10_arePlayers 10 = .ok (.invokevirtual 201, 3) := by decide +kernel
theorem dX10_arePlayers_13 : decode cX10_arePlayers 13 = .ok (.ifCond .eq 12, 3) := by decide +kernel
theorem dX10_arePlayers_16 : decode cX10_arePlayers 16 = .ok (.iload_n 1, 1) := by decide +kernel
theorem dX10_arePlayers_17 : decode cX10_arePlayers 17 = .ok (.iload_n 2, 1) := by decide +kernel
theorem dX10_arePlayers_18 : decode cX10_arePlayers 18 = .ok (.if_icmp .eq 7, 3) := by decide +kernel
theorem dX10_arePlayers_21 : decode cX10_arePlayers 21 = .ok (.iconst 1, 1) := by decide +kernel
theorem dX10_arePlayers_22 : decode cX10_arePlayers 22 = .ok (.goto 4, 3) := by decide +kernel
theorem dX10_arePlayers_25 : decode cX10_arePlayers 25 = .ok (.iconst 0, 1) := by decide +kernel
theorem dX10_arePlayers_26 : decode cX10_arePlayers 26 = .ok (.ireturn, 1) := by decide +kernel
theorem dX10_shareOf_0 : decode cX10_shareOf 0 = .ok (.aload_n 0, 1) := by decide +kernel
theorem dX10_shareOf_1 : decode cX10_shareOf 1 = .ok (.getfield 68, 3) := by decide +kernel
theorem dX10_shareOf_4 : decode cX10_shareOf 4 = .ok (.iconst 1, 1) := by decide +kernel
theorem dX10_shareOf_5 : decode cX10_shareOf 5 = .ok (.aload_n 0, 1) := by decide +kernel
theorem dX10_shareOf_6 : decode cX10_shareOf 6 = .ok (.getfield 51, 3) := by decide +kernel
theorem dX10_shareOf_9 : decode cX10_shareOf 9 = .ok (.getfield 211, 3) := by decide +kernel
theorem dX10_shareOf_12 : decode cX10_shareOf 12 = .ok (.iload_n 1, 1) := by decide +kernel
theorem dX10_shareOf_13 : decode cX10_shareOf 13 = .ok (.iaload, 1) := by decide +kernel
theorem dX10_shareOf_14 : decode cX10_shareOf 14 = .ok (.ishl, 1) := by decide +kernel
theorem dX10_shareOf_15 : decode cX10_shareOf 15 = .ok (.invokevirtual 238, 3) := by decide +kernel
theorem dX10_shareOf_18 : decode cX10_shareOf 18 = .ok (.istore_n 2, 1) := by decide +kernel
theorem dX10_shareOf_19 : decode cX10_shareOf 19 = .ok (.iload_n 2, 1) := by decide +kernel
theorem dX10_shareOf_20 : decode cX10_shareOf 20 = .ok (.invokestatic 344, 3) := by decide +kernel
theorem dX10_shareOf_23 : decode cX10_shareOf 23 = .ok (.istore_n 3, 1) := by decide +kernel
theorem dX10_shareOf_24 : decode cX10_shareOf 24 = .ok (.aload_n 0, 1) := by decide +kernel
theorem dX10_shareOf_25 : decode cX10_shareOf 25 = .ok (.iload_n 2, 1) := by decide +kernel
theorem dX10_shareOf_26 : decode cX10_shareOf 26 = .ok (.invokevirtual 223, 3) := by decide +kernel
theorem dX10_shareOf_29 : decode cX10_shareOf 29 = .ok (.iload_n 1, 1) := by decide +kernel
theorem dX10_shareOf_30 : decode cX10_shareOf 30 = .ok (.if_icmp .ne 9, 3) := by decide +kernel
theorem dX10_shareOf_33 : decode cX10_shareOf 33 = .ok (.iconst 2, 1) := by decide +kernel
theorem dX10_shareOf_34 : decode cX10_shareOf 34 = .ok (.iload_n 3, 1) := by decide +kernel
theorem dX10_shareOf_35 : decode cX10_shareOf 35 = .ok (.imul, 1) := by decide +kernel
theorem dX10_shareOf_36 : decode cX10_shareOf 36 = .ok (.goto 4, 3) := by decide +kernel
theorem dX10_shareOf_39 : decode cX10_shareOf 39 = .ok (.iload_n 3, 1) := by decide +kernel
theorem dX10_shareOf_40 : decode cX10_shareOf 40 = .ok (.ireturn, 1) := by decide +kernel
theorem dX10_game_0 : decode cX10_game 0 = .ok (.aload_n 0, 1) := by decide +kernel
theorem dX10_game_1 : decode cX10_game 1 = .ok (.iload_n 1, 1) := by decide +kernel
theorem dX10_game_2 : decode cX10_game 2 = .ok (.iload_n 2, 1) := by decide +kernel
theorem dX10_game_3 : decode cX10_game 3 = .ok (.invokevirtual 369, 3) := by decide +kernel
theorem dX10_game_6 : decode cX10_game 6 = .ok (.ifCond .eq 44, 3) := by decide +kernel
theorem dX10_game_9 : decode cX10_game 9 = .ok (.iload 5, 2) := by decide +kernel
theorem dX10_game_11 : decode cX10_game 11 = .ok (.iconst 0, 1) := by decide +kernel
theorem dX10_game_12 : decode cX10_game 12 = .ok (.iconst 1, 1) := by decide +kernel
theorem dX10_game_13 : decode cX10_game 13 = .ok (.invokestatic 204, 3) := by decide +kernel
theorem dX10_game_16 : decode cX10_game 16 = .ok (.ifCond .eq 34, 3) := by decide +kernel
theorem dX10_game_19 : decode cX10_game 19 = .ok (.iload_n 3, 1) := by decide +kernel
theorem dX10_game_20 : decode cX10_game 20 = .ok (.iconst 0, 1) := by decide +kernel
theorem dX10_game_21 : decode cX10_game 21 = .ok (.aload_n 0, 1) := by decide +kernel
theorem dX10_game_22 : decode cX10_game 22 = .ok (.getfield 41, 3) := by decide +kernel
theorem dX10_game_25 : decode cX10_game 25 = .ok (.getfield 146, 3) := by decide +kernel
theorem dX10_game_28 : decode cX10_game 28 = .ok (.invokestatic 204, 3) := by decide +kernel
theorem dX10_game_31 : decode cX10_game 31 = .ok (.ifCond .eq 19, 3) := by decide +kernel
theorem dX10_game_34 : decode cX10_game 34 = .ok (.iload 4, 2) := by decide +kernel
theorem dX10_game_36 : decode cX10_game 36 = .ok (.iconst 0, 1) := by decide +kernel
theorem dX10_game_37 : decode cX10_game 37 = .ok (.aload_n 0, 1) := by decide +kernel
theorem dX10_game_38 : decode cX10_game 38 = .ok (.getfield 41, 3) := by decide +kernel
theorem dX10_game_41 : decode cX10_game 41 = .ok (.getfield 146, 3) := by decide +kernel
theorem dX10_game_44 : decode cX10_game 44 = .ok (.invokestatic 204, 3) := by decide +kernel
theorem dX10_game_47 : decode cX10_game 47 = .ok (.ifCond .ne 7, 3) := by decide +kernel
theorem dX10_game_50 : decode cX10_game 50 = .ok (.ldc_w 372, 3) := by decide +kernel
theorem dX10_game_53 : decode cX10_game 53 = .ok (.ireturn, 1) := by decide +kernel
theorem dX10_game_54 : decode cX10_game 54 = .ok (.aload_n 0, 1) := by decide +kernel
theorem dX10_game_55 : decode cX10_game 55 = .ok (.getfield 51, 3) := by decide +kernel
theorem dX10_game_58 : decode cX10_game 58 = .ok (.invokevirtual 320, 3) := by decide +kernel
theorem dX10_game_61 : decode cX10_game 61 = .ok (.istore 6, 2) := by decide +kernel
theorem dX10_game_63 : decode cX10_game 63 = .ok (.iconst 1, 1) := by decide +kernel
theorem dX10_game_64 : decode cX10_game 64 = .ok (.iload_n 3, 1) := by decide +kernel
theorem dX10_game_65 : decode cX10_game 65 = .ok (.ishl, 1) := by decide +kernel
theorem dX10_game_66 : decode cX10_game 66 = .ok (.aload_n 0, 1) := by decide +kernel
theorem dX10_game_67 : decode cX10_game 67 = .ok (.iload_n 1, 1) := by decide +kernel
theorem dX10_game_68 : decode cX10_game 68 = .ok (.invokevirtual 274, 3) := by decide +kernel
theorem dX10_game_71 : decode cX10_game 71 = .ok (.iand, 1) := by decide +kernel
theorem dX10_game_72 : decode cX10_game 72 = .ok (.iconst 1, 1) := by decide +kernel
theorem dX10_game_73 : decode cX10_game 73 = .ok (.iload 4, 2) := by decide +kernel
theorem dX10_game_75 : decode cX10_game 75 = .ok (.ishl, 1) := by decide +kernel
theorem dX10_game_76 : decode cX10_game 76 = .ok (.aload_n 0, 1) := by decide +kernel
theorem dX10_game_77 : decode cX10_game 77 = .ok (.iload_n 2, 1) := by decide +kernel
theorem dX10_game_78 : decode cX10_game 78 = .ok (.invokevirtual 274, 3) := by decide +kernel
theorem dX10_game_81 : decode cX10_game 81 = .ok (.iand, 1) := by decide +kernel
theorem dX10_game_82 : decode cX10_game 82 = .ok (.ior, 1) := by decide +kernel
theorem dX10_game_83 : decode cX10_game 83 = .ok (.istore 7, 2) := by decide +kernel
theorem dX10_game_85 : decode cX10_game 85 = .ok (.aload_n 0, 1) := by decide +kernel
theorem dX10_game_86 : decode cX10_game 86 = .ok (.getfield 68, 3) := by decide +kernel
theorem dX10_game_89 : decode cX10_game 89 = .ok (.aload_n 0, 1) := by decide +kernel
theorem dX10_game_90 : decode cX10_game 90 = .ok (.getfield 41, 3) := by decide +kernel
theorem dX10_game_93 : decode cX10_game 93 = .ok (.aload_n 0, 1) := by decide +kernel
theorem dX10_game_94 : decode cX10_game 94 = .ok (.getfield 51, 3) := by decide +kernel
theorem dX10_game_97 : decode cX10_game 97 = .ok (.invokevirtual 194, 3) := by decide +kernel
theorem dX10_game_100 : decode cX10_game 100 = .ok (.iload 7, 2) := by decide +kernel
theorem dX10_game_102 : decode cX10_game 102 = .ok (.iload 6, 2) := by decide +kernel
theorem dX10_game_104 : decode cX10_game 104 = .ok (.iconst (-1), 1) := by decide +kernel
theorem dX10_game_105 : decode cX10_game 105 = .ok (.ixor, 1) := by decide +kernel
theorem dX10_game_106 : decode cX10_game 106 = .ok (.iand, 1) := by decide +kernel
theorem dX10_game_107 : decode cX10_game 107 = .ok (.ixor, 1) := by decide +kernel
theorem dX10_game_108 : decode cX10_game 108 = .ok (.invokevirtual 234, 3) := by decide +kernel
theorem dX10_game_111 : decode cX10_game 111 = .ok (.aload_n 0, 1) := by decide +kernel
theorem dX10_game_112 : decode cX10_game 112 = .ok (.iload 5, 2) := by decide +kernel
theorem dX10_game_114 : decode cX10_game 114 = .ok (.ifCond .ne 7, 3) := by decide +kernel
theorem dX10_game_117 : decode cX10_game 117 = .ok (.iload_n 1, 1) := by decide +kernel
theorem dX10_game_118 : decode cX10_game 118 = .ok (.goto 4, 3) := by decide +kernel
theorem dX10_game_121 : decode cX10_game 121 = .ok (.iload_n 2, 1) := by decide +kernel
theorem dX10_game_122 : decode cX10_game 122 = .ok (.invokevirtual 373, 3) := by decide +kernel
theorem dX10_game_125 : decode cX10_game 125 = .ok (.ireturn, 1) := by decide +kernel
