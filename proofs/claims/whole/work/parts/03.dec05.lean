theorem dX10_playAll_0 : decode cX10_playAll 0 = .ok (.aload_n 0, 1) := by decide +kernel
theorem dX10_playAll_1 : decode cX10_playAll 1 = .ok (.getfield 51, 3) := by decide +kernel
theorem dX10_playAll_4 : decode cX10_playAll 4 = .ok (.invokevirtual 320, 3) := by decide +kernel
theorem dX10_playAll_7 : decode cX10_playAll 7 = .ok (.iconst (-1), 1) := by decide +kernel
theorem dX10_playAll_8 : decode cX10_playAll 8 = .ok (.ixor, 1) := by decide +kernel
theorem dX10_playAll_9 : decode cX10_playAll 9 = .ok (.istore_n 3, 1) := by decide +kernel
theorem dX10_playAll_10 : decode cX10_playAll 10 = .ok (.aload_n 0, 1) := by decide +kernel
theorem dX10_playAll_11 : decode cX10_playAll 11 = .ok (.iload_n 1, 1) := by decide +kernel
theorem dX10_playAll_12 : decode cX10_playAll 12 = .ok (.invokevirtual 274, 3) := by decide +kernel
theorem dX10_playAll_15 : decode cX10_playAll 15 = .ok (.iload_n 3, 1) := by decide +kernel
theorem dX10_playAll_16 : decode cX10_playAll 16 = .ok (.iand, 1) := by decide +kernel
theorem dX10_playAll_17 : decode cX10_playAll 17 = .ok (.istore 4, 2) := by decide +kernel
theorem dX10_playAll_19 : decode cX10_playAll 19 = .ok (.aload_n 0, 1) := by decide +kernel
theorem dX10_playAll_20 : decode cX10_playAll 20 = .ok (.iload_n 2, 1) := by decide +kernel
theorem dX10_playAll_21 : decode cX10_playAll 21 = .ok (.invokevirtual 274, 3) := by decide +kernel
theorem dX10_playAll_24 : decode cX10_playAll 24 = .ok (.iload_n 3, 1) := by decide +kernel
theorem dX10_playAll_25 : decode cX10_playAll 25 = .ok (.iand, 1) := by decide +kernel
theorem dX10_playAll_26 : decode cX10_playAll 26 = .ok (.istore 5, 2) := by decide +kernel
theorem dX10_playAll_28 : decode cX10_playAll 28 = .ok (.aload_n 0, 1) := by decide +kernel
theorem dX10_playAll_29 : decode cX10_playAll 29 = .ok (.getfield 51, 3) := by decide +kernel
theorem dX10_playAll_32 : decode cX10_playAll 32 = .ok (.invokevirtual 194, 3) := by decide +kernel
theorem dX10_playAll_35 : decode cX10_playAll 35 = .ok (.istore 6, 2) := by decide +kernel
theorem dX10_playAll_37 : decode cX10_playAll 37 = .ok (.aload_n 0, 1) := by decide +kernel
theorem dX10_playAll_38 : decode cX10_playAll 38 = .ok (.getfield 82, 3) := by decide +kernel
theorem dX10_playAll_41 : decode cX10_playAll 41 = .ok (.aload_n 0, 1) := by decide +kernel
theorem dX10_playAll_42 : decode cX10_playAll 42 = .ok (.getfield 41, 3) := by decide +kernel
theorem dX10_playAll_45 : decode cX10_playAll 45 = .ok (.getfield 146, 3) := by decide +kernel
theorem dX10_playAll_48 : decode cX10_playAll 48 = .ok (.iconst 1, 1) := by decide +kernel
theorem dX10_playAll_49 : decode cX10_playAll 49 = .ok (.iadd, 1) := by decide +kernel
theorem dX10_playAll_50 : decode cX10_playAll 50 = .ok (.invokevirtual 376, 3) := by decide +kernel
theorem dX10_playAll_53 : decode cX10_playAll 53 = .ok (.iconst 0, 1) := by decide +kernel
theorem dX10_playAll_54 : decode cX10_playAll 54 = .ok (.istore 7, 2) := by decide +kernel
theorem dX10_playAll_56 : decode cX10_playAll 56 = .ok (.iload 7, 2) := by decide +kernel
theorem dX10_playAll_58 : decode cX10_playAll 58 = .ok (.aload_n 0, 1) := by decide +kernel
theorem dX10_playAll_59 : decode cX10_playAll 59 = .ok (.getfield 41, 3) := by decide +kernel
theorem dX10_playAll_62 : decode cX10_playAll 62 = .ok (.getfield 146, 3) := by decide +kernel
theorem dX10_playAll_65 : decode cX10_playAll 65 = .ok (.if_icmp .gt 80, 3) := by decide +kernel
theorem dX10_playAll_68 : decode cX10_playAll 68 = .ok (.iconst 0, 1) := by decide +kernel
theorem dX10_playAll_69 : decode cX10_playAll 69 = .ok (.istore 8, 2) := by decide +kernel
theorem dX10_playAll_71 : decode cX10_playAll 71 = .ok (.iload 8, 2) := by decide +kernel
theorem dX10_playAll_73 : decode cX10_playAll 73 = .ok (.aload_n 0, 1) := by decide +kernel
theorem dX10_playAll_74 : decode cX10_playAll 74 = .ok (.getfield 41, 3) := by decide +kernel
theorem dX10_playAll_77 : decode cX10_playAll 77 = .ok (.getfield 146, 3) := by decide +kernel
theorem dX10_playAll_80 : decode cX10_playAll 80 = .ok (.if_icmp .gt 59, 3) := by decide +kernel
theorem dX10_playAll_83 : decode cX10_playAll 83 = .ok (.aload_n 0, 1) := by decide +kernel
theorem dX10_playAll_84 : decode cX10_playAll 84 = .ok (.getfield 68, 3) := by decide +kernel
theorem dX10_playAll_87 : decode cX10_playAll 87 = .ok (.aload_n 0, 1) := by decide +kernel
theorem dX10_playAll_88 : decode cX10_playAll 88 = .ok (.getfield 41, 3) := by decide +kernel
theorem dX10_playAll_91 : decode cX10_playAll 91 = .ok (.iload 6, 2) := by decide +kernel
theorem dX10_playAll_93 : decode cX10_playAll 93 = .ok (.iconst 1, 1) := by decide +kernel
theorem dX10_playAll_94 : decode cX10_playAll 94 = .ok (.iload 7, 2) := by decide +kernel
theorem dX10_playAll_96 : decode cX10_playAll 96 = .ok (.ishl, 1) := by decide +kernel
theorem dX10_playAll_97 : decode cX10_playAll 97 = .ok (.iload 4, 2) := by decide +kernel
theorem dX10_playAll_99 : decode cX10_playAll 99 = .ok (.iand, 1) := by decide +kernel
theorem dX10_playAll_100 : decode cX10_playAll 100 = .ok (.iconst 1, 1) := by decide +kernel
theorem dX10_playAll_101 : decode cX10_playAll 101 = .ok (.iload 8, 2) := by decide +kernel
theorem dX10_playAll_103 : decode cX10_playAll 103 = .ok (.ishl, 1) := by decide +kernel
theorem dX10_playAll_104 : decode cX10_playAll 104 = .ok (.iload 5, 2) := by decide +kernel
theorem dX10_playAll_106 : decode cX10_playAll 106 = .ok (.iand, 1) := by decide +kernel
theorem dX10_playAll_107 : decode cX10_playAll 107 = .ok (.ior, 1) := by decide +kernel
theorem dX10_playAll_108 : decode cX10_playAll 108 = .ok (.ixor, 1) := by decide +kernel
theorem dX10_playAll_109 : decode cX10_playAll 109 = .ok (.invokevirtual 234, 3) := by decide +kernel
theorem dX10_playAll_112 : decode cX10_playAll 112 = .ok (.aload_n 0, 1) := by decide +kernel
theorem dX10_playAll_113 : decode cX10_playAll 113 = .ok (.getfield 82, 3) := by decide +kernel
theorem dX10_playAll_116 : decode cX10_playAll 116 = .ok (.iload 7, 2) := by decide +kernel
theorem dX10_playAll_118 : decode cX10_playAll 118 = .ok (.iload 8, 2) := by decide +kernel
theorem dX10_playAll_120 : decode cX10_playAll 120 = .ok (.aload_n 0, 1) := by decide +kernel
theorem dX10_playAll_121 : decode cX10_playAll 121 = .ok (.iload_n 1, 1) := by decide +kernel
theorem dX10_playAll_122 : decode cX10_playAll 122 = .ok (.invokevirtual 373, 3) := by decide +kernel
theorem dX10_playAll_125 : decode cX10_playAll 125 = .ok (.aload_n 0, 1) := by decide +kernel
theorem dX10_playAll_126 : decode cX10_playAll 126 = .ok (.iload_n 2, 1) := by decide +kernel
theorem dX10_playAll_127 : decode cX10_playAll 127 = .ok (.invokevirtual 373, 3) := by decide +kernel
theorem dX10_playAll_130 : decode cX10_playAll 130 = .ok (.invokevirtual 379, 3) := by decide +kernel
theorem dX10_playAll_133 : decode cX10_playAll 133 = .ok (.iinc 8 1, 3) := by decide +kernel
theorem dX10_playAll_136 : decode cX10_playAll 136 = .ok (.goto (-65), 3) := by decide +kernel
theorem dX10_playAll_139 : decode cX10_playAll 139 = .ok (.iinc 7 1, 3) := by decide +kernel
theorem dX10_playAll_142 : decode cX10_playAll 142 = .ok (.goto (-86), 3) := by decide +kernel
theorem dX10_playAll_145 : decode cX10_playAll 145 = .ok (.return_, 1) := by decide +kernel
theorem dX10_rests_0 : decode cX10_rests 0 = .ok (.aload_n 0, 1) := by decide +kernel
theorem dX10_rests_1 : decode cX10_rests 1 = .ok (.iload_n 1, 1) := by decide +kernel
theorem dX10_rests_2 : decode cX10_rests 2 = .ok (.iload_n 2, 1) := by decide +kernel
theorem dX10_rests_3 : decode cX10_rests 3 = .ok (.invokevirtual 369, 3) := by decide +kernel
theorem dX10_rests_6 : decode cX10_rests 6 = .ok (.ifCond .eq 8, 3) := by decide +kernel
theorem dX10_rests_9 : decode cX10_rests 9 = .ok (.iload_n 3, 1) := by decide +kernel
theorem dX10_rests_10 : decode cX10_rests 10 = .ok (.iconst (-1), 1) := by decide +kernel
theorem dX10_rests_11 : decode cX10_rests 11 = .ok (.if_icmp .ge 5, 3) := by decide +kernel
theorem dX10_rests_14 : decode cX10_rests 14 = .ok (.iconst (-1), 1) := by decide +kernel
theorem dX10_rests_15 : decode cX10_rests 15 = .ok (.ireturn, 1) := by decide +kernel
theorem dX10_rests_16 : decode cX10_rests 16 = .ok (.aload_n 0, 1) := by decide +kernel
theorem dX10_rests_17 : decode cX10_rests 17 = .ok (.iload_n 1, 1) := by decide +kernel
theorem dX10_rests_18 : decode cX10_rests 18 = .ok (.iload_n 2, 1) := by decide +kernel
theorem dX10_rests_19 : decode cX10_rests 19 = .ok (.invokevirtual 381, 3) := by decide +kernel
theorem dX10_rests_22 : decode cX10_rests 22 = .ok (.iconst 0, 1) := by decide +kernel
theorem dX10_rests_23 : decode cX10_rests 23 = .ok (.istore 4, 2) := by decide +kernel
theorem dX10_rests_25 : decode cX10_rests 25 = .ok (.iconst 0, 1) := by decide +kernel
theorem dX10_rests_26 : decode cX10_rests 26 = .ok (.istore 5, 2) := by decide +kernel
theorem dX10_rests_28 : decode cX10_rests 28 = .ok (.iload 5, 2) := by decide +kernel
theorem dX10_rests_30 : decode cX10_rests 30 = .ok (.aload_n 0, 1) := by decide +kernel
theorem dX10_rests_31 : decode cX10_rests 31 = .ok (.getfield 41, 3) := by decide +kernel
theorem dX10_rests_34 : decode cX10_rests 34 = .ok (.getfield 146, 3) := by decide +kernel
theorem dX10_rests_37 : decode cX10_rests 37 = .ok (.if_icmp .gt 65, 3) := by decide +kernel
theorem dX10_rests_40 : decode cX10_rests 40 = .ok (.iconst 0, 1) := by decide +kernel
theorem dX10_rests_41 : decode cX10_rests 41 = .ok (.istore 6, 2) := by decide +kernel
theorem dX10_rests_43 : decode cX10_rests 43 = .ok (.iload 6, 2) := by decide +kernel
theorem dX10_rests_45 : decode cX10_rests 45 = .ok (.aload_n 0, 1) := by decide +kernel
theorem dX10_rests_46 : decode cX10_rests 46 = .ok (.getfield 41, 3) := by decide +kernel
theorem dX10_rests_49 : decode cX10_rests 49 = .ok (.getfield 146, 3) := by decide +kernel
theorem dX10_rests_52 : decode cX10_rests 52 = .ok (.if_icmp .gt 44, 3) := by decide +kernel
theorem dX10_rests_55 : decode cX10_rests 55 = .ok (.aload_n 0, 1) := by decide +kernel
theorem dX10_rests_56 : decode cX10_rests 56 = .ok (.getfield 82, 3) := by decide +kernel
theorem dX10_rests_59 : decode cX10_rests 59 = .ok (.iload 5, 2) := by decide +kernel
theorem dX10_rests_61 : decode cX10_rests 61 = .ok (.iload 6, 2) := by decide +kernel
theorem dX10_rests_63 : decode cX10_rests 63 = .ok (.invokevirtual 385, 3) := by decide +kernel
theorem dX10_rests_66 : decode cX10_rests 66 = .ok (.ifCond .ne 6, 3) := by decide +kernel
theorem dX10_rests_69 : decode cX10_rests 69 = .ok (.goto 21, 3) := by decide +kernel
theorem dX10_rests_72 : decode cX10_rests 72 = .ok (.iload 4, 2) := by decide +kernel
theorem dX10_rests_74 : decode cX10_rests 74 = .ok (.iload_n 3, 1) := by decide +kernel
theorem dX10_rests_75 : decode cX10_rests 75 = .ok (.if_icmp .ne 12, 3) := by decide +kernel
theorem dX10_rests_78 : decode cX10_rests 78 = .ok (.bipush 10, 2) := by decide +kernel
theorem dX10_rests_80 : decode cX10_rests 80 = .ok (.iload 5, 2) := by decide +kernel
theorem dX10_rests_82 : decode cX10_rests 82 = .ok (.imul, 1) := by decide +kernel
theorem dX10_rests_83 : decode cX10_rests 83 = .ok (.iload 6, 2) := by decide +kernel
theorem dX10_rests_85 : decode cX10_rests 85 = .ok (.iadd, 1) := by decide +kernel
theorem dX10_rests_86 : decode cX10_rests 86 = .ok (.ireturn, 1) := by decide +kernel
theorem dX10_rests_87 : decode cX10_rests 87 = .ok (.iinc 4 1, 3) := by decide +kernel
theorem dX10_rests_90 : decode cX10_rests 90 = .ok (.iinc 6 1, 3) := by decide +kernel
theorem dX10_rests_93 : decode cX10_rests 93 = .ok (.goto (-50), 3) := by decide +kernel
theorem dX10_rests_96 : decode cX10_rests 96 = .ok (.iinc 5 1, 3) := by decide +kernel
theorem dX10_rests_99 : decode cX10_rests 99 = .ok (.goto (-71), 3) := by decide +kernel
theorem dX10_rests_102 : decode cX10_rests 102 = .ok (.iload_n 3, 1) := by decide +kernel
theorem dX10_rests_103 : decode cX10_rests 103 = .ok (.iconst (-1), 1) := by decide +kernel
theorem dX10_rests_104 : decode cX10_rests 104 = .ok (.if_icmp .ne 8, 3) := by decide +kernel
theorem dX10_rests_107 : decode cX10_rests 107 = .ok (.iload 4, 2) := by decide +kernel
theorem dX10_rests_109 : decode cX10_rests 109 = .ok (.goto 4, 3) := by decide +kernel
theorem dX10_rests_112 : decode cX10_rests 112 = .ok (.iconst (-1), 1) := by decide +kernel
theorem dX10_rests_113 : decode cX10_rests 113 = .ok (.ireturn, 1) := by decide +kernel
theorem dX10_treaty_0 : decode cX10_treaty 0 = .ok (.aload_n 0, 1) := by decide +kernel
theorem dX10_treaty_1 : decode cX10_treaty 1 = .ok (.iload_n 1, 1) := by decide +kernel
theorem dX10_treaty_2 : decode cX10_treaty 2 = .ok (.iload_n 2, 1) := by decide +kernel
theorem dX10_treaty_3 : decode cX10_treaty 3 = .ok (.invokevirtual 369, 3) := by decide +kernel
theorem dX10_treaty_6 : decode cX10_treaty 6 = .ok (.ifCond .ne 5, 3) := by decide +kernel
theorem dX10_treaty_9 : decode cX10_treaty 9 = .ok (.iconst (-1), 1) := by decide +kernel
theorem dX10_treaty_10 : decode cX10_treaty 10 = .ok (.ireturn, 1) := by decide +kernel
theorem dX10_treaty_11 : decode cX10_treaty 11 = .ok (.aload_n 0, 1) := by decide +kernel
theorem dX10_treaty_12 : decode cX10_treaty 12 = .ok (.iload_n 1, 1) := by decide +kernel
theorem dX10_treaty_13 : decode cX10_treaty 13 = .ok (.iload_n 2, 1) := by decide +kernel
theorem dX10_treaty_14 : decode cX10_treaty 14 = .ok (.invokevirtual 381, 3) := by decide +kernel
theorem dX10_treaty_17 : decode cX10_treaty 17 = .ok (.aload_n 0, 1) := by decide +kernel
theorem dX10_treaty_18 : decode cX10_treaty 18 = .ok (.getfield 82, 3) := by decide +kernel
theorem dX10_treaty_21 : decode cX10_treaty 21 = .ok (.aload_n 0, 1) := by decide +kernel
theorem dX10_treaty_22 : decode cX10_treaty 22 = .ok (.getfield 41, 3) := by decide +kernel
theorem dX10_treaty_25 : decode cX10_treaty 25 = .ok (.getfield 146, 3) := by decide +kernel
theorem dX10_treaty_28 : decode cX10_treaty 28 = .ok (.aload_n 0, 1) := by decide +kernel
theorem dX10_treaty_29 : decode cX10_treaty 29 = .ok (.getfield 41, 3) := by decide +kernel
theorem dX10_treaty_32 : decode cX10_treaty 32 = .ok (.getfield 146, 3) := by decide +kernel
theorem dX10_treaty_35 : decode cX10_treaty 35 = .ok (.invokevirtual 385, 3) := by decide +kernel
theorem dX10_treaty_38 : decode cX10_treaty 38 = .ok (.ifCond .eq 7, 3) := by decide +kernel
theorem dX10_treaty_41 : decode cX10_treaty 41 = .ok (.iconst 1, 1) := by decide +kernel
theorem dX10_treaty_42 : decode cX10_treaty 42 = .ok (.goto 4, 3) := by decide +kernel
theorem dX10_treaty_45 : decode cX10_treaty 45 = .ok (.iconst 0, 1) := by decide +kernel
theorem dX10_treaty_46 : decode cX10_treaty 46 = .ok (.ireturn, 1) := by decide +kernel
theorem dX10_air_0 : decode cX10_air 0 = .ok (.aload_n 0, 1) := by decide +kernel
theorem dX10_air_1 : decode cX10_air 1 = .ok (.iload_n 1, 1) := by decide +kernel
theorem dX10_air_2 : decode cX10_air 2 = .ok (.invokevirtual 201, 3) := by decide +kernel
theorem dX10_air_5 : decode cX10_air 5 = .ok (.ifCond .ne 5, 3) := by decide +kernel
theorem dX10_air_8 : decode cX10_air 8 = .ok (.iconst (-1), 1) := by decide +kernel
theorem dX10_air_9 : decode cX10_air 9 = .ok (.ireturn, 1) := by decide +kernel
theorem dX10_air_10 : decode cX10_air 10 = .ok (.aload_n 0, 1) := by decide +kernel
theorem dX10_air_11 : decode cX10_air 11 = .ok (.aload_n 0, 1) := by decide +kernel
theorem dX10_air_12 : decode cX10_air 12 = .ok (.getfield 51, 3) := by decide +kernel
theorem dX10_air_15 : decode cX10_air 15 = .ok (.getfield 211, 3) := by decide +kernel
theorem dX10_air_18 : decode cX10_air 18 = .ok (.iload_n 1, 1) := by decide +kernel
theorem dX10_air_19 : decode cX10_air 19 = .ok (.iaload, 1) := by decide +kernel
theorem dX10_air_20 : decode cX10_air 20 = .ok (.invokevirtual 217, 3) := by decide +kernel
theorem dX10_air_23 : decode cX10_air 23 = .ok (.istore_n 2, 1) := by decide +kernel
theorem dX10_air_24 : decode cX10_air 24 = .ok (.iconst 0, 1) := by decide +kernel
theorem dX10_air_25 : decode cX10_air 25 = .ok (.istore_n 3, 1) := by decide +kernel
theorem dX10_air_26 : decode cX10_air 26 = .ok (.iconst 0, 1) := by decide +kernel
theorem dX10_air_27 : decode cX10_air 27 = .ok (.istore 4, 2) := by decide +kernel
theorem dX10_air_29 : decode cX10_air 29 = .ok (.iload 4, 2) := by decide +kernel
theorem dX10_air_31 : decode cX10_air 31 = .ok (.aload_n 0, 1) := by decide +kernel
theorem dX10_air_32 : decode cX10_air 32 = .ok (.getfield 41, 3) := by decide +kernel
theorem dX10_air_35 : decode cX10_air 35 = .ok (.getfield 149, 3) := by decide +kernel
theorem dX10_air_38 : decode cX10_air 38 = .ok (.if_icmp .ge 29, 3) := by decide +kernel
theorem dX10_air_41 : decode cX10_air 41 = .ok (.iload_n 2, 1) := by decide +kernel
theorem dX10_air_42 : decode cX10_air 42 = .ok (.aload_n 0, 1) := by decide +kernel
theorem dX10_air_43 : decode cX10_air 43 = .ok (.getfield 51, 3) := by decide +kernel
theorem dX10_air_46 : decode cX10_air 46 = .ok (.getfield 211, 3) := by decide +kernel
theorem dX10_air_49 : decode cX10_air 49 = .ok (.iload 4, 2) := by decide +kernel
theorem dX10_air_51 : decode cX10_air 51 = .ok (.iaload, 1) := by decide +kernel
theorem dX10_air_52 : decode cX10_air 52 = .ok (.invokestatic 190, 3) := by decide +kernel
theorem dX10_air_55 : decode cX10_air 55 = .ok (.ifCond .eq 6, 3) := by decide +kernel
theorem dX10_air_58 : decode cX10_air 58 = .ok (.iinc 3 1, 3) := by decide +kernel
theorem dX10_air_61 : decode cX10_air 61 = .ok (.iinc 4 1, 3) := by decide +kernel
theorem dX10_air_64 : decode cX10_air 64 = .ok (.goto (-35), 3) := by decide +kernel
theorem dX10_air_67 : decode cX10_air 67 = .ok (.iload_n 3, 1) := by decide +kernel
theorem dX10_air_68 : decode cX10_air 68 = .ok (.ifCond .le 12, 3) := by decide +kernel
theorem dX10_air_71 : decode cX10_air 71 = .ok (.iload_n 2, 1) := by decide +kernel
theorem dX10_air_72 : decode cX10_air 72 = .ok (.invokestatic 344, 3) := by decide +kernel
theorem dX10_air_75 : decode cX10_air 75 = .ok (.iload_n 3, 1) := by decide +kernel
theorem dX10_air_76 : decode cX10_air 76 = .ok (.idiv, 1) := by decide +kernel
theorem dX10_air_77 : decode cX10_air 77 = .ok (.goto 4, 3) := by decide +kernel
theorem dX10_air_80 : decode cX10_air 80 = .ok (.iconst (-1), 1) := by decide +kernel
theorem dX10_air_81 : decode cX10_air 81 = .ok (.ireturn, 1) := by decide +kernel
theorem dX10_faded_0 : decode cX10_faded 0 = .ok (.aload_n 0, 1) := by decide +kernel
theorem dX10_faded_1 : decode cX10_faded 1 = .ok (.iload_n 1, 1) := by decide +kernel
theorem dX10_faded_2 : decode cX10_faded 2 = .ok (.invokevirtual 168, 3) := by decide +kernel
theorem dX10_faded_5 : decode cX10_faded 5 = .ok (.ifCond .eq 12, 3) := by decide +kernel
theorem dX10_faded_8 : decode cX10_faded 8 = .ok (.aload_n 0, 1) := by decide +kernel
theorem dX10_faded_9 : decode cX10_faded 9 = .ok (.getfield 96, 3) := by decide +kernel
theorem dX10_faded_12 : decode cX10_faded 12 = .ok (.bipush 10, 2) := by decide +kernel
theorem dX10_faded_14 : decode cX10_faded 14 = .ok (.if_icmp .lt 5, 3) := by decide +kernel
theorem dX10_faded_17 : decode cX10_faded 17 = .ok (.iconst (-1), 1) := by decide +kernel
theorem dX10_faded_18 : decode cX10_faded 18 = .ok (.ireturn, 1) := by decide +kernel
theorem dX10_faded_19 : decode cX10_faded 19 = .ok (.iload_n 2, 1) := by decide +kernel
theorem dX10_faded_20 : decode cX10_faded 20 = .ok (.ifCond .eq 18, 3) := by decide +kernel
theorem dX10_faded_23 : decode cX10_faded 23 = .ok (.aload_n 0, 1) := by decide +kernel
theorem dX10_faded_24 : decode cX10_faded 24 = .ok (.dup, 1) := by decide +kernel
theorem dX10_faded_25 : decode cX10_faded 25 = .ok (.getfield 99, 3) := by decide +kernel
theorem dX10_faded_28 : decode cX10_faded 28 = .ok (.iconst 1, 1) := by decide +kernel
theorem dX10_faded_29 : decode cX10_faded 29 = .ok (.iload_n 1, 1) := by decide +kernel
theorem dX10_faded_30 : decode cX10_faded 30 = .ok (.ishl, 1) := by decide +kernel
theorem dX10_faded_31 : decode cX10_faded 31 = .ok (.ior, 1) := by decide +kernel
theorem dX10_faded_32 : decode cX10_faded 32 = .ok (.putfield 99, 3) := by decide +kernel
theorem dX10_faded_35 : decode cX10_faded 35 = .ok (.goto 15, 3) := by decide +kernel
theorem dX10_faded_38 : decode cX10_faded 38 = .ok (.aload_n 0, 1) := by decide +kernel
theorem dX10_faded_39 : decode cX10_faded 39 = .ok (.dup, 1) := by decide +kernel
theorem dX10_faded_40 : decode cX10_faded 40 = .ok (.getfield 102, 3) := by decide +kernel
theorem dX10_faded_43 : decode cX10_faded 43 = .ok (.iconst 1, 1) := by decide +kernel
theorem dX10_faded_44 : decode cX10_faded 44 = .ok (.iload_n 1, 1) := by decide +kernel
theorem dX10_faded_45 : decode cX10_faded 45 = .ok (.ishl, 1) := by decide +kernel
theorem dX10_faded_46 : decode cX10_faded 46 = .ok (.ior, 1) := by decide +kernel
theorem dX10_faded_47 : decode cX10_faded 47 = .ok (.putfield 102, 3) := by decide +kernel
theorem dX10_faded_50 : decode cX10_faded 50 = .ok (.aload_n 0, 1) := by decide +kernel
theorem dX10_faded_51 : decode cX10_faded 51 = .ok (.dup, 1) := by decide +kernel
theorem dX10_faded_52 : decode cX10_faded 52 = .ok (.getfield 96, 3) := by decide +kernel
theorem dX10_faded_55 : decode cX10_faded 55 = .ok (.iconst 1, 1) := by decide +kernel
theorem dX10_faded_56 : decode cX10_faded 56 = .ok (.iadd, 1) := by decide +kernel
theorem dX10_faded_57 : decode cX10_faded 57 = .ok (.putfield 96, 3) := by decide +kernel
theorem dX10_faded_60 : decode cX10_faded 60 = .ok (.aload_n 0, 1) := by decide +kernel
theorem dX10_faded_61 : decode cX10_faded 61 = .ok (.getfield 96, 3) := by decide +kernel
theorem dX10_faded_64 : decode cX10_faded 64 = .ok (.ireturn, 1) := by decide +kernel
theorem dX10_leanedOnBy_0 : decode cX10_leanedOnBy 0 = .ok (.iconst 0, 1) := by decide +kernel
theorem dX10_leanedOnBy_1 : decode cX10_leanedOnBy 1 = .ok (.istore_n 2, 1) := by decide +kernel
theorem dX10_leanedOnBy_2 : decode cX10_leanedOnBy 2 = .ok (.iconst 0, 1) := by decide +kernel
theorem dX10_leanedOnBy_3 : decode cX10_leanedOnBy 3 = .ok (.istore_n 3, 1) := by decide +kernel
theorem dX10_leanedOnBy_4 : decode cX10_leanedOnBy 4 = .ok (.iload_n 3, 1) := by decide +kernel
theorem dX10_leanedOnBy_5 : decode cX10_leanedOnBy 5 = .ok (.aload_n 0, 1) := by decide +kernel
theorem dX10_leanedOnBy_6 : decode cX10_leanedOnBy 6 = .ok (.getfield 41, 3) := by decide +kernel
theorem dX10_leanedOnBy_9 : decode cX10_leanedOnBy 9 = .ok (.getfield 149, 3) := by decide +kernel
theorem dX10_leanedOnBy_12 : decode cX10_leanedOnBy 12 = .ok (.if_icmp .ge 33, 3) := by decide +kernel
theorem dX10_leanedOnBy_15 : decode cX10_leanedOnBy 15 = .ok (.iload_n 1, 1) := by decide +kernel
theorem dX10_leanedOnBy_16 : decode cX10_leanedOnBy 16 = .ok (.iload_n 3, 1) := by decide +kernel
theorem dX10_leanedOnBy_17 : decode cX10_leanedOnBy 17 = .ok (.invokestatic 190, 3) := by decide +kernel
theorem dX10_leanedOnBy_20 : decode cX10_leanedOnBy 20 = .ok (.ifCond .eq 19, 3) := by decide +kernel
theorem dX10_leanedOnBy_23 : decode cX10_leanedOnBy 23 = .ok (.iload_n 2, 1) := by decide +kernel
theorem dX10_leanedOnBy_24 : decode cX10_leanedOnBy 24 = .ok (.aload_n 0, 1) := by decide +kernel
theorem dX10_leanedOnBy_25 : decode cX10_leanedOnBy 25 = .ok (.aload_n 0, 1) := by decide +kernel
theorem dX10_leanedOnBy_26 : decode cX10_leanedOnBy 26 = .ok (.getfield 51, 3) := by decide +kernel
theorem dX10_leanedOnBy_29 : decode cX10_leanedOnBy 29 = .ok (.getfield 211, 3) := by decide +kernel
theorem dX10_leanedOnBy_32 : decode cX10_leanedOnBy 32 = .ok (.iload_n 3, 1) := by decide +kernel
theorem dX10_leanedOnBy_33 : decode cX10_leanedOnBy 33 = .ok (.iaload, 1) := by decide +kernel
theorem dX10_leanedOnBy_34 : decode cX10_leanedOnBy 34 = .ok (.invokevirtual 284, 3) := by decide +kernel
theorem dX10_leanedOnBy_37 : decode cX10_leanedOnBy 37 = .ok (.ior, 1) := by decide +kernel
theorem dX10_leanedOnBy_38 : decode cX10_leanedOnBy 38 = .ok (.istore_n 2, 1) := by decide +kernel
theorem dX10_leanedOnBy_39 : decode cX10_leanedOnBy 39 = .ok (.iinc 3 1, 3) := by decide +kernel
theorem dX10_leanedOnBy_42 : decode cX10_leanedOnBy 42 = .ok (.goto (-38), 3) := by decide +kernel
theorem dX10_leanedOnBy_45 : decode cX10_leanedOnBy 45 = .ok (.iload_n 2, 1) := by decide +kernel
theorem dX10_leanedOnBy_46 : decode cX10_leanedOnBy 46 = .ok (.ireturn, 1) := by decide +kernel
theorem dX10_fits_0 : decode cX10_fits 0 = .ok (.iload_n 1, 1) := by decide +kernel
theorem dX10_fits_1 : decode cX10_fits 1 = .ok (.invokestatic 344, 3) := by decide +kernel
theorem dX10_fits_4 : decode cX10_fits 4 = .ok (.iload_n 2, 1) := by decide +kernel
theorem dX10_fits_5 : decode cX10_fits 5 = .ok (.if_icmp .eq 5, 3) := by decide +kernel
theorem dX10_fits_8 : decode cX10_fits 8 = .ok (.iconst 0, 1) := by decide +kernel
theorem dX10_fits_9 : decode cX10_fits 9 = .ok (.ireturn, 1) := by decide +kernel
theorem dX10_fits_10 : decode cX10_fits 10 = .ok (.aload_n 0, 1) := by decide +kernel
theorem dX10_fits_11 : decode cX10_fits 11 = .ok (.iload_n 1, 1) := by decide +kernel
theorem dX10_fits_12 : decode cX10_fits 12 = .ok (.invokevirtual 388, 3) := by decide +kernel
theorem dX10_fits_15 : decode cX10_fits 15 = .ok (.istore_n 3, 1) := by decide +kernel
theorem dX10_fits_16 : decode cX10_fits 16 = .ok (.aload_n 0, 1) := by decide +kernel
theorem dX10_fits_17 : decode cX10_fits 17 = .ok (.getfield 99, 3) := by decide +kernel
theorem dX10_fits_20 : decode cX10_fits 20 = .ok (.iload_n 3, 1) := by decide +kernel
theorem dX10_fits_21 : decode cX10_fits 21 = .ok (.iconst (-1), 1) := by decide +kernel
theorem dX10_fits_22 : decode cX10_fits 22 = .ok (.ixor, 1) := by decide +kernel
theorem dX10_fits_23 : decode cX10_fits 23 = .ok (.iand, 1) := by decide +kernel
theorem dX10_fits_24 : decode cX10_fits 24 = .ok (.ifCond .ne 16, 3) := by decide +kernel
theorem dX10_fits_27 : decode cX10_fits 27 = .ok (.aload_n 0, 1) := by decide +kernel
theorem dX10_fits_28 : decode cX10_fits 28 = .ok (.getfield 102, 3) := by decide +kernel
theorem dX10_fits_31 : decode cX10_fits 31 = .ok (.iload_n 3, 1) := by decide +kernel
theorem dX10_fits_32 : decode cX10_fits 32 = .ok (.iand, 1) := by decide +kernel
theorem dX10_fits_33 : decode cX10_fits 33 = .ok (.ifCond .ne 7, 3) := by decide +kernel
theorem dX10_fits_36 : decode cX10_fits 36 = .ok (.iconst 1, 1) := by decide +kernel
theorem dX10_fits_37 : decode cX10_fits 37 = .ok (.goto 4, 3) := by decide +kernel
theorem dX10_fits_40 : decode cX10_fits 40 = .ok (.iconst 0, 1) := by decide +kernel
theorem dX10_fits_41 : decode cX10_fits 41 = .ok (.ireturn, 1) := by decide +kernel
theorem dX10_canLean_0 : decode cX10_canLean 0 = .ok (.aload_n 0, 1) := by decide +kernel
theorem dX10_canLean_1 : decode cX10_canLean 1 = .ok (.invokevirtual 152, 3) := by decide +kernel
theorem dX10_canLean_4 : decode cX10_canLean 4 = .ok (.ifCond .eq 16, 3) := by decide +kernel
theorem dX10_canLean_7 : decode cX10_canLean 7 = .ok (.iload_n 1, 1) := by decide +kernel
theorem dX10_canLean_8 : decode cX10_canLean 8 = .ok (.iconst 1, 1) := by decide +kernel
theorem dX10_canLean_9 : decode cX10_canLean 9 = .ok (.iconst 3, 1) := by decide +kernel
theorem dX10_canLean_10 : decode cX10_canLean 10 = .ok (.invokestatic 204, 3) := by decide +kernel
theorem dX10_canLean_13 : decode cX10_canLean 13 = .ok (.ifCond .eq 7, 3) := by decide +kernel
theorem dX10_canLean_16 : decode cX10_canLean 16 = .ok (.iconst 1, 1) := by decide +kernel
theorem dX10_canLean_17 : decode cX10_canLean 17 = .ok (.goto 4, 3) := by decide +kernel
theorem dX10_canLean_20 : decode cX10_canLean 20 = .ok (.iconst 0, 1) := by decide +kernel
theorem dX10_canLean_21 : decode cX10_canLean 21 = .ok (.ireturn, 1) := by decide +kernel
theorem dX10_leant_0 : decode cX10_leant 0 = .ok (.aload_n 0, 1) := by decide +kernel
theorem dX10_leant_1 : decode cX10_leant 1 = .ok (.iload_n 1, 1) := by decide +kernel
theorem dX10_leant_2 : decode cX10_leant 2 = .ok (.invokevirtual 391, 3) := by decide +kernel
theorem dX10_leant_5 : decode cX10_leant 5 = .ok (.ifCond .eq 8, 3) := by decide +kernel
theorem dX10_leant_8 : decode cX10_leant 8 = .ok (.iload_n 2, 1) := by decide +kernel
theorem dX10_leant_9 : decode cX10_leant 9 = .ok (.iconst (-1), 1) := by decide +kernel
theorem dX10_leant_10 : decode cX10_leant 10 = .ok (.if_icmp .ge 5, 3) := by decide +kernel
theorem dX10_leant_13 : decode cX10_leant 13 = .ok (.iconst (-1), 1) := by decide +kernel
theorem dX10_leant_14 : decode cX10_leant 14 = .ok (.ireturn, 1) := by decide +kernel
theorem dX10_leant_15 : decode cX10_leant 15 = .ok (.iconst 0, 1) := by decide +kernel
theorem dX10_leant_16 : decode cX10_leant 16 = .ok (.istore_n 3, 1) := by decide +kernel
theorem dX10_leant_17 : decode cX10_leant 17 = .ok (.iconst 1, 1) := by decide +kernel
theorem dX10_leant_18 : decode cX10_leant 18 = .ok (.istore 4, 2) := by decide +kernel
theorem dX10_leant_20 : decode cX10_leant 20 = .ok (.iload 4, 2) := by decide +kernel
theorem dX10_leant_22 : decode cX10_leant 22 = .ok (.aload_n 0, 1) := by decide +kernel
theorem dX10_leant_23 : decode cX10_leant 23 = .ok (.getfield 41, 3) := by decide +kernel
theorem dX10_leant_26 : decode cX10_leant 26 = .ok (.invokevirtual 394, 3) := by decide +kernel
theorem dX10_leant_29 : decode cX10_leant 29 = .ok (.if_icmp .gt 33, 3) := by decide +kernel
theorem dX10_leant_32 : decode cX10_leant 32 = .ok (.aload_n 0, 1) := by decide +kernel
theorem dX10_leant_33 : decode cX10_leant 33 = .ok (.iload 4, 2) := by decide +kernel
theorem dX10_leant_35 : decode cX10_leant 35 = .ok (.iload_n 1, 1) := by decide +kernel
theorem dX10_leant_36 : decode cX10_leant 36 = .ok (.invokevirtual 397, 3) := by decide +kernel
theorem dX10_leant_39 : decode cX10_leant 39 = .ok (.ifCond .ne 6, 3) := by decide +kernel
theorem dX10_leant_42 : decode cX10_leant 42 = .ok (.goto 14, 3) := by decide +kernel
theorem dX10_leant_45 : decode cX10_leant 45 = .ok (.iload_n 3, 1) := by decide +kernel
theorem dX10_leant_46 : decode cX10_leant 46 = .ok (.iload_n 2, 1) := by decide +kernel
theorem dX10_leant_47 : decode cX10_leant 47 = .ok (.if_icmp .ne 6, 3) := by decide +kernel
theorem dX10_leant_50 : decode cX10_leant 50 = .ok (.iload 4, 2) := by decide +kernel
theorem dX10_leant_52 : decode cX10_leant 52 = .ok (.ireturn, 1) := by decide +kernel
theorem dX10_leant_53 : decode cX10_leant 53 = .ok (.iinc 3 1, 3) := by decide +kernel
theorem dX10_leant_56 : decode cX10_leant 56 = .ok (.iinc 4 1, 3) := by decide +kernel
theorem dX10_leant_59 : decode cX10_leant 59 = .ok (.goto (-39), 3) := by decide +kernel
theorem dX10_leant_62 : decode cX10_leant 62 = .ok (.iload_n 2, 1) := by decide +kernel
theorem dX10_leant_63 : decode cX10_leant 63 = .ok (.iconst (-1), 1) := by decide +kernel
theorem dX10_leant_64 : decode cX10_leant 64 = .ok (.if_icmp .ne 7, 3) := by decide +kernel
theorem dX10_leant_67 : decode cX10_leant 67 = .ok (.iload_n 3, 1) := by decide +kernel
theorem dX10_leant_68 : decode cX10_leant 68 = .ok (.goto 4, 3) := by decide +kernel
theorem dX10_leant_71 : decode cX10_leant 71 = .ok (.iconst (-1), 1) := by decide +kernel
theorem dX10_leant_72 : decode cX10_leant 72 = .ok (.ireturn, 1) := by decide +kernel
theorem dX10_sure_0 : decode cX10_sure 0 = .ok (.aload_n 0, 1) := by decide +kernel
theorem dX10_sure_1 : decode cX10_sure 1 = .ok (.iload_n 1, 1) := by decide +kernel
theorem dX10_sure_2 : decode cX10_sure 2 = .ok (.invokevirtual 391, 3) := by decide +kernel
theorem dX10_sure_5 : decode cX10_sure 5 = .ok (.ifCond .ne 5, 3) := by decide +kernel
theorem dX10_sure_8 : decode cX10_sure 8 = .ok (.iconst (-1), 1) := by decide +kernel
theorem dX10_sure_9 : decode cX10_sure 9 = .ok (.ireturn, 1) := by decide +kernel
theorem dX10_sure_10 : decode cX10_sure 10 = .ok (.iconst (-1), 1) := by decide +kernel
theorem dX10_sure_11 : decode cX10_sure 11 = .ok (.istore_n 2, 1) := by decide +kernel
theorem dX10_sure_12 : decode cX10_sure 12 = .ok (.iconst 1, 1) := by decide +kernel
theorem dX10_sure_13 : decode cX10_sure 13 = .ok (.istore_n 3, 1) := by decide +kernel
theorem dX10_sure_14 : decode cX10_sure 14 = .ok (.iload_n 3, 1) := by decide +kernel
theorem dX10_sure_15 : decode cX10_sure 15 = .ok (.aload_n 0, 1) := by decide +kernel
theorem dX10_sure_16 : decode cX10_sure 16 = .ok (.getfield 41, 3) := by decide +kernel
theorem dX10_sure_19 : decode cX10_sure 19 = .ok (.invokevirtual 394, 3) := by decide +kernel
theorem dX10_sure_22 : decode cX10_sure 22 = .ok (.if_icmp .gt 22, 3) := by decide +kernel
theorem dX10_sure_25 : decode cX10_sure 25 = .ok (.aload_n 0, 1) := by decide +kernel
theorem dX10_sure_26 : decode cX10_sure 26 = .ok (.iload_n 3, 1) := by decide +kernel
theorem dX10_sure_27 : decode cX10_sure 27 = .ok (.iload_n 1, 1) := by decide +kernel
theorem dX10_sure_28 : decode cX10_sure 28 = .ok (.invokevirtual 397, 3) := by decide +kernel
theorem dX10_sure_31 : decode cX10_sure 31 = .ok (.ifCond .eq 7, 3) := by decide +kernel
theorem dX10_sure_34 : decode cX10_sure 34 = .ok (.iload_n 2, 1) := by decide +kernel
theorem dX10_sure_35 : decode cX10_sure 35 = .ok (.iload_n 3, 1) := by decide +kernel
theorem dX10_sure_36 : decode cX10_sure 36 = .ok (.iand, 1) := by decide +kernel
theorem dX10_sure_37 : decode cX10_sure 37 = .ok (.istore_n 2, 1) := by decide +kernel
theorem dX10_sure_38 : decode cX10_sure 38 = .ok (.iinc 3 1, 3) := by decide +kernel
theorem dX10_sure_41 : decode cX10_sure 41 = .ok (.goto (-27), 3) := by decide +kernel
theorem dX10_sure_44 : decode cX10_sure 44 = .ok (.iload_n 2, 1) := by decide +kernel
theorem dX10_sure_45 : decode cX10_sure 45 = .ok (.ireturn, 1) := by decide +kernel
theorem dX10_best_0 : decode cX10_best 0 = .ok (.aload_n 0, 1) := by decide +kernel
theorem dX10_best_1 : decode cX10_best 1 = .ok (.iload_n 1, 1) := by decide +kernel
theorem dX10_best_2 : decode cX10_best 2 = .ok (.invokevirtual 391, 3) := by decide +kernel
theorem dX10_best_5 : decode cX10_best 5 = .ok (.ifCond .eq 12, 3) := by decide +kernel
theorem dX10_best_8 : decode cX10_best 8 = .ok (.aload_n 0, 1) := by decide +kernel
theorem dX10_best_9 : decode cX10_best 9 = .ok (.iload_n 1, 1) := by decide +kernel
theorem dX10_best_10 : decode cX10_best 10 = .ok (.iconst (-1), 1) := by decide +kernel
theorem dX10_best_11 : decode cX10_best 11 = .ok (.invokevirtual 400, 3) := by decide +kernel
theorem dX10_best_14 : decode cX10_best 14 = .ok (.ifCond .ne 5, 3) := by decide +kernel
theorem dX10_best_17 : decode cX10_best 17 = .ok (.iconst (-1), 1) := by decide +kernel
theorem dX10_best_18 : decode cX10_best 18 = .ok (.ireturn, 1) := by decide +kernel
theorem dX10_best_19 : decode cX10_best 19 = .ok (.iconst (-1), 1) := by decide +kernel
theorem dX10_best_20 : decode cX10_best 20 = .ok (.istore_n 2, 1) := by decide +kernel
theorem dX10_best_21 : decode cX10_best 21 = .ok (.iconst 0, 1) := by decide +kernel
theorem dX10_best_22 : decode cX10_best 22 = .ok (.istore_n 3, 1) := by decide +kernel
theorem dX10_best_23 : decode cX10_best 23 = .ok (.iconst 0, 1) := by decide +kernel
theorem dX10_best_24 : decode cX10_best 24 = .ok (.istore 4, 2) := by decide +kernel
theorem dX10_best_26 : decode cX10_best 26 = .ok (.iload 4, 2) := by decide +kernel
theorem dX10_best_28 : decode cX10_best 28 = .ok (.aload_n 0, 1) := by decide +kernel
theorem dX10_best_29 : decode cX10_best 29 = .ok (.getfield 41, 3) := by decide +kernel
theorem dX10_best_32 : decode cX10_best 32 = .ok (.getfield 146, 3) := by decide +kernel
theorem dX10_best_35 : decode cX10_best 35 = .ok (.if_icmp .ge 35, 3) := by decide +kernel
theorem dX10_best_38 : decode cX10_best 38 = .ok (.aload_n 0, 1) := by decide +kernel
theorem dX10_best_39 : decode cX10_best 39 = .ok (.iload 4, 2) := by decide +kernel
theorem dX10_best_41 : decode cX10_best 41 = .ok (.iload_n 1, 1) := by decide +kernel
theorem dX10_best_42 : decode cX10_best 42 = .ok (.invokevirtual 403, 3) := by decide +kernel
theorem dX10_best_45 : decode cX10_best 45 = .ok (.istore 5, 2) := by decide +kernel
theorem dX10_best_47 : decode cX10_best 47 = .ok (.iload_n 2, 1) := by decide +kernel
theorem dX10_best_48 : decode cX10_best 48 = .ok (.iconst (-1), 1) := by decide +kernel
theorem dX10_best_49 : decode cX10_best 49 = .ok (.if_icmp .eq 9, 3) := by decide +kernel
theorem dX10_best_52 : decode cX10_best 52 = .ok (.iload 5, 2) := by decide +kernel
theorem dX10_best_54 : decode cX10_best 54 = .ok (.iload_n 3, 1) := by decide +kernel
theorem dX10_best_55 : decode cX10_best 55 = .ok (.if_icmp .ge 9, 3) := by decide +kernel
theorem dX10_best_58 : decode cX10_best 58 = .ok (.iload 4, 2) := by decide +kernel
theorem dX10_best_60 : decode cX10_best 60 = .ok (.istore_n 2, 1) := by decide +kernel
theorem dX10_best_61 : decode cX10_best 61 = .ok (.iload 5, 2) := by decide +kernel
theorem dX10_best_63 : decode cX10_best 63 = .ok (.istore_n 3, 1) := by decide +kernel
theorem dX10_best_64 : decode cX10_best 64 = .ok (.iinc 4 1, 3) := by decide +kernel
theorem dX10_best_67 : decode cX10_best 67 = .ok (.goto (-41), 3) := by decide +kernel
theorem dX10_best_70 : decode cX10_best 70 = .ok (.iload_n 2, 1) := by decide +kernel
theorem dX10_best_71 : decode cX10_best 71 = .ok (.ireturn, 1) := by decide +kernel
theorem dX10_apartBy_0 : decode cX10_apartBy 0 = .ok (.iconst 0, 1) := by decide +kernel
theorem dX10_apartBy_1 : decode cX10_apartBy 1 = .ok (.istore_n 3, 1) := by decide +kernel
theorem dX10_apartBy_2 : decode cX10_apartBy 2 = .ok (.iconst 1, 1) := by decide +kernel
theorem dX10_apartBy_3 : decode cX10_apartBy 3 = .ok (.istore 4, 2) := by decide +kernel
theorem dX10_apartBy_5 : decode cX10_apartBy 5 = .ok (.iload 4, 2) := by decide +kernel
theorem dX10_apartBy_7 : decode cX10_apartBy 7 = .ok (.aload_n 0, 1) := by decide +kernel
theorem dX10_apartBy_8 : decode cX10_apartBy 8 = .ok (.getfield 41, 3) := by decide +kernel
theorem dX10_apartBy_11 : decode cX10_apartBy 11 = .ok (.invokevirtual 394, 3) := by decide +kernel
theorem dX10_apartBy_14 : decode cX10_apartBy 14 = .ok (.if_icmp .gt 40, 3) := by decide +kernel
theorem dX10_apartBy_17 : decode cX10_apartBy 17 = .ok (.aload_n 0, 1) := by decide +kernel
theorem dX10_apartBy_18 : decode cX10_apartBy 18 = .ok (.iload 4, 2) := by decide +kernel
theorem dX10_apartBy_20 : decode cX10_apartBy 20 = .ok (.iload_n 2, 1) := by decide +kernel
theorem dX10_apartBy_21 : decode cX10_apartBy 21 = .ok (.invokevirtual 397, 3) := by decide +kernel
theorem dX10_apartBy_24 : decode cX10_apartBy 24 = .ok (.ifCond .eq 24, 3) := by decide +kernel
theorem dX10_apartBy_27 : decode cX10_apartBy 27 = .ok (.iload_n 3, 1) := by decide +kernel
theorem dX10_apartBy_28 : decode cX10_apartBy 28 = .ok (.aload_n 0, 1) := by decide +kernel
theorem dX10_apartBy_29 : decode cX10_apartBy 29 = .ok (.iload 4, 2) := by decide +kernel
theorem dX10_apartBy_31 : decode cX10_apartBy 31 = .ok (.invokevirtual 388, 3) := by decide +kernel
theorem dX10_apartBy_34 : decode cX10_apartBy 34 = .ok (.iload_n 1, 1) := by decide +kernel
theorem dX10_apartBy_35 : decode cX10_apartBy 35 = .ok (.invokestatic 190, 3) := by decide +kernel
theorem dX10_apartBy_38 : decode cX10_apartBy 38 = .ok (.ifCond .eq 7, 3) := by decide +kernel
theorem dX10_apartBy_41 : decode cX10_apartBy 41 = .ok (.iconst 1, 1) := by decide +kernel
theorem dX10_apartBy_42 : decode cX10_apartBy 42 = .ok (.goto 4, 3) := by decide +kernel
theorem dX10_apartBy_45 : decode cX10_apartBy 45 = .ok (.iconst (-1), 1) := by decide +kernel
theorem dX10_apartBy_46 : decode cX10_apartBy 46 = .ok (.iadd, 1) := by decide +kernel
theorem dX10_apartBy_47 : decode cX10_apartBy 47 = .ok (.istore_n 3, 1) := by decide +kernel
theorem dX10_apartBy_48 : decode cX10_apartBy 48 = .ok (.iinc 4 1, 3) := by decide +kernel
theorem dX10_apartBy_51 : decode cX10_apartBy 51 = .ok (.goto (-46), 3) := by decide +kernel
theorem dX10_apartBy_54 : decode cX10_apartBy 54 = .ok (.iload_n 3, 1) := by decide +kernel
theorem dX10_apartBy_55 : decode cX10_apartBy 55 = .ok (.invokestatic 406, 3) := by decide +kernel
theorem dX10_apartBy_58 : decode cX10_apartBy 58 = .ok (.ireturn, 1) := by decide +kernel
theorem dX10_cross_0 : decode cX10_cross 0 = .ok (.aload_n 0, 1) := by decide +kernel
theorem dX10_cross_1 : decode cX10_cross 1 = .ok (.invokevirtual 152, 3) := by decide +kernel
theorem dX10_cross_4 : decode cX10_cross 4 = .ok (.ifCond .ne 5, 3) := by decide +kernel
theorem dX10_cross_7 : decode cX10_cross 7 = .ok (.iconst (-1), 1) := by decide +kernel
theorem dX10_cross_8 : decode cX10_cross 8 = .ok (.ireturn, 1) := by decide +kernel
theorem dX10_cross_9 : decode cX10_cross 9 = .ok (.aload_n 0, 1) := by decide +kernel
theorem dX10_cross_10 : decode cX10_cross 10 = .ok (.getfield 51, 3) := by decide +kernel
theorem dX10_cross_13 : decode cX10_cross 13 = .ok (.invokevirtual 194, 3) := by decide +kernel
theorem dX10_cross_16 : decode cX10_cross 16 = .ok (.istore_n 1, 1) := by decide +kernel
theorem dX10_cross_17 : decode cX10_cross 17 = .ok (.iconst 0, 1) := by decide +kernel
theorem dX10_cross_18 : decode cX10_cross 18 = .ok (.istore_n 2, 1) := by decide +kernel
theorem dX10_cross_19 : decode cX10_cross 19 = .ok (.iconst 0, 1) := by decide +kernel
theorem dX10_cross_20 : decode cX10_cross 20 = .ok (.istore_n 3, 1) := by decide +kernel
theorem dX10_cross_21 : decode cX10_cross 21 = .ok (.iload_n 3, 1) := by decide +kernel
theorem dX10_cross_22 : decode cX10_cross 22 = .ok (.aload_n 0, 1) := by decide +kernel
theorem dX10_cross_23 : decode cX10_cross 23 = .ok (.getfield 41, 3) := by decide +kernel
theorem dX10_cross_26 : decode cX10_cross 26 = .ok (.getfield 143, 3) := by decide +kernel
theorem dX10_cross_29 : decode cX10_cross 29 = .ok (.if_icmp .ge 29, 3) := by decide +kernel
theorem dX10_cross_32 : decode cX10_cross 32 = .ok (.iload_n 1, 1) := by decide +kernel
theorem dX10_cross_33 : decode cX10_cross 33 = .ok (.aload_n 0, 1) := by decide +kernel
theorem dX10_cross_34 : decode cX10_cross 34 = .ok (.iload_n 3, 1) := by decide +kernel
theorem dX10_cross_35 : decode cX10_cross 35 = .ok (.invokevirtual 284, 3) := by decide +kernel
theorem dX10_cross_38 : decode cX10_cross 38 = .ok (.iand, 1) := by decide +kernel
theorem dX10_cross_39 : decode cX10_cross 39 = .ok (.invokestatic 344, 3) := by decide +kernel
theorem dX10_cross_42 : decode cX10_cross 42 = .ok (.iconst 3, 1) := by decide +kernel
theorem dX10_cross_43 : decode cX10_cross 43 = .ok (.if_icmp .lt 9, 3) := by decide +kernel
theorem dX10_cross_46 : decode cX10_cross 46 = .ok (.iload_n 2, 1) := by decide +kernel
theorem dX10_cross_47 : decode cX10_cross 47 = .ok (.iconst 1, 1) := by decide +kernel
theorem dX10_cross_48 : decode cX10_cross 48 = .ok (.iload_n 3, 1) := by decide +kernel
theorem dX10_cross_49 : decode cX10_cross 49 = .ok (.ishl, 1) := by decide +kernel
theorem dX10_cross_50 : decode cX10_cross 50 = .ok (.ior, 1) := by decide +kernel
theorem dX10_cross_51 : decode cX10_cross 51 = .ok (.istore_n 2, 1) := by decide +kernel
theorem dX10_cross_52 : decode cX10_cross 52 = .ok (.iinc 3 1, 3) := by decide +kernel
theorem dX10_cross_55 : decode cX10_cross 55 = .ok (.goto (-34), 3) := by decide +kernel
theorem dX10_cross_58 : decode cX10_cross 58 = .ok (.iload_n 2, 1) := by decide +kernel
theorem dX10_cross_59 : decode cX10_cross 59 = .ok (.ireturn, 1) := by decide +kernel
theorem dX10_realm_0 : decode cX10_realm 0 = .ok (.aload_n 0, 1) := by decide +kernel
theorem dX10_realm_1 : decode cX10_realm 1 = .ok (.invokevirtual 152, 3) := by decide +kernel
theorem dX10_realm_4 : decode cX10_realm 4 = .ok (.ifCond .ne 5, 3) := by decide +kernel
theorem dX10_realm_7 : decode cX10_realm 7 = .ok (.iconst (-1), 1) := by decide +kernel
theorem dX10_realm_8 : decode cX10_realm 8 = .ok (.ireturn, 1) := by decide +kernel
theorem dX10_realm_9 : decode cX10_realm 9 = .ok (.aload_n 0, 1) := by decide +kernel
theorem dX10_realm_10 : decode cX10_realm 10 = .ok (.getfield 68, 3) := by decide +kernel
theorem dX10_realm_13 : decode cX10_realm 13 = .ok (.aload_n 0, 1) := by decide +kernel
theorem dX10_realm_14 : decode cX10_realm 14 = .ok (.getfield 41, 3) := by decide +kernel
theorem dX10_realm_17 : decode cX10_realm 17 = .ok (.aload_n 0, 1) := by decide +kernel
theorem dX10_realm_18 : decode cX10_realm 18 = .ok (.getfield 51, 3) := by decide +kernel
theorem dX10_realm_21 : decode cX10_realm 21 = .ok (.invokevirtual 194, 3) := by decide +kernel
theorem dX10_realm_24 : decode cX10_realm 24 = .ok (.invokevirtual 234, 3) := by decide +kernel
theorem dX10_realm_27 : decode cX10_realm 27 = .ok (.iconst (-1), 1) := by decide +kernel
theorem dX10_realm_28 : decode cX10_realm 28 = .ok (.istore_n 1, 1) := by decide +kernel
theorem dX10_realm_29 : decode cX10_realm 29 = .ok (.iconst 0, 1) := by decide +kernel
theorem dX10_realm_30 : decode cX10_realm 30 = .ok (.istore_n 2, 1) := by decide +kernel
theorem dX10_realm_31 : decode cX10_realm 31 = .ok (.iconst 0, 1) := by decide +kernel
theorem dX10_realm_32 : decode cX10_realm 32 = .ok (.istore_n 3, 1) := by decide +kernel
theorem dX10_realm_33 : decode cX10_realm 33 = .ok (.iload_n 3, 1) := by decide +kernel
theorem dX10_realm_34 : decode cX10_realm 34 = .ok (.aload_n 0, 1) := by decide +kernel
theorem dX10_realm_35 : decode cX10_realm 35 = .ok (.getfield 41, 3) := by decide +kernel
theorem dX10_realm_38 : decode cX10_realm 38 = .ok (.getfield 143, 3) := by decide +kernel
theorem dX10_realm_41 : decode cX10_realm 41 = .ok (.if_icmp .ge 35, 3) := by decide +kernel
theorem dX10_realm_44 : decode cX10_realm 44 = .ok (.aload_n 0, 1) := by decide +kernel
theorem dX10_realm_45 : decode cX10_realm 45 = .ok (.getfield 68, 3) := by decide +kernel
theorem dX10_realm_48 : decode cX10_realm 48 = .ok (.iconst 1, 1) := by decide +kernel
theorem dX10_realm_49 : decode cX10_realm 49 = .ok (.iload_n 3, 1) := by decide +kernel
theorem dX10_realm_50 : decode cX10_realm 50 = .ok (.ishl, 1) := by decide +kernel
theorem dX10_realm_51 : decode cX10_realm 51 = .ok (.invokevirtual 238, 3) := by decide +kernel
theorem dX10_realm_54 : decode cX10_realm 54 = .ok (.invokestatic 344, 3) := by decide +kernel
theorem dX10_realm_57 : decode cX10_realm 57 = .ok (.istore 4, 2) := by decide +kernel
theorem dX10_realm_59 : decode cX10_realm 59 = .ok (.iload 4, 2) := by decide +kernel
theorem dX10_realm_61 : decode cX10_realm 61 = .ok (.iload_n 2, 1) := by decide +kernel
theorem dX10_realm_62 : decode cX10_realm 62 = .ok (.if_icmp .le 8, 3) := by decide +kernel
theorem dX10_realm_65 : decode cX10_realm 65 = .ok (.iload 4, 2) := by decide +kernel
theorem dX10_realm_67 : decode cX10_realm 67 = .ok (.istore_n 2, 1) := by decide +kernel
theorem dX10_realm_68 : decode cX10_realm 68 = .ok (.iload_n 3, 1) := by decide +kernel
theorem dX10_realm_69 : decode cX10_realm 69 = .ok (.istore_n 1, 1) := by decide +kernel
theorem dX10_realm_70 : decode cX10_realm 70 = .ok (.iinc 3 1, 3) := by decide +kernel
theorem dX10_realm_73 : decode cX10_realm 73 = .ok (.goto (-40), 3) := by decide +kernel
theorem dX10_realm_76 : decode cX10_realm 76 = .ok (.iload_n 1, 1) := by decide +kernel
theorem dX10_realm_77 : decode cX10_realm 77 = .ok (.ireturn, 1) := by decide +kernel
theorem dX10_gathered_0 : decode cX10_gathered 0 = .ok (.aload_n 0, 1) := by decide +kernel
theorem dX10_gathered_1 : decode cX10_gathered 1 = .ok (.invokevirtual 152, 3) := by decide +kernel
theorem dX10_gathered_4 : decode cX10_gathered 4 = .ok (.ifCond .eq 13, 3) := by decide +kernel
theorem dX10_gathered_7 : decode cX10_gathered 7 = .ok (.aload_n 0, 1) := by decide +kernel
theorem dX10_gathered_8 : decode cX10_gathered 8 = .ok (.getfield 51, 3) := by decide +kernel
theorem dX10_gathered_11 : decode cX10_gathered 11 = .ok (.invokevirtual 347, 3) := by decide +kernel
theorem dX10_gathered_14 : decode cX10_gathered 14 = .ok (.goto 4, 3) := by decide +kernel
theorem dX10_gathered_17 : decode cX10_gathered 17 = .ok (.iconst (-1), 1) := by decide +kernel
theorem dX10_gathered_18 : decode cX10_gathered 18 = .ok (.ireturn, 1) := by decide +kernel
theorem dX10_dark_0 : decode cX10_dark 0 = .ok (.aload_n 0, 1) := by decide +kernel
theorem dX10_dark_1 : decode cX10_dark 1 = .ok (.invokevirtual 152, 3) := by decide +kernel
theorem dX10_dark_4 : decode cX10_dark 4 = .ok (.ifCond .ne 5, 3) := by decide +kernel
theorem dX10_dark_7 : decode cX10_dark 7 = .ok (.iconst (-1), 1) := by decide +kernel
theorem dX10_dark_8 : decode cX10_dark 8 = .ok (.ireturn, 1) := by decide +kernel
theorem dX10_dark_9 : decode cX10_dark 9 = .ok (.aload_n 0, 1) := by decide +kernel
theorem dX10_dark_10 : decode cX10_dark 10 = .ok (.aload_n 0, 1) := by decide +kernel
theorem dX10_dark_11 : decode cX10_dark 11 = .ok (.getfield 51, 3) := by decide +kernel
theorem dX10_dark_14 : decode cX10_dark 14 = .ok (.invokevirtual 261, 3) := by decide +kernel
theorem dX10_dark_17 : decode cX10_dark 17 = .ok (.aload_n 0, 1) := by decide +kernel
theorem dX10_dark_18 : decode cX10_dark 18 = .ok (.getfield 75, 3) := by decide +kernel
theorem dX10_dark_21 : decode cX10_dark 21 = .ok (.aload_n 0, 1) := by decide +kernel
theorem dX10_dark_22 : decode cX10_dark 22 = .ok (.getfield 41, 3) := by decide +kernel
theorem dX10_dark_25 : decode cX10_dark 25 = .ok (.getfield 143, 3) := by decide +kernel
theorem dX10_dark_28 : decode cX10_dark 28 = .ok (.invokevirtual 354, 3) := by decide +kernel
theorem dX10_dark_31 : decode cX10_dark 31 = .ok (.ireturn, 1) := by decide +kernel
theorem dX10_borders_0 : decode cX10_borders 0 = .ok (.aload_n 0, 1) := by decide +kernel
theorem dX10_borders_1 : decode cX10_borders 1 = .ok (.iload_n 1, 1) := by decide +kernel
theorem dX10_borders_2 : decode cX10_borders 2 = .ok (.invokevirtual 258, 3) := by decide +kernel
theorem dX10_borders_5 : decode cX10_borders 5 = .ok (.ifCond .eq 15, 3) := by decide +kernel
theorem dX10_borders_8 : decode cX10_borders 8 = .ok (.aload_n 0, 1) := by decide +kernel
theorem dX10_borders_9 : decode cX10_borders 9 = .ok (.aload_n 0, 1) := by decide +kernel
theorem dX10_borders_10 : decode cX10_borders 10 = .ok (.iload_n 1, 1) := by decide +kernel
theorem dX10_borders_11 : decode cX10_borders 11 = .ok (.invokevirtual 217, 3) := by decide +kernel
theorem dX10_borders_14 : decode cX10_borders 14 = .ok (.invokevirtual 268, 3) := by decide +kernel
theorem dX10_borders_17 : decode cX10_borders 17 = .ok (.goto 4, 3) := by decide +kernel
theorem dX10_borders_20 : decode cX10_borders 20 = .ok (.iconst (-1), 1) := by decide +kernel
theorem dX10_borders_21 : decode cX10_borders 21 = .ok (.ireturn, 1) := by decide +kernel
theorem dX10_guests_0 : decode cX10_guests 0 = .ok (.aload_n 0, 1) := by decide +kernel
theorem dX10_guests_1 : decode cX10_guests 1 = .ok (.invokevirtual 152, 3) := by decide +kernel
theorem dX10_guests_4 : decode cX10_guests 4 = .ok (.ifCond .ne 5, 3) := by decide +kernel
theorem dX10_guests_7 : decode cX10_guests 7 = .ok (.iconst (-1), 1) := by decide +kernel
theorem dX10_guests_8 : decode cX10_guests 8 = .ok (.ireturn, 1) := by decide +kernel
theorem dX10_guests_9 : decode cX10_guests 9 = .ok (.iconst 0, 1) := by decide +kernel
theorem dX10_guests_10 : decode cX10_guests 10 = .ok (.istore_n 1, 1) := by decide +kernel
theorem dX10_guests_11 : decode cX10_guests 11 = .ok (.iconst 0, 1) := by decide +kernel
theorem dX10_guests_12 : decode cX10_guests 12 = .ok (.istore_n 2, 1) := by decide +kernel
theorem dX10_guests_13 : decode cX10_guests 13 = .ok (.iload_n 2, 1) := by decide +kernel
theorem dX10_guests_14 : decode cX10_guests 14 = .ok (.aload_n 0, 1) := by decide +kernel
theorem dX10_guests_15 : decode cX10_guests 15 = .ok (.getfield 41, 3) := by decide +kernel
theorem dX10_guests_18 : decode cX10_guests 18 = .ok (.getfield 149, 3) := by decide +kernel
theorem dX10_guests_21 : decode cX10_guests 21 = .ok (.if_icmp .ge 36, 3) := by decide +kernel
theorem dX10_guests_24 : decode cX10_guests 24 = .ok (.aload_n 0, 1) := by decide +kernel
theorem dX10_guests_25 : decode cX10_guests 25 = .ok (.aload_n 0, 1) := by decide +kernel
theorem dX10_guests_26 : decode cX10_guests 26 = .ok (.aload_n 0, 1) := by decide +kernel
theorem dX10_guests_27 : decode cX10_guests 27 = .ok (.getfield 51, 3) := by decide +kernel
theorem dX10_guests_30 : decode cX10_guests 30 = .ok (.getfield 211, 3) := by decide +kernel
theorem dX10_guests_33 : decode cX10_guests 33 = .ok (.iload_n 2, 1) := by decide +kernel
theorem dX10_guests_34 : decode cX10_guests 34 = .ok (.iaload, 1) := by decide +kernel
theorem dX10_guests_35 : decode cX10_guests 35 = .ok (.invokevirtual 217, 3) := by decide +kernel
theorem dX10_guests_38 : decode cX10_guests 38 = .ok (.invokevirtual 223, 3) := by decide +kernel
theorem dX10_guests_41 : decode cX10_guests 41 = .ok (.iload_n 2, 1) := by decide +kernel
theorem dX10_guests_42 : decode cX10_guests 42 = .ok (.if_icmp .eq 9, 3) := by decide +kernel
theorem dX10_guests_45 : decode cX10_guests 45 = .ok (.iload_n 1, 1) := by decide +kernel
theorem dX10_guests_46 : decode cX10_guests 46 = .ok (.iconst 1, 1) := by decide +kernel
theorem dX10_guests_47 : decode cX10_guests 47 = .ok (.iload_n 2, 1) := by decide +kernel
theorem dX10_guests_48 : decode cX10_guests 48 = .ok (.ishl, 1) := by decide +kernel
theorem dX10_guests_49 : decode cX10_guests 49 = .ok (.ior, 1) := by decide +kernel
theorem dX10_guests_50 : decode cX10_guests 50 = .ok (.istore_n 1, 1) := by decide +kernel
theorem dX10_guests_51 : decode cX10_guests 51 = .ok (.iinc 2 1, 3) := by decide +kernel
theorem dX10_guests_54 : decode cX10_guests 54 = .ok (.goto (-41), 3) := by decide +kernel
theorem dX10_guests_57 : decode cX10_guests 57 = .ok (.iload_n 1, 1) := by decide +kernel
theorem dX10_guests_58 : decode cX10_guests 58 = .ok (.ireturn, 1) := by decide +kernel
theorem dX10_image_0 : decode cX10_image 0 = .ok (.aload_n 0, 1) := by decide +kernel
theorem dX10_image_1 : decode cX10_image 1 = .ok (.invokevirtual 152, 3) := by decide +kernel
theorem dX10_image_4 : decode cX10_image 4 = .ok (.ifCond .ne 5, 3) := by decide +kernel
theorem dX10_image_7 : decode cX10_image 7 = .ok (.iconst (-1), 1) := by decide +kernel
theorem dX10_image_8 : decode cX10_image 8 = .ok (.ireturn, 1) := by decide +kernel
theorem dX10_image_9 : decode cX10_image 9 = .ok (.aload_n 0, 1) := by decide +kernel
theorem dX10_image_10 : decode cX10_image 10 = .ok (.getfield 61, 3) := by decide +kernel
theorem dX10_image_13 : decode cX10_image 13 = .ok (.aload_n 0, 1) := by decide +kernel
theorem dX10_image_14 : decode cX10_image 14 = .ok (.getfield 51, 3) := by decide +kernel
theorem dX10_image_17 : decode cX10_image 17 = .ok (.invokevirtual 409, 3) := by decide +kernel
theorem dX10_image_20 : decode cX10_image 20 = .ok (.aload_n 0, 1) := by decide +kernel
theorem dX10_image_21 : decode cX10_image 21 = .ok (.getfield 51, 3) := by decide +kernel
theorem dX10_image_24 : decode cX10_image 24 = .ok (.getfield 287, 3) := by decide +kernel
theorem dX10_image_27 : decode cX10_image 27 = .ok (.ireturn, 1) := by decide +kernel
theorem dX10_back_0 : decode cX10_back 0 = .ok (.aload_n 0, 1) := by decide +kernel
theorem dX10_back_1 : decode cX10_back 1 = .ok (.getfield 61, 3) := by decide +kernel
theorem dX10_back_4 : decode cX10_back 4 = .ok (.getfield 412, 3) := by decide +kernel
theorem dX10_back_7 : decode cX10_back 7 = .ok (.ifCond .ne 5, 3) := by decide +kernel
theorem dX10_back_10 : decode cX10_back 10 = .ok (.iconst (-1), 1) := by decide +kernel
theorem dX10_back_11 : decode cX10_back 11 = .ok (.ireturn, 1) := by decide +kernel
theorem dX10_back_12 : decode cX10_back 12 = .ok (.aload_n 0, 1) := by decide +kernel
theorem dX10_back_13 : decode cX10_back 13 = .ok (.getfield 61, 3) := by decide +kernel
theorem dX10_back_16 : decode cX10_back 16 = .ok (.aload_n 0, 1) := by decide +kernel
theorem dX10_back_17 : decode cX10_back 17 = .ok (.getfield 51, 3) := by decide +kernel
theorem dX10_back_20 : decode cX10_back 20 = .ok (.invokevirtual 416, 3) := by decide +kernel
theorem dX10_back_23 : decode cX10_back 23 = .ok (.aload_n 0, 1) := by decide +kernel
theorem dX10_back_24 : decode cX10_back 24 = .ok (.getfield 51, 3) := by decide +kernel
theorem dX10_back_27 : decode cX10_back 27 = .ok (.getfield 287, 3) := by decide +kernel
theorem dX10_back_30 : decode cX10_back 30 = .ok (.ireturn, 1) := by decide +kernel
theorem dX10_count_0 : decode cX10_count 0 = .ok (.iload_n 1, 1) := by decide +kernel
theorem dX10_count_1 : decode cX10_count 1 = .ok (.tableswitch 184 0 14 #[75, 83, 91, 99, 107, 112, 120, 128, 137, 145, 153, 161, 166, 171, 176], 75) := by decide +kernel
theorem dX10_count_76 : decode cX10_count 76 = .ok (.aload_n 0, 1) := by decide +kernel
theorem dX10_count_77 : decode cX10_count 77 = .ok (.getfield 41, 3) := by decide +kernel
theorem dX10_count_80 : decode cX10_count 80 = .ok (.getfield 143, 3) := by decide +kernel
theorem dX10_count_83 : decode cX10_count 83 = .ok (.ireturn, 1) := by decide +kernel
theorem dX10_count_84 : decode cX10_count 84 = .ok (.aload_n 0, 1) := by decide +kernel
theorem dX10_count_85 : decode cX10_count 85 = .ok (.getfield 41, 3) := by decide +kernel
theorem dX10_count_88 : decode cX10_count 88 = .ok (.getfield 146, 3) := by decide +kernel
theorem dX10_count_91 : decode cX10_count 91 = .ok (.ireturn, 1) := by decide +kernel
theorem dX10_count_92 : decode cX10_count 92 = .ok (.aload_n 0, 1) := by decide +kernel
theorem dX10_count_93 : decode cX10_count 93 = .ok (.getfield 41, 3) := by decide +kernel
theorem dX10_count_96 : decode cX10_count 96 = .ok (.getfield 149, 3) := by decide +kernel
theorem dX10_count_99 : decode cX10_count 99 = .ok (.ireturn, 1) := by decide +kernel
theorem dX10_count_100 : decode cX10_count 100 = .ok (.aload_n 0, 1) := by decide +kernel
theorem dX10_count_101 : decode cX10_count 101 = .ok (.getfield 34, 3) := by decide +kernel
theorem dX10_count_104 : decode cX10_count 104 = .ok (.getfield 124, 3) := by decide +kernel
theorem dX10_count_107 : decode cX10_count 107 = .ok (.ireturn, 1) := by decide +kernel
theorem dX10_count_108 : decode cX10_count 108 = .ok (.aload_n 0, 1) := by decide +kernel
theorem dX10_count_109 : decode cX10_count 109 = .ok (.getfield 13, 3) := by decide +kernel
theorem dX10_count_112 : decode cX10_count 112 = .ok (.ireturn, 1) := by decide +kernel
theorem dX10_count_113 : decode cX10_count 113 = .ok (.aload_n 0, 1) := by decide +kernel
theorem dX10_count_114 : decode cX10_count 114 = .ok (.getfield 34, 3) := by decide +kernel
theorem dX10_count_117 : decode cX10_count 117 = .ok (.getfield 226, 3) := by decide +kernel
theorem dX10_count_120 : decode cX10_count 120 = .ok (.ireturn, 1) := by decide +kernel
theorem dX10_count_121 : decode cX10_count 121 = .ok (.aload_n 0, 1) := by decide +kernel
theorem dX10_count_122 : decode cX10_count 122 = .ok (.getfield 51, 3) := by decide +kernel
theorem dX10_count_125 : decode cX10_count 125 = .ok (.getfield 287, 3) := by decide +kernel
theorem dX10_count_128 : decode cX10_count 128 = .ok (.ireturn, 1) := by decide +kernel
theorem dX10_count_129 : decode cX10_count 129 = .ok (.aload_n 0, 1) := by decide +kernel
theorem dX10_count_130 : decode cX10_count 130 = .ok (.aload_n 0, 1) := by decide +kernel
theorem dX10_count_131 : decode cX10_count 131 = .ok (.getfield 51, 3) := by decide +kernel
theorem dX10_count_134 : decode cX10_count 134 = .ok (.invokevirtual 280, 3) := by decide +kernel
theorem dX10_count_137 : decode cX10_count 137 = .ok (.ireturn, 1) := by decide +kernel
theorem dX10_count_138 : decode cX10_count 138 = .ok (.aload_n 0, 1) := by decide +kernel
theorem dX10_count_139 : decode cX10_count 139 = .ok (.getfield 51, 3) := by decide +kernel
theorem dX10_count_142 : decode cX10_count 142 = .ok (.invokevirtual 194, 3) := by decide +kernel
theorem dX10_count_145 : decode cX10_count 145 = .ok (.ireturn, 1) := by decide +kernel
theorem dX10_count_146 : decode cX10_count 146 = .ok (.aload_n 0, 1) := by decide +kernel
theorem dX10_count_147 : decode cX10_count 147 = .ok (.getfield 51, 3) := by decide +kernel
theorem dX10_count_150 : decode cX10_count 150 = .ok (.invokevirtual 320, 3) := by decide +kernel
theorem dX10_count_153 : decode cX10_count 153 = .ok (.ireturn, 1) := by decide +kernel
theorem dX10_count_154 : decode cX10_count 154 = .ok (.aload_n 0, 1) := by decide +kernel
theorem dX10_count_155 : decode cX10_count 155 = .ok (.getfield 51, 3) := by decide +kernel
theorem dX10_count_158 : decode cX10_count 158 = .ok (.invokevirtual 366, 3) := by decide +kernel
theorem dX10_count_161 : decode cX10_count 161 = .ok (.ireturn, 1) := by decide +kernel
theorem dX10_count_162 : decode cX10_count 162 = .ok (.aload_n 0, 1) := by decide +kernel
theorem dX10_count_163 : decode cX10_count 163 = .ok (.getfield 89, 3) := by decide +kernel
theorem dX10_count_166 : decode cX10_count 166 = .ok (.ireturn, 1) := by decide +kernel
theorem dX10_count_167 : decode cX10_count 167 = .ok (.aload_n 0, 1) := by decide +kernel
theorem dX10_count_168 : decode cX10_count 168 = .ok (.getfield 96, 3) := by decide +kernel
theorem dX10_count_171 : decode cX10_count 171 = .ok (.ireturn, 1) := by decide +kernel
theorem dX10_count_172 : decode cX10_count 172 = .ok (.aload_n 0, 1) := by decide +kernel
theorem dX10_count_173 : decode cX10_count 173 = .ok (.invokevirtual 335, 3) := by decide +kernel
theorem dX10_count_176 : decode cX10_count 176 = .ok (.ireturn, 1) := by decide +kernel
theorem dX10_count_177 : decode cX10_count 177 = .ok (.aload_n 0, 1) := by decide +kernel
theorem dX10_count_178 : decode cX10_count 178 = .ok (.getfield 61, 3) := by decide +kernel
theorem dX10_count_181 : decode cX10_count 181 = .ok (.getfield 323, 3) := by decide +kernel
theorem dX10_count_184 : decode cX10_count 184 = .ok (.ireturn, 1) := by decide +kernel
theorem dX10_count_185 : decode cX10_count 185 = .ok (.ldc_w 372, 3) := by decide +kernel
theorem dX10_count_188 : decode cX10_count 188 = .ok (.ireturn, 1) := by decide +kernel
theorem dX11_in_0 : decode cX11_in 0 = .ok (.iload_n 0, 1) := by decide +kernel
theorem dX11_in_1 : decode cX11_in 1 = .ok (.iload_n 1, 1) := by decide +kernel
theorem dX11_in_2 : decode cX11_in 2 = .ok (.if_icmp .lt 12, 3) := by decide +kernel
theorem dX11_in_5 : decode cX11_in 5 = .ok (.iload_n 0, 1) := by decide +kernel
theorem dX11_in_6 : decode cX11_in 6 = .ok (.iload_n 2, 1) := by decide +kernel
theorem dX11_in_7 : decode cX11_in 7 = .ok (.if_icmp .gt 7, 3) := by decide +kernel
theorem dX11_in_10 : decode cX11_in 10 = .ok (.iconst 1, 1) := by decide +kernel
theorem dX11_in_11 : decode cX11_in 11 = .ok (.goto 4, 3) := by decide +kernel
theorem dX11_in_14 : decode cX11_in 14 = .ok (.iconst 0, 1) := by decide +kernel
theorem dX11_in_15 : decode cX11_in 15 = .ok (.ireturn, 1) := by decide +kernel
theorem dX11_has_0 : decode cX11_has 0 = .ok (.iload_n 0, 1) := by decide +kernel
theorem dX11_has_1 : decode cX11_has 1 = .ok (.iload_n 1, 1) := by decide +kernel
theorem dX11_has_2 : decode cX11_has 2 = .ok (.ishr, 1) := by decide +kernel
theorem dX11_has_3 : decode cX11_has 3 = .ok (.iconst 1, 1) := by decide +kernel
theorem dX11_has_4 : decode cX11_has 4 = .ok (.iand, 1) := by decide +kernel
theorem dX11_has_5 : decode cX11_has 5 = .ok (.iconst 1, 1) := by decide +kernel
theorem dX11_has_6 : decode cX11_has 6 = .ok (.if_icmp .ne 7, 3) := by decide +kernel
theorem dX11_has_9 : decode cX11_has 9 = .ok (.iconst 1, 1) := by decide +kernel
theorem dX11_has_10 : decode cX11_has 10 = .ok (.goto 4, 3) := by decide +kernel
theorem dX11_has_13 : decode cX11_has 13 = .ok (.iconst 0, 1) := by decide +kernel
theorem dX11_has_14 : decode cX11_has 14 = .ok (.ireturn, 1) := by decide +kernel
theorem dX11_init_0 : decode cX11_init 0 = .ok (.aload_n 0, 1) := by decide +kernel
theorem dX11_init_1 : decode cX11_init 1 = .ok (.invokespecial 3, 3) := by decide +kernel
theorem dX11_init_4 : decode cX11_init 4 = .ok (.aload_n 0, 1) := by decide +kernel
theorem dX11_init_5 : decode cX11_init 5 = .ok (.sipush 240, 3) := by decide +kernel
theorem dX11_init_8 : decode cX11_init 8 = .ok (.newarray .int, 2) := by decide +kernel
theorem dX11_init_10 : decode cX11_init 10 = .ok (.putfield 9, 3) := by decide +kernel
theorem dX11_init_13 : decode cX11_init 13 = .ok (.aload_n 0, 1) := by decide +kernel
theorem dX11_init_14 : decode cX11_init 14 = .ok (.sipush 2600, 3) := by decide +kernel
theorem dX11_init_17 : decode cX11_init 17 = .ok (.newarray .int, 2) := by decide +kernel
theorem dX11_init_19 : decode cX11_init 19 = .ok (.putfield 13, 3) := by decide +kernel
theorem dX11_init_22 : decode cX11_init 22 = .ok (.aload_n 0, 1) := by decide +kernel
theorem dX11_init_23 : decode cX11_init 23 = .ok (.sipush 2600, 3) := by decide +kernel
theorem dX11_init_26 : decode cX11_init 26 = .ok (.newarray .int, 2) := by decide +kernel
theorem dX11_init_28 : decode cX11_init 28 = .ok (.putfield 16, 3) := by decide +kernel
theorem dX11_init_31 : decode cX11_init 31 = .ok (.aload_n 0, 1) := by decide +kernel
theorem dX11_init_32 : decode cX11_init 32 = .ok (.iconst 5, 1) := by decide +kernel
theorem dX11_init_33 : decode cX11_init 33 = .ok (.newarray .int, 2) := by decide +kernel
theorem dX11_init_35 : decode cX11_init 35 = .ok (.putfield 19, 3) := by decide +kernel
theorem dX11_init_38 : decode cX11_init 38 = .ok (.aload_n 0, 1) := by decide +kernel
theorem dX11_init_39 : decode cX11_init 39 = .ok (.iconst 5, 1) := by decide +kernel
theorem dX11_init_40 : decode cX11_init 40 = .ok (.newarray .int, 2) := by decide +kernel
theorem dX11_init_42 : decode cX11_init 42 = .ok (.putfield 22, 3) := by decide +kernel
theorem dX11_init_45 : decode cX11_init 45 = .ok (.aload_n 0, 1) := by decide +kernel
theorem dX11_init_46 : decode cX11_init 46 = .ok (.sipush 700, 3) := by decide +kernel
theorem dX11_init_49 : decode cX11_init 49 = .ok (.newarray .int, 2) := by decide +kernel
theorem dX11_init_51 : decode cX11_init 51 = .ok (.putfield 25, 3) := by decide +kernel
theorem dX11_init_54 : decode cX11_init 54 = .ok (.aload_n 0, 1) := by decide +kernel
theorem dX11_init_55 : decode cX11_init 55 = .ok (.sipush 700, 3) := by decide +kernel
theorem dX11_init_58 : decode cX11_init 58 = .ok (.newarray .int, 2) := by decide +kernel
theorem dX11_init_60 : decode cX11_init 60 = .ok (.putfield 28, 3) := by decide +kernel
theorem dX11_init_63 : decode cX11_init 63 = .ok (.aload_n 0, 1) := by decide +kernel
theorem dX11_init_64 : decode cX11_init 64 = .ok (.sipush 700, 3) := by decide +kernel
theorem dX11_init_67 : decode cX11_init 67 = .ok (.newarray .int, 2) := by decide +kernel
theorem dX11_init_69 : decode cX11_init 69 = .ok (.putfield 31, 3) := by decide +kernel
theorem dX11_init_72 : decode cX11_init 72 = .ok (.aload_n 0, 1) := by decide +kernel
theorem dX11_init_73 : decode cX11_init 73 = .ok (.bipush 6, 2) := by decide +kernel
theorem dX11_init_75 : decode cX11_init 75 = .ok (.newarray .int, 2) := by decide +kernel
theorem dX11_init_77 : decode cX11_init 77 = .ok (.putfield 34, 3) := by decide +kernel
theorem dX11_init_80 : decode cX11_init 80 = .ok (.aload_n 0, 1) := by decide +kernel
theorem dX11_init_81 : decode cX11_init 81 = .ok (.bipush 80, 2) := by decide +kernel
theorem dX11_init_83 : decode cX11_init 83 = .ok (.newarray .int, 2) := by decide +kernel
theorem dX11_init_85 : decode cX11_init 85 = .ok (.putfield 37, 3) := by decide +kernel
theorem dX11_init_88 : decode cX11_init 88 = .ok (.aload_n 0, 1) := by decide +kernel
theorem dX11_init_89 : decode cX11_init 89 = .ok (.iconst 4, 1) := by decide +kernel
theorem dX11_init_90 : decode cX11_init 90 = .ok (.newarray .int, 2) := by decide +kernel
theorem dX11_init_92 : decode cX11_init 92 = .ok (.putfield 40, 3) := by decide +kernel
theorem dX11_init_95 : decode cX11_init 95 = .ok (.aload_n 0, 1) := by decide +kernel
theorem dX11_init_96 : decode cX11_init 96 = .ok (.bipush 60, 2) := by decide +kernel
theorem dX11_init_98 : decode cX11_init 98 = .ok (.newarray .int, 2) := by decide +kernel
theorem dX11_init_100 : decode cX11_init 100 = .ok (.putfield 43, 3) := by decide +kernel
theorem dX11_init_103 : decode cX11_init 103 = .ok (.aload_n 0, 1) := by decide +kernel
theorem dX11_init_104 : decode cX11_init 104 = .ok (.bipush 12, 2) := by decide +kernel
theorem dX11_init_106 : decode cX11_init 106 = .ok (.newarray .int, 2) := by decide +kernel
theorem dX11_init_108 : decode cX11_init 108 = .ok (.putfield 46, 3) := by decide +kernel
theorem dX11_init_111 : decode cX11_init 111 = .ok (.aload_n 0, 1) := by decide +kernel
theorem dX11_init_112 : decode cX11_init 112 = .ok (.iconst 4, 1) := by decide +kernel
theorem dX11_init_113 : decode cX11_init 113 = .ok (.newarray .int, 2) := by decide +kernel
theorem dX11_init_115 : decode cX11_init 115 = .ok (.putfield 49, 3) := by decide +kernel
theorem dX11_init_118 : decode cX11_init 118 = .ok (.aload_n 0, 1) := by decide +kernel
theorem dX11_init_119 : decode cX11_init 119 = .ok (.bipush 60, 2) := by decide +kernel
theorem dX11_init_121 : decode cX11_init 121 = .ok (.newarray .int, 2) := by decide +kernel
theorem dX11_init_123 : decode cX11_init 123 = .ok (.putfield 52, 3) := by decide +kernel
theorem dX11_init_126 : decode cX11_init 126 = .ok (.aload_n 0, 1) := by decide +kernel
theorem dX11_init_127 : decode cX11_init 127 = .ok (.bipush 12, 2) := by decide +kernel
theorem dX11_init_129 : decode cX11_init 129 = .ok (.newarray .int, 2) := by decide +kernel
theorem dX11_init_131 : decode cX11_init 131 = .ok (.putfield 55, 3) := by decide +kernel
theorem dX11_init_134 : decode cX11_init 134 = .ok (.aload_n 0, 1) := by decide +kernel
theorem dX11_init_135 : decode cX11_init 135 = .ok (.sipush 199, 3) := by decide +kernel
theorem dX11_init_138 : decode cX11_init 138 = .ok (.newarray .int, 2) := by decide +kernel
theorem dX11_init_140 : decode cX11_init 140 = .ok (.putfield 58, 3) := by decide +kernel
theorem dX11_init_143 : decode cX11_init 143 = .ok (.aload_n 0, 1) := by decide +kernel
theorem dX11_init_144 : decode cX11_init 144 = .ok (.iconst 5, 1) := by decide +kernel
theorem dX11_init_145 : decode cX11_init 145 = .ok (.newarray .int, 2) := by decide +kernel
theorem dX11_init_147 : decode cX11_init 147 = .ok (.putfield 61, 3) := by decide +kernel
theorem dX11_init_150 : decode cX11_init 150 = .ok (.aload_n 0, 1) := by decide +kernel
theorem dX11_init_151 : decode cX11_init 151 = .ok (.iconst (-1), 1) := by decide +kernel
theorem dX11_init_152 : decode cX11_init 152 = .ok (.putfield 64, 3) := by decide +kernel
theorem dX11_init_155 : decode cX11_init 155 = .ok (.aload_n 0, 1) := by decide +kernel
theorem dX11_init_156 : decode cX11_init 156 = .ok (.bipush 80, 2) := by decide +kernel
theorem dX11_init_158 : decode cX11_init 158 = .ok (.newarray .int, 2) := by decide +kernel
theorem dX11_init_160 : decode cX11_init 160 = .ok (.putfield 68, 3) := by decide +kernel
theorem dX11_init_163 : decode cX11_init 163 = .ok (.aload_n 0, 1) := by decide +kernel
theorem dX11_init_164 : decode cX11_init 164 = .ok (.bipush 80, 2) := by decide +kernel
theorem dX11_init_166 : decode cX11_init 166 = .ok (.newarray .int, 2) := by decide +kernel
theorem dX11_init_168 : decode cX11_init 168 = .ok (.putfield 71, 3) := by decide +kernel
theorem dX11_init_171 : decode cX11_init 171 = .ok (.aload_n 0, 1) := by decide +kernel
theorem dX11_init_172 : decode cX11_init 172 = .ok (.bipush 20, 2) := by decide +kernel
theorem dX11_init_174 : decode cX11_init 174 = .ok (.newarray .int, 2) := by decide +kernel
theorem dX11_init_176 : decode cX11_init 176 = .ok (.putfield 74, 3) := by decide +kernel
theorem dX11_init_179 : decode cX11_init 179 = .ok (.aload_n 0, 1) := by decide +kernel
theorem dX11_init_180 : decode cX11_init 180 = .ok (.bipush 10, 2) := by decide +kernel
theorem dX11_init_182 : decode cX11_init 182 = .ok (.newarray .int, 2) := by decide +kernel
theorem dX11_init_184 : decode cX11_init 184 = .ok (.putfield 77, 3) := by decide +kernel
theorem dX11_init_187 : decode cX11_init 187 = .ok (.aload_n 0, 1) := by decide +kernel
theorem dX11_init_188 : decode cX11_init 188 = .ok (.sipush 7960, 3) := by decide +kernel
theorem dX11_init_191 : decode cX11_init 191 = .ok (.newarray .int, 2) := by decide +kernel
theorem dX11_init_193 : decode cX11_init 193 = .ok (.putfield 80, 3) := by decide +kernel
theorem dX11_init_196 : decode cX11_init 196 = .ok (.aload_n 0, 1) := by decide +kernel
theorem dX11_init_197 : decode cX11_init 197 = .ok (.bipush 18, 2) := by decide +kernel
theorem dX11_init_199 : decode cX11_init 199 = .ok (.newarray .int, 2) := by decide +kernel
theorem dX11_init_201 : decode cX11_init 201 = .ok (.putfield 83, 3) := by decide +kernel
theorem dX11_init_204 : decode cX11_init 204 = .ok (.aload_n 0, 1) := by decide +kernel
theorem dX11_init_205 : decode cX11_init 205 = .ok (.bipush 121, 2) := by decide +kernel
theorem dX11_init_207 : decode cX11_init 207 = .ok (.newarray .int, 2) := by decide +kernel
theorem dX11_init_209 : decode cX11_init 209 = .ok (.putfield 86, 3) := by decide +kernel
theorem dX11_init_212 : decode cX11_init 212 = .ok (.aload_n 0, 1) := by decide +kernel
theorem dX11_init_213 : decode cX11_init 213 = .ok (.bipush 121, 2) := by decide +kernel
theorem dX11_init_215 : decode cX11_init 215 = .ok (.newarray .int, 2) := by decide +kernel
theorem dX11_init_217 : decode cX11_init 217 = .ok (.putfield 89, 3) := by decide +kernel
theorem dX11_init_220 : decode cX11_init 220 = .ok (.aload_n 0, 1) := by decide +kernel
theorem dX11_init_221 : decode cX11_init 221 = .ok (.bipush 10, 2) := by decide +kernel
theorem dX11_init_223 : decode cX11_init 223 = .ok (.newarray .int, 2) := by decide +kernel
theorem dX11_init_225 : decode cX11_init 225 = .ok (.putfield 92, 3) := by decide +kernel
theorem dX11_init_228 : decode cX11_init 228 = .ok (.aload_n 0, 1) := by decide +kernel
theorem dX11_init_229 : decode cX11_init 229 = .ok (.bipush 10, 2) := by decide +kernel
theorem dX11_init_231 : decode cX11_init 231 = .ok (.newarray .boolean, 2) := by decide +kernel
theorem dX11_init_233 : decode cX11_init 233 = .ok (.putfield 95, 3) := by decide +kernel
theorem dX11_init_236 : decode cX11_init 236 = .ok (.aload_n 0, 1) := by decide +kernel
theorem dX11_init_237 : decode cX11_init 237 = .ok (.sipush 199, 3) := by decide +kernel
theorem dX11_init_240 : decode cX11_init 240 = .ok (.newarray .int, 2) := by decide +kernel
theorem dX11_init_242 : decode cX11_init 242 = .ok (.putfield 99, 3) := by decide +kernel
theorem dX11_init_245 : decode cX11_init 245 = .ok (.return_, 1) := by decide +kernel
theorem dX11_thrown_0 : decode cX11_thrown 0 = .ok (.aload_n 0, 1) := by decide +kernel
theorem dX11_thrown_1 : decode cX11_thrown 1 = .ok (.getfield 102, 3) := by decide +kernel
theorem dX11_thrown_4 : decode cX11_thrown 4 = .ok (.ireturn, 1) := by decide +kernel
theorem dX11_byteOf_0 : decode cX11_byteOf 0 = .ok (.iload 5, 2) := by decide +kernel
theorem dX11_byteOf_2 : decode cX11_byteOf 2 = .ok (.iconst 4, 1) := by decide +kernel
theorem dX11_byteOf_3 : decode cX11_byteOf 3 = .ok (.if_icmp .ge 7, 3) := by decide +kernel
theorem dX11_byteOf_6 : decode cX11_byteOf 6 = .ok (.iload_n 0, 1) := by decide +kernel
theorem dX11_byteOf_7 : decode cX11_byteOf 7 = .ok (.goto 38, 3) := by decide +kernel
theorem dX11_byteOf_10 : decode cX11_byteOf 10 = .ok (.iload 5, 2) := by decide +kernel
theorem dX11_byteOf_12 : decode cX11_byteOf 12 = .ok (.bipush 8, 2) := by decide +kernel
theorem dX11_byteOf_14 : decode cX11_byteOf 14 = .ok (.if_icmp .ge 7, 3) := by decide +kernel
theorem dX11_byteOf_17 : decode cX11_byteOf 17 = .ok (.iload_n 1, 1) := by decide +kernel
theorem dX11_byteOf_18 : decode cX11_byteOf 18 = .ok (.goto 27, 3) := by decide +kernel
theorem dX11_byteOf_21 : decode cX11_byteOf 21 = .ok (.iload 5, 2) := by decide +kernel
theorem dX11_byteOf_23 : decode cX11_byteOf 23 = .ok (.bipush 12, 2) := by decide +kernel
theorem dX11_byteOf_25 : decode cX11_byteOf 25 = .ok (.if_icmp .ge 7, 3) := by decide +kernel
theorem dX11_byteOf_28 : decode cX11_byteOf 28 = .ok (.iload_n 2, 1) := by decide +kernel
theorem dX11_byteOf_29 : decode cX11_byteOf 29 = .ok (.goto 16, 3) := by decide +kernel
theorem dX11_byteOf_32 : decode cX11_byteOf 32 = .ok (.iload 5, 2) := by decide +kernel
theorem dX11_byteOf_34 : decode cX11_byteOf 34 = .ok (.bipush 16, 2) := by decide +kernel
theorem dX11_byteOf_36 : decode cX11_byteOf 36 = .ok (.if_icmp .ge 7, 3) := by decide +kernel
theorem dX11_byteOf_39 : decode cX11_byteOf 39 = .ok (.iload_n 3, 1) := by decide +kernel
theorem dX11_byteOf_40 : decode cX11_byteOf 40 = .ok (.goto 5, 3) := by decide +kernel
theorem dX11_byteOf_43 : decode cX11_byteOf 43 = .ok (.iload 4, 2) := by decide +kernel
theorem dX11_byteOf_45 : decode cX11_byteOf 45 = .ok (.istore 6, 2) := by decide +kernel
theorem dX11_byteOf_47 : decode cX11_byteOf 47 = .ok (.iload 6, 2) := by decide +kernel
theorem dX11_byteOf_49 : decode cX11_byteOf 49 = .ok (.bipush 24, 2) := by decide +kernel
theorem dX11_byteOf_51 : decode cX11_byteOf 51 = .ok (.bipush 8, 2) := by decide +kernel
theorem dX11_byteOf_53 : decode cX11_byteOf 53 = .ok (.iload 5, 2) := by decide +kernel
theorem dX11_byteOf_55 : decode cX11_byteOf 55 = .ok (.iconst 4, 1) := by decide +kernel
theorem dX11_byteOf_56 : decode cX11_byteOf 56 = .ok (.irem, 1) := by decide +kernel
theorem dX11_byteOf_57 : decode cX11_byteOf 57 = .ok (.imul, 1) := by decide +kernel
theorem dX11_byteOf_58 : decode cX11_byteOf 58 = .ok (.isub, 1) := by decide +kernel
theorem dX11_byteOf_59 : decode cX11_byteOf 59 = .ok (.ishr, 1) := by decide +kernel
theorem dX11_byteOf_60 : decode cX11_byteOf 60 = .ok (.sipush 255, 3) := by decide +kernel
theorem dX11_byteOf_63 : decode cX11_byteOf 63 = .ok (.iand, 1) := by decide +kernel
theorem dX11_byteOf_64 : decode cX11_byteOf 64 = .ok (.ireturn, 1) := by decide +kernel
theorem dX11_feed_0 : decode cX11_feed 0 = .ok (.iconst 0, 1) := by decide +kernel
theorem dX11_feed_1 : decode cX11_feed 1 = .ok (.istore 6, 2) := by decide +kernel
theorem dX11_feed_3 : decode cX11_feed 3 = .ok (.iconst 0, 1) := by decide +kernel
theorem dX11_feed_4 : decode cX11_feed 4 = .ok (.istore 7, 2) := by decide +kernel
theorem dX11_feed_6 : decode cX11_feed 6 = .ok (.iload 7, 2) := by decide +kernel
theorem dX11_feed_8 : decode cX11_feed 8 = .ok (.bipush 20, 2) := by decide +kernel
theorem dX11_feed_10 : decode cX11_feed 10 = .ok (.if_icmp .ge 34, 3) := by decide +kernel
theorem dX11_feed_13 : decode cX11_feed 13 = .ok (.iload 6, 2) := by decide +kernel
theorem dX11_feed_15 : decode cX11_feed 15 = .ok (.iload_n 1, 1) := by decide +kernel
theorem dX11_feed_16 : decode cX11_feed 16 = .ok (.iload_n 2, 1) := by decide +kernel
theorem dX11_feed_17 : decode cX11_feed 17 = .ok (.iload_n 3, 1) := by decide +kernel
theorem dX11_feed_18 : decode cX11_feed 18 = .ok (.iload 4, 2) := by decide +kernel
theorem dX11_feed_20 : decode cX11_feed 20 = .ok (.iload 5, 2) := by decide +kernel
theorem dX11_feed_22 : decode cX11_feed 22 = .ok (.iload 7, 2) := by decide +kernel
theorem dX11_feed_24 : decode cX11_feed 24 = .ok (.invokestatic 105, 3) := by decide +kernel
theorem dX11_feed_27 : decode cX11_feed 27 = .ok (.ifCond .eq 7, 3) := by decide +kernel
theorem dX11_feed_30 : decode cX11_feed 30 = .ok (.iconst 1, 1) := by decide +kernel
theorem dX11_feed_31 : decode cX11_feed 31 = .ok (.goto 4, 3) := by decide +kernel
theorem dX11_feed_34 : decode cX11_feed 34 = .ok (.iconst 0, 1) := by decide +kernel
theorem dX11_feed_35 : decode cX11_feed 35 = .ok (.iadd, 1) := by decide +kernel
theorem dX11_feed_36 : decode cX11_feed 36 = .ok (.istore 6, 2) := by decide +kernel
theorem dX11_feed_38 : decode cX11_feed 38 = .ok (.iinc 7 1, 3) := by decide +kernel
theorem dX11_feed_41 : decode cX11_feed 41 = .ok (.goto (-35), 3) := by decide +kernel
theorem dX11_feed_44 : decode cX11_feed 44 = .ok (.aload_n 0, 1) := by decide +kernel
theorem dX11_feed_45 : decode cX11_feed 45 = .ok (.getfield 109, 3) := by decide +kernel
theorem dX11_feed_48 : decode cX11_feed 48 = .ok (.iload 6, 2) := by decide +kernel
theorem dX11_feed_50 : decode cX11_feed 50 = .ok (.iadd, 1) := by decide +kernel
theorem dX11_feed_51 : decode cX11_feed 51 = .ok (.sipush 240, 3) := by decide +kernel
theorem dX11_feed_54 : decode cX11_feed 54 = .ok (.if_icmp .le 5, 3) := by decide +kernel
theorem dX11_feed_57 : decode cX11_feed 57 = .ok (.iconst (-1), 1) := by decide +kernel
theorem dX11_feed_58 : decode cX11_feed 58 = .ok (.ireturn, 1) := by decide +kernel
theorem dX11_feed_59 : decode cX11_feed 59 = .ok (.iconst 0, 1) := by decide +kernel
theorem dX11_feed_60 : decode cX11_feed 60 = .ok (.istore 7, 2) := by decide +kernel
