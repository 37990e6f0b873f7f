theorem dX11_touch_99 : decode cX11_touch 99 = .ok (.iload_n 3, 1) := by decide +kernel
theorem dX11_touch_100 : decode cX11_touch 100 = .ok (.aload_n 0, 1) := by decide +kernel
theorem dX11_touch_101 : decode cX11_touch 101 = .ok (.iload 5, 2) := by decide +kernel
theorem dX11_touch_103 : decode cX11_touch 103 = .ok (.invokevirtual 304, 3) := by decide +kernel
theorem dX11_touch_106 : decode cX11_touch 106 = .ok (.invokestatic 228, 3) := by decide +kernel
theorem dX11_touch_109 : decode cX11_touch 109 = .ok (.ifCond .eq 5, 3) := by decide +kernel
theorem dX11_touch_112 : decode cX11_touch 112 = .ok (.iconst 1, 1) := by decide +kernel
theorem dX11_touch_113 : decode cX11_touch 113 = .ok (.ireturn, 1) := by decide +kernel
theorem dX11_touch_114 : decode cX11_touch 114 = .ok (.iinc 5 1, 3) := by decide +kernel
theorem dX11_touch_117 : decode cX11_touch 117 = .ok (.goto (-83), 3) := by decide +kernel
theorem dX11_touch_120 : decode cX11_touch 120 = .ok (.iconst 0, 1) := by decide +kernel
theorem dX11_touch_121 : decode cX11_touch 121 = .ok (.ireturn, 1) := by decide +kernel
theorem dX11_keep_0 : decode cX11_keep 0 = .ok (.aload_n 0, 1) := by decide +kernel
theorem dX11_keep_1 : decode cX11_keep 1 = .ok (.getfield 282, 3) := by decide +kernel
theorem dX11_keep_4 : decode cX11_keep 4 = .ok (.bipush 40, 2) := by decide +kernel
theorem dX11_keep_6 : decode cX11_keep 6 = .ok (.if_icmp .ne 46, 3) := by decide +kernel
theorem dX11_keep_9 : decode cX11_keep 9 = .ok (.sipush 199, 3) := by decide +kernel
theorem dX11_keep_12 : decode cX11_keep 12 = .ok (.istore_n 1, 1) := by decide +kernel
theorem dX11_keep_13 : decode cX11_keep 13 = .ok (.iload_n 1, 1) := by decide +kernel
theorem dX11_keep_14 : decode cX11_keep 14 = .ok (.sipush 7960, 3) := by decide +kernel
theorem dX11_keep_17 : decode cX11_keep 17 = .ok (.if_icmp .ge 25, 3) := by decide +kernel
theorem dX11_keep_20 : decode cX11_keep 20 = .ok (.aload_n 0, 1) := by decide +kernel
theorem dX11_keep_21 : decode cX11_keep 21 = .ok (.getfield 80, 3) := by decide +kernel
theorem dX11_keep_24 : decode cX11_keep 24 = .ok (.iload_n 1, 1) := by decide +kernel
theorem dX11_keep_25 : decode cX11_keep 25 = .ok (.sipush 199, 3) := by decide +kernel
theorem dX11_keep_28 : decode cX11_keep 28 = .ok (.isub, 1) := by decide +kernel
theorem dX11_keep_29 : decode cX11_keep 29 = .ok (.aload_n 0, 1) := by decide +kernel
theorem dX11_keep_30 : decode cX11_keep 30 = .ok (.getfield 80, 3) := by decide +kernel
theorem dX11_keep_33 : decode cX11_keep 33 = .ok (.iload_n 1, 1) := by decide +kernel
theorem dX11_keep_34 : decode cX11_keep 34 = .ok (.iaload, 1) := by decide +kernel
theorem dX11_keep_35 : decode cX11_keep 35 = .ok (.iastore, 1) := by decide +kernel
theorem dX11_keep_36 : decode cX11_keep 36 = .ok (.iinc 1 1, 3) := by decide +kernel
theorem dX11_keep_39 : decode cX11_keep 39 = .ok (.goto (-26), 3) := by decide +kernel
theorem dX11_keep_42 : decode cX11_keep 42 = .ok (.aload_n 0, 1) := by decide +kernel
theorem dX11_keep_43 : decode cX11_keep 43 = .ok (.dup, 1) := by decide +kernel
theorem dX11_keep_44 : decode cX11_keep 44 = .ok (.getfield 282, 3) := by decide +kernel
theorem dX11_keep_47 : decode cX11_keep 47 = .ok (.iconst 1, 1) := by decide +kernel
theorem dX11_keep_48 : decode cX11_keep 48 = .ok (.isub, 1) := by decide +kernel
theorem dX11_keep_49 : decode cX11_keep 49 = .ok (.putfield 282, 3) := by decide +kernel
theorem dX11_keep_52 : decode cX11_keep 52 = .ok (.iconst 0, 1) := by decide +kernel
theorem dX11_keep_53 : decode cX11_keep 53 = .ok (.istore_n 1, 1) := by decide +kernel
theorem dX11_keep_54 : decode cX11_keep 54 = .ok (.iload_n 1, 1) := by decide +kernel
theorem dX11_keep_55 : decode cX11_keep 55 = .ok (.sipush 199, 3) := by decide +kernel
theorem dX11_keep_58 : decode cX11_keep 58 = .ok (.if_icmp .ge 30, 3) := by decide +kernel
theorem dX11_keep_61 : decode cX11_keep 61 = .ok (.aload_n 0, 1) := by decide +kernel
theorem dX11_keep_62 : decode cX11_keep 62 = .ok (.getfield 80, 3) := by decide +kernel
theorem dX11_keep_65 : decode cX11_keep 65 = .ok (.sipush 199, 3) := by decide +kernel
theorem dX11_keep_68 : decode cX11_keep 68 = .ok (.aload_n 0, 1) := by decide +kernel
theorem dX11_keep_69 : decode cX11_keep 69 = .ok (.getfield 282, 3) := by decide +kernel
theorem dX11_keep_72 : decode cX11_keep 72 = .ok (.imul, 1) := by decide +kernel
theorem dX11_keep_73 : decode cX11_keep 73 = .ok (.iload_n 1, 1) := by decide +kernel
theorem dX11_keep_74 : decode cX11_keep 74 = .ok (.iadd, 1) := by decide +kernel
theorem dX11_keep_75 : decode cX11_keep 75 = .ok (.aload_n 0, 1) := by decide +kernel
theorem dX11_keep_76 : decode cX11_keep 76 = .ok (.getfield 58, 3) := by decide +kernel
theorem dX11_keep_79 : decode cX11_keep 79 = .ok (.iload_n 1, 1) := by decide +kernel
theorem dX11_keep_80 : decode cX11_keep 80 = .ok (.iaload, 1) := by decide +kernel
theorem dX11_keep_81 : decode cX11_keep 81 = .ok (.iastore, 1) := by decide +kernel
theorem dX11_keep_82 : decode cX11_keep 82 = .ok (.iinc 1 1, 3) := by decide +kernel
theorem dX11_keep_85 : decode cX11_keep 85 = .ok (.goto (-31), 3) := by decide +kernel
theorem dX11_keep_88 : decode cX11_keep 88 = .ok (.aload_n 0, 1) := by decide +kernel
theorem dX11_keep_89 : decode cX11_keep 89 = .ok (.dup, 1) := by decide +kernel
theorem dX11_keep_90 : decode cX11_keep 90 = .ok (.getfield 282, 3) := by decide +kernel
theorem dX11_keep_93 : decode cX11_keep 93 = .ok (.iconst 1, 1) := by decide +kernel
theorem dX11_keep_94 : decode cX11_keep 94 = .ok (.iadd, 1) := by decide +kernel
theorem dX11_keep_95 : decode cX11_keep 95 = .ok (.putfield 282, 3) := by decide +kernel
theorem dX11_keep_98 : decode cX11_keep 98 = .ok (.return_, 1) := by decide +kernel
theorem dX11_isRefused_0 : decode cX11_isRefused 0 = .ok (.iload_n 1, 1) := by decide +kernel
theorem dX11_isRefused_1 : decode cX11_isRefused 1 = .ok (.iconst (-1), 1) := by decide +kernel
theorem dX11_isRefused_2 : decode cX11_isRefused 2 = .ok (.if_icmp .eq 13, 3) := by decide +kernel
theorem dX11_isRefused_5 : decode cX11_isRefused 5 = .ok (.aload_n 0, 1) := by decide +kernel
theorem dX11_isRefused_6 : decode cX11_isRefused 6 = .ok (.getfield 61, 3) := by decide +kernel
theorem dX11_isRefused_9 : decode cX11_isRefused 9 = .ok (.iload_n 1, 1) := by decide +kernel
theorem dX11_isRefused_10 : decode cX11_isRefused 10 = .ok (.dup2, 1) := by decide +kernel
theorem dX11_isRefused_11 : decode cX11_isRefused 11 = .ok (.iaload, 1) := by decide +kernel
theorem dX11_isRefused_12 : decode cX11_isRefused 12 = .ok (.iconst 1, 1) := by decide +kernel
theorem dX11_isRefused_13 : decode cX11_isRefused 13 = .ok (.iadd, 1) := by decide +kernel
theorem dX11_isRefused_14 : decode cX11_isRefused 14 = .ok (.iastore, 1) := by decide +kernel
theorem dX11_isRefused_15 : decode cX11_isRefused 15 = .ok (.iload_n 1, 1) := by decide +kernel
theorem dX11_isRefused_16 : decode cX11_isRefused 16 = .ok (.iconst (-1), 1) := by decide +kernel
theorem dX11_isRefused_17 : decode cX11_isRefused 17 = .ok (.if_icmp .eq 7, 3) := by decide +kernel
theorem dX11_isRefused_20 : decode cX11_isRefused 20 = .ok (.iconst 1, 1) := by decide +kernel
theorem dX11_isRefused_21 : decode cX11_isRefused 21 = .ok (.goto 4, 3) := by decide +kernel
theorem dX11_isRefused_24 : decode cX11_isRefused 24 = .ok (.iconst 0, 1) := by decide +kernel
theorem dX11_isRefused_25 : decode cX11_isRefused 25 = .ok (.ireturn, 1) := by decide +kernel
theorem dX11_hasRight_0 : decode cX11_hasRight 0 = .ok (.aload_n 0, 1) := by decide +kernel
theorem dX11_hasRight_1 : decode cX11_hasRight 1 = .ok (.aload_n 0, 1) := by decide +kernel
theorem dX11_hasRight_2 : decode cX11_hasRight 2 = .ok (.getfield 58, 3) := by decide +kernel
theorem dX11_hasRight_5 : decode cX11_hasRight 5 = .ok (.bipush 11, 2) := by decide +kernel
theorem dX11_hasRight_7 : decode cX11_hasRight 7 = .ok (.iload_n 1, 1) := by decide +kernel
theorem dX11_hasRight_8 : decode cX11_hasRight 8 = .ok (.iadd, 1) := by decide +kernel
theorem dX11_hasRight_9 : decode cX11_hasRight 9 = .ok (.iaload, 1) := by decide +kernel
theorem dX11_hasRight_10 : decode cX11_hasRight 10 = .ok (.invokevirtual 328, 3) := by decide +kernel
theorem dX11_hasRight_13 : decode cX11_hasRight 13 = .ok (.istore_n 3, 1) := by decide +kernel
theorem dX11_hasRight_14 : decode cX11_hasRight 14 = .ok (.iload_n 3, 1) := by decide +kernel
theorem dX11_hasRight_15 : decode cX11_hasRight 15 = .ok (.aload_n 0, 1) := by decide +kernel
theorem dX11_hasRight_16 : decode cX11_hasRight 16 = .ok (.iload_n 2, 1) := by decide +kernel
theorem dX11_hasRight_17 : decode cX11_hasRight 17 = .ok (.invokevirtual 301, 3) := by decide +kernel
theorem dX11_hasRight_20 : decode cX11_hasRight 20 = .ok (.invokestatic 228, 3) := by decide +kernel
theorem dX11_hasRight_23 : decode cX11_hasRight 23 = .ok (.ifCond .ne 15, 3) := by decide +kernel
theorem dX11_hasRight_26 : decode cX11_hasRight 26 = .ok (.iload_n 3, 1) := by decide +kernel
theorem dX11_hasRight_27 : decode cX11_hasRight 27 = .ok (.aload_n 0, 1) := by decide +kernel
theorem dX11_hasRight_28 : decode cX11_hasRight 28 = .ok (.iload_n 2, 1) := by decide +kernel
theorem dX11_hasRight_29 : decode cX11_hasRight 29 = .ok (.invokevirtual 304, 3) := by decide +kernel
theorem dX11_hasRight_32 : decode cX11_hasRight 32 = .ok (.invokestatic 228, 3) := by decide +kernel
theorem dX11_hasRight_35 : decode cX11_hasRight 35 = .ok (.ifCond .eq 7, 3) := by decide +kernel
theorem dX11_hasRight_38 : decode cX11_hasRight 38 = .ok (.iconst 1, 1) := by decide +kernel
theorem dX11_hasRight_39 : decode cX11_hasRight 39 = .ok (.goto 4, 3) := by decide +kernel
theorem dX11_hasRight_42 : decode cX11_hasRight 42 = .ok (.iconst 0, 1) := by decide +kernel
theorem dX11_hasRight_43 : decode cX11_hasRight 43 = .ok (.ireturn, 1) := by decide +kernel
theorem dX11_pull_0 : decode cX11_pull 0 = .ok (.iconst 0, 1) := by decide +kernel
theorem dX11_pull_1 : decode cX11_pull 1 = .ok (.istore 4, 2) := by decide +kernel
theorem dX11_pull_3 : decode cX11_pull 3 = .ok (.aload_n 0, 1) := by decide +kernel
theorem dX11_pull_4 : decode cX11_pull 4 = .ok (.iload_n 1, 1) := by decide +kernel
theorem dX11_pull_5 : decode cX11_pull 5 = .ok (.invokevirtual 344, 3) := by decide +kernel
theorem dX11_pull_8 : decode cX11_pull 8 = .ok (.ifCond .eq 54, 3) := by decide +kernel
theorem dX11_pull_11 : decode cX11_pull 11 = .ok (.aload_n 0, 1) := by decide +kernel
theorem dX11_pull_12 : decode cX11_pull 12 = .ok (.iload_n 2, 1) := by decide +kernel
theorem dX11_pull_13 : decode cX11_pull 13 = .ok (.invokevirtual 295, 3) := by decide +kernel
theorem dX11_pull_16 : decode cX11_pull 16 = .ok (.ifCond .eq 46, 3) := by decide +kernel
theorem dX11_pull_19 : decode cX11_pull 19 = .ok (.aload_n 0, 1) := by decide +kernel
theorem dX11_pull_20 : decode cX11_pull 20 = .ok (.iload_n 1, 1) := by decide +kernel
theorem dX11_pull_21 : decode cX11_pull 21 = .ok (.iload_n 2, 1) := by decide +kernel
theorem dX11_pull_22 : decode cX11_pull 22 = .ok (.invokevirtual 353, 3) := by decide +kernel
theorem dX11_pull_25 : decode cX11_pull 25 = .ok (.ifCond .eq 18, 3) := by decide +kernel
theorem dX11_pull_28 : decode cX11_pull 28 = .ok (.aload_n 0, 1) := by decide +kernel
theorem dX11_pull_29 : decode cX11_pull 29 = .ok (.getfield 58, 3) := by decide +kernel
theorem dX11_pull_32 : decode cX11_pull 32 = .ok (.bipush 10, 2) := by decide +kernel
theorem dX11_pull_34 : decode cX11_pull 34 = .ok (.iaload, 1) := by decide +kernel
theorem dX11_pull_35 : decode cX11_pull 35 = .ok (.iload_n 2, 1) := by decide +kernel
theorem dX11_pull_36 : decode cX11_pull 36 = .ok (.invokestatic 228, 3) := by decide +kernel
theorem dX11_pull_39 : decode cX11_pull 39 = .ok (.iload_n 3, 1) := by decide +kernel
theorem dX11_pull_40 : decode cX11_pull 40 = .ok (.if_icmp .ne 7, 3) := by decide +kernel
theorem dX11_pull_43 : decode cX11_pull 43 = .ok (.iconst 2, 1) := by decide +kernel
theorem dX11_pull_44 : decode cX11_pull 44 = .ok (.goto 16, 3) := by decide +kernel
theorem dX11_pull_47 : decode cX11_pull 47 = .ok (.aload_n 0, 1) := by decide +kernel
theorem dX11_pull_48 : decode cX11_pull 48 = .ok (.iload_n 2, 1) := by decide +kernel
theorem dX11_pull_49 : decode cX11_pull 49 = .ok (.invokevirtual 298, 3) := by decide +kernel
theorem dX11_pull_52 : decode cX11_pull 52 = .ok (.ifCond .eq 7, 3) := by decide +kernel
theorem dX11_pull_55 : decode cX11_pull 55 = .ok (.iconst 3, 1) := by decide +kernel
theorem dX11_pull_56 : decode cX11_pull 56 = .ok (.goto 4, 3) := by decide +kernel
theorem dX11_pull_59 : decode cX11_pull 59 = .ok (.iconst (-1), 1) := by decide +kernel
theorem dX11_pull_60 : decode cX11_pull 60 = .ok (.istore 4, 2) := by decide +kernel
theorem dX11_pull_62 : decode cX11_pull 62 = .ok (.aload_n 0, 1) := by decide +kernel
theorem dX11_pull_63 : decode cX11_pull 63 = .ok (.iload 4, 2) := by decide +kernel
theorem dX11_pull_65 : decode cX11_pull 65 = .ok (.invokevirtual 356, 3) := by decide +kernel
theorem dX11_pull_68 : decode cX11_pull 68 = .ok (.ifCond .eq 5, 3) := by decide +kernel
theorem dX11_pull_71 : decode cX11_pull 71 = .ok (.iconst (-1), 1) := by decide +kernel
theorem dX11_pull_72 : decode cX11_pull 72 = .ok (.ireturn, 1) := by decide +kernel
theorem dX11_pull_73 : decode cX11_pull 73 = .ok (.aload_n 0, 1) := by decide +kernel
theorem dX11_pull_74 : decode cX11_pull 74 = .ok (.invokevirtual 359, 3) := by decide +kernel
theorem dX11_pull_77 : decode cX11_pull 77 = .ok (.aload_n 0, 1) := by decide +kernel
theorem dX11_pull_78 : decode cX11_pull 78 = .ok (.getfield 58, 3) := by decide +kernel
theorem dX11_pull_81 : decode cX11_pull 81 = .ok (.bipush 10, 2) := by decide +kernel
theorem dX11_pull_83 : decode cX11_pull 83 = .ok (.dup2, 1) := by decide +kernel
theorem dX11_pull_84 : decode cX11_pull 84 = .ok (.iaload, 1) := by decide +kernel
theorem dX11_pull_85 : decode cX11_pull 85 = .ok (.iconst 1, 1) := by decide +kernel
theorem dX11_pull_86 : decode cX11_pull 86 = .ok (.iload_n 2, 1) := by decide +kernel
theorem dX11_pull_87 : decode cX11_pull 87 = .ok (.ishl, 1) := by decide +kernel
theorem dX11_pull_88 : decode cX11_pull 88 = .ok (.ixor, 1) := by decide +kernel
theorem dX11_pull_89 : decode cX11_pull 89 = .ok (.iastore, 1) := by decide +kernel
theorem dX11_pull_90 : decode cX11_pull 90 = .ok (.aload_n 0, 1) := by decide +kernel
theorem dX11_pull_91 : decode cX11_pull 91 = .ok (.invokevirtual 362, 3) := by decide +kernel
theorem dX11_pull_94 : decode cX11_pull 94 = .ok (.ireturn, 1) := by decide +kernel
theorem dX11_go_0 : decode cX11_go 0 = .ok (.iconst 0, 1) := by decide +kernel
theorem dX11_go_1 : decode cX11_go 1 = .ok (.istore_n 3, 1) := by decide +kernel
theorem dX11_go_2 : decode cX11_go 2 = .ok (.aload_n 0, 1) := by decide +kernel
theorem dX11_go_3 : decode cX11_go 3 = .ok (.iload_n 1, 1) := by decide +kernel
theorem dX11_go_4 : decode cX11_go 4 = .ok (.invokevirtual 344, 3) := by decide +kernel
theorem dX11_go_7 : decode cX11_go 7 = .ok (.ifCond .eq 50, 3) := by decide +kernel
theorem dX11_go_10 : decode cX11_go 10 = .ok (.aload_n 0, 1) := by decide +kernel
theorem dX11_go_11 : decode cX11_go 11 = .ok (.iload_n 2, 1) := by decide +kernel
theorem dX11_go_12 : decode cX11_go 12 = .ok (.invokevirtual 350, 3) := by decide +kernel
theorem dX11_go_15 : decode cX11_go 15 = .ok (.ifCond .eq 42, 3) := by decide +kernel
theorem dX11_go_18 : decode cX11_go 18 = .ok (.aload_n 0, 1) := by decide +kernel
theorem dX11_go_19 : decode cX11_go 19 = .ok (.getfield 58, 3) := by decide +kernel
theorem dX11_go_22 : decode cX11_go 22 = .ok (.bipush 11, 2) := by decide +kernel
theorem dX11_go_24 : decode cX11_go 24 = .ok (.iload_n 1, 1) := by decide +kernel
theorem dX11_go_25 : decode cX11_go 25 = .ok (.iadd, 1) := by decide +kernel
theorem dX11_go_26 : decode cX11_go 26 = .ok (.iaload, 1) := by decide +kernel
theorem dX11_go_27 : decode cX11_go 27 = .ok (.iload_n 2, 1) := by decide +kernel
theorem dX11_go_28 : decode cX11_go 28 = .ok (.if_icmp .eq 23, 3) := by decide +kernel
theorem dX11_go_31 : decode cX11_go 31 = .ok (.aload_n 0, 1) := by decide +kernel
theorem dX11_go_32 : decode cX11_go 32 = .ok (.aload_n 0, 1) := by decide +kernel
theorem dX11_go_33 : decode cX11_go 33 = .ok (.getfield 58, 3) := by decide +kernel
theorem dX11_go_36 : decode cX11_go 36 = .ok (.bipush 11, 2) := by decide +kernel
theorem dX11_go_38 : decode cX11_go 38 = .ok (.iload_n 1, 1) := by decide +kernel
theorem dX11_go_39 : decode cX11_go 39 = .ok (.iadd, 1) := by decide +kernel
theorem dX11_go_40 : decode cX11_go 40 = .ok (.iaload, 1) := by decide +kernel
theorem dX11_go_41 : decode cX11_go 41 = .ok (.invokevirtual 328, 3) := by decide +kernel
theorem dX11_go_44 : decode cX11_go 44 = .ok (.iload_n 2, 1) := by decide +kernel
theorem dX11_go_45 : decode cX11_go 45 = .ok (.invokestatic 228, 3) := by decide +kernel
theorem dX11_go_48 : decode cX11_go 48 = .ok (.ifCond .ne 7, 3) := by decide +kernel
theorem dX11_go_51 : decode cX11_go 51 = .ok (.iconst 2, 1) := by decide +kernel
theorem dX11_go_52 : decode cX11_go 52 = .ok (.goto 4, 3) := by decide +kernel
theorem dX11_go_55 : decode cX11_go 55 = .ok (.iconst (-1), 1) := by decide +kernel
theorem dX11_go_56 : decode cX11_go 56 = .ok (.istore_n 3, 1) := by decide +kernel
theorem dX11_go_57 : decode cX11_go 57 = .ok (.aload_n 0, 1) := by decide +kernel
theorem dX11_go_58 : decode cX11_go 58 = .ok (.iload_n 3, 1) := by decide +kernel
theorem dX11_go_59 : decode cX11_go 59 = .ok (.invokevirtual 356, 3) := by decide +kernel
theorem dX11_go_62 : decode cX11_go 62 = .ok (.ifCond .eq 5, 3) := by decide +kernel
theorem dX11_go_65 : decode cX11_go 65 = .ok (.iconst (-1), 1) := by decide +kernel
theorem dX11_go_66 : decode cX11_go 66 = .ok (.ireturn, 1) := by decide +kernel
theorem dX11_go_67 : decode cX11_go 67 = .ok (.aload_n 0, 1) := by decide +kernel
theorem dX11_go_68 : decode cX11_go 68 = .ok (.invokevirtual 359, 3) := by decide +kernel
theorem dX11_go_71 : decode cX11_go 71 = .ok (.aload_n 0, 1) := by decide +kernel
theorem dX11_go_72 : decode cX11_go 72 = .ok (.getfield 58, 3) := by decide +kernel
theorem dX11_go_75 : decode cX11_go 75 = .ok (.bipush 11, 2) := by decide +kernel
theorem dX11_go_77 : decode cX11_go 77 = .ok (.iload_n 1, 1) := by decide +kernel
theorem dX11_go_78 : decode cX11_go 78 = .ok (.iadd, 1) := by decide +kernel
theorem dX11_go_79 : decode cX11_go 79 = .ok (.iload_n 2, 1) := by decide +kernel
theorem dX11_go_80 : decode cX11_go 80 = .ok (.iastore, 1) := by decide +kernel
theorem dX11_go_81 : decode cX11_go 81 = .ok (.aload_n 0, 1) := by decide +kernel
theorem dX11_go_82 : decode cX11_go 82 = .ok (.iload_n 2, 1) := by decide +kernel
theorem dX11_go_83 : decode cX11_go 83 = .ok (.invokevirtual 365, 3) := by decide +kernel
theorem dX11_go_86 : decode cX11_go 86 = .ok (.ireturn, 1) := by decide +kernel
theorem dX11_creep_0 : decode cX11_creep 0 = .ok (.iconst 0, 1) := by decide +kernel
theorem dX11_creep_1 : decode cX11_creep 1 = .ok (.istore_n 3, 1) := by decide +kernel
theorem dX11_creep_2 : decode cX11_creep 2 = .ok (.aload_n 0, 1) := by decide +kernel
theorem dX11_creep_3 : decode cX11_creep 3 = .ok (.iload_n 1, 1) := by decide +kernel
theorem dX11_creep_4 : decode cX11_creep 4 = .ok (.invokevirtual 344, 3) := by decide +kernel
theorem dX11_creep_7 : decode cX11_creep 7 = .ok (.ifCond .eq 61, 3) := by decide +kernel
theorem dX11_creep_10 : decode cX11_creep 10 = .ok (.aload_n 0, 1) := by decide +kernel
theorem dX11_creep_11 : decode cX11_creep 11 = .ok (.iload_n 2, 1) := by decide +kernel
theorem dX11_creep_12 : decode cX11_creep 12 = .ok (.invokevirtual 295, 3) := by decide +kernel
theorem dX11_creep_15 : decode cX11_creep 15 = .ok (.ifCond .eq 53, 3) := by decide +kernel
theorem dX11_creep_18 : decode cX11_creep 18 = .ok (.aload_n 0, 1) := by decide +kernel
theorem dX11_creep_19 : decode cX11_creep 19 = .ok (.iload_n 2, 1) := by decide +kernel
theorem dX11_creep_20 : decode cX11_creep 20 = .ok (.invokevirtual 307, 3) := by decide +kernel
theorem dX11_creep_23 : decode cX11_creep 23 = .ok (.ifCond .eq 39, 3) := by decide +kernel
theorem dX11_creep_26 : decode cX11_creep 26 = .ok (.aload_n 0, 1) := by decide +kernel
theorem dX11_creep_27 : decode cX11_creep 27 = .ok (.iload_n 2, 1) := by decide +kernel
theorem dX11_creep_28 : decode cX11_creep 28 = .ok (.aload_n 0, 1) := by decide +kernel
theorem dX11_creep_29 : decode cX11_creep 29 = .ok (.getfield 58, 3) := by decide +kernel
theorem dX11_creep_32 : decode cX11_creep 32 = .ok (.bipush 11, 2) := by decide +kernel
theorem dX11_creep_34 : decode cX11_creep 34 = .ok (.iload_n 1, 1) := by decide +kernel
theorem dX11_creep_35 : decode cX11_creep 35 = .ok (.iadd, 1) := by decide +kernel
theorem dX11_creep_36 : decode cX11_creep 36 = .ok (.iaload, 1) := by decide +kernel
theorem dX11_creep_37 : decode cX11_creep 37 = .ok (.invokevirtual 368, 3) := by decide +kernel
theorem dX11_creep_40 : decode cX11_creep 40 = .ok (.ifCond .eq 22, 3) := by decide +kernel
theorem dX11_creep_43 : decode cX11_creep 43 = .ok (.aload_n 0, 1) := by decide +kernel
theorem dX11_creep_44 : decode cX11_creep 44 = .ok (.iload_n 2, 1) := by decide +kernel
theorem dX11_creep_45 : decode cX11_creep 45 = .ok (.iconst 4, 1) := by decide +kernel
theorem dX11_creep_46 : decode cX11_creep 46 = .ok (.invokevirtual 270, 3) := by decide +kernel
theorem dX11_creep_49 : decode cX11_creep 49 = .ok (.aload_n 0, 1) := by decide +kernel
theorem dX11_creep_50 : decode cX11_creep 50 = .ok (.getfield 55, 3) := by decide +kernel
theorem dX11_creep_53 : decode cX11_creep 53 = .ok (.iconst 2, 1) := by decide +kernel
theorem dX11_creep_54 : decode cX11_creep 54 = .ok (.iload_n 1, 1) := by decide +kernel
theorem dX11_creep_55 : decode cX11_creep 55 = .ok (.imul, 1) := by decide +kernel
theorem dX11_creep_56 : decode cX11_creep 56 = .ok (.iconst 1, 1) := by decide +kernel
theorem dX11_creep_57 : decode cX11_creep 57 = .ok (.iadd, 1) := by decide +kernel
theorem dX11_creep_58 : decode cX11_creep 58 = .ok (.iaload, 1) := by decide +kernel
theorem dX11_creep_59 : decode cX11_creep 59 = .ok (.if_icmp .ge 7, 3) := by decide +kernel
theorem dX11_creep_62 : decode cX11_creep 62 = .ok (.iconst 2, 1) := by decide +kernel
theorem dX11_creep_63 : decode cX11_creep 63 = .ok (.goto 4, 3) := by decide +kernel
theorem dX11_creep_66 : decode cX11_creep 66 = .ok (.iconst (-1), 1) := by decide +kernel
theorem dX11_creep_67 : decode cX11_creep 67 = .ok (.istore_n 3, 1) := by decide +kernel
theorem dX11_creep_68 : decode cX11_creep 68 = .ok (.aload_n 0, 1) := by decide +kernel
theorem dX11_creep_69 : decode cX11_creep 69 = .ok (.iload_n 3, 1) := by decide +kernel
theorem dX11_creep_70 : decode cX11_creep 70 = .ok (.invokevirtual 356, 3) := by decide +kernel
theorem dX11_creep_73 : decode cX11_creep 73 = .ok (.ifCond .eq 5, 3) := by decide +kernel
theorem dX11_creep_76 : decode cX11_creep 76 = .ok (.iconst (-1), 1) := by decide +kernel
theorem dX11_creep_77 : decode cX11_creep 77 = .ok (.ireturn, 1) := by decide +kernel
theorem dX11_creep_78 : decode cX11_creep 78 = .ok (.aload_n 0, 1) := by decide +kernel
theorem dX11_creep_79 : decode cX11_creep 79 = .ok (.invokevirtual 359, 3) := by decide +kernel
theorem dX11_creep_82 : decode cX11_creep 82 = .ok (.aload_n 0, 1) := by decide +kernel
theorem dX11_creep_83 : decode cX11_creep 83 = .ok (.getfield 58, 3) := by decide +kernel
theorem dX11_creep_86 : decode cX11_creep 86 = .ok (.bipush 11, 2) := by decide +kernel
theorem dX11_creep_88 : decode cX11_creep 88 = .ok (.iload_n 1, 1) := by decide +kernel
theorem dX11_creep_89 : decode cX11_creep 89 = .ok (.iadd, 1) := by decide +kernel
theorem dX11_creep_90 : decode cX11_creep 90 = .ok (.aload_n 0, 1) := by decide +kernel
theorem dX11_creep_91 : decode cX11_creep 91 = .ok (.iload_n 2, 1) := by decide +kernel
theorem dX11_creep_92 : decode cX11_creep 92 = .ok (.invokevirtual 301, 3) := by decide +kernel
theorem dX11_creep_95 : decode cX11_creep 95 = .ok (.aload_n 0, 1) := by decide +kernel
theorem dX11_creep_96 : decode cX11_creep 96 = .ok (.iload_n 2, 1) := by decide +kernel
theorem dX11_creep_97 : decode cX11_creep 97 = .ok (.invokevirtual 304, 3) := by decide +kernel
theorem dX11_creep_100 : decode cX11_creep 100 = .ok (.iadd, 1) := by decide +kernel
theorem dX11_creep_101 : decode cX11_creep 101 = .ok (.aload_n 0, 1) := by decide +kernel
theorem dX11_creep_102 : decode cX11_creep 102 = .ok (.getfield 58, 3) := by decide +kernel
theorem dX11_creep_105 : decode cX11_creep 105 = .ok (.bipush 11, 2) := by decide +kernel
theorem dX11_creep_107 : decode cX11_creep 107 = .ok (.iload_n 1, 1) := by decide +kernel
theorem dX11_creep_108 : decode cX11_creep 108 = .ok (.iadd, 1) := by decide +kernel
theorem dX11_creep_109 : decode cX11_creep 109 = .ok (.iaload, 1) := by decide +kernel
theorem dX11_creep_110 : decode cX11_creep 110 = .ok (.isub, 1) := by decide +kernel
theorem dX11_creep_111 : decode cX11_creep 111 = .ok (.iastore, 1) := by decide +kernel
theorem dX11_creep_112 : decode cX11_creep 112 = .ok (.aload_n 0, 1) := by decide +kernel
theorem dX11_creep_113 : decode cX11_creep 113 = .ok (.getfield 58, 3) := by decide +kernel
theorem dX11_creep_116 : decode cX11_creep 116 = .ok (.bipush 11, 2) := by decide +kernel
theorem dX11_creep_118 : decode cX11_creep 118 = .ok (.iload_n 1, 1) := by decide +kernel
theorem dX11_creep_119 : decode cX11_creep 119 = .ok (.iadd, 1) := by decide +kernel
theorem dX11_creep_120 : decode cX11_creep 120 = .ok (.iaload, 1) := by decide +kernel
theorem dX11_creep_121 : decode cX11_creep 121 = .ok (.ireturn, 1) := by decide +kernel
theorem dX11_mend_0 : decode cX11_mend 0 = .ok (.aload_n 0, 1) := by decide +kernel
theorem dX11_mend_1 : decode cX11_mend 1 = .ok (.iload_n 1, 1) := by decide +kernel
theorem dX11_mend_2 : decode cX11_mend 2 = .ok (.invokevirtual 295, 3) := by decide +kernel
theorem dX11_mend_5 : decode cX11_mend 5 = .ok (.ifCond .ne 7, 3) := by decide +kernel
theorem dX11_mend_8 : decode cX11_mend 8 = .ok (.iconst 0, 1) := by decide +kernel
theorem dX11_mend_9 : decode cX11_mend 9 = .ok (.goto 45, 3) := by decide +kernel
theorem dX11_mend_12 : decode cX11_mend 12 = .ok (.iload_n 2, 1) := by decide +kernel
theorem dX11_mend_13 : decode cX11_mend 13 = .ok (.iconst 1, 1) := by decide +kernel
theorem dX11_mend_14 : decode cX11_mend 14 = .ok (.bipush 9, 2) := by decide +kernel
theorem dX11_mend_16 : decode cX11_mend 16 = .ok (.invokestatic 217, 3) := by decide +kernel
theorem dX11_mend_19 : decode cX11_mend 19 = .ok (.ifCond .eq 18, 3) := by decide +kernel
theorem dX11_mend_22 : decode cX11_mend 22 = .ok (.aload_n 0, 1) := by decide +kernel
theorem dX11_mend_23 : decode cX11_mend 23 = .ok (.getfield 58, 3) := by decide +kernel
theorem dX11_mend_26 : decode cX11_mend 26 = .ok (.iconst 0, 1) := by decide +kernel
theorem dX11_mend_27 : decode cX11_mend 27 = .ok (.iload_n 1, 1) := by decide +kernel
theorem dX11_mend_28 : decode cX11_mend 28 = .ok (.iadd, 1) := by decide +kernel
theorem dX11_mend_29 : decode cX11_mend 29 = .ok (.iaload, 1) := by decide +kernel
theorem dX11_mend_30 : decode cX11_mend 30 = .ok (.iload_n 2, 1) := by decide +kernel
theorem dX11_mend_31 : decode cX11_mend 31 = .ok (.iadd, 1) := by decide +kernel
theorem dX11_mend_32 : decode cX11_mend 32 = .ok (.bipush 99, 2) := by decide +kernel
theorem dX11_mend_34 : decode cX11_mend 34 = .ok (.if_icmp .le 7, 3) := by decide +kernel
theorem dX11_mend_37 : decode cX11_mend 37 = .ok (.iconst 1, 1) := by decide +kernel
theorem dX11_mend_38 : decode cX11_mend 38 = .ok (.goto 16, 3) := by decide +kernel
theorem dX11_mend_41 : decode cX11_mend 41 = .ok (.aload_n 0, 1) := by decide +kernel
theorem dX11_mend_42 : decode cX11_mend 42 = .ok (.iload_n 1, 1) := by decide +kernel
theorem dX11_mend_43 : decode cX11_mend 43 = .ok (.invokevirtual 298, 3) := by decide +kernel
theorem dX11_mend_46 : decode cX11_mend 46 = .ok (.ifCond .eq 7, 3) := by decide +kernel
theorem dX11_mend_49 : decode cX11_mend 49 = .ok (.iconst 3, 1) := by decide +kernel
theorem dX11_mend_50 : decode cX11_mend 50 = .ok (.goto 4, 3) := by decide +kernel
theorem dX11_mend_53 : decode cX11_mend 53 = .ok (.iconst (-1), 1) := by decide +kernel
theorem dX11_mend_54 : decode cX11_mend 54 = .ok (.istore_n 3, 1) := by decide +kernel
theorem dX11_mend_55 : decode cX11_mend 55 = .ok (.aload_n 0, 1) := by decide +kernel
theorem dX11_mend_56 : decode cX11_mend 56 = .ok (.iload_n 3, 1) := by decide +kernel
theorem dX11_mend_57 : decode cX11_mend 57 = .ok (.invokevirtual 356, 3) := by decide +kernel
theorem dX11_mend_60 : decode cX11_mend 60 = .ok (.ifCond .eq 5, 3) := by decide +kernel
theorem dX11_mend_63 : decode cX11_mend 63 = .ok (.iconst (-1), 1) := by decide +kernel
theorem dX11_mend_64 : decode cX11_mend 64 = .ok (.ireturn, 1) := by decide +kernel
theorem dX11_mend_65 : decode cX11_mend 65 = .ok (.aload_n 0, 1) := by decide +kernel
theorem dX11_mend_66 : decode cX11_mend 66 = .ok (.invokevirtual 359, 3) := by decide +kernel
theorem dX11_mend_69 : decode cX11_mend 69 = .ok (.aload_n 0, 1) := by decide +kernel
theorem dX11_mend_70 : decode cX11_mend 70 = .ok (.getfield 58, 3) := by decide +kernel
theorem dX11_mend_73 : decode cX11_mend 73 = .ok (.iconst 0, 1) := by decide +kernel
theorem dX11_mend_74 : decode cX11_mend 74 = .ok (.iload_n 1, 1) := by decide +kernel
theorem dX11_mend_75 : decode cX11_mend 75 = .ok (.iadd, 1) := by decide +kernel
theorem dX11_mend_76 : decode cX11_mend 76 = .ok (.dup2, 1) := by decide +kernel
theorem dX11_mend_77 : decode cX11_mend 77 = .ok (.iaload, 1) := by decide +kernel
theorem dX11_mend_78 : decode cX11_mend 78 = .ok (.iload_n 2, 1) := by decide +kernel
theorem dX11_mend_79 : decode cX11_mend 79 = .ok (.iadd, 1) := by decide +kernel
theorem dX11_mend_80 : decode cX11_mend 80 = .ok (.iastore, 1) := by decide +kernel
theorem dX11_mend_81 : decode cX11_mend 81 = .ok (.aload_n 0, 1) := by decide +kernel
theorem dX11_mend_82 : decode cX11_mend 82 = .ok (.getfield 58, 3) := by decide +kernel
theorem dX11_mend_85 : decode cX11_mend 85 = .ok (.iconst 0, 1) := by decide +kernel
theorem dX11_mend_86 : decode cX11_mend 86 = .ok (.iload_n 1, 1) := by decide +kernel
theorem dX11_mend_87 : decode cX11_mend 87 = .ok (.iadd, 1) := by decide +kernel
theorem dX11_mend_88 : decode cX11_mend 88 = .ok (.iaload, 1) := by decide +kernel
theorem dX11_mend_89 : decode cX11_mend 89 = .ok (.ireturn, 1) := by decide +kernel
theorem dX11_live_0 : decode cX11_live 0 = .ok (.iconst 0, 1) := by decide +kernel
theorem dX11_live_1 : decode cX11_live 1 = .ok (.istore_n 1, 1) := by decide +kernel
theorem dX11_live_2 : decode cX11_live 2 = .ok (.aload_n 0, 1) := by decide +kernel
theorem dX11_live_3 : decode cX11_live 3 = .ok (.invokevirtual 341, 3) := by decide +kernel
theorem dX11_live_6 : decode cX11_live 6 = .ok (.aload_n 0, 1) := by decide +kernel
theorem dX11_live_7 : decode cX11_live 7 = .ok (.invokevirtual 314, 3) := by decide +kernel
theorem dX11_live_10 : decode cX11_live 10 = .ok (.istore_n 2, 1) := by decide +kernel
theorem dX11_live_11 : decode cX11_live 11 = .ok (.iconst 0, 1) := by decide +kernel
theorem dX11_live_12 : decode cX11_live 12 = .ok (.istore_n 3, 1) := by decide +kernel
theorem dX11_live_13 : decode cX11_live 13 = .ok (.iload_n 3, 1) := by decide +kernel
theorem dX11_live_14 : decode cX11_live 14 = .ok (.aload_n 0, 1) := by decide +kernel
theorem dX11_live_15 : decode cX11_live 15 = .ok (.getfield 261, 3) := by decide +kernel
theorem dX11_live_18 : decode cX11_live 18 = .ok (.if_icmp .ge 110, 3) := by decide +kernel
theorem dX11_live_21 : decode cX11_live 21 = .ok (.iload_n 2, 1) := by decide +kernel
theorem dX11_live_22 : decode cX11_live 22 = .ok (.iload_n 3, 1) := by decide +kernel
theorem dX11_live_23 : decode cX11_live 23 = .ok (.invokestatic 228, 3) := by decide +kernel
theorem dX11_live_26 : decode cX11_live 26 = .ok (.ifCond .eq 96, 3) := by decide +kernel
theorem dX11_live_29 : decode cX11_live 29 = .ok (.aload_n 0, 1) := by decide +kernel
theorem dX11_live_30 : decode cX11_live 30 = .ok (.getfield 74, 3) := by decide +kernel
theorem dX11_live_33 : decode cX11_live 33 = .ok (.aload_n 0, 1) := by decide +kernel
theorem dX11_live_34 : decode cX11_live 34 = .ok (.iload_n 3, 1) := by decide +kernel
theorem dX11_live_35 : decode cX11_live 35 = .ok (.invokevirtual 301, 3) := by decide +kernel
theorem dX11_live_38 : decode cX11_live 38 = .ok (.iaload, 1) := by decide +kernel
theorem dX11_live_39 : decode cX11_live 39 = .ok (.bipush 20, 2) := by decide +kernel
theorem dX11_live_41 : decode cX11_live 41 = .ok (.if_icmp .ge 18, 3) := by decide +kernel
theorem dX11_live_44 : decode cX11_live 44 = .ok (.aload_n 0, 1) := by decide +kernel
theorem dX11_live_45 : decode cX11_live 45 = .ok (.getfield 74, 3) := by decide +kernel
theorem dX11_live_48 : decode cX11_live 48 = .ok (.aload_n 0, 1) := by decide +kernel
theorem dX11_live_49 : decode cX11_live 49 = .ok (.iload_n 3, 1) := by decide +kernel
theorem dX11_live_50 : decode cX11_live 50 = .ok (.invokevirtual 304, 3) := by decide +kernel
theorem dX11_live_53 : decode cX11_live 53 = .ok (.iaload, 1) := by decide +kernel
theorem dX11_live_54 : decode cX11_live 54 = .ok (.bipush 20, 2) := by decide +kernel
theorem dX11_live_56 : decode cX11_live 56 = .ok (.if_icmp .lt 7, 3) := by decide +kernel
theorem dX11_live_59 : decode cX11_live 59 = .ok (.iconst 1, 1) := by decide +kernel
theorem dX11_live_60 : decode cX11_live 60 = .ok (.goto 4, 3) := by decide +kernel
theorem dX11_live_63 : decode cX11_live 63 = .ok (.iconst 0, 1) := by decide +kernel
theorem dX11_live_64 : decode cX11_live 64 = .ok (.istore 4, 2) := by decide +kernel
theorem dX11_live_66 : decode cX11_live 66 = .ok (.aload_n 0, 1) := by decide +kernel
theorem dX11_live_67 : decode cX11_live 67 = .ok (.getfield 58, 3) := by decide +kernel
theorem dX11_live_70 : decode cX11_live 70 = .ok (.iconst 0, 1) := by decide +kernel
theorem dX11_live_71 : decode cX11_live 71 = .ok (.iload_n 3, 1) := by decide +kernel
theorem dX11_live_72 : decode cX11_live 72 = .ok (.iadd, 1) := by decide +kernel
theorem dX11_live_73 : decode cX11_live 73 = .ok (.iconst 0, 1) := by decide +kernel
theorem dX11_live_74 : decode cX11_live 74 = .ok (.aload_n 0, 1) := by decide +kernel
theorem dX11_live_75 : decode cX11_live 75 = .ok (.getfield 58, 3) := by decide +kernel
theorem dX11_live_78 : decode cX11_live 78 = .ok (.iconst 0, 1) := by decide +kernel
theorem dX11_live_79 : decode cX11_live 79 = .ok (.iload_n 3, 1) := by decide +kernel
theorem dX11_live_80 : decode cX11_live 80 = .ok (.iadd, 1) := by decide +kernel
theorem dX11_live_81 : decode cX11_live 81 = .ok (.iaload, 1) := by decide +kernel
theorem dX11_live_82 : decode cX11_live 82 = .ok (.aload_n 0, 1) := by decide +kernel
theorem dX11_live_83 : decode cX11_live 83 = .ok (.getfield 49, 3) := by decide +kernel
theorem dX11_live_86 : decode cX11_live 86 = .ok (.iconst 3, 1) := by decide +kernel
theorem dX11_live_87 : decode cX11_live 87 = .ok (.iaload, 1) := by decide +kernel
theorem dX11_live_88 : decode cX11_live 88 = .ok (.isub, 1) := by decide +kernel
theorem dX11_live_89 : decode cX11_live 89 = .ok (.iload 4, 2) := by decide +kernel
theorem dX11_live_91 : decode cX11_live 91 = .ok (.ifCond .eq 7, 3) := by decide +kernel
theorem dX11_live_94 : decode cX11_live 94 = .ok (.iconst 1, 1) := by decide +kernel
theorem dX11_live_95 : decode cX11_live 95 = .ok (.goto 4, 3) := by decide +kernel
theorem dX11_live_98 : decode cX11_live 98 = .ok (.iconst 0, 1) := by decide +kernel
theorem dX11_live_99 : decode cX11_live 99 = .ok (.isub, 1) := by decide +kernel
theorem dX11_live_100 : decode cX11_live 100 = .ok (.invokestatic 312, 3) := by decide +kernel
theorem dX11_live_103 : decode cX11_live 103 = .ok (.iastore, 1) := by decide +kernel
theorem dX11_live_104 : decode cX11_live 104 = .ok (.iload_n 1, 1) := by decide +kernel
theorem dX11_live_105 : decode cX11_live 105 = .ok (.aload_n 0, 1) := by decide +kernel
theorem dX11_live_106 : decode cX11_live 106 = .ok (.iload_n 3, 1) := by decide +kernel
theorem dX11_live_107 : decode cX11_live 107 = .ok (.invokevirtual 298, 3) := by decide +kernel
theorem dX11_live_110 : decode cX11_live 110 = .ok (.ifCond .eq 9, 3) := by decide +kernel
theorem dX11_live_113 : decode cX11_live 113 = .ok (.iconst 1, 1) := by decide +kernel
theorem dX11_live_114 : decode cX11_live 114 = .ok (.iload_n 3, 1) := by decide +kernel
theorem dX11_live_115 : decode cX11_live 115 = .ok (.ishl, 1) := by decide +kernel
theorem dX11_live_116 : decode cX11_live 116 = .ok (.goto 4, 3) := by decide +kernel
theorem dX11_live_119 : decode cX11_live 119 = .ok (.iconst 0, 1) := by decide +kernel
theorem dX11_live_120 : decode cX11_live 120 = .ok (.ior, 1) := by decide +kernel
theorem dX11_live_121 : decode cX11_live 121 = .ok (.istore_n 1, 1) := by decide +kernel
theorem dX11_live_122 : decode cX11_live 122 = .ok (.iinc 3 1, 3) := by decide +kernel
theorem dX11_live_125 : decode cX11_live 125 = .ok (.goto (-112), 3) := by decide +kernel
theorem dX11_live_128 : decode cX11_live 128 = .ok (.aload_n 0, 1) := by decide +kernel
theorem dX11_live_129 : decode cX11_live 129 = .ok (.getfield 58, 3) := by decide +kernel
theorem dX11_live_132 : decode cX11_live 132 = .ok (.bipush 17, 2) := by decide +kernel
theorem dX11_live_134 : decode cX11_live 134 = .ok (.dup2, 1) := by decide +kernel
theorem dX11_live_135 : decode cX11_live 135 = .ok (.iaload, 1) := by decide +kernel
theorem dX11_live_136 : decode cX11_live 136 = .ok (.iconst 1, 1) := by decide +kernel
theorem dX11_live_137 : decode cX11_live 137 = .ok (.iadd, 1) := by decide +kernel
theorem dX11_live_138 : decode cX11_live 138 = .ok (.iastore, 1) := by decide +kernel
theorem dX11_live_139 : decode cX11_live 139 = .ok (.iload_n 1, 1) := by decide +kernel
theorem dX11_live_140 : decode cX11_live 140 = .ok (.ireturn, 1) := by decide +kernel
theorem dX11_passYear_0 : decode cX11_passYear 0 = .ok (.aload_n 0, 1) := by decide +kernel
theorem dX11_passYear_1 : decode cX11_passYear 1 = .ok (.invokevirtual 371, 3) := by decide +kernel
theorem dX11_passYear_4 : decode cX11_passYear 4 = .ok (.istore_n 1, 1) := by decide +kernel
theorem dX11_passYear_5 : decode cX11_passYear 5 = .ok (.aload_n 0, 1) := by decide +kernel
theorem dX11_passYear_6 : decode cX11_passYear 6 = .ok (.getfield 58, 3) := by decide +kernel
theorem dX11_passYear_9 : decode cX11_passYear 9 = .ok (.bipush 18, 2) := by decide +kernel
theorem dX11_passYear_11 : decode cX11_passYear 11 = .ok (.iaload, 1) := by decide +kernel
theorem dX11_passYear_12 : decode cX11_passYear 12 = .ok (.bipush 60, 2) := by decide +kernel
theorem dX11_passYear_14 : decode cX11_passYear 14 = .ok (.if_icmp .ne 49, 3) := by decide +kernel
theorem dX11_passYear_17 : decode cX11_passYear 17 = .ok (.iconst 3, 1) := by decide +kernel
theorem dX11_passYear_18 : decode cX11_passYear 18 = .ok (.istore_n 2, 1) := by decide +kernel
theorem dX11_passYear_19 : decode cX11_passYear 19 = .ok (.iload_n 2, 1) := by decide +kernel
theorem dX11_passYear_20 : decode cX11_passYear 20 = .ok (.sipush 180, 3) := by decide +kernel
theorem dX11_passYear_23 : decode cX11_passYear 23 = .ok (.if_icmp .ge 29, 3) := by decide +kernel
theorem dX11_passYear_26 : decode cX11_passYear 26 = .ok (.aload_n 0, 1) := by decide +kernel
theorem dX11_passYear_27 : decode cX11_passYear 27 = .ok (.getfield 58, 3) := by decide +kernel
theorem dX11_passYear_30 : decode cX11_passYear 30 = .ok (.bipush 19, 2) := by decide +kernel
theorem dX11_passYear_32 : decode cX11_passYear 32 = .ok (.iload_n 2, 1) := by decide +kernel
theorem dX11_passYear_33 : decode cX11_passYear 33 = .ok (.iadd, 1) := by decide +kernel
theorem dX11_passYear_34 : decode cX11_passYear 34 = .ok (.iconst 3, 1) := by decide +kernel
theorem dX11_passYear_35 : decode cX11_passYear 35 = .ok (.isub, 1) := by decide +kernel
theorem dX11_passYear_36 : decode cX11_passYear 36 = .ok (.aload_n 0, 1) := by decide +kernel
theorem dX11_passYear_37 : decode cX11_passYear 37 = .ok (.getfield 58, 3) := by decide +kernel
theorem dX11_passYear_40 : decode cX11_passYear 40 = .ok (.bipush 19, 2) := by decide +kernel
theorem dX11_passYear_42 : decode cX11_passYear 42 = .ok (.iload_n 2, 1) := by decide +kernel
theorem dX11_passYear_43 : decode cX11_passYear 43 = .ok (.iadd, 1) := by decide +kernel
theorem dX11_passYear_44 : decode cX11_passYear 44 = .ok (.iaload, 1) := by decide +kernel
theorem dX11_passYear_45 : decode cX11_passYear 45 = .ok (.iastore, 1) := by decide +kernel
theorem dX11_passYear_46 : decode cX11_passYear 46 = .ok (.iinc 2 1, 3) := by decide +kernel
theorem dX11_passYear_49 : decode cX11_passYear 49 = .ok (.goto (-30), 3) := by decide +kernel
theorem dX11_passYear_52 : decode cX11_passYear 52 = .ok (.aload_n 0, 1) := by decide +kernel
theorem dX11_passYear_53 : decode cX11_passYear 53 = .ok (.getfield 58, 3) := by decide +kernel
theorem dX11_passYear_56 : decode cX11_passYear 56 = .ok (.bipush 18, 2) := by decide +kernel
theorem dX11_passYear_58 : decode cX11_passYear 58 = .ok (.dup2, 1) := by decide +kernel
theorem dX11_passYear_59 : decode cX11_passYear 59 = .ok (.iaload, 1) := by decide +kernel
theorem dX11_passYear_60 : decode cX11_passYear 60 = .ok (.iconst 1, 1) := by decide +kernel
theorem dX11_passYear_61 : decode cX11_passYear 61 = .ok (.isub, 1) := by decide +kernel
theorem dX11_passYear_62 : decode cX11_passYear 62 = .ok (.iastore, 1) := by decide +kernel
theorem dX11_passYear_63 : decode cX11_passYear 63 = .ok (.bipush 19, 2) := by decide +kernel
theorem dX11_passYear_65 : decode cX11_passYear 65 = .ok (.iconst 3, 1) := by decide +kernel
theorem dX11_passYear_66 : decode cX11_passYear 66 = .ok (.aload_n 0, 1) := by decide +kernel
theorem dX11_passYear_67 : decode cX11_passYear 67 = .ok (.getfield 58, 3) := by decide +kernel
theorem dX11_passYear_70 : decode cX11_passYear 70 = .ok (.bipush 18, 2) := by decide +kernel
theorem dX11_passYear_72 : decode cX11_passYear 72 = .ok (.iaload, 1) := by decide +kernel
theorem dX11_passYear_73 : decode cX11_passYear 73 = .ok (.imul, 1) := by decide +kernel
theorem dX11_passYear_74 : decode cX11_passYear 74 = .ok (.iadd, 1) := by decide +kernel
theorem dX11_passYear_75 : decode cX11_passYear 75 = .ok (.istore_n 2, 1) := by decide +kernel
theorem dX11_passYear_76 : decode cX11_passYear 76 = .ok (.aload_n 0, 1) := by decide +kernel
theorem dX11_passYear_77 : decode cX11_passYear 77 = .ok (.getfield 58, 3) := by decide +kernel
theorem dX11_passYear_80 : decode cX11_passYear 80 = .ok (.iload_n 2, 1) := by decide +kernel
theorem dX11_passYear_81 : decode cX11_passYear 81 = .ok (.aload_n 0, 1) := by decide +kernel
theorem dX11_passYear_82 : decode cX11_passYear 82 = .ok (.invokevirtual 362, 3) := by decide +kernel
theorem dX11_passYear_85 : decode cX11_passYear 85 = .ok (.iastore, 1) := by decide +kernel
theorem dX11_passYear_86 : decode cX11_passYear 86 = .ok (.aload_n 0, 1) := by decide +kernel
theorem dX11_passYear_87 : decode cX11_passYear 87 = .ok (.getfield 58, 3) := by decide +kernel
theorem dX11_passYear_90 : decode cX11_passYear 90 = .ok (.iload_n 2, 1) := by decide +kernel
theorem dX11_passYear_91 : decode cX11_passYear 91 = .ok (.iconst 1, 1) := by decide +kernel
theorem dX11_passYear_92 : decode cX11_passYear 92 = .ok (.iadd, 1) := by decide +kernel
theorem dX11_passYear_93 : decode cX11_passYear 93 = .ok (.aload_n 0, 1) := by decide +kernel
theorem dX11_passYear_94 : decode cX11_passYear 94 = .ok (.invokevirtual 374, 3) := by decide +kernel
theorem dX11_passYear_97 : decode cX11_passYear 97 = .ok (.iastore, 1) := by decide +kernel
theorem dX11_passYear_98 : decode cX11_passYear 98 = .ok (.aload_n 0, 1) := by decide +kernel
theorem dX11_passYear_99 : decode cX11_passYear 99 = .ok (.getfield 58, 3) := by decide +kernel
theorem dX11_passYear_102 : decode cX11_passYear 102 = .ok (.iload_n 2, 1) := by decide +kernel
theorem dX11_passYear_103 : decode cX11_passYear 103 = .ok (.iconst 2, 1) := by decide +kernel
theorem dX11_passYear_104 : decode cX11_passYear 104 = .ok (.iadd, 1) := by decide +kernel
theorem dX11_passYear_105 : decode cX11_passYear 105 = .ok (.iload_n 1, 1) := by decide +kernel
theorem dX11_passYear_106 : decode cX11_passYear 106 = .ok (.iastore, 1) := by decide +kernel
theorem dX11_passYear_107 : decode cX11_passYear 107 = .ok (.aload_n 0, 1) := by decide +kernel
theorem dX11_passYear_108 : decode cX11_passYear 108 = .ok (.getfield 58, 3) := by decide +kernel
theorem dX11_passYear_111 : decode cX11_passYear 111 = .ok (.bipush 18, 2) := by decide +kernel
theorem dX11_passYear_113 : decode cX11_passYear 113 = .ok (.dup2, 1) := by decide +kernel
theorem dX11_passYear_114 : decode cX11_passYear 114 = .ok (.iaload, 1) := by decide +kernel
theorem dX11_passYear_115 : decode cX11_passYear 115 = .ok (.iconst 1, 1) := by decide +kernel
theorem dX11_passYear_116 : decode cX11_passYear 116 = .ok (.iadd, 1) := by decide +kernel
theorem dX11_passYear_117 : decode cX11_passYear 117 = .ok (.iastore, 1) := by decide +kernel
theorem dX11_passYear_118 : decode cX11_passYear 118 = .ok (.return_, 1) := by decide +kernel
theorem dX11_areYears_0 : decode cX11_areYears 0 = .ok (.iload_n 1, 1) := by decide +kernel
theorem dX11_areYears_1 : decode cX11_areYears 1 = .ok (.iconst 1, 1) := by decide +kernel
theorem dX11_areYears_2 : decode cX11_areYears 2 = .ok (.bipush 60, 2) := by decide +kernel
theorem dX11_areYears_4 : decode cX11_areYears 4 = .ok (.invokestatic 217, 3) := by decide +kernel
theorem dX11_areYears_7 : decode cX11_areYears 7 = .ok (.ifCond .eq 22, 3) := by decide +kernel
theorem dX11_areYears_10 : decode cX11_areYears 10 = .ok (.aload_n 0, 1) := by decide +kernel
theorem dX11_areYears_11 : decode cX11_areYears 11 = .ok (.getfield 58, 3) := by decide +kernel
theorem dX11_areYears_14 : decode cX11_areYears 14 = .ok (.bipush 17, 2) := by decide +kernel
theorem dX11_areYears_16 : decode cX11_areYears 16 = .ok (.iaload, 1) := by decide +kernel
theorem dX11_areYears_17 : decode cX11_areYears 17 = .ok (.iload_n 1, 1) := by decide +kernel
theorem dX11_areYears_18 : decode cX11_areYears 18 = .ok (.iadd, 1) := by decide +kernel
theorem dX11_areYears_19 : decode cX11_areYears 19 = .ok (.sipush 999, 3) := by decide +kernel
theorem dX11_areYears_22 : decode cX11_areYears 22 = .ok (.if_icmp .gt 7, 3) := by decide +kernel
theorem dX11_areYears_25 : decode cX11_areYears 25 = .ok (.iconst 1, 1) := by decide +kernel
theorem dX11_areYears_26 : decode cX11_areYears 26 = .ok (.goto 4, 3) := by decide +kernel
theorem dX11_areYears_29 : decode cX11_areYears 29 = .ok (.iconst 0, 1) := by decide +kernel
theorem dX11_areYears_30 : decode cX11_areYears 30 = .ok (.ireturn, 1) := by decide +kernel
theorem dX11_years_0 : decode cX11_years 0 = .ok (.aload_n 0, 1) := by decide +kernel
theorem dX11_years_1 : decode cX11_years 1 = .ok (.aload_n 0, 1) := by decide +kernel
theorem dX11_years_2 : decode cX11_years 2 = .ok (.getfield 267, 3) := by decide +kernel
theorem dX11_years_5 : decode cX11_years 5 = .ok (.ifCond .ne 7, 3) := by decide +kernel
theorem dX11_years_8 : decode cX11_years 8 = .ok (.iconst 0, 1) := by decide +kernel
theorem dX11_years_9 : decode cX11_years 9 = .ok (.goto 30, 3) := by decide +kernel
theorem dX11_years_12 : decode cX11_years 12 = .ok (.iload_n 1, 1) := by decide +kernel
theorem dX11_years_13 : decode cX11_years 13 = .ok (.iconst 1, 1) := by decide +kernel
theorem dX11_years_14 : decode cX11_years 14 = .ok (.bipush 60, 2) := by decide +kernel
theorem dX11_years_16 : decode cX11_years 16 = .ok (.invokestatic 217, 3) := by decide +kernel
theorem dX11_years_19 : decode cX11_years 19 = .ok (.ifCond .ne 7, 3) := by decide +kernel
theorem dX11_years_22 : decode cX11_years 22 = .ok (.iconst 1, 1) := by decide +kernel
theorem dX11_years_23 : decode cX11_years 23 = .ok (.goto 16, 3) := by decide +kernel
theorem dX11_years_26 : decode cX11_years 26 = .ok (.aload_n 0, 1) := by decide +kernel
theorem dX11_years_27 : decode cX11_years 27 = .ok (.iload_n 1, 1) := by decide +kernel
theorem dX11_years_28 : decode cX11_years 28 = .ok (.invokevirtual 377, 3) := by decide +kernel
theorem dX11_years_31 : decode cX11_years 31 = .ok (.ifCond .ne 7, 3) := by decide +kernel
theorem dX11_years_34 : decode cX11_years 34 = .ok (.iconst 4, 1) := by decide +kernel
theorem dX11_years_35 : decode cX11_years 35 = .ok (.goto 4, 3) := by decide +kernel
theorem dX11_years_38 : decode cX11_years 38 = .ok (.iconst (-1), 1) := by decide +kernel
theorem dX11_years_39 : decode cX11_years 39 = .ok (.invokevirtual 356, 3) := by decide +kernel
theorem dX11_years_42 : decode cX11_years 42 = .ok (.ifCond .eq 5, 3) := by decide +kernel
theorem dX11_years_45 : decode cX11_years 45 = .ok (.iconst (-1), 1) := by decide +kernel
theorem dX11_years_46 : decode cX11_years 46 = .ok (.ireturn, 1) := by decide +kernel
theorem dX11_years_47 : decode cX11_years 47 = .ok (.iconst 0, 1) := by decide +kernel
theorem dX11_years_48 : decode cX11_years 48 = .ok (.istore_n 2, 1) := by decide +kernel
theorem dX11_years_49 : decode cX11_years 49 = .ok (.iload_n 2, 1) := by decide +kernel
theorem dX11_years_50 : decode cX11_years 50 = .ok (.iload_n 1, 1) := by decide +kernel
theorem dX11_years_51 : decode cX11_years 51 = .ok (.if_icmp .ge 17, 3) := by decide +kernel
theorem dX11_years_54 : decode cX11_years 54 = .ok (.aload_n 0, 1) := by decide +kernel
theorem dX11_years_55 : decode cX11_years 55 = .ok (.invokevirtual 359, 3) := by decide +kernel
theorem dX11_years_58 : decode cX11_years 58 = .ok (.aload_n 0, 1) := by decide +kernel
theorem dX11_years_59 : decode cX11_years 59 = .ok (.invokevirtual 380, 3) := by decide +kernel
theorem dX11_years_62 : decode cX11_years 62 = .ok (.iinc 2 1, 3) := by decide +kernel
theorem dX11_years_65 : decode cX11_years 65 = .ok (.goto (-16), 3) := by decide +kernel
theorem dX11_years_68 : decode cX11_years 68 = .ok (.aload_n 0, 1) := by decide +kernel
theorem dX11_years_69 : decode cX11_years 69 = .ok (.getfield 58, 3) := by decide +kernel
theorem dX11_years_72 : decode cX11_years 72 = .ok (.bipush 17, 2) := by decide +kernel
theorem dX11_years_74 : decode cX11_years 74 = .ok (.iaload, 1) := by decide +kernel
theorem dX11_years_75 : decode cX11_years 75 = .ok (.ireturn, 1) := by decide +kernel
theorem dX11_heat_0 : decode cX11_heat 0 = .ok (.iload_n 1, 1) := by decide +kernel
theorem dX11_heat_1 : decode cX11_heat 1 = .ok (.iconst 0, 1) := by decide +kernel
theorem dX11_heat_2 : decode cX11_heat 2 = .ok (.bipush 99, 2) := by decide +kernel
theorem dX11_heat_4 : decode cX11_heat 4 = .ok (.invokestatic 217, 3) := by decide +kernel
theorem dX11_heat_7 : decode cX11_heat 7 = .ok (.ifCond .eq 11, 3) := by decide +kernel
theorem dX11_heat_10 : decode cX11_heat 10 = .ok (.iload_n 1, 1) := by decide +kernel
theorem dX11_heat_11 : decode cX11_heat 11 = .ok (.aload_n 0, 1) := by decide +kernel
theorem dX11_heat_12 : decode cX11_heat 12 = .ok (.getfield 383, 3) := by decide +kernel
theorem dX11_heat_15 : decode cX11_heat 15 = .ok (.if_icmp .ne 5, 3) := by decide +kernel
theorem dX11_heat_18 : decode cX11_heat 18 = .ok (.iconst 0, 1) := by decide +kernel
theorem dX11_heat_19 : decode cX11_heat 19 = .ok (.ireturn, 1) := by decide +kernel
theorem dX11_heat_20 : decode cX11_heat 20 = .ok (.aload_n 0, 1) := by decide +kernel
theorem dX11_heat_21 : decode cX11_heat 21 = .ok (.iload_n 1, 1) := by decide +kernel
theorem dX11_heat_22 : decode cX11_heat 22 = .ok (.putfield 383, 3) := by decide +kernel
theorem dX11_heat_25 : decode cX11_heat 25 = .ok (.iconst 1, 1) := by decide +kernel
theorem dX11_heat_26 : decode cX11_heat 26 = .ok (.ireturn, 1) := by decide +kernel
theorem dX11_draw_0 : decode cX11_draw 0 = .ok (.aload_n 0, 1) := by decide +kernel
theorem dX11_draw_1 : decode cX11_draw 1 = .ok (.aload_n 0, 1) := by decide +kernel
theorem dX11_draw_2 : decode cX11_draw 2 = .ok (.getfield 386, 3) := by decide +kernel
theorem dX11_draw_5 : decode cX11_draw 5 = .ok (.ldc2_w 390, 3) := by decide +kernel
theorem dX11_draw_8 : decode cX11_draw 8 = .ok (.lmul, 1) := by decide +kernel
theorem dX11_draw_9 : decode cX11_draw 9 = .ok (.ldc2_w 392, 3) := by decide +kernel
theorem dX11_draw_12 : decode cX11_draw 12 = .ok (.ladd, 1) := by decide +kernel
theorem dX11_draw_13 : decode cX11_draw 13 = .ok (.putfield 386, 3) := by decide +kernel
theorem dX11_draw_16 : decode cX11_draw 16 = .ok (.aload_n 0, 1) := by decide +kernel
theorem dX11_draw_17 : decode cX11_draw 17 = .ok (.getfield 386, 3) := by decide +kernel
theorem dX11_draw_20 : decode cX11_draw 20 = .ok (.bipush 33, 2) := by decide +kernel
theorem dX11_draw_22 : decode cX11_draw 22 = .ok (.lushr, 1) := by decide +kernel
theorem dX11_draw_23 : decode cX11_draw 23 = .ok (.iload_n 1, 1) := by decide +kernel
theorem dX11_draw_24 : decode cX11_draw 24 = .ok (.i2l, 1) := by decide +kernel
theorem dX11_draw_25 : decode cX11_draw 25 = .ok (.lrem, 1) := by decide +kernel
theorem dX11_draw_26 : decode cX11_draw 26 = .ok (.l2i, 1) := by decide +kernel
theorem dX11_draw_27 : decode cX11_draw 27 = .ok (.ireturn, 1) := by decide +kernel
theorem dX11_drawYear_0 : decode cX11_drawYear 0 = .ok (.aload_n 0, 1) := by decide +kernel
theorem dX11_drawYear_1 : decode cX11_drawYear 1 = .ok (.bipush 100, 2) := by decide +kernel
theorem dX11_drawYear_3 : decode cX11_drawYear 3 = .ok (.invokevirtual 394, 3) := by decide +kernel
theorem dX11_drawYear_6 : decode cX11_drawYear 6 = .ok (.aload_n 0, 1) := by decide +kernel
theorem dX11_drawYear_7 : decode cX11_drawYear 7 = .ok (.getfield 383, 3) := by decide +kernel
theorem dX11_drawYear_10 : decode cX11_drawYear 10 = .ok (.if_icmp .ge 21, 3) := by decide +kernel
theorem dX11_drawYear_13 : decode cX11_drawYear 13 = .ok (.aload_n 0, 1) := by decide +kernel
theorem dX11_drawYear_14 : decode cX11_drawYear 14 = .ok (.getfield 58, 3) := by decide +kernel
theorem dX11_drawYear_17 : decode cX11_drawYear 17 = .ok (.bipush 10, 2) := by decide +kernel
theorem dX11_drawYear_19 : decode cX11_drawYear 19 = .ok (.iconst 1, 1) := by decide +kernel
theorem dX11_drawYear_20 : decode cX11_drawYear 20 = .ok (.aload_n 0, 1) := by decide +kernel
theorem dX11_drawYear_21 : decode cX11_drawYear 21 = .ok (.getfield 261, 3) := by decide +kernel
theorem dX11_drawYear_24 : decode cX11_drawYear 24 = .ok (.ishl, 1) := by decide +kernel
theorem dX11_drawYear_25 : decode cX11_drawYear 25 = .ok (.iconst 1, 1) := by decide +kernel
theorem dX11_drawYear_26 : decode cX11_drawYear 26 = .ok (.isub, 1) := by decide +kernel
theorem dX11_drawYear_27 : decode cX11_drawYear 27 = .ok (.iastore, 1) := by decide +kernel
theorem dX11_drawYear_28 : decode cX11_drawYear 28 = .ok (.goto 44, 3) := by decide +kernel
theorem dX11_drawYear_31 : decode cX11_drawYear 31 = .ok (.aload_n 0, 1) := by decide +kernel
theorem dX11_drawYear_32 : decode cX11_drawYear 32 = .ok (.getfield 261, 3) := by decide +kernel
theorem dX11_drawYear_35 : decode cX11_drawYear 35 = .ok (.ifCond .le 37, 3) := by decide +kernel
theorem dX11_drawYear_38 : decode cX11_drawYear 38 = .ok (.aload_n 0, 1) := by decide +kernel
theorem dX11_drawYear_39 : decode cX11_drawYear 39 = .ok (.aload_n 0, 1) := by decide +kernel
theorem dX11_drawYear_40 : decode cX11_drawYear 40 = .ok (.getfield 261, 3) := by decide +kernel
theorem dX11_drawYear_43 : decode cX11_drawYear 43 = .ok (.invokevirtual 394, 3) := by decide +kernel
theorem dX11_drawYear_46 : decode cX11_drawYear 46 = .ok (.istore_n 1, 1) := by decide +kernel
theorem dX11_drawYear_47 : decode cX11_drawYear 47 = .ok (.aload_n 0, 1) := by decide +kernel
theorem dX11_drawYear_48 : decode cX11_drawYear 48 = .ok (.getfield 58, 3) := by decide +kernel
theorem dX11_drawYear_51 : decode cX11_drawYear 51 = .ok (.bipush 10, 2) := by decide +kernel
theorem dX11_drawYear_53 : decode cX11_drawYear 53 = .ok (.dup2, 1) := by decide +kernel
theorem dX11_drawYear_54 : decode cX11_drawYear 54 = .ok (.iaload, 1) := by decide +kernel
theorem dX11_drawYear_55 : decode cX11_drawYear 55 = .ok (.aload_n 0, 1) := by decide +kernel
theorem dX11_drawYear_56 : decode cX11_drawYear 56 = .ok (.iload_n 1, 1) := by decide +kernel
theorem dX11_drawYear_57 : decode cX11_drawYear 57 = .ok (.invokevirtual 298, 3) := by decide +kernel
theorem dX11_drawYear_60 : decode cX11_drawYear 60 = .ok (.ifCond .eq 7, 3) := by decide +kernel
theorem dX11_drawYear_63 : decode cX11_drawYear 63 = .ok (.iconst 0, 1) := by decide +kernel
theorem dX11_drawYear_64 : decode cX11_drawYear 64 = .ok (.goto 6, 3) := by decide +kernel
theorem dX11_drawYear_67 : decode cX11_drawYear 67 = .ok (.iconst 1, 1) := by decide +kernel
theorem dX11_drawYear_68 : decode cX11_drawYear 68 = .ok (.iload_n 1, 1) := by decide +kernel
theorem dX11_drawYear_69 : decode cX11_drawYear 69 = .ok (.ishl, 1) := by decide +kernel
theorem dX11_drawYear_70 : decode cX11_drawYear 70 = .ok (.ixor, 1) := by decide +kernel
theorem dX11_drawYear_71 : decode cX11_drawYear 71 = .ok (.iastore, 1) := by decide +kernel
theorem dX11_drawYear_72 : decode cX11_drawYear 72 = .ok (.aload_n 0, 1) := by decide +kernel
theorem dX11_drawYear_73 : decode cX11_drawYear 73 = .ok (.aload_n 0, 1) := by decide +kernel
theorem dX11_drawYear_74 : decode cX11_drawYear 74 = .ok (.getfield 264, 3) := by decide +kernel
theorem dX11_drawYear_77 : decode cX11_drawYear 77 = .ok (.invokevirtual 394, 3) := by decide +kernel
theorem dX11_drawYear_80 : decode cX11_drawYear 80 = .ok (.istore_n 1, 1) := by decide +kernel
theorem dX11_drawYear_81 : decode cX11_drawYear 81 = .ok (.aload_n 0, 1) := by decide +kernel
theorem dX11_drawYear_82 : decode cX11_drawYear 82 = .ok (.aload_n 0, 1) := by decide +kernel
theorem dX11_drawYear_83 : decode cX11_drawYear 83 = .ok (.getfield 267, 3) := by decide +kernel
theorem dX11_drawYear_86 : decode cX11_drawYear 86 = .ok (.invokevirtual 394, 3) := by decide +kernel
theorem dX11_drawYear_89 : decode cX11_drawYear 89 = .ok (.istore_n 2, 1) := by decide +kernel
theorem dX11_drawYear_90 : decode cX11_drawYear 90 = .ok (.aload_n 0, 1) := by decide +kernel
theorem dX11_drawYear_91 : decode cX11_drawYear 91 = .ok (.aload_n 0, 1) := by decide +kernel
theorem dX11_drawYear_92 : decode cX11_drawYear 92 = .ok (.getfield 58, 3) := by decide +kernel
theorem dX11_drawYear_95 : decode cX11_drawYear 95 = .ok (.bipush 11, 2) := by decide +kernel
theorem dX11_drawYear_97 : decode cX11_drawYear 97 = .ok (.iload_n 1, 1) := by decide +kernel
theorem dX11_drawYear_98 : decode cX11_drawYear 98 = .ok (.iadd, 1) := by decide +kernel
theorem dX11_drawYear_99 : decode cX11_drawYear 99 = .ok (.iaload, 1) := by decide +kernel
theorem dX11_drawYear_100 : decode cX11_drawYear 100 = .ok (.invokevirtual 328, 3) := by decide +kernel
theorem dX11_drawYear_103 : decode cX11_drawYear 103 = .ok (.iload_n 2, 1) := by decide +kernel
theorem dX11_drawYear_104 : decode cX11_drawYear 104 = .ok (.invokestatic 228, 3) := by decide +kernel
theorem dX11_drawYear_107 : decode cX11_drawYear 107 = .ok (.ifCond .eq 13, 3) := by decide +kernel
theorem dX11_drawYear_110 : decode cX11_drawYear 110 = .ok (.aload_n 0, 1) := by decide +kernel
theorem dX11_drawYear_111 : decode cX11_drawYear 111 = .ok (.getfield 58, 3) := by decide +kernel
theorem dX11_drawYear_114 : decode cX11_drawYear 114 = .ok (.bipush 11, 2) := by decide +kernel
theorem dX11_drawYear_116 : decode cX11_drawYear 116 = .ok (.iload_n 1, 1) := by decide +kernel
theorem dX11_drawYear_117 : decode cX11_drawYear 117 = .ok (.iadd, 1) := by decide +kernel
theorem dX11_drawYear_118 : decode cX11_drawYear 118 = .ok (.iload_n 2, 1) := by decide +kernel
theorem dX11_drawYear_119 : decode cX11_drawYear 119 = .ok (.iastore, 1) := by decide +kernel
theorem dX11_drawYear_120 : decode cX11_drawYear 120 = .ok (.return_, 1) := by decide +kernel
theorem dX11_centuries_0 : decode cX11_centuries 0 = .ok (.aload_n 0, 1) := by decide +kernel
theorem dX11_centuries_1 : decode cX11_centuries 1 = .ok (.getfield 267, 3) := by decide +kernel
theorem dX11_centuries_4 : decode cX11_centuries 4 = .ok (.ifCond .eq 11, 3) := by decide +kernel
theorem dX11_centuries_7 : decode cX11_centuries 7 = .ok (.aload_n 0, 1) := by decide +kernel
theorem dX11_centuries_8 : decode cX11_centuries 8 = .ok (.iload_n 1, 1) := by decide +kernel
theorem dX11_centuries_9 : decode cX11_centuries 9 = .ok (.invokevirtual 377, 3) := by decide +kernel
theorem dX11_centuries_12 : decode cX11_centuries 12 = .ok (.ifCond .ne 5, 3) := by decide +kernel
theorem dX11_centuries_15 : decode cX11_centuries 15 = .ok (.iconst (-1), 1) := by decide +kernel
theorem dX11_centuries_16 : decode cX11_centuries 16 = .ok (.ireturn, 1) := by decide +kernel
theorem dX11_centuries_17 : decode cX11_centuries 17 = .ok (.aload_n 0, 1) := by decide +kernel
theorem dX11_centuries_18 : decode cX11_centuries 18 = .ok (.lload_n 2, 1) := by decide +kernel
theorem dX11_centuries_19 : decode cX11_centuries 19 = .ok (.putfield 386, 3) := by decide +kernel
theorem dX11_centuries_22 : decode cX11_centuries 22 = .ok (.iconst 0, 1) := by decide +kernel
theorem dX11_centuries_23 : decode cX11_centuries 23 = .ok (.istore 4, 2) := by decide +kernel
theorem dX11_centuries_25 : decode cX11_centuries 25 = .ok (.iload 4, 2) := by decide +kernel
theorem dX11_centuries_27 : decode cX11_centuries 27 = .ok (.iload_n 1, 1) := by decide +kernel
theorem dX11_centuries_28 : decode cX11_centuries 28 = .ok (.if_icmp .ge 21, 3) := by decide +kernel
theorem dX11_centuries_31 : decode cX11_centuries 31 = .ok (.aload_n 0, 1) := by decide +kernel
theorem dX11_centuries_32 : decode cX11_centuries 32 = .ok (.invokevirtual 359, 3) := by decide +kernel
theorem dX11_centuries_35 : decode cX11_centuries 35 = .ok (.aload_n 0, 1) := by decide +kernel
theorem dX11_centuries_36 : decode cX11_centuries 36 = .ok (.invokevirtual 397, 3) := by decide +kernel
theorem dX11_centuries_39 : decode cX11_centuries 39 = .ok (.aload_n 0, 1) := by decide +kernel
theorem dX11_centuries_40 : decode cX11_centuries 40 = .ok (.invokevirtual 380, 3) := by decide +kernel
theorem dX11_centuries_43 : decode cX11_centuries 43 = .ok (.iinc 4 1, 3) := by decide +kernel
theorem dX11_centuries_46 : decode cX11_centuries 46 = .ok (.goto (-21), 3) := by decide +kernel
theorem dX11_centuries_49 : decode cX11_centuries 49 = .ok (.aload_n 0, 1) := by decide +kernel
theorem dX11_centuries_50 : decode cX11_centuries 50 = .ok (.getfield 58, 3) := by decide +kernel
theorem dX11_centuries_53 : decode cX11_centuries 53 = .ok (.bipush 17, 2) := by decide +kernel
theorem dX11_centuries_55 : decode cX11_centuries 55 = .ok (.iaload, 1) := by decide +kernel
theorem dX11_centuries_56 : decode cX11_centuries 56 = .ok (.ireturn, 1) := by decide +kernel
theorem dX11_status_0 : decode cX11_status 0 = .ok (.iload_n 1, 1) := by decide +kernel
theorem dX11_status_1 : decode cX11_status 1 = .ok (.iconst 0, 1) := by decide +kernel
theorem dX11_status_2 : decode cX11_status 2 = .ok (.iconst 4, 1) := by decide +kernel
theorem dX11_status_3 : decode cX11_status 3 = .ok (.invokestatic 217, 3) := by decide +kernel
theorem dX11_status_6 : decode cX11_status 6 = .ok (.ifCond .eq 12, 3) := by decide +kernel
theorem dX11_status_9 : decode cX11_status 9 = .ok (.aload_n 0, 1) := by decide +kernel
theorem dX11_status_10 : decode cX11_status 10 = .ok (.getfield 61, 3) := by decide +kernel
theorem dX11_status_13 : decode cX11_status 13 = .ok (.iload_n 1, 1) := by decide +kernel
theorem dX11_status_14 : decode cX11_status 14 = .ok (.iaload, 1) := by decide +kernel
theorem dX11_status_15 : decode cX11_status 15 = .ok (.goto 4, 3) := by decide +kernel
theorem dX11_status_18 : decode cX11_status 18 = .ok (.iconst (-1), 1) := by decide +kernel
theorem dX11_status_19 : decode cX11_status 19 = .ok (.ireturn, 1) := by decide +kernel
theorem dX11_undo_0 : decode cX11_undo 0 = .ok (.aload_n 0, 1) := by decide +kernel
theorem dX11_undo_1 : decode cX11_undo 1 = .ok (.getfield 282, 3) := by decide +kernel
theorem dX11_undo_4 : decode cX11_undo 4 = .ok (.ifCond .ne 5, 3) := by decide +kernel
theorem dX11_undo_7 : decode cX11_undo 7 = .ok (.iconst (-1), 1) := by decide +kernel
theorem dX11_undo_8 : decode cX11_undo 8 = .ok (.ireturn, 1) := by decide +kernel
theorem dX11_undo_9 : decode cX11_undo 9 = .ok (.aload_n 0, 1) := by decide +kernel
theorem dX11_undo_10 : decode cX11_undo 10 = .ok (.dup, 1) := by decide +kernel
theorem dX11_undo_11 : decode cX11_undo 11 = .ok (.getfield 282, 3) := by decide +kernel
theorem dX11_undo_14 : decode cX11_undo 14 = .ok (.iconst 1, 1) := by decide +kernel
theorem dX11_undo_15 : decode cX11_undo 15 = .ok (.isub, 1) := by decide +kernel
theorem dX11_undo_16 : decode cX11_undo 16 = .ok (.putfield 282, 3) := by decide +kernel
theorem dX11_undo_19 : decode cX11_undo 19 = .ok (.iconst 0, 1) := by decide +kernel
theorem dX11_undo_20 : decode cX11_undo 20 = .ok (.istore_n 1, 1) := by decide +kernel
theorem dX11_undo_21 : decode cX11_undo 21 = .ok (.iload_n 1, 1) := by decide +kernel
theorem dX11_undo_22 : decode cX11_undo 22 = .ok (.sipush 199, 3) := by decide +kernel
theorem dX11_undo_25 : decode cX11_undo 25 = .ok (.if_icmp .ge 30, 3) := by decide +kernel
theorem dX11_undo_28 : decode cX11_undo 28 = .ok (.aload_n 0, 1) := by decide +kernel
theorem dX11_undo_29 : decode cX11_undo 29 = .ok (.getfield 58, 3) := by decide +kernel
theorem dX11_undo_32 : decode cX11_undo 32 = .ok (.iload_n 1, 1) := by decide +kernel
theorem dX11_undo_33 : decode cX11_undo 33 = .ok (.aload_n 0, 1) := by decide +kernel
theorem dX11_undo_34 : decode cX11_undo 34 = .ok (.getfield 80, 3) := by decide +kernel
theorem dX11_undo_37 : decode cX11_undo 37 = .ok (.sipush 199, 3) := by decide +kernel
theorem dX11_undo_40 : decode cX11_undo 40 = .ok (.aload_n 0, 1) := by decide +kernel
theorem dX11_undo_41 : decode cX11_undo 41 = .ok (.getfield 282, 3) := by decide +kernel
theorem dX11_undo_44 : decode cX11_undo 44 = .ok (.imul, 1) := by decide +kernel
theorem dX11_undo_45 : decode cX11_undo 45 = .ok (.iload_n 1, 1) := by decide +kernel
theorem dX11_undo_46 : decode cX11_undo 46 = .ok (.iadd, 1) := by decide +kernel
theorem dX11_undo_47 : decode cX11_undo 47 = .ok (.iaload, 1) := by decide +kernel
theorem dX11_undo_48 : decode cX11_undo 48 = .ok (.iastore, 1) := by decide +kernel
theorem dX11_undo_49 : decode cX11_undo 49 = .ok (.iinc 1 1, 3) := by decide +kernel
theorem dX11_undo_52 : decode cX11_undo 52 = .ok (.goto (-31), 3) := by decide +kernel
theorem dX11_undo_55 : decode cX11_undo 55 = .ok (.aload_n 0, 1) := by decide +kernel
theorem dX11_undo_56 : decode cX11_undo 56 = .ok (.getfield 282, 3) := by decide +kernel
theorem dX11_undo_59 : decode cX11_undo 59 = .ok (.ireturn, 1) := by decide +kernel
theorem dX11_log_0 : decode cX11_log 0 = .ok (.iload_n 1, 1) := by decide +kernel
theorem dX11_log_1 : decode cX11_log 1 = .ok (.iconst 0, 1) := by decide +kernel
theorem dX11_log_2 : decode cX11_log 2 = .ok (.aload_n 0, 1) := by decide +kernel
theorem dX11_log_3 : decode cX11_log 3 = .ok (.getfield 58, 3) := by decide +kernel
theorem dX11_log_6 : decode cX11_log 6 = .ok (.bipush 18, 2) := by decide +kernel
theorem dX11_log_8 : decode cX11_log 8 = .ok (.iaload, 1) := by decide +kernel
theorem dX11_log_9 : decode cX11_log 9 = .ok (.iconst 1, 1) := by decide +kernel
theorem dX11_log_10 : decode cX11_log 10 = .ok (.isub, 1) := by decide +kernel
theorem dX11_log_11 : decode cX11_log 11 = .ok (.invokestatic 217, 3) := by decide +kernel
theorem dX11_log_14 : decode cX11_log 14 = .ok (.ifCond .eq 38, 3) := by decide +kernel
theorem dX11_log_17 : decode cX11_log 17 = .ok (.iload_n 2, 1) := by decide +kernel
theorem dX11_log_18 : decode cX11_log 18 = .ok (.iconst 0, 1) := by decide +kernel
theorem dX11_log_19 : decode cX11_log 19 = .ok (.iconst 2, 1) := by decide +kernel
theorem dX11_log_20 : decode cX11_log 20 = .ok (.invokestatic 217, 3) := by decide +kernel
theorem dX11_log_23 : decode cX11_log 23 = .ok (.ifCond .eq 29, 3) := by decide +kernel
theorem dX11_log_26 : decode cX11_log 26 = .ok (.aload_n 0, 1) := by decide +kernel
theorem dX11_log_27 : decode cX11_log 27 = .ok (.getfield 58, 3) := by decide +kernel
theorem dX11_log_30 : decode cX11_log 30 = .ok (.bipush 19, 2) := by decide +kernel
theorem dX11_log_32 : decode cX11_log 32 = .ok (.iconst 3, 1) := by decide +kernel
theorem dX11_log_33 : decode cX11_log 33 = .ok (.aload_n 0, 1) := by decide +kernel
theorem dX11_log_34 : decode cX11_log 34 = .ok (.getfield 58, 3) := by decide +kernel
theorem dX11_log_37 : decode cX11_log 37 = .ok (.bipush 18, 2) := by decide +kernel
theorem dX11_log_39 : decode cX11_log 39 = .ok (.iaload, 1) := by decide +kernel
theorem dX11_log_40 : decode cX11_log 40 = .ok (.iconst 1, 1) := by decide +kernel
theorem dX11_log_41 : decode cX11_log 41 = .ok (.isub, 1) := by decide +kernel
theorem dX11_log_42 : decode cX11_log 42 = .ok (.iload_n 1, 1) := by decide +kernel
theorem dX11_log_43 : decode cX11_log 43 = .ok (.isub, 1) := by decide +kernel
theorem dX11_log_44 : decode cX11_log 44 = .ok (.imul, 1) := by decide +kernel
theorem dX11_log_45 : decode cX11_log 45 = .ok (.iadd, 1) := by decide +kernel
theorem dX11_log_46 : decode cX11_log 46 = .ok (.iload_n 2, 1) := by decide +kernel
theorem dX11_log_47 : decode cX11_log 47 = .ok (.iadd, 1) := by decide +kernel
theorem dX11_log_48 : decode cX11_log 48 = .ok (.iaload, 1) := by decide +kernel
theorem dX11_log_49 : decode cX11_log 49 = .ok (.goto 4, 3) := by decide +kernel
theorem dX11_log_52 : decode cX11_log 52 = .ok (.iconst (-1), 1) := by decide +kernel
theorem dX11_log_53 : decode cX11_log 53 = .ok (.ireturn, 1) := by decide +kernel
theorem dX11_isFewer_0 : decode cX11_isFewer 0 = .ok (.iload_n 1, 1) := by decide +kernel
theorem dX11_isFewer_1 : decode cX11_isFewer 1 = .ok (.iconst (-1), 1) := by decide +kernel
theorem dX11_isFewer_2 : decode cX11_isFewer 2 = .ok (.if_icmp .eq 14, 3) := by decide +kernel
theorem dX11_isFewer_5 : decode cX11_isFewer 5 = .ok (.iload_n 0, 1) := by decide +kernel
theorem dX11_isFewer_6 : decode cX11_isFewer 6 = .ok (.invokestatic 400, 3) := by decide +kernel
theorem dX11_isFewer_9 : decode cX11_isFewer 9 = .ok (.iload_n 1, 1) := by decide +kernel
theorem dX11_isFewer_10 : decode cX11_isFewer 10 = .ok (.invokestatic 400, 3) := by decide +kernel
theorem dX11_isFewer_13 : decode cX11_isFewer 13 = .ok (.if_icmp .ge 7, 3) := by decide +kernel
theorem dX11_isFewer_16 : decode cX11_isFewer 16 = .ok (.iconst 1, 1) := by decide +kernel
theorem dX11_isFewer_17 : decode cX11_isFewer 17 = .ok (.goto 4, 3) := by decide +kernel
theorem dX11_isFewer_20 : decode cX11_isFewer 20 = .ok (.iconst 0, 1) := by decide +kernel
theorem dX11_isFewer_21 : decode cX11_isFewer 21 = .ok (.ireturn, 1) := by decide +kernel
theorem dX11_join_0 : decode cX11_join 0 = .ok (.iconst 1, 1) := by decide +kernel
theorem dX11_join_1 : decode cX11_join 1 = .ok (.aload_n 0, 1) := by decide +kernel
theorem dX11_join_2 : decode cX11_join 2 = .ok (.getfield 267, 3) := by decide +kernel
theorem dX11_join_5 : decode cX11_join 5 = .ok (.ishl, 1) := by decide +kernel
theorem dX11_join_6 : decode cX11_join 6 = .ok (.iconst 1, 1) := by decide +kernel
theorem dX11_join_7 : decode cX11_join 7 = .ok (.isub, 1) := by decide +kernel
theorem dX11_join_8 : decode cX11_join 8 = .ok (.istore_n 3, 1) := by decide +kernel
theorem dX11_join_9 : decode cX11_join 9 = .ok (.aload_n 0, 1) := by decide +kernel
theorem dX11_join_10 : decode cX11_join 10 = .ok (.getfield 267, 3) := by decide +kernel
theorem dX11_join_13 : decode cX11_join 13 = .ok (.ifCond .eq 21, 3) := by decide +kernel
theorem dX11_join_16 : decode cX11_join 16 = .ok (.iload_n 1, 1) := by decide +kernel
theorem dX11_join_17 : decode cX11_join 17 = .ok (.iconst 1, 1) := by decide +kernel
theorem dX11_join_18 : decode cX11_join 18 = .ok (.iload_n 3, 1) := by decide +kernel
theorem dX11_join_19 : decode cX11_join 19 = .ok (.invokestatic 217, 3) := by decide +kernel
theorem dX11_join_22 : decode cX11_join 22 = .ok (.ifCond .eq 12, 3) := by decide +kernel
theorem dX11_join_25 : decode cX11_join 25 = .ok (.iload_n 2, 1) := by decide +kernel
theorem dX11_join_26 : decode cX11_join 26 = .ok (.iconst 0, 1) := by decide +kernel
theorem dX11_join_27 : decode cX11_join 27 = .ok (.iload_n 3, 1) := by decide +kernel
theorem dX11_join_28 : decode cX11_join 28 = .ok (.invokestatic 217, 3) := by decide +kernel
theorem dX11_join_31 : decode cX11_join 31 = .ok (.ifCond .ne 5, 3) := by decide +kernel
theorem dX11_join_34 : decode cX11_join 34 = .ok (.iconst (-1), 1) := by decide +kernel
theorem dX11_join_35 : decode cX11_join 35 = .ok (.ireturn, 1) := by decide +kernel
theorem dX11_join_36 : decode cX11_join 36 = .ok (.iconst (-1), 1) := by decide +kernel
theorem dX11_join_37 : decode cX11_join 37 = .ok (.istore 4, 2) := by decide +kernel
theorem dX11_join_39 : decode cX11_join 39 = .ok (.aload_n 0, 1) := by decide +kernel
theorem dX11_join_40 : decode cX11_join 40 = .ok (.invokevirtual 314, 3) := by decide +kernel
theorem dX11_join_43 : decode cX11_join 43 = .ok (.istore 5, 2) := by decide +kernel
theorem dX11_join_45 : decode cX11_join 45 = .ok (.iconst 0, 1) := by decide +kernel
theorem dX11_join_46 : decode cX11_join 46 = .ok (.istore 6, 2) := by decide +kernel
theorem dX11_join_48 : decode cX11_join 48 = .ok (.iload 6, 2) := by decide +kernel
theorem dX11_join_50 : decode cX11_join 50 = .ok (.iconst 1, 1) := by decide +kernel
theorem dX11_join_51 : decode cX11_join 51 = .ok (.aload_n 0, 1) := by decide +kernel
theorem dX11_join_52 : decode cX11_join 52 = .ok (.getfield 261, 3) := by decide +kernel
theorem dX11_join_55 : decode cX11_join 55 = .ok (.ishl, 1) := by decide +kernel
theorem dX11_join_56 : decode cX11_join 56 = .ok (.if_icmp .ge 70, 3) := by decide +kernel
theorem dX11_join_59 : decode cX11_join 59 = .ok (.iload 6, 2) := by decide +kernel
theorem dX11_join_61 : decode cX11_join 61 = .ok (.aload_n 0, 1) := by decide +kernel
theorem dX11_join_62 : decode cX11_join 62 = .ok (.invokevirtual 403, 3) := by decide +kernel
theorem dX11_join_65 : decode cX11_join 65 = .ok (.iand, 1) := by decide +kernel
theorem dX11_join_66 : decode cX11_join 66 = .ok (.ifCond .ne 54, 3) := by decide +kernel
theorem dX11_join_69 : decode cX11_join 69 = .ok (.iload 6, 2) := by decide +kernel
theorem dX11_join_71 : decode cX11_join 71 = .ok (.iload 4, 2) := by decide +kernel
theorem dX11_join_73 : decode cX11_join 73 = .ok (.invokestatic 406, 3) := by decide +kernel
theorem dX11_join_76 : decode cX11_join 76 = .ok (.ifCond .eq 44, 3) := by decide +kernel
theorem dX11_join_79 : decode cX11_join 79 = .ok (.aload_n 0, 1) := by decide +kernel
theorem dX11_join_80 : decode cX11_join 80 = .ok (.aload_n 0, 1) := by decide +kernel
theorem dX11_join_81 : decode cX11_join 81 = .ok (.iload_n 1, 1) := by decide +kernel
theorem dX11_join_82 : decode cX11_join 82 = .ok (.invokevirtual 325, 3) := by decide +kernel
theorem dX11_join_85 : decode cX11_join 85 = .ok (.iload 5, 2) := by decide +kernel
theorem dX11_join_87 : decode cX11_join 87 = .ok (.iload 6, 2) := by decide +kernel
theorem dX11_join_89 : decode cX11_join 89 = .ok (.ixor, 1) := by decide +kernel
theorem dX11_join_90 : decode cX11_join 90 = .ok (.invokevirtual 317, 3) := by decide +kernel
theorem dX11_join_93 : decode cX11_join 93 = .ok (.istore 7, 2) := by decide +kernel
theorem dX11_join_95 : decode cX11_join 95 = .ok (.iload_n 1, 1) := by decide +kernel
theorem dX11_join_96 : decode cX11_join 96 = .ok (.iload 7, 2) := by decide +kernel
theorem dX11_join_98 : decode cX11_join 98 = .ok (.iconst (-1), 1) := by decide +kernel
theorem dX11_join_99 : decode cX11_join 99 = .ok (.ixor, 1) := by decide +kernel
theorem dX11_join_100 : decode cX11_join 100 = .ok (.iand, 1) := by decide +kernel
theorem dX11_join_101 : decode cX11_join 101 = .ok (.ifCond .ne 15, 3) := by decide +kernel
theorem dX11_join_104 : decode cX11_join 104 = .ok (.iload_n 2, 1) := by decide +kernel
theorem dX11_join_105 : decode cX11_join 105 = .ok (.iload 7, 2) := by decide +kernel
theorem dX11_join_107 : decode cX11_join 107 = .ok (.iand, 1) := by decide +kernel
theorem dX11_join_108 : decode cX11_join 108 = .ok (.ifCond .ne 8, 3) := by decide +kernel
theorem dX11_join_111 : decode cX11_join 111 = .ok (.iload 6, 2) := by decide +kernel
theorem dX11_join_113 : decode cX11_join 113 = .ok (.goto 5, 3) := by decide +kernel
theorem dX11_join_116 : decode cX11_join 116 = .ok (.iload 4, 2) := by decide +kernel
theorem dX11_join_118 : decode cX11_join 118 = .ok (.istore 4, 2) := by decide +kernel
theorem dX11_join_120 : decode cX11_join 120 = .ok (.iinc 6 1, 3) := by decide +kernel
theorem dX11_join_123 : decode cX11_join 123 = .ok (.goto (-75), 3) := by decide +kernel
theorem dX11_join_126 : decode cX11_join 126 = .ok (.iload 4, 2) := by decide +kernel
theorem dX11_join_128 : decode cX11_join 128 = .ok (.ireturn, 1) := by decide +kernel
theorem dX11_drawnBack_0 : decode cX11_drawnBack 0 = .ok (.aload_n 0, 1) := by decide +kernel
theorem dX11_drawnBack_1 : decode cX11_drawnBack 1 = .ok (.getfield 58, 3) := by decide +kernel
theorem dX11_drawnBack_4 : decode cX11_drawnBack 4 = .ok (.bipush 10, 2) := by decide +kernel
theorem dX11_drawnBack_6 : decode cX11_drawnBack 6 = .ok (.iaload, 1) := by decide +kernel
theorem dX11_drawnBack_7 : decode cX11_drawnBack 7 = .ok (.aload_n 0, 1) := by decide +kernel
theorem dX11_drawnBack_8 : decode cX11_drawnBack 8 = .ok (.invokevirtual 403, 3) := by decide +kernel
theorem dX11_drawnBack_11 : decode cX11_drawnBack 11 = .ok (.iconst (-1), 1) := by decide +kernel
theorem dX11_drawnBack_12 : decode cX11_drawnBack 12 = .ok (.ixor, 1) := by decide +kernel
theorem dX11_drawnBack_13 : decode cX11_drawnBack 13 = .ok (.iand, 1) := by decide +kernel
theorem dX11_drawnBack_14 : decode cX11_drawnBack 14 = .ok (.ireturn, 1) := by decide +kernel
theorem dX11_hide_0 : decode cX11_hide 0 = .ok (.aload_n 0, 1) := by decide +kernel
theorem dX11_hide_1 : decode cX11_hide 1 = .ok (.iload_n 1, 1) := by decide +kernel
theorem dX11_hide_2 : decode cX11_hide 2 = .ok (.invokevirtual 350, 3) := by decide +kernel
theorem dX11_hide_5 : decode cX11_hide 5 = .ok (.ifCond .eq 21, 3) := by decide +kernel
theorem dX11_hide_8 : decode cX11_hide 8 = .ok (.aload_n 0, 1) := by decide +kernel
theorem dX11_hide_9 : decode cX11_hide 9 = .ok (.iload_n 2, 1) := by decide +kernel
theorem dX11_hide_10 : decode cX11_hide 10 = .ok (.invokevirtual 350, 3) := by decide +kernel
theorem dX11_hide_13 : decode cX11_hide 13 = .ok (.ifCond .eq 13, 3) := by decide +kernel
theorem dX11_hide_16 : decode cX11_hide 16 = .ok (.iload_n 3, 1) := by decide +kernel
theorem dX11_hide_17 : decode cX11_hide 17 = .ok (.iconst 1, 1) := by decide +kernel
theorem dX11_hide_18 : decode cX11_hide 18 = .ok (.bipush 99, 2) := by decide +kernel
theorem dX11_hide_20 : decode cX11_hide 20 = .ok (.invokestatic 217, 3) := by decide +kernel
theorem dX11_hide_23 : decode cX11_hide 23 = .ok (.ifCond .ne 5, 3) := by decide +kernel
theorem dX11_hide_26 : decode cX11_hide 26 = .ok (.iconst (-1), 1) := by decide +kernel
theorem dX11_hide_27 : decode cX11_hide 27 = .ok (.ireturn, 1) := by decide +kernel
theorem dX11_hide_28 : decode cX11_hide 28 = .ok (.iconst (-1), 1) := by decide +kernel
theorem dX11_hide_29 : decode cX11_hide 29 = .ok (.istore 4, 2) := by decide +kernel
theorem dX11_hide_31 : decode cX11_hide 31 = .ok (.aload_n 0, 1) := by decide +kernel
theorem dX11_hide_32 : decode cX11_hide 32 = .ok (.invokevirtual 314, 3) := by decide +kernel
theorem dX11_hide_35 : decode cX11_hide 35 = .ok (.istore 5, 2) := by decide +kernel
theorem dX11_hide_37 : decode cX11_hide 37 = .ok (.iconst 0, 1) := by decide +kernel
theorem dX11_hide_38 : decode cX11_hide 38 = .ok (.istore 6, 2) := by decide +kernel
theorem dX11_hide_40 : decode cX11_hide 40 = .ok (.iload 6, 2) := by decide +kernel
theorem dX11_hide_42 : decode cX11_hide 42 = .ok (.iconst 1, 1) := by decide +kernel
theorem dX11_hide_43 : decode cX11_hide 43 = .ok (.aload_n 0, 1) := by decide +kernel
theorem dX11_hide_44 : decode cX11_hide 44 = .ok (.getfield 261, 3) := by decide +kernel
