theorem dX6_laySquares_108 : decode cX6_laySquares 108 = .ok (.iinc 1 1, 3) := by decide +kernel
theorem dX6_laySquares_111 : decode cX6_laySquares 111 = .ok (.goto (-86), 3) := by decide +kernel
theorem dX6_laySquares_114 : decode cX6_laySquares 114 = .ok (.return_, 1) := by decide +kernel
theorem dX6_hangRails_0 : decode cX6_hangRails 0 = .ok (.aload_n 0, 1) := by decide +kernel
theorem dX6_hangRails_1 : decode cX6_hangRails 1 = .ok (.getfield 27, 3) := by decide +kernel
theorem dX6_hangRails_4 : decode cX6_hangRails 4 = .ok (.istore_n 1, 1) := by decide +kernel
theorem dX6_hangRails_5 : decode cX6_hangRails 5 = .ok (.aload_n 0, 1) := by decide +kernel
theorem dX6_hangRails_6 : decode cX6_hangRails 6 = .ok (.getfield 30, 3) := by decide +kernel
theorem dX6_hangRails_9 : decode cX6_hangRails 9 = .ok (.istore_n 2, 1) := by decide +kernel
theorem dX6_hangRails_10 : decode cX6_hangRails 10 = .ok (.iconst 0, 1) := by decide +kernel
theorem dX6_hangRails_11 : decode cX6_hangRails 11 = .ok (.istore_n 3, 1) := by decide +kernel
theorem dX6_hangRails_12 : decode cX6_hangRails 12 = .ok (.iload_n 3, 1) := by decide +kernel
theorem dX6_hangRails_13 : decode cX6_hangRails 13 = .ok (.aload_n 0, 1) := by decide +kernel
theorem dX6_hangRails_14 : decode cX6_hangRails 14 = .ok (.getfield 33, 3) := by decide +kernel
theorem dX6_hangRails_17 : decode cX6_hangRails 17 = .ok (.if_icmp .ge 109, 3) := by decide +kernel
theorem dX6_hangRails_20 : decode cX6_hangRails 20 = .ok (.aload_n 0, 1) := by decide +kernel
theorem dX6_hangRails_21 : decode cX6_hangRails 21 = .ok (.getfield 43, 3) := by decide +kernel
theorem dX6_hangRails_24 : decode cX6_hangRails 24 = .ok (.iload_n 3, 1) := by decide +kernel
theorem dX6_hangRails_25 : decode cX6_hangRails 25 = .ok (.iaload, 1) := by decide +kernel
theorem dX6_hangRails_26 : decode cX6_hangRails 26 = .ok (.ifCond .ne 7, 3) := by decide +kernel
theorem dX6_hangRails_29 : decode cX6_hangRails 29 = .ok (.iconst 1, 1) := by decide +kernel
theorem dX6_hangRails_30 : decode cX6_hangRails 30 = .ok (.goto 4, 3) := by decide +kernel
theorem dX6_hangRails_33 : decode cX6_hangRails 33 = .ok (.iconst 0, 1) := by decide +kernel
theorem dX6_hangRails_34 : decode cX6_hangRails 34 = .ok (.istore 4, 2) := by decide +kernel
theorem dX6_hangRails_36 : decode cX6_hangRails 36 = .ok (.iload 4, 2) := by decide +kernel
theorem dX6_hangRails_38 : decode cX6_hangRails 38 = .ok (.ifCond .eq 7, 3) := by decide +kernel
theorem dX6_hangRails_41 : decode cX6_hangRails 41 = .ok (.iload_n 1, 1) := by decide +kernel
theorem dX6_hangRails_42 : decode cX6_hangRails 42 = .ok (.goto 4, 3) := by decide +kernel
theorem dX6_hangRails_45 : decode cX6_hangRails 45 = .ok (.iload_n 2, 1) := by decide +kernel
theorem dX6_hangRails_46 : decode cX6_hangRails 46 = .ok (.aload_n 0, 1) := by decide +kernel
theorem dX6_hangRails_47 : decode cX6_hangRails 47 = .ok (.getfield 36, 3) := by decide +kernel
theorem dX6_hangRails_50 : decode cX6_hangRails 50 = .ok (.iload_n 3, 1) := by decide +kernel
theorem dX6_hangRails_51 : decode cX6_hangRails 51 = .ok (.iaload, 1) := by decide +kernel
theorem dX6_hangRails_52 : decode cX6_hangRails 52 = .ok (.invokestatic 81, 3) := by decide +kernel
theorem dX6_hangRails_55 : decode cX6_hangRails 55 = .ok (.ifCond .ne 5, 3) := by decide +kernel
theorem dX6_hangRails_58 : decode cX6_hangRails 58 = .ok (.iconst 0, 1) := by decide +kernel
theorem dX6_hangRails_59 : decode cX6_hangRails 59 = .ok (.ireturn, 1) := by decide +kernel
theorem dX6_hangRails_60 : decode cX6_hangRails 60 = .ok (.iload 4, 2) := by decide +kernel
theorem dX6_hangRails_62 : decode cX6_hangRails 62 = .ok (.ifCond .eq 19, 3) := by decide +kernel
theorem dX6_hangRails_65 : decode cX6_hangRails 65 = .ok (.iload_n 1, 1) := by decide +kernel
theorem dX6_hangRails_66 : decode cX6_hangRails 66 = .ok (.iconst 1, 1) := by decide +kernel
theorem dX6_hangRails_67 : decode cX6_hangRails 67 = .ok (.aload_n 0, 1) := by decide +kernel
theorem dX6_hangRails_68 : decode cX6_hangRails 68 = .ok (.getfield 36, 3) := by decide +kernel
theorem dX6_hangRails_71 : decode cX6_hangRails 71 = .ok (.iload_n 3, 1) := by decide +kernel
theorem dX6_hangRails_72 : decode cX6_hangRails 72 = .ok (.iaload, 1) := by decide +kernel
theorem dX6_hangRails_73 : decode cX6_hangRails 73 = .ok (.ishl, 1) := by decide +kernel
theorem dX6_hangRails_74 : decode cX6_hangRails 74 = .ok (.iconst (-1), 1) := by decide +kernel
theorem dX6_hangRails_75 : decode cX6_hangRails 75 = .ok (.ixor, 1) := by decide +kernel
theorem dX6_hangRails_76 : decode cX6_hangRails 76 = .ok (.iand, 1) := by decide +kernel
theorem dX6_hangRails_77 : decode cX6_hangRails 77 = .ok (.istore_n 1, 1) := by decide +kernel
theorem dX6_hangRails_78 : decode cX6_hangRails 78 = .ok (.goto 16, 3) := by decide +kernel
theorem dX6_hangRails_81 : decode cX6_hangRails 81 = .ok (.iload_n 2, 1) := by decide +kernel
theorem dX6_hangRails_82 : decode cX6_hangRails 82 = .ok (.iconst 1, 1) := by decide +kernel
theorem dX6_hangRails_83 : decode cX6_hangRails 83 = .ok (.aload_n 0, 1) := by decide +kernel
theorem dX6_hangRails_84 : decode cX6_hangRails 84 = .ok (.getfield 36, 3) := by decide +kernel
theorem dX6_hangRails_87 : decode cX6_hangRails 87 = .ok (.iload_n 3, 1) := by decide +kernel
theorem dX6_hangRails_88 : decode cX6_hangRails 88 = .ok (.iaload, 1) := by decide +kernel
theorem dX6_hangRails_89 : decode cX6_hangRails 89 = .ok (.ishl, 1) := by decide +kernel
theorem dX6_hangRails_90 : decode cX6_hangRails 90 = .ok (.iconst (-1), 1) := by decide +kernel
theorem dX6_hangRails_91 : decode cX6_hangRails 91 = .ok (.ixor, 1) := by decide +kernel
theorem dX6_hangRails_92 : decode cX6_hangRails 92 = .ok (.iand, 1) := by decide +kernel
theorem dX6_hangRails_93 : decode cX6_hangRails 93 = .ok (.istore_n 2, 1) := by decide +kernel
theorem dX6_hangRails_94 : decode cX6_hangRails 94 = .ok (.aload_n 0, 1) := by decide +kernel
theorem dX6_hangRails_95 : decode cX6_hangRails 95 = .ok (.getfield 40, 3) := by decide +kernel
theorem dX6_hangRails_98 : decode cX6_hangRails 98 = .ok (.iload_n 3, 1) := by decide +kernel
theorem dX6_hangRails_99 : decode cX6_hangRails 99 = .ok (.aload_n 0, 1) := by decide +kernel
theorem dX6_hangRails_100 : decode cX6_hangRails 100 = .ok (.getfield 36, 3) := by decide +kernel
theorem dX6_hangRails_103 : decode cX6_hangRails 103 = .ok (.iload_n 3, 1) := by decide +kernel
theorem dX6_hangRails_104 : decode cX6_hangRails 104 = .ok (.iaload, 1) := by decide +kernel
theorem dX6_hangRails_105 : decode cX6_hangRails 105 = .ok (.iload 4, 2) := by decide +kernel
theorem dX6_hangRails_107 : decode cX6_hangRails 107 = .ok (.ifCond .eq 7, 3) := by decide +kernel
theorem dX6_hangRails_110 : decode cX6_hangRails 110 = .ok (.iconst 1, 1) := by decide +kernel
theorem dX6_hangRails_111 : decode cX6_hangRails 111 = .ok (.goto 7, 3) := by decide +kernel
theorem dX6_hangRails_114 : decode cX6_hangRails 114 = .ok (.aload_n 0, 1) := by decide +kernel
theorem dX6_hangRails_115 : decode cX6_hangRails 115 = .ok (.getfield 9, 3) := by decide +kernel
theorem dX6_hangRails_118 : decode cX6_hangRails 118 = .ok (.iadd, 1) := by decide +kernel
theorem dX6_hangRails_119 : decode cX6_hangRails 119 = .ok (.iastore, 1) := by decide +kernel
theorem dX6_hangRails_120 : decode cX6_hangRails 120 = .ok (.iinc 3 1, 3) := by decide +kernel
theorem dX6_hangRails_123 : decode cX6_hangRails 123 = .ok (.goto (-111), 3) := by decide +kernel
theorem dX6_hangRails_126 : decode cX6_hangRails 126 = .ok (.iconst 1, 1) := by decide +kernel
theorem dX6_hangRails_127 : decode cX6_hangRails 127 = .ok (.ireturn, 1) := by decide +kernel
theorem dX7_init_0 : decode cX7_init 0 = .ok (.aload_n 0, 1) := by decide +kernel
theorem dX7_init_1 : decode cX7_init 1 = .ok (.invokespecial 3, 3) := by decide +kernel
theorem dX7_init_4 : decode cX7_init 4 = .ok (.aload_n 0, 1) := by decide +kernel
theorem dX7_init_5 : decode cX7_init 5 = .ok (.iconst 0, 1) := by decide +kernel
theorem dX7_init_6 : decode cX7_init 6 = .ok (.putfield 9, 3) := by decide +kernel
theorem dX7_init_9 : decode cX7_init 9 = .ok (.aload_n 0, 1) := by decide +kernel
theorem dX7_init_10 : decode cX7_init 10 = .ok (.new 15, 3) := by decide +kernel
theorem dX7_init_13 : decode cX7_init 13 = .ok (.dup, 1) := by decide +kernel
theorem dX7_init_14 : decode cX7_init 14 = .ok (.invokespecial 17, 3) := by decide +kernel
theorem dX7_init_17 : decode cX7_init 17 = .ok (.putfield 18, 3) := by decide +kernel
theorem dX7_init_20 : decode cX7_init 20 = .ok (.aload_n 0, 1) := by decide +kernel
theorem dX7_init_21 : decode cX7_init 21 = .ok (.bipush 12, 2) := by decide +kernel
theorem dX7_init_23 : decode cX7_init 23 = .ok (.newarray .int, 2) := by decide +kernel
theorem dX7_init_25 : decode cX7_init 25 = .ok (.putfield 22, 3) := by decide +kernel
theorem dX7_init_28 : decode cX7_init 28 = .ok (.return_, 1) := by decide +kernel
theorem dX7_read_0 : decode cX7_read 0 = .ok (.aload_n 0, 1) := by decide +kernel
theorem dX7_read_1 : decode cX7_read 1 = .ok (.aload_n 1, 1) := by decide +kernel
theorem dX7_read_2 : decode cX7_read 2 = .ok (.iload_n 2, 1) := by decide +kernel
theorem dX7_read_3 : decode cX7_read 3 = .ok (.invokevirtual 26, 3) := by decide +kernel
theorem dX7_read_6 : decode cX7_read 6 = .ok (.aload_n 0, 1) := by decide +kernel
theorem dX7_read_7 : decode cX7_read 7 = .ok (.iconst 0, 1) := by decide +kernel
theorem dX7_read_8 : decode cX7_read 8 = .ok (.putfield 9, 3) := by decide +kernel
theorem dX7_read_11 : decode cX7_read 11 = .ok (.aload_n 0, 1) := by decide +kernel
theorem dX7_read_12 : decode cX7_read 12 = .ok (.aload_n 3, 1) := by decide +kernel
theorem dX7_read_13 : decode cX7_read 13 = .ok (.putfield 18, 3) := by decide +kernel
theorem dX7_read_16 : decode cX7_read 16 = .ok (.aload_n 0, 1) := by decide +kernel
theorem dX7_read_17 : decode cX7_read 17 = .ok (.getfield 18, 3) := by decide +kernel
theorem dX7_read_20 : decode cX7_read 20 = .ok (.invokevirtual 30, 3) := by decide +kernel
theorem dX7_read_23 : decode cX7_read 23 = .ok (.iconst 0, 1) := by decide +kernel
theorem dX7_read_24 : decode cX7_read 24 = .ok (.istore 4, 2) := by decide +kernel
theorem dX7_read_26 : decode cX7_read 26 = .ok (.iload 4, 2) := by decide +kernel
theorem dX7_read_28 : decode cX7_read 28 = .ok (.bipush 17, 2) := by decide +kernel
theorem dX7_read_30 : decode cX7_read 30 = .ok (.if_icmp .gt 77, 3) := by decide +kernel
theorem dX7_read_33 : decode cX7_read 33 = .ok (.aload_n 0, 1) := by decide +kernel
theorem dX7_read_34 : decode cX7_read 34 = .ok (.invokevirtual 33, 3) := by decide +kernel
theorem dX7_read_37 : decode cX7_read 37 = .ok (.istore 5, 2) := by decide +kernel
theorem dX7_read_39 : decode cX7_read 39 = .ok (.iload 5, 2) := by decide +kernel
theorem dX7_read_41 : decode cX7_read 41 = .ok (.iconst (-1), 1) := by decide +kernel
theorem dX7_read_42 : decode cX7_read 42 = .ok (.if_icmp .eq 6, 3) := by decide +kernel
theorem dX7_read_45 : decode cX7_read 45 = .ok (.iload 5, 2) := by decide +kernel
theorem dX7_read_47 : decode cX7_read 47 = .ok (.ireturn, 1) := by decide +kernel
theorem dX7_read_48 : decode cX7_read 48 = .ok (.aload_n 0, 1) := by decide +kernel
theorem dX7_read_49 : decode cX7_read 49 = .ok (.invokevirtual 37, 3) := by decide +kernel
theorem dX7_read_52 : decode cX7_read 52 = .ok (.istore 6, 2) := by decide +kernel
theorem dX7_read_54 : decode cX7_read 54 = .ok (.iload 6, 2) := by decide +kernel
theorem dX7_read_56 : decode cX7_read 56 = .ok (.iconst (-1), 1) := by decide +kernel
theorem dX7_read_57 : decode cX7_read 57 = .ok (.if_icmp .ne 22, 3) := by decide +kernel
theorem dX7_read_60 : decode cX7_read 60 = .ok (.aload_n 0, 1) := by decide +kernel
theorem dX7_read_61 : decode cX7_read 61 = .ok (.getfield 18, 3) := by decide +kernel
theorem dX7_read_64 : decode cX7_read 64 = .ok (.invokevirtual 40, 3) := by decide +kernel
theorem dX7_read_67 : decode cX7_read 67 = .ok (.ifCond .eq 7, 3) := by decide +kernel
theorem dX7_read_70 : decode cX7_read 70 = .ok (.iconst (-1), 1) := by decide +kernel
theorem dX7_read_71 : decode cX7_read 71 = .ok (.goto 7, 3) := by decide +kernel
theorem dX7_read_74 : decode cX7_read 74 = .ok (.aload_n 0, 1) := by decide +kernel
theorem dX7_read_75 : decode cX7_read 75 = .ok (.getfield 44, 3) := by decide +kernel
theorem dX7_read_78 : decode cX7_read 78 = .ok (.ireturn, 1) := by decide +kernel
theorem dX7_read_79 : decode cX7_read 79 = .ok (.iload 6, 2) := by decide +kernel
theorem dX7_read_81 : decode cX7_read 81 = .ok (.bipush 59, 2) := by decide +kernel
theorem dX7_read_83 : decode cX7_read 83 = .ok (.if_icmp .eq 8, 3) := by decide +kernel
theorem dX7_read_86 : decode cX7_read 86 = .ok (.aload_n 0, 1) := by decide +kernel
theorem dX7_read_87 : decode cX7_read 87 = .ok (.getfield 48, 3) := by decide +kernel
theorem dX7_read_90 : decode cX7_read 90 = .ok (.ireturn, 1) := by decide +kernel
theorem dX7_read_91 : decode cX7_read 91 = .ok (.aload_n 0, 1) := by decide +kernel
theorem dX7_read_92 : decode cX7_read 92 = .ok (.dup, 1) := by decide +kernel
theorem dX7_read_93 : decode cX7_read 93 = .ok (.getfield 48, 3) := by decide +kernel
theorem dX7_read_96 : decode cX7_read 96 = .ok (.iconst 1, 1) := by decide +kernel
theorem dX7_read_97 : decode cX7_read 97 = .ok (.iadd, 1) := by decide +kernel
theorem dX7_read_98 : decode cX7_read 98 = .ok (.putfield 48, 3) := by decide +kernel
theorem dX7_read_101 : decode cX7_read 101 = .ok (.iinc 4 1, 3) := by decide +kernel
theorem dX7_read_104 : decode cX7_read 104 = .ok (.goto (-78), 3) := by decide +kernel
theorem dX7_read_107 : decode cX7_read 107 = .ok (.aload_n 0, 1) := by decide +kernel
theorem dX7_read_108 : decode cX7_read 108 = .ok (.getfield 48, 3) := by decide +kernel
theorem dX7_read_111 : decode cX7_read 111 = .ok (.ireturn, 1) := by decide +kernel
theorem dX7_isFree_0 : decode cX7_isFree 0 = .ok (.iload_n 1, 1) := by decide +kernel
theorem dX7_isFree_1 : decode cX7_isFree 1 = .ok (.lookupswitch 84 #[(99, 48), (112, 66), (115, 35)], 35) := by decide +kernel
theorem dX7_isFree_36 : decode cX7_isFree 36 = .ok (.aload_n 0, 1) := by decide +kernel
theorem dX7_isFree_37 : decode cX7_isFree 37 = .ok (.getfield 9, 3) := by decide +kernel
theorem dX7_isFree_40 : decode cX7_isFree 40 = .ok (.ifCond .ne 7, 3) := by decide +kernel
theorem dX7_isFree_43 : decode cX7_isFree 43 = .ok (.iconst 1, 1) := by decide +kernel
theorem dX7_isFree_44 : decode cX7_isFree 44 = .ok (.goto 4, 3) := by decide +kernel
theorem dX7_isFree_47 : decode cX7_isFree 47 = .ok (.iconst 0, 1) := by decide +kernel
theorem dX7_isFree_48 : decode cX7_isFree 48 = .ok (.ireturn, 1) := by decide +kernel
theorem dX7_isFree_49 : decode cX7_isFree 49 = .ok (.aload_n 0, 1) := by decide +kernel
theorem dX7_isFree_50 : decode cX7_isFree 50 = .ok (.getfield 18, 3) := by decide +kernel
theorem dX7_isFree_53 : decode cX7_isFree 53 = .ok (.getfield 51, 3) := by decide +kernel
theorem dX7_isFree_56 : decode cX7_isFree 56 = .ok (.bipush 10, 2) := by decide +kernel
theorem dX7_isFree_58 : decode cX7_isFree 58 = .ok (.if_icmp .ge 7, 3) := by decide +kernel
theorem dX7_isFree_61 : decode cX7_isFree 61 = .ok (.iconst 1, 1) := by decide +kernel
theorem dX7_isFree_62 : decode cX7_isFree 62 = .ok (.goto 4, 3) := by decide +kernel
theorem dX7_isFree_65 : decode cX7_isFree 65 = .ok (.iconst 0, 1) := by decide +kernel
theorem dX7_isFree_66 : decode cX7_isFree 66 = .ok (.ireturn, 1) := by decide +kernel
theorem dX7_isFree_67 : decode cX7_isFree 67 = .ok (.aload_n 0, 1) := by decide +kernel
theorem dX7_isFree_68 : decode cX7_isFree 68 = .ok (.getfield 18, 3) := by decide +kernel
theorem dX7_isFree_71 : decode cX7_isFree 71 = .ok (.getfield 54, 3) := by decide +kernel
theorem dX7_isFree_74 : decode cX7_isFree 74 = .ok (.bipush 6, 2) := by decide +kernel
theorem dX7_isFree_76 : decode cX7_isFree 76 = .ok (.if_icmp .ge 7, 3) := by decide +kernel
theorem dX7_isFree_79 : decode cX7_isFree 79 = .ok (.iconst 1, 1) := by decide +kernel
theorem dX7_isFree_80 : decode cX7_isFree 80 = .ok (.goto 4, 3) := by decide +kernel
theorem dX7_isFree_83 : decode cX7_isFree 83 = .ok (.iconst 0, 1) := by decide +kernel
theorem dX7_isFree_84 : decode cX7_isFree 84 = .ok (.ireturn, 1) := by decide +kernel
theorem dX7_isFree_85 : decode cX7_isFree 85 = .ok (.iconst 0, 1) := by decide +kernel
theorem dX7_isFree_86 : decode cX7_isFree 86 = .ok (.ireturn, 1) := by decide +kernel
theorem dX7_readClause_0 : decode cX7_readClause 0 = .ok (.aload_n 0, 1) := by decide +kernel
theorem dX7_readClause_1 : decode cX7_readClause 1 = .ok (.invokevirtual 37, 3) := by decide +kernel
theorem dX7_readClause_4 : decode cX7_readClause 4 = .ok (.istore_n 1, 1) := by decide +kernel
theorem dX7_readClause_5 : decode cX7_readClause 5 = .ok (.aload_n 0, 1) := by decide +kernel
theorem dX7_readClause_6 : decode cX7_readClause 6 = .ok (.iload_n 1, 1) := by decide +kernel
theorem dX7_readClause_7 : decode cX7_readClause 7 = .ok (.invokevirtual 57, 3) := by decide +kernel
theorem dX7_readClause_10 : decode cX7_readClause 10 = .ok (.ifCond .ne 8, 3) := by decide +kernel
theorem dX7_readClause_13 : decode cX7_readClause 13 = .ok (.aload_n 0, 1) := by decide +kernel
theorem dX7_readClause_14 : decode cX7_readClause 14 = .ok (.getfield 48, 3) := by decide +kernel
theorem dX7_readClause_17 : decode cX7_readClause 17 = .ok (.ireturn, 1) := by decide +kernel
theorem dX7_readClause_18 : decode cX7_readClause 18 = .ok (.aload_n 0, 1) := by decide +kernel
theorem dX7_readClause_19 : decode cX7_readClause 19 = .ok (.dup, 1) := by decide +kernel
theorem dX7_readClause_20 : decode cX7_readClause 20 = .ok (.getfield 48, 3) := by decide +kernel
theorem dX7_readClause_23 : decode cX7_readClause 23 = .ok (.iconst 1, 1) := by decide +kernel
theorem dX7_readClause_24 : decode cX7_readClause 24 = .ok (.iadd, 1) := by decide +kernel
theorem dX7_readClause_25 : decode cX7_readClause 25 = .ok (.putfield 48, 3) := by decide +kernel
theorem dX7_readClause_28 : decode cX7_readClause 28 = .ok (.getstatic 61, 3) := by decide +kernel
theorem dX7_readClause_31 : decode cX7_readClause 31 = .ok (.iconst 0, 1) := by decide +kernel
theorem dX7_readClause_32 : decode cX7_readClause 32 = .ok (.aload_n 0, 1) := by decide +kernel
theorem dX7_readClause_33 : decode cX7_readClause 33 = .ok (.getfield 22, 3) := by decide +kernel
theorem dX7_readClause_36 : decode cX7_readClause 36 = .ok (.iconst 0, 1) := by decide +kernel
theorem dX7_readClause_37 : decode cX7_readClause 37 = .ok (.bipush 12, 2) := by decide +kernel
theorem dX7_readClause_39 : decode cX7_readClause 39 = .ok (.invokestatic 64, 3) := by decide +kernel
theorem dX7_readClause_42 : decode cX7_readClause 42 = .ok (.iconst (-1), 1) := by decide +kernel
theorem dX7_readClause_43 : decode cX7_readClause 43 = .ok (.istore_n 2, 1) := by decide +kernel
theorem dX7_readClause_44 : decode cX7_readClause 44 = .ok (.iload_n 1, 1) := by decide +kernel
theorem dX7_readClause_45 : decode cX7_readClause 45 = .ok (.bipush 115, 2) := by decide +kernel
theorem dX7_readClause_47 : decode cX7_readClause 47 = .ok (.if_icmp .ne 29, 3) := by decide +kernel
theorem dX7_readClause_50 : decode cX7_readClause 50 = .ok (.aload_n 0, 1) := by decide +kernel
theorem dX7_readClause_51 : decode cX7_readClause 51 = .ok (.iconst 0, 1) := by decide +kernel
theorem dX7_readClause_52 : decode cX7_readClause 52 = .ok (.iconst 4, 1) := by decide +kernel
theorem dX7_readClause_53 : decode cX7_readClause 53 = .ok (.invokevirtual 70, 3) := by decide +kernel
theorem dX7_readClause_56 : decode cX7_readClause 56 = .ok (.istore_n 2, 1) := by decide +kernel
theorem dX7_readClause_57 : decode cX7_readClause 57 = .ok (.aload_n 0, 1) := by decide +kernel
theorem dX7_readClause_58 : decode cX7_readClause 58 = .ok (.getfield 18, 3) := by decide +kernel
theorem dX7_readClause_61 : decode cX7_readClause 61 = .ok (.aload_n 0, 1) := by decide +kernel
theorem dX7_readClause_62 : decode cX7_readClause 62 = .ok (.getfield 22, 3) := by decide +kernel
theorem dX7_readClause_65 : decode cX7_readClause 65 = .ok (.invokevirtual 74, 3) := by decide +kernel
theorem dX7_readClause_68 : decode cX7_readClause 68 = .ok (.aload_n 0, 1) := by decide +kernel
theorem dX7_readClause_69 : decode cX7_readClause 69 = .ok (.iconst 1, 1) := by decide +kernel
theorem dX7_readClause_70 : decode cX7_readClause 70 = .ok (.putfield 9, 3) := by decide +kernel
theorem dX7_readClause_73 : decode cX7_readClause 73 = .ok (.goto 51, 3) := by decide +kernel
theorem dX7_readClause_76 : decode cX7_readClause 76 = .ok (.iload_n 1, 1) := by decide +kernel
theorem dX7_readClause_77 : decode cX7_readClause 77 = .ok (.bipush 99, 2) := by decide +kernel
theorem dX7_readClause_79 : decode cX7_readClause 79 = .ok (.if_icmp .ne 25, 3) := by decide +kernel
theorem dX7_readClause_82 : decode cX7_readClause 82 = .ok (.aload_n 0, 1) := by decide +kernel
theorem dX7_readClause_83 : decode cX7_readClause 83 = .ok (.iconst 4, 1) := by decide +kernel
theorem dX7_readClause_84 : decode cX7_readClause 84 = .ok (.bipush 10, 2) := by decide +kernel
theorem dX7_readClause_86 : decode cX7_readClause 86 = .ok (.invokevirtual 70, 3) := by decide +kernel
theorem dX7_readClause_89 : decode cX7_readClause 89 = .ok (.istore_n 2, 1) := by decide +kernel
theorem dX7_readClause_90 : decode cX7_readClause 90 = .ok (.aload_n 0, 1) := by decide +kernel
theorem dX7_readClause_91 : decode cX7_readClause 91 = .ok (.getfield 18, 3) := by decide +kernel
theorem dX7_readClause_94 : decode cX7_readClause 94 = .ok (.aload_n 0, 1) := by decide +kernel
theorem dX7_readClause_95 : decode cX7_readClause 95 = .ok (.getfield 22, 3) := by decide +kernel
theorem dX7_readClause_98 : decode cX7_readClause 98 = .ok (.invokevirtual 78, 3) := by decide +kernel
theorem dX7_readClause_101 : decode cX7_readClause 101 = .ok (.goto 23, 3) := by decide +kernel
theorem dX7_readClause_104 : decode cX7_readClause 104 = .ok (.aload_n 0, 1) := by decide +kernel
theorem dX7_readClause_105 : decode cX7_readClause 105 = .ok (.bipush 10, 2) := by decide +kernel
theorem dX7_readClause_107 : decode cX7_readClause 107 = .ok (.bipush 12, 2) := by decide +kernel
theorem dX7_readClause_109 : decode cX7_readClause 109 = .ok (.invokevirtual 70, 3) := by decide +kernel
theorem dX7_readClause_112 : decode cX7_readClause 112 = .ok (.istore_n 2, 1) := by decide +kernel
theorem dX7_readClause_113 : decode cX7_readClause 113 = .ok (.aload_n 0, 1) := by decide +kernel
theorem dX7_readClause_114 : decode cX7_readClause 114 = .ok (.getfield 18, 3) := by decide +kernel
theorem dX7_readClause_117 : decode cX7_readClause 117 = .ok (.aload_n 0, 1) := by decide +kernel
theorem dX7_readClause_118 : decode cX7_readClause 118 = .ok (.getfield 22, 3) := by decide +kernel
theorem dX7_readClause_121 : decode cX7_readClause 121 = .ok (.invokevirtual 81, 3) := by decide +kernel
theorem dX7_readClause_124 : decode cX7_readClause 124 = .ok (.iload_n 2, 1) := by decide +kernel
theorem dX7_readClause_125 : decode cX7_readClause 125 = .ok (.ireturn, 1) := by decide +kernel
theorem dX7_readItems_0 : decode cX7_readItems 0 = .ok (.iconst 0, 1) := by decide +kernel
theorem dX7_readItems_1 : decode cX7_readItems 1 = .ok (.istore_n 3, 1) := by decide +kernel
theorem dX7_readItems_2 : decode cX7_readItems 2 = .ok (.iload_n 1, 1) := by decide +kernel
theorem dX7_readItems_3 : decode cX7_readItems 3 = .ok (.istore 4, 2) := by decide +kernel
theorem dX7_readItems_5 : decode cX7_readItems 5 = .ok (.iload 4, 2) := by decide +kernel
theorem dX7_readItems_7 : decode cX7_readItems 7 = .ok (.iload_n 2, 1) := by decide +kernel
theorem dX7_readItems_8 : decode cX7_readItems 8 = .ok (.if_icmp .gt 76, 3) := by decide +kernel
theorem dX7_readItems_11 : decode cX7_readItems 11 = .ok (.aload_n 0, 1) := by decide +kernel
theorem dX7_readItems_12 : decode cX7_readItems 12 = .ok (.invokevirtual 37, 3) := by decide +kernel
theorem dX7_readItems_15 : decode cX7_readItems 15 = .ok (.iload_n 1, 1) := by decide +kernel
theorem dX7_readItems_16 : decode cX7_readItems 16 = .ok (.iload_n 2, 1) := by decide +kernel
theorem dX7_readItems_17 : decode cX7_readItems 17 = .ok (.invokestatic 84, 3) := by decide +kernel
theorem dX7_readItems_20 : decode cX7_readItems 20 = .ok (.istore 5, 2) := by decide +kernel
theorem dX7_readItems_22 : decode cX7_readItems 22 = .ok (.iload 5, 2) := by decide +kernel
theorem dX7_readItems_24 : decode cX7_readItems 24 = .ok (.iconst (-1), 1) := by decide +kernel
theorem dX7_readItems_25 : decode cX7_readItems 25 = .ok (.if_icmp .ne 5, 3) := by decide +kernel
theorem dX7_readItems_28 : decode cX7_readItems 28 = .ok (.iconst (-1), 1) := by decide +kernel
theorem dX7_readItems_29 : decode cX7_readItems 29 = .ok (.ireturn, 1) := by decide +kernel
theorem dX7_readItems_30 : decode cX7_readItems 30 = .ok (.iload_n 3, 1) := by decide +kernel
theorem dX7_readItems_31 : decode cX7_readItems 31 = .ok (.iload 5, 2) := by decide +kernel
theorem dX7_readItems_33 : decode cX7_readItems 33 = .ok (.invokestatic 88, 3) := by decide +kernel
theorem dX7_readItems_36 : decode cX7_readItems 36 = .ok (.ifCond .eq 8, 3) := by decide +kernel
theorem dX7_readItems_39 : decode cX7_readItems 39 = .ok (.aload_n 0, 1) := by decide +kernel
theorem dX7_readItems_40 : decode cX7_readItems 40 = .ok (.getfield 48, 3) := by decide +kernel
theorem dX7_readItems_43 : decode cX7_readItems 43 = .ok (.ireturn, 1) := by decide +kernel
theorem dX7_readItems_44 : decode cX7_readItems 44 = .ok (.iload_n 3, 1) := by decide +kernel
theorem dX7_readItems_45 : decode cX7_readItems 45 = .ok (.iconst 1, 1) := by decide +kernel
theorem dX7_readItems_46 : decode cX7_readItems 46 = .ok (.iload 5, 2) := by decide +kernel
theorem dX7_readItems_48 : decode cX7_readItems 48 = .ok (.ishl, 1) := by decide +kernel
theorem dX7_readItems_49 : decode cX7_readItems 49 = .ok (.ior, 1) := by decide +kernel
theorem dX7_readItems_50 : decode cX7_readItems 50 = .ok (.istore_n 3, 1) := by decide +kernel
theorem dX7_readItems_51 : decode cX7_readItems 51 = .ok (.aload_n 0, 1) := by decide +kernel
theorem dX7_readItems_52 : decode cX7_readItems 52 = .ok (.dup, 1) := by decide +kernel
theorem dX7_readItems_53 : decode cX7_readItems 53 = .ok (.getfield 48, 3) := by decide +kernel
theorem dX7_readItems_56 : decode cX7_readItems 56 = .ok (.iconst 1, 1) := by decide +kernel
theorem dX7_readItems_57 : decode cX7_readItems 57 = .ok (.iadd, 1) := by decide +kernel
theorem dX7_readItems_58 : decode cX7_readItems 58 = .ok (.putfield 48, 3) := by decide +kernel
theorem dX7_readItems_61 : decode cX7_readItems 61 = .ok (.aload_n 0, 1) := by decide +kernel
theorem dX7_readItems_62 : decode cX7_readItems 62 = .ok (.iload 5, 2) := by decide +kernel
theorem dX7_readItems_64 : decode cX7_readItems 64 = .ok (.invokevirtual 92, 3) := by decide +kernel
theorem dX7_readItems_67 : decode cX7_readItems 67 = .ok (.istore 6, 2) := by decide +kernel
theorem dX7_readItems_69 : decode cX7_readItems 69 = .ok (.iload 6, 2) := by decide +kernel
theorem dX7_readItems_71 : decode cX7_readItems 71 = .ok (.iconst (-1), 1) := by decide +kernel
theorem dX7_readItems_72 : decode cX7_readItems 72 = .ok (.if_icmp .eq 6, 3) := by decide +kernel
theorem dX7_readItems_75 : decode cX7_readItems 75 = .ok (.iload 6, 2) := by decide +kernel
theorem dX7_readItems_77 : decode cX7_readItems 77 = .ok (.ireturn, 1) := by decide +kernel
theorem dX7_readItems_78 : decode cX7_readItems 78 = .ok (.iinc 4 1, 3) := by decide +kernel
theorem dX7_readItems_81 : decode cX7_readItems 81 = .ok (.goto (-76), 3) := by decide +kernel
theorem dX7_readItems_84 : decode cX7_readItems 84 = .ok (.iconst (-1), 1) := by decide +kernel
theorem dX7_readItems_85 : decode cX7_readItems 85 = .ok (.ireturn, 1) := by decide +kernel
theorem dX7_itemOf_0 : decode cX7_itemOf 0 = .ok (.iload_n 1, 1) := by decide +kernel
theorem dX7_itemOf_1 : decode cX7_itemOf 1 = .ok (.istore_n 3, 1) := by decide +kernel
theorem dX7_itemOf_2 : decode cX7_itemOf 2 = .ok (.iload_n 3, 1) := by decide +kernel
theorem dX7_itemOf_3 : decode cX7_itemOf 3 = .ok (.iload_n 2, 1) := by decide +kernel
theorem dX7_itemOf_4 : decode cX7_itemOf 4 = .ok (.if_icmp .ge 20, 3) := by decide +kernel
theorem dX7_itemOf_7 : decode cX7_itemOf 7 = .ok (.getstatic 96, 3) := by decide +kernel
theorem dX7_itemOf_10 : decode cX7_itemOf 10 = .ok (.iload_n 3, 1) := by decide +kernel
theorem dX7_itemOf_11 : decode cX7_itemOf 11 = .ok (.caload, 1) := by decide +kernel
theorem dX7_itemOf_12 : decode cX7_itemOf 12 = .ok (.iload_n 0, 1) := by decide +kernel
theorem dX7_itemOf_13 : decode cX7_itemOf 13 = .ok (.if_icmp .ne 5, 3) := by decide +kernel
theorem dX7_itemOf_16 : decode cX7_itemOf 16 = .ok (.iload_n 3, 1) := by decide +kernel
theorem dX7_itemOf_17 : decode cX7_itemOf 17 = .ok (.ireturn, 1) := by decide +kernel
theorem dX7_itemOf_18 : decode cX7_itemOf 18 = .ok (.iinc 3 1, 3) := by decide +kernel
theorem dX7_itemOf_21 : decode cX7_itemOf 21 = .ok (.goto (-19), 3) := by decide +kernel
theorem dX7_itemOf_24 : decode cX7_itemOf 24 = .ok (.iconst (-1), 1) := by decide +kernel
theorem dX7_itemOf_25 : decode cX7_itemOf 25 = .ok (.ireturn, 1) := by decide +kernel
theorem dX7_readNumber_0 : decode cX7_readNumber 0 = .ok (.aload_n 0, 1) := by decide +kernel
theorem dX7_readNumber_1 : decode cX7_readNumber 1 = .ok (.invokevirtual 37, 3) := by decide +kernel
theorem dX7_readNumber_4 : decode cX7_readNumber 4 = .ok (.invokestatic 100, 3) := by decide +kernel
theorem dX7_readNumber_7 : decode cX7_readNumber 7 = .ok (.ifCond .ne 8, 3) := by decide +kernel
theorem dX7_readNumber_10 : decode cX7_readNumber 10 = .ok (.aload_n 0, 1) := by decide +kernel
theorem dX7_readNumber_11 : decode cX7_readNumber 11 = .ok (.getfield 48, 3) := by decide +kernel
theorem dX7_readNumber_14 : decode cX7_readNumber 14 = .ok (.ireturn, 1) := by decide +kernel
theorem dX7_readNumber_15 : decode cX7_readNumber 15 = .ok (.iconst 0, 1) := by decide +kernel
theorem dX7_readNumber_16 : decode cX7_readNumber 16 = .ok (.istore_n 2, 1) := by decide +kernel
theorem dX7_readNumber_17 : decode cX7_readNumber 17 = .ok (.iconst 0, 1) := by decide +kernel
theorem dX7_readNumber_18 : decode cX7_readNumber 18 = .ok (.istore_n 3, 1) := by decide +kernel
theorem dX7_readNumber_19 : decode cX7_readNumber 19 = .ok (.aload_n 0, 1) := by decide +kernel
theorem dX7_readNumber_20 : decode cX7_readNumber 20 = .ok (.getfield 48, 3) := by decide +kernel
theorem dX7_readNumber_23 : decode cX7_readNumber 23 = .ok (.aload_n 0, 1) := by decide +kernel
theorem dX7_readNumber_24 : decode cX7_readNumber 24 = .ok (.getfield 44, 3) := by decide +kernel
theorem dX7_readNumber_27 : decode cX7_readNumber 27 = .ok (.if_icmp .ge 62, 3) := by decide +kernel
theorem dX7_readNumber_30 : decode cX7_readNumber 30 = .ok (.aload_n 0, 1) := by decide +kernel
theorem dX7_readNumber_31 : decode cX7_readNumber 31 = .ok (.getfield 103, 3) := by decide +kernel
theorem dX7_readNumber_34 : decode cX7_readNumber 34 = .ok (.aload_n 0, 1) := by decide +kernel
theorem dX7_readNumber_35 : decode cX7_readNumber 35 = .ok (.getfield 48, 3) := by decide +kernel
theorem dX7_readNumber_38 : decode cX7_readNumber 38 = .ok (.iaload, 1) := by decide +kernel
theorem dX7_readNumber_39 : decode cX7_readNumber 39 = .ok (.invokestatic 100, 3) := by decide +kernel
theorem dX7_readNumber_42 : decode cX7_readNumber 42 = .ok (.ifCond .eq 47, 3) := by decide +kernel
theorem dX7_readNumber_45 : decode cX7_readNumber 45 = .ok (.iload_n 3, 1) := by decide +kernel
theorem dX7_readNumber_46 : decode cX7_readNumber 46 = .ok (.iconst 2, 1) := by decide +kernel
theorem dX7_readNumber_47 : decode cX7_readNumber 47 = .ok (.if_icmp .ne 8, 3) := by decide +kernel
theorem dX7_readNumber_50 : decode cX7_readNumber 50 = .ok (.aload_n 0, 1) := by decide +kernel
theorem dX7_readNumber_51 : decode cX7_readNumber 51 = .ok (.getfield 48, 3) := by decide +kernel
theorem dX7_readNumber_54 : decode cX7_readNumber 54 = .ok (.ireturn, 1) := by decide +kernel
theorem dX7_readNumber_55 : decode cX7_readNumber 55 = .ok (.iload_n 2, 1) := by decide +kernel
theorem dX7_readNumber_56 : decode cX7_readNumber 56 = .ok (.bipush 10, 2) := by decide +kernel
theorem dX7_readNumber_58 : decode cX7_readNumber 58 = .ok (.imul, 1) := by decide +kernel
theorem dX7_readNumber_59 : decode cX7_readNumber 59 = .ok (.aload_n 0, 1) := by decide +kernel
theorem dX7_readNumber_60 : decode cX7_readNumber 60 = .ok (.getfield 103, 3) := by decide +kernel
theorem dX7_readNumber_63 : decode cX7_readNumber 63 = .ok (.aload_n 0, 1) := by decide +kernel
theorem dX7_readNumber_64 : decode cX7_readNumber 64 = .ok (.getfield 48, 3) := by decide +kernel
theorem dX7_readNumber_67 : decode cX7_readNumber 67 = .ok (.iaload, 1) := by decide +kernel
theorem dX7_readNumber_68 : decode cX7_readNumber 68 = .ok (.iadd, 1) := by decide +kernel
theorem dX7_readNumber_69 : decode cX7_readNumber 69 = .ok (.bipush 48, 2) := by decide +kernel
theorem dX7_readNumber_71 : decode cX7_readNumber 71 = .ok (.isub, 1) := by decide +kernel
theorem dX7_readNumber_72 : decode cX7_readNumber 72 = .ok (.istore_n 2, 1) := by decide +kernel
theorem dX7_readNumber_73 : decode cX7_readNumber 73 = .ok (.aload_n 0, 1) := by decide +kernel
theorem dX7_readNumber_74 : decode cX7_readNumber 74 = .ok (.dup, 1) := by decide +kernel
theorem dX7_readNumber_75 : decode cX7_readNumber 75 = .ok (.getfield 48, 3) := by decide +kernel
theorem dX7_readNumber_78 : decode cX7_readNumber 78 = .ok (.iconst 1, 1) := by decide +kernel
theorem dX7_readNumber_79 : decode cX7_readNumber 79 = .ok (.iadd, 1) := by decide +kernel
theorem dX7_readNumber_80 : decode cX7_readNumber 80 = .ok (.putfield 48, 3) := by decide +kernel
theorem dX7_readNumber_83 : decode cX7_readNumber 83 = .ok (.iinc 3 1, 3) := by decide +kernel
theorem dX7_readNumber_86 : decode cX7_readNumber 86 = .ok (.goto (-67), 3) := by decide +kernel
theorem dX7_readNumber_89 : decode cX7_readNumber 89 = .ok (.iload_n 2, 1) := by decide +kernel
theorem dX7_readNumber_90 : decode cX7_readNumber 90 = .ok (.getstatic 106, 3) := by decide +kernel
theorem dX7_readNumber_93 : decode cX7_readNumber 93 = .ok (.iload_n 1, 1) := by decide +kernel
theorem dX7_readNumber_94 : decode cX7_readNumber 94 = .ok (.iaload, 1) := by decide +kernel
theorem dX7_readNumber_95 : decode cX7_readNumber 95 = .ok (.getstatic 109, 3) := by decide +kernel
theorem dX7_readNumber_98 : decode cX7_readNumber 98 = .ok (.iload_n 1, 1) := by decide +kernel
theorem dX7_readNumber_99 : decode cX7_readNumber 99 = .ok (.iaload, 1) := by decide +kernel
theorem dX7_readNumber_100 : decode cX7_readNumber 100 = .ok (.invokestatic 112, 3) := by decide +kernel
theorem dX7_readNumber_103 : decode cX7_readNumber 103 = .ok (.ifCond .ne 10, 3) := by decide +kernel
theorem dX7_readNumber_106 : decode cX7_readNumber 106 = .ok (.aload_n 0, 1) := by decide +kernel
theorem dX7_readNumber_107 : decode cX7_readNumber 107 = .ok (.getfield 48, 3) := by decide +kernel
theorem dX7_readNumber_110 : decode cX7_readNumber 110 = .ok (.iconst 1, 1) := by decide +kernel
theorem dX7_readNumber_111 : decode cX7_readNumber 111 = .ok (.isub, 1) := by decide +kernel
theorem dX7_readNumber_112 : decode cX7_readNumber 112 = .ok (.ireturn, 1) := by decide +kernel
theorem dX7_readNumber_113 : decode cX7_readNumber 113 = .ok (.aload_n 0, 1) := by decide +kernel
theorem dX7_readNumber_114 : decode cX7_readNumber 114 = .ok (.getfield 22, 3) := by decide +kernel
theorem dX7_readNumber_117 : decode cX7_readNumber 117 = .ok (.iload_n 1, 1) := by decide +kernel
theorem dX7_readNumber_118 : decode cX7_readNumber 118 = .ok (.iload_n 2, 1) := by decide +kernel
theorem dX7_readNumber_119 : decode cX7_readNumber 119 = .ok (.iastore, 1) := by decide +kernel
theorem dX7_readNumber_120 : decode cX7_readNumber 120 = .ok (.iconst (-1), 1) := by decide +kernel
theorem dX7_readNumber_121 : decode cX7_readNumber 121 = .ok (.ireturn, 1) := by decide +kernel
theorem dX8_init_0 : decode cX8_init 0 = .ok (.aload_n 0, 1) := by decide +kernel
theorem dX8_init_1 : decode cX8_init 1 = .ok (.invokespecial 3, 3) := by decide +kernel
theorem dX8_init_4 : decode cX8_init 4 = .ok (.aload_n 0, 1) := by decide +kernel
theorem dX8_init_5 : decode cX8_init 5 = .ok (.new 9, 3) := by decide +kernel
theorem dX8_init_8 : decode cX8_init 8 = .ok (.dup, 1) := by decide +kernel
theorem dX8_init_9 : decode cX8_init 9 = .ok (.invokespecial 11, 3) := by decide +kernel
theorem dX8_init_12 : decode cX8_init 12 = .ok (.putfield 12, 3) := by decide +kernel
theorem dX8_init_15 : decode cX8_init 15 = .ok (.aload_n 0, 1) := by decide +kernel
theorem dX8_init_16 : decode cX8_init 16 = .ok (.bipush 10, 2) := by decide +kernel
theorem dX8_init_18 : decode cX8_init 18 = .ok (.newarray .int, 2) := by decide +kernel
theorem dX8_init_20 : decode cX8_init 20 = .ok (.putfield 18, 3) := by decide +kernel
theorem dX8_init_23 : decode cX8_init 23 = .ok (.aload_n 0, 1) := by decide +kernel
theorem dX8_init_24 : decode cX8_init 24 = .ok (.bipush 6, 2) := by decide +kernel
theorem dX8_init_26 : decode cX8_init 26 = .ok (.newarray .int, 2) := by decide +kernel
theorem dX8_init_28 : decode cX8_init 28 = .ok (.putfield 22, 3) := by decide +kernel
theorem dX8_init_31 : decode cX8_init 31 = .ok (.aload_n 0, 1) := by decide +kernel
theorem dX8_init_32 : decode cX8_init 32 = .ok (.iconst 0, 1) := by decide +kernel
theorem dX8_init_33 : decode cX8_init 33 = .ok (.putfield 25, 3) := by decide +kernel
theorem dX8_init_36 : decode cX8_init 36 = .ok (.aload_n 0, 1) := by decide +kernel
theorem dX8_init_37 : decode cX8_init 37 = .ok (.iconst 0, 1) := by decide +kernel
theorem dX8_init_38 : decode cX8_init 38 = .ok (.putfield 29, 3) := by decide +kernel
theorem dX8_init_41 : decode cX8_init 41 = .ok (.return_, 1) := by decide +kernel
theorem dX8_enter_0 : decode cX8_enter 0 = .ok (.aload_n 0, 1) := by decide +kernel
theorem dX8_enter_1 : decode cX8_enter 1 = .ok (.aload_n 1, 1) := by decide +kernel
theorem dX8_enter_2 : decode cX8_enter 2 = .ok (.putfield 12, 3) := by decide +kernel
theorem dX8_enter_5 : decode cX8_enter 5 = .ok (.aload_n 0, 1) := by decide +kernel
theorem dX8_enter_6 : decode cX8_enter 6 = .ok (.getfield 12, 3) := by decide +kernel
theorem dX8_enter_9 : decode cX8_enter 9 = .ok (.getfield 32, 3) := by decide +kernel
theorem dX8_enter_12 : decode cX8_enter 12 = .ok (.iconst 0, 1) := by decide +kernel
theorem dX8_enter_13 : decode cX8_enter 13 = .ok (.aload_n 0, 1) := by decide +kernel
theorem dX8_enter_14 : decode cX8_enter 14 = .ok (.getfield 18, 3) := by decide +kernel
theorem dX8_enter_17 : decode cX8_enter 17 = .ok (.iconst 0, 1) := by decide +kernel
theorem dX8_enter_18 : decode cX8_enter 18 = .ok (.bipush 10, 2) := by decide +kernel
theorem dX8_enter_20 : decode cX8_enter 20 = .ok (.invokestatic 35, 3) := by decide +kernel
theorem dX8_enter_23 : decode cX8_enter 23 = .ok (.aload_n 0, 1) := by decide +kernel
theorem dX8_enter_24 : decode cX8_enter 24 = .ok (.getfield 12, 3) := by decide +kernel
theorem dX8_enter_27 : decode cX8_enter 27 = .ok (.getfield 41, 3) := by decide +kernel
theorem dX8_enter_30 : decode cX8_enter 30 = .ok (.iconst 0, 1) := by decide +kernel
theorem dX8_enter_31 : decode cX8_enter 31 = .ok (.aload_n 0, 1) := by decide +kernel
theorem dX8_enter_32 : decode cX8_enter 32 = .ok (.getfield 22, 3) := by decide +kernel
theorem dX8_enter_35 : decode cX8_enter 35 = .ok (.iconst 0, 1) := by decide +kernel
theorem dX8_enter_36 : decode cX8_enter 36 = .ok (.bipush 6, 2) := by decide +kernel
theorem dX8_enter_38 : decode cX8_enter 38 = .ok (.invokestatic 35, 3) := by decide +kernel
theorem dX8_enter_41 : decode cX8_enter 41 = .ok (.aload_n 0, 1) := by decide +kernel
theorem dX8_enter_42 : decode cX8_enter 42 = .ok (.aload_n 0, 1) := by decide +kernel
theorem dX8_enter_43 : decode cX8_enter 43 = .ok (.getfield 12, 3) := by decide +kernel
theorem dX8_enter_46 : decode cX8_enter 46 = .ok (.getfield 44, 3) := by decide +kernel
theorem dX8_enter_49 : decode cX8_enter 49 = .ok (.putfield 25, 3) := by decide +kernel
theorem dX8_enter_52 : decode cX8_enter 52 = .ok (.aload_n 0, 1) := by decide +kernel
theorem dX8_enter_53 : decode cX8_enter 53 = .ok (.iconst 0, 1) := by decide +kernel
theorem dX8_enter_54 : decode cX8_enter 54 = .ok (.putfield 29, 3) := by decide +kernel
theorem dX8_enter_57 : decode cX8_enter 57 = .ok (.return_, 1) := by decide +kernel
theorem dX8_follow_0 : decode cX8_follow 0 = .ok (.aload_n 0, 1) := by decide +kernel
theorem dX8_follow_1 : decode cX8_follow 1 = .ok (.aload_n 1, 1) := by decide +kernel
theorem dX8_follow_2 : decode cX8_follow 2 = .ok (.getfield 12, 3) := by decide +kernel
theorem dX8_follow_5 : decode cX8_follow 5 = .ok (.putfield 12, 3) := by decide +kernel
theorem dX8_follow_8 : decode cX8_follow 8 = .ok (.aload_n 1, 1) := by decide +kernel
theorem dX8_follow_9 : decode cX8_follow 9 = .ok (.getfield 18, 3) := by decide +kernel
theorem dX8_follow_12 : decode cX8_follow 12 = .ok (.iconst 0, 1) := by decide +kernel
theorem dX8_follow_13 : decode cX8_follow 13 = .ok (.aload_n 0, 1) := by decide +kernel
theorem dX8_follow_14 : decode cX8_follow 14 = .ok (.getfield 18, 3) := by decide +kernel
theorem dX8_follow_17 : decode cX8_follow 17 = .ok (.iconst 0, 1) := by decide +kernel
theorem dX8_follow_18 : decode cX8_follow 18 = .ok (.bipush 10, 2) := by decide +kernel
theorem dX8_follow_20 : decode cX8_follow 20 = .ok (.invokestatic 35, 3) := by decide +kernel
theorem dX8_follow_23 : decode cX8_follow 23 = .ok (.aload_n 1, 1) := by decide +kernel
theorem dX8_follow_24 : decode cX8_follow 24 = .ok (.getfield 22, 3) := by decide +kernel
theorem dX8_follow_27 : decode cX8_follow 27 = .ok (.iconst 0, 1) := by decide +kernel
theorem dX8_follow_28 : decode cX8_follow 28 = .ok (.aload_n 0, 1) := by decide +kernel
theorem dX8_follow_29 : decode cX8_follow 29 = .ok (.getfield 22, 3) := by decide +kernel
theorem dX8_follow_32 : decode cX8_follow 32 = .ok (.iconst 0, 1) := by decide +kernel
theorem dX8_follow_33 : decode cX8_follow 33 = .ok (.bipush 6, 2) := by decide +kernel
theorem dX8_follow_35 : decode cX8_follow 35 = .ok (.invokestatic 35, 3) := by decide +kernel
theorem dX8_follow_38 : decode cX8_follow 38 = .ok (.aload_n 0, 1) := by decide +kernel
theorem dX8_follow_39 : decode cX8_follow 39 = .ok (.aload_n 1, 1) := by decide +kernel
theorem dX8_follow_40 : decode cX8_follow 40 = .ok (.getfield 25, 3) := by decide +kernel
theorem dX8_follow_43 : decode cX8_follow 43 = .ok (.putfield 25, 3) := by decide +kernel
theorem dX8_follow_46 : decode cX8_follow 46 = .ok (.aload_n 0, 1) := by decide +kernel
theorem dX8_follow_47 : decode cX8_follow 47 = .ok (.aload_n 1, 1) := by decide +kernel
theorem dX8_follow_48 : decode cX8_follow 48 = .ok (.getfield 29, 3) := by decide +kernel
theorem dX8_follow_51 : decode cX8_follow 51 = .ok (.putfield 29, 3) := by decide +kernel
theorem dX8_follow_54 : decode cX8_follow 54 = .ok (.return_, 1) := by decide +kernel
theorem dX8_save_0 : decode cX8_save 0 = .ok (.iload_n 2, 1) := by decide +kernel
theorem dX8_save_1 : decode cX8_save 1 = .ok (.iconst 0, 1) := by decide +kernel
theorem dX8_save_2 : decode cX8_save 2 = .ok (.aload_n 1, 1) := by decide +kernel
theorem dX8_save_3 : decode cX8_save 3 = .ok (.arraylength, 1) := by decide +kernel
theorem dX8_save_4 : decode cX8_save 4 = .ok (.bipush 18, 2) := by decide +kernel
theorem dX8_save_6 : decode cX8_save 6 = .ok (.isub, 1) := by decide +kernel
theorem dX8_save_7 : decode cX8_save 7 = .ok (.invokestatic 47, 3) := by decide +kernel
theorem dX8_save_10 : decode cX8_save 10 = .ok (.ifCond .ne 4, 3) := by decide +kernel
theorem dX8_save_13 : decode cX8_save 13 = .ok (.return_, 1) := by decide +kernel
theorem dX8_save_14 : decode cX8_save 14 = .ok (.aload_n 0, 1) := by decide +kernel
theorem dX8_save_15 : decode cX8_save 15 = .ok (.getfield 18, 3) := by decide +kernel
theorem dX8_save_18 : decode cX8_save 18 = .ok (.iconst 0, 1) := by decide +kernel
theorem dX8_save_19 : decode cX8_save 19 = .ok (.aload_n 1, 1) := by decide +kernel
theorem dX8_save_20 : decode cX8_save 20 = .ok (.iload_n 2, 1) := by decide +kernel
theorem dX8_save_21 : decode cX8_save 21 = .ok (.bipush 10, 2) := by decide +kernel
theorem dX8_save_23 : decode cX8_save 23 = .ok (.invokestatic 35, 3) := by decide +kernel
theorem dX8_save_26 : decode cX8_save 26 = .ok (.aload_n 0, 1) := by decide +kernel
theorem dX8_save_27 : decode cX8_save 27 = .ok (.getfield 22, 3) := by decide +kernel
theorem dX8_save_30 : decode cX8_save 30 = .ok (.iconst 0, 1) := by decide +kernel
theorem dX8_save_31 : decode cX8_save 31 = .ok (.aload_n 1, 1) := by decide +kernel
theorem dX8_save_32 : decode cX8_save 32 = .ok (.iload_n 2, 1) := by decide +kernel
theorem dX8_save_33 : decode cX8_save 33 = .ok (.bipush 10, 2) := by decide +kernel
theorem dX8_save_35 : decode cX8_save 35 = .ok (.iadd, 1) := by decide +kernel
theorem dX8_save_36 : decode cX8_save 36 = .ok (.bipush 6, 2) := by decide +kernel
theorem dX8_save_38 : decode cX8_save 38 = .ok (.invokestatic 35, 3) := by decide +kernel
theorem dX8_save_41 : decode cX8_save 41 = .ok (.aload_n 1, 1) := by decide +kernel
theorem dX8_save_42 : decode cX8_save 42 = .ok (.iload_n 2, 1) := by decide +kernel
theorem dX8_save_43 : decode cX8_save 43 = .ok (.bipush 18, 2) := by decide +kernel
theorem dX8_save_45 : decode cX8_save 45 = .ok (.iadd, 1) := by decide +kernel
theorem dX8_save_46 : decode cX8_save 46 = .ok (.iconst 2, 1) := by decide +kernel
theorem dX8_save_47 : decode cX8_save 47 = .ok (.isub, 1) := by decide +kernel
theorem dX8_save_48 : decode cX8_save 48 = .ok (.aload_n 0, 1) := by decide +kernel
theorem dX8_save_49 : decode cX8_save 49 = .ok (.getfield 25, 3) := by decide +kernel
theorem dX8_save_52 : decode cX8_save 52 = .ok (.iastore, 1) := by decide +kernel
theorem dX8_save_53 : decode cX8_save 53 = .ok (.aload_n 1, 1) := by decide +kernel
theorem dX8_save_54 : decode cX8_save 54 = .ok (.iload_n 2, 1) := by decide +kernel
theorem dX8_save_55 : decode cX8_save 55 = .ok (.bipush 18, 2) := by decide +kernel
theorem dX8_save_57 : decode cX8_save 57 = .ok (.iadd, 1) := by decide +kernel
theorem dX8_save_58 : decode cX8_save 58 = .ok (.iconst 1, 1) := by decide +kernel
theorem dX8_save_59 : decode cX8_save 59 = .ok (.isub, 1) := by decide +kernel
theorem dX8_save_60 : decode cX8_save 60 = .ok (.aload_n 0, 1) := by decide +kernel
theorem dX8_save_61 : decode cX8_save 61 = .ok (.getfield 29, 3) := by decide +kernel
theorem dX8_save_64 : decode cX8_save 64 = .ok (.iastore, 1) := by decide +kernel
theorem dX8_save_65 : decode cX8_save 65 = .ok (.return_, 1) := by decide +kernel
theorem dX8_load_0 : decode cX8_load 0 = .ok (.iload_n 2, 1) := by decide +kernel
theorem dX8_load_1 : decode cX8_load 1 = .ok (.iconst 0, 1) := by decide +kernel
theorem dX8_load_2 : decode cX8_load 2 = .ok (.aload_n 1, 1) := by decide +kernel
theorem dX8_load_3 : decode cX8_load 3 = .ok (.arraylength, 1) := by decide +kernel
theorem dX8_load_4 : decode cX8_load 4 = .ok (.bipush 18, 2) := by decide +kernel
theorem dX8_load_6 : decode cX8_load 6 = .ok (.isub, 1) := by decide +kernel
theorem dX8_load_7 : decode cX8_load 7 = .ok (.invokestatic 47, 3) := by decide +kernel
theorem dX8_load_10 : decode cX8_load 10 = .ok (.ifCond .ne 4, 3) := by decide +kernel
theorem dX8_load_13 : decode cX8_load 13 = .ok (.return_, 1) := by decide +kernel
theorem dX8_load_14 : decode cX8_load 14 = .ok (.aload_n 1, 1) := by decide +kernel
theorem dX8_load_15 : decode cX8_load 15 = .ok (.iload_n 2, 1) := by decide +kernel
theorem dX8_load_16 : decode cX8_load 16 = .ok (.aload_n 0, 1) := by decide +kernel
theorem dX8_load_17 : decode cX8_load 17 = .ok (.getfield 18, 3) := by decide +kernel
theorem dX8_load_20 : decode cX8_load 20 = .ok (.iconst 0, 1) := by decide +kernel
theorem dX8_load_21 : decode cX8_load 21 = .ok (.bipush 10, 2) := by decide +kernel
theorem dX8_load_23 : decode cX8_load 23 = .ok (.invokestatic 35, 3) := by decide +kernel
theorem dX8_load_26 : decode cX8_load 26 = .ok (.aload_n 1, 1) := by decide +kernel
theorem dX8_load_27 : decode cX8_load 27 = .ok (.iload_n 2, 1) := by decide +kernel
theorem dX8_load_28 : decode cX8_load 28 = .ok (.bipush 10, 2) := by decide +kernel
theorem dX8_load_30 : decode cX8_load 30 = .ok (.iadd, 1) := by decide +kernel
theorem dX8_load_31 : decode cX8_load 31 = .ok (.aload_n 0, 1) := by decide +kernel
theorem dX8_load_32 : decode cX8_load 32 = .ok (.getfield 22, 3) := by decide +kernel
theorem dX8_load_35 : decode cX8_load 35 = .ok (.iconst 0, 1) := by decide +kernel
theorem dX8_load_36 : decode cX8_load 36 = .ok (.bipush 6, 2) := by decide +kernel
theorem dX8_load_38 : decode cX8_load 38 = .ok (.invokestatic 35, 3) := by decide +kernel
theorem dX8_load_41 : decode cX8_load 41 = .ok (.aload_n 0, 1) := by decide +kernel
theorem dX8_load_42 : decode cX8_load 42 = .ok (.aload_n 1, 1) := by decide +kernel
theorem dX8_load_43 : decode cX8_load 43 = .ok (.iload_n 2, 1) := by decide +kernel
theorem dX8_load_44 : decode cX8_load 44 = .ok (.bipush 18, 2) := by decide +kernel
theorem dX8_load_46 : decode cX8_load 46 = .ok (.iadd, 1) := by decide +kernel
theorem dX8_load_47 : decode cX8_load 47 = .ok (.iconst 2, 1) := by decide +kernel
theorem dX8_load_48 : decode cX8_load 48 = .ok (.isub, 1) := by decide +kernel
theorem dX8_load_49 : decode cX8_load 49 = .ok (.iaload, 1) := by decide +kernel
theorem dX8_load_50 : decode cX8_load 50 = .ok (.putfield 25, 3) := by decide +kernel
theorem dX8_load_53 : decode cX8_load 53 = .ok (.aload_n 0, 1) := by decide +kernel
theorem dX8_load_54 : decode cX8_load 54 = .ok (.aload_n 1, 1) := by decide +kernel
theorem dX8_load_55 : decode cX8_load 55 = .ok (.iload_n 2, 1) := by decide +kernel
theorem dX8_load_56 : decode cX8_load 56 = .ok (.bipush 18, 2) := by decide +kernel
theorem dX8_load_58 : decode cX8_load 58 = .ok (.iadd, 1) := by decide +kernel
theorem dX8_load_59 : decode cX8_load 59 = .ok (.iconst 1, 1) := by decide +kernel
theorem dX8_load_60 : decode cX8_load 60 = .ok (.isub, 1) := by decide +kernel
theorem dX8_load_61 : decode cX8_load 61 = .ok (.iaload, 1) := by decide +kernel
theorem dX8_load_62 : decode cX8_load 62 = .ok (.putfield 29, 3) := by decide +kernel
theorem dX8_load_65 : decode cX8_load 65 = .ok (.return_, 1) := by decide +kernel
theorem dX8_fallen_0 : decode cX8_fallen 0 = .ok (.iconst 0, 1) := by decide +kernel
theorem dX8_fallen_1 : decode cX8_fallen 1 = .ok (.istore_n 1, 1) := by decide +kernel
theorem dX8_fallen_2 : decode cX8_fallen 2 = .ok (.iconst 0, 1) := by decide +kernel
theorem dX8_fallen_3 : decode cX8_fallen 3 = .ok (.istore_n 2, 1) := by decide +kernel
theorem dX8_fallen_4 : decode cX8_fallen 4 = .ok (.iload_n 2, 1) := by decide +kernel
theorem dX8_fallen_5 : decode cX8_fallen 5 = .ok (.aload_n 0, 1) := by decide +kernel
theorem dX8_fallen_6 : decode cX8_fallen 6 = .ok (.getfield 12, 3) := by decide +kernel
theorem dX8_fallen_9 : decode cX8_fallen 9 = .ok (.getfield 51, 3) := by decide +kernel
theorem dX8_fallen_12 : decode cX8_fallen 12 = .ok (.if_icmp .ge 24, 3) := by decide +kernel
theorem dX8_fallen_15 : decode cX8_fallen 15 = .ok (.aload_n 0, 1) := by decide +kernel
theorem dX8_fallen_16 : decode cX8_fallen 16 = .ok (.getfield 18, 3) := by decide +kernel
theorem dX8_fallen_19 : decode cX8_fallen 19 = .ok (.iload_n 2, 1) := by decide +kernel
theorem dX8_fallen_20 : decode cX8_fallen 20 = .ok (.iaload, 1) := by decide +kernel
theorem dX8_fallen_21 : decode cX8_fallen 21 = .ok (.ifCond .ne 9, 3) := by decide +kernel
theorem dX8_fallen_24 : decode cX8_fallen 24 = .ok (.iload_n 1, 1) := by decide +kernel
theorem dX8_fallen_25 : decode cX8_fallen 25 = .ok (.iconst 1, 1) := by decide +kernel
theorem dX8_fallen_26 : decode cX8_fallen 26 = .ok (.iload_n 2, 1) := by decide +kernel
theorem dX8_fallen_27 : decode cX8_fallen 27 = .ok (.ishl, 1) := by decide +kernel
theorem dX8_fallen_28 : decode cX8_fallen 28 = .ok (.ior, 1) := by decide +kernel
theorem dX8_fallen_29 : decode cX8_fallen 29 = .ok (.istore_n 1, 1) := by decide +kernel
theorem dX8_fallen_30 : decode cX8_fallen 30 = .ok (.iinc 2 1, 3) := by decide +kernel
theorem dX8_fallen_33 : decode cX8_fallen 33 = .ok (.goto (-29), 3) := by decide +kernel
theorem dX8_fallen_36 : decode cX8_fallen 36 = .ok (.iload_n 1, 1) := by decide +kernel
theorem dX8_fallen_37 : decode cX8_fallen 37 = .ok (.ireturn, 1) := by decide +kernel
theorem dX8_hung_0 : decode cX8_hung 0 = .ok (.aload_n 0, 1) := by decide +kernel
theorem dX8_hung_1 : decode cX8_hung 1 = .ok (.getfield 12, 3) := by decide +kernel
theorem dX8_hung_4 : decode cX8_hung 4 = .ok (.invokevirtual 54, 3) := by decide +kernel
theorem dX8_hung_7 : decode cX8_hung 7 = .ok (.aload_n 0, 1) := by decide +kernel
theorem dX8_hung_8 : decode cX8_hung 8 = .ok (.getfield 25, 3) := by decide +kernel
theorem dX8_hung_11 : decode cX8_hung 11 = .ok (.iconst (-1), 1) := by decide +kernel
theorem dX8_hung_12 : decode cX8_hung 12 = .ok (.ixor, 1) := by decide +kernel
theorem dX8_hung_13 : decode cX8_hung 13 = .ok (.iand, 1) := by decide +kernel
theorem dX8_hung_14 : decode cX8_hung 14 = .ok (.aload_n 0, 1) := by decide +kernel
theorem dX8_hung_15 : decode cX8_hung 15 = .ok (.invokevirtual 58, 3) := by decide +kernel
theorem dX8_hung_18 : decode cX8_hung 18 = .ok (.iconst (-1), 1) := by decide +kernel
theorem dX8_hung_19 : decode cX8_hung 19 = .ok (.ixor, 1) := by decide +kernel
theorem dX8_hung_20 : decode cX8_hung 20 = .ok (.iand, 1) := by decide +kernel
theorem dX8_hung_21 : decode cX8_hung 21 = .ok (.ireturn, 1) := by decide +kernel
theorem dX8_drawnBack_0 : decode cX8_drawnBack 0 = .ok (.aload_n 0, 1) := by decide +kernel
theorem dX8_drawnBack_1 : decode cX8_drawnBack 1 = .ok (.getfield 25, 3) := by decide +kernel
theorem dX8_drawnBack_4 : decode cX8_drawnBack 4 = .ok (.aload_n 0, 1) := by decide +kernel
theorem dX8_drawnBack_5 : decode cX8_drawnBack 5 = .ok (.invokevirtual 58, 3) := by decide +kernel
theorem dX8_drawnBack_8 : decode cX8_drawnBack 8 = .ok (.iconst (-1), 1) := by decide +kernel
theorem dX8_drawnBack_9 : decode cX8_drawnBack 9 = .ok (.ixor, 1) := by decide +kernel
theorem dX8_drawnBack_10 : decode cX8_drawnBack 10 = .ok (.iand, 1) := by decide +kernel
theorem dX8_drawnBack_11 : decode cX8_drawnBack 11 = .ok (.ireturn, 1) := by decide +kernel
theorem dX8_fabricOfAll_0 : decode cX8_fabricOfAll 0 = .ok (.iconst 0, 1) := by decide +kernel
theorem dX8_fabricOfAll_1 : decode cX8_fabricOfAll 1 = .ok (.istore_n 1, 1) := by decide +kernel
theorem dX8_fabricOfAll_2 : decode cX8_fabricOfAll 2 = .ok (.iconst 0, 1) := by decide +kernel
theorem dX8_fabricOfAll_3 : decode cX8_fabricOfAll 3 = .ok (.istore_n 2, 1) := by decide +kernel
theorem dX8_fabricOfAll_4 : decode cX8_fabricOfAll 4 = .ok (.iload_n 2, 1) := by decide +kernel
theorem dX8_fabricOfAll_5 : decode cX8_fabricOfAll 5 = .ok (.aload_n 0, 1) := by decide +kernel
theorem dX8_fabricOfAll_6 : decode cX8_fabricOfAll 6 = .ok (.getfield 12, 3) := by decide +kernel
theorem dX8_fabricOfAll_9 : decode cX8_fabricOfAll 9 = .ok (.getfield 51, 3) := by decide +kernel
theorem dX8_fabricOfAll_12 : decode cX8_fabricOfAll 12 = .ok (.if_icmp .ge 18, 3) := by decide +kernel
theorem dX8_fabricOfAll_15 : decode cX8_fabricOfAll 15 = .ok (.iload_n 1, 1) := by decide +kernel
theorem dX8_fabricOfAll_16 : decode cX8_fabricOfAll 16 = .ok (.aload_n 0, 1) := by decide +kernel
theorem dX8_fabricOfAll_17 : decode cX8_fabricOfAll 17 = .ok (.getfield 18, 3) := by decide +kernel
theorem dX8_fabricOfAll_20 : decode cX8_fabricOfAll 20 = .ok (.iload_n 2, 1) := by decide +kernel
theorem dX8_fabricOfAll_21 : decode cX8_fabricOfAll 21 = .ok (.iaload, 1) := by decide +kernel
theorem dX8_fabricOfAll_22 : decode cX8_fabricOfAll 22 = .ok (.iadd, 1) := by decide +kernel
theorem dX8_fabricOfAll_23 : decode cX8_fabricOfAll 23 = .ok (.istore_n 1, 1) := by decide +kernel
theorem dX8_fabricOfAll_24 : decode cX8_fabricOfAll 24 = .ok (.iinc 2 1, 3) := by decide +kernel
theorem dX8_fabricOfAll_27 : decode cX8_fabricOfAll 27 = .ok (.goto (-23), 3) := by decide +kernel
theorem dX8_fabricOfAll_30 : decode cX8_fabricOfAll 30 = .ok (.iload_n 1, 1) := by decide +kernel
theorem dX8_fabricOfAll_31 : decode cX8_fabricOfAll 31 = .ok (.ireturn, 1) := by decide +kernel
theorem dX8_wear_0 : decode cX8_wear 0 = .ok (.aload_n 0, 1) := by decide +kernel
theorem dX8_wear_1 : decode cX8_wear 1 = .ok (.invokevirtual 61, 3) := by decide +kernel
theorem dX8_wear_4 : decode cX8_wear 4 = .ok (.istore_n 2, 1) := by decide +kernel
theorem dX8_wear_5 : decode cX8_wear 5 = .ok (.iconst 0, 1) := by decide +kernel
theorem dX8_wear_6 : decode cX8_wear 6 = .ok (.istore_n 3, 1) := by decide +kernel
theorem dX8_wear_7 : decode cX8_wear 7 = .ok (.iconst 0, 1) := by decide +kernel
theorem dX8_wear_8 : decode cX8_wear 8 = .ok (.istore 4, 2) := by decide +kernel
theorem dX8_wear_10 : decode cX8_wear 10 = .ok (.iload 4, 2) := by decide +kernel
theorem dX8_wear_12 : decode cX8_wear 12 = .ok (.aload_n 0, 1) := by decide +kernel
theorem dX8_wear_13 : decode cX8_wear 13 = .ok (.getfield 12, 3) := by decide +kernel
theorem dX8_wear_16 : decode cX8_wear 16 = .ok (.getfield 51, 3) := by decide +kernel
theorem dX8_wear_19 : decode cX8_wear 19 = .ok (.if_icmp .ge 116, 3) := by decide +kernel
theorem dX8_wear_22 : decode cX8_wear 22 = .ok (.iload_n 2, 1) := by decide +kernel
theorem dX8_wear_23 : decode cX8_wear 23 = .ok (.iload 4, 2) := by decide +kernel
theorem dX8_wear_25 : decode cX8_wear 25 = .ok (.invokestatic 64, 3) := by decide +kernel
theorem dX8_wear_28 : decode cX8_wear 28 = .ok (.ifCond .ne 6, 3) := by decide +kernel
theorem dX8_wear_31 : decode cX8_wear 31 = .ok (.goto 98, 3) := by decide +kernel
theorem dX8_wear_34 : decode cX8_wear 34 = .ok (.aload_n 1, 1) := by decide +kernel
theorem dX8_wear_35 : decode cX8_wear 35 = .ok (.aload_n 0, 1) := by decide +kernel
theorem dX8_wear_36 : decode cX8_wear 36 = .ok (.getfield 12, 3) := by decide +kernel
theorem dX8_wear_39 : decode cX8_wear 39 = .ok (.getfield 68, 3) := by decide +kernel
theorem dX8_wear_42 : decode cX8_wear 42 = .ok (.iload 4, 2) := by decide +kernel
theorem dX8_wear_44 : decode cX8_wear 44 = .ok (.iaload, 1) := by decide +kernel
theorem dX8_wear_45 : decode cX8_wear 45 = .ok (.iaload, 1) := by decide +kernel
theorem dX8_wear_46 : decode cX8_wear 46 = .ok (.bipush 20, 2) := by decide +kernel
theorem dX8_wear_48 : decode cX8_wear 48 = .ok (.if_icmp .ge 20, 3) := by decide +kernel
theorem dX8_wear_51 : decode cX8_wear 51 = .ok (.aload_n 1, 1) := by decide +kernel
theorem dX8_wear_52 : decode cX8_wear 52 = .ok (.aload_n 0, 1) := by decide +kernel
theorem dX8_wear_53 : decode cX8_wear 53 = .ok (.getfield 12, 3) := by decide +kernel
theorem dX8_wear_56 : decode cX8_wear 56 = .ok (.getfield 71, 3) := by decide +kernel
theorem dX8_wear_59 : decode cX8_wear 59 = .ok (.iload 4, 2) := by decide +kernel
theorem dX8_wear_61 : decode cX8_wear 61 = .ok (.iaload, 1) := by decide +kernel
theorem dX8_wear_62 : decode cX8_wear 62 = .ok (.iaload, 1) := by decide +kernel
theorem dX8_wear_63 : decode cX8_wear 63 = .ok (.bipush 20, 2) := by decide +kernel
theorem dX8_wear_65 : decode cX8_wear 65 = .ok (.if_icmp .lt 7, 3) := by decide +kernel
theorem dX8_wear_68 : decode cX8_wear 68 = .ok (.iconst 1, 1) := by decide +kernel
theorem dX8_wear_69 : decode cX8_wear 69 = .ok (.goto 4, 3) := by decide +kernel
theorem dX8_wear_72 : decode cX8_wear 72 = .ok (.iconst 0, 1) := by decide +kernel
theorem dX8_wear_73 : decode cX8_wear 73 = .ok (.istore 5, 2) := by decide +kernel
theorem dX8_wear_75 : decode cX8_wear 75 = .ok (.aload_n 0, 1) := by decide +kernel
theorem dX8_wear_76 : decode cX8_wear 76 = .ok (.getfield 18, 3) := by decide +kernel
theorem dX8_wear_79 : decode cX8_wear 79 = .ok (.iload 4, 2) := by decide +kernel
theorem dX8_wear_81 : decode cX8_wear 81 = .ok (.iconst 0, 1) := by decide +kernel
theorem dX8_wear_82 : decode cX8_wear 82 = .ok (.aload_n 0, 1) := by decide +kernel
theorem dX8_wear_83 : decode cX8_wear 83 = .ok (.getfield 18, 3) := by decide +kernel
theorem dX8_wear_86 : decode cX8_wear 86 = .ok (.iload 4, 2) := by decide +kernel
theorem dX8_wear_88 : decode cX8_wear 88 = .ok (.iaload, 1) := by decide +kernel
theorem dX8_wear_89 : decode cX8_wear 89 = .ok (.aload_n 0, 1) := by decide +kernel
theorem dX8_wear_90 : decode cX8_wear 90 = .ok (.getfield 12, 3) := by decide +kernel
theorem dX8_wear_93 : decode cX8_wear 93 = .ok (.getfield 74, 3) := by decide +kernel
theorem dX8_wear_96 : decode cX8_wear 96 = .ok (.isub, 1) := by decide +kernel
theorem dX8_wear_97 : decode cX8_wear 97 = .ok (.iload 5, 2) := by decide +kernel
theorem dX8_wear_99 : decode cX8_wear 99 = .ok (.ifCond .eq 7, 3) := by decide +kernel
theorem dX8_wear_102 : decode cX8_wear 102 = .ok (.iconst 1, 1) := by decide +kernel
theorem dX8_wear_103 : decode cX8_wear 103 = .ok (.goto 4, 3) := by decide +kernel
theorem dX8_wear_106 : decode cX8_wear 106 = .ok (.iconst 0, 1) := by decide +kernel
theorem dX8_wear_107 : decode cX8_wear 107 = .ok (.isub, 1) := by decide +kernel
theorem dX8_wear_108 : decode cX8_wear 108 = .ok (.invokestatic 77, 3) := by decide +kernel
theorem dX8_wear_111 : decode cX8_wear 111 = .ok (.iastore, 1) := by decide +kernel
theorem dX8_wear_112 : decode cX8_wear 112 = .ok (.aload_n 0, 1) := by decide +kernel
theorem dX8_wear_113 : decode cX8_wear 113 = .ok (.getfield 18, 3) := by decide +kernel
theorem dX8_wear_116 : decode cX8_wear 116 = .ok (.iload 4, 2) := by decide +kernel
theorem dX8_wear_118 : decode cX8_wear 118 = .ok (.iaload, 1) := by decide +kernel
theorem dX8_wear_119 : decode cX8_wear 119 = .ok (.ifCond .ne 10, 3) := by decide +kernel
theorem dX8_wear_122 : decode cX8_wear 122 = .ok (.iload_n 3, 1) := by decide +kernel
theorem dX8_wear_123 : decode cX8_wear 123 = .ok (.iconst 1, 1) := by decide +kernel
theorem dX8_wear_124 : decode cX8_wear 124 = .ok (.iload 4, 2) := by decide +kernel
theorem dX8_wear_126 : decode cX8_wear 126 = .ok (.ishl, 1) := by decide +kernel
theorem dX8_wear_127 : decode cX8_wear 127 = .ok (.ior, 1) := by decide +kernel
theorem dX8_wear_128 : decode cX8_wear 128 = .ok (.istore_n 3, 1) := by decide +kernel
theorem dX8_wear_129 : decode cX8_wear 129 = .ok (.iinc 4 1, 3) := by decide +kernel
theorem dX8_wear_132 : decode cX8_wear 132 = .ok (.goto (-122), 3) := by decide +kernel
theorem dX8_wear_135 : decode cX8_wear 135 = .ok (.aload_n 0, 1) := by decide +kernel
theorem dX8_wear_136 : decode cX8_wear 136 = .ok (.dup, 1) := by decide +kernel
theorem dX8_wear_137 : decode cX8_wear 137 = .ok (.getfield 29, 3) := by decide +kernel
theorem dX8_wear_140 : decode cX8_wear 140 = .ok (.iconst 1, 1) := by decide +kernel
theorem dX8_wear_141 : decode cX8_wear 141 = .ok (.iadd, 1) := by decide +kernel
theorem dX8_wear_142 : decode cX8_wear 142 = .ok (.putfield 29, 3) := by decide +kernel
theorem dX8_wear_145 : decode cX8_wear 145 = .ok (.iload_n 3, 1) := by decide +kernel
theorem dX8_wear_146 : decode cX8_wear 146 = .ok (.ireturn, 1) := by decide +kernel
theorem dX9_init_0 : decode cX9_init 0 = .ok (.aload_n 0, 1) := by decide +kernel
theorem dX9_init_1 : decode cX9_init 1 = .ok (.invokespecial 3, 3) := by decide +kernel
theorem dX9_init_4 : decode cX9_init 4 = .ok (.aload_n 0, 1) := by decide +kernel
theorem dX9_init_5 : decode cX9_init 5 = .ok (.iconst 0, 1) := by decide +kernel
theorem dX9_init_6 : decode cX9_init 6 = .ok (.putfield 9, 3) := by decide +kernel
theorem dX9_init_9 : decode cX9_init 9 = .ok (.aload_n 0, 1) := by decide +kernel
theorem dX9_init_10 : decode cX9_init 10 = .ok (.bipush 121, 2) := by decide +kernel
theorem dX9_init_12 : decode cX9_init 12 = .ok (.newarray .int, 2) := by decide +kernel
theorem dX9_init_14 : decode cX9_init 14 = .ok (.putfield 15, 3) := by decide +kernel
theorem dX9_init_17 : decode cX9_init 17 = .ok (.aload_n 0, 1) := by decide +kernel
theorem dX9_init_18 : decode cX9_init 18 = .ok (.bipush 121, 2) := by decide +kernel
theorem dX9_init_20 : decode cX9_init 20 = .ok (.newarray .int, 2) := by decide +kernel
theorem dX9_init_22 : decode cX9_init 22 = .ok (.putfield 19, 3) := by decide +kernel
theorem dX9_init_25 : decode cX9_init 25 = .ok (.return_, 1) := by decide +kernel
theorem dX9_lay_0 : decode cX9_lay 0 = .ok (.aload_n 0, 1) := by decide +kernel
theorem dX9_lay_1 : decode cX9_lay 1 = .ok (.iload_n 1, 1) := by decide +kernel
theorem dX9_lay_2 : decode cX9_lay 2 = .ok (.bipush 11, 2) := by decide +kernel
theorem dX9_lay_4 : decode cX9_lay 4 = .ok (.invokestatic 22, 3) := by decide +kernel
theorem dX9_lay_7 : decode cX9_lay 7 = .ok (.putfield 9, 3) := by decide +kernel
theorem dX9_lay_10 : decode cX9_lay 10 = .ok (.return_, 1) := by decide +kernel
theorem dX9_put_0 : decode cX9_put 0 = .ok (.iload_n 1, 1) := by decide +kernel
theorem dX9_put_1 : decode cX9_put 1 = .ok (.iconst 0, 1) := by decide +kernel
theorem dX9_put_2 : decode cX9_put 2 = .ok (.aload_n 0, 1) := by decide +kernel
theorem dX9_put_3 : decode cX9_put 3 = .ok (.getfield 9, 3) := by decide +kernel
theorem dX9_put_6 : decode cX9_put 6 = .ok (.iconst 1, 1) := by decide +kernel
theorem dX9_put_7 : decode cX9_put 7 = .ok (.isub, 1) := by decide +kernel
theorem dX9_put_8 : decode cX9_put 8 = .ok (.invokestatic 28, 3) := by decide +kernel
theorem dX9_put_11 : decode cX9_put 11 = .ok (.ifCond .eq 42, 3) := by decide +kernel
theorem dX9_put_14 : decode cX9_put 14 = .ok (.iload_n 2, 1) := by decide +kernel
theorem dX9_put_15 : decode cX9_put 15 = .ok (.iconst 0, 1) := by decide +kernel
theorem dX9_put_16 : decode cX9_put 16 = .ok (.aload_n 0, 1) := by decide +kernel
theorem dX9_put_17 : decode cX9_put 17 = .ok (.getfield 9, 3) := by decide +kernel
theorem dX9_put_20 : decode cX9_put 20 = .ok (.iconst 1, 1) := by decide +kernel
theorem dX9_put_21 : decode cX9_put 21 = .ok (.isub, 1) := by decide +kernel
theorem dX9_put_22 : decode cX9_put 22 = .ok (.invokestatic 28, 3) := by decide +kernel
theorem dX9_put_25 : decode cX9_put 25 = .ok (.ifCond .eq 28, 3) := by decide +kernel
theorem dX9_put_28 : decode cX9_put 28 = .ok (.aload_n 0, 1) := by decide +kernel
theorem dX9_put_29 : decode cX9_put 29 = .ok (.getfield 15, 3) := by decide +kernel
theorem dX9_put_32 : decode cX9_put 32 = .ok (.iload_n 1, 1) := by decide +kernel
theorem dX9_put_33 : decode cX9_put 33 = .ok (.bipush 11, 2) := by decide +kernel
theorem dX9_put_35 : decode cX9_put 35 = .ok (.imul, 1) := by decide +kernel
theorem dX9_put_36 : decode cX9_put 36 = .ok (.iload_n 2, 1) := by decide +kernel
theorem dX9_put_37 : decode cX9_put 37 = .ok (.iadd, 1) := by decide +kernel
theorem dX9_put_38 : decode cX9_put 38 = .ok (.iload_n 3, 1) := by decide +kernel
theorem dX9_put_39 : decode cX9_put 39 = .ok (.iastore, 1) := by decide +kernel
theorem dX9_put_40 : decode cX9_put 40 = .ok (.aload_n 0, 1) := by decide +kernel
theorem dX9_put_41 : decode cX9_put 41 = .ok (.getfield 19, 3) := by decide +kernel
theorem dX9_put_44 : decode cX9_put 44 = .ok (.iload_n 1, 1) := by decide +kernel
theorem dX9_put_45 : decode cX9_put 45 = .ok (.bipush 11, 2) := by decide +kernel
theorem dX9_put_47 : decode cX9_put 47 = .ok (.imul, 1) := by decide +kernel
theorem dX9_put_48 : decode cX9_put 48 = .ok (.iload_n 2, 1) := by decide +kernel
theorem dX9_put_49 : decode cX9_put 49 = .ok (.iadd, 1) := by decide +kernel
theorem dX9_put_50 : decode cX9_put 50 = .ok (.iload 4, 2) := by decide +kernel
theorem dX9_put_52 : decode cX9_put 52 = .ok (.iastore, 1) := by decide +kernel
theorem dX9_put_53 : decode cX9_put 53 = .ok (.return_, 1) := by decide +kernel
theorem dX9_restsAt_0 : decode cX9_restsAt 0 = .ok (.iload_n 1, 1) := by decide +kernel
theorem dX9_restsAt_1 : decode cX9_restsAt 1 = .ok (.iconst 0, 1) := by decide +kernel
theorem dX9_restsAt_2 : decode cX9_restsAt 2 = .ok (.aload_n 0, 1) := by decide +kernel
theorem dX9_restsAt_3 : decode cX9_restsAt 3 = .ok (.getfield 9, 3) := by decide +kernel
theorem dX9_restsAt_6 : decode cX9_restsAt 6 = .ok (.iconst 1, 1) := by decide +kernel
theorem dX9_restsAt_7 : decode cX9_restsAt 7 = .ok (.isub, 1) := by decide +kernel
theorem dX9_restsAt_8 : decode cX9_restsAt 8 = .ok (.invokestatic 28, 3) := by decide +kernel
theorem dX9_restsAt_11 : decode cX9_restsAt 11 = .ok (.ifCond .eq 17, 3) := by decide +kernel
theorem dX9_restsAt_14 : decode cX9_restsAt 14 = .ok (.iload_n 2, 1) := by decide +kernel
theorem dX9_restsAt_15 : decode cX9_restsAt 15 = .ok (.iconst 0, 1) := by decide +kernel
theorem dX9_restsAt_16 : decode cX9_restsAt 16 = .ok (.aload_n 0, 1) := by decide +kernel
theorem dX9_restsAt_17 : decode cX9_restsAt 17 = .ok (.getfield 9, 3) := by decide +kernel
theorem dX9_restsAt_20 : decode cX9_restsAt 20 = .ok (.iconst 1, 1) := by decide +kernel
theorem dX9_restsAt_21 : decode cX9_restsAt 21 = .ok (.isub, 1) := by decide +kernel
theorem dX9_restsAt_22 : decode cX9_restsAt 22 = .ok (.invokestatic 28, 3) := by decide +kernel
theorem dX9_restsAt_25 : decode cX9_restsAt 25 = .ok (.ifCond .ne 5, 3) := by decide +kernel
theorem dX9_restsAt_28 : decode cX9_restsAt 28 = .ok (.iconst 0, 1) := by decide +kernel
theorem dX9_restsAt_29 : decode cX9_restsAt 29 = .ok (.ireturn, 1) := by decide +kernel
theorem dX9_restsAt_30 : decode cX9_restsAt 30 = .ok (.iload_n 1, 1) := by decide +kernel
theorem dX9_restsAt_31 : decode cX9_restsAt 31 = .ok (.bipush 11, 2) := by decide +kernel
theorem dX9_restsAt_33 : decode cX9_restsAt 33 = .ok (.imul, 1) := by decide +kernel
theorem dX9_restsAt_34 : decode cX9_restsAt 34 = .ok (.iload_n 2, 1) := by decide +kernel
theorem dX9_restsAt_35 : decode cX9_restsAt 35 = .ok (.iadd, 1) := by decide +kernel
theorem dX9_restsAt_36 : decode cX9_restsAt 36 = .ok (.istore_n 3, 1) := by decide +kernel
theorem dX9_restsAt_37 : decode cX9_restsAt 37 = .ok (.iconst 0, 1) := by decide +kernel
theorem dX9_restsAt_38 : decode cX9_restsAt 38 = .ok (.istore 4, 2) := by decide +kernel
theorem dX9_restsAt_40 : decode cX9_restsAt 40 = .ok (.iload 4, 2) := by decide +kernel
theorem dX9_restsAt_42 : decode cX9_restsAt 42 = .ok (.aload_n 0, 1) := by decide +kernel
theorem dX9_restsAt_43 : decode cX9_restsAt 43 = .ok (.getfield 9, 3) := by decide +kernel
theorem dX9_restsAt_46 : decode cX9_restsAt 46 = .ok (.if_icmp .ge 53, 3) := by decide +kernel
theorem dX9_restsAt_49 : decode cX9_restsAt 49 = .ok (.aload_n 0, 1) := by decide +kernel
theorem dX9_restsAt_50 : decode cX9_restsAt 50 = .ok (.getfield 15, 3) := by decide +kernel
theorem dX9_restsAt_53 : decode cX9_restsAt 53 = .ok (.iload 4, 2) := by decide +kernel
theorem dX9_restsAt_55 : decode cX9_restsAt 55 = .ok (.bipush 11, 2) := by decide +kernel
theorem dX9_restsAt_57 : decode cX9_restsAt 57 = .ok (.imul, 1) := by decide +kernel
theorem dX9_restsAt_58 : decode cX9_restsAt 58 = .ok (.iload_n 2, 1) := by decide +kernel
theorem dX9_restsAt_59 : decode cX9_restsAt 59 = .ok (.iadd, 1) := by decide +kernel
theorem dX9_restsAt_60 : decode cX9_restsAt 60 = .ok (.iaload, 1) := by decide +kernel
theorem dX9_restsAt_61 : decode cX9_restsAt 61 = .ok (.aload_n 0, 1) := by decide +kernel
theorem dX9_restsAt_62 : decode cX9_restsAt 62 = .ok (.getfield 15, 3) := by decide +kernel
theorem dX9_restsAt_65 : decode cX9_restsAt 65 = .ok (.iload_n 3, 1) := by decide +kernel
theorem dX9_restsAt_66 : decode cX9_restsAt 66 = .ok (.iaload, 1) := by decide +kernel
theorem dX9_restsAt_67 : decode cX9_restsAt 67 = .ok (.if_icmp .gt 24, 3) := by decide +kernel
theorem dX9_restsAt_70 : decode cX9_restsAt 70 = .ok (.aload_n 0, 1) := by decide +kernel
theorem dX9_restsAt_71 : decode cX9_restsAt 71 = .ok (.getfield 19, 3) := by decide +kernel
theorem dX9_restsAt_74 : decode cX9_restsAt 74 = .ok (.iload_n 1, 1) := by decide +kernel
theorem dX9_restsAt_75 : decode cX9_restsAt 75 = .ok (.bipush 11, 2) := by decide +kernel
theorem dX9_restsAt_77 : decode cX9_restsAt 77 = .ok (.imul, 1) := by decide +kernel
theorem dX9_restsAt_78 : decode cX9_restsAt 78 = .ok (.iload 4, 2) := by decide +kernel
theorem dX9_restsAt_80 : decode cX9_restsAt 80 = .ok (.iadd, 1) := by decide +kernel
theorem dX9_restsAt_81 : decode cX9_restsAt 81 = .ok (.iaload, 1) := by decide +kernel
theorem dX9_restsAt_82 : decode cX9_restsAt 82 = .ok (.aload_n 0, 1) := by decide +kernel
theorem dX9_restsAt_83 : decode cX9_restsAt 83 = .ok (.getfield 19, 3) := by decide +kernel
theorem dX9_restsAt_86 : decode cX9_restsAt 86 = .ok (.iload_n 3, 1) := by decide +kernel
theorem dX9_restsAt_87 : decode cX9_restsAt 87 = .ok (.iaload, 1) := by decide +kernel
theorem dX9_restsAt_88 : decode cX9_restsAt 88 = .ok (.if_icmp .le 5, 3) := by decide +kernel
theorem dX9_restsAt_91 : decode cX9_restsAt 91 = .ok (.iconst 0, 1) := by decide +kernel
theorem dX9_restsAt_92 : decode cX9_restsAt 92 = .ok (.ireturn, 1) := by decide +kernel
theorem dX9_restsAt_93 : decode cX9_restsAt 93 = .ok (.iinc 4 1, 3) := by decide +kernel
theorem dX9_restsAt_96 : decode cX9_restsAt 96 = .ok (.goto (-56), 3) := by decide +kernel
theorem dX9_restsAt_99 : decode cX9_restsAt 99 = .ok (.iconst 1, 1) := by decide +kernel
theorem dX9_restsAt_100 : decode cX9_restsAt 100 = .ok (.ireturn, 1) := by decide +kernel
theorem dX10_init_0 : decode cX10_init 0 = .ok (.aload_n 0, 1) := by decide +kernel
theorem dX10_init_1 : decode cX10_init 1 = .ok (.invokespecial 3, 3) := by decide +kernel
theorem dX10_init_4 : decode cX10_init 4 = .ok (.aload_n 0, 1) := by decide +kernel
theorem dX10_init_5 : decode cX10_init 5 = .ok (.sipush 240, 3) := by decide +kernel
theorem dX10_init_8 : decode cX10_init 8 = .ok (.newarray .int, 2) := by decide +kernel
theorem dX10_init_10 : decode cX10_init 10 = .ok (.putfield 9, 3) := by decide +kernel
theorem dX10_init_13 : decode cX10_init 13 = .ok (.aload_n 0, 1) := by decide +kernel
theorem dX10_init_14 : decode cX10_init 14 = .ok (.iconst 0, 1) := by decide +kernel
theorem dX10_init_15 : decode cX10_init 15 = .ok (.putfield 13, 3) := by decide +kernel
theorem dX10_init_18 : decode cX10_init 18 = .ok (.aload_n 0, 1) := by decide +kernel
theorem dX10_init_19 : decode cX10_init 19 = .ok (.new 17, 3) := by decide +kernel
theorem dX10_init_22 : decode cX10_init 22 = .ok (.dup, 1) := by decide +kernel
theorem dX10_init_23 : decode cX10_init 23 = .ok (.invokespecial 19, 3) := by decide +kernel
theorem dX10_init_26 : decode cX10_init 26 = .ok (.putfield 20, 3) := by decide +kernel
theorem dX10_init_29 : decode cX10_init 29 = .ok (.aload_n 0, 1) := by decide +kernel
theorem dX10_init_30 : decode cX10_init 30 = .ok (.new 24, 3) := by decide +kernel
theorem dX10_init_33 : decode cX10_init 33 = .ok (.dup, 1) := by decide +kernel
theorem dX10_init_34 : decode cX10_init 34 = .ok (.invokespecial 26, 3) := by decide +kernel
theorem dX10_init_37 : decode cX10_init 37 = .ok (.putfield 27, 3) := by decide +kernel
theorem dX10_init_40 : decode cX10_init 40 = .ok (.aload_n 0, 1) := by decide +kernel
theorem dX10_init_41 : decode cX10_init 41 = .ok (.new 31, 3) := by decide +kernel
theorem dX10_init_44 : decode cX10_init 44 = .ok (.dup, 1) := by decide +kernel
theorem dX10_init_45 : decode cX10_init 45 = .ok (.invokespecial 33, 3) := by decide +kernel
theorem dX10_init_48 : decode cX10_init 48 = .ok (.putfield 34, 3) := by decide +kernel
theorem dX10_init_51 : decode cX10_init 51 = .ok (.aload_n 0, 1) := by decide +kernel
theorem dX10_init_52 : decode cX10_init 52 = .ok (.new 38, 3) := by decide +kernel
theorem dX10_init_55 : decode cX10_init 55 = .ok (.dup, 1) := by decide +kernel
theorem dX10_init_56 : decode cX10_init 56 = .ok (.invokespecial 40, 3) := by decide +kernel
theorem dX10_init_59 : decode cX10_init 59 = .ok (.putfield 41, 3) := by decide +kernel
theorem dX10_init_62 : decode cX10_init 62 = .ok (.aload_n 0, 1) := by decide +kernel
theorem dX10_init_63 : decode cX10_init 63 = .ok (.new 38, 3) := by decide +kernel
theorem dX10_init_66 : decode cX10_init 66 = .ok (.dup, 1) := by decide +kernel
theorem dX10_init_67 : decode cX10_init 67 = .ok (.invokespecial 40, 3) := by decide +kernel
theorem dX10_init_70 : decode cX10_init 70 = .ok (.putfield 45, 3) := by decide +kernel
theorem dX10_init_73 : decode cX10_init 73 = .ok (.aload_n 0, 1) := by decide +kernel
theorem dX10_init_74 : decode cX10_init 74 = .ok (.new 48, 3) := by decide +kernel
theorem dX10_init_77 : decode cX10_init 77 = .ok (.dup, 1) := by decide +kernel
theorem dX10_init_78 : decode cX10_init 78 = .ok (.invokespecial 50, 3) := by decide +kernel
theorem dX10_init_81 : decode cX10_init 81 = .ok (.putfield 51, 3) := by decide +kernel
theorem dX10_init_84 : decode cX10_init 84 = .ok (.aload_n 0, 1) := by decide +kernel
theorem dX10_init_85 : decode cX10_init 85 = .ok (.new 48, 3) := by decide +kernel
theorem dX10_init_88 : decode cX10_init 88 = .ok (.dup, 1) := by decide +kernel
theorem dX10_init_89 : decode cX10_init 89 = .ok (.invokespecial 50, 3) := by decide +kernel
theorem dX10_init_92 : decode cX10_init 92 = .ok (.putfield 55, 3) := by decide +kernel
theorem dX10_init_95 : decode cX10_init 95 = .ok (.aload_n 0, 1) := by decide +kernel
theorem dX10_init_96 : decode cX10_init 96 = .ok (.new 58, 3) := by decide +kernel
theorem dX10_init_99 : decode cX10_init 99 = .ok (.dup, 1) := by decide +kernel
theorem dX10_init_100 : decode cX10_init 100 = .ok (.invokespecial 60, 3) := by decide +kernel
theorem dX10_init_103 : decode cX10_init 103 = .ok (.putfield 61, 3) := by decide +kernel
theorem dX10_init_106 : decode cX10_init 106 = .ok (.aload_n 0, 1) := by decide +kernel
theorem dX10_init_107 : decode cX10_init 107 = .ok (.new 65, 3) := by decide +kernel
theorem dX10_init_110 : decode cX10_init 110 = .ok (.dup, 1) := by decide +kernel
theorem dX10_init_111 : decode cX10_init 111 = .ok (.invokespecial 67, 3) := by decide +kernel
theorem dX10_init_114 : decode cX10_init 114 = .ok (.putfield 68, 3) := by decide +kernel
theorem dX10_init_117 : decode cX10_init 117 = .ok (.aload_n 0, 1) := by decide +kernel
theorem dX10_init_118 : decode cX10_init 118 = .ok (.new 72, 3) := by decide +kernel
theorem dX10_init_121 : decode cX10_init 121 = .ok (.dup, 1) := by decide +kernel
theorem dX10_init_122 : decode cX10_init 122 = .ok (.invokespecial 74, 3) := by decide +kernel
theorem dX10_init_125 : decode cX10_init 125 = .ok (.putfield 75, 3) := by decide +kernel
theorem dX10_init_128 : decode cX10_init 128 = .ok (.aload_n 0, 1) := by decide +kernel
theorem dX10_init_129 : decode cX10_init 129 = .ok (.new 79, 3) := by decide +kernel
theorem dX10_init_132 : decode cX10_init 132 = .ok (.dup, 1) := by decide +kernel
theorem dX10_init_133 : decode cX10_init 133 = .ok (.invokespecial 81, 3) := by decide +kernel
theorem dX10_init_136 : decode cX10_init 136 = .ok (.putfield 82, 3) := by decide +kernel
theorem dX10_init_139 : decode cX10_init 139 = .ok (.aload_n 0, 1) := by decide +kernel
theorem dX10_init_140 : decode cX10_init 140 = .ok (.iconst 5, 1) := by decide +kernel
theorem dX10_init_141 : decode cX10_init 141 = .ok (.newarray .int, 2) := by decide +kernel
theorem dX10_init_143 : decode cX10_init 143 = .ok (.putfield 86, 3) := by decide +kernel
theorem dX10_init_146 : decode cX10_init 146 = .ok (.aload_n 0, 1) := by decide +kernel
theorem dX10_init_147 : decode cX10_init 147 = .ok (.iconst 0, 1) := by decide +kernel
theorem dX10_init_148 : decode cX10_init 148 = .ok (.putfield 89, 3) := by decide +kernel
theorem dX10_init_151 : decode cX10_init 151 = .ok (.aload_n 0, 1) := by decide +kernel
theorem dX10_init_152 : decode cX10_init 152 = .ok (.lconst 0, 1) := by decide +kernel
theorem dX10_init_153 : decode cX10_init 153 = .ok (.putfield 92, 3) := by decide +kernel
theorem dX10_init_156 : decode cX10_init 156 = .ok (.aload_n 0, 1) := by decide +kernel
theorem dX10_init_157 : decode cX10_init 157 = .ok (.iconst 0, 1) := by decide +kernel
theorem dX10_init_158 : decode cX10_init 158 = .ok (.putfield 96, 3) := by decide +kernel
theorem dX10_init_161 : decode cX10_init 161 = .ok (.aload_n 0, 1) := by decide +kernel
theorem dX10_init_162 : decode cX10_init 162 = .ok (.iconst 0, 1) := by decide +kernel
theorem dX10_init_163 : decode cX10_init 163 = .ok (.putfield 99, 3) := by decide +kernel
theorem dX10_init_166 : decode cX10_init 166 = .ok (.aload_n 0, 1) := by decide +kernel
