theorem dX11_feed_62 : decode cX11_feed 62 = .ok (.iload 7, 2) := by decide +kernel
theorem dX11_feed_64 : decode cX11_feed 64 = .ok (.bipush 20, 2) := by decide +kernel
theorem dX11_feed_66 : decode cX11_feed 66 = .ok (.if_icmp .ge 49, 3) := by decide +kernel
theorem dX11_feed_69 : decode cX11_feed 69 = .ok (.iload_n 1, 1) := by decide +kernel
theorem dX11_feed_70 : decode cX11_feed 70 = .ok (.iload_n 2, 1) := by decide +kernel
theorem dX11_feed_71 : decode cX11_feed 71 = .ok (.iload_n 3, 1) := by decide +kernel
theorem dX11_feed_72 : decode cX11_feed 72 = .ok (.iload 4, 2) := by decide +kernel
theorem dX11_feed_74 : decode cX11_feed 74 = .ok (.iload 5, 2) := by decide +kernel
theorem dX11_feed_76 : decode cX11_feed 76 = .ok (.iload 7, 2) := by decide +kernel
theorem dX11_feed_78 : decode cX11_feed 78 = .ok (.invokestatic 105, 3) := by decide +kernel
theorem dX11_feed_81 : decode cX11_feed 81 = .ok (.istore 8, 2) := by decide +kernel
theorem dX11_feed_83 : decode cX11_feed 83 = .ok (.iload 8, 2) := by decide +kernel
theorem dX11_feed_85 : decode cX11_feed 85 = .ok (.ifCond .eq 24, 3) := by decide +kernel
theorem dX11_feed_88 : decode cX11_feed 88 = .ok (.aload_n 0, 1) := by decide +kernel
theorem dX11_feed_89 : decode cX11_feed 89 = .ok (.getfield 9, 3) := by decide +kernel
theorem dX11_feed_92 : decode cX11_feed 92 = .ok (.aload_n 0, 1) := by decide +kernel
theorem dX11_feed_93 : decode cX11_feed 93 = .ok (.getfield 109, 3) := by decide +kernel
theorem dX11_feed_96 : decode cX11_feed 96 = .ok (.iload 8, 2) := by decide +kernel
theorem dX11_feed_98 : decode cX11_feed 98 = .ok (.iastore, 1) := by decide +kernel
theorem dX11_feed_99 : decode cX11_feed 99 = .ok (.aload_n 0, 1) := by decide +kernel
theorem dX11_feed_100 : decode cX11_feed 100 = .ok (.dup, 1) := by decide +kernel
theorem dX11_feed_101 : decode cX11_feed 101 = .ok (.getfield 109, 3) := by decide +kernel
theorem dX11_feed_104 : decode cX11_feed 104 = .ok (.iconst 1, 1) := by decide +kernel
theorem dX11_feed_105 : decode cX11_feed 105 = .ok (.iadd, 1) := by decide +kernel
theorem dX11_feed_106 : decode cX11_feed 106 = .ok (.putfield 109, 3) := by decide +kernel
theorem dX11_feed_109 : decode cX11_feed 109 = .ok (.iinc 7 1, 3) := by decide +kernel
theorem dX11_feed_112 : decode cX11_feed 112 = .ok (.goto (-50), 3) := by decide +kernel
theorem dX11_feed_115 : decode cX11_feed 115 = .ok (.aload_n 0, 1) := by decide +kernel
theorem dX11_feed_116 : decode cX11_feed 116 = .ok (.getfield 109, 3) := by decide +kernel
theorem dX11_feed_119 : decode cX11_feed 119 = .ok (.ireturn, 1) := by decide +kernel
theorem dX11_end_0 : decode cX11_end 0 = .ok (.iload_n 1, 1) := by decide +kernel
theorem dX11_end_1 : decode cX11_end 1 = .ok (.ifCond .lt 11, 3) := by decide +kernel
theorem dX11_end_4 : decode cX11_end 4 = .ok (.iload_n 1, 1) := by decide +kernel
theorem dX11_end_5 : decode cX11_end 5 = .ok (.aload_n 0, 1) := by decide +kernel
theorem dX11_end_6 : decode cX11_end 6 = .ok (.getfield 109, 3) := by decide +kernel
theorem dX11_end_9 : decode cX11_end 9 = .ok (.if_icmp .le 5, 3) := by decide +kernel
theorem dX11_end_12 : decode cX11_end 12 = .ok (.iconst 0, 1) := by decide +kernel
theorem dX11_end_13 : decode cX11_end 13 = .ok (.ireturn, 1) := by decide +kernel
theorem dX11_end_14 : decode cX11_end 14 = .ok (.aload_n 0, 1) := by decide +kernel
theorem dX11_end_15 : decode cX11_end 15 = .ok (.iload_n 1, 1) := by decide +kernel
theorem dX11_end_16 : decode cX11_end 16 = .ok (.putfield 109, 3) := by decide +kernel
theorem dX11_end_19 : decode cX11_end 19 = .ok (.iconst 1, 1) := by decide +kernel
theorem dX11_end_20 : decode cX11_end 20 = .ok (.ireturn, 1) := by decide +kernel
theorem dX11_here_0 : decode cX11_here 0 = .ok (.aload_n 0, 1) := by decide +kernel
theorem dX11_here_1 : decode cX11_here 1 = .ok (.getfield 112, 3) := by decide +kernel
theorem dX11_here_4 : decode cX11_here 4 = .ok (.aload_n 0, 1) := by decide +kernel
theorem dX11_here_5 : decode cX11_here 5 = .ok (.getfield 109, 3) := by decide +kernel
theorem dX11_here_8 : decode cX11_here 8 = .ok (.if_icmp .ge 15, 3) := by decide +kernel
theorem dX11_here_11 : decode cX11_here 11 = .ok (.aload_n 0, 1) := by decide +kernel
theorem dX11_here_12 : decode cX11_here 12 = .ok (.getfield 9, 3) := by decide +kernel
theorem dX11_here_15 : decode cX11_here 15 = .ok (.aload_n 0, 1) := by decide +kernel
theorem dX11_here_16 : decode cX11_here 16 = .ok (.getfield 112, 3) := by decide +kernel
theorem dX11_here_19 : decode cX11_here 19 = .ok (.iaload, 1) := by decide +kernel
theorem dX11_here_20 : decode cX11_here 20 = .ok (.goto 4, 3) := by decide +kernel
theorem dX11_here_23 : decode cX11_here 23 = .ok (.iconst (-1), 1) := by decide +kernel
theorem dX11_here_24 : decode cX11_here 24 = .ok (.ireturn, 1) := by decide +kernel
theorem dX11_look_0 : decode cX11_look 0 = .ok (.aload_n 0, 1) := by decide +kernel
theorem dX11_look_1 : decode cX11_look 1 = .ok (.invokevirtual 115, 3) := by decide +kernel
theorem dX11_look_4 : decode cX11_look 4 = .ok (.bipush 32, 2) := by decide +kernel
theorem dX11_look_6 : decode cX11_look 6 = .ok (.if_icmp .ne 16, 3) := by decide +kernel
theorem dX11_look_9 : decode cX11_look 9 = .ok (.aload_n 0, 1) := by decide +kernel
theorem dX11_look_10 : decode cX11_look 10 = .ok (.dup, 1) := by decide +kernel
theorem dX11_look_11 : decode cX11_look 11 = .ok (.getfield 112, 3) := by decide +kernel
theorem dX11_look_14 : decode cX11_look 14 = .ok (.iconst 1, 1) := by decide +kernel
theorem dX11_look_15 : decode cX11_look 15 = .ok (.iadd, 1) := by decide +kernel
theorem dX11_look_16 : decode cX11_look 16 = .ok (.putfield 112, 3) := by decide +kernel
theorem dX11_look_19 : decode cX11_look 19 = .ok (.goto (-19), 3) := by decide +kernel
theorem dX11_look_22 : decode cX11_look 22 = .ok (.aload_n 0, 1) := by decide +kernel
theorem dX11_look_23 : decode cX11_look 23 = .ok (.invokevirtual 115, 3) := by decide +kernel
theorem dX11_look_26 : decode cX11_look 26 = .ok (.ireturn, 1) := by decide +kernel
theorem dX11_bad_0 : decode cX11_bad 0 = .ok (.aload_n 0, 1) := by decide +kernel
theorem dX11_bad_1 : decode cX11_bad 1 = .ok (.aload_n 0, 1) := by decide +kernel
theorem dX11_bad_2 : decode cX11_bad 2 = .ok (.getfield 119, 3) := by decide +kernel
theorem dX11_bad_5 : decode cX11_bad 5 = .ok (.iconst (-1), 1) := by decide +kernel
theorem dX11_bad_6 : decode cX11_bad 6 = .ok (.if_icmp .ne 10, 3) := by decide +kernel
theorem dX11_bad_9 : decode cX11_bad 9 = .ok (.aload_n 0, 1) := by decide +kernel
theorem dX11_bad_10 : decode cX11_bad 10 = .ok (.getfield 112, 3) := by decide +kernel
theorem dX11_bad_13 : decode cX11_bad 13 = .ok (.goto 7, 3) := by decide +kernel
theorem dX11_bad_16 : decode cX11_bad 16 = .ok (.aload_n 0, 1) := by decide +kernel
theorem dX11_bad_17 : decode cX11_bad 17 = .ok (.getfield 119, 3) := by decide +kernel
theorem dX11_bad_20 : decode cX11_bad 20 = .ok (.putfield 119, 3) := by decide +kernel
theorem dX11_bad_23 : decode cX11_bad 23 = .ok (.return_, 1) := by decide +kernel
theorem dX11_isDigit_0 : decode cX11_isDigit 0 = .ok (.iload_n 0, 1) := by decide +kernel
theorem dX11_isDigit_1 : decode cX11_isDigit 1 = .ok (.bipush 48, 2) := by decide +kernel
theorem dX11_isDigit_3 : decode cX11_isDigit 3 = .ok (.if_icmp .lt 13, 3) := by decide +kernel
theorem dX11_isDigit_6 : decode cX11_isDigit 6 = .ok (.iload_n 0, 1) := by decide +kernel
theorem dX11_isDigit_7 : decode cX11_isDigit 7 = .ok (.bipush 57, 2) := by decide +kernel
theorem dX11_isDigit_9 : decode cX11_isDigit 9 = .ok (.if_icmp .gt 7, 3) := by decide +kernel
theorem dX11_isDigit_12 : decode cX11_isDigit 12 = .ok (.iconst 1, 1) := by decide +kernel
theorem dX11_isDigit_13 : decode cX11_isDigit 13 = .ok (.goto 4, 3) := by decide +kernel
theorem dX11_isDigit_16 : decode cX11_isDigit 16 = .ok (.iconst 0, 1) := by decide +kernel
theorem dX11_isDigit_17 : decode cX11_isDigit 17 = .ok (.ireturn, 1) := by decide +kernel
theorem dX11_put_0 : decode cX11_put 0 = .ok (.aload_n 0, 1) := by decide +kernel
theorem dX11_put_1 : decode cX11_put 1 = .ok (.getfield 13, 3) := by decide +kernel
theorem dX11_put_4 : decode cX11_put 4 = .ok (.sipush 520, 3) := by decide +kernel
theorem dX11_put_7 : decode cX11_put 7 = .ok (.aload_n 0, 1) := by decide +kernel
theorem dX11_put_8 : decode cX11_put 8 = .ok (.getfield 122, 3) := by decide +kernel
theorem dX11_put_11 : decode cX11_put 11 = .ok (.imul, 1) := by decide +kernel
theorem dX11_put_12 : decode cX11_put 12 = .ok (.aload_n 0, 1) := by decide +kernel
theorem dX11_put_13 : decode cX11_put 13 = .ok (.getfield 19, 3) := by decide +kernel
theorem dX11_put_16 : decode cX11_put 16 = .ok (.aload_n 0, 1) := by decide +kernel
theorem dX11_put_17 : decode cX11_put 17 = .ok (.getfield 122, 3) := by decide +kernel
theorem dX11_put_20 : decode cX11_put 20 = .ok (.iaload, 1) := by decide +kernel
theorem dX11_put_21 : decode cX11_put 21 = .ok (.iadd, 1) := by decide +kernel
theorem dX11_put_22 : decode cX11_put 22 = .ok (.iload_n 1, 1) := by decide +kernel
theorem dX11_put_23 : decode cX11_put 23 = .ok (.iastore, 1) := by decide +kernel
theorem dX11_put_24 : decode cX11_put 24 = .ok (.aload_n 0, 1) := by decide +kernel
theorem dX11_put_25 : decode cX11_put 25 = .ok (.getfield 16, 3) := by decide +kernel
theorem dX11_put_28 : decode cX11_put 28 = .ok (.sipush 520, 3) := by decide +kernel
theorem dX11_put_31 : decode cX11_put 31 = .ok (.aload_n 0, 1) := by decide +kernel
theorem dX11_put_32 : decode cX11_put 32 = .ok (.getfield 122, 3) := by decide +kernel
theorem dX11_put_35 : decode cX11_put 35 = .ok (.imul, 1) := by decide +kernel
theorem dX11_put_36 : decode cX11_put 36 = .ok (.aload_n 0, 1) := by decide +kernel
theorem dX11_put_37 : decode cX11_put 37 = .ok (.getfield 19, 3) := by decide +kernel
theorem dX11_put_40 : decode cX11_put 40 = .ok (.aload_n 0, 1) := by decide +kernel
theorem dX11_put_41 : decode cX11_put 41 = .ok (.getfield 122, 3) := by decide +kernel
theorem dX11_put_44 : decode cX11_put 44 = .ok (.iaload, 1) := by decide +kernel
theorem dX11_put_45 : decode cX11_put 45 = .ok (.iadd, 1) := by decide +kernel
theorem dX11_put_46 : decode cX11_put 46 = .ok (.iload_n 2, 1) := by decide +kernel
theorem dX11_put_47 : decode cX11_put 47 = .ok (.iastore, 1) := by decide +kernel
theorem dX11_put_48 : decode cX11_put 48 = .ok (.aload_n 0, 1) := by decide +kernel
theorem dX11_put_49 : decode cX11_put 49 = .ok (.getfield 19, 3) := by decide +kernel
theorem dX11_put_52 : decode cX11_put 52 = .ok (.aload_n 0, 1) := by decide +kernel
theorem dX11_put_53 : decode cX11_put 53 = .ok (.getfield 122, 3) := by decide +kernel
theorem dX11_put_56 : decode cX11_put 56 = .ok (.dup2, 1) := by decide +kernel
theorem dX11_put_57 : decode cX11_put 57 = .ok (.iaload, 1) := by decide +kernel
theorem dX11_put_58 : decode cX11_put 58 = .ok (.iconst 1, 1) := by decide +kernel
theorem dX11_put_59 : decode cX11_put 59 = .ok (.iadd, 1) := by decide +kernel
theorem dX11_put_60 : decode cX11_put 60 = .ok (.iastore, 1) := by decide +kernel
theorem dX11_put_61 : decode cX11_put 61 = .ok (.return_, 1) := by decide +kernel
theorem dX11_letterOf_0 : decode cX11_letterOf 0 = .ok (.iload_n 0, 1) := by decide +kernel
theorem dX11_letterOf_1 : decode cX11_letterOf 1 = .ok (.bipush 118, 2) := by decide +kernel
theorem dX11_letterOf_3 : decode cX11_letterOf 3 = .ok (.if_icmp .ne 7, 3) := by decide +kernel
theorem dX11_letterOf_6 : decode cX11_letterOf 6 = .ok (.iconst 0, 1) := by decide +kernel
theorem dX11_letterOf_7 : decode cX11_letterOf 7 = .ok (.goto 54, 3) := by decide +kernel
theorem dX11_letterOf_10 : decode cX11_letterOf 10 = .ok (.iload_n 0, 1) := by decide +kernel
theorem dX11_letterOf_11 : decode cX11_letterOf 11 = .ok (.bipush 107, 2) := by decide +kernel
theorem dX11_letterOf_13 : decode cX11_letterOf 13 = .ok (.if_icmp .ne 7, 3) := by decide +kernel
theorem dX11_letterOf_16 : decode cX11_letterOf 16 = .ok (.iconst 1, 1) := by decide +kernel
theorem dX11_letterOf_17 : decode cX11_letterOf 17 = .ok (.goto 44, 3) := by decide +kernel
theorem dX11_letterOf_20 : decode cX11_letterOf 20 = .ok (.iload_n 0, 1) := by decide +kernel
theorem dX11_letterOf_21 : decode cX11_letterOf 21 = .ok (.bipush 103, 2) := by decide +kernel
theorem dX11_letterOf_23 : decode cX11_letterOf 23 = .ok (.if_icmp .ne 7, 3) := by decide +kernel
theorem dX11_letterOf_26 : decode cX11_letterOf 26 = .ok (.iconst 2, 1) := by decide +kernel
theorem dX11_letterOf_27 : decode cX11_letterOf 27 = .ok (.goto 34, 3) := by decide +kernel
theorem dX11_letterOf_30 : decode cX11_letterOf 30 = .ok (.iload_n 0, 1) := by decide +kernel
theorem dX11_letterOf_31 : decode cX11_letterOf 31 = .ok (.bipush 108, 2) := by decide +kernel
theorem dX11_letterOf_33 : decode cX11_letterOf 33 = .ok (.if_icmp .ne 7, 3) := by decide +kernel
theorem dX11_letterOf_36 : decode cX11_letterOf 36 = .ok (.iconst 3, 1) := by decide +kernel
theorem dX11_letterOf_37 : decode cX11_letterOf 37 = .ok (.goto 24, 3) := by decide +kernel
theorem dX11_letterOf_40 : decode cX11_letterOf 40 = .ok (.iload_n 0, 1) := by decide +kernel
theorem dX11_letterOf_41 : decode cX11_letterOf 41 = .ok (.bipush 121, 2) := by decide +kernel
theorem dX11_letterOf_43 : decode cX11_letterOf 43 = .ok (.if_icmp .ne 7, 3) := by decide +kernel
theorem dX11_letterOf_46 : decode cX11_letterOf 46 = .ok (.iconst 4, 1) := by decide +kernel
theorem dX11_letterOf_47 : decode cX11_letterOf 47 = .ok (.goto 14, 3) := by decide +kernel
theorem dX11_letterOf_50 : decode cX11_letterOf 50 = .ok (.iload_n 0, 1) := by decide +kernel
theorem dX11_letterOf_51 : decode cX11_letterOf 51 = .ok (.bipush 99, 2) := by decide +kernel
theorem dX11_letterOf_53 : decode cX11_letterOf 53 = .ok (.if_icmp .ne 7, 3) := by decide +kernel
theorem dX11_letterOf_56 : decode cX11_letterOf 56 = .ok (.iconst 5, 1) := by decide +kernel
theorem dX11_letterOf_57 : decode cX11_letterOf 57 = .ok (.goto 4, 3) := by decide +kernel
theorem dX11_letterOf_60 : decode cX11_letterOf 60 = .ok (.iconst (-1), 1) := by decide +kernel
theorem dX11_letterOf_61 : decode cX11_letterOf 61 = .ok (.ireturn, 1) := by decide +kernel
theorem dX11_opens_0 : decode cX11_opens 0 = .ok (.aload_n 0, 1) := by decide +kernel
theorem dX11_opens_1 : decode cX11_opens 1 = .ok (.getfield 125, 3) := by decide +kernel
theorem dX11_opens_4 : decode cX11_opens 4 = .ok (.bipush 6, 2) := by decide +kernel
theorem dX11_opens_6 : decode cX11_opens 6 = .ok (.if_icmp .ne 7, 3) := by decide +kernel
theorem dX11_opens_9 : decode cX11_opens 9 = .ok (.aload_n 0, 1) := by decide +kernel
theorem dX11_opens_10 : decode cX11_opens 10 = .ok (.invokevirtual 128, 3) := by decide +kernel
theorem dX11_opens_13 : decode cX11_opens 13 = .ok (.aload_n 0, 1) := by decide +kernel
theorem dX11_opens_14 : decode cX11_opens 14 = .ok (.dup, 1) := by decide +kernel
theorem dX11_opens_15 : decode cX11_opens 15 = .ok (.getfield 125, 3) := by decide +kernel
theorem dX11_opens_18 : decode cX11_opens 18 = .ok (.iconst 1, 1) := by decide +kernel
theorem dX11_opens_19 : decode cX11_opens 19 = .ok (.iadd, 1) := by decide +kernel
theorem dX11_opens_20 : decode cX11_opens 20 = .ok (.putfield 125, 3) := by decide +kernel
theorem dX11_opens_23 : decode cX11_opens 23 = .ok (.aload_n 0, 1) := by decide +kernel
theorem dX11_opens_24 : decode cX11_opens 24 = .ok (.dup, 1) := by decide +kernel
theorem dX11_opens_25 : decode cX11_opens 25 = .ok (.getfield 112, 3) := by decide +kernel
theorem dX11_opens_28 : decode cX11_opens 28 = .ok (.iconst 1, 1) := by decide +kernel
theorem dX11_opens_29 : decode cX11_opens 29 = .ok (.iadd, 1) := by decide +kernel
theorem dX11_opens_30 : decode cX11_opens 30 = .ok (.putfield 112, 3) := by decide +kernel
theorem dX11_opens_33 : decode cX11_opens 33 = .ok (.return_, 1) := by decide +kernel
theorem dX11_closes_0 : decode cX11_closes 0 = .ok (.aload_n 0, 1) := by decide +kernel
theorem dX11_closes_1 : decode cX11_closes 1 = .ok (.getfield 119, 3) := by decide +kernel
theorem dX11_closes_4 : decode cX11_closes 4 = .ok (.iconst (-1), 1) := by decide +kernel
theorem dX11_closes_5 : decode cX11_closes 5 = .ok (.if_icmp .ne 15, 3) := by decide +kernel
theorem dX11_closes_8 : decode cX11_closes 8 = .ok (.aload_n 0, 1) := by decide +kernel
theorem dX11_closes_9 : decode cX11_closes 9 = .ok (.invokevirtual 131, 3) := by decide +kernel
theorem dX11_closes_12 : decode cX11_closes 12 = .ok (.iload_n 1, 1) := by decide +kernel
theorem dX11_closes_13 : decode cX11_closes 13 = .ok (.if_icmp .eq 7, 3) := by decide +kernel
theorem dX11_closes_16 : decode cX11_closes 16 = .ok (.aload_n 0, 1) := by decide +kernel
theorem dX11_closes_17 : decode cX11_closes 17 = .ok (.invokevirtual 128, 3) := by decide +kernel
theorem dX11_closes_20 : decode cX11_closes 20 = .ok (.aload_n 0, 1) := by decide +kernel
theorem dX11_closes_21 : decode cX11_closes 21 = .ok (.dup, 1) := by decide +kernel
theorem dX11_closes_22 : decode cX11_closes 22 = .ok (.getfield 112, 3) := by decide +kernel
theorem dX11_closes_25 : decode cX11_closes 25 = .ok (.iconst 1, 1) := by decide +kernel
theorem dX11_closes_26 : decode cX11_closes 26 = .ok (.iadd, 1) := by decide +kernel
theorem dX11_closes_27 : decode cX11_closes 27 = .ok (.putfield 112, 3) := by decide +kernel
theorem dX11_closes_30 : decode cX11_closes 30 = .ok (.aload_n 0, 1) := by decide +kernel
theorem dX11_closes_31 : decode cX11_closes 31 = .ok (.dup, 1) := by decide +kernel
theorem dX11_closes_32 : decode cX11_closes 32 = .ok (.getfield 125, 3) := by decide +kernel
theorem dX11_closes_35 : decode cX11_closes 35 = .ok (.iconst 1, 1) := by decide +kernel
theorem dX11_closes_36 : decode cX11_closes 36 = .ok (.isub, 1) := by decide +kernel
theorem dX11_closes_37 : decode cX11_closes 37 = .ok (.putfield 125, 3) := by decide +kernel
theorem dX11_closes_40 : decode cX11_closes 40 = .ok (.return_, 1) := by decide +kernel
theorem dX11_plainNumber_0 : decode cX11_plainNumber 0 = .ok (.iconst 0, 1) := by decide +kernel
theorem dX11_plainNumber_1 : decode cX11_plainNumber 1 = .ok (.istore_n 1, 1) := by decide +kernel
theorem dX11_plainNumber_2 : decode cX11_plainNumber 2 = .ok (.iconst 0, 1) := by decide +kernel
theorem dX11_plainNumber_3 : decode cX11_plainNumber 3 = .ok (.istore_n 2, 1) := by decide +kernel
theorem dX11_plainNumber_4 : decode cX11_plainNumber 4 = .ok (.iload_n 2, 1) := by decide +kernel
theorem dX11_plainNumber_5 : decode cX11_plainNumber 5 = .ok (.iconst 4, 1) := by decide +kernel
theorem dX11_plainNumber_6 : decode cX11_plainNumber 6 = .ok (.if_icmp .ge 42, 3) := by decide +kernel
theorem dX11_plainNumber_9 : decode cX11_plainNumber 9 = .ok (.aload_n 0, 1) := by decide +kernel
theorem dX11_plainNumber_10 : decode cX11_plainNumber 10 = .ok (.invokevirtual 115, 3) := by decide +kernel
theorem dX11_plainNumber_13 : decode cX11_plainNumber 13 = .ok (.invokestatic 134, 3) := by decide +kernel
theorem dX11_plainNumber_16 : decode cX11_plainNumber 16 = .ok (.ifCond .eq 32, 3) := by decide +kernel
theorem dX11_plainNumber_19 : decode cX11_plainNumber 19 = .ok (.bipush 10, 2) := by decide +kernel
theorem dX11_plainNumber_21 : decode cX11_plainNumber 21 = .ok (.iload_n 1, 1) := by decide +kernel
theorem dX11_plainNumber_22 : decode cX11_plainNumber 22 = .ok (.imul, 1) := by decide +kernel
theorem dX11_plainNumber_23 : decode cX11_plainNumber 23 = .ok (.aload_n 0, 1) := by decide +kernel
theorem dX11_plainNumber_24 : decode cX11_plainNumber 24 = .ok (.invokevirtual 115, 3) := by decide +kernel
theorem dX11_plainNumber_27 : decode cX11_plainNumber 27 = .ok (.iadd, 1) := by decide +kernel
theorem dX11_plainNumber_28 : decode cX11_plainNumber 28 = .ok (.bipush 48, 2) := by decide +kernel
theorem dX11_plainNumber_30 : decode cX11_plainNumber 30 = .ok (.isub, 1) := by decide +kernel
theorem dX11_plainNumber_31 : decode cX11_plainNumber 31 = .ok (.istore_n 1, 1) := by decide +kernel
theorem dX11_plainNumber_32 : decode cX11_plainNumber 32 = .ok (.aload_n 0, 1) := by decide +kernel
theorem dX11_plainNumber_33 : decode cX11_plainNumber 33 = .ok (.dup, 1) := by decide +kernel
theorem dX11_plainNumber_34 : decode cX11_plainNumber 34 = .ok (.getfield 112, 3) := by decide +kernel
theorem dX11_plainNumber_37 : decode cX11_plainNumber 37 = .ok (.iconst 1, 1) := by decide +kernel
theorem dX11_plainNumber_38 : decode cX11_plainNumber 38 = .ok (.iadd, 1) := by decide +kernel
theorem dX11_plainNumber_39 : decode cX11_plainNumber 39 = .ok (.putfield 112, 3) := by decide +kernel
theorem dX11_plainNumber_42 : decode cX11_plainNumber 42 = .ok (.iinc 2 1, 3) := by decide +kernel
theorem dX11_plainNumber_45 : decode cX11_plainNumber 45 = .ok (.goto (-41), 3) := by decide +kernel
theorem dX11_plainNumber_48 : decode cX11_plainNumber 48 = .ok (.aload_n 0, 1) := by decide +kernel
theorem dX11_plainNumber_49 : decode cX11_plainNumber 49 = .ok (.invokevirtual 115, 3) := by decide +kernel
theorem dX11_plainNumber_52 : decode cX11_plainNumber 52 = .ok (.invokestatic 134, 3) := by decide +kernel
theorem dX11_plainNumber_55 : decode cX11_plainNumber 55 = .ok (.ifCond .eq 7, 3) := by decide +kernel
theorem dX11_plainNumber_58 : decode cX11_plainNumber 58 = .ok (.aload_n 0, 1) := by decide +kernel
theorem dX11_plainNumber_59 : decode cX11_plainNumber 59 = .ok (.invokevirtual 128, 3) := by decide +kernel
theorem dX11_plainNumber_62 : decode cX11_plainNumber 62 = .ok (.iload_n 1, 1) := by decide +kernel
theorem dX11_plainNumber_63 : decode cX11_plainNumber 63 = .ok (.ireturn, 1) := by decide +kernel
theorem dX11_atom_0 : decode cX11_atom 0 = .ok (.aload_n 0, 1) := by decide +kernel
theorem dX11_atom_1 : decode cX11_atom 1 = .ok (.invokevirtual 131, 3) := by decide +kernel
theorem dX11_atom_4 : decode cX11_atom 4 = .ok (.istore_n 1, 1) := by decide +kernel
theorem dX11_atom_5 : decode cX11_atom 5 = .ok (.iload_n 1, 1) := by decide +kernel
theorem dX11_atom_6 : decode cX11_atom 6 = .ok (.invokestatic 134, 3) := by decide +kernel
theorem dX11_atom_9 : decode cX11_atom 9 = .ok (.ifCond .eq 15, 3) := by decide +kernel
theorem dX11_atom_12 : decode cX11_atom 12 = .ok (.aload_n 0, 1) := by decide +kernel
theorem dX11_atom_13 : decode cX11_atom 13 = .ok (.iconst 0, 1) := by decide +kernel
theorem dX11_atom_14 : decode cX11_atom 14 = .ok (.aload_n 0, 1) := by decide +kernel
theorem dX11_atom_15 : decode cX11_atom 15 = .ok (.invokevirtual 138, 3) := by decide +kernel
theorem dX11_atom_18 : decode cX11_atom 18 = .ok (.invokevirtual 141, 3) := by decide +kernel
theorem dX11_atom_21 : decode cX11_atom 21 = .ok (.goto 68, 3) := by decide +kernel
theorem dX11_atom_24 : decode cX11_atom 24 = .ok (.iload_n 1, 1) := by decide +kernel
theorem dX11_atom_25 : decode cX11_atom 25 = .ok (.invokestatic 145, 3) := by decide +kernel
theorem dX11_atom_28 : decode cX11_atom 28 = .ok (.iconst (-1), 1) := by decide +kernel
theorem dX11_atom_29 : decode cX11_atom 29 = .ok (.if_icmp .eq 25, 3) := by decide +kernel
theorem dX11_atom_32 : decode cX11_atom 32 = .ok (.aload_n 0, 1) := by decide +kernel
theorem dX11_atom_33 : decode cX11_atom 33 = .ok (.dup, 1) := by decide +kernel
theorem dX11_atom_34 : decode cX11_atom 34 = .ok (.getfield 112, 3) := by decide +kernel
theorem dX11_atom_37 : decode cX11_atom 37 = .ok (.iconst 1, 1) := by decide +kernel
theorem dX11_atom_38 : decode cX11_atom 38 = .ok (.iadd, 1) := by decide +kernel
theorem dX11_atom_39 : decode cX11_atom 39 = .ok (.putfield 112, 3) := by decide +kernel
theorem dX11_atom_42 : decode cX11_atom 42 = .ok (.aload_n 0, 1) := by decide +kernel
theorem dX11_atom_43 : decode cX11_atom 43 = .ok (.iconst 1, 1) := by decide +kernel
theorem dX11_atom_44 : decode cX11_atom 44 = .ok (.iload_n 1, 1) := by decide +kernel
theorem dX11_atom_45 : decode cX11_atom 45 = .ok (.invokestatic 145, 3) := by decide +kernel
theorem dX11_atom_48 : decode cX11_atom 48 = .ok (.invokevirtual 141, 3) := by decide +kernel
theorem dX11_atom_51 : decode cX11_atom 51 = .ok (.goto 38, 3) := by decide +kernel
theorem dX11_atom_54 : decode cX11_atom 54 = .ok (.iload_n 1, 1) := by decide +kernel
theorem dX11_atom_55 : decode cX11_atom 55 = .ok (.bipush 91, 2) := by decide +kernel
theorem dX11_atom_57 : decode cX11_atom 57 = .ok (.if_icmp .ne 28, 3) := by decide +kernel
theorem dX11_atom_60 : decode cX11_atom 60 = .ok (.aload_n 0, 1) := by decide +kernel
theorem dX11_atom_61 : decode cX11_atom 61 = .ok (.invokevirtual 149, 3) := by decide +kernel
theorem dX11_atom_64 : decode cX11_atom 64 = .ok (.aload_n 0, 1) := by decide +kernel
theorem dX11_atom_65 : decode cX11_atom 65 = .ok (.getfield 119, 3) := by decide +kernel
theorem dX11_atom_68 : decode cX11_atom 68 = .ok (.iconst (-1), 1) := by decide +kernel
theorem dX11_atom_69 : decode cX11_atom 69 = .ok (.if_icmp .ne 20, 3) := by decide +kernel
theorem dX11_atom_72 : decode cX11_atom 72 = .ok (.aload_n 0, 1) := by decide +kernel
theorem dX11_atom_73 : decode cX11_atom 73 = .ok (.invokevirtual 152, 3) := by decide +kernel
theorem dX11_atom_76 : decode cX11_atom 76 = .ok (.aload_n 0, 1) := by decide +kernel
theorem dX11_atom_77 : decode cX11_atom 77 = .ok (.bipush 93, 2) := by decide +kernel
theorem dX11_atom_79 : decode cX11_atom 79 = .ok (.invokevirtual 155, 3) := by decide +kernel
theorem dX11_atom_82 : decode cX11_atom 82 = .ok (.goto 7, 3) := by decide +kernel
theorem dX11_atom_85 : decode cX11_atom 85 = .ok (.aload_n 0, 1) := by decide +kernel
theorem dX11_atom_86 : decode cX11_atom 86 = .ok (.invokevirtual 128, 3) := by decide +kernel
theorem dX11_atom_89 : decode cX11_atom 89 = .ok (.return_, 1) := by decide +kernel
theorem dX11_term_0 : decode cX11_term 0 = .ok (.aload_n 0, 1) := by decide +kernel
theorem dX11_term_1 : decode cX11_term 1 = .ok (.invokevirtual 159, 3) := by decide +kernel
theorem dX11_term_4 : decode cX11_term 4 = .ok (.aload_n 0, 1) := by decide +kernel
theorem dX11_term_5 : decode cX11_term 5 = .ok (.getfield 119, 3) := by decide +kernel
theorem dX11_term_8 : decode cX11_term 8 = .ok (.iconst (-1), 1) := by decide +kernel
theorem dX11_term_9 : decode cX11_term 9 = .ok (.if_icmp .ne 10, 3) := by decide +kernel
theorem dX11_term_12 : decode cX11_term 12 = .ok (.aload_n 0, 1) := by decide +kernel
theorem dX11_term_13 : decode cX11_term 13 = .ok (.invokevirtual 131, 3) := by decide +kernel
theorem dX11_term_16 : decode cX11_term 16 = .ok (.goto 4, 3) := by decide +kernel
theorem dX11_term_19 : decode cX11_term 19 = .ok (.iconst (-1), 1) := by decide +kernel
theorem dX11_term_20 : decode cX11_term 20 = .ok (.istore_n 1, 1) := by decide +kernel
theorem dX11_term_21 : decode cX11_term 21 = .ok (.iload_n 1, 1) := by decide +kernel
theorem dX11_term_22 : decode cX11_term 22 = .ok (.bipush 42, 2) := by decide +kernel
theorem dX11_term_24 : decode cX11_term 24 = .ok (.if_icmp .eq 9, 3) := by decide +kernel
theorem dX11_term_27 : decode cX11_term 27 = .ok (.iload_n 1, 1) := by decide +kernel
theorem dX11_term_28 : decode cX11_term 28 = .ok (.bipush 47, 2) := by decide +kernel
theorem dX11_term_30 : decode cX11_term 30 = .ok (.if_icmp .ne 53, 3) := by decide +kernel
theorem dX11_term_33 : decode cX11_term 33 = .ok (.aload_n 0, 1) := by decide +kernel
theorem dX11_term_34 : decode cX11_term 34 = .ok (.dup, 1) := by decide +kernel
theorem dX11_term_35 : decode cX11_term 35 = .ok (.getfield 112, 3) := by decide +kernel
theorem dX11_term_38 : decode cX11_term 38 = .ok (.iconst 1, 1) := by decide +kernel
theorem dX11_term_39 : decode cX11_term 39 = .ok (.iadd, 1) := by decide +kernel
theorem dX11_term_40 : decode cX11_term 40 = .ok (.putfield 112, 3) := by decide +kernel
theorem dX11_term_43 : decode cX11_term 43 = .ok (.aload_n 0, 1) := by decide +kernel
theorem dX11_term_44 : decode cX11_term 44 = .ok (.invokevirtual 159, 3) := by decide +kernel
theorem dX11_term_47 : decode cX11_term 47 = .ok (.aload_n 0, 1) := by decide +kernel
theorem dX11_term_48 : decode cX11_term 48 = .ok (.iload_n 1, 1) := by decide +kernel
theorem dX11_term_49 : decode cX11_term 49 = .ok (.bipush 42, 2) := by decide +kernel
theorem dX11_term_51 : decode cX11_term 51 = .ok (.if_icmp .ne 7, 3) := by decide +kernel
theorem dX11_term_54 : decode cX11_term 54 = .ok (.iconst 4, 1) := by decide +kernel
theorem dX11_term_55 : decode cX11_term 55 = .ok (.goto 4, 3) := by decide +kernel
theorem dX11_term_58 : decode cX11_term 58 = .ok (.iconst 5, 1) := by decide +kernel
theorem dX11_term_59 : decode cX11_term 59 = .ok (.iconst 0, 1) := by decide +kernel
theorem dX11_term_60 : decode cX11_term 60 = .ok (.invokevirtual 141, 3) := by decide +kernel
theorem dX11_term_63 : decode cX11_term 63 = .ok (.aload_n 0, 1) := by decide +kernel
theorem dX11_term_64 : decode cX11_term 64 = .ok (.getfield 119, 3) := by decide +kernel
theorem dX11_term_67 : decode cX11_term 67 = .ok (.iconst (-1), 1) := by decide +kernel
theorem dX11_term_68 : decode cX11_term 68 = .ok (.if_icmp .ne 10, 3) := by decide +kernel
theorem dX11_term_71 : decode cX11_term 71 = .ok (.aload_n 0, 1) := by decide +kernel
theorem dX11_term_72 : decode cX11_term 72 = .ok (.invokevirtual 131, 3) := by decide +kernel
theorem dX11_term_75 : decode cX11_term 75 = .ok (.goto 4, 3) := by decide +kernel
theorem dX11_term_78 : decode cX11_term 78 = .ok (.iconst (-1), 1) := by decide +kernel
theorem dX11_term_79 : decode cX11_term 79 = .ok (.istore_n 1, 1) := by decide +kernel
theorem dX11_term_80 : decode cX11_term 80 = .ok (.goto (-59), 3) := by decide +kernel
theorem dX11_term_83 : decode cX11_term 83 = .ok (.return_, 1) := by decide +kernel
theorem dX11_sum_0 : decode cX11_sum 0 = .ok (.aload_n 0, 1) := by decide +kernel
theorem dX11_sum_1 : decode cX11_sum 1 = .ok (.invokevirtual 162, 3) := by decide +kernel
theorem dX11_sum_4 : decode cX11_sum 4 = .ok (.aload_n 0, 1) := by decide +kernel
theorem dX11_sum_5 : decode cX11_sum 5 = .ok (.getfield 119, 3) := by decide +kernel
theorem dX11_sum_8 : decode cX11_sum 8 = .ok (.iconst (-1), 1) := by decide +kernel
theorem dX11_sum_9 : decode cX11_sum 9 = .ok (.if_icmp .ne 10, 3) := by decide +kernel
theorem dX11_sum_12 : decode cX11_sum 12 = .ok (.aload_n 0, 1) := by decide +kernel
theorem dX11_sum_13 : decode cX11_sum 13 = .ok (.invokevirtual 131, 3) := by decide +kernel
theorem dX11_sum_16 : decode cX11_sum 16 = .ok (.goto 4, 3) := by decide +kernel
theorem dX11_sum_19 : decode cX11_sum 19 = .ok (.iconst (-1), 1) := by decide +kernel
theorem dX11_sum_20 : decode cX11_sum 20 = .ok (.istore_n 1, 1) := by decide +kernel
theorem dX11_sum_21 : decode cX11_sum 21 = .ok (.iload_n 1, 1) := by decide +kernel
theorem dX11_sum_22 : decode cX11_sum 22 = .ok (.bipush 43, 2) := by decide +kernel
theorem dX11_sum_24 : decode cX11_sum 24 = .ok (.if_icmp .eq 9, 3) := by decide +kernel
theorem dX11_sum_27 : decode cX11_sum 27 = .ok (.iload_n 1, 1) := by decide +kernel
theorem dX11_sum_28 : decode cX11_sum 28 = .ok (.bipush 45, 2) := by decide +kernel
theorem dX11_sum_30 : decode cX11_sum 30 = .ok (.if_icmp .ne 53, 3) := by decide +kernel
theorem dX11_sum_33 : decode cX11_sum 33 = .ok (.aload_n 0, 1) := by decide +kernel
theorem dX11_sum_34 : decode cX11_sum 34 = .ok (.dup, 1) := by decide +kernel
theorem dX11_sum_35 : decode cX11_sum 35 = .ok (.getfield 112, 3) := by decide +kernel
theorem dX11_sum_38 : decode cX11_sum 38 = .ok (.iconst 1, 1) := by decide +kernel
theorem dX11_sum_39 : decode cX11_sum 39 = .ok (.iadd, 1) := by decide +kernel
theorem dX11_sum_40 : decode cX11_sum 40 = .ok (.putfield 112, 3) := by decide +kernel
theorem dX11_sum_43 : decode cX11_sum 43 = .ok (.aload_n 0, 1) := by decide +kernel
theorem dX11_sum_44 : decode cX11_sum 44 = .ok (.invokevirtual 162, 3) := by decide +kernel
theorem dX11_sum_47 : decode cX11_sum 47 = .ok (.aload_n 0, 1) := by decide +kernel
theorem dX11_sum_48 : decode cX11_sum 48 = .ok (.iload_n 1, 1) := by decide +kernel
theorem dX11_sum_49 : decode cX11_sum 49 = .ok (.bipush 43, 2) := by decide +kernel
theorem dX11_sum_51 : decode cX11_sum 51 = .ok (.if_icmp .ne 7, 3) := by decide +kernel
theorem dX11_sum_54 : decode cX11_sum 54 = .ok (.iconst 2, 1) := by decide +kernel
theorem dX11_sum_55 : decode cX11_sum 55 = .ok (.goto 4, 3) := by decide +kernel
theorem dX11_sum_58 : decode cX11_sum 58 = .ok (.iconst 3, 1) := by decide +kernel
theorem dX11_sum_59 : decode cX11_sum 59 = .ok (.iconst 0, 1) := by decide +kernel
theorem dX11_sum_60 : decode cX11_sum 60 = .ok (.invokevirtual 141, 3) := by decide +kernel
theorem dX11_sum_63 : decode cX11_sum 63 = .ok (.aload_n 0, 1) := by decide +kernel
theorem dX11_sum_64 : decode cX11_sum 64 = .ok (.getfield 119, 3) := by decide +kernel
theorem dX11_sum_67 : decode cX11_sum 67 = .ok (.iconst (-1), 1) := by decide +kernel
theorem dX11_sum_68 : decode cX11_sum 68 = .ok (.if_icmp .ne 10, 3) := by decide +kernel
theorem dX11_sum_71 : decode cX11_sum 71 = .ok (.aload_n 0, 1) := by decide +kernel
theorem dX11_sum_72 : decode cX11_sum 72 = .ok (.invokevirtual 131, 3) := by decide +kernel
theorem dX11_sum_75 : decode cX11_sum 75 = .ok (.goto 4, 3) := by decide +kernel
theorem dX11_sum_78 : decode cX11_sum 78 = .ok (.iconst (-1), 1) := by decide +kernel
theorem dX11_sum_79 : decode cX11_sum 79 = .ok (.istore_n 1, 1) := by decide +kernel
theorem dX11_sum_80 : decode cX11_sum 80 = .ok (.goto (-59), 3) := by decide +kernel
theorem dX11_sum_83 : decode cX11_sum 83 = .ok (.return_, 1) := by decide +kernel
theorem dX11_isSign_0 : decode cX11_isSign 0 = .ok (.iload_n 0, 1) := by decide +kernel
theorem dX11_isSign_1 : decode cX11_isSign 1 = .ok (.bipush 61, 2) := by decide +kernel
theorem dX11_isSign_3 : decode cX11_isSign 3 = .ok (.if_icmp .eq 15, 3) := by decide +kernel
theorem dX11_isSign_6 : decode cX11_isSign 6 = .ok (.iload_n 0, 1) := by decide +kernel
theorem dX11_isSign_7 : decode cX11_isSign 7 = .ok (.bipush 60, 2) := by decide +kernel
theorem dX11_isSign_9 : decode cX11_isSign 9 = .ok (.if_icmp .eq 9, 3) := by decide +kernel
theorem dX11_isSign_12 : decode cX11_isSign 12 = .ok (.iload_n 0, 1) := by decide +kernel
theorem dX11_isSign_13 : decode cX11_isSign 13 = .ok (.bipush 62, 2) := by decide +kernel
theorem dX11_isSign_15 : decode cX11_isSign 15 = .ok (.if_icmp .ne 7, 3) := by decide +kernel
theorem dX11_isSign_18 : decode cX11_isSign 18 = .ok (.iconst 1, 1) := by decide +kernel
theorem dX11_isSign_19 : decode cX11_isSign 19 = .ok (.goto 4, 3) := by decide +kernel
theorem dX11_isSign_22 : decode cX11_isSign 22 = .ok (.iconst 0, 1) := by decide +kernel
theorem dX11_isSign_23 : decode cX11_isSign 23 = .ok (.ireturn, 1) := by decide +kernel
theorem dX11_compare_0 : decode cX11_compare 0 = .ok (.aload_n 0, 1) := by decide +kernel
theorem dX11_compare_1 : decode cX11_compare 1 = .ok (.getfield 119, 3) := by decide +kernel
theorem dX11_compare_4 : decode cX11_compare 4 = .ok (.iconst (-1), 1) := by decide +kernel
theorem dX11_compare_5 : decode cX11_compare 5 = .ok (.if_icmp .ne 10, 3) := by decide +kernel
theorem dX11_compare_8 : decode cX11_compare 8 = .ok (.aload_n 0, 1) := by decide +kernel
theorem dX11_compare_9 : decode cX11_compare 9 = .ok (.invokevirtual 131, 3) := by decide +kernel
theorem dX11_compare_12 : decode cX11_compare 12 = .ok (.goto 4, 3) := by decide +kernel
theorem dX11_compare_15 : decode cX11_compare 15 = .ok (.iconst (-1), 1) := by decide +kernel
theorem dX11_compare_16 : decode cX11_compare 16 = .ok (.istore_n 1, 1) := by decide +kernel
theorem dX11_compare_17 : decode cX11_compare 17 = .ok (.iload_n 1, 1) := by decide +kernel
theorem dX11_compare_18 : decode cX11_compare 18 = .ok (.invokestatic 165, 3) := by decide +kernel
theorem dX11_compare_21 : decode cX11_compare 21 = .ok (.ifCond .ne 8, 3) := by decide +kernel
theorem dX11_compare_24 : decode cX11_compare 24 = .ok (.aload_n 0, 1) := by decide +kernel
theorem dX11_compare_25 : decode cX11_compare 25 = .ok (.invokevirtual 128, 3) := by decide +kernel
theorem dX11_compare_28 : decode cX11_compare 28 = .ok (.return_, 1) := by decide +kernel
theorem dX11_compare_29 : decode cX11_compare 29 = .ok (.aload_n 0, 1) := by decide +kernel
theorem dX11_compare_30 : decode cX11_compare 30 = .ok (.dup, 1) := by decide +kernel
theorem dX11_compare_31 : decode cX11_compare 31 = .ok (.getfield 112, 3) := by decide +kernel
theorem dX11_compare_34 : decode cX11_compare 34 = .ok (.iconst 1, 1) := by decide +kernel
theorem dX11_compare_35 : decode cX11_compare 35 = .ok (.iadd, 1) := by decide +kernel
theorem dX11_compare_36 : decode cX11_compare 36 = .ok (.putfield 112, 3) := by decide +kernel
theorem dX11_compare_39 : decode cX11_compare 39 = .ok (.aload_n 0, 1) := by decide +kernel
theorem dX11_compare_40 : decode cX11_compare 40 = .ok (.invokevirtual 152, 3) := by decide +kernel
theorem dX11_compare_43 : decode cX11_compare 43 = .ok (.aload_n 0, 1) := by decide +kernel
theorem dX11_compare_44 : decode cX11_compare 44 = .ok (.iload_n 1, 1) := by decide +kernel
theorem dX11_compare_45 : decode cX11_compare 45 = .ok (.bipush 61, 2) := by decide +kernel
theorem dX11_compare_47 : decode cX11_compare 47 = .ok (.if_icmp .ne 8, 3) := by decide +kernel
theorem dX11_compare_50 : decode cX11_compare 50 = .ok (.bipush 6, 2) := by decide +kernel
theorem dX11_compare_52 : decode cX11_compare 52 = .ok (.goto 16, 3) := by decide +kernel
theorem dX11_compare_55 : decode cX11_compare 55 = .ok (.iload_n 1, 1) := by decide +kernel
theorem dX11_compare_56 : decode cX11_compare 56 = .ok (.bipush 60, 2) := by decide +kernel
theorem dX11_compare_58 : decode cX11_compare 58 = .ok (.if_icmp .ne 8, 3) := by decide +kernel
theorem dX11_compare_61 : decode cX11_compare 61 = .ok (.bipush 7, 2) := by decide +kernel
theorem dX11_compare_63 : decode cX11_compare 63 = .ok (.goto 5, 3) := by decide +kernel
theorem dX11_compare_66 : decode cX11_compare 66 = .ok (.bipush 8, 2) := by decide +kernel
theorem dX11_compare_68 : decode cX11_compare 68 = .ok (.iconst 0, 1) := by decide +kernel
theorem dX11_compare_69 : decode cX11_compare 69 = .ok (.invokevirtual 141, 3) := by decide +kernel
theorem dX11_compare_72 : decode cX11_compare 72 = .ok (.return_, 1) := by decide +kernel
theorem dX11_unit_0 : decode cX11_unit 0 = .ok (.aload_n 0, 1) := by decide +kernel
theorem dX11_unit_1 : decode cX11_unit 1 = .ok (.invokevirtual 131, 3) := by decide +kernel
theorem dX11_unit_4 : decode cX11_unit 4 = .ok (.istore_n 1, 1) := by decide +kernel
theorem dX11_unit_5 : decode cX11_unit 5 = .ok (.iload_n 1, 1) := by decide +kernel
theorem dX11_unit_6 : decode cX11_unit 6 = .ok (.bipush 33, 2) := by decide +kernel
theorem dX11_unit_8 : decode cX11_unit 8 = .ok (.if_icmp .ne 39, 3) := by decide +kernel
theorem dX11_unit_11 : decode cX11_unit 11 = .ok (.aload_n 0, 1) := by decide +kernel
theorem dX11_unit_12 : decode cX11_unit 12 = .ok (.invokevirtual 149, 3) := by decide +kernel
theorem dX11_unit_15 : decode cX11_unit 15 = .ok (.aload_n 0, 1) := by decide +kernel
theorem dX11_unit_16 : decode cX11_unit 16 = .ok (.getfield 119, 3) := by decide +kernel
theorem dX11_unit_19 : decode cX11_unit 19 = .ok (.iconst (-1), 1) := by decide +kernel
theorem dX11_unit_20 : decode cX11_unit 20 = .ok (.if_icmp .ne 74, 3) := by decide +kernel
theorem dX11_unit_23 : decode cX11_unit 23 = .ok (.aload_n 0, 1) := by decide +kernel
theorem dX11_unit_24 : decode cX11_unit 24 = .ok (.invokevirtual 168, 3) := by decide +kernel
theorem dX11_unit_27 : decode cX11_unit 27 = .ok (.aload_n 0, 1) := by decide +kernel
theorem dX11_unit_28 : decode cX11_unit 28 = .ok (.bipush 9, 2) := by decide +kernel
theorem dX11_unit_30 : decode cX11_unit 30 = .ok (.iconst 0, 1) := by decide +kernel
theorem dX11_unit_31 : decode cX11_unit 31 = .ok (.invokevirtual 141, 3) := by decide +kernel
theorem dX11_unit_34 : decode cX11_unit 34 = .ok (.aload_n 0, 1) := by decide +kernel
theorem dX11_unit_35 : decode cX11_unit 35 = .ok (.dup, 1) := by decide +kernel
theorem dX11_unit_36 : decode cX11_unit 36 = .ok (.getfield 125, 3) := by decide +kernel
theorem dX11_unit_39 : decode cX11_unit 39 = .ok (.iconst 1, 1) := by decide +kernel
theorem dX11_unit_40 : decode cX11_unit 40 = .ok (.isub, 1) := by decide +kernel
theorem dX11_unit_41 : decode cX11_unit 41 = .ok (.putfield 125, 3) := by decide +kernel
theorem dX11_unit_44 : decode cX11_unit 44 = .ok (.goto 50, 3) := by decide +kernel
theorem dX11_unit_47 : decode cX11_unit 47 = .ok (.iload_n 1, 1) := by decide +kernel
theorem dX11_unit_48 : decode cX11_unit 48 = .ok (.bipush 40, 2) := by decide +kernel
theorem dX11_unit_50 : decode cX11_unit 50 = .ok (.if_icmp .ne 28, 3) := by decide +kernel
theorem dX11_unit_53 : decode cX11_unit 53 = .ok (.aload_n 0, 1) := by decide +kernel
theorem dX11_unit_54 : decode cX11_unit 54 = .ok (.invokevirtual 149, 3) := by decide +kernel
theorem dX11_unit_57 : decode cX11_unit 57 = .ok (.aload_n 0, 1) := by decide +kernel
theorem dX11_unit_58 : decode cX11_unit 58 = .ok (.getfield 119, 3) := by decide +kernel
theorem dX11_unit_61 : decode cX11_unit 61 = .ok (.iconst (-1), 1) := by decide +kernel
theorem dX11_unit_62 : decode cX11_unit 62 = .ok (.if_icmp .ne 32, 3) := by decide +kernel
theorem dX11_unit_65 : decode cX11_unit 65 = .ok (.aload_n 0, 1) := by decide +kernel
theorem dX11_unit_66 : decode cX11_unit 66 = .ok (.invokevirtual 171, 3) := by decide +kernel
theorem dX11_unit_69 : decode cX11_unit 69 = .ok (.aload_n 0, 1) := by decide +kernel
theorem dX11_unit_70 : decode cX11_unit 70 = .ok (.bipush 41, 2) := by decide +kernel
theorem dX11_unit_72 : decode cX11_unit 72 = .ok (.invokevirtual 155, 3) := by decide +kernel
theorem dX11_unit_75 : decode cX11_unit 75 = .ok (.goto 19, 3) := by decide +kernel
theorem dX11_unit_78 : decode cX11_unit 78 = .ok (.aload_n 0, 1) := by decide +kernel
theorem dX11_unit_79 : decode cX11_unit 79 = .ok (.invokevirtual 152, 3) := by decide +kernel
theorem dX11_unit_82 : decode cX11_unit 82 = .ok (.aload_n 0, 1) := by decide +kernel
theorem dX11_unit_83 : decode cX11_unit 83 = .ok (.getfield 119, 3) := by decide +kernel
theorem dX11_unit_86 : decode cX11_unit 86 = .ok (.iconst (-1), 1) := by decide +kernel
theorem dX11_unit_87 : decode cX11_unit 87 = .ok (.if_icmp .ne 7, 3) := by decide +kernel
theorem dX11_unit_90 : decode cX11_unit 90 = .ok (.aload_n 0, 1) := by decide +kernel
theorem dX11_unit_91 : decode cX11_unit 91 = .ok (.invokevirtual 174, 3) := by decide +kernel
theorem dX11_unit_94 : decode cX11_unit 94 = .ok (.return_, 1) := by decide +kernel
theorem dX11_goOnAnd_0 : decode cX11_goOnAnd 0 = .ok (.aload_n 0, 1) := by decide +kernel
theorem dX11_goOnAnd_1 : decode cX11_goOnAnd 1 = .ok (.getfield 119, 3) := by decide +kernel
theorem dX11_goOnAnd_4 : decode cX11_goOnAnd 4 = .ok (.iconst (-1), 1) := by decide +kernel
theorem dX11_goOnAnd_5 : decode cX11_goOnAnd 5 = .ok (.if_icmp .ne 36, 3) := by decide +kernel
theorem dX11_goOnAnd_8 : decode cX11_goOnAnd 8 = .ok (.aload_n 0, 1) := by decide +kernel
theorem dX11_goOnAnd_9 : decode cX11_goOnAnd 9 = .ok (.invokevirtual 131, 3) := by decide +kernel
theorem dX11_goOnAnd_12 : decode cX11_goOnAnd 12 = .ok (.bipush 38, 2) := by decide +kernel
theorem dX11_goOnAnd_14 : decode cX11_goOnAnd 14 = .ok (.if_icmp .ne 27, 3) := by decide +kernel
theorem dX11_goOnAnd_17 : decode cX11_goOnAnd 17 = .ok (.aload_n 0, 1) := by decide +kernel
theorem dX11_goOnAnd_18 : decode cX11_goOnAnd 18 = .ok (.dup, 1) := by decide +kernel
theorem dX11_goOnAnd_19 : decode cX11_goOnAnd 19 = .ok (.getfield 112, 3) := by decide +kernel
theorem dX11_goOnAnd_22 : decode cX11_goOnAnd 22 = .ok (.iconst 1, 1) := by decide +kernel
theorem dX11_goOnAnd_23 : decode cX11_goOnAnd 23 = .ok (.iadd, 1) := by decide +kernel
theorem dX11_goOnAnd_24 : decode cX11_goOnAnd 24 = .ok (.putfield 112, 3) := by decide +kernel
theorem dX11_goOnAnd_27 : decode cX11_goOnAnd 27 = .ok (.aload_n 0, 1) := by decide +kernel
theorem dX11_goOnAnd_28 : decode cX11_goOnAnd 28 = .ok (.invokevirtual 168, 3) := by decide +kernel
theorem dX11_goOnAnd_31 : decode cX11_goOnAnd 31 = .ok (.aload_n 0, 1) := by decide +kernel
theorem dX11_goOnAnd_32 : decode cX11_goOnAnd 32 = .ok (.bipush 10, 2) := by decide +kernel
theorem dX11_goOnAnd_34 : decode cX11_goOnAnd 34 = .ok (.iconst 0, 1) := by decide +kernel
theorem dX11_goOnAnd_35 : decode cX11_goOnAnd 35 = .ok (.invokevirtual 141, 3) := by decide +kernel
theorem dX11_goOnAnd_38 : decode cX11_goOnAnd 38 = .ok (.goto (-38), 3) := by decide +kernel
theorem dX11_goOnAnd_41 : decode cX11_goOnAnd 41 = .ok (.return_, 1) := by decide +kernel
theorem dX11_goOnOr_0 : decode cX11_goOnOr 0 = .ok (.aload_n 0, 1) := by decide +kernel
theorem dX11_goOnOr_1 : decode cX11_goOnOr 1 = .ok (.getfield 119, 3) := by decide +kernel
theorem dX11_goOnOr_4 : decode cX11_goOnOr 4 = .ok (.iconst (-1), 1) := by decide +kernel
theorem dX11_goOnOr_5 : decode cX11_goOnOr 5 = .ok (.if_icmp .ne 40, 3) := by decide +kernel
theorem dX11_goOnOr_8 : decode cX11_goOnOr 8 = .ok (.aload_n 0, 1) := by decide +kernel
theorem dX11_goOnOr_9 : decode cX11_goOnOr 9 = .ok (.invokevirtual 131, 3) := by decide +kernel
theorem dX11_goOnOr_12 : decode cX11_goOnOr 12 = .ok (.bipush 124, 2) := by decide +kernel
theorem dX11_goOnOr_14 : decode cX11_goOnOr 14 = .ok (.if_icmp .ne 31, 3) := by decide +kernel
theorem dX11_goOnOr_17 : decode cX11_goOnOr 17 = .ok (.aload_n 0, 1) := by decide +kernel
theorem dX11_goOnOr_18 : decode cX11_goOnOr 18 = .ok (.dup, 1) := by decide +kernel
theorem dX11_goOnOr_19 : decode cX11_goOnOr 19 = .ok (.getfield 112, 3) := by decide +kernel
theorem dX11_goOnOr_22 : decode cX11_goOnOr 22 = .ok (.iconst 1, 1) := by decide +kernel
theorem dX11_goOnOr_23 : decode cX11_goOnOr 23 = .ok (.iadd, 1) := by decide +kernel
theorem dX11_goOnOr_24 : decode cX11_goOnOr 24 = .ok (.putfield 112, 3) := by decide +kernel
theorem dX11_goOnOr_27 : decode cX11_goOnOr 27 = .ok (.aload_n 0, 1) := by decide +kernel
theorem dX11_goOnOr_28 : decode cX11_goOnOr 28 = .ok (.invokevirtual 168, 3) := by decide +kernel
theorem dX11_goOnOr_31 : decode cX11_goOnOr 31 = .ok (.aload_n 0, 1) := by decide +kernel
theorem dX11_goOnOr_32 : decode cX11_goOnOr 32 = .ok (.invokevirtual 177, 3) := by decide +kernel
theorem dX11_goOnOr_35 : decode cX11_goOnOr 35 = .ok (.aload_n 0, 1) := by decide +kernel
theorem dX11_goOnOr_36 : decode cX11_goOnOr 36 = .ok (.bipush 11, 2) := by decide +kernel
theorem dX11_goOnOr_38 : decode cX11_goOnOr 38 = .ok (.iconst 0, 1) := by decide +kernel
theorem dX11_goOnOr_39 : decode cX11_goOnOr 39 = .ok (.invokevirtual 141, 3) := by decide +kernel
theorem dX11_goOnOr_42 : decode cX11_goOnOr 42 = .ok (.goto (-42), 3) := by decide +kernel
theorem dX11_goOnOr_45 : decode cX11_goOnOr 45 = .ok (.return_, 1) := by decide +kernel
theorem dX11_condition_0 : decode cX11_condition 0 = .ok (.aload_n 0, 1) := by decide +kernel
theorem dX11_condition_1 : decode cX11_condition 1 = .ok (.invokevirtual 168, 3) := by decide +kernel
theorem dX11_condition_4 : decode cX11_condition 4 = .ok (.aload_n 0, 1) := by decide +kernel
theorem dX11_condition_5 : decode cX11_condition 5 = .ok (.invokevirtual 177, 3) := by decide +kernel
theorem dX11_condition_8 : decode cX11_condition 8 = .ok (.aload_n 0, 1) := by decide +kernel
theorem dX11_condition_9 : decode cX11_condition 9 = .ok (.invokevirtual 180, 3) := by decide +kernel
theorem dX11_condition_12 : decode cX11_condition 12 = .ok (.return_, 1) := by decide +kernel
theorem dX11_clause_0 : decode cX11_clause 0 = .ok (.sipush 140, 3) := by decide +kernel
theorem dX11_clause_3 : decode cX11_clause 3 = .ok (.aload_n 0, 1) := by decide +kernel
theorem dX11_clause_4 : decode cX11_clause 4 = .ok (.getfield 122, 3) := by decide +kernel
theorem dX11_clause_7 : decode cX11_clause 7 = .ok (.imul, 1) := by decide +kernel
theorem dX11_clause_8 : decode cX11_clause 8 = .ok (.aload_n 0, 1) := by decide +kernel
theorem dX11_clause_9 : decode cX11_clause 9 = .ok (.getfield 22, 3) := by decide +kernel
theorem dX11_clause_12 : decode cX11_clause 12 = .ok (.aload_n 0, 1) := by decide +kernel
theorem dX11_clause_13 : decode cX11_clause 13 = .ok (.getfield 122, 3) := by decide +kernel
theorem dX11_clause_16 : decode cX11_clause 16 = .ok (.iaload, 1) := by decide +kernel
theorem dX11_clause_17 : decode cX11_clause 17 = .ok (.iadd, 1) := by decide +kernel
theorem dX11_clause_18 : decode cX11_clause 18 = .ok (.istore_n 1, 1) := by decide +kernel
theorem dX11_clause_19 : decode cX11_clause 19 = .ok (.aload_n 0, 1) := by decide +kernel
theorem dX11_clause_20 : decode cX11_clause 20 = .ok (.getfield 119, 3) := by decide +kernel
theorem dX11_clause_23 : decode cX11_clause 23 = .ok (.iconst (-1), 1) := by decide +kernel
theorem dX11_clause_24 : decode cX11_clause 24 = .ok (.if_icmp .ne 16, 3) := by decide +kernel
theorem dX11_clause_27 : decode cX11_clause 27 = .ok (.aload_n 0, 1) := by decide +kernel
theorem dX11_clause_28 : decode cX11_clause 28 = .ok (.invokevirtual 131, 3) := by decide +kernel
theorem dX11_clause_31 : decode cX11_clause 31 = .ok (.bipush 121, 2) := by decide +kernel
theorem dX11_clause_33 : decode cX11_clause 33 = .ok (.if_icmp .eq 7, 3) := by decide +kernel
theorem dX11_clause_36 : decode cX11_clause 36 = .ok (.aload_n 0, 1) := by decide +kernel
theorem dX11_clause_37 : decode cX11_clause 37 = .ok (.invokevirtual 128, 3) := by decide +kernel
theorem dX11_clause_40 : decode cX11_clause 40 = .ok (.aload_n 0, 1) := by decide +kernel
theorem dX11_clause_41 : decode cX11_clause 41 = .ok (.dup, 1) := by decide +kernel
theorem dX11_clause_42 : decode cX11_clause 42 = .ok (.getfield 112, 3) := by decide +kernel
theorem dX11_clause_45 : decode cX11_clause 45 = .ok (.iconst 1, 1) := by decide +kernel
theorem dX11_clause_46 : decode cX11_clause 46 = .ok (.iadd, 1) := by decide +kernel
theorem dX11_clause_47 : decode cX11_clause 47 = .ok (.putfield 112, 3) := by decide +kernel
theorem dX11_clause_50 : decode cX11_clause 50 = .ok (.aload_n 0, 1) := by decide +kernel
theorem dX11_clause_51 : decode cX11_clause 51 = .ok (.getfield 119, 3) := by decide +kernel
theorem dX11_clause_54 : decode cX11_clause 54 = .ok (.iconst (-1), 1) := by decide +kernel
theorem dX11_clause_55 : decode cX11_clause 55 = .ok (.if_icmp .ne 16, 3) := by decide +kernel
theorem dX11_clause_58 : decode cX11_clause 58 = .ok (.aload_n 0, 1) := by decide +kernel
theorem dX11_clause_59 : decode cX11_clause 59 = .ok (.invokevirtual 131, 3) := by decide +kernel
theorem dX11_clause_62 : decode cX11_clause 62 = .ok (.bipush 58, 2) := by decide +kernel
theorem dX11_clause_64 : decode cX11_clause 64 = .ok (.if_icmp .eq 7, 3) := by decide +kernel
theorem dX11_clause_67 : decode cX11_clause 67 = .ok (.aload_n 0, 1) := by decide +kernel
theorem dX11_clause_68 : decode cX11_clause 68 = .ok (.invokevirtual 128, 3) := by decide +kernel
theorem dX11_clause_71 : decode cX11_clause 71 = .ok (.aload_n 0, 1) := by decide +kernel
theorem dX11_clause_72 : decode cX11_clause 72 = .ok (.dup, 1) := by decide +kernel
theorem dX11_clause_73 : decode cX11_clause 73 = .ok (.getfield 112, 3) := by decide +kernel
theorem dX11_clause_76 : decode cX11_clause 76 = .ok (.iconst 1, 1) := by decide +kernel
theorem dX11_clause_77 : decode cX11_clause 77 = .ok (.iadd, 1) := by decide +kernel
theorem dX11_clause_78 : decode cX11_clause 78 = .ok (.putfield 112, 3) := by decide +kernel
theorem dX11_clause_81 : decode cX11_clause 81 = .ok (.aload_n 0, 1) := by decide +kernel
theorem dX11_clause_82 : decode cX11_clause 82 = .ok (.getfield 119, 3) := by decide +kernel
theorem dX11_clause_85 : decode cX11_clause 85 = .ok (.iconst (-1), 1) := by decide +kernel
theorem dX11_clause_86 : decode cX11_clause 86 = .ok (.if_icmp .eq 4, 3) := by decide +kernel
theorem dX11_clause_89 : decode cX11_clause 89 = .ok (.return_, 1) := by decide +kernel
theorem dX11_clause_90 : decode cX11_clause 90 = .ok (.aload_n 0, 1) := by decide +kernel
theorem dX11_clause_91 : decode cX11_clause 91 = .ok (.getfield 25, 3) := by decide +kernel
theorem dX11_clause_94 : decode cX11_clause 94 = .ok (.iload_n 1, 1) := by decide +kernel
theorem dX11_clause_95 : decode cX11_clause 95 = .ok (.aload_n 0, 1) := by decide +kernel
theorem dX11_clause_96 : decode cX11_clause 96 = .ok (.getfield 19, 3) := by decide +kernel
theorem dX11_clause_99 : decode cX11_clause 99 = .ok (.aload_n 0, 1) := by decide +kernel
theorem dX11_clause_100 : decode cX11_clause 100 = .ok (.getfield 122, 3) := by decide +kernel
theorem dX11_clause_103 : decode cX11_clause 103 = .ok (.iaload, 1) := by decide +kernel
theorem dX11_clause_104 : decode cX11_clause 104 = .ok (.iastore, 1) := by decide +kernel
theorem dX11_clause_105 : decode cX11_clause 105 = .ok (.aload_n 0, 1) := by decide +kernel
theorem dX11_clause_106 : decode cX11_clause 106 = .ok (.invokevirtual 131, 3) := by decide +kernel
theorem dX11_clause_109 : decode cX11_clause 109 = .ok (.bipush 33, 2) := by decide +kernel
theorem dX11_clause_111 : decode cX11_clause 111 = .ok (.if_icmp .eq 12, 3) := by decide +kernel
theorem dX11_clause_114 : decode cX11_clause 114 = .ok (.aload_n 0, 1) := by decide +kernel
theorem dX11_clause_115 : decode cX11_clause 115 = .ok (.invokevirtual 131, 3) := by decide +kernel
theorem dX11_clause_118 : decode cX11_clause 118 = .ok (.bipush 40, 2) := by decide +kernel
theorem dX11_clause_120 : decode cX11_clause 120 = .ok (.if_icmp .ne 7, 3) := by decide +kernel
theorem dX11_clause_123 : decode cX11_clause 123 = .ok (.iconst 1, 1) := by decide +kernel
theorem dX11_clause_124 : decode cX11_clause 124 = .ok (.goto 4, 3) := by decide +kernel
theorem dX11_clause_127 : decode cX11_clause 127 = .ok (.iconst 0, 1) := by decide +kernel
theorem dX11_clause_128 : decode cX11_clause 128 = .ok (.istore_n 2, 1) := by decide +kernel
theorem dX11_clause_129 : decode cX11_clause 129 = .ok (.iload_n 2, 1) := by decide +kernel
theorem dX11_clause_130 : decode cX11_clause 130 = .ok (.ifCond .eq 10, 3) := by decide +kernel
theorem dX11_clause_133 : decode cX11_clause 133 = .ok (.aload_n 0, 1) := by decide +kernel
theorem dX11_clause_134 : decode cX11_clause 134 = .ok (.invokevirtual 171, 3) := by decide +kernel
theorem dX11_clause_137 : decode cX11_clause 137 = .ok (.goto 47, 3) := by decide +kernel
theorem dX11_clause_140 : decode cX11_clause 140 = .ok (.aload_n 0, 1) := by decide +kernel
theorem dX11_clause_141 : decode cX11_clause 141 = .ok (.invokevirtual 152, 3) := by decide +kernel
theorem dX11_clause_144 : decode cX11_clause 144 = .ok (.aload_n 0, 1) := by decide +kernel
theorem dX11_clause_145 : decode cX11_clause 145 = .ok (.getfield 119, 3) := by decide +kernel
theorem dX11_clause_148 : decode cX11_clause 148 = .ok (.iconst (-1), 1) := by decide +kernel
theorem dX11_clause_149 : decode cX11_clause 149 = .ok (.if_icmp .ne 17, 3) := by decide +kernel
theorem dX11_clause_152 : decode cX11_clause 152 = .ok (.aload_n 0, 1) := by decide +kernel
theorem dX11_clause_153 : decode cX11_clause 153 = .ok (.invokevirtual 131, 3) := by decide +kernel
theorem dX11_clause_156 : decode cX11_clause 156 = .ok (.invokestatic 165, 3) := by decide +kernel
theorem dX11_clause_159 : decode cX11_clause 159 = .ok (.ifCond .eq 7, 3) := by decide +kernel
theorem dX11_clause_162 : decode cX11_clause 162 = .ok (.iconst 1, 1) := by decide +kernel
theorem dX11_clause_163 : decode cX11_clause 163 = .ok (.goto 4, 3) := by decide +kernel
theorem dX11_clause_166 : decode cX11_clause 166 = .ok (.iconst 0, 1) := by decide +kernel
theorem dX11_clause_167 : decode cX11_clause 167 = .ok (.istore_n 2, 1) := by decide +kernel
theorem dX11_clause_168 : decode cX11_clause 168 = .ok (.iload_n 2, 1) := by decide +kernel
theorem dX11_clause_169 : decode cX11_clause 169 = .ok (.ifCond .eq 15, 3) := by decide +kernel
theorem dX11_clause_172 : decode cX11_clause 172 = .ok (.aload_n 0, 1) := by decide +kernel
theorem dX11_clause_173 : decode cX11_clause 173 = .ok (.invokevirtual 174, 3) := by decide +kernel
theorem dX11_clause_176 : decode cX11_clause 176 = .ok (.aload_n 0, 1) := by decide +kernel
theorem dX11_clause_177 : decode cX11_clause 177 = .ok (.invokevirtual 177, 3) := by decide +kernel
theorem dX11_clause_180 : decode cX11_clause 180 = .ok (.aload_n 0, 1) := by decide +kernel
theorem dX11_clause_181 : decode cX11_clause 181 = .ok (.invokevirtual 180, 3) := by decide +kernel
theorem dX11_clause_184 : decode cX11_clause 184 = .ok (.aload_n 0, 1) := by decide +kernel
theorem dX11_clause_185 : decode cX11_clause 185 = .ok (.getfield 28, 3) := by decide +kernel
theorem dX11_clause_188 : decode cX11_clause 188 = .ok (.iload_n 1, 1) := by decide +kernel
theorem dX11_clause_189 : decode cX11_clause 189 = .ok (.aload_n 0, 1) := by decide +kernel
theorem dX11_clause_190 : decode cX11_clause 190 = .ok (.getfield 25, 3) := by decide +kernel
theorem dX11_clause_193 : decode cX11_clause 193 = .ok (.iload_n 1, 1) := by decide +kernel
theorem dX11_clause_194 : decode cX11_clause 194 = .ok (.iaload, 1) := by decide +kernel
theorem dX11_clause_195 : decode cX11_clause 195 = .ok (.iastore, 1) := by decide +kernel
theorem dX11_clause_196 : decode cX11_clause 196 = .ok (.iload_n 2, 1) := by decide +kernel
theorem dX11_clause_197 : decode cX11_clause 197 = .ok (.ifCond .eq 54, 3) := by decide +kernel
theorem dX11_clause_200 : decode cX11_clause 200 = .ok (.aload_n 0, 1) := by decide +kernel
theorem dX11_clause_201 : decode cX11_clause 201 = .ok (.getfield 119, 3) := by decide +kernel
theorem dX11_clause_204 : decode cX11_clause 204 = .ok (.iconst (-1), 1) := by decide +kernel
theorem dX11_clause_205 : decode cX11_clause 205 = .ok (.if_icmp .ne 46, 3) := by decide +kernel
theorem dX11_clause_208 : decode cX11_clause 208 = .ok (.aload_n 0, 1) := by decide +kernel
theorem dX11_clause_209 : decode cX11_clause 209 = .ok (.invokevirtual 131, 3) := by decide +kernel
theorem dX11_clause_212 : decode cX11_clause 212 = .ok (.bipush 63, 2) := by decide +kernel
theorem dX11_clause_214 : decode cX11_clause 214 = .ok (.if_icmp .eq 8, 3) := by decide +kernel
theorem dX11_clause_217 : decode cX11_clause 217 = .ok (.aload_n 0, 1) := by decide +kernel
theorem dX11_clause_218 : decode cX11_clause 218 = .ok (.invokevirtual 128, 3) := by decide +kernel
theorem dX11_clause_221 : decode cX11_clause 221 = .ok (.return_, 1) := by decide +kernel
theorem dX11_clause_222 : decode cX11_clause 222 = .ok (.aload_n 0, 1) := by decide +kernel
theorem dX11_clause_223 : decode cX11_clause 223 = .ok (.dup, 1) := by decide +kernel
theorem dX11_clause_224 : decode cX11_clause 224 = .ok (.getfield 112, 3) := by decide +kernel
theorem dX11_clause_227 : decode cX11_clause 227 = .ok (.iconst 1, 1) := by decide +kernel
theorem dX11_clause_228 : decode cX11_clause 228 = .ok (.iadd, 1) := by decide +kernel
theorem dX11_clause_229 : decode cX11_clause 229 = .ok (.putfield 112, 3) := by decide +kernel
theorem dX11_clause_232 : decode cX11_clause 232 = .ok (.aload_n 0, 1) := by decide +kernel
theorem dX11_clause_233 : decode cX11_clause 233 = .ok (.getfield 28, 3) := by decide +kernel
theorem dX11_clause_236 : decode cX11_clause 236 = .ok (.iload_n 1, 1) := by decide +kernel
theorem dX11_clause_237 : decode cX11_clause 237 = .ok (.aload_n 0, 1) := by decide +kernel
theorem dX11_clause_238 : decode cX11_clause 238 = .ok (.getfield 19, 3) := by decide +kernel
theorem dX11_clause_241 : decode cX11_clause 241 = .ok (.aload_n 0, 1) := by decide +kernel
theorem dX11_clause_242 : decode cX11_clause 242 = .ok (.getfield 122, 3) := by decide +kernel
theorem dX11_clause_245 : decode cX11_clause 245 = .ok (.iaload, 1) := by decide +kernel
theorem dX11_clause_246 : decode cX11_clause 246 = .ok (.iastore, 1) := by decide +kernel
theorem dX11_clause_247 : decode cX11_clause 247 = .ok (.aload_n 0, 1) := by decide +kernel
theorem dX11_clause_248 : decode cX11_clause 248 = .ok (.invokevirtual 152, 3) := by decide +kernel
theorem dX11_clause_251 : decode cX11_clause 251 = .ok (.aload_n 0, 1) := by decide +kernel
theorem dX11_clause_252 : decode cX11_clause 252 = .ok (.getfield 31, 3) := by decide +kernel
theorem dX11_clause_255 : decode cX11_clause 255 = .ok (.iload_n 1, 1) := by decide +kernel
theorem dX11_clause_256 : decode cX11_clause 256 = .ok (.aload_n 0, 1) := by decide +kernel
theorem dX11_clause_257 : decode cX11_clause 257 = .ok (.getfield 19, 3) := by decide +kernel
theorem dX11_clause_260 : decode cX11_clause 260 = .ok (.aload_n 0, 1) := by decide +kernel
theorem dX11_clause_261 : decode cX11_clause 261 = .ok (.getfield 122, 3) := by decide +kernel
theorem dX11_clause_264 : decode cX11_clause 264 = .ok (.iaload, 1) := by decide +kernel
theorem dX11_clause_265 : decode cX11_clause 265 = .ok (.iastore, 1) := by decide +kernel
theorem dX11_clause_266 : decode cX11_clause 266 = .ok (.aload_n 0, 1) := by decide +kernel
theorem dX11_clause_267 : decode cX11_clause 267 = .ok (.getfield 22, 3) := by decide +kernel
theorem dX11_clause_270 : decode cX11_clause 270 = .ok (.aload_n 0, 1) := by decide +kernel
theorem dX11_clause_271 : decode cX11_clause 271 = .ok (.getfield 122, 3) := by decide +kernel
theorem dX11_clause_274 : decode cX11_clause 274 = .ok (.dup2, 1) := by decide +kernel
theorem dX11_clause_275 : decode cX11_clause 275 = .ok (.iaload, 1) := by decide +kernel
theorem dX11_clause_276 : decode cX11_clause 276 = .ok (.iconst 1, 1) := by decide +kernel
theorem dX11_clause_277 : decode cX11_clause 277 = .ok (.iadd, 1) := by decide +kernel
theorem dX11_clause_278 : decode cX11_clause 278 = .ok (.iastore, 1) := by decide +kernel
theorem dX11_clause_279 : decode cX11_clause 279 = .ok (.return_, 1) := by decide +kernel
theorem dX11_open_0 : decode cX11_open 0 = .ok (.aload_n 0, 1) := by decide +kernel
theorem dX11_open_1 : decode cX11_open 1 = .ok (.iload_n 1, 1) := by decide +kernel
theorem dX11_open_2 : decode cX11_open 2 = .ok (.putfield 122, 3) := by decide +kernel
theorem dX11_open_5 : decode cX11_open 5 = .ok (.aload_n 0, 1) := by decide +kernel
theorem dX11_open_6 : decode cX11_open 6 = .ok (.iconst 0, 1) := by decide +kernel
theorem dX11_open_7 : decode cX11_open 7 = .ok (.putfield 112, 3) := by decide +kernel
theorem dX11_open_10 : decode cX11_open 10 = .ok (.aload_n 0, 1) := by decide +kernel
theorem dX11_open_11 : decode cX11_open 11 = .ok (.iconst (-1), 1) := by decide +kernel
theorem dX11_open_12 : decode cX11_open 12 = .ok (.putfield 119, 3) := by decide +kernel
theorem dX11_open_15 : decode cX11_open 15 = .ok (.aload_n 0, 1) := by decide +kernel
theorem dX11_open_16 : decode cX11_open 16 = .ok (.iconst 0, 1) := by decide +kernel
theorem dX11_open_17 : decode cX11_open 17 = .ok (.putfield 125, 3) := by decide +kernel
theorem dX11_open_20 : decode cX11_open 20 = .ok (.aload_n 0, 1) := by decide +kernel
theorem dX11_open_21 : decode cX11_open 21 = .ok (.getfield 19, 3) := by decide +kernel
theorem dX11_open_24 : decode cX11_open 24 = .ok (.iload_n 1, 1) := by decide +kernel
theorem dX11_open_25 : decode cX11_open 25 = .ok (.iconst 0, 1) := by decide +kernel
theorem dX11_open_26 : decode cX11_open 26 = .ok (.iastore, 1) := by decide +kernel
theorem dX11_open_27 : decode cX11_open 27 = .ok (.aload_n 0, 1) := by decide +kernel
theorem dX11_open_28 : decode cX11_open 28 = .ok (.getfield 22, 3) := by decide +kernel
theorem dX11_open_31 : decode cX11_open 31 = .ok (.iload_n 1, 1) := by decide +kernel
theorem dX11_open_32 : decode cX11_open 32 = .ok (.iconst 0, 1) := by decide +kernel
theorem dX11_open_33 : decode cX11_open 33 = .ok (.iastore, 1) := by decide +kernel
theorem dX11_open_34 : decode cX11_open 34 = .ok (.return_, 1) := by decide +kernel
theorem dX11_atEnd_0 : decode cX11_atEnd 0 = .ok (.aload_n 0, 1) := by decide +kernel
theorem dX11_atEnd_1 : decode cX11_atEnd 1 = .ok (.getfield 119, 3) := by decide +kernel
theorem dX11_atEnd_4 : decode cX11_atEnd 4 = .ok (.iconst (-1), 1) := by decide +kernel
theorem dX11_atEnd_5 : decode cX11_atEnd 5 = .ok (.if_icmp .ne 15, 3) := by decide +kernel
theorem dX11_atEnd_8 : decode cX11_atEnd 8 = .ok (.aload_n 0, 1) := by decide +kernel
theorem dX11_atEnd_9 : decode cX11_atEnd 9 = .ok (.invokevirtual 131, 3) := by decide +kernel
theorem dX11_atEnd_12 : decode cX11_atEnd 12 = .ok (.iconst (-1), 1) := by decide +kernel
theorem dX11_atEnd_13 : decode cX11_atEnd 13 = .ok (.if_icmp .eq 7, 3) := by decide +kernel
theorem dX11_atEnd_16 : decode cX11_atEnd 16 = .ok (.aload_n 0, 1) := by decide +kernel
theorem dX11_atEnd_17 : decode cX11_atEnd 17 = .ok (.invokevirtual 128, 3) := by decide +kernel
theorem dX11_atEnd_20 : decode cX11_atEnd 20 = .ok (.aload_n 0, 1) := by decide +kernel
theorem dX11_atEnd_21 : decode cX11_atEnd 21 = .ok (.getfield 119, 3) := by decide +kernel
theorem dX11_atEnd_24 : decode cX11_atEnd 24 = .ok (.ireturn, 1) := by decide +kernel
theorem dX11_readLaw_0 : decode cX11_readLaw 0 = .ok (.aload_n 0, 1) := by decide +kernel
theorem dX11_readLaw_1 : decode cX11_readLaw 1 = .ok (.iload_n 1, 1) := by decide +kernel
theorem dX11_readLaw_2 : decode cX11_readLaw 2 = .ok (.invokevirtual 183, 3) := by decide +kernel
theorem dX11_readLaw_5 : decode cX11_readLaw 5 = .ok (.aload_n 0, 1) := by decide +kernel
theorem dX11_readLaw_6 : decode cX11_readLaw 6 = .ok (.invokevirtual 186, 3) := by decide +kernel
theorem dX11_readLaw_9 : decode cX11_readLaw 9 = .ok (.aload_n 0, 1) := by decide +kernel
theorem dX11_readLaw_10 : decode cX11_readLaw 10 = .ok (.getfield 119, 3) := by decide +kernel
theorem dX11_readLaw_13 : decode cX11_readLaw 13 = .ok (.iconst (-1), 1) := by decide +kernel
theorem dX11_readLaw_14 : decode cX11_readLaw 14 = .ok (.if_icmp .ne 29, 3) := by decide +kernel
theorem dX11_readLaw_17 : decode cX11_readLaw 17 = .ok (.aload_n 0, 1) := by decide +kernel
theorem dX11_readLaw_18 : decode cX11_readLaw 18 = .ok (.invokevirtual 131, 3) := by decide +kernel
theorem dX11_readLaw_21 : decode cX11_readLaw 21 = .ok (.bipush 59, 2) := by decide +kernel
theorem dX11_readLaw_23 : decode cX11_readLaw 23 = .ok (.if_icmp .ne 20, 3) := by decide +kernel
theorem dX11_readLaw_26 : decode cX11_readLaw 26 = .ok (.aload_n 0, 1) := by decide +kernel
theorem dX11_readLaw_27 : decode cX11_readLaw 27 = .ok (.dup, 1) := by decide +kernel
theorem dX11_readLaw_28 : decode cX11_readLaw 28 = .ok (.getfield 112, 3) := by decide +kernel
theorem dX11_readLaw_31 : decode cX11_readLaw 31 = .ok (.iconst 1, 1) := by decide +kernel
theorem dX11_readLaw_32 : decode cX11_readLaw 32 = .ok (.iadd, 1) := by decide +kernel
theorem dX11_readLaw_33 : decode cX11_readLaw 33 = .ok (.putfield 112, 3) := by decide +kernel
theorem dX11_readLaw_36 : decode cX11_readLaw 36 = .ok (.aload_n 0, 1) := by decide +kernel
theorem dX11_readLaw_37 : decode cX11_readLaw 37 = .ok (.invokevirtual 186, 3) := by decide +kernel
theorem dX11_readLaw_40 : decode cX11_readLaw 40 = .ok (.goto (-31), 3) := by decide +kernel
theorem dX11_readLaw_43 : decode cX11_readLaw 43 = .ok (.aload_n 0, 1) := by decide +kernel
theorem dX11_readLaw_44 : decode cX11_readLaw 44 = .ok (.invokevirtual 189, 3) := by decide +kernel
theorem dX11_readLaw_47 : decode cX11_readLaw 47 = .ok (.ireturn, 1) := by decide +kernel
theorem dX11_bounded_0 : decode cX11_bounded 0 = .ok (.ldc2_w 192, 3) := by decide +kernel
theorem dX11_bounded_3 : decode cX11_bounded 3 = .ok (.ldc2_w 194, 3) := by decide +kernel
theorem dX11_bounded_6 : decode cX11_bounded 6 = .ok (.lload_n 0, 1) := by decide +kernel
theorem dX11_bounded_7 : decode cX11_bounded 7 = .ok (.invokestatic 196, 3) := by decide +kernel
theorem dX11_bounded_10 : decode cX11_bounded 10 = .ok (.invokestatic 202, 3) := by decide +kernel
theorem dX11_bounded_13 : decode cX11_bounded 13 = .ok (.l2i, 1) := by decide +kernel
theorem dX11_bounded_14 : decode cX11_bounded 14 = .ok (.ireturn, 1) := by decide +kernel
theorem dX11_worked_0 : decode cX11_worked 0 = .ok (.iload_n 0, 1) := by decide +kernel
theorem dX11_worked_1 : decode cX11_worked 1 = .ok (.tableswitch 143 2 10 #[51, 58, 65, 72, 89, 101, 113, 143, 125], 51) := by decide +kernel
theorem dX11_worked_52 : decode cX11_worked 52 = .ok (.lload_n 1, 1) := by decide +kernel
theorem dX11_worked_53 : decode cX11_worked 53 = .ok (.lload_n 3, 1) := by decide +kernel
theorem dX11_worked_54 : decode cX11_worked 54 = .ok (.ladd, 1) := by decide +kernel
theorem dX11_worked_55 : decode cX11_worked 55 = .ok (.invokestatic 205, 3) := by decide +kernel
theorem dX11_worked_58 : decode cX11_worked 58 = .ok (.ireturn, 1) := by decide +kernel
theorem dX11_worked_59 : decode cX11_worked 59 = .ok (.lload_n 1, 1) := by decide +kernel
theorem dX11_worked_60 : decode cX11_worked 60 = .ok (.lload_n 3, 1) := by decide +kernel
theorem dX11_worked_61 : decode cX11_worked 61 = .ok (.lsub, 1) := by decide +kernel
theorem dX11_worked_62 : decode cX11_worked 62 = .ok (.invokestatic 205, 3) := by decide +kernel
theorem dX11_worked_65 : decode cX11_worked 65 = .ok (.ireturn, 1) := by decide +kernel
theorem dX11_worked_66 : decode cX11_worked 66 = .ok (.lload_n 1, 1) := by decide +kernel
theorem dX11_worked_67 : decode cX11_worked 67 = .ok (.lload_n 3, 1) := by decide +kernel
theorem dX11_worked_68 : decode cX11_worked 68 = .ok (.lmul, 1) := by decide +kernel
theorem dX11_worked_69 : decode cX11_worked 69 = .ok (.invokestatic 205, 3) := by decide +kernel
theorem dX11_worked_72 : decode cX11_worked 72 = .ok (.ireturn, 1) := by decide +kernel
theorem dX11_worked_73 : decode cX11_worked 73 = .ok (.lload_n 3, 1) := by decide +kernel
theorem dX11_worked_74 : decode cX11_worked 74 = .ok (.lconst 0, 1) := by decide +kernel
theorem dX11_worked_75 : decode cX11_worked 75 = .ok (.lcmp, 1) := by decide +kernel
theorem dX11_worked_76 : decode cX11_worked 76 = .ok (.ifCond .ne 7, 3) := by decide +kernel
theorem dX11_worked_79 : decode cX11_worked 79 = .ok (.iconst 0, 1) := by decide +kernel
theorem dX11_worked_80 : decode cX11_worked 80 = .ok (.goto 9, 3) := by decide +kernel
theorem dX11_worked_83 : decode cX11_worked 83 = .ok (.lload_n 1, 1) := by decide +kernel
theorem dX11_worked_84 : decode cX11_worked 84 = .ok (.lload_n 3, 1) := by decide +kernel
theorem dX11_worked_85 : decode cX11_worked 85 = .ok (.ldiv, 1) := by decide +kernel
theorem dX11_worked_86 : decode cX11_worked 86 = .ok (.invokestatic 205, 3) := by decide +kernel
theorem dX11_worked_89 : decode cX11_worked 89 = .ok (.ireturn, 1) := by decide +kernel
theorem dX11_worked_90 : decode cX11_worked 90 = .ok (.lload_n 1, 1) := by decide +kernel
theorem dX11_worked_91 : decode cX11_worked 91 = .ok (.lload_n 3, 1) := by decide +kernel
theorem dX11_worked_92 : decode cX11_worked 92 = .ok (.lcmp, 1) := by decide +kernel
theorem dX11_worked_93 : decode cX11_worked 93 = .ok (.ifCond .ne 7, 3) := by decide +kernel
theorem dX11_worked_96 : decode cX11_worked 96 = .ok (.iconst 1, 1) := by decide +kernel
theorem dX11_worked_97 : decode cX11_worked 97 = .ok (.goto 4, 3) := by decide +kernel
theorem dX11_worked_100 : decode cX11_worked 100 = .ok (.iconst 0, 1) := by decide +kernel
theorem dX11_worked_101 : decode cX11_worked 101 = .ok (.ireturn, 1) := by decide +kernel
theorem dX11_worked_102 : decode cX11_worked 102 = .ok (.lload_n 1, 1) := by decide +kernel
theorem dX11_worked_103 : decode cX11_worked 103 = .ok (.lload_n 3, 1) := by decide +kernel
theorem dX11_worked_104 : decode cX11_worked 104 = .ok (.lcmp, 1) := by decide +kernel
theorem dX11_worked_105 : decode cX11_worked 105 = .ok (.ifCond .ge 7, 3) := by decide +kernel
theorem dX11_worked_108 : decode cX11_worked 108 = .ok (.iconst 1, 1) := by decide +kernel
theorem dX11_worked_109 : decode cX11_worked 109 = .ok (.goto 4, 3) := by decide +kernel
theorem dX11_worked_112 : decode cX11_worked 112 = .ok (.iconst 0, 1) := by decide +kernel
theorem dX11_worked_113 : decode cX11_worked 113 = .ok (.ireturn, 1) := by decide +kernel
theorem dX11_worked_114 : decode cX11_worked 114 = .ok (.lload_n 1, 1) := by decide +kernel
theorem dX11_worked_115 : decode cX11_worked 115 = .ok (.lload_n 3, 1) := by decide +kernel
theorem dX11_worked_116 : decode cX11_worked 116 = .ok (.lcmp, 1) := by decide +kernel
theorem dX11_worked_117 : decode cX11_worked 117 = .ok (.ifCond .le 7, 3) := by decide +kernel
theorem dX11_worked_120 : decode cX11_worked 120 = .ok (.iconst 1, 1) := by decide +kernel
theorem dX11_worked_121 : decode cX11_worked 121 = .ok (.goto 4, 3) := by decide +kernel
theorem dX11_worked_124 : decode cX11_worked 124 = .ok (.iconst 0, 1) := by decide +kernel
theorem dX11_worked_125 : decode cX11_worked 125 = .ok (.ireturn, 1) := by decide +kernel
theorem dX11_worked_126 : decode cX11_worked 126 = .ok (.lload_n 1, 1) := by decide +kernel
theorem dX11_worked_127 : decode cX11_worked 127 = .ok (.lconst 0, 1) := by decide +kernel
theorem dX11_worked_128 : decode cX11_worked 128 = .ok (.lcmp, 1) := by decide +kernel
theorem dX11_worked_129 : decode cX11_worked 129 = .ok (.ifCond .eq 13, 3) := by decide +kernel
theorem dX11_worked_132 : decode cX11_worked 132 = .ok (.lload_n 3, 1) := by decide +kernel
theorem dX11_worked_133 : decode cX11_worked 133 = .ok (.lconst 0, 1) := by decide +kernel
theorem dX11_worked_134 : decode cX11_worked 134 = .ok (.lcmp, 1) := by decide +kernel
theorem dX11_worked_135 : decode cX11_worked 135 = .ok (.ifCond .eq 7, 3) := by decide +kernel
theorem dX11_worked_138 : decode cX11_worked 138 = .ok (.iconst 1, 1) := by decide +kernel
theorem dX11_worked_139 : decode cX11_worked 139 = .ok (.goto 4, 3) := by decide +kernel
theorem dX11_worked_142 : decode cX11_worked 142 = .ok (.iconst 0, 1) := by decide +kernel
theorem dX11_worked_143 : decode cX11_worked 143 = .ok (.ireturn, 1) := by decide +kernel
theorem dX11_worked_144 : decode cX11_worked 144 = .ok (.lload_n 1, 1) := by decide +kernel
theorem dX11_worked_145 : decode cX11_worked 145 = .ok (.lconst 0, 1) := by decide +kernel
theorem dX11_worked_146 : decode cX11_worked 146 = .ok (.lcmp, 1) := by decide +kernel
theorem dX11_worked_147 : decode cX11_worked 147 = .ok (.ifCond .ne 9, 3) := by decide +kernel
theorem dX11_worked_150 : decode cX11_worked 150 = .ok (.lload_n 3, 1) := by decide +kernel
theorem dX11_worked_151 : decode cX11_worked 151 = .ok (.lconst 0, 1) := by decide +kernel
theorem dX11_worked_152 : decode cX11_worked 152 = .ok (.lcmp, 1) := by decide +kernel
theorem dX11_worked_153 : decode cX11_worked 153 = .ok (.ifCond .eq 7, 3) := by decide +kernel
theorem dX11_worked_156 : decode cX11_worked 156 = .ok (.iconst 1, 1) := by decide +kernel
theorem dX11_worked_157 : decode cX11_worked 157 = .ok (.goto 4, 3) := by decide +kernel
theorem dX11_worked_160 : decode cX11_worked 160 = .ok (.iconst 0, 1) := by decide +kernel
theorem dX11_worked_161 : decode cX11_worked 161 = .ok (.ireturn, 1) := by decide +kernel
theorem dX11_workOut_0 : decode cX11_workOut 0 = .ok (.iconst 0, 1) := by decide +kernel
theorem dX11_workOut_1 : decode cX11_workOut 1 = .ok (.istore 4, 2) := by decide +kernel
theorem dX11_workOut_3 : decode cX11_workOut 3 = .ok (.sipush 520, 3) := by decide +kernel
theorem dX11_workOut_6 : decode cX11_workOut 6 = .ok (.iload_n 1, 1) := by decide +kernel
theorem dX11_workOut_7 : decode cX11_workOut 7 = .ok (.imul, 1) := by decide +kernel
theorem dX11_workOut_8 : decode cX11_workOut 8 = .ok (.iload_n 2, 1) := by decide +kernel
theorem dX11_workOut_9 : decode cX11_workOut 9 = .ok (.iadd, 1) := by decide +kernel
theorem dX11_workOut_10 : decode cX11_workOut 10 = .ok (.istore 5, 2) := by decide +kernel
theorem dX11_workOut_12 : decode cX11_workOut 12 = .ok (.iload 5, 2) := by decide +kernel
theorem dX11_workOut_14 : decode cX11_workOut 14 = .ok (.sipush 520, 3) := by decide +kernel
theorem dX11_workOut_17 : decode cX11_workOut 17 = .ok (.iload_n 1, 1) := by decide +kernel
theorem dX11_workOut_18 : decode cX11_workOut 18 = .ok (.imul, 1) := by decide +kernel
theorem dX11_workOut_19 : decode cX11_workOut 19 = .ok (.iload_n 3, 1) := by decide +kernel
theorem dX11_workOut_20 : decode cX11_workOut 20 = .ok (.iadd, 1) := by decide +kernel
theorem dX11_workOut_21 : decode cX11_workOut 21 = .ok (.if_icmp .ge 150, 3) := by decide +kernel
theorem dX11_workOut_24 : decode cX11_workOut 24 = .ok (.aload_n 0, 1) := by decide +kernel
theorem dX11_workOut_25 : decode cX11_workOut 25 = .ok (.getfield 13, 3) := by decide +kernel
theorem dX11_workOut_28 : decode cX11_workOut 28 = .ok (.iload 5, 2) := by decide +kernel
theorem dX11_workOut_30 : decode cX11_workOut 30 = .ok (.iaload, 1) := by decide +kernel
theorem dX11_workOut_31 : decode cX11_workOut 31 = .ok (.ifCond .eq 14, 3) := by decide +kernel
theorem dX11_workOut_34 : decode cX11_workOut 34 = .ok (.aload_n 0, 1) := by decide +kernel
theorem dX11_workOut_35 : decode cX11_workOut 35 = .ok (.getfield 13, 3) := by decide +kernel
theorem dX11_workOut_38 : decode cX11_workOut 38 = .ok (.iload 5, 2) := by decide +kernel
theorem dX11_workOut_40 : decode cX11_workOut 40 = .ok (.iaload, 1) := by decide +kernel
theorem dX11_workOut_41 : decode cX11_workOut 41 = .ok (.iconst 1, 1) := by decide +kernel
theorem dX11_workOut_42 : decode cX11_workOut 42 = .ok (.if_icmp .ne 48, 3) := by decide +kernel
theorem dX11_workOut_45 : decode cX11_workOut 45 = .ok (.aload_n 0, 1) := by decide +kernel
theorem dX11_workOut_46 : decode cX11_workOut 46 = .ok (.getfield 37, 3) := by decide +kernel
theorem dX11_workOut_49 : decode cX11_workOut 49 = .ok (.iload 4, 2) := by decide +kernel
theorem dX11_workOut_51 : decode cX11_workOut 51 = .ok (.aload_n 0, 1) := by decide +kernel
theorem dX11_workOut_52 : decode cX11_workOut 52 = .ok (.getfield 13, 3) := by decide +kernel
theorem dX11_workOut_55 : decode cX11_workOut 55 = .ok (.iload 5, 2) := by decide +kernel
theorem dX11_workOut_57 : decode cX11_workOut 57 = .ok (.iaload, 1) := by decide +kernel
theorem dX11_workOut_58 : decode cX11_workOut 58 = .ok (.ifCond .ne 13, 3) := by decide +kernel
theorem dX11_workOut_61 : decode cX11_workOut 61 = .ok (.aload_n 0, 1) := by decide +kernel
theorem dX11_workOut_62 : decode cX11_workOut 62 = .ok (.getfield 16, 3) := by decide +kernel
theorem dX11_workOut_65 : decode cX11_workOut 65 = .ok (.iload 5, 2) := by decide +kernel
theorem dX11_workOut_67 : decode cX11_workOut 67 = .ok (.iaload, 1) := by decide +kernel
theorem dX11_workOut_68 : decode cX11_workOut 68 = .ok (.goto 15, 3) := by decide +kernel
theorem dX11_workOut_71 : decode cX11_workOut 71 = .ok (.aload_n 0, 1) := by decide +kernel
theorem dX11_workOut_72 : decode cX11_workOut 72 = .ok (.getfield 34, 3) := by decide +kernel
theorem dX11_workOut_75 : decode cX11_workOut 75 = .ok (.aload_n 0, 1) := by decide +kernel
theorem dX11_workOut_76 : decode cX11_workOut 76 = .ok (.getfield 16, 3) := by decide +kernel
theorem dX11_workOut_79 : decode cX11_workOut 79 = .ok (.iload 5, 2) := by decide +kernel
theorem dX11_workOut_81 : decode cX11_workOut 81 = .ok (.iaload, 1) := by decide +kernel
theorem dX11_workOut_82 : decode cX11_workOut 82 = .ok (.iaload, 1) := by decide +kernel
theorem dX11_workOut_83 : decode cX11_workOut 83 = .ok (.iastore, 1) := by decide +kernel
theorem dX11_workOut_84 : decode cX11_workOut 84 = .ok (.iinc 4 1, 3) := by decide +kernel
theorem dX11_workOut_87 : decode cX11_workOut 87 = .ok (.goto 78, 3) := by decide +kernel
theorem dX11_workOut_90 : decode cX11_workOut 90 = .ok (.aload_n 0, 1) := by decide +kernel
theorem dX11_workOut_91 : decode cX11_workOut 91 = .ok (.getfield 13, 3) := by decide +kernel
theorem dX11_workOut_94 : decode cX11_workOut 94 = .ok (.iload 5, 2) := by decide +kernel
theorem dX11_workOut_96 : decode cX11_workOut 96 = .ok (.iaload, 1) := by decide +kernel
theorem dX11_workOut_97 : decode cX11_workOut 97 = .ok (.bipush 9, 2) := by decide +kernel
theorem dX11_workOut_99 : decode cX11_workOut 99 = .ok (.if_icmp .ne 26, 3) := by decide +kernel
theorem dX11_workOut_102 : decode cX11_workOut 102 = .ok (.aload_n 0, 1) := by decide +kernel
theorem dX11_workOut_103 : decode cX11_workOut 103 = .ok (.getfield 37, 3) := by decide +kernel
theorem dX11_workOut_106 : decode cX11_workOut 106 = .ok (.iload 4, 2) := by decide +kernel
theorem dX11_workOut_108 : decode cX11_workOut 108 = .ok (.iconst 1, 1) := by decide +kernel
theorem dX11_workOut_109 : decode cX11_workOut 109 = .ok (.isub, 1) := by decide +kernel
theorem dX11_workOut_110 : decode cX11_workOut 110 = .ok (.iconst 1, 1) := by decide +kernel
theorem dX11_workOut_111 : decode cX11_workOut 111 = .ok (.aload_n 0, 1) := by decide +kernel
theorem dX11_workOut_112 : decode cX11_workOut 112 = .ok (.getfield 37, 3) := by decide +kernel
theorem dX11_workOut_115 : decode cX11_workOut 115 = .ok (.iload 4, 2) := by decide +kernel
theorem dX11_workOut_117 : decode cX11_workOut 117 = .ok (.iconst 1, 1) := by decide +kernel
theorem dX11_workOut_118 : decode cX11_workOut 118 = .ok (.isub, 1) := by decide +kernel
theorem dX11_workOut_119 : decode cX11_workOut 119 = .ok (.iaload, 1) := by decide +kernel
theorem dX11_workOut_120 : decode cX11_workOut 120 = .ok (.isub, 1) := by decide +kernel
theorem dX11_workOut_121 : decode cX11_workOut 121 = .ok (.iastore, 1) := by decide +kernel
theorem dX11_workOut_122 : decode cX11_workOut 122 = .ok (.goto 43, 3) := by decide +kernel
theorem dX11_workOut_125 : decode cX11_workOut 125 = .ok (.iinc 4 (-1), 3) := by decide +kernel
theorem dX11_workOut_128 : decode cX11_workOut 128 = .ok (.aload_n 0, 1) := by decide +kernel
theorem dX11_workOut_129 : decode cX11_workOut 129 = .ok (.getfield 37, 3) := by decide +kernel
theorem dX11_workOut_132 : decode cX11_workOut 132 = .ok (.iload 4, 2) := by decide +kernel
