theorem dX10_init_167 : decode cX10_init 167 = .ok (.iconst 0, 1) := by decide +kernel
theorem dX10_init_168 : decode cX10_init 168 = .ok (.putfield 102, 3) := by decide +kernel
theorem dX10_init_171 : decode cX10_init 171 = .ok (.return_, 1) := by decide +kernel
theorem dX10_feed_0 : decode cX10_feed 0 = .ok (.iload_n 1, 1) := by decide +kernel
theorem dX10_feed_1 : decode cX10_feed 1 = .ok (.invokestatic 105, 3) := by decide +kernel
theorem dX10_feed_4 : decode cX10_feed 4 = .ok (.iload_n 2, 1) := by decide +kernel
theorem dX10_feed_5 : decode cX10_feed 5 = .ok (.invokestatic 105, 3) := by decide +kernel
theorem dX10_feed_8 : decode cX10_feed 8 = .ok (.iadd, 1) := by decide +kernel
theorem dX10_feed_9 : decode cX10_feed 9 = .ok (.iload_n 3, 1) := by decide +kernel
theorem dX10_feed_10 : decode cX10_feed 10 = .ok (.invokestatic 105, 3) := by decide +kernel
theorem dX10_feed_13 : decode cX10_feed 13 = .ok (.iadd, 1) := by decide +kernel
theorem dX10_feed_14 : decode cX10_feed 14 = .ok (.iload 4, 2) := by decide +kernel
theorem dX10_feed_16 : decode cX10_feed 16 = .ok (.invokestatic 105, 3) := by decide +kernel
theorem dX10_feed_19 : decode cX10_feed 19 = .ok (.iadd, 1) := by decide +kernel
theorem dX10_feed_20 : decode cX10_feed 20 = .ok (.iload 5, 2) := by decide +kernel
theorem dX10_feed_22 : decode cX10_feed 22 = .ok (.invokestatic 105, 3) := by decide +kernel
theorem dX10_feed_25 : decode cX10_feed 25 = .ok (.iadd, 1) := by decide +kernel
theorem dX10_feed_26 : decode cX10_feed 26 = .ok (.istore 6, 2) := by decide +kernel
theorem dX10_feed_28 : decode cX10_feed 28 = .ok (.aload_n 0, 1) := by decide +kernel
theorem dX10_feed_29 : decode cX10_feed 29 = .ok (.getfield 13, 3) := by decide +kernel
theorem dX10_feed_32 : decode cX10_feed 32 = .ok (.iload 6, 2) := by decide +kernel
theorem dX10_feed_34 : decode cX10_feed 34 = .ok (.iadd, 1) := by decide +kernel
theorem dX10_feed_35 : decode cX10_feed 35 = .ok (.sipush 240, 3) := by decide +kernel
theorem dX10_feed_38 : decode cX10_feed 38 = .ok (.if_icmp .le 5, 3) := by decide +kernel
theorem dX10_feed_41 : decode cX10_feed 41 = .ok (.iconst (-1), 1) := by decide +kernel
theorem dX10_feed_42 : decode cX10_feed 42 = .ok (.ireturn, 1) := by decide +kernel
theorem dX10_feed_43 : decode cX10_feed 43 = .ok (.aload_n 0, 1) := by decide +kernel
theorem dX10_feed_44 : decode cX10_feed 44 = .ok (.iload_n 1, 1) := by decide +kernel
theorem dX10_feed_45 : decode cX10_feed 45 = .ok (.invokevirtual 109, 3) := by decide +kernel
theorem dX10_feed_48 : decode cX10_feed 48 = .ok (.aload_n 0, 1) := by decide +kernel
theorem dX10_feed_49 : decode cX10_feed 49 = .ok (.iload_n 2, 1) := by decide +kernel
theorem dX10_feed_50 : decode cX10_feed 50 = .ok (.invokevirtual 109, 3) := by decide +kernel
theorem dX10_feed_53 : decode cX10_feed 53 = .ok (.aload_n 0, 1) := by decide +kernel
theorem dX10_feed_54 : decode cX10_feed 54 = .ok (.iload_n 3, 1) := by decide +kernel
theorem dX10_feed_55 : decode cX10_feed 55 = .ok (.invokevirtual 109, 3) := by decide +kernel
theorem dX10_feed_58 : decode cX10_feed 58 = .ok (.aload_n 0, 1) := by decide +kernel
theorem dX10_feed_59 : decode cX10_feed 59 = .ok (.iload 4, 2) := by decide +kernel
theorem dX10_feed_61 : decode cX10_feed 61 = .ok (.invokevirtual 109, 3) := by decide +kernel
theorem dX10_feed_64 : decode cX10_feed 64 = .ok (.aload_n 0, 1) := by decide +kernel
theorem dX10_feed_65 : decode cX10_feed 65 = .ok (.iload 5, 2) := by decide +kernel
theorem dX10_feed_67 : decode cX10_feed 67 = .ok (.invokevirtual 109, 3) := by decide +kernel
theorem dX10_feed_70 : decode cX10_feed 70 = .ok (.aload_n 0, 1) := by decide +kernel
theorem dX10_feed_71 : decode cX10_feed 71 = .ok (.getfield 13, 3) := by decide +kernel
theorem dX10_feed_74 : decode cX10_feed 74 = .ok (.ireturn, 1) := by decide +kernel
theorem dX10_bytesIn_0 : decode cX10_bytesIn 0 = .ok (.iconst 0, 1) := by decide +kernel
theorem dX10_bytesIn_1 : decode cX10_bytesIn 1 = .ok (.istore_n 1, 1) := by decide +kernel
theorem dX10_bytesIn_2 : decode cX10_bytesIn 2 = .ok (.bipush 24, 2) := by decide +kernel
theorem dX10_bytesIn_4 : decode cX10_bytesIn 4 = .ok (.istore_n 2, 1) := by decide +kernel
theorem dX10_bytesIn_5 : decode cX10_bytesIn 5 = .ok (.iload_n 2, 1) := by decide +kernel
theorem dX10_bytesIn_6 : decode cX10_bytesIn 6 = .ok (.ifCond .lt 22, 3) := by decide +kernel
theorem dX10_bytesIn_9 : decode cX10_bytesIn 9 = .ok (.iload_n 0, 1) := by decide +kernel
theorem dX10_bytesIn_10 : decode cX10_bytesIn 10 = .ok (.iload_n 2, 1) := by decide +kernel
theorem dX10_bytesIn_11 : decode cX10_bytesIn 11 = .ok (.iushr, 1) := by decide +kernel
theorem dX10_bytesIn_12 : decode cX10_bytesIn 12 = .ok (.sipush 255, 3) := by decide +kernel
theorem dX10_bytesIn_15 : decode cX10_bytesIn 15 = .ok (.iand, 1) := by decide +kernel
theorem dX10_bytesIn_16 : decode cX10_bytesIn 16 = .ok (.ifCond .eq 6, 3) := by decide +kernel
theorem dX10_bytesIn_19 : decode cX10_bytesIn 19 = .ok (.iinc 1 1, 3) := by decide +kernel
theorem dX10_bytesIn_22 : decode cX10_bytesIn 22 = .ok (.iinc 2 (-8), 3) := by decide +kernel
theorem dX10_bytesIn_25 : decode cX10_bytesIn 25 = .ok (.goto (-20), 3) := by decide +kernel
theorem dX10_bytesIn_28 : decode cX10_bytesIn 28 = .ok (.iload_n 1, 1) := by decide +kernel
theorem dX10_bytesIn_29 : decode cX10_bytesIn 29 = .ok (.ireturn, 1) := by decide +kernel
theorem dX10_put_0 : decode cX10_put 0 = .ok (.bipush 24, 2) := by decide +kernel
theorem dX10_put_2 : decode cX10_put 2 = .ok (.istore_n 2, 1) := by decide +kernel
theorem dX10_put_3 : decode cX10_put 3 = .ok (.iload_n 2, 1) := by decide +kernel
theorem dX10_put_4 : decode cX10_put 4 = .ok (.ifCond .lt 51, 3) := by decide +kernel
theorem dX10_put_7 : decode cX10_put 7 = .ok (.iload_n 1, 1) := by decide +kernel
theorem dX10_put_8 : decode cX10_put 8 = .ok (.iload_n 2, 1) := by decide +kernel
theorem dX10_put_9 : decode cX10_put 9 = .ok (.iushr, 1) := by decide +kernel
theorem dX10_put_10 : decode cX10_put 10 = .ok (.sipush 255, 3) := by decide +kernel
theorem dX10_put_13 : decode cX10_put 13 = .ok (.iand, 1) := by decide +kernel
theorem dX10_put_14 : decode cX10_put 14 = .ok (.istore_n 3, 1) := by decide +kernel
theorem dX10_put_15 : decode cX10_put 15 = .ok (.iload_n 3, 1) := by decide +kernel
theorem dX10_put_16 : decode cX10_put 16 = .ok (.ifCond .eq 33, 3) := by decide +kernel
theorem dX10_put_19 : decode cX10_put 19 = .ok (.aload_n 0, 1) := by decide +kernel
theorem dX10_put_20 : decode cX10_put 20 = .ok (.getfield 13, 3) := by decide +kernel
theorem dX10_put_23 : decode cX10_put 23 = .ok (.sipush 240, 3) := by decide +kernel
theorem dX10_put_26 : decode cX10_put 26 = .ok (.if_icmp .ge 23, 3) := by decide +kernel
theorem dX10_put_29 : decode cX10_put 29 = .ok (.aload_n 0, 1) := by decide +kernel
theorem dX10_put_30 : decode cX10_put 30 = .ok (.getfield 9, 3) := by decide +kernel
theorem dX10_put_33 : decode cX10_put 33 = .ok (.aload_n 0, 1) := by decide +kernel
theorem dX10_put_34 : decode cX10_put 34 = .ok (.getfield 13, 3) := by decide +kernel
theorem dX10_put_37 : decode cX10_put 37 = .ok (.iload_n 3, 1) := by decide +kernel
theorem dX10_put_38 : decode cX10_put 38 = .ok (.iastore, 1) := by decide +kernel
theorem dX10_put_39 : decode cX10_put 39 = .ok (.aload_n 0, 1) := by decide +kernel
theorem dX10_put_40 : decode cX10_put 40 = .ok (.dup, 1) := by decide +kernel
theorem dX10_put_41 : decode cX10_put 41 = .ok (.getfield 13, 3) := by decide +kernel
theorem dX10_put_44 : decode cX10_put 44 = .ok (.iconst 1, 1) := by decide +kernel
theorem dX10_put_45 : decode cX10_put 45 = .ok (.iadd, 1) := by decide +kernel
theorem dX10_put_46 : decode cX10_put 46 = .ok (.putfield 13, 3) := by decide +kernel
theorem dX10_put_49 : decode cX10_put 49 = .ok (.iinc 2 (-8), 3) := by decide +kernel
theorem dX10_put_52 : decode cX10_put 52 = .ok (.goto (-49), 3) := by decide +kernel
theorem dX10_put_55 : decode cX10_put 55 = .ok (.return_, 1) := by decide +kernel
theorem dX10_end_0 : decode cX10_end 0 = .ok (.iload_n 1, 1) := by decide +kernel
theorem dX10_end_1 : decode cX10_end 1 = .ok (.ifCond .lt 11, 3) := by decide +kernel
theorem dX10_end_4 : decode cX10_end 4 = .ok (.iload_n 1, 1) := by decide +kernel
theorem dX10_end_5 : decode cX10_end 5 = .ok (.aload_n 0, 1) := by decide +kernel
theorem dX10_end_6 : decode cX10_end 6 = .ok (.getfield 13, 3) := by decide +kernel
theorem dX10_end_9 : decode cX10_end 9 = .ok (.if_icmp .le 5, 3) := by decide +kernel
theorem dX10_end_12 : decode cX10_end 12 = .ok (.iconst 0, 1) := by decide +kernel
theorem dX10_end_13 : decode cX10_end 13 = .ok (.ireturn, 1) := by decide +kernel
theorem dX10_end_14 : decode cX10_end 14 = .ok (.aload_n 0, 1) := by decide +kernel
theorem dX10_end_15 : decode cX10_end 15 = .ok (.iload_n 1, 1) := by decide +kernel
theorem dX10_end_16 : decode cX10_end 16 = .ok (.putfield 13, 3) := by decide +kernel
theorem dX10_end_19 : decode cX10_end 19 = .ok (.iconst 1, 1) := by decide +kernel
theorem dX10_end_20 : decode cX10_end 20 = .ok (.ireturn, 1) := by decide +kernel
theorem dX10_fault_0 : decode cX10_fault 0 = .ok (.iload_n 1, 1) := by decide +kernel
theorem dX10_fault_1 : decode cX10_fault 1 = .ok (.ifCond .ne 23, 3) := by decide +kernel
theorem dX10_fault_4 : decode cX10_fault 4 = .ok (.aload_n 0, 1) := by decide +kernel
theorem dX10_fault_5 : decode cX10_fault 5 = .ok (.getfield 20, 3) := by decide +kernel
theorem dX10_fault_8 : decode cX10_fault 8 = .ok (.aload_n 0, 1) := by decide +kernel
theorem dX10_fault_9 : decode cX10_fault 9 = .ok (.getfield 9, 3) := by decide +kernel
theorem dX10_fault_12 : decode cX10_fault 12 = .ok (.aload_n 0, 1) := by decide +kernel
theorem dX10_fault_13 : decode cX10_fault 13 = .ok (.getfield 13, 3) := by decide +kernel
theorem dX10_fault_16 : decode cX10_fault 16 = .ok (.aload_n 0, 1) := by decide +kernel
theorem dX10_fault_17 : decode cX10_fault 17 = .ok (.getfield 45, 3) := by decide +kernel
theorem dX10_fault_20 : decode cX10_fault 20 = .ok (.invokevirtual 113, 3) := by decide +kernel
theorem dX10_fault_23 : decode cX10_fault 23 = .ok (.ireturn, 1) := by decide +kernel
theorem dX10_fault_24 : decode cX10_fault 24 = .ok (.iload_n 1, 1) := by decide +kernel
theorem dX10_fault_25 : decode cX10_fault 25 = .ok (.iconst 1, 1) := by decide +kernel
theorem dX10_fault_26 : decode cX10_fault 26 = .ok (.if_icmp .ne 19, 3) := by decide +kernel
theorem dX10_fault_29 : decode cX10_fault 29 = .ok (.aload_n 0, 1) := by decide +kernel
theorem dX10_fault_30 : decode cX10_fault 30 = .ok (.getfield 27, 3) := by decide +kernel
theorem dX10_fault_33 : decode cX10_fault 33 = .ok (.aload_n 0, 1) := by decide +kernel
theorem dX10_fault_34 : decode cX10_fault 34 = .ok (.getfield 9, 3) := by decide +kernel
theorem dX10_fault_37 : decode cX10_fault 37 = .ok (.aload_n 0, 1) := by decide +kernel
theorem dX10_fault_38 : decode cX10_fault 38 = .ok (.getfield 13, 3) := by decide +kernel
theorem dX10_fault_41 : decode cX10_fault 41 = .ok (.invokevirtual 117, 3) := by decide +kernel
theorem dX10_fault_44 : decode cX10_fault 44 = .ok (.ireturn, 1) := by decide +kernel
theorem dX10_fault_45 : decode cX10_fault 45 = .ok (.bipush (-2), 2) := by decide +kernel
theorem dX10_fault_47 : decode cX10_fault 47 = .ok (.ireturn, 1) := by decide +kernel
theorem dX10_text_0 : decode cX10_text 0 = .ok (.iload_n 1, 1) := by decide +kernel
theorem dX10_text_1 : decode cX10_text 1 = .ok (.ifCond .ne 36, 3) := by decide +kernel
theorem dX10_text_4 : decode cX10_text 4 = .ok (.aload_n 0, 1) := by decide +kernel
theorem dX10_text_5 : decode cX10_text 5 = .ok (.getfield 20, 3) := by decide +kernel
theorem dX10_text_8 : decode cX10_text 8 = .ok (.aload_n 0, 1) := by decide +kernel
theorem dX10_text_9 : decode cX10_text 9 = .ok (.getfield 9, 3) := by decide +kernel
theorem dX10_text_12 : decode cX10_text 12 = .ok (.aload_n 0, 1) := by decide +kernel
theorem dX10_text_13 : decode cX10_text 13 = .ok (.getfield 13, 3) := by decide +kernel
theorem dX10_text_16 : decode cX10_text 16 = .ok (.aload_n 0, 1) := by decide +kernel
theorem dX10_text_17 : decode cX10_text 17 = .ok (.getfield 45, 3) := by decide +kernel
theorem dX10_text_20 : decode cX10_text 20 = .ok (.invokevirtual 113, 3) := by decide +kernel
theorem dX10_text_23 : decode cX10_text 23 = .ok (.iconst (-1), 1) := by decide +kernel
theorem dX10_text_24 : decode cX10_text 24 = .ok (.if_icmp .ne 13, 3) := by decide +kernel
theorem dX10_text_27 : decode cX10_text 27 = .ok (.aload_n 0, 1) := by decide +kernel
theorem dX10_text_28 : decode cX10_text 28 = .ok (.iconst 0, 1) := by decide +kernel
theorem dX10_text_29 : decode cX10_text 29 = .ok (.putfield 13, 3) := by decide +kernel
theorem dX10_text_32 : decode cX10_text 32 = .ok (.aload_n 0, 1) := by decide +kernel
theorem dX10_text_33 : decode cX10_text 33 = .ok (.invokevirtual 120, 3) := by decide +kernel
theorem dX10_text_36 : decode cX10_text 36 = .ok (.ireturn, 1) := by decide +kernel
theorem dX10_text_37 : decode cX10_text 37 = .ok (.iload_n 1, 1) := by decide +kernel
theorem dX10_text_38 : decode cX10_text 38 = .ok (.iconst 1, 1) := by decide +kernel
theorem dX10_text_39 : decode cX10_text 39 = .ok (.if_icmp .ne 60, 3) := by decide +kernel
theorem dX10_text_42 : decode cX10_text 42 = .ok (.aload_n 0, 1) := by decide +kernel
theorem dX10_text_43 : decode cX10_text 43 = .ok (.getfield 34, 3) := by decide +kernel
theorem dX10_text_46 : decode cX10_text 46 = .ok (.getfield 124, 3) := by decide +kernel
theorem dX10_text_49 : decode cX10_text 49 = .ok (.iconst 4, 1) := by decide +kernel
theorem dX10_text_50 : decode cX10_text 50 = .ok (.if_icmp .ge 49, 3) := by decide +kernel
theorem dX10_text_53 : decode cX10_text 53 = .ok (.aload_n 0, 1) := by decide +kernel
theorem dX10_text_54 : decode cX10_text 54 = .ok (.getfield 27, 3) := by decide +kernel
theorem dX10_text_57 : decode cX10_text 57 = .ok (.aload_n 0, 1) := by decide +kernel
theorem dX10_text_58 : decode cX10_text 58 = .ok (.getfield 9, 3) := by decide +kernel
theorem dX10_text_61 : decode cX10_text 61 = .ok (.aload_n 0, 1) := by decide +kernel
theorem dX10_text_62 : decode cX10_text 62 = .ok (.getfield 13, 3) := by decide +kernel
theorem dX10_text_65 : decode cX10_text 65 = .ok (.invokevirtual 117, 3) := by decide +kernel
theorem dX10_text_68 : decode cX10_text 68 = .ok (.iconst (-1), 1) := by decide +kernel
theorem dX10_text_69 : decode cX10_text 69 = .ok (.if_icmp .ne 30, 3) := by decide +kernel
theorem dX10_text_72 : decode cX10_text 72 = .ok (.aload_n 0, 1) := by decide +kernel
theorem dX10_text_73 : decode cX10_text 73 = .ok (.iconst 0, 1) := by decide +kernel
theorem dX10_text_74 : decode cX10_text 74 = .ok (.putfield 13, 3) := by decide +kernel
theorem dX10_text_77 : decode cX10_text 77 = .ok (.aload_n 0, 1) := by decide +kernel
theorem dX10_text_78 : decode cX10_text 78 = .ok (.getfield 34, 3) := by decide +kernel
theorem dX10_text_81 : decode cX10_text 81 = .ok (.aload_n 0, 1) := by decide +kernel
theorem dX10_text_82 : decode cX10_text 82 = .ok (.getfield 27, 3) := by decide +kernel
theorem dX10_text_85 : decode cX10_text 85 = .ok (.getfield 127, 3) := by decide +kernel
theorem dX10_text_88 : decode cX10_text 88 = .ok (.aload_n 0, 1) := by decide +kernel
theorem dX10_text_89 : decode cX10_text 89 = .ok (.getfield 27, 3) := by decide +kernel
theorem dX10_text_92 : decode cX10_text 92 = .ok (.getfield 130, 3) := by decide +kernel
theorem dX10_text_95 : decode cX10_text 95 = .ok (.invokevirtual 133, 3) := by decide +kernel
theorem dX10_text_98 : decode cX10_text 98 = .ok (.ireturn, 1) := by decide +kernel
theorem dX10_text_99 : decode cX10_text 99 = .ok (.iconst (-1), 1) := by decide +kernel
theorem dX10_text_100 : decode cX10_text 100 = .ok (.ireturn, 1) := by decide +kernel
theorem dX10_enterSpare_0 : decode cX10_enterSpare 0 = .ok (.aload_n 0, 1) := by decide +kernel
theorem dX10_enterSpare_1 : decode cX10_enterSpare 1 = .ok (.getfield 41, 3) := by decide +kernel
theorem dX10_enterSpare_4 : decode cX10_enterSpare 4 = .ok (.astore_n 1, 1) := by decide +kernel
theorem dX10_enterSpare_5 : decode cX10_enterSpare 5 = .ok (.aload_n 0, 1) := by decide +kernel
theorem dX10_enterSpare_6 : decode cX10_enterSpare 6 = .ok (.aload_n 0, 1) := by decide +kernel
theorem dX10_enterSpare_7 : decode cX10_enterSpare 7 = .ok (.getfield 45, 3) := by decide +kernel
theorem dX10_enterSpare_10 : decode cX10_enterSpare 10 = .ok (.putfield 41, 3) := by decide +kernel
theorem dX10_enterSpare_13 : decode cX10_enterSpare 13 = .ok (.aload_n 0, 1) := by decide +kernel
theorem dX10_enterSpare_14 : decode cX10_enterSpare 14 = .ok (.aload_n 1, 1) := by decide +kernel
theorem dX10_enterSpare_15 : decode cX10_enterSpare 15 = .ok (.putfield 45, 3) := by decide +kernel
theorem dX10_enterSpare_18 : decode cX10_enterSpare 18 = .ok (.aload_n 0, 1) := by decide +kernel
theorem dX10_enterSpare_19 : decode cX10_enterSpare 19 = .ok (.getfield 51, 3) := by decide +kernel
theorem dX10_enterSpare_22 : decode cX10_enterSpare 22 = .ok (.aload_n 0, 1) := by decide +kernel
theorem dX10_enterSpare_23 : decode cX10_enterSpare 23 = .ok (.getfield 41, 3) := by decide +kernel
theorem dX10_enterSpare_26 : decode cX10_enterSpare 26 = .ok (.invokevirtual 136, 3) := by decide +kernel
theorem dX10_enterSpare_29 : decode cX10_enterSpare 29 = .ok (.aload_n 0, 1) := by decide +kernel
theorem dX10_enterSpare_30 : decode cX10_enterSpare 30 = .ok (.getfield 61, 3) := by decide +kernel
theorem dX10_enterSpare_33 : decode cX10_enterSpare 33 = .ok (.invokevirtual 140, 3) := by decide +kernel
theorem dX10_enterSpare_36 : decode cX10_enterSpare 36 = .ok (.aload_n 0, 1) := by decide +kernel
theorem dX10_enterSpare_37 : decode cX10_enterSpare 37 = .ok (.iconst 0, 1) := by decide +kernel
theorem dX10_enterSpare_38 : decode cX10_enterSpare 38 = .ok (.putfield 96, 3) := by decide +kernel
theorem dX10_enterSpare_41 : decode cX10_enterSpare 41 = .ok (.aload_n 0, 1) := by decide +kernel
theorem dX10_enterSpare_42 : decode cX10_enterSpare 42 = .ok (.iconst 0, 1) := by decide +kernel
theorem dX10_enterSpare_43 : decode cX10_enterSpare 43 = .ok (.putfield 99, 3) := by decide +kernel
theorem dX10_enterSpare_46 : decode cX10_enterSpare 46 = .ok (.aload_n 0, 1) := by decide +kernel
theorem dX10_enterSpare_47 : decode cX10_enterSpare 47 = .ok (.iconst 0, 1) := by decide +kernel
theorem dX10_enterSpare_48 : decode cX10_enterSpare 48 = .ok (.putfield 102, 3) := by decide +kernel
theorem dX10_enterSpare_51 : decode cX10_enterSpare 51 = .ok (.aload_n 0, 1) := by decide +kernel
theorem dX10_enterSpare_52 : decode cX10_enterSpare 52 = .ok (.getfield 41, 3) := by decide +kernel
theorem dX10_enterSpare_55 : decode cX10_enterSpare 55 = .ok (.getfield 143, 3) := by decide +kernel
theorem dX10_enterSpare_58 : decode cX10_enterSpare 58 = .ok (.ireturn, 1) := by decide +kernel
theorem dX10_hasRoom_0 : decode cX10_hasRoom 0 = .ok (.aload_n 0, 1) := by decide +kernel
theorem dX10_hasRoom_1 : decode cX10_hasRoom 1 = .ok (.getfield 41, 3) := by decide +kernel
theorem dX10_hasRoom_4 : decode cX10_hasRoom 4 = .ok (.getfield 143, 3) := by decide +kernel
theorem dX10_hasRoom_7 : decode cX10_hasRoom 7 = .ok (.ifCond .le 7, 3) := by decide +kernel
theorem dX10_hasRoom_10 : decode cX10_hasRoom 10 = .ok (.iconst 1, 1) := by decide +kernel
theorem dX10_hasRoom_11 : decode cX10_hasRoom 11 = .ok (.goto 4, 3) := by decide +kernel
theorem dX10_hasRoom_14 : decode cX10_hasRoom 14 = .ok (.iconst 0, 1) := by decide +kernel
theorem dX10_hasRoom_15 : decode cX10_hasRoom 15 = .ok (.ireturn, 1) := by decide +kernel
theorem dX10_isSquare_0 : decode cX10_isSquare 0 = .ok (.iload_n 1, 1) := by decide +kernel
theorem dX10_isSquare_1 : decode cX10_isSquare 1 = .ok (.ifCond .lt 18, 3) := by decide +kernel
theorem dX10_isSquare_4 : decode cX10_isSquare 4 = .ok (.iload_n 1, 1) := by decide +kernel
theorem dX10_isSquare_5 : decode cX10_isSquare 5 = .ok (.aload_n 0, 1) := by decide +kernel
theorem dX10_isSquare_6 : decode cX10_isSquare 6 = .ok (.getfield 41, 3) := by decide +kernel
theorem dX10_isSquare_9 : decode cX10_isSquare 9 = .ok (.getfield 143, 3) := by decide +kernel
theorem dX10_isSquare_12 : decode cX10_isSquare 12 = .ok (.if_icmp .ge 7, 3) := by decide +kernel
theorem dX10_isSquare_15 : decode cX10_isSquare 15 = .ok (.iconst 1, 1) := by decide +kernel
theorem dX10_isSquare_16 : decode cX10_isSquare 16 = .ok (.goto 4, 3) := by decide +kernel
theorem dX10_isSquare_19 : decode cX10_isSquare 19 = .ok (.iconst 0, 1) := by decide +kernel
theorem dX10_isSquare_20 : decode cX10_isSquare 20 = .ok (.ireturn, 1) := by decide +kernel
theorem dX10_isCurtain_0 : decode cX10_isCurtain 0 = .ok (.iload_n 1, 1) := by decide +kernel
theorem dX10_isCurtain_1 : decode cX10_isCurtain 1 = .ok (.ifCond .lt 18, 3) := by decide +kernel
theorem dX10_isCurtain_4 : decode cX10_isCurtain 4 = .ok (.iload_n 1, 1) := by decide +kernel
theorem dX10_isCurtain_5 : decode cX10_isCurtain 5 = .ok (.aload_n 0, 1) := by decide +kernel
theorem dX10_isCurtain_6 : decode cX10_isCurtain 6 = .ok (.getfield 41, 3) := by decide +kernel
theorem dX10_isCurtain_9 : decode cX10_isCurtain 9 = .ok (.getfield 146, 3) := by decide +kernel
theorem dX10_isCurtain_12 : decode cX10_isCurtain 12 = .ok (.if_icmp .ge 7, 3) := by decide +kernel
theorem dX10_isCurtain_15 : decode cX10_isCurtain 15 = .ok (.iconst 1, 1) := by decide +kernel
theorem dX10_isCurtain_16 : decode cX10_isCurtain 16 = .ok (.goto 4, 3) := by decide +kernel
theorem dX10_isCurtain_19 : decode cX10_isCurtain 19 = .ok (.iconst 0, 1) := by decide +kernel
theorem dX10_isCurtain_20 : decode cX10_isCurtain 20 = .ok (.ireturn, 1) := by decide +kernel
theorem dX10_isPerson_0 : decode cX10_isPerson 0 = .ok (.iload_n 1, 1) := by decide +kernel
theorem dX10_isPerson_1 : decode cX10_isPerson 1 = .ok (.ifCond .lt 18, 3) := by decide +kernel
theorem dX10_isPerson_4 : decode cX10_isPerson 4 = .ok (.iload_n 1, 1) := by decide +kernel
theorem dX10_isPerson_5 : decode cX10_isPerson 5 = .ok (.aload_n 0, 1) := by decide +kernel
theorem dX10_isPerson_6 : decode cX10_isPerson 6 = .ok (.getfield 41, 3) := by decide +kernel
theorem dX10_isPerson_9 : decode cX10_isPerson 9 = .ok (.getfield 149, 3) := by decide +kernel
theorem dX10_isPerson_12 : decode cX10_isPerson 12 = .ok (.if_icmp .ge 7, 3) := by decide +kernel
theorem dX10_isPerson_15 : decode cX10_isPerson 15 = .ok (.iconst 1, 1) := by decide +kernel
theorem dX10_isPerson_16 : decode cX10_isPerson 16 = .ok (.goto 4, 3) := by decide +kernel
theorem dX10_isPerson_19 : decode cX10_isPerson 19 = .ok (.iconst 0, 1) := by decide +kernel
theorem dX10_isPerson_20 : decode cX10_isPerson 20 = .ok (.ireturn, 1) := by decide +kernel
theorem dX10_has_0 : decode cX10_has 0 = .ok (.iload_n 0, 1) := by decide +kernel
theorem dX10_has_1 : decode cX10_has 1 = .ok (.iload_n 1, 1) := by decide +kernel
theorem dX10_has_2 : decode cX10_has 2 = .ok (.ishr, 1) := by decide +kernel
theorem dX10_has_3 : decode cX10_has 3 = .ok (.iconst 1, 1) := by decide +kernel
theorem dX10_has_4 : decode cX10_has 4 = .ok (.iand, 1) := by decide +kernel
theorem dX10_has_5 : decode cX10_has 5 = .ok (.ifCond .eq 7, 3) := by decide +kernel
theorem dX10_has_8 : decode cX10_has 8 = .ok (.iconst 1, 1) := by decide +kernel
theorem dX10_has_9 : decode cX10_has 9 = .ok (.goto 4, 3) := by decide +kernel
theorem dX10_has_12 : decode cX10_has 12 = .ok (.iconst 0, 1) := by decide +kernel
theorem dX10_has_13 : decode cX10_has 13 = .ok (.ireturn, 1) := by decide +kernel
theorem dX10_within_0 : decode cX10_within 0 = .ok (.iload_n 0, 1) := by decide +kernel
theorem dX10_within_1 : decode cX10_within 1 = .ok (.iload_n 1, 1) := by decide +kernel
theorem dX10_within_2 : decode cX10_within 2 = .ok (.if_icmp .lt 12, 3) := by decide +kernel
theorem dX10_within_5 : decode cX10_within 5 = .ok (.iload_n 0, 1) := by decide +kernel
theorem dX10_within_6 : decode cX10_within 6 = .ok (.iload_n 2, 1) := by decide +kernel
theorem dX10_within_7 : decode cX10_within 7 = .ok (.if_icmp .gt 7, 3) := by decide +kernel
theorem dX10_within_10 : decode cX10_within 10 = .ok (.iconst 1, 1) := by decide +kernel
theorem dX10_within_11 : decode cX10_within 11 = .ok (.goto 4, 3) := by decide +kernel
theorem dX10_within_14 : decode cX10_within 14 = .ok (.iconst 0, 1) := by decide +kernel
theorem dX10_within_15 : decode cX10_within 15 = .ok (.ireturn, 1) := by decide +kernel
theorem dX10_rule_0 : decode cX10_rule 0 = .ok (.aload_n 0, 1) := by decide +kernel
theorem dX10_rule_1 : decode cX10_rule 1 = .ok (.invokevirtual 152, 3) := by decide +kernel
theorem dX10_rule_4 : decode cX10_rule 4 = .ok (.ifCond .ne 5, 3) := by decide +kernel
theorem dX10_rule_7 : decode cX10_rule 7 = .ok (.iconst (-1), 1) := by decide +kernel
theorem dX10_rule_8 : decode cX10_rule 8 = .ok (.ireturn, 1) := by decide +kernel
theorem dX10_rule_9 : decode cX10_rule 9 = .ok (.iload_n 1, 1) := by decide +kernel
theorem dX10_rule_10 : decode cX10_rule 10 = .ok (.tableswitch 62 0 3 #[30, 38, 46, 54], 30) := by decide +kernel
theorem dX10_rule_40 : decode cX10_rule 40 = .ok (.aload_n 0, 1) := by decide +kernel
theorem dX10_rule_41 : decode cX10_rule 41 = .ok (.getfield 41, 3) := by decide +kernel
theorem dX10_rule_44 : decode cX10_rule 44 = .ok (.getfield 156, 3) := by decide +kernel
theorem dX10_rule_47 : decode cX10_rule 47 = .ok (.ireturn, 1) := by decide +kernel
theorem dX10_rule_48 : decode cX10_rule 48 = .ok (.aload_n 0, 1) := by decide +kernel
theorem dX10_rule_49 : decode cX10_rule 49 = .ok (.getfield 41, 3) := by decide +kernel
theorem dX10_rule_52 : decode cX10_rule 52 = .ok (.getfield 159, 3) := by decide +kernel
theorem dX10_rule_55 : decode cX10_rule 55 = .ok (.ireturn, 1) := by decide +kernel
theorem dX10_rule_56 : decode cX10_rule 56 = .ok (.aload_n 0, 1) := by decide +kernel
theorem dX10_rule_57 : decode cX10_rule 57 = .ok (.getfield 41, 3) := by decide +kernel
theorem dX10_rule_60 : decode cX10_rule 60 = .ok (.getfield 162, 3) := by decide +kernel
theorem dX10_rule_63 : decode cX10_rule 63 = .ok (.ireturn, 1) := by decide +kernel
theorem dX10_rule_64 : decode cX10_rule 64 = .ok (.aload_n 0, 1) := by decide +kernel
theorem dX10_rule_65 : decode cX10_rule 65 = .ok (.getfield 41, 3) := by decide +kernel
theorem dX10_rule_68 : decode cX10_rule 68 = .ok (.getfield 165, 3) := by decide +kernel
theorem dX10_rule_71 : decode cX10_rule 71 = .ok (.ireturn, 1) := by decide +kernel
theorem dX10_rule_72 : decode cX10_rule 72 = .ok (.iconst (-1), 1) := by decide +kernel
theorem dX10_rule_73 : decode cX10_rule 73 = .ok (.ireturn, 1) := by decide +kernel
theorem dX10_curtain_0 : decode cX10_curtain 0 = .ok (.aload_n 0, 1) := by decide +kernel
theorem dX10_curtain_1 : decode cX10_curtain 1 = .ok (.iload_n 1, 1) := by decide +kernel
theorem dX10_curtain_2 : decode cX10_curtain 2 = .ok (.invokevirtual 168, 3) := by decide +kernel
theorem dX10_curtain_5 : decode cX10_curtain 5 = .ok (.ifCond .ne 5, 3) := by decide +kernel
theorem dX10_curtain_8 : decode cX10_curtain 8 = .ok (.iconst (-1), 1) := by decide +kernel
theorem dX10_curtain_9 : decode cX10_curtain 9 = .ok (.ireturn, 1) := by decide +kernel
theorem dX10_curtain_10 : decode cX10_curtain 10 = .ok (.iload_n 2, 1) := by decide +kernel
theorem dX10_curtain_11 : decode cX10_curtain 11 = .ok (.tableswitch 148 0 7 #[45, 55, 65, 75, 85, 95, 115, 135], 45) := by decide +kernel
theorem dX10_curtain_56 : decode cX10_curtain 56 = .ok (.aload_n 0, 1) := by decide +kernel
theorem dX10_curtain_57 : decode cX10_curtain 57 = .ok (.getfield 41, 3) := by decide +kernel
theorem dX10_curtain_60 : decode cX10_curtain 60 = .ok (.getfield 172, 3) := by decide +kernel
theorem dX10_curtain_63 : decode cX10_curtain 63 = .ok (.iload_n 1, 1) := by decide +kernel
theorem dX10_curtain_64 : decode cX10_curtain 64 = .ok (.iaload, 1) := by decide +kernel
theorem dX10_curtain_65 : decode cX10_curtain 65 = .ok (.ireturn, 1) := by decide +kernel
theorem dX10_curtain_66 : decode cX10_curtain 66 = .ok (.aload_n 0, 1) := by decide +kernel
theorem dX10_curtain_67 : decode cX10_curtain 67 = .ok (.getfield 41, 3) := by decide +kernel
theorem dX10_curtain_70 : decode cX10_curtain 70 = .ok (.getfield 175, 3) := by decide +kernel
theorem dX10_curtain_73 : decode cX10_curtain 73 = .ok (.iload_n 1, 1) := by decide +kernel
theorem dX10_curtain_74 : decode cX10_curtain 74 = .ok (.iaload, 1) := by decide +kernel
theorem dX10_curtain_75 : decode cX10_curtain 75 = .ok (.ireturn, 1) := by decide +kernel
theorem dX10_curtain_76 : decode cX10_curtain 76 = .ok (.aload_n 0, 1) := by decide +kernel
theorem dX10_curtain_77 : decode cX10_curtain 77 = .ok (.getfield 41, 3) := by decide +kernel
theorem dX10_curtain_80 : decode cX10_curtain 80 = .ok (.getfield 178, 3) := by decide +kernel
theorem dX10_curtain_83 : decode cX10_curtain 83 = .ok (.iload_n 1, 1) := by decide +kernel
theorem dX10_curtain_84 : decode cX10_curtain 84 = .ok (.iaload, 1) := by decide +kernel
theorem dX10_curtain_85 : decode cX10_curtain 85 = .ok (.ireturn, 1) := by decide +kernel
theorem dX10_curtain_86 : decode cX10_curtain 86 = .ok (.aload_n 0, 1) := by decide +kernel
theorem dX10_curtain_87 : decode cX10_curtain 87 = .ok (.getfield 51, 3) := by decide +kernel
theorem dX10_curtain_90 : decode cX10_curtain 90 = .ok (.getfield 181, 3) := by decide +kernel
theorem dX10_curtain_93 : decode cX10_curtain 93 = .ok (.iload_n 1, 1) := by decide +kernel
theorem dX10_curtain_94 : decode cX10_curtain 94 = .ok (.iaload, 1) := by decide +kernel
theorem dX10_curtain_95 : decode cX10_curtain 95 = .ok (.ireturn, 1) := by decide +kernel
theorem dX10_curtain_96 : decode cX10_curtain 96 = .ok (.aload_n 0, 1) := by decide +kernel
theorem dX10_curtain_97 : decode cX10_curtain 97 = .ok (.getfield 41, 3) := by decide +kernel
theorem dX10_curtain_100 : decode cX10_curtain 100 = .ok (.getfield 184, 3) := by decide +kernel
theorem dX10_curtain_103 : decode cX10_curtain 103 = .ok (.iload_n 1, 1) := by decide +kernel
theorem dX10_curtain_104 : decode cX10_curtain 104 = .ok (.iaload, 1) := by decide +kernel
theorem dX10_curtain_105 : decode cX10_curtain 105 = .ok (.ireturn, 1) := by decide +kernel
theorem dX10_curtain_106 : decode cX10_curtain 106 = .ok (.aload_n 0, 1) := by decide +kernel
theorem dX10_curtain_107 : decode cX10_curtain 107 = .ok (.getfield 51, 3) := by decide +kernel
theorem dX10_curtain_110 : decode cX10_curtain 110 = .ok (.getfield 187, 3) := by decide +kernel
theorem dX10_curtain_113 : decode cX10_curtain 113 = .ok (.iload_n 1, 1) := by decide +kernel
theorem dX10_curtain_114 : decode cX10_curtain 114 = .ok (.invokestatic 190, 3) := by decide +kernel
theorem dX10_curtain_117 : decode cX10_curtain 117 = .ok (.ifCond .eq 7, 3) := by decide +kernel
theorem dX10_curtain_120 : decode cX10_curtain 120 = .ok (.iconst 1, 1) := by decide +kernel
theorem dX10_curtain_121 : decode cX10_curtain 121 = .ok (.goto 4, 3) := by decide +kernel
theorem dX10_curtain_124 : decode cX10_curtain 124 = .ok (.iconst 0, 1) := by decide +kernel
theorem dX10_curtain_125 : decode cX10_curtain 125 = .ok (.ireturn, 1) := by decide +kernel
theorem dX10_curtain_126 : decode cX10_curtain 126 = .ok (.aload_n 0, 1) := by decide +kernel
theorem dX10_curtain_127 : decode cX10_curtain 127 = .ok (.getfield 51, 3) := by decide +kernel
theorem dX10_curtain_130 : decode cX10_curtain 130 = .ok (.invokevirtual 194, 3) := by decide +kernel
theorem dX10_curtain_133 : decode cX10_curtain 133 = .ok (.iload_n 1, 1) := by decide +kernel
theorem dX10_curtain_134 : decode cX10_curtain 134 = .ok (.invokestatic 190, 3) := by decide +kernel
theorem dX10_curtain_137 : decode cX10_curtain 137 = .ok (.ifCond .eq 7, 3) := by decide +kernel
theorem dX10_curtain_140 : decode cX10_curtain 140 = .ok (.iconst 1, 1) := by decide +kernel
theorem dX10_curtain_141 : decode cX10_curtain 141 = .ok (.goto 4, 3) := by decide +kernel
theorem dX10_curtain_144 : decode cX10_curtain 144 = .ok (.iconst 0, 1) := by decide +kernel
theorem dX10_curtain_145 : decode cX10_curtain 145 = .ok (.ireturn, 1) := by decide +kernel
theorem dX10_curtain_146 : decode cX10_curtain 146 = .ok (.aload_n 0, 1) := by decide +kernel
theorem dX10_curtain_147 : decode cX10_curtain 147 = .ok (.getfield 34, 3) := by decide +kernel
theorem dX10_curtain_150 : decode cX10_curtain 150 = .ok (.aload_n 0, 1) := by decide +kernel
theorem dX10_curtain_151 : decode cX10_curtain 151 = .ok (.getfield 51, 3) := by decide +kernel
theorem dX10_curtain_154 : decode cX10_curtain 154 = .ok (.iload_n 1, 1) := by decide +kernel
theorem dX10_curtain_155 : decode cX10_curtain 155 = .ok (.invokevirtual 197, 3) := by decide +kernel
theorem dX10_curtain_158 : decode cX10_curtain 158 = .ok (.ireturn, 1) := by decide +kernel
theorem dX10_curtain_159 : decode cX10_curtain 159 = .ok (.iconst (-1), 1) := by decide +kernel
theorem dX10_curtain_160 : decode cX10_curtain 160 = .ok (.ireturn, 1) := by decide +kernel
theorem dX10_law_0 : decode cX10_law 0 = .ok (.iload_n 1, 1) := by decide +kernel
theorem dX10_law_1 : decode cX10_law 1 = .ok (.iconst (-1), 1) := by decide +kernel
theorem dX10_law_2 : decode cX10_law 2 = .ok (.if_icmp .lt 14, 3) := by decide +kernel
theorem dX10_law_5 : decode cX10_law 5 = .ok (.iload_n 1, 1) := by decide +kernel
theorem dX10_law_6 : decode cX10_law 6 = .ok (.aload_n 0, 1) := by decide +kernel
theorem dX10_law_7 : decode cX10_law 7 = .ok (.getfield 34, 3) := by decide +kernel
theorem dX10_law_10 : decode cX10_law 10 = .ok (.getfield 124, 3) := by decide +kernel
theorem dX10_law_13 : decode cX10_law 13 = .ok (.if_icmp .lt 5, 3) := by decide +kernel
theorem dX10_law_16 : decode cX10_law 16 = .ok (.iconst 0, 1) := by decide +kernel
theorem dX10_law_17 : decode cX10_law 17 = .ok (.ireturn, 1) := by decide +kernel
theorem dX10_law_18 : decode cX10_law 18 = .ok (.aload_n 0, 1) := by decide +kernel
theorem dX10_law_19 : decode cX10_law 19 = .ok (.getfield 34, 3) := by decide +kernel
theorem dX10_law_22 : decode cX10_law 22 = .ok (.iload_n 1, 1) := by decide +kernel
theorem dX10_law_23 : decode cX10_law 23 = .ok (.putfield 226, 3) := by decide +kernel
theorem dX10_law_26 : decode cX10_law 26 = .ok (.iconst 1, 1) := by decide +kernel
theorem dX10_law_27 : decode cX10_law 27 = .ok (.ireturn, 1) := by decide +kernel
theorem dX10_lowest_0 : decode cX10_lowest 0 = .ok (.iload_n 0, 1) := by decide +kernel
theorem dX10_lowest_1 : decode cX10_lowest 1 = .ok (.ifCond .ne 7, 3) := by decide +kernel
theorem dX10_lowest_4 : decode cX10_lowest 4 = .ok (.iconst (-1), 1) := by decide +kernel
theorem dX10_lowest_5 : decode cX10_lowest 5 = .ok (.goto 7, 3) := by decide +kernel
theorem dX10_lowest_8 : decode cX10_lowest 8 = .ok (.iload_n 0, 1) := by decide +kernel
theorem dX10_lowest_9 : decode cX10_lowest 9 = .ok (.invokestatic 229, 3) := by decide +kernel
theorem dX10_lowest_12 : decode cX10_lowest 12 = .ok (.ireturn, 1) := by decide +kernel
theorem dX10_stateAround_0 : decode cX10_stateAround 0 = .ok (.aload_n 0, 1) := by decide +kernel
theorem dX10_stateAround_1 : decode cX10_stateAround 1 = .ok (.getfield 68, 3) := by decide +kernel
theorem dX10_stateAround_4 : decode cX10_stateAround 4 = .ok (.aload_n 0, 1) := by decide +kernel
theorem dX10_stateAround_5 : decode cX10_stateAround 5 = .ok (.getfield 41, 3) := by decide +kernel
theorem dX10_stateAround_8 : decode cX10_stateAround 8 = .ok (.aload_n 0, 1) := by decide +kernel
theorem dX10_stateAround_9 : decode cX10_stateAround 9 = .ok (.getfield 51, 3) := by decide +kernel
theorem dX10_stateAround_12 : decode cX10_stateAround 12 = .ok (.invokevirtual 194, 3) := by decide +kernel
theorem dX10_stateAround_15 : decode cX10_stateAround 15 = .ok (.invokevirtual 234, 3) := by decide +kernel
theorem dX10_stateAround_18 : decode cX10_stateAround 18 = .ok (.aload_n 0, 1) := by decide +kernel
theorem dX10_stateAround_19 : decode cX10_stateAround 19 = .ok (.getfield 68, 3) := by decide +kernel
theorem dX10_stateAround_22 : decode cX10_stateAround 22 = .ok (.iconst 1, 1) := by decide +kernel
theorem dX10_stateAround_23 : decode cX10_stateAround 23 = .ok (.iload_n 1, 1) := by decide +kernel
theorem dX10_stateAround_24 : decode cX10_stateAround 24 = .ok (.ishl, 1) := by decide +kernel
theorem dX10_stateAround_25 : decode cX10_stateAround 25 = .ok (.invokevirtual 238, 3) := by decide +kernel
theorem dX10_stateAround_28 : decode cX10_stateAround 28 = .ok (.ireturn, 1) := by decide +kernel
theorem dX10_statesOf_0 : decode cX10_statesOf 0 = .ok (.aload_n 0, 1) := by decide +kernel
theorem dX10_statesOf_1 : decode cX10_statesOf 1 = .ok (.getfield 68, 3) := by decide +kernel
theorem dX10_statesOf_4 : decode cX10_statesOf 4 = .ok (.aload_n 0, 1) := by decide +kernel
theorem dX10_statesOf_5 : decode cX10_statesOf 5 = .ok (.getfield 41, 3) := by decide +kernel
theorem dX10_statesOf_8 : decode cX10_statesOf 8 = .ok (.aload_n 1, 1) := by decide +kernel
theorem dX10_statesOf_9 : decode cX10_statesOf 9 = .ok (.invokevirtual 194, 3) := by decide +kernel
theorem dX10_statesOf_12 : decode cX10_statesOf 12 = .ok (.invokevirtual 234, 3) := by decide +kernel
theorem dX10_statesOf_15 : decode cX10_statesOf 15 = .ok (.aload_n 0, 1) := by decide +kernel
theorem dX10_statesOf_16 : decode cX10_statesOf 16 = .ok (.getfield 68, 3) := by decide +kernel
theorem dX10_statesOf_19 : decode cX10_statesOf 19 = .ok (.aload_n 0, 1) := by decide +kernel
theorem dX10_statesOf_20 : decode cX10_statesOf 20 = .ok (.getfield 41, 3) := by decide +kernel
theorem dX10_statesOf_23 : decode cX10_statesOf 23 = .ok (.invokevirtual 241, 3) := by decide +kernel
theorem dX10_statesOf_26 : decode cX10_statesOf 26 = .ok (.invokevirtual 244, 3) := by decide +kernel
theorem dX10_statesOf_29 : decode cX10_statesOf 29 = .ok (.ireturn, 1) := by decide +kernel
theorem dX10_lordIn_0 : decode cX10_lordIn 0 = .ok (.iconst (-1), 1) := by decide +kernel
theorem dX10_lordIn_1 : decode cX10_lordIn 1 = .ok (.istore_n 2, 1) := by decide +kernel
theorem dX10_lordIn_2 : decode cX10_lordIn 2 = .ok (.iconst 0, 1) := by decide +kernel
theorem dX10_lordIn_3 : decode cX10_lordIn 3 = .ok (.istore_n 3, 1) := by decide +kernel
theorem dX10_lordIn_4 : decode cX10_lordIn 4 = .ok (.iload_n 3, 1) := by decide +kernel
theorem dX10_lordIn_5 : decode cX10_lordIn 5 = .ok (.aload_n 0, 1) := by decide +kernel
theorem dX10_lordIn_6 : decode cX10_lordIn 6 = .ok (.getfield 41, 3) := by decide +kernel
theorem dX10_lordIn_9 : decode cX10_lordIn 9 = .ok (.getfield 149, 3) := by decide +kernel
theorem dX10_lordIn_12 : decode cX10_lordIn 12 = .ok (.if_icmp .ge 52, 3) := by decide +kernel
theorem dX10_lordIn_15 : decode cX10_lordIn 15 = .ok (.iload_n 1, 1) := by decide +kernel
theorem dX10_lordIn_16 : decode cX10_lordIn 16 = .ok (.aload_n 0, 1) := by decide +kernel
theorem dX10_lordIn_17 : decode cX10_lordIn 17 = .ok (.getfield 51, 3) := by decide +kernel
theorem dX10_lordIn_20 : decode cX10_lordIn 20 = .ok (.getfield 211, 3) := by decide +kernel
theorem dX10_lordIn_23 : decode cX10_lordIn 23 = .ok (.iload_n 3, 1) := by decide +kernel
theorem dX10_lordIn_24 : decode cX10_lordIn 24 = .ok (.iaload, 1) := by decide +kernel
theorem dX10_lordIn_25 : decode cX10_lordIn 25 = .ok (.invokestatic 190, 3) := by decide +kernel
theorem dX10_lordIn_28 : decode cX10_lordIn 28 = .ok (.ifCond .eq 30, 3) := by decide +kernel
theorem dX10_lordIn_31 : decode cX10_lordIn 31 = .ok (.iload_n 2, 1) := by decide +kernel
theorem dX10_lordIn_32 : decode cX10_lordIn 32 = .ok (.ifCond .lt 24, 3) := by decide +kernel
theorem dX10_lordIn_35 : decode cX10_lordIn 35 = .ok (.aload_n 0, 1) := by decide +kernel
theorem dX10_lordIn_36 : decode cX10_lordIn 36 = .ok (.getfield 41, 3) := by decide +kernel
theorem dX10_lordIn_39 : decode cX10_lordIn 39 = .ok (.getfield 214, 3) := by decide +kernel
theorem dX10_lordIn_42 : decode cX10_lordIn 42 = .ok (.iload_n 3, 1) := by decide +kernel
theorem dX10_lordIn_43 : decode cX10_lordIn 43 = .ok (.iaload, 1) := by decide +kernel
theorem dX10_lordIn_44 : decode cX10_lordIn 44 = .ok (.aload_n 0, 1) := by decide +kernel
theorem dX10_lordIn_45 : decode cX10_lordIn 45 = .ok (.getfield 41, 3) := by decide +kernel
theorem dX10_lordIn_48 : decode cX10_lordIn 48 = .ok (.getfield 214, 3) := by decide +kernel
theorem dX10_lordIn_51 : decode cX10_lordIn 51 = .ok (.iload_n 2, 1) := by decide +kernel
theorem dX10_lordIn_52 : decode cX10_lordIn 52 = .ok (.iaload, 1) := by decide +kernel
theorem dX10_lordIn_53 : decode cX10_lordIn 53 = .ok (.if_icmp .le 5, 3) := by decide +kernel
theorem dX10_lordIn_56 : decode cX10_lordIn 56 = .ok (.iload_n 3, 1) := by decide +kernel
theorem dX10_lordIn_57 : decode cX10_lordIn 57 = .ok (.istore_n 2, 1) := by decide +kernel
theorem dX10_lordIn_58 : decode cX10_lordIn 58 = .ok (.iinc 3 1, 3) := by decide +kernel
theorem dX10_lordIn_61 : decode cX10_lordIn 61 = .ok (.goto (-57), 3) := by decide +kernel
theorem dX10_lordIn_64 : decode cX10_lordIn 64 = .ok (.iload_n 2, 1) := by decide +kernel
theorem dX10_lordIn_65 : decode cX10_lordIn 65 = .ok (.ireturn, 1) := by decide +kernel
theorem dX10_shine_0 : decode cX10_shine 0 = .ok (.aload_n 1, 1) := by decide +kernel
theorem dX10_shine_1 : decode cX10_shine 1 = .ok (.invokevirtual 194, 3) := by decide +kernel
theorem dX10_shine_4 : decode cX10_shine 4 = .ok (.istore_n 2, 1) := by decide +kernel
theorem dX10_shine_5 : decode cX10_shine 5 = .ok (.aload_n 0, 1) := by decide +kernel
theorem dX10_shine_6 : decode cX10_shine 6 = .ok (.getfield 75, 3) := by decide +kernel
theorem dX10_shine_9 : decode cX10_shine 9 = .ok (.aload_n 1, 1) := by decide +kernel
theorem dX10_shine_10 : decode cX10_shine 10 = .ok (.aload_n 0, 1) := by decide +kernel
theorem dX10_shine_11 : decode cX10_shine 11 = .ok (.getfield 34, 3) := by decide +kernel
theorem dX10_shine_14 : decode cX10_shine 14 = .ok (.iload_n 2, 1) := by decide +kernel
theorem dX10_shine_15 : decode cX10_shine 15 = .ok (.invokevirtual 247, 3) := by decide +kernel
theorem dX10_shine_18 : decode cX10_shine 18 = .ok (.aload_n 0, 1) := by decide +kernel
theorem dX10_shine_19 : decode cX10_shine 19 = .ok (.getfield 75, 3) := by decide +kernel
theorem dX10_shine_22 : decode cX10_shine 22 = .ok (.aload_n 0, 1) := by decide +kernel
theorem dX10_shine_23 : decode cX10_shine 23 = .ok (.getfield 41, 3) := by decide +kernel
theorem dX10_shine_26 : decode cX10_shine 26 = .ok (.iload_n 2, 1) := by decide +kernel
theorem dX10_shine_27 : decode cX10_shine 27 = .ok (.invokevirtual 251, 3) := by decide +kernel
theorem dX10_shine_30 : decode cX10_shine 30 = .ok (.aload_n 0, 1) := by decide +kernel
theorem dX10_shine_31 : decode cX10_shine 31 = .ok (.getfield 75, 3) := by decide +kernel
theorem dX10_shine_34 : decode cX10_shine 34 = .ok (.aload_n 0, 1) := by decide +kernel
theorem dX10_shine_35 : decode cX10_shine 35 = .ok (.getfield 41, 3) := by decide +kernel
theorem dX10_shine_38 : decode cX10_shine 38 = .ok (.iconst 0, 1) := by decide +kernel
theorem dX10_shine_39 : decode cX10_shine 39 = .ok (.aload_n 0, 1) := by decide +kernel
theorem dX10_shine_40 : decode cX10_shine 40 = .ok (.getfield 41, 3) := by decide +kernel
theorem dX10_shine_43 : decode cX10_shine 43 = .ok (.getfield 162, 3) := by decide +kernel
theorem dX10_shine_46 : decode cX10_shine 46 = .ok (.invokevirtual 254, 3) := by decide +kernel
theorem dX10_shine_49 : decode cX10_shine 49 = .ok (.return_, 1) := by decide +kernel
theorem dX10_state_0 : decode cX10_state 0 = .ok (.aload_n 0, 1) := by decide +kernel
theorem dX10_state_1 : decode cX10_state 1 = .ok (.iload_n 1, 1) := by decide +kernel
theorem dX10_state_2 : decode cX10_state 2 = .ok (.invokevirtual 258, 3) := by decide +kernel
theorem dX10_state_5 : decode cX10_state 5 = .ok (.ifCond .eq 14, 3) := by decide +kernel
theorem dX10_state_8 : decode cX10_state 8 = .ok (.aload_n 0, 1) := by decide +kernel
theorem dX10_state_9 : decode cX10_state 9 = .ok (.iload_n 1, 1) := by decide +kernel
theorem dX10_state_10 : decode cX10_state 10 = .ok (.invokevirtual 217, 3) := by decide +kernel
theorem dX10_state_13 : decode cX10_state 13 = .ok (.invokestatic 220, 3) := by decide +kernel
theorem dX10_state_16 : decode cX10_state 16 = .ok (.goto 4, 3) := by decide +kernel
theorem dX10_state_19 : decode cX10_state 19 = .ok (.iconst (-1), 1) := by decide +kernel
theorem dX10_state_20 : decode cX10_state 20 = .ok (.ireturn, 1) := by decide +kernel
theorem dX10_lord_0 : decode cX10_lord 0 = .ok (.aload_n 0, 1) := by decide +kernel
theorem dX10_lord_1 : decode cX10_lord 1 = .ok (.iload_n 1, 1) := by decide +kernel
theorem dX10_lord_2 : decode cX10_lord 2 = .ok (.invokevirtual 258, 3) := by decide +kernel
theorem dX10_lord_5 : decode cX10_lord 5 = .ok (.ifCond .eq 15, 3) := by decide +kernel
theorem dX10_lord_8 : decode cX10_lord 8 = .ok (.aload_n 0, 1) := by decide +kernel
theorem dX10_lord_9 : decode cX10_lord 9 = .ok (.aload_n 0, 1) := by decide +kernel
theorem dX10_lord_10 : decode cX10_lord 10 = .ok (.iload_n 1, 1) := by decide +kernel
theorem dX10_lord_11 : decode cX10_lord 11 = .ok (.invokevirtual 217, 3) := by decide +kernel
theorem dX10_lord_14 : decode cX10_lord 14 = .ok (.invokevirtual 223, 3) := by decide +kernel
theorem dX10_lord_17 : decode cX10_lord 17 = .ok (.goto 4, 3) := by decide +kernel
theorem dX10_lord_20 : decode cX10_lord 20 = .ok (.iconst (-1), 1) := by decide +kernel
theorem dX10_lord_21 : decode cX10_lord 21 = .ok (.ireturn, 1) := by decide +kernel
theorem dX10_lit_0 : decode cX10_lit 0 = .ok (.aload_n 0, 1) := by decide +kernel
theorem dX10_lit_1 : decode cX10_lit 1 = .ok (.iload_n 1, 1) := by decide +kernel
theorem dX10_lit_2 : decode cX10_lit 2 = .ok (.invokevirtual 258, 3) := by decide +kernel
theorem dX10_lit_5 : decode cX10_lit 5 = .ok (.ifCond .ne 5, 3) := by decide +kernel
theorem dX10_lit_8 : decode cX10_lit 8 = .ok (.iconst (-1), 1) := by decide +kernel
theorem dX10_lit_9 : decode cX10_lit 9 = .ok (.ireturn, 1) := by decide +kernel
theorem dX10_lit_10 : decode cX10_lit 10 = .ok (.aload_n 0, 1) := by decide +kernel
theorem dX10_lit_11 : decode cX10_lit 11 = .ok (.aload_n 0, 1) := by decide +kernel
theorem dX10_lit_12 : decode cX10_lit 12 = .ok (.getfield 51, 3) := by decide +kernel
theorem dX10_lit_15 : decode cX10_lit 15 = .ok (.invokevirtual 261, 3) := by decide +kernel
theorem dX10_lit_18 : decode cX10_lit 18 = .ok (.aload_n 0, 1) := by decide +kernel
theorem dX10_lit_19 : decode cX10_lit 19 = .ok (.getfield 75, 3) := by decide +kernel
theorem dX10_lit_22 : decode cX10_lit 22 = .ok (.getfield 265, 3) := by decide +kernel
theorem dX10_lit_25 : decode cX10_lit 25 = .ok (.iload_n 1, 1) := by decide +kernel
theorem dX10_lit_26 : decode cX10_lit 26 = .ok (.iaload, 1) := by decide +kernel
theorem dX10_lit_27 : decode cX10_lit 27 = .ok (.ireturn, 1) := by decide +kernel
theorem dX10_touch_0 : decode cX10_touch 0 = .ok (.aload_n 0, 1) := by decide +kernel
theorem dX10_touch_1 : decode cX10_touch 1 = .ok (.iload_n 1, 1) := by decide +kernel
theorem dX10_touch_2 : decode cX10_touch 2 = .ok (.invokevirtual 258, 3) := by decide +kernel
theorem dX10_touch_5 : decode cX10_touch 5 = .ok (.ifCond .eq 11, 3) := by decide +kernel
theorem dX10_touch_8 : decode cX10_touch 8 = .ok (.aload_n 0, 1) := by decide +kernel
theorem dX10_touch_9 : decode cX10_touch 9 = .ok (.iload_n 2, 1) := by decide +kernel
theorem dX10_touch_10 : decode cX10_touch 10 = .ok (.invokevirtual 258, 3) := by decide +kernel
theorem dX10_touch_13 : decode cX10_touch 13 = .ok (.ifCond .ne 5, 3) := by decide +kernel
theorem dX10_touch_16 : decode cX10_touch 16 = .ok (.iconst (-1), 1) := by decide +kernel
theorem dX10_touch_17 : decode cX10_touch 17 = .ok (.ireturn, 1) := by decide +kernel
theorem dX10_touch_18 : decode cX10_touch 18 = .ok (.aload_n 0, 1) := by decide +kernel
theorem dX10_touch_19 : decode cX10_touch 19 = .ok (.iload_n 1, 1) := by decide +kernel
theorem dX10_touch_20 : decode cX10_touch 20 = .ok (.invokevirtual 217, 3) := by decide +kernel
theorem dX10_touch_23 : decode cX10_touch 23 = .ok (.istore_n 3, 1) := by decide +kernel
theorem dX10_touch_24 : decode cX10_touch 24 = .ok (.aload_n 0, 1) := by decide +kernel
theorem dX10_touch_25 : decode cX10_touch 25 = .ok (.iload_n 2, 1) := by decide +kernel
theorem dX10_touch_26 : decode cX10_touch 26 = .ok (.invokevirtual 217, 3) := by decide +kernel
theorem dX10_touch_29 : decode cX10_touch 29 = .ok (.istore 4, 2) := by decide +kernel
theorem dX10_touch_31 : decode cX10_touch 31 = .ok (.iload_n 3, 1) := by decide +kernel
theorem dX10_touch_32 : decode cX10_touch 32 = .ok (.iload 4, 2) := by decide +kernel
theorem dX10_touch_34 : decode cX10_touch 34 = .ok (.if_icmp .ne 5, 3) := by decide +kernel
theorem dX10_touch_37 : decode cX10_touch 37 = .ok (.iconst 0, 1) := by decide +kernel
theorem dX10_touch_38 : decode cX10_touch 38 = .ok (.ireturn, 1) := by decide +kernel
theorem dX10_touch_39 : decode cX10_touch 39 = .ok (.aload_n 0, 1) := by decide +kernel
theorem dX10_touch_40 : decode cX10_touch 40 = .ok (.iload_n 3, 1) := by decide +kernel
theorem dX10_touch_41 : decode cX10_touch 41 = .ok (.invokevirtual 268, 3) := by decide +kernel
theorem dX10_touch_44 : decode cX10_touch 44 = .ok (.aload_n 0, 1) := by decide +kernel
theorem dX10_touch_45 : decode cX10_touch 45 = .ok (.iload 4, 2) := by decide +kernel
theorem dX10_touch_47 : decode cX10_touch 47 = .ok (.invokevirtual 268, 3) := by decide +kernel
theorem dX10_touch_50 : decode cX10_touch 50 = .ok (.iand, 1) := by decide +kernel
theorem dX10_touch_51 : decode cX10_touch 51 = .ok (.ifCond .eq 7, 3) := by decide +kernel
theorem dX10_touch_54 : decode cX10_touch 54 = .ok (.iconst 1, 1) := by decide +kernel
theorem dX10_touch_55 : decode cX10_touch 55 = .ok (.goto 4, 3) := by decide +kernel
theorem dX10_touch_58 : decode cX10_touch 58 = .ok (.iconst 0, 1) := by decide +kernel
theorem dX10_touch_59 : decode cX10_touch 59 = .ok (.ireturn, 1) := by decide +kernel
theorem dX10_bordersOf_0 : decode cX10_bordersOf 0 = .ok (.aload_n 0, 1) := by decide +kernel
theorem dX10_bordersOf_1 : decode cX10_bordersOf 1 = .ok (.getfield 51, 3) := by decide +kernel
theorem dX10_bordersOf_4 : decode cX10_bordersOf 4 = .ok (.invokevirtual 194, 3) := by decide +kernel
theorem dX10_bordersOf_7 : decode cX10_bordersOf 7 = .ok (.istore_n 2, 1) := by decide +kernel
theorem dX10_bordersOf_8 : decode cX10_bordersOf 8 = .ok (.iconst 0, 1) := by decide +kernel
theorem dX10_bordersOf_9 : decode cX10_bordersOf 9 = .ok (.istore_n 3, 1) := by decide +kernel
theorem dX10_bordersOf_10 : decode cX10_bordersOf 10 = .ok (.iconst 0, 1) := by decide +kernel
theorem dX10_bordersOf_11 : decode cX10_bordersOf 11 = .ok (.istore 4, 2) := by decide +kernel
theorem dX10_bordersOf_13 : decode cX10_bordersOf 13 = .ok (.iload 4, 2) := by decide +kernel
theorem dX10_bordersOf_15 : decode cX10_bordersOf 15 = .ok (.aload_n 0, 1) := by decide +kernel
theorem dX10_bordersOf_16 : decode cX10_bordersOf 16 = .ok (.getfield 41, 3) := by decide +kernel
theorem dX10_bordersOf_19 : decode cX10_bordersOf 19 = .ok (.getfield 146, 3) := by decide +kernel
theorem dX10_bordersOf_22 : decode cX10_bordersOf 22 = .ok (.if_icmp .ge 56, 3) := by decide +kernel
theorem dX10_bordersOf_25 : decode cX10_bordersOf 25 = .ok (.iload_n 2, 1) := by decide +kernel
theorem dX10_bordersOf_26 : decode cX10_bordersOf 26 = .ok (.iload 4, 2) := by decide +kernel
theorem dX10_bordersOf_28 : decode cX10_bordersOf 28 = .ok (.invokestatic 190, 3) := by decide +kernel
theorem dX10_bordersOf_31 : decode cX10_bordersOf 31 = .ok (.ifCond .eq 41, 3) := by decide +kernel
theorem dX10_bordersOf_34 : decode cX10_bordersOf 34 = .ok (.iload_n 1, 1) := by decide +kernel
theorem dX10_bordersOf_35 : decode cX10_bordersOf 35 = .ok (.aload_n 0, 1) := by decide +kernel
theorem dX10_bordersOf_36 : decode cX10_bordersOf 36 = .ok (.getfield 41, 3) := by decide +kernel
theorem dX10_bordersOf_39 : decode cX10_bordersOf 39 = .ok (.getfield 172, 3) := by decide +kernel
theorem dX10_bordersOf_42 : decode cX10_bordersOf 42 = .ok (.iload 4, 2) := by decide +kernel
theorem dX10_bordersOf_44 : decode cX10_bordersOf 44 = .ok (.iaload, 1) := by decide +kernel
theorem dX10_bordersOf_45 : decode cX10_bordersOf 45 = .ok (.invokestatic 190, 3) := by decide +kernel
theorem dX10_bordersOf_48 : decode cX10_bordersOf 48 = .ok (.iload_n 1, 1) := by decide +kernel
theorem dX10_bordersOf_49 : decode cX10_bordersOf 49 = .ok (.aload_n 0, 1) := by decide +kernel
theorem dX10_bordersOf_50 : decode cX10_bordersOf 50 = .ok (.getfield 41, 3) := by decide +kernel
theorem dX10_bordersOf_53 : decode cX10_bordersOf 53 = .ok (.getfield 175, 3) := by decide +kernel
theorem dX10_bordersOf_56 : decode cX10_bordersOf 56 = .ok (.iload 4, 2) := by decide +kernel
theorem dX10_bordersOf_58 : decode cX10_bordersOf 58 = .ok (.iaload, 1) := by decide +kernel
theorem dX10_bordersOf_59 : decode cX10_bordersOf 59 = .ok (.invokestatic 190, 3) := by decide +kernel
theorem dX10_bordersOf_62 : decode cX10_bordersOf 62 = .ok (.if_icmp .eq 10, 3) := by decide +kernel
theorem dX10_bordersOf_65 : decode cX10_bordersOf 65 = .ok (.iload_n 3, 1) := by decide +kernel
theorem dX10_bordersOf_66 : decode cX10_bordersOf 66 = .ok (.iconst 1, 1) := by decide +kernel
theorem dX10_bordersOf_67 : decode cX10_bordersOf 67 = .ok (.iload 4, 2) := by decide +kernel
theorem dX10_bordersOf_69 : decode cX10_bordersOf 69 = .ok (.ishl, 1) := by decide +kernel
theorem dX10_bordersOf_70 : decode cX10_bordersOf 70 = .ok (.ior, 1) := by decide +kernel
theorem dX10_bordersOf_71 : decode cX10_bordersOf 71 = .ok (.istore_n 3, 1) := by decide +kernel
theorem dX10_bordersOf_72 : decode cX10_bordersOf 72 = .ok (.iinc 4 1, 3) := by decide +kernel
theorem dX10_bordersOf_75 : decode cX10_bordersOf 75 = .ok (.goto (-62), 3) := by decide +kernel
theorem dX10_bordersOf_78 : decode cX10_bordersOf 78 = .ok (.iload_n 3, 1) := by decide +kernel
theorem dX10_bordersOf_79 : decode cX10_bordersOf 79 = .ok (.ireturn, 1) := by decide +kernel
theorem dX10_besides_0 : decode cX10_besides 0 = .ok (.iconst 0, 1) := by decide +kernel
theorem dX10_besides_1 : decode cX10_besides 1 = .ok (.istore_n 2, 1) := by decide +kernel
theorem dX10_besides_2 : decode cX10_besides 2 = .ok (.iconst 0, 1) := by decide +kernel
theorem dX10_besides_3 : decode cX10_besides 3 = .ok (.istore_n 3, 1) := by decide +kernel
theorem dX10_besides_4 : decode cX10_besides 4 = .ok (.iload_n 3, 1) := by decide +kernel
theorem dX10_besides_5 : decode cX10_besides 5 = .ok (.aload_n 0, 1) := by decide +kernel
theorem dX10_besides_6 : decode cX10_besides 6 = .ok (.getfield 41, 3) := by decide +kernel
theorem dX10_besides_9 : decode cX10_besides 9 = .ok (.getfield 146, 3) := by decide +kernel
theorem dX10_besides_12 : decode cX10_besides 12 = .ok (.if_icmp .ge 41, 3) := by decide +kernel
theorem dX10_besides_15 : decode cX10_besides 15 = .ok (.aload_n 0, 1) := by decide +kernel
theorem dX10_besides_16 : decode cX10_besides 16 = .ok (.getfield 41, 3) := by decide +kernel
theorem dX10_besides_19 : decode cX10_besides 19 = .ok (.getfield 172, 3) := by decide +kernel
theorem dX10_besides_22 : decode cX10_besides 22 = .ok (.iload_n 3, 1) := by decide +kernel
theorem dX10_besides_23 : decode cX10_besides 23 = .ok (.iaload, 1) := by decide +kernel
theorem dX10_besides_24 : decode cX10_besides 24 = .ok (.iload_n 1, 1) := by decide +kernel
theorem dX10_besides_25 : decode cX10_besides 25 = .ok (.if_icmp .eq 16, 3) := by decide +kernel
theorem dX10_besides_28 : decode cX10_besides 28 = .ok (.aload_n 0, 1) := by decide +kernel
theorem dX10_besides_29 : decode cX10_besides 29 = .ok (.getfield 41, 3) := by decide +kernel
theorem dX10_besides_32 : decode cX10_besides 32 = .ok (.getfield 175, 3) := by decide +kernel
theorem dX10_besides_35 : decode cX10_besides 35 = .ok (.iload_n 3, 1) := by decide +kernel
theorem dX10_besides_36 : decode cX10_besides 36 = .ok (.iaload, 1) := by decide +kernel
theorem dX10_besides_37 : decode cX10_besides 37 = .ok (.iload_n 1, 1) := by decide +kernel
theorem dX10_besides_38 : decode cX10_besides 38 = .ok (.if_icmp .ne 9, 3) := by decide +kernel
theorem dX10_besides_41 : decode cX10_besides 41 = .ok (.iload_n 2, 1) := by decide +kernel
theorem dX10_besides_42 : decode cX10_besides 42 = .ok (.iconst 1, 1) := by decide +kernel
theorem dX10_besides_43 : decode cX10_besides 43 = .ok (.iload_n 3, 1) := by decide +kernel
theorem dX10_besides_44 : decode cX10_besides 44 = .ok (.ishl, 1) := by decide +kernel
theorem dX10_besides_45 : decode cX10_besides 45 = .ok (.ior, 1) := by decide +kernel
theorem dX10_besides_46 : decode cX10_besides 46 = .ok (.istore_n 2, 1) := by decide +kernel
theorem dX10_besides_47 : decode cX10_besides 47 = .ok (.iinc 3 1, 3) := by decide +kernel
theorem dX10_besides_50 : decode cX10_besides 50 = .ok (.goto (-46), 3) := by decide +kernel
theorem dX10_besides_53 : decode cX10_besides 53 = .ok (.iload_n 2, 1) := by decide +kernel
theorem dX10_besides_54 : decode cX10_besides 54 = .ok (.ireturn, 1) := by decide +kernel
theorem dX10_refuse_0 : decode cX10_refuse 0 = .ok (.iload_n 1, 1) := by decide +kernel
theorem dX10_refuse_1 : decode cX10_refuse 1 = .ok (.iconst 0, 1) := by decide +kernel
theorem dX10_refuse_2 : decode cX10_refuse 2 = .ok (.iconst 4, 1) := by decide +kernel
theorem dX10_refuse_3 : decode cX10_refuse 3 = .ok (.invokestatic 204, 3) := by decide +kernel
theorem dX10_refuse_6 : decode cX10_refuse 6 = .ok (.ifCond .eq 13, 3) := by decide +kernel
theorem dX10_refuse_9 : decode cX10_refuse 9 = .ok (.aload_n 0, 1) := by decide +kernel
theorem dX10_refuse_10 : decode cX10_refuse 10 = .ok (.getfield 86, 3) := by decide +kernel
theorem dX10_refuse_13 : decode cX10_refuse 13 = .ok (.iload_n 1, 1) := by decide +kernel
theorem dX10_refuse_14 : decode cX10_refuse 14 = .ok (.dup2, 1) := by decide +kernel
theorem dX10_refuse_15 : decode cX10_refuse 15 = .ok (.iaload, 1) := by decide +kernel
theorem dX10_refuse_16 : decode cX10_refuse 16 = .ok (.iconst 1, 1) := by decide +kernel
theorem dX10_refuse_17 : decode cX10_refuse 17 = .ok (.iadd, 1) := by decide +kernel
theorem dX10_refuse_18 : decode cX10_refuse 18 = .ok (.iastore, 1) := by decide +kernel
theorem dX10_refuse_19 : decode cX10_refuse 19 = .ok (.iconst (-1), 1) := by decide +kernel
theorem dX10_refuse_20 : decode cX10_refuse 20 = .ok (.ireturn, 1) := by decide +kernel
theorem dX10_rightsOf_0 : decode cX10_rightsOf 0 = .ok (.aload_n 0, 1) := by decide +kernel
theorem dX10_rightsOf_1 : decode cX10_rightsOf 1 = .ok (.aload_n 0, 1) := by decide +kernel
theorem dX10_rightsOf_2 : decode cX10_rightsOf 2 = .ok (.getfield 51, 3) := by decide +kernel
theorem dX10_rightsOf_5 : decode cX10_rightsOf 5 = .ok (.getfield 211, 3) := by decide +kernel
theorem dX10_rightsOf_8 : decode cX10_rightsOf 8 = .ok (.iload_n 1, 1) := by decide +kernel
theorem dX10_rightsOf_9 : decode cX10_rightsOf 9 = .ok (.iaload, 1) := by decide +kernel
theorem dX10_rightsOf_10 : decode cX10_rightsOf 10 = .ok (.invokevirtual 217, 3) := by decide +kernel
theorem dX10_rightsOf_13 : decode cX10_rightsOf 13 = .ok (.istore_n 2, 1) := by decide +kernel
theorem dX10_rightsOf_14 : decode cX10_rightsOf 14 = .ok (.iconst 0, 1) := by decide +kernel
theorem dX10_rightsOf_15 : decode cX10_rightsOf 15 = .ok (.istore_n 3, 1) := by decide +kernel
theorem dX10_rightsOf_16 : decode cX10_rightsOf 16 = .ok (.iconst 0, 1) := by decide +kernel
theorem dX10_rightsOf_17 : decode cX10_rightsOf 17 = .ok (.istore 4, 2) := by decide +kernel
theorem dX10_rightsOf_19 : decode cX10_rightsOf 19 = .ok (.iload 4, 2) := by decide +kernel
theorem dX10_rightsOf_21 : decode cX10_rightsOf 21 = .ok (.aload_n 0, 1) := by decide +kernel
theorem dX10_rightsOf_22 : decode cX10_rightsOf 22 = .ok (.getfield 41, 3) := by decide +kernel
theorem dX10_rightsOf_25 : decode cX10_rightsOf 25 = .ok (.getfield 146, 3) := by decide +kernel
theorem dX10_rightsOf_28 : decode cX10_rightsOf 28 = .ok (.if_icmp .ge 50, 3) := by decide +kernel
theorem dX10_rightsOf_31 : decode cX10_rightsOf 31 = .ok (.iload_n 2, 1) := by decide +kernel
theorem dX10_rightsOf_32 : decode cX10_rightsOf 32 = .ok (.aload_n 0, 1) := by decide +kernel
theorem dX10_rightsOf_33 : decode cX10_rightsOf 33 = .ok (.getfield 41, 3) := by decide +kernel
theorem dX10_rightsOf_36 : decode cX10_rightsOf 36 = .ok (.getfield 172, 3) := by decide +kernel
theorem dX10_rightsOf_39 : decode cX10_rightsOf 39 = .ok (.iload 4, 2) := by decide +kernel
theorem dX10_rightsOf_41 : decode cX10_rightsOf 41 = .ok (.iaload, 1) := by decide +kernel
theorem dX10_rightsOf_42 : decode cX10_rightsOf 42 = .ok (.invokestatic 190, 3) := by decide +kernel
theorem dX10_rightsOf_45 : decode cX10_rightsOf 45 = .ok (.ifCond .ne 20, 3) := by decide +kernel
theorem dX10_rightsOf_48 : decode cX10_rightsOf 48 = .ok (.iload_n 2, 1) := by decide +kernel
theorem dX10_rightsOf_49 : decode cX10_rightsOf 49 = .ok (.aload_n 0, 1) := by decide +kernel
theorem dX10_rightsOf_50 : decode cX10_rightsOf 50 = .ok (.getfield 41, 3) := by decide +kernel
theorem dX10_rightsOf_53 : decode cX10_rightsOf 53 = .ok (.getfield 175, 3) := by decide +kernel
theorem dX10_rightsOf_56 : decode cX10_rightsOf 56 = .ok (.iload 4, 2) := by decide +kernel
theorem dX10_rightsOf_58 : decode cX10_rightsOf 58 = .ok (.iaload, 1) := by decide +kernel
theorem dX10_rightsOf_59 : decode cX10_rightsOf 59 = .ok (.invokestatic 190, 3) := by decide +kernel
theorem dX10_rightsOf_62 : decode cX10_rightsOf 62 = .ok (.ifCond .eq 10, 3) := by decide +kernel
theorem dX10_rightsOf_65 : decode cX10_rightsOf 65 = .ok (.iload_n 3, 1) := by decide +kernel
theorem dX10_rightsOf_66 : decode cX10_rightsOf 66 = .ok (.iconst 1, 1) := by decide +kernel
theorem dX10_rightsOf_67 : decode cX10_rightsOf 67 = .ok (.iload 4, 2) := by decide +kernel
theorem dX10_rightsOf_69 : decode cX10_rightsOf 69 = .ok (.ishl, 1) := by decide +kernel
theorem dX10_rightsOf_70 : decode cX10_rightsOf 70 = .ok (.ior, 1) := by decide +kernel
theorem dX10_rightsOf_71 : decode cX10_rightsOf 71 = .ok (.istore_n 3, 1) := by decide +kernel
theorem dX10_rightsOf_72 : decode cX10_rightsOf 72 = .ok (.iinc 4 1, 3) := by decide +kernel
theorem dX10_rightsOf_75 : decode cX10_rightsOf 75 = .ok (.goto (-56), 3) := by decide +kernel
theorem dX10_rightsOf_78 : decode cX10_rightsOf 78 = .ok (.iload_n 3, 1) := by decide +kernel
theorem dX10_rightsOf_79 : decode cX10_rightsOf 79 = .ok (.ireturn, 1) := by decide +kernel
theorem dX10_pull_0 : decode cX10_pull 0 = .ok (.aload_n 0, 1) := by decide +kernel
theorem dX10_pull_1 : decode cX10_pull 1 = .ok (.iload_n 1, 1) := by decide +kernel
theorem dX10_pull_2 : decode cX10_pull 2 = .ok (.invokevirtual 201, 3) := by decide +kernel
theorem dX10_pull_5 : decode cX10_pull 5 = .ok (.ifCond .eq 11, 3) := by decide +kernel
theorem dX10_pull_8 : decode cX10_pull 8 = .ok (.aload_n 0, 1) := by decide +kernel
theorem dX10_pull_9 : decode cX10_pull 9 = .ok (.iload_n 2, 1) := by decide +kernel
theorem dX10_pull_10 : decode cX10_pull 10 = .ok (.invokevirtual 168, 3) := by decide +kernel
theorem dX10_pull_13 : decode cX10_pull 13 = .ok (.ifCond .ne 9, 3) := by decide +kernel
theorem dX10_pull_16 : decode cX10_pull 16 = .ok (.aload_n 0, 1) := by decide +kernel
theorem dX10_pull_17 : decode cX10_pull 17 = .ok (.iconst 0, 1) := by decide +kernel
theorem dX10_pull_18 : decode cX10_pull 18 = .ok (.invokevirtual 271, 3) := by decide +kernel
theorem dX10_pull_21 : decode cX10_pull 21 = .ok (.ireturn, 1) := by decide +kernel
theorem dX10_pull_22 : decode cX10_pull 22 = .ok (.aload_n 0, 1) := by decide +kernel
theorem dX10_pull_23 : decode cX10_pull 23 = .ok (.iload_n 1, 1) := by decide +kernel
theorem dX10_pull_24 : decode cX10_pull 24 = .ok (.invokevirtual 274, 3) := by decide +kernel
theorem dX10_pull_27 : decode cX10_pull 27 = .ok (.iload_n 2, 1) := by decide +kernel
theorem dX10_pull_28 : decode cX10_pull 28 = .ok (.invokestatic 190, 3) := by decide +kernel
theorem dX10_pull_31 : decode cX10_pull 31 = .ok (.ifCond .eq 18, 3) := by decide +kernel
theorem dX10_pull_34 : decode cX10_pull 34 = .ok (.aload_n 0, 1) := by decide +kernel
theorem dX10_pull_35 : decode cX10_pull 35 = .ok (.getfield 51, 3) := by decide +kernel
theorem dX10_pull_38 : decode cX10_pull 38 = .ok (.getfield 187, 3) := by decide +kernel
theorem dX10_pull_41 : decode cX10_pull 41 = .ok (.iload_n 2, 1) := by decide +kernel
theorem dX10_pull_42 : decode cX10_pull 42 = .ok (.invokestatic 190, 3) := by decide +kernel
theorem dX10_pull_45 : decode cX10_pull 45 = .ok (.iload_n 3, 1) := by decide +kernel
theorem dX10_pull_46 : decode cX10_pull 46 = .ok (.if_icmp .ne 9, 3) := by decide +kernel
theorem dX10_pull_49 : decode cX10_pull 49 = .ok (.aload_n 0, 1) := by decide +kernel
theorem dX10_pull_50 : decode cX10_pull 50 = .ok (.iconst 2, 1) := by decide +kernel
theorem dX10_pull_51 : decode cX10_pull 51 = .ok (.invokevirtual 271, 3) := by decide +kernel
theorem dX10_pull_54 : decode cX10_pull 54 = .ok (.ireturn, 1) := by decide +kernel
theorem dX10_pull_55 : decode cX10_pull 55 = .ok (.aload_n 0, 1) := by decide +kernel
theorem dX10_pull_56 : decode cX10_pull 56 = .ok (.getfield 51, 3) := by decide +kernel
theorem dX10_pull_59 : decode cX10_pull 59 = .ok (.getfield 181, 3) := by decide +kernel
theorem dX10_pull_62 : decode cX10_pull 62 = .ok (.iload_n 2, 1) := by decide +kernel
theorem dX10_pull_63 : decode cX10_pull 63 = .ok (.iaload, 1) := by decide +kernel
theorem dX10_pull_64 : decode cX10_pull 64 = .ok (.ifCond .ne 9, 3) := by decide +kernel
theorem dX10_pull_67 : decode cX10_pull 67 = .ok (.aload_n 0, 1) := by decide +kernel
theorem dX10_pull_68 : decode cX10_pull 68 = .ok (.iconst 3, 1) := by decide +kernel
theorem dX10_pull_69 : decode cX10_pull 69 = .ok (.invokevirtual 271, 3) := by decide +kernel
theorem dX10_pull_72 : decode cX10_pull 72 = .ok (.ireturn, 1) := by decide +kernel
theorem dX10_pull_73 : decode cX10_pull 73 = .ok (.aload_n 0, 1) := by decide +kernel
theorem dX10_pull_74 : decode cX10_pull 74 = .ok (.getfield 61, 3) := by decide +kernel
theorem dX10_pull_77 : decode cX10_pull 77 = .ok (.aload_n 0, 1) := by decide +kernel
theorem dX10_pull_78 : decode cX10_pull 78 = .ok (.getfield 51, 3) := by decide +kernel
theorem dX10_pull_81 : decode cX10_pull 81 = .ok (.invokevirtual 277, 3) := by decide +kernel
theorem dX10_pull_84 : decode cX10_pull 84 = .ok (.aload_n 0, 1) := by decide +kernel
theorem dX10_pull_85 : decode cX10_pull 85 = .ok (.getfield 51, 3) := by decide +kernel
theorem dX10_pull_88 : decode cX10_pull 88 = .ok (.dup, 1) := by decide +kernel
theorem dX10_pull_89 : decode cX10_pull 89 = .ok (.getfield 187, 3) := by decide +kernel
theorem dX10_pull_92 : decode cX10_pull 92 = .ok (.iconst 1, 1) := by decide +kernel
theorem dX10_pull_93 : decode cX10_pull 93 = .ok (.iload_n 2, 1) := by decide +kernel
theorem dX10_pull_94 : decode cX10_pull 94 = .ok (.ishl, 1) := by decide +kernel
theorem dX10_pull_95 : decode cX10_pull 95 = .ok (.ixor, 1) := by decide +kernel
theorem dX10_pull_96 : decode cX10_pull 96 = .ok (.putfield 187, 3) := by decide +kernel
theorem dX10_pull_99 : decode cX10_pull 99 = .ok (.aload_n 0, 1) := by decide +kernel
theorem dX10_pull_100 : decode cX10_pull 100 = .ok (.aload_n 0, 1) := by decide +kernel
theorem dX10_pull_101 : decode cX10_pull 101 = .ok (.getfield 51, 3) := by decide +kernel
theorem dX10_pull_104 : decode cX10_pull 104 = .ok (.invokevirtual 280, 3) := by decide +kernel
theorem dX10_pull_107 : decode cX10_pull 107 = .ok (.ireturn, 1) := by decide +kernel
theorem dX10_go_0 : decode cX10_go 0 = .ok (.aload_n 0, 1) := by decide +kernel
theorem dX10_go_1 : decode cX10_go 1 = .ok (.iload_n 1, 1) := by decide +kernel
theorem dX10_go_2 : decode cX10_go 2 = .ok (.invokevirtual 201, 3) := by decide +kernel
theorem dX10_go_5 : decode cX10_go 5 = .ok (.ifCond .eq 11, 3) := by decide +kernel
theorem dX10_go_8 : decode cX10_go 8 = .ok (.aload_n 0, 1) := by decide +kernel
theorem dX10_go_9 : decode cX10_go 9 = .ok (.iload_n 2, 1) := by decide +kernel
theorem dX10_go_10 : decode cX10_go 10 = .ok (.invokevirtual 258, 3) := by decide +kernel
theorem dX10_go_13 : decode cX10_go 13 = .ok (.ifCond .ne 9, 3) := by decide +kernel
theorem dX10_go_16 : decode cX10_go 16 = .ok (.aload_n 0, 1) := by decide +kernel
theorem dX10_go_17 : decode cX10_go 17 = .ok (.iconst 0, 1) := by decide +kernel
theorem dX10_go_18 : decode cX10_go 18 = .ok (.invokevirtual 271, 3) := by decide +kernel
theorem dX10_go_21 : decode cX10_go 21 = .ok (.ireturn, 1) := by decide +kernel
theorem dX10_go_22 : decode cX10_go 22 = .ok (.aload_n 0, 1) := by decide +kernel
theorem dX10_go_23 : decode cX10_go 23 = .ok (.aload_n 0, 1) := by decide +kernel
theorem dX10_go_24 : decode cX10_go 24 = .ok (.getfield 51, 3) := by decide +kernel
theorem dX10_go_27 : decode cX10_go 27 = .ok (.getfield 211, 3) := by decide +kernel
theorem dX10_go_30 : decode cX10_go 30 = .ok (.iload_n 1, 1) := by decide +kernel
theorem dX10_go_31 : decode cX10_go 31 = .ok (.iaload, 1) := by decide +kernel
theorem dX10_go_32 : decode cX10_go 32 = .ok (.invokevirtual 217, 3) := by decide +kernel
theorem dX10_go_35 : decode cX10_go 35 = .ok (.istore_n 3, 1) := by decide +kernel
theorem dX10_go_36 : decode cX10_go 36 = .ok (.iload_n 3, 1) := by decide +kernel
theorem dX10_go_37 : decode cX10_go 37 = .ok (.iload_n 2, 1) := by decide +kernel
theorem dX10_go_38 : decode cX10_go 38 = .ok (.invokestatic 190, 3) := by decide +kernel
theorem dX10_go_41 : decode cX10_go 41 = .ok (.ifCond .eq 16, 3) := by decide +kernel
theorem dX10_go_44 : decode cX10_go 44 = .ok (.aload_n 0, 1) := by decide +kernel
theorem dX10_go_45 : decode cX10_go 45 = .ok (.getfield 51, 3) := by decide +kernel
theorem dX10_go_48 : decode cX10_go 48 = .ok (.getfield 211, 3) := by decide +kernel
theorem dX10_go_51 : decode cX10_go 51 = .ok (.iload_n 1, 1) := by decide +kernel
theorem dX10_go_52 : decode cX10_go 52 = .ok (.iaload, 1) := by decide +kernel
theorem dX10_go_53 : decode cX10_go 53 = .ok (.iload_n 2, 1) := by decide +kernel
theorem dX10_go_54 : decode cX10_go 54 = .ok (.if_icmp .ne 9, 3) := by decide +kernel
theorem dX10_go_57 : decode cX10_go 57 = .ok (.aload_n 0, 1) := by decide +kernel
theorem dX10_go_58 : decode cX10_go 58 = .ok (.iconst 2, 1) := by decide +kernel
theorem dX10_go_59 : decode cX10_go 59 = .ok (.invokevirtual 271, 3) := by decide +kernel
theorem dX10_go_62 : decode cX10_go 62 = .ok (.ireturn, 1) := by decide +kernel
theorem dX10_go_63 : decode cX10_go 63 = .ok (.aload_n 0, 1) := by decide +kernel
theorem dX10_go_64 : decode cX10_go 64 = .ok (.getfield 61, 3) := by decide +kernel
theorem dX10_go_67 : decode cX10_go 67 = .ok (.aload_n 0, 1) := by decide +kernel
theorem dX10_go_68 : decode cX10_go 68 = .ok (.getfield 51, 3) := by decide +kernel
theorem dX10_go_71 : decode cX10_go 71 = .ok (.invokevirtual 277, 3) := by decide +kernel
theorem dX10_go_74 : decode cX10_go 74 = .ok (.aload_n 0, 1) := by decide +kernel
theorem dX10_go_75 : decode cX10_go 75 = .ok (.getfield 51, 3) := by decide +kernel
theorem dX10_go_78 : decode cX10_go 78 = .ok (.getfield 211, 3) := by decide +kernel
theorem dX10_go_81 : decode cX10_go 81 = .ok (.iload_n 1, 1) := by decide +kernel
theorem dX10_go_82 : decode cX10_go 82 = .ok (.iload_n 2, 1) := by decide +kernel
theorem dX10_go_83 : decode cX10_go 83 = .ok (.iastore, 1) := by decide +kernel
theorem dX10_go_84 : decode cX10_go 84 = .ok (.iload_n 3, 1) := by decide +kernel
theorem dX10_go_85 : decode cX10_go 85 = .ok (.invokestatic 220, 3) := by decide +kernel
theorem dX10_go_88 : decode cX10_go 88 = .ok (.ireturn, 1) := by decide +kernel
theorem dX10_creep_0 : decode cX10_creep 0 = .ok (.aload_n 0, 1) := by decide +kernel
theorem dX10_creep_1 : decode cX10_creep 1 = .ok (.iload_n 1, 1) := by decide +kernel
theorem dX10_creep_2 : decode cX10_creep 2 = .ok (.invokevirtual 201, 3) := by decide +kernel
theorem dX10_creep_5 : decode cX10_creep 5 = .ok (.ifCond .eq 11, 3) := by decide +kernel
theorem dX10_creep_8 : decode cX10_creep 8 = .ok (.aload_n 0, 1) := by decide +kernel
theorem dX10_creep_9 : decode cX10_creep 9 = .ok (.iload_n 2, 1) := by decide +kernel
theorem dX10_creep_10 : decode cX10_creep 10 = .ok (.invokevirtual 168, 3) := by decide +kernel
theorem dX10_creep_13 : decode cX10_creep 13 = .ok (.ifCond .ne 9, 3) := by decide +kernel
theorem dX10_creep_16 : decode cX10_creep 16 = .ok (.aload_n 0, 1) := by decide +kernel
theorem dX10_creep_17 : decode cX10_creep 17 = .ok (.iconst 0, 1) := by decide +kernel
theorem dX10_creep_18 : decode cX10_creep 18 = .ok (.invokevirtual 271, 3) := by decide +kernel
theorem dX10_creep_21 : decode cX10_creep 21 = .ok (.ireturn, 1) := by decide +kernel
theorem dX10_creep_22 : decode cX10_creep 22 = .ok (.aload_n 0, 1) := by decide +kernel
theorem dX10_creep_23 : decode cX10_creep 23 = .ok (.getfield 51, 3) := by decide +kernel
theorem dX10_creep_26 : decode cX10_creep 26 = .ok (.getfield 211, 3) := by decide +kernel
theorem dX10_creep_29 : decode cX10_creep 29 = .ok (.iload_n 1, 1) := by decide +kernel
theorem dX10_creep_30 : decode cX10_creep 30 = .ok (.iaload, 1) := by decide +kernel
theorem dX10_creep_31 : decode cX10_creep 31 = .ok (.istore_n 3, 1) := by decide +kernel
theorem dX10_creep_32 : decode cX10_creep 32 = .ok (.aload_n 0, 1) := by decide +kernel
theorem dX10_creep_33 : decode cX10_creep 33 = .ok (.getfield 51, 3) := by decide +kernel
theorem dX10_creep_36 : decode cX10_creep 36 = .ok (.invokevirtual 194, 3) := by decide +kernel
theorem dX10_creep_39 : decode cX10_creep 39 = .ok (.aload_n 0, 1) := by decide +kernel
theorem dX10_creep_40 : decode cX10_creep 40 = .ok (.iload_n 3, 1) := by decide +kernel
theorem dX10_creep_41 : decode cX10_creep 41 = .ok (.invokevirtual 284, 3) := by decide +kernel
theorem dX10_creep_44 : decode cX10_creep 44 = .ok (.iand, 1) := by decide +kernel
theorem dX10_creep_45 : decode cX10_creep 45 = .ok (.iload_n 2, 1) := by decide +kernel
theorem dX10_creep_46 : decode cX10_creep 46 = .ok (.invokestatic 190, 3) := by decide +kernel
theorem dX10_creep_49 : decode cX10_creep 49 = .ok (.istore 4, 2) := by decide +kernel
theorem dX10_creep_51 : decode cX10_creep 51 = .ok (.iload 4, 2) := by decide +kernel
theorem dX10_creep_53 : decode cX10_creep 53 = .ok (.ifCond .eq 24, 3) := by decide +kernel
theorem dX10_creep_56 : decode cX10_creep 56 = .ok (.aload_n 0, 1) := by decide +kernel
theorem dX10_creep_57 : decode cX10_creep 57 = .ok (.getfield 41, 3) := by decide +kernel
theorem dX10_creep_60 : decode cX10_creep 60 = .ok (.getfield 184, 3) := by decide +kernel
theorem dX10_creep_63 : decode cX10_creep 63 = .ok (.iload_n 2, 1) := by decide +kernel
theorem dX10_creep_64 : decode cX10_creep 64 = .ok (.iaload, 1) := by decide +kernel
theorem dX10_creep_65 : decode cX10_creep 65 = .ok (.aload_n 0, 1) := by decide +kernel
theorem dX10_creep_66 : decode cX10_creep 66 = .ok (.getfield 41, 3) := by decide +kernel
theorem dX10_creep_69 : decode cX10_creep 69 = .ok (.getfield 214, 3) := by decide +kernel
theorem dX10_creep_72 : decode cX10_creep 72 = .ok (.iload_n 1, 1) := by decide +kernel
theorem dX10_creep_73 : decode cX10_creep 73 = .ok (.iaload, 1) := by decide +kernel
theorem dX10_creep_74 : decode cX10_creep 74 = .ok (.if_icmp .ge 9, 3) := by decide +kernel
theorem dX10_creep_77 : decode cX10_creep 77 = .ok (.aload_n 0, 1) := by decide +kernel
theorem dX10_creep_78 : decode cX10_creep 78 = .ok (.iconst 2, 1) := by decide +kernel
theorem dX10_creep_79 : decode cX10_creep 79 = .ok (.invokevirtual 271, 3) := by decide +kernel
theorem dX10_creep_82 : decode cX10_creep 82 = .ok (.ireturn, 1) := by decide +kernel
theorem dX10_creep_83 : decode cX10_creep 83 = .ok (.aload_n 0, 1) := by decide +kernel
theorem dX10_creep_84 : decode cX10_creep 84 = .ok (.getfield 61, 3) := by decide +kernel
theorem dX10_creep_87 : decode cX10_creep 87 = .ok (.aload_n 0, 1) := by decide +kernel
theorem dX10_creep_88 : decode cX10_creep 88 = .ok (.getfield 51, 3) := by decide +kernel
theorem dX10_creep_91 : decode cX10_creep 91 = .ok (.invokevirtual 277, 3) := by decide +kernel
theorem dX10_creep_94 : decode cX10_creep 94 = .ok (.aload_n 0, 1) := by decide +kernel
theorem dX10_creep_95 : decode cX10_creep 95 = .ok (.getfield 51, 3) := by decide +kernel
theorem dX10_creep_98 : decode cX10_creep 98 = .ok (.getfield 211, 3) := by decide +kernel
theorem dX10_creep_101 : decode cX10_creep 101 = .ok (.iload_n 1, 1) := by decide +kernel
theorem dX10_creep_102 : decode cX10_creep 102 = .ok (.aload_n 0, 1) := by decide +kernel
theorem dX10_creep_103 : decode cX10_creep 103 = .ok (.getfield 41, 3) := by decide +kernel
theorem dX10_creep_106 : decode cX10_creep 106 = .ok (.getfield 172, 3) := by decide +kernel
theorem dX10_creep_109 : decode cX10_creep 109 = .ok (.iload_n 2, 1) := by decide +kernel
theorem dX10_creep_110 : decode cX10_creep 110 = .ok (.iaload, 1) := by decide +kernel
theorem dX10_creep_111 : decode cX10_creep 111 = .ok (.iload_n 3, 1) := by decide +kernel
theorem dX10_creep_112 : decode cX10_creep 112 = .ok (.if_icmp .ne 15, 3) := by decide +kernel
theorem dX10_creep_115 : decode cX10_creep 115 = .ok (.aload_n 0, 1) := by decide +kernel
theorem dX10_creep_116 : decode cX10_creep 116 = .ok (.getfield 41, 3) := by decide +kernel
theorem dX10_creep_119 : decode cX10_creep 119 = .ok (.getfield 175, 3) := by decide +kernel
theorem dX10_creep_122 : decode cX10_creep 122 = .ok (.iload_n 2, 1) := by decide +kernel
theorem dX10_creep_123 : decode cX10_creep 123 = .ok (.iaload, 1) := by decide +kernel
theorem dX10_creep_124 : decode cX10_creep 124 = .ok (.goto 12, 3) := by decide +kernel
theorem dX10_creep_127 : decode cX10_creep 127 = .ok (.aload_n 0, 1) := by decide +kernel
theorem dX10_creep_128 : decode cX10_creep 128 = .ok (.getfield 41, 3) := by decide +kernel
theorem dX10_creep_131 : decode cX10_creep 131 = .ok (.getfield 172, 3) := by decide +kernel
theorem dX10_creep_134 : decode cX10_creep 134 = .ok (.iload_n 2, 1) := by decide +kernel
theorem dX10_creep_135 : decode cX10_creep 135 = .ok (.iaload, 1) := by decide +kernel
theorem dX10_creep_136 : decode cX10_creep 136 = .ok (.iastore, 1) := by decide +kernel
theorem dX10_creep_137 : decode cX10_creep 137 = .ok (.aload_n 0, 1) := by decide +kernel
theorem dX10_creep_138 : decode cX10_creep 138 = .ok (.getfield 51, 3) := by decide +kernel
theorem dX10_creep_141 : decode cX10_creep 141 = .ok (.getfield 211, 3) := by decide +kernel
theorem dX10_creep_144 : decode cX10_creep 144 = .ok (.iload_n 1, 1) := by decide +kernel
theorem dX10_creep_145 : decode cX10_creep 145 = .ok (.iaload, 1) := by decide +kernel
theorem dX10_creep_146 : decode cX10_creep 146 = .ok (.ireturn, 1) := by decide +kernel
theorem dX10_mend_0 : decode cX10_mend 0 = .ok (.aload_n 0, 1) := by decide +kernel
theorem dX10_mend_1 : decode cX10_mend 1 = .ok (.iload_n 1, 1) := by decide +kernel
theorem dX10_mend_2 : decode cX10_mend 2 = .ok (.invokevirtual 168, 3) := by decide +kernel
theorem dX10_mend_5 : decode cX10_mend 5 = .ok (.ifCond .ne 9, 3) := by decide +kernel
theorem dX10_mend_8 : decode cX10_mend 8 = .ok (.aload_n 0, 1) := by decide +kernel
theorem dX10_mend_9 : decode cX10_mend 9 = .ok (.iconst 0, 1) := by decide +kernel
theorem dX10_mend_10 : decode cX10_mend 10 = .ok (.invokevirtual 271, 3) := by decide +kernel
theorem dX10_mend_13 : decode cX10_mend 13 = .ok (.ireturn, 1) := by decide +kernel
theorem dX10_mend_14 : decode cX10_mend 14 = .ok (.iload_n 2, 1) := by decide +kernel
theorem dX10_mend_15 : decode cX10_mend 15 = .ok (.iconst 1, 1) := by decide +kernel
theorem dX10_mend_16 : decode cX10_mend 16 = .ok (.bipush 9, 2) := by decide +kernel
theorem dX10_mend_18 : decode cX10_mend 18 = .ok (.invokestatic 204, 3) := by decide +kernel
theorem dX10_mend_21 : decode cX10_mend 21 = .ok (.ifCond .eq 19, 3) := by decide +kernel
theorem dX10_mend_24 : decode cX10_mend 24 = .ok (.aload_n 0, 1) := by decide +kernel
theorem dX10_mend_25 : decode cX10_mend 25 = .ok (.getfield 51, 3) := by decide +kernel
theorem dX10_mend_28 : decode cX10_mend 28 = .ok (.getfield 181, 3) := by decide +kernel
theorem dX10_mend_31 : decode cX10_mend 31 = .ok (.iload_n 1, 1) := by decide +kernel
theorem dX10_mend_32 : decode cX10_mend 32 = .ok (.iaload, 1) := by decide +kernel
theorem dX10_mend_33 : decode cX10_mend 33 = .ok (.iload_n 2, 1) := by decide +kernel
theorem dX10_mend_34 : decode cX10_mend 34 = .ok (.iadd, 1) := by decide +kernel
theorem dX10_mend_35 : decode cX10_mend 35 = .ok (.bipush 99, 2) := by decide +kernel
theorem dX10_mend_37 : decode cX10_mend 37 = .ok (.if_icmp .le 9, 3) := by decide +kernel
theorem dX10_mend_40 : decode cX10_mend 40 = .ok (.aload_n 0, 1) := by decide +kernel
theorem dX10_mend_41 : decode cX10_mend 41 = .ok (.iconst 1, 1) := by decide +kernel
theorem dX10_mend_42 : decode cX10_mend 42 = .ok (.invokevirtual 271, 3) := by decide +kernel
theorem dX10_mend_45 : decode cX10_mend 45 = .ok (.ireturn, 1) := by decide +kernel
theorem dX10_mend_46 : decode cX10_mend 46 = .ok (.aload_n 0, 1) := by decide +kernel
theorem dX10_mend_47 : decode cX10_mend 47 = .ok (.getfield 51, 3) := by decide +kernel
