theorem dX11_text_28 : decode cX11_text 28 = .ok (.getfield 292, 3) := by decide +kernel
theorem dX11_text_31 : decode cX11_text 31 = .ok (.iconst 4, 1) := by decide +kernel
theorem dX11_text_32 : decode cX11_text 32 = .ok (.if_icmp .ge 37, 3) := by decide +kernel
theorem dX11_text_35 : decode cX11_text 35 = .ok (.aload_n 0, 1) := by decide +kernel
theorem dX11_text_36 : decode cX11_text 36 = .ok (.aload_n 0, 1) := by decide +kernel
theorem dX11_text_37 : decode cX11_text 37 = .ok (.getfield 292, 3) := by decide +kernel
theorem dX11_text_40 : decode cX11_text 40 = .ok (.invokevirtual 258, 3) := by decide +kernel
theorem dX11_text_43 : decode cX11_text 43 = .ok (.iconst (-1), 1) := by decide +kernel
theorem dX11_text_44 : decode cX11_text 44 = .ok (.if_icmp .ne 25, 3) := by decide +kernel
theorem dX11_text_47 : decode cX11_text 47 = .ok (.aload_n 0, 1) := by decide +kernel
theorem dX11_text_48 : decode cX11_text 48 = .ok (.iconst 0, 1) := by decide +kernel
theorem dX11_text_49 : decode cX11_text 49 = .ok (.putfield 109, 3) := by decide +kernel
theorem dX11_text_52 : decode cX11_text 52 = .ok (.aload_n 0, 1) := by decide +kernel
theorem dX11_text_53 : decode cX11_text 53 = .ok (.dup, 1) := by decide +kernel
theorem dX11_text_54 : decode cX11_text 54 = .ok (.getfield 292, 3) := by decide +kernel
theorem dX11_text_57 : decode cX11_text 57 = .ok (.iconst 1, 1) := by decide +kernel
theorem dX11_text_58 : decode cX11_text 58 = .ok (.iadd, 1) := by decide +kernel
theorem dX11_text_59 : decode cX11_text 59 = .ok (.putfield 292, 3) := by decide +kernel
theorem dX11_text_62 : decode cX11_text 62 = .ok (.aload_n 0, 1) := by decide +kernel
theorem dX11_text_63 : decode cX11_text 63 = .ok (.getfield 292, 3) := by decide +kernel
theorem dX11_text_66 : decode cX11_text 66 = .ok (.iconst 1, 1) := by decide +kernel
theorem dX11_text_67 : decode cX11_text 67 = .ok (.isub, 1) := by decide +kernel
theorem dX11_text_68 : decode cX11_text 68 = .ok (.ireturn, 1) := by decide +kernel
theorem dX11_text_69 : decode cX11_text 69 = .ok (.iconst (-1), 1) := by decide +kernel
theorem dX11_text_70 : decode cX11_text 70 = .ok (.ireturn, 1) := by decide +kernel
theorem dX11_of_0 : decode cX11_of 0 = .ok (.aload_n 0, 1) := by decide +kernel
theorem dX11_of_1 : decode cX11_of 1 = .ok (.getfield 52, 3) := by decide +kernel
theorem dX11_of_4 : decode cX11_of 4 = .ok (.bipush 6, 2) := by decide +kernel
theorem dX11_of_6 : decode cX11_of 6 = .ok (.iload_n 1, 1) := by decide +kernel
theorem dX11_of_7 : decode cX11_of 7 = .ok (.imul, 1) := by decide +kernel
theorem dX11_of_8 : decode cX11_of 8 = .ok (.iload_n 2, 1) := by decide +kernel
theorem dX11_of_9 : decode cX11_of 9 = .ok (.iadd, 1) := by decide +kernel
theorem dX11_of_10 : decode cX11_of 10 = .ok (.iaload, 1) := by decide +kernel
theorem dX11_of_11 : decode cX11_of 11 = .ok (.ireturn, 1) := by decide +kernel
theorem dX11_isSquare_0 : decode cX11_isSquare 0 = .ok (.iload_n 1, 1) := by decide +kernel
theorem dX11_isSquare_1 : decode cX11_isSquare 1 = .ok (.iconst 0, 1) := by decide +kernel
theorem dX11_isSquare_2 : decode cX11_isSquare 2 = .ok (.aload_n 0, 1) := by decide +kernel
theorem dX11_isSquare_3 : decode cX11_isSquare 3 = .ok (.getfield 267, 3) := by decide +kernel
theorem dX11_isSquare_6 : decode cX11_isSquare 6 = .ok (.iconst 1, 1) := by decide +kernel
theorem dX11_isSquare_7 : decode cX11_isSquare 7 = .ok (.isub, 1) := by decide +kernel
theorem dX11_isSquare_8 : decode cX11_isSquare 8 = .ok (.invokestatic 217, 3) := by decide +kernel
theorem dX11_isSquare_11 : decode cX11_isSquare 11 = .ok (.ireturn, 1) := by decide +kernel
theorem dX11_isCurtain_0 : decode cX11_isCurtain 0 = .ok (.iload_n 1, 1) := by decide +kernel
theorem dX11_isCurtain_1 : decode cX11_isCurtain 1 = .ok (.iconst 0, 1) := by decide +kernel
theorem dX11_isCurtain_2 : decode cX11_isCurtain 2 = .ok (.aload_n 0, 1) := by decide +kernel
theorem dX11_isCurtain_3 : decode cX11_isCurtain 3 = .ok (.getfield 261, 3) := by decide +kernel
theorem dX11_isCurtain_6 : decode cX11_isCurtain 6 = .ok (.iconst 1, 1) := by decide +kernel
theorem dX11_isCurtain_7 : decode cX11_isCurtain 7 = .ok (.isub, 1) := by decide +kernel
theorem dX11_isCurtain_8 : decode cX11_isCurtain 8 = .ok (.invokestatic 217, 3) := by decide +kernel
theorem dX11_isCurtain_11 : decode cX11_isCurtain 11 = .ok (.ireturn, 1) := by decide +kernel
theorem dX11_isPerson_0 : decode cX11_isPerson 0 = .ok (.iload_n 1, 1) := by decide +kernel
theorem dX11_isPerson_1 : decode cX11_isPerson 1 = .ok (.iconst 0, 1) := by decide +kernel
theorem dX11_isPerson_2 : decode cX11_isPerson 2 = .ok (.aload_n 0, 1) := by decide +kernel
theorem dX11_isPerson_3 : decode cX11_isPerson 3 = .ok (.getfield 264, 3) := by decide +kernel
theorem dX11_isPerson_6 : decode cX11_isPerson 6 = .ok (.iconst 1, 1) := by decide +kernel
theorem dX11_isPerson_7 : decode cX11_isPerson 7 = .ok (.isub, 1) := by decide +kernel
theorem dX11_isPerson_8 : decode cX11_isPerson 8 = .ok (.invokestatic 217, 3) := by decide +kernel
theorem dX11_isPerson_11 : decode cX11_isPerson 11 = .ok (.ireturn, 1) := by decide +kernel
theorem dX11_isFallen_0 : decode cX11_isFallen 0 = .ok (.aload_n 0, 1) := by decide +kernel
theorem dX11_isFallen_1 : decode cX11_isFallen 1 = .ok (.getfield 58, 3) := by decide +kernel
theorem dX11_isFallen_4 : decode cX11_isFallen 4 = .ok (.iconst 0, 1) := by decide +kernel
theorem dX11_isFallen_5 : decode cX11_isFallen 5 = .ok (.iload_n 1, 1) := by decide +kernel
theorem dX11_isFallen_6 : decode cX11_isFallen 6 = .ok (.iadd, 1) := by decide +kernel
theorem dX11_isFallen_7 : decode cX11_isFallen 7 = .ok (.iaload, 1) := by decide +kernel
theorem dX11_isFallen_8 : decode cX11_isFallen 8 = .ok (.ifCond .ne 7, 3) := by decide +kernel
theorem dX11_isFallen_11 : decode cX11_isFallen 11 = .ok (.iconst 1, 1) := by decide +kernel
theorem dX11_isFallen_12 : decode cX11_isFallen 12 = .ok (.goto 4, 3) := by decide +kernel
theorem dX11_isFallen_15 : decode cX11_isFallen 15 = .ok (.iconst 0, 1) := by decide +kernel
theorem dX11_isFallen_16 : decode cX11_isFallen 16 = .ok (.ireturn, 1) := by decide +kernel
theorem dX11_hangs_0 : decode cX11_hangs 0 = .ok (.aload_n 0, 1) := by decide +kernel
theorem dX11_hangs_1 : decode cX11_hangs 1 = .ok (.iload_n 1, 1) := by decide +kernel
theorem dX11_hangs_2 : decode cX11_hangs 2 = .ok (.invokevirtual 295, 3) := by decide +kernel
theorem dX11_hangs_5 : decode cX11_hangs 5 = .ok (.ifCond .eq 29, 3) := by decide +kernel
theorem dX11_hangs_8 : decode cX11_hangs 8 = .ok (.aload_n 0, 1) := by decide +kernel
theorem dX11_hangs_9 : decode cX11_hangs 9 = .ok (.iload_n 1, 1) := by decide +kernel
theorem dX11_hangs_10 : decode cX11_hangs 10 = .ok (.invokevirtual 298, 3) := by decide +kernel
theorem dX11_hangs_13 : decode cX11_hangs 13 = .ok (.ifCond .ne 21, 3) := by decide +kernel
theorem dX11_hangs_16 : decode cX11_hangs 16 = .ok (.aload_n 0, 1) := by decide +kernel
theorem dX11_hangs_17 : decode cX11_hangs 17 = .ok (.getfield 58, 3) := by decide +kernel
theorem dX11_hangs_20 : decode cX11_hangs 20 = .ok (.bipush 10, 2) := by decide +kernel
theorem dX11_hangs_22 : decode cX11_hangs 22 = .ok (.iaload, 1) := by decide +kernel
theorem dX11_hangs_23 : decode cX11_hangs 23 = .ok (.iload_n 1, 1) := by decide +kernel
theorem dX11_hangs_24 : decode cX11_hangs 24 = .ok (.invokestatic 228, 3) := by decide +kernel
theorem dX11_hangs_27 : decode cX11_hangs 27 = .ok (.ifCond .ne 7, 3) := by decide +kernel
theorem dX11_hangs_30 : decode cX11_hangs 30 = .ok (.iconst 1, 1) := by decide +kernel
theorem dX11_hangs_31 : decode cX11_hangs 31 = .ok (.goto 4, 3) := by decide +kernel
theorem dX11_hangs_34 : decode cX11_hangs 34 = .ok (.iconst 0, 1) := by decide +kernel
theorem dX11_hangs_35 : decode cX11_hangs 35 = .ok (.ireturn, 1) := by decide +kernel
theorem dX11_firstSide_0 : decode cX11_firstSide 0 = .ok (.aload_n 0, 1) := by decide +kernel
theorem dX11_firstSide_1 : decode cX11_firstSide 1 = .ok (.iload_n 1, 1) := by decide +kernel
theorem dX11_firstSide_2 : decode cX11_firstSide 2 = .ok (.iconst 0, 1) := by decide +kernel
theorem dX11_firstSide_3 : decode cX11_firstSide 3 = .ok (.invokevirtual 270, 3) := by decide +kernel
theorem dX11_firstSide_6 : decode cX11_firstSide 6 = .ok (.ireturn, 1) := by decide +kernel
theorem dX11_secondSide_0 : decode cX11_secondSide 0 = .ok (.aload_n 0, 1) := by decide +kernel
theorem dX11_secondSide_1 : decode cX11_secondSide 1 = .ok (.iload_n 1, 1) := by decide +kernel
theorem dX11_secondSide_2 : decode cX11_secondSide 2 = .ok (.iconst 0, 1) := by decide +kernel
theorem dX11_secondSide_3 : decode cX11_secondSide 3 = .ok (.invokevirtual 270, 3) := by decide +kernel
theorem dX11_secondSide_6 : decode cX11_secondSide 6 = .ok (.aload_n 0, 1) := by decide +kernel
theorem dX11_secondSide_7 : decode cX11_secondSide 7 = .ok (.iload_n 1, 1) := by decide +kernel
theorem dX11_secondSide_8 : decode cX11_secondSide 8 = .ok (.iconst 1, 1) := by decide +kernel
theorem dX11_secondSide_9 : decode cX11_secondSide 9 = .ok (.invokevirtual 270, 3) := by decide +kernel
theorem dX11_secondSide_12 : decode cX11_secondSide 12 = .ok (.ifCond .ne 7, 3) := by decide +kernel
theorem dX11_secondSide_15 : decode cX11_secondSide 15 = .ok (.iconst 1, 1) := by decide +kernel
theorem dX11_secondSide_16 : decode cX11_secondSide 16 = .ok (.goto 9, 3) := by decide +kernel
theorem dX11_secondSide_19 : decode cX11_secondSide 19 = .ok (.aload_n 0, 1) := by decide +kernel
theorem dX11_secondSide_20 : decode cX11_secondSide 20 = .ok (.getfield 49, 3) := by decide +kernel
theorem dX11_secondSide_23 : decode cX11_secondSide 23 = .ok (.iconst 0, 1) := by decide +kernel
theorem dX11_secondSide_24 : decode cX11_secondSide 24 = .ok (.iaload, 1) := by decide +kernel
theorem dX11_secondSide_25 : decode cX11_secondSide 25 = .ok (.iadd, 1) := by decide +kernel
theorem dX11_secondSide_26 : decode cX11_secondSide 26 = .ok (.ireturn, 1) := by decide +kernel
theorem dX11_isAt_0 : decode cX11_isAt 0 = .ok (.aload_n 0, 1) := by decide +kernel
theorem dX11_isAt_1 : decode cX11_isAt 1 = .ok (.iload_n 1, 1) := by decide +kernel
theorem dX11_isAt_2 : decode cX11_isAt 2 = .ok (.invokevirtual 301, 3) := by decide +kernel
theorem dX11_isAt_5 : decode cX11_isAt 5 = .ok (.iload_n 2, 1) := by decide +kernel
theorem dX11_isAt_6 : decode cX11_isAt 6 = .ok (.if_icmp .eq 12, 3) := by decide +kernel
theorem dX11_isAt_9 : decode cX11_isAt 9 = .ok (.aload_n 0, 1) := by decide +kernel
theorem dX11_isAt_10 : decode cX11_isAt 10 = .ok (.iload_n 1, 1) := by decide +kernel
theorem dX11_isAt_11 : decode cX11_isAt 11 = .ok (.invokevirtual 304, 3) := by decide +kernel
theorem dX11_isAt_14 : decode cX11_isAt 14 = .ok (.iload_n 2, 1) := by decide +kernel
theorem dX11_isAt_15 : decode cX11_isAt 15 = .ok (.if_icmp .ne 7, 3) := by decide +kernel
theorem dX11_isAt_18 : decode cX11_isAt 18 = .ok (.iconst 1, 1) := by decide +kernel
theorem dX11_isAt_19 : decode cX11_isAt 19 = .ok (.goto 4, 3) := by decide +kernel
theorem dX11_isAt_22 : decode cX11_isAt 22 = .ok (.iconst 0, 1) := by decide +kernel
theorem dX11_isAt_23 : decode cX11_isAt 23 = .ok (.ireturn, 1) := by decide +kernel
theorem dX11_hanging_0 : decode cX11_hanging 0 = .ok (.iconst 0, 1) := by decide +kernel
theorem dX11_hanging_1 : decode cX11_hanging 1 = .ok (.istore_n 1, 1) := by decide +kernel
theorem dX11_hanging_2 : decode cX11_hanging 2 = .ok (.iconst 0, 1) := by decide +kernel
theorem dX11_hanging_3 : decode cX11_hanging 3 = .ok (.istore_n 2, 1) := by decide +kernel
theorem dX11_hanging_4 : decode cX11_hanging 4 = .ok (.iload_n 2, 1) := by decide +kernel
theorem dX11_hanging_5 : decode cX11_hanging 5 = .ok (.aload_n 0, 1) := by decide +kernel
theorem dX11_hanging_6 : decode cX11_hanging 6 = .ok (.getfield 261, 3) := by decide +kernel
theorem dX11_hanging_9 : decode cX11_hanging 9 = .ok (.if_icmp .ge 27, 3) := by decide +kernel
theorem dX11_hanging_12 : decode cX11_hanging 12 = .ok (.iload_n 1, 1) := by decide +kernel
theorem dX11_hanging_13 : decode cX11_hanging 13 = .ok (.aload_n 0, 1) := by decide +kernel
theorem dX11_hanging_14 : decode cX11_hanging 14 = .ok (.iload_n 2, 1) := by decide +kernel
theorem dX11_hanging_15 : decode cX11_hanging 15 = .ok (.invokevirtual 307, 3) := by decide +kernel
theorem dX11_hanging_18 : decode cX11_hanging 18 = .ok (.ifCond .eq 9, 3) := by decide +kernel
theorem dX11_hanging_21 : decode cX11_hanging 21 = .ok (.iconst 1, 1) := by decide +kernel
theorem dX11_hanging_22 : decode cX11_hanging 22 = .ok (.iload_n 2, 1) := by decide +kernel
theorem dX11_hanging_23 : decode cX11_hanging 23 = .ok (.ishl, 1) := by decide +kernel
theorem dX11_hanging_24 : decode cX11_hanging 24 = .ok (.goto 4, 3) := by decide +kernel
theorem dX11_hanging_27 : decode cX11_hanging 27 = .ok (.iconst 0, 1) := by decide +kernel
theorem dX11_hanging_28 : decode cX11_hanging 28 = .ok (.ior, 1) := by decide +kernel
theorem dX11_hanging_29 : decode cX11_hanging 29 = .ok (.istore_n 1, 1) := by decide +kernel
theorem dX11_hanging_30 : decode cX11_hanging 30 = .ok (.iinc 2 1, 3) := by decide +kernel
theorem dX11_hanging_33 : decode cX11_hanging 33 = .ok (.goto (-29), 3) := by decide +kernel
theorem dX11_hanging_36 : decode cX11_hanging 36 = .ok (.iload_n 1, 1) := by decide +kernel
theorem dX11_hanging_37 : decode cX11_hanging 37 = .ok (.ireturn, 1) := by decide +kernel
theorem dX11_fallen_0 : decode cX11_fallen 0 = .ok (.iconst 0, 1) := by decide +kernel
theorem dX11_fallen_1 : decode cX11_fallen 1 = .ok (.istore_n 1, 1) := by decide +kernel
theorem dX11_fallen_2 : decode cX11_fallen 2 = .ok (.iconst 0, 1) := by decide +kernel
theorem dX11_fallen_3 : decode cX11_fallen 3 = .ok (.istore_n 2, 1) := by decide +kernel
theorem dX11_fallen_4 : decode cX11_fallen 4 = .ok (.iload_n 2, 1) := by decide +kernel
theorem dX11_fallen_5 : decode cX11_fallen 5 = .ok (.aload_n 0, 1) := by decide +kernel
theorem dX11_fallen_6 : decode cX11_fallen 6 = .ok (.getfield 261, 3) := by decide +kernel
theorem dX11_fallen_9 : decode cX11_fallen 9 = .ok (.if_icmp .ge 27, 3) := by decide +kernel
theorem dX11_fallen_12 : decode cX11_fallen 12 = .ok (.iload_n 1, 1) := by decide +kernel
theorem dX11_fallen_13 : decode cX11_fallen 13 = .ok (.aload_n 0, 1) := by decide +kernel
theorem dX11_fallen_14 : decode cX11_fallen 14 = .ok (.iload_n 2, 1) := by decide +kernel
theorem dX11_fallen_15 : decode cX11_fallen 15 = .ok (.invokevirtual 298, 3) := by decide +kernel
theorem dX11_fallen_18 : decode cX11_fallen 18 = .ok (.ifCond .eq 9, 3) := by decide +kernel
theorem dX11_fallen_21 : decode cX11_fallen 21 = .ok (.iconst 1, 1) := by decide +kernel
theorem dX11_fallen_22 : decode cX11_fallen 22 = .ok (.iload_n 2, 1) := by decide +kernel
theorem dX11_fallen_23 : decode cX11_fallen 23 = .ok (.ishl, 1) := by decide +kernel
theorem dX11_fallen_24 : decode cX11_fallen 24 = .ok (.goto 4, 3) := by decide +kernel
theorem dX11_fallen_27 : decode cX11_fallen 27 = .ok (.iconst 0, 1) := by decide +kernel
theorem dX11_fallen_28 : decode cX11_fallen 28 = .ok (.ior, 1) := by decide +kernel
theorem dX11_fallen_29 : decode cX11_fallen 29 = .ok (.istore_n 1, 1) := by decide +kernel
theorem dX11_fallen_30 : decode cX11_fallen 30 = .ok (.iinc 2 1, 3) := by decide +kernel
theorem dX11_fallen_33 : decode cX11_fallen 33 = .ok (.goto (-29), 3) := by decide +kernel
theorem dX11_fallen_36 : decode cX11_fallen 36 = .ok (.iload_n 1, 1) := by decide +kernel
theorem dX11_fallen_37 : decode cX11_fallen 37 = .ok (.ireturn, 1) := by decide +kernel
theorem dX11_between_0 : decode cX11_between 0 = .ok (.iconst 0, 1) := by decide +kernel
theorem dX11_between_1 : decode cX11_between 1 = .ok (.istore_n 3, 1) := by decide +kernel
theorem dX11_between_2 : decode cX11_between 2 = .ok (.iload_n 3, 1) := by decide +kernel
theorem dX11_between_3 : decode cX11_between 3 = .ok (.aload_n 0, 1) := by decide +kernel
theorem dX11_between_4 : decode cX11_between 4 = .ok (.getfield 261, 3) := by decide +kernel
theorem dX11_between_7 : decode cX11_between 7 = .ok (.if_icmp .ge 37, 3) := by decide +kernel
theorem dX11_between_10 : decode cX11_between 10 = .ok (.aload_n 0, 1) := by decide +kernel
theorem dX11_between_11 : decode cX11_between 11 = .ok (.iload_n 3, 1) := by decide +kernel
theorem dX11_between_12 : decode cX11_between 12 = .ok (.invokevirtual 301, 3) := by decide +kernel
theorem dX11_between_15 : decode cX11_between 15 = .ok (.iload_n 1, 1) := by decide +kernel
theorem dX11_between_16 : decode cX11_between 16 = .ok (.iload_n 2, 1) := by decide +kernel
theorem dX11_between_17 : decode cX11_between 17 = .ok (.invokestatic 310, 3) := by decide +kernel
theorem dX11_between_20 : decode cX11_between 20 = .ok (.if_icmp .ne 18, 3) := by decide +kernel
theorem dX11_between_23 : decode cX11_between 23 = .ok (.aload_n 0, 1) := by decide +kernel
theorem dX11_between_24 : decode cX11_between 24 = .ok (.iload_n 3, 1) := by decide +kernel
theorem dX11_between_25 : decode cX11_between 25 = .ok (.invokevirtual 304, 3) := by decide +kernel
theorem dX11_between_28 : decode cX11_between 28 = .ok (.iload_n 1, 1) := by decide +kernel
theorem dX11_between_29 : decode cX11_between 29 = .ok (.iload_n 2, 1) := by decide +kernel
theorem dX11_between_30 : decode cX11_between 30 = .ok (.invokestatic 312, 3) := by decide +kernel
theorem dX11_between_33 : decode cX11_between 33 = .ok (.if_icmp .ne 5, 3) := by decide +kernel
theorem dX11_between_36 : decode cX11_between 36 = .ok (.iload_n 3, 1) := by decide +kernel
theorem dX11_between_37 : decode cX11_between 37 = .ok (.ireturn, 1) := by decide +kernel
theorem dX11_between_38 : decode cX11_between 38 = .ok (.iinc 3 1, 3) := by decide +kernel
theorem dX11_between_41 : decode cX11_between 41 = .ok (.goto (-39), 3) := by decide +kernel
theorem dX11_between_44 : decode cX11_between 44 = .ok (.iconst (-1), 1) := by decide +kernel
theorem dX11_between_45 : decode cX11_between 45 = .ok (.ireturn, 1) := by decide +kernel
theorem dX11_beside_0 : decode cX11_beside 0 = .ok (.iload_n 1, 1) := by decide +kernel
theorem dX11_beside_1 : decode cX11_beside 1 = .ok (.aload_n 0, 1) := by decide +kernel
theorem dX11_beside_2 : decode cX11_beside 2 = .ok (.getfield 49, 3) := by decide +kernel
theorem dX11_beside_5 : decode cX11_beside 5 = .ok (.iconst 0, 1) := by decide +kernel
theorem dX11_beside_6 : decode cX11_beside 6 = .ok (.iaload, 1) := by decide +kernel
theorem dX11_beside_7 : decode cX11_beside 7 = .ok (.irem, 1) := by decide +kernel
theorem dX11_beside_8 : decode cX11_beside 8 = .ok (.iload_n 2, 1) := by decide +kernel
theorem dX11_beside_9 : decode cX11_beside 9 = .ok (.ifCond .ne 7, 3) := by decide +kernel
theorem dX11_beside_12 : decode cX11_beside 12 = .ok (.iconst 1, 1) := by decide +kernel
theorem dX11_beside_13 : decode cX11_beside 13 = .ok (.goto 13, 3) := by decide +kernel
theorem dX11_beside_16 : decode cX11_beside 16 = .ok (.iload_n 2, 1) := by decide +kernel
theorem dX11_beside_17 : decode cX11_beside 17 = .ok (.iconst 2, 1) := by decide +kernel
theorem dX11_beside_18 : decode cX11_beside 18 = .ok (.if_icmp .ne 7, 3) := by decide +kernel
theorem dX11_beside_21 : decode cX11_beside 21 = .ok (.iconst (-1), 1) := by decide +kernel
theorem dX11_beside_22 : decode cX11_beside 22 = .ok (.goto 4, 3) := by decide +kernel
theorem dX11_beside_25 : decode cX11_beside 25 = .ok (.iconst 0, 1) := by decide +kernel
theorem dX11_beside_26 : decode cX11_beside 26 = .ok (.iadd, 1) := by decide +kernel
theorem dX11_beside_27 : decode cX11_beside 27 = .ok (.istore_n 3, 1) := by decide +kernel
theorem dX11_beside_28 : decode cX11_beside 28 = .ok (.iload_n 1, 1) := by decide +kernel
theorem dX11_beside_29 : decode cX11_beside 29 = .ok (.aload_n 0, 1) := by decide +kernel
theorem dX11_beside_30 : decode cX11_beside 30 = .ok (.getfield 49, 3) := by decide +kernel
theorem dX11_beside_33 : decode cX11_beside 33 = .ok (.iconst 0, 1) := by decide +kernel
theorem dX11_beside_34 : decode cX11_beside 34 = .ok (.iaload, 1) := by decide +kernel
theorem dX11_beside_35 : decode cX11_beside 35 = .ok (.idiv, 1) := by decide +kernel
theorem dX11_beside_36 : decode cX11_beside 36 = .ok (.iload_n 2, 1) := by decide +kernel
theorem dX11_beside_37 : decode cX11_beside 37 = .ok (.iconst 1, 1) := by decide +kernel
theorem dX11_beside_38 : decode cX11_beside 38 = .ok (.if_icmp .ne 7, 3) := by decide +kernel
theorem dX11_beside_41 : decode cX11_beside 41 = .ok (.iconst 1, 1) := by decide +kernel
theorem dX11_beside_42 : decode cX11_beside 42 = .ok (.goto 13, 3) := by decide +kernel
theorem dX11_beside_45 : decode cX11_beside 45 = .ok (.iload_n 2, 1) := by decide +kernel
theorem dX11_beside_46 : decode cX11_beside 46 = .ok (.iconst 3, 1) := by decide +kernel
theorem dX11_beside_47 : decode cX11_beside 47 = .ok (.if_icmp .ne 7, 3) := by decide +kernel
theorem dX11_beside_50 : decode cX11_beside 50 = .ok (.iconst (-1), 1) := by decide +kernel
theorem dX11_beside_51 : decode cX11_beside 51 = .ok (.goto 4, 3) := by decide +kernel
theorem dX11_beside_54 : decode cX11_beside 54 = .ok (.iconst 0, 1) := by decide +kernel
theorem dX11_beside_55 : decode cX11_beside 55 = .ok (.iadd, 1) := by decide +kernel
theorem dX11_beside_56 : decode cX11_beside 56 = .ok (.istore 4, 2) := by decide +kernel
theorem dX11_beside_58 : decode cX11_beside 58 = .ok (.iload_n 3, 1) := by decide +kernel
theorem dX11_beside_59 : decode cX11_beside 59 = .ok (.iconst 0, 1) := by decide +kernel
theorem dX11_beside_60 : decode cX11_beside 60 = .ok (.aload_n 0, 1) := by decide +kernel
theorem dX11_beside_61 : decode cX11_beside 61 = .ok (.getfield 49, 3) := by decide +kernel
theorem dX11_beside_64 : decode cX11_beside 64 = .ok (.iconst 0, 1) := by decide +kernel
theorem dX11_beside_65 : decode cX11_beside 65 = .ok (.iaload, 1) := by decide +kernel
theorem dX11_beside_66 : decode cX11_beside 66 = .ok (.iconst 1, 1) := by decide +kernel
theorem dX11_beside_67 : decode cX11_beside 67 = .ok (.isub, 1) := by decide +kernel
theorem dX11_beside_68 : decode cX11_beside 68 = .ok (.invokestatic 217, 3) := by decide +kernel
theorem dX11_beside_71 : decode cX11_beside 71 = .ok (.ifCond .eq 34, 3) := by decide +kernel
theorem dX11_beside_74 : decode cX11_beside 74 = .ok (.iload 4, 2) := by decide +kernel
theorem dX11_beside_76 : decode cX11_beside 76 = .ok (.iconst 0, 1) := by decide +kernel
theorem dX11_beside_77 : decode cX11_beside 77 = .ok (.aload_n 0, 1) := by decide +kernel
theorem dX11_beside_78 : decode cX11_beside 78 = .ok (.getfield 49, 3) := by decide +kernel
theorem dX11_beside_81 : decode cX11_beside 81 = .ok (.iconst 1, 1) := by decide +kernel
theorem dX11_beside_82 : decode cX11_beside 82 = .ok (.iaload, 1) := by decide +kernel
theorem dX11_beside_83 : decode cX11_beside 83 = .ok (.iconst 1, 1) := by decide +kernel
theorem dX11_beside_84 : decode cX11_beside 84 = .ok (.isub, 1) := by decide +kernel
theorem dX11_beside_85 : decode cX11_beside 85 = .ok (.invokestatic 217, 3) := by decide +kernel
theorem dX11_beside_88 : decode cX11_beside 88 = .ok (.ifCond .eq 17, 3) := by decide +kernel
theorem dX11_beside_91 : decode cX11_beside 91 = .ok (.iload 4, 2) := by decide +kernel
theorem dX11_beside_93 : decode cX11_beside 93 = .ok (.aload_n 0, 1) := by decide +kernel
theorem dX11_beside_94 : decode cX11_beside 94 = .ok (.getfield 49, 3) := by decide +kernel
theorem dX11_beside_97 : decode cX11_beside 97 = .ok (.iconst 0, 1) := by decide +kernel
theorem dX11_beside_98 : decode cX11_beside 98 = .ok (.iaload, 1) := by decide +kernel
theorem dX11_beside_99 : decode cX11_beside 99 = .ok (.imul, 1) := by decide +kernel
theorem dX11_beside_100 : decode cX11_beside 100 = .ok (.iload_n 3, 1) := by decide +kernel
theorem dX11_beside_101 : decode cX11_beside 101 = .ok (.iadd, 1) := by decide +kernel
theorem dX11_beside_102 : decode cX11_beside 102 = .ok (.goto 4, 3) := by decide +kernel
theorem dX11_beside_105 : decode cX11_beside 105 = .ok (.iconst (-1), 1) := by decide +kernel
theorem dX11_beside_106 : decode cX11_beside 106 = .ok (.ireturn, 1) := by decide +kernel
theorem dX11_joinedBy_0 : decode cX11_joinedBy 0 = .ok (.iconst 1, 1) := by decide +kernel
theorem dX11_joinedBy_1 : decode cX11_joinedBy 1 = .ok (.iload_n 1, 1) := by decide +kernel
theorem dX11_joinedBy_2 : decode cX11_joinedBy 2 = .ok (.ishl, 1) := by decide +kernel
theorem dX11_joinedBy_3 : decode cX11_joinedBy 3 = .ok (.istore_n 3, 1) := by decide +kernel
theorem dX11_joinedBy_4 : decode cX11_joinedBy 4 = .ok (.iconst 0, 1) := by decide +kernel
theorem dX11_joinedBy_5 : decode cX11_joinedBy 5 = .ok (.istore 4, 2) := by decide +kernel
theorem dX11_joinedBy_7 : decode cX11_joinedBy 7 = .ok (.iload 4, 2) := by decide +kernel
theorem dX11_joinedBy_9 : decode cX11_joinedBy 9 = .ok (.iload_n 3, 1) := by decide +kernel
theorem dX11_joinedBy_10 : decode cX11_joinedBy 10 = .ok (.if_icmp .eq 121, 3) := by decide +kernel
theorem dX11_joinedBy_13 : decode cX11_joinedBy 13 = .ok (.iload_n 3, 1) := by decide +kernel
theorem dX11_joinedBy_14 : decode cX11_joinedBy 14 = .ok (.istore 4, 2) := by decide +kernel
theorem dX11_joinedBy_16 : decode cX11_joinedBy 16 = .ok (.iconst 0, 1) := by decide +kernel
theorem dX11_joinedBy_17 : decode cX11_joinedBy 17 = .ok (.istore 5, 2) := by decide +kernel
theorem dX11_joinedBy_19 : decode cX11_joinedBy 19 = .ok (.iload 5, 2) := by decide +kernel
theorem dX11_joinedBy_21 : decode cX11_joinedBy 21 = .ok (.aload_n 0, 1) := by decide +kernel
theorem dX11_joinedBy_22 : decode cX11_joinedBy 22 = .ok (.getfield 267, 3) := by decide +kernel
theorem dX11_joinedBy_25 : decode cX11_joinedBy 25 = .ok (.if_icmp .ge 103, 3) := by decide +kernel
theorem dX11_joinedBy_28 : decode cX11_joinedBy 28 = .ok (.iconst 0, 1) := by decide +kernel
theorem dX11_joinedBy_29 : decode cX11_joinedBy 29 = .ok (.istore 6, 2) := by decide +kernel
theorem dX11_joinedBy_31 : decode cX11_joinedBy 31 = .ok (.iload 6, 2) := by decide +kernel
theorem dX11_joinedBy_33 : decode cX11_joinedBy 33 = .ok (.iconst 4, 1) := by decide +kernel
theorem dX11_joinedBy_34 : decode cX11_joinedBy 34 = .ok (.if_icmp .ge 88, 3) := by decide +kernel
theorem dX11_joinedBy_37 : decode cX11_joinedBy 37 = .ok (.iload 4, 2) := by decide +kernel
theorem dX11_joinedBy_39 : decode cX11_joinedBy 39 = .ok (.iload 5, 2) := by decide +kernel
theorem dX11_joinedBy_41 : decode cX11_joinedBy 41 = .ok (.invokestatic 228, 3) := by decide +kernel
theorem dX11_joinedBy_44 : decode cX11_joinedBy 44 = .ok (.ifCond .eq 78, 3) := by decide +kernel
theorem dX11_joinedBy_47 : decode cX11_joinedBy 47 = .ok (.aload_n 0, 1) := by decide +kernel
theorem dX11_joinedBy_48 : decode cX11_joinedBy 48 = .ok (.getfield 68, 3) := by decide +kernel
theorem dX11_joinedBy_51 : decode cX11_joinedBy 51 = .ok (.iconst 4, 1) := by decide +kernel
theorem dX11_joinedBy_52 : decode cX11_joinedBy 52 = .ok (.iload 5, 2) := by decide +kernel
theorem dX11_joinedBy_54 : decode cX11_joinedBy 54 = .ok (.imul, 1) := by decide +kernel
theorem dX11_joinedBy_55 : decode cX11_joinedBy 55 = .ok (.iload 6, 2) := by decide +kernel
theorem dX11_joinedBy_57 : decode cX11_joinedBy 57 = .ok (.iadd, 1) := by decide +kernel
theorem dX11_joinedBy_58 : decode cX11_joinedBy 58 = .ok (.iaload, 1) := by decide +kernel
theorem dX11_joinedBy_59 : decode cX11_joinedBy 59 = .ok (.istore 7, 2) := by decide +kernel
theorem dX11_joinedBy_61 : decode cX11_joinedBy 61 = .ok (.iload 7, 2) := by decide +kernel
theorem dX11_joinedBy_63 : decode cX11_joinedBy 63 = .ok (.iconst (-1), 1) := by decide +kernel
theorem dX11_joinedBy_64 : decode cX11_joinedBy 64 = .ok (.if_icmp .eq 52, 3) := by decide +kernel
theorem dX11_joinedBy_67 : decode cX11_joinedBy 67 = .ok (.iload_n 3, 1) := by decide +kernel
theorem dX11_joinedBy_68 : decode cX11_joinedBy 68 = .ok (.iload 7, 2) := by decide +kernel
theorem dX11_joinedBy_70 : decode cX11_joinedBy 70 = .ok (.invokestatic 228, 3) := by decide +kernel
theorem dX11_joinedBy_73 : decode cX11_joinedBy 73 = .ok (.ifCond .ne 43, 3) := by decide +kernel
theorem dX11_joinedBy_76 : decode cX11_joinedBy 76 = .ok (.aload_n 0, 1) := by decide +kernel
theorem dX11_joinedBy_77 : decode cX11_joinedBy 77 = .ok (.getfield 71, 3) := by decide +kernel
theorem dX11_joinedBy_80 : decode cX11_joinedBy 80 = .ok (.iconst 4, 1) := by decide +kernel
theorem dX11_joinedBy_81 : decode cX11_joinedBy 81 = .ok (.iload 5, 2) := by decide +kernel
theorem dX11_joinedBy_83 : decode cX11_joinedBy 83 = .ok (.imul, 1) := by decide +kernel
theorem dX11_joinedBy_84 : decode cX11_joinedBy 84 = .ok (.iload 6, 2) := by decide +kernel
theorem dX11_joinedBy_86 : decode cX11_joinedBy 86 = .ok (.iadd, 1) := by decide +kernel
theorem dX11_joinedBy_87 : decode cX11_joinedBy 87 = .ok (.iaload, 1) := by decide +kernel
theorem dX11_joinedBy_88 : decode cX11_joinedBy 88 = .ok (.istore 8, 2) := by decide +kernel
theorem dX11_joinedBy_90 : decode cX11_joinedBy 90 = .ok (.iload_n 3, 1) := by decide +kernel
theorem dX11_joinedBy_91 : decode cX11_joinedBy 91 = .ok (.iload 8, 2) := by decide +kernel
theorem dX11_joinedBy_93 : decode cX11_joinedBy 93 = .ok (.iconst (-1), 1) := by decide +kernel
theorem dX11_joinedBy_94 : decode cX11_joinedBy 94 = .ok (.if_icmp .eq 16, 3) := by decide +kernel
theorem dX11_joinedBy_97 : decode cX11_joinedBy 97 = .ok (.iload_n 2, 1) := by decide +kernel
theorem dX11_joinedBy_98 : decode cX11_joinedBy 98 = .ok (.iload 8, 2) := by decide +kernel
theorem dX11_joinedBy_100 : decode cX11_joinedBy 100 = .ok (.invokestatic 228, 3) := by decide +kernel
theorem dX11_joinedBy_103 : decode cX11_joinedBy 103 = .ok (.ifCond .eq 7, 3) := by decide +kernel
theorem dX11_joinedBy_106 : decode cX11_joinedBy 106 = .ok (.iconst 0, 1) := by decide +kernel
theorem dX11_joinedBy_107 : decode cX11_joinedBy 107 = .ok (.goto 7, 3) := by decide +kernel
theorem dX11_joinedBy_110 : decode cX11_joinedBy 110 = .ok (.iconst 1, 1) := by decide +kernel
theorem dX11_joinedBy_111 : decode cX11_joinedBy 111 = .ok (.iload 7, 2) := by decide +kernel
theorem dX11_joinedBy_113 : decode cX11_joinedBy 113 = .ok (.ishl, 1) := by decide +kernel
theorem dX11_joinedBy_114 : decode cX11_joinedBy 114 = .ok (.ior, 1) := by decide +kernel
theorem dX11_joinedBy_115 : decode cX11_joinedBy 115 = .ok (.istore_n 3, 1) := by decide +kernel
theorem dX11_joinedBy_116 : decode cX11_joinedBy 116 = .ok (.iinc 6 1, 3) := by decide +kernel
theorem dX11_joinedBy_119 : decode cX11_joinedBy 119 = .ok (.goto (-88), 3) := by decide +kernel
theorem dX11_joinedBy_122 : decode cX11_joinedBy 122 = .ok (.iinc 5 1, 3) := by decide +kernel
theorem dX11_joinedBy_125 : decode cX11_joinedBy 125 = .ok (.goto (-106), 3) := by decide +kernel
theorem dX11_joinedBy_128 : decode cX11_joinedBy 128 = .ok (.goto (-121), 3) := by decide +kernel
theorem dX11_joinedBy_131 : decode cX11_joinedBy 131 = .ok (.iload_n 3, 1) := by decide +kernel
theorem dX11_joinedBy_132 : decode cX11_joinedBy 132 = .ok (.ireturn, 1) := by decide +kernel
theorem dX11_stateOf_0 : decode cX11_stateOf 0 = .ok (.aload_n 0, 1) := by decide +kernel
theorem dX11_stateOf_1 : decode cX11_stateOf 1 = .ok (.iload_n 1, 1) := by decide +kernel
theorem dX11_stateOf_2 : decode cX11_stateOf 2 = .ok (.aload_n 0, 1) := by decide +kernel
theorem dX11_stateOf_3 : decode cX11_stateOf 3 = .ok (.invokevirtual 314, 3) := by decide +kernel
theorem dX11_stateOf_6 : decode cX11_stateOf 6 = .ok (.invokevirtual 317, 3) := by decide +kernel
theorem dX11_stateOf_9 : decode cX11_stateOf 9 = .ok (.ireturn, 1) := by decide +kernel
theorem dX11_nameOf_0 : decode cX11_nameOf 0 = .ok (.iload_n 1, 1) := by decide +kernel
theorem dX11_nameOf_1 : decode cX11_nameOf 1 = .ok (.invokestatic 320, 3) := by decide +kernel
theorem dX11_nameOf_4 : decode cX11_nameOf 4 = .ok (.ireturn, 1) := by decide +kernel
theorem dX11_personsIn_0 : decode cX11_personsIn 0 = .ok (.iconst 0, 1) := by decide +kernel
theorem dX11_personsIn_1 : decode cX11_personsIn 1 = .ok (.istore_n 2, 1) := by decide +kernel
theorem dX11_personsIn_2 : decode cX11_personsIn 2 = .ok (.iconst 0, 1) := by decide +kernel
theorem dX11_personsIn_3 : decode cX11_personsIn 3 = .ok (.istore_n 3, 1) := by decide +kernel
theorem dX11_personsIn_4 : decode cX11_personsIn 4 = .ok (.iload_n 3, 1) := by decide +kernel
theorem dX11_personsIn_5 : decode cX11_personsIn 5 = .ok (.aload_n 0, 1) := by decide +kernel
theorem dX11_personsIn_6 : decode cX11_personsIn 6 = .ok (.getfield 264, 3) := by decide +kernel
theorem dX11_personsIn_9 : decode cX11_personsIn 9 = .ok (.if_icmp .ge 33, 3) := by decide +kernel
theorem dX11_personsIn_12 : decode cX11_personsIn 12 = .ok (.iload_n 2, 1) := by decide +kernel
theorem dX11_personsIn_13 : decode cX11_personsIn 13 = .ok (.iload_n 1, 1) := by decide +kernel
theorem dX11_personsIn_14 : decode cX11_personsIn 14 = .ok (.aload_n 0, 1) := by decide +kernel
theorem dX11_personsIn_15 : decode cX11_personsIn 15 = .ok (.getfield 58, 3) := by decide +kernel
theorem dX11_personsIn_18 : decode cX11_personsIn 18 = .ok (.bipush 11, 2) := by decide +kernel
theorem dX11_personsIn_20 : decode cX11_personsIn 20 = .ok (.iload_n 3, 1) := by decide +kernel
theorem dX11_personsIn_21 : decode cX11_personsIn 21 = .ok (.iadd, 1) := by decide +kernel
theorem dX11_personsIn_22 : decode cX11_personsIn 22 = .ok (.iaload, 1) := by decide +kernel
theorem dX11_personsIn_23 : decode cX11_personsIn 23 = .ok (.invokestatic 228, 3) := by decide +kernel
theorem dX11_personsIn_26 : decode cX11_personsIn 26 = .ok (.ifCond .eq 7, 3) := by decide +kernel
theorem dX11_personsIn_29 : decode cX11_personsIn 29 = .ok (.iconst 1, 1) := by decide +kernel
theorem dX11_personsIn_30 : decode cX11_personsIn 30 = .ok (.goto 4, 3) := by decide +kernel
theorem dX11_personsIn_33 : decode cX11_personsIn 33 = .ok (.iconst 0, 1) := by decide +kernel
theorem dX11_personsIn_34 : decode cX11_personsIn 34 = .ok (.iadd, 1) := by decide +kernel
theorem dX11_personsIn_35 : decode cX11_personsIn 35 = .ok (.istore_n 2, 1) := by decide +kernel
theorem dX11_personsIn_36 : decode cX11_personsIn 36 = .ok (.iinc 3 1, 3) := by decide +kernel
theorem dX11_personsIn_39 : decode cX11_personsIn 39 = .ok (.goto (-35), 3) := by decide +kernel
theorem dX11_personsIn_42 : decode cX11_personsIn 42 = .ok (.iload_n 2, 1) := by decide +kernel
theorem dX11_personsIn_43 : decode cX11_personsIn 43 = .ok (.ireturn, 1) := by decide +kernel
theorem dX11_lordOf_0 : decode cX11_lordOf 0 = .ok (.iconst (-1), 1) := by decide +kernel
theorem dX11_lordOf_1 : decode cX11_lordOf 1 = .ok (.istore_n 2, 1) := by decide +kernel
theorem dX11_lordOf_2 : decode cX11_lordOf 2 = .ok (.iconst 0, 1) := by decide +kernel
theorem dX11_lordOf_3 : decode cX11_lordOf 3 = .ok (.istore_n 3, 1) := by decide +kernel
theorem dX11_lordOf_4 : decode cX11_lordOf 4 = .ok (.iload_n 3, 1) := by decide +kernel
theorem dX11_lordOf_5 : decode cX11_lordOf 5 = .ok (.aload_n 0, 1) := by decide +kernel
theorem dX11_lordOf_6 : decode cX11_lordOf 6 = .ok (.getfield 264, 3) := by decide +kernel
theorem dX11_lordOf_9 : decode cX11_lordOf 9 = .ok (.if_icmp .ge 59, 3) := by decide +kernel
theorem dX11_lordOf_12 : decode cX11_lordOf 12 = .ok (.iload_n 1, 1) := by decide +kernel
theorem dX11_lordOf_13 : decode cX11_lordOf 13 = .ok (.aload_n 0, 1) := by decide +kernel
theorem dX11_lordOf_14 : decode cX11_lordOf 14 = .ok (.getfield 58, 3) := by decide +kernel
theorem dX11_lordOf_17 : decode cX11_lordOf 17 = .ok (.bipush 11, 2) := by decide +kernel
theorem dX11_lordOf_19 : decode cX11_lordOf 19 = .ok (.iload_n 3, 1) := by decide +kernel
theorem dX11_lordOf_20 : decode cX11_lordOf 20 = .ok (.iadd, 1) := by decide +kernel
theorem dX11_lordOf_21 : decode cX11_lordOf 21 = .ok (.iaload, 1) := by decide +kernel
theorem dX11_lordOf_22 : decode cX11_lordOf 22 = .ok (.invokestatic 228, 3) := by decide +kernel
theorem dX11_lordOf_25 : decode cX11_lordOf 25 = .ok (.ifCond .eq 35, 3) := by decide +kernel
theorem dX11_lordOf_28 : decode cX11_lordOf 28 = .ok (.iload_n 2, 1) := by decide +kernel
theorem dX11_lordOf_29 : decode cX11_lordOf 29 = .ok (.iconst (-1), 1) := by decide +kernel
theorem dX11_lordOf_30 : decode cX11_lordOf 30 = .ok (.if_icmp .eq 26, 3) := by decide +kernel
theorem dX11_lordOf_33 : decode cX11_lordOf 33 = .ok (.aload_n 0, 1) := by decide +kernel
theorem dX11_lordOf_34 : decode cX11_lordOf 34 = .ok (.getfield 55, 3) := by decide +kernel
theorem dX11_lordOf_37 : decode cX11_lordOf 37 = .ok (.iconst 2, 1) := by decide +kernel
theorem dX11_lordOf_38 : decode cX11_lordOf 38 = .ok (.iload_n 3, 1) := by decide +kernel
theorem dX11_lordOf_39 : decode cX11_lordOf 39 = .ok (.imul, 1) := by decide +kernel
theorem dX11_lordOf_40 : decode cX11_lordOf 40 = .ok (.iconst 1, 1) := by decide +kernel
theorem dX11_lordOf_41 : decode cX11_lordOf 41 = .ok (.iadd, 1) := by decide +kernel
theorem dX11_lordOf_42 : decode cX11_lordOf 42 = .ok (.iaload, 1) := by decide +kernel
theorem dX11_lordOf_43 : decode cX11_lordOf 43 = .ok (.aload_n 0, 1) := by decide +kernel
theorem dX11_lordOf_44 : decode cX11_lordOf 44 = .ok (.getfield 55, 3) := by decide +kernel
theorem dX11_lordOf_47 : decode cX11_lordOf 47 = .ok (.iconst 2, 1) := by decide +kernel
theorem dX11_lordOf_48 : decode cX11_lordOf 48 = .ok (.iload_n 2, 1) := by decide +kernel
theorem dX11_lordOf_49 : decode cX11_lordOf 49 = .ok (.imul, 1) := by decide +kernel
theorem dX11_lordOf_50 : decode cX11_lordOf 50 = .ok (.iconst 1, 1) := by decide +kernel
theorem dX11_lordOf_51 : decode cX11_lordOf 51 = .ok (.iadd, 1) := by decide +kernel
theorem dX11_lordOf_52 : decode cX11_lordOf 52 = .ok (.iaload, 1) := by decide +kernel
theorem dX11_lordOf_53 : decode cX11_lordOf 53 = .ok (.if_icmp .le 7, 3) := by decide +kernel
theorem dX11_lordOf_56 : decode cX11_lordOf 56 = .ok (.iload_n 3, 1) := by decide +kernel
theorem dX11_lordOf_57 : decode cX11_lordOf 57 = .ok (.goto 4, 3) := by decide +kernel
theorem dX11_lordOf_60 : decode cX11_lordOf 60 = .ok (.iload_n 2, 1) := by decide +kernel
theorem dX11_lordOf_61 : decode cX11_lordOf 61 = .ok (.istore_n 2, 1) := by decide +kernel
theorem dX11_lordOf_62 : decode cX11_lordOf 62 = .ok (.iinc 3 1, 3) := by decide +kernel
theorem dX11_lordOf_65 : decode cX11_lordOf 65 = .ok (.goto (-61), 3) := by decide +kernel
theorem dX11_lordOf_68 : decode cX11_lordOf 68 = .ok (.iload_n 2, 1) := by decide +kernel
theorem dX11_lordOf_69 : decode cX11_lordOf 69 = .ok (.ireturn, 1) := by decide +kernel
theorem dX11_states_0 : decode cX11_states 0 = .ok (.iconst 0, 1) := by decide +kernel
theorem dX11_states_1 : decode cX11_states 1 = .ok (.istore_n 1, 1) := by decide +kernel
theorem dX11_states_2 : decode cX11_states 2 = .ok (.iconst 1, 1) := by decide +kernel
theorem dX11_states_3 : decode cX11_states 3 = .ok (.aload_n 0, 1) := by decide +kernel
theorem dX11_states_4 : decode cX11_states 4 = .ok (.getfield 267, 3) := by decide +kernel
theorem dX11_states_7 : decode cX11_states 7 = .ok (.ishl, 1) := by decide +kernel
theorem dX11_states_8 : decode cX11_states 8 = .ok (.iconst 1, 1) := by decide +kernel
theorem dX11_states_9 : decode cX11_states 9 = .ok (.isub, 1) := by decide +kernel
theorem dX11_states_10 : decode cX11_states 10 = .ok (.istore_n 2, 1) := by decide +kernel
theorem dX11_states_11 : decode cX11_states 11 = .ok (.iload_n 2, 1) := by decide +kernel
theorem dX11_states_12 : decode cX11_states 12 = .ok (.ifCond .eq 23, 3) := by decide +kernel
theorem dX11_states_15 : decode cX11_states 15 = .ok (.iload_n 2, 1) := by decide +kernel
theorem dX11_states_16 : decode cX11_states 16 = .ok (.aload_n 0, 1) := by decide +kernel
theorem dX11_states_17 : decode cX11_states 17 = .ok (.aload_n 0, 1) := by decide +kernel
theorem dX11_states_18 : decode cX11_states 18 = .ok (.iload_n 2, 1) := by decide +kernel
theorem dX11_states_19 : decode cX11_states 19 = .ok (.invokevirtual 325, 3) := by decide +kernel
theorem dX11_states_22 : decode cX11_states 22 = .ok (.invokevirtual 328, 3) := by decide +kernel
theorem dX11_states_25 : decode cX11_states 25 = .ok (.iconst (-1), 1) := by decide +kernel
theorem dX11_states_26 : decode cX11_states 26 = .ok (.ixor, 1) := by decide +kernel
theorem dX11_states_27 : decode cX11_states 27 = .ok (.iand, 1) := by decide +kernel
theorem dX11_states_28 : decode cX11_states 28 = .ok (.istore_n 2, 1) := by decide +kernel
theorem dX11_states_29 : decode cX11_states 29 = .ok (.iinc 1 1, 3) := by decide +kernel
theorem dX11_states_32 : decode cX11_states 32 = .ok (.goto (-21), 3) := by decide +kernel
theorem dX11_states_35 : decode cX11_states 35 = .ok (.iload_n 1, 1) := by decide +kernel
theorem dX11_states_36 : decode cX11_states 36 = .ok (.ireturn, 1) := by decide +kernel
theorem dX11_takes_0 : decode cX11_takes 0 = .ok (.aload_n 0, 1) := by decide +kernel
theorem dX11_takes_1 : decode cX11_takes 1 = .ok (.iload_n 1, 1) := by decide +kernel
theorem dX11_takes_2 : decode cX11_takes 2 = .ok (.iconst 2, 1) := by decide +kernel
theorem dX11_takes_3 : decode cX11_takes 3 = .ok (.invokevirtual 270, 3) := by decide +kernel
theorem dX11_takes_6 : decode cX11_takes 6 = .ok (.aload_n 0, 1) := by decide +kernel
theorem dX11_takes_7 : decode cX11_takes 7 = .ok (.getfield 58, 3) := by decide +kernel
theorem dX11_takes_10 : decode cX11_takes 10 = .ok (.iconst 0, 1) := by decide +kernel
theorem dX11_takes_11 : decode cX11_takes 11 = .ok (.iload_n 1, 1) := by decide +kernel
theorem dX11_takes_12 : decode cX11_takes 12 = .ok (.iadd, 1) := by decide +kernel
theorem dX11_takes_13 : decode cX11_takes 13 = .ok (.iaload, 1) := by decide +kernel
theorem dX11_takes_14 : decode cX11_takes 14 = .ok (.bipush 10, 2) := by decide +kernel
theorem dX11_takes_16 : decode cX11_takes 16 = .ok (.idiv, 1) := by decide +kernel
theorem dX11_takes_17 : decode cX11_takes 17 = .ok (.iadd, 1) := by decide +kernel
theorem dX11_takes_18 : decode cX11_takes 18 = .ok (.istore_n 2, 1) := by decide +kernel
theorem dX11_takes_19 : decode cX11_takes 19 = .ok (.aload_n 0, 1) := by decide +kernel
theorem dX11_takes_20 : decode cX11_takes 20 = .ok (.getfield 64, 3) := by decide +kernel
theorem dX11_takes_23 : decode cX11_takes 23 = .ok (.iconst (-1), 1) := by decide +kernel
theorem dX11_takes_24 : decode cX11_takes 24 = .ok (.if_icmp .eq 82, 3) := by decide +kernel
theorem dX11_takes_27 : decode cX11_takes 27 = .ok (.aload_n 0, 1) := by decide +kernel
theorem dX11_takes_28 : decode cX11_takes 28 = .ok (.getfield 34, 3) := by decide +kernel
theorem dX11_takes_31 : decode cX11_takes 31 = .ok (.iconst 0, 1) := by decide +kernel
theorem dX11_takes_32 : decode cX11_takes 32 = .ok (.aload_n 0, 1) := by decide +kernel
theorem dX11_takes_33 : decode cX11_takes 33 = .ok (.iload_n 1, 1) := by decide +kernel
theorem dX11_takes_34 : decode cX11_takes 34 = .ok (.iconst 2, 1) := by decide +kernel
theorem dX11_takes_35 : decode cX11_takes 35 = .ok (.invokevirtual 270, 3) := by decide +kernel
theorem dX11_takes_38 : decode cX11_takes 38 = .ok (.iastore, 1) := by decide +kernel
theorem dX11_takes_39 : decode cX11_takes 39 = .ok (.aload_n 0, 1) := by decide +kernel
theorem dX11_takes_40 : decode cX11_takes 40 = .ok (.getfield 34, 3) := by decide +kernel
theorem dX11_takes_43 : decode cX11_takes 43 = .ok (.iconst 1, 1) := by decide +kernel
theorem dX11_takes_44 : decode cX11_takes 44 = .ok (.aload_n 0, 1) := by decide +kernel
theorem dX11_takes_45 : decode cX11_takes 45 = .ok (.getfield 58, 3) := by decide +kernel
theorem dX11_takes_48 : decode cX11_takes 48 = .ok (.iconst 0, 1) := by decide +kernel
theorem dX11_takes_49 : decode cX11_takes 49 = .ok (.iload_n 1, 1) := by decide +kernel
theorem dX11_takes_50 : decode cX11_takes 50 = .ok (.iadd, 1) := by decide +kernel
theorem dX11_takes_51 : decode cX11_takes 51 = .ok (.iaload, 1) := by decide +kernel
theorem dX11_takes_52 : decode cX11_takes 52 = .ok (.iastore, 1) := by decide +kernel
theorem dX11_takes_53 : decode cX11_takes 53 = .ok (.aload_n 0, 1) := by decide +kernel
theorem dX11_takes_54 : decode cX11_takes 54 = .ok (.getfield 34, 3) := by decide +kernel
theorem dX11_takes_57 : decode cX11_takes 57 = .ok (.iconst 2, 1) := by decide +kernel
theorem dX11_takes_58 : decode cX11_takes 58 = .ok (.aload_n 0, 1) := by decide +kernel
theorem dX11_takes_59 : decode cX11_takes 59 = .ok (.iload_n 1, 1) := by decide +kernel
theorem dX11_takes_60 : decode cX11_takes 60 = .ok (.iconst 4, 1) := by decide +kernel
theorem dX11_takes_61 : decode cX11_takes 61 = .ok (.invokevirtual 270, 3) := by decide +kernel
theorem dX11_takes_64 : decode cX11_takes 64 = .ok (.iastore, 1) := by decide +kernel
theorem dX11_takes_65 : decode cX11_takes 65 = .ok (.aload_n 0, 1) := by decide +kernel
theorem dX11_takes_66 : decode cX11_takes 66 = .ok (.getfield 34, 3) := by decide +kernel
theorem dX11_takes_69 : decode cX11_takes 69 = .ok (.iconst 3, 1) := by decide +kernel
theorem dX11_takes_70 : decode cX11_takes 70 = .ok (.aload_n 0, 1) := by decide +kernel
theorem dX11_takes_71 : decode cX11_takes 71 = .ok (.getfield 49, 3) := by decide +kernel
theorem dX11_takes_74 : decode cX11_takes 74 = .ok (.iconst 2, 1) := by decide +kernel
theorem dX11_takes_75 : decode cX11_takes 75 = .ok (.iaload, 1) := by decide +kernel
theorem dX11_takes_76 : decode cX11_takes 76 = .ok (.iastore, 1) := by decide +kernel
theorem dX11_takes_77 : decode cX11_takes 77 = .ok (.aload_n 0, 1) := by decide +kernel
theorem dX11_takes_78 : decode cX11_takes 78 = .ok (.getfield 34, 3) := by decide +kernel
theorem dX11_takes_81 : decode cX11_takes 81 = .ok (.iconst 4, 1) := by decide +kernel
theorem dX11_takes_82 : decode cX11_takes 82 = .ok (.aload_n 0, 1) := by decide +kernel
theorem dX11_takes_83 : decode cX11_takes 83 = .ok (.getfield 58, 3) := by decide +kernel
theorem dX11_takes_86 : decode cX11_takes 86 = .ok (.bipush 17, 2) := by decide +kernel
theorem dX11_takes_88 : decode cX11_takes 88 = .ok (.iaload, 1) := by decide +kernel
theorem dX11_takes_89 : decode cX11_takes 89 = .ok (.iastore, 1) := by decide +kernel
theorem dX11_takes_90 : decode cX11_takes 90 = .ok (.aload_n 0, 1) := by decide +kernel
theorem dX11_takes_91 : decode cX11_takes 91 = .ok (.getfield 34, 3) := by decide +kernel
theorem dX11_takes_94 : decode cX11_takes 94 = .ok (.iconst 5, 1) := by decide +kernel
theorem dX11_takes_95 : decode cX11_takes 95 = .ok (.iload_n 1, 1) := by decide +kernel
theorem dX11_takes_96 : decode cX11_takes 96 = .ok (.iastore, 1) := by decide +kernel
theorem dX11_takes_97 : decode cX11_takes 97 = .ok (.aload_n 0, 1) := by decide +kernel
theorem dX11_takes_98 : decode cX11_takes 98 = .ok (.aload_n 0, 1) := by decide +kernel
theorem dX11_takes_99 : decode cX11_takes 99 = .ok (.getfield 64, 3) := by decide +kernel
theorem dX11_takes_102 : decode cX11_takes 102 = .ok (.invokevirtual 331, 3) := by decide +kernel
theorem dX11_takes_105 : decode cX11_takes 105 = .ok (.istore_n 2, 1) := by decide +kernel
theorem dX11_takes_106 : decode cX11_takes 106 = .ok (.iconst 1, 1) := by decide +kernel
theorem dX11_takes_107 : decode cX11_takes 107 = .ok (.bipush 99, 2) := by decide +kernel
theorem dX11_takes_109 : decode cX11_takes 109 = .ok (.iload_n 2, 1) := by decide +kernel
theorem dX11_takes_110 : decode cX11_takes 110 = .ok (.invokestatic 310, 3) := by decide +kernel
theorem dX11_takes_113 : decode cX11_takes 113 = .ok (.invokestatic 312, 3) := by decide +kernel
theorem dX11_takes_116 : decode cX11_takes 116 = .ok (.ireturn, 1) := by decide +kernel
theorem dX11_layBright_0 : decode cX11_layBright 0 = .ok (.iconst 0, 1) := by decide +kernel
theorem dX11_layBright_1 : decode cX11_layBright 1 = .ok (.istore 4, 2) := by decide +kernel
theorem dX11_layBright_3 : decode cX11_layBright 3 = .ok (.iload 4, 2) := by decide +kernel
theorem dX11_layBright_5 : decode cX11_layBright 5 = .ok (.aload_n 0, 1) := by decide +kernel
theorem dX11_layBright_6 : decode cX11_layBright 6 = .ok (.getfield 261, 3) := by decide +kernel
theorem dX11_layBright_9 : decode cX11_layBright 9 = .ok (.if_icmp .ge 35, 3) := by decide +kernel
theorem dX11_layBright_12 : decode cX11_layBright 12 = .ok (.aload_n 0, 1) := by decide +kernel
theorem dX11_layBright_13 : decode cX11_layBright 13 = .ok (.getfield 77, 3) := by decide +kernel
theorem dX11_layBright_16 : decode cX11_layBright 16 = .ok (.iload 4, 2) := by decide +kernel
theorem dX11_layBright_18 : decode cX11_layBright 18 = .ok (.iload_n 3, 1) := by decide +kernel
theorem dX11_layBright_19 : decode cX11_layBright 19 = .ok (.iload 4, 2) := by decide +kernel
theorem dX11_layBright_21 : decode cX11_layBright 21 = .ok (.invokestatic 228, 3) := by decide +kernel
theorem dX11_layBright_24 : decode cX11_layBright 24 = .ok (.ifCond .eq 12, 3) := by decide +kernel
theorem dX11_layBright_27 : decode cX11_layBright 27 = .ok (.aload_n 0, 1) := by decide +kernel
theorem dX11_layBright_28 : decode cX11_layBright 28 = .ok (.iload 4, 2) := by decide +kernel
theorem dX11_layBright_30 : decode cX11_layBright 30 = .ok (.invokevirtual 334, 3) := by decide +kernel
theorem dX11_layBright_33 : decode cX11_layBright 33 = .ok (.goto 4, 3) := by decide +kernel
theorem dX11_layBright_36 : decode cX11_layBright 36 = .ok (.iconst 0, 1) := by decide +kernel
theorem dX11_layBright_37 : decode cX11_layBright 37 = .ok (.iastore, 1) := by decide +kernel
theorem dX11_layBright_38 : decode cX11_layBright 38 = .ok (.iinc 4 1, 3) := by decide +kernel
theorem dX11_layBright_41 : decode cX11_layBright 41 = .ok (.goto (-38), 3) := by decide +kernel
theorem dX11_layBright_44 : decode cX11_layBright 44 = .ok (.iconst 0, 1) := by decide +kernel
theorem dX11_layBright_45 : decode cX11_layBright 45 = .ok (.istore 4, 2) := by decide +kernel
theorem dX11_layBright_47 : decode cX11_layBright 47 = .ok (.iload 4, 2) := by decide +kernel
theorem dX11_layBright_49 : decode cX11_layBright 49 = .ok (.bipush 20, 2) := by decide +kernel
theorem dX11_layBright_51 : decode cX11_layBright 51 = .ok (.if_icmp .ge 27, 3) := by decide +kernel
theorem dX11_layBright_54 : decode cX11_layBright 54 = .ok (.aload_n 0, 1) := by decide +kernel
theorem dX11_layBright_55 : decode cX11_layBright 55 = .ok (.getfield 74, 3) := by decide +kernel
theorem dX11_layBright_58 : decode cX11_layBright 58 = .ok (.iload 4, 2) := by decide +kernel
theorem dX11_layBright_60 : decode cX11_layBright 60 = .ok (.iload 4, 2) := by decide +kernel
theorem dX11_layBright_62 : decode cX11_layBright 62 = .ok (.iload_n 1, 1) := by decide +kernel
theorem dX11_layBright_63 : decode cX11_layBright 63 = .ok (.if_icmp .ne 7, 3) := by decide +kernel
theorem dX11_layBright_66 : decode cX11_layBright 66 = .ok (.iload_n 2, 1) := by decide +kernel
theorem dX11_layBright_67 : decode cX11_layBright 67 = .ok (.goto 4, 3) := by decide +kernel
theorem dX11_layBright_70 : decode cX11_layBright 70 = .ok (.iconst 0, 1) := by decide +kernel
theorem dX11_layBright_71 : decode cX11_layBright 71 = .ok (.iastore, 1) := by decide +kernel
theorem dX11_layBright_72 : decode cX11_layBright 72 = .ok (.iinc 4 1, 3) := by decide +kernel
theorem dX11_layBright_75 : decode cX11_layBright 75 = .ok (.goto (-28), 3) := by decide +kernel
theorem dX11_layBright_78 : decode cX11_layBright 78 = .ok (.iconst 1, 1) := by decide +kernel
theorem dX11_layBright_79 : decode cX11_layBright 79 = .ok (.istore 4, 2) := by decide +kernel
theorem dX11_layBright_81 : decode cX11_layBright 81 = .ok (.iload 4, 2) := by decide +kernel
theorem dX11_layBright_83 : decode cX11_layBright 83 = .ok (.ifCond .eq 129, 3) := by decide +kernel
theorem dX11_layBright_86 : decode cX11_layBright 86 = .ok (.iconst 0, 1) := by decide +kernel
theorem dX11_layBright_87 : decode cX11_layBright 87 = .ok (.istore 4, 2) := by decide +kernel
theorem dX11_layBright_89 : decode cX11_layBright 89 = .ok (.iconst 0, 1) := by decide +kernel
theorem dX11_layBright_90 : decode cX11_layBright 90 = .ok (.istore 5, 2) := by decide +kernel
theorem dX11_layBright_92 : decode cX11_layBright 92 = .ok (.iload 5, 2) := by decide +kernel
theorem dX11_layBright_94 : decode cX11_layBright 94 = .ok (.aload_n 0, 1) := by decide +kernel
theorem dX11_layBright_95 : decode cX11_layBright 95 = .ok (.getfield 267, 3) := by decide +kernel
theorem dX11_layBright_98 : decode cX11_layBright 98 = .ok (.if_icmp .ge 111, 3) := by decide +kernel
theorem dX11_layBright_101 : decode cX11_layBright 101 = .ok (.iconst 0, 1) := by decide +kernel
theorem dX11_layBright_102 : decode cX11_layBright 102 = .ok (.istore 6, 2) := by decide +kernel
theorem dX11_layBright_104 : decode cX11_layBright 104 = .ok (.iload 6, 2) := by decide +kernel
theorem dX11_layBright_106 : decode cX11_layBright 106 = .ok (.iconst 4, 1) := by decide +kernel
theorem dX11_layBright_107 : decode cX11_layBright 107 = .ok (.if_icmp .ge 96, 3) := by decide +kernel
theorem dX11_layBright_110 : decode cX11_layBright 110 = .ok (.aload_n 0, 1) := by decide +kernel
theorem dX11_layBright_111 : decode cX11_layBright 111 = .ok (.getfield 68, 3) := by decide +kernel
theorem dX11_layBright_114 : decode cX11_layBright 114 = .ok (.iconst 4, 1) := by decide +kernel
theorem dX11_layBright_115 : decode cX11_layBright 115 = .ok (.iload 5, 2) := by decide +kernel
theorem dX11_layBright_117 : decode cX11_layBright 117 = .ok (.imul, 1) := by decide +kernel
theorem dX11_layBright_118 : decode cX11_layBright 118 = .ok (.iload 6, 2) := by decide +kernel
theorem dX11_layBright_120 : decode cX11_layBright 120 = .ok (.iadd, 1) := by decide +kernel
theorem dX11_layBright_121 : decode cX11_layBright 121 = .ok (.iaload, 1) := by decide +kernel
theorem dX11_layBright_122 : decode cX11_layBright 122 = .ok (.istore 7, 2) := by decide +kernel
theorem dX11_layBright_124 : decode cX11_layBright 124 = .ok (.aload_n 0, 1) := by decide +kernel
theorem dX11_layBright_125 : decode cX11_layBright 125 = .ok (.getfield 71, 3) := by decide +kernel
theorem dX11_layBright_128 : decode cX11_layBright 128 = .ok (.iconst 4, 1) := by decide +kernel
theorem dX11_layBright_129 : decode cX11_layBright 129 = .ok (.iload 5, 2) := by decide +kernel
theorem dX11_layBright_131 : decode cX11_layBright 131 = .ok (.imul, 1) := by decide +kernel
theorem dX11_layBright_132 : decode cX11_layBright 132 = .ok (.iload 6, 2) := by decide +kernel
theorem dX11_layBright_134 : decode cX11_layBright 134 = .ok (.iadd, 1) := by decide +kernel
theorem dX11_layBright_135 : decode cX11_layBright 135 = .ok (.iaload, 1) := by decide +kernel
theorem dX11_layBright_136 : decode cX11_layBright 136 = .ok (.istore 8, 2) := by decide +kernel
theorem dX11_layBright_138 : decode cX11_layBright 138 = .ok (.aload_n 0, 1) := by decide +kernel
theorem dX11_layBright_139 : decode cX11_layBright 139 = .ok (.getfield 74, 3) := by decide +kernel
theorem dX11_layBright_142 : decode cX11_layBright 142 = .ok (.iload 5, 2) := by decide +kernel
theorem dX11_layBright_144 : decode cX11_layBright 144 = .ok (.iaload, 1) := by decide +kernel
theorem dX11_layBright_145 : decode cX11_layBright 145 = .ok (.iconst 1, 1) := by decide +kernel
theorem dX11_layBright_146 : decode cX11_layBright 146 = .ok (.isub, 1) := by decide +kernel
theorem dX11_layBright_147 : decode cX11_layBright 147 = .ok (.iload 8, 2) := by decide +kernel
theorem dX11_layBright_149 : decode cX11_layBright 149 = .ok (.iconst (-1), 1) := by decide +kernel
theorem dX11_layBright_150 : decode cX11_layBright 150 = .ok (.if_icmp .ne 7, 3) := by decide +kernel
theorem dX11_layBright_153 : decode cX11_layBright 153 = .ok (.iconst 0, 1) := by decide +kernel
theorem dX11_layBright_154 : decode cX11_layBright 154 = .ok (.goto 10, 3) := by decide +kernel
theorem dX11_layBright_157 : decode cX11_layBright 157 = .ok (.aload_n 0, 1) := by decide +kernel
theorem dX11_layBright_158 : decode cX11_layBright 158 = .ok (.getfield 77, 3) := by decide +kernel
theorem dX11_layBright_161 : decode cX11_layBright 161 = .ok (.iload 8, 2) := by decide +kernel
theorem dX11_layBright_163 : decode cX11_layBright 163 = .ok (.iaload, 1) := by decide +kernel
theorem dX11_layBright_164 : decode cX11_layBright 164 = .ok (.isub, 1) := by decide +kernel
theorem dX11_layBright_165 : decode cX11_layBright 165 = .ok (.istore 9, 2) := by decide +kernel
theorem dX11_layBright_167 : decode cX11_layBright 167 = .ok (.iload 7, 2) := by decide +kernel
theorem dX11_layBright_169 : decode cX11_layBright 169 = .ok (.iconst (-1), 1) := by decide +kernel
theorem dX11_layBright_170 : decode cX11_layBright 170 = .ok (.if_icmp .eq 27, 3) := by decide +kernel
theorem dX11_layBright_173 : decode cX11_layBright 173 = .ok (.iload 9, 2) := by decide +kernel
theorem dX11_layBright_175 : decode cX11_layBright 175 = .ok (.aload_n 0, 1) := by decide +kernel
theorem dX11_layBright_176 : decode cX11_layBright 176 = .ok (.getfield 74, 3) := by decide +kernel
theorem dX11_layBright_179 : decode cX11_layBright 179 = .ok (.iload 7, 2) := by decide +kernel
theorem dX11_layBright_181 : decode cX11_layBright 181 = .ok (.iaload, 1) := by decide +kernel
theorem dX11_layBright_182 : decode cX11_layBright 182 = .ok (.if_icmp .le 15, 3) := by decide +kernel
theorem dX11_layBright_185 : decode cX11_layBright 185 = .ok (.aload_n 0, 1) := by decide +kernel
theorem dX11_layBright_186 : decode cX11_layBright 186 = .ok (.getfield 74, 3) := by decide +kernel
theorem dX11_layBright_189 : decode cX11_layBright 189 = .ok (.iload 7, 2) := by decide +kernel
theorem dX11_layBright_191 : decode cX11_layBright 191 = .ok (.iload 9, 2) := by decide +kernel
theorem dX11_layBright_193 : decode cX11_layBright 193 = .ok (.iastore, 1) := by decide +kernel
theorem dX11_layBright_194 : decode cX11_layBright 194 = .ok (.iconst 1, 1) := by decide +kernel
theorem dX11_layBright_195 : decode cX11_layBright 195 = .ok (.istore 4, 2) := by decide +kernel
theorem dX11_layBright_197 : decode cX11_layBright 197 = .ok (.iinc 6 1, 3) := by decide +kernel
theorem dX11_layBright_200 : decode cX11_layBright 200 = .ok (.goto (-96), 3) := by decide +kernel
theorem dX11_layBright_203 : decode cX11_layBright 203 = .ok (.iinc 5 1, 3) := by decide +kernel
theorem dX11_layBright_206 : decode cX11_layBright 206 = .ok (.goto (-114), 3) := by decide +kernel
theorem dX11_layBright_209 : decode cX11_layBright 209 = .ok (.goto (-128), 3) := by decide +kernel
theorem dX11_layBright_212 : decode cX11_layBright 212 = .ok (.return_, 1) := by decide +kernel
theorem dX11_layLit_0 : decode cX11_layLit 0 = .ok (.aload_n 0, 1) := by decide +kernel
theorem dX11_layLit_1 : decode cX11_layLit 1 = .ok (.iconst 0, 1) := by decide +kernel
theorem dX11_layLit_2 : decode cX11_layLit 2 = .ok (.aload_n 0, 1) := by decide +kernel
theorem dX11_layLit_3 : decode cX11_layLit 3 = .ok (.getfield 49, 3) := by decide +kernel
theorem dX11_layLit_6 : decode cX11_layLit 6 = .ok (.iconst 2, 1) := by decide +kernel
theorem dX11_layLit_7 : decode cX11_layLit 7 = .ok (.iaload, 1) := by decide +kernel
theorem dX11_layLit_8 : decode cX11_layLit 8 = .ok (.aload_n 0, 1) := by decide +kernel
theorem dX11_layLit_9 : decode cX11_layLit 9 = .ok (.invokevirtual 314, 3) := by decide +kernel
theorem dX11_layLit_12 : decode cX11_layLit 12 = .ok (.invokevirtual 337, 3) := by decide +kernel
theorem dX11_layLit_15 : decode cX11_layLit 15 = .ok (.return_, 1) := by decide +kernel
theorem dX11_litOfAll_0 : decode cX11_litOfAll 0 = .ok (.aload_n 0, 1) := by decide +kernel
theorem dX11_litOfAll_1 : decode cX11_litOfAll 1 = .ok (.invokevirtual 341, 3) := by decide +kernel
theorem dX11_litOfAll_4 : decode cX11_litOfAll 4 = .ok (.iconst 0, 1) := by decide +kernel
theorem dX11_litOfAll_5 : decode cX11_litOfAll 5 = .ok (.istore_n 1, 1) := by decide +kernel
theorem dX11_litOfAll_6 : decode cX11_litOfAll 6 = .ok (.iconst 0, 1) := by decide +kernel
theorem dX11_litOfAll_7 : decode cX11_litOfAll 7 = .ok (.istore_n 2, 1) := by decide +kernel
theorem dX11_litOfAll_8 : decode cX11_litOfAll 8 = .ok (.iload_n 2, 1) := by decide +kernel
theorem dX11_litOfAll_9 : decode cX11_litOfAll 9 = .ok (.aload_n 0, 1) := by decide +kernel
theorem dX11_litOfAll_10 : decode cX11_litOfAll 10 = .ok (.getfield 267, 3) := by decide +kernel
theorem dX11_litOfAll_13 : decode cX11_litOfAll 13 = .ok (.if_icmp .ge 18, 3) := by decide +kernel
theorem dX11_litOfAll_16 : decode cX11_litOfAll 16 = .ok (.iload_n 1, 1) := by decide +kernel
theorem dX11_litOfAll_17 : decode cX11_litOfAll 17 = .ok (.aload_n 0, 1) := by decide +kernel
theorem dX11_litOfAll_18 : decode cX11_litOfAll 18 = .ok (.getfield 74, 3) := by decide +kernel
theorem dX11_litOfAll_21 : decode cX11_litOfAll 21 = .ok (.iload_n 2, 1) := by decide +kernel
theorem dX11_litOfAll_22 : decode cX11_litOfAll 22 = .ok (.iaload, 1) := by decide +kernel
theorem dX11_litOfAll_23 : decode cX11_litOfAll 23 = .ok (.iadd, 1) := by decide +kernel
theorem dX11_litOfAll_24 : decode cX11_litOfAll 24 = .ok (.istore_n 1, 1) := by decide +kernel
theorem dX11_litOfAll_25 : decode cX11_litOfAll 25 = .ok (.iinc 2 1, 3) := by decide +kernel
theorem dX11_litOfAll_28 : decode cX11_litOfAll 28 = .ok (.goto (-20), 3) := by decide +kernel
theorem dX11_litOfAll_31 : decode cX11_litOfAll 31 = .ok (.iload_n 1, 1) := by decide +kernel
theorem dX11_litOfAll_32 : decode cX11_litOfAll 32 = .ok (.ireturn, 1) := by decide +kernel
theorem dX11_rule_0 : decode cX11_rule 0 = .ok (.aload_n 0, 1) := by decide +kernel
theorem dX11_rule_1 : decode cX11_rule 1 = .ok (.getfield 267, 3) := by decide +kernel
theorem dX11_rule_4 : decode cX11_rule 4 = .ok (.ifCond .le 21, 3) := by decide +kernel
theorem dX11_rule_7 : decode cX11_rule 7 = .ok (.iload_n 1, 1) := by decide +kernel
theorem dX11_rule_8 : decode cX11_rule 8 = .ok (.iconst 0, 1) := by decide +kernel
theorem dX11_rule_9 : decode cX11_rule 9 = .ok (.iconst 3, 1) := by decide +kernel
theorem dX11_rule_10 : decode cX11_rule 10 = .ok (.invokestatic 217, 3) := by decide +kernel
theorem dX11_rule_13 : decode cX11_rule 13 = .ok (.ifCond .eq 12, 3) := by decide +kernel
theorem dX11_rule_16 : decode cX11_rule 16 = .ok (.aload_n 0, 1) := by decide +kernel
theorem dX11_rule_17 : decode cX11_rule 17 = .ok (.getfield 49, 3) := by decide +kernel
theorem dX11_rule_20 : decode cX11_rule 20 = .ok (.iload_n 1, 1) := by decide +kernel
theorem dX11_rule_21 : decode cX11_rule 21 = .ok (.iaload, 1) := by decide +kernel
theorem dX11_rule_22 : decode cX11_rule 22 = .ok (.goto 4, 3) := by decide +kernel
theorem dX11_rule_25 : decode cX11_rule 25 = .ok (.iconst (-1), 1) := by decide +kernel
theorem dX11_rule_26 : decode cX11_rule 26 = .ok (.ireturn, 1) := by decide +kernel
theorem dX11_curtain_0 : decode cX11_curtain 0 = .ok (.aload_n 0, 1) := by decide +kernel
theorem dX11_curtain_1 : decode cX11_curtain 1 = .ok (.iload_n 1, 1) := by decide +kernel
theorem dX11_curtain_2 : decode cX11_curtain 2 = .ok (.invokevirtual 295, 3) := by decide +kernel
theorem dX11_curtain_5 : decode cX11_curtain 5 = .ok (.ifCond .eq 13, 3) := by decide +kernel
theorem dX11_curtain_8 : decode cX11_curtain 8 = .ok (.iload_n 2, 1) := by decide +kernel
theorem dX11_curtain_9 : decode cX11_curtain 9 = .ok (.iconst 0, 1) := by decide +kernel
theorem dX11_curtain_10 : decode cX11_curtain 10 = .ok (.bipush 7, 2) := by decide +kernel
theorem dX11_curtain_12 : decode cX11_curtain 12 = .ok (.invokestatic 217, 3) := by decide +kernel
theorem dX11_curtain_15 : decode cX11_curtain 15 = .ok (.ifCond .ne 5, 3) := by decide +kernel
theorem dX11_curtain_18 : decode cX11_curtain 18 = .ok (.iconst (-1), 1) := by decide +kernel
theorem dX11_curtain_19 : decode cX11_curtain 19 = .ok (.ireturn, 1) := by decide +kernel
theorem dX11_curtain_20 : decode cX11_curtain 20 = .ok (.iload_n 2, 1) := by decide +kernel
theorem dX11_curtain_21 : decode cX11_curtain 21 = .ok (.tableswitch 100 0 7 #[47, 53, 100, 59, 100, 68, 80, 94], 47) := by decide +kernel
theorem dX11_curtain_68 : decode cX11_curtain 68 = .ok (.aload_n 0, 1) := by decide +kernel
theorem dX11_curtain_69 : decode cX11_curtain 69 = .ok (.iload_n 1, 1) := by decide +kernel
theorem dX11_curtain_70 : decode cX11_curtain 70 = .ok (.invokevirtual 301, 3) := by decide +kernel
theorem dX11_curtain_73 : decode cX11_curtain 73 = .ok (.ireturn, 1) := by decide +kernel
theorem dX11_curtain_74 : decode cX11_curtain 74 = .ok (.aload_n 0, 1) := by decide +kernel
theorem dX11_curtain_75 : decode cX11_curtain 75 = .ok (.iload_n 1, 1) := by decide +kernel
theorem dX11_curtain_76 : decode cX11_curtain 76 = .ok (.invokevirtual 304, 3) := by decide +kernel
theorem dX11_curtain_79 : decode cX11_curtain 79 = .ok (.ireturn, 1) := by decide +kernel
theorem dX11_curtain_80 : decode cX11_curtain 80 = .ok (.aload_n 0, 1) := by decide +kernel
theorem dX11_curtain_81 : decode cX11_curtain 81 = .ok (.getfield 58, 3) := by decide +kernel
theorem dX11_curtain_84 : decode cX11_curtain 84 = .ok (.iconst 0, 1) := by decide +kernel
theorem dX11_curtain_85 : decode cX11_curtain 85 = .ok (.iload_n 1, 1) := by decide +kernel
theorem dX11_curtain_86 : decode cX11_curtain 86 = .ok (.iadd, 1) := by decide +kernel
theorem dX11_curtain_87 : decode cX11_curtain 87 = .ok (.iaload, 1) := by decide +kernel
theorem dX11_curtain_88 : decode cX11_curtain 88 = .ok (.ireturn, 1) := by decide +kernel
theorem dX11_curtain_89 : decode cX11_curtain 89 = .ok (.aload_n 0, 1) := by decide +kernel
theorem dX11_curtain_90 : decode cX11_curtain 90 = .ok (.getfield 58, 3) := by decide +kernel
theorem dX11_curtain_93 : decode cX11_curtain 93 = .ok (.bipush 10, 2) := by decide +kernel
theorem dX11_curtain_95 : decode cX11_curtain 95 = .ok (.iaload, 1) := by decide +kernel
theorem dX11_curtain_96 : decode cX11_curtain 96 = .ok (.iload_n 1, 1) := by decide +kernel
theorem dX11_curtain_97 : decode cX11_curtain 97 = .ok (.ishr, 1) := by decide +kernel
theorem dX11_curtain_98 : decode cX11_curtain 98 = .ok (.iconst 1, 1) := by decide +kernel
theorem dX11_curtain_99 : decode cX11_curtain 99 = .ok (.iand, 1) := by decide +kernel
theorem dX11_curtain_100 : decode cX11_curtain 100 = .ok (.ireturn, 1) := by decide +kernel
theorem dX11_curtain_101 : decode cX11_curtain 101 = .ok (.aload_n 0, 1) := by decide +kernel
theorem dX11_curtain_102 : decode cX11_curtain 102 = .ok (.iload_n 1, 1) := by decide +kernel
theorem dX11_curtain_103 : decode cX11_curtain 103 = .ok (.invokevirtual 307, 3) := by decide +kernel
theorem dX11_curtain_106 : decode cX11_curtain 106 = .ok (.ifCond .eq 7, 3) := by decide +kernel
theorem dX11_curtain_109 : decode cX11_curtain 109 = .ok (.iconst 1, 1) := by decide +kernel
theorem dX11_curtain_110 : decode cX11_curtain 110 = .ok (.goto 4, 3) := by decide +kernel
theorem dX11_curtain_113 : decode cX11_curtain 113 = .ok (.iconst 0, 1) := by decide +kernel
theorem dX11_curtain_114 : decode cX11_curtain 114 = .ok (.ireturn, 1) := by decide +kernel
theorem dX11_curtain_115 : decode cX11_curtain 115 = .ok (.aload_n 0, 1) := by decide +kernel
theorem dX11_curtain_116 : decode cX11_curtain 116 = .ok (.iload_n 1, 1) := by decide +kernel
theorem dX11_curtain_117 : decode cX11_curtain 117 = .ok (.invokevirtual 334, 3) := by decide +kernel
theorem dX11_curtain_120 : decode cX11_curtain 120 = .ok (.ireturn, 1) := by decide +kernel
theorem dX11_curtain_121 : decode cX11_curtain 121 = .ok (.aload_n 0, 1) := by decide +kernel
theorem dX11_curtain_122 : decode cX11_curtain 122 = .ok (.iload_n 1, 1) := by decide +kernel
theorem dX11_curtain_123 : decode cX11_curtain 123 = .ok (.iload_n 2, 1) := by decide +kernel
theorem dX11_curtain_124 : decode cX11_curtain 124 = .ok (.invokevirtual 270, 3) := by decide +kernel
theorem dX11_curtain_127 : decode cX11_curtain 127 = .ok (.ireturn, 1) := by decide +kernel
theorem dX11_person_0 : decode cX11_person 0 = .ok (.aload_n 0, 1) := by decide +kernel
theorem dX11_person_1 : decode cX11_person 1 = .ok (.aload_n 0, 1) := by decide +kernel
theorem dX11_person_2 : decode cX11_person 2 = .ok (.iload_n 1, 1) := by decide +kernel
theorem dX11_person_3 : decode cX11_person 3 = .ok (.invokevirtual 344, 3) := by decide +kernel
theorem dX11_person_6 : decode cX11_person 6 = .ok (.ifCond .eq 16, 3) := by decide +kernel
theorem dX11_person_9 : decode cX11_person 9 = .ok (.iload_n 2, 1) := by decide +kernel
theorem dX11_person_10 : decode cX11_person 10 = .ok (.iconst 0, 1) := by decide +kernel
theorem dX11_person_11 : decode cX11_person 11 = .ok (.iconst 3, 1) := by decide +kernel
theorem dX11_person_12 : decode cX11_person 12 = .ok (.invokestatic 217, 3) := by decide +kernel
theorem dX11_person_15 : decode cX11_person 15 = .ok (.ifCond .eq 7, 3) := by decide +kernel
theorem dX11_person_18 : decode cX11_person 18 = .ok (.iconst 0, 1) := by decide +kernel
theorem dX11_person_19 : decode cX11_person 19 = .ok (.goto 4, 3) := by decide +kernel
theorem dX11_person_22 : decode cX11_person 22 = .ok (.iconst 1, 1) := by decide +kernel
theorem dX11_person_23 : decode cX11_person 23 = .ok (.putfield 102, 3) := by decide +kernel
theorem dX11_person_26 : decode cX11_person 26 = .ok (.aload_n 0, 1) := by decide +kernel
theorem dX11_person_27 : decode cX11_person 27 = .ok (.getfield 102, 3) := by decide +kernel
theorem dX11_person_30 : decode cX11_person 30 = .ok (.iconst 1, 1) := by decide +kernel
theorem dX11_person_31 : decode cX11_person 31 = .ok (.if_icmp .ne 5, 3) := by decide +kernel
theorem dX11_person_34 : decode cX11_person 34 = .ok (.iconst 0, 1) := by decide +kernel
theorem dX11_person_35 : decode cX11_person 35 = .ok (.ireturn, 1) := by decide +kernel
theorem dX11_person_36 : decode cX11_person 36 = .ok (.aload_n 0, 1) := by decide +kernel
theorem dX11_person_37 : decode cX11_person 37 = .ok (.aload_n 0, 1) := by decide +kernel
theorem dX11_person_38 : decode cX11_person 38 = .ok (.getfield 58, 3) := by decide +kernel
theorem dX11_person_41 : decode cX11_person 41 = .ok (.bipush 11, 2) := by decide +kernel
theorem dX11_person_43 : decode cX11_person 43 = .ok (.iload_n 1, 1) := by decide +kernel
theorem dX11_person_44 : decode cX11_person 44 = .ok (.iadd, 1) := by decide +kernel
theorem dX11_person_45 : decode cX11_person 45 = .ok (.iaload, 1) := by decide +kernel
theorem dX11_person_46 : decode cX11_person 46 = .ok (.invokevirtual 328, 3) := by decide +kernel
theorem dX11_person_49 : decode cX11_person 49 = .ok (.istore_n 3, 1) := by decide +kernel
theorem dX11_person_50 : decode cX11_person 50 = .ok (.iload_n 2, 1) := by decide +kernel
theorem dX11_person_51 : decode cX11_person 51 = .ok (.ifCond .ne 15, 3) := by decide +kernel
theorem dX11_person_54 : decode cX11_person 54 = .ok (.aload_n 0, 1) := by decide +kernel
theorem dX11_person_55 : decode cX11_person 55 = .ok (.getfield 58, 3) := by decide +kernel
theorem dX11_person_58 : decode cX11_person 58 = .ok (.bipush 11, 2) := by decide +kernel
theorem dX11_person_60 : decode cX11_person 60 = .ok (.iload_n 1, 1) := by decide +kernel
theorem dX11_person_61 : decode cX11_person 61 = .ok (.iadd, 1) := by decide +kernel
theorem dX11_person_62 : decode cX11_person 62 = .ok (.iaload, 1) := by decide +kernel
theorem dX11_person_63 : decode cX11_person 63 = .ok (.goto 48, 3) := by decide +kernel
theorem dX11_person_66 : decode cX11_person 66 = .ok (.iload_n 2, 1) := by decide +kernel
theorem dX11_person_67 : decode cX11_person 67 = .ok (.iconst 1, 1) := by decide +kernel
theorem dX11_person_68 : decode cX11_person 68 = .ok (.if_icmp .ne 16, 3) := by decide +kernel
theorem dX11_person_71 : decode cX11_person 71 = .ok (.aload_n 0, 1) := by decide +kernel
theorem dX11_person_72 : decode cX11_person 72 = .ok (.getfield 55, 3) := by decide +kernel
theorem dX11_person_75 : decode cX11_person 75 = .ok (.iconst 2, 1) := by decide +kernel
theorem dX11_person_76 : decode cX11_person 76 = .ok (.iload_n 1, 1) := by decide +kernel
theorem dX11_person_77 : decode cX11_person 77 = .ok (.imul, 1) := by decide +kernel
theorem dX11_person_78 : decode cX11_person 78 = .ok (.iconst 1, 1) := by decide +kernel
theorem dX11_person_79 : decode cX11_person 79 = .ok (.iadd, 1) := by decide +kernel
theorem dX11_person_80 : decode cX11_person 80 = .ok (.iaload, 1) := by decide +kernel
theorem dX11_person_81 : decode cX11_person 81 = .ok (.goto 30, 3) := by decide +kernel
theorem dX11_person_84 : decode cX11_person 84 = .ok (.iload_n 2, 1) := by decide +kernel
theorem dX11_person_85 : decode cX11_person 85 = .ok (.iconst 2, 1) := by decide +kernel
theorem dX11_person_86 : decode cX11_person 86 = .ok (.if_icmp .ne 11, 3) := by decide +kernel
theorem dX11_person_89 : decode cX11_person 89 = .ok (.aload_n 0, 1) := by decide +kernel
theorem dX11_person_90 : decode cX11_person 90 = .ok (.iload_n 3, 1) := by decide +kernel
theorem dX11_person_91 : decode cX11_person 91 = .ok (.invokevirtual 325, 3) := by decide +kernel
theorem dX11_person_94 : decode cX11_person 94 = .ok (.goto 17, 3) := by decide +kernel
theorem dX11_person_97 : decode cX11_person 97 = .ok (.aload_n 0, 1) := by decide +kernel
theorem dX11_person_98 : decode cX11_person 98 = .ok (.iload_n 3, 1) := by decide +kernel
theorem dX11_person_99 : decode cX11_person 99 = .ok (.invokevirtual 347, 3) := by decide +kernel
theorem dX11_person_102 : decode cX11_person 102 = .ok (.iload_n 1, 1) := by decide +kernel
theorem dX11_person_103 : decode cX11_person 103 = .ok (.if_icmp .ne 7, 3) := by decide +kernel
theorem dX11_person_106 : decode cX11_person 106 = .ok (.iconst 1, 1) := by decide +kernel
theorem dX11_person_107 : decode cX11_person 107 = .ok (.goto 4, 3) := by decide +kernel
theorem dX11_person_110 : decode cX11_person 110 = .ok (.iconst 0, 1) := by decide +kernel
theorem dX11_person_111 : decode cX11_person 111 = .ok (.ireturn, 1) := by decide +kernel
theorem dX11_law_0 : decode cX11_law 0 = .ok (.iload_n 1, 1) := by decide +kernel
theorem dX11_law_1 : decode cX11_law 1 = .ok (.iconst (-1), 1) := by decide +kernel
theorem dX11_law_2 : decode cX11_law 2 = .ok (.aload_n 0, 1) := by decide +kernel
theorem dX11_law_3 : decode cX11_law 3 = .ok (.getfield 292, 3) := by decide +kernel
theorem dX11_law_6 : decode cX11_law 6 = .ok (.iconst 1, 1) := by decide +kernel
theorem dX11_law_7 : decode cX11_law 7 = .ok (.isub, 1) := by decide +kernel
theorem dX11_law_8 : decode cX11_law 8 = .ok (.invokestatic 217, 3) := by decide +kernel
theorem dX11_law_11 : decode cX11_law 11 = .ok (.ifCond .ne 5, 3) := by decide +kernel
theorem dX11_law_14 : decode cX11_law 14 = .ok (.iconst 0, 1) := by decide +kernel
theorem dX11_law_15 : decode cX11_law 15 = .ok (.ireturn, 1) := by decide +kernel
theorem dX11_law_16 : decode cX11_law 16 = .ok (.aload_n 0, 1) := by decide +kernel
theorem dX11_law_17 : decode cX11_law 17 = .ok (.iload_n 1, 1) := by decide +kernel
theorem dX11_law_18 : decode cX11_law 18 = .ok (.putfield 64, 3) := by decide +kernel
theorem dX11_law_21 : decode cX11_law 21 = .ok (.iconst 1, 1) := by decide +kernel
theorem dX11_law_22 : decode cX11_law 22 = .ok (.ireturn, 1) := by decide +kernel
theorem dX11_state_0 : decode cX11_state 0 = .ok (.aload_n 0, 1) := by decide +kernel
theorem dX11_state_1 : decode cX11_state 1 = .ok (.iload_n 1, 1) := by decide +kernel
theorem dX11_state_2 : decode cX11_state 2 = .ok (.invokevirtual 350, 3) := by decide +kernel
theorem dX11_state_5 : decode cX11_state 5 = .ok (.ifCond .eq 15, 3) := by decide +kernel
theorem dX11_state_8 : decode cX11_state 8 = .ok (.aload_n 0, 1) := by decide +kernel
theorem dX11_state_9 : decode cX11_state 9 = .ok (.aload_n 0, 1) := by decide +kernel
theorem dX11_state_10 : decode cX11_state 10 = .ok (.iload_n 1, 1) := by decide +kernel
theorem dX11_state_11 : decode cX11_state 11 = .ok (.invokevirtual 328, 3) := by decide +kernel
theorem dX11_state_14 : decode cX11_state 14 = .ok (.invokevirtual 325, 3) := by decide +kernel
theorem dX11_state_17 : decode cX11_state 17 = .ok (.goto 4, 3) := by decide +kernel
theorem dX11_state_20 : decode cX11_state 20 = .ok (.iconst (-1), 1) := by decide +kernel
theorem dX11_state_21 : decode cX11_state 21 = .ok (.ireturn, 1) := by decide +kernel
theorem dX11_lord_0 : decode cX11_lord 0 = .ok (.aload_n 0, 1) := by decide +kernel
theorem dX11_lord_1 : decode cX11_lord 1 = .ok (.iload_n 1, 1) := by decide +kernel
theorem dX11_lord_2 : decode cX11_lord 2 = .ok (.invokevirtual 350, 3) := by decide +kernel
theorem dX11_lord_5 : decode cX11_lord 5 = .ok (.ifCond .eq 15, 3) := by decide +kernel
theorem dX11_lord_8 : decode cX11_lord 8 = .ok (.aload_n 0, 1) := by decide +kernel
theorem dX11_lord_9 : decode cX11_lord 9 = .ok (.aload_n 0, 1) := by decide +kernel
theorem dX11_lord_10 : decode cX11_lord 10 = .ok (.iload_n 1, 1) := by decide +kernel
theorem dX11_lord_11 : decode cX11_lord 11 = .ok (.invokevirtual 328, 3) := by decide +kernel
theorem dX11_lord_14 : decode cX11_lord 14 = .ok (.invokevirtual 347, 3) := by decide +kernel
theorem dX11_lord_17 : decode cX11_lord 17 = .ok (.goto 4, 3) := by decide +kernel
theorem dX11_lord_20 : decode cX11_lord 20 = .ok (.iconst (-1), 1) := by decide +kernel
theorem dX11_lord_21 : decode cX11_lord 21 = .ok (.ireturn, 1) := by decide +kernel
theorem dX11_lit_0 : decode cX11_lit 0 = .ok (.aload_n 0, 1) := by decide +kernel
theorem dX11_lit_1 : decode cX11_lit 1 = .ok (.iload_n 1, 1) := by decide +kernel
theorem dX11_lit_2 : decode cX11_lit 2 = .ok (.invokevirtual 350, 3) := by decide +kernel
theorem dX11_lit_5 : decode cX11_lit 5 = .ok (.ifCond .ne 5, 3) := by decide +kernel
theorem dX11_lit_8 : decode cX11_lit 8 = .ok (.iconst (-1), 1) := by decide +kernel
theorem dX11_lit_9 : decode cX11_lit 9 = .ok (.ireturn, 1) := by decide +kernel
theorem dX11_lit_10 : decode cX11_lit 10 = .ok (.aload_n 0, 1) := by decide +kernel
theorem dX11_lit_11 : decode cX11_lit 11 = .ok (.invokevirtual 341, 3) := by decide +kernel
theorem dX11_lit_14 : decode cX11_lit 14 = .ok (.aload_n 0, 1) := by decide +kernel
theorem dX11_lit_15 : decode cX11_lit 15 = .ok (.getfield 74, 3) := by decide +kernel
theorem dX11_lit_18 : decode cX11_lit 18 = .ok (.iload_n 1, 1) := by decide +kernel
theorem dX11_lit_19 : decode cX11_lit 19 = .ok (.iaload, 1) := by decide +kernel
theorem dX11_lit_20 : decode cX11_lit 20 = .ok (.ireturn, 1) := by decide +kernel
theorem dX11_touch_0 : decode cX11_touch 0 = .ok (.aload_n 0, 1) := by decide +kernel
theorem dX11_touch_1 : decode cX11_touch 1 = .ok (.iload_n 1, 1) := by decide +kernel
theorem dX11_touch_2 : decode cX11_touch 2 = .ok (.invokevirtual 350, 3) := by decide +kernel
theorem dX11_touch_5 : decode cX11_touch 5 = .ok (.ifCond .eq 11, 3) := by decide +kernel
theorem dX11_touch_8 : decode cX11_touch 8 = .ok (.aload_n 0, 1) := by decide +kernel
theorem dX11_touch_9 : decode cX11_touch 9 = .ok (.iload_n 2, 1) := by decide +kernel
theorem dX11_touch_10 : decode cX11_touch 10 = .ok (.invokevirtual 350, 3) := by decide +kernel
theorem dX11_touch_13 : decode cX11_touch 13 = .ok (.ifCond .ne 5, 3) := by decide +kernel
theorem dX11_touch_16 : decode cX11_touch 16 = .ok (.iconst (-1), 1) := by decide +kernel
theorem dX11_touch_17 : decode cX11_touch 17 = .ok (.ireturn, 1) := by decide +kernel
theorem dX11_touch_18 : decode cX11_touch 18 = .ok (.aload_n 0, 1) := by decide +kernel
theorem dX11_touch_19 : decode cX11_touch 19 = .ok (.iload_n 1, 1) := by decide +kernel
theorem dX11_touch_20 : decode cX11_touch 20 = .ok (.invokevirtual 328, 3) := by decide +kernel
theorem dX11_touch_23 : decode cX11_touch 23 = .ok (.istore_n 3, 1) := by decide +kernel
theorem dX11_touch_24 : decode cX11_touch 24 = .ok (.aload_n 0, 1) := by decide +kernel
theorem dX11_touch_25 : decode cX11_touch 25 = .ok (.iload_n 2, 1) := by decide +kernel
theorem dX11_touch_26 : decode cX11_touch 26 = .ok (.invokevirtual 328, 3) := by decide +kernel
theorem dX11_touch_29 : decode cX11_touch 29 = .ok (.istore 4, 2) := by decide +kernel
theorem dX11_touch_31 : decode cX11_touch 31 = .ok (.iconst 0, 1) := by decide +kernel
theorem dX11_touch_32 : decode cX11_touch 32 = .ok (.istore 5, 2) := by decide +kernel
theorem dX11_touch_34 : decode cX11_touch 34 = .ok (.iload 5, 2) := by decide +kernel
theorem dX11_touch_36 : decode cX11_touch 36 = .ok (.aload_n 0, 1) := by decide +kernel
theorem dX11_touch_37 : decode cX11_touch 37 = .ok (.getfield 261, 3) := by decide +kernel
theorem dX11_touch_40 : decode cX11_touch 40 = .ok (.if_icmp .ge 80, 3) := by decide +kernel
theorem dX11_touch_43 : decode cX11_touch 43 = .ok (.iload_n 3, 1) := by decide +kernel
theorem dX11_touch_44 : decode cX11_touch 44 = .ok (.iload 4, 2) := by decide +kernel
theorem dX11_touch_46 : decode cX11_touch 46 = .ok (.if_icmp .eq 74, 3) := by decide +kernel
theorem dX11_touch_49 : decode cX11_touch 49 = .ok (.aload_n 0, 1) := by decide +kernel
theorem dX11_touch_50 : decode cX11_touch 50 = .ok (.iload 5, 2) := by decide +kernel
theorem dX11_touch_52 : decode cX11_touch 52 = .ok (.invokevirtual 307, 3) := by decide +kernel
theorem dX11_touch_55 : decode cX11_touch 55 = .ok (.ifCond .eq 59, 3) := by decide +kernel
theorem dX11_touch_58 : decode cX11_touch 58 = .ok (.iload_n 3, 1) := by decide +kernel
theorem dX11_touch_59 : decode cX11_touch 59 = .ok (.aload_n 0, 1) := by decide +kernel
theorem dX11_touch_60 : decode cX11_touch 60 = .ok (.iload 5, 2) := by decide +kernel
theorem dX11_touch_62 : decode cX11_touch 62 = .ok (.invokevirtual 301, 3) := by decide +kernel
theorem dX11_touch_65 : decode cX11_touch 65 = .ok (.invokestatic 228, 3) := by decide +kernel
theorem dX11_touch_68 : decode cX11_touch 68 = .ok (.ifCond .eq 17, 3) := by decide +kernel
theorem dX11_touch_71 : decode cX11_touch 71 = .ok (.iload 4, 2) := by decide +kernel
theorem dX11_touch_73 : decode cX11_touch 73 = .ok (.aload_n 0, 1) := by decide +kernel
theorem dX11_touch_74 : decode cX11_touch 74 = .ok (.iload 5, 2) := by decide +kernel
theorem dX11_touch_76 : decode cX11_touch 76 = .ok (.invokevirtual 304, 3) := by decide +kernel
theorem dX11_touch_79 : decode cX11_touch 79 = .ok (.invokestatic 228, 3) := by decide +kernel
theorem dX11_touch_82 : decode cX11_touch 82 = .ok (.ifCond .ne 30, 3) := by decide +kernel
theorem dX11_touch_85 : decode cX11_touch 85 = .ok (.iload 4, 2) := by decide +kernel
theorem dX11_touch_87 : decode cX11_touch 87 = .ok (.aload_n 0, 1) := by decide +kernel
theorem dX11_touch_88 : decode cX11_touch 88 = .ok (.iload 5, 2) := by decide +kernel
theorem dX11_touch_90 : decode cX11_touch 90 = .ok (.invokevirtual 301, 3) := by decide +kernel
theorem dX11_touch_93 : decode cX11_touch 93 = .ok (.invokestatic 228, 3) := by decide +kernel
theorem dX11_touch_96 : decode cX11_touch 96 = .ok (.ifCond .eq 18, 3) := by decide +kernel
