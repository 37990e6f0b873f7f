theorem dX0_init_0 : decode cX0_init 0 = .ok (.aload_n 0, 1) := by decide +kernel
theorem dX0_init_1 : decode cX0_init 1 = .ok (.invokespecial 3, 3) := by decide +kernel
theorem dX0_init_4 : decode cX0_init 4 = .ok (.aload_n 0, 1) := by decide +kernel
theorem dX0_init_5 : decode cX0_init 5 = .ok (.iconst 0, 1) := by decide +kernel
theorem dX0_init_6 : decode cX0_init 6 = .ok (.putfield 9, 3) := by decide +kernel
theorem dX0_init_9 : decode cX0_init 9 = .ok (.aload_n 0, 1) := by decide +kernel
theorem dX0_init_10 : decode cX0_init 10 = .ok (.iconst 0, 1) := by decide +kernel
theorem dX0_init_11 : decode cX0_init 11 = .ok (.putfield 15, 3) := by decide +kernel
theorem dX0_init_14 : decode cX0_init 14 = .ok (.aload_n 0, 1) := by decide +kernel
theorem dX0_init_15 : decode cX0_init 15 = .ok (.iconst 0, 1) := by decide +kernel
theorem dX0_init_16 : decode cX0_init 16 = .ok (.putfield 18, 3) := by decide +kernel
theorem dX0_init_19 : decode cX0_init 19 = .ok (.return_, 1) := by decide +kernel
theorem dX0_part_0 : decode cX0_part 0 = .ok (.aload_n 0, 1) := by decide +kernel
theorem dX0_part_1 : decode cX0_part 1 = .ok (.aload_n 1, 1) := by decide +kernel
theorem dX0_part_2 : decode cX0_part 2 = .ok (.getfield 21, 3) := by decide +kernel
theorem dX0_part_5 : decode cX0_part 5 = .ok (.putfield 9, 3) := by decide +kernel
theorem dX0_part_8 : decode cX0_part 8 = .ok (.aload_n 0, 1) := by decide +kernel
theorem dX0_part_9 : decode cX0_part 9 = .ok (.aload_n 1, 1) := by decide +kernel
theorem dX0_part_10 : decode cX0_part 10 = .ok (.getfield 24, 3) := by decide +kernel
theorem dX0_part_13 : decode cX0_part 13 = .ok (.putfield 15, 3) := by decide +kernel
theorem dX0_part_16 : decode cX0_part 16 = .ok (.aload_n 0, 1) := by decide +kernel
theorem dX0_part_17 : decode cX0_part 17 = .ok (.aload_n 1, 1) := by decide +kernel
theorem dX0_part_18 : decode cX0_part 18 = .ok (.getfield 27, 3) := by decide +kernel
theorem dX0_part_21 : decode cX0_part 21 = .ok (.putfield 18, 3) := by decide +kernel
theorem dX0_part_24 : decode cX0_part 24 = .ok (.iconst 0, 1) := by decide +kernel
theorem dX0_part_25 : decode cX0_part 25 = .ok (.istore_n 3, 1) := by decide +kernel
theorem dX0_part_26 : decode cX0_part 26 = .ok (.iload_n 3, 1) := by decide +kernel
theorem dX0_part_27 : decode cX0_part 27 = .ok (.aload_n 1, 1) := by decide +kernel
theorem dX0_part_28 : decode cX0_part 28 = .ok (.getfield 30, 3) := by decide +kernel
theorem dX0_part_31 : decode cX0_part 31 = .ok (.if_icmp .ge 70, 3) := by decide +kernel
theorem dX0_part_34 : decode cX0_part 34 = .ok (.iload_n 2, 1) := by decide +kernel
theorem dX0_part_35 : decode cX0_part 35 = .ok (.iload_n 3, 1) := by decide +kernel
theorem dX0_part_36 : decode cX0_part 36 = .ok (.invokestatic 33, 3) := by decide +kernel
theorem dX0_part_39 : decode cX0_part 39 = .ok (.ifCond .ne 6, 3) := by decide +kernel
theorem dX0_part_42 : decode cX0_part 42 = .ok (.goto 53, 3) := by decide +kernel
theorem dX0_part_45 : decode cX0_part 45 = .ok (.aload_n 1, 1) := by decide +kernel
theorem dX0_part_46 : decode cX0_part 46 = .ok (.getfield 37, 3) := by decide +kernel
theorem dX0_part_49 : decode cX0_part 49 = .ok (.iload_n 3, 1) := by decide +kernel
theorem dX0_part_50 : decode cX0_part 50 = .ok (.iaload, 1) := by decide +kernel
theorem dX0_part_51 : decode cX0_part 51 = .ok (.ifCond .ne 25, 3) := by decide +kernel
theorem dX0_part_54 : decode cX0_part 54 = .ok (.aload_n 0, 1) := by decide +kernel
theorem dX0_part_55 : decode cX0_part 55 = .ok (.dup, 1) := by decide +kernel
theorem dX0_part_56 : decode cX0_part 56 = .ok (.getfield 15, 3) := by decide +kernel
theorem dX0_part_59 : decode cX0_part 59 = .ok (.iconst 1, 1) := by decide +kernel
theorem dX0_part_60 : decode cX0_part 60 = .ok (.aload_n 1, 1) := by decide +kernel
theorem dX0_part_61 : decode cX0_part 61 = .ok (.getfield 41, 3) := by decide +kernel
theorem dX0_part_64 : decode cX0_part 64 = .ok (.iload_n 3, 1) := by decide +kernel
theorem dX0_part_65 : decode cX0_part 65 = .ok (.iaload, 1) := by decide +kernel
theorem dX0_part_66 : decode cX0_part 66 = .ok (.ishl, 1) := by decide +kernel
theorem dX0_part_67 : decode cX0_part 67 = .ok (.iconst (-1), 1) := by decide +kernel
theorem dX0_part_68 : decode cX0_part 68 = .ok (.ixor, 1) := by decide +kernel
theorem dX0_part_69 : decode cX0_part 69 = .ok (.iand, 1) := by decide +kernel
theorem dX0_part_70 : decode cX0_part 70 = .ok (.putfield 15, 3) := by decide +kernel
theorem dX0_part_73 : decode cX0_part 73 = .ok (.goto 22, 3) := by decide +kernel
theorem dX0_part_76 : decode cX0_part 76 = .ok (.aload_n 0, 1) := by decide +kernel
theorem dX0_part_77 : decode cX0_part 77 = .ok (.dup, 1) := by decide +kernel
theorem dX0_part_78 : decode cX0_part 78 = .ok (.getfield 18, 3) := by decide +kernel
theorem dX0_part_81 : decode cX0_part 81 = .ok (.iconst 1, 1) := by decide +kernel
theorem dX0_part_82 : decode cX0_part 82 = .ok (.aload_n 1, 1) := by decide +kernel
theorem dX0_part_83 : decode cX0_part 83 = .ok (.getfield 41, 3) := by decide +kernel
theorem dX0_part_86 : decode cX0_part 86 = .ok (.iload_n 3, 1) := by decide +kernel
theorem dX0_part_87 : decode cX0_part 87 = .ok (.iaload, 1) := by decide +kernel
theorem dX0_part_88 : decode cX0_part 88 = .ok (.ishl, 1) := by decide +kernel
theorem dX0_part_89 : decode cX0_part 89 = .ok (.iconst (-1), 1) := by decide +kernel
theorem dX0_part_90 : decode cX0_part 90 = .ok (.ixor, 1) := by decide +kernel
theorem dX0_part_91 : decode cX0_part 91 = .ok (.iand, 1) := by decide +kernel
theorem dX0_part_92 : decode cX0_part 92 = .ok (.putfield 18, 3) := by decide +kernel
theorem dX0_part_95 : decode cX0_part 95 = .ok (.iinc 3 1, 3) := by decide +kernel
theorem dX0_part_98 : decode cX0_part 98 = .ok (.goto (-72), 3) := by decide +kernel
theorem dX0_part_101 : decode cX0_part 101 = .ok (.return_, 1) := by decide +kernel
theorem dX0_reach_0 : decode cX0_reach 0 = .ok (.iload_n 1, 1) := by decide +kernel
theorem dX0_reach_1 : decode cX0_reach 1 = .ok (.istore_n 2, 1) := by decide +kernel
theorem dX0_reach_2 : decode cX0_reach 2 = .ok (.iconst 0, 1) := by decide +kernel
theorem dX0_reach_3 : decode cX0_reach 3 = .ok (.istore_n 3, 1) := by decide +kernel
theorem dX0_reach_4 : decode cX0_reach 4 = .ok (.iload_n 3, 1) := by decide +kernel
theorem dX0_reach_5 : decode cX0_reach 5 = .ok (.bipush 20, 2) := by decide +kernel
theorem dX0_reach_7 : decode cX0_reach 7 = .ok (.if_icmp .ge 71, 3) := by decide +kernel
theorem dX0_reach_10 : decode cX0_reach 10 = .ok (.iload_n 2, 1) := by decide +kernel
theorem dX0_reach_11 : decode cX0_reach 11 = .ok (.istore 4, 2) := by decide +kernel
theorem dX0_reach_13 : decode cX0_reach 13 = .ok (.iload_n 2, 1) := by decide +kernel
theorem dX0_reach_14 : decode cX0_reach 14 = .ok (.iload 4, 2) := by decide +kernel
theorem dX0_reach_16 : decode cX0_reach 16 = .ok (.aload_n 0, 1) := by decide +kernel
theorem dX0_reach_17 : decode cX0_reach 17 = .ok (.getfield 15, 3) := by decide +kernel
theorem dX0_reach_20 : decode cX0_reach 20 = .ok (.iand, 1) := by decide +kernel
theorem dX0_reach_21 : decode cX0_reach 21 = .ok (.iconst 1, 1) := by decide +kernel
theorem dX0_reach_22 : decode cX0_reach 22 = .ok (.ishl, 1) := by decide +kernel
theorem dX0_reach_23 : decode cX0_reach 23 = .ok (.iload 4, 2) := by decide +kernel
theorem dX0_reach_25 : decode cX0_reach 25 = .ok (.iconst 1, 1) := by decide +kernel
theorem dX0_reach_26 : decode cX0_reach 26 = .ok (.ishr, 1) := by decide +kernel
theorem dX0_reach_27 : decode cX0_reach 27 = .ok (.aload_n 0, 1) := by decide +kernel
theorem dX0_reach_28 : decode cX0_reach 28 = .ok (.getfield 15, 3) := by decide +kernel
theorem dX0_reach_31 : decode cX0_reach 31 = .ok (.iand, 1) := by decide +kernel
theorem dX0_reach_32 : decode cX0_reach 32 = .ok (.ior, 1) := by decide +kernel
theorem dX0_reach_33 : decode cX0_reach 33 = .ok (.ior, 1) := by decide +kernel
theorem dX0_reach_34 : decode cX0_reach 34 = .ok (.istore_n 2, 1) := by decide +kernel
theorem dX0_reach_35 : decode cX0_reach 35 = .ok (.iload_n 2, 1) := by decide +kernel
theorem dX0_reach_36 : decode cX0_reach 36 = .ok (.iload 4, 2) := by decide +kernel
theorem dX0_reach_38 : decode cX0_reach 38 = .ok (.aload_n 0, 1) := by decide +kernel
theorem dX0_reach_39 : decode cX0_reach 39 = .ok (.getfield 18, 3) := by decide +kernel
theorem dX0_reach_42 : decode cX0_reach 42 = .ok (.iand, 1) := by decide +kernel
theorem dX0_reach_43 : decode cX0_reach 43 = .ok (.aload_n 0, 1) := by decide +kernel
theorem dX0_reach_44 : decode cX0_reach 44 = .ok (.getfield 9, 3) := by decide +kernel
theorem dX0_reach_47 : decode cX0_reach 47 = .ok (.ishl, 1) := by decide +kernel
theorem dX0_reach_48 : decode cX0_reach 48 = .ok (.iload 4, 2) := by decide +kernel
theorem dX0_reach_50 : decode cX0_reach 50 = .ok (.aload_n 0, 1) := by decide +kernel
theorem dX0_reach_51 : decode cX0_reach 51 = .ok (.getfield 9, 3) := by decide +kernel
theorem dX0_reach_54 : decode cX0_reach 54 = .ok (.ishr, 1) := by decide +kernel
theorem dX0_reach_55 : decode cX0_reach 55 = .ok (.aload_n 0, 1) := by decide +kernel
theorem dX0_reach_56 : decode cX0_reach 56 = .ok (.getfield 18, 3) := by decide +kernel
theorem dX0_reach_59 : decode cX0_reach 59 = .ok (.iand, 1) := by decide +kernel
theorem dX0_reach_60 : decode cX0_reach 60 = .ok (.ior, 1) := by decide +kernel
theorem dX0_reach_61 : decode cX0_reach 61 = .ok (.ior, 1) := by decide +kernel
theorem dX0_reach_62 : decode cX0_reach 62 = .ok (.istore_n 2, 1) := by decide +kernel
theorem dX0_reach_63 : decode cX0_reach 63 = .ok (.iload_n 2, 1) := by decide +kernel
theorem dX0_reach_64 : decode cX0_reach 64 = .ok (.iload 4, 2) := by decide +kernel
theorem dX0_reach_66 : decode cX0_reach 66 = .ok (.if_icmp .ne 6, 3) := by decide +kernel
theorem dX0_reach_69 : decode cX0_reach 69 = .ok (.goto 9, 3) := by decide +kernel
theorem dX0_reach_72 : decode cX0_reach 72 = .ok (.iinc 3 1, 3) := by decide +kernel
theorem dX0_reach_75 : decode cX0_reach 75 = .ok (.goto (-71), 3) := by decide +kernel
theorem dX0_reach_78 : decode cX0_reach 78 = .ok (.iload_n 2, 1) := by decide +kernel
theorem dX0_reach_79 : decode cX0_reach 79 = .ok (.ireturn, 1) := by decide +kernel
theorem dX0_parts_0 : decode cX0_parts 0 = .ok (.iload_n 1, 1) := by decide +kernel
theorem dX0_parts_1 : decode cX0_parts 1 = .ok (.istore_n 2, 1) := by decide +kernel
theorem dX0_parts_2 : decode cX0_parts 2 = .ok (.iconst 0, 1) := by decide +kernel
theorem dX0_parts_3 : decode cX0_parts 3 = .ok (.istore_n 3, 1) := by decide +kernel
theorem dX0_parts_4 : decode cX0_parts 4 = .ok (.iconst 0, 1) := by decide +kernel
theorem dX0_parts_5 : decode cX0_parts 5 = .ok (.istore 4, 2) := by decide +kernel
theorem dX0_parts_7 : decode cX0_parts 7 = .ok (.iload 4, 2) := by decide +kernel
theorem dX0_parts_9 : decode cX0_parts 9 = .ok (.bipush 20, 2) := by decide +kernel
theorem dX0_parts_11 : decode cX0_parts 11 = .ok (.if_icmp .ge 29, 3) := by decide +kernel
theorem dX0_parts_14 : decode cX0_parts 14 = .ok (.iload_n 2, 1) := by decide +kernel
theorem dX0_parts_15 : decode cX0_parts 15 = .ok (.ifCond .eq 25, 3) := by decide +kernel
theorem dX0_parts_18 : decode cX0_parts 18 = .ok (.iload_n 2, 1) := by decide +kernel
theorem dX0_parts_19 : decode cX0_parts 19 = .ok (.aload_n 0, 1) := by decide +kernel
theorem dX0_parts_20 : decode cX0_parts 20 = .ok (.iload_n 2, 1) := by decide +kernel
theorem dX0_parts_21 : decode cX0_parts 21 = .ok (.iload_n 2, 1) := by decide +kernel
theorem dX0_parts_22 : decode cX0_parts 22 = .ok (.ineg, 1) := by decide +kernel
theorem dX0_parts_23 : decode cX0_parts 23 = .ok (.iand, 1) := by decide +kernel
theorem dX0_parts_24 : decode cX0_parts 24 = .ok (.invokevirtual 44, 3) := by decide +kernel
theorem dX0_parts_27 : decode cX0_parts 27 = .ok (.iconst (-1), 1) := by decide +kernel
theorem dX0_parts_28 : decode cX0_parts 28 = .ok (.ixor, 1) := by decide +kernel
theorem dX0_parts_29 : decode cX0_parts 29 = .ok (.iand, 1) := by decide +kernel
theorem dX0_parts_30 : decode cX0_parts 30 = .ok (.istore_n 2, 1) := by decide +kernel
theorem dX0_parts_31 : decode cX0_parts 31 = .ok (.iinc 3 1, 3) := by decide +kernel
theorem dX0_parts_34 : decode cX0_parts 34 = .ok (.iinc 4 1, 3) := by decide +kernel
theorem dX0_parts_37 : decode cX0_parts 37 = .ok (.goto (-30), 3) := by decide +kernel
theorem dX0_parts_40 : decode cX0_parts 40 = .ok (.iload_n 3, 1) := by decide +kernel
theorem dX0_parts_41 : decode cX0_parts 41 = .ok (.ireturn, 1) := by decide +kernel
theorem dX1_init_0 : decode cX1_init 0 = .ok (.aload_n 0, 1) := by decide +kernel
theorem dX1_init_1 : decode cX1_init 1 = .ok (.invokespecial 3, 3) := by decide +kernel
theorem dX1_init_4 : decode cX1_init 4 = .ok (.aload_n 0, 1) := by decide +kernel
theorem dX1_init_5 : decode cX1_init 5 = .ok (.sipush 240, 3) := by decide +kernel
theorem dX1_init_8 : decode cX1_init 8 = .ok (.newarray .int, 2) := by decide +kernel
theorem dX1_init_10 : decode cX1_init 10 = .ok (.putfield 9, 3) := by decide +kernel
theorem dX1_init_13 : decode cX1_init 13 = .ok (.aload_n 0, 1) := by decide +kernel
theorem dX1_init_14 : decode cX1_init 14 = .ok (.iconst 0, 1) := by decide +kernel
theorem dX1_init_15 : decode cX1_init 15 = .ok (.putfield 15, 3) := by decide +kernel
theorem dX1_init_18 : decode cX1_init 18 = .ok (.return_, 1) := by decide +kernel
theorem dX1_read_0 : decode cX1_read 0 = .ok (.aload_n 0, 1) := by decide +kernel
theorem dX1_read_1 : decode cX1_read 1 = .ok (.aload_n 1, 1) := by decide +kernel
theorem dX1_read_2 : decode cX1_read 2 = .ok (.iload_n 2, 1) := by decide +kernel
theorem dX1_read_3 : decode cX1_read 3 = .ok (.invokevirtual 19, 3) := by decide +kernel
theorem dX1_read_6 : decode cX1_read 6 = .ok (.aload_n 0, 1) := by decide +kernel
theorem dX1_read_7 : decode cX1_read 7 = .ok (.iconst 0, 1) := by decide +kernel
theorem dX1_read_8 : decode cX1_read 8 = .ok (.putfield 15, 3) := by decide +kernel
theorem dX1_read_11 : decode cX1_read 11 = .ok (.iconst 0, 1) := by decide +kernel
theorem dX1_read_12 : decode cX1_read 12 = .ok (.istore_n 3, 1) := by decide +kernel
theorem dX1_read_13 : decode cX1_read 13 = .ok (.iload_n 3, 1) := by decide +kernel
theorem dX1_read_14 : decode cX1_read 14 = .ok (.sipush 240, 3) := by decide +kernel
theorem dX1_read_17 : decode cX1_read 17 = .ok (.if_icmp .ge 45, 3) := by decide +kernel
theorem dX1_read_20 : decode cX1_read 20 = .ok (.aload_n 0, 1) := by decide +kernel
theorem dX1_read_21 : decode cX1_read 21 = .ok (.invokevirtual 23, 3) := by decide +kernel
theorem dX1_read_24 : decode cX1_read 24 = .ok (.ifCond .ne 8, 3) := by decide +kernel
theorem dX1_read_27 : decode cX1_read 27 = .ok (.aload_n 0, 1) := by decide +kernel
theorem dX1_read_28 : decode cX1_read 28 = .ok (.getfield 27, 3) := by decide +kernel
theorem dX1_read_31 : decode cX1_read 31 = .ok (.ireturn, 1) := by decide +kernel
theorem dX1_read_32 : decode cX1_read 32 = .ok (.aload_n 0, 1) := by decide +kernel
theorem dX1_read_33 : decode cX1_read 33 = .ok (.invokevirtual 30, 3) := by decide +kernel
theorem dX1_read_36 : decode cX1_read 36 = .ok (.iconst (-1), 1) := by decide +kernel
theorem dX1_read_37 : decode cX1_read 37 = .ok (.if_icmp .ne 5, 3) := by decide +kernel
theorem dX1_read_40 : decode cX1_read 40 = .ok (.iconst (-1), 1) := by decide +kernel
theorem dX1_read_41 : decode cX1_read 41 = .ok (.ireturn, 1) := by decide +kernel
theorem dX1_read_42 : decode cX1_read 42 = .ok (.aload_n 0, 1) := by decide +kernel
theorem dX1_read_43 : decode cX1_read 43 = .ok (.bipush 59, 2) := by decide +kernel
theorem dX1_read_45 : decode cX1_read 45 = .ok (.invokevirtual 34, 3) := by decide +kernel
theorem dX1_read_48 : decode cX1_read 48 = .ok (.ifCond .ne 8, 3) := by decide +kernel
theorem dX1_read_51 : decode cX1_read 51 = .ok (.aload_n 0, 1) := by decide +kernel
theorem dX1_read_52 : decode cX1_read 52 = .ok (.getfield 27, 3) := by decide +kernel
theorem dX1_read_55 : decode cX1_read 55 = .ok (.ireturn, 1) := by decide +kernel
theorem dX1_read_56 : decode cX1_read 56 = .ok (.iinc 3 1, 3) := by decide +kernel
theorem dX1_read_59 : decode cX1_read 59 = .ok (.goto (-46), 3) := by decide +kernel
theorem dX1_read_62 : decode cX1_read 62 = .ok (.aload_n 0, 1) := by decide +kernel
theorem dX1_read_63 : decode cX1_read 63 = .ok (.getfield 27, 3) := by decide +kernel
theorem dX1_read_66 : decode cX1_read 66 = .ok (.ireturn, 1) := by decide +kernel
theorem dX1_take_0 : decode cX1_take 0 = .ok (.aload_n 0, 1) := by decide +kernel
theorem dX1_take_1 : decode cX1_take 1 = .ok (.invokevirtual 30, 3) := by decide +kernel
theorem dX1_take_4 : decode cX1_take 4 = .ok (.iload_n 1, 1) := by decide +kernel
theorem dX1_take_5 : decode cX1_take 5 = .ok (.if_icmp .eq 5, 3) := by decide +kernel
theorem dX1_take_8 : decode cX1_take 8 = .ok (.iconst 0, 1) := by decide +kernel
theorem dX1_take_9 : decode cX1_take 9 = .ok (.ireturn, 1) := by decide +kernel
theorem dX1_take_10 : decode cX1_take 10 = .ok (.aload_n 0, 1) := by decide +kernel
theorem dX1_take_11 : decode cX1_take 11 = .ok (.dup, 1) := by decide +kernel
theorem dX1_take_12 : decode cX1_take 12 = .ok (.getfield 27, 3) := by decide +kernel
theorem dX1_take_15 : decode cX1_take 15 = .ok (.iconst 1, 1) := by decide +kernel
theorem dX1_take_16 : decode cX1_take 16 = .ok (.iadd, 1) := by decide +kernel
theorem dX1_take_17 : decode cX1_take 17 = .ok (.putfield 27, 3) := by decide +kernel
theorem dX1_take_20 : decode cX1_take 20 = .ok (.iconst 1, 1) := by decide +kernel
theorem dX1_take_21 : decode cX1_take 21 = .ok (.ireturn, 1) := by decide +kernel
theorem dX1_write_0 : decode cX1_write 0 = .ok (.aload_n 0, 1) := by decide +kernel
theorem dX1_write_1 : decode cX1_write 1 = .ok (.getfield 15, 3) := by decide +kernel
theorem dX1_write_4 : decode cX1_write 4 = .ok (.sipush 240, 3) := by decide +kernel
theorem dX1_write_7 : decode cX1_write 7 = .ok (.if_icmp .ge 28, 3) := by decide +kernel
theorem dX1_write_10 : decode cX1_write 10 = .ok (.aload_n 0, 1) := by decide +kernel
theorem dX1_write_11 : decode cX1_write 11 = .ok (.getfield 9, 3) := by decide +kernel
theorem dX1_write_14 : decode cX1_write 14 = .ok (.aload_n 0, 1) := by decide +kernel
theorem dX1_write_15 : decode cX1_write 15 = .ok (.getfield 15, 3) := by decide +kernel
theorem dX1_write_18 : decode cX1_write 18 = .ok (.iload_n 1, 1) := by decide +kernel
theorem dX1_write_19 : decode cX1_write 19 = .ok (.bipush 16, 2) := by decide +kernel
theorem dX1_write_21 : decode cX1_write 21 = .ok (.ishl, 1) := by decide +kernel
theorem dX1_write_22 : decode cX1_write 22 = .ok (.iload_n 2, 1) := by decide +kernel
theorem dX1_write_23 : decode cX1_write 23 = .ok (.ior, 1) := by decide +kernel
theorem dX1_write_24 : decode cX1_write 24 = .ok (.iastore, 1) := by decide +kernel
theorem dX1_write_25 : decode cX1_write 25 = .ok (.aload_n 0, 1) := by decide +kernel
theorem dX1_write_26 : decode cX1_write 26 = .ok (.dup, 1) := by decide +kernel
theorem dX1_write_27 : decode cX1_write 27 = .ok (.getfield 15, 3) := by decide +kernel
theorem dX1_write_30 : decode cX1_write 30 = .ok (.iconst 1, 1) := by decide +kernel
theorem dX1_write_31 : decode cX1_write 31 = .ok (.iadd, 1) := by decide +kernel
theorem dX1_write_32 : decode cX1_write 32 = .ok (.putfield 15, 3) := by decide +kernel
theorem dX1_write_35 : decode cX1_write 35 = .ok (.return_, 1) := by decide +kernel
theorem dX1_readClause_0 : decode cX1_readClause 0 = .ok (.aload_n 0, 1) := by decide +kernel
theorem dX1_readClause_1 : decode cX1_readClause 1 = .ok (.bipush 121, 2) := by decide +kernel
theorem dX1_readClause_3 : decode cX1_readClause 3 = .ok (.invokevirtual 34, 3) := by decide +kernel
theorem dX1_readClause_6 : decode cX1_readClause 6 = .ok (.ifCond .eq 12, 3) := by decide +kernel
theorem dX1_readClause_9 : decode cX1_readClause 9 = .ok (.aload_n 0, 1) := by decide +kernel
theorem dX1_readClause_10 : decode cX1_readClause 10 = .ok (.bipush 58, 2) := by decide +kernel
theorem dX1_readClause_12 : decode cX1_readClause 12 = .ok (.invokevirtual 34, 3) := by decide +kernel
theorem dX1_readClause_15 : decode cX1_readClause 15 = .ok (.ifCond .ne 5, 3) := by decide +kernel
theorem dX1_readClause_18 : decode cX1_readClause 18 = .ok (.iconst 0, 1) := by decide +kernel
theorem dX1_readClause_19 : decode cX1_readClause 19 = .ok (.ireturn, 1) := by decide +kernel
theorem dX1_readClause_20 : decode cX1_readClause 20 = .ok (.aload_n 0, 1) := by decide +kernel
theorem dX1_readClause_21 : decode cX1_readClause 21 = .ok (.invokevirtual 30, 3) := by decide +kernel
theorem dX1_readClause_24 : decode cX1_readClause 24 = .ok (.istore_n 1, 1) := by decide +kernel
theorem dX1_readClause_25 : decode cX1_readClause 25 = .ok (.iconst 0, 1) := by decide +kernel
theorem dX1_readClause_26 : decode cX1_readClause 26 = .ok (.istore_n 2, 1) := by decide +kernel
theorem dX1_readClause_27 : decode cX1_readClause 27 = .ok (.iload_n 1, 1) := by decide +kernel
theorem dX1_readClause_28 : decode cX1_readClause 28 = .ok (.bipush 33, 2) := by decide +kernel
theorem dX1_readClause_30 : decode cX1_readClause 30 = .ok (.if_icmp .eq 39, 3) := by decide +kernel
theorem dX1_readClause_33 : decode cX1_readClause 33 = .ok (.iload_n 1, 1) := by decide +kernel
theorem dX1_readClause_34 : decode cX1_readClause 34 = .ok (.bipush 40, 2) := by decide +kernel
theorem dX1_readClause_36 : decode cX1_readClause 36 = .ok (.if_icmp .eq 33, 3) := by decide +kernel
theorem dX1_readClause_39 : decode cX1_readClause 39 = .ok (.aload_n 0, 1) := by decide +kernel
theorem dX1_readClause_40 : decode cX1_readClause 40 = .ok (.iconst 0, 1) := by decide +kernel
theorem dX1_readClause_41 : decode cX1_readClause 41 = .ok (.invokevirtual 38, 3) := by decide +kernel
theorem dX1_readClause_44 : decode cX1_readClause 44 = .ok (.ifCond .ne 5, 3) := by decide +kernel
theorem dX1_readClause_47 : decode cX1_readClause 47 = .ok (.iconst 0, 1) := by decide +kernel
theorem dX1_readClause_48 : decode cX1_readClause 48 = .ok (.ireturn, 1) := by decide +kernel
theorem dX1_readClause_49 : decode cX1_readClause 49 = .ok (.aload_n 0, 1) := by decide +kernel
theorem dX1_readClause_50 : decode cX1_readClause 50 = .ok (.invokevirtual 30, 3) := by decide +kernel
theorem dX1_readClause_53 : decode cX1_readClause 53 = .ok (.invokestatic 41, 3) := by decide +kernel
theorem dX1_readClause_56 : decode cX1_readClause 56 = .ok (.ifCond .ne 11, 3) := by decide +kernel
theorem dX1_readClause_59 : decode cX1_readClause 59 = .ok (.aload_n 0, 1) := by decide +kernel
theorem dX1_readClause_60 : decode cX1_readClause 60 = .ok (.iconst 4, 1) := by decide +kernel
theorem dX1_readClause_61 : decode cX1_readClause 61 = .ok (.iconst 0, 1) := by decide +kernel
theorem dX1_readClause_62 : decode cX1_readClause 62 = .ok (.invokevirtual 44, 3) := by decide +kernel
theorem dX1_readClause_65 : decode cX1_readClause 65 = .ok (.iconst 1, 1) := by decide +kernel
theorem dX1_readClause_66 : decode cX1_readClause 66 = .ok (.ireturn, 1) := by decide +kernel
theorem dX1_readClause_67 : decode cX1_readClause 67 = .ok (.iconst 1, 1) := by decide +kernel
theorem dX1_readClause_68 : decode cX1_readClause 68 = .ok (.istore_n 2, 1) := by decide +kernel
theorem dX1_readClause_69 : decode cX1_readClause 69 = .ok (.aload_n 0, 1) := by decide +kernel
theorem dX1_readClause_70 : decode cX1_readClause 70 = .ok (.iconst 0, 1) := by decide +kernel
theorem dX1_readClause_71 : decode cX1_readClause 71 = .ok (.iload_n 2, 1) := by decide +kernel
theorem dX1_readClause_72 : decode cX1_readClause 72 = .ok (.invokevirtual 48, 3) := by decide +kernel
theorem dX1_readClause_75 : decode cX1_readClause 75 = .ok (.ifCond .eq 14, 3) := by decide +kernel
theorem dX1_readClause_78 : decode cX1_readClause 78 = .ok (.aload_n 0, 1) := by decide +kernel
theorem dX1_readClause_79 : decode cX1_readClause 79 = .ok (.invokevirtual 52, 3) := by decide +kernel
theorem dX1_readClause_82 : decode cX1_readClause 82 = .ok (.ifCond .eq 7, 3) := by decide +kernel
theorem dX1_readClause_85 : decode cX1_readClause 85 = .ok (.iconst 1, 1) := by decide +kernel
theorem dX1_readClause_86 : decode cX1_readClause 86 = .ok (.goto 4, 3) := by decide +kernel
theorem dX1_readClause_89 : decode cX1_readClause 89 = .ok (.iconst 0, 1) := by decide +kernel
theorem dX1_readClause_90 : decode cX1_readClause 90 = .ok (.ireturn, 1) := by decide +kernel
theorem dX1_readAnswer_0 : decode cX1_readAnswer 0 = .ok (.aload_n 0, 1) := by decide +kernel
theorem dX1_readAnswer_1 : decode cX1_readAnswer 1 = .ok (.bipush 63, 2) := by decide +kernel
theorem dX1_readAnswer_3 : decode cX1_readAnswer 3 = .ok (.invokevirtual 34, 3) := by decide +kernel
theorem dX1_readAnswer_6 : decode cX1_readAnswer 6 = .ok (.ifCond .ne 5, 3) := by decide +kernel
theorem dX1_readAnswer_9 : decode cX1_readAnswer 9 = .ok (.iconst 0, 1) := by decide +kernel
theorem dX1_readAnswer_10 : decode cX1_readAnswer 10 = .ok (.ireturn, 1) := by decide +kernel
theorem dX1_readAnswer_11 : decode cX1_readAnswer 11 = .ok (.aload_n 0, 1) := by decide +kernel
theorem dX1_readAnswer_12 : decode cX1_readAnswer 12 = .ok (.getfield 15, 3) := by decide +kernel
theorem dX1_readAnswer_15 : decode cX1_readAnswer 15 = .ok (.istore_n 1, 1) := by decide +kernel
theorem dX1_readAnswer_16 : decode cX1_readAnswer 16 = .ok (.aload_n 0, 1) := by decide +kernel
theorem dX1_readAnswer_17 : decode cX1_readAnswer 17 = .ok (.iconst 3, 1) := by decide +kernel
theorem dX1_readAnswer_18 : decode cX1_readAnswer 18 = .ok (.iconst 0, 1) := by decide +kernel
theorem dX1_readAnswer_19 : decode cX1_readAnswer 19 = .ok (.invokevirtual 44, 3) := by decide +kernel
theorem dX1_readAnswer_22 : decode cX1_readAnswer 22 = .ok (.aload_n 0, 1) := by decide +kernel
theorem dX1_readAnswer_23 : decode cX1_readAnswer 23 = .ok (.iconst 0, 1) := by decide +kernel
theorem dX1_readAnswer_24 : decode cX1_readAnswer 24 = .ok (.invokevirtual 38, 3) := by decide +kernel
theorem dX1_readAnswer_27 : decode cX1_readAnswer 27 = .ok (.ifCond .ne 5, 3) := by decide +kernel
theorem dX1_readAnswer_30 : decode cX1_readAnswer 30 = .ok (.iconst 0, 1) := by decide +kernel
theorem dX1_readAnswer_31 : decode cX1_readAnswer 31 = .ok (.ireturn, 1) := by decide +kernel
theorem dX1_readAnswer_32 : decode cX1_readAnswer 32 = .ok (.aload_n 0, 1) := by decide +kernel
theorem dX1_readAnswer_33 : decode cX1_readAnswer 33 = .ok (.iconst 4, 1) := by decide +kernel
theorem dX1_readAnswer_34 : decode cX1_readAnswer 34 = .ok (.iconst 0, 1) := by decide +kernel
theorem dX1_readAnswer_35 : decode cX1_readAnswer 35 = .ok (.invokevirtual 44, 3) := by decide +kernel
theorem dX1_readAnswer_38 : decode cX1_readAnswer 38 = .ok (.iload_n 1, 1) := by decide +kernel
theorem dX1_readAnswer_39 : decode cX1_readAnswer 39 = .ok (.sipush 240, 3) := by decide +kernel
theorem dX1_readAnswer_42 : decode cX1_readAnswer 42 = .ok (.if_icmp .ge 16, 3) := by decide +kernel
theorem dX1_readAnswer_45 : decode cX1_readAnswer 45 = .ok (.aload_n 0, 1) := by decide +kernel
theorem dX1_readAnswer_46 : decode cX1_readAnswer 46 = .ok (.getfield 9, 3) := by decide +kernel
theorem dX1_readAnswer_49 : decode cX1_readAnswer 49 = .ok (.iload_n 1, 1) := by decide +kernel
theorem dX1_readAnswer_50 : decode cX1_readAnswer 50 = .ok (.ldc 55, 2) := by decide +kernel
theorem dX1_readAnswer_52 : decode cX1_readAnswer 52 = .ok (.aload_n 0, 1) := by decide +kernel
theorem dX1_readAnswer_53 : decode cX1_readAnswer 53 = .ok (.getfield 15, 3) := by decide +kernel
theorem dX1_readAnswer_56 : decode cX1_readAnswer 56 = .ok (.ior, 1) := by decide +kernel
theorem dX1_readAnswer_57 : decode cX1_readAnswer 57 = .ok (.iastore, 1) := by decide +kernel
theorem dX1_readAnswer_58 : decode cX1_readAnswer 58 = .ok (.iconst 1, 1) := by decide +kernel
theorem dX1_readAnswer_59 : decode cX1_readAnswer 59 = .ok (.ireturn, 1) := by decide +kernel
theorem dX1_readCondition_0 : decode cX1_readCondition 0 = .ok (.aload_n 0, 1) := by decide +kernel
theorem dX1_readCondition_1 : decode cX1_readCondition 1 = .ok (.iload_n 1, 1) := by decide +kernel
theorem dX1_readCondition_2 : decode cX1_readCondition 2 = .ok (.iload_n 2, 1) := by decide +kernel
theorem dX1_readCondition_3 : decode cX1_readCondition 3 = .ok (.invokevirtual 56, 3) := by decide +kernel
theorem dX1_readCondition_6 : decode cX1_readCondition 6 = .ok (.ifCond .ne 5, 3) := by decide +kernel
theorem dX1_readCondition_9 : decode cX1_readCondition 9 = .ok (.iconst 0, 1) := by decide +kernel
theorem dX1_readCondition_10 : decode cX1_readCondition 10 = .ok (.ireturn, 1) := by decide +kernel
theorem dX1_readCondition_11 : decode cX1_readCondition 11 = .ok (.iconst 0, 1) := by decide +kernel
theorem dX1_readCondition_12 : decode cX1_readCondition 12 = .ok (.istore_n 3, 1) := by decide +kernel
theorem dX1_readCondition_13 : decode cX1_readCondition 13 = .ok (.iload_n 3, 1) := by decide +kernel
theorem dX1_readCondition_14 : decode cX1_readCondition 14 = .ok (.sipush 240, 3) := by decide +kernel
theorem dX1_readCondition_17 : decode cX1_readCondition 17 = .ok (.if_icmp .ge 36, 3) := by decide +kernel
theorem dX1_readCondition_20 : decode cX1_readCondition 20 = .ok (.aload_n 0, 1) := by decide +kernel
theorem dX1_readCondition_21 : decode cX1_readCondition 21 = .ok (.bipush 124, 2) := by decide +kernel
theorem dX1_readCondition_23 : decode cX1_readCondition 23 = .ok (.invokevirtual 34, 3) := by decide +kernel
theorem dX1_readCondition_26 : decode cX1_readCondition 26 = .ok (.ifCond .eq 27, 3) := by decide +kernel
theorem dX1_readCondition_29 : decode cX1_readCondition 29 = .ok (.aload_n 0, 1) := by decide +kernel
theorem dX1_readCondition_30 : decode cX1_readCondition 30 = .ok (.iload_n 1, 1) := by decide +kernel
theorem dX1_readCondition_31 : decode cX1_readCondition 31 = .ok (.iconst 0, 1) := by decide +kernel
theorem dX1_readCondition_32 : decode cX1_readCondition 32 = .ok (.invokevirtual 56, 3) := by decide +kernel
theorem dX1_readCondition_35 : decode cX1_readCondition 35 = .ok (.ifCond .ne 5, 3) := by decide +kernel
theorem dX1_readCondition_38 : decode cX1_readCondition 38 = .ok (.iconst 0, 1) := by decide +kernel
theorem dX1_readCondition_39 : decode cX1_readCondition 39 = .ok (.ireturn, 1) := by decide +kernel
theorem dX1_readCondition_40 : decode cX1_readCondition 40 = .ok (.aload_n 0, 1) := by decide +kernel
theorem dX1_readCondition_41 : decode cX1_readCondition 41 = .ok (.bipush 124, 2) := by decide +kernel
theorem dX1_readCondition_43 : decode cX1_readCondition 43 = .ok (.iconst 0, 1) := by decide +kernel
theorem dX1_readCondition_44 : decode cX1_readCondition 44 = .ok (.invokevirtual 44, 3) := by decide +kernel
theorem dX1_readCondition_47 : decode cX1_readCondition 47 = .ok (.iinc 3 1, 3) := by decide +kernel
theorem dX1_readCondition_50 : decode cX1_readCondition 50 = .ok (.goto (-37), 3) := by decide +kernel
theorem dX1_readCondition_53 : decode cX1_readCondition 53 = .ok (.iconst 1, 1) := by decide +kernel
theorem dX1_readCondition_54 : decode cX1_readCondition 54 = .ok (.ireturn, 1) := by decide +kernel
theorem dX1_readTruth_0 : decode cX1_readTruth 0 = .ok (.aload_n 0, 1) := by decide +kernel
theorem dX1_readTruth_1 : decode cX1_readTruth 1 = .ok (.iload_n 1, 1) := by decide +kernel
theorem dX1_readTruth_2 : decode cX1_readTruth 2 = .ok (.iload_n 2, 1) := by decide +kernel
theorem dX1_readTruth_3 : decode cX1_readTruth 3 = .ok (.invokevirtual 59, 3) := by decide +kernel
theorem dX1_readTruth_6 : decode cX1_readTruth 6 = .ok (.ifCond .ne 5, 3) := by decide +kernel
theorem dX1_readTruth_9 : decode cX1_readTruth 9 = .ok (.iconst 0, 1) := by decide +kernel
theorem dX1_readTruth_10 : decode cX1_readTruth 10 = .ok (.ireturn, 1) := by decide +kernel
theorem dX1_readTruth_11 : decode cX1_readTruth 11 = .ok (.iconst 0, 1) := by decide +kernel
theorem dX1_readTruth_12 : decode cX1_readTruth 12 = .ok (.istore_n 3, 1) := by decide +kernel
theorem dX1_readTruth_13 : decode cX1_readTruth 13 = .ok (.iload_n 3, 1) := by decide +kernel
theorem dX1_readTruth_14 : decode cX1_readTruth 14 = .ok (.sipush 240, 3) := by decide +kernel
theorem dX1_readTruth_17 : decode cX1_readTruth 17 = .ok (.if_icmp .ge 36, 3) := by decide +kernel
theorem dX1_readTruth_20 : decode cX1_readTruth 20 = .ok (.aload_n 0, 1) := by decide +kernel
theorem dX1_readTruth_21 : decode cX1_readTruth 21 = .ok (.bipush 38, 2) := by decide +kernel
theorem dX1_readTruth_23 : decode cX1_readTruth 23 = .ok (.invokevirtual 34, 3) := by decide +kernel
theorem dX1_readTruth_26 : decode cX1_readTruth 26 = .ok (.ifCond .eq 27, 3) := by decide +kernel
theorem dX1_readTruth_29 : decode cX1_readTruth 29 = .ok (.aload_n 0, 1) := by decide +kernel
theorem dX1_readTruth_30 : decode cX1_readTruth 30 = .ok (.iload_n 1, 1) := by decide +kernel
theorem dX1_readTruth_31 : decode cX1_readTruth 31 = .ok (.iconst 0, 1) := by decide +kernel
theorem dX1_readTruth_32 : decode cX1_readTruth 32 = .ok (.invokevirtual 59, 3) := by decide +kernel
theorem dX1_readTruth_35 : decode cX1_readTruth 35 = .ok (.ifCond .ne 5, 3) := by decide +kernel
theorem dX1_readTruth_38 : decode cX1_readTruth 38 = .ok (.iconst 0, 1) := by decide +kernel
theorem dX1_readTruth_39 : decode cX1_readTruth 39 = .ok (.ireturn, 1) := by decide +kernel
theorem dX1_readTruth_40 : decode cX1_readTruth 40 = .ok (.aload_n 0, 1) := by decide +kernel
theorem dX1_readTruth_41 : decode cX1_readTruth 41 = .ok (.bipush 38, 2) := by decide +kernel
theorem dX1_readTruth_43 : decode cX1_readTruth 43 = .ok (.iconst 0, 1) := by decide +kernel
theorem dX1_readTruth_44 : decode cX1_readTruth 44 = .ok (.invokevirtual 44, 3) := by decide +kernel
theorem dX1_readTruth_47 : decode cX1_readTruth 47 = .ok (.iinc 3 1, 3) := by decide +kernel
theorem dX1_readTruth_50 : decode cX1_readTruth 50 = .ok (.goto (-37), 3) := by decide +kernel
theorem dX1_readTruth_53 : decode cX1_readTruth 53 = .ok (.iconst 1, 1) := by decide +kernel
theorem dX1_readTruth_54 : decode cX1_readTruth 54 = .ok (.ireturn, 1) := by decide +kernel
theorem dX1_readUnit_0 : decode cX1_readUnit 0 = .ok (.iload_n 2, 1) := by decide +kernel
theorem dX1_readUnit_1 : decode cX1_readUnit 1 = .ok (.ifCond .eq 9, 3) := by decide +kernel
theorem dX1_readUnit_4 : decode cX1_readUnit 4 = .ok (.aload_n 0, 1) := by decide +kernel
theorem dX1_readUnit_5 : decode cX1_readUnit 5 = .ok (.iload_n 1, 1) := by decide +kernel
theorem dX1_readUnit_6 : decode cX1_readUnit 6 = .ok (.invokevirtual 62, 3) := by decide +kernel
theorem dX1_readUnit_9 : decode cX1_readUnit 9 = .ok (.ireturn, 1) := by decide +kernel
theorem dX1_readUnit_10 : decode cX1_readUnit 10 = .ok (.aload_n 0, 1) := by decide +kernel
theorem dX1_readUnit_11 : decode cX1_readUnit 11 = .ok (.invokevirtual 30, 3) := by decide +kernel
theorem dX1_readUnit_14 : decode cX1_readUnit 14 = .ok (.istore_n 3, 1) := by decide +kernel
theorem dX1_readUnit_15 : decode cX1_readUnit 15 = .ok (.iload_n 3, 1) := by decide +kernel
theorem dX1_readUnit_16 : decode cX1_readUnit 16 = .ok (.bipush 33, 2) := by decide +kernel
theorem dX1_readUnit_18 : decode cX1_readUnit 18 = .ok (.if_icmp .eq 31, 3) := by decide +kernel
theorem dX1_readUnit_21 : decode cX1_readUnit 21 = .ok (.iload_n 3, 1) := by decide +kernel
theorem dX1_readUnit_22 : decode cX1_readUnit 22 = .ok (.bipush 40, 2) := by decide +kernel
theorem dX1_readUnit_24 : decode cX1_readUnit 24 = .ok (.if_icmp .eq 25, 3) := by decide +kernel
theorem dX1_readUnit_27 : decode cX1_readUnit 27 = .ok (.aload_n 0, 1) := by decide +kernel
theorem dX1_readUnit_28 : decode cX1_readUnit 28 = .ok (.iload_n 1, 1) := by decide +kernel
theorem dX1_readUnit_29 : decode cX1_readUnit 29 = .ok (.invokevirtual 38, 3) := by decide +kernel
theorem dX1_readUnit_32 : decode cX1_readUnit 32 = .ok (.ifCond .eq 15, 3) := by decide +kernel
theorem dX1_readUnit_35 : decode cX1_readUnit 35 = .ok (.aload_n 0, 1) := by decide +kernel
theorem dX1_readUnit_36 : decode cX1_readUnit 36 = .ok (.iload_n 1, 1) := by decide +kernel
theorem dX1_readUnit_37 : decode cX1_readUnit 37 = .ok (.invokevirtual 62, 3) := by decide +kernel
theorem dX1_readUnit_40 : decode cX1_readUnit 40 = .ok (.ifCond .eq 7, 3) := by decide +kernel
theorem dX1_readUnit_43 : decode cX1_readUnit 43 = .ok (.iconst 1, 1) := by decide +kernel
theorem dX1_readUnit_44 : decode cX1_readUnit 44 = .ok (.goto 4, 3) := by decide +kernel
theorem dX1_readUnit_47 : decode cX1_readUnit 47 = .ok (.iconst 0, 1) := by decide +kernel
theorem dX1_readUnit_48 : decode cX1_readUnit 48 = .ok (.ireturn, 1) := by decide +kernel
theorem dX1_readUnit_49 : decode cX1_readUnit 49 = .ok (.iload_n 1, 1) := by decide +kernel
theorem dX1_readUnit_50 : decode cX1_readUnit 50 = .ok (.bipush 6, 2) := by decide +kernel
theorem dX1_readUnit_52 : decode cX1_readUnit 52 = .ok (.if_icmp .lt 5, 3) := by decide +kernel
theorem dX1_readUnit_55 : decode cX1_readUnit 55 = .ok (.iconst 0, 1) := by decide +kernel
theorem dX1_readUnit_56 : decode cX1_readUnit 56 = .ok (.ireturn, 1) := by decide +kernel
theorem dX1_readUnit_57 : decode cX1_readUnit 57 = .ok (.aload_n 0, 1) := by decide +kernel
theorem dX1_readUnit_58 : decode cX1_readUnit 58 = .ok (.dup, 1) := by decide +kernel
theorem dX1_readUnit_59 : decode cX1_readUnit 59 = .ok (.getfield 27, 3) := by decide +kernel
theorem dX1_readUnit_62 : decode cX1_readUnit 62 = .ok (.iconst 1, 1) := by decide +kernel
theorem dX1_readUnit_63 : decode cX1_readUnit 63 = .ok (.iadd, 1) := by decide +kernel
theorem dX1_readUnit_64 : decode cX1_readUnit 64 = .ok (.putfield 27, 3) := by decide +kernel
theorem dX1_readUnit_67 : decode cX1_readUnit 67 = .ok (.iload_n 3, 1) := by decide +kernel
theorem dX1_readUnit_68 : decode cX1_readUnit 68 = .ok (.bipush 40, 2) := by decide +kernel
theorem dX1_readUnit_70 : decode cX1_readUnit 70 = .ok (.if_icmp .ne 29, 3) := by decide +kernel
theorem dX1_readUnit_73 : decode cX1_readUnit 73 = .ok (.aload_n 0, 1) := by decide +kernel
theorem dX1_readUnit_74 : decode cX1_readUnit 74 = .ok (.iload_n 1, 1) := by decide +kernel
theorem dX1_readUnit_75 : decode cX1_readUnit 75 = .ok (.iconst 1, 1) := by decide +kernel
theorem dX1_readUnit_76 : decode cX1_readUnit 76 = .ok (.iadd, 1) := by decide +kernel
theorem dX1_readUnit_77 : decode cX1_readUnit 77 = .ok (.iconst 0, 1) := by decide +kernel
theorem dX1_readUnit_78 : decode cX1_readUnit 78 = .ok (.invokevirtual 48, 3) := by decide +kernel
theorem dX1_readUnit_81 : decode cX1_readUnit 81 = .ok (.ifCond .eq 16, 3) := by decide +kernel
theorem dX1_readUnit_84 : decode cX1_readUnit 84 = .ok (.aload_n 0, 1) := by decide +kernel
theorem dX1_readUnit_85 : decode cX1_readUnit 85 = .ok (.bipush 41, 2) := by decide +kernel
theorem dX1_readUnit_87 : decode cX1_readUnit 87 = .ok (.invokevirtual 34, 3) := by decide +kernel
theorem dX1_readUnit_90 : decode cX1_readUnit 90 = .ok (.ifCond .eq 7, 3) := by decide +kernel
theorem dX1_readUnit_93 : decode cX1_readUnit 93 = .ok (.iconst 1, 1) := by decide +kernel
theorem dX1_readUnit_94 : decode cX1_readUnit 94 = .ok (.goto 4, 3) := by decide +kernel
theorem dX1_readUnit_97 : decode cX1_readUnit 97 = .ok (.iconst 0, 1) := by decide +kernel
theorem dX1_readUnit_98 : decode cX1_readUnit 98 = .ok (.ireturn, 1) := by decide +kernel
theorem dX1_readUnit_99 : decode cX1_readUnit 99 = .ok (.aload_n 0, 1) := by decide +kernel
theorem dX1_readUnit_100 : decode cX1_readUnit 100 = .ok (.iload_n 1, 1) := by decide +kernel
theorem dX1_readUnit_101 : decode cX1_readUnit 101 = .ok (.iconst 1, 1) := by decide +kernel
theorem dX1_readUnit_102 : decode cX1_readUnit 102 = .ok (.iadd, 1) := by decide +kernel
theorem dX1_readUnit_103 : decode cX1_readUnit 103 = .ok (.iconst 0, 1) := by decide +kernel
theorem dX1_readUnit_104 : decode cX1_readUnit 104 = .ok (.invokevirtual 59, 3) := by decide +kernel
theorem dX1_readUnit_107 : decode cX1_readUnit 107 = .ok (.ifCond .ne 5, 3) := by decide +kernel
theorem dX1_readUnit_110 : decode cX1_readUnit 110 = .ok (.iconst 0, 1) := by decide +kernel
theorem dX1_readUnit_111 : decode cX1_readUnit 111 = .ok (.ireturn, 1) := by decide +kernel
theorem dX1_readUnit_112 : decode cX1_readUnit 112 = .ok (.aload_n 0, 1) := by decide +kernel
theorem dX1_readUnit_113 : decode cX1_readUnit 113 = .ok (.bipush 33, 2) := by decide +kernel
theorem dX1_readUnit_115 : decode cX1_readUnit 115 = .ok (.iconst 0, 1) := by decide +kernel
theorem dX1_readUnit_116 : decode cX1_readUnit 116 = .ok (.invokevirtual 44, 3) := by decide +kernel
theorem dX1_readUnit_119 : decode cX1_readUnit 119 = .ok (.iconst 1, 1) := by decide +kernel
theorem dX1_readUnit_120 : decode cX1_readUnit 120 = .ok (.ireturn, 1) := by decide +kernel
theorem dX1_readComparison_0 : decode cX1_readComparison 0 = .ok (.aload_n 0, 1) := by decide +kernel
theorem dX1_readComparison_1 : decode cX1_readComparison 1 = .ok (.invokevirtual 30, 3) := by decide +kernel
theorem dX1_readComparison_4 : decode cX1_readComparison 4 = .ok (.istore_n 2, 1) := by decide +kernel
theorem dX1_readComparison_5 : decode cX1_readComparison 5 = .ok (.iload_n 2, 1) := by decide +kernel
theorem dX1_readComparison_6 : decode cX1_readComparison 6 = .ok (.invokestatic 41, 3) := by decide +kernel
theorem dX1_readComparison_9 : decode cX1_readComparison 9 = .ok (.ifCond .ne 5, 3) := by decide +kernel
theorem dX1_readComparison_12 : decode cX1_readComparison 12 = .ok (.iconst 0, 1) := by decide +kernel
theorem dX1_readComparison_13 : decode cX1_readComparison 13 = .ok (.ireturn, 1) := by decide +kernel
theorem dX1_readComparison_14 : decode cX1_readComparison 14 = .ok (.aload_n 0, 1) := by decide +kernel
theorem dX1_readComparison_15 : decode cX1_readComparison 15 = .ok (.dup, 1) := by decide +kernel
theorem dX1_readComparison_16 : decode cX1_readComparison 16 = .ok (.getfield 27, 3) := by decide +kernel
theorem dX1_readComparison_19 : decode cX1_readComparison 19 = .ok (.iconst 1, 1) := by decide +kernel
theorem dX1_readComparison_20 : decode cX1_readComparison 20 = .ok (.iadd, 1) := by decide +kernel
theorem dX1_readComparison_21 : decode cX1_readComparison 21 = .ok (.putfield 27, 3) := by decide +kernel
theorem dX1_readComparison_24 : decode cX1_readComparison 24 = .ok (.aload_n 0, 1) := by decide +kernel
theorem dX1_readComparison_25 : decode cX1_readComparison 25 = .ok (.iload_n 1, 1) := by decide +kernel
theorem dX1_readComparison_26 : decode cX1_readComparison 26 = .ok (.invokevirtual 38, 3) := by decide +kernel
theorem dX1_readComparison_29 : decode cX1_readComparison 29 = .ok (.ifCond .ne 5, 3) := by decide +kernel
theorem dX1_readComparison_32 : decode cX1_readComparison 32 = .ok (.iconst 0, 1) := by decide +kernel
theorem dX1_readComparison_33 : decode cX1_readComparison 33 = .ok (.ireturn, 1) := by decide +kernel
theorem dX1_readComparison_34 : decode cX1_readComparison 34 = .ok (.aload_n 0, 1) := by decide +kernel
theorem dX1_readComparison_35 : decode cX1_readComparison 35 = .ok (.iload_n 2, 1) := by decide +kernel
theorem dX1_readComparison_36 : decode cX1_readComparison 36 = .ok (.iconst 0, 1) := by decide +kernel
theorem dX1_readComparison_37 : decode cX1_readComparison 37 = .ok (.invokevirtual 44, 3) := by decide +kernel
theorem dX1_readComparison_40 : decode cX1_readComparison 40 = .ok (.iconst 1, 1) := by decide +kernel
theorem dX1_readComparison_41 : decode cX1_readComparison 41 = .ok (.ireturn, 1) := by decide +kernel
theorem dX1_isComparison_0 : decode cX1_isComparison 0 = .ok (.iload_n 0, 1) := by decide +kernel
theorem dX1_isComparison_1 : decode cX1_isComparison 1 = .ok (.bipush 61, 2) := by decide +kernel
theorem dX1_isComparison_3 : decode cX1_isComparison 3 = .ok (.if_icmp .eq 15, 3) := by decide +kernel
theorem dX1_isComparison_6 : decode cX1_isComparison 6 = .ok (.iload_n 0, 1) := by decide +kernel
theorem dX1_isComparison_7 : decode cX1_isComparison 7 = .ok (.bipush 60, 2) := by decide +kernel
theorem dX1_isComparison_9 : decode cX1_isComparison 9 = .ok (.if_icmp .eq 9, 3) := by decide +kernel
theorem dX1_isComparison_12 : decode cX1_isComparison 12 = .ok (.iload_n 0, 1) := by decide +kernel
theorem dX1_isComparison_13 : decode cX1_isComparison 13 = .ok (.bipush 62, 2) := by decide +kernel
theorem dX1_isComparison_15 : decode cX1_isComparison 15 = .ok (.if_icmp .ne 7, 3) := by decide +kernel
theorem dX1_isComparison_18 : decode cX1_isComparison 18 = .ok (.iconst 1, 1) := by decide +kernel
theorem dX1_isComparison_19 : decode cX1_isComparison 19 = .ok (.goto 4, 3) := by decide +kernel
theorem dX1_isComparison_22 : decode cX1_isComparison 22 = .ok (.iconst 0, 1) := by decide +kernel
theorem dX1_isComparison_23 : decode cX1_isComparison 23 = .ok (.ireturn, 1) := by decide +kernel
theorem dX1_readSum_0 : decode cX1_readSum 0 = .ok (.aload_n 0, 1) := by decide +kernel
theorem dX1_readSum_1 : decode cX1_readSum 1 = .ok (.iload_n 1, 1) := by decide +kernel
theorem dX1_readSum_2 : decode cX1_readSum 2 = .ok (.invokevirtual 65, 3) := by decide +kernel
theorem dX1_readSum_5 : decode cX1_readSum 5 = .ok (.ifCond .ne 5, 3) := by decide +kernel
theorem dX1_readSum_8 : decode cX1_readSum 8 = .ok (.iconst 0, 1) := by decide +kernel
theorem dX1_readSum_9 : decode cX1_readSum 9 = .ok (.ireturn, 1) := by decide +kernel
theorem dX1_readSum_10 : decode cX1_readSum 10 = .ok (.iconst 0, 1) := by decide +kernel
theorem dX1_readSum_11 : decode cX1_readSum 11 = .ok (.istore_n 2, 1) := by decide +kernel
theorem dX1_readSum_12 : decode cX1_readSum 12 = .ok (.iload_n 2, 1) := by decide +kernel
theorem dX1_readSum_13 : decode cX1_readSum 13 = .ok (.sipush 240, 3) := by decide +kernel
theorem dX1_readSum_16 : decode cX1_readSum 16 = .ok (.if_icmp .ge 55, 3) := by decide +kernel
theorem dX1_readSum_19 : decode cX1_readSum 19 = .ok (.aload_n 0, 1) := by decide +kernel
theorem dX1_readSum_20 : decode cX1_readSum 20 = .ok (.invokevirtual 30, 3) := by decide +kernel
theorem dX1_readSum_23 : decode cX1_readSum 23 = .ok (.istore_n 3, 1) := by decide +kernel
theorem dX1_readSum_24 : decode cX1_readSum 24 = .ok (.iload_n 3, 1) := by decide +kernel
theorem dX1_readSum_25 : decode cX1_readSum 25 = .ok (.bipush 43, 2) := by decide +kernel
theorem dX1_readSum_27 : decode cX1_readSum 27 = .ok (.if_icmp .eq 12, 3) := by decide +kernel
theorem dX1_readSum_30 : decode cX1_readSum 30 = .ok (.iload_n 3, 1) := by decide +kernel
theorem dX1_readSum_31 : decode cX1_readSum 31 = .ok (.bipush 45, 2) := by decide +kernel
theorem dX1_readSum_33 : decode cX1_readSum 33 = .ok (.if_icmp .eq 6, 3) := by decide +kernel
theorem dX1_readSum_36 : decode cX1_readSum 36 = .ok (.goto 35, 3) := by decide +kernel
theorem dX1_readSum_39 : decode cX1_readSum 39 = .ok (.aload_n 0, 1) := by decide +kernel
theorem dX1_readSum_40 : decode cX1_readSum 40 = .ok (.dup, 1) := by decide +kernel
theorem dX1_readSum_41 : decode cX1_readSum 41 = .ok (.getfield 27, 3) := by decide +kernel
theorem dX1_readSum_44 : decode cX1_readSum 44 = .ok (.iconst 1, 1) := by decide +kernel
theorem dX1_readSum_45 : decode cX1_readSum 45 = .ok (.iadd, 1) := by decide +kernel
theorem dX1_readSum_46 : decode cX1_readSum 46 = .ok (.putfield 27, 3) := by decide +kernel
theorem dX1_readSum_49 : decode cX1_readSum 49 = .ok (.aload_n 0, 1) := by decide +kernel
theorem dX1_readSum_50 : decode cX1_readSum 50 = .ok (.iload_n 1, 1) := by decide +kernel
theorem dX1_readSum_51 : decode cX1_readSum 51 = .ok (.invokevirtual 65, 3) := by decide +kernel
theorem dX1_readSum_54 : decode cX1_readSum 54 = .ok (.ifCond .ne 5, 3) := by decide +kernel
theorem dX1_readSum_57 : decode cX1_readSum 57 = .ok (.iconst 0, 1) := by decide +kernel
theorem dX1_readSum_58 : decode cX1_readSum 58 = .ok (.ireturn, 1) := by decide +kernel
theorem dX1_readSum_59 : decode cX1_readSum 59 = .ok (.aload_n 0, 1) := by decide +kernel
theorem dX1_readSum_60 : decode cX1_readSum 60 = .ok (.iload_n 3, 1) := by decide +kernel
theorem dX1_readSum_61 : decode cX1_readSum 61 = .ok (.iconst 0, 1) := by decide +kernel
theorem dX1_readSum_62 : decode cX1_readSum 62 = .ok (.invokevirtual 44, 3) := by decide +kernel
theorem dX1_readSum_65 : decode cX1_readSum 65 = .ok (.iinc 2 1, 3) := by decide +kernel
theorem dX1_readSum_68 : decode cX1_readSum 68 = .ok (.goto (-56), 3) := by decide +kernel
theorem dX1_readSum_71 : decode cX1_readSum 71 = .ok (.iconst 1, 1) := by decide +kernel
theorem dX1_readSum_72 : decode cX1_readSum 72 = .ok (.ireturn, 1) := by decide +kernel
theorem dX1_readTerm_0 : decode cX1_readTerm 0 = .ok (.aload_n 0, 1) := by decide +kernel
theorem dX1_readTerm_1 : decode cX1_readTerm 1 = .ok (.iload_n 1, 1) := by decide +kernel
theorem dX1_readTerm_2 : decode cX1_readTerm 2 = .ok (.invokevirtual 68, 3) := by decide +kernel
theorem dX1_readTerm_5 : decode cX1_readTerm 5 = .ok (.ifCond .ne 5, 3) := by decide +kernel
theorem dX1_readTerm_8 : decode cX1_readTerm 8 = .ok (.iconst 0, 1) := by decide +kernel
theorem dX1_readTerm_9 : decode cX1_readTerm 9 = .ok (.ireturn, 1) := by decide +kernel
theorem dX1_readTerm_10 : decode cX1_readTerm 10 = .ok (.iconst 0, 1) := by decide +kernel
theorem dX1_readTerm_11 : decode cX1_readTerm 11 = .ok (.istore_n 2, 1) := by decide +kernel
theorem dX1_readTerm_12 : decode cX1_readTerm 12 = .ok (.iload_n 2, 1) := by decide +kernel
theorem dX1_readTerm_13 : decode cX1_readTerm 13 = .ok (.sipush 240, 3) := by decide +kernel
theorem dX1_readTerm_16 : decode cX1_readTerm 16 = .ok (.if_icmp .ge 55, 3) := by decide +kernel
theorem dX1_readTerm_19 : decode cX1_readTerm 19 = .ok (.aload_n 0, 1) := by decide +kernel
theorem dX1_readTerm_20 : decode cX1_readTerm 20 = .ok (.invokevirtual 30, 3) := by decide +kernel
theorem dX1_readTerm_23 : decode cX1_readTerm 23 = .ok (.istore_n 3, 1) := by decide +kernel
theorem dX1_readTerm_24 : decode cX1_readTerm 24 = .ok (.iload_n 3, 1) := by decide +kernel
theorem dX1_readTerm_25 : decode cX1_readTerm 25 = .ok (.bipush 42, 2) := by decide +kernel
theorem dX1_readTerm_27 : decode cX1_readTerm 27 = .ok (.if_icmp .eq 12, 3) := by decide +kernel
theorem dX1_readTerm_30 : decode cX1_readTerm 30 = .ok (.iload_n 3, 1) := by decide +kernel
theorem dX1_readTerm_31 : decode cX1_readTerm 31 = .ok (.bipush 47, 2) := by decide +kernel
theorem dX1_readTerm_33 : decode cX1_readTerm 33 = .ok (.if_icmp .eq 6, 3) := by decide +kernel
theorem dX1_readTerm_36 : decode cX1_readTerm 36 = .ok (.goto 35, 3) := by decide +kernel
theorem dX1_readTerm_39 : decode cX1_readTerm 39 = .ok (.aload_n 0, 1) := by decide +kernel
theorem dX1_readTerm_40 : decode cX1_readTerm 40 = .ok (.dup, 1) := by decide +kernel
theorem dX1_readTerm_41 : decode cX1_readTerm 41 = .ok (.getfield 27, 3) := by decide +kernel
theorem dX1_readTerm_44 : decode cX1_readTerm 44 = .ok (.iconst 1, 1) := by decide +kernel
theorem dX1_readTerm_45 : decode cX1_readTerm 45 = .ok (.iadd, 1) := by decide +kernel
theorem dX1_readTerm_46 : decode cX1_readTerm 46 = .ok (.putfield 27, 3) := by decide +kernel
theorem dX1_readTerm_49 : decode cX1_readTerm 49 = .ok (.aload_n 0, 1) := by decide +kernel
theorem dX1_readTerm_50 : decode cX1_readTerm 50 = .ok (.iload_n 1, 1) := by decide +kernel
theorem dX1_readTerm_51 : decode cX1_readTerm 51 = .ok (.invokevirtual 68, 3) := by decide +kernel
theorem dX1_readTerm_54 : decode cX1_readTerm 54 = .ok (.ifCond .ne 5, 3) := by decide +kernel
theorem dX1_readTerm_57 : decode cX1_readTerm 57 = .ok (.iconst 0, 1) := by decide +kernel
theorem dX1_readTerm_58 : decode cX1_readTerm 58 = .ok (.ireturn, 1) := by decide +kernel
theorem dX1_readTerm_59 : decode cX1_readTerm 59 = .ok (.aload_n 0, 1) := by decide +kernel
theorem dX1_readTerm_60 : decode cX1_readTerm 60 = .ok (.iload_n 3, 1) := by decide +kernel
theorem dX1_readTerm_61 : decode cX1_readTerm 61 = .ok (.iconst 0, 1) := by decide +kernel
theorem dX1_readTerm_62 : decode cX1_readTerm 62 = .ok (.invokevirtual 44, 3) := by decide +kernel
theorem dX1_readTerm_65 : decode cX1_readTerm 65 = .ok (.iinc 2 1, 3) := by decide +kernel
theorem dX1_readTerm_68 : decode cX1_readTerm 68 = .ok (.goto (-56), 3) := by decide +kernel
theorem dX1_readTerm_71 : decode cX1_readTerm 71 = .ok (.iconst 1, 1) := by decide +kernel
theorem dX1_readTerm_72 : decode cX1_readTerm 72 = .ok (.ireturn, 1) := by decide +kernel
theorem dX1_readAtom_0 : decode cX1_readAtom 0 = .ok (.aload_n 0, 1) := by decide +kernel
theorem dX1_readAtom_1 : decode cX1_readAtom 1 = .ok (.invokevirtual 30, 3) := by decide +kernel
theorem dX1_readAtom_4 : decode cX1_readAtom 4 = .ok (.istore_n 2, 1) := by decide +kernel
theorem dX1_readAtom_5 : decode cX1_readAtom 5 = .ok (.iload_n 2, 1) := by decide +kernel
theorem dX1_readAtom_6 : decode cX1_readAtom 6 = .ok (.invokestatic 71, 3) := by decide +kernel
theorem dX1_readAtom_9 : decode cX1_readAtom 9 = .ok (.ifCond .eq 8, 3) := by decide +kernel
theorem dX1_readAtom_12 : decode cX1_readAtom 12 = .ok (.aload_n 0, 1) := by decide +kernel
theorem dX1_readAtom_13 : decode cX1_readAtom 13 = .ok (.invokevirtual 74, 3) := by decide +kernel
theorem dX1_readAtom_16 : decode cX1_readAtom 16 = .ok (.ireturn, 1) := by decide +kernel
theorem dX1_readAtom_17 : decode cX1_readAtom 17 = .ok (.iload_n 2, 1) := by decide +kernel
theorem dX1_readAtom_18 : decode cX1_readAtom 18 = .ok (.bipush 91, 2) := by decide +kernel
theorem dX1_readAtom_20 : decode cX1_readAtom 20 = .ok (.if_icmp .ne 46, 3) := by decide +kernel
theorem dX1_readAtom_23 : decode cX1_readAtom 23 = .ok (.iload_n 1, 1) := by decide +kernel
theorem dX1_readAtom_24 : decode cX1_readAtom 24 = .ok (.bipush 6, 2) := by decide +kernel
theorem dX1_readAtom_26 : decode cX1_readAtom 26 = .ok (.if_icmp .lt 5, 3) := by decide +kernel
theorem dX1_readAtom_29 : decode cX1_readAtom 29 = .ok (.iconst 0, 1) := by decide +kernel
theorem dX1_readAtom_30 : decode cX1_readAtom 30 = .ok (.ireturn, 1) := by decide +kernel
theorem dX1_readAtom_31 : decode cX1_readAtom 31 = .ok (.aload_n 0, 1) := by decide +kernel
theorem dX1_readAtom_32 : decode cX1_readAtom 32 = .ok (.dup, 1) := by decide +kernel
theorem dX1_readAtom_33 : decode cX1_readAtom 33 = .ok (.getfield 27, 3) := by decide +kernel
theorem dX1_readAtom_36 : decode cX1_readAtom 36 = .ok (.iconst 1, 1) := by decide +kernel
theorem dX1_readAtom_37 : decode cX1_readAtom 37 = .ok (.iadd, 1) := by decide +kernel
theorem dX1_readAtom_38 : decode cX1_readAtom 38 = .ok (.putfield 27, 3) := by decide +kernel
theorem dX1_readAtom_41 : decode cX1_readAtom 41 = .ok (.aload_n 0, 1) := by decide +kernel
theorem dX1_readAtom_42 : decode cX1_readAtom 42 = .ok (.iload_n 1, 1) := by decide +kernel
theorem dX1_readAtom_43 : decode cX1_readAtom 43 = .ok (.iconst 1, 1) := by decide +kernel
theorem dX1_readAtom_44 : decode cX1_readAtom 44 = .ok (.iadd, 1) := by decide +kernel
theorem dX1_readAtom_45 : decode cX1_readAtom 45 = .ok (.invokevirtual 38, 3) := by decide +kernel
theorem dX1_readAtom_48 : decode cX1_readAtom 48 = .ok (.ifCond .eq 16, 3) := by decide +kernel
theorem dX1_readAtom_51 : decode cX1_readAtom 51 = .ok (.aload_n 0, 1) := by decide +kernel
theorem dX1_readAtom_52 : decode cX1_readAtom 52 = .ok (.bipush 93, 2) := by decide +kernel
theorem dX1_readAtom_54 : decode cX1_readAtom 54 = .ok (.invokevirtual 34, 3) := by decide +kernel
theorem dX1_readAtom_57 : decode cX1_readAtom 57 = .ok (.ifCond .eq 7, 3) := by decide +kernel
theorem dX1_readAtom_60 : decode cX1_readAtom 60 = .ok (.iconst 1, 1) := by decide +kernel
theorem dX1_readAtom_61 : decode cX1_readAtom 61 = .ok (.goto 4, 3) := by decide +kernel
theorem dX1_readAtom_64 : decode cX1_readAtom 64 = .ok (.iconst 0, 1) := by decide +kernel
theorem dX1_readAtom_65 : decode cX1_readAtom 65 = .ok (.ireturn, 1) := by decide +kernel
theorem dX1_readAtom_66 : decode cX1_readAtom 66 = .ok (.iconst 0, 1) := by decide +kernel
theorem dX1_readAtom_67 : decode cX1_readAtom 67 = .ok (.istore_n 3, 1) := by decide +kernel
theorem dX1_readAtom_68 : decode cX1_readAtom 68 = .ok (.iload_n 3, 1) := by decide +kernel
theorem dX1_readAtom_69 : decode cX1_readAtom 69 = .ok (.bipush 6, 2) := by decide +kernel
theorem dX1_readAtom_71 : decode cX1_readAtom 71 = .ok (.if_icmp .ge 36, 3) := by decide +kernel
theorem dX1_readAtom_74 : decode cX1_readAtom 74 = .ok (.getstatic 77, 3) := by decide +kernel
theorem dX1_readAtom_77 : decode cX1_readAtom 77 = .ok (.iload_n 3, 1) := by decide +kernel
theorem dX1_readAtom_78 : decode cX1_readAtom 78 = .ok (.caload, 1) := by decide +kernel
theorem dX1_readAtom_79 : decode cX1_readAtom 79 = .ok (.iload_n 2, 1) := by decide +kernel
theorem dX1_readAtom_80 : decode cX1_readAtom 80 = .ok (.if_icmp .ne 21, 3) := by decide +kernel
theorem dX1_readAtom_83 : decode cX1_readAtom 83 = .ok (.aload_n 0, 1) := by decide +kernel
theorem dX1_readAtom_84 : decode cX1_readAtom 84 = .ok (.dup, 1) := by decide +kernel
theorem dX1_readAtom_85 : decode cX1_readAtom 85 = .ok (.getfield 27, 3) := by decide +kernel
theorem dX1_readAtom_88 : decode cX1_readAtom 88 = .ok (.iconst 1, 1) := by decide +kernel
theorem dX1_readAtom_89 : decode cX1_readAtom 89 = .ok (.iadd, 1) := by decide +kernel
theorem dX1_readAtom_90 : decode cX1_readAtom 90 = .ok (.putfield 27, 3) := by decide +kernel
theorem dX1_readAtom_93 : decode cX1_readAtom 93 = .ok (.aload_n 0, 1) := by decide +kernel
theorem dX1_readAtom_94 : decode cX1_readAtom 94 = .ok (.iconst 2, 1) := by decide +kernel
theorem dX1_readAtom_95 : decode cX1_readAtom 95 = .ok (.iload_n 3, 1) := by decide +kernel
theorem dX1_readAtom_96 : decode cX1_readAtom 96 = .ok (.invokevirtual 44, 3) := by decide +kernel
theorem dX1_readAtom_99 : decode cX1_readAtom 99 = .ok (.iconst 1, 1) := by decide +kernel
theorem dX1_readAtom_100 : decode cX1_readAtom 100 = .ok (.ireturn, 1) := by decide +kernel
theorem dX1_readAtom_101 : decode cX1_readAtom 101 = .ok (.iinc 3 1, 3) := by decide +kernel
theorem dX1_readAtom_104 : decode cX1_readAtom 104 = .ok (.goto (-36), 3) := by decide +kernel
theorem dX1_readAtom_107 : decode cX1_readAtom 107 = .ok (.iconst 0, 1) := by decide +kernel
theorem dX1_readAtom_108 : decode cX1_readAtom 108 = .ok (.ireturn, 1) := by decide +kernel
theorem dX1_readNumber_0 : decode cX1_readNumber 0 = .ok (.iconst 0, 1) := by decide +kernel
theorem dX1_readNumber_1 : decode cX1_readNumber 1 = .ok (.istore_n 1, 1) := by decide +kernel
theorem dX1_readNumber_2 : decode cX1_readNumber 2 = .ok (.iconst 0, 1) := by decide +kernel
theorem dX1_readNumber_3 : decode cX1_readNumber 3 = .ok (.istore_n 2, 1) := by decide +kernel
theorem dX1_readNumber_4 : decode cX1_readNumber 4 = .ok (.aload_n 0, 1) := by decide +kernel
theorem dX1_readNumber_5 : decode cX1_readNumber 5 = .ok (.getfield 27, 3) := by decide +kernel
theorem dX1_readNumber_8 : decode cX1_readNumber 8 = .ok (.aload_n 0, 1) := by decide +kernel
theorem dX1_readNumber_9 : decode cX1_readNumber 9 = .ok (.getfield 81, 3) := by decide +kernel
theorem dX1_readNumber_12 : decode cX1_readNumber 12 = .ok (.if_icmp .ge 59, 3) := by decide +kernel
theorem dX1_readNumber_15 : decode cX1_readNumber 15 = .ok (.aload_n 0, 1) := by decide +kernel
theorem dX1_readNumber_16 : decode cX1_readNumber 16 = .ok (.getfield 84, 3) := by decide +kernel
theorem dX1_readNumber_19 : decode cX1_readNumber 19 = .ok (.aload_n 0, 1) := by decide +kernel
theorem dX1_readNumber_20 : decode cX1_readNumber 20 = .ok (.getfield 27, 3) := by decide +kernel
theorem dX1_readNumber_23 : decode cX1_readNumber 23 = .ok (.iaload, 1) := by decide +kernel
theorem dX1_readNumber_24 : decode cX1_readNumber 24 = .ok (.invokestatic 71, 3) := by decide +kernel
theorem dX1_readNumber_27 : decode cX1_readNumber 27 = .ok (.ifCond .eq 44, 3) := by decide +kernel
theorem dX1_readNumber_30 : decode cX1_readNumber 30 = .ok (.iload_n 2, 1) := by decide +kernel
theorem dX1_readNumber_31 : decode cX1_readNumber 31 = .ok (.iconst 4, 1) := by decide +kernel
theorem dX1_readNumber_32 : decode cX1_readNumber 32 = .ok (.if_icmp .ne 5, 3) := by decide +kernel
theorem dX1_readNumber_35 : decode cX1_readNumber 35 = .ok (.iconst 0, 1) := by decide +kernel
theorem dX1_readNumber_36 : decode cX1_readNumber 36 = .ok (.ireturn, 1) := by decide +kernel
theorem dX1_readNumber_37 : decode cX1_readNumber 37 = .ok (.iload_n 1, 1) := by decide +kernel
theorem dX1_readNumber_38 : decode cX1_readNumber 38 = .ok (.bipush 10, 2) := by decide +kernel
theorem dX1_readNumber_40 : decode cX1_readNumber 40 = .ok (.imul, 1) := by decide +kernel
theorem dX1_readNumber_41 : decode cX1_readNumber 41 = .ok (.aload_n 0, 1) := by decide +kernel
theorem dX1_readNumber_42 : decode cX1_readNumber 42 = .ok (.getfield 84, 3) := by decide +kernel
theorem dX1_readNumber_45 : decode cX1_readNumber 45 = .ok (.aload_n 0, 1) := by decide +kernel
theorem dX1_readNumber_46 : decode cX1_readNumber 46 = .ok (.getfield 27, 3) := by decide +kernel
theorem dX1_readNumber_49 : decode cX1_readNumber 49 = .ok (.iaload, 1) := by decide +kernel
theorem dX1_readNumber_50 : decode cX1_readNumber 50 = .ok (.iadd, 1) := by decide +kernel
theorem dX1_readNumber_51 : decode cX1_readNumber 51 = .ok (.bipush 48, 2) := by decide +kernel
theorem dX1_readNumber_53 : decode cX1_readNumber 53 = .ok (.isub, 1) := by decide +kernel
theorem dX1_readNumber_54 : decode cX1_readNumber 54 = .ok (.istore_n 1, 1) := by decide +kernel
theorem dX1_readNumber_55 : decode cX1_readNumber 55 = .ok (.aload_n 0, 1) := by decide +kernel
theorem dX1_readNumber_56 : decode cX1_readNumber 56 = .ok (.dup, 1) := by decide +kernel
theorem dX1_readNumber_57 : decode cX1_readNumber 57 = .ok (.getfield 27, 3) := by decide +kernel
theorem dX1_readNumber_60 : decode cX1_readNumber 60 = .ok (.iconst 1, 1) := by decide +kernel
theorem dX1_readNumber_61 : decode cX1_readNumber 61 = .ok (.iadd, 1) := by decide +kernel
theorem dX1_readNumber_62 : decode cX1_readNumber 62 = .ok (.putfield 27, 3) := by decide +kernel
theorem dX1_readNumber_65 : decode cX1_readNumber 65 = .ok (.iinc 2 1, 3) := by decide +kernel
theorem dX1_readNumber_68 : decode cX1_readNumber 68 = .ok (.goto (-64), 3) := by decide +kernel
theorem dX1_readNumber_71 : decode cX1_readNumber 71 = .ok (.aload_n 0, 1) := by decide +kernel
theorem dX1_readNumber_72 : decode cX1_readNumber 72 = .ok (.iconst 1, 1) := by decide +kernel
theorem dX1_readNumber_73 : decode cX1_readNumber 73 = .ok (.iload_n 1, 1) := by decide +kernel
theorem dX1_readNumber_74 : decode cX1_readNumber 74 = .ok (.invokevirtual 44, 3) := by decide +kernel
theorem dX1_readNumber_77 : decode cX1_readNumber 77 = .ok (.iconst 1, 1) := by decide +kernel
theorem dX1_readNumber_78 : decode cX1_readNumber 78 = .ok (.ireturn, 1) := by decide +kernel
theorem dX2_add_0 : decode cX2_add 0 = .ok (.aload_n 0, 1) := by decide +kernel
theorem dX2_add_1 : decode cX2_add 1 = .ok (.getfield 9, 3) := by decide +kernel
theorem dX2_add_4 : decode cX2_add 4 = .ok (.iconst 4, 1) := by decide +kernel
theorem dX2_add_5 : decode cX2_add 5 = .ok (.if_icmp .ge 14, 3) := by decide +kernel
theorem dX2_add_8 : decode cX2_add 8 = .ok (.iload_n 2, 1) := by decide +kernel
theorem dX2_add_9 : decode cX2_add 9 = .ok (.iconst 0, 1) := by decide +kernel
theorem dX2_add_10 : decode cX2_add 10 = .ok (.sipush 240, 3) := by decide +kernel
theorem dX2_add_13 : decode cX2_add 13 = .ok (.invokestatic 36, 3) := by decide +kernel
theorem dX2_add_16 : decode cX2_add 16 = .ok (.ifCond .ne 5, 3) := by decide +kernel
theorem dX2_add_19 : decode cX2_add 19 = .ok (.iconst (-1), 1) := by decide +kernel
theorem dX2_add_20 : decode cX2_add 20 = .ok (.ireturn, 1) := by decide +kernel
theorem dX2_add_21 : decode cX2_add 21 = .ok (.aload_n 1, 1) := by decide +kernel
theorem dX2_add_22 : decode cX2_add 22 = .ok (.iconst 0, 1) := by decide +kernel
theorem dX2_add_23 : decode cX2_add 23 = .ok (.aload_n 0, 1) := by decide +kernel
theorem dX2_add_24 : decode cX2_add 24 = .ok (.getfield 20, 3) := by decide +kernel
theorem dX2_add_27 : decode cX2_add 27 = .ok (.aload_n 0, 1) := by decide +kernel
theorem dX2_add_28 : decode cX2_add 28 = .ok (.getfield 9, 3) := by decide +kernel
theorem dX2_add_31 : decode cX2_add 31 = .ok (.aaload, 1) := by decide +kernel
theorem dX2_add_32 : decode cX2_add 32 = .ok (.iconst 0, 1) := by decide +kernel
theorem dX2_add_33 : decode cX2_add 33 = .ok (.iload_n 2, 1) := by decide +kernel
theorem dX2_add_34 : decode cX2_add 34 = .ok (.invokestatic 40, 3) := by decide +kernel
theorem dX2_add_37 : decode cX2_add 37 = .ok (.aload_n 0, 1) := by decide +kernel
theorem dX2_add_38 : decode cX2_add 38 = .ok (.getfield 23, 3) := by decide +kernel
theorem dX2_add_41 : decode cX2_add 41 = .ok (.aload_n 0, 1) := by decide +kernel
theorem dX2_add_42 : decode cX2_add 42 = .ok (.getfield 9, 3) := by decide +kernel
theorem dX2_add_45 : decode cX2_add 45 = .ok (.iload_n 2, 1) := by decide +kernel
theorem dX2_add_46 : decode cX2_add 46 = .ok (.iastore, 1) := by decide +kernel
theorem dX2_add_47 : decode cX2_add 47 = .ok (.aload_n 0, 1) := by decide +kernel
theorem dX2_add_48 : decode cX2_add 48 = .ok (.dup, 1) := by decide +kernel
theorem dX2_add_49 : decode cX2_add 49 = .ok (.getfield 9, 3) := by decide +kernel
theorem dX2_add_52 : decode cX2_add 52 = .ok (.iconst 1, 1) := by decide +kernel
theorem dX2_add_53 : decode cX2_add 53 = .ok (.iadd, 1) := by decide +kernel
theorem dX2_add_54 : decode cX2_add 54 = .ok (.putfield 9, 3) := by decide +kernel
theorem dX2_add_57 : decode cX2_add 57 = .ok (.aload_n 0, 1) := by decide +kernel
theorem dX2_add_58 : decode cX2_add 58 = .ok (.getfield 9, 3) := by decide +kernel
theorem dX2_add_61 : decode cX2_add 61 = .ok (.iconst 1, 1) := by decide +kernel
theorem dX2_add_62 : decode cX2_add 62 = .ok (.isub, 1) := by decide +kernel
theorem dX2_add_63 : decode cX2_add 63 = .ok (.ireturn, 1) := by decide +kernel
theorem dX2_takes_0 : decode cX2_takes 0 = .ok (.aload_n 1, 1) := by decide +kernel
theorem dX2_takes_1 : decode cX2_takes 1 = .ok (.getfield 46, 3) := by decide +kernel
theorem dX2_takes_4 : decode cX2_takes 4 = .ok (.astore_n 3, 1) := by decide +kernel
theorem dX2_takes_5 : decode cX2_takes 5 = .ok (.aload_n 3, 1) := by decide +kernel
theorem dX2_takes_6 : decode cX2_takes 6 = .ok (.getfield 52, 3) := by decide +kernel
theorem dX2_takes_9 : decode cX2_takes 9 = .ok (.iload_n 2, 1) := by decide +kernel
theorem dX2_takes_10 : decode cX2_takes 10 = .ok (.iaload, 1) := by decide +kernel
theorem dX2_takes_11 : decode cX2_takes 11 = .ok (.aload_n 1, 1) := by decide +kernel
theorem dX2_takes_12 : decode cX2_takes 12 = .ok (.getfield 57, 3) := by decide +kernel
theorem dX2_takes_15 : decode cX2_takes 15 = .ok (.iload_n 2, 1) := by decide +kernel
theorem dX2_takes_16 : decode cX2_takes 16 = .ok (.iaload, 1) := by decide +kernel
theorem dX2_takes_17 : decode cX2_takes 17 = .ok (.bipush 10, 2) := by decide +kernel
theorem dX2_takes_19 : decode cX2_takes 19 = .ok (.idiv, 1) := by decide +kernel
theorem dX2_takes_20 : decode cX2_takes 20 = .ok (.iadd, 1) := by decide +kernel
theorem dX2_takes_21 : decode cX2_takes 21 = .ok (.istore 4, 2) := by decide +kernel
theorem dX2_takes_23 : decode cX2_takes 23 = .ok (.aload_n 0, 1) := by decide +kernel
theorem dX2_takes_24 : decode cX2_takes 24 = .ok (.getfield 15, 3) := by decide +kernel
theorem dX2_takes_27 : decode cX2_takes 27 = .ok (.iconst 0, 1) := by decide +kernel
theorem dX2_takes_28 : decode cX2_takes 28 = .ok (.iconst 3, 1) := by decide +kernel
theorem dX2_takes_29 : decode cX2_takes 29 = .ok (.invokestatic 36, 3) := by decide +kernel
theorem dX2_takes_32 : decode cX2_takes 32 = .ok (.ifCond .eq 90, 3) := by decide +kernel
theorem dX2_takes_35 : decode cX2_takes 35 = .ok (.aload_n 0, 1) := by decide +kernel
theorem dX2_takes_36 : decode cX2_takes 36 = .ok (.getfield 27, 3) := by decide +kernel
theorem dX2_takes_39 : decode cX2_takes 39 = .ok (.iconst 0, 1) := by decide +kernel
theorem dX2_takes_40 : decode cX2_takes 40 = .ok (.aload_n 3, 1) := by decide +kernel
theorem dX2_takes_41 : decode cX2_takes 41 = .ok (.getfield 52, 3) := by decide +kernel
theorem dX2_takes_44 : decode cX2_takes 44 = .ok (.iload_n 2, 1) := by decide +kernel
theorem dX2_takes_45 : decode cX2_takes 45 = .ok (.iaload, 1) := by decide +kernel
theorem dX2_takes_46 : decode cX2_takes 46 = .ok (.iastore, 1) := by decide +kernel
theorem dX2_takes_47 : decode cX2_takes 47 = .ok (.aload_n 0, 1) := by decide +kernel
theorem dX2_takes_48 : decode cX2_takes 48 = .ok (.getfield 27, 3) := by decide +kernel
theorem dX2_takes_51 : decode cX2_takes 51 = .ok (.iconst 1, 1) := by decide +kernel
theorem dX2_takes_52 : decode cX2_takes 52 = .ok (.aload_n 1, 1) := by decide +kernel
theorem dX2_takes_53 : decode cX2_takes 53 = .ok (.getfield 57, 3) := by decide +kernel
theorem dX2_takes_56 : decode cX2_takes 56 = .ok (.iload_n 2, 1) := by decide +kernel
theorem dX2_takes_57 : decode cX2_takes 57 = .ok (.iaload, 1) := by decide +kernel
theorem dX2_takes_58 : decode cX2_takes 58 = .ok (.iastore, 1) := by decide +kernel
theorem dX2_takes_59 : decode cX2_takes 59 = .ok (.aload_n 0, 1) := by decide +kernel
theorem dX2_takes_60 : decode cX2_takes 60 = .ok (.getfield 27, 3) := by decide +kernel
theorem dX2_takes_63 : decode cX2_takes 63 = .ok (.iconst 2, 1) := by decide +kernel
theorem dX2_takes_64 : decode cX2_takes 64 = .ok (.aload_n 3, 1) := by decide +kernel
theorem dX2_takes_65 : decode cX2_takes 65 = .ok (.getfield 60, 3) := by decide +kernel
theorem dX2_takes_68 : decode cX2_takes 68 = .ok (.iload_n 2, 1) := by decide +kernel
theorem dX2_takes_69 : decode cX2_takes 69 = .ok (.iaload, 1) := by decide +kernel
theorem dX2_takes_70 : decode cX2_takes 70 = .ok (.iastore, 1) := by decide +kernel
theorem dX2_takes_71 : decode cX2_takes 71 = .ok (.aload_n 0, 1) := by decide +kernel
theorem dX2_takes_72 : decode cX2_takes 72 = .ok (.getfield 27, 3) := by decide +kernel
theorem dX2_takes_75 : decode cX2_takes 75 = .ok (.iconst 3, 1) := by decide +kernel
theorem dX2_takes_76 : decode cX2_takes 76 = .ok (.aload_n 3, 1) := by decide +kernel
theorem dX2_takes_77 : decode cX2_takes 77 = .ok (.getfield 63, 3) := by decide +kernel
theorem dX2_takes_80 : decode cX2_takes 80 = .ok (.iastore, 1) := by decide +kernel
theorem dX2_takes_81 : decode cX2_takes 81 = .ok (.aload_n 0, 1) := by decide +kernel
theorem dX2_takes_82 : decode cX2_takes 82 = .ok (.getfield 27, 3) := by decide +kernel
theorem dX2_takes_85 : decode cX2_takes 85 = .ok (.iconst 4, 1) := by decide +kernel
theorem dX2_takes_86 : decode cX2_takes 86 = .ok (.aload_n 1, 1) := by decide +kernel
theorem dX2_takes_87 : decode cX2_takes 87 = .ok (.getfield 66, 3) := by decide +kernel
theorem dX2_takes_90 : decode cX2_takes 90 = .ok (.iastore, 1) := by decide +kernel
theorem dX2_takes_91 : decode cX2_takes 91 = .ok (.aload_n 0, 1) := by decide +kernel
theorem dX2_takes_92 : decode cX2_takes 92 = .ok (.getfield 27, 3) := by decide +kernel
theorem dX2_takes_95 : decode cX2_takes 95 = .ok (.iconst 5, 1) := by decide +kernel
theorem dX2_takes_96 : decode cX2_takes 96 = .ok (.iload_n 2, 1) := by decide +kernel
theorem dX2_takes_97 : decode cX2_takes 97 = .ok (.iastore, 1) := by decide +kernel
theorem dX2_takes_98 : decode cX2_takes 98 = .ok (.aload_n 0, 1) := by decide +kernel
theorem dX2_takes_99 : decode cX2_takes 99 = .ok (.aload_n 0, 1) := by decide +kernel
theorem dX2_takes_100 : decode cX2_takes 100 = .ok (.getfield 20, 3) := by decide +kernel
theorem dX2_takes_103 : decode cX2_takes 103 = .ok (.aload_n 0, 1) := by decide +kernel
theorem dX2_takes_104 : decode cX2_takes 104 = .ok (.getfield 15, 3) := by decide +kernel
theorem dX2_takes_107 : decode cX2_takes 107 = .ok (.aaload, 1) := by decide +kernel
theorem dX2_takes_108 : decode cX2_takes 108 = .ok (.aload_n 0, 1) := by decide +kernel
theorem dX2_takes_109 : decode cX2_takes 109 = .ok (.getfield 23, 3) := by decide +kernel
theorem dX2_takes_112 : decode cX2_takes 112 = .ok (.aload_n 0, 1) := by decide +kernel
theorem dX2_takes_113 : decode cX2_takes 113 = .ok (.getfield 15, 3) := by decide +kernel
theorem dX2_takes_116 : decode cX2_takes 116 = .ok (.iaload, 1) := by decide +kernel
theorem dX2_takes_117 : decode cX2_takes 117 = .ok (.invokevirtual 69, 3) := by decide +kernel
theorem dX2_takes_120 : decode cX2_takes 120 = .ok (.istore 4, 2) := by decide +kernel
theorem dX2_takes_122 : decode cX2_takes 122 = .ok (.iconst 1, 1) := by decide +kernel
theorem dX2_takes_123 : decode cX2_takes 123 = .ok (.bipush 99, 2) := by decide +kernel
theorem dX2_takes_125 : decode cX2_takes 125 = .ok (.iload 4, 2) := by decide +kernel
theorem dX2_takes_127 : decode cX2_takes 127 = .ok (.invokestatic 73, 3) := by decide +kernel
theorem dX2_takes_130 : decode cX2_takes 130 = .ok (.invokestatic 79, 3) := by decide +kernel
theorem dX2_takes_133 : decode cX2_takes 133 = .ok (.ireturn, 1) := by decide +kernel
theorem dX2_worthBy_0 : decode cX2_worthBy 0 = .ok (.aload_n 0, 1) := by decide +kernel
theorem dX2_worthBy_1 : decode cX2_worthBy 1 = .ok (.iconst 0, 1) := by decide +kernel
theorem dX2_worthBy_2 : decode cX2_worthBy 2 = .ok (.putfield 33, 3) := by decide +kernel
theorem dX2_worthBy_5 : decode cX2_worthBy 5 = .ok (.iconst 0, 1) := by decide +kernel
theorem dX2_worthBy_6 : decode cX2_worthBy 6 = .ok (.istore_n 3, 1) := by decide +kernel
theorem dX2_worthBy_7 : decode cX2_worthBy 7 = .ok (.iconst 0, 1) := by decide +kernel
theorem dX2_worthBy_8 : decode cX2_worthBy 8 = .ok (.istore 4, 2) := by decide +kernel
theorem dX2_worthBy_10 : decode cX2_worthBy 10 = .ok (.iload 4, 2) := by decide +kernel
theorem dX2_worthBy_12 : decode cX2_worthBy 12 = .ok (.iload_n 2, 1) := by decide +kernel
theorem dX2_worthBy_13 : decode cX2_worthBy 13 = .ok (.if_icmp .ge 175, 3) := by decide +kernel
theorem dX2_worthBy_16 : decode cX2_worthBy 16 = .ok (.iload_n 3, 1) := by decide +kernel
theorem dX2_worthBy_17 : decode cX2_worthBy 17 = .ok (.iload_n 2, 1) := by decide +kernel
theorem dX2_worthBy_18 : decode cX2_worthBy 18 = .ok (.if_icmp .ge 170, 3) := by decide +kernel
theorem dX2_worthBy_21 : decode cX2_worthBy 21 = .ok (.aload_n 1, 1) := by decide +kernel
theorem dX2_worthBy_22 : decode cX2_worthBy 22 = .ok (.iload_n 3, 1) := by decide +kernel
theorem dX2_worthBy_23 : decode cX2_worthBy 23 = .ok (.iaload, 1) := by decide +kernel
theorem dX2_worthBy_24 : decode cX2_worthBy 24 = .ok (.bipush 16, 2) := by decide +kernel
theorem dX2_worthBy_26 : decode cX2_worthBy 26 = .ok (.ishr, 1) := by decide +kernel
theorem dX2_worthBy_27 : decode cX2_worthBy 27 = .ok (.istore 5, 2) := by decide +kernel
theorem dX2_worthBy_29 : decode cX2_worthBy 29 = .ok (.aload_n 1, 1) := by decide +kernel
theorem dX2_worthBy_30 : decode cX2_worthBy 30 = .ok (.iload_n 3, 1) := by decide +kernel
theorem dX2_worthBy_31 : decode cX2_worthBy 31 = .ok (.iaload, 1) := by decide +kernel
theorem dX2_worthBy_32 : decode cX2_worthBy 32 = .ok (.ldc 82, 2) := by decide +kernel
theorem dX2_worthBy_34 : decode cX2_worthBy 34 = .ok (.iand, 1) := by decide +kernel
theorem dX2_worthBy_35 : decode cX2_worthBy 35 = .ok (.istore 6, 2) := by decide +kernel
theorem dX2_worthBy_37 : decode cX2_worthBy 37 = .ok (.iinc 3 1, 3) := by decide +kernel
theorem dX2_worthBy_40 : decode cX2_worthBy 40 = .ok (.iload 5, 2) := by decide +kernel
theorem dX2_worthBy_42 : decode cX2_worthBy 42 = .ok (.lookupswitch 119 #[(1, 50), (2, 59), (3, 84), (4, 101), (33, 106)], 50) := by decide +kernel
theorem dX2_worthBy_92 : decode cX2_worthBy 92 = .ok (.aload_n 0, 1) := by decide +kernel
theorem dX2_worthBy_93 : decode cX2_worthBy 93 = .ok (.iload 6, 2) := by decide +kernel
theorem dX2_worthBy_95 : decode cX2_worthBy 95 = .ok (.invokevirtual 83, 3) := by decide +kernel
theorem dX2_worthBy_98 : decode cX2_worthBy 98 = .ok (.goto 84, 3) := by decide +kernel
theorem dX2_worthBy_101 : decode cX2_worthBy 101 = .ok (.aload_n 0, 1) := by decide +kernel
theorem dX2_worthBy_102 : decode cX2_worthBy 102 = .ok (.iload 6, 2) := by decide +kernel
theorem dX2_worthBy_104 : decode cX2_worthBy 104 = .ok (.bipush 6, 2) := by decide +kernel
theorem dX2_worthBy_106 : decode cX2_worthBy 106 = .ok (.if_icmp .ge 13, 3) := by decide +kernel
theorem dX2_worthBy_109 : decode cX2_worthBy 109 = .ok (.aload_n 0, 1) := by decide +kernel
theorem dX2_worthBy_110 : decode cX2_worthBy 110 = .ok (.getfield 27, 3) := by decide +kernel
theorem dX2_worthBy_113 : decode cX2_worthBy 113 = .ok (.iload 6, 2) := by decide +kernel
theorem dX2_worthBy_115 : decode cX2_worthBy 115 = .ok (.iaload, 1) := by decide +kernel
theorem dX2_worthBy_116 : decode cX2_worthBy 116 = .ok (.goto 4, 3) := by decide +kernel
theorem dX2_worthBy_119 : decode cX2_worthBy 119 = .ok (.iconst 0, 1) := by decide +kernel
theorem dX2_worthBy_120 : decode cX2_worthBy 120 = .ok (.invokevirtual 83, 3) := by decide +kernel
theorem dX2_worthBy_123 : decode cX2_worthBy 123 = .ok (.goto 59, 3) := by decide +kernel
theorem dX2_worthBy_126 : decode cX2_worthBy 126 = .ok (.aload_n 0, 1) := by decide +kernel
theorem dX2_worthBy_127 : decode cX2_worthBy 127 = .ok (.invokevirtual 87, 3) := by decide +kernel
theorem dX2_worthBy_130 : decode cX2_worthBy 130 = .ok (.ifCond .ne 8, 3) := by decide +kernel
theorem dX2_worthBy_133 : decode cX2_worthBy 133 = .ok (.iload 6, 2) := by decide +kernel
theorem dX2_worthBy_135 : decode cX2_worthBy 135 = .ok (.goto 4, 3) := by decide +kernel
theorem dX2_worthBy_138 : decode cX2_worthBy 138 = .ok (.iload_n 3, 1) := by decide +kernel
theorem dX2_worthBy_139 : decode cX2_worthBy 139 = .ok (.istore_n 3, 1) := by decide +kernel
theorem dX2_worthBy_140 : decode cX2_worthBy 140 = .ok (.goto 42, 3) := by decide +kernel
theorem dX2_worthBy_143 : decode cX2_worthBy 143 = .ok (.aload_n 0, 1) := by decide +kernel
theorem dX2_worthBy_144 : decode cX2_worthBy 144 = .ok (.invokevirtual 87, 3) := by decide +kernel
theorem dX2_worthBy_147 : decode cX2_worthBy 147 = .ok (.ireturn, 1) := by decide +kernel
theorem dX2_worthBy_148 : decode cX2_worthBy 148 = .ok (.aload_n 0, 1) := by decide +kernel
theorem dX2_worthBy_149 : decode cX2_worthBy 149 = .ok (.iconst 1, 1) := by decide +kernel
theorem dX2_worthBy_150 : decode cX2_worthBy 150 = .ok (.aload_n 0, 1) := by decide +kernel
theorem dX2_worthBy_151 : decode cX2_worthBy 151 = .ok (.invokevirtual 87, 3) := by decide +kernel
theorem dX2_worthBy_154 : decode cX2_worthBy 154 = .ok (.isub, 1) := by decide +kernel
theorem dX2_worthBy_155 : decode cX2_worthBy 155 = .ok (.invokevirtual 83, 3) := by decide +kernel
theorem dX2_worthBy_158 : decode cX2_worthBy 158 = .ok (.goto 24, 3) := by decide +kernel
theorem dX2_worthBy_161 : decode cX2_worthBy 161 = .ok (.aload_n 0, 1) := by decide +kernel
theorem dX2_worthBy_162 : decode cX2_worthBy 162 = .ok (.invokevirtual 87, 3) := by decide +kernel
theorem dX2_worthBy_165 : decode cX2_worthBy 165 = .ok (.istore 7, 2) := by decide +kernel
theorem dX2_worthBy_167 : decode cX2_worthBy 167 = .ok (.aload_n 0, 1) := by decide +kernel
theorem dX2_worthBy_168 : decode cX2_worthBy 168 = .ok (.iload 5, 2) := by decide +kernel
theorem dX2_worthBy_170 : decode cX2_worthBy 170 = .ok (.aload_n 0, 1) := by decide +kernel
theorem dX2_worthBy_171 : decode cX2_worthBy 171 = .ok (.invokevirtual 87, 3) := by decide +kernel
theorem dX2_worthBy_174 : decode cX2_worthBy 174 = .ok (.iload 7, 2) := by decide +kernel
theorem dX2_worthBy_176 : decode cX2_worthBy 176 = .ok (.invokestatic 91, 3) := by decide +kernel
theorem dX2_worthBy_179 : decode cX2_worthBy 179 = .ok (.invokevirtual 83, 3) := by decide +kernel
theorem dX2_worthBy_182 : decode cX2_worthBy 182 = .ok (.iinc 4 1, 3) := by decide +kernel
theorem dX2_worthBy_185 : decode cX2_worthBy 185 = .ok (.goto (-175), 3) := by decide +kernel
theorem dX2_worthBy_188 : decode cX2_worthBy 188 = .ok (.iconst 0, 1) := by decide +kernel
theorem dX2_worthBy_189 : decode cX2_worthBy 189 = .ok (.ireturn, 1) := by decide +kernel
theorem dX2_put_0 : decode cX2_put 0 = .ok (.iload_n 0, 1) := by decide +kernel
theorem dX2_put_1 : decode cX2_put 1 = .ok (.lookupswitch 143 #[(38, 79), (42, 134), (43, 116), (45, 125), (60, 94), (61, 83), (62, 105), (124, 75)], 75) := by decide +kernel
theorem dX2_put_76 : decode cX2_put 76 = .ok (.iload_n 1, 1) := by decide +kernel
theorem dX2_put_77 : decode cX2_put 77 = .ok (.iload_n 2, 1) := by decide +kernel
theorem dX2_put_78 : decode cX2_put 78 = .ok (.ior, 1) := by decide +kernel
theorem dX2_put_79 : decode cX2_put 79 = .ok (.ireturn, 1) := by decide +kernel
theorem dX2_put_80 : decode cX2_put 80 = .ok (.iload_n 1, 1) := by decide +kernel
theorem dX2_put_81 : decode cX2_put 81 = .ok (.iload_n 2, 1) := by decide +kernel
theorem dX2_put_82 : decode cX2_put 82 = .ok (.iand, 1) := by decide +kernel
theorem dX2_put_83 : decode cX2_put 83 = .ok (.ireturn, 1) := by decide +kernel
theorem dX2_put_84 : decode cX2_put 84 = .ok (.iload_n 1, 1) := by decide +kernel
theorem dX2_put_85 : decode cX2_put 85 = .ok (.iload_n 2, 1) := by decide +kernel
theorem dX2_put_86 : decode cX2_put 86 = .ok (.if_icmp .ne 7, 3) := by decide +kernel
theorem dX2_put_89 : decode cX2_put 89 = .ok (.iconst 1, 1) := by decide +kernel
theorem dX2_put_90 : decode cX2_put 90 = .ok (.goto 4, 3) := by decide +kernel
theorem dX2_put_93 : decode cX2_put 93 = .ok (.iconst 0, 1) := by decide +kernel
theorem dX2_put_94 : decode cX2_put 94 = .ok (.ireturn, 1) := by decide +kernel
theorem dX2_put_95 : decode cX2_put 95 = .ok (.iload_n 1, 1) := by decide +kernel
theorem dX2_put_96 : decode cX2_put 96 = .ok (.iload_n 2, 1) := by decide +kernel
theorem dX2_put_97 : decode cX2_put 97 = .ok (.if_icmp .ge 7, 3) := by decide +kernel
theorem dX2_put_100 : decode cX2_put 100 = .ok (.iconst 1, 1) := by decide +kernel
theorem dX2_put_101 : decode cX2_put 101 = .ok (.goto 4, 3) := by decide +kernel
theorem dX2_put_104 : decode cX2_put 104 = .ok (.iconst 0, 1) := by decide +kernel
theorem dX2_put_105 : decode cX2_put 105 = .ok (.ireturn, 1) := by decide +kernel
theorem dX2_put_106 : decode cX2_put 106 = .ok (.iload_n 1, 1) := by decide +kernel
