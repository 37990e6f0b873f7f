theorem dX11_best_108 : decode cX11_best 108 = .ok (.iload 4, 2) := by decide +kernel
theorem dX11_best_110 : decode cX11_best 110 = .ok (.istore_n 2, 1) := by decide +kernel
theorem dX11_best_111 : decode cX11_best 111 = .ok (.iload 5, 2) := by decide +kernel
theorem dX11_best_113 : decode cX11_best 113 = .ok (.invokestatic 459, 3) := by decide +kernel
theorem dX11_best_116 : decode cX11_best 116 = .ok (.istore_n 3, 1) := by decide +kernel
theorem dX11_best_117 : decode cX11_best 117 = .ok (.iinc 4 1, 3) := by decide +kernel
theorem dX11_best_120 : decode cX11_best 120 = .ok (.goto (-93), 3) := by decide +kernel
theorem dX11_best_123 : decode cX11_best 123 = .ok (.iload_n 2, 1) := by decide +kernel
theorem dX11_best_124 : decode cX11_best 124 = .ok (.ireturn, 1) := by decide +kernel
theorem dX11_cross_0 : decode cX11_cross 0 = .ok (.aload_n 0, 1) := by decide +kernel
theorem dX11_cross_1 : decode cX11_cross 1 = .ok (.getfield 267, 3) := by decide +kernel
theorem dX11_cross_4 : decode cX11_cross 4 = .ok (.ifCond .ne 5, 3) := by decide +kernel
theorem dX11_cross_7 : decode cX11_cross 7 = .ok (.iconst (-1), 1) := by decide +kernel
theorem dX11_cross_8 : decode cX11_cross 8 = .ok (.ireturn, 1) := by decide +kernel
theorem dX11_cross_9 : decode cX11_cross 9 = .ok (.iconst 0, 1) := by decide +kernel
theorem dX11_cross_10 : decode cX11_cross 10 = .ok (.istore_n 1, 1) := by decide +kernel
theorem dX11_cross_11 : decode cX11_cross 11 = .ok (.iconst 0, 1) := by decide +kernel
theorem dX11_cross_12 : decode cX11_cross 12 = .ok (.istore_n 2, 1) := by decide +kernel
theorem dX11_cross_13 : decode cX11_cross 13 = .ok (.iload_n 2, 1) := by decide +kernel
theorem dX11_cross_14 : decode cX11_cross 14 = .ok (.aload_n 0, 1) := by decide +kernel
theorem dX11_cross_15 : decode cX11_cross 15 = .ok (.getfield 267, 3) := by decide +kernel
theorem dX11_cross_18 : decode cX11_cross 18 = .ok (.if_icmp .ge 71, 3) := by decide +kernel
theorem dX11_cross_21 : decode cX11_cross 21 = .ok (.iconst 0, 1) := by decide +kernel
theorem dX11_cross_22 : decode cX11_cross 22 = .ok (.istore_n 3, 1) := by decide +kernel
theorem dX11_cross_23 : decode cX11_cross 23 = .ok (.iconst 0, 1) := by decide +kernel
theorem dX11_cross_24 : decode cX11_cross 24 = .ok (.istore 4, 2) := by decide +kernel
theorem dX11_cross_26 : decode cX11_cross 26 = .ok (.iload 4, 2) := by decide +kernel
theorem dX11_cross_28 : decode cX11_cross 28 = .ok (.aload_n 0, 1) := by decide +kernel
theorem dX11_cross_29 : decode cX11_cross 29 = .ok (.getfield 261, 3) := by decide +kernel
theorem dX11_cross_32 : decode cX11_cross 32 = .ok (.if_icmp .ge 36, 3) := by decide +kernel
theorem dX11_cross_35 : decode cX11_cross 35 = .ok (.iload_n 3, 1) := by decide +kernel
theorem dX11_cross_36 : decode cX11_cross 36 = .ok (.aload_n 0, 1) := by decide +kernel
theorem dX11_cross_37 : decode cX11_cross 37 = .ok (.iload 4, 2) := by decide +kernel
theorem dX11_cross_39 : decode cX11_cross 39 = .ok (.invokevirtual 307, 3) := by decide +kernel
theorem dX11_cross_42 : decode cX11_cross 42 = .ok (.ifCond .eq 17, 3) := by decide +kernel
theorem dX11_cross_45 : decode cX11_cross 45 = .ok (.aload_n 0, 1) := by decide +kernel
theorem dX11_cross_46 : decode cX11_cross 46 = .ok (.iload 4, 2) := by decide +kernel
theorem dX11_cross_48 : decode cX11_cross 48 = .ok (.iload_n 2, 1) := by decide +kernel
theorem dX11_cross_49 : decode cX11_cross 49 = .ok (.invokevirtual 368, 3) := by decide +kernel
theorem dX11_cross_52 : decode cX11_cross 52 = .ok (.ifCond .eq 7, 3) := by decide +kernel
theorem dX11_cross_55 : decode cX11_cross 55 = .ok (.iconst 1, 1) := by decide +kernel
theorem dX11_cross_56 : decode cX11_cross 56 = .ok (.goto 4, 3) := by decide +kernel
theorem dX11_cross_59 : decode cX11_cross 59 = .ok (.iconst 0, 1) := by decide +kernel
theorem dX11_cross_60 : decode cX11_cross 60 = .ok (.iadd, 1) := by decide +kernel
theorem dX11_cross_61 : decode cX11_cross 61 = .ok (.istore_n 3, 1) := by decide +kernel
theorem dX11_cross_62 : decode cX11_cross 62 = .ok (.iinc 4 1, 3) := by decide +kernel
theorem dX11_cross_65 : decode cX11_cross 65 = .ok (.goto (-39), 3) := by decide +kernel
theorem dX11_cross_68 : decode cX11_cross 68 = .ok (.iload_n 1, 1) := by decide +kernel
theorem dX11_cross_69 : decode cX11_cross 69 = .ok (.iload_n 3, 1) := by decide +kernel
theorem dX11_cross_70 : decode cX11_cross 70 = .ok (.iconst 3, 1) := by decide +kernel
theorem dX11_cross_71 : decode cX11_cross 71 = .ok (.if_icmp .lt 9, 3) := by decide +kernel
theorem dX11_cross_74 : decode cX11_cross 74 = .ok (.iconst 1, 1) := by decide +kernel
theorem dX11_cross_75 : decode cX11_cross 75 = .ok (.iload_n 2, 1) := by decide +kernel
theorem dX11_cross_76 : decode cX11_cross 76 = .ok (.ishl, 1) := by decide +kernel
theorem dX11_cross_77 : decode cX11_cross 77 = .ok (.goto 4, 3) := by decide +kernel
theorem dX11_cross_80 : decode cX11_cross 80 = .ok (.iconst 0, 1) := by decide +kernel
theorem dX11_cross_81 : decode cX11_cross 81 = .ok (.ior, 1) := by decide +kernel
theorem dX11_cross_82 : decode cX11_cross 82 = .ok (.istore_n 1, 1) := by decide +kernel
theorem dX11_cross_83 : decode cX11_cross 83 = .ok (.iinc 2 1, 3) := by decide +kernel
theorem dX11_cross_86 : decode cX11_cross 86 = .ok (.goto (-73), 3) := by decide +kernel
theorem dX11_cross_89 : decode cX11_cross 89 = .ok (.iload_n 1, 1) := by decide +kernel
theorem dX11_cross_90 : decode cX11_cross 90 = .ok (.ireturn, 1) := by decide +kernel
theorem dX11_realm_0 : decode cX11_realm 0 = .ok (.iconst (-1), 1) := by decide +kernel
theorem dX11_realm_1 : decode cX11_realm 1 = .ok (.istore_n 1, 1) := by decide +kernel
theorem dX11_realm_2 : decode cX11_realm 2 = .ok (.iconst 0, 1) := by decide +kernel
theorem dX11_realm_3 : decode cX11_realm 3 = .ok (.istore_n 2, 1) := by decide +kernel
theorem dX11_realm_4 : decode cX11_realm 4 = .ok (.iconst 0, 1) := by decide +kernel
theorem dX11_realm_5 : decode cX11_realm 5 = .ok (.istore_n 3, 1) := by decide +kernel
theorem dX11_realm_6 : decode cX11_realm 6 = .ok (.iload_n 3, 1) := by decide +kernel
theorem dX11_realm_7 : decode cX11_realm 7 = .ok (.aload_n 0, 1) := by decide +kernel
theorem dX11_realm_8 : decode cX11_realm 8 = .ok (.getfield 267, 3) := by decide +kernel
theorem dX11_realm_11 : decode cX11_realm 11 = .ok (.if_icmp .ge 30, 3) := by decide +kernel
theorem dX11_realm_14 : decode cX11_realm 14 = .ok (.aload_n 0, 1) := by decide +kernel
theorem dX11_realm_15 : decode cX11_realm 15 = .ok (.iload_n 3, 1) := by decide +kernel
theorem dX11_realm_16 : decode cX11_realm 16 = .ok (.invokevirtual 328, 3) := by decide +kernel
theorem dX11_realm_19 : decode cX11_realm 19 = .ok (.invokestatic 400, 3) := by decide +kernel
theorem dX11_realm_22 : decode cX11_realm 22 = .ok (.istore 4, 2) := by decide +kernel
theorem dX11_realm_24 : decode cX11_realm 24 = .ok (.iload 4, 2) := by decide +kernel
theorem dX11_realm_26 : decode cX11_realm 26 = .ok (.iload_n 2, 1) := by decide +kernel
theorem dX11_realm_27 : decode cX11_realm 27 = .ok (.if_icmp .le 8, 3) := by decide +kernel
theorem dX11_realm_30 : decode cX11_realm 30 = .ok (.iload_n 3, 1) := by decide +kernel
theorem dX11_realm_31 : decode cX11_realm 31 = .ok (.istore_n 1, 1) := by decide +kernel
theorem dX11_realm_32 : decode cX11_realm 32 = .ok (.iload 4, 2) := by decide +kernel
theorem dX11_realm_34 : decode cX11_realm 34 = .ok (.istore_n 2, 1) := by decide +kernel
theorem dX11_realm_35 : decode cX11_realm 35 = .ok (.iinc 3 1, 3) := by decide +kernel
theorem dX11_realm_38 : decode cX11_realm 38 = .ok (.goto (-32), 3) := by decide +kernel
theorem dX11_realm_41 : decode cX11_realm 41 = .ok (.iload_n 1, 1) := by decide +kernel
theorem dX11_realm_42 : decode cX11_realm 42 = .ok (.ireturn, 1) := by decide +kernel
theorem dX11_gathered_0 : decode cX11_gathered 0 = .ok (.aload_n 0, 1) := by decide +kernel
theorem dX11_gathered_1 : decode cX11_gathered 1 = .ok (.getfield 267, 3) := by decide +kernel
theorem dX11_gathered_4 : decode cX11_gathered 4 = .ok (.ifCond .ne 7, 3) := by decide +kernel
theorem dX11_gathered_7 : decode cX11_gathered 7 = .ok (.iconst (-1), 1) := by decide +kernel
theorem dX11_gathered_8 : decode cX11_gathered 8 = .ok (.goto 7, 3) := by decide +kernel
theorem dX11_gathered_11 : decode cX11_gathered 11 = .ok (.aload_n 0, 1) := by decide +kernel
theorem dX11_gathered_12 : decode cX11_gathered 12 = .ok (.invokevirtual 409, 3) := by decide +kernel
theorem dX11_gathered_15 : decode cX11_gathered 15 = .ok (.ireturn, 1) := by decide +kernel
theorem dX11_dark_0 : decode cX11_dark 0 = .ok (.aload_n 0, 1) := by decide +kernel
theorem dX11_dark_1 : decode cX11_dark 1 = .ok (.getfield 267, 3) := by decide +kernel
theorem dX11_dark_4 : decode cX11_dark 4 = .ok (.ifCond .ne 5, 3) := by decide +kernel
theorem dX11_dark_7 : decode cX11_dark 7 = .ok (.iconst (-1), 1) := by decide +kernel
theorem dX11_dark_8 : decode cX11_dark 8 = .ok (.ireturn, 1) := by decide +kernel
theorem dX11_dark_9 : decode cX11_dark 9 = .ok (.aload_n 0, 1) := by decide +kernel
theorem dX11_dark_10 : decode cX11_dark 10 = .ok (.invokevirtual 341, 3) := by decide +kernel
theorem dX11_dark_13 : decode cX11_dark 13 = .ok (.iconst 0, 1) := by decide +kernel
theorem dX11_dark_14 : decode cX11_dark 14 = .ok (.istore_n 1, 1) := by decide +kernel
theorem dX11_dark_15 : decode cX11_dark 15 = .ok (.iconst 0, 1) := by decide +kernel
theorem dX11_dark_16 : decode cX11_dark 16 = .ok (.istore_n 2, 1) := by decide +kernel
theorem dX11_dark_17 : decode cX11_dark 17 = .ok (.iload_n 2, 1) := by decide +kernel
theorem dX11_dark_18 : decode cX11_dark 18 = .ok (.aload_n 0, 1) := by decide +kernel
theorem dX11_dark_19 : decode cX11_dark 19 = .ok (.getfield 267, 3) := by decide +kernel
theorem dX11_dark_22 : decode cX11_dark 22 = .ok (.if_icmp .ge 28, 3) := by decide +kernel
theorem dX11_dark_25 : decode cX11_dark 25 = .ok (.iload_n 1, 1) := by decide +kernel
theorem dX11_dark_26 : decode cX11_dark 26 = .ok (.aload_n 0, 1) := by decide +kernel
theorem dX11_dark_27 : decode cX11_dark 27 = .ok (.getfield 74, 3) := by decide +kernel
theorem dX11_dark_30 : decode cX11_dark 30 = .ok (.iload_n 2, 1) := by decide +kernel
theorem dX11_dark_31 : decode cX11_dark 31 = .ok (.iaload, 1) := by decide +kernel
theorem dX11_dark_32 : decode cX11_dark 32 = .ok (.ifCond .ne 9, 3) := by decide +kernel
theorem dX11_dark_35 : decode cX11_dark 35 = .ok (.iconst 1, 1) := by decide +kernel
theorem dX11_dark_36 : decode cX11_dark 36 = .ok (.iload_n 2, 1) := by decide +kernel
theorem dX11_dark_37 : decode cX11_dark 37 = .ok (.ishl, 1) := by decide +kernel
theorem dX11_dark_38 : decode cX11_dark 38 = .ok (.goto 4, 3) := by decide +kernel
theorem dX11_dark_41 : decode cX11_dark 41 = .ok (.iconst 0, 1) := by decide +kernel
theorem dX11_dark_42 : decode cX11_dark 42 = .ok (.ior, 1) := by decide +kernel
theorem dX11_dark_43 : decode cX11_dark 43 = .ok (.istore_n 1, 1) := by decide +kernel
theorem dX11_dark_44 : decode cX11_dark 44 = .ok (.iinc 2 1, 3) := by decide +kernel
theorem dX11_dark_47 : decode cX11_dark 47 = .ok (.goto (-30), 3) := by decide +kernel
theorem dX11_dark_50 : decode cX11_dark 50 = .ok (.iload_n 1, 1) := by decide +kernel
theorem dX11_dark_51 : decode cX11_dark 51 = .ok (.ireturn, 1) := by decide +kernel
theorem dX11_borders_0 : decode cX11_borders 0 = .ok (.aload_n 0, 1) := by decide +kernel
theorem dX11_borders_1 : decode cX11_borders 1 = .ok (.iload_n 1, 1) := by decide +kernel
theorem dX11_borders_2 : decode cX11_borders 2 = .ok (.invokevirtual 350, 3) := by decide +kernel
theorem dX11_borders_5 : decode cX11_borders 5 = .ok (.ifCond .ne 5, 3) := by decide +kernel
theorem dX11_borders_8 : decode cX11_borders 8 = .ok (.iconst (-1), 1) := by decide +kernel
theorem dX11_borders_9 : decode cX11_borders 9 = .ok (.ireturn, 1) := by decide +kernel
theorem dX11_borders_10 : decode cX11_borders 10 = .ok (.aload_n 0, 1) := by decide +kernel
theorem dX11_borders_11 : decode cX11_borders 11 = .ok (.iload_n 1, 1) := by decide +kernel
theorem dX11_borders_12 : decode cX11_borders 12 = .ok (.invokevirtual 328, 3) := by decide +kernel
theorem dX11_borders_15 : decode cX11_borders 15 = .ok (.istore_n 2, 1) := by decide +kernel
theorem dX11_borders_16 : decode cX11_borders 16 = .ok (.iconst 0, 1) := by decide +kernel
theorem dX11_borders_17 : decode cX11_borders 17 = .ok (.istore_n 3, 1) := by decide +kernel
theorem dX11_borders_18 : decode cX11_borders 18 = .ok (.iconst 0, 1) := by decide +kernel
theorem dX11_borders_19 : decode cX11_borders 19 = .ok (.istore 4, 2) := by decide +kernel
theorem dX11_borders_21 : decode cX11_borders 21 = .ok (.iload 4, 2) := by decide +kernel
theorem dX11_borders_23 : decode cX11_borders 23 = .ok (.aload_n 0, 1) := by decide +kernel
theorem dX11_borders_24 : decode cX11_borders 24 = .ok (.getfield 261, 3) := by decide +kernel
theorem dX11_borders_27 : decode cX11_borders 27 = .ok (.if_icmp .ge 52, 3) := by decide +kernel
theorem dX11_borders_30 : decode cX11_borders 30 = .ok (.iload_n 3, 1) := by decide +kernel
theorem dX11_borders_31 : decode cX11_borders 31 = .ok (.aload_n 0, 1) := by decide +kernel
theorem dX11_borders_32 : decode cX11_borders 32 = .ok (.iload 4, 2) := by decide +kernel
theorem dX11_borders_34 : decode cX11_borders 34 = .ok (.invokevirtual 307, 3) := by decide +kernel
theorem dX11_borders_37 : decode cX11_borders 37 = .ok (.ifCond .eq 33, 3) := by decide +kernel
theorem dX11_borders_40 : decode cX11_borders 40 = .ok (.iload_n 2, 1) := by decide +kernel
theorem dX11_borders_41 : decode cX11_borders 41 = .ok (.aload_n 0, 1) := by decide +kernel
theorem dX11_borders_42 : decode cX11_borders 42 = .ok (.iload 4, 2) := by decide +kernel
theorem dX11_borders_44 : decode cX11_borders 44 = .ok (.invokevirtual 301, 3) := by decide +kernel
theorem dX11_borders_47 : decode cX11_borders 47 = .ok (.invokestatic 228, 3) := by decide +kernel
theorem dX11_borders_50 : decode cX11_borders 50 = .ok (.iload_n 2, 1) := by decide +kernel
theorem dX11_borders_51 : decode cX11_borders 51 = .ok (.aload_n 0, 1) := by decide +kernel
theorem dX11_borders_52 : decode cX11_borders 52 = .ok (.iload 4, 2) := by decide +kernel
theorem dX11_borders_54 : decode cX11_borders 54 = .ok (.invokevirtual 304, 3) := by decide +kernel
theorem dX11_borders_57 : decode cX11_borders 57 = .ok (.invokestatic 228, 3) := by decide +kernel
theorem dX11_borders_60 : decode cX11_borders 60 = .ok (.if_icmp .eq 10, 3) := by decide +kernel
theorem dX11_borders_63 : decode cX11_borders 63 = .ok (.iconst 1, 1) := by decide +kernel
theorem dX11_borders_64 : decode cX11_borders 64 = .ok (.iload 4, 2) := by decide +kernel
theorem dX11_borders_66 : decode cX11_borders 66 = .ok (.ishl, 1) := by decide +kernel
theorem dX11_borders_67 : decode cX11_borders 67 = .ok (.goto 4, 3) := by decide +kernel
theorem dX11_borders_70 : decode cX11_borders 70 = .ok (.iconst 0, 1) := by decide +kernel
theorem dX11_borders_71 : decode cX11_borders 71 = .ok (.ior, 1) := by decide +kernel
theorem dX11_borders_72 : decode cX11_borders 72 = .ok (.istore_n 3, 1) := by decide +kernel
theorem dX11_borders_73 : decode cX11_borders 73 = .ok (.iinc 4 1, 3) := by decide +kernel
theorem dX11_borders_76 : decode cX11_borders 76 = .ok (.goto (-55), 3) := by decide +kernel
theorem dX11_borders_79 : decode cX11_borders 79 = .ok (.iload_n 3, 1) := by decide +kernel
theorem dX11_borders_80 : decode cX11_borders 80 = .ok (.ireturn, 1) := by decide +kernel
theorem dX11_guests_0 : decode cX11_guests 0 = .ok (.aload_n 0, 1) := by decide +kernel
theorem dX11_guests_1 : decode cX11_guests 1 = .ok (.getfield 267, 3) := by decide +kernel
theorem dX11_guests_4 : decode cX11_guests 4 = .ok (.ifCond .ne 5, 3) := by decide +kernel
theorem dX11_guests_7 : decode cX11_guests 7 = .ok (.iconst (-1), 1) := by decide +kernel
theorem dX11_guests_8 : decode cX11_guests 8 = .ok (.ireturn, 1) := by decide +kernel
theorem dX11_guests_9 : decode cX11_guests 9 = .ok (.iconst 0, 1) := by decide +kernel
theorem dX11_guests_10 : decode cX11_guests 10 = .ok (.istore_n 1, 1) := by decide +kernel
theorem dX11_guests_11 : decode cX11_guests 11 = .ok (.iconst 0, 1) := by decide +kernel
theorem dX11_guests_12 : decode cX11_guests 12 = .ok (.istore_n 2, 1) := by decide +kernel
theorem dX11_guests_13 : decode cX11_guests 13 = .ok (.iload_n 2, 1) := by decide +kernel
theorem dX11_guests_14 : decode cX11_guests 14 = .ok (.aload_n 0, 1) := by decide +kernel
theorem dX11_guests_15 : decode cX11_guests 15 = .ok (.getfield 264, 3) := by decide +kernel
theorem dX11_guests_18 : decode cX11_guests 18 = .ok (.if_icmp .ge 40, 3) := by decide +kernel
theorem dX11_guests_21 : decode cX11_guests 21 = .ok (.iload_n 1, 1) := by decide +kernel
theorem dX11_guests_22 : decode cX11_guests 22 = .ok (.aload_n 0, 1) := by decide +kernel
theorem dX11_guests_23 : decode cX11_guests 23 = .ok (.aload_n 0, 1) := by decide +kernel
theorem dX11_guests_24 : decode cX11_guests 24 = .ok (.aload_n 0, 1) := by decide +kernel
theorem dX11_guests_25 : decode cX11_guests 25 = .ok (.getfield 58, 3) := by decide +kernel
theorem dX11_guests_28 : decode cX11_guests 28 = .ok (.bipush 11, 2) := by decide +kernel
theorem dX11_guests_30 : decode cX11_guests 30 = .ok (.iload_n 2, 1) := by decide +kernel
theorem dX11_guests_31 : decode cX11_guests 31 = .ok (.iadd, 1) := by decide +kernel
theorem dX11_guests_32 : decode cX11_guests 32 = .ok (.iaload, 1) := by decide +kernel
theorem dX11_guests_33 : decode cX11_guests 33 = .ok (.invokevirtual 328, 3) := by decide +kernel
theorem dX11_guests_36 : decode cX11_guests 36 = .ok (.invokevirtual 347, 3) := by decide +kernel
theorem dX11_guests_39 : decode cX11_guests 39 = .ok (.iload_n 2, 1) := by decide +kernel
theorem dX11_guests_40 : decode cX11_guests 40 = .ok (.if_icmp .eq 9, 3) := by decide +kernel
theorem dX11_guests_43 : decode cX11_guests 43 = .ok (.iconst 1, 1) := by decide +kernel
theorem dX11_guests_44 : decode cX11_guests 44 = .ok (.iload_n 2, 1) := by decide +kernel
theorem dX11_guests_45 : decode cX11_guests 45 = .ok (.ishl, 1) := by decide +kernel
theorem dX11_guests_46 : decode cX11_guests 46 = .ok (.goto 4, 3) := by decide +kernel
theorem dX11_guests_49 : decode cX11_guests 49 = .ok (.iconst 0, 1) := by decide +kernel
theorem dX11_guests_50 : decode cX11_guests 50 = .ok (.ior, 1) := by decide +kernel
theorem dX11_guests_51 : decode cX11_guests 51 = .ok (.istore_n 1, 1) := by decide +kernel
theorem dX11_guests_52 : decode cX11_guests 52 = .ok (.iinc 2 1, 3) := by decide +kernel
theorem dX11_guests_55 : decode cX11_guests 55 = .ok (.goto (-42), 3) := by decide +kernel
theorem dX11_guests_58 : decode cX11_guests 58 = .ok (.iload_n 1, 1) := by decide +kernel
theorem dX11_guests_59 : decode cX11_guests 59 = .ok (.ireturn, 1) := by decide +kernel
theorem dX11_image_0 : decode cX11_image 0 = .ok (.aload_n 0, 1) := by decide +kernel
theorem dX11_image_1 : decode cX11_image 1 = .ok (.getfield 267, 3) := by decide +kernel
theorem dX11_image_4 : decode cX11_image 4 = .ok (.ifCond .ne 5, 3) := by decide +kernel
theorem dX11_image_7 : decode cX11_image 7 = .ok (.iconst (-1), 1) := by decide +kernel
theorem dX11_image_8 : decode cX11_image 8 = .ok (.ireturn, 1) := by decide +kernel
theorem dX11_image_9 : decode cX11_image 9 = .ok (.iconst 0, 1) := by decide +kernel
theorem dX11_image_10 : decode cX11_image 10 = .ok (.istore_n 1, 1) := by decide +kernel
theorem dX11_image_11 : decode cX11_image 11 = .ok (.iload_n 1, 1) := by decide +kernel
theorem dX11_image_12 : decode cX11_image 12 = .ok (.sipush 199, 3) := by decide +kernel
theorem dX11_image_15 : decode cX11_image 15 = .ok (.if_icmp .ge 21, 3) := by decide +kernel
theorem dX11_image_18 : decode cX11_image 18 = .ok (.aload_n 0, 1) := by decide +kernel
theorem dX11_image_19 : decode cX11_image 19 = .ok (.getfield 99, 3) := by decide +kernel
theorem dX11_image_22 : decode cX11_image 22 = .ok (.iload_n 1, 1) := by decide +kernel
theorem dX11_image_23 : decode cX11_image 23 = .ok (.aload_n 0, 1) := by decide +kernel
theorem dX11_image_24 : decode cX11_image 24 = .ok (.getfield 58, 3) := by decide +kernel
theorem dX11_image_27 : decode cX11_image 27 = .ok (.iload_n 1, 1) := by decide +kernel
theorem dX11_image_28 : decode cX11_image 28 = .ok (.iaload, 1) := by decide +kernel
theorem dX11_image_29 : decode cX11_image 29 = .ok (.iastore, 1) := by decide +kernel
theorem dX11_image_30 : decode cX11_image 30 = .ok (.iinc 1 1, 3) := by decide +kernel
theorem dX11_image_33 : decode cX11_image 33 = .ok (.goto (-22), 3) := by decide +kernel
theorem dX11_image_36 : decode cX11_image 36 = .ok (.aload_n 0, 1) := by decide +kernel
theorem dX11_image_37 : decode cX11_image 37 = .ok (.iconst 1, 1) := by decide +kernel
theorem dX11_image_38 : decode cX11_image 38 = .ok (.putfield 285, 3) := by decide +kernel
theorem dX11_image_41 : decode cX11_image 41 = .ok (.aload_n 0, 1) := by decide +kernel
theorem dX11_image_42 : decode cX11_image 42 = .ok (.getfield 58, 3) := by decide +kernel
theorem dX11_image_45 : decode cX11_image 45 = .ok (.bipush 17, 2) := by decide +kernel
theorem dX11_image_47 : decode cX11_image 47 = .ok (.iaload, 1) := by decide +kernel
theorem dX11_image_48 : decode cX11_image 48 = .ok (.ireturn, 1) := by decide +kernel
theorem dX11_back_0 : decode cX11_back 0 = .ok (.aload_n 0, 1) := by decide +kernel
theorem dX11_back_1 : decode cX11_back 1 = .ok (.getfield 285, 3) := by decide +kernel
theorem dX11_back_4 : decode cX11_back 4 = .ok (.ifCond .ne 5, 3) := by decide +kernel
theorem dX11_back_7 : decode cX11_back 7 = .ok (.iconst (-1), 1) := by decide +kernel
theorem dX11_back_8 : decode cX11_back 8 = .ok (.ireturn, 1) := by decide +kernel
theorem dX11_back_9 : decode cX11_back 9 = .ok (.iconst 0, 1) := by decide +kernel
theorem dX11_back_10 : decode cX11_back 10 = .ok (.istore_n 1, 1) := by decide +kernel
theorem dX11_back_11 : decode cX11_back 11 = .ok (.iload_n 1, 1) := by decide +kernel
theorem dX11_back_12 : decode cX11_back 12 = .ok (.sipush 199, 3) := by decide +kernel
theorem dX11_back_15 : decode cX11_back 15 = .ok (.if_icmp .ge 21, 3) := by decide +kernel
theorem dX11_back_18 : decode cX11_back 18 = .ok (.aload_n 0, 1) := by decide +kernel
theorem dX11_back_19 : decode cX11_back 19 = .ok (.getfield 58, 3) := by decide +kernel
theorem dX11_back_22 : decode cX11_back 22 = .ok (.iload_n 1, 1) := by decide +kernel
theorem dX11_back_23 : decode cX11_back 23 = .ok (.aload_n 0, 1) := by decide +kernel
theorem dX11_back_24 : decode cX11_back 24 = .ok (.getfield 99, 3) := by decide +kernel
theorem dX11_back_27 : decode cX11_back 27 = .ok (.iload_n 1, 1) := by decide +kernel
theorem dX11_back_28 : decode cX11_back 28 = .ok (.iaload, 1) := by decide +kernel
theorem dX11_back_29 : decode cX11_back 29 = .ok (.iastore, 1) := by decide +kernel
theorem dX11_back_30 : decode cX11_back 30 = .ok (.iinc 1 1, 3) := by decide +kernel
theorem dX11_back_33 : decode cX11_back 33 = .ok (.goto (-22), 3) := by decide +kernel
theorem dX11_back_36 : decode cX11_back 36 = .ok (.aload_n 0, 1) := by decide +kernel
theorem dX11_back_37 : decode cX11_back 37 = .ok (.iconst 0, 1) := by decide +kernel
theorem dX11_back_38 : decode cX11_back 38 = .ok (.putfield 282, 3) := by decide +kernel
theorem dX11_back_41 : decode cX11_back 41 = .ok (.aload_n 0, 1) := by decide +kernel
theorem dX11_back_42 : decode cX11_back 42 = .ok (.getfield 58, 3) := by decide +kernel
theorem dX11_back_45 : decode cX11_back 45 = .ok (.bipush 17, 2) := by decide +kernel
theorem dX11_back_47 : decode cX11_back 47 = .ok (.iaload, 1) := by decide +kernel
theorem dX11_back_48 : decode cX11_back 48 = .ok (.ireturn, 1) := by decide +kernel
theorem dX11_count_0 : decode cX11_count 0 = .ok (.iload_n 1, 1) := by decide +kernel
theorem dX11_count_1 : decode cX11_count 1 = .ok (.tableswitch 156 0 14 #[75, 80, 85, 90, 95, 100, 105, 113, 118, 123, 128, 133, 138, 143, 151], 75) := by decide +kernel
theorem dX11_count_76 : decode cX11_count 76 = .ok (.aload_n 0, 1) := by decide +kernel
theorem dX11_count_77 : decode cX11_count 77 = .ok (.getfield 267, 3) := by decide +kernel
theorem dX11_count_80 : decode cX11_count 80 = .ok (.ireturn, 1) := by decide +kernel
theorem dX11_count_81 : decode cX11_count 81 = .ok (.aload_n 0, 1) := by decide +kernel
theorem dX11_count_82 : decode cX11_count 82 = .ok (.getfield 261, 3) := by decide +kernel
theorem dX11_count_85 : decode cX11_count 85 = .ok (.ireturn, 1) := by decide +kernel
theorem dX11_count_86 : decode cX11_count 86 = .ok (.aload_n 0, 1) := by decide +kernel
theorem dX11_count_87 : decode cX11_count 87 = .ok (.getfield 264, 3) := by decide +kernel
theorem dX11_count_90 : decode cX11_count 90 = .ok (.ireturn, 1) := by decide +kernel
theorem dX11_count_91 : decode cX11_count 91 = .ok (.aload_n 0, 1) := by decide +kernel
theorem dX11_count_92 : decode cX11_count 92 = .ok (.getfield 292, 3) := by decide +kernel
theorem dX11_count_95 : decode cX11_count 95 = .ok (.ireturn, 1) := by decide +kernel
theorem dX11_count_96 : decode cX11_count 96 = .ok (.aload_n 0, 1) := by decide +kernel
theorem dX11_count_97 : decode cX11_count 97 = .ok (.getfield 109, 3) := by decide +kernel
theorem dX11_count_100 : decode cX11_count 100 = .ok (.ireturn, 1) := by decide +kernel
theorem dX11_count_101 : decode cX11_count 101 = .ok (.aload_n 0, 1) := by decide +kernel
theorem dX11_count_102 : decode cX11_count 102 = .ok (.getfield 64, 3) := by decide +kernel
theorem dX11_count_105 : decode cX11_count 105 = .ok (.ireturn, 1) := by decide +kernel
theorem dX11_count_106 : decode cX11_count 106 = .ok (.aload_n 0, 1) := by decide +kernel
theorem dX11_count_107 : decode cX11_count 107 = .ok (.getfield 58, 3) := by decide +kernel
theorem dX11_count_110 : decode cX11_count 110 = .ok (.bipush 17, 2) := by decide +kernel
theorem dX11_count_112 : decode cX11_count 112 = .ok (.iaload, 1) := by decide +kernel
theorem dX11_count_113 : decode cX11_count 113 = .ok (.ireturn, 1) := by decide +kernel
theorem dX11_count_114 : decode cX11_count 114 = .ok (.aload_n 0, 1) := by decide +kernel
theorem dX11_count_115 : decode cX11_count 115 = .ok (.invokevirtual 362, 3) := by decide +kernel
theorem dX11_count_118 : decode cX11_count 118 = .ok (.ireturn, 1) := by decide +kernel
theorem dX11_count_119 : decode cX11_count 119 = .ok (.aload_n 0, 1) := by decide +kernel
theorem dX11_count_120 : decode cX11_count 120 = .ok (.invokevirtual 314, 3) := by decide +kernel
theorem dX11_count_123 : decode cX11_count 123 = .ok (.ireturn, 1) := by decide +kernel
theorem dX11_count_124 : decode cX11_count 124 = .ok (.aload_n 0, 1) := by decide +kernel
theorem dX11_count_125 : decode cX11_count 125 = .ok (.invokevirtual 403, 3) := by decide +kernel
theorem dX11_count_128 : decode cX11_count 128 = .ok (.ireturn, 1) := by decide +kernel
theorem dX11_count_129 : decode cX11_count 129 = .ok (.aload_n 0, 1) := by decide +kernel
theorem dX11_count_130 : decode cX11_count 130 = .ok (.invokevirtual 421, 3) := by decide +kernel
theorem dX11_count_133 : decode cX11_count 133 = .ok (.ireturn, 1) := by decide +kernel
theorem dX11_count_134 : decode cX11_count 134 = .ok (.aload_n 0, 1) := by decide +kernel
theorem dX11_count_135 : decode cX11_count 135 = .ok (.getfield 383, 3) := by decide +kernel
theorem dX11_count_138 : decode cX11_count 138 = .ok (.ireturn, 1) := by decide +kernel
theorem dX11_count_139 : decode cX11_count 139 = .ok (.aload_n 0, 1) := by decide +kernel
theorem dX11_count_140 : decode cX11_count 140 = .ok (.getfield 279, 3) := by decide +kernel
theorem dX11_count_143 : decode cX11_count 143 = .ok (.ireturn, 1) := by decide +kernel
theorem dX11_count_144 : decode cX11_count 144 = .ok (.aload_n 0, 1) := by decide +kernel
theorem dX11_count_145 : decode cX11_count 145 = .ok (.getfield 58, 3) := by decide +kernel
theorem dX11_count_148 : decode cX11_count 148 = .ok (.bipush 18, 2) := by decide +kernel
theorem dX11_count_150 : decode cX11_count 150 = .ok (.iaload, 1) := by decide +kernel
theorem dX11_count_151 : decode cX11_count 151 = .ok (.ireturn, 1) := by decide +kernel
theorem dX11_count_152 : decode cX11_count 152 = .ok (.aload_n 0, 1) := by decide +kernel
theorem dX11_count_153 : decode cX11_count 153 = .ok (.getfield 282, 3) := by decide +kernel
theorem dX11_count_156 : decode cX11_count 156 = .ok (.ireturn, 1) := by decide +kernel
theorem dX11_count_157 : decode cX11_count 157 = .ok (.ldc_w 433, 3) := by decide +kernel
theorem dX11_count_160 : decode cX11_count 160 = .ok (.ireturn, 1) := by decide +kernel
theorem dJ6_numberOfTrailingZeros_0f7a4_0 : decode cJ6_numberOfTrailingZeros_0f7a4 0 = .ok (.iload_n 0, 1) := by decide +kernel
theorem dJ6_numberOfTrailingZeros_0f7a4_1 : decode cJ6_numberOfTrailingZeros_0f7a4 1 = .ok (.iconst (-1), 1) := by decide +kernel
theorem dJ6_numberOfTrailingZeros_0f7a4_2 : decode cJ6_numberOfTrailingZeros_0f7a4 2 = .ok (.ixor, 1) := by decide +kernel
theorem dJ6_numberOfTrailingZeros_0f7a4_3 : decode cJ6_numberOfTrailingZeros_0f7a4 3 = .ok (.iload_n 0, 1) := by decide +kernel
theorem dJ6_numberOfTrailingZeros_0f7a4_4 : decode cJ6_numberOfTrailingZeros_0f7a4 4 = .ok (.iconst 1, 1) := by decide +kernel
theorem dJ6_numberOfTrailingZeros_0f7a4_5 : decode cJ6_numberOfTrailingZeros_0f7a4 5 = .ok (.isub, 1) := by decide +kernel
theorem dJ6_numberOfTrailingZeros_0f7a4_6 : decode cJ6_numberOfTrailingZeros_0f7a4 6 = .ok (.iand, 1) := by decide +kernel
theorem dJ6_numberOfTrailingZeros_0f7a4_7 : decode cJ6_numberOfTrailingZeros_0f7a4 7 = .ok (.istore_n 0, 1) := by decide +kernel
theorem dJ6_numberOfTrailingZeros_0f7a4_8 : decode cJ6_numberOfTrailingZeros_0f7a4 8 = .ok (.iload_n 0, 1) := by decide +kernel
theorem dJ6_numberOfTrailingZeros_0f7a4_9 : decode cJ6_numberOfTrailingZeros_0f7a4 9 = .ok (.ifCond .gt 8, 3) := by decide +kernel
theorem dJ6_numberOfTrailingZeros_0f7a4_12 : decode cJ6_numberOfTrailingZeros_0f7a4 12 = .ok (.iload_n 0, 1) := by decide +kernel
theorem dJ6_numberOfTrailingZeros_0f7a4_13 : decode cJ6_numberOfTrailingZeros_0f7a4 13 = .ok (.bipush 32, 2) := by decide +kernel
theorem dJ6_numberOfTrailingZeros_0f7a4_15 : decode cJ6_numberOfTrailingZeros_0f7a4 15 = .ok (.iand, 1) := by decide +kernel
theorem dJ6_numberOfTrailingZeros_0f7a4_16 : decode cJ6_numberOfTrailingZeros_0f7a4 16 = .ok (.ireturn, 1) := by decide +kernel
theorem dJ6_numberOfTrailingZeros_0f7a4_17 : decode cJ6_numberOfTrailingZeros_0f7a4 17 = .ok (.iconst 1, 1) := by decide +kernel
theorem dJ6_numberOfTrailingZeros_0f7a4_18 : decode cJ6_numberOfTrailingZeros_0f7a4 18 = .ok (.istore_n 1, 1) := by decide +kernel
theorem dJ6_numberOfTrailingZeros_0f7a4_19 : decode cJ6_numberOfTrailingZeros_0f7a4 19 = .ok (.iload_n 0, 1) := by decide +kernel
theorem dJ6_numberOfTrailingZeros_0f7a4_20 : decode cJ6_numberOfTrailingZeros_0f7a4 20 = .ok (.ldc_w 264, 3) := by decide +kernel
theorem dJ6_numberOfTrailingZeros_0f7a4_23 : decode cJ6_numberOfTrailingZeros_0f7a4 23 = .ok (.if_icmp .le 11, 3) := by decide +kernel
theorem dJ6_numberOfTrailingZeros_0f7a4_26 : decode cJ6_numberOfTrailingZeros_0f7a4 26 = .ok (.iinc 1 16, 3) := by decide +kernel
theorem dJ6_numberOfTrailingZeros_0f7a4_29 : decode cJ6_numberOfTrailingZeros_0f7a4 29 = .ok (.iload_n 0, 1) := by decide +kernel
theorem dJ6_numberOfTrailingZeros_0f7a4_30 : decode cJ6_numberOfTrailingZeros_0f7a4 30 = .ok (.bipush 16, 2) := by decide +kernel
theorem dJ6_numberOfTrailingZeros_0f7a4_32 : decode cJ6_numberOfTrailingZeros_0f7a4 32 = .ok (.iushr, 1) := by decide +kernel
theorem dJ6_numberOfTrailingZeros_0f7a4_33 : decode cJ6_numberOfTrailingZeros_0f7a4 33 = .ok (.istore_n 0, 1) := by decide +kernel
theorem dJ6_numberOfTrailingZeros_0f7a4_34 : decode cJ6_numberOfTrailingZeros_0f7a4 34 = .ok (.iload_n 0, 1) := by decide +kernel
theorem dJ6_numberOfTrailingZeros_0f7a4_35 : decode cJ6_numberOfTrailingZeros_0f7a4 35 = .ok (.sipush 256, 3) := by decide +kernel
theorem dJ6_numberOfTrailingZeros_0f7a4_38 : decode cJ6_numberOfTrailingZeros_0f7a4 38 = .ok (.if_icmp .le 11, 3) := by decide +kernel
theorem dJ6_numberOfTrailingZeros_0f7a4_41 : decode cJ6_numberOfTrailingZeros_0f7a4 41 = .ok (.iinc 1 8, 3) := by decide +kernel
theorem dJ6_numberOfTrailingZeros_0f7a4_44 : decode cJ6_numberOfTrailingZeros_0f7a4 44 = .ok (.iload_n 0, 1) := by decide +kernel
theorem dJ6_numberOfTrailingZeros_0f7a4_45 : decode cJ6_numberOfTrailingZeros_0f7a4 45 = .ok (.bipush 8, 2) := by decide +kernel
theorem dJ6_numberOfTrailingZeros_0f7a4_47 : decode cJ6_numberOfTrailingZeros_0f7a4 47 = .ok (.iushr, 1) := by decide +kernel
theorem dJ6_numberOfTrailingZeros_0f7a4_48 : decode cJ6_numberOfTrailingZeros_0f7a4 48 = .ok (.istore_n 0, 1) := by decide +kernel
theorem dJ6_numberOfTrailingZeros_0f7a4_49 : decode cJ6_numberOfTrailingZeros_0f7a4 49 = .ok (.iload_n 0, 1) := by decide +kernel
theorem dJ6_numberOfTrailingZeros_0f7a4_50 : decode cJ6_numberOfTrailingZeros_0f7a4 50 = .ok (.bipush 16, 2) := by decide +kernel
theorem dJ6_numberOfTrailingZeros_0f7a4_52 : decode cJ6_numberOfTrailingZeros_0f7a4 52 = .ok (.if_icmp .le 10, 3) := by decide +kernel
theorem dJ6_numberOfTrailingZeros_0f7a4_55 : decode cJ6_numberOfTrailingZeros_0f7a4 55 = .ok (.iinc 1 4, 3) := by decide +kernel
theorem dJ6_numberOfTrailingZeros_0f7a4_58 : decode cJ6_numberOfTrailingZeros_0f7a4 58 = .ok (.iload_n 0, 1) := by decide +kernel
theorem dJ6_numberOfTrailingZeros_0f7a4_59 : decode cJ6_numberOfTrailingZeros_0f7a4 59 = .ok (.iconst 4, 1) := by decide +kernel
theorem dJ6_numberOfTrailingZeros_0f7a4_60 : decode cJ6_numberOfTrailingZeros_0f7a4 60 = .ok (.iushr, 1) := by decide +kernel
theorem dJ6_numberOfTrailingZeros_0f7a4_61 : decode cJ6_numberOfTrailingZeros_0f7a4 61 = .ok (.istore_n 0, 1) := by decide +kernel
theorem dJ6_numberOfTrailingZeros_0f7a4_62 : decode cJ6_numberOfTrailingZeros_0f7a4 62 = .ok (.iload_n 0, 1) := by decide +kernel
theorem dJ6_numberOfTrailingZeros_0f7a4_63 : decode cJ6_numberOfTrailingZeros_0f7a4 63 = .ok (.iconst 4, 1) := by decide +kernel
theorem dJ6_numberOfTrailingZeros_0f7a4_64 : decode cJ6_numberOfTrailingZeros_0f7a4 64 = .ok (.if_icmp .le 10, 3) := by decide +kernel
theorem dJ6_numberOfTrailingZeros_0f7a4_67 : decode cJ6_numberOfTrailingZeros_0f7a4 67 = .ok (.iinc 1 2, 3) := by decide +kernel
theorem dJ6_numberOfTrailingZeros_0f7a4_70 : decode cJ6_numberOfTrailingZeros_0f7a4 70 = .ok (.iload_n 0, 1) := by decide +kernel
theorem dJ6_numberOfTrailingZeros_0f7a4_71 : decode cJ6_numberOfTrailingZeros_0f7a4 71 = .ok (.iconst 2, 1) := by decide +kernel
theorem dJ6_numberOfTrailingZeros_0f7a4_72 : decode cJ6_numberOfTrailingZeros_0f7a4 72 = .ok (.iushr, 1) := by decide +kernel
theorem dJ6_numberOfTrailingZeros_0f7a4_73 : decode cJ6_numberOfTrailingZeros_0f7a4 73 = .ok (.istore_n 0, 1) := by decide +kernel
theorem dJ6_numberOfTrailingZeros_0f7a4_74 : decode cJ6_numberOfTrailingZeros_0f7a4 74 = .ok (.iload_n 1, 1) := by decide +kernel
theorem dJ6_numberOfTrailingZeros_0f7a4_75 : decode cJ6_numberOfTrailingZeros_0f7a4 75 = .ok (.iload_n 0, 1) := by decide +kernel
theorem dJ6_numberOfTrailingZeros_0f7a4_76 : decode cJ6_numberOfTrailingZeros_0f7a4 76 = .ok (.iconst 1, 1) := by decide +kernel
theorem dJ6_numberOfTrailingZeros_0f7a4_77 : decode cJ6_numberOfTrailingZeros_0f7a4 77 = .ok (.iushr, 1) := by decide +kernel
theorem dJ6_numberOfTrailingZeros_0f7a4_78 : decode cJ6_numberOfTrailingZeros_0f7a4 78 = .ok (.iadd, 1) := by decide +kernel
theorem dJ6_numberOfTrailingZeros_0f7a4_79 : decode cJ6_numberOfTrailingZeros_0f7a4 79 = .ok (.ireturn, 1) := by decide +kernel
theorem dJ6_bitCount_0f7a4_0 : decode cJ6_bitCount_0f7a4 0 = .ok (.iload_n 0, 1) := by decide +kernel
theorem dJ6_bitCount_0f7a4_1 : decode cJ6_bitCount_0f7a4 1 = .ok (.iload_n 0, 1) := by decide +kernel
theorem dJ6_bitCount_0f7a4_2 : decode cJ6_bitCount_0f7a4 2 = .ok (.iconst 1, 1) := by decide +kernel
theorem dJ6_bitCount_0f7a4_3 : decode cJ6_bitCount_0f7a4 3 = .ok (.iushr, 1) := by decide +kernel
theorem dJ6_bitCount_0f7a4_4 : decode cJ6_bitCount_0f7a4 4 = .ok (.ldc_w 265, 3) := by decide +kernel
theorem dJ6_bitCount_0f7a4_7 : decode cJ6_bitCount_0f7a4 7 = .ok (.iand, 1) := by decide +kernel
theorem dJ6_bitCount_0f7a4_8 : decode cJ6_bitCount_0f7a4 8 = .ok (.isub, 1) := by decide +kernel
theorem dJ6_bitCount_0f7a4_9 : decode cJ6_bitCount_0f7a4 9 = .ok (.istore_n 0, 1) := by decide +kernel
theorem dJ6_bitCount_0f7a4_10 : decode cJ6_bitCount_0f7a4 10 = .ok (.iload_n 0, 1) := by decide +kernel
theorem dJ6_bitCount_0f7a4_11 : decode cJ6_bitCount_0f7a4 11 = .ok (.ldc_w 266, 3) := by decide +kernel
theorem dJ6_bitCount_0f7a4_14 : decode cJ6_bitCount_0f7a4 14 = .ok (.iand, 1) := by decide +kernel
theorem dJ6_bitCount_0f7a4_15 : decode cJ6_bitCount_0f7a4 15 = .ok (.iload_n 0, 1) := by decide +kernel
theorem dJ6_bitCount_0f7a4_16 : decode cJ6_bitCount_0f7a4 16 = .ok (.iconst 2, 1) := by decide +kernel
theorem dJ6_bitCount_0f7a4_17 : decode cJ6_bitCount_0f7a4 17 = .ok (.iushr, 1) := by decide +kernel
theorem dJ6_bitCount_0f7a4_18 : decode cJ6_bitCount_0f7a4 18 = .ok (.ldc_w 266, 3) := by decide +kernel
theorem dJ6_bitCount_0f7a4_21 : decode cJ6_bitCount_0f7a4 21 = .ok (.iand, 1) := by decide +kernel
theorem dJ6_bitCount_0f7a4_22 : decode cJ6_bitCount_0f7a4 22 = .ok (.iadd, 1) := by decide +kernel
theorem dJ6_bitCount_0f7a4_23 : decode cJ6_bitCount_0f7a4 23 = .ok (.istore_n 0, 1) := by decide +kernel
theorem dJ6_bitCount_0f7a4_24 : decode cJ6_bitCount_0f7a4 24 = .ok (.iload_n 0, 1) := by decide +kernel
theorem dJ6_bitCount_0f7a4_25 : decode cJ6_bitCount_0f7a4 25 = .ok (.iload_n 0, 1) := by decide +kernel
theorem dJ6_bitCount_0f7a4_26 : decode cJ6_bitCount_0f7a4 26 = .ok (.iconst 4, 1) := by decide +kernel
theorem dJ6_bitCount_0f7a4_27 : decode cJ6_bitCount_0f7a4 27 = .ok (.iushr, 1) := by decide +kernel
theorem dJ6_bitCount_0f7a4_28 : decode cJ6_bitCount_0f7a4 28 = .ok (.iadd, 1) := by decide +kernel
theorem dJ6_bitCount_0f7a4_29 : decode cJ6_bitCount_0f7a4 29 = .ok (.ldc_w 267, 3) := by decide +kernel
theorem dJ6_bitCount_0f7a4_32 : decode cJ6_bitCount_0f7a4 32 = .ok (.iand, 1) := by decide +kernel
theorem dJ6_bitCount_0f7a4_33 : decode cJ6_bitCount_0f7a4 33 = .ok (.istore_n 0, 1) := by decide +kernel
theorem dJ6_bitCount_0f7a4_34 : decode cJ6_bitCount_0f7a4 34 = .ok (.iload_n 0, 1) := by decide +kernel
theorem dJ6_bitCount_0f7a4_35 : decode cJ6_bitCount_0f7a4 35 = .ok (.iload_n 0, 1) := by decide +kernel
theorem dJ6_bitCount_0f7a4_36 : decode cJ6_bitCount_0f7a4 36 = .ok (.bipush 8, 2) := by decide +kernel
theorem dJ6_bitCount_0f7a4_38 : decode cJ6_bitCount_0f7a4 38 = .ok (.iushr, 1) := by decide +kernel
theorem dJ6_bitCount_0f7a4_39 : decode cJ6_bitCount_0f7a4 39 = .ok (.iadd, 1) := by decide +kernel
theorem dJ6_bitCount_0f7a4_40 : decode cJ6_bitCount_0f7a4 40 = .ok (.istore_n 0, 1) := by decide +kernel
theorem dJ6_bitCount_0f7a4_41 : decode cJ6_bitCount_0f7a4 41 = .ok (.iload_n 0, 1) := by decide +kernel
theorem dJ6_bitCount_0f7a4_42 : decode cJ6_bitCount_0f7a4 42 = .ok (.iload_n 0, 1) := by decide +kernel
theorem dJ6_bitCount_0f7a4_43 : decode cJ6_bitCount_0f7a4 43 = .ok (.bipush 16, 2) := by decide +kernel
theorem dJ6_bitCount_0f7a4_45 : decode cJ6_bitCount_0f7a4 45 = .ok (.iushr, 1) := by decide +kernel
theorem dJ6_bitCount_0f7a4_46 : decode cJ6_bitCount_0f7a4 46 = .ok (.iadd, 1) := by decide +kernel
theorem dJ6_bitCount_0f7a4_47 : decode cJ6_bitCount_0f7a4 47 = .ok (.istore_n 0, 1) := by decide +kernel
theorem dJ6_bitCount_0f7a4_48 : decode cJ6_bitCount_0f7a4 48 = .ok (.iload_n 0, 1) := by decide +kernel
theorem dJ6_bitCount_0f7a4_49 : decode cJ6_bitCount_0f7a4 49 = .ok (.bipush 63, 2) := by decide +kernel
theorem dJ6_bitCount_0f7a4_51 : decode cJ6_bitCount_0f7a4 51 = .ok (.iand, 1) := by decide +kernel
theorem dJ6_bitCount_0f7a4_52 : decode cJ6_bitCount_0f7a4 52 = .ok (.ireturn, 1) := by decide +kernel
theorem dJ9_floorMod_7cf53_0 : decode cJ9_floorMod_7cf53 0 = .ok (.iload_n 0, 1) := by decide +kernel
theorem dJ9_floorMod_7cf53_1 : decode cJ9_floorMod_7cf53 1 = .ok (.iload_n 1, 1) := by decide +kernel
theorem dJ9_floorMod_7cf53_2 : decode cJ9_floorMod_7cf53 2 = .ok (.irem, 1) := by decide +kernel
theorem dJ9_floorMod_7cf53_3 : decode cJ9_floorMod_7cf53 3 = .ok (.istore_n 2, 1) := by decide +kernel
theorem dJ9_floorMod_7cf53_4 : decode cJ9_floorMod_7cf53 4 = .ok (.iload_n 0, 1) := by decide +kernel
theorem dJ9_floorMod_7cf53_5 : decode cJ9_floorMod_7cf53 5 = .ok (.iload_n 1, 1) := by decide +kernel
theorem dJ9_floorMod_7cf53_6 : decode cJ9_floorMod_7cf53 6 = .ok (.ixor, 1) := by decide +kernel
theorem dJ9_floorMod_7cf53_7 : decode cJ9_floorMod_7cf53 7 = .ok (.ifCond .ge 11, 3) := by decide +kernel
theorem dJ9_floorMod_7cf53_10 : decode cJ9_floorMod_7cf53 10 = .ok (.iload_n 2, 1) := by decide +kernel
theorem dJ9_floorMod_7cf53_11 : decode cJ9_floorMod_7cf53 11 = .ok (.ifCond .eq 7, 3) := by decide +kernel
theorem dJ9_floorMod_7cf53_14 : decode cJ9_floorMod_7cf53 14 = .ok (.iload_n 2, 1) := by decide +kernel
theorem dJ9_floorMod_7cf53_15 : decode cJ9_floorMod_7cf53 15 = .ok (.iload_n 1, 1) := by decide +kernel
theorem dJ9_floorMod_7cf53_16 : decode cJ9_floorMod_7cf53 16 = .ok (.iadd, 1) := by decide +kernel
theorem dJ9_floorMod_7cf53_17 : decode cJ9_floorMod_7cf53 17 = .ok (.ireturn, 1) := by decide +kernel
theorem dJ9_floorMod_7cf53_18 : decode cJ9_floorMod_7cf53 18 = .ok (.iload_n 2, 1) := by decide +kernel
theorem dJ9_floorMod_7cf53_19 : decode cJ9_floorMod_7cf53 19 = .ok (.ireturn, 1) := by decide +kernel
theorem dJ9_abs_0f7a4_0 : decode cJ9_abs_0f7a4 0 = .ok (.iload_n 0, 1) := by decide +kernel
theorem dJ9_abs_0f7a4_1 : decode cJ9_abs_0f7a4 1 = .ok (.ifCond .ge 8, 3) := by decide +kernel
theorem dJ9_abs_0f7a4_4 : decode cJ9_abs_0f7a4 4 = .ok (.iload_n 0, 1) := by decide +kernel
theorem dJ9_abs_0f7a4_5 : decode cJ9_abs_0f7a4 5 = .ok (.ineg, 1) := by decide +kernel
theorem dJ9_abs_0f7a4_6 : decode cJ9_abs_0f7a4 6 = .ok (.goto 4, 3) := by decide +kernel
theorem dJ9_abs_0f7a4_9 : decode cJ9_abs_0f7a4 9 = .ok (.iload_n 0, 1) := by decide +kernel
theorem dJ9_abs_0f7a4_10 : decode cJ9_abs_0f7a4 10 = .ok (.ireturn, 1) := by decide +kernel
theorem dJ9_max_7cf53_0 : decode cJ9_max_7cf53 0 = .ok (.iload_n 0, 1) := by decide +kernel
theorem dJ9_max_7cf53_1 : decode cJ9_max_7cf53 1 = .ok (.iload_n 1, 1) := by decide +kernel
theorem dJ9_max_7cf53_2 : decode cJ9_max_7cf53 2 = .ok (.if_icmp .lt 7, 3) := by decide +kernel
theorem dJ9_max_7cf53_5 : decode cJ9_max_7cf53 5 = .ok (.iload_n 0, 1) := by decide +kernel
theorem dJ9_max_7cf53_6 : decode cJ9_max_7cf53 6 = .ok (.goto 4, 3) := by decide +kernel
theorem dJ9_max_7cf53_9 : decode cJ9_max_7cf53 9 = .ok (.iload_n 1, 1) := by decide +kernel
theorem dJ9_max_7cf53_10 : decode cJ9_max_7cf53 10 = .ok (.ireturn, 1) := by decide +kernel
theorem dJ9_max_f86c9_0 : decode cJ9_max_f86c9 0 = .ok (.lload_n 0, 1) := by decide +kernel
theorem dJ9_max_f86c9_1 : decode cJ9_max_f86c9 1 = .ok (.lload_n 2, 1) := by decide +kernel
theorem dJ9_max_f86c9_2 : decode cJ9_max_f86c9 2 = .ok (.lcmp, 1) := by decide +kernel
theorem dJ9_max_f86c9_3 : decode cJ9_max_f86c9 3 = .ok (.ifCond .lt 7, 3) := by decide +kernel
theorem dJ9_max_f86c9_6 : decode cJ9_max_f86c9 6 = .ok (.lload_n 0, 1) := by decide +kernel
theorem dJ9_max_f86c9_7 : decode cJ9_max_f86c9 7 = .ok (.goto 4, 3) := by decide +kernel
theorem dJ9_max_f86c9_10 : decode cJ9_max_f86c9 10 = .ok (.lload_n 2, 1) := by decide +kernel
theorem dJ9_max_f86c9_11 : decode cJ9_max_f86c9 11 = .ok (.lreturn, 1) := by decide +kernel
theorem dJ9_min_7cf53_0 : decode cJ9_min_7cf53 0 = .ok (.iload_n 0, 1) := by decide +kernel
theorem dJ9_min_7cf53_1 : decode cJ9_min_7cf53 1 = .ok (.iload_n 1, 1) := by decide +kernel
theorem dJ9_min_7cf53_2 : decode cJ9_min_7cf53 2 = .ok (.if_icmp .gt 7, 3) := by decide +kernel
theorem dJ9_min_7cf53_5 : decode cJ9_min_7cf53 5 = .ok (.iload_n 0, 1) := by decide +kernel
theorem dJ9_min_7cf53_6 : decode cJ9_min_7cf53 6 = .ok (.goto 4, 3) := by decide +kernel
theorem dJ9_min_7cf53_9 : decode cJ9_min_7cf53 9 = .ok (.iload_n 1, 1) := by decide +kernel
theorem dJ9_min_7cf53_10 : decode cJ9_min_7cf53 10 = .ok (.ireturn, 1) := by decide +kernel
theorem dJ9_min_f86c9_0 : decode cJ9_min_f86c9 0 = .ok (.lload_n 0, 1) := by decide +kernel
theorem dJ9_min_f86c9_1 : decode cJ9_min_f86c9 1 = .ok (.lload_n 2, 1) := by decide +kernel
theorem dJ9_min_f86c9_2 : decode cJ9_min_f86c9 2 = .ok (.lcmp, 1) := by decide +kernel
theorem dJ9_min_f86c9_3 : decode cJ9_min_f86c9 3 = .ok (.ifCond .gt 7, 3) := by decide +kernel
theorem dJ9_min_f86c9_6 : decode cJ9_min_f86c9 6 = .ok (.lload_n 0, 1) := by decide +kernel
theorem dJ9_min_f86c9_7 : decode cJ9_min_f86c9 7 = .ok (.goto 4, 3) := by decide +kernel
theorem dJ9_min_f86c9_10 : decode cJ9_min_f86c9 10 = .ok (.lload_n 2, 1) := by decide +kernel
theorem dJ9_min_f86c9_11 : decode cJ9_min_f86c9 11 = .ok (.lreturn, 1) := by decide +kernel
theorem dJ7_fill_53178_0 : decode cJ7_fill_53178 0 = .ok (.iconst 0, 1) := by decide +kernel
theorem dJ7_fill_53178_1 : decode cJ7_fill_53178 1 = .ok (.istore_n 2, 1) := by decide +kernel
theorem dJ7_fill_53178_2 : decode cJ7_fill_53178 2 = .ok (.aload_n 0, 1) := by decide +kernel
theorem dJ7_fill_53178_3 : decode cJ7_fill_53178 3 = .ok (.arraylength, 1) := by decide +kernel
theorem dJ7_fill_53178_4 : decode cJ7_fill_53178 4 = .ok (.istore_n 3, 1) := by decide +kernel
theorem dJ7_fill_53178_5 : decode cJ7_fill_53178 5 = .ok (.iload_n 2, 1) := by decide +kernel
theorem dJ7_fill_53178_6 : decode cJ7_fill_53178 6 = .ok (.iload_n 3, 1) := by decide +kernel
theorem dJ7_fill_53178_7 : decode cJ7_fill_53178 7 = .ok (.if_icmp .ge 13, 3) := by decide +kernel
theorem dJ7_fill_53178_10 : decode cJ7_fill_53178 10 = .ok (.aload_n 0, 1) := by decide +kernel
theorem dJ7_fill_53178_11 : decode cJ7_fill_53178 11 = .ok (.iload_n 2, 1) := by decide +kernel
theorem dJ7_fill_53178_12 : decode cJ7_fill_53178 12 = .ok (.iload_n 1, 1) := by decide +kernel
theorem dJ7_fill_53178_13 : decode cJ7_fill_53178 13 = .ok (.iastore, 1) := by decide +kernel
theorem dJ7_fill_53178_14 : decode cJ7_fill_53178 14 = .ok (.iinc 2 1, 3) := by decide +kernel
theorem dJ7_fill_53178_17 : decode cJ7_fill_53178 17 = .ok (.goto (-12), 3) := by decide +kernel
theorem dJ7_fill_53178_20 : decode cJ7_fill_53178 20 = .ok (.return_, 1) := by decide +kernel
