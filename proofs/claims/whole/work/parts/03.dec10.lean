theorem dX11_hide_47 : decode cX11_hide 47 = .ok (.ishl, 1) := by decide +kernel
theorem dX11_hide_48 : decode cX11_hide 48 = .ok (.if_icmp .ge 60, 3) := by decide +kernel
theorem dX11_hide_51 : decode cX11_hide 51 = .ok (.iload 6, 2) := by decide +kernel
theorem dX11_hide_53 : decode cX11_hide 53 = .ok (.aload_n 0, 1) := by decide +kernel
theorem dX11_hide_54 : decode cX11_hide 54 = .ok (.invokevirtual 409, 3) := by decide +kernel
theorem dX11_hide_57 : decode cX11_hide 57 = .ok (.iconst (-1), 1) := by decide +kernel
theorem dX11_hide_58 : decode cX11_hide 58 = .ok (.ixor, 1) := by decide +kernel
theorem dX11_hide_59 : decode cX11_hide 59 = .ok (.iand, 1) := by decide +kernel
theorem dX11_hide_60 : decode cX11_hide 60 = .ok (.ifCond .ne 42, 3) := by decide +kernel
theorem dX11_hide_63 : decode cX11_hide 63 = .ok (.iload 6, 2) := by decide +kernel
theorem dX11_hide_65 : decode cX11_hide 65 = .ok (.iload 4, 2) := by decide +kernel
theorem dX11_hide_67 : decode cX11_hide 67 = .ok (.invokestatic 406, 3) := by decide +kernel
theorem dX11_hide_70 : decode cX11_hide 70 = .ok (.ifCond .eq 32, 3) := by decide +kernel
theorem dX11_hide_73 : decode cX11_hide 73 = .ok (.aload_n 0, 1) := by decide +kernel
theorem dX11_hide_74 : decode cX11_hide 74 = .ok (.iload_n 1, 1) := by decide +kernel
theorem dX11_hide_75 : decode cX11_hide 75 = .ok (.iload_n 3, 1) := by decide +kernel
theorem dX11_hide_76 : decode cX11_hide 76 = .ok (.iload 5, 2) := by decide +kernel
theorem dX11_hide_78 : decode cX11_hide 78 = .ok (.iload 6, 2) := by decide +kernel
theorem dX11_hide_80 : decode cX11_hide 80 = .ok (.ior, 1) := by decide +kernel
theorem dX11_hide_81 : decode cX11_hide 81 = .ok (.invokevirtual 337, 3) := by decide +kernel
theorem dX11_hide_84 : decode cX11_hide 84 = .ok (.aload_n 0, 1) := by decide +kernel
theorem dX11_hide_85 : decode cX11_hide 85 = .ok (.getfield 74, 3) := by decide +kernel
theorem dX11_hide_88 : decode cX11_hide 88 = .ok (.iload_n 2, 1) := by decide +kernel
theorem dX11_hide_89 : decode cX11_hide 89 = .ok (.iaload, 1) := by decide +kernel
theorem dX11_hide_90 : decode cX11_hide 90 = .ok (.ifCond .ne 8, 3) := by decide +kernel
theorem dX11_hide_93 : decode cX11_hide 93 = .ok (.iload 6, 2) := by decide +kernel
theorem dX11_hide_95 : decode cX11_hide 95 = .ok (.goto 5, 3) := by decide +kernel
theorem dX11_hide_98 : decode cX11_hide 98 = .ok (.iload 4, 2) := by decide +kernel
theorem dX11_hide_100 : decode cX11_hide 100 = .ok (.istore 4, 2) := by decide +kernel
theorem dX11_hide_102 : decode cX11_hide 102 = .ok (.iinc 6 1, 3) := by decide +kernel
theorem dX11_hide_105 : decode cX11_hide 105 = .ok (.goto (-65), 3) := by decide +kernel
theorem dX11_hide_108 : decode cX11_hide 108 = .ok (.iload 4, 2) := by decide +kernel
theorem dX11_hide_110 : decode cX11_hide 110 = .ok (.ireturn, 1) := by decide +kernel
theorem dX11_seen_0 : decode cX11_seen 0 = .ok (.aload_n 0, 1) := by decide +kernel
theorem dX11_seen_1 : decode cX11_seen 1 = .ok (.iload_n 1, 1) := by decide +kernel
theorem dX11_seen_2 : decode cX11_seen 2 = .ok (.invokevirtual 350, 3) := by decide +kernel
theorem dX11_seen_5 : decode cX11_seen 5 = .ok (.ifCond .eq 13, 3) := by decide +kernel
theorem dX11_seen_8 : decode cX11_seen 8 = .ok (.iload_n 2, 1) := by decide +kernel
theorem dX11_seen_9 : decode cX11_seen 9 = .ok (.iconst 1, 1) := by decide +kernel
theorem dX11_seen_10 : decode cX11_seen 10 = .ok (.bipush 99, 2) := by decide +kernel
theorem dX11_seen_12 : decode cX11_seen 12 = .ok (.invokestatic 217, 3) := by decide +kernel
theorem dX11_seen_15 : decode cX11_seen 15 = .ok (.ifCond .ne 5, 3) := by decide +kernel
theorem dX11_seen_18 : decode cX11_seen 18 = .ok (.iconst (-1), 1) := by decide +kernel
theorem dX11_seen_19 : decode cX11_seen 19 = .ok (.ireturn, 1) := by decide +kernel
theorem dX11_seen_20 : decode cX11_seen 20 = .ok (.aload_n 0, 1) := by decide +kernel
theorem dX11_seen_21 : decode cX11_seen 21 = .ok (.iload_n 1, 1) := by decide +kernel
theorem dX11_seen_22 : decode cX11_seen 22 = .ok (.iload_n 2, 1) := by decide +kernel
theorem dX11_seen_23 : decode cX11_seen 23 = .ok (.aload_n 0, 1) := by decide +kernel
theorem dX11_seen_24 : decode cX11_seen 24 = .ok (.invokevirtual 314, 3) := by decide +kernel
theorem dX11_seen_27 : decode cX11_seen 27 = .ok (.invokevirtual 337, 3) := by decide +kernel
theorem dX11_seen_30 : decode cX11_seen 30 = .ok (.iconst 0, 1) := by decide +kernel
theorem dX11_seen_31 : decode cX11_seen 31 = .ok (.istore_n 3, 1) := by decide +kernel
theorem dX11_seen_32 : decode cX11_seen 32 = .ok (.iconst 0, 1) := by decide +kernel
theorem dX11_seen_33 : decode cX11_seen 33 = .ok (.istore 4, 2) := by decide +kernel
theorem dX11_seen_35 : decode cX11_seen 35 = .ok (.iload 4, 2) := by decide +kernel
theorem dX11_seen_37 : decode cX11_seen 37 = .ok (.aload_n 0, 1) := by decide +kernel
theorem dX11_seen_38 : decode cX11_seen 38 = .ok (.getfield 267, 3) := by decide +kernel
theorem dX11_seen_41 : decode cX11_seen 41 = .ok (.if_icmp .ge 30, 3) := by decide +kernel
theorem dX11_seen_44 : decode cX11_seen 44 = .ok (.iload_n 3, 1) := by decide +kernel
theorem dX11_seen_45 : decode cX11_seen 45 = .ok (.aload_n 0, 1) := by decide +kernel
theorem dX11_seen_46 : decode cX11_seen 46 = .ok (.getfield 74, 3) := by decide +kernel
theorem dX11_seen_49 : decode cX11_seen 49 = .ok (.iload 4, 2) := by decide +kernel
theorem dX11_seen_51 : decode cX11_seen 51 = .ok (.iaload, 1) := by decide +kernel
theorem dX11_seen_52 : decode cX11_seen 52 = .ok (.ifCond .le 10, 3) := by decide +kernel
theorem dX11_seen_55 : decode cX11_seen 55 = .ok (.iconst 1, 1) := by decide +kernel
theorem dX11_seen_56 : decode cX11_seen 56 = .ok (.iload 4, 2) := by decide +kernel
theorem dX11_seen_58 : decode cX11_seen 58 = .ok (.ishl, 1) := by decide +kernel
theorem dX11_seen_59 : decode cX11_seen 59 = .ok (.goto 4, 3) := by decide +kernel
theorem dX11_seen_62 : decode cX11_seen 62 = .ok (.iconst 0, 1) := by decide +kernel
theorem dX11_seen_63 : decode cX11_seen 63 = .ok (.ior, 1) := by decide +kernel
theorem dX11_seen_64 : decode cX11_seen 64 = .ok (.istore_n 3, 1) := by decide +kernel
theorem dX11_seen_65 : decode cX11_seen 65 = .ok (.iinc 4 1, 3) := by decide +kernel
theorem dX11_seen_68 : decode cX11_seen 68 = .ok (.goto (-33), 3) := by decide +kernel
theorem dX11_seen_71 : decode cX11_seen 71 = .ok (.iload_n 3, 1) := by decide +kernel
theorem dX11_seen_72 : decode cX11_seen 72 = .ok (.ireturn, 1) := by decide +kernel
theorem dX11_lowEnough_0 : decode cX11_lowEnough 0 = .ok (.iconst 0, 1) := by decide +kernel
theorem dX11_lowEnough_1 : decode cX11_lowEnough 1 = .ok (.istore_n 2, 1) := by decide +kernel
theorem dX11_lowEnough_2 : decode cX11_lowEnough 2 = .ok (.iconst 0, 1) := by decide +kernel
theorem dX11_lowEnough_3 : decode cX11_lowEnough 3 = .ok (.istore_n 3, 1) := by decide +kernel
theorem dX11_lowEnough_4 : decode cX11_lowEnough 4 = .ok (.iload_n 3, 1) := by decide +kernel
theorem dX11_lowEnough_5 : decode cX11_lowEnough 5 = .ok (.aload_n 0, 1) := by decide +kernel
theorem dX11_lowEnough_6 : decode cX11_lowEnough 6 = .ok (.getfield 261, 3) := by decide +kernel
theorem dX11_lowEnough_9 : decode cX11_lowEnough 9 = .ok (.if_icmp .ge 37, 3) := by decide +kernel
theorem dX11_lowEnough_12 : decode cX11_lowEnough 12 = .ok (.iload_n 2, 1) := by decide +kernel
theorem dX11_lowEnough_13 : decode cX11_lowEnough 13 = .ok (.aload_n 0, 1) := by decide +kernel
theorem dX11_lowEnough_14 : decode cX11_lowEnough 14 = .ok (.iload_n 3, 1) := by decide +kernel
theorem dX11_lowEnough_15 : decode cX11_lowEnough 15 = .ok (.invokevirtual 307, 3) := by decide +kernel
theorem dX11_lowEnough_18 : decode cX11_lowEnough 18 = .ok (.ifCond .eq 19, 3) := by decide +kernel
theorem dX11_lowEnough_21 : decode cX11_lowEnough 21 = .ok (.aload_n 0, 1) := by decide +kernel
theorem dX11_lowEnough_22 : decode cX11_lowEnough 22 = .ok (.iload_n 3, 1) := by decide +kernel
theorem dX11_lowEnough_23 : decode cX11_lowEnough 23 = .ok (.iconst 4, 1) := by decide +kernel
theorem dX11_lowEnough_24 : decode cX11_lowEnough 24 = .ok (.invokevirtual 270, 3) := by decide +kernel
theorem dX11_lowEnough_27 : decode cX11_lowEnough 27 = .ok (.iload_n 1, 1) := by decide +kernel
theorem dX11_lowEnough_28 : decode cX11_lowEnough 28 = .ok (.if_icmp .lt 9, 3) := by decide +kernel
theorem dX11_lowEnough_31 : decode cX11_lowEnough 31 = .ok (.iconst 1, 1) := by decide +kernel
theorem dX11_lowEnough_32 : decode cX11_lowEnough 32 = .ok (.iload_n 3, 1) := by decide +kernel
theorem dX11_lowEnough_33 : decode cX11_lowEnough 33 = .ok (.ishl, 1) := by decide +kernel
theorem dX11_lowEnough_34 : decode cX11_lowEnough 34 = .ok (.goto 4, 3) := by decide +kernel
theorem dX11_lowEnough_37 : decode cX11_lowEnough 37 = .ok (.iconst 0, 1) := by decide +kernel
theorem dX11_lowEnough_38 : decode cX11_lowEnough 38 = .ok (.ior, 1) := by decide +kernel
theorem dX11_lowEnough_39 : decode cX11_lowEnough 39 = .ok (.istore_n 2, 1) := by decide +kernel
theorem dX11_lowEnough_40 : decode cX11_lowEnough 40 = .ok (.iinc 3 1, 3) := by decide +kernel
theorem dX11_lowEnough_43 : decode cX11_lowEnough 43 = .ok (.goto (-39), 3) := by decide +kernel
theorem dX11_lowEnough_46 : decode cX11_lowEnough 46 = .ok (.iload_n 2, 1) := by decide +kernel
theorem dX11_lowEnough_47 : decode cX11_lowEnough 47 = .ok (.ireturn, 1) := by decide +kernel
theorem dX11_under_0 : decode cX11_under 0 = .ok (.aload_n 0, 1) := by decide +kernel
theorem dX11_under_1 : decode cX11_under 1 = .ok (.iload_n 1, 1) := by decide +kernel
theorem dX11_under_2 : decode cX11_under 2 = .ok (.invokevirtual 350, 3) := by decide +kernel
theorem dX11_under_5 : decode cX11_under 5 = .ok (.ifCond .eq 21, 3) := by decide +kernel
theorem dX11_under_8 : decode cX11_under 8 = .ok (.aload_n 0, 1) := by decide +kernel
theorem dX11_under_9 : decode cX11_under 9 = .ok (.iload_n 2, 1) := by decide +kernel
theorem dX11_under_10 : decode cX11_under 10 = .ok (.invokevirtual 350, 3) := by decide +kernel
theorem dX11_under_13 : decode cX11_under 13 = .ok (.ifCond .eq 13, 3) := by decide +kernel
theorem dX11_under_16 : decode cX11_under 16 = .ok (.iload_n 3, 1) := by decide +kernel
theorem dX11_under_17 : decode cX11_under 17 = .ok (.iconst 0, 1) := by decide +kernel
theorem dX11_under_18 : decode cX11_under 18 = .ok (.bipush 9, 2) := by decide +kernel
theorem dX11_under_20 : decode cX11_under 20 = .ok (.invokestatic 217, 3) := by decide +kernel
theorem dX11_under_23 : decode cX11_under 23 = .ok (.ifCond .ne 5, 3) := by decide +kernel
theorem dX11_under_26 : decode cX11_under 26 = .ok (.iconst (-1), 1) := by decide +kernel
theorem dX11_under_27 : decode cX11_under 27 = .ok (.ireturn, 1) := by decide +kernel
theorem dX11_under_28 : decode cX11_under 28 = .ok (.aload_n 0, 1) := by decide +kernel
theorem dX11_under_29 : decode cX11_under 29 = .ok (.iload_n 1, 1) := by decide +kernel
theorem dX11_under_30 : decode cX11_under 30 = .ok (.invokevirtual 328, 3) := by decide +kernel
theorem dX11_under_33 : decode cX11_under 33 = .ok (.istore 4, 2) := by decide +kernel
theorem dX11_under_35 : decode cX11_under 35 = .ok (.iconst 0, 1) := by decide +kernel
theorem dX11_under_36 : decode cX11_under 36 = .ok (.istore 5, 2) := by decide +kernel
theorem dX11_under_38 : decode cX11_under 38 = .ok (.iload 5, 2) := by decide +kernel
theorem dX11_under_40 : decode cX11_under 40 = .ok (.aload_n 0, 1) := by decide +kernel
theorem dX11_under_41 : decode cX11_under 41 = .ok (.getfield 261, 3) := by decide +kernel
theorem dX11_under_44 : decode cX11_under 44 = .ok (.if_icmp .gt 126, 3) := by decide +kernel
theorem dX11_under_47 : decode cX11_under 47 = .ok (.iload 4, 2) := by decide +kernel
theorem dX11_under_49 : decode cX11_under 49 = .ok (.iload_n 2, 1) := by decide +kernel
theorem dX11_under_50 : decode cX11_under 50 = .ok (.invokestatic 228, 3) := by decide +kernel
theorem dX11_under_53 : decode cX11_under 53 = .ok (.ifCond .eq 6, 3) := by decide +kernel
theorem dX11_under_56 : decode cX11_under 56 = .ok (.iload 5, 2) := by decide +kernel
theorem dX11_under_58 : decode cX11_under 58 = .ok (.ireturn, 1) := by decide +kernel
theorem dX11_under_59 : decode cX11_under 59 = .ok (.iload 4, 2) := by decide +kernel
theorem dX11_under_61 : decode cX11_under 61 = .ok (.istore 6, 2) := by decide +kernel
theorem dX11_under_63 : decode cX11_under 63 = .ok (.iconst 0, 1) := by decide +kernel
theorem dX11_under_64 : decode cX11_under 64 = .ok (.istore 7, 2) := by decide +kernel
theorem dX11_under_66 : decode cX11_under 66 = .ok (.iload 7, 2) := by decide +kernel
theorem dX11_under_68 : decode cX11_under 68 = .ok (.aload_n 0, 1) := by decide +kernel
theorem dX11_under_69 : decode cX11_under 69 = .ok (.getfield 261, 3) := by decide +kernel
theorem dX11_under_72 : decode cX11_under 72 = .ok (.if_icmp .ge 88, 3) := by decide +kernel
theorem dX11_under_75 : decode cX11_under 75 = .ok (.aload_n 0, 1) := by decide +kernel
theorem dX11_under_76 : decode cX11_under 76 = .ok (.iload_n 3, 1) := by decide +kernel
theorem dX11_under_77 : decode cX11_under 77 = .ok (.invokevirtual 412, 3) := by decide +kernel
theorem dX11_under_80 : decode cX11_under 80 = .ok (.iload 7, 2) := by decide +kernel
theorem dX11_under_82 : decode cX11_under 82 = .ok (.invokestatic 228, 3) := by decide +kernel
theorem dX11_under_85 : decode cX11_under 85 = .ok (.ifCond .eq 69, 3) := by decide +kernel
theorem dX11_under_88 : decode cX11_under 88 = .ok (.iload 6, 2) := by decide +kernel
theorem dX11_under_90 : decode cX11_under 90 = .ok (.iload 4, 2) := by decide +kernel
theorem dX11_under_92 : decode cX11_under 92 = .ok (.aload_n 0, 1) := by decide +kernel
theorem dX11_under_93 : decode cX11_under 93 = .ok (.iload 7, 2) := by decide +kernel
theorem dX11_under_95 : decode cX11_under 95 = .ok (.invokevirtual 301, 3) := by decide +kernel
theorem dX11_under_98 : decode cX11_under 98 = .ok (.invokestatic 228, 3) := by decide +kernel
theorem dX11_under_101 : decode cX11_under 101 = .ok (.ifCond .eq 16, 3) := by decide +kernel
theorem dX11_under_104 : decode cX11_under 104 = .ok (.aload_n 0, 1) := by decide +kernel
theorem dX11_under_105 : decode cX11_under 105 = .ok (.aload_n 0, 1) := by decide +kernel
theorem dX11_under_106 : decode cX11_under 106 = .ok (.iload 7, 2) := by decide +kernel
theorem dX11_under_108 : decode cX11_under 108 = .ok (.invokevirtual 304, 3) := by decide +kernel
theorem dX11_under_111 : decode cX11_under 111 = .ok (.invokevirtual 328, 3) := by decide +kernel
theorem dX11_under_114 : decode cX11_under 114 = .ok (.goto 4, 3) := by decide +kernel
theorem dX11_under_117 : decode cX11_under 117 = .ok (.iconst 0, 1) := by decide +kernel
theorem dX11_under_118 : decode cX11_under 118 = .ok (.ior, 1) := by decide +kernel
theorem dX11_under_119 : decode cX11_under 119 = .ok (.istore 6, 2) := by decide +kernel
theorem dX11_under_121 : decode cX11_under 121 = .ok (.iload 6, 2) := by decide +kernel
theorem dX11_under_123 : decode cX11_under 123 = .ok (.iload 4, 2) := by decide +kernel
theorem dX11_under_125 : decode cX11_under 125 = .ok (.aload_n 0, 1) := by decide +kernel
theorem dX11_under_126 : decode cX11_under 126 = .ok (.iload 7, 2) := by decide +kernel
theorem dX11_under_128 : decode cX11_under 128 = .ok (.invokevirtual 304, 3) := by decide +kernel
theorem dX11_under_131 : decode cX11_under 131 = .ok (.invokestatic 228, 3) := by decide +kernel
theorem dX11_under_134 : decode cX11_under 134 = .ok (.ifCond .eq 16, 3) := by decide +kernel
theorem dX11_under_137 : decode cX11_under 137 = .ok (.aload_n 0, 1) := by decide +kernel
theorem dX11_under_138 : decode cX11_under 138 = .ok (.aload_n 0, 1) := by decide +kernel
theorem dX11_under_139 : decode cX11_under 139 = .ok (.iload 7, 2) := by decide +kernel
theorem dX11_under_141 : decode cX11_under 141 = .ok (.invokevirtual 301, 3) := by decide +kernel
theorem dX11_under_144 : decode cX11_under 144 = .ok (.invokevirtual 328, 3) := by decide +kernel
theorem dX11_under_147 : decode cX11_under 147 = .ok (.goto 4, 3) := by decide +kernel
theorem dX11_under_150 : decode cX11_under 150 = .ok (.iconst 0, 1) := by decide +kernel
theorem dX11_under_151 : decode cX11_under 151 = .ok (.ior, 1) := by decide +kernel
theorem dX11_under_152 : decode cX11_under 152 = .ok (.istore 6, 2) := by decide +kernel
theorem dX11_under_154 : decode cX11_under 154 = .ok (.iinc 7 1, 3) := by decide +kernel
theorem dX11_under_157 : decode cX11_under 157 = .ok (.goto (-91), 3) := by decide +kernel
theorem dX11_under_160 : decode cX11_under 160 = .ok (.iload 6, 2) := by decide +kernel
theorem dX11_under_162 : decode cX11_under 162 = .ok (.istore 4, 2) := by decide +kernel
theorem dX11_under_164 : decode cX11_under 164 = .ok (.iinc 5 1, 3) := by decide +kernel
theorem dX11_under_167 : decode cX11_under 167 = .ok (.goto (-129), 3) := by decide +kernel
theorem dX11_under_170 : decode cX11_under 170 = .ok (.iconst (-1), 1) := by decide +kernel
theorem dX11_under_171 : decode cX11_under 171 = .ok (.ireturn, 1) := by decide +kernel
theorem dX11_lead_0 : decode cX11_lead 0 = .ok (.aload_n 0, 1) := by decide +kernel
theorem dX11_lead_1 : decode cX11_lead 1 = .ok (.getfield 267, 3) := by decide +kernel
theorem dX11_lead_4 : decode cX11_lead 4 = .ok (.ifCond .le 21, 3) := by decide +kernel
theorem dX11_lead_7 : decode cX11_lead 7 = .ok (.iload_n 1, 1) := by decide +kernel
theorem dX11_lead_8 : decode cX11_lead 8 = .ok (.iconst 0, 1) := by decide +kernel
theorem dX11_lead_9 : decode cX11_lead 9 = .ok (.bipush 9, 2) := by decide +kernel
theorem dX11_lead_11 : decode cX11_lead 11 = .ok (.invokestatic 217, 3) := by decide +kernel
theorem dX11_lead_14 : decode cX11_lead 14 = .ok (.ifCond .eq 11, 3) := by decide +kernel
theorem dX11_lead_17 : decode cX11_lead 17 = .ok (.aload_n 0, 1) := by decide +kernel
theorem dX11_lead_18 : decode cX11_lead 18 = .ok (.iload_n 1, 1) := by decide +kernel
theorem dX11_lead_19 : decode cX11_lead 19 = .ok (.invokevirtual 412, 3) := by decide +kernel
theorem dX11_lead_22 : decode cX11_lead 22 = .ok (.goto 4, 3) := by decide +kernel
theorem dX11_lead_25 : decode cX11_lead 25 = .ok (.iconst (-1), 1) := by decide +kernel
theorem dX11_lead_26 : decode cX11_lead 26 = .ok (.ireturn, 1) := by decide +kernel
theorem dX11_putAside_0 : decode cX11_putAside 0 = .ok (.iconst 0, 1) := by decide +kernel
theorem dX11_putAside_1 : decode cX11_putAside 1 = .ok (.istore_n 1, 1) := by decide +kernel
theorem dX11_putAside_2 : decode cX11_putAside 2 = .ok (.iload_n 1, 1) := by decide +kernel
theorem dX11_putAside_3 : decode cX11_putAside 3 = .ok (.bipush 17, 2) := by decide +kernel
theorem dX11_putAside_5 : decode cX11_putAside 5 = .ok (.if_icmp .gt 21, 3) := by decide +kernel
theorem dX11_putAside_8 : decode cX11_putAside 8 = .ok (.aload_n 0, 1) := by decide +kernel
theorem dX11_putAside_9 : decode cX11_putAside 9 = .ok (.getfield 83, 3) := by decide +kernel
theorem dX11_putAside_12 : decode cX11_putAside 12 = .ok (.iload_n 1, 1) := by decide +kernel
theorem dX11_putAside_13 : decode cX11_putAside 13 = .ok (.aload_n 0, 1) := by decide +kernel
theorem dX11_putAside_14 : decode cX11_putAside 14 = .ok (.getfield 58, 3) := by decide +kernel
theorem dX11_putAside_17 : decode cX11_putAside 17 = .ok (.iload_n 1, 1) := by decide +kernel
theorem dX11_putAside_18 : decode cX11_putAside 18 = .ok (.iaload, 1) := by decide +kernel
theorem dX11_putAside_19 : decode cX11_putAside 19 = .ok (.iastore, 1) := by decide +kernel
theorem dX11_putAside_20 : decode cX11_putAside 20 = .ok (.iinc 1 1, 3) := by decide +kernel
theorem dX11_putAside_23 : decode cX11_putAside 23 = .ok (.goto (-21), 3) := by decide +kernel
theorem dX11_putAside_26 : decode cX11_putAside 26 = .ok (.return_, 1) := by decide +kernel
theorem dX11_takeBack_0 : decode cX11_takeBack 0 = .ok (.iconst 0, 1) := by decide +kernel
theorem dX11_takeBack_1 : decode cX11_takeBack 1 = .ok (.istore_n 1, 1) := by decide +kernel
theorem dX11_takeBack_2 : decode cX11_takeBack 2 = .ok (.iload_n 1, 1) := by decide +kernel
theorem dX11_takeBack_3 : decode cX11_takeBack 3 = .ok (.bipush 17, 2) := by decide +kernel
theorem dX11_takeBack_5 : decode cX11_takeBack 5 = .ok (.if_icmp .gt 21, 3) := by decide +kernel
theorem dX11_takeBack_8 : decode cX11_takeBack 8 = .ok (.aload_n 0, 1) := by decide +kernel
theorem dX11_takeBack_9 : decode cX11_takeBack 9 = .ok (.getfield 58, 3) := by decide +kernel
theorem dX11_takeBack_12 : decode cX11_takeBack 12 = .ok (.iload_n 1, 1) := by decide +kernel
theorem dX11_takeBack_13 : decode cX11_takeBack 13 = .ok (.aload_n 0, 1) := by decide +kernel
theorem dX11_takeBack_14 : decode cX11_takeBack 14 = .ok (.getfield 83, 3) := by decide +kernel
theorem dX11_takeBack_17 : decode cX11_takeBack 17 = .ok (.iload_n 1, 1) := by decide +kernel
theorem dX11_takeBack_18 : decode cX11_takeBack 18 = .ok (.iaload, 1) := by decide +kernel
theorem dX11_takeBack_19 : decode cX11_takeBack 19 = .ok (.iastore, 1) := by decide +kernel
theorem dX11_takeBack_20 : decode cX11_takeBack 20 = .ok (.iinc 1 1, 3) := by decide +kernel
theorem dX11_takeBack_23 : decode cX11_takeBack 23 = .ok (.goto (-21), 3) := by decide +kernel
theorem dX11_takeBack_26 : decode cX11_takeBack 26 = .ok (.return_, 1) := by decide +kernel
theorem dX11_first_0 : decode cX11_first 0 = .ok (.aload_n 0, 1) := by decide +kernel
theorem dX11_first_1 : decode cX11_first 1 = .ok (.getfield 267, 3) := by decide +kernel
theorem dX11_first_4 : decode cX11_first 4 = .ok (.ifCond .eq 12, 3) := by decide +kernel
theorem dX11_first_7 : decode cX11_first 7 = .ok (.iload_n 1, 1) := by decide +kernel
theorem dX11_first_8 : decode cX11_first 8 = .ok (.iconst 0, 1) := by decide +kernel
theorem dX11_first_9 : decode cX11_first 9 = .ok (.iconst 1, 1) := by decide +kernel
theorem dX11_first_10 : decode cX11_first 10 = .ok (.invokestatic 217, 3) := by decide +kernel
theorem dX11_first_13 : decode cX11_first 13 = .ok (.ifCond .ne 5, 3) := by decide +kernel
theorem dX11_first_16 : decode cX11_first 16 = .ok (.iconst (-1), 1) := by decide +kernel
theorem dX11_first_17 : decode cX11_first 17 = .ok (.ireturn, 1) := by decide +kernel
theorem dX11_first_18 : decode cX11_first 18 = .ok (.aload_n 0, 1) := by decide +kernel
theorem dX11_first_19 : decode cX11_first 19 = .ok (.invokevirtual 415, 3) := by decide +kernel
theorem dX11_first_22 : decode cX11_first 22 = .ok (.iconst 0, 1) := by decide +kernel
theorem dX11_first_23 : decode cX11_first 23 = .ok (.istore_n 2, 1) := by decide +kernel
theorem dX11_first_24 : decode cX11_first 24 = .ok (.iconst 0, 1) := by decide +kernel
theorem dX11_first_25 : decode cX11_first 25 = .ok (.istore_n 3, 1) := by decide +kernel
theorem dX11_first_26 : decode cX11_first 26 = .ok (.iload_n 2, 1) := by decide +kernel
theorem dX11_first_27 : decode cX11_first 27 = .ok (.sipush 200, 3) := by decide +kernel
theorem dX11_first_30 : decode cX11_first 30 = .ok (.if_icmp .ge 18, 3) := by decide +kernel
theorem dX11_first_33 : decode cX11_first 33 = .ok (.iload_n 3, 1) := by decide +kernel
theorem dX11_first_34 : decode cX11_first 34 = .ok (.ifCond .ne 14, 3) := by decide +kernel
theorem dX11_first_37 : decode cX11_first 37 = .ok (.aload_n 0, 1) := by decide +kernel
theorem dX11_first_38 : decode cX11_first 38 = .ok (.invokevirtual 371, 3) := by decide +kernel
theorem dX11_first_41 : decode cX11_first 41 = .ok (.istore_n 3, 1) := by decide +kernel
theorem dX11_first_42 : decode cX11_first 42 = .ok (.iinc 2 1, 3) := by decide +kernel
theorem dX11_first_45 : decode cX11_first 45 = .ok (.goto (-19), 3) := by decide +kernel
theorem dX11_first_48 : decode cX11_first 48 = .ok (.aload_n 0, 1) := by decide +kernel
theorem dX11_first_49 : decode cX11_first 49 = .ok (.invokevirtual 418, 3) := by decide +kernel
theorem dX11_first_52 : decode cX11_first 52 = .ok (.iload_n 3, 1) := by decide +kernel
theorem dX11_first_53 : decode cX11_first 53 = .ok (.ifCond .ne 7, 3) := by decide +kernel
theorem dX11_first_56 : decode cX11_first 56 = .ok (.iconst (-1), 1) := by decide +kernel
theorem dX11_first_57 : decode cX11_first 57 = .ok (.goto 16, 3) := by decide +kernel
theorem dX11_first_60 : decode cX11_first 60 = .ok (.iload_n 1, 1) := by decide +kernel
theorem dX11_first_61 : decode cX11_first 61 = .ok (.ifCond .ne 11, 3) := by decide +kernel
theorem dX11_first_64 : decode cX11_first 64 = .ok (.aload_n 0, 1) := by decide +kernel
theorem dX11_first_65 : decode cX11_first 65 = .ok (.iload_n 3, 1) := by decide +kernel
theorem dX11_first_66 : decode cX11_first 66 = .ok (.invokevirtual 325, 3) := by decide +kernel
theorem dX11_first_69 : decode cX11_first 69 = .ok (.goto 4, 3) := by decide +kernel
theorem dX11_first_72 : decode cX11_first 72 = .ok (.iload_n 2, 1) := by decide +kernel
theorem dX11_first_73 : decode cX11_first 73 = .ok (.ireturn, 1) := by decide +kernel
theorem dX11_clothOfAll_0 : decode cX11_clothOfAll 0 = .ok (.iconst 0, 1) := by decide +kernel
theorem dX11_clothOfAll_1 : decode cX11_clothOfAll 1 = .ok (.istore_n 1, 1) := by decide +kernel
theorem dX11_clothOfAll_2 : decode cX11_clothOfAll 2 = .ok (.iconst 0, 1) := by decide +kernel
theorem dX11_clothOfAll_3 : decode cX11_clothOfAll 3 = .ok (.istore_n 2, 1) := by decide +kernel
theorem dX11_clothOfAll_4 : decode cX11_clothOfAll 4 = .ok (.iload_n 2, 1) := by decide +kernel
theorem dX11_clothOfAll_5 : decode cX11_clothOfAll 5 = .ok (.aload_n 0, 1) := by decide +kernel
theorem dX11_clothOfAll_6 : decode cX11_clothOfAll 6 = .ok (.getfield 261, 3) := by decide +kernel
theorem dX11_clothOfAll_9 : decode cX11_clothOfAll 9 = .ok (.if_icmp .ge 20, 3) := by decide +kernel
theorem dX11_clothOfAll_12 : decode cX11_clothOfAll 12 = .ok (.iload_n 1, 1) := by decide +kernel
theorem dX11_clothOfAll_13 : decode cX11_clothOfAll 13 = .ok (.aload_n 0, 1) := by decide +kernel
theorem dX11_clothOfAll_14 : decode cX11_clothOfAll 14 = .ok (.getfield 58, 3) := by decide +kernel
theorem dX11_clothOfAll_17 : decode cX11_clothOfAll 17 = .ok (.iconst 0, 1) := by decide +kernel
theorem dX11_clothOfAll_18 : decode cX11_clothOfAll 18 = .ok (.iload_n 2, 1) := by decide +kernel
theorem dX11_clothOfAll_19 : decode cX11_clothOfAll 19 = .ok (.iadd, 1) := by decide +kernel
theorem dX11_clothOfAll_20 : decode cX11_clothOfAll 20 = .ok (.iaload, 1) := by decide +kernel
theorem dX11_clothOfAll_21 : decode cX11_clothOfAll 21 = .ok (.iadd, 1) := by decide +kernel
theorem dX11_clothOfAll_22 : decode cX11_clothOfAll 22 = .ok (.istore_n 1, 1) := by decide +kernel
theorem dX11_clothOfAll_23 : decode cX11_clothOfAll 23 = .ok (.iinc 2 1, 3) := by decide +kernel
theorem dX11_clothOfAll_26 : decode cX11_clothOfAll 26 = .ok (.goto (-22), 3) := by decide +kernel
theorem dX11_clothOfAll_29 : decode cX11_clothOfAll 29 = .ok (.iload_n 1, 1) := by decide +kernel
theorem dX11_clothOfAll_30 : decode cX11_clothOfAll 30 = .ok (.ireturn, 1) := by decide +kernel
theorem dX11_cloth_0 : decode cX11_cloth 0 = .ok (.aload_n 0, 1) := by decide +kernel
theorem dX11_cloth_1 : decode cX11_cloth 1 = .ok (.getfield 267, 3) := by decide +kernel
theorem dX11_cloth_4 : decode cX11_cloth 4 = .ok (.ifCond .eq 13, 3) := by decide +kernel
theorem dX11_cloth_7 : decode cX11_cloth 7 = .ok (.iload_n 1, 1) := by decide +kernel
theorem dX11_cloth_8 : decode cX11_cloth 8 = .ok (.iconst 1, 1) := by decide +kernel
theorem dX11_cloth_9 : decode cX11_cloth 9 = .ok (.bipush 60, 2) := by decide +kernel
theorem dX11_cloth_11 : decode cX11_cloth 11 = .ok (.invokestatic 217, 3) := by decide +kernel
theorem dX11_cloth_14 : decode cX11_cloth 14 = .ok (.ifCond .ne 5, 3) := by decide +kernel
theorem dX11_cloth_17 : decode cX11_cloth 17 = .ok (.iconst (-1), 1) := by decide +kernel
theorem dX11_cloth_18 : decode cX11_cloth 18 = .ok (.ireturn, 1) := by decide +kernel
theorem dX11_cloth_19 : decode cX11_cloth 19 = .ok (.aload_n 0, 1) := by decide +kernel
theorem dX11_cloth_20 : decode cX11_cloth 20 = .ok (.invokevirtual 421, 3) := by decide +kernel
theorem dX11_cloth_23 : decode cX11_cloth 23 = .ok (.istore_n 2, 1) := by decide +kernel
theorem dX11_cloth_24 : decode cX11_cloth 24 = .ok (.aload_n 0, 1) := by decide +kernel
theorem dX11_cloth_25 : decode cX11_cloth 25 = .ok (.invokevirtual 415, 3) := by decide +kernel
theorem dX11_cloth_28 : decode cX11_cloth 28 = .ok (.iconst 0, 1) := by decide +kernel
theorem dX11_cloth_29 : decode cX11_cloth 29 = .ok (.istore_n 3, 1) := by decide +kernel
theorem dX11_cloth_30 : decode cX11_cloth 30 = .ok (.iload_n 3, 1) := by decide +kernel
theorem dX11_cloth_31 : decode cX11_cloth 31 = .ok (.iload_n 1, 1) := by decide +kernel
theorem dX11_cloth_32 : decode cX11_cloth 32 = .ok (.if_icmp .ge 14, 3) := by decide +kernel
theorem dX11_cloth_35 : decode cX11_cloth 35 = .ok (.aload_n 0, 1) := by decide +kernel
theorem dX11_cloth_36 : decode cX11_cloth 36 = .ok (.invokevirtual 371, 3) := by decide +kernel
theorem dX11_cloth_39 : decode cX11_cloth 39 = .ok (.pop, 1) := by decide +kernel
theorem dX11_cloth_40 : decode cX11_cloth 40 = .ok (.iinc 3 1, 3) := by decide +kernel
theorem dX11_cloth_43 : decode cX11_cloth 43 = .ok (.goto (-13), 3) := by decide +kernel
theorem dX11_cloth_46 : decode cX11_cloth 46 = .ok (.iload_n 2, 1) := by decide +kernel
theorem dX11_cloth_47 : decode cX11_cloth 47 = .ok (.aload_n 0, 1) := by decide +kernel
theorem dX11_cloth_48 : decode cX11_cloth 48 = .ok (.invokevirtual 421, 3) := by decide +kernel
theorem dX11_cloth_51 : decode cX11_cloth 51 = .ok (.isub, 1) := by decide +kernel
theorem dX11_cloth_52 : decode cX11_cloth 52 = .ok (.istore_n 3, 1) := by decide +kernel
theorem dX11_cloth_53 : decode cX11_cloth 53 = .ok (.aload_n 0, 1) := by decide +kernel
theorem dX11_cloth_54 : decode cX11_cloth 54 = .ok (.invokevirtual 418, 3) := by decide +kernel
theorem dX11_cloth_57 : decode cX11_cloth 57 = .ok (.iload_n 3, 1) := by decide +kernel
theorem dX11_cloth_58 : decode cX11_cloth 58 = .ok (.ireturn, 1) := by decide +kernel
theorem dX11_turnOf_0 : decode cX11_turnOf 0 = .ok (.aload_n 0, 1) := by decide +kernel
theorem dX11_turnOf_1 : decode cX11_turnOf 1 = .ok (.iload_n 2, 1) := by decide +kernel
theorem dX11_turnOf_2 : decode cX11_turnOf 2 = .ok (.invokevirtual 295, 3) := by decide +kernel
theorem dX11_turnOf_5 : decode cX11_turnOf 5 = .ok (.ifCond .eq 26, 3) := by decide +kernel
theorem dX11_turnOf_8 : decode cX11_turnOf 8 = .ok (.aload_n 0, 1) := by decide +kernel
theorem dX11_turnOf_9 : decode cX11_turnOf 9 = .ok (.iload_n 2, 1) := by decide +kernel
theorem dX11_turnOf_10 : decode cX11_turnOf 10 = .ok (.invokevirtual 298, 3) := by decide +kernel
theorem dX11_turnOf_13 : decode cX11_turnOf 13 = .ok (.ifCond .ne 18, 3) := by decide +kernel
theorem dX11_turnOf_16 : decode cX11_turnOf 16 = .ok (.aload_n 0, 1) := by decide +kernel
theorem dX11_turnOf_17 : decode cX11_turnOf 17 = .ok (.iload_n 1, 1) := by decide +kernel
theorem dX11_turnOf_18 : decode cX11_turnOf 18 = .ok (.iload_n 2, 1) := by decide +kernel
theorem dX11_turnOf_19 : decode cX11_turnOf 19 = .ok (.invokevirtual 353, 3) := by decide +kernel
theorem dX11_turnOf_22 : decode cX11_turnOf 22 = .ok (.ifCond .eq 9, 3) := by decide +kernel
theorem dX11_turnOf_25 : decode cX11_turnOf 25 = .ok (.iconst 1, 1) := by decide +kernel
theorem dX11_turnOf_26 : decode cX11_turnOf 26 = .ok (.iload_n 2, 1) := by decide +kernel
theorem dX11_turnOf_27 : decode cX11_turnOf 27 = .ok (.ishl, 1) := by decide +kernel
theorem dX11_turnOf_28 : decode cX11_turnOf 28 = .ok (.goto 4, 3) := by decide +kernel
theorem dX11_turnOf_31 : decode cX11_turnOf 31 = .ok (.iconst 0, 1) := by decide +kernel
theorem dX11_turnOf_32 : decode cX11_turnOf 32 = .ok (.ireturn, 1) := by decide +kernel
theorem dX11_hasBy_0 : decode cX11_hasBy 0 = .ok (.aload_n 0, 1) := by decide +kernel
theorem dX11_hasBy_1 : decode cX11_hasBy 1 = .ok (.aload_n 0, 1) := by decide +kernel
theorem dX11_hasBy_2 : decode cX11_hasBy 2 = .ok (.getfield 58, 3) := by decide +kernel
theorem dX11_hasBy_5 : decode cX11_hasBy 5 = .ok (.bipush 11, 2) := by decide +kernel
theorem dX11_hasBy_7 : decode cX11_hasBy 7 = .ok (.iload_n 1, 1) := by decide +kernel
theorem dX11_hasBy_8 : decode cX11_hasBy 8 = .ok (.iadd, 1) := by decide +kernel
theorem dX11_hasBy_9 : decode cX11_hasBy 9 = .ok (.iaload, 1) := by decide +kernel
theorem dX11_hasBy_10 : decode cX11_hasBy 10 = .ok (.aload_n 0, 1) := by decide +kernel
theorem dX11_hasBy_11 : decode cX11_hasBy 11 = .ok (.invokevirtual 314, 3) := by decide +kernel
theorem dX11_hasBy_14 : decode cX11_hasBy 14 = .ok (.iload_n 2, 1) := by decide +kernel
theorem dX11_hasBy_15 : decode cX11_hasBy 15 = .ok (.ixor, 1) := by decide +kernel
theorem dX11_hasBy_16 : decode cX11_hasBy 16 = .ok (.invokevirtual 317, 3) := by decide +kernel
theorem dX11_hasBy_19 : decode cX11_hasBy 19 = .ok (.istore_n 3, 1) := by decide +kernel
theorem dX11_hasBy_20 : decode cX11_hasBy 20 = .ok (.iload_n 3, 1) := by decide +kernel
theorem dX11_hasBy_21 : decode cX11_hasBy 21 = .ok (.invokestatic 400, 3) := by decide +kernel
theorem dX11_hasBy_24 : decode cX11_hasBy 24 = .ok (.aload_n 0, 1) := by decide +kernel
theorem dX11_hasBy_25 : decode cX11_hasBy 25 = .ok (.iload_n 3, 1) := by decide +kernel
theorem dX11_hasBy_26 : decode cX11_hasBy 26 = .ok (.invokevirtual 347, 3) := by decide +kernel
theorem dX11_hasBy_29 : decode cX11_hasBy 29 = .ok (.iload_n 1, 1) := by decide +kernel
theorem dX11_hasBy_30 : decode cX11_hasBy 30 = .ok (.if_icmp .ne 7, 3) := by decide +kernel
theorem dX11_hasBy_33 : decode cX11_hasBy 33 = .ok (.iconst 2, 1) := by decide +kernel
theorem dX11_hasBy_34 : decode cX11_hasBy 34 = .ok (.goto 4, 3) := by decide +kernel
theorem dX11_hasBy_37 : decode cX11_hasBy 37 = .ok (.iconst 1, 1) := by decide +kernel
theorem dX11_hasBy_38 : decode cX11_hasBy 38 = .ok (.imul, 1) := by decide +kernel
theorem dX11_hasBy_39 : decode cX11_hasBy 39 = .ok (.ireturn, 1) := by decide +kernel
theorem dX11_gameOf_0 : decode cX11_gameOf 0 = .ok (.aload_n 0, 1) := by decide +kernel
theorem dX11_gameOf_1 : decode cX11_gameOf 1 = .ok (.iload 5, 2) := by decide +kernel
theorem dX11_gameOf_3 : decode cX11_gameOf 3 = .ok (.aload_n 0, 1) := by decide +kernel
theorem dX11_gameOf_4 : decode cX11_gameOf 4 = .ok (.iload_n 1, 1) := by decide +kernel
theorem dX11_gameOf_5 : decode cX11_gameOf 5 = .ok (.iload_n 3, 1) := by decide +kernel
theorem dX11_gameOf_6 : decode cX11_gameOf 6 = .ok (.invokevirtual 424, 3) := by decide +kernel
theorem dX11_gameOf_9 : decode cX11_gameOf 9 = .ok (.aload_n 0, 1) := by decide +kernel
theorem dX11_gameOf_10 : decode cX11_gameOf 10 = .ok (.iload_n 2, 1) := by decide +kernel
theorem dX11_gameOf_11 : decode cX11_gameOf 11 = .ok (.iload 4, 2) := by decide +kernel
theorem dX11_gameOf_13 : decode cX11_gameOf 13 = .ok (.invokevirtual 424, 3) := by decide +kernel
theorem dX11_gameOf_16 : decode cX11_gameOf 16 = .ok (.ior, 1) := by decide +kernel
theorem dX11_gameOf_17 : decode cX11_gameOf 17 = .ok (.invokevirtual 427, 3) := by decide +kernel
theorem dX11_gameOf_20 : decode cX11_gameOf 20 = .ok (.ireturn, 1) := by decide +kernel
theorem dX11_areTwo_0 : decode cX11_areTwo 0 = .ok (.aload_n 0, 1) := by decide +kernel
theorem dX11_areTwo_1 : decode cX11_areTwo 1 = .ok (.iload_n 1, 1) := by decide +kernel
theorem dX11_areTwo_2 : decode cX11_areTwo 2 = .ok (.invokevirtual 344, 3) := by decide +kernel
theorem dX11_areTwo_5 : decode cX11_areTwo 5 = .ok (.ifCond .eq 20, 3) := by decide +kernel
theorem dX11_areTwo_8 : decode cX11_areTwo 8 = .ok (.aload_n 0, 1) := by decide +kernel
theorem dX11_areTwo_9 : decode cX11_areTwo 9 = .ok (.iload_n 2, 1) := by decide +kernel
theorem dX11_areTwo_10 : decode cX11_areTwo 10 = .ok (.invokevirtual 344, 3) := by decide +kernel
theorem dX11_areTwo_13 : decode cX11_areTwo 13 = .ok (.ifCond .eq 12, 3) := by decide +kernel
theorem dX11_areTwo_16 : decode cX11_areTwo 16 = .ok (.iload_n 1, 1) := by decide +kernel
theorem dX11_areTwo_17 : decode cX11_areTwo 17 = .ok (.iload_n 2, 1) := by decide +kernel
theorem dX11_areTwo_18 : decode cX11_areTwo 18 = .ok (.if_icmp .eq 7, 3) := by decide +kernel
theorem dX11_areTwo_21 : decode cX11_areTwo 21 = .ok (.iconst 1, 1) := by decide +kernel
theorem dX11_areTwo_22 : decode cX11_areTwo 22 = .ok (.goto 4, 3) := by decide +kernel
theorem dX11_areTwo_25 : decode cX11_areTwo 25 = .ok (.iconst 0, 1) := by decide +kernel
theorem dX11_areTwo_26 : decode cX11_areTwo 26 = .ok (.ireturn, 1) := by decide +kernel
theorem dX11_game_0 : decode cX11_game 0 = .ok (.aload_n 0, 1) := by decide +kernel
theorem dX11_game_1 : decode cX11_game 1 = .ok (.iload_n 1, 1) := by decide +kernel
theorem dX11_game_2 : decode cX11_game 2 = .ok (.iload_n 2, 1) := by decide +kernel
theorem dX11_game_3 : decode cX11_game 3 = .ok (.invokevirtual 430, 3) := by decide +kernel
theorem dX11_game_6 : decode cX11_game 6 = .ok (.ifCond .eq 38, 3) := by decide +kernel
theorem dX11_game_9 : decode cX11_game 9 = .ok (.iload_n 3, 1) := by decide +kernel
theorem dX11_game_10 : decode cX11_game 10 = .ok (.iconst 0, 1) := by decide +kernel
theorem dX11_game_11 : decode cX11_game 11 = .ok (.aload_n 0, 1) := by decide +kernel
theorem dX11_game_12 : decode cX11_game 12 = .ok (.getfield 261, 3) := by decide +kernel
theorem dX11_game_15 : decode cX11_game 15 = .ok (.invokestatic 217, 3) := by decide +kernel
theorem dX11_game_18 : decode cX11_game 18 = .ok (.ifCond .eq 26, 3) := by decide +kernel
theorem dX11_game_21 : decode cX11_game 21 = .ok (.iload 4, 2) := by decide +kernel
theorem dX11_game_23 : decode cX11_game 23 = .ok (.iconst 0, 1) := by decide +kernel
theorem dX11_game_24 : decode cX11_game 24 = .ok (.aload_n 0, 1) := by decide +kernel
theorem dX11_game_25 : decode cX11_game 25 = .ok (.getfield 261, 3) := by decide +kernel
theorem dX11_game_28 : decode cX11_game 28 = .ok (.invokestatic 217, 3) := by decide +kernel
theorem dX11_game_31 : decode cX11_game 31 = .ok (.ifCond .eq 13, 3) := by decide +kernel
theorem dX11_game_34 : decode cX11_game 34 = .ok (.iload 5, 2) := by decide +kernel
theorem dX11_game_36 : decode cX11_game 36 = .ok (.iconst 0, 1) := by decide +kernel
theorem dX11_game_37 : decode cX11_game 37 = .ok (.iconst 1, 1) := by decide +kernel
theorem dX11_game_38 : decode cX11_game 38 = .ok (.invokestatic 217, 3) := by decide +kernel
theorem dX11_game_41 : decode cX11_game 41 = .ok (.ifCond .ne 7, 3) := by decide +kernel
theorem dX11_game_44 : decode cX11_game 44 = .ok (.ldc_w 433, 3) := by decide +kernel
theorem dX11_game_47 : decode cX11_game 47 = .ok (.ireturn, 1) := by decide +kernel
theorem dX11_game_48 : decode cX11_game 48 = .ok (.aload_n 0, 1) := by decide +kernel
theorem dX11_game_49 : decode cX11_game 49 = .ok (.iload_n 1, 1) := by decide +kernel
theorem dX11_game_50 : decode cX11_game 50 = .ok (.iload_n 2, 1) := by decide +kernel
theorem dX11_game_51 : decode cX11_game 51 = .ok (.iload_n 3, 1) := by decide +kernel
theorem dX11_game_52 : decode cX11_game 52 = .ok (.iload 4, 2) := by decide +kernel
theorem dX11_game_54 : decode cX11_game 54 = .ok (.iload 5, 2) := by decide +kernel
theorem dX11_game_56 : decode cX11_game 56 = .ok (.ifCond .ne 7, 3) := by decide +kernel
theorem dX11_game_59 : decode cX11_game 59 = .ok (.iload_n 1, 1) := by decide +kernel
theorem dX11_game_60 : decode cX11_game 60 = .ok (.goto 4, 3) := by decide +kernel
theorem dX11_game_63 : decode cX11_game 63 = .ok (.iload_n 2, 1) := by decide +kernel
theorem dX11_game_64 : decode cX11_game 64 = .ok (.invokevirtual 434, 3) := by decide +kernel
theorem dX11_game_67 : decode cX11_game 67 = .ok (.ireturn, 1) := by decide +kernel
theorem dX11_layGame_0 : decode cX11_layGame 0 = .ok (.iconst 0, 1) := by decide +kernel
theorem dX11_layGame_1 : decode cX11_layGame 1 = .ok (.istore_n 3, 1) := by decide +kernel
theorem dX11_layGame_2 : decode cX11_layGame 2 = .ok (.iload_n 3, 1) := by decide +kernel
theorem dX11_layGame_3 : decode cX11_layGame 3 = .ok (.aload_n 0, 1) := by decide +kernel
theorem dX11_layGame_4 : decode cX11_layGame 4 = .ok (.getfield 261, 3) := by decide +kernel
theorem dX11_layGame_7 : decode cX11_layGame 7 = .ok (.iconst 1, 1) := by decide +kernel
theorem dX11_layGame_8 : decode cX11_layGame 8 = .ok (.iadd, 1) := by decide +kernel
theorem dX11_layGame_9 : decode cX11_layGame 9 = .ok (.aload_n 0, 1) := by decide +kernel
theorem dX11_layGame_10 : decode cX11_layGame 10 = .ok (.getfield 261, 3) := by decide +kernel
theorem dX11_layGame_13 : decode cX11_layGame 13 = .ok (.iconst 1, 1) := by decide +kernel
theorem dX11_layGame_14 : decode cX11_layGame 14 = .ok (.iadd, 1) := by decide +kernel
theorem dX11_layGame_15 : decode cX11_layGame 15 = .ok (.imul, 1) := by decide +kernel
theorem dX11_layGame_16 : decode cX11_layGame 16 = .ok (.if_icmp .ge 67, 3) := by decide +kernel
theorem dX11_layGame_19 : decode cX11_layGame 19 = .ok (.aload_n 0, 1) := by decide +kernel
theorem dX11_layGame_20 : decode cX11_layGame 20 = .ok (.getfield 86, 3) := by decide +kernel
theorem dX11_layGame_23 : decode cX11_layGame 23 = .ok (.iload_n 3, 1) := by decide +kernel
theorem dX11_layGame_24 : decode cX11_layGame 24 = .ok (.aload_n 0, 1) := by decide +kernel
theorem dX11_layGame_25 : decode cX11_layGame 25 = .ok (.iload_n 1, 1) := by decide +kernel
theorem dX11_layGame_26 : decode cX11_layGame 26 = .ok (.iload_n 2, 1) := by decide +kernel
theorem dX11_layGame_27 : decode cX11_layGame 27 = .ok (.iload_n 3, 1) := by decide +kernel
theorem dX11_layGame_28 : decode cX11_layGame 28 = .ok (.aload_n 0, 1) := by decide +kernel
theorem dX11_layGame_29 : decode cX11_layGame 29 = .ok (.getfield 261, 3) := by decide +kernel
theorem dX11_layGame_32 : decode cX11_layGame 32 = .ok (.iconst 1, 1) := by decide +kernel
theorem dX11_layGame_33 : decode cX11_layGame 33 = .ok (.iadd, 1) := by decide +kernel
theorem dX11_layGame_34 : decode cX11_layGame 34 = .ok (.idiv, 1) := by decide +kernel
theorem dX11_layGame_35 : decode cX11_layGame 35 = .ok (.iload_n 3, 1) := by decide +kernel
theorem dX11_layGame_36 : decode cX11_layGame 36 = .ok (.aload_n 0, 1) := by decide +kernel
theorem dX11_layGame_37 : decode cX11_layGame 37 = .ok (.getfield 261, 3) := by decide +kernel
theorem dX11_layGame_40 : decode cX11_layGame 40 = .ok (.iconst 1, 1) := by decide +kernel
theorem dX11_layGame_41 : decode cX11_layGame 41 = .ok (.iadd, 1) := by decide +kernel
theorem dX11_layGame_42 : decode cX11_layGame 42 = .ok (.irem, 1) := by decide +kernel
theorem dX11_layGame_43 : decode cX11_layGame 43 = .ok (.iload_n 1, 1) := by decide +kernel
theorem dX11_layGame_44 : decode cX11_layGame 44 = .ok (.invokevirtual 434, 3) := by decide +kernel
theorem dX11_layGame_47 : decode cX11_layGame 47 = .ok (.iastore, 1) := by decide +kernel
theorem dX11_layGame_48 : decode cX11_layGame 48 = .ok (.aload_n 0, 1) := by decide +kernel
theorem dX11_layGame_49 : decode cX11_layGame 49 = .ok (.getfield 89, 3) := by decide +kernel
theorem dX11_layGame_52 : decode cX11_layGame 52 = .ok (.iload_n 3, 1) := by decide +kernel
theorem dX11_layGame_53 : decode cX11_layGame 53 = .ok (.aload_n 0, 1) := by decide +kernel
theorem dX11_layGame_54 : decode cX11_layGame 54 = .ok (.iload_n 1, 1) := by decide +kernel
theorem dX11_layGame_55 : decode cX11_layGame 55 = .ok (.iload_n 2, 1) := by decide +kernel
theorem dX11_layGame_56 : decode cX11_layGame 56 = .ok (.iload_n 3, 1) := by decide +kernel
theorem dX11_layGame_57 : decode cX11_layGame 57 = .ok (.aload_n 0, 1) := by decide +kernel
theorem dX11_layGame_58 : decode cX11_layGame 58 = .ok (.getfield 261, 3) := by decide +kernel
theorem dX11_layGame_61 : decode cX11_layGame 61 = .ok (.iconst 1, 1) := by decide +kernel
theorem dX11_layGame_62 : decode cX11_layGame 62 = .ok (.iadd, 1) := by decide +kernel
theorem dX11_layGame_63 : decode cX11_layGame 63 = .ok (.idiv, 1) := by decide +kernel
theorem dX11_layGame_64 : decode cX11_layGame 64 = .ok (.iload_n 3, 1) := by decide +kernel
theorem dX11_layGame_65 : decode cX11_layGame 65 = .ok (.aload_n 0, 1) := by decide +kernel
theorem dX11_layGame_66 : decode cX11_layGame 66 = .ok (.getfield 261, 3) := by decide +kernel
theorem dX11_layGame_69 : decode cX11_layGame 69 = .ok (.iconst 1, 1) := by decide +kernel
theorem dX11_layGame_70 : decode cX11_layGame 70 = .ok (.iadd, 1) := by decide +kernel
theorem dX11_layGame_71 : decode cX11_layGame 71 = .ok (.irem, 1) := by decide +kernel
theorem dX11_layGame_72 : decode cX11_layGame 72 = .ok (.iload_n 2, 1) := by decide +kernel
theorem dX11_layGame_73 : decode cX11_layGame 73 = .ok (.invokevirtual 434, 3) := by decide +kernel
theorem dX11_layGame_76 : decode cX11_layGame 76 = .ok (.iastore, 1) := by decide +kernel
theorem dX11_layGame_77 : decode cX11_layGame 77 = .ok (.iinc 3 1, 3) := by decide +kernel
theorem dX11_layGame_80 : decode cX11_layGame 80 = .ok (.goto (-78), 3) := by decide +kernel
theorem dX11_layGame_83 : decode cX11_layGame 83 = .ok (.return_, 1) := by decide +kernel
theorem dX11_isRest_0 : decode cX11_isRest 0 = .ok (.aload_n 0, 1) := by decide +kernel
theorem dX11_isRest_1 : decode cX11_isRest 1 = .ok (.getfield 261, 3) := by decide +kernel
theorem dX11_isRest_4 : decode cX11_isRest 4 = .ok (.iconst 1, 1) := by decide +kernel
theorem dX11_isRest_5 : decode cX11_isRest 5 = .ok (.iadd, 1) := by decide +kernel
theorem dX11_isRest_6 : decode cX11_isRest 6 = .ok (.istore_n 3, 1) := by decide +kernel
theorem dX11_isRest_7 : decode cX11_isRest 7 = .ok (.iconst 0, 1) := by decide +kernel
theorem dX11_isRest_8 : decode cX11_isRest 8 = .ok (.istore 4, 2) := by decide +kernel
theorem dX11_isRest_10 : decode cX11_isRest 10 = .ok (.iload 4, 2) := by decide +kernel
theorem dX11_isRest_12 : decode cX11_isRest 12 = .ok (.iload_n 3, 1) := by decide +kernel
theorem dX11_isRest_13 : decode cX11_isRest 13 = .ok (.if_icmp .ge 59, 3) := by decide +kernel
theorem dX11_isRest_16 : decode cX11_isRest 16 = .ok (.aload_n 0, 1) := by decide +kernel
theorem dX11_isRest_17 : decode cX11_isRest 17 = .ok (.getfield 86, 3) := by decide +kernel
theorem dX11_isRest_20 : decode cX11_isRest 20 = .ok (.iload_n 3, 1) := by decide +kernel
theorem dX11_isRest_21 : decode cX11_isRest 21 = .ok (.iload 4, 2) := by decide +kernel
theorem dX11_isRest_23 : decode cX11_isRest 23 = .ok (.imul, 1) := by decide +kernel
theorem dX11_isRest_24 : decode cX11_isRest 24 = .ok (.iload_n 2, 1) := by decide +kernel
theorem dX11_isRest_25 : decode cX11_isRest 25 = .ok (.iadd, 1) := by decide +kernel
theorem dX11_isRest_26 : decode cX11_isRest 26 = .ok (.iaload, 1) := by decide +kernel
theorem dX11_isRest_27 : decode cX11_isRest 27 = .ok (.aload_n 0, 1) := by decide +kernel
theorem dX11_isRest_28 : decode cX11_isRest 28 = .ok (.getfield 86, 3) := by decide +kernel
theorem dX11_isRest_31 : decode cX11_isRest 31 = .ok (.iload_n 3, 1) := by decide +kernel
theorem dX11_isRest_32 : decode cX11_isRest 32 = .ok (.iload_n 1, 1) := by decide +kernel
theorem dX11_isRest_33 : decode cX11_isRest 33 = .ok (.imul, 1) := by decide +kernel
theorem dX11_isRest_34 : decode cX11_isRest 34 = .ok (.iload_n 2, 1) := by decide +kernel
theorem dX11_isRest_35 : decode cX11_isRest 35 = .ok (.iadd, 1) := by decide +kernel
theorem dX11_isRest_36 : decode cX11_isRest 36 = .ok (.iaload, 1) := by decide +kernel
theorem dX11_isRest_37 : decode cX11_isRest 37 = .ok (.if_icmp .gt 27, 3) := by decide +kernel
theorem dX11_isRest_40 : decode cX11_isRest 40 = .ok (.aload_n 0, 1) := by decide +kernel
theorem dX11_isRest_41 : decode cX11_isRest 41 = .ok (.getfield 89, 3) := by decide +kernel
theorem dX11_isRest_44 : decode cX11_isRest 44 = .ok (.iload_n 3, 1) := by decide +kernel
theorem dX11_isRest_45 : decode cX11_isRest 45 = .ok (.iload_n 1, 1) := by decide +kernel
theorem dX11_isRest_46 : decode cX11_isRest 46 = .ok (.imul, 1) := by decide +kernel
theorem dX11_isRest_47 : decode cX11_isRest 47 = .ok (.iload 4, 2) := by decide +kernel
theorem dX11_isRest_49 : decode cX11_isRest 49 = .ok (.iadd, 1) := by decide +kernel
theorem dX11_isRest_50 : decode cX11_isRest 50 = .ok (.iaload, 1) := by decide +kernel
theorem dX11_isRest_51 : decode cX11_isRest 51 = .ok (.aload_n 0, 1) := by decide +kernel
theorem dX11_isRest_52 : decode cX11_isRest 52 = .ok (.getfield 89, 3) := by decide +kernel
theorem dX11_isRest_55 : decode cX11_isRest 55 = .ok (.iload_n 3, 1) := by decide +kernel
theorem dX11_isRest_56 : decode cX11_isRest 56 = .ok (.iload_n 1, 1) := by decide +kernel
theorem dX11_isRest_57 : decode cX11_isRest 57 = .ok (.imul, 1) := by decide +kernel
theorem dX11_isRest_58 : decode cX11_isRest 58 = .ok (.iload_n 2, 1) := by decide +kernel
theorem dX11_isRest_59 : decode cX11_isRest 59 = .ok (.iadd, 1) := by decide +kernel
theorem dX11_isRest_60 : decode cX11_isRest 60 = .ok (.iaload, 1) := by decide +kernel
theorem dX11_isRest_61 : decode cX11_isRest 61 = .ok (.if_icmp .le 5, 3) := by decide +kernel
theorem dX11_isRest_64 : decode cX11_isRest 64 = .ok (.iconst 0, 1) := by decide +kernel
theorem dX11_isRest_65 : decode cX11_isRest 65 = .ok (.ireturn, 1) := by decide +kernel
theorem dX11_isRest_66 : decode cX11_isRest 66 = .ok (.iinc 4 1, 3) := by decide +kernel
theorem dX11_isRest_69 : decode cX11_isRest 69 = .ok (.goto (-59), 3) := by decide +kernel
theorem dX11_isRest_72 : decode cX11_isRest 72 = .ok (.iconst 1, 1) := by decide +kernel
theorem dX11_isRest_73 : decode cX11_isRest 73 = .ok (.ireturn, 1) := by decide +kernel
theorem dX11_rests_0 : decode cX11_rests 0 = .ok (.aload_n 0, 1) := by decide +kernel
theorem dX11_rests_1 : decode cX11_rests 1 = .ok (.iload_n 1, 1) := by decide +kernel
theorem dX11_rests_2 : decode cX11_rests 2 = .ok (.iload_n 2, 1) := by decide +kernel
theorem dX11_rests_3 : decode cX11_rests 3 = .ok (.invokevirtual 430, 3) := by decide +kernel
theorem dX11_rests_6 : decode cX11_rests 6 = .ok (.ifCond .eq 8, 3) := by decide +kernel
theorem dX11_rests_9 : decode cX11_rests 9 = .ok (.iload_n 3, 1) := by decide +kernel
theorem dX11_rests_10 : decode cX11_rests 10 = .ok (.iconst (-1), 1) := by decide +kernel
theorem dX11_rests_11 : decode cX11_rests 11 = .ok (.if_icmp .ge 5, 3) := by decide +kernel
theorem dX11_rests_14 : decode cX11_rests 14 = .ok (.iconst (-1), 1) := by decide +kernel
theorem dX11_rests_15 : decode cX11_rests 15 = .ok (.ireturn, 1) := by decide +kernel
theorem dX11_rests_16 : decode cX11_rests 16 = .ok (.aload_n 0, 1) := by decide +kernel
theorem dX11_rests_17 : decode cX11_rests 17 = .ok (.iload_n 1, 1) := by decide +kernel
theorem dX11_rests_18 : decode cX11_rests 18 = .ok (.iload_n 2, 1) := by decide +kernel
theorem dX11_rests_19 : decode cX11_rests 19 = .ok (.invokevirtual 438, 3) := by decide +kernel
theorem dX11_rests_22 : decode cX11_rests 22 = .ok (.iconst 0, 1) := by decide +kernel
theorem dX11_rests_23 : decode cX11_rests 23 = .ok (.istore 4, 2) := by decide +kernel
theorem dX11_rests_25 : decode cX11_rests 25 = .ok (.iconst 0, 1) := by decide +kernel
theorem dX11_rests_26 : decode cX11_rests 26 = .ok (.istore 5, 2) := by decide +kernel
theorem dX11_rests_28 : decode cX11_rests 28 = .ok (.iload 5, 2) := by decide +kernel
theorem dX11_rests_30 : decode cX11_rests 30 = .ok (.aload_n 0, 1) := by decide +kernel
theorem dX11_rests_31 : decode cX11_rests 31 = .ok (.getfield 261, 3) := by decide +kernel
theorem dX11_rests_34 : decode cX11_rests 34 = .ok (.if_icmp .gt 56, 3) := by decide +kernel
theorem dX11_rests_37 : decode cX11_rests 37 = .ok (.iconst 0, 1) := by decide +kernel
theorem dX11_rests_38 : decode cX11_rests 38 = .ok (.istore 6, 2) := by decide +kernel
theorem dX11_rests_40 : decode cX11_rests 40 = .ok (.iload 6, 2) := by decide +kernel
theorem dX11_rests_42 : decode cX11_rests 42 = .ok (.aload_n 0, 1) := by decide +kernel
theorem dX11_rests_43 : decode cX11_rests 43 = .ok (.getfield 261, 3) := by decide +kernel
theorem dX11_rests_46 : decode cX11_rests 46 = .ok (.if_icmp .gt 38, 3) := by decide +kernel
theorem dX11_rests_49 : decode cX11_rests 49 = .ok (.aload_n 0, 1) := by decide +kernel
theorem dX11_rests_50 : decode cX11_rests 50 = .ok (.iload 5, 2) := by decide +kernel
theorem dX11_rests_52 : decode cX11_rests 52 = .ok (.iload 6, 2) := by decide +kernel
theorem dX11_rests_54 : decode cX11_rests 54 = .ok (.invokevirtual 441, 3) := by decide +kernel
theorem dX11_rests_57 : decode cX11_rests 57 = .ok (.ifCond .eq 21, 3) := by decide +kernel
theorem dX11_rests_60 : decode cX11_rests 60 = .ok (.iload 4, 2) := by decide +kernel
theorem dX11_rests_62 : decode cX11_rests 62 = .ok (.iload_n 3, 1) := by decide +kernel
theorem dX11_rests_63 : decode cX11_rests 63 = .ok (.if_icmp .ne 12, 3) := by decide +kernel
theorem dX11_rests_66 : decode cX11_rests 66 = .ok (.bipush 10, 2) := by decide +kernel
theorem dX11_rests_68 : decode cX11_rests 68 = .ok (.iload 5, 2) := by decide +kernel
theorem dX11_rests_70 : decode cX11_rests 70 = .ok (.imul, 1) := by decide +kernel
theorem dX11_rests_71 : decode cX11_rests 71 = .ok (.iload 6, 2) := by decide +kernel
theorem dX11_rests_73 : decode cX11_rests 73 = .ok (.iadd, 1) := by decide +kernel
theorem dX11_rests_74 : decode cX11_rests 74 = .ok (.ireturn, 1) := by decide +kernel
theorem dX11_rests_75 : decode cX11_rests 75 = .ok (.iinc 4 1, 3) := by decide +kernel
theorem dX11_rests_78 : decode cX11_rests 78 = .ok (.iinc 6 1, 3) := by decide +kernel
theorem dX11_rests_81 : decode cX11_rests 81 = .ok (.goto (-41), 3) := by decide +kernel
theorem dX11_rests_84 : decode cX11_rests 84 = .ok (.iinc 5 1, 3) := by decide +kernel
theorem dX11_rests_87 : decode cX11_rests 87 = .ok (.goto (-59), 3) := by decide +kernel
theorem dX11_rests_90 : decode cX11_rests 90 = .ok (.iload_n 3, 1) := by decide +kernel
theorem dX11_rests_91 : decode cX11_rests 91 = .ok (.iconst (-1), 1) := by decide +kernel
theorem dX11_rests_92 : decode cX11_rests 92 = .ok (.if_icmp .ne 8, 3) := by decide +kernel
theorem dX11_rests_95 : decode cX11_rests 95 = .ok (.iload 4, 2) := by decide +kernel
theorem dX11_rests_97 : decode cX11_rests 97 = .ok (.goto 4, 3) := by decide +kernel
theorem dX11_rests_100 : decode cX11_rests 100 = .ok (.iconst (-1), 1) := by decide +kernel
theorem dX11_rests_101 : decode cX11_rests 101 = .ok (.ireturn, 1) := by decide +kernel
theorem dX11_treaty_0 : decode cX11_treaty 0 = .ok (.aload_n 0, 1) := by decide +kernel
theorem dX11_treaty_1 : decode cX11_treaty 1 = .ok (.iload_n 1, 1) := by decide +kernel
theorem dX11_treaty_2 : decode cX11_treaty 2 = .ok (.iload_n 2, 1) := by decide +kernel
theorem dX11_treaty_3 : decode cX11_treaty 3 = .ok (.invokevirtual 430, 3) := by decide +kernel
theorem dX11_treaty_6 : decode cX11_treaty 6 = .ok (.ifCond .ne 5, 3) := by decide +kernel
theorem dX11_treaty_9 : decode cX11_treaty 9 = .ok (.iconst (-1), 1) := by decide +kernel
theorem dX11_treaty_10 : decode cX11_treaty 10 = .ok (.ireturn, 1) := by decide +kernel
theorem dX11_treaty_11 : decode cX11_treaty 11 = .ok (.iconst 0, 1) := by decide +kernel
theorem dX11_treaty_12 : decode cX11_treaty 12 = .ok (.istore_n 3, 1) := by decide +kernel
theorem dX11_treaty_13 : decode cX11_treaty 13 = .ok (.iload_n 3, 1) := by decide +kernel
theorem dX11_treaty_14 : decode cX11_treaty 14 = .ok (.aload_n 0, 1) := by decide +kernel
theorem dX11_treaty_15 : decode cX11_treaty 15 = .ok (.getfield 261, 3) := by decide +kernel
theorem dX11_treaty_18 : decode cX11_treaty 18 = .ok (.if_icmp .ge 51, 3) := by decide +kernel
theorem dX11_treaty_21 : decode cX11_treaty 21 = .ok (.aload_n 0, 1) := by decide +kernel
theorem dX11_treaty_22 : decode cX11_treaty 22 = .ok (.iload_n 1, 1) := by decide +kernel
theorem dX11_treaty_23 : decode cX11_treaty 23 = .ok (.aload_n 0, 1) := by decide +kernel
theorem dX11_treaty_24 : decode cX11_treaty 24 = .ok (.iload_n 1, 1) := by decide +kernel
theorem dX11_treaty_25 : decode cX11_treaty 25 = .ok (.iload_n 3, 1) := by decide +kernel
theorem dX11_treaty_26 : decode cX11_treaty 26 = .ok (.invokevirtual 424, 3) := by decide +kernel
theorem dX11_treaty_29 : decode cX11_treaty 29 = .ok (.invokevirtual 427, 3) := by decide +kernel
theorem dX11_treaty_32 : decode cX11_treaty 32 = .ok (.aload_n 0, 1) := by decide +kernel
theorem dX11_treaty_33 : decode cX11_treaty 33 = .ok (.iload_n 1, 1) := by decide +kernel
theorem dX11_treaty_34 : decode cX11_treaty 34 = .ok (.iconst 0, 1) := by decide +kernel
theorem dX11_treaty_35 : decode cX11_treaty 35 = .ok (.invokevirtual 427, 3) := by decide +kernel
theorem dX11_treaty_38 : decode cX11_treaty 38 = .ok (.if_icmp .gt 23, 3) := by decide +kernel
theorem dX11_treaty_41 : decode cX11_treaty 41 = .ok (.aload_n 0, 1) := by decide +kernel
theorem dX11_treaty_42 : decode cX11_treaty 42 = .ok (.iload_n 2, 1) := by decide +kernel
theorem dX11_treaty_43 : decode cX11_treaty 43 = .ok (.aload_n 0, 1) := by decide +kernel
theorem dX11_treaty_44 : decode cX11_treaty 44 = .ok (.iload_n 2, 1) := by decide +kernel
theorem dX11_treaty_45 : decode cX11_treaty 45 = .ok (.iload_n 3, 1) := by decide +kernel
theorem dX11_treaty_46 : decode cX11_treaty 46 = .ok (.invokevirtual 424, 3) := by decide +kernel
theorem dX11_treaty_49 : decode cX11_treaty 49 = .ok (.invokevirtual 427, 3) := by decide +kernel
theorem dX11_treaty_52 : decode cX11_treaty 52 = .ok (.aload_n 0, 1) := by decide +kernel
theorem dX11_treaty_53 : decode cX11_treaty 53 = .ok (.iload_n 2, 1) := by decide +kernel
theorem dX11_treaty_54 : decode cX11_treaty 54 = .ok (.iconst 0, 1) := by decide +kernel
theorem dX11_treaty_55 : decode cX11_treaty 55 = .ok (.invokevirtual 427, 3) := by decide +kernel
theorem dX11_treaty_58 : decode cX11_treaty 58 = .ok (.if_icmp .le 5, 3) := by decide +kernel
theorem dX11_treaty_61 : decode cX11_treaty 61 = .ok (.iconst 0, 1) := by decide +kernel
theorem dX11_treaty_62 : decode cX11_treaty 62 = .ok (.ireturn, 1) := by decide +kernel
theorem dX11_treaty_63 : decode cX11_treaty 63 = .ok (.iinc 3 1, 3) := by decide +kernel
theorem dX11_treaty_66 : decode cX11_treaty 66 = .ok (.goto (-53), 3) := by decide +kernel
theorem dX11_treaty_69 : decode cX11_treaty 69 = .ok (.iconst 1, 1) := by decide +kernel
theorem dX11_treaty_70 : decode cX11_treaty 70 = .ok (.ireturn, 1) := by decide +kernel
theorem dX11_air_0 : decode cX11_air 0 = .ok (.aload_n 0, 1) := by decide +kernel
theorem dX11_air_1 : decode cX11_air 1 = .ok (.iload_n 1, 1) := by decide +kernel
theorem dX11_air_2 : decode cX11_air 2 = .ok (.invokevirtual 344, 3) := by decide +kernel
theorem dX11_air_5 : decode cX11_air 5 = .ok (.ifCond .ne 5, 3) := by decide +kernel
theorem dX11_air_8 : decode cX11_air 8 = .ok (.iconst (-1), 1) := by decide +kernel
theorem dX11_air_9 : decode cX11_air 9 = .ok (.ireturn, 1) := by decide +kernel
theorem dX11_air_10 : decode cX11_air 10 = .ok (.aload_n 0, 1) := by decide +kernel
theorem dX11_air_11 : decode cX11_air 11 = .ok (.aload_n 0, 1) := by decide +kernel
theorem dX11_air_12 : decode cX11_air 12 = .ok (.getfield 58, 3) := by decide +kernel
theorem dX11_air_15 : decode cX11_air 15 = .ok (.bipush 11, 2) := by decide +kernel
theorem dX11_air_17 : decode cX11_air 17 = .ok (.iload_n 1, 1) := by decide +kernel
theorem dX11_air_18 : decode cX11_air 18 = .ok (.iadd, 1) := by decide +kernel
theorem dX11_air_19 : decode cX11_air 19 = .ok (.iaload, 1) := by decide +kernel
theorem dX11_air_20 : decode cX11_air 20 = .ok (.invokevirtual 328, 3) := by decide +kernel
theorem dX11_air_23 : decode cX11_air 23 = .ok (.istore_n 2, 1) := by decide +kernel
theorem dX11_air_24 : decode cX11_air 24 = .ok (.iload_n 2, 1) := by decide +kernel
theorem dX11_air_25 : decode cX11_air 25 = .ok (.invokestatic 400, 3) := by decide +kernel
theorem dX11_air_28 : decode cX11_air 28 = .ok (.aload_n 0, 1) := by decide +kernel
theorem dX11_air_29 : decode cX11_air 29 = .ok (.iload_n 2, 1) := by decide +kernel
theorem dX11_air_30 : decode cX11_air 30 = .ok (.invokevirtual 444, 3) := by decide +kernel
theorem dX11_air_33 : decode cX11_air 33 = .ok (.idiv, 1) := by decide +kernel
theorem dX11_air_34 : decode cX11_air 34 = .ok (.ireturn, 1) := by decide +kernel
theorem dX11_faded_0 : decode cX11_faded 0 = .ok (.aload_n 0, 1) := by decide +kernel
theorem dX11_faded_1 : decode cX11_faded 1 = .ok (.iload_n 1, 1) := by decide +kernel
theorem dX11_faded_2 : decode cX11_faded 2 = .ok (.invokevirtual 295, 3) := by decide +kernel
theorem dX11_faded_5 : decode cX11_faded 5 = .ok (.ifCond .eq 12, 3) := by decide +kernel
theorem dX11_faded_8 : decode cX11_faded 8 = .ok (.aload_n 0, 1) := by decide +kernel
theorem dX11_faded_9 : decode cX11_faded 9 = .ok (.getfield 279, 3) := by decide +kernel
theorem dX11_faded_12 : decode cX11_faded 12 = .ok (.bipush 10, 2) := by decide +kernel
theorem dX11_faded_14 : decode cX11_faded 14 = .ok (.if_icmp .ne 5, 3) := by decide +kernel
theorem dX11_faded_17 : decode cX11_faded 17 = .ok (.iconst (-1), 1) := by decide +kernel
theorem dX11_faded_18 : decode cX11_faded 18 = .ok (.ireturn, 1) := by decide +kernel
theorem dX11_faded_19 : decode cX11_faded 19 = .ok (.aload_n 0, 1) := by decide +kernel
theorem dX11_faded_20 : decode cX11_faded 20 = .ok (.getfield 92, 3) := by decide +kernel
theorem dX11_faded_23 : decode cX11_faded 23 = .ok (.aload_n 0, 1) := by decide +kernel
theorem dX11_faded_24 : decode cX11_faded 24 = .ok (.getfield 279, 3) := by decide +kernel
theorem dX11_faded_27 : decode cX11_faded 27 = .ok (.iload_n 1, 1) := by decide +kernel
theorem dX11_faded_28 : decode cX11_faded 28 = .ok (.iastore, 1) := by decide +kernel
theorem dX11_faded_29 : decode cX11_faded 29 = .ok (.aload_n 0, 1) := by decide +kernel
theorem dX11_faded_30 : decode cX11_faded 30 = .ok (.getfield 95, 3) := by decide +kernel
theorem dX11_faded_33 : decode cX11_faded 33 = .ok (.aload_n 0, 1) := by decide +kernel
theorem dX11_faded_34 : decode cX11_faded 34 = .ok (.getfield 279, 3) := by decide +kernel
theorem dX11_faded_37 : decode cX11_faded 37 = .ok (.iload_n 2, 1) := by decide +kernel
theorem dX11_faded_38 : decode cX11_faded 38 = .ok (.bastore, 1) := by decide +kernel
theorem dX11_faded_39 : decode cX11_faded 39 = .ok (.aload_n 0, 1) := by decide +kernel
theorem dX11_faded_40 : decode cX11_faded 40 = .ok (.dup, 1) := by decide +kernel
theorem dX11_faded_41 : decode cX11_faded 41 = .ok (.getfield 279, 3) := by decide +kernel
theorem dX11_faded_44 : decode cX11_faded 44 = .ok (.iconst 1, 1) := by decide +kernel
theorem dX11_faded_45 : decode cX11_faded 45 = .ok (.iadd, 1) := by decide +kernel
theorem dX11_faded_46 : decode cX11_faded 46 = .ok (.putfield 279, 3) := by decide +kernel
theorem dX11_faded_49 : decode cX11_faded 49 = .ok (.aload_n 0, 1) := by decide +kernel
theorem dX11_faded_50 : decode cX11_faded 50 = .ok (.getfield 279, 3) := by decide +kernel
theorem dX11_faded_53 : decode cX11_faded 53 = .ok (.ireturn, 1) := by decide +kernel
theorem dX11_couldLean_0 : decode cX11_couldLean 0 = .ok (.iconst 0, 1) := by decide +kernel
theorem dX11_couldLean_1 : decode cX11_couldLean 1 = .ok (.istore_n 3, 1) := by decide +kernel
theorem dX11_couldLean_2 : decode cX11_couldLean 2 = .ok (.iload_n 3, 1) := by decide +kernel
theorem dX11_couldLean_3 : decode cX11_couldLean 3 = .ok (.aload_n 0, 1) := by decide +kernel
theorem dX11_couldLean_4 : decode cX11_couldLean 4 = .ok (.getfield 264, 3) := by decide +kernel
theorem dX11_couldLean_7 : decode cX11_couldLean 7 = .ok (.if_icmp .ge 36, 3) := by decide +kernel
theorem dX11_couldLean_10 : decode cX11_couldLean 10 = .ok (.iload_n 1, 1) := by decide +kernel
theorem dX11_couldLean_11 : decode cX11_couldLean 11 = .ok (.iload_n 3, 1) := by decide +kernel
theorem dX11_couldLean_12 : decode cX11_couldLean 12 = .ok (.invokestatic 228, 3) := by decide +kernel
theorem dX11_couldLean_15 : decode cX11_couldLean 15 = .ok (.ifCond .eq 22, 3) := by decide +kernel
theorem dX11_couldLean_18 : decode cX11_couldLean 18 = .ok (.aload_n 0, 1) := by decide +kernel
theorem dX11_couldLean_19 : decode cX11_couldLean 19 = .ok (.iload_n 2, 1) := by decide +kernel
theorem dX11_couldLean_20 : decode cX11_couldLean 20 = .ok (.aload_n 0, 1) := by decide +kernel
theorem dX11_couldLean_21 : decode cX11_couldLean 21 = .ok (.getfield 58, 3) := by decide +kernel
theorem dX11_couldLean_24 : decode cX11_couldLean 24 = .ok (.bipush 11, 2) := by decide +kernel
theorem dX11_couldLean_26 : decode cX11_couldLean 26 = .ok (.iload_n 3, 1) := by decide +kernel
theorem dX11_couldLean_27 : decode cX11_couldLean 27 = .ok (.iadd, 1) := by decide +kernel
theorem dX11_couldLean_28 : decode cX11_couldLean 28 = .ok (.iaload, 1) := by decide +kernel
theorem dX11_couldLean_29 : decode cX11_couldLean 29 = .ok (.invokevirtual 368, 3) := by decide +kernel
theorem dX11_couldLean_32 : decode cX11_couldLean 32 = .ok (.ifCond .eq 5, 3) := by decide +kernel
theorem dX11_couldLean_35 : decode cX11_couldLean 35 = .ok (.iconst 1, 1) := by decide +kernel
theorem dX11_couldLean_36 : decode cX11_couldLean 36 = .ok (.ireturn, 1) := by decide +kernel
theorem dX11_couldLean_37 : decode cX11_couldLean 37 = .ok (.iinc 3 1, 3) := by decide +kernel
theorem dX11_couldLean_40 : decode cX11_couldLean 40 = .ok (.goto (-38), 3) := by decide +kernel
theorem dX11_couldLean_43 : decode cX11_couldLean 43 = .ok (.iconst 0, 1) := by decide +kernel
theorem dX11_couldLean_44 : decode cX11_couldLean 44 = .ok (.ireturn, 1) := by decide +kernel
theorem dX11_isLeant_0 : decode cX11_isLeant 0 = .ok (.iload_n 2, 1) := by decide +kernel
theorem dX11_isLeant_1 : decode cX11_isLeant 1 = .ok (.invokestatic 400, 3) := by decide +kernel
theorem dX11_isLeant_4 : decode cX11_isLeant 4 = .ok (.iload_n 1, 1) := by decide +kernel
theorem dX11_isLeant_5 : decode cX11_isLeant 5 = .ok (.if_icmp .ne 7, 3) := by decide +kernel
theorem dX11_isLeant_8 : decode cX11_isLeant 8 = .ok (.iconst 1, 1) := by decide +kernel
theorem dX11_isLeant_9 : decode cX11_isLeant 9 = .ok (.goto 4, 3) := by decide +kernel
theorem dX11_isLeant_12 : decode cX11_isLeant 12 = .ok (.iconst 0, 1) := by decide +kernel
theorem dX11_isLeant_13 : decode cX11_isLeant 13 = .ok (.istore_n 3, 1) := by decide +kernel
theorem dX11_isLeant_14 : decode cX11_isLeant 14 = .ok (.iconst 0, 1) := by decide +kernel
theorem dX11_isLeant_15 : decode cX11_isLeant 15 = .ok (.istore 4, 2) := by decide +kernel
theorem dX11_isLeant_17 : decode cX11_isLeant 17 = .ok (.iload 4, 2) := by decide +kernel
theorem dX11_isLeant_19 : decode cX11_isLeant 19 = .ok (.aload_n 0, 1) := by decide +kernel
theorem dX11_isLeant_20 : decode cX11_isLeant 20 = .ok (.getfield 279, 3) := by decide +kernel
theorem dX11_isLeant_23 : decode cX11_isLeant 23 = .ok (.if_icmp .ge 41, 3) := by decide +kernel
theorem dX11_isLeant_26 : decode cX11_isLeant 26 = .ok (.iload_n 3, 1) := by decide +kernel
theorem dX11_isLeant_27 : decode cX11_isLeant 27 = .ok (.ifCond .eq 37, 3) := by decide +kernel
theorem dX11_isLeant_30 : decode cX11_isLeant 30 = .ok (.aload_n 0, 1) := by decide +kernel
theorem dX11_isLeant_31 : decode cX11_isLeant 31 = .ok (.iload_n 2, 1) := by decide +kernel
theorem dX11_isLeant_32 : decode cX11_isLeant 32 = .ok (.aload_n 0, 1) := by decide +kernel
theorem dX11_isLeant_33 : decode cX11_isLeant 33 = .ok (.getfield 92, 3) := by decide +kernel
theorem dX11_isLeant_36 : decode cX11_isLeant 36 = .ok (.iload 4, 2) := by decide +kernel
theorem dX11_isLeant_38 : decode cX11_isLeant 38 = .ok (.iaload, 1) := by decide +kernel
theorem dX11_isLeant_39 : decode cX11_isLeant 39 = .ok (.invokevirtual 447, 3) := by decide +kernel
theorem dX11_isLeant_42 : decode cX11_isLeant 42 = .ok (.aload_n 0, 1) := by decide +kernel
theorem dX11_isLeant_43 : decode cX11_isLeant 43 = .ok (.getfield 95, 3) := by decide +kernel
theorem dX11_isLeant_46 : decode cX11_isLeant 46 = .ok (.iload 4, 2) := by decide +kernel
theorem dX11_isLeant_48 : decode cX11_isLeant 48 = .ok (.baload, 1) := by decide +kernel
theorem dX11_isLeant_49 : decode cX11_isLeant 49 = .ok (.if_icmp .ne 7, 3) := by decide +kernel
theorem dX11_isLeant_52 : decode cX11_isLeant 52 = .ok (.iconst 1, 1) := by decide +kernel
theorem dX11_isLeant_53 : decode cX11_isLeant 53 = .ok (.goto 4, 3) := by decide +kernel
theorem dX11_isLeant_56 : decode cX11_isLeant 56 = .ok (.iconst 0, 1) := by decide +kernel
theorem dX11_isLeant_57 : decode cX11_isLeant 57 = .ok (.istore_n 3, 1) := by decide +kernel
theorem dX11_isLeant_58 : decode cX11_isLeant 58 = .ok (.iinc 4 1, 3) := by decide +kernel
theorem dX11_isLeant_61 : decode cX11_isLeant 61 = .ok (.goto (-44), 3) := by decide +kernel
theorem dX11_isLeant_64 : decode cX11_isLeant 64 = .ok (.iload_n 3, 1) := by decide +kernel
theorem dX11_isLeant_65 : decode cX11_isLeant 65 = .ok (.ireturn, 1) := by decide +kernel
theorem dX11_areLeaning_0 : decode cX11_areLeaning 0 = .ok (.aload_n 0, 1) := by decide +kernel
theorem dX11_areLeaning_1 : decode cX11_areLeaning 1 = .ok (.getfield 267, 3) := by decide +kernel
theorem dX11_areLeaning_4 : decode cX11_areLeaning 4 = .ok (.ifCond .le 16, 3) := by decide +kernel
theorem dX11_areLeaning_7 : decode cX11_areLeaning 7 = .ok (.iload_n 1, 1) := by decide +kernel
theorem dX11_areLeaning_8 : decode cX11_areLeaning 8 = .ok (.iconst 1, 1) := by decide +kernel
theorem dX11_areLeaning_9 : decode cX11_areLeaning 9 = .ok (.iconst 3, 1) := by decide +kernel
theorem dX11_areLeaning_10 : decode cX11_areLeaning 10 = .ok (.invokestatic 217, 3) := by decide +kernel
theorem dX11_areLeaning_13 : decode cX11_areLeaning 13 = .ok (.ifCond .eq 7, 3) := by decide +kernel
theorem dX11_areLeaning_16 : decode cX11_areLeaning 16 = .ok (.iconst 1, 1) := by decide +kernel
theorem dX11_areLeaning_17 : decode cX11_areLeaning 17 = .ok (.goto 4, 3) := by decide +kernel
theorem dX11_areLeaning_20 : decode cX11_areLeaning 20 = .ok (.iconst 0, 1) := by decide +kernel
theorem dX11_areLeaning_21 : decode cX11_areLeaning 21 = .ok (.ireturn, 1) := by decide +kernel
theorem dX11_leant_0 : decode cX11_leant 0 = .ok (.aload_n 0, 1) := by decide +kernel
theorem dX11_leant_1 : decode cX11_leant 1 = .ok (.iload_n 1, 1) := by decide +kernel
theorem dX11_leant_2 : decode cX11_leant 2 = .ok (.invokevirtual 450, 3) := by decide +kernel
theorem dX11_leant_5 : decode cX11_leant 5 = .ok (.ifCond .eq 8, 3) := by decide +kernel
theorem dX11_leant_8 : decode cX11_leant 8 = .ok (.iload_n 2, 1) := by decide +kernel
theorem dX11_leant_9 : decode cX11_leant 9 = .ok (.iconst (-1), 1) := by decide +kernel
theorem dX11_leant_10 : decode cX11_leant 10 = .ok (.if_icmp .ge 5, 3) := by decide +kernel
theorem dX11_leant_13 : decode cX11_leant 13 = .ok (.iconst (-1), 1) := by decide +kernel
theorem dX11_leant_14 : decode cX11_leant 14 = .ok (.ireturn, 1) := by decide +kernel
theorem dX11_leant_15 : decode cX11_leant 15 = .ok (.iconst 0, 1) := by decide +kernel
theorem dX11_leant_16 : decode cX11_leant 16 = .ok (.istore_n 3, 1) := by decide +kernel
theorem dX11_leant_17 : decode cX11_leant 17 = .ok (.iconst 0, 1) := by decide +kernel
theorem dX11_leant_18 : decode cX11_leant 18 = .ok (.istore 4, 2) := by decide +kernel
theorem dX11_leant_20 : decode cX11_leant 20 = .ok (.iload 4, 2) := by decide +kernel
theorem dX11_leant_22 : decode cX11_leant 22 = .ok (.iconst 1, 1) := by decide +kernel
theorem dX11_leant_23 : decode cX11_leant 23 = .ok (.aload_n 0, 1) := by decide +kernel
theorem dX11_leant_24 : decode cX11_leant 24 = .ok (.getfield 264, 3) := by decide +kernel
theorem dX11_leant_27 : decode cX11_leant 27 = .ok (.ishl, 1) := by decide +kernel
theorem dX11_leant_28 : decode cX11_leant 28 = .ok (.if_icmp .ge 30, 3) := by decide +kernel
theorem dX11_leant_31 : decode cX11_leant 31 = .ok (.aload_n 0, 1) := by decide +kernel
theorem dX11_leant_32 : decode cX11_leant 32 = .ok (.iload_n 1, 1) := by decide +kernel
theorem dX11_leant_33 : decode cX11_leant 33 = .ok (.iload 4, 2) := by decide +kernel
theorem dX11_leant_35 : decode cX11_leant 35 = .ok (.invokevirtual 453, 3) := by decide +kernel
theorem dX11_leant_38 : decode cX11_leant 38 = .ok (.ifCond .eq 14, 3) := by decide +kernel
theorem dX11_leant_41 : decode cX11_leant 41 = .ok (.iload_n 3, 1) := by decide +kernel
theorem dX11_leant_42 : decode cX11_leant 42 = .ok (.iload_n 2, 1) := by decide +kernel
theorem dX11_leant_43 : decode cX11_leant 43 = .ok (.if_icmp .ne 6, 3) := by decide +kernel
theorem dX11_leant_46 : decode cX11_leant 46 = .ok (.iload 4, 2) := by decide +kernel
theorem dX11_leant_48 : decode cX11_leant 48 = .ok (.ireturn, 1) := by decide +kernel
theorem dX11_leant_49 : decode cX11_leant 49 = .ok (.iinc 3 1, 3) := by decide +kernel
theorem dX11_leant_52 : decode cX11_leant 52 = .ok (.iinc 4 1, 3) := by decide +kernel
theorem dX11_leant_55 : decode cX11_leant 55 = .ok (.goto (-35), 3) := by decide +kernel
theorem dX11_leant_58 : decode cX11_leant 58 = .ok (.iload_n 2, 1) := by decide +kernel
theorem dX11_leant_59 : decode cX11_leant 59 = .ok (.iconst (-1), 1) := by decide +kernel
theorem dX11_leant_60 : decode cX11_leant 60 = .ok (.if_icmp .ne 7, 3) := by decide +kernel
theorem dX11_leant_63 : decode cX11_leant 63 = .ok (.iload_n 3, 1) := by decide +kernel
theorem dX11_leant_64 : decode cX11_leant 64 = .ok (.goto 4, 3) := by decide +kernel
theorem dX11_leant_67 : decode cX11_leant 67 = .ok (.iconst (-1), 1) := by decide +kernel
theorem dX11_leant_68 : decode cX11_leant 68 = .ok (.ireturn, 1) := by decide +kernel
theorem dX11_sure_0 : decode cX11_sure 0 = .ok (.aload_n 0, 1) := by decide +kernel
theorem dX11_sure_1 : decode cX11_sure 1 = .ok (.iload_n 1, 1) := by decide +kernel
theorem dX11_sure_2 : decode cX11_sure 2 = .ok (.invokevirtual 450, 3) := by decide +kernel
theorem dX11_sure_5 : decode cX11_sure 5 = .ok (.ifCond .ne 5, 3) := by decide +kernel
theorem dX11_sure_8 : decode cX11_sure 8 = .ok (.iconst (-1), 1) := by decide +kernel
theorem dX11_sure_9 : decode cX11_sure 9 = .ok (.ireturn, 1) := by decide +kernel
theorem dX11_sure_10 : decode cX11_sure 10 = .ok (.iconst (-1), 1) := by decide +kernel
theorem dX11_sure_11 : decode cX11_sure 11 = .ok (.istore_n 2, 1) := by decide +kernel
theorem dX11_sure_12 : decode cX11_sure 12 = .ok (.iconst 0, 1) := by decide +kernel
theorem dX11_sure_13 : decode cX11_sure 13 = .ok (.istore_n 3, 1) := by decide +kernel
theorem dX11_sure_14 : decode cX11_sure 14 = .ok (.iload_n 3, 1) := by decide +kernel
theorem dX11_sure_15 : decode cX11_sure 15 = .ok (.iconst 1, 1) := by decide +kernel
theorem dX11_sure_16 : decode cX11_sure 16 = .ok (.aload_n 0, 1) := by decide +kernel
theorem dX11_sure_17 : decode cX11_sure 17 = .ok (.getfield 264, 3) := by decide +kernel
theorem dX11_sure_20 : decode cX11_sure 20 = .ok (.ishl, 1) := by decide +kernel
theorem dX11_sure_21 : decode cX11_sure 21 = .ok (.if_icmp .ge 26, 3) := by decide +kernel
theorem dX11_sure_24 : decode cX11_sure 24 = .ok (.iload_n 2, 1) := by decide +kernel
theorem dX11_sure_25 : decode cX11_sure 25 = .ok (.aload_n 0, 1) := by decide +kernel
theorem dX11_sure_26 : decode cX11_sure 26 = .ok (.iload_n 1, 1) := by decide +kernel
theorem dX11_sure_27 : decode cX11_sure 27 = .ok (.iload_n 3, 1) := by decide +kernel
theorem dX11_sure_28 : decode cX11_sure 28 = .ok (.invokevirtual 453, 3) := by decide +kernel
theorem dX11_sure_31 : decode cX11_sure 31 = .ok (.ifCond .eq 7, 3) := by decide +kernel
theorem dX11_sure_34 : decode cX11_sure 34 = .ok (.iload_n 3, 1) := by decide +kernel
theorem dX11_sure_35 : decode cX11_sure 35 = .ok (.goto 4, 3) := by decide +kernel
theorem dX11_sure_38 : decode cX11_sure 38 = .ok (.iconst (-1), 1) := by decide +kernel
theorem dX11_sure_39 : decode cX11_sure 39 = .ok (.iand, 1) := by decide +kernel
theorem dX11_sure_40 : decode cX11_sure 40 = .ok (.istore_n 2, 1) := by decide +kernel
theorem dX11_sure_41 : decode cX11_sure 41 = .ok (.iinc 3 1, 3) := by decide +kernel
theorem dX11_sure_44 : decode cX11_sure 44 = .ok (.goto (-30), 3) := by decide +kernel
theorem dX11_sure_47 : decode cX11_sure 47 = .ok (.iload_n 2, 1) := by decide +kernel
theorem dX11_sure_48 : decode cX11_sure 48 = .ok (.ireturn, 1) := by decide +kernel
theorem dX11_best_0 : decode cX11_best 0 = .ok (.aload_n 0, 1) := by decide +kernel
theorem dX11_best_1 : decode cX11_best 1 = .ok (.iload_n 1, 1) := by decide +kernel
theorem dX11_best_2 : decode cX11_best 2 = .ok (.invokevirtual 450, 3) := by decide +kernel
theorem dX11_best_5 : decode cX11_best 5 = .ok (.ifCond .eq 13, 3) := by decide +kernel
theorem dX11_best_8 : decode cX11_best 8 = .ok (.aload_n 0, 1) := by decide +kernel
theorem dX11_best_9 : decode cX11_best 9 = .ok (.iload_n 1, 1) := by decide +kernel
theorem dX11_best_10 : decode cX11_best 10 = .ok (.iconst 0, 1) := by decide +kernel
theorem dX11_best_11 : decode cX11_best 11 = .ok (.invokevirtual 456, 3) := by decide +kernel
theorem dX11_best_14 : decode cX11_best 14 = .ok (.iconst (-1), 1) := by decide +kernel
theorem dX11_best_15 : decode cX11_best 15 = .ok (.if_icmp .ne 5, 3) := by decide +kernel
theorem dX11_best_18 : decode cX11_best 18 = .ok (.iconst (-1), 1) := by decide +kernel
theorem dX11_best_19 : decode cX11_best 19 = .ok (.ireturn, 1) := by decide +kernel
theorem dX11_best_20 : decode cX11_best 20 = .ok (.iconst (-1), 1) := by decide +kernel
theorem dX11_best_21 : decode cX11_best 21 = .ok (.istore_n 2, 1) := by decide +kernel
theorem dX11_best_22 : decode cX11_best 22 = .ok (.iconst 0, 1) := by decide +kernel
theorem dX11_best_23 : decode cX11_best 23 = .ok (.istore_n 3, 1) := by decide +kernel
theorem dX11_best_24 : decode cX11_best 24 = .ok (.iconst 0, 1) := by decide +kernel
theorem dX11_best_25 : decode cX11_best 25 = .ok (.istore 4, 2) := by decide +kernel
theorem dX11_best_27 : decode cX11_best 27 = .ok (.iload 4, 2) := by decide +kernel
theorem dX11_best_29 : decode cX11_best 29 = .ok (.aload_n 0, 1) := by decide +kernel
theorem dX11_best_30 : decode cX11_best 30 = .ok (.getfield 261, 3) := by decide +kernel
theorem dX11_best_33 : decode cX11_best 33 = .ok (.if_icmp .ge 90, 3) := by decide +kernel
theorem dX11_best_36 : decode cX11_best 36 = .ok (.iconst 0, 1) := by decide +kernel
theorem dX11_best_37 : decode cX11_best 37 = .ok (.istore 5, 2) := by decide +kernel
theorem dX11_best_39 : decode cX11_best 39 = .ok (.iconst 0, 1) := by decide +kernel
theorem dX11_best_40 : decode cX11_best 40 = .ok (.istore 6, 2) := by decide +kernel
theorem dX11_best_42 : decode cX11_best 42 = .ok (.iload 6, 2) := by decide +kernel
theorem dX11_best_44 : decode cX11_best 44 = .ok (.iconst 1, 1) := by decide +kernel
theorem dX11_best_45 : decode cX11_best 45 = .ok (.aload_n 0, 1) := by decide +kernel
theorem dX11_best_46 : decode cX11_best 46 = .ok (.getfield 264, 3) := by decide +kernel
theorem dX11_best_49 : decode cX11_best 49 = .ok (.ishl, 1) := by decide +kernel
theorem dX11_best_50 : decode cX11_best 50 = .ok (.if_icmp .ge 44, 3) := by decide +kernel
theorem dX11_best_53 : decode cX11_best 53 = .ok (.iload 5, 2) := by decide +kernel
theorem dX11_best_55 : decode cX11_best 55 = .ok (.aload_n 0, 1) := by decide +kernel
theorem dX11_best_56 : decode cX11_best 56 = .ok (.iload_n 1, 1) := by decide +kernel
theorem dX11_best_57 : decode cX11_best 57 = .ok (.iload 6, 2) := by decide +kernel
theorem dX11_best_59 : decode cX11_best 59 = .ok (.invokevirtual 453, 3) := by decide +kernel
theorem dX11_best_62 : decode cX11_best 62 = .ok (.ifCond .ne 7, 3) := by decide +kernel
theorem dX11_best_65 : decode cX11_best 65 = .ok (.iconst 0, 1) := by decide +kernel
theorem dX11_best_66 : decode cX11_best 66 = .ok (.goto 19, 3) := by decide +kernel
theorem dX11_best_69 : decode cX11_best 69 = .ok (.aload_n 0, 1) := by decide +kernel
theorem dX11_best_70 : decode cX11_best 70 = .ok (.iload 6, 2) := by decide +kernel
theorem dX11_best_72 : decode cX11_best 72 = .ok (.iload 4, 2) := by decide +kernel
theorem dX11_best_74 : decode cX11_best 74 = .ok (.invokevirtual 447, 3) := by decide +kernel
theorem dX11_best_77 : decode cX11_best 77 = .ok (.ifCond .eq 7, 3) := by decide +kernel
theorem dX11_best_80 : decode cX11_best 80 = .ok (.iconst 1, 1) := by decide +kernel
theorem dX11_best_81 : decode cX11_best 81 = .ok (.goto 4, 3) := by decide +kernel
theorem dX11_best_84 : decode cX11_best 84 = .ok (.iconst (-1), 1) := by decide +kernel
theorem dX11_best_85 : decode cX11_best 85 = .ok (.iadd, 1) := by decide +kernel
theorem dX11_best_86 : decode cX11_best 86 = .ok (.istore 5, 2) := by decide +kernel
theorem dX11_best_88 : decode cX11_best 88 = .ok (.iinc 6 1, 3) := by decide +kernel
theorem dX11_best_91 : decode cX11_best 91 = .ok (.goto (-49), 3) := by decide +kernel
theorem dX11_best_94 : decode cX11_best 94 = .ok (.iload_n 2, 1) := by decide +kernel
theorem dX11_best_95 : decode cX11_best 95 = .ok (.iconst (-1), 1) := by decide +kernel
theorem dX11_best_96 : decode cX11_best 96 = .ok (.if_icmp .eq 12, 3) := by decide +kernel
theorem dX11_best_99 : decode cX11_best 99 = .ok (.iload 5, 2) := by decide +kernel
theorem dX11_best_101 : decode cX11_best 101 = .ok (.invokestatic 459, 3) := by decide +kernel
theorem dX11_best_104 : decode cX11_best 104 = .ok (.iload_n 3, 1) := by decide +kernel
theorem dX11_best_105 : decode cX11_best 105 = .ok (.if_icmp .ge 12, 3) := by decide +kernel
