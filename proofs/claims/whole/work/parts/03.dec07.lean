theorem dX11_workOut_134 : decode cX11_workOut 134 = .ok (.iconst 1, 1) := by decide +kernel
theorem dX11_workOut_135 : decode cX11_workOut 135 = .ok (.isub, 1) := by decide +kernel
theorem dX11_workOut_136 : decode cX11_workOut 136 = .ok (.aload_n 0, 1) := by decide +kernel
theorem dX11_workOut_137 : decode cX11_workOut 137 = .ok (.getfield 13, 3) := by decide +kernel
theorem dX11_workOut_140 : decode cX11_workOut 140 = .ok (.iload 5, 2) := by decide +kernel
theorem dX11_workOut_142 : decode cX11_workOut 142 = .ok (.iaload, 1) := by decide +kernel
theorem dX11_workOut_143 : decode cX11_workOut 143 = .ok (.aload_n 0, 1) := by decide +kernel
theorem dX11_workOut_144 : decode cX11_workOut 144 = .ok (.getfield 37, 3) := by decide +kernel
theorem dX11_workOut_147 : decode cX11_workOut 147 = .ok (.iload 4, 2) := by decide +kernel
theorem dX11_workOut_149 : decode cX11_workOut 149 = .ok (.iconst 1, 1) := by decide +kernel
theorem dX11_workOut_150 : decode cX11_workOut 150 = .ok (.isub, 1) := by decide +kernel
theorem dX11_workOut_151 : decode cX11_workOut 151 = .ok (.iaload, 1) := by decide +kernel
theorem dX11_workOut_152 : decode cX11_workOut 152 = .ok (.i2l, 1) := by decide +kernel
theorem dX11_workOut_153 : decode cX11_workOut 153 = .ok (.aload_n 0, 1) := by decide +kernel
theorem dX11_workOut_154 : decode cX11_workOut 154 = .ok (.getfield 37, 3) := by decide +kernel
theorem dX11_workOut_157 : decode cX11_workOut 157 = .ok (.iload 4, 2) := by decide +kernel
theorem dX11_workOut_159 : decode cX11_workOut 159 = .ok (.iaload, 1) := by decide +kernel
theorem dX11_workOut_160 : decode cX11_workOut 160 = .ok (.i2l, 1) := by decide +kernel
theorem dX11_workOut_161 : decode cX11_workOut 161 = .ok (.invokestatic 209, 3) := by decide +kernel
theorem dX11_workOut_164 : decode cX11_workOut 164 = .ok (.iastore, 1) := by decide +kernel
theorem dX11_workOut_165 : decode cX11_workOut 165 = .ok (.iinc 5 1, 3) := by decide +kernel
theorem dX11_workOut_168 : decode cX11_workOut 168 = .ok (.goto (-156), 3) := by decide +kernel
theorem dX11_workOut_171 : decode cX11_workOut 171 = .ok (.aload_n 0, 1) := by decide +kernel
theorem dX11_workOut_172 : decode cX11_workOut 172 = .ok (.getfield 37, 3) := by decide +kernel
theorem dX11_workOut_175 : decode cX11_workOut 175 = .ok (.iconst 0, 1) := by decide +kernel
theorem dX11_workOut_176 : decode cX11_workOut 176 = .ok (.iaload, 1) := by decide +kernel
theorem dX11_workOut_177 : decode cX11_workOut 177 = .ok (.ireturn, 1) := by decide +kernel
theorem dX11_worthOf_0 : decode cX11_worthOf 0 = .ok (.sipush 140, 3) := by decide +kernel
theorem dX11_worthOf_3 : decode cX11_worthOf 3 = .ok (.iload_n 1, 1) := by decide +kernel
theorem dX11_worthOf_4 : decode cX11_worthOf 4 = .ok (.imul, 1) := by decide +kernel
theorem dX11_worthOf_5 : decode cX11_worthOf 5 = .ok (.istore_n 2, 1) := by decide +kernel
theorem dX11_worthOf_6 : decode cX11_worthOf 6 = .ok (.iload_n 2, 1) := by decide +kernel
theorem dX11_worthOf_7 : decode cX11_worthOf 7 = .ok (.sipush 140, 3) := by decide +kernel
theorem dX11_worthOf_10 : decode cX11_worthOf 10 = .ok (.iload_n 1, 1) := by decide +kernel
theorem dX11_worthOf_11 : decode cX11_worthOf 11 = .ok (.imul, 1) := by decide +kernel
theorem dX11_worthOf_12 : decode cX11_worthOf 12 = .ok (.aload_n 0, 1) := by decide +kernel
theorem dX11_worthOf_13 : decode cX11_worthOf 13 = .ok (.getfield 22, 3) := by decide +kernel
theorem dX11_worthOf_16 : decode cX11_worthOf 16 = .ok (.iload_n 1, 1) := by decide +kernel
theorem dX11_worthOf_17 : decode cX11_worthOf 17 = .ok (.iaload, 1) := by decide +kernel
theorem dX11_worthOf_18 : decode cX11_worthOf 18 = .ok (.iadd, 1) := by decide +kernel
theorem dX11_worthOf_19 : decode cX11_worthOf 19 = .ok (.if_icmp .ge 62, 3) := by decide +kernel
theorem dX11_worthOf_22 : decode cX11_worthOf 22 = .ok (.aload_n 0, 1) := by decide +kernel
theorem dX11_worthOf_23 : decode cX11_worthOf 23 = .ok (.getfield 25, 3) := by decide +kernel
theorem dX11_worthOf_26 : decode cX11_worthOf 26 = .ok (.iload_n 2, 1) := by decide +kernel
theorem dX11_worthOf_27 : decode cX11_worthOf 27 = .ok (.iaload, 1) := by decide +kernel
theorem dX11_worthOf_28 : decode cX11_worthOf 28 = .ok (.aload_n 0, 1) := by decide +kernel
theorem dX11_worthOf_29 : decode cX11_worthOf 29 = .ok (.getfield 28, 3) := by decide +kernel
theorem dX11_worthOf_32 : decode cX11_worthOf 32 = .ok (.iload_n 2, 1) := by decide +kernel
theorem dX11_worthOf_33 : decode cX11_worthOf 33 = .ok (.iaload, 1) := by decide +kernel
theorem dX11_worthOf_34 : decode cX11_worthOf 34 = .ok (.if_icmp .eq 23, 3) := by decide +kernel
theorem dX11_worthOf_37 : decode cX11_worthOf 37 = .ok (.aload_n 0, 1) := by decide +kernel
theorem dX11_worthOf_38 : decode cX11_worthOf 38 = .ok (.iload_n 1, 1) := by decide +kernel
theorem dX11_worthOf_39 : decode cX11_worthOf 39 = .ok (.aload_n 0, 1) := by decide +kernel
theorem dX11_worthOf_40 : decode cX11_worthOf 40 = .ok (.getfield 25, 3) := by decide +kernel
theorem dX11_worthOf_43 : decode cX11_worthOf 43 = .ok (.iload_n 2, 1) := by decide +kernel
theorem dX11_worthOf_44 : decode cX11_worthOf 44 = .ok (.iaload, 1) := by decide +kernel
theorem dX11_worthOf_45 : decode cX11_worthOf 45 = .ok (.aload_n 0, 1) := by decide +kernel
theorem dX11_worthOf_46 : decode cX11_worthOf 46 = .ok (.getfield 28, 3) := by decide +kernel
theorem dX11_worthOf_49 : decode cX11_worthOf 49 = .ok (.iload_n 2, 1) := by decide +kernel
theorem dX11_worthOf_50 : decode cX11_worthOf 50 = .ok (.iaload, 1) := by decide +kernel
theorem dX11_worthOf_51 : decode cX11_worthOf 51 = .ok (.invokevirtual 213, 3) := by decide +kernel
theorem dX11_worthOf_54 : decode cX11_worthOf 54 = .ok (.ifCond .eq 21, 3) := by decide +kernel
theorem dX11_worthOf_57 : decode cX11_worthOf 57 = .ok (.aload_n 0, 1) := by decide +kernel
theorem dX11_worthOf_58 : decode cX11_worthOf 58 = .ok (.iload_n 1, 1) := by decide +kernel
theorem dX11_worthOf_59 : decode cX11_worthOf 59 = .ok (.aload_n 0, 1) := by decide +kernel
theorem dX11_worthOf_60 : decode cX11_worthOf 60 = .ok (.getfield 28, 3) := by decide +kernel
theorem dX11_worthOf_63 : decode cX11_worthOf 63 = .ok (.iload_n 2, 1) := by decide +kernel
theorem dX11_worthOf_64 : decode cX11_worthOf 64 = .ok (.iaload, 1) := by decide +kernel
theorem dX11_worthOf_65 : decode cX11_worthOf 65 = .ok (.aload_n 0, 1) := by decide +kernel
theorem dX11_worthOf_66 : decode cX11_worthOf 66 = .ok (.getfield 31, 3) := by decide +kernel
theorem dX11_worthOf_69 : decode cX11_worthOf 69 = .ok (.iload_n 2, 1) := by decide +kernel
theorem dX11_worthOf_70 : decode cX11_worthOf 70 = .ok (.iaload, 1) := by decide +kernel
theorem dX11_worthOf_71 : decode cX11_worthOf 71 = .ok (.invokevirtual 213, 3) := by decide +kernel
theorem dX11_worthOf_74 : decode cX11_worthOf 74 = .ok (.ireturn, 1) := by decide +kernel
theorem dX11_worthOf_75 : decode cX11_worthOf 75 = .ok (.iinc 2 1, 3) := by decide +kernel
theorem dX11_worthOf_78 : decode cX11_worthOf 78 = .ok (.goto (-72), 3) := by decide +kernel
theorem dX11_worthOf_81 : decode cX11_worthOf 81 = .ok (.iconst 0, 1) := by decide +kernel
theorem dX11_worthOf_82 : decode cX11_worthOf 82 = .ok (.ireturn, 1) := by decide +kernel
theorem dX11_number_0 : decode cX11_number 0 = .ok (.aload_n 0, 1) := by decide +kernel
theorem dX11_number_1 : decode cX11_number 1 = .ok (.invokevirtual 131, 3) := by decide +kernel
theorem dX11_number_4 : decode cX11_number 4 = .ok (.invokestatic 134, 3) := by decide +kernel
theorem dX11_number_7 : decode cX11_number 7 = .ok (.ifCond .ne 9, 3) := by decide +kernel
theorem dX11_number_10 : decode cX11_number 10 = .ok (.aload_n 0, 1) := by decide +kernel
theorem dX11_number_11 : decode cX11_number 11 = .ok (.invokevirtual 128, 3) := by decide +kernel
theorem dX11_number_14 : decode cX11_number 14 = .ok (.iload_n 1, 1) := by decide +kernel
theorem dX11_number_15 : decode cX11_number 15 = .ok (.ireturn, 1) := by decide +kernel
theorem dX11_number_16 : decode cX11_number 16 = .ok (.aload_n 0, 1) := by decide +kernel
theorem dX11_number_17 : decode cX11_number 17 = .ok (.invokevirtual 115, 3) := by decide +kernel
theorem dX11_number_20 : decode cX11_number 20 = .ok (.bipush 48, 2) := by decide +kernel
theorem dX11_number_22 : decode cX11_number 22 = .ok (.isub, 1) := by decide +kernel
theorem dX11_number_23 : decode cX11_number 23 = .ok (.istore_n 3, 1) := by decide +kernel
theorem dX11_number_24 : decode cX11_number 24 = .ok (.aload_n 0, 1) := by decide +kernel
theorem dX11_number_25 : decode cX11_number 25 = .ok (.dup, 1) := by decide +kernel
theorem dX11_number_26 : decode cX11_number 26 = .ok (.getfield 112, 3) := by decide +kernel
theorem dX11_number_29 : decode cX11_number 29 = .ok (.iconst 1, 1) := by decide +kernel
theorem dX11_number_30 : decode cX11_number 30 = .ok (.iadd, 1) := by decide +kernel
theorem dX11_number_31 : decode cX11_number 31 = .ok (.putfield 112, 3) := by decide +kernel
theorem dX11_number_34 : decode cX11_number 34 = .ok (.aload_n 0, 1) := by decide +kernel
theorem dX11_number_35 : decode cX11_number 35 = .ok (.invokevirtual 115, 3) := by decide +kernel
theorem dX11_number_38 : decode cX11_number 38 = .ok (.invokestatic 134, 3) := by decide +kernel
theorem dX11_number_41 : decode cX11_number 41 = .ok (.ifCond .eq 26, 3) := by decide +kernel
theorem dX11_number_44 : decode cX11_number 44 = .ok (.bipush 10, 2) := by decide +kernel
theorem dX11_number_46 : decode cX11_number 46 = .ok (.iload_n 3, 1) := by decide +kernel
theorem dX11_number_47 : decode cX11_number 47 = .ok (.imul, 1) := by decide +kernel
theorem dX11_number_48 : decode cX11_number 48 = .ok (.aload_n 0, 1) := by decide +kernel
theorem dX11_number_49 : decode cX11_number 49 = .ok (.invokevirtual 115, 3) := by decide +kernel
theorem dX11_number_52 : decode cX11_number 52 = .ok (.iadd, 1) := by decide +kernel
theorem dX11_number_53 : decode cX11_number 53 = .ok (.bipush 48, 2) := by decide +kernel
theorem dX11_number_55 : decode cX11_number 55 = .ok (.isub, 1) := by decide +kernel
theorem dX11_number_56 : decode cX11_number 56 = .ok (.istore_n 3, 1) := by decide +kernel
theorem dX11_number_57 : decode cX11_number 57 = .ok (.aload_n 0, 1) := by decide +kernel
theorem dX11_number_58 : decode cX11_number 58 = .ok (.dup, 1) := by decide +kernel
theorem dX11_number_59 : decode cX11_number 59 = .ok (.getfield 112, 3) := by decide +kernel
theorem dX11_number_62 : decode cX11_number 62 = .ok (.iconst 1, 1) := by decide +kernel
theorem dX11_number_63 : decode cX11_number 63 = .ok (.iadd, 1) := by decide +kernel
theorem dX11_number_64 : decode cX11_number 64 = .ok (.putfield 112, 3) := by decide +kernel
theorem dX11_number_67 : decode cX11_number 67 = .ok (.aload_n 0, 1) := by decide +kernel
theorem dX11_number_68 : decode cX11_number 68 = .ok (.invokevirtual 115, 3) := by decide +kernel
theorem dX11_number_71 : decode cX11_number 71 = .ok (.invokestatic 134, 3) := by decide +kernel
theorem dX11_number_74 : decode cX11_number 74 = .ok (.ifCond .eq 10, 3) := by decide +kernel
theorem dX11_number_77 : decode cX11_number 77 = .ok (.aload_n 0, 1) := by decide +kernel
theorem dX11_number_78 : decode cX11_number 78 = .ok (.invokevirtual 128, 3) := by decide +kernel
theorem dX11_number_81 : decode cX11_number 81 = .ok (.goto 26, 3) := by decide +kernel
theorem dX11_number_84 : decode cX11_number 84 = .ok (.iload_n 3, 1) := by decide +kernel
theorem dX11_number_85 : decode cX11_number 85 = .ok (.iload_n 1, 1) := by decide +kernel
theorem dX11_number_86 : decode cX11_number 86 = .ok (.iload_n 2, 1) := by decide +kernel
theorem dX11_number_87 : decode cX11_number 87 = .ok (.invokestatic 217, 3) := by decide +kernel
theorem dX11_number_90 : decode cX11_number 90 = .ok (.ifCond .ne 17, 3) := by decide +kernel
theorem dX11_number_93 : decode cX11_number 93 = .ok (.aload_n 0, 1) := by decide +kernel
theorem dX11_number_94 : decode cX11_number 94 = .ok (.dup, 1) := by decide +kernel
theorem dX11_number_95 : decode cX11_number 95 = .ok (.getfield 112, 3) := by decide +kernel
theorem dX11_number_98 : decode cX11_number 98 = .ok (.iconst 1, 1) := by decide +kernel
theorem dX11_number_99 : decode cX11_number 99 = .ok (.isub, 1) := by decide +kernel
theorem dX11_number_100 : decode cX11_number 100 = .ok (.putfield 112, 3) := by decide +kernel
theorem dX11_number_103 : decode cX11_number 103 = .ok (.aload_n 0, 1) := by decide +kernel
theorem dX11_number_104 : decode cX11_number 104 = .ok (.invokevirtual 128, 3) := by decide +kernel
theorem dX11_number_107 : decode cX11_number 107 = .ok (.iload_n 3, 1) := by decide +kernel
theorem dX11_number_108 : decode cX11_number 108 = .ok (.ireturn, 1) := by decide +kernel
theorem dX11_itemOf_0 : decode cX11_itemOf 0 = .ok (.iload_n 0, 1) := by decide +kernel
theorem dX11_itemOf_1 : decode cX11_itemOf 1 = .ok (.lookupswitch 131 #[(99, 69), (115, 27)], 27) := by decide +kernel
theorem dX11_itemOf_28 : decode cX11_itemOf 28 = .ok (.iload_n 1, 1) := by decide +kernel
theorem dX11_itemOf_29 : decode cX11_itemOf 29 = .ok (.bipush 119, 2) := by decide +kernel
theorem dX11_itemOf_31 : decode cX11_itemOf 31 = .ok (.if_icmp .ne 7, 3) := by decide +kernel
theorem dX11_itemOf_34 : decode cX11_itemOf 34 = .ok (.iconst 0, 1) := by decide +kernel
theorem dX11_itemOf_35 : decode cX11_itemOf 35 = .ok (.goto 34, 3) := by decide +kernel
theorem dX11_itemOf_38 : decode cX11_itemOf 38 = .ok (.iload_n 1, 1) := by decide +kernel
theorem dX11_itemOf_39 : decode cX11_itemOf 39 = .ok (.bipush 104, 2) := by decide +kernel
theorem dX11_itemOf_41 : decode cX11_itemOf 41 = .ok (.if_icmp .ne 7, 3) := by decide +kernel
theorem dX11_itemOf_44 : decode cX11_itemOf 44 = .ok (.iconst 1, 1) := by decide +kernel
theorem dX11_itemOf_45 : decode cX11_itemOf 45 = .ok (.goto 24, 3) := by decide +kernel
theorem dX11_itemOf_48 : decode cX11_itemOf 48 = .ok (.iload_n 1, 1) := by decide +kernel
theorem dX11_itemOf_49 : decode cX11_itemOf 49 = .ok (.bipush 108, 2) := by decide +kernel
theorem dX11_itemOf_51 : decode cX11_itemOf 51 = .ok (.if_icmp .ne 7, 3) := by decide +kernel
theorem dX11_itemOf_54 : decode cX11_itemOf 54 = .ok (.iconst 2, 1) := by decide +kernel
theorem dX11_itemOf_55 : decode cX11_itemOf 55 = .ok (.goto 14, 3) := by decide +kernel
theorem dX11_itemOf_58 : decode cX11_itemOf 58 = .ok (.iload_n 1, 1) := by decide +kernel
theorem dX11_itemOf_59 : decode cX11_itemOf 59 = .ok (.bipush 109, 2) := by decide +kernel
theorem dX11_itemOf_61 : decode cX11_itemOf 61 = .ok (.if_icmp .ne 7, 3) := by decide +kernel
theorem dX11_itemOf_64 : decode cX11_itemOf 64 = .ok (.iconst 3, 1) := by decide +kernel
theorem dX11_itemOf_65 : decode cX11_itemOf 65 = .ok (.goto 4, 3) := by decide +kernel
theorem dX11_itemOf_68 : decode cX11_itemOf 68 = .ok (.iconst (-1), 1) := by decide +kernel
theorem dX11_itemOf_69 : decode cX11_itemOf 69 = .ok (.ireturn, 1) := by decide +kernel
theorem dX11_itemOf_70 : decode cX11_itemOf 70 = .ok (.iload_n 1, 1) := by decide +kernel
theorem dX11_itemOf_71 : decode cX11_itemOf 71 = .ok (.bipush 97, 2) := by decide +kernel
theorem dX11_itemOf_73 : decode cX11_itemOf 73 = .ok (.if_icmp .ne 7, 3) := by decide +kernel
theorem dX11_itemOf_76 : decode cX11_itemOf 76 = .ok (.iconst 0, 1) := by decide +kernel
theorem dX11_itemOf_77 : decode cX11_itemOf 77 = .ok (.goto 54, 3) := by decide +kernel
theorem dX11_itemOf_80 : decode cX11_itemOf 80 = .ok (.iload_n 1, 1) := by decide +kernel
theorem dX11_itemOf_81 : decode cX11_itemOf 81 = .ok (.bipush 100, 2) := by decide +kernel
theorem dX11_itemOf_83 : decode cX11_itemOf 83 = .ok (.if_icmp .ne 7, 3) := by decide +kernel
theorem dX11_itemOf_86 : decode cX11_itemOf 86 = .ok (.iconst 1, 1) := by decide +kernel
theorem dX11_itemOf_87 : decode cX11_itemOf 87 = .ok (.goto 44, 3) := by decide +kernel
theorem dX11_itemOf_90 : decode cX11_itemOf 90 = .ok (.iload_n 1, 1) := by decide +kernel
theorem dX11_itemOf_91 : decode cX11_itemOf 91 = .ok (.bipush 118, 2) := by decide +kernel
theorem dX11_itemOf_93 : decode cX11_itemOf 93 = .ok (.if_icmp .ne 7, 3) := by decide +kernel
theorem dX11_itemOf_96 : decode cX11_itemOf 96 = .ok (.iconst 2, 1) := by decide +kernel
theorem dX11_itemOf_97 : decode cX11_itemOf 97 = .ok (.goto 34, 3) := by decide +kernel
theorem dX11_itemOf_100 : decode cX11_itemOf 100 = .ok (.iload_n 1, 1) := by decide +kernel
theorem dX11_itemOf_101 : decode cX11_itemOf 101 = .ok (.bipush 107, 2) := by decide +kernel
theorem dX11_itemOf_103 : decode cX11_itemOf 103 = .ok (.if_icmp .ne 7, 3) := by decide +kernel
theorem dX11_itemOf_106 : decode cX11_itemOf 106 = .ok (.iconst 3, 1) := by decide +kernel
theorem dX11_itemOf_107 : decode cX11_itemOf 107 = .ok (.goto 24, 3) := by decide +kernel
theorem dX11_itemOf_110 : decode cX11_itemOf 110 = .ok (.iload_n 1, 1) := by decide +kernel
theorem dX11_itemOf_111 : decode cX11_itemOf 111 = .ok (.bipush 103, 2) := by decide +kernel
theorem dX11_itemOf_113 : decode cX11_itemOf 113 = .ok (.if_icmp .ne 7, 3) := by decide +kernel
theorem dX11_itemOf_116 : decode cX11_itemOf 116 = .ok (.iconst 4, 1) := by decide +kernel
theorem dX11_itemOf_117 : decode cX11_itemOf 117 = .ok (.goto 14, 3) := by decide +kernel
theorem dX11_itemOf_120 : decode cX11_itemOf 120 = .ok (.iload_n 1, 1) := by decide +kernel
theorem dX11_itemOf_121 : decode cX11_itemOf 121 = .ok (.bipush 111, 2) := by decide +kernel
theorem dX11_itemOf_123 : decode cX11_itemOf 123 = .ok (.if_icmp .ne 7, 3) := by decide +kernel
theorem dX11_itemOf_126 : decode cX11_itemOf 126 = .ok (.iconst 5, 1) := by decide +kernel
theorem dX11_itemOf_127 : decode cX11_itemOf 127 = .ok (.goto 4, 3) := by decide +kernel
theorem dX11_itemOf_130 : decode cX11_itemOf 130 = .ok (.iconst (-1), 1) := by decide +kernel
theorem dX11_itemOf_131 : decode cX11_itemOf 131 = .ok (.ireturn, 1) := by decide +kernel
theorem dX11_itemOf_132 : decode cX11_itemOf 132 = .ok (.iload_n 1, 1) := by decide +kernel
theorem dX11_itemOf_133 : decode cX11_itemOf 133 = .ok (.bipush 99, 2) := by decide +kernel
theorem dX11_itemOf_135 : decode cX11_itemOf 135 = .ok (.if_icmp .ne 7, 3) := by decide +kernel
theorem dX11_itemOf_138 : decode cX11_itemOf 138 = .ok (.iconst 0, 1) := by decide +kernel
theorem dX11_itemOf_139 : decode cX11_itemOf 139 = .ok (.goto 14, 3) := by decide +kernel
theorem dX11_itemOf_142 : decode cX11_itemOf 142 = .ok (.iload_n 1, 1) := by decide +kernel
theorem dX11_itemOf_143 : decode cX11_itemOf 143 = .ok (.bipush 109, 2) := by decide +kernel
theorem dX11_itemOf_145 : decode cX11_itemOf 145 = .ok (.if_icmp .ne 7, 3) := by decide +kernel
theorem dX11_itemOf_148 : decode cX11_itemOf 148 = .ok (.iconst 1, 1) := by decide +kernel
theorem dX11_itemOf_149 : decode cX11_itemOf 149 = .ok (.goto 4, 3) := by decide +kernel
theorem dX11_itemOf_152 : decode cX11_itemOf 152 = .ok (.iconst (-1), 1) := by decide +kernel
theorem dX11_itemOf_153 : decode cX11_itemOf 153 = .ok (.ireturn, 1) := by decide +kernel
theorem dX11_lowest_0 : decode cX11_lowest 0 = .ok (.iload_n 0, 1) := by decide +kernel
theorem dX11_lowest_1 : decode cX11_lowest 1 = .ok (.bipush 115, 2) := by decide +kernel
theorem dX11_lowest_3 : decode cX11_lowest 3 = .ok (.if_icmp .ne 8, 3) := by decide +kernel
theorem dX11_lowest_6 : decode cX11_lowest 6 = .ok (.iload_n 1, 1) := by decide +kernel
theorem dX11_lowest_7 : decode cX11_lowest 7 = .ok (.iconst 1, 1) := by decide +kernel
theorem dX11_lowest_8 : decode cX11_lowest 8 = .ok (.if_icmp .le 25, 3) := by decide +kernel
theorem dX11_lowest_11 : decode cX11_lowest 11 = .ok (.iload_n 0, 1) := by decide +kernel
theorem dX11_lowest_12 : decode cX11_lowest 12 = .ok (.bipush 99, 2) := by decide +kernel
theorem dX11_lowest_14 : decode cX11_lowest 14 = .ok (.if_icmp .ne 8, 3) := by decide +kernel
theorem dX11_lowest_17 : decode cX11_lowest 17 = .ok (.iload_n 1, 1) := by decide +kernel
theorem dX11_lowest_18 : decode cX11_lowest 18 = .ok (.iconst 3, 1) := by decide +kernel
theorem dX11_lowest_19 : decode cX11_lowest 19 = .ok (.if_icmp .eq 14, 3) := by decide +kernel
theorem dX11_lowest_22 : decode cX11_lowest 22 = .ok (.iload_n 0, 1) := by decide +kernel
theorem dX11_lowest_23 : decode cX11_lowest 23 = .ok (.bipush 112, 2) := by decide +kernel
theorem dX11_lowest_25 : decode cX11_lowest 25 = .ok (.if_icmp .ne 12, 3) := by decide +kernel
theorem dX11_lowest_28 : decode cX11_lowest 28 = .ok (.iload_n 1, 1) := by decide +kernel
theorem dX11_lowest_29 : decode cX11_lowest 29 = .ok (.iconst 1, 1) := by decide +kernel
theorem dX11_lowest_30 : decode cX11_lowest 30 = .ok (.if_icmp .ne 7, 3) := by decide +kernel
theorem dX11_lowest_33 : decode cX11_lowest 33 = .ok (.iconst 1, 1) := by decide +kernel
theorem dX11_lowest_34 : decode cX11_lowest 34 = .ok (.goto 4, 3) := by decide +kernel
theorem dX11_lowest_37 : decode cX11_lowest 37 = .ok (.iconst 0, 1) := by decide +kernel
theorem dX11_lowest_38 : decode cX11_lowest 38 = .ok (.ireturn, 1) := by decide +kernel
theorem dX11_highest_0 : decode cX11_highest 0 = .ok (.iload_n 0, 1) := by decide +kernel
theorem dX11_highest_1 : decode cX11_highest 1 = .ok (.lookupswitch 93 #[(99, 57), (115, 27)], 27) := by decide +kernel
theorem dX11_highest_28 : decode cX11_highest 28 = .ok (.iload_n 1, 1) := by decide +kernel
theorem dX11_highest_29 : decode cX11_highest 29 = .ok (.ifCond .ne 7, 3) := by decide +kernel
theorem dX11_highest_32 : decode cX11_highest 32 = .ok (.iconst 5, 1) := by decide +kernel
theorem dX11_highest_33 : decode cX11_highest 33 = .ok (.goto 24, 3) := by decide +kernel
theorem dX11_highest_36 : decode cX11_highest 36 = .ok (.iload_n 1, 1) := by decide +kernel
theorem dX11_highest_37 : decode cX11_highest 37 = .ok (.iconst 1, 1) := by decide +kernel
theorem dX11_highest_38 : decode cX11_highest 38 = .ok (.if_icmp .ne 7, 3) := by decide +kernel
theorem dX11_highest_41 : decode cX11_highest 41 = .ok (.iconst 4, 1) := by decide +kernel
theorem dX11_highest_42 : decode cX11_highest 42 = .ok (.goto 15, 3) := by decide +kernel
theorem dX11_highest_45 : decode cX11_highest 45 = .ok (.iload_n 1, 1) := by decide +kernel
theorem dX11_highest_46 : decode cX11_highest 46 = .ok (.iconst 2, 1) := by decide +kernel
theorem dX11_highest_47 : decode cX11_highest 47 = .ok (.if_icmp .ne 8, 3) := by decide +kernel
theorem dX11_highest_50 : decode cX11_highest 50 = .ok (.bipush 99, 2) := by decide +kernel
theorem dX11_highest_52 : decode cX11_highest 52 = .ok (.goto 5, 3) := by decide +kernel
theorem dX11_highest_55 : decode cX11_highest 55 = .ok (.bipush 9, 2) := by decide +kernel
theorem dX11_highest_57 : decode cX11_highest 57 = .ok (.ireturn, 1) := by decide +kernel
theorem dX11_highest_58 : decode cX11_highest 58 = .ok (.iload_n 1, 1) := by decide +kernel
theorem dX11_highest_59 : decode cX11_highest 59 = .ok (.ifCond .ne 8, 3) := by decide +kernel
theorem dX11_highest_62 : decode cX11_highest 62 = .ok (.bipush 19, 2) := by decide +kernel
theorem dX11_highest_64 : decode cX11_highest 64 = .ok (.goto 29, 3) := by decide +kernel
theorem dX11_highest_67 : decode cX11_highest 67 = .ok (.iload_n 1, 1) := by decide +kernel
theorem dX11_highest_68 : decode cX11_highest 68 = .ok (.iconst 1, 1) := by decide +kernel
theorem dX11_highest_69 : decode cX11_highest 69 = .ok (.if_icmp .eq 8, 3) := by decide +kernel
theorem dX11_highest_72 : decode cX11_highest 72 = .ok (.iload_n 1, 1) := by decide +kernel
theorem dX11_highest_73 : decode cX11_highest 73 = .ok (.iconst 5, 1) := by decide +kernel
theorem dX11_highest_74 : decode cX11_highest 74 = .ok (.if_icmp .ne 7, 3) := by decide +kernel
theorem dX11_highest_77 : decode cX11_highest 77 = .ok (.iconst 1, 1) := by decide +kernel
theorem dX11_highest_78 : decode cX11_highest 78 = .ok (.goto 15, 3) := by decide +kernel
theorem dX11_highest_81 : decode cX11_highest 81 = .ok (.iload_n 1, 1) := by decide +kernel
theorem dX11_highest_82 : decode cX11_highest 82 = .ok (.iconst 3, 1) := by decide +kernel
theorem dX11_highest_83 : decode cX11_highest 83 = .ok (.if_icmp .ne 8, 3) := by decide +kernel
theorem dX11_highest_86 : decode cX11_highest 86 = .ok (.bipush 99, 2) := by decide +kernel
theorem dX11_highest_88 : decode cX11_highest 88 = .ok (.goto 5, 3) := by decide +kernel
theorem dX11_highest_91 : decode cX11_highest 91 = .ok (.bipush 9, 2) := by decide +kernel
theorem dX11_highest_93 : decode cX11_highest 93 = .ok (.ireturn, 1) := by decide +kernel
theorem dX11_highest_94 : decode cX11_highest 94 = .ok (.iload_n 1, 1) := by decide +kernel
theorem dX11_highest_95 : decode cX11_highest 95 = .ok (.ifCond .ne 8, 3) := by decide +kernel
theorem dX11_highest_98 : decode cX11_highest 98 = .ok (.bipush 19, 2) := by decide +kernel
theorem dX11_highest_100 : decode cX11_highest 100 = .ok (.goto 5, 3) := by decide +kernel
theorem dX11_highest_103 : decode cX11_highest 103 = .ok (.bipush 9, 2) := by decide +kernel
theorem dX11_highest_105 : decode cX11_highest 105 = .ok (.ireturn, 1) := by decide +kernel
theorem dX11_usual_0 : decode cX11_usual 0 = .ok (.iload_n 0, 1) := by decide +kernel
theorem dX11_usual_1 : decode cX11_usual 1 = .ok (.lookupswitch 86 #[(99, 56), (115, 27)], 27) := by decide +kernel
theorem dX11_usual_28 : decode cX11_usual 28 = .ok (.iload_n 1, 1) := by decide +kernel
theorem dX11_usual_29 : decode cX11_usual 29 = .ok (.ifCond .ne 7, 3) := by decide +kernel
theorem dX11_usual_32 : decode cX11_usual 32 = .ok (.iconst 4, 1) := by decide +kernel
theorem dX11_usual_33 : decode cX11_usual 33 = .ok (.goto 23, 3) := by decide +kernel
theorem dX11_usual_36 : decode cX11_usual 36 = .ok (.iload_n 1, 1) := by decide +kernel
theorem dX11_usual_37 : decode cX11_usual 37 = .ok (.iconst 1, 1) := by decide +kernel
theorem dX11_usual_38 : decode cX11_usual 38 = .ok (.if_icmp .ne 7, 3) := by decide +kernel
theorem dX11_usual_41 : decode cX11_usual 41 = .ok (.iconst 3, 1) := by decide +kernel
theorem dX11_usual_42 : decode cX11_usual 42 = .ok (.goto 14, 3) := by decide +kernel
theorem dX11_usual_45 : decode cX11_usual 45 = .ok (.iload_n 1, 1) := by decide +kernel
theorem dX11_usual_46 : decode cX11_usual 46 = .ok (.iconst 2, 1) := by decide +kernel
theorem dX11_usual_47 : decode cX11_usual 47 = .ok (.if_icmp .ne 8, 3) := by decide +kernel
theorem dX11_usual_50 : decode cX11_usual 50 = .ok (.bipush 40, 2) := by decide +kernel
theorem dX11_usual_52 : decode cX11_usual 52 = .ok (.goto 4, 3) := by decide +kernel
theorem dX11_usual_55 : decode cX11_usual 55 = .ok (.iconst 1, 1) := by decide +kernel
theorem dX11_usual_56 : decode cX11_usual 56 = .ok (.ireturn, 1) := by decide +kernel
theorem dX11_usual_57 : decode cX11_usual 57 = .ok (.iload_n 1, 1) := by decide +kernel
theorem dX11_usual_58 : decode cX11_usual 58 = .ok (.iconst 2, 1) := by decide +kernel
theorem dX11_usual_59 : decode cX11_usual 59 = .ok (.if_icmp .ne 7, 3) := by decide +kernel
theorem dX11_usual_62 : decode cX11_usual 62 = .ok (.iconst 5, 1) := by decide +kernel
theorem dX11_usual_63 : decode cX11_usual 63 = .ok (.goto 23, 3) := by decide +kernel
theorem dX11_usual_66 : decode cX11_usual 66 = .ok (.iload_n 1, 1) := by decide +kernel
theorem dX11_usual_67 : decode cX11_usual 67 = .ok (.iconst 3, 1) := by decide +kernel
theorem dX11_usual_68 : decode cX11_usual 68 = .ok (.if_icmp .ne 8, 3) := by decide +kernel
theorem dX11_usual_71 : decode cX11_usual 71 = .ok (.bipush 30, 2) := by decide +kernel
theorem dX11_usual_73 : decode cX11_usual 73 = .ok (.goto 13, 3) := by decide +kernel
theorem dX11_usual_76 : decode cX11_usual 76 = .ok (.iload_n 1, 1) := by decide +kernel
theorem dX11_usual_77 : decode cX11_usual 77 = .ok (.iconst 4, 1) := by decide +kernel
theorem dX11_usual_78 : decode cX11_usual 78 = .ok (.if_icmp .ne 7, 3) := by decide +kernel
theorem dX11_usual_81 : decode cX11_usual 81 = .ok (.iconst 1, 1) := by decide +kernel
theorem dX11_usual_82 : decode cX11_usual 82 = .ok (.goto 4, 3) := by decide +kernel
theorem dX11_usual_85 : decode cX11_usual 85 = .ok (.iconst 0, 1) := by decide +kernel
theorem dX11_usual_86 : decode cX11_usual 86 = .ok (.ireturn, 1) := by decide +kernel
theorem dX11_usual_87 : decode cX11_usual 87 = .ok (.iload_n 1, 1) := by decide +kernel
theorem dX11_usual_88 : decode cX11_usual 88 = .ok (.ifCond .ne 7, 3) := by decide +kernel
theorem dX11_usual_91 : decode cX11_usual 91 = .ok (.iconst 0, 1) := by decide +kernel
theorem dX11_usual_92 : decode cX11_usual 92 = .ok (.goto 4, 3) := by decide +kernel
theorem dX11_usual_95 : decode cX11_usual 95 = .ok (.iconst 3, 1) := by decide +kernel
theorem dX11_usual_96 : decode cX11_usual 96 = .ok (.ireturn, 1) := by decide +kernel
theorem dX11_items_0 : decode cX11_items 0 = .ok (.iconst 0, 1) := by decide +kernel
theorem dX11_items_1 : decode cX11_items 1 = .ok (.istore 5, 2) := by decide +kernel
theorem dX11_items_3 : decode cX11_items 3 = .ok (.iload 5, 2) := by decide +kernel
theorem dX11_items_5 : decode cX11_items 5 = .ok (.iload 4, 2) := by decide +kernel
theorem dX11_items_7 : decode cX11_items 7 = .ok (.if_icmp .ge 21, 3) := by decide +kernel
theorem dX11_items_10 : decode cX11_items 10 = .ok (.aload_n 2, 1) := by decide +kernel
theorem dX11_items_11 : decode cX11_items 11 = .ok (.iload_n 3, 1) := by decide +kernel
theorem dX11_items_12 : decode cX11_items 12 = .ok (.iload 5, 2) := by decide +kernel
theorem dX11_items_14 : decode cX11_items 14 = .ok (.iadd, 1) := by decide +kernel
theorem dX11_items_15 : decode cX11_items 15 = .ok (.iload_n 1, 1) := by decide +kernel
theorem dX11_items_16 : decode cX11_items 16 = .ok (.iload 5, 2) := by decide +kernel
theorem dX11_items_18 : decode cX11_items 18 = .ok (.invokestatic 221, 3) := by decide +kernel
theorem dX11_items_21 : decode cX11_items 21 = .ok (.iastore, 1) := by decide +kernel
theorem dX11_items_22 : decode cX11_items 22 = .ok (.iinc 5 1, 3) := by decide +kernel
theorem dX11_items_25 : decode cX11_items 25 = .ok (.goto (-22), 3) := by decide +kernel
theorem dX11_items_28 : decode cX11_items 28 = .ok (.iconst 0, 1) := by decide +kernel
theorem dX11_items_29 : decode cX11_items 29 = .ok (.istore 5, 2) := by decide +kernel
theorem dX11_items_31 : decode cX11_items 31 = .ok (.iload_n 1, 1) := by decide +kernel
theorem dX11_items_32 : decode cX11_items 32 = .ok (.aload_n 0, 1) := by decide +kernel
theorem dX11_items_33 : decode cX11_items 33 = .ok (.invokevirtual 131, 3) := by decide +kernel
theorem dX11_items_36 : decode cX11_items 36 = .ok (.invokestatic 225, 3) := by decide +kernel
theorem dX11_items_39 : decode cX11_items 39 = .ok (.istore 6, 2) := by decide +kernel
theorem dX11_items_41 : decode cX11_items 41 = .ok (.aload_n 0, 1) := by decide +kernel
theorem dX11_items_42 : decode cX11_items 42 = .ok (.getfield 119, 3) := by decide +kernel
theorem dX11_items_45 : decode cX11_items 45 = .ok (.iconst (-1), 1) := by decide +kernel
theorem dX11_items_46 : decode cX11_items 46 = .ok (.if_icmp .ne 85, 3) := by decide +kernel
theorem dX11_items_49 : decode cX11_items 49 = .ok (.iload 6, 2) := by decide +kernel
theorem dX11_items_51 : decode cX11_items 51 = .ok (.iconst (-1), 1) := by decide +kernel
theorem dX11_items_52 : decode cX11_items 52 = .ok (.if_icmp .eq 79, 3) := by decide +kernel
theorem dX11_items_55 : decode cX11_items 55 = .ok (.iload 5, 2) := by decide +kernel
theorem dX11_items_57 : decode cX11_items 57 = .ok (.iload 6, 2) := by decide +kernel
theorem dX11_items_59 : decode cX11_items 59 = .ok (.invokestatic 228, 3) := by decide +kernel
theorem dX11_items_62 : decode cX11_items 62 = .ok (.ifCond .ne 69, 3) := by decide +kernel
theorem dX11_items_65 : decode cX11_items 65 = .ok (.iload 5, 2) := by decide +kernel
theorem dX11_items_67 : decode cX11_items 67 = .ok (.iconst 1, 1) := by decide +kernel
theorem dX11_items_68 : decode cX11_items 68 = .ok (.iload 6, 2) := by decide +kernel
theorem dX11_items_70 : decode cX11_items 70 = .ok (.ishl, 1) := by decide +kernel
theorem dX11_items_71 : decode cX11_items 71 = .ok (.ior, 1) := by decide +kernel
theorem dX11_items_72 : decode cX11_items 72 = .ok (.istore 5, 2) := by decide +kernel
theorem dX11_items_74 : decode cX11_items 74 = .ok (.aload_n 0, 1) := by decide +kernel
theorem dX11_items_75 : decode cX11_items 75 = .ok (.dup, 1) := by decide +kernel
theorem dX11_items_76 : decode cX11_items 76 = .ok (.getfield 112, 3) := by decide +kernel
theorem dX11_items_79 : decode cX11_items 79 = .ok (.iconst 1, 1) := by decide +kernel
theorem dX11_items_80 : decode cX11_items 80 = .ok (.iadd, 1) := by decide +kernel
theorem dX11_items_81 : decode cX11_items 81 = .ok (.putfield 112, 3) := by decide +kernel
theorem dX11_items_84 : decode cX11_items 84 = .ok (.aload_n 2, 1) := by decide +kernel
theorem dX11_items_85 : decode cX11_items 85 = .ok (.iload_n 3, 1) := by decide +kernel
theorem dX11_items_86 : decode cX11_items 86 = .ok (.iload 6, 2) := by decide +kernel
theorem dX11_items_88 : decode cX11_items 88 = .ok (.iadd, 1) := by decide +kernel
theorem dX11_items_89 : decode cX11_items 89 = .ok (.aload_n 0, 1) := by decide +kernel
theorem dX11_items_90 : decode cX11_items 90 = .ok (.iload_n 1, 1) := by decide +kernel
theorem dX11_items_91 : decode cX11_items 91 = .ok (.iload 6, 2) := by decide +kernel
theorem dX11_items_93 : decode cX11_items 93 = .ok (.invokestatic 232, 3) := by decide +kernel
theorem dX11_items_96 : decode cX11_items 96 = .ok (.iload_n 1, 1) := by decide +kernel
theorem dX11_items_97 : decode cX11_items 97 = .ok (.iload 6, 2) := by decide +kernel
theorem dX11_items_99 : decode cX11_items 99 = .ok (.invokestatic 235, 3) := by decide +kernel
theorem dX11_items_102 : decode cX11_items 102 = .ok (.invokevirtual 238, 3) := by decide +kernel
theorem dX11_items_105 : decode cX11_items 105 = .ok (.iastore, 1) := by decide +kernel
theorem dX11_items_106 : decode cX11_items 106 = .ok (.aload_n 0, 1) := by decide +kernel
theorem dX11_items_107 : decode cX11_items 107 = .ok (.getfield 119, 3) := by decide +kernel
theorem dX11_items_110 : decode cX11_items 110 = .ok (.iconst (-1), 1) := by decide +kernel
theorem dX11_items_111 : decode cX11_items 111 = .ok (.if_icmp .ne 14, 3) := by decide +kernel
theorem dX11_items_114 : decode cX11_items 114 = .ok (.iload_n 1, 1) := by decide +kernel
theorem dX11_items_115 : decode cX11_items 115 = .ok (.aload_n 0, 1) := by decide +kernel
theorem dX11_items_116 : decode cX11_items 116 = .ok (.invokevirtual 131, 3) := by decide +kernel
theorem dX11_items_119 : decode cX11_items 119 = .ok (.invokestatic 225, 3) := by decide +kernel
theorem dX11_items_122 : decode cX11_items 122 = .ok (.goto 4, 3) := by decide +kernel
theorem dX11_items_125 : decode cX11_items 125 = .ok (.iconst (-1), 1) := by decide +kernel
theorem dX11_items_126 : decode cX11_items 126 = .ok (.istore 6, 2) := by decide +kernel
theorem dX11_items_128 : decode cX11_items 128 = .ok (.goto (-87), 3) := by decide +kernel
theorem dX11_items_131 : decode cX11_items 131 = .ok (.return_, 1) := by decide +kernel
theorem dX11_isWhole_0 : decode cX11_isWhole 0 = .ok (.aload_n 0, 1) := by decide +kernel
theorem dX11_isWhole_1 : decode cX11_isWhole 1 = .ok (.getfield 40, 3) := by decide +kernel
theorem dX11_isWhole_4 : decode cX11_isWhole 4 = .ok (.iconst 0, 1) := by decide +kernel
theorem dX11_isWhole_5 : decode cX11_isWhole 5 = .ok (.iaload, 1) := by decide +kernel
theorem dX11_isWhole_6 : decode cX11_isWhole 6 = .ok (.aload_n 0, 1) := by decide +kernel
theorem dX11_isWhole_7 : decode cX11_isWhole 7 = .ok (.getfield 40, 3) := by decide +kernel
theorem dX11_isWhole_10 : decode cX11_isWhole 10 = .ok (.iconst 1, 1) := by decide +kernel
theorem dX11_isWhole_11 : decode cX11_isWhole 11 = .ok (.iaload, 1) := by decide +kernel
theorem dX11_isWhole_12 : decode cX11_isWhole 12 = .ok (.imul, 1) := by decide +kernel
theorem dX11_isWhole_13 : decode cX11_isWhole 13 = .ok (.istore_n 1, 1) := by decide +kernel
theorem dX11_isWhole_14 : decode cX11_isWhole 14 = .ok (.aload_n 0, 1) := by decide +kernel
theorem dX11_isWhole_15 : decode cX11_isWhole 15 = .ok (.getfield 241, 3) := by decide +kernel
theorem dX11_isWhole_18 : decode cX11_isWhole 18 = .ok (.ifCond .le 7, 3) := by decide +kernel
theorem dX11_isWhole_21 : decode cX11_isWhole 21 = .ok (.iconst 1, 1) := by decide +kernel
theorem dX11_isWhole_22 : decode cX11_isWhole 22 = .ok (.goto 4, 3) := by decide +kernel
theorem dX11_isWhole_25 : decode cX11_isWhole 25 = .ok (.iconst 0, 1) := by decide +kernel
theorem dX11_isWhole_26 : decode cX11_isWhole 26 = .ok (.istore_n 2, 1) := by decide +kernel
theorem dX11_isWhole_27 : decode cX11_isWhole 27 = .ok (.iconst 0, 1) := by decide +kernel
theorem dX11_isWhole_28 : decode cX11_isWhole 28 = .ok (.istore_n 3, 1) := by decide +kernel
theorem dX11_isWhole_29 : decode cX11_isWhole 29 = .ok (.iload_n 3, 1) := by decide +kernel
theorem dX11_isWhole_30 : decode cX11_isWhole 30 = .ok (.aload_n 0, 1) := by decide +kernel
theorem dX11_isWhole_31 : decode cX11_isWhole 31 = .ok (.getfield 241, 3) := by decide +kernel
theorem dX11_isWhole_34 : decode cX11_isWhole 34 = .ok (.if_icmp .ge 31, 3) := by decide +kernel
theorem dX11_isWhole_37 : decode cX11_isWhole 37 = .ok (.iload_n 2, 1) := by decide +kernel
theorem dX11_isWhole_38 : decode cX11_isWhole 38 = .ok (.ifCond .eq 19, 3) := by decide +kernel
theorem dX11_isWhole_41 : decode cX11_isWhole 41 = .ok (.aload_n 0, 1) := by decide +kernel
theorem dX11_isWhole_42 : decode cX11_isWhole 42 = .ok (.getfield 46, 3) := by decide +kernel
theorem dX11_isWhole_45 : decode cX11_isWhole 45 = .ok (.iconst 2, 1) := by decide +kernel
theorem dX11_isWhole_46 : decode cX11_isWhole 46 = .ok (.iload_n 3, 1) := by decide +kernel
theorem dX11_isWhole_47 : decode cX11_isWhole 47 = .ok (.imul, 1) := by decide +kernel
theorem dX11_isWhole_48 : decode cX11_isWhole 48 = .ok (.iaload, 1) := by decide +kernel
theorem dX11_isWhole_49 : decode cX11_isWhole 49 = .ok (.iload_n 1, 1) := by decide +kernel
theorem dX11_isWhole_50 : decode cX11_isWhole 50 = .ok (.if_icmp .ge 7, 3) := by decide +kernel
theorem dX11_isWhole_53 : decode cX11_isWhole 53 = .ok (.iconst 1, 1) := by decide +kernel
theorem dX11_isWhole_54 : decode cX11_isWhole 54 = .ok (.goto 4, 3) := by decide +kernel
theorem dX11_isWhole_57 : decode cX11_isWhole 57 = .ok (.iconst 0, 1) := by decide +kernel
theorem dX11_isWhole_58 : decode cX11_isWhole 58 = .ok (.istore_n 2, 1) := by decide +kernel
theorem dX11_isWhole_59 : decode cX11_isWhole 59 = .ok (.iinc 3 1, 3) := by decide +kernel
theorem dX11_isWhole_62 : decode cX11_isWhole 62 = .ok (.goto (-33), 3) := by decide +kernel
theorem dX11_isWhole_65 : decode cX11_isWhole 65 = .ok (.iconst 0, 1) := by decide +kernel
theorem dX11_isWhole_66 : decode cX11_isWhole 66 = .ok (.istore_n 3, 1) := by decide +kernel
theorem dX11_isWhole_67 : decode cX11_isWhole 67 = .ok (.iload_n 3, 1) := by decide +kernel
theorem dX11_isWhole_68 : decode cX11_isWhole 68 = .ok (.aload_n 0, 1) := by decide +kernel
theorem dX11_isWhole_69 : decode cX11_isWhole 69 = .ok (.getfield 244, 3) := by decide +kernel
theorem dX11_isWhole_72 : decode cX11_isWhole 72 = .ok (.if_icmp .ge 168, 3) := by decide +kernel
theorem dX11_isWhole_75 : decode cX11_isWhole 75 = .ok (.aload_n 0, 1) := by decide +kernel
theorem dX11_isWhole_76 : decode cX11_isWhole 76 = .ok (.getfield 43, 3) := by decide +kernel
theorem dX11_isWhole_79 : decode cX11_isWhole 79 = .ok (.bipush 6, 2) := by decide +kernel
theorem dX11_isWhole_81 : decode cX11_isWhole 81 = .ok (.iload_n 3, 1) := by decide +kernel
theorem dX11_isWhole_82 : decode cX11_isWhole 82 = .ok (.imul, 1) := by decide +kernel
theorem dX11_isWhole_83 : decode cX11_isWhole 83 = .ok (.iconst 0, 1) := by decide +kernel
theorem dX11_isWhole_84 : decode cX11_isWhole 84 = .ok (.iadd, 1) := by decide +kernel
theorem dX11_isWhole_85 : decode cX11_isWhole 85 = .ok (.iaload, 1) := by decide +kernel
theorem dX11_isWhole_86 : decode cX11_isWhole 86 = .ok (.istore 4, 2) := by decide +kernel
theorem dX11_isWhole_88 : decode cX11_isWhole 88 = .ok (.aload_n 0, 1) := by decide +kernel
theorem dX11_isWhole_89 : decode cX11_isWhole 89 = .ok (.getfield 43, 3) := by decide +kernel
theorem dX11_isWhole_92 : decode cX11_isWhole 92 = .ok (.bipush 6, 2) := by decide +kernel
theorem dX11_isWhole_94 : decode cX11_isWhole 94 = .ok (.iload_n 3, 1) := by decide +kernel
theorem dX11_isWhole_95 : decode cX11_isWhole 95 = .ok (.imul, 1) := by decide +kernel
theorem dX11_isWhole_96 : decode cX11_isWhole 96 = .ok (.iconst 1, 1) := by decide +kernel
theorem dX11_isWhole_97 : decode cX11_isWhole 97 = .ok (.iadd, 1) := by decide +kernel
theorem dX11_isWhole_98 : decode cX11_isWhole 98 = .ok (.iaload, 1) := by decide +kernel
theorem dX11_isWhole_99 : decode cX11_isWhole 99 = .ok (.ifCond .ne 7, 3) := by decide +kernel
theorem dX11_isWhole_102 : decode cX11_isWhole 102 = .ok (.iconst 1, 1) := by decide +kernel
theorem dX11_isWhole_103 : decode cX11_isWhole 103 = .ok (.goto 4, 3) := by decide +kernel
theorem dX11_isWhole_106 : decode cX11_isWhole 106 = .ok (.iconst 0, 1) := by decide +kernel
theorem dX11_isWhole_107 : decode cX11_isWhole 107 = .ok (.istore 5, 2) := by decide +kernel
theorem dX11_isWhole_109 : decode cX11_isWhole 109 = .ok (.iload_n 2, 1) := by decide +kernel
theorem dX11_isWhole_110 : decode cX11_isWhole 110 = .ok (.ifCond .eq 54, 3) := by decide +kernel
theorem dX11_isWhole_113 : decode cX11_isWhole 113 = .ok (.iload 4, 2) := by decide +kernel
theorem dX11_isWhole_115 : decode cX11_isWhole 115 = .ok (.iload_n 1, 1) := by decide +kernel
theorem dX11_isWhole_116 : decode cX11_isWhole 116 = .ok (.if_icmp .ge 48, 3) := by decide +kernel
theorem dX11_isWhole_119 : decode cX11_isWhole 119 = .ok (.iload 5, 2) := by decide +kernel
theorem dX11_isWhole_121 : decode cX11_isWhole 121 = .ok (.ifCond .eq 26, 3) := by decide +kernel
theorem dX11_isWhole_124 : decode cX11_isWhole 124 = .ok (.iload 4, 2) := by decide +kernel
theorem dX11_isWhole_126 : decode cX11_isWhole 126 = .ok (.aload_n 0, 1) := by decide +kernel
theorem dX11_isWhole_127 : decode cX11_isWhole 127 = .ok (.getfield 40, 3) := by decide +kernel
theorem dX11_isWhole_130 : decode cX11_isWhole 130 = .ok (.iconst 0, 1) := by decide +kernel
theorem dX11_isWhole_131 : decode cX11_isWhole 131 = .ok (.iaload, 1) := by decide +kernel
theorem dX11_isWhole_132 : decode cX11_isWhole 132 = .ok (.irem, 1) := by decide +kernel
theorem dX11_isWhole_133 : decode cX11_isWhole 133 = .ok (.iconst 1, 1) := by decide +kernel
theorem dX11_isWhole_134 : decode cX11_isWhole 134 = .ok (.iadd, 1) := by decide +kernel
theorem dX11_isWhole_135 : decode cX11_isWhole 135 = .ok (.aload_n 0, 1) := by decide +kernel
theorem dX11_isWhole_136 : decode cX11_isWhole 136 = .ok (.getfield 40, 3) := by decide +kernel
theorem dX11_isWhole_139 : decode cX11_isWhole 139 = .ok (.iconst 0, 1) := by decide +kernel
theorem dX11_isWhole_140 : decode cX11_isWhole 140 = .ok (.iaload, 1) := by decide +kernel
theorem dX11_isWhole_141 : decode cX11_isWhole 141 = .ok (.if_icmp .ge 23, 3) := by decide +kernel
theorem dX11_isWhole_144 : decode cX11_isWhole 144 = .ok (.goto 16, 3) := by decide +kernel
theorem dX11_isWhole_147 : decode cX11_isWhole 147 = .ok (.iload 4, 2) := by decide +kernel
theorem dX11_isWhole_149 : decode cX11_isWhole 149 = .ok (.aload_n 0, 1) := by decide +kernel
theorem dX11_isWhole_150 : decode cX11_isWhole 150 = .ok (.getfield 40, 3) := by decide +kernel
theorem dX11_isWhole_153 : decode cX11_isWhole 153 = .ok (.iconst 0, 1) := by decide +kernel
theorem dX11_isWhole_154 : decode cX11_isWhole 154 = .ok (.iaload, 1) := by decide +kernel
theorem dX11_isWhole_155 : decode cX11_isWhole 155 = .ok (.iadd, 1) := by decide +kernel
theorem dX11_isWhole_156 : decode cX11_isWhole 156 = .ok (.iload_n 1, 1) := by decide +kernel
theorem dX11_isWhole_157 : decode cX11_isWhole 157 = .ok (.if_icmp .ge 7, 3) := by decide +kernel
theorem dX11_isWhole_160 : decode cX11_isWhole 160 = .ok (.iconst 1, 1) := by decide +kernel
theorem dX11_isWhole_161 : decode cX11_isWhole 161 = .ok (.goto 4, 3) := by decide +kernel
theorem dX11_isWhole_164 : decode cX11_isWhole 164 = .ok (.iconst 0, 1) := by decide +kernel
theorem dX11_isWhole_165 : decode cX11_isWhole 165 = .ok (.istore_n 2, 1) := by decide +kernel
theorem dX11_isWhole_166 : decode cX11_isWhole 166 = .ok (.iconst 0, 1) := by decide +kernel
theorem dX11_isWhole_167 : decode cX11_isWhole 167 = .ok (.istore 6, 2) := by decide +kernel
theorem dX11_isWhole_169 : decode cX11_isWhole 169 = .ok (.iload 6, 2) := by decide +kernel
theorem dX11_isWhole_171 : decode cX11_isWhole 171 = .ok (.iload_n 3, 1) := by decide +kernel
theorem dX11_isWhole_172 : decode cX11_isWhole 172 = .ok (.if_icmp .ge 62, 3) := by decide +kernel
theorem dX11_isWhole_175 : decode cX11_isWhole 175 = .ok (.iload_n 2, 1) := by decide +kernel
theorem dX11_isWhole_176 : decode cX11_isWhole 176 = .ok (.ifCond .eq 50, 3) := by decide +kernel
theorem dX11_isWhole_179 : decode cX11_isWhole 179 = .ok (.aload_n 0, 1) := by decide +kernel
theorem dX11_isWhole_180 : decode cX11_isWhole 180 = .ok (.getfield 43, 3) := by decide +kernel
theorem dX11_isWhole_183 : decode cX11_isWhole 183 = .ok (.bipush 6, 2) := by decide +kernel
theorem dX11_isWhole_185 : decode cX11_isWhole 185 = .ok (.iload 6, 2) := by decide +kernel
theorem dX11_isWhole_187 : decode cX11_isWhole 187 = .ok (.imul, 1) := by decide +kernel
theorem dX11_isWhole_188 : decode cX11_isWhole 188 = .ok (.iconst 0, 1) := by decide +kernel
theorem dX11_isWhole_189 : decode cX11_isWhole 189 = .ok (.iadd, 1) := by decide +kernel
theorem dX11_isWhole_190 : decode cX11_isWhole 190 = .ok (.iaload, 1) := by decide +kernel
theorem dX11_isWhole_191 : decode cX11_isWhole 191 = .ok (.iload 4, 2) := by decide +kernel
theorem dX11_isWhole_193 : decode cX11_isWhole 193 = .ok (.if_icmp .ne 29, 3) := by decide +kernel
theorem dX11_isWhole_196 : decode cX11_isWhole 196 = .ok (.aload_n 0, 1) := by decide +kernel
theorem dX11_isWhole_197 : decode cX11_isWhole 197 = .ok (.getfield 43, 3) := by decide +kernel
theorem dX11_isWhole_200 : decode cX11_isWhole 200 = .ok (.bipush 6, 2) := by decide +kernel
theorem dX11_isWhole_202 : decode cX11_isWhole 202 = .ok (.iload 6, 2) := by decide +kernel
theorem dX11_isWhole_204 : decode cX11_isWhole 204 = .ok (.imul, 1) := by decide +kernel
theorem dX11_isWhole_205 : decode cX11_isWhole 205 = .ok (.iconst 1, 1) := by decide +kernel
theorem dX11_isWhole_206 : decode cX11_isWhole 206 = .ok (.iadd, 1) := by decide +kernel
theorem dX11_isWhole_207 : decode cX11_isWhole 207 = .ok (.iaload, 1) := by decide +kernel
theorem dX11_isWhole_208 : decode cX11_isWhole 208 = .ok (.aload_n 0, 1) := by decide +kernel
theorem dX11_isWhole_209 : decode cX11_isWhole 209 = .ok (.getfield 43, 3) := by decide +kernel
theorem dX11_isWhole_212 : decode cX11_isWhole 212 = .ok (.bipush 6, 2) := by decide +kernel
theorem dX11_isWhole_214 : decode cX11_isWhole 214 = .ok (.iload_n 3, 1) := by decide +kernel
theorem dX11_isWhole_215 : decode cX11_isWhole 215 = .ok (.imul, 1) := by decide +kernel
theorem dX11_isWhole_216 : decode cX11_isWhole 216 = .ok (.iconst 1, 1) := by decide +kernel
theorem dX11_isWhole_217 : decode cX11_isWhole 217 = .ok (.iadd, 1) := by decide +kernel
theorem dX11_isWhole_218 : decode cX11_isWhole 218 = .ok (.iaload, 1) := by decide +kernel
theorem dX11_isWhole_219 : decode cX11_isWhole 219 = .ok (.if_icmp .eq 7, 3) := by decide +kernel
theorem dX11_isWhole_222 : decode cX11_isWhole 222 = .ok (.iconst 1, 1) := by decide +kernel
theorem dX11_isWhole_223 : decode cX11_isWhole 223 = .ok (.goto 4, 3) := by decide +kernel
theorem dX11_isWhole_226 : decode cX11_isWhole 226 = .ok (.iconst 0, 1) := by decide +kernel
theorem dX11_isWhole_227 : decode cX11_isWhole 227 = .ok (.istore_n 2, 1) := by decide +kernel
theorem dX11_isWhole_228 : decode cX11_isWhole 228 = .ok (.iinc 6 1, 3) := by decide +kernel
theorem dX11_isWhole_231 : decode cX11_isWhole 231 = .ok (.goto (-62), 3) := by decide +kernel
theorem dX11_isWhole_234 : decode cX11_isWhole 234 = .ok (.iinc 3 1, 3) := by decide +kernel
theorem dX11_isWhole_237 : decode cX11_isWhole 237 = .ok (.goto (-170), 3) := by decide +kernel
theorem dX11_isWhole_240 : decode cX11_isWhole 240 = .ok (.iload_n 2, 1) := by decide +kernel
theorem dX11_isWhole_241 : decode cX11_isWhole 241 = .ok (.ireturn, 1) := by decide +kernel
theorem dX11_readRoom_0 : decode cX11_readRoom 0 = .ok (.aload_n 0, 1) := by decide +kernel
theorem dX11_readRoom_1 : decode cX11_readRoom 1 = .ok (.iconst 0, 1) := by decide +kernel
theorem dX11_readRoom_2 : decode cX11_readRoom 2 = .ok (.putfield 112, 3) := by decide +kernel
theorem dX11_readRoom_5 : decode cX11_readRoom 5 = .ok (.aload_n 0, 1) := by decide +kernel
theorem dX11_readRoom_6 : decode cX11_readRoom 6 = .ok (.iconst (-1), 1) := by decide +kernel
theorem dX11_readRoom_7 : decode cX11_readRoom 7 = .ok (.putfield 119, 3) := by decide +kernel
theorem dX11_readRoom_10 : decode cX11_readRoom 10 = .ok (.aload_n 0, 1) := by decide +kernel
theorem dX11_readRoom_11 : decode cX11_readRoom 11 = .ok (.iconst 0, 1) := by decide +kernel
theorem dX11_readRoom_12 : decode cX11_readRoom 12 = .ok (.putfield 244, 3) := by decide +kernel
theorem dX11_readRoom_15 : decode cX11_readRoom 15 = .ok (.aload_n 0, 1) := by decide +kernel
theorem dX11_readRoom_16 : decode cX11_readRoom 16 = .ok (.iconst 0, 1) := by decide +kernel
theorem dX11_readRoom_17 : decode cX11_readRoom 17 = .ok (.putfield 241, 3) := by decide +kernel
theorem dX11_readRoom_20 : decode cX11_readRoom 20 = .ok (.iconst 0, 1) := by decide +kernel
theorem dX11_readRoom_21 : decode cX11_readRoom 21 = .ok (.istore_n 1, 1) := by decide +kernel
theorem dX11_readRoom_22 : decode cX11_readRoom 22 = .ok (.iconst 0, 1) := by decide +kernel
theorem dX11_readRoom_23 : decode cX11_readRoom 23 = .ok (.istore_n 2, 1) := by decide +kernel
theorem dX11_readRoom_24 : decode cX11_readRoom 24 = .ok (.iload_n 2, 1) := by decide +kernel
theorem dX11_readRoom_25 : decode cX11_readRoom 25 = .ok (.iconst 4, 1) := by decide +kernel
theorem dX11_readRoom_26 : decode cX11_readRoom 26 = .ok (.if_icmp .ge 21, 3) := by decide +kernel
theorem dX11_readRoom_29 : decode cX11_readRoom 29 = .ok (.aload_n 0, 1) := by decide +kernel
theorem dX11_readRoom_30 : decode cX11_readRoom 30 = .ok (.getfield 40, 3) := by decide +kernel
theorem dX11_readRoom_33 : decode cX11_readRoom 33 = .ok (.iload_n 2, 1) := by decide +kernel
theorem dX11_readRoom_34 : decode cX11_readRoom 34 = .ok (.bipush 115, 2) := by decide +kernel
theorem dX11_readRoom_36 : decode cX11_readRoom 36 = .ok (.iload_n 2, 1) := by decide +kernel
theorem dX11_readRoom_37 : decode cX11_readRoom 37 = .ok (.invokestatic 221, 3) := by decide +kernel
theorem dX11_readRoom_40 : decode cX11_readRoom 40 = .ok (.iastore, 1) := by decide +kernel
theorem dX11_readRoom_41 : decode cX11_readRoom 41 = .ok (.iinc 2 1, 3) := by decide +kernel
theorem dX11_readRoom_44 : decode cX11_readRoom 44 = .ok (.goto (-20), 3) := by decide +kernel
theorem dX11_readRoom_47 : decode cX11_readRoom 47 = .ok (.iconst 1, 1) := by decide +kernel
theorem dX11_readRoom_48 : decode cX11_readRoom 48 = .ok (.istore_n 2, 1) := by decide +kernel
theorem dX11_readRoom_49 : decode cX11_readRoom 49 = .ok (.iload_n 2, 1) := by decide +kernel
theorem dX11_readRoom_50 : decode cX11_readRoom 50 = .ok (.ifCond .eq 210, 3) := by decide +kernel
theorem dX11_readRoom_53 : decode cX11_readRoom 53 = .ok (.aload_n 0, 1) := by decide +kernel
theorem dX11_readRoom_54 : decode cX11_readRoom 54 = .ok (.getfield 119, 3) := by decide +kernel
theorem dX11_readRoom_57 : decode cX11_readRoom 57 = .ok (.iconst (-1), 1) := by decide +kernel
theorem dX11_readRoom_58 : decode cX11_readRoom 58 = .ok (.if_icmp .ne 202, 3) := by decide +kernel
theorem dX11_readRoom_61 : decode cX11_readRoom 61 = .ok (.aload_n 0, 1) := by decide +kernel
theorem dX11_readRoom_62 : decode cX11_readRoom 62 = .ok (.invokevirtual 131, 3) := by decide +kernel
theorem dX11_readRoom_65 : decode cX11_readRoom 65 = .ok (.istore_n 3, 1) := by decide +kernel
theorem dX11_readRoom_66 : decode cX11_readRoom 66 = .ok (.iload_n 3, 1) := by decide +kernel
theorem dX11_readRoom_67 : decode cX11_readRoom 67 = .ok (.bipush 115, 2) := by decide +kernel
theorem dX11_readRoom_69 : decode cX11_readRoom 69 = .ok (.if_icmp .ne 33, 3) := by decide +kernel
theorem dX11_readRoom_72 : decode cX11_readRoom 72 = .ok (.iload_n 1, 1) := by decide +kernel
theorem dX11_readRoom_73 : decode cX11_readRoom 73 = .ok (.ifCond .ne 29, 3) := by decide +kernel
theorem dX11_readRoom_76 : decode cX11_readRoom 76 = .ok (.iconst 1, 1) := by decide +kernel
theorem dX11_readRoom_77 : decode cX11_readRoom 77 = .ok (.istore_n 1, 1) := by decide +kernel
theorem dX11_readRoom_78 : decode cX11_readRoom 78 = .ok (.aload_n 0, 1) := by decide +kernel
theorem dX11_readRoom_79 : decode cX11_readRoom 79 = .ok (.dup, 1) := by decide +kernel
theorem dX11_readRoom_80 : decode cX11_readRoom 80 = .ok (.getfield 112, 3) := by decide +kernel
theorem dX11_readRoom_83 : decode cX11_readRoom 83 = .ok (.iconst 1, 1) := by decide +kernel
theorem dX11_readRoom_84 : decode cX11_readRoom 84 = .ok (.iadd, 1) := by decide +kernel
theorem dX11_readRoom_85 : decode cX11_readRoom 85 = .ok (.putfield 112, 3) := by decide +kernel
theorem dX11_readRoom_88 : decode cX11_readRoom 88 = .ok (.aload_n 0, 1) := by decide +kernel
theorem dX11_readRoom_89 : decode cX11_readRoom 89 = .ok (.iload_n 3, 1) := by decide +kernel
theorem dX11_readRoom_90 : decode cX11_readRoom 90 = .ok (.aload_n 0, 1) := by decide +kernel
theorem dX11_readRoom_91 : decode cX11_readRoom 91 = .ok (.getfield 40, 3) := by decide +kernel
theorem dX11_readRoom_94 : decode cX11_readRoom 94 = .ok (.iconst 0, 1) := by decide +kernel
theorem dX11_readRoom_95 : decode cX11_readRoom 95 = .ok (.iconst 4, 1) := by decide +kernel
theorem dX11_readRoom_96 : decode cX11_readRoom 96 = .ok (.invokevirtual 247, 3) := by decide +kernel
theorem dX11_readRoom_99 : decode cX11_readRoom 99 = .ok (.goto 117, 3) := by decide +kernel
theorem dX11_readRoom_102 : decode cX11_readRoom 102 = .ok (.iload_n 3, 1) := by decide +kernel
theorem dX11_readRoom_103 : decode cX11_readRoom 103 = .ok (.bipush 99, 2) := by decide +kernel
theorem dX11_readRoom_105 : decode cX11_readRoom 105 = .ok (.if_icmp .ne 53, 3) := by decide +kernel
theorem dX11_readRoom_108 : decode cX11_readRoom 108 = .ok (.aload_n 0, 1) := by decide +kernel
theorem dX11_readRoom_109 : decode cX11_readRoom 109 = .ok (.getfield 244, 3) := by decide +kernel
theorem dX11_readRoom_112 : decode cX11_readRoom 112 = .ok (.bipush 10, 2) := by decide +kernel
theorem dX11_readRoom_114 : decode cX11_readRoom 114 = .ok (.if_icmp .ge 44, 3) := by decide +kernel
theorem dX11_readRoom_117 : decode cX11_readRoom 117 = .ok (.aload_n 0, 1) := by decide +kernel
theorem dX11_readRoom_118 : decode cX11_readRoom 118 = .ok (.dup, 1) := by decide +kernel
theorem dX11_readRoom_119 : decode cX11_readRoom 119 = .ok (.getfield 112, 3) := by decide +kernel
theorem dX11_readRoom_122 : decode cX11_readRoom 122 = .ok (.iconst 1, 1) := by decide +kernel
theorem dX11_readRoom_123 : decode cX11_readRoom 123 = .ok (.iadd, 1) := by decide +kernel
theorem dX11_readRoom_124 : decode cX11_readRoom 124 = .ok (.putfield 112, 3) := by decide +kernel
theorem dX11_readRoom_127 : decode cX11_readRoom 127 = .ok (.aload_n 0, 1) := by decide +kernel
theorem dX11_readRoom_128 : decode cX11_readRoom 128 = .ok (.iload_n 3, 1) := by decide +kernel
theorem dX11_readRoom_129 : decode cX11_readRoom 129 = .ok (.aload_n 0, 1) := by decide +kernel
theorem dX11_readRoom_130 : decode cX11_readRoom 130 = .ok (.getfield 43, 3) := by decide +kernel
theorem dX11_readRoom_133 : decode cX11_readRoom 133 = .ok (.bipush 6, 2) := by decide +kernel
theorem dX11_readRoom_135 : decode cX11_readRoom 135 = .ok (.aload_n 0, 1) := by decide +kernel
theorem dX11_readRoom_136 : decode cX11_readRoom 136 = .ok (.getfield 244, 3) := by decide +kernel
theorem dX11_readRoom_139 : decode cX11_readRoom 139 = .ok (.imul, 1) := by decide +kernel
theorem dX11_readRoom_140 : decode cX11_readRoom 140 = .ok (.bipush 6, 2) := by decide +kernel
theorem dX11_readRoom_142 : decode cX11_readRoom 142 = .ok (.invokevirtual 247, 3) := by decide +kernel
theorem dX11_readRoom_145 : decode cX11_readRoom 145 = .ok (.aload_n 0, 1) := by decide +kernel
theorem dX11_readRoom_146 : decode cX11_readRoom 146 = .ok (.dup, 1) := by decide +kernel
theorem dX11_readRoom_147 : decode cX11_readRoom 147 = .ok (.getfield 244, 3) := by decide +kernel
theorem dX11_readRoom_150 : decode cX11_readRoom 150 = .ok (.iconst 1, 1) := by decide +kernel
theorem dX11_readRoom_151 : decode cX11_readRoom 151 = .ok (.iadd, 1) := by decide +kernel
theorem dX11_readRoom_152 : decode cX11_readRoom 152 = .ok (.putfield 244, 3) := by decide +kernel
theorem dX11_readRoom_155 : decode cX11_readRoom 155 = .ok (.goto 61, 3) := by decide +kernel
theorem dX11_readRoom_158 : decode cX11_readRoom 158 = .ok (.iload_n 3, 1) := by decide +kernel
theorem dX11_readRoom_159 : decode cX11_readRoom 159 = .ok (.bipush 112, 2) := by decide +kernel
theorem dX11_readRoom_161 : decode cX11_readRoom 161 = .ok (.if_icmp .ne 51, 3) := by decide +kernel
theorem dX11_readRoom_164 : decode cX11_readRoom 164 = .ok (.aload_n 0, 1) := by decide +kernel
theorem dX11_readRoom_165 : decode cX11_readRoom 165 = .ok (.getfield 241, 3) := by decide +kernel
theorem dX11_readRoom_168 : decode cX11_readRoom 168 = .ok (.bipush 6, 2) := by decide +kernel
theorem dX11_readRoom_170 : decode cX11_readRoom 170 = .ok (.if_icmp .ge 42, 3) := by decide +kernel
theorem dX11_readRoom_173 : decode cX11_readRoom 173 = .ok (.aload_n 0, 1) := by decide +kernel
theorem dX11_readRoom_174 : decode cX11_readRoom 174 = .ok (.dup, 1) := by decide +kernel
theorem dX11_readRoom_175 : decode cX11_readRoom 175 = .ok (.getfield 112, 3) := by decide +kernel
theorem dX11_readRoom_178 : decode cX11_readRoom 178 = .ok (.iconst 1, 1) := by decide +kernel
theorem dX11_readRoom_179 : decode cX11_readRoom 179 = .ok (.iadd, 1) := by decide +kernel
theorem dX11_readRoom_180 : decode cX11_readRoom 180 = .ok (.putfield 112, 3) := by decide +kernel
theorem dX11_readRoom_183 : decode cX11_readRoom 183 = .ok (.aload_n 0, 1) := by decide +kernel
theorem dX11_readRoom_184 : decode cX11_readRoom 184 = .ok (.iload_n 3, 1) := by decide +kernel
theorem dX11_readRoom_185 : decode cX11_readRoom 185 = .ok (.aload_n 0, 1) := by decide +kernel
theorem dX11_readRoom_186 : decode cX11_readRoom 186 = .ok (.getfield 46, 3) := by decide +kernel
theorem dX11_readRoom_189 : decode cX11_readRoom 189 = .ok (.iconst 2, 1) := by decide +kernel
theorem dX11_readRoom_190 : decode cX11_readRoom 190 = .ok (.aload_n 0, 1) := by decide +kernel
theorem dX11_readRoom_191 : decode cX11_readRoom 191 = .ok (.getfield 241, 3) := by decide +kernel
theorem dX11_readRoom_194 : decode cX11_readRoom 194 = .ok (.imul, 1) := by decide +kernel
theorem dX11_readRoom_195 : decode cX11_readRoom 195 = .ok (.iconst 2, 1) := by decide +kernel
theorem dX11_readRoom_196 : decode cX11_readRoom 196 = .ok (.invokevirtual 247, 3) := by decide +kernel
theorem dX11_readRoom_199 : decode cX11_readRoom 199 = .ok (.aload_n 0, 1) := by decide +kernel
theorem dX11_readRoom_200 : decode cX11_readRoom 200 = .ok (.dup, 1) := by decide +kernel
theorem dX11_readRoom_201 : decode cX11_readRoom 201 = .ok (.getfield 241, 3) := by decide +kernel
theorem dX11_readRoom_204 : decode cX11_readRoom 204 = .ok (.iconst 1, 1) := by decide +kernel
theorem dX11_readRoom_205 : decode cX11_readRoom 205 = .ok (.iadd, 1) := by decide +kernel
theorem dX11_readRoom_206 : decode cX11_readRoom 206 = .ok (.putfield 241, 3) := by decide +kernel
theorem dX11_readRoom_209 : decode cX11_readRoom 209 = .ok (.goto 7, 3) := by decide +kernel
theorem dX11_readRoom_212 : decode cX11_readRoom 212 = .ok (.aload_n 0, 1) := by decide +kernel
theorem dX11_readRoom_213 : decode cX11_readRoom 213 = .ok (.invokevirtual 128, 3) := by decide +kernel
theorem dX11_readRoom_216 : decode cX11_readRoom 216 = .ok (.aload_n 0, 1) := by decide +kernel
theorem dX11_readRoom_217 : decode cX11_readRoom 217 = .ok (.getfield 119, 3) := by decide +kernel
theorem dX11_readRoom_220 : decode cX11_readRoom 220 = .ok (.iconst (-1), 1) := by decide +kernel
theorem dX11_readRoom_221 : decode cX11_readRoom 221 = .ok (.if_icmp .ne 16, 3) := by decide +kernel
theorem dX11_readRoom_224 : decode cX11_readRoom 224 = .ok (.aload_n 0, 1) := by decide +kernel
theorem dX11_readRoom_225 : decode cX11_readRoom 225 = .ok (.invokevirtual 131, 3) := by decide +kernel
theorem dX11_readRoom_228 : decode cX11_readRoom 228 = .ok (.bipush 59, 2) := by decide +kernel
theorem dX11_readRoom_230 : decode cX11_readRoom 230 = .ok (.if_icmp .ne 7, 3) := by decide +kernel
theorem dX11_readRoom_233 : decode cX11_readRoom 233 = .ok (.iconst 1, 1) := by decide +kernel
theorem dX11_readRoom_234 : decode cX11_readRoom 234 = .ok (.goto 4, 3) := by decide +kernel
theorem dX11_readRoom_237 : decode cX11_readRoom 237 = .ok (.iconst 0, 1) := by decide +kernel
theorem dX11_readRoom_238 : decode cX11_readRoom 238 = .ok (.istore_n 2, 1) := by decide +kernel
theorem dX11_readRoom_239 : decode cX11_readRoom 239 = .ok (.aload_n 0, 1) := by decide +kernel
theorem dX11_readRoom_240 : decode cX11_readRoom 240 = .ok (.dup, 1) := by decide +kernel
theorem dX11_readRoom_241 : decode cX11_readRoom 241 = .ok (.getfield 112, 3) := by decide +kernel
theorem dX11_readRoom_244 : decode cX11_readRoom 244 = .ok (.iload_n 2, 1) := by decide +kernel
theorem dX11_readRoom_245 : decode cX11_readRoom 245 = .ok (.ifCond .eq 7, 3) := by decide +kernel
theorem dX11_readRoom_248 : decode cX11_readRoom 248 = .ok (.iconst 1, 1) := by decide +kernel
theorem dX11_readRoom_249 : decode cX11_readRoom 249 = .ok (.goto 4, 3) := by decide +kernel
theorem dX11_readRoom_252 : decode cX11_readRoom 252 = .ok (.iconst 0, 1) := by decide +kernel
theorem dX11_readRoom_253 : decode cX11_readRoom 253 = .ok (.iadd, 1) := by decide +kernel
theorem dX11_readRoom_254 : decode cX11_readRoom 254 = .ok (.putfield 112, 3) := by decide +kernel
theorem dX11_readRoom_257 : decode cX11_readRoom 257 = .ok (.goto (-208), 3) := by decide +kernel
theorem dX11_readRoom_260 : decode cX11_readRoom 260 = .ok (.aload_n 0, 1) := by decide +kernel
theorem dX11_readRoom_261 : decode cX11_readRoom 261 = .ok (.getfield 119, 3) := by decide +kernel
theorem dX11_readRoom_264 : decode cX11_readRoom 264 = .ok (.iconst (-1), 1) := by decide +kernel
theorem dX11_readRoom_265 : decode cX11_readRoom 265 = .ok (.if_icmp .ne 22, 3) := by decide +kernel
theorem dX11_readRoom_268 : decode cX11_readRoom 268 = .ok (.aload_n 0, 1) := by decide +kernel
theorem dX11_readRoom_269 : decode cX11_readRoom 269 = .ok (.invokevirtual 131, 3) := by decide +kernel
theorem dX11_readRoom_272 : decode cX11_readRoom 272 = .ok (.iconst (-1), 1) := by decide +kernel
theorem dX11_readRoom_273 : decode cX11_readRoom 273 = .ok (.if_icmp .ne 10, 3) := by decide +kernel
theorem dX11_readRoom_276 : decode cX11_readRoom 276 = .ok (.aload_n 0, 1) := by decide +kernel
theorem dX11_readRoom_277 : decode cX11_readRoom 277 = .ok (.invokevirtual 251, 3) := by decide +kernel
theorem dX11_readRoom_280 : decode cX11_readRoom 280 = .ok (.ifCond .ne 7, 3) := by decide +kernel
theorem dX11_readRoom_283 : decode cX11_readRoom 283 = .ok (.aload_n 0, 1) := by decide +kernel
theorem dX11_readRoom_284 : decode cX11_readRoom 284 = .ok (.invokevirtual 128, 3) := by decide +kernel
theorem dX11_readRoom_287 : decode cX11_readRoom 287 = .ok (.aload_n 0, 1) := by decide +kernel
theorem dX11_readRoom_288 : decode cX11_readRoom 288 = .ok (.getfield 119, 3) := by decide +kernel
theorem dX11_readRoom_291 : decode cX11_readRoom 291 = .ok (.ireturn, 1) := by decide +kernel
theorem dX11_fault_0 : decode cX11_fault 0 = .ok (.iload_n 1, 1) := by decide +kernel
theorem dX11_fault_1 : decode cX11_fault 1 = .ok (.ifCond .ne 10, 3) := by decide +kernel
theorem dX11_fault_4 : decode cX11_fault 4 = .ok (.aload_n 0, 1) := by decide +kernel
theorem dX11_fault_5 : decode cX11_fault 5 = .ok (.invokevirtual 255, 3) := by decide +kernel
theorem dX11_fault_8 : decode cX11_fault 8 = .ok (.goto 18, 3) := by decide +kernel
theorem dX11_fault_11 : decode cX11_fault 11 = .ok (.iload_n 1, 1) := by decide +kernel
theorem dX11_fault_12 : decode cX11_fault 12 = .ok (.iconst 1, 1) := by decide +kernel
theorem dX11_fault_13 : decode cX11_fault 13 = .ok (.if_icmp .ne 11, 3) := by decide +kernel
theorem dX11_fault_16 : decode cX11_fault 16 = .ok (.aload_n 0, 1) := by decide +kernel
theorem dX11_fault_17 : decode cX11_fault 17 = .ok (.iconst 4, 1) := by decide +kernel
theorem dX11_fault_18 : decode cX11_fault 18 = .ok (.invokevirtual 258, 3) := by decide +kernel
theorem dX11_fault_21 : decode cX11_fault 21 = .ok (.goto 5, 3) := by decide +kernel
theorem dX11_fault_24 : decode cX11_fault 24 = .ok (.bipush (-2), 2) := by decide +kernel
theorem dX11_fault_26 : decode cX11_fault 26 = .ok (.ireturn, 1) := by decide +kernel
theorem dX11_takeRoom_0 : decode cX11_takeRoom 0 = .ok (.aload_n 0, 1) := by decide +kernel
theorem dX11_takeRoom_1 : decode cX11_takeRoom 1 = .ok (.aload_n 0, 1) := by decide +kernel
theorem dX11_takeRoom_2 : decode cX11_takeRoom 2 = .ok (.getfield 244, 3) := by decide +kernel
theorem dX11_takeRoom_5 : decode cX11_takeRoom 5 = .ok (.putfield 261, 3) := by decide +kernel
theorem dX11_takeRoom_8 : decode cX11_takeRoom 8 = .ok (.aload_n 0, 1) := by decide +kernel
theorem dX11_takeRoom_9 : decode cX11_takeRoom 9 = .ok (.aload_n 0, 1) := by decide +kernel
theorem dX11_takeRoom_10 : decode cX11_takeRoom 10 = .ok (.getfield 241, 3) := by decide +kernel
theorem dX11_takeRoom_13 : decode cX11_takeRoom 13 = .ok (.putfield 264, 3) := by decide +kernel
theorem dX11_takeRoom_16 : decode cX11_takeRoom 16 = .ok (.iconst 0, 1) := by decide +kernel
theorem dX11_takeRoom_17 : decode cX11_takeRoom 17 = .ok (.istore_n 1, 1) := by decide +kernel
theorem dX11_takeRoom_18 : decode cX11_takeRoom 18 = .ok (.iload_n 1, 1) := by decide +kernel
theorem dX11_takeRoom_19 : decode cX11_takeRoom 19 = .ok (.iconst 4, 1) := by decide +kernel
theorem dX11_takeRoom_20 : decode cX11_takeRoom 20 = .ok (.if_icmp .ge 21, 3) := by decide +kernel
theorem dX11_takeRoom_23 : decode cX11_takeRoom 23 = .ok (.aload_n 0, 1) := by decide +kernel
theorem dX11_takeRoom_24 : decode cX11_takeRoom 24 = .ok (.getfield 49, 3) := by decide +kernel
theorem dX11_takeRoom_27 : decode cX11_takeRoom 27 = .ok (.iload_n 1, 1) := by decide +kernel
theorem dX11_takeRoom_28 : decode cX11_takeRoom 28 = .ok (.aload_n 0, 1) := by decide +kernel
theorem dX11_takeRoom_29 : decode cX11_takeRoom 29 = .ok (.getfield 40, 3) := by decide +kernel
theorem dX11_takeRoom_32 : decode cX11_takeRoom 32 = .ok (.iload_n 1, 1) := by decide +kernel
theorem dX11_takeRoom_33 : decode cX11_takeRoom 33 = .ok (.iaload, 1) := by decide +kernel
theorem dX11_takeRoom_34 : decode cX11_takeRoom 34 = .ok (.iastore, 1) := by decide +kernel
theorem dX11_takeRoom_35 : decode cX11_takeRoom 35 = .ok (.iinc 1 1, 3) := by decide +kernel
theorem dX11_takeRoom_38 : decode cX11_takeRoom 38 = .ok (.goto (-20), 3) := by decide +kernel
theorem dX11_takeRoom_41 : decode cX11_takeRoom 41 = .ok (.aload_n 0, 1) := by decide +kernel
theorem dX11_takeRoom_42 : decode cX11_takeRoom 42 = .ok (.aload_n 0, 1) := by decide +kernel
theorem dX11_takeRoom_43 : decode cX11_takeRoom 43 = .ok (.getfield 49, 3) := by decide +kernel
theorem dX11_takeRoom_46 : decode cX11_takeRoom 46 = .ok (.iconst 0, 1) := by decide +kernel
theorem dX11_takeRoom_47 : decode cX11_takeRoom 47 = .ok (.iaload, 1) := by decide +kernel
theorem dX11_takeRoom_48 : decode cX11_takeRoom 48 = .ok (.aload_n 0, 1) := by decide +kernel
theorem dX11_takeRoom_49 : decode cX11_takeRoom 49 = .ok (.getfield 49, 3) := by decide +kernel
theorem dX11_takeRoom_52 : decode cX11_takeRoom 52 = .ok (.iconst 1, 1) := by decide +kernel
theorem dX11_takeRoom_53 : decode cX11_takeRoom 53 = .ok (.iaload, 1) := by decide +kernel
theorem dX11_takeRoom_54 : decode cX11_takeRoom 54 = .ok (.imul, 1) := by decide +kernel
theorem dX11_takeRoom_55 : decode cX11_takeRoom 55 = .ok (.putfield 267, 3) := by decide +kernel
theorem dX11_takeRoom_58 : decode cX11_takeRoom 58 = .ok (.iconst 0, 1) := by decide +kernel
theorem dX11_takeRoom_59 : decode cX11_takeRoom 59 = .ok (.istore_n 1, 1) := by decide +kernel
theorem dX11_takeRoom_60 : decode cX11_takeRoom 60 = .ok (.iload_n 1, 1) := by decide +kernel
theorem dX11_takeRoom_61 : decode cX11_takeRoom 61 = .ok (.bipush 60, 2) := by decide +kernel
theorem dX11_takeRoom_63 : decode cX11_takeRoom 63 = .ok (.if_icmp .ge 21, 3) := by decide +kernel
theorem dX11_takeRoom_66 : decode cX11_takeRoom 66 = .ok (.aload_n 0, 1) := by decide +kernel
theorem dX11_takeRoom_67 : decode cX11_takeRoom 67 = .ok (.getfield 52, 3) := by decide +kernel
theorem dX11_takeRoom_70 : decode cX11_takeRoom 70 = .ok (.iload_n 1, 1) := by decide +kernel
theorem dX11_takeRoom_71 : decode cX11_takeRoom 71 = .ok (.aload_n 0, 1) := by decide +kernel
theorem dX11_takeRoom_72 : decode cX11_takeRoom 72 = .ok (.getfield 43, 3) := by decide +kernel
theorem dX11_takeRoom_75 : decode cX11_takeRoom 75 = .ok (.iload_n 1, 1) := by decide +kernel
theorem dX11_takeRoom_76 : decode cX11_takeRoom 76 = .ok (.iaload, 1) := by decide +kernel
theorem dX11_takeRoom_77 : decode cX11_takeRoom 77 = .ok (.iastore, 1) := by decide +kernel
theorem dX11_takeRoom_78 : decode cX11_takeRoom 78 = .ok (.iinc 1 1, 3) := by decide +kernel
theorem dX11_takeRoom_81 : decode cX11_takeRoom 81 = .ok (.goto (-21), 3) := by decide +kernel
theorem dX11_takeRoom_84 : decode cX11_takeRoom 84 = .ok (.iconst 0, 1) := by decide +kernel
theorem dX11_takeRoom_85 : decode cX11_takeRoom 85 = .ok (.istore_n 1, 1) := by decide +kernel
theorem dX11_takeRoom_86 : decode cX11_takeRoom 86 = .ok (.iload_n 1, 1) := by decide +kernel
theorem dX11_takeRoom_87 : decode cX11_takeRoom 87 = .ok (.bipush 12, 2) := by decide +kernel
theorem dX11_takeRoom_89 : decode cX11_takeRoom 89 = .ok (.if_icmp .ge 21, 3) := by decide +kernel
theorem dX11_takeRoom_92 : decode cX11_takeRoom 92 = .ok (.aload_n 0, 1) := by decide +kernel
theorem dX11_takeRoom_93 : decode cX11_takeRoom 93 = .ok (.getfield 55, 3) := by decide +kernel
theorem dX11_takeRoom_96 : decode cX11_takeRoom 96 = .ok (.iload_n 1, 1) := by decide +kernel
theorem dX11_takeRoom_97 : decode cX11_takeRoom 97 = .ok (.aload_n 0, 1) := by decide +kernel
theorem dX11_takeRoom_98 : decode cX11_takeRoom 98 = .ok (.getfield 46, 3) := by decide +kernel
theorem dX11_takeRoom_101 : decode cX11_takeRoom 101 = .ok (.iload_n 1, 1) := by decide +kernel
theorem dX11_takeRoom_102 : decode cX11_takeRoom 102 = .ok (.iaload, 1) := by decide +kernel
theorem dX11_takeRoom_103 : decode cX11_takeRoom 103 = .ok (.iastore, 1) := by decide +kernel
theorem dX11_takeRoom_104 : decode cX11_takeRoom 104 = .ok (.iinc 1 1, 3) := by decide +kernel
theorem dX11_takeRoom_107 : decode cX11_takeRoom 107 = .ok (.goto (-21), 3) := by decide +kernel
theorem dX11_takeRoom_110 : decode cX11_takeRoom 110 = .ok (.iconst 0, 1) := by decide +kernel
theorem dX11_takeRoom_111 : decode cX11_takeRoom 111 = .ok (.istore_n 1, 1) := by decide +kernel
theorem dX11_takeRoom_112 : decode cX11_takeRoom 112 = .ok (.iload_n 1, 1) := by decide +kernel
theorem dX11_takeRoom_113 : decode cX11_takeRoom 113 = .ok (.sipush 199, 3) := by decide +kernel
theorem dX11_takeRoom_116 : decode cX11_takeRoom 116 = .ok (.if_icmp .ge 16, 3) := by decide +kernel
theorem dX11_takeRoom_119 : decode cX11_takeRoom 119 = .ok (.aload_n 0, 1) := by decide +kernel
theorem dX11_takeRoom_120 : decode cX11_takeRoom 120 = .ok (.getfield 58, 3) := by decide +kernel
theorem dX11_takeRoom_123 : decode cX11_takeRoom 123 = .ok (.iload_n 1, 1) := by decide +kernel
theorem dX11_takeRoom_124 : decode cX11_takeRoom 124 = .ok (.iconst 0, 1) := by decide +kernel
theorem dX11_takeRoom_125 : decode cX11_takeRoom 125 = .ok (.iastore, 1) := by decide +kernel
theorem dX11_takeRoom_126 : decode cX11_takeRoom 126 = .ok (.iinc 1 1, 3) := by decide +kernel
theorem dX11_takeRoom_129 : decode cX11_takeRoom 129 = .ok (.goto (-17), 3) := by decide +kernel
theorem dX11_takeRoom_132 : decode cX11_takeRoom 132 = .ok (.iconst 0, 1) := by decide +kernel
theorem dX11_takeRoom_133 : decode cX11_takeRoom 133 = .ok (.istore_n 1, 1) := by decide +kernel
theorem dX11_takeRoom_134 : decode cX11_takeRoom 134 = .ok (.iload_n 1, 1) := by decide +kernel
theorem dX11_takeRoom_135 : decode cX11_takeRoom 135 = .ok (.aload_n 0, 1) := by decide +kernel
theorem dX11_takeRoom_136 : decode cX11_takeRoom 136 = .ok (.getfield 261, 3) := by decide +kernel
theorem dX11_takeRoom_139 : decode cX11_takeRoom 139 = .ok (.if_icmp .ge 41, 3) := by decide +kernel
theorem dX11_takeRoom_142 : decode cX11_takeRoom 142 = .ok (.aload_n 0, 1) := by decide +kernel
theorem dX11_takeRoom_143 : decode cX11_takeRoom 143 = .ok (.getfield 58, 3) := by decide +kernel
theorem dX11_takeRoom_146 : decode cX11_takeRoom 146 = .ok (.iconst 0, 1) := by decide +kernel
theorem dX11_takeRoom_147 : decode cX11_takeRoom 147 = .ok (.iload_n 1, 1) := by decide +kernel
theorem dX11_takeRoom_148 : decode cX11_takeRoom 148 = .ok (.iadd, 1) := by decide +kernel
theorem dX11_takeRoom_149 : decode cX11_takeRoom 149 = .ok (.aload_n 0, 1) := by decide +kernel
theorem dX11_takeRoom_150 : decode cX11_takeRoom 150 = .ok (.iload_n 1, 1) := by decide +kernel
theorem dX11_takeRoom_151 : decode cX11_takeRoom 151 = .ok (.iconst 3, 1) := by decide +kernel
theorem dX11_takeRoom_152 : decode cX11_takeRoom 152 = .ok (.invokevirtual 270, 3) := by decide +kernel
theorem dX11_takeRoom_155 : decode cX11_takeRoom 155 = .ok (.iastore, 1) := by decide +kernel
theorem dX11_takeRoom_156 : decode cX11_takeRoom 156 = .ok (.aload_n 0, 1) := by decide +kernel
theorem dX11_takeRoom_157 : decode cX11_takeRoom 157 = .ok (.getfield 58, 3) := by decide +kernel
theorem dX11_takeRoom_160 : decode cX11_takeRoom 160 = .ok (.bipush 10, 2) := by decide +kernel
theorem dX11_takeRoom_162 : decode cX11_takeRoom 162 = .ok (.dup2, 1) := by decide +kernel
theorem dX11_takeRoom_163 : decode cX11_takeRoom 163 = .ok (.iaload, 1) := by decide +kernel
theorem dX11_takeRoom_164 : decode cX11_takeRoom 164 = .ok (.aload_n 0, 1) := by decide +kernel
theorem dX11_takeRoom_165 : decode cX11_takeRoom 165 = .ok (.iload_n 1, 1) := by decide +kernel
theorem dX11_takeRoom_166 : decode cX11_takeRoom 166 = .ok (.iconst 5, 1) := by decide +kernel
theorem dX11_takeRoom_167 : decode cX11_takeRoom 167 = .ok (.invokevirtual 270, 3) := by decide +kernel
theorem dX11_takeRoom_170 : decode cX11_takeRoom 170 = .ok (.iload_n 1, 1) := by decide +kernel
theorem dX11_takeRoom_171 : decode cX11_takeRoom 171 = .ok (.ishl, 1) := by decide +kernel
theorem dX11_takeRoom_172 : decode cX11_takeRoom 172 = .ok (.ior, 1) := by decide +kernel
theorem dX11_takeRoom_173 : decode cX11_takeRoom 173 = .ok (.iastore, 1) := by decide +kernel
theorem dX11_takeRoom_174 : decode cX11_takeRoom 174 = .ok (.iinc 1 1, 3) := by decide +kernel
theorem dX11_takeRoom_177 : decode cX11_takeRoom 177 = .ok (.goto (-43), 3) := by decide +kernel
theorem dX11_takeRoom_180 : decode cX11_takeRoom 180 = .ok (.iconst 0, 1) := by decide +kernel
theorem dX11_takeRoom_181 : decode cX11_takeRoom 181 = .ok (.istore_n 1, 1) := by decide +kernel
theorem dX11_takeRoom_182 : decode cX11_takeRoom 182 = .ok (.iload_n 1, 1) := by decide +kernel
theorem dX11_takeRoom_183 : decode cX11_takeRoom 183 = .ok (.aload_n 0, 1) := by decide +kernel
theorem dX11_takeRoom_184 : decode cX11_takeRoom 184 = .ok (.getfield 264, 3) := by decide +kernel
theorem dX11_takeRoom_187 : decode cX11_takeRoom 187 = .ok (.if_icmp .ge 26, 3) := by decide +kernel
theorem dX11_takeRoom_190 : decode cX11_takeRoom 190 = .ok (.aload_n 0, 1) := by decide +kernel
theorem dX11_takeRoom_191 : decode cX11_takeRoom 191 = .ok (.getfield 58, 3) := by decide +kernel
theorem dX11_takeRoom_194 : decode cX11_takeRoom 194 = .ok (.bipush 11, 2) := by decide +kernel
theorem dX11_takeRoom_196 : decode cX11_takeRoom 196 = .ok (.iload_n 1, 1) := by decide +kernel
theorem dX11_takeRoom_197 : decode cX11_takeRoom 197 = .ok (.iadd, 1) := by decide +kernel
theorem dX11_takeRoom_198 : decode cX11_takeRoom 198 = .ok (.aload_n 0, 1) := by decide +kernel
theorem dX11_takeRoom_199 : decode cX11_takeRoom 199 = .ok (.getfield 55, 3) := by decide +kernel
theorem dX11_takeRoom_202 : decode cX11_takeRoom 202 = .ok (.iconst 2, 1) := by decide +kernel
theorem dX11_takeRoom_203 : decode cX11_takeRoom 203 = .ok (.iload_n 1, 1) := by decide +kernel
theorem dX11_takeRoom_204 : decode cX11_takeRoom 204 = .ok (.imul, 1) := by decide +kernel
theorem dX11_takeRoom_205 : decode cX11_takeRoom 205 = .ok (.iaload, 1) := by decide +kernel
theorem dX11_takeRoom_206 : decode cX11_takeRoom 206 = .ok (.iastore, 1) := by decide +kernel
theorem dX11_takeRoom_207 : decode cX11_takeRoom 207 = .ok (.iinc 1 1, 3) := by decide +kernel
theorem dX11_takeRoom_210 : decode cX11_takeRoom 210 = .ok (.goto (-28), 3) := by decide +kernel
theorem dX11_takeRoom_213 : decode cX11_takeRoom 213 = .ok (.iconst 0, 1) := by decide +kernel
theorem dX11_takeRoom_214 : decode cX11_takeRoom 214 = .ok (.istore_n 1, 1) := by decide +kernel
theorem dX11_takeRoom_215 : decode cX11_takeRoom 215 = .ok (.iload_n 1, 1) := by decide +kernel
theorem dX11_takeRoom_216 : decode cX11_takeRoom 216 = .ok (.iconst 4, 1) := by decide +kernel
theorem dX11_takeRoom_217 : decode cX11_takeRoom 217 = .ok (.aload_n 0, 1) := by decide +kernel
theorem dX11_takeRoom_218 : decode cX11_takeRoom 218 = .ok (.getfield 267, 3) := by decide +kernel
theorem dX11_takeRoom_221 : decode cX11_takeRoom 221 = .ok (.imul, 1) := by decide +kernel
theorem dX11_takeRoom_222 : decode cX11_takeRoom 222 = .ok (.if_icmp .ge 58, 3) := by decide +kernel
theorem dX11_takeRoom_225 : decode cX11_takeRoom 225 = .ok (.aload_n 0, 1) := by decide +kernel
theorem dX11_takeRoom_226 : decode cX11_takeRoom 226 = .ok (.getfield 68, 3) := by decide +kernel
theorem dX11_takeRoom_229 : decode cX11_takeRoom 229 = .ok (.iload_n 1, 1) := by decide +kernel
theorem dX11_takeRoom_230 : decode cX11_takeRoom 230 = .ok (.aload_n 0, 1) := by decide +kernel
theorem dX11_takeRoom_231 : decode cX11_takeRoom 231 = .ok (.iload_n 1, 1) := by decide +kernel
theorem dX11_takeRoom_232 : decode cX11_takeRoom 232 = .ok (.iconst 4, 1) := by decide +kernel
theorem dX11_takeRoom_233 : decode cX11_takeRoom 233 = .ok (.idiv, 1) := by decide +kernel
theorem dX11_takeRoom_234 : decode cX11_takeRoom 234 = .ok (.iload_n 1, 1) := by decide +kernel
theorem dX11_takeRoom_235 : decode cX11_takeRoom 235 = .ok (.iconst 4, 1) := by decide +kernel
theorem dX11_takeRoom_236 : decode cX11_takeRoom 236 = .ok (.irem, 1) := by decide +kernel
theorem dX11_takeRoom_237 : decode cX11_takeRoom 237 = .ok (.invokevirtual 273, 3) := by decide +kernel
theorem dX11_takeRoom_240 : decode cX11_takeRoom 240 = .ok (.iastore, 1) := by decide +kernel
theorem dX11_takeRoom_241 : decode cX11_takeRoom 241 = .ok (.aload_n 0, 1) := by decide +kernel
theorem dX11_takeRoom_242 : decode cX11_takeRoom 242 = .ok (.getfield 71, 3) := by decide +kernel
theorem dX11_takeRoom_245 : decode cX11_takeRoom 245 = .ok (.iload_n 1, 1) := by decide +kernel
theorem dX11_takeRoom_246 : decode cX11_takeRoom 246 = .ok (.aload_n 0, 1) := by decide +kernel
theorem dX11_takeRoom_247 : decode cX11_takeRoom 247 = .ok (.getfield 68, 3) := by decide +kernel
theorem dX11_takeRoom_250 : decode cX11_takeRoom 250 = .ok (.iload_n 1, 1) := by decide +kernel
theorem dX11_takeRoom_251 : decode cX11_takeRoom 251 = .ok (.iaload, 1) := by decide +kernel
theorem dX11_takeRoom_252 : decode cX11_takeRoom 252 = .ok (.iconst (-1), 1) := by decide +kernel
theorem dX11_takeRoom_253 : decode cX11_takeRoom 253 = .ok (.if_icmp .ne 7, 3) := by decide +kernel
theorem dX11_takeRoom_256 : decode cX11_takeRoom 256 = .ok (.iconst (-1), 1) := by decide +kernel
theorem dX11_takeRoom_257 : decode cX11_takeRoom 257 = .ok (.goto 16, 3) := by decide +kernel
theorem dX11_takeRoom_260 : decode cX11_takeRoom 260 = .ok (.aload_n 0, 1) := by decide +kernel
theorem dX11_takeRoom_261 : decode cX11_takeRoom 261 = .ok (.iload_n 1, 1) := by decide +kernel
theorem dX11_takeRoom_262 : decode cX11_takeRoom 262 = .ok (.iconst 4, 1) := by decide +kernel
theorem dX11_takeRoom_263 : decode cX11_takeRoom 263 = .ok (.idiv, 1) := by decide +kernel
theorem dX11_takeRoom_264 : decode cX11_takeRoom 264 = .ok (.aload_n 0, 1) := by decide +kernel
theorem dX11_takeRoom_265 : decode cX11_takeRoom 265 = .ok (.getfield 68, 3) := by decide +kernel
theorem dX11_takeRoom_268 : decode cX11_takeRoom 268 = .ok (.iload_n 1, 1) := by decide +kernel
theorem dX11_takeRoom_269 : decode cX11_takeRoom 269 = .ok (.iaload, 1) := by decide +kernel
theorem dX11_takeRoom_270 : decode cX11_takeRoom 270 = .ok (.invokevirtual 276, 3) := by decide +kernel
theorem dX11_takeRoom_273 : decode cX11_takeRoom 273 = .ok (.iastore, 1) := by decide +kernel
theorem dX11_takeRoom_274 : decode cX11_takeRoom 274 = .ok (.iinc 1 1, 3) := by decide +kernel
theorem dX11_takeRoom_277 : decode cX11_takeRoom 277 = .ok (.goto (-62), 3) := by decide +kernel
theorem dX11_takeRoom_280 : decode cX11_takeRoom 280 = .ok (.aload_n 0, 1) := by decide +kernel
theorem dX11_takeRoom_281 : decode cX11_takeRoom 281 = .ok (.iconst 0, 1) := by decide +kernel
theorem dX11_takeRoom_282 : decode cX11_takeRoom 282 = .ok (.putfield 279, 3) := by decide +kernel
theorem dX11_takeRoom_285 : decode cX11_takeRoom 285 = .ok (.aload_n 0, 1) := by decide +kernel
theorem dX11_takeRoom_286 : decode cX11_takeRoom 286 = .ok (.iconst 0, 1) := by decide +kernel
theorem dX11_takeRoom_287 : decode cX11_takeRoom 287 = .ok (.putfield 282, 3) := by decide +kernel
theorem dX11_takeRoom_290 : decode cX11_takeRoom 290 = .ok (.aload_n 0, 1) := by decide +kernel
theorem dX11_takeRoom_291 : decode cX11_takeRoom 291 = .ok (.iconst 0, 1) := by decide +kernel
theorem dX11_takeRoom_292 : decode cX11_takeRoom 292 = .ok (.putfield 285, 3) := by decide +kernel
theorem dX11_takeRoom_295 : decode cX11_takeRoom 295 = .ok (.aload_n 0, 1) := by decide +kernel
theorem dX11_takeRoom_296 : decode cX11_takeRoom 296 = .ok (.getfield 267, 3) := by decide +kernel
theorem dX11_takeRoom_299 : decode cX11_takeRoom 299 = .ok (.ireturn, 1) := by decide +kernel
theorem dX11_text_0 : decode cX11_text 0 = .ok (.iload_n 1, 1) := by decide +kernel
theorem dX11_text_1 : decode cX11_text 1 = .ok (.ifCond .ne 21, 3) := by decide +kernel
theorem dX11_text_4 : decode cX11_text 4 = .ok (.aload_n 0, 1) := by decide +kernel
theorem dX11_text_5 : decode cX11_text 5 = .ok (.invokevirtual 255, 3) := by decide +kernel
theorem dX11_text_8 : decode cX11_text 8 = .ok (.iconst (-1), 1) := by decide +kernel
theorem dX11_text_9 : decode cX11_text 9 = .ok (.if_icmp .ne 13, 3) := by decide +kernel
theorem dX11_text_12 : decode cX11_text 12 = .ok (.aload_n 0, 1) := by decide +kernel
theorem dX11_text_13 : decode cX11_text 13 = .ok (.iconst 0, 1) := by decide +kernel
theorem dX11_text_14 : decode cX11_text 14 = .ok (.putfield 109, 3) := by decide +kernel
theorem dX11_text_17 : decode cX11_text 17 = .ok (.aload_n 0, 1) := by decide +kernel
theorem dX11_text_18 : decode cX11_text 18 = .ok (.invokevirtual 289, 3) := by decide +kernel
theorem dX11_text_21 : decode cX11_text 21 = .ok (.ireturn, 1) := by decide +kernel
theorem dX11_text_22 : decode cX11_text 22 = .ok (.iload_n 1, 1) := by decide +kernel
theorem dX11_text_23 : decode cX11_text 23 = .ok (.iconst 1, 1) := by decide +kernel
theorem dX11_text_24 : decode cX11_text 24 = .ok (.if_icmp .ne 45, 3) := by decide +kernel
theorem dX11_text_27 : decode cX11_text 27 = .ok (.aload_n 0, 1) := by decide +kernel
