theorem dX2_put_107 : decode cX2_put 107 = .ok (.iload_n 2, 1) := by decide +kernel
theorem dX2_put_108 : decode cX2_put 108 = .ok (.if_icmp .le 7, 3) := by decide +kernel
theorem dX2_put_111 : decode cX2_put 111 = .ok (.iconst 1, 1) := by decide +kernel
theorem dX2_put_112 : decode cX2_put 112 = .ok (.goto 4, 3) := by decide +kernel
theorem dX2_put_115 : decode cX2_put 115 = .ok (.iconst 0, 1) := by decide +kernel
theorem dX2_put_116 : decode cX2_put 116 = .ok (.ireturn, 1) := by decide +kernel
theorem dX2_put_117 : decode cX2_put 117 = .ok (.iload_n 1, 1) := by decide +kernel
theorem dX2_put_118 : decode cX2_put 118 = .ok (.i2l, 1) := by decide +kernel
theorem dX2_put_119 : decode cX2_put 119 = .ok (.iload_n 2, 1) := by decide +kernel
theorem dX2_put_120 : decode cX2_put 120 = .ok (.i2l, 1) := by decide +kernel
theorem dX2_put_121 : decode cX2_put 121 = .ok (.ladd, 1) := by decide +kernel
theorem dX2_put_122 : decode cX2_put 122 = .ok (.invokestatic 95, 3) := by decide +kernel
theorem dX2_put_125 : decode cX2_put 125 = .ok (.ireturn, 1) := by decide +kernel
theorem dX2_put_126 : decode cX2_put 126 = .ok (.iload_n 1, 1) := by decide +kernel
theorem dX2_put_127 : decode cX2_put 127 = .ok (.i2l, 1) := by decide +kernel
theorem dX2_put_128 : decode cX2_put 128 = .ok (.iload_n 2, 1) := by decide +kernel
theorem dX2_put_129 : decode cX2_put 129 = .ok (.i2l, 1) := by decide +kernel
theorem dX2_put_130 : decode cX2_put 130 = .ok (.lsub, 1) := by decide +kernel
theorem dX2_put_131 : decode cX2_put 131 = .ok (.invokestatic 95, 3) := by decide +kernel
theorem dX2_put_134 : decode cX2_put 134 = .ok (.ireturn, 1) := by decide +kernel
theorem dX2_put_135 : decode cX2_put 135 = .ok (.iload_n 1, 1) := by decide +kernel
theorem dX2_put_136 : decode cX2_put 136 = .ok (.i2l, 1) := by decide +kernel
theorem dX2_put_137 : decode cX2_put 137 = .ok (.iload_n 2, 1) := by decide +kernel
theorem dX2_put_138 : decode cX2_put 138 = .ok (.i2l, 1) := by decide +kernel
theorem dX2_put_139 : decode cX2_put 139 = .ok (.lmul, 1) := by decide +kernel
theorem dX2_put_140 : decode cX2_put 140 = .ok (.invokestatic 95, 3) := by decide +kernel
theorem dX2_put_143 : decode cX2_put 143 = .ok (.ireturn, 1) := by decide +kernel
theorem dX2_put_144 : decode cX2_put 144 = .ok (.iload_n 2, 1) := by decide +kernel
theorem dX2_put_145 : decode cX2_put 145 = .ok (.ifCond .ne 7, 3) := by decide +kernel
theorem dX2_put_148 : decode cX2_put 148 = .ok (.iconst 0, 1) := by decide +kernel
theorem dX2_put_149 : decode cX2_put 149 = .ok (.goto 10, 3) := by decide +kernel
theorem dX2_put_152 : decode cX2_put 152 = .ok (.iload_n 1, 1) := by decide +kernel
theorem dX2_put_153 : decode cX2_put 153 = .ok (.iload_n 2, 1) := by decide +kernel
theorem dX2_put_154 : decode cX2_put 154 = .ok (.idiv, 1) := by decide +kernel
theorem dX2_put_155 : decode cX2_put 155 = .ok (.i2l, 1) := by decide +kernel
theorem dX2_put_156 : decode cX2_put 156 = .ok (.invokestatic 95, 3) := by decide +kernel
theorem dX2_put_159 : decode cX2_put 159 = .ok (.ireturn, 1) := by decide +kernel
theorem dX2_held_0 : decode cX2_held 0 = .ok (.lload_n 0, 1) := by decide +kernel
theorem dX2_held_1 : decode cX2_held 1 = .ok (.ldc2_w 99, 3) := by decide +kernel
theorem dX2_held_4 : decode cX2_held 4 = .ok (.lcmp, 1) := by decide +kernel
theorem dX2_held_5 : decode cX2_held 5 = .ok (.ifCond .le 6, 3) := by decide +kernel
theorem dX2_held_8 : decode cX2_held 8 = .ok (.ldc 101, 2) := by decide +kernel
theorem dX2_held_10 : decode cX2_held 10 = .ok (.ireturn, 1) := by decide +kernel
theorem dX2_held_11 : decode cX2_held 11 = .ok (.lload_n 0, 1) := by decide +kernel
theorem dX2_held_12 : decode cX2_held 12 = .ok (.ldc2_w 102, 3) := by decide +kernel
theorem dX2_held_15 : decode cX2_held 15 = .ok (.lcmp, 1) := by decide +kernel
theorem dX2_held_16 : decode cX2_held 16 = .ok (.ifCond .ge 8, 3) := by decide +kernel
theorem dX2_held_19 : decode cX2_held 19 = .ok (.ldc 104, 2) := by decide +kernel
theorem dX2_held_21 : decode cX2_held 21 = .ok (.goto 5, 3) := by decide +kernel
theorem dX2_held_24 : decode cX2_held 24 = .ok (.lload_n 0, 1) := by decide +kernel
theorem dX2_held_25 : decode cX2_held 25 = .ok (.l2i, 1) := by decide +kernel
theorem dX2_held_26 : decode cX2_held 26 = .ok (.ireturn, 1) := by decide +kernel
theorem dX2_push_0 : decode cX2_push 0 = .ok (.aload_n 0, 1) := by decide +kernel
theorem dX2_push_1 : decode cX2_push 1 = .ok (.getfield 33, 3) := by decide +kernel
theorem dX2_push_4 : decode cX2_push 4 = .ok (.bipush 32, 2) := by decide +kernel
theorem dX2_push_6 : decode cX2_push 6 = .ok (.if_icmp .ge 23, 3) := by decide +kernel
theorem dX2_push_9 : decode cX2_push 9 = .ok (.aload_n 0, 1) := by decide +kernel
theorem dX2_push_10 : decode cX2_push 10 = .ok (.getfield 30, 3) := by decide +kernel
theorem dX2_push_13 : decode cX2_push 13 = .ok (.aload_n 0, 1) := by decide +kernel
theorem dX2_push_14 : decode cX2_push 14 = .ok (.getfield 33, 3) := by decide +kernel
theorem dX2_push_17 : decode cX2_push 17 = .ok (.iload_n 1, 1) := by decide +kernel
theorem dX2_push_18 : decode cX2_push 18 = .ok (.iastore, 1) := by decide +kernel
theorem dX2_push_19 : decode cX2_push 19 = .ok (.aload_n 0, 1) := by decide +kernel
theorem dX2_push_20 : decode cX2_push 20 = .ok (.dup, 1) := by decide +kernel
theorem dX2_push_21 : decode cX2_push 21 = .ok (.getfield 33, 3) := by decide +kernel
theorem dX2_push_24 : decode cX2_push 24 = .ok (.iconst 1, 1) := by decide +kernel
theorem dX2_push_25 : decode cX2_push 25 = .ok (.iadd, 1) := by decide +kernel
theorem dX2_push_26 : decode cX2_push 26 = .ok (.putfield 33, 3) := by decide +kernel
theorem dX2_push_29 : decode cX2_push 29 = .ok (.return_, 1) := by decide +kernel
theorem dX2_pop_0 : decode cX2_pop 0 = .ok (.aload_n 0, 1) := by decide +kernel
theorem dX2_pop_1 : decode cX2_pop 1 = .ok (.getfield 33, 3) := by decide +kernel
theorem dX2_pop_4 : decode cX2_pop 4 = .ok (.ifCond .ne 5, 3) := by decide +kernel
theorem dX2_pop_7 : decode cX2_pop 7 = .ok (.iconst 0, 1) := by decide +kernel
theorem dX2_pop_8 : decode cX2_pop 8 = .ok (.ireturn, 1) := by decide +kernel
theorem dX2_pop_9 : decode cX2_pop 9 = .ok (.aload_n 0, 1) := by decide +kernel
theorem dX2_pop_10 : decode cX2_pop 10 = .ok (.dup, 1) := by decide +kernel
theorem dX2_pop_11 : decode cX2_pop 11 = .ok (.getfield 33, 3) := by decide +kernel
theorem dX2_pop_14 : decode cX2_pop 14 = .ok (.iconst 1, 1) := by decide +kernel
theorem dX2_pop_15 : decode cX2_pop 15 = .ok (.isub, 1) := by decide +kernel
theorem dX2_pop_16 : decode cX2_pop 16 = .ok (.putfield 33, 3) := by decide +kernel
theorem dX2_pop_19 : decode cX2_pop 19 = .ok (.aload_n 0, 1) := by decide +kernel
theorem dX2_pop_20 : decode cX2_pop 20 = .ok (.getfield 30, 3) := by decide +kernel
theorem dX2_pop_23 : decode cX2_pop 23 = .ok (.aload_n 0, 1) := by decide +kernel
theorem dX2_pop_24 : decode cX2_pop 24 = .ok (.getfield 33, 3) := by decide +kernel
theorem dX2_pop_27 : decode cX2_pop 27 = .ok (.iaload, 1) := by decide +kernel
theorem dX2_pop_28 : decode cX2_pop 28 = .ok (.ireturn, 1) := by decide +kernel
theorem dX3_init_0 : decode cX3_init 0 = .ok (.aload_n 0, 1) := by decide +kernel
theorem dX3_init_1 : decode cX3_init 1 = .ok (.invokespecial 3, 3) := by decide +kernel
theorem dX3_init_4 : decode cX3_init 4 = .ok (.aload_n 0, 1) := by decide +kernel
theorem dX3_init_5 : decode cX3_init 5 = .ok (.bipush 20, 2) := by decide +kernel
theorem dX3_init_7 : decode cX3_init 7 = .ok (.newarray .int, 2) := by decide +kernel
theorem dX3_init_9 : decode cX3_init 9 = .ok (.putfield 9, 3) := by decide +kernel
theorem dX3_init_12 : decode cX3_init 12 = .ok (.aload_n 0, 1) := by decide +kernel
theorem dX3_init_13 : decode cX3_init 13 = .ok (.bipush 10, 2) := by decide +kernel
theorem dX3_init_15 : decode cX3_init 15 = .ok (.newarray .int, 2) := by decide +kernel
theorem dX3_init_17 : decode cX3_init 17 = .ok (.putfield 15, 3) := by decide +kernel
theorem dX3_init_20 : decode cX3_init 20 = .ok (.aload_n 0, 1) := by decide +kernel
theorem dX3_init_21 : decode cX3_init 21 = .ok (.bipush 20, 2) := by decide +kernel
theorem dX3_init_23 : decode cX3_init 23 = .ok (.newarray .int, 2) := by decide +kernel
theorem dX3_init_25 : decode cX3_init 25 = .ok (.putfield 18, 3) := by decide +kernel
theorem dX3_init_28 : decode cX3_init 28 = .ok (.aload_n 0, 1) := by decide +kernel
theorem dX3_init_29 : decode cX3_init 29 = .ok (.bipush 20, 2) := by decide +kernel
theorem dX3_init_31 : decode cX3_init 31 = .ok (.newarray .int, 2) := by decide +kernel
theorem dX3_init_33 : decode cX3_init 33 = .ok (.putfield 21, 3) := by decide +kernel
theorem dX3_init_36 : decode cX3_init 36 = .ok (.return_, 1) := by decide +kernel
theorem dX3_weigh_0 : decode cX3_weigh 0 = .ok (.iconst 0, 1) := by decide +kernel
theorem dX3_weigh_1 : decode cX3_weigh 1 = .ok (.istore 4, 2) := by decide +kernel
theorem dX3_weigh_3 : decode cX3_weigh 3 = .ok (.iload 4, 2) := by decide +kernel
theorem dX3_weigh_5 : decode cX3_weigh 5 = .ok (.aload_n 1, 1) := by decide +kernel
theorem dX3_weigh_6 : decode cX3_weigh 6 = .ok (.getfield 24, 3) := by decide +kernel
theorem dX3_weigh_9 : decode cX3_weigh 9 = .ok (.getfield 30, 3) := by decide +kernel
theorem dX3_weigh_12 : decode cX3_weigh 12 = .ok (.if_icmp .ge 32, 3) := by decide +kernel
theorem dX3_weigh_15 : decode cX3_weigh 15 = .ok (.iload_n 3, 1) := by decide +kernel
theorem dX3_weigh_16 : decode cX3_weigh 16 = .ok (.iload 4, 2) := by decide +kernel
theorem dX3_weigh_18 : decode cX3_weigh 18 = .ok (.invokestatic 36, 3) := by decide +kernel
theorem dX3_weigh_21 : decode cX3_weigh 21 = .ok (.ifCond .eq 17, 3) := by decide +kernel
theorem dX3_weigh_24 : decode cX3_weigh 24 = .ok (.aload_n 0, 1) := by decide +kernel
theorem dX3_weigh_25 : decode cX3_weigh 25 = .ok (.getfield 15, 3) := by decide +kernel
theorem dX3_weigh_28 : decode cX3_weigh 28 = .ok (.iload 4, 2) := by decide +kernel
theorem dX3_weigh_30 : decode cX3_weigh 30 = .ok (.aload_n 2, 1) := by decide +kernel
theorem dX3_weigh_31 : decode cX3_weigh 31 = .ok (.aload_n 1, 1) := by decide +kernel
theorem dX3_weigh_32 : decode cX3_weigh 32 = .ok (.iload 4, 2) := by decide +kernel
theorem dX3_weigh_34 : decode cX3_weigh 34 = .ok (.invokevirtual 40, 3) := by decide +kernel
theorem dX3_weigh_37 : decode cX3_weigh 37 = .ok (.iastore, 1) := by decide +kernel
theorem dX3_weigh_38 : decode cX3_weigh 38 = .ok (.iinc 4 1, 3) := by decide +kernel
theorem dX3_weigh_41 : decode cX3_weigh 41 = .ok (.goto (-38), 3) := by decide +kernel
theorem dX3_weigh_44 : decode cX3_weigh 44 = .ok (.return_, 1) := by decide +kernel
theorem dX3_hang_0 : decode cX3_hang 0 = .ok (.aload_n 0, 1) := by decide +kernel
theorem dX3_hang_1 : decode cX3_hang 1 = .ok (.getfield 18, 3) := by decide +kernel
theorem dX3_hang_4 : decode cX3_hang 4 = .ok (.iconst 1, 1) := by decide +kernel
theorem dX3_hang_5 : decode cX3_hang 5 = .ok (.invokestatic 46, 3) := by decide +kernel
theorem dX3_hang_8 : decode cX3_hang 8 = .ok (.aload_n 0, 1) := by decide +kernel
theorem dX3_hang_9 : decode cX3_hang 9 = .ok (.getfield 21, 3) := by decide +kernel
theorem dX3_hang_12 : decode cX3_hang 12 = .ok (.iconst 1, 1) := by decide +kernel
theorem dX3_hang_13 : decode cX3_hang 13 = .ok (.invokestatic 46, 3) := by decide +kernel
theorem dX3_hang_16 : decode cX3_hang 16 = .ok (.iconst 0, 1) := by decide +kernel
theorem dX3_hang_17 : decode cX3_hang 17 = .ok (.istore_n 3, 1) := by decide +kernel
theorem dX3_hang_18 : decode cX3_hang 18 = .ok (.iload_n 3, 1) := by decide +kernel
theorem dX3_hang_19 : decode cX3_hang 19 = .ok (.aload_n 1, 1) := by decide +kernel
theorem dX3_hang_20 : decode cX3_hang 20 = .ok (.getfield 30, 3) := by decide +kernel
theorem dX3_hang_23 : decode cX3_hang 23 = .ok (.if_icmp .ge 72, 3) := by decide +kernel
theorem dX3_hang_26 : decode cX3_hang 26 = .ok (.iload_n 2, 1) := by decide +kernel
theorem dX3_hang_27 : decode cX3_hang 27 = .ok (.iload_n 3, 1) := by decide +kernel
theorem dX3_hang_28 : decode cX3_hang 28 = .ok (.invokestatic 36, 3) := by decide +kernel
theorem dX3_hang_31 : decode cX3_hang 31 = .ok (.ifCond .ne 6, 3) := by decide +kernel
theorem dX3_hang_34 : decode cX3_hang 34 = .ok (.goto 55, 3) := by decide +kernel
theorem dX3_hang_37 : decode cX3_hang 37 = .ok (.aload_n 1, 1) := by decide +kernel
theorem dX3_hang_38 : decode cX3_hang 38 = .ok (.getfield 52, 3) := by decide +kernel
theorem dX3_hang_41 : decode cX3_hang 41 = .ok (.iload_n 3, 1) := by decide +kernel
theorem dX3_hang_42 : decode cX3_hang 42 = .ok (.iaload, 1) := by decide +kernel
theorem dX3_hang_43 : decode cX3_hang 43 = .ok (.ifCond .ne 26, 3) := by decide +kernel
theorem dX3_hang_46 : decode cX3_hang 46 = .ok (.aload_n 0, 1) := by decide +kernel
theorem dX3_hang_47 : decode cX3_hang 47 = .ok (.getfield 18, 3) := by decide +kernel
theorem dX3_hang_50 : decode cX3_hang 50 = .ok (.aload_n 1, 1) := by decide +kernel
theorem dX3_hang_51 : decode cX3_hang 51 = .ok (.getfield 55, 3) := by decide +kernel
theorem dX3_hang_54 : decode cX3_hang 54 = .ok (.iload_n 3, 1) := by decide +kernel
theorem dX3_hang_55 : decode cX3_hang 55 = .ok (.iaload, 1) := by decide +kernel
theorem dX3_hang_56 : decode cX3_hang 56 = .ok (.dup2, 1) := by decide +kernel
theorem dX3_hang_57 : decode cX3_hang 57 = .ok (.iaload, 1) := by decide +kernel
theorem dX3_hang_58 : decode cX3_hang 58 = .ok (.aload_n 0, 1) := by decide +kernel
theorem dX3_hang_59 : decode cX3_hang 59 = .ok (.getfield 15, 3) := by decide +kernel
theorem dX3_hang_62 : decode cX3_hang 62 = .ok (.iload_n 3, 1) := by decide +kernel
theorem dX3_hang_63 : decode cX3_hang 63 = .ok (.iaload, 1) := by decide +kernel
theorem dX3_hang_64 : decode cX3_hang 64 = .ok (.iadd, 1) := by decide +kernel
theorem dX3_hang_65 : decode cX3_hang 65 = .ok (.iastore, 1) := by decide +kernel
theorem dX3_hang_66 : decode cX3_hang 66 = .ok (.goto 23, 3) := by decide +kernel
theorem dX3_hang_69 : decode cX3_hang 69 = .ok (.aload_n 0, 1) := by decide +kernel
theorem dX3_hang_70 : decode cX3_hang 70 = .ok (.getfield 21, 3) := by decide +kernel
theorem dX3_hang_73 : decode cX3_hang 73 = .ok (.aload_n 1, 1) := by decide +kernel
theorem dX3_hang_74 : decode cX3_hang 74 = .ok (.getfield 55, 3) := by decide +kernel
theorem dX3_hang_77 : decode cX3_hang 77 = .ok (.iload_n 3, 1) := by decide +kernel
theorem dX3_hang_78 : decode cX3_hang 78 = .ok (.iaload, 1) := by decide +kernel
theorem dX3_hang_79 : decode cX3_hang 79 = .ok (.dup2, 1) := by decide +kernel
theorem dX3_hang_80 : decode cX3_hang 80 = .ok (.iaload, 1) := by decide +kernel
theorem dX3_hang_81 : decode cX3_hang 81 = .ok (.aload_n 0, 1) := by decide +kernel
theorem dX3_hang_82 : decode cX3_hang 82 = .ok (.getfield 15, 3) := by decide +kernel
theorem dX3_hang_85 : decode cX3_hang 85 = .ok (.iload_n 3, 1) := by decide +kernel
theorem dX3_hang_86 : decode cX3_hang 86 = .ok (.iaload, 1) := by decide +kernel
theorem dX3_hang_87 : decode cX3_hang 87 = .ok (.iadd, 1) := by decide +kernel
theorem dX3_hang_88 : decode cX3_hang 88 = .ok (.iastore, 1) := by decide +kernel
theorem dX3_hang_89 : decode cX3_hang 89 = .ok (.iinc 3 1, 3) := by decide +kernel
theorem dX3_hang_92 : decode cX3_hang 92 = .ok (.goto (-74), 3) := by decide +kernel
theorem dX3_hang_95 : decode cX3_hang 95 = .ok (.return_, 1) := by decide +kernel
theorem dX3_spread_0 : decode cX3_spread 0 = .ok (.aload_n 0, 1) := by decide +kernel
theorem dX3_spread_1 : decode cX3_spread 1 = .ok (.getfield 9, 3) := by decide +kernel
theorem dX3_spread_4 : decode cX3_spread 4 = .ok (.iconst 0, 1) := by decide +kernel
theorem dX3_spread_5 : decode cX3_spread 5 = .ok (.invokestatic 46, 3) := by decide +kernel
theorem dX3_spread_8 : decode cX3_spread 8 = .ok (.iload_n 2, 1) := by decide +kernel
theorem dX3_spread_9 : decode cX3_spread 9 = .ok (.iconst 0, 1) := by decide +kernel
theorem dX3_spread_10 : decode cX3_spread 10 = .ok (.aload_n 1, 1) := by decide +kernel
theorem dX3_spread_11 : decode cX3_spread 11 = .ok (.getfield 58, 3) := by decide +kernel
theorem dX3_spread_14 : decode cX3_spread 14 = .ok (.iconst 1, 1) := by decide +kernel
theorem dX3_spread_15 : decode cX3_spread 15 = .ok (.isub, 1) := by decide +kernel
theorem dX3_spread_16 : decode cX3_spread 16 = .ok (.invokestatic 61, 3) := by decide +kernel
theorem dX3_spread_19 : decode cX3_spread 19 = .ok (.ifCond .ne 4, 3) := by decide +kernel
theorem dX3_spread_22 : decode cX3_spread 22 = .ok (.return_, 1) := by decide +kernel
theorem dX3_spread_23 : decode cX3_spread 23 = .ok (.aload_n 0, 1) := by decide +kernel
theorem dX3_spread_24 : decode cX3_spread 24 = .ok (.getfield 9, 3) := by decide +kernel
theorem dX3_spread_27 : decode cX3_spread 27 = .ok (.iload_n 2, 1) := by decide +kernel
theorem dX3_spread_28 : decode cX3_spread 28 = .ok (.iload_n 3, 1) := by decide +kernel
theorem dX3_spread_29 : decode cX3_spread 29 = .ok (.iastore, 1) := by decide +kernel
theorem dX3_spread_30 : decode cX3_spread 30 = .ok (.iconst 0, 1) := by decide +kernel
theorem dX3_spread_31 : decode cX3_spread 31 = .ok (.istore 4, 2) := by decide +kernel
theorem dX3_spread_33 : decode cX3_spread 33 = .ok (.iload 4, 2) := by decide +kernel
theorem dX3_spread_35 : decode cX3_spread 35 = .ok (.aload_n 1, 1) := by decide +kernel
theorem dX3_spread_36 : decode cX3_spread 36 = .ok (.getfield 58, 3) := by decide +kernel
theorem dX3_spread_39 : decode cX3_spread 39 = .ok (.if_icmp .ge 20, 3) := by decide +kernel
theorem dX3_spread_42 : decode cX3_spread 42 = .ok (.aload_n 0, 1) := by decide +kernel
theorem dX3_spread_43 : decode cX3_spread 43 = .ok (.aload_n 1, 1) := by decide +kernel
theorem dX3_spread_44 : decode cX3_spread 44 = .ok (.invokevirtual 65, 3) := by decide +kernel
theorem dX3_spread_47 : decode cX3_spread 47 = .ok (.ifCond .ne 6, 3) := by decide +kernel
theorem dX3_spread_50 : decode cX3_spread 50 = .ok (.goto 9, 3) := by decide +kernel
theorem dX3_spread_53 : decode cX3_spread 53 = .ok (.iinc 4 1, 3) := by decide +kernel
theorem dX3_spread_56 : decode cX3_spread 56 = .ok (.goto (-23), 3) := by decide +kernel
theorem dX3_spread_59 : decode cX3_spread 59 = .ok (.return_, 1) := by decide +kernel
theorem dX3_carry_0 : decode cX3_carry 0 = .ok (.iconst 0, 1) := by decide +kernel
theorem dX3_carry_1 : decode cX3_carry 1 = .ok (.istore_n 2, 1) := by decide +kernel
theorem dX3_carry_2 : decode cX3_carry 2 = .ok (.iconst 0, 1) := by decide +kernel
theorem dX3_carry_3 : decode cX3_carry 3 = .ok (.istore_n 3, 1) := by decide +kernel
theorem dX3_carry_4 : decode cX3_carry 4 = .ok (.iload_n 3, 1) := by decide +kernel
theorem dX3_carry_5 : decode cX3_carry 5 = .ok (.aload_n 1, 1) := by decide +kernel
theorem dX3_carry_6 : decode cX3_carry 6 = .ok (.getfield 58, 3) := by decide +kernel
theorem dX3_carry_9 : decode cX3_carry 9 = .ok (.if_icmp .ge 68, 3) := by decide +kernel
theorem dX3_carry_12 : decode cX3_carry 12 = .ok (.aload_n 1, 1) := by decide +kernel
theorem dX3_carry_13 : decode cX3_carry 13 = .ok (.getfield 69, 3) := by decide +kernel
theorem dX3_carry_16 : decode cX3_carry 16 = .ok (.iload_n 3, 1) := by decide +kernel
theorem dX3_carry_17 : decode cX3_carry 17 = .ok (.invokestatic 36, 3) := by decide +kernel
theorem dX3_carry_20 : decode cX3_carry 20 = .ok (.ifCond .eq 20, 3) := by decide +kernel
theorem dX3_carry_23 : decode cX3_carry 23 = .ok (.iload_n 2, 1) := by decide +kernel
theorem dX3_carry_24 : decode cX3_carry 24 = .ok (.aload_n 0, 1) := by decide +kernel
theorem dX3_carry_25 : decode cX3_carry 25 = .ok (.iload_n 3, 1) := by decide +kernel
theorem dX3_carry_26 : decode cX3_carry 26 = .ok (.iload_n 3, 1) := by decide +kernel
theorem dX3_carry_27 : decode cX3_carry 27 = .ok (.iconst 1, 1) := by decide +kernel
theorem dX3_carry_28 : decode cX3_carry 28 = .ok (.iadd, 1) := by decide +kernel
theorem dX3_carry_29 : decode cX3_carry 29 = .ok (.aload_n 0, 1) := by decide +kernel
theorem dX3_carry_30 : decode cX3_carry 30 = .ok (.getfield 18, 3) := by decide +kernel
theorem dX3_carry_33 : decode cX3_carry 33 = .ok (.iload_n 3, 1) := by decide +kernel
theorem dX3_carry_34 : decode cX3_carry 34 = .ok (.iaload, 1) := by decide +kernel
theorem dX3_carry_35 : decode cX3_carry 35 = .ok (.invokevirtual 72, 3) := by decide +kernel
theorem dX3_carry_38 : decode cX3_carry 38 = .ok (.ior, 1) := by decide +kernel
theorem dX3_carry_39 : decode cX3_carry 39 = .ok (.istore_n 2, 1) := by decide +kernel
theorem dX3_carry_40 : decode cX3_carry 40 = .ok (.aload_n 1, 1) := by decide +kernel
theorem dX3_carry_41 : decode cX3_carry 41 = .ok (.getfield 75, 3) := by decide +kernel
theorem dX3_carry_44 : decode cX3_carry 44 = .ok (.iload_n 3, 1) := by decide +kernel
theorem dX3_carry_45 : decode cX3_carry 45 = .ok (.invokestatic 36, 3) := by decide +kernel
theorem dX3_carry_48 : decode cX3_carry 48 = .ok (.ifCond .eq 23, 3) := by decide +kernel
theorem dX3_carry_51 : decode cX3_carry 51 = .ok (.iload_n 2, 1) := by decide +kernel
theorem dX3_carry_52 : decode cX3_carry 52 = .ok (.aload_n 0, 1) := by decide +kernel
theorem dX3_carry_53 : decode cX3_carry 53 = .ok (.iload_n 3, 1) := by decide +kernel
theorem dX3_carry_54 : decode cX3_carry 54 = .ok (.iload_n 3, 1) := by decide +kernel
theorem dX3_carry_55 : decode cX3_carry 55 = .ok (.aload_n 1, 1) := by decide +kernel
theorem dX3_carry_56 : decode cX3_carry 56 = .ok (.getfield 78, 3) := by decide +kernel
theorem dX3_carry_59 : decode cX3_carry 59 = .ok (.iadd, 1) := by decide +kernel
theorem dX3_carry_60 : decode cX3_carry 60 = .ok (.aload_n 0, 1) := by decide +kernel
theorem dX3_carry_61 : decode cX3_carry 61 = .ok (.getfield 21, 3) := by decide +kernel
theorem dX3_carry_64 : decode cX3_carry 64 = .ok (.iload_n 3, 1) := by decide +kernel
theorem dX3_carry_65 : decode cX3_carry 65 = .ok (.iaload, 1) := by decide +kernel
theorem dX3_carry_66 : decode cX3_carry 66 = .ok (.invokevirtual 72, 3) := by decide +kernel
theorem dX3_carry_69 : decode cX3_carry 69 = .ok (.ior, 1) := by decide +kernel
theorem dX3_carry_70 : decode cX3_carry 70 = .ok (.istore_n 2, 1) := by decide +kernel
theorem dX3_carry_71 : decode cX3_carry 71 = .ok (.iinc 3 1, 3) := by decide +kernel
theorem dX3_carry_74 : decode cX3_carry 74 = .ok (.goto (-70), 3) := by decide +kernel
theorem dX3_carry_77 : decode cX3_carry 77 = .ok (.iload_n 2, 1) := by decide +kernel
theorem dX3_carry_78 : decode cX3_carry 78 = .ok (.ireturn, 1) := by decide +kernel
theorem dX3_pass_0 : decode cX3_pass 0 = .ok (.aload_n 0, 1) := by decide +kernel
theorem dX3_pass_1 : decode cX3_pass 1 = .ok (.getfield 9, 3) := by decide +kernel
theorem dX3_pass_4 : decode cX3_pass 4 = .ok (.iload_n 1, 1) := by decide +kernel
theorem dX3_pass_5 : decode cX3_pass 5 = .ok (.iaload, 1) := by decide +kernel
theorem dX3_pass_6 : decode cX3_pass 6 = .ok (.iload_n 3, 1) := by decide +kernel
theorem dX3_pass_7 : decode cX3_pass 7 = .ok (.isub, 1) := by decide +kernel
theorem dX3_pass_8 : decode cX3_pass 8 = .ok (.aload_n 0, 1) := by decide +kernel
theorem dX3_pass_9 : decode cX3_pass 9 = .ok (.getfield 9, 3) := by decide +kernel
theorem dX3_pass_12 : decode cX3_pass 12 = .ok (.iload_n 2, 1) := by decide +kernel
theorem dX3_pass_13 : decode cX3_pass 13 = .ok (.iaload, 1) := by decide +kernel
theorem dX3_pass_14 : decode cX3_pass 14 = .ok (.if_icmp .le 19, 3) := by decide +kernel
theorem dX3_pass_17 : decode cX3_pass 17 = .ok (.aload_n 0, 1) := by decide +kernel
theorem dX3_pass_18 : decode cX3_pass 18 = .ok (.getfield 9, 3) := by decide +kernel
theorem dX3_pass_21 : decode cX3_pass 21 = .ok (.iload_n 2, 1) := by decide +kernel
theorem dX3_pass_22 : decode cX3_pass 22 = .ok (.aload_n 0, 1) := by decide +kernel
theorem dX3_pass_23 : decode cX3_pass 23 = .ok (.getfield 9, 3) := by decide +kernel
theorem dX3_pass_26 : decode cX3_pass 26 = .ok (.iload_n 1, 1) := by decide +kernel
theorem dX3_pass_27 : decode cX3_pass 27 = .ok (.iaload, 1) := by decide +kernel
theorem dX3_pass_28 : decode cX3_pass 28 = .ok (.iload_n 3, 1) := by decide +kernel
theorem dX3_pass_29 : decode cX3_pass 29 = .ok (.isub, 1) := by decide +kernel
theorem dX3_pass_30 : decode cX3_pass 30 = .ok (.iastore, 1) := by decide +kernel
theorem dX3_pass_31 : decode cX3_pass 31 = .ok (.iconst 1, 1) := by decide +kernel
theorem dX3_pass_32 : decode cX3_pass 32 = .ok (.ireturn, 1) := by decide +kernel
theorem dX3_pass_33 : decode cX3_pass 33 = .ok (.aload_n 0, 1) := by decide +kernel
theorem dX3_pass_34 : decode cX3_pass 34 = .ok (.getfield 9, 3) := by decide +kernel
theorem dX3_pass_37 : decode cX3_pass 37 = .ok (.iload_n 2, 1) := by decide +kernel
theorem dX3_pass_38 : decode cX3_pass 38 = .ok (.iaload, 1) := by decide +kernel
theorem dX3_pass_39 : decode cX3_pass 39 = .ok (.iload_n 3, 1) := by decide +kernel
theorem dX3_pass_40 : decode cX3_pass 40 = .ok (.isub, 1) := by decide +kernel
theorem dX3_pass_41 : decode cX3_pass 41 = .ok (.aload_n 0, 1) := by decide +kernel
theorem dX3_pass_42 : decode cX3_pass 42 = .ok (.getfield 9, 3) := by decide +kernel
theorem dX3_pass_45 : decode cX3_pass 45 = .ok (.iload_n 1, 1) := by decide +kernel
theorem dX3_pass_46 : decode cX3_pass 46 = .ok (.iaload, 1) := by decide +kernel
theorem dX3_pass_47 : decode cX3_pass 47 = .ok (.if_icmp .le 19, 3) := by decide +kernel
theorem dX3_pass_50 : decode cX3_pass 50 = .ok (.aload_n 0, 1) := by decide +kernel
theorem dX3_pass_51 : decode cX3_pass 51 = .ok (.getfield 9, 3) := by decide +kernel
theorem dX3_pass_54 : decode cX3_pass 54 = .ok (.iload_n 1, 1) := by decide +kernel
theorem dX3_pass_55 : decode cX3_pass 55 = .ok (.aload_n 0, 1) := by decide +kernel
theorem dX3_pass_56 : decode cX3_pass 56 = .ok (.getfield 9, 3) := by decide +kernel
theorem dX3_pass_59 : decode cX3_pass 59 = .ok (.iload_n 2, 1) := by decide +kernel
theorem dX3_pass_60 : decode cX3_pass 60 = .ok (.iaload, 1) := by decide +kernel
theorem dX3_pass_61 : decode cX3_pass 61 = .ok (.iload_n 3, 1) := by decide +kernel
theorem dX3_pass_62 : decode cX3_pass 62 = .ok (.isub, 1) := by decide +kernel
theorem dX3_pass_63 : decode cX3_pass 63 = .ok (.iastore, 1) := by decide +kernel
theorem dX3_pass_64 : decode cX3_pass 64 = .ok (.iconst 1, 1) := by decide +kernel
theorem dX3_pass_65 : decode cX3_pass 65 = .ok (.ireturn, 1) := by decide +kernel
theorem dX3_pass_66 : decode cX3_pass 66 = .ok (.iconst 0, 1) := by decide +kernel
theorem dX3_pass_67 : decode cX3_pass 67 = .ok (.ireturn, 1) := by decide +kernel
theorem dX3_sum_0 : decode cX3_sum 0 = .ok (.iconst 0, 1) := by decide +kernel
theorem dX3_sum_1 : decode cX3_sum 1 = .ok (.istore_n 2, 1) := by decide +kernel
theorem dX3_sum_2 : decode cX3_sum 2 = .ok (.iconst 0, 1) := by decide +kernel
theorem dX3_sum_3 : decode cX3_sum 3 = .ok (.istore_n 3, 1) := by decide +kernel
theorem dX3_sum_4 : decode cX3_sum 4 = .ok (.iload_n 3, 1) := by decide +kernel
theorem dX3_sum_5 : decode cX3_sum 5 = .ok (.iload_n 1, 1) := by decide +kernel
theorem dX3_sum_6 : decode cX3_sum 6 = .ok (.if_icmp .ge 18, 3) := by decide +kernel
theorem dX3_sum_9 : decode cX3_sum 9 = .ok (.iload_n 2, 1) := by decide +kernel
theorem dX3_sum_10 : decode cX3_sum 10 = .ok (.aload_n 0, 1) := by decide +kernel
theorem dX3_sum_11 : decode cX3_sum 11 = .ok (.getfield 9, 3) := by decide +kernel
theorem dX3_sum_14 : decode cX3_sum 14 = .ok (.iload_n 3, 1) := by decide +kernel
theorem dX3_sum_15 : decode cX3_sum 15 = .ok (.iaload, 1) := by decide +kernel
theorem dX3_sum_16 : decode cX3_sum 16 = .ok (.iadd, 1) := by decide +kernel
theorem dX3_sum_17 : decode cX3_sum 17 = .ok (.istore_n 2, 1) := by decide +kernel
theorem dX3_sum_18 : decode cX3_sum 18 = .ok (.iinc 3 1, 3) := by decide +kernel
theorem dX3_sum_21 : decode cX3_sum 21 = .ok (.goto (-17), 3) := by decide +kernel
theorem dX3_sum_24 : decode cX3_sum 24 = .ok (.iload_n 2, 1) := by decide +kernel
theorem dX3_sum_25 : decode cX3_sum 25 = .ok (.ireturn, 1) := by decide +kernel
theorem dX3_darkness_0 : decode cX3_darkness 0 = .ok (.iconst 0, 1) := by decide +kernel
theorem dX3_darkness_1 : decode cX3_darkness 1 = .ok (.istore_n 2, 1) := by decide +kernel
theorem dX3_darkness_2 : decode cX3_darkness 2 = .ok (.iconst 0, 1) := by decide +kernel
theorem dX3_darkness_3 : decode cX3_darkness 3 = .ok (.istore_n 3, 1) := by decide +kernel
theorem dX3_darkness_4 : decode cX3_darkness 4 = .ok (.iload_n 3, 1) := by decide +kernel
theorem dX3_darkness_5 : decode cX3_darkness 5 = .ok (.iload_n 1, 1) := by decide +kernel
theorem dX3_darkness_6 : decode cX3_darkness 6 = .ok (.if_icmp .ge 24, 3) := by decide +kernel
theorem dX3_darkness_9 : decode cX3_darkness 9 = .ok (.aload_n 0, 1) := by decide +kernel
theorem dX3_darkness_10 : decode cX3_darkness 10 = .ok (.getfield 9, 3) := by decide +kernel
theorem dX3_darkness_13 : decode cX3_darkness 13 = .ok (.iload_n 3, 1) := by decide +kernel
theorem dX3_darkness_14 : decode cX3_darkness 14 = .ok (.iaload, 1) := by decide +kernel
theorem dX3_darkness_15 : decode cX3_darkness 15 = .ok (.ifCond .ne 9, 3) := by decide +kernel
theorem dX3_darkness_18 : decode cX3_darkness 18 = .ok (.iload_n 2, 1) := by decide +kernel
theorem dX3_darkness_19 : decode cX3_darkness 19 = .ok (.iconst 1, 1) := by decide +kernel
theorem dX3_darkness_20 : decode cX3_darkness 20 = .ok (.iload_n 3, 1) := by decide +kernel
theorem dX3_darkness_21 : decode cX3_darkness 21 = .ok (.ishl, 1) := by decide +kernel
theorem dX3_darkness_22 : decode cX3_darkness 22 = .ok (.ior, 1) := by decide +kernel
theorem dX3_darkness_23 : decode cX3_darkness 23 = .ok (.istore_n 2, 1) := by decide +kernel
theorem dX3_darkness_24 : decode cX3_darkness 24 = .ok (.iinc 3 1, 3) := by decide +kernel
theorem dX3_darkness_27 : decode cX3_darkness 27 = .ok (.goto (-23), 3) := by decide +kernel
theorem dX3_darkness_30 : decode cX3_darkness 30 = .ok (.iload_n 2, 1) := by decide +kernel
theorem dX3_darkness_31 : decode cX3_darkness 31 = .ok (.ireturn, 1) := by decide +kernel
theorem dX4_init_0 : decode cX4_init 0 = .ok (.aload_n 0, 1) := by decide +kernel
theorem dX4_init_1 : decode cX4_init 1 = .ok (.invokespecial 3, 3) := by decide +kernel
theorem dX4_init_4 : decode cX4_init 4 = .ok (.aload_n 0, 1) := by decide +kernel
theorem dX4_init_5 : decode cX4_init 5 = .ok (.iconst 0, 1) := by decide +kernel
theorem dX4_init_6 : decode cX4_init 6 = .ok (.putfield 9, 3) := by decide +kernel
theorem dX4_init_9 : decode cX4_init 9 = .ok (.aload_n 0, 1) := by decide +kernel
theorem dX4_init_10 : decode cX4_init 10 = .ok (.iconst 0, 1) := by decide +kernel
theorem dX4_init_11 : decode cX4_init 11 = .ok (.putfield 15, 3) := by decide +kernel
theorem dX4_init_14 : decode cX4_init 14 = .ok (.aload_n 0, 1) := by decide +kernel
theorem dX4_init_15 : decode cX4_init 15 = .ok (.sipush 720, 3) := by decide +kernel
theorem dX4_init_18 : decode cX4_init 18 = .ok (.newarray .int, 2) := by decide +kernel
theorem dX4_init_20 : decode cX4_init 20 = .ok (.putfield 18, 3) := by decide +kernel
theorem dX4_init_23 : decode cX4_init 23 = .ok (.aload_n 0, 1) := by decide +kernel
theorem dX4_init_24 : decode cX4_init 24 = .ok (.sipush 300, 3) := by decide +kernel
theorem dX4_init_27 : decode cX4_init 27 = .ok (.newarray .int, 2) := by decide +kernel
theorem dX4_init_29 : decode cX4_init 29 = .ok (.putfield 22, 3) := by decide +kernel
theorem dX4_init_32 : decode cX4_init 32 = .ok (.aload_n 0, 1) := by decide +kernel
theorem dX4_init_33 : decode cX4_init 33 = .ok (.iconst 0, 1) := by decide +kernel
theorem dX4_init_34 : decode cX4_init 34 = .ok (.putfield 25, 3) := by decide +kernel
theorem dX4_init_37 : decode cX4_init 37 = .ok (.aload_n 0, 1) := by decide +kernel
theorem dX4_init_38 : decode cX4_init 38 = .ok (.bipush 18, 2) := by decide +kernel
theorem dX4_init_40 : decode cX4_init 40 = .ok (.newarray .int, 2) := by decide +kernel
theorem dX4_init_42 : decode cX4_init 42 = .ok (.putfield 29, 3) := by decide +kernel
theorem dX4_init_45 : decode cX4_init 45 = .ok (.aload_n 0, 1) := by decide +kernel
theorem dX4_init_46 : decode cX4_init 46 = .ok (.sipush 300, 3) := by decide +kernel
theorem dX4_init_49 : decode cX4_init 49 = .ok (.newarray .int, 2) := by decide +kernel
theorem dX4_init_51 : decode cX4_init 51 = .ok (.putfield 32, 3) := by decide +kernel
theorem dX4_init_54 : decode cX4_init 54 = .ok (.return_, 1) := by decide +kernel
theorem dX4_forget_0 : decode cX4_forget 0 = .ok (.aload_n 0, 1) := by decide +kernel
theorem dX4_forget_1 : decode cX4_forget 1 = .ok (.iconst 0, 1) := by decide +kernel
theorem dX4_forget_2 : decode cX4_forget 2 = .ok (.putfield 9, 3) := by decide +kernel
theorem dX4_forget_5 : decode cX4_forget 5 = .ok (.aload_n 0, 1) := by decide +kernel
theorem dX4_forget_6 : decode cX4_forget 6 = .ok (.iconst 0, 1) := by decide +kernel
theorem dX4_forget_7 : decode cX4_forget 7 = .ok (.putfield 25, 3) := by decide +kernel
theorem dX4_forget_10 : decode cX4_forget 10 = .ok (.return_, 1) := by decide +kernel
theorem dX4_remember_0 : decode cX4_remember 0 = .ok (.aload_n 1, 1) := by decide +kernel
theorem dX4_remember_1 : decode cX4_remember 1 = .ok (.aload_n 0, 1) := by decide +kernel
theorem dX4_remember_2 : decode cX4_remember 2 = .ok (.getfield 18, 3) := by decide +kernel
theorem dX4_remember_5 : decode cX4_remember 5 = .ok (.aload_n 0, 1) := by decide +kernel
theorem dX4_remember_6 : decode cX4_remember 6 = .ok (.getfield 15, 3) := by decide +kernel
theorem dX4_remember_9 : decode cX4_remember 9 = .ok (.bipush 18, 2) := by decide +kernel
theorem dX4_remember_11 : decode cX4_remember 11 = .ok (.imul, 1) := by decide +kernel
theorem dX4_remember_12 : decode cX4_remember 12 = .ok (.invokevirtual 35, 3) := by decide +kernel
theorem dX4_remember_15 : decode cX4_remember 15 = .ok (.aload_n 0, 1) := by decide +kernel
theorem dX4_remember_16 : decode cX4_remember 16 = .ok (.aload_n 0, 1) := by decide +kernel
theorem dX4_remember_17 : decode cX4_remember 17 = .ok (.getfield 15, 3) := by decide +kernel
theorem dX4_remember_20 : decode cX4_remember 20 = .ok (.iconst 1, 1) := by decide +kernel
theorem dX4_remember_21 : decode cX4_remember 21 = .ok (.iadd, 1) := by decide +kernel
theorem dX4_remember_22 : decode cX4_remember 22 = .ok (.bipush 40, 2) := by decide +kernel
theorem dX4_remember_24 : decode cX4_remember 24 = .ok (.if_icmp .ge 12, 3) := by decide +kernel
theorem dX4_remember_27 : decode cX4_remember 27 = .ok (.aload_n 0, 1) := by decide +kernel
theorem dX4_remember_28 : decode cX4_remember 28 = .ok (.getfield 15, 3) := by decide +kernel
theorem dX4_remember_31 : decode cX4_remember 31 = .ok (.iconst 1, 1) := by decide +kernel
theorem dX4_remember_32 : decode cX4_remember 32 = .ok (.iadd, 1) := by decide +kernel
theorem dX4_remember_33 : decode cX4_remember 33 = .ok (.goto 4, 3) := by decide +kernel
theorem dX4_remember_36 : decode cX4_remember 36 = .ok (.iconst 0, 1) := by decide +kernel
theorem dX4_remember_37 : decode cX4_remember 37 = .ok (.putfield 15, 3) := by decide +kernel
theorem dX4_remember_40 : decode cX4_remember 40 = .ok (.aload_n 0, 1) := by decide +kernel
theorem dX4_remember_41 : decode cX4_remember 41 = .ok (.bipush 40, 2) := by decide +kernel
theorem dX4_remember_43 : decode cX4_remember 43 = .ok (.aload_n 0, 1) := by decide +kernel
theorem dX4_remember_44 : decode cX4_remember 44 = .ok (.getfield 9, 3) := by decide +kernel
theorem dX4_remember_47 : decode cX4_remember 47 = .ok (.iconst 1, 1) := by decide +kernel
theorem dX4_remember_48 : decode cX4_remember 48 = .ok (.iadd, 1) := by decide +kernel
theorem dX4_remember_49 : decode cX4_remember 49 = .ok (.invokestatic 41, 3) := by decide +kernel
theorem dX4_remember_52 : decode cX4_remember 52 = .ok (.putfield 9, 3) := by decide +kernel
theorem dX4_remember_55 : decode cX4_remember 55 = .ok (.return_, 1) := by decide +kernel
theorem dX4_recall_0 : decode cX4_recall 0 = .ok (.aload_n 0, 1) := by decide +kernel
theorem dX4_recall_1 : decode cX4_recall 1 = .ok (.getfield 9, 3) := by decide +kernel
theorem dX4_recall_4 : decode cX4_recall 4 = .ok (.ifCond .ne 4, 3) := by decide +kernel
theorem dX4_recall_7 : decode cX4_recall 7 = .ok (.return_, 1) := by decide +kernel
theorem dX4_recall_8 : decode cX4_recall 8 = .ok (.aload_n 0, 1) := by decide +kernel
theorem dX4_recall_9 : decode cX4_recall 9 = .ok (.dup, 1) := by decide +kernel
theorem dX4_recall_10 : decode cX4_recall 10 = .ok (.getfield 9, 3) := by decide +kernel
theorem dX4_recall_13 : decode cX4_recall 13 = .ok (.iconst 1, 1) := by decide +kernel
theorem dX4_recall_14 : decode cX4_recall 14 = .ok (.isub, 1) := by decide +kernel
theorem dX4_recall_15 : decode cX4_recall 15 = .ok (.putfield 9, 3) := by decide +kernel
theorem dX4_recall_18 : decode cX4_recall 18 = .ok (.aload_n 0, 1) := by decide +kernel
theorem dX4_recall_19 : decode cX4_recall 19 = .ok (.aload_n 0, 1) := by decide +kernel
theorem dX4_recall_20 : decode cX4_recall 20 = .ok (.getfield 15, 3) := by decide +kernel
theorem dX4_recall_23 : decode cX4_recall 23 = .ok (.ifCond .le 12, 3) := by decide +kernel
theorem dX4_recall_26 : decode cX4_recall 26 = .ok (.aload_n 0, 1) := by decide +kernel
theorem dX4_recall_27 : decode cX4_recall 27 = .ok (.getfield 15, 3) := by decide +kernel
theorem dX4_recall_30 : decode cX4_recall 30 = .ok (.iconst 1, 1) := by decide +kernel
theorem dX4_recall_31 : decode cX4_recall 31 = .ok (.isub, 1) := by decide +kernel
theorem dX4_recall_32 : decode cX4_recall 32 = .ok (.goto 5, 3) := by decide +kernel
theorem dX4_recall_35 : decode cX4_recall 35 = .ok (.bipush 39, 2) := by decide +kernel
theorem dX4_recall_37 : decode cX4_recall 37 = .ok (.putfield 15, 3) := by decide +kernel
theorem dX4_recall_40 : decode cX4_recall 40 = .ok (.aload_n 1, 1) := by decide +kernel
theorem dX4_recall_41 : decode cX4_recall 41 = .ok (.aload_n 0, 1) := by decide +kernel
theorem dX4_recall_42 : decode cX4_recall 42 = .ok (.getfield 18, 3) := by decide +kernel
theorem dX4_recall_45 : decode cX4_recall 45 = .ok (.aload_n 0, 1) := by decide +kernel
theorem dX4_recall_46 : decode cX4_recall 46 = .ok (.getfield 15, 3) := by decide +kernel
theorem dX4_recall_49 : decode cX4_recall 49 = .ok (.bipush 18, 2) := by decide +kernel
theorem dX4_recall_51 : decode cX4_recall 51 = .ok (.imul, 1) := by decide +kernel
theorem dX4_recall_52 : decode cX4_recall 52 = .ok (.invokevirtual 47, 3) := by decide +kernel
theorem dX4_recall_55 : decode cX4_recall 55 = .ok (.return_, 1) := by decide +kernel
theorem dX4_note_0 : decode cX4_note 0 = .ok (.iload_n 1, 1) := by decide +kernel
theorem dX4_note_1 : decode cX4_note 1 = .ok (.invokestatic 50, 3) := by decide +kernel
theorem dX4_note_4 : decode cX4_note 4 = .ok (.istore 5, 2) := by decide +kernel
theorem dX4_note_6 : decode cX4_note 6 = .ok (.aload_n 0, 1) := by decide +kernel
theorem dX4_note_7 : decode cX4_note 7 = .ok (.getfield 22, 3) := by decide +kernel
theorem dX4_note_10 : decode cX4_note 10 = .ok (.iload 5, 2) := by decide +kernel
theorem dX4_note_12 : decode cX4_note 12 = .ok (.iload_n 2, 1) := by decide +kernel
theorem dX4_note_13 : decode cX4_note 13 = .ok (.iastore, 1) := by decide +kernel
theorem dX4_note_14 : decode cX4_note 14 = .ok (.aload_n 0, 1) := by decide +kernel
theorem dX4_note_15 : decode cX4_note 15 = .ok (.getfield 22, 3) := by decide +kernel
theorem dX4_note_18 : decode cX4_note 18 = .ok (.iload 5, 2) := by decide +kernel
theorem dX4_note_20 : decode cX4_note 20 = .ok (.iconst 1, 1) := by decide +kernel
theorem dX4_note_21 : decode cX4_note 21 = .ok (.iadd, 1) := by decide +kernel
theorem dX4_note_22 : decode cX4_note 22 = .ok (.iload_n 3, 1) := by decide +kernel
theorem dX4_note_23 : decode cX4_note 23 = .ok (.iastore, 1) := by decide +kernel
theorem dX4_note_24 : decode cX4_note 24 = .ok (.aload_n 0, 1) := by decide +kernel
theorem dX4_note_25 : decode cX4_note 25 = .ok (.getfield 22, 3) := by decide +kernel
theorem dX4_note_28 : decode cX4_note 28 = .ok (.iload 5, 2) := by decide +kernel
theorem dX4_note_30 : decode cX4_note 30 = .ok (.iconst 2, 1) := by decide +kernel
theorem dX4_note_31 : decode cX4_note 31 = .ok (.iadd, 1) := by decide +kernel
theorem dX4_note_32 : decode cX4_note 32 = .ok (.iload 4, 2) := by decide +kernel
theorem dX4_note_34 : decode cX4_note 34 = .ok (.iastore, 1) := by decide +kernel
theorem dX4_note_35 : decode cX4_note 35 = .ok (.return_, 1) := by decide +kernel
theorem dX4_noted_0 : decode cX4_noted 0 = .ok (.iload_n 2, 1) := by decide +kernel
theorem dX4_noted_1 : decode cX4_noted 1 = .ok (.iconst 0, 1) := by decide +kernel
theorem dX4_noted_2 : decode cX4_noted 2 = .ok (.iconst 2, 1) := by decide +kernel
theorem dX4_noted_3 : decode cX4_noted 3 = .ok (.invokestatic 54, 3) := by decide +kernel
theorem dX4_noted_6 : decode cX4_noted 6 = .ok (.ifCond .eq 17, 3) := by decide +kernel
theorem dX4_noted_9 : decode cX4_noted 9 = .ok (.aload_n 0, 1) := by decide +kernel
theorem dX4_noted_10 : decode cX4_noted 10 = .ok (.getfield 22, 3) := by decide +kernel
theorem dX4_noted_13 : decode cX4_noted 13 = .ok (.iload_n 1, 1) := by decide +kernel
theorem dX4_noted_14 : decode cX4_noted 14 = .ok (.invokestatic 50, 3) := by decide +kernel
theorem dX4_noted_17 : decode cX4_noted 17 = .ok (.iload_n 2, 1) := by decide +kernel
theorem dX4_noted_18 : decode cX4_noted 18 = .ok (.iadd, 1) := by decide +kernel
theorem dX4_noted_19 : decode cX4_noted 19 = .ok (.iaload, 1) := by decide +kernel
theorem dX4_noted_20 : decode cX4_noted 20 = .ok (.goto 4, 3) := by decide +kernel
theorem dX4_noted_23 : decode cX4_noted 23 = .ok (.iconst (-1), 1) := by decide +kernel
theorem dX4_noted_24 : decode cX4_noted 24 = .ok (.ireturn, 1) := by decide +kernel
theorem dX4_rowOf_0 : decode cX4_rowOf 0 = .ok (.iload_n 0, 1) := by decide +kernel
theorem dX4_rowOf_1 : decode cX4_rowOf 1 = .ok (.bipush 100, 2) := by decide +kernel
theorem dX4_rowOf_3 : decode cX4_rowOf 3 = .ok (.invokestatic 58, 3) := by decide +kernel
theorem dX4_rowOf_6 : decode cX4_rowOf 6 = .ok (.iconst 3, 1) := by decide +kernel
theorem dX4_rowOf_7 : decode cX4_rowOf 7 = .ok (.imul, 1) := by decide +kernel
theorem dX4_rowOf_8 : decode cX4_rowOf 8 = .ok (.ireturn, 1) := by decide +kernel
theorem dX4_keepImage_0 : decode cX4_keepImage 0 = .ok (.aload_n 1, 1) := by decide +kernel
theorem dX4_keepImage_1 : decode cX4_keepImage 1 = .ok (.aload_n 0, 1) := by decide +kernel
theorem dX4_keepImage_2 : decode cX4_keepImage 2 = .ok (.getfield 29, 3) := by decide +kernel
theorem dX4_keepImage_5 : decode cX4_keepImage 5 = .ok (.iconst 0, 1) := by decide +kernel
theorem dX4_keepImage_6 : decode cX4_keepImage 6 = .ok (.invokevirtual 35, 3) := by decide +kernel
theorem dX4_keepImage_9 : decode cX4_keepImage 9 = .ok (.aload_n 0, 1) := by decide +kernel
theorem dX4_keepImage_10 : decode cX4_keepImage 10 = .ok (.getfield 22, 3) := by decide +kernel
theorem dX4_keepImage_13 : decode cX4_keepImage 13 = .ok (.iconst 0, 1) := by decide +kernel
theorem dX4_keepImage_14 : decode cX4_keepImage 14 = .ok (.aload_n 0, 1) := by decide +kernel
theorem dX4_keepImage_15 : decode cX4_keepImage 15 = .ok (.getfield 32, 3) := by decide +kernel
theorem dX4_keepImage_18 : decode cX4_keepImage 18 = .ok (.iconst 0, 1) := by decide +kernel
theorem dX4_keepImage_19 : decode cX4_keepImage 19 = .ok (.aload_n 0, 1) := by decide +kernel
theorem dX4_keepImage_20 : decode cX4_keepImage 20 = .ok (.getfield 22, 3) := by decide +kernel
theorem dX4_keepImage_23 : decode cX4_keepImage 23 = .ok (.arraylength, 1) := by decide +kernel
theorem dX4_keepImage_24 : decode cX4_keepImage 24 = .ok (.invokestatic 61, 3) := by decide +kernel
theorem dX4_keepImage_27 : decode cX4_keepImage 27 = .ok (.aload_n 0, 1) := by decide +kernel
theorem dX4_keepImage_28 : decode cX4_keepImage 28 = .ok (.iconst 1, 1) := by decide +kernel
theorem dX4_keepImage_29 : decode cX4_keepImage 29 = .ok (.putfield 25, 3) := by decide +kernel
theorem dX4_keepImage_32 : decode cX4_keepImage 32 = .ok (.return_, 1) := by decide +kernel
theorem dX4_returnTo_0 : decode cX4_returnTo 0 = .ok (.aload_n 1, 1) := by decide +kernel
theorem dX4_returnTo_1 : decode cX4_returnTo 1 = .ok (.aload_n 0, 1) := by decide +kernel
theorem dX4_returnTo_2 : decode cX4_returnTo 2 = .ok (.getfield 29, 3) := by decide +kernel
theorem dX4_returnTo_5 : decode cX4_returnTo 5 = .ok (.iconst 0, 1) := by decide +kernel
theorem dX4_returnTo_6 : decode cX4_returnTo 6 = .ok (.invokevirtual 47, 3) := by decide +kernel
theorem dX4_returnTo_9 : decode cX4_returnTo 9 = .ok (.aload_n 0, 1) := by decide +kernel
theorem dX4_returnTo_10 : decode cX4_returnTo 10 = .ok (.getfield 32, 3) := by decide +kernel
theorem dX4_returnTo_13 : decode cX4_returnTo 13 = .ok (.iconst 0, 1) := by decide +kernel
theorem dX4_returnTo_14 : decode cX4_returnTo 14 = .ok (.aload_n 0, 1) := by decide +kernel
theorem dX4_returnTo_15 : decode cX4_returnTo 15 = .ok (.getfield 22, 3) := by decide +kernel
theorem dX4_returnTo_18 : decode cX4_returnTo 18 = .ok (.iconst 0, 1) := by decide +kernel
theorem dX4_returnTo_19 : decode cX4_returnTo 19 = .ok (.aload_n 0, 1) := by decide +kernel
theorem dX4_returnTo_20 : decode cX4_returnTo 20 = .ok (.getfield 22, 3) := by decide +kernel
theorem dX4_returnTo_23 : decode cX4_returnTo 23 = .ok (.arraylength, 1) := by decide +kernel
theorem dX4_returnTo_24 : decode cX4_returnTo 24 = .ok (.invokestatic 61, 3) := by decide +kernel
theorem dX4_returnTo_27 : decode cX4_returnTo 27 = .ok (.aload_n 0, 1) := by decide +kernel
theorem dX4_returnTo_28 : decode cX4_returnTo 28 = .ok (.iconst 0, 1) := by decide +kernel
theorem dX4_returnTo_29 : decode cX4_returnTo 29 = .ok (.putfield 9, 3) := by decide +kernel
theorem dX4_returnTo_32 : decode cX4_returnTo 32 = .ok (.return_, 1) := by decide +kernel
theorem dX5_init_0 : decode cX5_init 0 = .ok (.aload_n 0, 1) := by decide +kernel
theorem dX5_init_1 : decode cX5_init 1 = .ok (.invokespecial 3, 3) := by decide +kernel
theorem dX5_init_4 : decode cX5_init 4 = .ok (.aload_n 0, 1) := by decide +kernel
theorem dX5_init_5 : decode cX5_init 5 = .ok (.iconst 0, 1) := by decide +kernel
theorem dX5_init_6 : decode cX5_init 6 = .ok (.newarray .int, 2) := by decide +kernel
theorem dX5_init_8 : decode cX5_init 8 = .ok (.putfield 9, 3) := by decide +kernel
theorem dX5_init_11 : decode cX5_init 11 = .ok (.aload_n 0, 1) := by decide +kernel
theorem dX5_init_12 : decode cX5_init 12 = .ok (.iconst 0, 1) := by decide +kernel
theorem dX5_init_13 : decode cX5_init 13 = .ok (.putfield 15, 3) := by decide +kernel
theorem dX5_init_16 : decode cX5_init 16 = .ok (.aload_n 0, 1) := by decide +kernel
theorem dX5_init_17 : decode cX5_init 17 = .ok (.iconst 0, 1) := by decide +kernel
theorem dX5_init_18 : decode cX5_init 18 = .ok (.putfield 19, 3) := by decide +kernel
theorem dX5_init_21 : decode cX5_init 21 = .ok (.return_, 1) := by decide +kernel
theorem dX5_begin_0 : decode cX5_begin 0 = .ok (.aload_n 0, 1) := by decide +kernel
theorem dX5_begin_1 : decode cX5_begin 1 = .ok (.aload_n 1, 1) := by decide +kernel
theorem dX5_begin_2 : decode cX5_begin 2 = .ok (.putfield 9, 3) := by decide +kernel
theorem dX5_begin_5 : decode cX5_begin 5 = .ok (.aload_n 0, 1) := by decide +kernel
theorem dX5_begin_6 : decode cX5_begin 6 = .ok (.iload_n 2, 1) := by decide +kernel
theorem dX5_begin_7 : decode cX5_begin 7 = .ok (.aload_n 1, 1) := by decide +kernel
theorem dX5_begin_8 : decode cX5_begin 8 = .ok (.arraylength, 1) := by decide +kernel
theorem dX5_begin_9 : decode cX5_begin 9 = .ok (.invokestatic 22, 3) := by decide +kernel
theorem dX5_begin_12 : decode cX5_begin 12 = .ok (.putfield 15, 3) := by decide +kernel
theorem dX5_begin_15 : decode cX5_begin 15 = .ok (.aload_n 0, 1) := by decide +kernel
theorem dX5_begin_16 : decode cX5_begin 16 = .ok (.iconst 0, 1) := by decide +kernel
theorem dX5_begin_17 : decode cX5_begin 17 = .ok (.putfield 19, 3) := by decide +kernel
theorem dX5_begin_20 : decode cX5_begin 20 = .ok (.return_, 1) := by decide +kernel
theorem dX5_peek_0 : decode cX5_peek 0 = .ok (.aload_n 0, 1) := by decide +kernel
theorem dX5_peek_1 : decode cX5_peek 1 = .ok (.getfield 19, 3) := by decide +kernel
theorem dX5_peek_4 : decode cX5_peek 4 = .ok (.aload_n 0, 1) := by decide +kernel
theorem dX5_peek_5 : decode cX5_peek 5 = .ok (.getfield 15, 3) := by decide +kernel
theorem dX5_peek_8 : decode cX5_peek 8 = .ok (.if_icmp .ge 30, 3) := by decide +kernel
theorem dX5_peek_11 : decode cX5_peek 11 = .ok (.aload_n 0, 1) := by decide +kernel
theorem dX5_peek_12 : decode cX5_peek 12 = .ok (.getfield 9, 3) := by decide +kernel
theorem dX5_peek_15 : decode cX5_peek 15 = .ok (.aload_n 0, 1) := by decide +kernel
theorem dX5_peek_16 : decode cX5_peek 16 = .ok (.getfield 19, 3) := by decide +kernel
theorem dX5_peek_19 : decode cX5_peek 19 = .ok (.iaload, 1) := by decide +kernel
theorem dX5_peek_20 : decode cX5_peek 20 = .ok (.bipush 32, 2) := by decide +kernel
theorem dX5_peek_22 : decode cX5_peek 22 = .ok (.if_icmp .ne 16, 3) := by decide +kernel
theorem dX5_peek_25 : decode cX5_peek 25 = .ok (.aload_n 0, 1) := by decide +kernel
theorem dX5_peek_26 : decode cX5_peek 26 = .ok (.dup, 1) := by decide +kernel
theorem dX5_peek_27 : decode cX5_peek 27 = .ok (.getfield 19, 3) := by decide +kernel
theorem dX5_peek_30 : decode cX5_peek 30 = .ok (.iconst 1, 1) := by decide +kernel
theorem dX5_peek_31 : decode cX5_peek 31 = .ok (.iadd, 1) := by decide +kernel
theorem dX5_peek_32 : decode cX5_peek 32 = .ok (.putfield 19, 3) := by decide +kernel
theorem dX5_peek_35 : decode cX5_peek 35 = .ok (.goto (-35), 3) := by decide +kernel
theorem dX5_peek_38 : decode cX5_peek 38 = .ok (.aload_n 0, 1) := by decide +kernel
theorem dX5_peek_39 : decode cX5_peek 39 = .ok (.getfield 19, 3) := by decide +kernel
theorem dX5_peek_42 : decode cX5_peek 42 = .ok (.aload_n 0, 1) := by decide +kernel
theorem dX5_peek_43 : decode cX5_peek 43 = .ok (.getfield 15, 3) := by decide +kernel
theorem dX5_peek_46 : decode cX5_peek 46 = .ok (.if_icmp .ge 15, 3) := by decide +kernel
theorem dX5_peek_49 : decode cX5_peek 49 = .ok (.aload_n 0, 1) := by decide +kernel
theorem dX5_peek_50 : decode cX5_peek 50 = .ok (.getfield 9, 3) := by decide +kernel
theorem dX5_peek_53 : decode cX5_peek 53 = .ok (.aload_n 0, 1) := by decide +kernel
theorem dX5_peek_54 : decode cX5_peek 54 = .ok (.getfield 19, 3) := by decide +kernel
theorem dX5_peek_57 : decode cX5_peek 57 = .ok (.iaload, 1) := by decide +kernel
theorem dX5_peek_58 : decode cX5_peek 58 = .ok (.goto 4, 3) := by decide +kernel
theorem dX5_peek_61 : decode cX5_peek 61 = .ok (.iconst (-1), 1) := by decide +kernel
theorem dX5_peek_62 : decode cX5_peek 62 = .ok (.ireturn, 1) := by decide +kernel
theorem dX5_isDigit_0 : decode cX5_isDigit 0 = .ok (.iload_n 0, 1) := by decide +kernel
theorem dX5_isDigit_1 : decode cX5_isDigit 1 = .ok (.bipush 48, 2) := by decide +kernel
theorem dX5_isDigit_3 : decode cX5_isDigit 3 = .ok (.if_icmp .lt 13, 3) := by decide +kernel
theorem dX5_isDigit_6 : decode cX5_isDigit 6 = .ok (.iload_n 0, 1) := by decide +kernel
theorem dX5_isDigit_7 : decode cX5_isDigit 7 = .ok (.bipush 57, 2) := by decide +kernel
theorem dX5_isDigit_9 : decode cX5_isDigit 9 = .ok (.if_icmp .gt 7, 3) := by decide +kernel
theorem dX5_isDigit_12 : decode cX5_isDigit 12 = .ok (.iconst 1, 1) := by decide +kernel
theorem dX5_isDigit_13 : decode cX5_isDigit 13 = .ok (.goto 4, 3) := by decide +kernel
theorem dX5_isDigit_16 : decode cX5_isDigit 16 = .ok (.iconst 0, 1) := by decide +kernel
theorem dX5_isDigit_17 : decode cX5_isDigit 17 = .ok (.ireturn, 1) := by decide +kernel
theorem dX6_init_0 : decode cX6_init 0 = .ok (.aload_n 0, 1) := by decide +kernel
theorem dX6_init_1 : decode cX6_init 1 = .ok (.invokespecial 3, 3) := by decide +kernel
theorem dX6_init_4 : decode cX6_init 4 = .ok (.aload_n 0, 1) := by decide +kernel
theorem dX6_init_5 : decode cX6_init 5 = .ok (.iconst 0, 1) := by decide +kernel
theorem dX6_init_6 : decode cX6_init 6 = .ok (.putfield 9, 3) := by decide +kernel
theorem dX6_init_9 : decode cX6_init 9 = .ok (.aload_n 0, 1) := by decide +kernel
theorem dX6_init_10 : decode cX6_init 10 = .ok (.iconst 0, 1) := by decide +kernel
theorem dX6_init_11 : decode cX6_init 11 = .ok (.putfield 15, 3) := by decide +kernel
theorem dX6_init_14 : decode cX6_init 14 = .ok (.aload_n 0, 1) := by decide +kernel
theorem dX6_init_15 : decode cX6_init 15 = .ok (.iconst 0, 1) := by decide +kernel
theorem dX6_init_16 : decode cX6_init 16 = .ok (.putfield 18, 3) := by decide +kernel
theorem dX6_init_19 : decode cX6_init 19 = .ok (.aload_n 0, 1) := by decide +kernel
theorem dX6_init_20 : decode cX6_init 20 = .ok (.iconst 0, 1) := by decide +kernel
theorem dX6_init_21 : decode cX6_init 21 = .ok (.putfield 21, 3) := by decide +kernel
theorem dX6_init_24 : decode cX6_init 24 = .ok (.aload_n 0, 1) := by decide +kernel
theorem dX6_init_25 : decode cX6_init 25 = .ok (.iconst 0, 1) := by decide +kernel
theorem dX6_init_26 : decode cX6_init 26 = .ok (.putfield 24, 3) := by decide +kernel
theorem dX6_init_29 : decode cX6_init 29 = .ok (.aload_n 0, 1) := by decide +kernel
theorem dX6_init_30 : decode cX6_init 30 = .ok (.iconst 0, 1) := by decide +kernel
theorem dX6_init_31 : decode cX6_init 31 = .ok (.putfield 27, 3) := by decide +kernel
theorem dX6_init_34 : decode cX6_init 34 = .ok (.aload_n 0, 1) := by decide +kernel
theorem dX6_init_35 : decode cX6_init 35 = .ok (.iconst 0, 1) := by decide +kernel
theorem dX6_init_36 : decode cX6_init 36 = .ok (.putfield 30, 3) := by decide +kernel
theorem dX6_init_39 : decode cX6_init 39 = .ok (.aload_n 0, 1) := by decide +kernel
theorem dX6_init_40 : decode cX6_init 40 = .ok (.iconst 0, 1) := by decide +kernel
theorem dX6_init_41 : decode cX6_init 41 = .ok (.putfield 33, 3) := by decide +kernel
theorem dX6_init_44 : decode cX6_init 44 = .ok (.aload_n 0, 1) := by decide +kernel
theorem dX6_init_45 : decode cX6_init 45 = .ok (.bipush 10, 2) := by decide +kernel
theorem dX6_init_47 : decode cX6_init 47 = .ok (.newarray .int, 2) := by decide +kernel
theorem dX6_init_49 : decode cX6_init 49 = .ok (.putfield 36, 3) := by decide +kernel
theorem dX6_init_52 : decode cX6_init 52 = .ok (.aload_n 0, 1) := by decide +kernel
theorem dX6_init_53 : decode cX6_init 53 = .ok (.bipush 10, 2) := by decide +kernel
theorem dX6_init_55 : decode cX6_init 55 = .ok (.newarray .int, 2) := by decide +kernel
theorem dX6_init_57 : decode cX6_init 57 = .ok (.putfield 40, 3) := by decide +kernel
theorem dX6_init_60 : decode cX6_init 60 = .ok (.aload_n 0, 1) := by decide +kernel
theorem dX6_init_61 : decode cX6_init 61 = .ok (.bipush 10, 2) := by decide +kernel
theorem dX6_init_63 : decode cX6_init 63 = .ok (.newarray .int, 2) := by decide +kernel
theorem dX6_init_65 : decode cX6_init 65 = .ok (.putfield 43, 3) := by decide +kernel
theorem dX6_init_68 : decode cX6_init 68 = .ok (.aload_n 0, 1) := by decide +kernel
theorem dX6_init_69 : decode cX6_init 69 = .ok (.bipush 10, 2) := by decide +kernel
theorem dX6_init_71 : decode cX6_init 71 = .ok (.newarray .int, 2) := by decide +kernel
theorem dX6_init_73 : decode cX6_init 73 = .ok (.putfield 46, 3) := by decide +kernel
theorem dX6_init_76 : decode cX6_init 76 = .ok (.aload_n 0, 1) := by decide +kernel
theorem dX6_init_77 : decode cX6_init 77 = .ok (.bipush 10, 2) := by decide +kernel
theorem dX6_init_79 : decode cX6_init 79 = .ok (.newarray .int, 2) := by decide +kernel
theorem dX6_init_81 : decode cX6_init 81 = .ok (.putfield 49, 3) := by decide +kernel
theorem dX6_init_84 : decode cX6_init 84 = .ok (.aload_n 0, 1) := by decide +kernel
theorem dX6_init_85 : decode cX6_init 85 = .ok (.bipush 10, 2) := by decide +kernel
theorem dX6_init_87 : decode cX6_init 87 = .ok (.newarray .int, 2) := by decide +kernel
theorem dX6_init_89 : decode cX6_init 89 = .ok (.putfield 52, 3) := by decide +kernel
theorem dX6_init_92 : decode cX6_init 92 = .ok (.aload_n 0, 1) := by decide +kernel
theorem dX6_init_93 : decode cX6_init 93 = .ok (.iconst 0, 1) := by decide +kernel
theorem dX6_init_94 : decode cX6_init 94 = .ok (.putfield 55, 3) := by decide +kernel
theorem dX6_init_97 : decode cX6_init 97 = .ok (.aload_n 0, 1) := by decide +kernel
theorem dX6_init_98 : decode cX6_init 98 = .ok (.iconst 0, 1) := by decide +kernel
theorem dX6_init_99 : decode cX6_init 99 = .ok (.putfield 58, 3) := by decide +kernel
theorem dX6_init_102 : decode cX6_init 102 = .ok (.aload_n 0, 1) := by decide +kernel
theorem dX6_init_103 : decode cX6_init 103 = .ok (.bipush 6, 2) := by decide +kernel
theorem dX6_init_105 : decode cX6_init 105 = .ok (.newarray .int, 2) := by decide +kernel
theorem dX6_init_107 : decode cX6_init 107 = .ok (.putfield 61, 3) := by decide +kernel
theorem dX6_init_110 : decode cX6_init 110 = .ok (.aload_n 0, 1) := by decide +kernel
theorem dX6_init_111 : decode cX6_init 111 = .ok (.bipush 6, 2) := by decide +kernel
theorem dX6_init_113 : decode cX6_init 113 = .ok (.newarray .int, 2) := by decide +kernel
theorem dX6_init_115 : decode cX6_init 115 = .ok (.putfield 64, 3) := by decide +kernel
theorem dX6_init_118 : decode cX6_init 118 = .ok (.return_, 1) := by decide +kernel
theorem dX6_allSquares_0 : decode cX6_allSquares 0 = .ok (.iconst 1, 1) := by decide +kernel
theorem dX6_allSquares_1 : decode cX6_allSquares 1 = .ok (.aload_n 0, 1) := by decide +kernel
theorem dX6_allSquares_2 : decode cX6_allSquares 2 = .ok (.getfield 24, 3) := by decide +kernel
theorem dX6_allSquares_5 : decode cX6_allSquares 5 = .ok (.ishl, 1) := by decide +kernel
theorem dX6_allSquares_6 : decode cX6_allSquares 6 = .ok (.iconst 1, 1) := by decide +kernel
theorem dX6_allSquares_7 : decode cX6_allSquares 7 = .ok (.isub, 1) := by decide +kernel
theorem dX6_allSquares_8 : decode cX6_allSquares 8 = .ok (.ireturn, 1) := by decide +kernel
theorem dX6_allCurtains_0 : decode cX6_allCurtains 0 = .ok (.iconst 1, 1) := by decide +kernel
theorem dX6_allCurtains_1 : decode cX6_allCurtains 1 = .ok (.aload_n 0, 1) := by decide +kernel
theorem dX6_allCurtains_2 : decode cX6_allCurtains 2 = .ok (.getfield 33, 3) := by decide +kernel
theorem dX6_allCurtains_5 : decode cX6_allCurtains 5 = .ok (.ishl, 1) := by decide +kernel
theorem dX6_allCurtains_6 : decode cX6_allCurtains 6 = .ok (.iconst 1, 1) := by decide +kernel
theorem dX6_allCurtains_7 : decode cX6_allCurtains 7 = .ok (.isub, 1) := by decide +kernel
theorem dX6_allCurtains_8 : decode cX6_allCurtains 8 = .ok (.ireturn, 1) := by decide +kernel
theorem dX6_allPersons_0 : decode cX6_allPersons 0 = .ok (.iconst 1, 1) := by decide +kernel
theorem dX6_allPersons_1 : decode cX6_allPersons 1 = .ok (.aload_n 0, 1) := by decide +kernel
theorem dX6_allPersons_2 : decode cX6_allPersons 2 = .ok (.getfield 58, 3) := by decide +kernel
theorem dX6_allPersons_5 : decode cX6_allPersons 5 = .ok (.ishl, 1) := by decide +kernel
theorem dX6_allPersons_6 : decode cX6_allPersons 6 = .ok (.iconst 1, 1) := by decide +kernel
theorem dX6_allPersons_7 : decode cX6_allPersons 7 = .ok (.isub, 1) := by decide +kernel
theorem dX6_allPersons_8 : decode cX6_allPersons 8 = .ok (.ireturn, 1) := by decide +kernel
theorem dX6_clear_0 : decode cX6_clear 0 = .ok (.aload_n 0, 1) := by decide +kernel
theorem dX6_clear_1 : decode cX6_clear 1 = .ok (.iconst 0, 1) := by decide +kernel
theorem dX6_clear_2 : decode cX6_clear 2 = .ok (.putfield 33, 3) := by decide +kernel
theorem dX6_clear_5 : decode cX6_clear 5 = .ok (.aload_n 0, 1) := by decide +kernel
theorem dX6_clear_6 : decode cX6_clear 6 = .ok (.iconst 0, 1) := by decide +kernel
theorem dX6_clear_7 : decode cX6_clear 7 = .ok (.putfield 55, 3) := by decide +kernel
theorem dX6_clear_10 : decode cX6_clear 10 = .ok (.aload_n 0, 1) := by decide +kernel
theorem dX6_clear_11 : decode cX6_clear 11 = .ok (.iconst 0, 1) := by decide +kernel
theorem dX6_clear_12 : decode cX6_clear 12 = .ok (.putfield 58, 3) := by decide +kernel
theorem dX6_clear_15 : decode cX6_clear 15 = .ok (.aload_n 0, 1) := by decide +kernel
theorem dX6_clear_16 : decode cX6_clear 16 = .ok (.getstatic 67, 3) := by decide +kernel
theorem dX6_clear_19 : decode cX6_clear 19 = .ok (.invokevirtual 70, 3) := by decide +kernel
theorem dX6_clear_22 : decode cX6_clear 22 = .ok (.return_, 1) := by decide +kernel
theorem dX6_setRules_0 : decode cX6_setRules 0 = .ok (.aload_n 0, 1) := by decide +kernel
theorem dX6_setRules_1 : decode cX6_setRules 1 = .ok (.aload_n 1, 1) := by decide +kernel
theorem dX6_setRules_2 : decode cX6_setRules 2 = .ok (.iconst 0, 1) := by decide +kernel
theorem dX6_setRules_3 : decode cX6_setRules 3 = .ok (.iaload, 1) := by decide +kernel
theorem dX6_setRules_4 : decode cX6_setRules 4 = .ok (.putfield 9, 3) := by decide +kernel
theorem dX6_setRules_7 : decode cX6_setRules 7 = .ok (.aload_n 0, 1) := by decide +kernel
theorem dX6_setRules_8 : decode cX6_setRules 8 = .ok (.aload_n 1, 1) := by decide +kernel
theorem dX6_setRules_9 : decode cX6_setRules 9 = .ok (.iconst 1, 1) := by decide +kernel
theorem dX6_setRules_10 : decode cX6_setRules 10 = .ok (.iaload, 1) := by decide +kernel
theorem dX6_setRules_11 : decode cX6_setRules 11 = .ok (.putfield 15, 3) := by decide +kernel
theorem dX6_setRules_14 : decode cX6_setRules 14 = .ok (.aload_n 0, 1) := by decide +kernel
theorem dX6_setRules_15 : decode cX6_setRules 15 = .ok (.aload_n 1, 1) := by decide +kernel
theorem dX6_setRules_16 : decode cX6_setRules 16 = .ok (.iconst 2, 1) := by decide +kernel
theorem dX6_setRules_17 : decode cX6_setRules 17 = .ok (.iaload, 1) := by decide +kernel
theorem dX6_setRules_18 : decode cX6_setRules 18 = .ok (.putfield 18, 3) := by decide +kernel
theorem dX6_setRules_21 : decode cX6_setRules 21 = .ok (.aload_n 0, 1) := by decide +kernel
theorem dX6_setRules_22 : decode cX6_setRules 22 = .ok (.aload_n 1, 1) := by decide +kernel
theorem dX6_setRules_23 : decode cX6_setRules 23 = .ok (.iconst 3, 1) := by decide +kernel
theorem dX6_setRules_24 : decode cX6_setRules 24 = .ok (.iaload, 1) := by decide +kernel
theorem dX6_setRules_25 : decode cX6_setRules 25 = .ok (.putfield 21, 3) := by decide +kernel
theorem dX6_setRules_28 : decode cX6_setRules 28 = .ok (.return_, 1) := by decide +kernel
theorem dX6_addCurtain_0 : decode cX6_addCurtain 0 = .ok (.aload_n 0, 1) := by decide +kernel
theorem dX6_addCurtain_1 : decode cX6_addCurtain 1 = .ok (.getfield 33, 3) := by decide +kernel
theorem dX6_addCurtain_4 : decode cX6_addCurtain 4 = .ok (.bipush 10, 2) := by decide +kernel
theorem dX6_addCurtain_6 : decode cX6_addCurtain 6 = .ok (.if_icmp .lt 4, 3) := by decide +kernel
theorem dX6_addCurtain_9 : decode cX6_addCurtain 9 = .ok (.return_, 1) := by decide +kernel
theorem dX6_addCurtain_10 : decode cX6_addCurtain 10 = .ok (.aload_n 0, 1) := by decide +kernel
theorem dX6_addCurtain_11 : decode cX6_addCurtain 11 = .ok (.getfield 36, 3) := by decide +kernel
theorem dX6_addCurtain_14 : decode cX6_addCurtain 14 = .ok (.aload_n 0, 1) := by decide +kernel
theorem dX6_addCurtain_15 : decode cX6_addCurtain 15 = .ok (.getfield 33, 3) := by decide +kernel
theorem dX6_addCurtain_18 : decode cX6_addCurtain 18 = .ok (.aload_n 1, 1) := by decide +kernel
theorem dX6_addCurtain_19 : decode cX6_addCurtain 19 = .ok (.iconst 4, 1) := by decide +kernel
theorem dX6_addCurtain_20 : decode cX6_addCurtain 20 = .ok (.iaload, 1) := by decide +kernel
theorem dX6_addCurtain_21 : decode cX6_addCurtain 21 = .ok (.iastore, 1) := by decide +kernel
theorem dX6_addCurtain_22 : decode cX6_addCurtain 22 = .ok (.aload_n 0, 1) := by decide +kernel
theorem dX6_addCurtain_23 : decode cX6_addCurtain 23 = .ok (.getfield 43, 3) := by decide +kernel
theorem dX6_addCurtain_26 : decode cX6_addCurtain 26 = .ok (.aload_n 0, 1) := by decide +kernel
theorem dX6_addCurtain_27 : decode cX6_addCurtain 27 = .ok (.getfield 33, 3) := by decide +kernel
theorem dX6_addCurtain_30 : decode cX6_addCurtain 30 = .ok (.aload_n 1, 1) := by decide +kernel
theorem dX6_addCurtain_31 : decode cX6_addCurtain 31 = .ok (.iconst 5, 1) := by decide +kernel
theorem dX6_addCurtain_32 : decode cX6_addCurtain 32 = .ok (.iaload, 1) := by decide +kernel
theorem dX6_addCurtain_33 : decode cX6_addCurtain 33 = .ok (.iastore, 1) := by decide +kernel
theorem dX6_addCurtain_34 : decode cX6_addCurtain 34 = .ok (.aload_n 0, 1) := by decide +kernel
theorem dX6_addCurtain_35 : decode cX6_addCurtain 35 = .ok (.getfield 46, 3) := by decide +kernel
theorem dX6_addCurtain_38 : decode cX6_addCurtain 38 = .ok (.aload_n 0, 1) := by decide +kernel
theorem dX6_addCurtain_39 : decode cX6_addCurtain 39 = .ok (.getfield 33, 3) := by decide +kernel
theorem dX6_addCurtain_42 : decode cX6_addCurtain 42 = .ok (.aload_n 1, 1) := by decide +kernel
theorem dX6_addCurtain_43 : decode cX6_addCurtain 43 = .ok (.bipush 6, 2) := by decide +kernel
theorem dX6_addCurtain_45 : decode cX6_addCurtain 45 = .ok (.iaload, 1) := by decide +kernel
theorem dX6_addCurtain_46 : decode cX6_addCurtain 46 = .ok (.iastore, 1) := by decide +kernel
theorem dX6_addCurtain_47 : decode cX6_addCurtain 47 = .ok (.aload_n 0, 1) := by decide +kernel
theorem dX6_addCurtain_48 : decode cX6_addCurtain 48 = .ok (.getfield 52, 3) := by decide +kernel
theorem dX6_addCurtain_51 : decode cX6_addCurtain 51 = .ok (.aload_n 0, 1) := by decide +kernel
theorem dX6_addCurtain_52 : decode cX6_addCurtain 52 = .ok (.getfield 33, 3) := by decide +kernel
theorem dX6_addCurtain_55 : decode cX6_addCurtain 55 = .ok (.aload_n 1, 1) := by decide +kernel
theorem dX6_addCurtain_56 : decode cX6_addCurtain 56 = .ok (.bipush 7, 2) := by decide +kernel
theorem dX6_addCurtain_58 : decode cX6_addCurtain 58 = .ok (.iaload, 1) := by decide +kernel
theorem dX6_addCurtain_59 : decode cX6_addCurtain 59 = .ok (.iastore, 1) := by decide +kernel
theorem dX6_addCurtain_60 : decode cX6_addCurtain 60 = .ok (.aload_n 0, 1) := by decide +kernel
theorem dX6_addCurtain_61 : decode cX6_addCurtain 61 = .ok (.getfield 49, 3) := by decide +kernel
theorem dX6_addCurtain_64 : decode cX6_addCurtain 64 = .ok (.aload_n 0, 1) := by decide +kernel
theorem dX6_addCurtain_65 : decode cX6_addCurtain 65 = .ok (.getfield 33, 3) := by decide +kernel
theorem dX6_addCurtain_68 : decode cX6_addCurtain 68 = .ok (.aload_n 1, 1) := by decide +kernel
theorem dX6_addCurtain_69 : decode cX6_addCurtain 69 = .ok (.bipush 8, 2) := by decide +kernel
theorem dX6_addCurtain_71 : decode cX6_addCurtain 71 = .ok (.iaload, 1) := by decide +kernel
theorem dX6_addCurtain_72 : decode cX6_addCurtain 72 = .ok (.iastore, 1) := by decide +kernel
theorem dX6_addCurtain_73 : decode cX6_addCurtain 73 = .ok (.aload_n 0, 1) := by decide +kernel
theorem dX6_addCurtain_74 : decode cX6_addCurtain 74 = .ok (.dup, 1) := by decide +kernel
theorem dX6_addCurtain_75 : decode cX6_addCurtain 75 = .ok (.getfield 55, 3) := by decide +kernel
theorem dX6_addCurtain_78 : decode cX6_addCurtain 78 = .ok (.aload_n 1, 1) := by decide +kernel
theorem dX6_addCurtain_79 : decode cX6_addCurtain 79 = .ok (.bipush 9, 2) := by decide +kernel
theorem dX6_addCurtain_81 : decode cX6_addCurtain 81 = .ok (.iaload, 1) := by decide +kernel
theorem dX6_addCurtain_82 : decode cX6_addCurtain 82 = .ok (.aload_n 0, 1) := by decide +kernel
theorem dX6_addCurtain_83 : decode cX6_addCurtain 83 = .ok (.getfield 33, 3) := by decide +kernel
theorem dX6_addCurtain_86 : decode cX6_addCurtain 86 = .ok (.ishl, 1) := by decide +kernel
theorem dX6_addCurtain_87 : decode cX6_addCurtain 87 = .ok (.ior, 1) := by decide +kernel
theorem dX6_addCurtain_88 : decode cX6_addCurtain 88 = .ok (.putfield 55, 3) := by decide +kernel
theorem dX6_addCurtain_91 : decode cX6_addCurtain 91 = .ok (.aload_n 0, 1) := by decide +kernel
theorem dX6_addCurtain_92 : decode cX6_addCurtain 92 = .ok (.dup, 1) := by decide +kernel
theorem dX6_addCurtain_93 : decode cX6_addCurtain 93 = .ok (.getfield 33, 3) := by decide +kernel
theorem dX6_addCurtain_96 : decode cX6_addCurtain 96 = .ok (.iconst 1, 1) := by decide +kernel
theorem dX6_addCurtain_97 : decode cX6_addCurtain 97 = .ok (.iadd, 1) := by decide +kernel
theorem dX6_addCurtain_98 : decode cX6_addCurtain 98 = .ok (.putfield 33, 3) := by decide +kernel
theorem dX6_addCurtain_101 : decode cX6_addCurtain 101 = .ok (.return_, 1) := by decide +kernel
theorem dX6_addPerson_0 : decode cX6_addPerson 0 = .ok (.aload_n 0, 1) := by decide +kernel
theorem dX6_addPerson_1 : decode cX6_addPerson 1 = .ok (.getfield 58, 3) := by decide +kernel
theorem dX6_addPerson_4 : decode cX6_addPerson 4 = .ok (.bipush 6, 2) := by decide +kernel
theorem dX6_addPerson_6 : decode cX6_addPerson 6 = .ok (.if_icmp .lt 4, 3) := by decide +kernel
theorem dX6_addPerson_9 : decode cX6_addPerson 9 = .ok (.return_, 1) := by decide +kernel
theorem dX6_addPerson_10 : decode cX6_addPerson 10 = .ok (.aload_n 0, 1) := by decide +kernel
theorem dX6_addPerson_11 : decode cX6_addPerson 11 = .ok (.getfield 64, 3) := by decide +kernel
theorem dX6_addPerson_14 : decode cX6_addPerson 14 = .ok (.aload_n 0, 1) := by decide +kernel
theorem dX6_addPerson_15 : decode cX6_addPerson 15 = .ok (.getfield 58, 3) := by decide +kernel
theorem dX6_addPerson_18 : decode cX6_addPerson 18 = .ok (.aload_n 1, 1) := by decide +kernel
theorem dX6_addPerson_19 : decode cX6_addPerson 19 = .ok (.bipush 10, 2) := by decide +kernel
theorem dX6_addPerson_21 : decode cX6_addPerson 21 = .ok (.iaload, 1) := by decide +kernel
theorem dX6_addPerson_22 : decode cX6_addPerson 22 = .ok (.iastore, 1) := by decide +kernel
theorem dX6_addPerson_23 : decode cX6_addPerson 23 = .ok (.aload_n 0, 1) := by decide +kernel
theorem dX6_addPerson_24 : decode cX6_addPerson 24 = .ok (.getfield 61, 3) := by decide +kernel
theorem dX6_addPerson_27 : decode cX6_addPerson 27 = .ok (.aload_n 0, 1) := by decide +kernel
theorem dX6_addPerson_28 : decode cX6_addPerson 28 = .ok (.getfield 58, 3) := by decide +kernel
theorem dX6_addPerson_31 : decode cX6_addPerson 31 = .ok (.aload_n 1, 1) := by decide +kernel
theorem dX6_addPerson_32 : decode cX6_addPerson 32 = .ok (.bipush 11, 2) := by decide +kernel
theorem dX6_addPerson_34 : decode cX6_addPerson 34 = .ok (.iaload, 1) := by decide +kernel
theorem dX6_addPerson_35 : decode cX6_addPerson 35 = .ok (.iastore, 1) := by decide +kernel
theorem dX6_addPerson_36 : decode cX6_addPerson 36 = .ok (.aload_n 0, 1) := by decide +kernel
theorem dX6_addPerson_37 : decode cX6_addPerson 37 = .ok (.dup, 1) := by decide +kernel
theorem dX6_addPerson_38 : decode cX6_addPerson 38 = .ok (.getfield 58, 3) := by decide +kernel
theorem dX6_addPerson_41 : decode cX6_addPerson 41 = .ok (.iconst 1, 1) := by decide +kernel
theorem dX6_addPerson_42 : decode cX6_addPerson 42 = .ok (.iadd, 1) := by decide +kernel
theorem dX6_addPerson_43 : decode cX6_addPerson 43 = .ok (.putfield 58, 3) := by decide +kernel
theorem dX6_addPerson_46 : decode cX6_addPerson 46 = .ok (.return_, 1) := by decide +kernel
theorem dX6_settle_0 : decode cX6_settle 0 = .ok (.aload_n 0, 1) := by decide +kernel
theorem dX6_settle_1 : decode cX6_settle 1 = .ok (.invokevirtual 74, 3) := by decide +kernel
theorem dX6_settle_4 : decode cX6_settle 4 = .ok (.aload_n 0, 1) := by decide +kernel
theorem dX6_settle_5 : decode cX6_settle 5 = .ok (.getfield 58, 3) := by decide +kernel
theorem dX6_settle_8 : decode cX6_settle 8 = .ok (.ifCond .ne 5, 3) := by decide +kernel
theorem dX6_settle_11 : decode cX6_settle 11 = .ok (.iconst 0, 1) := by decide +kernel
theorem dX6_settle_12 : decode cX6_settle 12 = .ok (.ireturn, 1) := by decide +kernel
theorem dX6_settle_13 : decode cX6_settle 13 = .ok (.iconst 0, 1) := by decide +kernel
theorem dX6_settle_14 : decode cX6_settle 14 = .ok (.istore_n 1, 1) := by decide +kernel
theorem dX6_settle_15 : decode cX6_settle 15 = .ok (.iload_n 1, 1) := by decide +kernel
theorem dX6_settle_16 : decode cX6_settle 16 = .ok (.aload_n 0, 1) := by decide +kernel
theorem dX6_settle_17 : decode cX6_settle 17 = .ok (.getfield 58, 3) := by decide +kernel
theorem dX6_settle_20 : decode cX6_settle 20 = .ok (.if_icmp .ge 24, 3) := by decide +kernel
theorem dX6_settle_23 : decode cX6_settle 23 = .ok (.aload_n 0, 1) := by decide +kernel
theorem dX6_settle_24 : decode cX6_settle 24 = .ok (.getfield 64, 3) := by decide +kernel
theorem dX6_settle_27 : decode cX6_settle 27 = .ok (.iload_n 1, 1) := by decide +kernel
theorem dX6_settle_28 : decode cX6_settle 28 = .ok (.iaload, 1) := by decide +kernel
theorem dX6_settle_29 : decode cX6_settle 29 = .ok (.aload_n 0, 1) := by decide +kernel
theorem dX6_settle_30 : decode cX6_settle 30 = .ok (.getfield 24, 3) := by decide +kernel
theorem dX6_settle_33 : decode cX6_settle 33 = .ok (.if_icmp .lt 5, 3) := by decide +kernel
theorem dX6_settle_36 : decode cX6_settle 36 = .ok (.iconst 0, 1) := by decide +kernel
theorem dX6_settle_37 : decode cX6_settle 37 = .ok (.ireturn, 1) := by decide +kernel
theorem dX6_settle_38 : decode cX6_settle 38 = .ok (.iinc 1 1, 3) := by decide +kernel
theorem dX6_settle_41 : decode cX6_settle 41 = .ok (.goto (-26), 3) := by decide +kernel
theorem dX6_settle_44 : decode cX6_settle 44 = .ok (.aload_n 0, 1) := by decide +kernel
theorem dX6_settle_45 : decode cX6_settle 45 = .ok (.invokevirtual 77, 3) := by decide +kernel
theorem dX6_settle_48 : decode cX6_settle 48 = .ok (.ireturn, 1) := by decide +kernel
theorem dX6_laySquares_0 : decode cX6_laySquares 0 = .ok (.aload_n 0, 1) := by decide +kernel
theorem dX6_laySquares_1 : decode cX6_laySquares 1 = .ok (.aload_n 0, 1) := by decide +kernel
theorem dX6_laySquares_2 : decode cX6_laySquares 2 = .ok (.getfield 9, 3) := by decide +kernel
theorem dX6_laySquares_5 : decode cX6_laySquares 5 = .ok (.aload_n 0, 1) := by decide +kernel
theorem dX6_laySquares_6 : decode cX6_laySquares 6 = .ok (.getfield 15, 3) := by decide +kernel
theorem dX6_laySquares_9 : decode cX6_laySquares 9 = .ok (.imul, 1) := by decide +kernel
theorem dX6_laySquares_10 : decode cX6_laySquares 10 = .ok (.putfield 24, 3) := by decide +kernel
theorem dX6_laySquares_13 : decode cX6_laySquares 13 = .ok (.aload_n 0, 1) := by decide +kernel
theorem dX6_laySquares_14 : decode cX6_laySquares 14 = .ok (.iconst 0, 1) := by decide +kernel
theorem dX6_laySquares_15 : decode cX6_laySquares 15 = .ok (.putfield 27, 3) := by decide +kernel
theorem dX6_laySquares_18 : decode cX6_laySquares 18 = .ok (.aload_n 0, 1) := by decide +kernel
theorem dX6_laySquares_19 : decode cX6_laySquares 19 = .ok (.iconst 0, 1) := by decide +kernel
theorem dX6_laySquares_20 : decode cX6_laySquares 20 = .ok (.putfield 30, 3) := by decide +kernel
theorem dX6_laySquares_23 : decode cX6_laySquares 23 = .ok (.iconst 0, 1) := by decide +kernel
theorem dX6_laySquares_24 : decode cX6_laySquares 24 = .ok (.istore_n 1, 1) := by decide +kernel
theorem dX6_laySquares_25 : decode cX6_laySquares 25 = .ok (.iload_n 1, 1) := by decide +kernel
theorem dX6_laySquares_26 : decode cX6_laySquares 26 = .ok (.aload_n 0, 1) := by decide +kernel
theorem dX6_laySquares_27 : decode cX6_laySquares 27 = .ok (.getfield 15, 3) := by decide +kernel
theorem dX6_laySquares_30 : decode cX6_laySquares 30 = .ok (.if_icmp .ge 84, 3) := by decide +kernel
theorem dX6_laySquares_33 : decode cX6_laySquares 33 = .ok (.iconst 0, 1) := by decide +kernel
theorem dX6_laySquares_34 : decode cX6_laySquares 34 = .ok (.istore_n 2, 1) := by decide +kernel
theorem dX6_laySquares_35 : decode cX6_laySquares 35 = .ok (.iload_n 2, 1) := by decide +kernel
theorem dX6_laySquares_36 : decode cX6_laySquares 36 = .ok (.aload_n 0, 1) := by decide +kernel
theorem dX6_laySquares_37 : decode cX6_laySquares 37 = .ok (.getfield 9, 3) := by decide +kernel
theorem dX6_laySquares_40 : decode cX6_laySquares 40 = .ok (.if_icmp .ge 68, 3) := by decide +kernel
theorem dX6_laySquares_43 : decode cX6_laySquares 43 = .ok (.iconst 1, 1) := by decide +kernel
theorem dX6_laySquares_44 : decode cX6_laySquares 44 = .ok (.iload_n 1, 1) := by decide +kernel
theorem dX6_laySquares_45 : decode cX6_laySquares 45 = .ok (.aload_n 0, 1) := by decide +kernel
theorem dX6_laySquares_46 : decode cX6_laySquares 46 = .ok (.getfield 9, 3) := by decide +kernel
theorem dX6_laySquares_49 : decode cX6_laySquares 49 = .ok (.imul, 1) := by decide +kernel
theorem dX6_laySquares_50 : decode cX6_laySquares 50 = .ok (.iload_n 2, 1) := by decide +kernel
theorem dX6_laySquares_51 : decode cX6_laySquares 51 = .ok (.iadd, 1) := by decide +kernel
theorem dX6_laySquares_52 : decode cX6_laySquares 52 = .ok (.ishl, 1) := by decide +kernel
theorem dX6_laySquares_53 : decode cX6_laySquares 53 = .ok (.istore_n 3, 1) := by decide +kernel
theorem dX6_laySquares_54 : decode cX6_laySquares 54 = .ok (.aload_n 0, 1) := by decide +kernel
theorem dX6_laySquares_55 : decode cX6_laySquares 55 = .ok (.dup, 1) := by decide +kernel
theorem dX6_laySquares_56 : decode cX6_laySquares 56 = .ok (.getfield 27, 3) := by decide +kernel
theorem dX6_laySquares_59 : decode cX6_laySquares 59 = .ok (.iload_n 2, 1) := by decide +kernel
theorem dX6_laySquares_60 : decode cX6_laySquares 60 = .ok (.iconst 1, 1) := by decide +kernel
theorem dX6_laySquares_61 : decode cX6_laySquares 61 = .ok (.iadd, 1) := by decide +kernel
theorem dX6_laySquares_62 : decode cX6_laySquares 62 = .ok (.aload_n 0, 1) := by decide +kernel
theorem dX6_laySquares_63 : decode cX6_laySquares 63 = .ok (.getfield 9, 3) := by decide +kernel
theorem dX6_laySquares_66 : decode cX6_laySquares 66 = .ok (.if_icmp .ge 7, 3) := by decide +kernel
theorem dX6_laySquares_69 : decode cX6_laySquares 69 = .ok (.iload_n 3, 1) := by decide +kernel
theorem dX6_laySquares_70 : decode cX6_laySquares 70 = .ok (.goto 4, 3) := by decide +kernel
theorem dX6_laySquares_73 : decode cX6_laySquares 73 = .ok (.iconst 0, 1) := by decide +kernel
theorem dX6_laySquares_74 : decode cX6_laySquares 74 = .ok (.ior, 1) := by decide +kernel
theorem dX6_laySquares_75 : decode cX6_laySquares 75 = .ok (.putfield 27, 3) := by decide +kernel
theorem dX6_laySquares_78 : decode cX6_laySquares 78 = .ok (.aload_n 0, 1) := by decide +kernel
theorem dX6_laySquares_79 : decode cX6_laySquares 79 = .ok (.dup, 1) := by decide +kernel
theorem dX6_laySquares_80 : decode cX6_laySquares 80 = .ok (.getfield 30, 3) := by decide +kernel
theorem dX6_laySquares_83 : decode cX6_laySquares 83 = .ok (.iload_n 1, 1) := by decide +kernel
theorem dX6_laySquares_84 : decode cX6_laySquares 84 = .ok (.iconst 1, 1) := by decide +kernel
theorem dX6_laySquares_85 : decode cX6_laySquares 85 = .ok (.iadd, 1) := by decide +kernel
theorem dX6_laySquares_86 : decode cX6_laySquares 86 = .ok (.aload_n 0, 1) := by decide +kernel
theorem dX6_laySquares_87 : decode cX6_laySquares 87 = .ok (.getfield 15, 3) := by decide +kernel
theorem dX6_laySquares_90 : decode cX6_laySquares 90 = .ok (.if_icmp .ge 7, 3) := by decide +kernel
theorem dX6_laySquares_93 : decode cX6_laySquares 93 = .ok (.iload_n 3, 1) := by decide +kernel
theorem dX6_laySquares_94 : decode cX6_laySquares 94 = .ok (.goto 4, 3) := by decide +kernel
theorem dX6_laySquares_97 : decode cX6_laySquares 97 = .ok (.iconst 0, 1) := by decide +kernel
theorem dX6_laySquares_98 : decode cX6_laySquares 98 = .ok (.ior, 1) := by decide +kernel
theorem dX6_laySquares_99 : decode cX6_laySquares 99 = .ok (.putfield 30, 3) := by decide +kernel
theorem dX6_laySquares_102 : decode cX6_laySquares 102 = .ok (.iinc 2 1, 3) := by decide +kernel
theorem dX6_laySquares_105 : decode cX6_laySquares 105 = .ok (.goto (-70), 3) := by decide +kernel
