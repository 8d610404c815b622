theorem dX6_give_171 : decode cX6_give 171 = .ok (.dup2, 1) := by decide +kernel
theorem dX6_give_172 : decode cX6_give 172 = .ok (.iaload, 1) := by decide +kernel
theorem dX6_give_173 : decode cX6_give 173 = .ok (.iconst 1, 1) := by decide +kernel
theorem dX6_give_174 : decode cX6_give 174 = .ok (.iadd, 1) := by decide +kernel
theorem dX6_give_175 : decode cX6_give 175 = .ok (.iastore, 1) := by decide +kernel
theorem dX6_give_176 : decode cX6_give 176 = .ok (.aload_n 0, 1) := by decide +kernel
theorem dX6_give_177 : decode cX6_give 177 = .ok (.iload 7, 2) := by decide +kernel
theorem dX6_give_179 : decode cX6_give 179 = .ok (.iload 4, 2) := by decide +kernel
theorem dX6_give_181 : decode cX6_give 181 = .ok (.iload 6, 2) := by decide +kernel
theorem dX6_give_183 : decode cX6_give 183 = .ok (.sipush (-1000), 3) := by decide +kernel
theorem dX6_give_186 : decode cX6_give 186 = .ok (.if_icmp .ge 9, 3) := by decide +kernel
theorem dX6_give_189 : decode cX6_give 189 = .ok (.sipush (-1000), 3) := by decide +kernel
theorem dX6_give_192 : decode cX6_give 192 = .ok (.goto 19, 3) := by decide +kernel
theorem dX6_give_195 : decode cX6_give 195 = .ok (.iload 6, 2) := by decide +kernel
theorem dX6_give_197 : decode cX6_give 197 = .ok (.sipush 1000, 3) := by decide +kernel
theorem dX6_give_200 : decode cX6_give 200 = .ok (.if_icmp .le 9, 3) := by decide +kernel
theorem dX6_give_203 : decode cX6_give 203 = .ok (.sipush 1000, 3) := by decide +kernel
theorem dX6_give_206 : decode cX6_give 206 = .ok (.goto 5, 3) := by decide +kernel
theorem dX6_give_209 : decode cX6_give 209 = .ok (.iload 6, 2) := by decide +kernel
theorem dX6_give_211 : decode cX6_give 211 = .ok (.invokevirtual 253, 3) := by decide +kernel
theorem dX6_give_214 : decode cX6_give 214 = .ok (.return_, 1) := by decide +kernel
theorem dX6_come_0 : decode cX6_come 0 = .ok (.aload_n 0, 1) := by decide +kernel
theorem dX6_come_1 : decode cX6_come 1 = .ok (.iload_n 1, 1) := by decide +kernel
theorem dX6_come_2 : decode cX6_come 2 = .ok (.invokevirtual 124, 3) := by decide +kernel
theorem dX6_come_5 : decode cX6_come 5 = .ok (.ifCond .eq 26, 3) := by decide +kernel
theorem dX6_come_8 : decode cX6_come 8 = .ok (.iload_n 2, 1) := by decide +kernel
theorem dX6_come_9 : decode cX6_come 9 = .ok (.iconst 0, 1) := by decide +kernel
theorem dX6_come_10 : decode cX6_come 10 = .ok (.ldc 239, 2) := by decide +kernel
theorem dX6_come_12 : decode cX6_come 12 = .ok (.invokestatic 76, 3) := by decide +kernel
theorem dX6_come_15 : decode cX6_come 15 = .ok (.ifCond .eq 16, 3) := by decide +kernel
theorem dX6_come_18 : decode cX6_come 18 = .ok (.iload_n 3, 1) := by decide +kernel
theorem dX6_come_19 : decode cX6_come 19 = .ok (.sipush (-1000), 3) := by decide +kernel
theorem dX6_come_22 : decode cX6_come 22 = .ok (.sipush 1000, 3) := by decide +kernel
theorem dX6_come_25 : decode cX6_come 25 = .ok (.invokestatic 76, 3) := by decide +kernel
theorem dX6_come_28 : decode cX6_come 28 = .ok (.ifCond .ne 5, 3) := by decide +kernel
theorem dX6_come_31 : decode cX6_come 31 = .ok (.iconst (-1), 1) := by decide +kernel
theorem dX6_come_32 : decode cX6_come 32 = .ok (.ireturn, 1) := by decide +kernel
theorem dX6_come_33 : decode cX6_come 33 = .ok (.aload_n 0, 1) := by decide +kernel
theorem dX6_come_34 : decode cX6_come 34 = .ok (.iload_n 1, 1) := by decide +kernel
theorem dX6_come_35 : decode cX6_come 35 = .ok (.iload_n 2, 1) := by decide +kernel
theorem dX6_come_36 : decode cX6_come 36 = .ok (.invokevirtual 247, 3) := by decide +kernel
theorem dX6_come_39 : decode cX6_come 39 = .ok (.ifCond .eq 14, 3) := by decide +kernel
theorem dX6_come_42 : decode cX6_come 42 = .ok (.aload_n 0, 1) := by decide +kernel
theorem dX6_come_43 : decode cX6_come 43 = .ok (.iload_n 1, 1) := by decide +kernel
theorem dX6_come_44 : decode cX6_come 44 = .ok (.bipush 7, 2) := by decide +kernel
theorem dX6_come_46 : decode cX6_come 46 = .ok (.iconst 1, 1) := by decide +kernel
theorem dX6_come_47 : decode cX6_come 47 = .ok (.invokevirtual 188, 3) := by decide +kernel
theorem dX6_come_50 : decode cX6_come 50 = .ok (.bipush (-2), 2) := by decide +kernel
theorem dX6_come_52 : decode cX6_come 52 = .ok (.ireturn, 1) := by decide +kernel
theorem dX6_come_53 : decode cX6_come 53 = .ok (.aload_n 0, 1) := by decide +kernel
theorem dX6_come_54 : decode cX6_come 54 = .ok (.iload_n 1, 1) := by decide +kernel
theorem dX6_come_55 : decode cX6_come 55 = .ok (.invokevirtual 250, 3) := by decide +kernel
theorem dX6_come_58 : decode cX6_come 58 = .ok (.ifCond .eq 5, 3) := by decide +kernel
theorem dX6_come_61 : decode cX6_come 61 = .ok (.iconst (-1), 1) := by decide +kernel
theorem dX6_come_62 : decode cX6_come 62 = .ok (.ireturn, 1) := by decide +kernel
theorem dX6_come_63 : decode cX6_come 63 = .ok (.aload_n 0, 1) := by decide +kernel
theorem dX6_come_64 : decode cX6_come 64 = .ok (.iload_n 1, 1) := by decide +kernel
theorem dX6_come_65 : decode cX6_come 65 = .ok (.iload_n 2, 1) := by decide +kernel
theorem dX6_come_66 : decode cX6_come 66 = .ok (.invokevirtual 256, 3) := by decide +kernel
theorem dX6_come_69 : decode cX6_come 69 = .ok (.aload_n 0, 1) := by decide +kernel
theorem dX6_come_70 : decode cX6_come 70 = .ok (.iload_n 1, 1) := by decide +kernel
theorem dX6_come_71 : decode cX6_come 71 = .ok (.iload_n 2, 1) := by decide +kernel
theorem dX6_come_72 : decode cX6_come 72 = .ok (.iload_n 3, 1) := by decide +kernel
theorem dX6_come_73 : decode cX6_come 73 = .ok (.invokevirtual 253, 3) := by decide +kernel
theorem dX6_come_76 : decode cX6_come 76 = .ok (.aload_n 0, 1) := by decide +kernel
theorem dX6_come_77 : decode cX6_come 77 = .ok (.iload_n 1, 1) := by decide +kernel
theorem dX6_come_78 : decode cX6_come 78 = .ok (.invokevirtual 259, 3) := by decide +kernel
theorem dX6_come_81 : decode cX6_come 81 = .ok (.ireturn, 1) := by decide +kernel
theorem dX6_burst_0 : decode cX6_burst 0 = .ok (.aload_n 0, 1) := by decide +kernel
theorem dX6_burst_1 : decode cX6_burst 1 = .ok (.iload_n 1, 1) := by decide +kernel
theorem dX6_burst_2 : decode cX6_burst 2 = .ok (.invokevirtual 124, 3) := by decide +kernel
theorem dX6_burst_5 : decode cX6_burst 5 = .ok (.ifCond .eq 27, 3) := by decide +kernel
theorem dX6_burst_8 : decode cX6_burst 8 = .ok (.iload_n 2, 1) := by decide +kernel
theorem dX6_burst_9 : decode cX6_burst 9 = .ok (.iconst 1, 1) := by decide +kernel
theorem dX6_burst_10 : decode cX6_burst 10 = .ok (.bipush 40, 2) := by decide +kernel
theorem dX6_burst_12 : decode cX6_burst 12 = .ok (.invokestatic 76, 3) := by decide +kernel
theorem dX6_burst_15 : decode cX6_burst 15 = .ok (.ifCond .eq 17, 3) := by decide +kernel
theorem dX6_burst_18 : decode cX6_burst 18 = .ok (.iload 4, 2) := by decide +kernel
theorem dX6_burst_20 : decode cX6_burst 20 = .ok (.sipush (-1000), 3) := by decide +kernel
theorem dX6_burst_23 : decode cX6_burst 23 = .ok (.sipush 1000, 3) := by decide +kernel
theorem dX6_burst_26 : decode cX6_burst 26 = .ok (.invokestatic 76, 3) := by decide +kernel
theorem dX6_burst_29 : decode cX6_burst 29 = .ok (.ifCond .ne 5, 3) := by decide +kernel
theorem dX6_burst_32 : decode cX6_burst 32 = .ok (.iconst (-1), 1) := by decide +kernel
theorem dX6_burst_33 : decode cX6_burst 33 = .ok (.ireturn, 1) := by decide +kernel
theorem dX6_burst_34 : decode cX6_burst 34 = .ok (.iload_n 3, 1) := by decide +kernel
theorem dX6_burst_35 : decode cX6_burst 35 = .ok (.sipush (-1000), 3) := by decide +kernel
theorem dX6_burst_38 : decode cX6_burst 38 = .ok (.sipush 1000, 3) := by decide +kernel
theorem dX6_burst_41 : decode cX6_burst 41 = .ok (.invokestatic 76, 3) := by decide +kernel
theorem dX6_burst_44 : decode cX6_burst 44 = .ok (.ifCond .eq 37, 3) := by decide +kernel
theorem dX6_burst_47 : decode cX6_burst 47 = .ok (.iload_n 3, 1) := by decide +kernel
theorem dX6_burst_48 : decode cX6_burst 48 = .ok (.iload 4, 2) := by decide +kernel
theorem dX6_burst_50 : decode cX6_burst 50 = .ok (.iload_n 2, 1) := by decide +kernel
theorem dX6_burst_51 : decode cX6_burst 51 = .ok (.iconst 1, 1) := by decide +kernel
theorem dX6_burst_52 : decode cX6_burst 52 = .ok (.isub, 1) := by decide +kernel
theorem dX6_burst_53 : decode cX6_burst 53 = .ok (.imul, 1) := by decide +kernel
theorem dX6_burst_54 : decode cX6_burst 54 = .ok (.iadd, 1) := by decide +kernel
theorem dX6_burst_55 : decode cX6_burst 55 = .ok (.sipush (-1000), 3) := by decide +kernel
theorem dX6_burst_58 : decode cX6_burst 58 = .ok (.sipush 1000, 3) := by decide +kernel
theorem dX6_burst_61 : decode cX6_burst 61 = .ok (.invokestatic 76, 3) := by decide +kernel
theorem dX6_burst_64 : decode cX6_burst 64 = .ok (.ifCond .eq 17, 3) := by decide +kernel
theorem dX6_burst_67 : decode cX6_burst 67 = .ok (.aload_n 0, 1) := by decide +kernel
theorem dX6_burst_68 : decode cX6_burst 68 = .ok (.iload_n 1, 1) := by decide +kernel
theorem dX6_burst_69 : decode cX6_burst 69 = .ok (.bipush 6, 2) := by decide +kernel
theorem dX6_burst_71 : decode cX6_burst 71 = .ok (.invokevirtual 80, 3) := by decide +kernel
theorem dX6_burst_74 : decode cX6_burst 74 = .ok (.iload_n 2, 1) := by decide +kernel
theorem dX6_burst_75 : decode cX6_burst 75 = .ok (.iadd, 1) := by decide +kernel
theorem dX6_burst_76 : decode cX6_burst 76 = .ok (.ldc 239, 2) := by decide +kernel
theorem dX6_burst_78 : decode cX6_burst 78 = .ok (.if_icmp .le 5, 3) := by decide +kernel
theorem dX6_burst_81 : decode cX6_burst 81 = .ok (.iconst (-1), 1) := by decide +kernel
theorem dX6_burst_82 : decode cX6_burst 82 = .ok (.ireturn, 1) := by decide +kernel
theorem dX6_burst_83 : decode cX6_burst 83 = .ok (.aload_n 0, 1) := by decide +kernel
theorem dX6_burst_84 : decode cX6_burst 84 = .ok (.iload_n 1, 1) := by decide +kernel
theorem dX6_burst_85 : decode cX6_burst 85 = .ok (.iconst 2, 1) := by decide +kernel
theorem dX6_burst_86 : decode cX6_burst 86 = .ok (.invokevirtual 80, 3) := by decide +kernel
theorem dX6_burst_89 : decode cX6_burst 89 = .ok (.iconst 1, 1) := by decide +kernel
theorem dX6_burst_90 : decode cX6_burst 90 = .ok (.if_icmp .eq 17, 3) := by decide +kernel
theorem dX6_burst_93 : decode cX6_burst 93 = .ok (.aload_n 0, 1) := by decide +kernel
theorem dX6_burst_94 : decode cX6_burst 94 = .ok (.iload_n 1, 1) := by decide +kernel
theorem dX6_burst_95 : decode cX6_burst 95 = .ok (.invokevirtual 116, 3) := by decide +kernel
theorem dX6_burst_98 : decode cX6_burst 98 = .ok (.iload_n 2, 1) := by decide +kernel
theorem dX6_burst_99 : decode cX6_burst 99 = .ok (.iadd, 1) := by decide +kernel
theorem dX6_burst_100 : decode cX6_burst 100 = .ok (.bipush 120, 2) := by decide +kernel
theorem dX6_burst_102 : decode cX6_burst 102 = .ok (.if_icmp .le 5, 3) := by decide +kernel
theorem dX6_burst_105 : decode cX6_burst 105 = .ok (.iconst (-1), 1) := by decide +kernel
theorem dX6_burst_106 : decode cX6_burst 106 = .ok (.ireturn, 1) := by decide +kernel
theorem dX6_burst_107 : decode cX6_burst 107 = .ok (.aload_n 0, 1) := by decide +kernel
theorem dX6_burst_108 : decode cX6_burst 108 = .ok (.iload_n 1, 1) := by decide +kernel
theorem dX6_burst_109 : decode cX6_burst 109 = .ok (.bipush 6, 2) := by decide +kernel
theorem dX6_burst_111 : decode cX6_burst 111 = .ok (.invokevirtual 80, 3) := by decide +kernel
theorem dX6_burst_114 : decode cX6_burst 114 = .ok (.iconst 1, 1) := by decide +kernel
theorem dX6_burst_115 : decode cX6_burst 115 = .ok (.iadd, 1) := by decide +kernel
theorem dX6_burst_116 : decode cX6_burst 116 = .ok (.istore 5, 2) := by decide +kernel
theorem dX6_burst_118 : decode cX6_burst 118 = .ok (.iconst 0, 1) := by decide +kernel
theorem dX6_burst_119 : decode cX6_burst 119 = .ok (.istore 6, 2) := by decide +kernel
theorem dX6_burst_121 : decode cX6_burst 121 = .ok (.iload 6, 2) := by decide +kernel
theorem dX6_burst_123 : decode cX6_burst 123 = .ok (.iload_n 2, 1) := by decide +kernel
theorem dX6_burst_124 : decode cX6_burst 124 = .ok (.if_icmp .ge 36, 3) := by decide +kernel
theorem dX6_burst_127 : decode cX6_burst 127 = .ok (.aload_n 0, 1) := by decide +kernel
theorem dX6_burst_128 : decode cX6_burst 128 = .ok (.iload_n 1, 1) := by decide +kernel
theorem dX6_burst_129 : decode cX6_burst 129 = .ok (.iload 5, 2) := by decide +kernel
theorem dX6_burst_131 : decode cX6_burst 131 = .ok (.iload 6, 2) := by decide +kernel
theorem dX6_burst_133 : decode cX6_burst 133 = .ok (.iadd, 1) := by decide +kernel
theorem dX6_burst_134 : decode cX6_burst 134 = .ok (.invokevirtual 256, 3) := by decide +kernel
theorem dX6_burst_137 : decode cX6_burst 137 = .ok (.aload_n 0, 1) := by decide +kernel
theorem dX6_burst_138 : decode cX6_burst 138 = .ok (.iload_n 1, 1) := by decide +kernel
theorem dX6_burst_139 : decode cX6_burst 139 = .ok (.iload 5, 2) := by decide +kernel
theorem dX6_burst_141 : decode cX6_burst 141 = .ok (.iload 6, 2) := by decide +kernel
theorem dX6_burst_143 : decode cX6_burst 143 = .ok (.iadd, 1) := by decide +kernel
theorem dX6_burst_144 : decode cX6_burst 144 = .ok (.iload_n 3, 1) := by decide +kernel
theorem dX6_burst_145 : decode cX6_burst 145 = .ok (.iload 4, 2) := by decide +kernel
theorem dX6_burst_147 : decode cX6_burst 147 = .ok (.iload 6, 2) := by decide +kernel
theorem dX6_burst_149 : decode cX6_burst 149 = .ok (.imul, 1) := by decide +kernel
theorem dX6_burst_150 : decode cX6_burst 150 = .ok (.iadd, 1) := by decide +kernel
theorem dX6_burst_151 : decode cX6_burst 151 = .ok (.invokevirtual 253, 3) := by decide +kernel
theorem dX6_burst_154 : decode cX6_burst 154 = .ok (.iinc 6 1, 3) := by decide +kernel
theorem dX6_burst_157 : decode cX6_burst 157 = .ok (.goto (-36), 3) := by decide +kernel
theorem dX6_burst_160 : decode cX6_burst 160 = .ok (.aload_n 0, 1) := by decide +kernel
theorem dX6_burst_161 : decode cX6_burst 161 = .ok (.iload_n 1, 1) := by decide +kernel
theorem dX6_burst_162 : decode cX6_burst 162 = .ok (.invokevirtual 259, 3) := by decide +kernel
theorem dX6_burst_165 : decode cX6_burst 165 = .ok (.ireturn, 1) := by decide +kernel
theorem dX6_leave_0 : decode cX6_leave 0 = .ok (.aload_n 0, 1) := by decide +kernel
theorem dX6_leave_1 : decode cX6_leave 1 = .ok (.iload_n 1, 1) := by decide +kernel
theorem dX6_leave_2 : decode cX6_leave 2 = .ok (.invokevirtual 124, 3) := by decide +kernel
theorem dX6_leave_5 : decode cX6_leave 5 = .ok (.ifCond .eq 16, 3) := by decide +kernel
theorem dX6_leave_8 : decode cX6_leave 8 = .ok (.iload_n 2, 1) := by decide +kernel
theorem dX6_leave_9 : decode cX6_leave 9 = .ok (.iconst 0, 1) := by decide +kernel
theorem dX6_leave_10 : decode cX6_leave 10 = .ok (.aload_n 0, 1) := by decide +kernel
theorem dX6_leave_11 : decode cX6_leave 11 = .ok (.iload_n 1, 1) := by decide +kernel
theorem dX6_leave_12 : decode cX6_leave 12 = .ok (.invokevirtual 116, 3) := by decide +kernel
theorem dX6_leave_15 : decode cX6_leave 15 = .ok (.invokestatic 76, 3) := by decide +kernel
theorem dX6_leave_18 : decode cX6_leave 18 = .ok (.ifCond .ne 5, 3) := by decide +kernel
theorem dX6_leave_21 : decode cX6_leave 21 = .ok (.iconst (-1), 1) := by decide +kernel
theorem dX6_leave_22 : decode cX6_leave 22 = .ok (.ireturn, 1) := by decide +kernel
theorem dX6_leave_23 : decode cX6_leave 23 = .ok (.iconst 0, 1) := by decide +kernel
theorem dX6_leave_24 : decode cX6_leave 24 = .ok (.istore_n 3, 1) := by decide +kernel
theorem dX6_leave_25 : decode cX6_leave 25 = .ok (.iload_n 3, 1) := by decide +kernel
theorem dX6_leave_26 : decode cX6_leave 26 = .ok (.iload_n 2, 1) := by decide +kernel
theorem dX6_leave_27 : decode cX6_leave 27 = .ok (.if_icmp .ge 14, 3) := by decide +kernel
theorem dX6_leave_30 : decode cX6_leave 30 = .ok (.aload_n 0, 1) := by decide +kernel
theorem dX6_leave_31 : decode cX6_leave 31 = .ok (.iload_n 1, 1) := by decide +kernel
theorem dX6_leave_32 : decode cX6_leave 32 = .ok (.invokevirtual 233, 3) := by decide +kernel
theorem dX6_leave_35 : decode cX6_leave 35 = .ok (.iinc 3 1, 3) := by decide +kernel
theorem dX6_leave_38 : decode cX6_leave 38 = .ok (.goto (-13), 3) := by decide +kernel
theorem dX6_leave_41 : decode cX6_leave 41 = .ok (.aload_n 0, 1) := by decide +kernel
theorem dX6_leave_42 : decode cX6_leave 42 = .ok (.iload_n 1, 1) := by decide +kernel
theorem dX6_leave_43 : decode cX6_leave 43 = .ok (.invokevirtual 116, 3) := by decide +kernel
theorem dX6_leave_46 : decode cX6_leave 46 = .ok (.ireturn, 1) := by decide +kernel
theorem dX6_until_0 : decode cX6_until 0 = .ok (.aload_n 0, 1) := by decide +kernel
theorem dX6_until_1 : decode cX6_until 1 = .ok (.iload_n 1, 1) := by decide +kernel
theorem dX6_until_2 : decode cX6_until 2 = .ok (.invokevirtual 124, 3) := by decide +kernel
theorem dX6_until_5 : decode cX6_until 5 = .ok (.ifCond .ne 5, 3) := by decide +kernel
theorem dX6_until_8 : decode cX6_until 8 = .ok (.iconst (-1), 1) := by decide +kernel
theorem dX6_until_9 : decode cX6_until 9 = .ok (.ireturn, 1) := by decide +kernel
theorem dX6_until_10 : decode cX6_until 10 = .ok (.aload_n 0, 1) := by decide +kernel
theorem dX6_until_11 : decode cX6_until 11 = .ok (.iload_n 1, 1) := by decide +kernel
theorem dX6_until_12 : decode cX6_until 12 = .ok (.iload_n 2, 1) := by decide +kernel
theorem dX6_until_13 : decode cX6_until 13 = .ok (.invokevirtual 224, 3) := by decide +kernel
theorem dX6_until_16 : decode cX6_until 16 = .ok (.istore_n 3, 1) := by decide +kernel
theorem dX6_until_17 : decode cX6_until 17 = .ok (.iconst 0, 1) := by decide +kernel
theorem dX6_until_18 : decode cX6_until 18 = .ok (.istore 4, 2) := by decide +kernel
theorem dX6_until_20 : decode cX6_until 20 = .ok (.iload 4, 2) := by decide +kernel
theorem dX6_until_22 : decode cX6_until 22 = .ok (.iload_n 3, 1) := by decide +kernel
theorem dX6_until_23 : decode cX6_until 23 = .ok (.if_icmp .ge 14, 3) := by decide +kernel
theorem dX6_until_26 : decode cX6_until 26 = .ok (.aload_n 0, 1) := by decide +kernel
theorem dX6_until_27 : decode cX6_until 27 = .ok (.iload_n 1, 1) := by decide +kernel
theorem dX6_until_28 : decode cX6_until 28 = .ok (.invokevirtual 233, 3) := by decide +kernel
theorem dX6_until_31 : decode cX6_until 31 = .ok (.iinc 4 1, 3) := by decide +kernel
theorem dX6_until_34 : decode cX6_until 34 = .ok (.goto (-14), 3) := by decide +kernel
theorem dX6_until_37 : decode cX6_until 37 = .ok (.iload_n 3, 1) := by decide +kernel
theorem dX6_until_38 : decode cX6_until 38 = .ok (.ireturn, 1) := by decide +kernel
theorem dX6_isEvent_0 : decode cX6_isEvent 0 = .ok (.aload_n 0, 1) := by decide +kernel
theorem dX6_isEvent_1 : decode cX6_isEvent 1 = .ok (.iload_n 1, 1) := by decide +kernel
theorem dX6_isEvent_2 : decode cX6_isEvent 2 = .ok (.invokevirtual 124, 3) := by decide +kernel
theorem dX6_isEvent_5 : decode cX6_isEvent 5 = .ok (.ifCond .eq 22, 3) := by decide +kernel
theorem dX6_isEvent_8 : decode cX6_isEvent 8 = .ok (.iload_n 2, 1) := by decide +kernel
theorem dX6_isEvent_9 : decode cX6_isEvent 9 = .ok (.iconst 0, 1) := by decide +kernel
theorem dX6_isEvent_10 : decode cX6_isEvent 10 = .ok (.aload_n 0, 1) := by decide +kernel
theorem dX6_isEvent_11 : decode cX6_isEvent 11 = .ok (.iload_n 1, 1) := by decide +kernel
theorem dX6_isEvent_12 : decode cX6_isEvent 12 = .ok (.invokevirtual 116, 3) := by decide +kernel
theorem dX6_isEvent_15 : decode cX6_isEvent 15 = .ok (.iconst 1, 1) := by decide +kernel
theorem dX6_isEvent_16 : decode cX6_isEvent 16 = .ok (.isub, 1) := by decide +kernel
theorem dX6_isEvent_17 : decode cX6_isEvent 17 = .ok (.invokestatic 76, 3) := by decide +kernel
theorem dX6_isEvent_20 : decode cX6_isEvent 20 = .ok (.ifCond .eq 7, 3) := by decide +kernel
theorem dX6_isEvent_23 : decode cX6_isEvent 23 = .ok (.iconst 1, 1) := by decide +kernel
theorem dX6_isEvent_24 : decode cX6_isEvent 24 = .ok (.goto 4, 3) := by decide +kernel
theorem dX6_isEvent_27 : decode cX6_isEvent 27 = .ok (.iconst 0, 1) := by decide +kernel
theorem dX6_isEvent_28 : decode cX6_isEvent 28 = .ok (.ireturn, 1) := by decide +kernel
theorem dX6_take_0 : decode cX6_take 0 = .ok (.aload_n 0, 1) := by decide +kernel
theorem dX6_take_1 : decode cX6_take 1 = .ok (.iload_n 1, 1) := by decide +kernel
theorem dX6_take_2 : decode cX6_take 2 = .ok (.iload_n 2, 1) := by decide +kernel
theorem dX6_take_3 : decode cX6_take 3 = .ok (.invokevirtual 262, 3) := by decide +kernel
theorem dX6_take_6 : decode cX6_take 6 = .ok (.ifCond .ne 6, 3) := by decide +kernel
theorem dX6_take_9 : decode cX6_take 9 = .ok (.ldc 160, 2) := by decide +kernel
theorem dX6_take_11 : decode cX6_take 11 = .ok (.ireturn, 1) := by decide +kernel
theorem dX6_take_12 : decode cX6_take 12 = .ok (.aload_n 0, 1) := by decide +kernel
theorem dX6_take_13 : decode cX6_take 13 = .ok (.getfield 16, 3) := by decide +kernel
theorem dX6_take_16 : decode cX6_take 16 = .ok (.bipush 121, 2) := by decide +kernel
theorem dX6_take_18 : decode cX6_take 18 = .ok (.iload_n 1, 1) := by decide +kernel
theorem dX6_take_19 : decode cX6_take 19 = .ok (.imul, 1) := by decide +kernel
theorem dX6_take_20 : decode cX6_take 20 = .ok (.iload_n 2, 1) := by decide +kernel
theorem dX6_take_21 : decode cX6_take 21 = .ok (.iadd, 1) := by decide +kernel
theorem dX6_take_22 : decode cX6_take 22 = .ok (.iaload, 1) := by decide +kernel
theorem dX6_take_23 : decode cX6_take 23 = .ok (.istore_n 3, 1) := by decide +kernel
theorem dX6_take_24 : decode cX6_take 24 = .ok (.aload_n 0, 1) := by decide +kernel
theorem dX6_take_25 : decode cX6_take 25 = .ok (.iload_n 1, 1) := by decide +kernel
theorem dX6_take_26 : decode cX6_take 26 = .ok (.iload_n 2, 1) := by decide +kernel
theorem dX6_take_27 : decode cX6_take 27 = .ok (.iconst 0, 1) := by decide +kernel
theorem dX6_take_28 : decode cX6_take 28 = .ok (.invokevirtual 217, 3) := by decide +kernel
theorem dX6_take_31 : decode cX6_take 31 = .ok (.aload_n 0, 1) := by decide +kernel
theorem dX6_take_32 : decode cX6_take 32 = .ok (.iload_n 1, 1) := by decide +kernel
theorem dX6_take_33 : decode cX6_take 33 = .ok (.iconst 5, 1) := by decide +kernel
theorem dX6_take_34 : decode cX6_take 34 = .ok (.iconst (-1), 1) := by decide +kernel
theorem dX6_take_35 : decode cX6_take 35 = .ok (.invokevirtual 188, 3) := by decide +kernel
theorem dX6_take_38 : decode cX6_take 38 = .ok (.aload_n 0, 1) := by decide +kernel
theorem dX6_take_39 : decode cX6_take 39 = .ok (.iload_n 1, 1) := by decide +kernel
theorem dX6_take_40 : decode cX6_take 40 = .ok (.invokevirtual 227, 3) := by decide +kernel
theorem dX6_take_43 : decode cX6_take 43 = .ok (.iload_n 3, 1) := by decide +kernel
theorem dX6_take_44 : decode cX6_take 44 = .ok (.ireturn, 1) := by decide +kernel
theorem dX6_alter_0 : decode cX6_alter 0 = .ok (.aload_n 0, 1) := by decide +kernel
theorem dX6_alter_1 : decode cX6_alter 1 = .ok (.iload_n 1, 1) := by decide +kernel
theorem dX6_alter_2 : decode cX6_alter 2 = .ok (.iload_n 2, 1) := by decide +kernel
theorem dX6_alter_3 : decode cX6_alter 3 = .ok (.invokevirtual 262, 3) := by decide +kernel
theorem dX6_alter_6 : decode cX6_alter 6 = .ok (.ifCond .eq 16, 3) := by decide +kernel
theorem dX6_alter_9 : decode cX6_alter 9 = .ok (.iload_n 3, 1) := by decide +kernel
theorem dX6_alter_10 : decode cX6_alter 10 = .ok (.sipush (-1000), 3) := by decide +kernel
theorem dX6_alter_13 : decode cX6_alter 13 = .ok (.sipush 1000, 3) := by decide +kernel
theorem dX6_alter_16 : decode cX6_alter 16 = .ok (.invokestatic 76, 3) := by decide +kernel
theorem dX6_alter_19 : decode cX6_alter 19 = .ok (.ifCond .ne 5, 3) := by decide +kernel
theorem dX6_alter_22 : decode cX6_alter 22 = .ok (.iconst 0, 1) := by decide +kernel
theorem dX6_alter_23 : decode cX6_alter 23 = .ok (.ireturn, 1) := by decide +kernel
theorem dX6_alter_24 : decode cX6_alter 24 = .ok (.aload_n 0, 1) := by decide +kernel
theorem dX6_alter_25 : decode cX6_alter 25 = .ok (.getfield 16, 3) := by decide +kernel
theorem dX6_alter_28 : decode cX6_alter 28 = .ok (.bipush 121, 2) := by decide +kernel
theorem dX6_alter_30 : decode cX6_alter 30 = .ok (.iload_n 1, 1) := by decide +kernel
theorem dX6_alter_31 : decode cX6_alter 31 = .ok (.imul, 1) := by decide +kernel
theorem dX6_alter_32 : decode cX6_alter 32 = .ok (.iload_n 2, 1) := by decide +kernel
theorem dX6_alter_33 : decode cX6_alter 33 = .ok (.iadd, 1) := by decide +kernel
theorem dX6_alter_34 : decode cX6_alter 34 = .ok (.iload_n 3, 1) := by decide +kernel
theorem dX6_alter_35 : decode cX6_alter 35 = .ok (.iastore, 1) := by decide +kernel
theorem dX6_alter_36 : decode cX6_alter 36 = .ok (.aload_n 0, 1) := by decide +kernel
theorem dX6_alter_37 : decode cX6_alter 37 = .ok (.iload_n 1, 1) := by decide +kernel
theorem dX6_alter_38 : decode cX6_alter 38 = .ok (.invokevirtual 227, 3) := by decide +kernel
theorem dX6_alter_41 : decode cX6_alter 41 = .ok (.iconst 1, 1) := by decide +kernel
theorem dX6_alter_42 : decode cX6_alter 42 = .ok (.ireturn, 1) := by decide +kernel
theorem dX6_event_0 : decode cX6_event 0 = .ok (.aload_n 0, 1) := by decide +kernel
theorem dX6_event_1 : decode cX6_event 1 = .ok (.iload_n 1, 1) := by decide +kernel
theorem dX6_event_2 : decode cX6_event 2 = .ok (.iload_n 2, 1) := by decide +kernel
theorem dX6_event_3 : decode cX6_event 3 = .ok (.invokevirtual 262, 3) := by decide +kernel
theorem dX6_event_6 : decode cX6_event 6 = .ok (.ifCond .ne 6, 3) := by decide +kernel
theorem dX6_event_9 : decode cX6_event 9 = .ok (.ldc 160, 2) := by decide +kernel
theorem dX6_event_11 : decode cX6_event 11 = .ok (.ireturn, 1) := by decide +kernel
theorem dX6_event_12 : decode cX6_event 12 = .ok (.iload_n 3, 1) := by decide +kernel
theorem dX6_event_13 : decode cX6_event 13 = .ok (.tableswitch 63 0 2 #[27, 39, 51], 27) := by decide +kernel
theorem dX6_event_40 : decode cX6_event 40 = .ok (.aload_n 0, 1) := by decide +kernel
theorem dX6_event_41 : decode cX6_event 41 = .ok (.getfield 13, 3) := by decide +kernel
theorem dX6_event_44 : decode cX6_event 44 = .ok (.bipush 121, 2) := by decide +kernel
theorem dX6_event_46 : decode cX6_event 46 = .ok (.iload_n 1, 1) := by decide +kernel
theorem dX6_event_47 : decode cX6_event 47 = .ok (.imul, 1) := by decide +kernel
theorem dX6_event_48 : decode cX6_event 48 = .ok (.iload_n 2, 1) := by decide +kernel
theorem dX6_event_49 : decode cX6_event 49 = .ok (.iadd, 1) := by decide +kernel
theorem dX6_event_50 : decode cX6_event 50 = .ok (.iaload, 1) := by decide +kernel
theorem dX6_event_51 : decode cX6_event 51 = .ok (.ireturn, 1) := by decide +kernel
theorem dX6_event_52 : decode cX6_event 52 = .ok (.aload_n 0, 1) := by decide +kernel
theorem dX6_event_53 : decode cX6_event 53 = .ok (.getfield 16, 3) := by decide +kernel
theorem dX6_event_56 : decode cX6_event 56 = .ok (.bipush 121, 2) := by decide +kernel
theorem dX6_event_58 : decode cX6_event 58 = .ok (.iload_n 1, 1) := by decide +kernel
theorem dX6_event_59 : decode cX6_event 59 = .ok (.imul, 1) := by decide +kernel
theorem dX6_event_60 : decode cX6_event 60 = .ok (.iload_n 2, 1) := by decide +kernel
theorem dX6_event_61 : decode cX6_event 61 = .ok (.iadd, 1) := by decide +kernel
theorem dX6_event_62 : decode cX6_event 62 = .ok (.iaload, 1) := by decide +kernel
theorem dX6_event_63 : decode cX6_event 63 = .ok (.ireturn, 1) := by decide +kernel
theorem dX6_event_64 : decode cX6_event 64 = .ok (.aload_n 0, 1) := by decide +kernel
theorem dX6_event_65 : decode cX6_event 65 = .ok (.getfield 19, 3) := by decide +kernel
theorem dX6_event_68 : decode cX6_event 68 = .ok (.bipush 121, 2) := by decide +kernel
theorem dX6_event_70 : decode cX6_event 70 = .ok (.iload_n 1, 1) := by decide +kernel
theorem dX6_event_71 : decode cX6_event 71 = .ok (.imul, 1) := by decide +kernel
theorem dX6_event_72 : decode cX6_event 72 = .ok (.iload_n 2, 1) := by decide +kernel
theorem dX6_event_73 : decode cX6_event 73 = .ok (.iadd, 1) := by decide +kernel
theorem dX6_event_74 : decode cX6_event 74 = .ok (.iaload, 1) := by decide +kernel
theorem dX6_event_75 : decode cX6_event 75 = .ok (.ireturn, 1) := by decide +kernel
theorem dX6_event_76 : decode cX6_event 76 = .ok (.ldc 160, 2) := by decide +kernel
theorem dX6_event_78 : decode cX6_event 78 = .ok (.ireturn, 1) := by decide +kernel
theorem dX6_comesFrom_0 : decode cX6_comesFrom 0 = .ok (.aload_n 0, 1) := by decide +kernel
theorem dX6_comesFrom_1 : decode cX6_comesFrom 1 = .ok (.invokevirtual 113, 3) := by decide +kernel
theorem dX6_comesFrom_4 : decode cX6_comesFrom 4 = .ok (.aload_n 0, 1) := by decide +kernel
theorem dX6_comesFrom_5 : decode cX6_comesFrom 5 = .ok (.iload_n 1, 1) := by decide +kernel
theorem dX6_comesFrom_6 : decode cX6_comesFrom 6 = .ok (.iload_n 2, 1) := by decide +kernel
theorem dX6_comesFrom_7 : decode cX6_comesFrom 7 = .ok (.iload_n 3, 1) := by decide +kernel
theorem dX6_comesFrom_8 : decode cX6_comesFrom 8 = .ok (.invokevirtual 120, 3) := by decide +kernel
theorem dX6_comesFrom_11 : decode cX6_comesFrom 11 = .ok (.aload_n 0, 1) := by decide +kernel
theorem dX6_comesFrom_12 : decode cX6_comesFrom 12 = .ok (.aload_n 0, 1) := by decide +kernel
theorem dX6_comesFrom_13 : decode cX6_comesFrom 13 = .ok (.iload_n 1, 1) := by decide +kernel
theorem dX6_comesFrom_14 : decode cX6_comesFrom 14 = .ok (.iconst 1, 1) := by decide +kernel
theorem dX6_comesFrom_15 : decode cX6_comesFrom 15 = .ok (.invokevirtual 80, 3) := by decide +kernel
theorem dX6_comesFrom_18 : decode cX6_comesFrom 18 = .ok (.iload 4, 2) := by decide +kernel
theorem dX6_comesFrom_20 : decode cX6_comesFrom 20 = .ok (.invokevirtual 197, 3) := by decide +kernel
theorem dX6_comesFrom_23 : decode cX6_comesFrom 23 = .ok (.ireturn, 1) := by decide +kernel
theorem dX6_total_0 : decode cX6_total 0 = .ok (.aload_n 0, 1) := by decide +kernel
theorem dX6_total_1 : decode cX6_total 1 = .ok (.iload_n 1, 1) := by decide +kernel
theorem dX6_total_2 : decode cX6_total 2 = .ok (.iload_n 2, 1) := by decide +kernel
theorem dX6_total_3 : decode cX6_total 3 = .ok (.invokevirtual 207, 3) := by decide +kernel
theorem dX6_total_6 : decode cX6_total 6 = .ok (.ifCond .eq 20, 3) := by decide +kernel
theorem dX6_total_9 : decode cX6_total 9 = .ok (.aload_n 0, 1) := by decide +kernel
theorem dX6_total_10 : decode cX6_total 10 = .ok (.iload_n 1, 1) := by decide +kernel
theorem dX6_total_11 : decode cX6_total 11 = .ok (.iconst 0, 1) := by decide +kernel
theorem dX6_total_12 : decode cX6_total 12 = .ok (.aload_n 0, 1) := by decide +kernel
theorem dX6_total_13 : decode cX6_total 13 = .ok (.iload_n 1, 1) := by decide +kernel
theorem dX6_total_14 : decode cX6_total 14 = .ok (.invokevirtual 116, 3) := by decide +kernel
theorem dX6_total_17 : decode cX6_total 17 = .ok (.iconst 1, 1) := by decide +kernel
theorem dX6_total_18 : decode cX6_total 18 = .ok (.isub, 1) := by decide +kernel
theorem dX6_total_19 : decode cX6_total 19 = .ok (.iload_n 2, 1) := by decide +kernel
theorem dX6_total_20 : decode cX6_total 20 = .ok (.invokevirtual 243, 3) := by decide +kernel
theorem dX6_total_23 : decode cX6_total 23 = .ok (.goto 5, 3) := by decide +kernel
theorem dX6_total_26 : decode cX6_total 26 = .ok (.ldc 160, 2) := by decide +kernel
theorem dX6_total_28 : decode cX6_total 28 = .ok (.ireturn, 1) := by decide +kernel
theorem dX6_part_0 : decode cX6_part 0 = .ok (.aload_n 0, 1) := by decide +kernel
theorem dX6_part_1 : decode cX6_part 1 = .ok (.iload_n 1, 1) := by decide +kernel
theorem dX6_part_2 : decode cX6_part 2 = .ok (.iload 4, 2) := by decide +kernel
theorem dX6_part_4 : decode cX6_part 4 = .ok (.invokevirtual 207, 3) := by decide +kernel
theorem dX6_part_7 : decode cX6_part 7 = .ok (.ifCond .eq 26, 3) := by decide +kernel
theorem dX6_part_10 : decode cX6_part 10 = .ok (.aload_n 0, 1) := by decide +kernel
theorem dX6_part_11 : decode cX6_part 11 = .ok (.iload_n 1, 1) := by decide +kernel
theorem dX6_part_12 : decode cX6_part 12 = .ok (.iload_n 2, 1) := by decide +kernel
theorem dX6_part_13 : decode cX6_part 13 = .ok (.invokevirtual 262, 3) := by decide +kernel
theorem dX6_part_16 : decode cX6_part 16 = .ok (.ifCond .eq 17, 3) := by decide +kernel
theorem dX6_part_19 : decode cX6_part 19 = .ok (.aload_n 0, 1) := by decide +kernel
theorem dX6_part_20 : decode cX6_part 20 = .ok (.iload_n 1, 1) := by decide +kernel
theorem dX6_part_21 : decode cX6_part 21 = .ok (.iload_n 3, 1) := by decide +kernel
theorem dX6_part_22 : decode cX6_part 22 = .ok (.invokevirtual 262, 3) := by decide +kernel
theorem dX6_part_25 : decode cX6_part 25 = .ok (.ifCond .eq 8, 3) := by decide +kernel
theorem dX6_part_28 : decode cX6_part 28 = .ok (.iload_n 2, 1) := by decide +kernel
theorem dX6_part_29 : decode cX6_part 29 = .ok (.iload_n 3, 1) := by decide +kernel
theorem dX6_part_30 : decode cX6_part 30 = .ok (.if_icmp .le 6, 3) := by decide +kernel
theorem dX6_part_33 : decode cX6_part 33 = .ok (.ldc 160, 2) := by decide +kernel
theorem dX6_part_35 : decode cX6_part 35 = .ok (.ireturn, 1) := by decide +kernel
theorem dX6_part_36 : decode cX6_part 36 = .ok (.aload_n 0, 1) := by decide +kernel
theorem dX6_part_37 : decode cX6_part 37 = .ok (.iload_n 1, 1) := by decide +kernel
theorem dX6_part_38 : decode cX6_part 38 = .ok (.iload_n 2, 1) := by decide +kernel
theorem dX6_part_39 : decode cX6_part 39 = .ok (.iload_n 3, 1) := by decide +kernel
theorem dX6_part_40 : decode cX6_part 40 = .ok (.iload 4, 2) := by decide +kernel
theorem dX6_part_42 : decode cX6_part 42 = .ok (.invokevirtual 243, 3) := by decide +kernel
theorem dX6_part_45 : decode cX6_part 45 = .ok (.ireturn, 1) := by decide +kernel
theorem dX6_aheadOf_0 : decode cX6_aheadOf 0 = .ok (.iload_n 2, 1) := by decide +kernel
theorem dX6_aheadOf_1 : decode cX6_aheadOf 1 = .ok (.ldc 160, 2) := by decide +kernel
theorem dX6_aheadOf_3 : decode cX6_aheadOf 3 = .ok (.if_icmp .ne 7, 3) := by decide +kernel
theorem dX6_aheadOf_6 : decode cX6_aheadOf 6 = .ok (.iconst 0, 1) := by decide +kernel
theorem dX6_aheadOf_7 : decode cX6_aheadOf 7 = .ok (.goto 11, 3) := by decide +kernel
theorem dX6_aheadOf_10 : decode cX6_aheadOf 10 = .ok (.aload_n 0, 1) := by decide +kernel
theorem dX6_aheadOf_11 : decode cX6_aheadOf 11 = .ok (.iload_n 1, 1) := by decide +kernel
theorem dX6_aheadOf_12 : decode cX6_aheadOf 12 = .ok (.iload_n 2, 1) := by decide +kernel
theorem dX6_aheadOf_13 : decode cX6_aheadOf 13 = .ok (.iconst 1, 1) := by decide +kernel
theorem dX6_aheadOf_14 : decode cX6_aheadOf 14 = .ok (.isub, 1) := by decide +kernel
theorem dX6_aheadOf_15 : decode cX6_aheadOf 15 = .ok (.invokevirtual 224, 3) := by decide +kernel
theorem dX6_aheadOf_18 : decode cX6_aheadOf 18 = .ok (.ireturn, 1) := by decide +kernel
theorem dX6_during_0 : decode cX6_during 0 = .ok (.aload_n 0, 1) := by decide +kernel
theorem dX6_during_1 : decode cX6_during 1 = .ok (.iload_n 1, 1) := by decide +kernel
theorem dX6_during_2 : decode cX6_during 2 = .ok (.iload 4, 2) := by decide +kernel
theorem dX6_during_4 : decode cX6_during 4 = .ok (.invokevirtual 207, 3) := by decide +kernel
theorem dX6_during_7 : decode cX6_during 7 = .ok (.ifCond .ne 6, 3) := by decide +kernel
theorem dX6_during_10 : decode cX6_during 10 = .ok (.ldc 160, 2) := by decide +kernel
theorem dX6_during_12 : decode cX6_during 12 = .ok (.ireturn, 1) := by decide +kernel
theorem dX6_during_13 : decode cX6_during 13 = .ok (.aload_n 0, 1) := by decide +kernel
theorem dX6_during_14 : decode cX6_during 14 = .ok (.iload_n 1, 1) := by decide +kernel
theorem dX6_during_15 : decode cX6_during 15 = .ok (.iload_n 2, 1) := by decide +kernel
theorem dX6_during_16 : decode cX6_during 16 = .ok (.invokevirtual 265, 3) := by decide +kernel
theorem dX6_during_19 : decode cX6_during 19 = .ok (.istore 5, 2) := by decide +kernel
theorem dX6_during_21 : decode cX6_during 21 = .ok (.aload_n 0, 1) := by decide +kernel
theorem dX6_during_22 : decode cX6_during 22 = .ok (.iload_n 1, 1) := by decide +kernel
theorem dX6_during_23 : decode cX6_during 23 = .ok (.iload_n 3, 1) := by decide +kernel
theorem dX6_during_24 : decode cX6_during 24 = .ok (.invokevirtual 224, 3) := by decide +kernel
theorem dX6_during_27 : decode cX6_during 27 = .ok (.iconst 1, 1) := by decide +kernel
theorem dX6_during_28 : decode cX6_during 28 = .ok (.isub, 1) := by decide +kernel
theorem dX6_during_29 : decode cX6_during 29 = .ok (.istore 6, 2) := by decide +kernel
theorem dX6_during_31 : decode cX6_during 31 = .ok (.aload_n 0, 1) := by decide +kernel
theorem dX6_during_32 : decode cX6_during 32 = .ok (.iload_n 1, 1) := by decide +kernel
theorem dX6_during_33 : decode cX6_during 33 = .ok (.iload 5, 2) := by decide +kernel
theorem dX6_during_35 : decode cX6_during 35 = .ok (.iload 6, 2) := by decide +kernel
theorem dX6_during_37 : decode cX6_during 37 = .ok (.iload 4, 2) := by decide +kernel
theorem dX6_during_39 : decode cX6_during 39 = .ok (.invokevirtual 243, 3) := by decide +kernel
theorem dX6_during_42 : decode cX6_during 42 = .ok (.ireturn, 1) := by decide +kernel
theorem dX6_many_0 : decode cX6_many 0 = .ok (.aload_n 0, 1) := by decide +kernel
theorem dX6_many_1 : decode cX6_many 1 = .ok (.iload_n 1, 1) := by decide +kernel
theorem dX6_many_2 : decode cX6_many 2 = .ok (.invokevirtual 124, 3) := by decide +kernel
theorem dX6_many_5 : decode cX6_many 5 = .ok (.ifCond .ne 5, 3) := by decide +kernel
theorem dX6_many_8 : decode cX6_many 8 = .ok (.iconst (-1), 1) := by decide +kernel
theorem dX6_many_9 : decode cX6_many 9 = .ok (.ireturn, 1) := by decide +kernel
theorem dX6_many_10 : decode cX6_many 10 = .ok (.aload_n 0, 1) := by decide +kernel
theorem dX6_many_11 : decode cX6_many 11 = .ok (.iload_n 1, 1) := by decide +kernel
theorem dX6_many_12 : decode cX6_many 12 = .ok (.iload_n 3, 1) := by decide +kernel
theorem dX6_many_13 : decode cX6_many 13 = .ok (.invokevirtual 224, 3) := by decide +kernel
theorem dX6_many_16 : decode cX6_many 16 = .ok (.aload_n 0, 1) := by decide +kernel
theorem dX6_many_17 : decode cX6_many 17 = .ok (.iload_n 1, 1) := by decide +kernel
theorem dX6_many_18 : decode cX6_many 18 = .ok (.iload_n 2, 1) := by decide +kernel
theorem dX6_many_19 : decode cX6_many 19 = .ok (.invokevirtual 265, 3) := by decide +kernel
theorem dX6_many_22 : decode cX6_many 22 = .ok (.isub, 1) := by decide +kernel
theorem dX6_many_23 : decode cX6_many 23 = .ok (.istore 4, 2) := by decide +kernel
theorem dX6_many_25 : decode cX6_many 25 = .ok (.iload 4, 2) := by decide +kernel
theorem dX6_many_27 : decode cX6_many 27 = .ok (.ifCond .ge 7, 3) := by decide +kernel
theorem dX6_many_30 : decode cX6_many 30 = .ok (.iconst 0, 1) := by decide +kernel
theorem dX6_many_31 : decode cX6_many 31 = .ok (.goto 5, 3) := by decide +kernel
theorem dX6_many_34 : decode cX6_many 34 = .ok (.iload 4, 2) := by decide +kernel
theorem dX6_many_36 : decode cX6_many 36 = .ok (.ireturn, 1) := by decide +kernel
theorem dX6_reach_0 : decode cX6_reach 0 = .ok (.aload_n 0, 1) := by decide +kernel
theorem dX6_reach_1 : decode cX6_reach 1 = .ok (.iload_n 1, 1) := by decide +kernel
theorem dX6_reach_2 : decode cX6_reach 2 = .ok (.iload_n 2, 1) := by decide +kernel
theorem dX6_reach_3 : decode cX6_reach 3 = .ok (.invokevirtual 207, 3) := by decide +kernel
theorem dX6_reach_6 : decode cX6_reach 6 = .ok (.ifCond .ne 5, 3) := by decide +kernel
theorem dX6_reach_9 : decode cX6_reach 9 = .ok (.iconst (-1), 1) := by decide +kernel
theorem dX6_reach_10 : decode cX6_reach 10 = .ok (.ireturn, 1) := by decide +kernel
theorem dX6_reach_11 : decode cX6_reach 11 = .ok (.iconst 1, 1) := by decide +kernel
theorem dX6_reach_12 : decode cX6_reach 12 = .ok (.istore 4, 2) := by decide +kernel
theorem dX6_reach_14 : decode cX6_reach 14 = .ok (.iload 4, 2) := by decide +kernel
theorem dX6_reach_16 : decode cX6_reach 16 = .ok (.aload_n 0, 1) := by decide +kernel
theorem dX6_reach_17 : decode cX6_reach 17 = .ok (.iload_n 1, 1) := by decide +kernel
theorem dX6_reach_18 : decode cX6_reach 18 = .ok (.invokevirtual 116, 3) := by decide +kernel
theorem dX6_reach_21 : decode cX6_reach 21 = .ok (.if_icmp .gt 30, 3) := by decide +kernel
theorem dX6_reach_24 : decode cX6_reach 24 = .ok (.aload_n 0, 1) := by decide +kernel
theorem dX6_reach_25 : decode cX6_reach 25 = .ok (.iload_n 1, 1) := by decide +kernel
theorem dX6_reach_26 : decode cX6_reach 26 = .ok (.iconst 0, 1) := by decide +kernel
theorem dX6_reach_27 : decode cX6_reach 27 = .ok (.iload 4, 2) := by decide +kernel
theorem dX6_reach_29 : decode cX6_reach 29 = .ok (.iconst 1, 1) := by decide +kernel
theorem dX6_reach_30 : decode cX6_reach 30 = .ok (.isub, 1) := by decide +kernel
theorem dX6_reach_31 : decode cX6_reach 31 = .ok (.iload_n 2, 1) := by decide +kernel
theorem dX6_reach_32 : decode cX6_reach 32 = .ok (.invokevirtual 243, 3) := by decide +kernel
theorem dX6_reach_35 : decode cX6_reach 35 = .ok (.iload_n 3, 1) := by decide +kernel
theorem dX6_reach_36 : decode cX6_reach 36 = .ok (.invokestatic 200, 3) := by decide +kernel
theorem dX6_reach_39 : decode cX6_reach 39 = .ok (.ifCond .eq 6, 3) := by decide +kernel
theorem dX6_reach_42 : decode cX6_reach 42 = .ok (.iload 4, 2) := by decide +kernel
theorem dX6_reach_44 : decode cX6_reach 44 = .ok (.ireturn, 1) := by decide +kernel
theorem dX6_reach_45 : decode cX6_reach 45 = .ok (.iinc 4 1, 3) := by decide +kernel
theorem dX6_reach_48 : decode cX6_reach 48 = .ok (.goto (-34), 3) := by decide +kernel
theorem dX6_reach_51 : decode cX6_reach 51 = .ok (.iconst (-1), 1) := by decide +kernel
theorem dX6_reach_52 : decode cX6_reach 52 = .ok (.ireturn, 1) := by decide +kernel
theorem dX6_reachBack_0 : decode cX6_reachBack 0 = .ok (.aload_n 0, 1) := by decide +kernel
theorem dX6_reachBack_1 : decode cX6_reachBack 1 = .ok (.iload_n 1, 1) := by decide +kernel
theorem dX6_reachBack_2 : decode cX6_reachBack 2 = .ok (.iload_n 2, 1) := by decide +kernel
theorem dX6_reachBack_3 : decode cX6_reachBack 3 = .ok (.invokevirtual 207, 3) := by decide +kernel
theorem dX6_reachBack_6 : decode cX6_reachBack 6 = .ok (.ifCond .ne 5, 3) := by decide +kernel
theorem dX6_reachBack_9 : decode cX6_reachBack 9 = .ok (.iconst (-1), 1) := by decide +kernel
theorem dX6_reachBack_10 : decode cX6_reachBack 10 = .ok (.ireturn, 1) := by decide +kernel
theorem dX6_reachBack_11 : decode cX6_reachBack 11 = .ok (.iconst 1, 1) := by decide +kernel
theorem dX6_reachBack_12 : decode cX6_reachBack 12 = .ok (.istore 4, 2) := by decide +kernel
theorem dX6_reachBack_14 : decode cX6_reachBack 14 = .ok (.iload 4, 2) := by decide +kernel
theorem dX6_reachBack_16 : decode cX6_reachBack 16 = .ok (.aload_n 0, 1) := by decide +kernel
theorem dX6_reachBack_17 : decode cX6_reachBack 17 = .ok (.iload_n 1, 1) := by decide +kernel
theorem dX6_reachBack_18 : decode cX6_reachBack 18 = .ok (.invokevirtual 116, 3) := by decide +kernel
theorem dX6_reachBack_21 : decode cX6_reachBack 21 = .ok (.if_icmp .gt 40, 3) := by decide +kernel
theorem dX6_reachBack_24 : decode cX6_reachBack 24 = .ok (.aload_n 0, 1) := by decide +kernel
theorem dX6_reachBack_25 : decode cX6_reachBack 25 = .ok (.iload_n 1, 1) := by decide +kernel
theorem dX6_reachBack_26 : decode cX6_reachBack 26 = .ok (.aload_n 0, 1) := by decide +kernel
theorem dX6_reachBack_27 : decode cX6_reachBack 27 = .ok (.iload_n 1, 1) := by decide +kernel
theorem dX6_reachBack_28 : decode cX6_reachBack 28 = .ok (.invokevirtual 116, 3) := by decide +kernel
theorem dX6_reachBack_31 : decode cX6_reachBack 31 = .ok (.iload 4, 2) := by decide +kernel
theorem dX6_reachBack_33 : decode cX6_reachBack 33 = .ok (.isub, 1) := by decide +kernel
theorem dX6_reachBack_34 : decode cX6_reachBack 34 = .ok (.aload_n 0, 1) := by decide +kernel
theorem dX6_reachBack_35 : decode cX6_reachBack 35 = .ok (.iload_n 1, 1) := by decide +kernel
theorem dX6_reachBack_36 : decode cX6_reachBack 36 = .ok (.invokevirtual 116, 3) := by decide +kernel
theorem dX6_reachBack_39 : decode cX6_reachBack 39 = .ok (.iconst 1, 1) := by decide +kernel
theorem dX6_reachBack_40 : decode cX6_reachBack 40 = .ok (.isub, 1) := by decide +kernel
theorem dX6_reachBack_41 : decode cX6_reachBack 41 = .ok (.iload_n 2, 1) := by decide +kernel
theorem dX6_reachBack_42 : decode cX6_reachBack 42 = .ok (.invokevirtual 243, 3) := by decide +kernel
theorem dX6_reachBack_45 : decode cX6_reachBack 45 = .ok (.iload_n 3, 1) := by decide +kernel
theorem dX6_reachBack_46 : decode cX6_reachBack 46 = .ok (.invokestatic 200, 3) := by decide +kernel
theorem dX6_reachBack_49 : decode cX6_reachBack 49 = .ok (.ifCond .eq 6, 3) := by decide +kernel
theorem dX6_reachBack_52 : decode cX6_reachBack 52 = .ok (.iload 4, 2) := by decide +kernel
theorem dX6_reachBack_54 : decode cX6_reachBack 54 = .ok (.ireturn, 1) := by decide +kernel
theorem dX6_reachBack_55 : decode cX6_reachBack 55 = .ok (.iinc 4 1, 3) := by decide +kernel
theorem dX6_reachBack_58 : decode cX6_reachBack 58 = .ok (.goto (-44), 3) := by decide +kernel
theorem dX6_reachBack_61 : decode cX6_reachBack 61 = .ok (.iconst (-1), 1) := by decide +kernel
theorem dX6_reachBack_62 : decode cX6_reachBack 62 = .ok (.ireturn, 1) := by decide +kernel
theorem dX6_bestOf_0 : decode cX6_bestOf 0 = .ok (.aload_n 0, 1) := by decide +kernel
theorem dX6_bestOf_1 : decode cX6_bestOf 1 = .ok (.iload_n 1, 1) := by decide +kernel
theorem dX6_bestOf_2 : decode cX6_bestOf 2 = .ok (.iload_n 3, 1) := by decide +kernel
theorem dX6_bestOf_3 : decode cX6_bestOf 3 = .ok (.invokevirtual 207, 3) := by decide +kernel
theorem dX6_bestOf_6 : decode cX6_bestOf 6 = .ok (.ifCond .eq 16, 3) := by decide +kernel
theorem dX6_bestOf_9 : decode cX6_bestOf 9 = .ok (.iload_n 2, 1) := by decide +kernel
theorem dX6_bestOf_10 : decode cX6_bestOf 10 = .ok (.iconst 1, 1) := by decide +kernel
theorem dX6_bestOf_11 : decode cX6_bestOf 11 = .ok (.aload_n 0, 1) := by decide +kernel
theorem dX6_bestOf_12 : decode cX6_bestOf 12 = .ok (.iload_n 1, 1) := by decide +kernel
theorem dX6_bestOf_13 : decode cX6_bestOf 13 = .ok (.invokevirtual 116, 3) := by decide +kernel
theorem dX6_bestOf_16 : decode cX6_bestOf 16 = .ok (.invokestatic 76, 3) := by decide +kernel
theorem dX6_bestOf_19 : decode cX6_bestOf 19 = .ok (.ifCond .ne 5, 3) := by decide +kernel
theorem dX6_bestOf_22 : decode cX6_bestOf 22 = .ok (.iconst (-1), 1) := by decide +kernel
theorem dX6_bestOf_23 : decode cX6_bestOf 23 = .ok (.ireturn, 1) := by decide +kernel
theorem dX6_bestOf_24 : decode cX6_bestOf 24 = .ok (.iconst 0, 1) := by decide +kernel
theorem dX6_bestOf_25 : decode cX6_bestOf 25 = .ok (.istore 4, 2) := by decide +kernel
theorem dX6_bestOf_27 : decode cX6_bestOf 27 = .ok (.aload_n 0, 1) := by decide +kernel
theorem dX6_bestOf_28 : decode cX6_bestOf 28 = .ok (.iload_n 1, 1) := by decide +kernel
theorem dX6_bestOf_29 : decode cX6_bestOf 29 = .ok (.iconst 0, 1) := by decide +kernel
theorem dX6_bestOf_30 : decode cX6_bestOf 30 = .ok (.iload_n 2, 1) := by decide +kernel
theorem dX6_bestOf_31 : decode cX6_bestOf 31 = .ok (.iconst 1, 1) := by decide +kernel
theorem dX6_bestOf_32 : decode cX6_bestOf 32 = .ok (.isub, 1) := by decide +kernel
theorem dX6_bestOf_33 : decode cX6_bestOf 33 = .ok (.iload_n 3, 1) := by decide +kernel
theorem dX6_bestOf_34 : decode cX6_bestOf 34 = .ok (.invokevirtual 243, 3) := by decide +kernel
theorem dX6_bestOf_37 : decode cX6_bestOf 37 = .ok (.istore 5, 2) := by decide +kernel
theorem dX6_bestOf_39 : decode cX6_bestOf 39 = .ok (.iconst 1, 1) := by decide +kernel
theorem dX6_bestOf_40 : decode cX6_bestOf 40 = .ok (.istore 6, 2) := by decide +kernel
theorem dX6_bestOf_42 : decode cX6_bestOf 42 = .ok (.iload 6, 2) := by decide +kernel
theorem dX6_bestOf_44 : decode cX6_bestOf 44 = .ok (.iload_n 2, 1) := by decide +kernel
theorem dX6_bestOf_45 : decode cX6_bestOf 45 = .ok (.iadd, 1) := by decide +kernel
theorem dX6_bestOf_46 : decode cX6_bestOf 46 = .ok (.aload_n 0, 1) := by decide +kernel
theorem dX6_bestOf_47 : decode cX6_bestOf 47 = .ok (.iload_n 1, 1) := by decide +kernel
theorem dX6_bestOf_48 : decode cX6_bestOf 48 = .ok (.invokevirtual 116, 3) := by decide +kernel
theorem dX6_bestOf_51 : decode cX6_bestOf 51 = .ok (.if_icmp .gt 43, 3) := by decide +kernel
theorem dX6_bestOf_54 : decode cX6_bestOf 54 = .ok (.aload_n 0, 1) := by decide +kernel
theorem dX6_bestOf_55 : decode cX6_bestOf 55 = .ok (.iload_n 1, 1) := by decide +kernel
theorem dX6_bestOf_56 : decode cX6_bestOf 56 = .ok (.iload 6, 2) := by decide +kernel
theorem dX6_bestOf_58 : decode cX6_bestOf 58 = .ok (.iload 6, 2) := by decide +kernel
theorem dX6_bestOf_60 : decode cX6_bestOf 60 = .ok (.iload_n 2, 1) := by decide +kernel
theorem dX6_bestOf_61 : decode cX6_bestOf 61 = .ok (.iadd, 1) := by decide +kernel
theorem dX6_bestOf_62 : decode cX6_bestOf 62 = .ok (.iconst 1, 1) := by decide +kernel
theorem dX6_bestOf_63 : decode cX6_bestOf 63 = .ok (.isub, 1) := by decide +kernel
theorem dX6_bestOf_64 : decode cX6_bestOf 64 = .ok (.iload_n 3, 1) := by decide +kernel
theorem dX6_bestOf_65 : decode cX6_bestOf 65 = .ok (.invokevirtual 243, 3) := by decide +kernel
theorem dX6_bestOf_68 : decode cX6_bestOf 68 = .ok (.istore 7, 2) := by decide +kernel
theorem dX6_bestOf_70 : decode cX6_bestOf 70 = .ok (.iload 7, 2) := by decide +kernel
theorem dX6_bestOf_72 : decode cX6_bestOf 72 = .ok (.iload 5, 2) := by decide +kernel
theorem dX6_bestOf_74 : decode cX6_bestOf 74 = .ok (.if_icmp .gt 6, 3) := by decide +kernel
theorem dX6_bestOf_77 : decode cX6_bestOf 77 = .ok (.goto 11, 3) := by decide +kernel
theorem dX6_bestOf_80 : decode cX6_bestOf 80 = .ok (.iload 6, 2) := by decide +kernel
theorem dX6_bestOf_82 : decode cX6_bestOf 82 = .ok (.istore 4, 2) := by decide +kernel
theorem dX6_bestOf_84 : decode cX6_bestOf 84 = .ok (.iload 7, 2) := by decide +kernel
theorem dX6_bestOf_86 : decode cX6_bestOf 86 = .ok (.istore 5, 2) := by decide +kernel
theorem dX6_bestOf_88 : decode cX6_bestOf 88 = .ok (.iinc 6 1, 3) := by decide +kernel
theorem dX6_bestOf_91 : decode cX6_bestOf 91 = .ok (.goto (-49), 3) := by decide +kernel
theorem dX6_bestOf_94 : decode cX6_bestOf 94 = .ok (.iload 4, 2) := by decide +kernel
theorem dX6_bestOf_96 : decode cX6_bestOf 96 = .ok (.ireturn, 1) := by decide +kernel
theorem dX6_peakAt_0 : decode cX6_peakAt 0 = .ok (.aload_n 0, 1) := by decide +kernel
theorem dX6_peakAt_1 : decode cX6_peakAt 1 = .ok (.iload_n 1, 1) := by decide +kernel
theorem dX6_peakAt_2 : decode cX6_peakAt 2 = .ok (.iload_n 2, 1) := by decide +kernel
theorem dX6_peakAt_3 : decode cX6_peakAt 3 = .ok (.iload_n 3, 1) := by decide +kernel
theorem dX6_peakAt_4 : decode cX6_peakAt 4 = .ok (.invokevirtual 268, 3) := by decide +kernel
theorem dX6_peakAt_7 : decode cX6_peakAt 7 = .ok (.ireturn, 1) := by decide +kernel
theorem dX6_peak_0 : decode cX6_peak 0 = .ok (.aload_n 0, 1) := by decide +kernel
theorem dX6_peak_1 : decode cX6_peak 1 = .ok (.iload_n 1, 1) := by decide +kernel
theorem dX6_peak_2 : decode cX6_peak 2 = .ok (.iload_n 2, 1) := by decide +kernel
theorem dX6_peak_3 : decode cX6_peak 3 = .ok (.iload_n 3, 1) := by decide +kernel
theorem dX6_peak_4 : decode cX6_peak 4 = .ok (.invokevirtual 268, 3) := by decide +kernel
theorem dX6_peak_7 : decode cX6_peak 7 = .ok (.istore 4, 2) := by decide +kernel
theorem dX6_peak_9 : decode cX6_peak 9 = .ok (.iload 4, 2) := by decide +kernel
theorem dX6_peak_11 : decode cX6_peak 11 = .ok (.ifCond .ge 8, 3) := by decide +kernel
theorem dX6_peak_14 : decode cX6_peak 14 = .ok (.ldc 160, 2) := by decide +kernel
theorem dX6_peak_16 : decode cX6_peak 16 = .ok (.goto 17, 3) := by decide +kernel
theorem dX6_peak_19 : decode cX6_peak 19 = .ok (.aload_n 0, 1) := by decide +kernel
theorem dX6_peak_20 : decode cX6_peak 20 = .ok (.iload_n 1, 1) := by decide +kernel
theorem dX6_peak_21 : decode cX6_peak 21 = .ok (.iload 4, 2) := by decide +kernel
theorem dX6_peak_23 : decode cX6_peak 23 = .ok (.iload 4, 2) := by decide +kernel
theorem dX6_peak_25 : decode cX6_peak 25 = .ok (.iload_n 2, 1) := by decide +kernel
theorem dX6_peak_26 : decode cX6_peak 26 = .ok (.iadd, 1) := by decide +kernel
theorem dX6_peak_27 : decode cX6_peak 27 = .ok (.iconst 1, 1) := by decide +kernel
theorem dX6_peak_28 : decode cX6_peak 28 = .ok (.isub, 1) := by decide +kernel
theorem dX6_peak_29 : decode cX6_peak 29 = .ok (.iload_n 3, 1) := by decide +kernel
theorem dX6_peak_30 : decode cX6_peak 30 = .ok (.invokevirtual 243, 3) := by decide +kernel
theorem dX6_peak_33 : decode cX6_peak 33 = .ok (.ireturn, 1) := by decide +kernel
theorem dX6_comesWithout_0 : decode cX6_comesWithout 0 = .ok (.aload_n 0, 1) := by decide +kernel
theorem dX6_comesWithout_1 : decode cX6_comesWithout 1 = .ok (.invokevirtual 113, 3) := by decide +kernel
theorem dX6_comesWithout_4 : decode cX6_comesWithout 4 = .ok (.aload_n 0, 1) := by decide +kernel
theorem dX6_comesWithout_5 : decode cX6_comesWithout 5 = .ok (.iload_n 1, 1) := by decide +kernel
theorem dX6_comesWithout_6 : decode cX6_comesWithout 6 = .ok (.iconst 0, 1) := by decide +kernel
theorem dX6_comesWithout_7 : decode cX6_comesWithout 7 = .ok (.iload_n 2, 1) := by decide +kernel
theorem dX6_comesWithout_8 : decode cX6_comesWithout 8 = .ok (.iconst 1, 1) := by decide +kernel
theorem dX6_comesWithout_9 : decode cX6_comesWithout 9 = .ok (.isub, 1) := by decide +kernel
theorem dX6_comesWithout_10 : decode cX6_comesWithout 10 = .ok (.invokevirtual 120, 3) := by decide +kernel
theorem dX6_comesWithout_13 : decode cX6_comesWithout 13 = .ok (.aload_n 0, 1) := by decide +kernel
theorem dX6_comesWithout_14 : decode cX6_comesWithout 14 = .ok (.iload_n 1, 1) := by decide +kernel
theorem dX6_comesWithout_15 : decode cX6_comesWithout 15 = .ok (.iload_n 2, 1) := by decide +kernel
theorem dX6_comesWithout_16 : decode cX6_comesWithout 16 = .ok (.iconst 1, 1) := by decide +kernel
theorem dX6_comesWithout_17 : decode cX6_comesWithout 17 = .ok (.iadd, 1) := by decide +kernel
theorem dX6_comesWithout_18 : decode cX6_comesWithout 18 = .ok (.aload_n 0, 1) := by decide +kernel
theorem dX6_comesWithout_19 : decode cX6_comesWithout 19 = .ok (.iload_n 1, 1) := by decide +kernel
theorem dX6_comesWithout_20 : decode cX6_comesWithout 20 = .ok (.invokevirtual 116, 3) := by decide +kernel
theorem dX6_comesWithout_23 : decode cX6_comesWithout 23 = .ok (.iconst 1, 1) := by decide +kernel
theorem dX6_comesWithout_24 : decode cX6_comesWithout 24 = .ok (.isub, 1) := by decide +kernel
theorem dX6_comesWithout_25 : decode cX6_comesWithout 25 = .ok (.invokevirtual 120, 3) := by decide +kernel
theorem dX6_comesWithout_28 : decode cX6_comesWithout 28 = .ok (.aload_n 0, 1) := by decide +kernel
theorem dX6_comesWithout_29 : decode cX6_comesWithout 29 = .ok (.aload_n 0, 1) := by decide +kernel
theorem dX6_comesWithout_30 : decode cX6_comesWithout 30 = .ok (.iload_n 1, 1) := by decide +kernel
theorem dX6_comesWithout_31 : decode cX6_comesWithout 31 = .ok (.iconst 1, 1) := by decide +kernel
theorem dX6_comesWithout_32 : decode cX6_comesWithout 32 = .ok (.invokevirtual 80, 3) := by decide +kernel
theorem dX6_comesWithout_35 : decode cX6_comesWithout 35 = .ok (.iload_n 3, 1) := by decide +kernel
theorem dX6_comesWithout_36 : decode cX6_comesWithout 36 = .ok (.invokevirtual 197, 3) := by decide +kernel
theorem dX6_comesWithout_39 : decode cX6_comesWithout 39 = .ok (.ireturn, 1) := by decide +kernel
theorem dX6_without_0 : decode cX6_without 0 = .ok (.aload_n 0, 1) := by decide +kernel
theorem dX6_without_1 : decode cX6_without 1 = .ok (.iload_n 1, 1) := by decide +kernel
theorem dX6_without_2 : decode cX6_without 2 = .ok (.iload_n 3, 1) := by decide +kernel
theorem dX6_without_3 : decode cX6_without 3 = .ok (.invokevirtual 207, 3) := by decide +kernel
theorem dX6_without_6 : decode cX6_without 6 = .ok (.ifCond .eq 22, 3) := by decide +kernel
theorem dX6_without_9 : decode cX6_without 9 = .ok (.aload_n 0, 1) := by decide +kernel
theorem dX6_without_10 : decode cX6_without 10 = .ok (.iload_n 1, 1) := by decide +kernel
theorem dX6_without_11 : decode cX6_without 11 = .ok (.iload_n 2, 1) := by decide +kernel
theorem dX6_without_12 : decode cX6_without 12 = .ok (.invokevirtual 262, 3) := by decide +kernel
theorem dX6_without_15 : decode cX6_without 15 = .ok (.ifCond .eq 13, 3) := by decide +kernel
theorem dX6_without_18 : decode cX6_without 18 = .ok (.aload_n 0, 1) := by decide +kernel
theorem dX6_without_19 : decode cX6_without 19 = .ok (.iload_n 1, 1) := by decide +kernel
theorem dX6_without_20 : decode cX6_without 20 = .ok (.iload_n 2, 1) := by decide +kernel
theorem dX6_without_21 : decode cX6_without 21 = .ok (.iload_n 3, 1) := by decide +kernel
theorem dX6_without_22 : decode cX6_without 22 = .ok (.invokevirtual 271, 3) := by decide +kernel
theorem dX6_without_25 : decode cX6_without 25 = .ok (.goto 5, 3) := by decide +kernel
theorem dX6_without_28 : decode cX6_without 28 = .ok (.ldc 160, 2) := by decide +kernel
theorem dX6_without_30 : decode cX6_without 30 = .ok (.ireturn, 1) := by decide +kernel
theorem dX6_spare_0 : decode cX6_spare 0 = .ok (.aload_n 0, 1) := by decide +kernel
theorem dX6_spare_1 : decode cX6_spare 1 = .ok (.iload_n 1, 1) := by decide +kernel
theorem dX6_spare_2 : decode cX6_spare 2 = .ok (.iload_n 2, 1) := by decide +kernel
theorem dX6_spare_3 : decode cX6_spare 3 = .ok (.invokevirtual 207, 3) := by decide +kernel
theorem dX6_spare_6 : decode cX6_spare 6 = .ok (.ifCond .eq 12, 3) := by decide +kernel
theorem dX6_spare_9 : decode cX6_spare 9 = .ok (.aload_n 0, 1) := by decide +kernel
theorem dX6_spare_10 : decode cX6_spare 10 = .ok (.iload_n 1, 1) := by decide +kernel
theorem dX6_spare_11 : decode cX6_spare 11 = .ok (.invokevirtual 116, 3) := by decide +kernel
theorem dX6_spare_14 : decode cX6_spare 14 = .ok (.iconst 2, 1) := by decide +kernel
theorem dX6_spare_15 : decode cX6_spare 15 = .ok (.if_icmp .ge 5, 3) := by decide +kernel
theorem dX6_spare_18 : decode cX6_spare 18 = .ok (.iconst (-1), 1) := by decide +kernel
theorem dX6_spare_19 : decode cX6_spare 19 = .ok (.ireturn, 1) := by decide +kernel
theorem dX6_spare_20 : decode cX6_spare 20 = .ok (.iconst 0, 1) := by decide +kernel
theorem dX6_spare_21 : decode cX6_spare 21 = .ok (.istore_n 3, 1) := by decide +kernel
theorem dX6_spare_22 : decode cX6_spare 22 = .ok (.aload_n 0, 1) := by decide +kernel
theorem dX6_spare_23 : decode cX6_spare 23 = .ok (.iload_n 1, 1) := by decide +kernel
theorem dX6_spare_24 : decode cX6_spare 24 = .ok (.iconst 0, 1) := by decide +kernel
theorem dX6_spare_25 : decode cX6_spare 25 = .ok (.iload_n 2, 1) := by decide +kernel
theorem dX6_spare_26 : decode cX6_spare 26 = .ok (.invokevirtual 271, 3) := by decide +kernel
theorem dX6_spare_29 : decode cX6_spare 29 = .ok (.istore 4, 2) := by decide +kernel
theorem dX6_spare_31 : decode cX6_spare 31 = .ok (.iconst 1, 1) := by decide +kernel
theorem dX6_spare_32 : decode cX6_spare 32 = .ok (.istore 5, 2) := by decide +kernel
theorem dX6_spare_34 : decode cX6_spare 34 = .ok (.iload 5, 2) := by decide +kernel
theorem dX6_spare_36 : decode cX6_spare 36 = .ok (.aload_n 0, 1) := by decide +kernel
theorem dX6_spare_37 : decode cX6_spare 37 = .ok (.iload_n 1, 1) := by decide +kernel
theorem dX6_spare_38 : decode cX6_spare 38 = .ok (.invokevirtual 116, 3) := by decide +kernel
theorem dX6_spare_41 : decode cX6_spare 41 = .ok (.if_icmp .ge 36, 3) := by decide +kernel
theorem dX6_spare_44 : decode cX6_spare 44 = .ok (.aload_n 0, 1) := by decide +kernel
theorem dX6_spare_45 : decode cX6_spare 45 = .ok (.iload_n 1, 1) := by decide +kernel
theorem dX6_spare_46 : decode cX6_spare 46 = .ok (.iload 5, 2) := by decide +kernel
theorem dX6_spare_48 : decode cX6_spare 48 = .ok (.iload_n 2, 1) := by decide +kernel
theorem dX6_spare_49 : decode cX6_spare 49 = .ok (.invokevirtual 271, 3) := by decide +kernel
theorem dX6_spare_52 : decode cX6_spare 52 = .ok (.istore 6, 2) := by decide +kernel
theorem dX6_spare_54 : decode cX6_spare 54 = .ok (.iload 6, 2) := by decide +kernel
theorem dX6_spare_56 : decode cX6_spare 56 = .ok (.iload 4, 2) := by decide +kernel
theorem dX6_spare_58 : decode cX6_spare 58 = .ok (.if_icmp .gt 6, 3) := by decide +kernel
theorem dX6_spare_61 : decode cX6_spare 61 = .ok (.goto 10, 3) := by decide +kernel
theorem dX6_spare_64 : decode cX6_spare 64 = .ok (.iload 5, 2) := by decide +kernel
theorem dX6_spare_66 : decode cX6_spare 66 = .ok (.istore_n 3, 1) := by decide +kernel
theorem dX6_spare_67 : decode cX6_spare 67 = .ok (.iload 6, 2) := by decide +kernel
theorem dX6_spare_69 : decode cX6_spare 69 = .ok (.istore 4, 2) := by decide +kernel
theorem dX6_spare_71 : decode cX6_spare 71 = .ok (.iinc 5 1, 3) := by decide +kernel
theorem dX6_spare_74 : decode cX6_spare 74 = .ok (.goto (-40), 3) := by decide +kernel
theorem dX6_spare_77 : decode cX6_spare 77 = .ok (.iload_n 3, 1) := by decide +kernel
theorem dX6_spare_78 : decode cX6_spare 78 = .ok (.ireturn, 1) := by decide +kernel
theorem dX6_turned_0 : decode cX6_turned 0 = .ok (.aload_n 0, 1) := by decide +kernel
theorem dX6_turned_1 : decode cX6_turned 1 = .ok (.iload_n 1, 1) := by decide +kernel
theorem dX6_turned_2 : decode cX6_turned 2 = .ok (.iload_n 2, 1) := by decide +kernel
theorem dX6_turned_3 : decode cX6_turned 3 = .ok (.invokevirtual 207, 3) := by decide +kernel
theorem dX6_turned_6 : decode cX6_turned 6 = .ok (.ifCond .ne 6, 3) := by decide +kernel
theorem dX6_turned_9 : decode cX6_turned 9 = .ok (.ldc 160, 2) := by decide +kernel
theorem dX6_turned_11 : decode cX6_turned 11 = .ok (.ireturn, 1) := by decide +kernel
theorem dX6_turned_12 : decode cX6_turned 12 = .ok (.aload_n 0, 1) := by decide +kernel
theorem dX6_turned_13 : decode cX6_turned 13 = .ok (.invokevirtual 113, 3) := by decide +kernel
theorem dX6_turned_16 : decode cX6_turned 16 = .ok (.aload_n 0, 1) := by decide +kernel
theorem dX6_turned_17 : decode cX6_turned 17 = .ok (.iload_n 1, 1) := by decide +kernel
theorem dX6_turned_18 : decode cX6_turned 18 = .ok (.invokevirtual 116, 3) := by decide +kernel
theorem dX6_turned_21 : decode cX6_turned 21 = .ok (.iconst 1, 1) := by decide +kernel
theorem dX6_turned_22 : decode cX6_turned 22 = .ok (.isub, 1) := by decide +kernel
theorem dX6_turned_23 : decode cX6_turned 23 = .ok (.istore_n 3, 1) := by decide +kernel
theorem dX6_turned_24 : decode cX6_turned 24 = .ok (.iload_n 3, 1) := by decide +kernel
theorem dX6_turned_25 : decode cX6_turned 25 = .ok (.ifCond .lt 24, 3) := by decide +kernel
theorem dX6_turned_28 : decode cX6_turned 28 = .ok (.aload_n 0, 1) := by decide +kernel
theorem dX6_turned_29 : decode cX6_turned 29 = .ok (.aload_n 0, 1) := by decide +kernel
theorem dX6_turned_30 : decode cX6_turned 30 = .ok (.getfield 16, 3) := by decide +kernel
theorem dX6_turned_33 : decode cX6_turned 33 = .ok (.bipush 121, 2) := by decide +kernel
theorem dX6_turned_35 : decode cX6_turned 35 = .ok (.iload_n 1, 1) := by decide +kernel
theorem dX6_turned_36 : decode cX6_turned 36 = .ok (.imul, 1) := by decide +kernel
theorem dX6_turned_37 : decode cX6_turned 37 = .ok (.iload_n 3, 1) := by decide +kernel
theorem dX6_turned_38 : decode cX6_turned 38 = .ok (.iadd, 1) := by decide +kernel
theorem dX6_turned_39 : decode cX6_turned 39 = .ok (.iaload, 1) := by decide +kernel
theorem dX6_turned_40 : decode cX6_turned 40 = .ok (.invokevirtual 109, 3) := by decide +kernel
theorem dX6_turned_43 : decode cX6_turned 43 = .ok (.iinc 3 (-1), 3) := by decide +kernel
theorem dX6_turned_46 : decode cX6_turned 46 = .ok (.goto (-22), 3) := by decide +kernel
theorem dX6_turned_49 : decode cX6_turned 49 = .ok (.aload_n 0, 1) := by decide +kernel
theorem dX6_turned_50 : decode cX6_turned 50 = .ok (.aload_n 0, 1) := by decide +kernel
theorem dX6_turned_51 : decode cX6_turned 51 = .ok (.iload_n 1, 1) := by decide +kernel
theorem dX6_turned_52 : decode cX6_turned 52 = .ok (.iconst 1, 1) := by decide +kernel
theorem dX6_turned_53 : decode cX6_turned 53 = .ok (.invokevirtual 80, 3) := by decide +kernel
theorem dX6_turned_56 : decode cX6_turned 56 = .ok (.iload_n 2, 1) := by decide +kernel
theorem dX6_turned_57 : decode cX6_turned 57 = .ok (.invokevirtual 197, 3) := by decide +kernel
theorem dX6_turned_60 : decode cX6_turned 60 = .ok (.ireturn, 1) := by decide +kernel
theorem dX6_keepNumbers_0 : decode cX6_keepNumbers 0 = .ok (.iconst 0, 1) := by decide +kernel
theorem dX6_keepNumbers_1 : decode cX6_keepNumbers 1 = .ok (.istore_n 2, 1) := by decide +kernel
theorem dX6_keepNumbers_2 : decode cX6_keepNumbers 2 = .ok (.iload_n 2, 1) := by decide +kernel
theorem dX6_keepNumbers_3 : decode cX6_keepNumbers 3 = .ok (.iload_n 1, 1) := by decide +kernel
theorem dX6_keepNumbers_4 : decode cX6_keepNumbers 4 = .ok (.invokestatic 127, 3) := by decide +kernel
theorem dX6_keepNumbers_7 : decode cX6_keepNumbers 7 = .ok (.if_icmp .ge 21, 3) := by decide +kernel
theorem dX6_keepNumbers_10 : decode cX6_keepNumbers 10 = .ok (.aload_n 0, 1) := by decide +kernel
theorem dX6_keepNumbers_11 : decode cX6_keepNumbers 11 = .ok (.getfield 64, 3) := by decide +kernel
theorem dX6_keepNumbers_14 : decode cX6_keepNumbers 14 = .ok (.iload_n 2, 1) := by decide +kernel
theorem dX6_keepNumbers_15 : decode cX6_keepNumbers 15 = .ok (.aload_n 0, 1) := by decide +kernel
theorem dX6_keepNumbers_16 : decode cX6_keepNumbers 16 = .ok (.getfield 31, 3) := by decide +kernel
theorem dX6_keepNumbers_19 : decode cX6_keepNumbers 19 = .ok (.iload_n 2, 1) := by decide +kernel
theorem dX6_keepNumbers_20 : decode cX6_keepNumbers 20 = .ok (.iaload, 1) := by decide +kernel
theorem dX6_keepNumbers_21 : decode cX6_keepNumbers 21 = .ok (.iastore, 1) := by decide +kernel
theorem dX6_keepNumbers_22 : decode cX6_keepNumbers 22 = .ok (.iinc 2 1, 3) := by decide +kernel
theorem dX6_keepNumbers_25 : decode cX6_keepNumbers 25 = .ok (.goto (-23), 3) := by decide +kernel
theorem dX6_keepNumbers_28 : decode cX6_keepNumbers 28 = .ok (.return_, 1) := by decide +kernel
theorem dX6_areKept_0 : decode cX6_areKept 0 = .ok (.iconst 0, 1) := by decide +kernel
theorem dX6_areKept_1 : decode cX6_areKept 1 = .ok (.istore_n 2, 1) := by decide +kernel
theorem dX6_areKept_2 : decode cX6_areKept 2 = .ok (.iload_n 2, 1) := by decide +kernel
theorem dX6_areKept_3 : decode cX6_areKept 3 = .ok (.iload_n 1, 1) := by decide +kernel
theorem dX6_areKept_4 : decode cX6_areKept 4 = .ok (.invokestatic 127, 3) := by decide +kernel
theorem dX6_areKept_7 : decode cX6_areKept 7 = .ok (.if_icmp .ge 26, 3) := by decide +kernel
theorem dX6_areKept_10 : decode cX6_areKept 10 = .ok (.aload_n 0, 1) := by decide +kernel
theorem dX6_areKept_11 : decode cX6_areKept 11 = .ok (.getfield 64, 3) := by decide +kernel
theorem dX6_areKept_14 : decode cX6_areKept 14 = .ok (.iload_n 2, 1) := by decide +kernel
theorem dX6_areKept_15 : decode cX6_areKept 15 = .ok (.iaload, 1) := by decide +kernel
theorem dX6_areKept_16 : decode cX6_areKept 16 = .ok (.aload_n 0, 1) := by decide +kernel
theorem dX6_areKept_17 : decode cX6_areKept 17 = .ok (.getfield 31, 3) := by decide +kernel
theorem dX6_areKept_20 : decode cX6_areKept 20 = .ok (.iload_n 2, 1) := by decide +kernel
theorem dX6_areKept_21 : decode cX6_areKept 21 = .ok (.iaload, 1) := by decide +kernel
theorem dX6_areKept_22 : decode cX6_areKept 22 = .ok (.if_icmp .eq 5, 3) := by decide +kernel
theorem dX6_areKept_25 : decode cX6_areKept 25 = .ok (.iconst 0, 1) := by decide +kernel
theorem dX6_areKept_26 : decode cX6_areKept 26 = .ok (.ireturn, 1) := by decide +kernel
theorem dX6_areKept_27 : decode cX6_areKept 27 = .ok (.iinc 2 1, 3) := by decide +kernel
theorem dX6_areKept_30 : decode cX6_areKept 30 = .ok (.goto (-28), 3) := by decide +kernel
theorem dX6_areKept_33 : decode cX6_areKept 33 = .ok (.iconst 1, 1) := by decide +kernel
theorem dX6_areKept_34 : decode cX6_areKept 34 = .ok (.ireturn, 1) := by decide +kernel
theorem dX6_commutes_0 : decode cX6_commutes 0 = .ok (.aload_n 0, 1) := by decide +kernel
theorem dX6_commutes_1 : decode cX6_commutes 1 = .ok (.iload_n 1, 1) := by decide +kernel
theorem dX6_commutes_2 : decode cX6_commutes 2 = .ok (.invokevirtual 124, 3) := by decide +kernel
theorem dX6_commutes_5 : decode cX6_commutes 5 = .ok (.ifCond .eq 18, 3) := by decide +kernel
theorem dX6_commutes_8 : decode cX6_commutes 8 = .ok (.iload_n 2, 1) := by decide +kernel
theorem dX6_commutes_9 : decode cX6_commutes 9 = .ok (.iconst 0, 1) := by decide +kernel
theorem dX6_commutes_10 : decode cX6_commutes 10 = .ok (.aload_n 0, 1) := by decide +kernel
theorem dX6_commutes_11 : decode cX6_commutes 11 = .ok (.iload_n 1, 1) := by decide +kernel
theorem dX6_commutes_12 : decode cX6_commutes 12 = .ok (.invokevirtual 116, 3) := by decide +kernel
theorem dX6_commutes_15 : decode cX6_commutes 15 = .ok (.iconst 2, 1) := by decide +kernel
theorem dX6_commutes_16 : decode cX6_commutes 16 = .ok (.isub, 1) := by decide +kernel
theorem dX6_commutes_17 : decode cX6_commutes 17 = .ok (.invokestatic 76, 3) := by decide +kernel
theorem dX6_commutes_20 : decode cX6_commutes 20 = .ok (.ifCond .ne 5, 3) := by decide +kernel
theorem dX6_commutes_23 : decode cX6_commutes 23 = .ok (.iconst (-1), 1) := by decide +kernel
theorem dX6_commutes_24 : decode cX6_commutes 24 = .ok (.ireturn, 1) := by decide +kernel
theorem dX6_commutes_25 : decode cX6_commutes 25 = .ok (.aload_n 0, 1) := by decide +kernel
theorem dX6_commutes_26 : decode cX6_commutes 26 = .ok (.iload_n 1, 1) := by decide +kernel
theorem dX6_commutes_27 : decode cX6_commutes 27 = .ok (.invokevirtual 194, 3) := by decide +kernel
theorem dX6_commutes_30 : decode cX6_commutes 30 = .ok (.aload_n 0, 1) := by decide +kernel
theorem dX6_commutes_31 : decode cX6_commutes 31 = .ok (.aload_n 0, 1) := by decide +kernel
theorem dX6_commutes_32 : decode cX6_commutes 32 = .ok (.iload_n 1, 1) := by decide +kernel
theorem dX6_commutes_33 : decode cX6_commutes 33 = .ok (.iconst 1, 1) := by decide +kernel
theorem dX6_commutes_34 : decode cX6_commutes 34 = .ok (.invokevirtual 80, 3) := by decide +kernel
theorem dX6_commutes_37 : decode cX6_commutes 37 = .ok (.invokevirtual 161, 3) := by decide +kernel
theorem dX6_commutes_40 : decode cX6_commutes 40 = .ok (.aload_n 0, 1) := by decide +kernel
theorem dX6_commutes_41 : decode cX6_commutes 41 = .ok (.aload_n 0, 1) := by decide +kernel
theorem dX6_commutes_42 : decode cX6_commutes 42 = .ok (.iload_n 1, 1) := by decide +kernel
theorem dX6_commutes_43 : decode cX6_commutes 43 = .ok (.iconst 1, 1) := by decide +kernel
theorem dX6_commutes_44 : decode cX6_commutes 44 = .ok (.invokevirtual 80, 3) := by decide +kernel
theorem dX6_commutes_47 : decode cX6_commutes 47 = .ok (.invokevirtual 274, 3) := by decide +kernel
theorem dX6_commutes_50 : decode cX6_commutes 50 = .ok (.aload_n 0, 1) := by decide +kernel
theorem dX6_commutes_51 : decode cX6_commutes 51 = .ok (.getfield 28, 3) := by decide +kernel
theorem dX6_commutes_54 : decode cX6_commutes 54 = .ok (.iload_n 2, 1) := by decide +kernel
theorem dX6_commutes_55 : decode cX6_commutes 55 = .ok (.iaload, 1) := by decide +kernel
theorem dX6_commutes_56 : decode cX6_commutes 56 = .ok (.istore_n 3, 1) := by decide +kernel
theorem dX6_commutes_57 : decode cX6_commutes 57 = .ok (.aload_n 0, 1) := by decide +kernel
theorem dX6_commutes_58 : decode cX6_commutes 58 = .ok (.getfield 28, 3) := by decide +kernel
theorem dX6_commutes_61 : decode cX6_commutes 61 = .ok (.iload_n 2, 1) := by decide +kernel
theorem dX6_commutes_62 : decode cX6_commutes 62 = .ok (.aload_n 0, 1) := by decide +kernel
theorem dX6_commutes_63 : decode cX6_commutes 63 = .ok (.getfield 28, 3) := by decide +kernel
theorem dX6_commutes_66 : decode cX6_commutes 66 = .ok (.iload_n 2, 1) := by decide +kernel
theorem dX6_commutes_67 : decode cX6_commutes 67 = .ok (.iconst 1, 1) := by decide +kernel
theorem dX6_commutes_68 : decode cX6_commutes 68 = .ok (.iadd, 1) := by decide +kernel
theorem dX6_commutes_69 : decode cX6_commutes 69 = .ok (.iaload, 1) := by decide +kernel
theorem dX6_commutes_70 : decode cX6_commutes 70 = .ok (.iastore, 1) := by decide +kernel
theorem dX6_commutes_71 : decode cX6_commutes 71 = .ok (.aload_n 0, 1) := by decide +kernel
theorem dX6_commutes_72 : decode cX6_commutes 72 = .ok (.getfield 28, 3) := by decide +kernel
theorem dX6_commutes_75 : decode cX6_commutes 75 = .ok (.iload_n 2, 1) := by decide +kernel
theorem dX6_commutes_76 : decode cX6_commutes 76 = .ok (.iconst 1, 1) := by decide +kernel
theorem dX6_commutes_77 : decode cX6_commutes 77 = .ok (.iadd, 1) := by decide +kernel
theorem dX6_commutes_78 : decode cX6_commutes 78 = .ok (.iload_n 3, 1) := by decide +kernel
theorem dX6_commutes_79 : decode cX6_commutes 79 = .ok (.iastore, 1) := by decide +kernel
theorem dX6_commutes_80 : decode cX6_commutes 80 = .ok (.aload_n 0, 1) := by decide +kernel
theorem dX6_commutes_81 : decode cX6_commutes 81 = .ok (.aload_n 0, 1) := by decide +kernel
theorem dX6_commutes_82 : decode cX6_commutes 82 = .ok (.iload_n 1, 1) := by decide +kernel
theorem dX6_commutes_83 : decode cX6_commutes 83 = .ok (.iconst 1, 1) := by decide +kernel
theorem dX6_commutes_84 : decode cX6_commutes 84 = .ok (.invokevirtual 80, 3) := by decide +kernel
theorem dX6_commutes_87 : decode cX6_commutes 87 = .ok (.invokevirtual 161, 3) := by decide +kernel
theorem dX6_commutes_90 : decode cX6_commutes 90 = .ok (.aload_n 0, 1) := by decide +kernel
theorem dX6_commutes_91 : decode cX6_commutes 91 = .ok (.aload_n 0, 1) := by decide +kernel
theorem dX6_commutes_92 : decode cX6_commutes 92 = .ok (.iload_n 1, 1) := by decide +kernel
theorem dX6_commutes_93 : decode cX6_commutes 93 = .ok (.iconst 1, 1) := by decide +kernel
theorem dX6_commutes_94 : decode cX6_commutes 94 = .ok (.invokevirtual 80, 3) := by decide +kernel
theorem dX6_commutes_97 : decode cX6_commutes 97 = .ok (.invokevirtual 277, 3) := by decide +kernel
theorem dX6_commutes_100 : decode cX6_commutes 100 = .ok (.ifCond .eq 7, 3) := by decide +kernel
theorem dX6_commutes_103 : decode cX6_commutes 103 = .ok (.iconst 1, 1) := by decide +kernel
theorem dX6_commutes_104 : decode cX6_commutes 104 = .ok (.goto 4, 3) := by decide +kernel
theorem dX6_commutes_107 : decode cX6_commutes 107 = .ok (.iconst 0, 1) := by decide +kernel
theorem dX6_commutes_108 : decode cX6_commutes 108 = .ok (.ireturn, 1) := by decide +kernel
theorem dX6_areAlike_0 : decode cX6_areAlike 0 = .ok (.aload_n 0, 1) := by decide +kernel
theorem dX6_areAlike_1 : decode cX6_areAlike 1 = .ok (.iload_n 1, 1) := by decide +kernel
theorem dX6_areAlike_2 : decode cX6_areAlike 2 = .ok (.invokevirtual 124, 3) := by decide +kernel
theorem dX6_areAlike_5 : decode cX6_areAlike 5 = .ok (.ifCond .eq 30, 3) := by decide +kernel
theorem dX6_areAlike_8 : decode cX6_areAlike 8 = .ok (.aload_n 0, 1) := by decide +kernel
theorem dX6_areAlike_9 : decode cX6_areAlike 9 = .ok (.iload_n 2, 1) := by decide +kernel
theorem dX6_areAlike_10 : decode cX6_areAlike 10 = .ok (.invokevirtual 124, 3) := by decide +kernel
theorem dX6_areAlike_13 : decode cX6_areAlike 13 = .ok (.ifCond .eq 22, 3) := by decide +kernel
theorem dX6_areAlike_16 : decode cX6_areAlike 16 = .ok (.aload_n 0, 1) := by decide +kernel
theorem dX6_areAlike_17 : decode cX6_areAlike 17 = .ok (.iload_n 1, 1) := by decide +kernel
theorem dX6_areAlike_18 : decode cX6_areAlike 18 = .ok (.iconst 1, 1) := by decide +kernel
theorem dX6_areAlike_19 : decode cX6_areAlike 19 = .ok (.invokevirtual 80, 3) := by decide +kernel
theorem dX6_areAlike_22 : decode cX6_areAlike 22 = .ok (.aload_n 0, 1) := by decide +kernel
theorem dX6_areAlike_23 : decode cX6_areAlike 23 = .ok (.iload_n 2, 1) := by decide +kernel
theorem dX6_areAlike_24 : decode cX6_areAlike 24 = .ok (.iconst 1, 1) := by decide +kernel
theorem dX6_areAlike_25 : decode cX6_areAlike 25 = .ok (.invokevirtual 80, 3) := by decide +kernel
theorem dX6_areAlike_28 : decode cX6_areAlike 28 = .ok (.if_icmp .ne 7, 3) := by decide +kernel
theorem dX6_areAlike_31 : decode cX6_areAlike 31 = .ok (.iconst 1, 1) := by decide +kernel
theorem dX6_areAlike_32 : decode cX6_areAlike 32 = .ok (.goto 4, 3) := by decide +kernel
theorem dX6_areAlike_35 : decode cX6_areAlike 35 = .ok (.iconst 0, 1) := by decide +kernel
theorem dX6_areAlike_36 : decode cX6_areAlike 36 = .ok (.ireturn, 1) := by decide +kernel
theorem dX6_joined_0 : decode cX6_joined 0 = .ok (.aload_n 0, 1) := by decide +kernel
theorem dX6_joined_1 : decode cX6_joined 1 = .ok (.iload_n 1, 1) := by decide +kernel
theorem dX6_joined_2 : decode cX6_joined 2 = .ok (.iload_n 2, 1) := by decide +kernel
theorem dX6_joined_3 : decode cX6_joined 3 = .ok (.invokevirtual 280, 3) := by decide +kernel
theorem dX6_joined_6 : decode cX6_joined 6 = .ok (.ifCond .eq 12, 3) := by decide +kernel
theorem dX6_joined_9 : decode cX6_joined 9 = .ok (.aload_n 0, 1) := by decide +kernel
theorem dX6_joined_10 : decode cX6_joined 10 = .ok (.iload_n 1, 1) := by decide +kernel
theorem dX6_joined_11 : decode cX6_joined 11 = .ok (.iload_n 3, 1) := by decide +kernel
theorem dX6_joined_12 : decode cX6_joined 12 = .ok (.invokevirtual 207, 3) := by decide +kernel
theorem dX6_joined_15 : decode cX6_joined 15 = .ok (.ifCond .ne 6, 3) := by decide +kernel
theorem dX6_joined_18 : decode cX6_joined 18 = .ok (.ldc 160, 2) := by decide +kernel
theorem dX6_joined_20 : decode cX6_joined 20 = .ok (.ireturn, 1) := by decide +kernel
theorem dX6_joined_21 : decode cX6_joined 21 = .ok (.aload_n 0, 1) := by decide +kernel
theorem dX6_joined_22 : decode cX6_joined 22 = .ok (.iload_n 1, 1) := by decide +kernel
theorem dX6_joined_23 : decode cX6_joined 23 = .ok (.invokevirtual 194, 3) := by decide +kernel
theorem dX6_joined_26 : decode cX6_joined 26 = .ok (.aload_n 0, 1) := by decide +kernel
theorem dX6_joined_27 : decode cX6_joined 27 = .ok (.iload_n 2, 1) := by decide +kernel
theorem dX6_joined_28 : decode cX6_joined 28 = .ok (.iconst 0, 1) := by decide +kernel
theorem dX6_joined_29 : decode cX6_joined 29 = .ok (.aload_n 0, 1) := by decide +kernel
theorem dX6_joined_30 : decode cX6_joined 30 = .ok (.iload_n 2, 1) := by decide +kernel
theorem dX6_joined_31 : decode cX6_joined 31 = .ok (.invokevirtual 116, 3) := by decide +kernel
theorem dX6_joined_34 : decode cX6_joined 34 = .ok (.iconst 1, 1) := by decide +kernel
theorem dX6_joined_35 : decode cX6_joined 35 = .ok (.isub, 1) := by decide +kernel
theorem dX6_joined_36 : decode cX6_joined 36 = .ok (.invokevirtual 120, 3) := by decide +kernel
theorem dX6_joined_39 : decode cX6_joined 39 = .ok (.aload_n 0, 1) := by decide +kernel
theorem dX6_joined_40 : decode cX6_joined 40 = .ok (.aload_n 0, 1) := by decide +kernel
theorem dX6_joined_41 : decode cX6_joined 41 = .ok (.iload_n 1, 1) := by decide +kernel
theorem dX6_joined_42 : decode cX6_joined 42 = .ok (.iconst 1, 1) := by decide +kernel
theorem dX6_joined_43 : decode cX6_joined 43 = .ok (.invokevirtual 80, 3) := by decide +kernel
theorem dX6_joined_46 : decode cX6_joined 46 = .ok (.iload_n 3, 1) := by decide +kernel
theorem dX6_joined_47 : decode cX6_joined 47 = .ok (.invokevirtual 197, 3) := by decide +kernel
theorem dX6_joined_50 : decode cX6_joined 50 = .ok (.ireturn, 1) := by decide +kernel
theorem dX6_woven_0 : decode cX6_woven 0 = .ok (.aload_n 0, 1) := by decide +kernel
theorem dX6_woven_1 : decode cX6_woven 1 = .ok (.iload_n 1, 1) := by decide +kernel
theorem dX6_woven_2 : decode cX6_woven 2 = .ok (.iload_n 2, 1) := by decide +kernel
theorem dX6_woven_3 : decode cX6_woven 3 = .ok (.invokevirtual 280, 3) := by decide +kernel
theorem dX6_woven_6 : decode cX6_woven 6 = .ok (.ifCond .eq 12, 3) := by decide +kernel
theorem dX6_woven_9 : decode cX6_woven 9 = .ok (.aload_n 0, 1) := by decide +kernel
theorem dX6_woven_10 : decode cX6_woven 10 = .ok (.iload_n 1, 1) := by decide +kernel
theorem dX6_woven_11 : decode cX6_woven 11 = .ok (.iload_n 3, 1) := by decide +kernel
theorem dX6_woven_12 : decode cX6_woven 12 = .ok (.invokevirtual 207, 3) := by decide +kernel
theorem dX6_woven_15 : decode cX6_woven 15 = .ok (.ifCond .ne 6, 3) := by decide +kernel
theorem dX6_woven_18 : decode cX6_woven 18 = .ok (.ldc 160, 2) := by decide +kernel
theorem dX6_woven_20 : decode cX6_woven 20 = .ok (.ireturn, 1) := by decide +kernel
theorem dX6_woven_21 : decode cX6_woven 21 = .ok (.aload_n 0, 1) := by decide +kernel
theorem dX6_woven_22 : decode cX6_woven 22 = .ok (.invokevirtual 113, 3) := by decide +kernel
theorem dX6_woven_25 : decode cX6_woven 25 = .ok (.iconst 0, 1) := by decide +kernel
theorem dX6_woven_26 : decode cX6_woven 26 = .ok (.istore 4, 2) := by decide +kernel
theorem dX6_woven_28 : decode cX6_woven 28 = .ok (.iconst 0, 1) := by decide +kernel
theorem dX6_woven_29 : decode cX6_woven 29 = .ok (.istore 5, 2) := by decide +kernel
theorem dX6_woven_31 : decode cX6_woven 31 = .ok (.iload 5, 2) := by decide +kernel
theorem dX6_woven_33 : decode cX6_woven 33 = .ok (.aload_n 0, 1) := by decide +kernel
theorem dX6_woven_34 : decode cX6_woven 34 = .ok (.iload_n 1, 1) := by decide +kernel
theorem dX6_woven_35 : decode cX6_woven 35 = .ok (.invokevirtual 116, 3) := by decide +kernel
theorem dX6_woven_38 : decode cX6_woven 38 = .ok (.if_icmp .ge 84, 3) := by decide +kernel
theorem dX6_woven_41 : decode cX6_woven 41 = .ok (.iload 4, 2) := by decide +kernel
theorem dX6_woven_43 : decode cX6_woven 43 = .ok (.aload_n 0, 1) := by decide +kernel
theorem dX6_woven_44 : decode cX6_woven 44 = .ok (.iload_n 2, 1) := by decide +kernel
theorem dX6_woven_45 : decode cX6_woven 45 = .ok (.invokevirtual 116, 3) := by decide +kernel
theorem dX6_woven_48 : decode cX6_woven 48 = .ok (.if_icmp .ge 52, 3) := by decide +kernel
theorem dX6_woven_51 : decode cX6_woven 51 = .ok (.aload_n 0, 1) := by decide +kernel
theorem dX6_woven_52 : decode cX6_woven 52 = .ok (.getfield 13, 3) := by decide +kernel
theorem dX6_woven_55 : decode cX6_woven 55 = .ok (.bipush 121, 2) := by decide +kernel
theorem dX6_woven_57 : decode cX6_woven 57 = .ok (.iload_n 2, 1) := by decide +kernel
theorem dX6_woven_58 : decode cX6_woven 58 = .ok (.imul, 1) := by decide +kernel
theorem dX6_woven_59 : decode cX6_woven 59 = .ok (.iload 4, 2) := by decide +kernel
theorem dX6_woven_61 : decode cX6_woven 61 = .ok (.iadd, 1) := by decide +kernel
theorem dX6_woven_62 : decode cX6_woven 62 = .ok (.iaload, 1) := by decide +kernel
theorem dX6_woven_63 : decode cX6_woven 63 = .ok (.aload_n 0, 1) := by decide +kernel
theorem dX6_woven_64 : decode cX6_woven 64 = .ok (.getfield 13, 3) := by decide +kernel
theorem dX6_woven_67 : decode cX6_woven 67 = .ok (.bipush 121, 2) := by decide +kernel
theorem dX6_woven_69 : decode cX6_woven 69 = .ok (.iload_n 1, 1) := by decide +kernel
theorem dX6_woven_70 : decode cX6_woven 70 = .ok (.imul, 1) := by decide +kernel
theorem dX6_woven_71 : decode cX6_woven 71 = .ok (.iload 5, 2) := by decide +kernel
theorem dX6_woven_73 : decode cX6_woven 73 = .ok (.iadd, 1) := by decide +kernel
theorem dX6_woven_74 : decode cX6_woven 74 = .ok (.iaload, 1) := by decide +kernel
theorem dX6_woven_75 : decode cX6_woven 75 = .ok (.if_icmp .ge 25, 3) := by decide +kernel
theorem dX6_woven_78 : decode cX6_woven 78 = .ok (.aload_n 0, 1) := by decide +kernel
theorem dX6_woven_79 : decode cX6_woven 79 = .ok (.aload_n 0, 1) := by decide +kernel
theorem dX6_woven_80 : decode cX6_woven 80 = .ok (.getfield 16, 3) := by decide +kernel
theorem dX6_woven_83 : decode cX6_woven 83 = .ok (.bipush 121, 2) := by decide +kernel
theorem dX6_woven_85 : decode cX6_woven 85 = .ok (.iload_n 2, 1) := by decide +kernel
theorem dX6_woven_86 : decode cX6_woven 86 = .ok (.imul, 1) := by decide +kernel
theorem dX6_woven_87 : decode cX6_woven 87 = .ok (.iload 4, 2) := by decide +kernel
theorem dX6_woven_89 : decode cX6_woven 89 = .ok (.iadd, 1) := by decide +kernel
theorem dX6_woven_90 : decode cX6_woven 90 = .ok (.iaload, 1) := by decide +kernel
theorem dX6_woven_91 : decode cX6_woven 91 = .ok (.invokevirtual 109, 3) := by decide +kernel
theorem dX6_woven_94 : decode cX6_woven 94 = .ok (.iinc 4 1, 3) := by decide +kernel
theorem dX6_woven_97 : decode cX6_woven 97 = .ok (.goto (-56), 3) := by decide +kernel
theorem dX6_woven_100 : decode cX6_woven 100 = .ok (.aload_n 0, 1) := by decide +kernel
theorem dX6_woven_101 : decode cX6_woven 101 = .ok (.aload_n 0, 1) := by decide +kernel
theorem dX6_woven_102 : decode cX6_woven 102 = .ok (.getfield 16, 3) := by decide +kernel
theorem dX6_woven_105 : decode cX6_woven 105 = .ok (.bipush 121, 2) := by decide +kernel
theorem dX6_woven_107 : decode cX6_woven 107 = .ok (.iload_n 1, 1) := by decide +kernel
theorem dX6_woven_108 : decode cX6_woven 108 = .ok (.imul, 1) := by decide +kernel
theorem dX6_woven_109 : decode cX6_woven 109 = .ok (.iload 5, 2) := by decide +kernel
theorem dX6_woven_111 : decode cX6_woven 111 = .ok (.iadd, 1) := by decide +kernel
theorem dX6_woven_112 : decode cX6_woven 112 = .ok (.iaload, 1) := by decide +kernel
theorem dX6_woven_113 : decode cX6_woven 113 = .ok (.invokevirtual 109, 3) := by decide +kernel
theorem dX6_woven_116 : decode cX6_woven 116 = .ok (.iinc 5 1, 3) := by decide +kernel
theorem dX6_woven_119 : decode cX6_woven 119 = .ok (.goto (-88), 3) := by decide +kernel
theorem dX6_woven_122 : decode cX6_woven 122 = .ok (.aload_n 0, 1) := by decide +kernel
theorem dX6_woven_123 : decode cX6_woven 123 = .ok (.iload_n 2, 1) := by decide +kernel
theorem dX6_woven_124 : decode cX6_woven 124 = .ok (.iload 4, 2) := by decide +kernel
theorem dX6_woven_126 : decode cX6_woven 126 = .ok (.aload_n 0, 1) := by decide +kernel
theorem dX6_woven_127 : decode cX6_woven 127 = .ok (.iload_n 2, 1) := by decide +kernel
theorem dX6_woven_128 : decode cX6_woven 128 = .ok (.invokevirtual 116, 3) := by decide +kernel
theorem dX6_woven_131 : decode cX6_woven 131 = .ok (.iconst 1, 1) := by decide +kernel
theorem dX6_woven_132 : decode cX6_woven 132 = .ok (.isub, 1) := by decide +kernel
theorem dX6_woven_133 : decode cX6_woven 133 = .ok (.invokevirtual 120, 3) := by decide +kernel
theorem dX6_woven_136 : decode cX6_woven 136 = .ok (.aload_n 0, 1) := by decide +kernel
theorem dX6_woven_137 : decode cX6_woven 137 = .ok (.aload_n 0, 1) := by decide +kernel
theorem dX6_woven_138 : decode cX6_woven 138 = .ok (.iload_n 1, 1) := by decide +kernel
theorem dX6_woven_139 : decode cX6_woven 139 = .ok (.iconst 1, 1) := by decide +kernel
theorem dX6_woven_140 : decode cX6_woven 140 = .ok (.invokevirtual 80, 3) := by decide +kernel
theorem dX6_woven_143 : decode cX6_woven 143 = .ok (.iload_n 3, 1) := by decide +kernel
theorem dX6_woven_144 : decode cX6_woven 144 = .ok (.invokevirtual 197, 3) := by decide +kernel
theorem dX6_woven_147 : decode cX6_woven 147 = .ok (.ireturn, 1) := by decide +kernel
theorem dX6_same_0 : decode cX6_same 0 = .ok (.aload_n 0, 1) := by decide +kernel
theorem dX6_same_1 : decode cX6_same 1 = .ok (.iload_n 1, 1) := by decide +kernel
theorem dX6_same_2 : decode cX6_same 2 = .ok (.iload_n 2, 1) := by decide +kernel
theorem dX6_same_3 : decode cX6_same 3 = .ok (.invokevirtual 280, 3) := by decide +kernel
theorem dX6_same_6 : decode cX6_same 6 = .ok (.ifCond .ne 5, 3) := by decide +kernel
theorem dX6_same_9 : decode cX6_same 9 = .ok (.iconst (-1), 1) := by decide +kernel
theorem dX6_same_10 : decode cX6_same 10 = .ok (.ireturn, 1) := by decide +kernel
theorem dX6_same_11 : decode cX6_same 11 = .ok (.aload_n 0, 1) := by decide +kernel
theorem dX6_same_12 : decode cX6_same 12 = .ok (.iload_n 1, 1) := by decide +kernel
theorem dX6_same_13 : decode cX6_same 13 = .ok (.invokevirtual 116, 3) := by decide +kernel
theorem dX6_same_16 : decode cX6_same 16 = .ok (.ifCond .eq 11, 3) := by decide +kernel
theorem dX6_same_19 : decode cX6_same 19 = .ok (.aload_n 0, 1) := by decide +kernel
theorem dX6_same_20 : decode cX6_same 20 = .ok (.iload_n 2, 1) := by decide +kernel
theorem dX6_same_21 : decode cX6_same 21 = .ok (.invokevirtual 116, 3) := by decide +kernel
theorem dX6_same_24 : decode cX6_same 24 = .ok (.ifCond .ne 22, 3) := by decide +kernel
theorem dX6_same_27 : decode cX6_same 27 = .ok (.aload_n 0, 1) := by decide +kernel
theorem dX6_same_28 : decode cX6_same 28 = .ok (.iload_n 1, 1) := by decide +kernel
theorem dX6_same_29 : decode cX6_same 29 = .ok (.invokevirtual 116, 3) := by decide +kernel
theorem dX6_same_32 : decode cX6_same 32 = .ok (.aload_n 0, 1) := by decide +kernel
theorem dX6_same_33 : decode cX6_same 33 = .ok (.iload_n 2, 1) := by decide +kernel
theorem dX6_same_34 : decode cX6_same 34 = .ok (.invokevirtual 116, 3) := by decide +kernel
theorem dX6_same_37 : decode cX6_same 37 = .ok (.if_icmp .ne 7, 3) := by decide +kernel
theorem dX6_same_40 : decode cX6_same 40 = .ok (.iconst 1, 1) := by decide +kernel
theorem dX6_same_41 : decode cX6_same 41 = .ok (.goto 4, 3) := by decide +kernel
theorem dX6_same_44 : decode cX6_same 44 = .ok (.iconst 0, 1) := by decide +kernel
theorem dX6_same_45 : decode cX6_same 45 = .ok (.ireturn, 1) := by decide +kernel
theorem dX6_same_46 : decode cX6_same 46 = .ok (.aload_n 0, 1) := by decide +kernel
theorem dX6_same_47 : decode cX6_same 47 = .ok (.iload_n 1, 1) := by decide +kernel
theorem dX6_same_48 : decode cX6_same 48 = .ok (.invokevirtual 194, 3) := by decide +kernel
theorem dX6_same_51 : decode cX6_same 51 = .ok (.aload_n 0, 1) := by decide +kernel
theorem dX6_same_52 : decode cX6_same 52 = .ok (.aload_n 0, 1) := by decide +kernel
theorem dX6_same_53 : decode cX6_same 53 = .ok (.iload_n 1, 1) := by decide +kernel
theorem dX6_same_54 : decode cX6_same 54 = .ok (.iconst 1, 1) := by decide +kernel
theorem dX6_same_55 : decode cX6_same 55 = .ok (.invokevirtual 80, 3) := by decide +kernel
theorem dX6_same_58 : decode cX6_same 58 = .ok (.invokevirtual 161, 3) := by decide +kernel
theorem dX6_same_61 : decode cX6_same 61 = .ok (.aload_n 0, 1) := by decide +kernel
theorem dX6_same_62 : decode cX6_same 62 = .ok (.aload_n 0, 1) := by decide +kernel
theorem dX6_same_63 : decode cX6_same 63 = .ok (.iload_n 1, 1) := by decide +kernel
theorem dX6_same_64 : decode cX6_same 64 = .ok (.iconst 1, 1) := by decide +kernel
theorem dX6_same_65 : decode cX6_same 65 = .ok (.invokevirtual 80, 3) := by decide +kernel
theorem dX6_same_68 : decode cX6_same 68 = .ok (.invokevirtual 274, 3) := by decide +kernel
theorem dX6_same_71 : decode cX6_same 71 = .ok (.aload_n 0, 1) := by decide +kernel
theorem dX6_same_72 : decode cX6_same 72 = .ok (.iload_n 2, 1) := by decide +kernel
theorem dX6_same_73 : decode cX6_same 73 = .ok (.invokevirtual 194, 3) := by decide +kernel
theorem dX6_same_76 : decode cX6_same 76 = .ok (.aload_n 0, 1) := by decide +kernel
theorem dX6_same_77 : decode cX6_same 77 = .ok (.aload_n 0, 1) := by decide +kernel
theorem dX6_same_78 : decode cX6_same 78 = .ok (.iload_n 2, 1) := by decide +kernel
theorem dX6_same_79 : decode cX6_same 79 = .ok (.iconst 1, 1) := by decide +kernel
theorem dX6_same_80 : decode cX6_same 80 = .ok (.invokevirtual 80, 3) := by decide +kernel
theorem dX6_same_83 : decode cX6_same 83 = .ok (.invokevirtual 161, 3) := by decide +kernel
theorem dX6_same_86 : decode cX6_same 86 = .ok (.aload_n 0, 1) := by decide +kernel
theorem dX6_same_87 : decode cX6_same 87 = .ok (.aload_n 0, 1) := by decide +kernel
theorem dX6_same_88 : decode cX6_same 88 = .ok (.iload_n 2, 1) := by decide +kernel
theorem dX6_same_89 : decode cX6_same 89 = .ok (.iconst 1, 1) := by decide +kernel
theorem dX6_same_90 : decode cX6_same 90 = .ok (.invokevirtual 80, 3) := by decide +kernel
theorem dX6_same_93 : decode cX6_same 93 = .ok (.invokevirtual 277, 3) := by decide +kernel
theorem dX6_same_96 : decode cX6_same 96 = .ok (.ifCond .eq 7, 3) := by decide +kernel
theorem dX6_same_99 : decode cX6_same 99 = .ok (.iconst 1, 1) := by decide +kernel
theorem dX6_same_100 : decode cX6_same 100 = .ok (.goto 4, 3) := by decide +kernel
theorem dX6_same_103 : decode cX6_same 103 = .ok (.iconst 0, 1) := by decide +kernel
theorem dX6_same_104 : decode cX6_same 104 = .ok (.ireturn, 1) := by decide +kernel
theorem dX6_law_0 : decode cX6_law 0 = .ok (.iload_n 2, 1) := by decide +kernel
theorem dX6_law_1 : decode cX6_law 1 = .ok (.iconst 0, 1) := by decide +kernel
theorem dX6_law_2 : decode cX6_law 2 = .ok (.iconst 2, 1) := by decide +kernel
theorem dX6_law_3 : decode cX6_law 3 = .ok (.invokestatic 76, 3) := by decide +kernel
theorem dX6_law_6 : decode cX6_law 6 = .ok (.ifCond .eq 12, 3) := by decide +kernel
theorem dX6_law_9 : decode cX6_law 9 = .ok (.aload_n 0, 1) := by decide +kernel
theorem dX6_law_10 : decode cX6_law 10 = .ok (.iload_n 1, 1) := by decide +kernel
theorem dX6_law_11 : decode cX6_law 11 = .ok (.iload_n 3, 1) := by decide +kernel
theorem dX6_law_12 : decode cX6_law 12 = .ok (.invokevirtual 283, 3) := by decide +kernel
theorem dX6_law_15 : decode cX6_law 15 = .ok (.goto 5, 3) := by decide +kernel
theorem dX6_law_18 : decode cX6_law 18 = .ok (.ldc 160, 2) := by decide +kernel
theorem dX6_law_20 : decode cX6_law 20 = .ok (.ireturn, 1) := by decide +kernel
theorem dX6_layParts_0 : decode cX6_layParts 0 = .ok (.iconst 0, 1) := by decide +kernel
theorem dX6_layParts_1 : decode cX6_layParts 1 = .ok (.istore_n 3, 1) := by decide +kernel
theorem dX6_layParts_2 : decode cX6_layParts 2 = .ok (.iload_n 3, 1) := by decide +kernel
theorem dX6_layParts_3 : decode cX6_layParts 3 = .ok (.aload_n 0, 1) := by decide +kernel
theorem dX6_layParts_4 : decode cX6_layParts 4 = .ok (.iload_n 1, 1) := by decide +kernel
theorem dX6_layParts_5 : decode cX6_layParts 5 = .ok (.invokevirtual 116, 3) := by decide +kernel
theorem dX6_layParts_8 : decode cX6_layParts 8 = .ok (.if_icmp .ge 49, 3) := by decide +kernel
theorem dX6_layParts_11 : decode cX6_layParts 11 = .ok (.iload_n 3, 1) := by decide +kernel
theorem dX6_layParts_12 : decode cX6_layParts 12 = .ok (.istore 4, 2) := by decide +kernel
theorem dX6_layParts_14 : decode cX6_layParts 14 = .ok (.iload 4, 2) := by decide +kernel
theorem dX6_layParts_16 : decode cX6_layParts 16 = .ok (.aload_n 0, 1) := by decide +kernel
theorem dX6_layParts_17 : decode cX6_layParts 17 = .ok (.iload_n 1, 1) := by decide +kernel
theorem dX6_layParts_18 : decode cX6_layParts 18 = .ok (.invokevirtual 116, 3) := by decide +kernel
theorem dX6_layParts_21 : decode cX6_layParts 21 = .ok (.if_icmp .ge 30, 3) := by decide +kernel
theorem dX6_layParts_24 : decode cX6_layParts 24 = .ok (.aload_n 0, 1) := by decide +kernel
theorem dX6_layParts_25 : decode cX6_layParts 25 = .ok (.getfield 67, 3) := by decide +kernel
theorem dX6_layParts_28 : decode cX6_layParts 28 = .ok (.bipush 120, 2) := by decide +kernel
theorem dX6_layParts_30 : decode cX6_layParts 30 = .ok (.iload_n 3, 1) := by decide +kernel
theorem dX6_layParts_31 : decode cX6_layParts 31 = .ok (.imul, 1) := by decide +kernel
theorem dX6_layParts_32 : decode cX6_layParts 32 = .ok (.iload 4, 2) := by decide +kernel
theorem dX6_layParts_34 : decode cX6_layParts 34 = .ok (.iadd, 1) := by decide +kernel
theorem dX6_layParts_35 : decode cX6_layParts 35 = .ok (.aload_n 0, 1) := by decide +kernel
theorem dX6_layParts_36 : decode cX6_layParts 36 = .ok (.iload_n 1, 1) := by decide +kernel
theorem dX6_layParts_37 : decode cX6_layParts 37 = .ok (.iload_n 3, 1) := by decide +kernel
theorem dX6_layParts_38 : decode cX6_layParts 38 = .ok (.iload 4, 2) := by decide +kernel
theorem dX6_layParts_40 : decode cX6_layParts 40 = .ok (.iload_n 2, 1) := by decide +kernel
theorem dX6_layParts_41 : decode cX6_layParts 41 = .ok (.invokevirtual 243, 3) := by decide +kernel
theorem dX6_layParts_44 : decode cX6_layParts 44 = .ok (.iastore, 1) := by decide +kernel
theorem dX6_layParts_45 : decode cX6_layParts 45 = .ok (.iinc 4 1, 3) := by decide +kernel
theorem dX6_layParts_48 : decode cX6_layParts 48 = .ok (.goto (-34), 3) := by decide +kernel
theorem dX6_layParts_51 : decode cX6_layParts 51 = .ok (.iinc 3 1, 3) := by decide +kernel
theorem dX6_layParts_54 : decode cX6_layParts 54 = .ok (.goto (-52), 3) := by decide +kernel
theorem dX6_layParts_57 : decode cX6_layParts 57 = .ok (.return_, 1) := by decide +kernel
theorem dX6_shortest_0 : decode cX6_shortest 0 = .ok (.aload_n 0, 1) := by decide +kernel
theorem dX6_shortest_1 : decode cX6_shortest 1 = .ok (.iload_n 1, 1) := by decide +kernel
theorem dX6_shortest_2 : decode cX6_shortest 2 = .ok (.iload_n 2, 1) := by decide +kernel
theorem dX6_shortest_3 : decode cX6_shortest 3 = .ok (.invokevirtual 207, 3) := by decide +kernel
theorem dX6_shortest_6 : decode cX6_shortest 6 = .ok (.ifCond .eq 13, 3) := by decide +kernel
theorem dX6_shortest_9 : decode cX6_shortest 9 = .ok (.iload 4, 2) := by decide +kernel
theorem dX6_shortest_11 : decode cX6_shortest 11 = .ok (.iconst 0, 1) := by decide +kernel
theorem dX6_shortest_12 : decode cX6_shortest 12 = .ok (.iconst 1, 1) := by decide +kernel
theorem dX6_shortest_13 : decode cX6_shortest 13 = .ok (.invokestatic 76, 3) := by decide +kernel
theorem dX6_shortest_16 : decode cX6_shortest 16 = .ok (.ifCond .ne 5, 3) := by decide +kernel
theorem dX6_shortest_19 : decode cX6_shortest 19 = .ok (.iconst (-1), 1) := by decide +kernel
theorem dX6_shortest_20 : decode cX6_shortest 20 = .ok (.ireturn, 1) := by decide +kernel
theorem dX6_shortest_21 : decode cX6_shortest 21 = .ok (.aload_n 0, 1) := by decide +kernel
theorem dX6_shortest_22 : decode cX6_shortest 22 = .ok (.iload_n 1, 1) := by decide +kernel
theorem dX6_shortest_23 : decode cX6_shortest 23 = .ok (.iload_n 2, 1) := by decide +kernel
theorem dX6_shortest_24 : decode cX6_shortest 24 = .ok (.invokevirtual 286, 3) := by decide +kernel
theorem dX6_shortest_27 : decode cX6_shortest 27 = .ok (.iconst 1, 1) := by decide +kernel
theorem dX6_shortest_28 : decode cX6_shortest 28 = .ok (.istore 5, 2) := by decide +kernel
theorem dX6_shortest_30 : decode cX6_shortest 30 = .ok (.iload 5, 2) := by decide +kernel
theorem dX6_shortest_32 : decode cX6_shortest 32 = .ok (.aload_n 0, 1) := by decide +kernel
theorem dX6_shortest_33 : decode cX6_shortest 33 = .ok (.iload_n 1, 1) := by decide +kernel
theorem dX6_shortest_34 : decode cX6_shortest 34 = .ok (.invokevirtual 116, 3) := by decide +kernel
theorem dX6_shortest_37 : decode cX6_shortest 37 = .ok (.if_icmp .gt 69, 3) := by decide +kernel
theorem dX6_shortest_40 : decode cX6_shortest 40 = .ok (.iconst 0, 1) := by decide +kernel
theorem dX6_shortest_41 : decode cX6_shortest 41 = .ok (.istore 6, 2) := by decide +kernel
theorem dX6_shortest_43 : decode cX6_shortest 43 = .ok (.iload 6, 2) := by decide +kernel
theorem dX6_shortest_45 : decode cX6_shortest 45 = .ok (.iload 5, 2) := by decide +kernel
theorem dX6_shortest_47 : decode cX6_shortest 47 = .ok (.iadd, 1) := by decide +kernel
theorem dX6_shortest_48 : decode cX6_shortest 48 = .ok (.aload_n 0, 1) := by decide +kernel
theorem dX6_shortest_49 : decode cX6_shortest 49 = .ok (.iload_n 1, 1) := by decide +kernel
theorem dX6_shortest_50 : decode cX6_shortest 50 = .ok (.invokevirtual 116, 3) := by decide +kernel
theorem dX6_shortest_53 : decode cX6_shortest 53 = .ok (.if_icmp .gt 47, 3) := by decide +kernel
theorem dX6_shortest_56 : decode cX6_shortest 56 = .ok (.aload_n 0, 1) := by decide +kernel
theorem dX6_shortest_57 : decode cX6_shortest 57 = .ok (.getfield 67, 3) := by decide +kernel
theorem dX6_shortest_60 : decode cX6_shortest 60 = .ok (.bipush 120, 2) := by decide +kernel
theorem dX6_shortest_62 : decode cX6_shortest 62 = .ok (.iload 6, 2) := by decide +kernel
theorem dX6_shortest_64 : decode cX6_shortest 64 = .ok (.imul, 1) := by decide +kernel
theorem dX6_shortest_65 : decode cX6_shortest 65 = .ok (.iload 6, 2) := by decide +kernel
theorem dX6_shortest_67 : decode cX6_shortest 67 = .ok (.iadd, 1) := by decide +kernel
theorem dX6_shortest_68 : decode cX6_shortest 68 = .ok (.iload 5, 2) := by decide +kernel
theorem dX6_shortest_70 : decode cX6_shortest 70 = .ok (.iadd, 1) := by decide +kernel
theorem dX6_shortest_71 : decode cX6_shortest 71 = .ok (.iconst 1, 1) := by decide +kernel
theorem dX6_shortest_72 : decode cX6_shortest 72 = .ok (.isub, 1) := by decide +kernel
theorem dX6_shortest_73 : decode cX6_shortest 73 = .ok (.iaload, 1) := by decide +kernel
theorem dX6_shortest_74 : decode cX6_shortest 74 = .ok (.iload_n 3, 1) := by decide +kernel
theorem dX6_shortest_75 : decode cX6_shortest 75 = .ok (.invokestatic 200, 3) := by decide +kernel
theorem dX6_shortest_78 : decode cX6_shortest 78 = .ok (.ifCond .eq 16, 3) := by decide +kernel
theorem dX6_shortest_81 : decode cX6_shortest 81 = .ok (.iload 4, 2) := by decide +kernel
theorem dX6_shortest_83 : decode cX6_shortest 83 = .ok (.ifCond .ne 8, 3) := by decide +kernel
theorem dX6_shortest_86 : decode cX6_shortest 86 = .ok (.iload 5, 2) := by decide +kernel
theorem dX6_shortest_88 : decode cX6_shortest 88 = .ok (.goto 5, 3) := by decide +kernel
theorem dX6_shortest_91 : decode cX6_shortest 91 = .ok (.iload 6, 2) := by decide +kernel
theorem dX6_shortest_93 : decode cX6_shortest 93 = .ok (.ireturn, 1) := by decide +kernel
theorem dX6_shortest_94 : decode cX6_shortest 94 = .ok (.iinc 6 1, 3) := by decide +kernel
theorem dX6_shortest_97 : decode cX6_shortest 97 = .ok (.goto (-54), 3) := by decide +kernel
theorem dX6_shortest_100 : decode cX6_shortest 100 = .ok (.iinc 5 1, 3) := by decide +kernel
theorem dX6_shortest_103 : decode cX6_shortest 103 = .ok (.goto (-73), 3) := by decide +kernel
theorem dX6_shortest_106 : decode cX6_shortest 106 = .ok (.iconst (-1), 1) := by decide +kernel
theorem dX6_shortest_107 : decode cX6_shortest 107 = .ok (.ireturn, 1) := by decide +kernel
theorem dX6_windows_0 : decode cX6_windows 0 = .ok (.aload_n 0, 1) := by decide +kernel
theorem dX6_windows_1 : decode cX6_windows 1 = .ok (.iload_n 1, 1) := by decide +kernel
theorem dX6_windows_2 : decode cX6_windows 2 = .ok (.iload_n 2, 1) := by decide +kernel
theorem dX6_windows_3 : decode cX6_windows 3 = .ok (.invokevirtual 207, 3) := by decide +kernel
theorem dX6_windows_6 : decode cX6_windows 6 = .ok (.ifCond .ne 5, 3) := by decide +kernel
theorem dX6_windows_9 : decode cX6_windows 9 = .ok (.iconst (-1), 1) := by decide +kernel
theorem dX6_windows_10 : decode cX6_windows 10 = .ok (.ireturn, 1) := by decide +kernel
theorem dX6_windows_11 : decode cX6_windows 11 = .ok (.aload_n 0, 1) := by decide +kernel
theorem dX6_windows_12 : decode cX6_windows 12 = .ok (.iload_n 1, 1) := by decide +kernel
theorem dX6_windows_13 : decode cX6_windows 13 = .ok (.iload_n 2, 1) := by decide +kernel
theorem dX6_windows_14 : decode cX6_windows 14 = .ok (.invokevirtual 286, 3) := by decide +kernel
theorem dX6_windows_17 : decode cX6_windows 17 = .ok (.iconst 0, 1) := by decide +kernel
theorem dX6_windows_18 : decode cX6_windows 18 = .ok (.istore 5, 2) := by decide +kernel
theorem dX6_windows_20 : decode cX6_windows 20 = .ok (.iconst 0, 1) := by decide +kernel
theorem dX6_windows_21 : decode cX6_windows 21 = .ok (.istore 6, 2) := by decide +kernel
theorem dX6_windows_23 : decode cX6_windows 23 = .ok (.iload 6, 2) := by decide +kernel
theorem dX6_windows_25 : decode cX6_windows 25 = .ok (.aload_n 0, 1) := by decide +kernel
theorem dX6_windows_26 : decode cX6_windows 26 = .ok (.iload_n 1, 1) := by decide +kernel
theorem dX6_windows_27 : decode cX6_windows 27 = .ok (.invokevirtual 116, 3) := by decide +kernel
theorem dX6_windows_30 : decode cX6_windows 30 = .ok (.if_icmp .ge 72, 3) := by decide +kernel
theorem dX6_windows_33 : decode cX6_windows 33 = .ok (.iload 6, 2) := by decide +kernel
theorem dX6_windows_35 : decode cX6_windows 35 = .ok (.istore 7, 2) := by decide +kernel
theorem dX6_windows_37 : decode cX6_windows 37 = .ok (.iload 7, 2) := by decide +kernel
theorem dX6_windows_39 : decode cX6_windows 39 = .ok (.aload_n 0, 1) := by decide +kernel
theorem dX6_windows_40 : decode cX6_windows 40 = .ok (.iload_n 1, 1) := by decide +kernel
theorem dX6_windows_41 : decode cX6_windows 41 = .ok (.invokevirtual 116, 3) := by decide +kernel
theorem dX6_windows_44 : decode cX6_windows 44 = .ok (.if_icmp .ge 52, 3) := by decide +kernel
theorem dX6_windows_47 : decode cX6_windows 47 = .ok (.aload_n 0, 1) := by decide +kernel
theorem dX6_windows_48 : decode cX6_windows 48 = .ok (.getfield 67, 3) := by decide +kernel
theorem dX6_windows_51 : decode cX6_windows 51 = .ok (.bipush 120, 2) := by decide +kernel
theorem dX6_windows_53 : decode cX6_windows 53 = .ok (.iload 6, 2) := by decide +kernel
theorem dX6_windows_55 : decode cX6_windows 55 = .ok (.imul, 1) := by decide +kernel
theorem dX6_windows_56 : decode cX6_windows 56 = .ok (.iload 7, 2) := by decide +kernel
theorem dX6_windows_58 : decode cX6_windows 58 = .ok (.iadd, 1) := by decide +kernel
theorem dX6_windows_59 : decode cX6_windows 59 = .ok (.iaload, 1) := by decide +kernel
theorem dX6_windows_60 : decode cX6_windows 60 = .ok (.istore 8, 2) := by decide +kernel
theorem dX6_windows_62 : decode cX6_windows 62 = .ok (.iload 5, 2) := by decide +kernel
theorem dX6_windows_64 : decode cX6_windows 64 = .ok (.iload 8, 2) := by decide +kernel
theorem dX6_windows_66 : decode cX6_windows 66 = .ok (.ldc 160, 2) := by decide +kernel
theorem dX6_windows_68 : decode cX6_windows 68 = .ok (.if_icmp .eq 18, 3) := by decide +kernel
theorem dX6_windows_71 : decode cX6_windows 71 = .ok (.iload 8, 2) := by decide +kernel
theorem dX6_windows_73 : decode cX6_windows 73 = .ok (.iload_n 3, 1) := by decide +kernel
theorem dX6_windows_74 : decode cX6_windows 74 = .ok (.iload 4, 2) := by decide +kernel
theorem dX6_windows_76 : decode cX6_windows 76 = .ok (.invokestatic 76, 3) := by decide +kernel
theorem dX6_windows_79 : decode cX6_windows 79 = .ok (.ifCond .eq 7, 3) := by decide +kernel
theorem dX6_windows_82 : decode cX6_windows 82 = .ok (.iconst 1, 1) := by decide +kernel
theorem dX6_windows_83 : decode cX6_windows 83 = .ok (.goto 4, 3) := by decide +kernel
theorem dX6_windows_86 : decode cX6_windows 86 = .ok (.iconst 0, 1) := by decide +kernel
theorem dX6_windows_87 : decode cX6_windows 87 = .ok (.iadd, 1) := by decide +kernel
theorem dX6_windows_88 : decode cX6_windows 88 = .ok (.istore 5, 2) := by decide +kernel
theorem dX6_windows_90 : decode cX6_windows 90 = .ok (.iinc 7 1, 3) := by decide +kernel
theorem dX6_windows_93 : decode cX6_windows 93 = .ok (.goto (-56), 3) := by decide +kernel
theorem dX6_windows_96 : decode cX6_windows 96 = .ok (.iinc 6 1, 3) := by decide +kernel
theorem dX6_windows_99 : decode cX6_windows 99 = .ok (.goto (-76), 3) := by decide +kernel
theorem dX6_windows_102 : decode cX6_windows 102 = .ok (.iload 5, 2) := by decide +kernel
theorem dX6_windows_104 : decode cX6_windows 104 = .ok (.ireturn, 1) := by decide +kernel
theorem dX6_layRow_0 : decode cX6_layRow 0 = .ok (.bipush 121, 2) := by decide +kernel
theorem dX6_layRow_2 : decode cX6_layRow 2 = .ok (.iload_n 2, 1) := by decide +kernel
theorem dX6_layRow_3 : decode cX6_layRow 3 = .ok (.imul, 1) := by decide +kernel
theorem dX6_layRow_4 : decode cX6_layRow 4 = .ok (.iload_n 3, 1) := by decide +kernel
theorem dX6_layRow_5 : decode cX6_layRow 5 = .ok (.iadd, 1) := by decide +kernel
theorem dX6_layRow_6 : decode cX6_layRow 6 = .ok (.istore 4, 2) := by decide +kernel
theorem dX6_layRow_8 : decode cX6_layRow 8 = .ok (.aload_n 0, 1) := by decide +kernel
theorem dX6_layRow_9 : decode cX6_layRow 9 = .ok (.getfield 70, 3) := by decide +kernel
theorem dX6_layRow_12 : decode cX6_layRow 12 = .ok (.iload 4, 2) := by decide +kernel
theorem dX6_layRow_14 : decode cX6_layRow 14 = .ok (.ldc 160, 2) := by decide +kernel
theorem dX6_layRow_16 : decode cX6_layRow 16 = .ok (.iastore, 1) := by decide +kernel
theorem dX6_layRow_17 : decode cX6_layRow 17 = .ok (.aload_n 0, 1) := by decide +kernel
theorem dX6_layRow_18 : decode cX6_layRow 18 = .ok (.getfield 73, 3) := by decide +kernel
theorem dX6_layRow_21 : decode cX6_layRow 21 = .ok (.iload 4, 2) := by decide +kernel
theorem dX6_layRow_23 : decode cX6_layRow 23 = .ok (.aload_n 0, 1) := by decide +kernel
theorem dX6_layRow_24 : decode cX6_layRow 24 = .ok (.iload_n 1, 1) := by decide +kernel
theorem dX6_layRow_25 : decode cX6_layRow 25 = .ok (.invokevirtual 116, 3) := by decide +kernel
theorem dX6_layRow_28 : decode cX6_layRow 28 = .ok (.iastore, 1) := by decide +kernel
theorem dX6_layRow_29 : decode cX6_layRow 29 = .ok (.iload_n 3, 1) := by decide +kernel
theorem dX6_layRow_30 : decode cX6_layRow 30 = .ok (.istore 5, 2) := by decide +kernel
theorem dX6_layRow_32 : decode cX6_layRow 32 = .ok (.iload 5, 2) := by decide +kernel
theorem dX6_layRow_34 : decode cX6_layRow 34 = .ok (.aload_n 0, 1) := by decide +kernel
theorem dX6_layRow_35 : decode cX6_layRow 35 = .ok (.iload_n 1, 1) := by decide +kernel
theorem dX6_layRow_36 : decode cX6_layRow 36 = .ok (.invokevirtual 116, 3) := by decide +kernel
theorem dX6_layRow_39 : decode cX6_layRow 39 = .ok (.if_icmp .ge 134, 3) := by decide +kernel
theorem dX6_layRow_42 : decode cX6_layRow 42 = .ok (.aload_n 0, 1) := by decide +kernel
theorem dX6_layRow_43 : decode cX6_layRow 43 = .ok (.getfield 67, 3) := by decide +kernel
theorem dX6_layRow_46 : decode cX6_layRow 46 = .ok (.bipush 120, 2) := by decide +kernel
theorem dX6_layRow_48 : decode cX6_layRow 48 = .ok (.iload_n 3, 1) := by decide +kernel
theorem dX6_layRow_49 : decode cX6_layRow 49 = .ok (.imul, 1) := by decide +kernel
theorem dX6_layRow_50 : decode cX6_layRow 50 = .ok (.iload 5, 2) := by decide +kernel
theorem dX6_layRow_52 : decode cX6_layRow 52 = .ok (.iadd, 1) := by decide +kernel
theorem dX6_layRow_53 : decode cX6_layRow 53 = .ok (.iaload, 1) := by decide +kernel
theorem dX6_layRow_54 : decode cX6_layRow 54 = .ok (.istore 6, 2) := by decide +kernel
theorem dX6_layRow_56 : decode cX6_layRow 56 = .ok (.iload_n 2, 1) := by decide +kernel
theorem dX6_layRow_57 : decode cX6_layRow 57 = .ok (.iconst 1, 1) := by decide +kernel
theorem dX6_layRow_58 : decode cX6_layRow 58 = .ok (.if_icmp .ne 24, 3) := by decide +kernel
theorem dX6_layRow_61 : decode cX6_layRow 61 = .ok (.iload 5, 2) := by decide +kernel
theorem dX6_layRow_63 : decode cX6_layRow 63 = .ok (.aload_n 0, 1) := by decide +kernel
theorem dX6_layRow_64 : decode cX6_layRow 64 = .ok (.iload_n 1, 1) := by decide +kernel
theorem dX6_layRow_65 : decode cX6_layRow 65 = .ok (.invokevirtual 116, 3) := by decide +kernel
theorem dX6_layRow_68 : decode cX6_layRow 68 = .ok (.iconst 1, 1) := by decide +kernel
theorem dX6_layRow_69 : decode cX6_layRow 69 = .ok (.isub, 1) := by decide +kernel
theorem dX6_layRow_70 : decode cX6_layRow 70 = .ok (.if_icmp .ne 7, 3) := by decide +kernel
theorem dX6_layRow_73 : decode cX6_layRow 73 = .ok (.iconst 0, 1) := by decide +kernel
theorem dX6_layRow_74 : decode cX6_layRow 74 = .ok (.goto 24, 3) := by decide +kernel
theorem dX6_layRow_77 : decode cX6_layRow 77 = .ok (.ldc 160, 2) := by decide +kernel
theorem dX6_layRow_79 : decode cX6_layRow 79 = .ok (.goto 19, 3) := by decide +kernel
theorem dX6_layRow_82 : decode cX6_layRow 82 = .ok (.aload_n 0, 1) := by decide +kernel
theorem dX6_layRow_83 : decode cX6_layRow 83 = .ok (.getfield 70, 3) := by decide +kernel
theorem dX6_layRow_86 : decode cX6_layRow 86 = .ok (.bipush 121, 2) := by decide +kernel
theorem dX6_layRow_88 : decode cX6_layRow 88 = .ok (.iload_n 2, 1) := by decide +kernel
theorem dX6_layRow_89 : decode cX6_layRow 89 = .ok (.iconst 1, 1) := by decide +kernel
theorem dX6_layRow_90 : decode cX6_layRow 90 = .ok (.isub, 1) := by decide +kernel
theorem dX6_layRow_91 : decode cX6_layRow 91 = .ok (.imul, 1) := by decide +kernel
theorem dX6_layRow_92 : decode cX6_layRow 92 = .ok (.iload 5, 2) := by decide +kernel
theorem dX6_layRow_94 : decode cX6_layRow 94 = .ok (.iadd, 1) := by decide +kernel
theorem dX6_layRow_95 : decode cX6_layRow 95 = .ok (.iconst 1, 1) := by decide +kernel
theorem dX6_layRow_96 : decode cX6_layRow 96 = .ok (.iadd, 1) := by decide +kernel
theorem dX6_layRow_97 : decode cX6_layRow 97 = .ok (.iaload, 1) := by decide +kernel
theorem dX6_layRow_98 : decode cX6_layRow 98 = .ok (.istore 7, 2) := by decide +kernel
theorem dX6_layRow_100 : decode cX6_layRow 100 = .ok (.iload 6, 2) := by decide +kernel
theorem dX6_layRow_102 : decode cX6_layRow 102 = .ok (.ldc 160, 2) := by decide +kernel
theorem dX6_layRow_104 : decode cX6_layRow 104 = .ok (.if_icmp .eq 63, 3) := by decide +kernel
theorem dX6_layRow_107 : decode cX6_layRow 107 = .ok (.iload 7, 2) := by decide +kernel
theorem dX6_layRow_109 : decode cX6_layRow 109 = .ok (.ldc 160, 2) := by decide +kernel
theorem dX6_layRow_111 : decode cX6_layRow 111 = .ok (.if_icmp .eq 56, 3) := by decide +kernel
theorem dX6_layRow_114 : decode cX6_layRow 114 = .ok (.aload_n 0, 1) := by decide +kernel
theorem dX6_layRow_115 : decode cX6_layRow 115 = .ok (.getfield 70, 3) := by decide +kernel
theorem dX6_layRow_118 : decode cX6_layRow 118 = .ok (.iload 4, 2) := by decide +kernel
theorem dX6_layRow_120 : decode cX6_layRow 120 = .ok (.iaload, 1) := by decide +kernel
theorem dX6_layRow_121 : decode cX6_layRow 121 = .ok (.ldc 160, 2) := by decide +kernel
theorem dX6_layRow_123 : decode cX6_layRow 123 = .ok (.if_icmp .eq 21, 3) := by decide +kernel
theorem dX6_layRow_126 : decode cX6_layRow 126 = .ok (.iload 6, 2) := by decide +kernel
theorem dX6_layRow_128 : decode cX6_layRow 128 = .ok (.iload 7, 2) := by decide +kernel
theorem dX6_layRow_130 : decode cX6_layRow 130 = .ok (.iadd, 1) := by decide +kernel
theorem dX6_layRow_131 : decode cX6_layRow 131 = .ok (.aload_n 0, 1) := by decide +kernel
theorem dX6_layRow_132 : decode cX6_layRow 132 = .ok (.getfield 70, 3) := by decide +kernel
theorem dX6_layRow_135 : decode cX6_layRow 135 = .ok (.iload 4, 2) := by decide +kernel
theorem dX6_layRow_137 : decode cX6_layRow 137 = .ok (.iaload, 1) := by decide +kernel
theorem dX6_layRow_138 : decode cX6_layRow 138 = .ok (.if_icmp .gt 6, 3) := by decide +kernel
theorem dX6_layRow_141 : decode cX6_layRow 141 = .ok (.goto 26, 3) := by decide +kernel
theorem dX6_layRow_144 : decode cX6_layRow 144 = .ok (.aload_n 0, 1) := by decide +kernel
theorem dX6_layRow_145 : decode cX6_layRow 145 = .ok (.getfield 70, 3) := by decide +kernel
theorem dX6_layRow_148 : decode cX6_layRow 148 = .ok (.iload 4, 2) := by decide +kernel
theorem dX6_layRow_150 : decode cX6_layRow 150 = .ok (.iload 6, 2) := by decide +kernel
theorem dX6_layRow_152 : decode cX6_layRow 152 = .ok (.iload 7, 2) := by decide +kernel
theorem dX6_layRow_154 : decode cX6_layRow 154 = .ok (.iadd, 1) := by decide +kernel
theorem dX6_layRow_155 : decode cX6_layRow 155 = .ok (.iastore, 1) := by decide +kernel
theorem dX6_layRow_156 : decode cX6_layRow 156 = .ok (.aload_n 0, 1) := by decide +kernel
theorem dX6_layRow_157 : decode cX6_layRow 157 = .ok (.getfield 73, 3) := by decide +kernel
theorem dX6_layRow_160 : decode cX6_layRow 160 = .ok (.iload 4, 2) := by decide +kernel
theorem dX6_layRow_162 : decode cX6_layRow 162 = .ok (.iload 5, 2) := by decide +kernel
theorem dX6_layRow_164 : decode cX6_layRow 164 = .ok (.iconst 1, 1) := by decide +kernel
theorem dX6_layRow_165 : decode cX6_layRow 165 = .ok (.iadd, 1) := by decide +kernel
theorem dX6_layRow_166 : decode cX6_layRow 166 = .ok (.iastore, 1) := by decide +kernel
theorem dX6_layRow_167 : decode cX6_layRow 167 = .ok (.iinc 5 1, 3) := by decide +kernel
theorem dX6_layRow_170 : decode cX6_layRow 170 = .ok (.goto (-138), 3) := by decide +kernel
theorem dX6_layRow_173 : decode cX6_layRow 173 = .ok (.return_, 1) := by decide +kernel
theorem dX6_parted_0 : decode cX6_parted 0 = .ok (.aload_n 0, 1) := by decide +kernel
theorem dX6_parted_1 : decode cX6_parted 1 = .ok (.iload_n 1, 1) := by decide +kernel
theorem dX6_parted_2 : decode cX6_parted 2 = .ok (.iload_n 3, 1) := by decide +kernel
theorem dX6_parted_3 : decode cX6_parted 3 = .ok (.invokevirtual 207, 3) := by decide +kernel
theorem dX6_parted_6 : decode cX6_parted 6 = .ok (.ifCond .eq 22, 3) := by decide +kernel
theorem dX6_parted_9 : decode cX6_parted 9 = .ok (.iload_n 2, 1) := by decide +kernel
theorem dX6_parted_10 : decode cX6_parted 10 = .ok (.iconst 1, 1) := by decide +kernel
theorem dX6_parted_11 : decode cX6_parted 11 = .ok (.iconst 4, 1) := by decide +kernel
theorem dX6_parted_12 : decode cX6_parted 12 = .ok (.invokestatic 76, 3) := by decide +kernel
theorem dX6_parted_15 : decode cX6_parted 15 = .ok (.ifCond .eq 13, 3) := by decide +kernel
theorem dX6_parted_18 : decode cX6_parted 18 = .ok (.iload 4, 2) := by decide +kernel
theorem dX6_parted_20 : decode cX6_parted 20 = .ok (.iconst 0, 1) := by decide +kernel
theorem dX6_parted_21 : decode cX6_parted 21 = .ok (.iload_n 2, 1) := by decide +kernel
theorem dX6_parted_22 : decode cX6_parted 22 = .ok (.invokestatic 76, 3) := by decide +kernel
theorem dX6_parted_25 : decode cX6_parted 25 = .ok (.ifCond .ne 6, 3) := by decide +kernel
theorem dX6_parted_28 : decode cX6_parted 28 = .ok (.ldc 160, 2) := by decide +kernel
theorem dX6_parted_30 : decode cX6_parted 30 = .ok (.ireturn, 1) := by decide +kernel
theorem dX6_parted_31 : decode cX6_parted 31 = .ok (.aload_n 0, 1) := by decide +kernel
theorem dX6_parted_32 : decode cX6_parted 32 = .ok (.iload_n 1, 1) := by decide +kernel
theorem dX6_parted_33 : decode cX6_parted 33 = .ok (.iload_n 3, 1) := by decide +kernel
theorem dX6_parted_34 : decode cX6_parted 34 = .ok (.invokevirtual 286, 3) := by decide +kernel
theorem dX6_parted_37 : decode cX6_parted 37 = .ok (.iconst 1, 1) := by decide +kernel
theorem dX6_parted_38 : decode cX6_parted 38 = .ok (.istore 5, 2) := by decide +kernel
theorem dX6_parted_40 : decode cX6_parted 40 = .ok (.iload 5, 2) := by decide +kernel
theorem dX6_parted_42 : decode cX6_parted 42 = .ok (.iload_n 2, 1) := by decide +kernel
theorem dX6_parted_43 : decode cX6_parted 43 = .ok (.if_icmp .gt 56, 3) := by decide +kernel
theorem dX6_parted_46 : decode cX6_parted 46 = .ok (.aload_n 0, 1) := by decide +kernel
theorem dX6_parted_47 : decode cX6_parted 47 = .ok (.getfield 70, 3) := by decide +kernel
theorem dX6_parted_50 : decode cX6_parted 50 = .ok (.bipush 121, 2) := by decide +kernel
theorem dX6_parted_52 : decode cX6_parted 52 = .ok (.iload 5, 2) := by decide +kernel
theorem dX6_parted_54 : decode cX6_parted 54 = .ok (.imul, 1) := by decide +kernel
theorem dX6_parted_55 : decode cX6_parted 55 = .ok (.aload_n 0, 1) := by decide +kernel
theorem dX6_parted_56 : decode cX6_parted 56 = .ok (.iload_n 1, 1) := by decide +kernel
theorem dX6_parted_57 : decode cX6_parted 57 = .ok (.invokevirtual 116, 3) := by decide +kernel
theorem dX6_parted_60 : decode cX6_parted 60 = .ok (.iadd, 1) := by decide +kernel
theorem dX6_parted_61 : decode cX6_parted 61 = .ok (.ldc 160, 2) := by decide +kernel
theorem dX6_parted_63 : decode cX6_parted 63 = .ok (.iastore, 1) := by decide +kernel
theorem dX6_parted_64 : decode cX6_parted 64 = .ok (.aload_n 0, 1) := by decide +kernel
theorem dX6_parted_65 : decode cX6_parted 65 = .ok (.iload_n 1, 1) := by decide +kernel
theorem dX6_parted_66 : decode cX6_parted 66 = .ok (.invokevirtual 116, 3) := by decide +kernel
theorem dX6_parted_69 : decode cX6_parted 69 = .ok (.iconst 1, 1) := by decide +kernel
theorem dX6_parted_70 : decode cX6_parted 70 = .ok (.isub, 1) := by decide +kernel
theorem dX6_parted_71 : decode cX6_parted 71 = .ok (.istore 6, 2) := by decide +kernel
theorem dX6_parted_73 : decode cX6_parted 73 = .ok (.iload 6, 2) := by decide +kernel
theorem dX6_parted_75 : decode cX6_parted 75 = .ok (.ifCond .lt 18, 3) := by decide +kernel
theorem dX6_parted_78 : decode cX6_parted 78 = .ok (.aload_n 0, 1) := by decide +kernel
theorem dX6_parted_79 : decode cX6_parted 79 = .ok (.iload_n 1, 1) := by decide +kernel
theorem dX6_parted_80 : decode cX6_parted 80 = .ok (.iload 5, 2) := by decide +kernel
theorem dX6_parted_82 : decode cX6_parted 82 = .ok (.iload 6, 2) := by decide +kernel
theorem dX6_parted_84 : decode cX6_parted 84 = .ok (.invokevirtual 289, 3) := by decide +kernel
theorem dX6_parted_87 : decode cX6_parted 87 = .ok (.iinc 6 (-1), 3) := by decide +kernel
theorem dX6_parted_90 : decode cX6_parted 90 = .ok (.goto (-17), 3) := by decide +kernel
theorem dX6_parted_93 : decode cX6_parted 93 = .ok (.iinc 5 1, 3) := by decide +kernel
theorem dX6_parted_96 : decode cX6_parted 96 = .ok (.goto (-56), 3) := by decide +kernel
theorem dX6_parted_99 : decode cX6_parted 99 = .ok (.aload_n 0, 1) := by decide +kernel
theorem dX6_parted_100 : decode cX6_parted 100 = .ok (.getfield 70, 3) := by decide +kernel
theorem dX6_parted_103 : decode cX6_parted 103 = .ok (.bipush 121, 2) := by decide +kernel
theorem dX6_parted_105 : decode cX6_parted 105 = .ok (.iload_n 2, 1) := by decide +kernel
theorem dX6_parted_106 : decode cX6_parted 106 = .ok (.imul, 1) := by decide +kernel
theorem dX6_parted_107 : decode cX6_parted 107 = .ok (.iaload, 1) := by decide +kernel
theorem dX6_parted_108 : decode cX6_parted 108 = .ok (.ldc 160, 2) := by decide +kernel
theorem dX6_parted_110 : decode cX6_parted 110 = .ok (.if_icmp .ne 6, 3) := by decide +kernel
theorem dX6_parted_113 : decode cX6_parted 113 = .ok (.ldc 160, 2) := by decide +kernel
theorem dX6_parted_115 : decode cX6_parted 115 = .ok (.ireturn, 1) := by decide +kernel
theorem dX6_parted_116 : decode cX6_parted 116 = .ok (.iload 4, 2) := by decide +kernel
theorem dX6_parted_118 : decode cX6_parted 118 = .ok (.ifCond .ne 13, 3) := by decide +kernel
theorem dX6_parted_121 : decode cX6_parted 121 = .ok (.aload_n 0, 1) := by decide +kernel
theorem dX6_parted_122 : decode cX6_parted 122 = .ok (.getfield 70, 3) := by decide +kernel
theorem dX6_parted_125 : decode cX6_parted 125 = .ok (.bipush 121, 2) := by decide +kernel
theorem dX6_parted_127 : decode cX6_parted 127 = .ok (.iload_n 2, 1) := by decide +kernel
theorem dX6_parted_128 : decode cX6_parted 128 = .ok (.imul, 1) := by decide +kernel
theorem dX6_parted_129 : decode cX6_parted 129 = .ok (.iaload, 1) := by decide +kernel
theorem dX6_parted_130 : decode cX6_parted 130 = .ok (.ireturn, 1) := by decide +kernel
theorem dX6_parted_131 : decode cX6_parted 131 = .ok (.iconst 0, 1) := by decide +kernel
theorem dX6_parted_132 : decode cX6_parted 132 = .ok (.istore 5, 2) := by decide +kernel
theorem dX6_parted_134 : decode cX6_parted 134 = .ok (.iconst 1, 1) := by decide +kernel
theorem dX6_parted_135 : decode cX6_parted 135 = .ok (.istore 6, 2) := by decide +kernel
theorem dX6_parted_137 : decode cX6_parted 137 = .ok (.iload 6, 2) := by decide +kernel
theorem dX6_parted_139 : decode cX6_parted 139 = .ok (.iload 4, 2) := by decide +kernel
theorem dX6_parted_141 : decode cX6_parted 141 = .ok (.if_icmp .ge 28, 3) := by decide +kernel
theorem dX6_parted_144 : decode cX6_parted 144 = .ok (.aload_n 0, 1) := by decide +kernel
theorem dX6_parted_145 : decode cX6_parted 145 = .ok (.getfield 73, 3) := by decide +kernel
theorem dX6_parted_148 : decode cX6_parted 148 = .ok (.bipush 121, 2) := by decide +kernel
theorem dX6_parted_150 : decode cX6_parted 150 = .ok (.iload_n 2, 1) := by decide +kernel
theorem dX6_parted_151 : decode cX6_parted 151 = .ok (.iload 6, 2) := by decide +kernel
theorem dX6_parted_153 : decode cX6_parted 153 = .ok (.isub, 1) := by decide +kernel
theorem dX6_parted_154 : decode cX6_parted 154 = .ok (.iconst 1, 1) := by decide +kernel
theorem dX6_parted_155 : decode cX6_parted 155 = .ok (.iadd, 1) := by decide +kernel
theorem dX6_parted_156 : decode cX6_parted 156 = .ok (.imul, 1) := by decide +kernel
theorem dX6_parted_157 : decode cX6_parted 157 = .ok (.iload 5, 2) := by decide +kernel
theorem dX6_parted_159 : decode cX6_parted 159 = .ok (.iadd, 1) := by decide +kernel
theorem dX6_parted_160 : decode cX6_parted 160 = .ok (.iaload, 1) := by decide +kernel
theorem dX6_parted_161 : decode cX6_parted 161 = .ok (.istore 5, 2) := by decide +kernel
theorem dX6_parted_163 : decode cX6_parted 163 = .ok (.iinc 6 1, 3) := by decide +kernel
theorem dX6_parted_166 : decode cX6_parted 166 = .ok (.goto (-29), 3) := by decide +kernel
theorem dX6_parted_169 : decode cX6_parted 169 = .ok (.iload 5, 2) := by decide +kernel
theorem dX6_parted_171 : decode cX6_parted 171 = .ok (.ireturn, 1) := by decide +kernel
theorem dX6_were_0 : decode cX6_were 0 = .ok (.aload_n 0, 1) := by decide +kernel
theorem dX6_were_1 : decode cX6_were 1 = .ok (.iload_n 1, 1) := by decide +kernel
theorem dX6_were_2 : decode cX6_were 2 = .ok (.iload 4, 2) := by decide +kernel
theorem dX6_were_4 : decode cX6_were 4 = .ok (.invokevirtual 207, 3) := by decide +kernel
theorem dX6_were_7 : decode cX6_were 7 = .ok (.ifCond .eq 43, 3) := by decide +kernel
theorem dX6_were_10 : decode cX6_were 10 = .ok (.iload_n 2, 1) := by decide +kernel
theorem dX6_were_11 : decode cX6_were 11 = .ok (.iconst 0, 1) := by decide +kernel
theorem dX6_were_12 : decode cX6_were 12 = .ok (.ldc 239, 2) := by decide +kernel
theorem dX6_were_14 : decode cX6_were 14 = .ok (.invokestatic 76, 3) := by decide +kernel
theorem dX6_were_17 : decode cX6_were 17 = .ok (.ifCond .eq 33, 3) := by decide +kernel
theorem dX6_were_20 : decode cX6_were 20 = .ok (.iload_n 3, 1) := by decide +kernel
theorem dX6_were_21 : decode cX6_were 21 = .ok (.sipush (-1000), 3) := by decide +kernel
theorem dX6_were_24 : decode cX6_were 24 = .ok (.sipush 1000, 3) := by decide +kernel
theorem dX6_were_27 : decode cX6_were 27 = .ok (.invokestatic 76, 3) := by decide +kernel
theorem dX6_were_30 : decode cX6_were 30 = .ok (.ifCond .eq 20, 3) := by decide +kernel
