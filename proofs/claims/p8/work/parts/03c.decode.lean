theorem dX5_joined_22 : decode cX5_joined 22 = .ok (.ifnull 16, 3) := by decide +kernel
theorem dX5_joined_25 : decode cX5_joined 25 = .ok (.aload 4, 2) := by decide +kernel
theorem dX5_joined_27 : decode cX5_joined 27 = .ok (.getfield 98, 3) := by decide +kernel
theorem dX5_joined_30 : decode cX5_joined 30 = .ok (.aload 5, 2) := by decide +kernel
theorem dX5_joined_32 : decode cX5_joined 32 = .ok (.getfield 98, 3) := by decide +kernel
theorem dX5_joined_35 : decode cX5_joined 35 = .ok (.if_icmp .eq 6, 3) := by decide +kernel
theorem dX5_joined_38 : decode cX5_joined 38 = .ok (.ldc 175, 2) := by decide +kernel
theorem dX5_joined_40 : decode cX5_joined 40 = .ok (.ireturn, 1) := by decide +kernel
theorem dX5_joined_41 : decode cX5_joined 41 = .ok (.aload_n 0, 1) := by decide +kernel
theorem dX5_joined_42 : decode cX5_joined 42 = .ok (.aload 4, 2) := by decide +kernel
theorem dX5_joined_44 : decode cX5_joined 44 = .ok (.iconst 0, 1) := by decide +kernel
theorem dX5_joined_45 : decode cX5_joined 45 = .ok (.aload 4, 2) := by decide +kernel
theorem dX5_joined_47 : decode cX5_joined 47 = .ok (.getfield 154, 3) := by decide +kernel
theorem dX5_joined_50 : decode cX5_joined 50 = .ok (.invokevirtual 259, 3) := by decide +kernel
theorem dX5_joined_53 : decode cX5_joined 53 = .ok (.iconst 0, 1) := by decide +kernel
theorem dX5_joined_54 : decode cX5_joined 54 = .ok (.istore 6, 2) := by decide +kernel
theorem dX5_joined_56 : decode cX5_joined 56 = .ok (.iload 6, 2) := by decide +kernel
theorem dX5_joined_58 : decode cX5_joined 58 = .ok (.aload 5, 2) := by decide +kernel
theorem dX5_joined_60 : decode cX5_joined 60 = .ok (.getfield 154, 3) := by decide +kernel
theorem dX5_joined_63 : decode cX5_joined 63 = .ok (.if_icmp .ge 24, 3) := by decide +kernel
theorem dX5_joined_66 : decode cX5_joined 66 = .ok (.aload_n 0, 1) := by decide +kernel
theorem dX5_joined_67 : decode cX5_joined 67 = .ok (.getfield 40, 3) := by decide +kernel
theorem dX5_joined_70 : decode cX5_joined 70 = .ok (.aload 5, 2) := by decide +kernel
theorem dX5_joined_72 : decode cX5_joined 72 = .ok (.getfield 176, 3) := by decide +kernel
theorem dX5_joined_75 : decode cX5_joined 75 = .ok (.iload 6, 2) := by decide +kernel
theorem dX5_joined_77 : decode cX5_joined 77 = .ok (.iaload, 1) := by decide +kernel
theorem dX5_joined_78 : decode cX5_joined 78 = .ok (.invokevirtual 253, 3) := by decide +kernel
theorem dX5_joined_81 : decode cX5_joined 81 = .ok (.iinc 6 1, 3) := by decide +kernel
theorem dX5_joined_84 : decode cX5_joined 84 = .ok (.goto (-28), 3) := by decide +kernel
theorem dX5_joined_87 : decode cX5_joined 87 = .ok (.aload_n 0, 1) := by decide +kernel
theorem dX5_joined_88 : decode cX5_joined 88 = .ok (.getfield 40, 3) := by decide +kernel
theorem dX5_joined_91 : decode cX5_joined 91 = .ok (.iload_n 3, 1) := by decide +kernel
theorem dX5_joined_92 : decode cX5_joined 92 = .ok (.invokevirtual 273, 3) := by decide +kernel
theorem dX5_joined_95 : decode cX5_joined 95 = .ok (.ireturn, 1) := by decide +kernel
theorem dX5_woven_0 : decode cX5_woven 0 = .ok (.aload_n 0, 1) := by decide +kernel
theorem dX5_woven_1 : decode cX5_woven 1 = .ok (.iload_n 1, 1) := by decide +kernel
theorem dX5_woven_2 : decode cX5_woven 2 = .ok (.iload_n 3, 1) := by decide +kernel
theorem dX5_woven_3 : decode cX5_woven 3 = .ok (.invokevirtual 248, 3) := by decide +kernel
theorem dX5_woven_6 : decode cX5_woven 6 = .ok (.astore 4, 2) := by decide +kernel
theorem dX5_woven_8 : decode cX5_woven 8 = .ok (.aload_n 0, 1) := by decide +kernel
theorem dX5_woven_9 : decode cX5_woven 9 = .ok (.iload_n 2, 1) := by decide +kernel
theorem dX5_woven_10 : decode cX5_woven 10 = .ok (.invokevirtual 123, 3) := by decide +kernel
theorem dX5_woven_13 : decode cX5_woven 13 = .ok (.astore 5, 2) := by decide +kernel
theorem dX5_woven_15 : decode cX5_woven 15 = .ok (.aload 4, 2) := by decide +kernel
theorem dX5_woven_17 : decode cX5_woven 17 = .ok (.ifnull 21, 3) := by decide +kernel
theorem dX5_woven_20 : decode cX5_woven 20 = .ok (.aload 5, 2) := by decide +kernel
theorem dX5_woven_22 : decode cX5_woven 22 = .ok (.ifnull 16, 3) := by decide +kernel
theorem dX5_woven_25 : decode cX5_woven 25 = .ok (.aload 4, 2) := by decide +kernel
theorem dX5_woven_27 : decode cX5_woven 27 = .ok (.getfield 98, 3) := by decide +kernel
theorem dX5_woven_30 : decode cX5_woven 30 = .ok (.aload 5, 2) := by decide +kernel
theorem dX5_woven_32 : decode cX5_woven 32 = .ok (.getfield 98, 3) := by decide +kernel
theorem dX5_woven_35 : decode cX5_woven 35 = .ok (.if_icmp .eq 6, 3) := by decide +kernel
theorem dX5_woven_38 : decode cX5_woven 38 = .ok (.ldc 175, 2) := by decide +kernel
theorem dX5_woven_40 : decode cX5_woven 40 = .ok (.ireturn, 1) := by decide +kernel
theorem dX5_woven_41 : decode cX5_woven 41 = .ok (.aload_n 0, 1) := by decide +kernel
theorem dX5_woven_42 : decode cX5_woven 42 = .ok (.getfield 40, 3) := by decide +kernel
theorem dX5_woven_45 : decode cX5_woven 45 = .ok (.aload 4, 2) := by decide +kernel
theorem dX5_woven_47 : decode cX5_woven 47 = .ok (.getfield 98, 3) := by decide +kernel
theorem dX5_woven_50 : decode cX5_woven 50 = .ok (.invokevirtual 251, 3) := by decide +kernel
theorem dX5_woven_53 : decode cX5_woven 53 = .ok (.iconst 0, 1) := by decide +kernel
theorem dX5_woven_54 : decode cX5_woven 54 = .ok (.istore 6, 2) := by decide +kernel
theorem dX5_woven_56 : decode cX5_woven 56 = .ok (.iconst 0, 1) := by decide +kernel
theorem dX5_woven_57 : decode cX5_woven 57 = .ok (.istore 7, 2) := by decide +kernel
theorem dX5_woven_59 : decode cX5_woven 59 = .ok (.aload 4, 2) := by decide +kernel
theorem dX5_woven_61 : decode cX5_woven 61 = .ok (.getfield 154, 3) := by decide +kernel
theorem dX5_woven_64 : decode cX5_woven 64 = .ok (.aload 5, 2) := by decide +kernel
theorem dX5_woven_66 : decode cX5_woven 66 = .ok (.getfield 154, 3) := by decide +kernel
theorem dX5_woven_69 : decode cX5_woven 69 = .ok (.iadd, 1) := by decide +kernel
theorem dX5_woven_70 : decode cX5_woven 70 = .ok (.istore 8, 2) := by decide +kernel
theorem dX5_woven_72 : decode cX5_woven 72 = .ok (.iload 8, 2) := by decide +kernel
theorem dX5_woven_74 : decode cX5_woven 74 = .ok (.ifCond .le 116, 3) := by decide +kernel
theorem dX5_woven_77 : decode cX5_woven 77 = .ok (.iload 7, 2) := by decide +kernel
theorem dX5_woven_79 : decode cX5_woven 79 = .ok (.aload 5, 2) := by decide +kernel
theorem dX5_woven_81 : decode cX5_woven 81 = .ok (.getfield 154, 3) := by decide +kernel
theorem dX5_woven_84 : decode cX5_woven 84 = .ok (.if_icmp .ge 32, 3) := by decide +kernel
theorem dX5_woven_87 : decode cX5_woven 87 = .ok (.iload 6, 2) := by decide +kernel
theorem dX5_woven_89 : decode cX5_woven 89 = .ok (.aload 4, 2) := by decide +kernel
theorem dX5_woven_91 : decode cX5_woven 91 = .ok (.getfield 154, 3) := by decide +kernel
theorem dX5_woven_94 : decode cX5_woven 94 = .ok (.if_icmp .ge 26, 3) := by decide +kernel
theorem dX5_woven_97 : decode cX5_woven 97 = .ok (.aload 4, 2) := by decide +kernel
theorem dX5_woven_99 : decode cX5_woven 99 = .ok (.getfield 198, 3) := by decide +kernel
theorem dX5_woven_102 : decode cX5_woven 102 = .ok (.iload 6, 2) := by decide +kernel
theorem dX5_woven_104 : decode cX5_woven 104 = .ok (.iaload, 1) := by decide +kernel
theorem dX5_woven_105 : decode cX5_woven 105 = .ok (.aload 5, 2) := by decide +kernel
theorem dX5_woven_107 : decode cX5_woven 107 = .ok (.getfield 198, 3) := by decide +kernel
theorem dX5_woven_110 : decode cX5_woven 110 = .ok (.iload 7, 2) := by decide +kernel
theorem dX5_woven_112 : decode cX5_woven 112 = .ok (.iaload, 1) := by decide +kernel
theorem dX5_woven_113 : decode cX5_woven 113 = .ok (.if_icmp .gt 7, 3) := by decide +kernel
theorem dX5_woven_116 : decode cX5_woven 116 = .ok (.iconst 1, 1) := by decide +kernel
theorem dX5_woven_117 : decode cX5_woven 117 = .ok (.goto 4, 3) := by decide +kernel
theorem dX5_woven_120 : decode cX5_woven 120 = .ok (.iconst 0, 1) := by decide +kernel
theorem dX5_woven_121 : decode cX5_woven 121 = .ok (.istore 9, 2) := by decide +kernel
theorem dX5_woven_123 : decode cX5_woven 123 = .ok (.aload_n 0, 1) := by decide +kernel
theorem dX5_woven_124 : decode cX5_woven 124 = .ok (.getfield 40, 3) := by decide +kernel
theorem dX5_woven_127 : decode cX5_woven 127 = .ok (.iload 9, 2) := by decide +kernel
theorem dX5_woven_129 : decode cX5_woven 129 = .ok (.ifCond .eq 14, 3) := by decide +kernel
theorem dX5_woven_132 : decode cX5_woven 132 = .ok (.aload 4, 2) := by decide +kernel
theorem dX5_woven_134 : decode cX5_woven 134 = .ok (.getfield 176, 3) := by decide +kernel
theorem dX5_woven_137 : decode cX5_woven 137 = .ok (.iload 6, 2) := by decide +kernel
theorem dX5_woven_139 : decode cX5_woven 139 = .ok (.iaload, 1) := by decide +kernel
theorem dX5_woven_140 : decode cX5_woven 140 = .ok (.goto 11, 3) := by decide +kernel
theorem dX5_woven_143 : decode cX5_woven 143 = .ok (.aload 5, 2) := by decide +kernel
theorem dX5_woven_145 : decode cX5_woven 145 = .ok (.getfield 176, 3) := by decide +kernel
theorem dX5_woven_148 : decode cX5_woven 148 = .ok (.iload 7, 2) := by decide +kernel
theorem dX5_woven_150 : decode cX5_woven 150 = .ok (.iaload, 1) := by decide +kernel
theorem dX5_woven_151 : decode cX5_woven 151 = .ok (.invokevirtual 253, 3) := by decide +kernel
theorem dX5_woven_154 : decode cX5_woven 154 = .ok (.iload 6, 2) := by decide +kernel
theorem dX5_woven_156 : decode cX5_woven 156 = .ok (.iload 9, 2) := by decide +kernel
theorem dX5_woven_158 : decode cX5_woven 158 = .ok (.ifCond .eq 7, 3) := by decide +kernel
theorem dX5_woven_161 : decode cX5_woven 161 = .ok (.iconst 1, 1) := by decide +kernel
theorem dX5_woven_162 : decode cX5_woven 162 = .ok (.goto 4, 3) := by decide +kernel
theorem dX5_woven_165 : decode cX5_woven 165 = .ok (.iconst 0, 1) := by decide +kernel
theorem dX5_woven_166 : decode cX5_woven 166 = .ok (.iadd, 1) := by decide +kernel
theorem dX5_woven_167 : decode cX5_woven 167 = .ok (.istore 6, 2) := by decide +kernel
theorem dX5_woven_169 : decode cX5_woven 169 = .ok (.iload 7, 2) := by decide +kernel
theorem dX5_woven_171 : decode cX5_woven 171 = .ok (.iload 9, 2) := by decide +kernel
theorem dX5_woven_173 : decode cX5_woven 173 = .ok (.ifCond .eq 7, 3) := by decide +kernel
theorem dX5_woven_176 : decode cX5_woven 176 = .ok (.iconst 0, 1) := by decide +kernel
theorem dX5_woven_177 : decode cX5_woven 177 = .ok (.goto 4, 3) := by decide +kernel
theorem dX5_woven_180 : decode cX5_woven 180 = .ok (.iconst 1, 1) := by decide +kernel
theorem dX5_woven_181 : decode cX5_woven 181 = .ok (.iadd, 1) := by decide +kernel
theorem dX5_woven_182 : decode cX5_woven 182 = .ok (.istore 7, 2) := by decide +kernel
theorem dX5_woven_184 : decode cX5_woven 184 = .ok (.iinc 8 (-1), 3) := by decide +kernel
theorem dX5_woven_187 : decode cX5_woven 187 = .ok (.goto (-115), 3) := by decide +kernel
theorem dX5_woven_190 : decode cX5_woven 190 = .ok (.aload_n 0, 1) := by decide +kernel
theorem dX5_woven_191 : decode cX5_woven 191 = .ok (.getfield 40, 3) := by decide +kernel
theorem dX5_woven_194 : decode cX5_woven 194 = .ok (.iload_n 3, 1) := by decide +kernel
theorem dX5_woven_195 : decode cX5_woven 195 = .ok (.invokevirtual 273, 3) := by decide +kernel
theorem dX5_woven_198 : decode cX5_woven 198 = .ok (.ireturn, 1) := by decide +kernel
theorem dX5_same_0 : decode cX5_same 0 = .ok (.aload_n 0, 1) := by decide +kernel
theorem dX5_same_1 : decode cX5_same 1 = .ok (.iload_n 1, 1) := by decide +kernel
theorem dX5_same_2 : decode cX5_same 2 = .ok (.invokevirtual 123, 3) := by decide +kernel
theorem dX5_same_5 : decode cX5_same 5 = .ok (.astore_n 3, 1) := by decide +kernel
theorem dX5_same_6 : decode cX5_same 6 = .ok (.aload_n 0, 1) := by decide +kernel
theorem dX5_same_7 : decode cX5_same 7 = .ok (.iload_n 2, 1) := by decide +kernel
theorem dX5_same_8 : decode cX5_same 8 = .ok (.invokevirtual 123, 3) := by decide +kernel
theorem dX5_same_11 : decode cX5_same 11 = .ok (.astore 4, 2) := by decide +kernel
theorem dX5_same_13 : decode cX5_same 13 = .ok (.aload_n 3, 1) := by decide +kernel
theorem dX5_same_14 : decode cX5_same 14 = .ok (.ifnull 20, 3) := by decide +kernel
theorem dX5_same_17 : decode cX5_same 17 = .ok (.aload 4, 2) := by decide +kernel
theorem dX5_same_19 : decode cX5_same 19 = .ok (.ifnull 15, 3) := by decide +kernel
theorem dX5_same_22 : decode cX5_same 22 = .ok (.aload_n 3, 1) := by decide +kernel
theorem dX5_same_23 : decode cX5_same 23 = .ok (.getfield 98, 3) := by decide +kernel
theorem dX5_same_26 : decode cX5_same 26 = .ok (.aload 4, 2) := by decide +kernel
theorem dX5_same_28 : decode cX5_same 28 = .ok (.getfield 98, 3) := by decide +kernel
theorem dX5_same_31 : decode cX5_same 31 = .ok (.if_icmp .eq 5, 3) := by decide +kernel
theorem dX5_same_34 : decode cX5_same 34 = .ok (.iconst (-1), 1) := by decide +kernel
theorem dX5_same_35 : decode cX5_same 35 = .ok (.ireturn, 1) := by decide +kernel
theorem dX5_same_36 : decode cX5_same 36 = .ok (.aload_n 0, 1) := by decide +kernel
theorem dX5_same_37 : decode cX5_same 37 = .ok (.aload_n 3, 1) := by decide +kernel
theorem dX5_same_38 : decode cX5_same 38 = .ok (.iconst 0, 1) := by decide +kernel
theorem dX5_same_39 : decode cX5_same 39 = .ok (.aload_n 3, 1) := by decide +kernel
theorem dX5_same_40 : decode cX5_same 40 = .ok (.getfield 154, 3) := by decide +kernel
theorem dX5_same_43 : decode cX5_same 43 = .ok (.invokevirtual 259, 3) := by decide +kernel
theorem dX5_same_46 : decode cX5_same 46 = .ok (.aload_n 0, 1) := by decide +kernel
theorem dX5_same_47 : decode cX5_same 47 = .ok (.getfield 40, 3) := by decide +kernel
theorem dX5_same_50 : decode cX5_same 50 = .ok (.invokevirtual 275, 3) := by decide +kernel
theorem dX5_same_53 : decode cX5_same 53 = .ok (.aload_n 0, 1) := by decide +kernel
theorem dX5_same_54 : decode cX5_same 54 = .ok (.aload 4, 2) := by decide +kernel
theorem dX5_same_56 : decode cX5_same 56 = .ok (.iconst 0, 1) := by decide +kernel
theorem dX5_same_57 : decode cX5_same 57 = .ok (.aload 4, 2) := by decide +kernel
theorem dX5_same_59 : decode cX5_same 59 = .ok (.getfield 154, 3) := by decide +kernel
theorem dX5_same_62 : decode cX5_same 62 = .ok (.invokevirtual 259, 3) := by decide +kernel
theorem dX5_same_65 : decode cX5_same 65 = .ok (.aload_n 0, 1) := by decide +kernel
theorem dX5_same_66 : decode cX5_same 66 = .ok (.getfield 40, 3) := by decide +kernel
theorem dX5_same_69 : decode cX5_same 69 = .ok (.invokevirtual 278, 3) := by decide +kernel
theorem dX5_same_72 : decode cX5_same 72 = .ok (.ifCond .eq 7, 3) := by decide +kernel
theorem dX5_same_75 : decode cX5_same 75 = .ok (.iconst 1, 1) := by decide +kernel
theorem dX5_same_76 : decode cX5_same 76 = .ok (.goto 4, 3) := by decide +kernel
theorem dX5_same_79 : decode cX5_same 79 = .ok (.iconst 0, 1) := by decide +kernel
theorem dX5_same_80 : decode cX5_same 80 = .ok (.ireturn, 1) := by decide +kernel
theorem dX5_panes_0 : decode cX5_panes 0 = .ok (.aload_n 0, 1) := by decide +kernel
theorem dX5_panes_1 : decode cX5_panes 1 = .ok (.iload_n 1, 1) := by decide +kernel
theorem dX5_panes_2 : decode cX5_panes 2 = .ok (.invokevirtual 123, 3) := by decide +kernel
theorem dX5_panes_5 : decode cX5_panes 5 = .ok (.astore_n 3, 1) := by decide +kernel
theorem dX5_panes_6 : decode cX5_panes 6 = .ok (.aload_n 3, 1) := by decide +kernel
theorem dX5_panes_7 : decode cX5_panes 7 = .ok (.ifnull 14, 3) := by decide +kernel
theorem dX5_panes_10 : decode cX5_panes 10 = .ok (.iload_n 2, 1) := by decide +kernel
theorem dX5_panes_11 : decode cX5_panes 11 = .ok (.iconst 1, 1) := by decide +kernel
theorem dX5_panes_12 : decode cX5_panes 12 = .ok (.ldc_w 284, 3) := by decide +kernel
theorem dX5_panes_15 : decode cX5_panes 15 = .ok (.invokestatic 59, 3) := by decide +kernel
theorem dX5_panes_18 : decode cX5_panes 18 = .ok (.ifCond .ne 5, 3) := by decide +kernel
theorem dX5_panes_21 : decode cX5_panes 21 = .ok (.iconst (-1), 1) := by decide +kernel
theorem dX5_panes_22 : decode cX5_panes 22 = .ok (.ireturn, 1) := by decide +kernel
theorem dX5_panes_23 : decode cX5_panes 23 = .ok (.iconst 0, 1) := by decide +kernel
theorem dX5_panes_24 : decode cX5_panes 24 = .ok (.istore 4, 2) := by decide +kernel
theorem dX5_panes_26 : decode cX5_panes 26 = .ok (.iconst (-1), 1) := by decide +kernel
theorem dX5_panes_27 : decode cX5_panes 27 = .ok (.istore 5, 2) := by decide +kernel
theorem dX5_panes_29 : decode cX5_panes 29 = .ok (.iconst 0, 1) := by decide +kernel
theorem dX5_panes_30 : decode cX5_panes 30 = .ok (.istore 6, 2) := by decide +kernel
theorem dX5_panes_32 : decode cX5_panes 32 = .ok (.iload 6, 2) := by decide +kernel
theorem dX5_panes_34 : decode cX5_panes 34 = .ok (.aload_n 3, 1) := by decide +kernel
theorem dX5_panes_35 : decode cX5_panes 35 = .ok (.getfield 154, 3) := by decide +kernel
theorem dX5_panes_38 : decode cX5_panes 38 = .ok (.if_icmp .ge 41, 3) := by decide +kernel
theorem dX5_panes_41 : decode cX5_panes 41 = .ok (.aload_n 3, 1) := by decide +kernel
theorem dX5_panes_42 : decode cX5_panes 42 = .ok (.getfield 198, 3) := by decide +kernel
theorem dX5_panes_45 : decode cX5_panes 45 = .ok (.iload 6, 2) := by decide +kernel
theorem dX5_panes_47 : decode cX5_panes 47 = .ok (.iaload, 1) := by decide +kernel
theorem dX5_panes_48 : decode cX5_panes 48 = .ok (.iload_n 2, 1) := by decide +kernel
theorem dX5_panes_49 : decode cX5_panes 49 = .ok (.idiv, 1) := by decide +kernel
theorem dX5_panes_50 : decode cX5_panes 50 = .ok (.istore 7, 2) := by decide +kernel
theorem dX5_panes_52 : decode cX5_panes 52 = .ok (.iload 4, 2) := by decide +kernel
theorem dX5_panes_54 : decode cX5_panes 54 = .ok (.iload 7, 2) := by decide +kernel
theorem dX5_panes_56 : decode cX5_panes 56 = .ok (.iload 5, 2) := by decide +kernel
theorem dX5_panes_58 : decode cX5_panes 58 = .ok (.if_icmp .eq 7, 3) := by decide +kernel
theorem dX5_panes_61 : decode cX5_panes 61 = .ok (.iconst 1, 1) := by decide +kernel
theorem dX5_panes_62 : decode cX5_panes 62 = .ok (.goto 4, 3) := by decide +kernel
theorem dX5_panes_65 : decode cX5_panes 65 = .ok (.iconst 0, 1) := by decide +kernel
theorem dX5_panes_66 : decode cX5_panes 66 = .ok (.iadd, 1) := by decide +kernel
theorem dX5_panes_67 : decode cX5_panes 67 = .ok (.istore 4, 2) := by decide +kernel
theorem dX5_panes_69 : decode cX5_panes 69 = .ok (.iload 7, 2) := by decide +kernel
theorem dX5_panes_71 : decode cX5_panes 71 = .ok (.istore 5, 2) := by decide +kernel
theorem dX5_panes_73 : decode cX5_panes 73 = .ok (.iinc 6 1, 3) := by decide +kernel
theorem dX5_panes_76 : decode cX5_panes 76 = .ok (.goto (-44), 3) := by decide +kernel
theorem dX5_panes_79 : decode cX5_panes 79 = .ok (.iload 4, 2) := by decide +kernel
theorem dX5_panes_81 : decode cX5_panes 81 = .ok (.ireturn, 1) := by decide +kernel
theorem dX5_fullest_0 : decode cX5_fullest 0 = .ok (.aload_n 0, 1) := by decide +kernel
theorem dX5_fullest_1 : decode cX5_fullest 1 = .ok (.iload_n 1, 1) := by decide +kernel
theorem dX5_fullest_2 : decode cX5_fullest 2 = .ok (.invokevirtual 123, 3) := by decide +kernel
theorem dX5_fullest_5 : decode cX5_fullest 5 = .ok (.astore_n 3, 1) := by decide +kernel
theorem dX5_fullest_6 : decode cX5_fullest 6 = .ok (.aload_n 3, 1) := by decide +kernel
theorem dX5_fullest_7 : decode cX5_fullest 7 = .ok (.ifnull 14, 3) := by decide +kernel
theorem dX5_fullest_10 : decode cX5_fullest 10 = .ok (.iload_n 2, 1) := by decide +kernel
theorem dX5_fullest_11 : decode cX5_fullest 11 = .ok (.iconst 1, 1) := by decide +kernel
theorem dX5_fullest_12 : decode cX5_fullest 12 = .ok (.ldc_w 284, 3) := by decide +kernel
theorem dX5_fullest_15 : decode cX5_fullest 15 = .ok (.invokestatic 59, 3) := by decide +kernel
theorem dX5_fullest_18 : decode cX5_fullest 18 = .ok (.ifCond .ne 5, 3) := by decide +kernel
theorem dX5_fullest_21 : decode cX5_fullest 21 = .ok (.iconst (-1), 1) := by decide +kernel
theorem dX5_fullest_22 : decode cX5_fullest 22 = .ok (.ireturn, 1) := by decide +kernel
theorem dX5_fullest_23 : decode cX5_fullest 23 = .ok (.iconst (-1), 1) := by decide +kernel
theorem dX5_fullest_24 : decode cX5_fullest 24 = .ok (.istore 4, 2) := by decide +kernel
theorem dX5_fullest_26 : decode cX5_fullest 26 = .ok (.iconst 0, 1) := by decide +kernel
theorem dX5_fullest_27 : decode cX5_fullest 27 = .ok (.istore 5, 2) := by decide +kernel
theorem dX5_fullest_29 : decode cX5_fullest 29 = .ok (.iconst (-1), 1) := by decide +kernel
theorem dX5_fullest_30 : decode cX5_fullest 30 = .ok (.istore 6, 2) := by decide +kernel
theorem dX5_fullest_32 : decode cX5_fullest 32 = .ok (.iconst 0, 1) := by decide +kernel
theorem dX5_fullest_33 : decode cX5_fullest 33 = .ok (.istore 7, 2) := by decide +kernel
theorem dX5_fullest_35 : decode cX5_fullest 35 = .ok (.iconst 0, 1) := by decide +kernel
theorem dX5_fullest_36 : decode cX5_fullest 36 = .ok (.istore 8, 2) := by decide +kernel
theorem dX5_fullest_38 : decode cX5_fullest 38 = .ok (.iload 8, 2) := by decide +kernel
theorem dX5_fullest_40 : decode cX5_fullest 40 = .ok (.aload_n 3, 1) := by decide +kernel
theorem dX5_fullest_41 : decode cX5_fullest 41 = .ok (.getfield 154, 3) := by decide +kernel
theorem dX5_fullest_44 : decode cX5_fullest 44 = .ok (.if_icmp .ge 56, 3) := by decide +kernel
theorem dX5_fullest_47 : decode cX5_fullest 47 = .ok (.aload_n 3, 1) := by decide +kernel
theorem dX5_fullest_48 : decode cX5_fullest 48 = .ok (.getfield 198, 3) := by decide +kernel
theorem dX5_fullest_51 : decode cX5_fullest 51 = .ok (.iload 8, 2) := by decide +kernel
theorem dX5_fullest_53 : decode cX5_fullest 53 = .ok (.iaload, 1) := by decide +kernel
theorem dX5_fullest_54 : decode cX5_fullest 54 = .ok (.iload_n 2, 1) := by decide +kernel
theorem dX5_fullest_55 : decode cX5_fullest 55 = .ok (.idiv, 1) := by decide +kernel
theorem dX5_fullest_56 : decode cX5_fullest 56 = .ok (.istore 9, 2) := by decide +kernel
theorem dX5_fullest_58 : decode cX5_fullest 58 = .ok (.iload 9, 2) := by decide +kernel
theorem dX5_fullest_60 : decode cX5_fullest 60 = .ok (.iload 6, 2) := by decide +kernel
theorem dX5_fullest_62 : decode cX5_fullest 62 = .ok (.if_icmp .ne 10, 3) := by decide +kernel
theorem dX5_fullest_65 : decode cX5_fullest 65 = .ok (.iload 7, 2) := by decide +kernel
theorem dX5_fullest_67 : decode cX5_fullest 67 = .ok (.iconst 1, 1) := by decide +kernel
theorem dX5_fullest_68 : decode cX5_fullest 68 = .ok (.iadd, 1) := by decide +kernel
theorem dX5_fullest_69 : decode cX5_fullest 69 = .ok (.goto 4, 3) := by decide +kernel
theorem dX5_fullest_72 : decode cX5_fullest 72 = .ok (.iconst 1, 1) := by decide +kernel
theorem dX5_fullest_73 : decode cX5_fullest 73 = .ok (.istore 7, 2) := by decide +kernel
theorem dX5_fullest_75 : decode cX5_fullest 75 = .ok (.iload 9, 2) := by decide +kernel
theorem dX5_fullest_77 : decode cX5_fullest 77 = .ok (.istore 6, 2) := by decide +kernel
theorem dX5_fullest_79 : decode cX5_fullest 79 = .ok (.iload 7, 2) := by decide +kernel
theorem dX5_fullest_81 : decode cX5_fullest 81 = .ok (.iload 5, 2) := by decide +kernel
theorem dX5_fullest_83 : decode cX5_fullest 83 = .ok (.if_icmp .le 11, 3) := by decide +kernel
theorem dX5_fullest_86 : decode cX5_fullest 86 = .ok (.iload 7, 2) := by decide +kernel
theorem dX5_fullest_88 : decode cX5_fullest 88 = .ok (.istore 5, 2) := by decide +kernel
theorem dX5_fullest_90 : decode cX5_fullest 90 = .ok (.iload 9, 2) := by decide +kernel
theorem dX5_fullest_92 : decode cX5_fullest 92 = .ok (.istore 4, 2) := by decide +kernel
theorem dX5_fullest_94 : decode cX5_fullest 94 = .ok (.iinc 8 1, 3) := by decide +kernel
theorem dX5_fullest_97 : decode cX5_fullest 97 = .ok (.goto (-59), 3) := by decide +kernel
theorem dX5_fullest_100 : decode cX5_fullest 100 = .ok (.iload 4, 2) := by decide +kernel
theorem dX5_fullest_102 : decode cX5_fullest 102 = .ok (.ireturn, 1) := by decide +kernel
theorem dX5_sessions_0 : decode cX5_sessions 0 = .ok (.aload_n 0, 1) := by decide +kernel
theorem dX5_sessions_1 : decode cX5_sessions 1 = .ok (.iload_n 1, 1) := by decide +kernel
theorem dX5_sessions_2 : decode cX5_sessions 2 = .ok (.invokevirtual 123, 3) := by decide +kernel
theorem dX5_sessions_5 : decode cX5_sessions 5 = .ok (.astore_n 3, 1) := by decide +kernel
theorem dX5_sessions_6 : decode cX5_sessions 6 = .ok (.aload_n 3, 1) := by decide +kernel
theorem dX5_sessions_7 : decode cX5_sessions 7 = .ok (.ifnull 10, 3) := by decide +kernel
theorem dX5_sessions_10 : decode cX5_sessions 10 = .ok (.iload_n 2, 1) := by decide +kernel
theorem dX5_sessions_11 : decode cX5_sessions 11 = .ok (.invokestatic 285, 3) := by decide +kernel
theorem dX5_sessions_14 : decode cX5_sessions 14 = .ok (.ifCond .ne 5, 3) := by decide +kernel
theorem dX5_sessions_17 : decode cX5_sessions 17 = .ok (.iconst (-1), 1) := by decide +kernel
theorem dX5_sessions_18 : decode cX5_sessions 18 = .ok (.ireturn, 1) := by decide +kernel
theorem dX5_sessions_19 : decode cX5_sessions 19 = .ok (.iconst 0, 1) := by decide +kernel
theorem dX5_sessions_20 : decode cX5_sessions 20 = .ok (.istore 4, 2) := by decide +kernel
theorem dX5_sessions_22 : decode cX5_sessions 22 = .ok (.iconst 0, 1) := by decide +kernel
theorem dX5_sessions_23 : decode cX5_sessions 23 = .ok (.istore 5, 2) := by decide +kernel
theorem dX5_sessions_25 : decode cX5_sessions 25 = .ok (.iload 5, 2) := by decide +kernel
theorem dX5_sessions_27 : decode cX5_sessions 27 = .ok (.aload_n 3, 1) := by decide +kernel
theorem dX5_sessions_28 : decode cX5_sessions 28 = .ok (.getfield 154, 3) := by decide +kernel
theorem dX5_sessions_31 : decode cX5_sessions 31 = .ok (.if_icmp .ge 29, 3) := by decide +kernel
theorem dX5_sessions_34 : decode cX5_sessions 34 = .ok (.iload 4, 2) := by decide +kernel
theorem dX5_sessions_36 : decode cX5_sessions 36 = .ok (.aload_n 3, 1) := by decide +kernel
theorem dX5_sessions_37 : decode cX5_sessions 37 = .ok (.iload 5, 2) := by decide +kernel
theorem dX5_sessions_39 : decode cX5_sessions 39 = .ok (.iload_n 2, 1) := by decide +kernel
theorem dX5_sessions_40 : decode cX5_sessions 40 = .ok (.invokevirtual 221, 3) := by decide +kernel
theorem dX5_sessions_43 : decode cX5_sessions 43 = .ok (.ifCond .eq 7, 3) := by decide +kernel
theorem dX5_sessions_46 : decode cX5_sessions 46 = .ok (.iconst 1, 1) := by decide +kernel
theorem dX5_sessions_47 : decode cX5_sessions 47 = .ok (.goto 4, 3) := by decide +kernel
theorem dX5_sessions_50 : decode cX5_sessions 50 = .ok (.iconst 0, 1) := by decide +kernel
theorem dX5_sessions_51 : decode cX5_sessions 51 = .ok (.iadd, 1) := by decide +kernel
theorem dX5_sessions_52 : decode cX5_sessions 52 = .ok (.istore 4, 2) := by decide +kernel
theorem dX5_sessions_54 : decode cX5_sessions 54 = .ok (.iinc 5 1, 3) := by decide +kernel
theorem dX5_sessions_57 : decode cX5_sessions 57 = .ok (.goto (-32), 3) := by decide +kernel
theorem dX5_sessions_60 : decode cX5_sessions 60 = .ok (.iload 4, 2) := by decide +kernel
theorem dX5_sessions_62 : decode cX5_sessions 62 = .ok (.ireturn, 1) := by decide +kernel
theorem dX5_session_0 : decode cX5_session 0 = .ok (.aload_n 0, 1) := by decide +kernel
theorem dX5_session_1 : decode cX5_session 1 = .ok (.iload_n 1, 1) := by decide +kernel
theorem dX5_session_2 : decode cX5_session 2 = .ok (.iload 4, 2) := by decide +kernel
theorem dX5_session_4 : decode cX5_session 4 = .ok (.invokevirtual 248, 3) := by decide +kernel
theorem dX5_session_7 : decode cX5_session 7 = .ok (.astore 5, 2) := by decide +kernel
theorem dX5_session_9 : decode cX5_session 9 = .ok (.aload 5, 2) := by decide +kernel
theorem dX5_session_11 : decode cX5_session 11 = .ok (.ifnull 14, 3) := by decide +kernel
theorem dX5_session_14 : decode cX5_session 14 = .ok (.iload_n 2, 1) := by decide +kernel
theorem dX5_session_15 : decode cX5_session 15 = .ok (.invokestatic 285, 3) := by decide +kernel
theorem dX5_session_18 : decode cX5_session 18 = .ok (.ifCond .eq 7, 3) := by decide +kernel
theorem dX5_session_21 : decode cX5_session 21 = .ok (.iload_n 3, 1) := by decide +kernel
theorem dX5_session_22 : decode cX5_session 22 = .ok (.ifCond .ge 6, 3) := by decide +kernel
theorem dX5_session_25 : decode cX5_session 25 = .ok (.ldc 175, 2) := by decide +kernel
theorem dX5_session_27 : decode cX5_session 27 = .ok (.ireturn, 1) := by decide +kernel
theorem dX5_session_28 : decode cX5_session 28 = .ok (.aload_n 0, 1) := by decide +kernel
theorem dX5_session_29 : decode cX5_session 29 = .ok (.getfield 40, 3) := by decide +kernel
theorem dX5_session_32 : decode cX5_session 32 = .ok (.aload 5, 2) := by decide +kernel
theorem dX5_session_34 : decode cX5_session 34 = .ok (.getfield 98, 3) := by decide +kernel
theorem dX5_session_37 : decode cX5_session 37 = .ok (.invokevirtual 251, 3) := by decide +kernel
theorem dX5_session_40 : decode cX5_session 40 = .ok (.iconst (-1), 1) := by decide +kernel
theorem dX5_session_41 : decode cX5_session 41 = .ok (.istore 6, 2) := by decide +kernel
theorem dX5_session_43 : decode cX5_session 43 = .ok (.iconst 0, 1) := by decide +kernel
theorem dX5_session_44 : decode cX5_session 44 = .ok (.istore 7, 2) := by decide +kernel
theorem dX5_session_46 : decode cX5_session 46 = .ok (.iload 7, 2) := by decide +kernel
theorem dX5_session_48 : decode cX5_session 48 = .ok (.aload 5, 2) := by decide +kernel
theorem dX5_session_50 : decode cX5_session 50 = .ok (.getfield 154, 3) := by decide +kernel
theorem dX5_session_53 : decode cX5_session 53 = .ok (.if_icmp .ge 51, 3) := by decide +kernel
theorem dX5_session_56 : decode cX5_session 56 = .ok (.iload 6, 2) := by decide +kernel
theorem dX5_session_58 : decode cX5_session 58 = .ok (.aload 5, 2) := by decide +kernel
theorem dX5_session_60 : decode cX5_session 60 = .ok (.iload 7, 2) := by decide +kernel
theorem dX5_session_62 : decode cX5_session 62 = .ok (.iload_n 2, 1) := by decide +kernel
theorem dX5_session_63 : decode cX5_session 63 = .ok (.invokevirtual 221, 3) := by decide +kernel
theorem dX5_session_66 : decode cX5_session 66 = .ok (.ifCond .eq 7, 3) := by decide +kernel
theorem dX5_session_69 : decode cX5_session 69 = .ok (.iconst 1, 1) := by decide +kernel
theorem dX5_session_70 : decode cX5_session 70 = .ok (.goto 4, 3) := by decide +kernel
theorem dX5_session_73 : decode cX5_session 73 = .ok (.iconst 0, 1) := by decide +kernel
theorem dX5_session_74 : decode cX5_session 74 = .ok (.iadd, 1) := by decide +kernel
theorem dX5_session_75 : decode cX5_session 75 = .ok (.istore 6, 2) := by decide +kernel
theorem dX5_session_77 : decode cX5_session 77 = .ok (.iload 6, 2) := by decide +kernel
theorem dX5_session_79 : decode cX5_session 79 = .ok (.iload_n 3, 1) := by decide +kernel
theorem dX5_session_80 : decode cX5_session 80 = .ok (.if_icmp .ne 18, 3) := by decide +kernel
theorem dX5_session_83 : decode cX5_session 83 = .ok (.aload_n 0, 1) := by decide +kernel
theorem dX5_session_84 : decode cX5_session 84 = .ok (.getfield 40, 3) := by decide +kernel
theorem dX5_session_87 : decode cX5_session 87 = .ok (.aload 5, 2) := by decide +kernel
theorem dX5_session_89 : decode cX5_session 89 = .ok (.getfield 176, 3) := by decide +kernel
theorem dX5_session_92 : decode cX5_session 92 = .ok (.iload 7, 2) := by decide +kernel
theorem dX5_session_94 : decode cX5_session 94 = .ok (.iaload, 1) := by decide +kernel
theorem dX5_session_95 : decode cX5_session 95 = .ok (.invokevirtual 253, 3) := by decide +kernel
theorem dX5_session_98 : decode cX5_session 98 = .ok (.iinc 7 1, 3) := by decide +kernel
theorem dX5_session_101 : decode cX5_session 101 = .ok (.goto (-55), 3) := by decide +kernel
theorem dX5_session_104 : decode cX5_session 104 = .ok (.aload_n 0, 1) := by decide +kernel
theorem dX5_session_105 : decode cX5_session 105 = .ok (.getfield 40, 3) := by decide +kernel
theorem dX5_session_108 : decode cX5_session 108 = .ok (.iload 4, 2) := by decide +kernel
theorem dX5_session_110 : decode cX5_session 110 = .ok (.invokevirtual 273, 3) := by decide +kernel
theorem dX5_session_113 : decode cX5_session 113 = .ok (.ireturn, 1) := by decide +kernel
theorem dX5_longest_0 : decode cX5_longest 0 = .ok (.aload_n 0, 1) := by decide +kernel
theorem dX5_longest_1 : decode cX5_longest 1 = .ok (.iload_n 1, 1) := by decide +kernel
theorem dX5_longest_2 : decode cX5_longest 2 = .ok (.invokevirtual 123, 3) := by decide +kernel
theorem dX5_longest_5 : decode cX5_longest 5 = .ok (.astore_n 3, 1) := by decide +kernel
theorem dX5_longest_6 : decode cX5_longest 6 = .ok (.aload_n 3, 1) := by decide +kernel
theorem dX5_longest_7 : decode cX5_longest 7 = .ok (.ifnull 10, 3) := by decide +kernel
theorem dX5_longest_10 : decode cX5_longest 10 = .ok (.iload_n 2, 1) := by decide +kernel
theorem dX5_longest_11 : decode cX5_longest 11 = .ok (.invokestatic 285, 3) := by decide +kernel
theorem dX5_longest_14 : decode cX5_longest 14 = .ok (.ifCond .ne 5, 3) := by decide +kernel
theorem dX5_longest_17 : decode cX5_longest 17 = .ok (.iconst (-1), 1) := by decide +kernel
theorem dX5_longest_18 : decode cX5_longest 18 = .ok (.ireturn, 1) := by decide +kernel
theorem dX5_longest_19 : decode cX5_longest 19 = .ok (.iconst (-1), 1) := by decide +kernel
theorem dX5_longest_20 : decode cX5_longest 20 = .ok (.istore 4, 2) := by decide +kernel
theorem dX5_longest_22 : decode cX5_longest 22 = .ok (.iconst 0, 1) := by decide +kernel
theorem dX5_longest_23 : decode cX5_longest 23 = .ok (.istore 5, 2) := by decide +kernel
theorem dX5_longest_25 : decode cX5_longest 25 = .ok (.iconst (-1), 1) := by decide +kernel
theorem dX5_longest_26 : decode cX5_longest 26 = .ok (.istore 6, 2) := by decide +kernel
theorem dX5_longest_28 : decode cX5_longest 28 = .ok (.iconst 0, 1) := by decide +kernel
theorem dX5_longest_29 : decode cX5_longest 29 = .ok (.istore 7, 2) := by decide +kernel
theorem dX5_longest_31 : decode cX5_longest 31 = .ok (.iconst 0, 1) := by decide +kernel
theorem dX5_longest_32 : decode cX5_longest 32 = .ok (.istore 8, 2) := by decide +kernel
theorem dX5_longest_34 : decode cX5_longest 34 = .ok (.iload 8, 2) := by decide +kernel
theorem dX5_longest_36 : decode cX5_longest 36 = .ok (.aload_n 3, 1) := by decide +kernel
theorem dX5_longest_37 : decode cX5_longest 37 = .ok (.getfield 154, 3) := by decide +kernel
theorem dX5_longest_40 : decode cX5_longest 40 = .ok (.if_icmp .ge 63, 3) := by decide +kernel
theorem dX5_longest_43 : decode cX5_longest 43 = .ok (.aload_n 3, 1) := by decide +kernel
theorem dX5_longest_44 : decode cX5_longest 44 = .ok (.iload 8, 2) := by decide +kernel
theorem dX5_longest_46 : decode cX5_longest 46 = .ok (.iload_n 2, 1) := by decide +kernel
theorem dX5_longest_47 : decode cX5_longest 47 = .ok (.invokevirtual 221, 3) := by decide +kernel
theorem dX5_longest_50 : decode cX5_longest 50 = .ok (.istore 9, 2) := by decide +kernel
theorem dX5_longest_52 : decode cX5_longest 52 = .ok (.iload 6, 2) := by decide +kernel
theorem dX5_longest_54 : decode cX5_longest 54 = .ok (.iload 9, 2) := by decide +kernel
theorem dX5_longest_56 : decode cX5_longest 56 = .ok (.ifCond .eq 7, 3) := by decide +kernel
theorem dX5_longest_59 : decode cX5_longest 59 = .ok (.iconst 1, 1) := by decide +kernel
theorem dX5_longest_60 : decode cX5_longest 60 = .ok (.goto 4, 3) := by decide +kernel
theorem dX5_longest_63 : decode cX5_longest 63 = .ok (.iconst 0, 1) := by decide +kernel
theorem dX5_longest_64 : decode cX5_longest 64 = .ok (.iadd, 1) := by decide +kernel
theorem dX5_longest_65 : decode cX5_longest 65 = .ok (.istore 6, 2) := by decide +kernel
theorem dX5_longest_67 : decode cX5_longest 67 = .ok (.iload 9, 2) := by decide +kernel
theorem dX5_longest_69 : decode cX5_longest 69 = .ok (.ifCond .eq 7, 3) := by decide +kernel
theorem dX5_longest_72 : decode cX5_longest 72 = .ok (.iconst 1, 1) := by decide +kernel
theorem dX5_longest_73 : decode cX5_longest 73 = .ok (.goto 7, 3) := by decide +kernel
theorem dX5_longest_76 : decode cX5_longest 76 = .ok (.iload 7, 2) := by decide +kernel
theorem dX5_longest_78 : decode cX5_longest 78 = .ok (.iconst 1, 1) := by decide +kernel
theorem dX5_longest_79 : decode cX5_longest 79 = .ok (.iadd, 1) := by decide +kernel
theorem dX5_longest_80 : decode cX5_longest 80 = .ok (.istore 7, 2) := by decide +kernel
theorem dX5_longest_82 : decode cX5_longest 82 = .ok (.iload 7, 2) := by decide +kernel
theorem dX5_longest_84 : decode cX5_longest 84 = .ok (.iload 5, 2) := by decide +kernel
theorem dX5_longest_86 : decode cX5_longest 86 = .ok (.if_icmp .le 11, 3) := by decide +kernel
theorem dX5_longest_89 : decode cX5_longest 89 = .ok (.iload 7, 2) := by decide +kernel
theorem dX5_longest_91 : decode cX5_longest 91 = .ok (.istore 5, 2) := by decide +kernel
theorem dX5_longest_93 : decode cX5_longest 93 = .ok (.iload 6, 2) := by decide +kernel
theorem dX5_longest_95 : decode cX5_longest 95 = .ok (.istore 4, 2) := by decide +kernel
theorem dX5_longest_97 : decode cX5_longest 97 = .ok (.iinc 8 1, 3) := by decide +kernel
theorem dX5_longest_100 : decode cX5_longest 100 = .ok (.goto (-66), 3) := by decide +kernel
theorem dX5_longest_103 : decode cX5_longest 103 = .ok (.iload 4, 2) := by decide +kernel
theorem dX5_longest_105 : decode cX5_longest 105 = .ok (.ireturn, 1) := by decide +kernel
theorem dX5_state_0 : decode cX5_state 0 = .ok (.aload_n 0, 1) := by decide +kernel
theorem dX5_state_1 : decode cX5_state 1 = .ok (.iload_n 1, 1) := by decide +kernel
theorem dX5_state_2 : decode cX5_state 2 = .ok (.invokevirtual 123, 3) := by decide +kernel
theorem dX5_state_5 : decode cX5_state 5 = .ok (.astore_n 3, 1) := by decide +kernel
theorem dX5_state_6 : decode cX5_state 6 = .ok (.aload_n 3, 1) := by decide +kernel
theorem dX5_state_7 : decode cX5_state 7 = .ok (.ifnonnull 7, 3) := by decide +kernel
theorem dX5_state_10 : decode cX5_state 10 = .ok (.iconst (-1), 1) := by decide +kernel
theorem dX5_state_11 : decode cX5_state 11 = .ok (.goto 11, 3) := by decide +kernel
theorem dX5_state_14 : decode cX5_state 14 = .ok (.aload_n 3, 1) := by decide +kernel
theorem dX5_state_15 : decode cX5_state 15 = .ok (.getfield 189, 3) := by decide +kernel
theorem dX5_state_18 : decode cX5_state 18 = .ok (.iload_n 2, 1) := by decide +kernel
theorem dX5_state_19 : decode cX5_state 19 = .ok (.invokevirtual 288, 3) := by decide +kernel
theorem dX5_state_22 : decode cX5_state 22 = .ok (.ireturn, 1) := by decide +kernel
theorem dX5_soon_0 : decode cX5_soon 0 = .ok (.aload_n 0, 1) := by decide +kernel
theorem dX5_soon_1 : decode cX5_soon 1 = .ok (.iload_n 1, 1) := by decide +kernel
theorem dX5_soon_2 : decode cX5_soon 2 = .ok (.invokevirtual 123, 3) := by decide +kernel
theorem dX5_soon_5 : decode cX5_soon 5 = .ok (.astore_n 3, 1) := by decide +kernel
theorem dX5_soon_6 : decode cX5_soon 6 = .ok (.aload_n 3, 1) := by decide +kernel
theorem dX5_soon_7 : decode cX5_soon 7 = .ok (.ifnull 12, 3) := by decide +kernel
theorem dX5_soon_10 : decode cX5_soon 10 = .ok (.iload_n 2, 1) := by decide +kernel
theorem dX5_soon_11 : decode cX5_soon 11 = .ok (.iconst 0, 1) := by decide +kernel
theorem dX5_soon_12 : decode cX5_soon 12 = .ok (.iconst 1, 1) := by decide +kernel
theorem dX5_soon_13 : decode cX5_soon 13 = .ok (.invokestatic 59, 3) := by decide +kernel
theorem dX5_soon_16 : decode cX5_soon 16 = .ok (.ifCond .ne 5, 3) := by decide +kernel
theorem dX5_soon_19 : decode cX5_soon 19 = .ok (.iconst (-1), 1) := by decide +kernel
theorem dX5_soon_20 : decode cX5_soon 20 = .ok (.ireturn, 1) := by decide +kernel
theorem dX5_soon_21 : decode cX5_soon 21 = .ok (.aload_n 3, 1) := by decide +kernel
theorem dX5_soon_22 : decode cX5_soon 22 = .ok (.getfield 189, 3) := by decide +kernel
theorem dX5_soon_25 : decode cX5_soon 25 = .ok (.astore 4, 2) := by decide +kernel
theorem dX5_soon_27 : decode cX5_soon 27 = .ok (.iload_n 2, 1) := by decide +kernel
theorem dX5_soon_28 : decode cX5_soon 28 = .ok (.ifCond .ne 29, 3) := by decide +kernel
theorem dX5_soon_31 : decode cX5_soon 31 = .ok (.aload 4, 2) := by decide +kernel
theorem dX5_soon_33 : decode cX5_soon 33 = .ok (.getfield 291, 3) := by decide +kernel
theorem dX5_soon_36 : decode cX5_soon 36 = .ok (.ifCond .le 7, 3) := by decide +kernel
theorem dX5_soon_39 : decode cX5_soon 39 = .ok (.iconst (-1), 1) := by decide +kernel
theorem dX5_soon_40 : decode cX5_soon 40 = .ok (.goto 16, 3) := by decide +kernel
theorem dX5_soon_43 : decode cX5_soon 43 = .ok (.aload 4, 2) := by decide +kernel
theorem dX5_soon_45 : decode cX5_soon 45 = .ok (.getfield 294, 3) := by decide +kernel
theorem dX5_soon_48 : decode cX5_soon 48 = .ok (.iconst 1, 1) := by decide +kernel
theorem dX5_soon_49 : decode cX5_soon 49 = .ok (.iadd, 1) := by decide +kernel
theorem dX5_soon_50 : decode cX5_soon 50 = .ok (.aload 4, 2) := by decide +kernel
theorem dX5_soon_52 : decode cX5_soon 52 = .ok (.getfield 297, 3) := by decide +kernel
theorem dX5_soon_55 : decode cX5_soon 55 = .ok (.isub, 1) := by decide +kernel
theorem dX5_soon_56 : decode cX5_soon 56 = .ok (.ireturn, 1) := by decide +kernel
theorem dX5_soon_57 : decode cX5_soon 57 = .ok (.aload 4, 2) := by decide +kernel
theorem dX5_soon_59 : decode cX5_soon 59 = .ok (.getfield 291, 3) := by decide +kernel
theorem dX5_soon_62 : decode cX5_soon 62 = .ok (.ifCond .le 17, 3) := by decide +kernel
theorem dX5_soon_65 : decode cX5_soon 65 = .ok (.aload 4, 2) := by decide +kernel
theorem dX5_soon_67 : decode cX5_soon 67 = .ok (.getfield 291, 3) := by decide +kernel
theorem dX5_soon_70 : decode cX5_soon 70 = .ok (.iconst 3, 1) := by decide +kernel
theorem dX5_soon_71 : decode cX5_soon 71 = .ok (.iadd, 1) := by decide +kernel
theorem dX5_soon_72 : decode cX5_soon 72 = .ok (.iconst 1, 1) := by decide +kernel
theorem dX5_soon_73 : decode cX5_soon 73 = .ok (.isub, 1) := by decide +kernel
theorem dX5_soon_74 : decode cX5_soon 74 = .ok (.iconst 3, 1) := by decide +kernel
theorem dX5_soon_75 : decode cX5_soon 75 = .ok (.idiv, 1) := by decide +kernel
theorem dX5_soon_76 : decode cX5_soon 76 = .ok (.goto 4, 3) := by decide +kernel
theorem dX5_soon_79 : decode cX5_soon 79 = .ok (.iconst (-1), 1) := by decide +kernel
theorem dX5_soon_80 : decode cX5_soon 80 = .ok (.ireturn, 1) := by decide +kernel
theorem dX5_cost_0 : decode cX5_cost 0 = .ok (.aload_n 0, 1) := by decide +kernel
theorem dX5_cost_1 : decode cX5_cost 1 = .ok (.iload_n 1, 1) := by decide +kernel
theorem dX5_cost_2 : decode cX5_cost 2 = .ok (.invokevirtual 123, 3) := by decide +kernel
theorem dX5_cost_5 : decode cX5_cost 5 = .ok (.astore 4, 2) := by decide +kernel
theorem dX5_cost_7 : decode cX5_cost 7 = .ok (.aload 4, 2) := by decide +kernel
theorem dX5_cost_9 : decode cX5_cost 9 = .ok (.ifnull 23, 3) := by decide +kernel
theorem dX5_cost_12 : decode cX5_cost 12 = .ok (.iload_n 2, 1) := by decide +kernel
theorem dX5_cost_13 : decode cX5_cost 13 = .ok (.iconst 0, 1) := by decide +kernel
theorem dX5_cost_14 : decode cX5_cost 14 = .ok (.sipush 200, 3) := by decide +kernel
theorem dX5_cost_17 : decode cX5_cost 17 = .ok (.invokestatic 59, 3) := by decide +kernel
theorem dX5_cost_20 : decode cX5_cost 20 = .ok (.ifCond .eq 12, 3) := by decide +kernel
theorem dX5_cost_23 : decode cX5_cost 23 = .ok (.iload_n 3, 1) := by decide +kernel
theorem dX5_cost_24 : decode cX5_cost 24 = .ok (.iconst 0, 1) := by decide +kernel
theorem dX5_cost_25 : decode cX5_cost 25 = .ok (.iconst 1, 1) := by decide +kernel
theorem dX5_cost_26 : decode cX5_cost 26 = .ok (.invokestatic 59, 3) := by decide +kernel
theorem dX5_cost_29 : decode cX5_cost 29 = .ok (.ifCond .ne 5, 3) := by decide +kernel
theorem dX5_cost_32 : decode cX5_cost 32 = .ok (.iconst (-1), 1) := by decide +kernel
theorem dX5_cost_33 : decode cX5_cost 33 = .ok (.ireturn, 1) := by decide +kernel
theorem dX5_cost_34 : decode cX5_cost 34 = .ok (.aload_n 0, 1) := by decide +kernel
theorem dX5_cost_35 : decode cX5_cost 35 = .ok (.getfield 47, 3) := by decide +kernel
theorem dX5_cost_38 : decode cX5_cost 38 = .ok (.aload 4, 2) := by decide +kernel
theorem dX5_cost_40 : decode cX5_cost 40 = .ok (.getfield 189, 3) := by decide +kernel
theorem dX5_cost_43 : decode cX5_cost 43 = .ok (.invokevirtual 300, 3) := by decide +kernel
theorem dX5_cost_46 : decode cX5_cost 46 = .ok (.aload_n 0, 1) := by decide +kernel
theorem dX5_cost_47 : decode cX5_cost 47 = .ok (.getfield 47, 3) := by decide +kernel
theorem dX5_cost_50 : decode cX5_cost 50 = .ok (.iconst 0, 1) := by decide +kernel
theorem dX5_cost_51 : decode cX5_cost 51 = .ok (.putfield 304, 3) := by decide +kernel
theorem dX5_cost_54 : decode cX5_cost 54 = .ok (.aload_n 0, 1) := by decide +kernel
theorem dX5_cost_55 : decode cX5_cost 55 = .ok (.getfield 47, 3) := by decide +kernel
theorem dX5_cost_58 : decode cX5_cost 58 = .ok (.iconst 0, 1) := by decide +kernel
theorem dX5_cost_59 : decode cX5_cost 59 = .ok (.putfield 307, 3) := by decide +kernel
theorem dX5_cost_62 : decode cX5_cost 62 = .ok (.iconst 0, 1) := by decide +kernel
theorem dX5_cost_63 : decode cX5_cost 63 = .ok (.istore 5, 2) := by decide +kernel
theorem dX5_cost_65 : decode cX5_cost 65 = .ok (.iload 5, 2) := by decide +kernel
theorem dX5_cost_67 : decode cX5_cost 67 = .ok (.iload_n 2, 1) := by decide +kernel
theorem dX5_cost_68 : decode cX5_cost 68 = .ok (.if_icmp .ge 16, 3) := by decide +kernel
theorem dX5_cost_71 : decode cX5_cost 71 = .ok (.aload_n 0, 1) := by decide +kernel
theorem dX5_cost_72 : decode cX5_cost 72 = .ok (.getfield 47, 3) := by decide +kernel
theorem dX5_cost_75 : decode cX5_cost 75 = .ok (.invokevirtual 192, 3) := by decide +kernel
theorem dX5_cost_78 : decode cX5_cost 78 = .ok (.iinc 5 1, 3) := by decide +kernel
theorem dX5_cost_81 : decode cX5_cost 81 = .ok (.goto (-16), 3) := by decide +kernel
theorem dX5_cost_84 : decode cX5_cost 84 = .ok (.iload_n 3, 1) := by decide +kernel
theorem dX5_cost_85 : decode cX5_cost 85 = .ok (.ifCond .ne 13, 3) := by decide +kernel
theorem dX5_cost_88 : decode cX5_cost 88 = .ok (.aload_n 0, 1) := by decide +kernel
theorem dX5_cost_89 : decode cX5_cost 89 = .ok (.getfield 47, 3) := by decide +kernel
theorem dX5_cost_92 : decode cX5_cost 92 = .ok (.getfield 304, 3) := by decide +kernel
theorem dX5_cost_95 : decode cX5_cost 95 = .ok (.goto 10, 3) := by decide +kernel
theorem dX5_cost_98 : decode cX5_cost 98 = .ok (.aload_n 0, 1) := by decide +kernel
theorem dX5_cost_99 : decode cX5_cost 99 = .ok (.getfield 47, 3) := by decide +kernel
theorem dX5_cost_102 : decode cX5_cost 102 = .ok (.getfield 307, 3) := by decide +kernel
theorem dX5_cost_105 : decode cX5_cost 105 = .ok (.ireturn, 1) := by decide +kernel
theorem dX5_lane_0 : decode cX5_lane 0 = .ok (.aload_n 0, 1) := by decide +kernel
theorem dX5_lane_1 : decode cX5_lane 1 = .ok (.iload_n 1, 1) := by decide +kernel
theorem dX5_lane_2 : decode cX5_lane 2 = .ok (.invokevirtual 123, 3) := by decide +kernel
theorem dX5_lane_5 : decode cX5_lane 5 = .ok (.astore_n 3, 1) := by decide +kernel
theorem dX5_lane_6 : decode cX5_lane 6 = .ok (.aload_n 3, 1) := by decide +kernel
theorem dX5_lane_7 : decode cX5_lane 7 = .ok (.ifnonnull 7, 3) := by decide +kernel
theorem dX5_lane_10 : decode cX5_lane 10 = .ok (.iconst (-1), 1) := by decide +kernel
theorem dX5_lane_11 : decode cX5_lane 11 = .ok (.goto 8, 3) := by decide +kernel
theorem dX5_lane_14 : decode cX5_lane 14 = .ok (.aload_n 3, 1) := by decide +kernel
theorem dX5_lane_15 : decode cX5_lane 15 = .ok (.iload_n 2, 1) := by decide +kernel
theorem dX5_lane_16 : decode cX5_lane 16 = .ok (.invokevirtual 308, 3) := by decide +kernel
theorem dX5_lane_19 : decode cX5_lane 19 = .ok (.ireturn, 1) := by decide +kernel
theorem dX5_watch_0 : decode cX5_watch 0 = .ok (.aload_n 0, 1) := by decide +kernel
theorem dX5_watch_1 : decode cX5_watch 1 = .ok (.iload_n 2, 1) := by decide +kernel
theorem dX5_watch_2 : decode cX5_watch 2 = .ok (.iload_n 3, 1) := by decide +kernel
theorem dX5_watch_3 : decode cX5_watch 3 = .ok (.invokevirtual 248, 3) := by decide +kernel
theorem dX5_watch_6 : decode cX5_watch 6 = .ok (.astore 5, 2) := by decide +kernel
theorem dX5_watch_8 : decode cX5_watch 8 = .ok (.aload 5, 2) := by decide +kernel
theorem dX5_watch_10 : decode cX5_watch 10 = .ok (.ifnull 13, 3) := by decide +kernel
theorem dX5_watch_13 : decode cX5_watch 13 = .ok (.iload_n 1, 1) := by decide +kernel
theorem dX5_watch_14 : decode cX5_watch 14 = .ok (.iconst 0, 1) := by decide +kernel
theorem dX5_watch_15 : decode cX5_watch 15 = .ok (.bipush 7, 2) := by decide +kernel
theorem dX5_watch_17 : decode cX5_watch 17 = .ok (.invokestatic 59, 3) := by decide +kernel
theorem dX5_watch_20 : decode cX5_watch 20 = .ok (.ifCond .ne 5, 3) := by decide +kernel
theorem dX5_watch_23 : decode cX5_watch 23 = .ok (.iconst (-1), 1) := by decide +kernel
theorem dX5_watch_24 : decode cX5_watch 24 = .ok (.ireturn, 1) := by decide +kernel
theorem dX5_watch_25 : decode cX5_watch 25 = .ok (.aload_n 0, 1) := by decide +kernel
theorem dX5_watch_26 : decode cX5_watch 26 = .ok (.aload 5, 2) := by decide +kernel
theorem dX5_watch_28 : decode cX5_watch 28 = .ok (.iconst 0, 1) := by decide +kernel
theorem dX5_watch_29 : decode cX5_watch 29 = .ok (.aload 5, 2) := by decide +kernel
theorem dX5_watch_31 : decode cX5_watch 31 = .ok (.getfield 154, 3) := by decide +kernel
theorem dX5_watch_34 : decode cX5_watch 34 = .ok (.invokevirtual 259, 3) := by decide +kernel
theorem dX5_watch_37 : decode cX5_watch 37 = .ok (.aload_n 0, 1) := by decide +kernel
theorem dX5_watch_38 : decode cX5_watch 38 = .ok (.getfield 40, 3) := by decide +kernel
theorem dX5_watch_41 : decode cX5_watch 41 = .ok (.iload_n 3, 1) := by decide +kernel
theorem dX5_watch_42 : decode cX5_watch 42 = .ok (.iload 4, 2) := by decide +kernel
theorem dX5_watch_44 : decode cX5_watch 44 = .ok (.invokevirtual 256, 3) := by decide +kernel
theorem dX5_watch_47 : decode cX5_watch 47 = .ok (.istore 6, 2) := by decide +kernel
theorem dX5_watch_49 : decode cX5_watch 49 = .ok (.aload_n 0, 1) := by decide +kernel
theorem dX5_watch_50 : decode cX5_watch 50 = .ok (.getfield 32, 3) := by decide +kernel
theorem dX5_watch_53 : decode cX5_watch 53 = .ok (.iload_n 1, 1) := by decide +kernel
theorem dX5_watch_54 : decode cX5_watch 54 = .ok (.aaload, 1) := by decide +kernel
theorem dX5_watch_55 : decode cX5_watch 55 = .ok (.iload_n 2, 1) := by decide +kernel
theorem dX5_watch_56 : decode cX5_watch 56 = .ok (.iload_n 3, 1) := by decide +kernel
theorem dX5_watch_57 : decode cX5_watch 57 = .ok (.iload 4, 2) := by decide +kernel
theorem dX5_watch_59 : decode cX5_watch 59 = .ok (.iload 6, 2) := by decide +kernel
theorem dX5_watch_61 : decode cX5_watch 61 = .ok (.invokevirtual 309, 3) := by decide +kernel
theorem dX5_watch_64 : decode cX5_watch 64 = .ok (.iload 6, 2) := by decide +kernel
theorem dX5_watch_66 : decode cX5_watch 66 = .ok (.ifCond .eq 7, 3) := by decide +kernel
theorem dX5_watch_69 : decode cX5_watch 69 = .ok (.iconst 1, 1) := by decide +kernel
theorem dX5_watch_70 : decode cX5_watch 70 = .ok (.goto 4, 3) := by decide +kernel
theorem dX5_watch_73 : decode cX5_watch 73 = .ok (.iconst 0, 1) := by decide +kernel
theorem dX5_watch_74 : decode cX5_watch 74 = .ok (.ireturn, 1) := by decide +kernel
theorem dX5_rings_0 : decode cX5_rings 0 = .ok (.aload_n 0, 1) := by decide +kernel
theorem dX5_rings_1 : decode cX5_rings 1 = .ok (.iload_n 1, 1) := by decide +kernel
theorem dX5_rings_2 : decode cX5_rings 2 = .ok (.invokevirtual 312, 3) := by decide +kernel
theorem dX5_rings_5 : decode cX5_rings 5 = .ok (.ifCond .eq 15, 3) := by decide +kernel
theorem dX5_rings_8 : decode cX5_rings 8 = .ok (.aload_n 0, 1) := by decide +kernel
theorem dX5_rings_9 : decode cX5_rings 9 = .ok (.getfield 32, 3) := by decide +kernel
theorem dX5_rings_12 : decode cX5_rings 12 = .ok (.iload_n 1, 1) := by decide +kernel
theorem dX5_rings_13 : decode cX5_rings 13 = .ok (.aaload, 1) := by decide +kernel
theorem dX5_rings_14 : decode cX5_rings 14 = .ok (.getfield 315, 3) := by decide +kernel
theorem dX5_rings_17 : decode cX5_rings 17 = .ok (.goto 4, 3) := by decide +kernel
theorem dX5_rings_20 : decode cX5_rings 20 = .ok (.iconst (-1), 1) := by decide +kernel
theorem dX5_rings_21 : decode cX5_rings 21 = .ok (.ireturn, 1) := by decide +kernel
theorem dX5_rang_0 : decode cX5_rang 0 = .ok (.aload_n 0, 1) := by decide +kernel
theorem dX5_rang_1 : decode cX5_rang 1 = .ok (.iload_n 1, 1) := by decide +kernel
theorem dX5_rang_2 : decode cX5_rang 2 = .ok (.invokevirtual 312, 3) := by decide +kernel
theorem dX5_rang_5 : decode cX5_rang 5 = .ok (.ifCond .eq 15, 3) := by decide +kernel
theorem dX5_rang_8 : decode cX5_rang 8 = .ok (.aload_n 0, 1) := by decide +kernel
theorem dX5_rang_9 : decode cX5_rang 9 = .ok (.getfield 32, 3) := by decide +kernel
theorem dX5_rang_12 : decode cX5_rang 12 = .ok (.iload_n 1, 1) := by decide +kernel
theorem dX5_rang_13 : decode cX5_rang 13 = .ok (.aaload, 1) := by decide +kernel
theorem dX5_rang_14 : decode cX5_rang 14 = .ok (.getfield 318, 3) := by decide +kernel
theorem dX5_rang_17 : decode cX5_rang 17 = .ok (.goto 4, 3) := by decide +kernel
theorem dX5_rang_20 : decode cX5_rang 20 = .ok (.iconst (-1), 1) := by decide +kernel
theorem dX5_rang_21 : decode cX5_rang 21 = .ok (.ireturn, 1) := by decide +kernel
theorem dX5_isTold_0 : decode cX5_isTold 0 = .ok (.iload_n 1, 1) := by decide +kernel
theorem dX5_isTold_1 : decode cX5_isTold 1 = .ok (.iconst 0, 1) := by decide +kernel
theorem dX5_isTold_2 : decode cX5_isTold 2 = .ok (.bipush 7, 2) := by decide +kernel
theorem dX5_isTold_4 : decode cX5_isTold 4 = .ok (.invokestatic 59, 3) := by decide +kernel
theorem dX5_isTold_7 : decode cX5_isTold 7 = .ok (.ifCond .eq 20, 3) := by decide +kernel
theorem dX5_isTold_10 : decode cX5_isTold 10 = .ok (.aload_n 0, 1) := by decide +kernel
theorem dX5_isTold_11 : decode cX5_isTold 11 = .ok (.getfield 32, 3) := by decide +kernel
theorem dX5_isTold_14 : decode cX5_isTold 14 = .ok (.iload_n 1, 1) := by decide +kernel
theorem dX5_isTold_15 : decode cX5_isTold 15 = .ok (.aaload, 1) := by decide +kernel
theorem dX5_isTold_16 : decode cX5_isTold 16 = .ok (.getfield 321, 3) := by decide +kernel
theorem dX5_isTold_19 : decode cX5_isTold 19 = .ok (.iconst (-1), 1) := by decide +kernel
theorem dX5_isTold_20 : decode cX5_isTold 20 = .ok (.if_icmp .eq 7, 3) := by decide +kernel
theorem dX5_isTold_23 : decode cX5_isTold 23 = .ok (.iconst 1, 1) := by decide +kernel
theorem dX5_isTold_24 : decode cX5_isTold 24 = .ok (.goto 4, 3) := by decide +kernel
theorem dX5_isTold_27 : decode cX5_isTold 27 = .ok (.iconst 0, 1) := by decide +kernel
theorem dX5_isTold_28 : decode cX5_isTold 28 = .ok (.ireturn, 1) := by decide +kernel
theorem dX5_ringWatches_0 : decode cX5_ringWatches 0 = .ok (.aload_n 0, 1) := by decide +kernel
theorem dX5_ringWatches_1 : decode cX5_ringWatches 1 = .ok (.aload_n 1, 1) := by decide +kernel
theorem dX5_ringWatches_2 : decode cX5_ringWatches 2 = .ok (.getfield 212, 3) := by decide +kernel
theorem dX5_ringWatches_5 : decode cX5_ringWatches 5 = .ok (.invokevirtual 324, 3) := by decide +kernel
theorem dX5_ringWatches_8 : decode cX5_ringWatches 8 = .ok (.ifCond .ne 4, 3) := by decide +kernel
theorem dX5_ringWatches_11 : decode cX5_ringWatches 11 = .ok (.return_, 1) := by decide +kernel
theorem dX5_ringWatches_12 : decode cX5_ringWatches 12 = .ok (.aload_n 0, 1) := by decide +kernel
theorem dX5_ringWatches_13 : decode cX5_ringWatches 13 = .ok (.getfield 40, 3) := by decide +kernel
theorem dX5_ringWatches_16 : decode cX5_ringWatches 16 = .ok (.aload_n 1, 1) := by decide +kernel
theorem dX5_ringWatches_17 : decode cX5_ringWatches 17 = .ok (.getfield 98, 3) := by decide +kernel
theorem dX5_ringWatches_20 : decode cX5_ringWatches 20 = .ok (.invokevirtual 251, 3) := by decide +kernel
theorem dX5_ringWatches_23 : decode cX5_ringWatches 23 = .ok (.iconst 0, 1) := by decide +kernel
theorem dX5_ringWatches_24 : decode cX5_ringWatches 24 = .ok (.istore_n 2, 1) := by decide +kernel
theorem dX5_ringWatches_25 : decode cX5_ringWatches 25 = .ok (.iload_n 2, 1) := by decide +kernel
theorem dX5_ringWatches_26 : decode cX5_ringWatches 26 = .ok (.aload_n 1, 1) := by decide +kernel
theorem dX5_ringWatches_27 : decode cX5_ringWatches 27 = .ok (.getfield 154, 3) := by decide +kernel
theorem dX5_ringWatches_30 : decode cX5_ringWatches 30 = .ok (.if_icmp .ge 22, 3) := by decide +kernel
theorem dX5_ringWatches_33 : decode cX5_ringWatches 33 = .ok (.aload_n 0, 1) := by decide +kernel
theorem dX5_ringWatches_34 : decode cX5_ringWatches 34 = .ok (.getfield 40, 3) := by decide +kernel
theorem dX5_ringWatches_37 : decode cX5_ringWatches 37 = .ok (.aload_n 1, 1) := by decide +kernel
theorem dX5_ringWatches_38 : decode cX5_ringWatches 38 = .ok (.getfield 176, 3) := by decide +kernel
theorem dX5_ringWatches_41 : decode cX5_ringWatches 41 = .ok (.iload_n 2, 1) := by decide +kernel
theorem dX5_ringWatches_42 : decode cX5_ringWatches 42 = .ok (.iaload, 1) := by decide +kernel
theorem dX5_ringWatches_43 : decode cX5_ringWatches 43 = .ok (.invokevirtual 253, 3) := by decide +kernel
theorem dX5_ringWatches_46 : decode cX5_ringWatches 46 = .ok (.iinc 2 1, 3) := by decide +kernel
theorem dX5_ringWatches_49 : decode cX5_ringWatches 49 = .ok (.goto (-24), 3) := by decide +kernel
theorem dX5_ringWatches_52 : decode cX5_ringWatches 52 = .ok (.iconst 0, 1) := by decide +kernel
theorem dX5_ringWatches_53 : decode cX5_ringWatches 53 = .ok (.istore_n 2, 1) := by decide +kernel
theorem dX5_ringWatches_54 : decode cX5_ringWatches 54 = .ok (.iload_n 2, 1) := by decide +kernel
theorem dX5_ringWatches_55 : decode cX5_ringWatches 55 = .ok (.bipush 8, 2) := by decide +kernel
theorem dX5_ringWatches_57 : decode cX5_ringWatches 57 = .ok (.if_icmp .ge 50, 3) := by decide +kernel
theorem dX5_ringWatches_60 : decode cX5_ringWatches 60 = .ok (.aload_n 0, 1) := by decide +kernel
theorem dX5_ringWatches_61 : decode cX5_ringWatches 61 = .ok (.getfield 32, 3) := by decide +kernel
theorem dX5_ringWatches_64 : decode cX5_ringWatches 64 = .ok (.iload_n 2, 1) := by decide +kernel
theorem dX5_ringWatches_65 : decode cX5_ringWatches 65 = .ok (.aaload, 1) := by decide +kernel
theorem dX5_ringWatches_66 : decode cX5_ringWatches 66 = .ok (.astore_n 3, 1) := by decide +kernel
theorem dX5_ringWatches_67 : decode cX5_ringWatches 67 = .ok (.aload_n 3, 1) := by decide +kernel
theorem dX5_ringWatches_68 : decode cX5_ringWatches 68 = .ok (.getfield 321, 3) := by decide +kernel
theorem dX5_ringWatches_71 : decode cX5_ringWatches 71 = .ok (.aload_n 1, 1) := by decide +kernel
theorem dX5_ringWatches_72 : decode cX5_ringWatches 72 = .ok (.getfield 212, 3) := by decide +kernel
theorem dX5_ringWatches_75 : decode cX5_ringWatches 75 = .ok (.if_icmp .ne 26, 3) := by decide +kernel
theorem dX5_ringWatches_78 : decode cX5_ringWatches 78 = .ok (.aload_n 3, 1) := by decide +kernel
theorem dX5_ringWatches_79 : decode cX5_ringWatches 79 = .ok (.aload_n 0, 1) := by decide +kernel
theorem dX5_ringWatches_80 : decode cX5_ringWatches 80 = .ok (.getfield 40, 3) := by decide +kernel
theorem dX5_ringWatches_83 : decode cX5_ringWatches 83 = .ok (.aload_n 3, 1) := by decide +kernel
theorem dX5_ringWatches_84 : decode cX5_ringWatches 84 = .ok (.getfield 327, 3) := by decide +kernel
theorem dX5_ringWatches_87 : decode cX5_ringWatches 87 = .ok (.aload_n 3, 1) := by decide +kernel
theorem dX5_ringWatches_88 : decode cX5_ringWatches 88 = .ok (.getfield 328, 3) := by decide +kernel
theorem dX5_ringWatches_91 : decode cX5_ringWatches 91 = .ok (.invokevirtual 256, 3) := by decide +kernel
theorem dX5_ringWatches_94 : decode cX5_ringWatches 94 = .ok (.aload_n 1, 1) := by decide +kernel
theorem dX5_ringWatches_95 : decode cX5_ringWatches 95 = .ok (.getfield 157, 3) := by decide +kernel
theorem dX5_ringWatches_98 : decode cX5_ringWatches 98 = .ok (.invokevirtual 331, 3) := by decide +kernel
theorem dX5_ringWatches_101 : decode cX5_ringWatches 101 = .ok (.iinc 2 1, 3) := by decide +kernel
theorem dX5_ringWatches_104 : decode cX5_ringWatches 104 = .ok (.goto (-50), 3) := by decide +kernel
theorem dX5_ringWatches_107 : decode cX5_ringWatches 107 = .ok (.return_, 1) := by decide +kernel
theorem dX5_isWatched_0 : decode cX5_isWatched 0 = .ok (.iconst 0, 1) := by decide +kernel
theorem dX5_isWatched_1 : decode cX5_isWatched 1 = .ok (.istore_n 2, 1) := by decide +kernel
theorem dX5_isWatched_2 : decode cX5_isWatched 2 = .ok (.iload_n 2, 1) := by decide +kernel
theorem dX5_isWatched_3 : decode cX5_isWatched 3 = .ok (.bipush 8, 2) := by decide +kernel
theorem dX5_isWatched_5 : decode cX5_isWatched 5 = .ok (.if_icmp .ge 24, 3) := by decide +kernel
theorem dX5_isWatched_8 : decode cX5_isWatched 8 = .ok (.aload_n 0, 1) := by decide +kernel
theorem dX5_isWatched_9 : decode cX5_isWatched 9 = .ok (.getfield 32, 3) := by decide +kernel
theorem dX5_isWatched_12 : decode cX5_isWatched 12 = .ok (.iload_n 2, 1) := by decide +kernel
theorem dX5_isWatched_13 : decode cX5_isWatched 13 = .ok (.aaload, 1) := by decide +kernel
theorem dX5_isWatched_14 : decode cX5_isWatched 14 = .ok (.getfield 321, 3) := by decide +kernel
theorem dX5_isWatched_17 : decode cX5_isWatched 17 = .ok (.iload_n 1, 1) := by decide +kernel
theorem dX5_isWatched_18 : decode cX5_isWatched 18 = .ok (.if_icmp .ne 5, 3) := by decide +kernel
theorem dX5_isWatched_21 : decode cX5_isWatched 21 = .ok (.iconst 1, 1) := by decide +kernel
theorem dX5_isWatched_22 : decode cX5_isWatched 22 = .ok (.ireturn, 1) := by decide +kernel
theorem dX5_isWatched_23 : decode cX5_isWatched 23 = .ok (.iinc 2 1, 3) := by decide +kernel
theorem dX5_isWatched_26 : decode cX5_isWatched 26 = .ok (.goto (-24), 3) := by decide +kernel
theorem dX5_isWatched_29 : decode cX5_isWatched 29 = .ok (.iconst 0, 1) := by decide +kernel
theorem dX5_isWatched_30 : decode cX5_isWatched 30 = .ok (.ireturn, 1) := by decide +kernel
theorem dX5_link_0 : decode cX5_link 0 = .ok (.aload_n 0, 1) := by decide +kernel
theorem dX5_link_1 : decode cX5_link 1 = .ok (.iload_n 1, 1) := by decide +kernel
theorem dX5_link_2 : decode cX5_link 2 = .ok (.iload 4, 2) := by decide +kernel
theorem dX5_link_4 : decode cX5_link 4 = .ok (.invokevirtual 248, 3) := by decide +kernel
theorem dX5_link_7 : decode cX5_link 7 = .ok (.astore 5, 2) := by decide +kernel
theorem dX5_link_9 : decode cX5_link 9 = .ok (.aload 5, 2) := by decide +kernel
theorem dX5_link_11 : decode cX5_link 11 = .ok (.ifnull 23, 3) := by decide +kernel
theorem dX5_link_14 : decode cX5_link 14 = .ok (.aload_n 0, 1) := by decide +kernel
theorem dX5_link_15 : decode cX5_link 15 = .ok (.iload_n 2, 1) := by decide +kernel
theorem dX5_link_16 : decode cX5_link 16 = .ok (.invokevirtual 123, 3) := by decide +kernel
theorem dX5_link_19 : decode cX5_link 19 = .ok (.ifnull 15, 3) := by decide +kernel
theorem dX5_link_22 : decode cX5_link 22 = .ok (.iload_n 1, 1) := by decide +kernel
theorem dX5_link_23 : decode cX5_link 23 = .ok (.iload_n 2, 1) := by decide +kernel
theorem dX5_link_24 : decode cX5_link 24 = .ok (.if_icmp .eq 10, 3) := by decide +kernel
theorem dX5_link_27 : decode cX5_link 27 = .ok (.iload_n 3, 1) := by decide +kernel
theorem dX5_link_28 : decode cX5_link 28 = .ok (.invokestatic 285, 3) := by decide +kernel
theorem dX5_link_31 : decode cX5_link 31 = .ok (.ifCond .ne 5, 3) := by decide +kernel
theorem dX5_link_34 : decode cX5_link 34 = .ok (.iconst 0, 1) := by decide +kernel
theorem dX5_link_35 : decode cX5_link 35 = .ok (.ireturn, 1) := by decide +kernel
theorem dX5_link_36 : decode cX5_link 36 = .ok (.aload_n 0, 1) := by decide +kernel
theorem dX5_link_37 : decode cX5_link 37 = .ok (.getfield 19, 3) := by decide +kernel
theorem dX5_link_40 : decode cX5_link 40 = .ok (.iload_n 2, 1) := by decide +kernel
theorem dX5_link_41 : decode cX5_link 41 = .ok (.aaload, 1) := by decide +kernel
theorem dX5_link_42 : decode cX5_link 42 = .ok (.getfield 215, 3) := by decide +kernel
theorem dX5_link_45 : decode cX5_link 45 = .ok (.iconst (-1), 1) := by decide +kernel
theorem dX5_link_46 : decode cX5_link 46 = .ok (.if_icmp .ne 11, 3) := by decide +kernel
theorem dX5_link_49 : decode cX5_link 49 = .ok (.aload_n 0, 1) := by decide +kernel
theorem dX5_link_50 : decode cX5_link 50 = .ok (.iload_n 1, 1) := by decide +kernel
theorem dX5_link_51 : decode cX5_link 51 = .ok (.invokevirtual 335, 3) := by decide +kernel
theorem dX5_link_54 : decode cX5_link 54 = .ok (.ifCond .eq 5, 3) := by decide +kernel
theorem dX5_link_57 : decode cX5_link 57 = .ok (.iconst 0, 1) := by decide +kernel
theorem dX5_link_58 : decode cX5_link 58 = .ok (.ireturn, 1) := by decide +kernel
theorem dX5_link_59 : decode cX5_link 59 = .ok (.aload_n 0, 1) := by decide +kernel
theorem dX5_link_60 : decode cX5_link 60 = .ok (.getfield 19, 3) := by decide +kernel
theorem dX5_link_63 : decode cX5_link 63 = .ok (.iload_n 1, 1) := by decide +kernel
theorem dX5_link_64 : decode cX5_link 64 = .ok (.aaload, 1) := by decide +kernel
theorem dX5_link_65 : decode cX5_link 65 = .ok (.iload_n 2, 1) := by decide +kernel
theorem dX5_link_66 : decode cX5_link 66 = .ok (.iload_n 3, 1) := by decide +kernel
theorem dX5_link_67 : decode cX5_link 67 = .ok (.iload 4, 2) := by decide +kernel
theorem dX5_link_69 : decode cX5_link 69 = .ok (.invokevirtual 338, 3) := by decide +kernel
theorem dX5_link_72 : decode cX5_link 72 = .ok (.iconst 1, 1) := by decide +kernel
theorem dX5_link_73 : decode cX5_link 73 = .ok (.ireturn, 1) := by decide +kernel
theorem dX5_unlink_0 : decode cX5_unlink 0 = .ok (.iload_n 1, 1) := by decide +kernel
theorem dX5_unlink_1 : decode cX5_unlink 1 = .ok (.invokestatic 102, 3) := by decide +kernel
theorem dX5_unlink_4 : decode cX5_unlink 4 = .ok (.ifCond .eq 16, 3) := by decide +kernel
theorem dX5_unlink_7 : decode cX5_unlink 7 = .ok (.aload_n 0, 1) := by decide +kernel
theorem dX5_unlink_8 : decode cX5_unlink 8 = .ok (.getfield 19, 3) := by decide +kernel
theorem dX5_unlink_11 : decode cX5_unlink 11 = .ok (.iload_n 1, 1) := by decide +kernel
theorem dX5_unlink_12 : decode cX5_unlink 12 = .ok (.aaload, 1) := by decide +kernel
theorem dX5_unlink_13 : decode cX5_unlink 13 = .ok (.getfield 215, 3) := by decide +kernel
theorem dX5_unlink_16 : decode cX5_unlink 16 = .ok (.iconst (-1), 1) := by decide +kernel
theorem dX5_unlink_17 : decode cX5_unlink 17 = .ok (.if_icmp .ne 5, 3) := by decide +kernel
theorem dX5_unlink_20 : decode cX5_unlink 20 = .ok (.iconst 0, 1) := by decide +kernel
theorem dX5_unlink_21 : decode cX5_unlink 21 = .ok (.ireturn, 1) := by decide +kernel
theorem dX5_unlink_22 : decode cX5_unlink 22 = .ok (.aload_n 0, 1) := by decide +kernel
theorem dX5_unlink_23 : decode cX5_unlink 23 = .ok (.getfield 19, 3) := by decide +kernel
theorem dX5_unlink_26 : decode cX5_unlink 26 = .ok (.iload_n 1, 1) := by decide +kernel
theorem dX5_unlink_27 : decode cX5_unlink 27 = .ok (.aaload, 1) := by decide +kernel
theorem dX5_unlink_28 : decode cX5_unlink 28 = .ok (.invokevirtual 340, 3) := by decide +kernel
theorem dX5_unlink_31 : decode cX5_unlink 31 = .ok (.iconst 1, 1) := by decide +kernel
theorem dX5_unlink_32 : decode cX5_unlink 32 = .ok (.ireturn, 1) := by decide +kernel
theorem dX5_linked_0 : decode cX5_linked 0 = .ok (.iload_n 1, 1) := by decide +kernel
theorem dX5_linked_1 : decode cX5_linked 1 = .ok (.invokestatic 102, 3) := by decide +kernel
theorem dX5_linked_4 : decode cX5_linked 4 = .ok (.ifCond .eq 29, 3) := by decide +kernel
theorem dX5_linked_7 : decode cX5_linked 7 = .ok (.aload_n 0, 1) := by decide +kernel
theorem dX5_linked_8 : decode cX5_linked 8 = .ok (.getfield 19, 3) := by decide +kernel
theorem dX5_linked_11 : decode cX5_linked 11 = .ok (.iload_n 1, 1) := by decide +kernel
theorem dX5_linked_12 : decode cX5_linked 12 = .ok (.aaload, 1) := by decide +kernel
theorem dX5_linked_13 : decode cX5_linked 13 = .ok (.getfield 215, 3) := by decide +kernel
theorem dX5_linked_16 : decode cX5_linked 16 = .ok (.iconst (-1), 1) := by decide +kernel
theorem dX5_linked_17 : decode cX5_linked 17 = .ok (.if_icmp .eq 16, 3) := by decide +kernel
theorem dX5_linked_20 : decode cX5_linked 20 = .ok (.aload_n 0, 1) := by decide +kernel
theorem dX5_linked_21 : decode cX5_linked 21 = .ok (.getfield 19, 3) := by decide +kernel
theorem dX5_linked_24 : decode cX5_linked 24 = .ok (.iload_n 1, 1) := by decide +kernel
theorem dX5_linked_25 : decode cX5_linked 25 = .ok (.aaload, 1) := by decide +kernel
theorem dX5_linked_26 : decode cX5_linked 26 = .ok (.iload_n 2, 1) := by decide +kernel
theorem dX5_linked_27 : decode cX5_linked 27 = .ok (.invokevirtual 343, 3) := by decide +kernel
theorem dX5_linked_30 : decode cX5_linked 30 = .ok (.goto 4, 3) := by decide +kernel
theorem dX5_linked_33 : decode cX5_linked 33 = .ok (.iconst (-1), 1) := by decide +kernel
theorem dX5_linked_34 : decode cX5_linked 34 = .ok (.ireturn, 1) := by decide +kernel
theorem dX5_isLinkedTo_0 : decode cX5_isLinkedTo 0 = .ok (.iconst 0, 1) := by decide +kernel
theorem dX5_isLinkedTo_1 : decode cX5_isLinkedTo 1 = .ok (.istore_n 2, 1) := by decide +kernel
theorem dX5_isLinkedTo_2 : decode cX5_isLinkedTo 2 = .ok (.iload_n 2, 1) := by decide +kernel
theorem dX5_isLinkedTo_3 : decode cX5_isLinkedTo 3 = .ok (.iconst 4, 1) := by decide +kernel
theorem dX5_isLinkedTo_4 : decode cX5_isLinkedTo 4 = .ok (.if_icmp .ge 24, 3) := by decide +kernel
theorem dX5_isLinkedTo_7 : decode cX5_isLinkedTo 7 = .ok (.aload_n 0, 1) := by decide +kernel
theorem dX5_isLinkedTo_8 : decode cX5_isLinkedTo 8 = .ok (.getfield 19, 3) := by decide +kernel
theorem dX5_isLinkedTo_11 : decode cX5_isLinkedTo 11 = .ok (.iload_n 2, 1) := by decide +kernel
theorem dX5_isLinkedTo_12 : decode cX5_isLinkedTo 12 = .ok (.aaload, 1) := by decide +kernel
theorem dX5_isLinkedTo_13 : decode cX5_isLinkedTo 13 = .ok (.getfield 215, 3) := by decide +kernel
theorem dX5_isLinkedTo_16 : decode cX5_isLinkedTo 16 = .ok (.iload_n 1, 1) := by decide +kernel
theorem dX5_isLinkedTo_17 : decode cX5_isLinkedTo 17 = .ok (.if_icmp .ne 5, 3) := by decide +kernel
theorem dX5_isLinkedTo_20 : decode cX5_isLinkedTo 20 = .ok (.iconst 1, 1) := by decide +kernel
theorem dX5_isLinkedTo_21 : decode cX5_isLinkedTo 21 = .ok (.ireturn, 1) := by decide +kernel
theorem dX5_isLinkedTo_22 : decode cX5_isLinkedTo 22 = .ok (.iinc 2 1, 3) := by decide +kernel
theorem dX5_isLinkedTo_25 : decode cX5_isLinkedTo 25 = .ok (.goto (-23), 3) := by decide +kernel
theorem dX5_isLinkedTo_28 : decode cX5_isLinkedTo 28 = .ok (.iconst 0, 1) := by decide +kernel
theorem dX5_isLinkedTo_29 : decode cX5_isLinkedTo 29 = .ok (.ireturn, 1) := by decide +kernel
theorem dX5_endTies_0 : decode cX5_endTies 0 = .ok (.iconst 0, 1) := by decide +kernel
theorem dX5_endTies_1 : decode cX5_endTies 1 = .ok (.istore_n 2, 1) := by decide +kernel
theorem dX5_endTies_2 : decode cX5_endTies 2 = .ok (.iload_n 2, 1) := by decide +kernel
theorem dX5_endTies_3 : decode cX5_endTies 3 = .ok (.bipush 8, 2) := by decide +kernel
theorem dX5_endTies_5 : decode cX5_endTies 5 = .ok (.if_icmp .ge 31, 3) := by decide +kernel
theorem dX5_endTies_8 : decode cX5_endTies 8 = .ok (.aload_n 0, 1) := by decide +kernel
theorem dX5_endTies_9 : decode cX5_endTies 9 = .ok (.getfield 32, 3) := by decide +kernel
theorem dX5_endTies_12 : decode cX5_endTies 12 = .ok (.iload_n 2, 1) := by decide +kernel
theorem dX5_endTies_13 : decode cX5_endTies 13 = .ok (.aaload, 1) := by decide +kernel
theorem dX5_endTies_14 : decode cX5_endTies 14 = .ok (.getfield 321, 3) := by decide +kernel
theorem dX5_endTies_17 : decode cX5_endTies 17 = .ok (.iload_n 1, 1) := by decide +kernel
theorem dX5_endTies_18 : decode cX5_endTies 18 = .ok (.if_icmp .ne 12, 3) := by decide +kernel
theorem dX5_endTies_21 : decode cX5_endTies 21 = .ok (.aload_n 0, 1) := by decide +kernel
theorem dX5_endTies_22 : decode cX5_endTies 22 = .ok (.getfield 32, 3) := by decide +kernel
theorem dX5_endTies_25 : decode cX5_endTies 25 = .ok (.iload_n 2, 1) := by decide +kernel
theorem dX5_endTies_26 : decode cX5_endTies 26 = .ok (.aaload, 1) := by decide +kernel
theorem dX5_endTies_27 : decode cX5_endTies 27 = .ok (.invokevirtual 344, 3) := by decide +kernel
theorem dX5_endTies_30 : decode cX5_endTies 30 = .ok (.iinc 2 1, 3) := by decide +kernel
theorem dX5_endTies_33 : decode cX5_endTies 33 = .ok (.goto (-31), 3) := by decide +kernel
theorem dX5_endTies_36 : decode cX5_endTies 36 = .ok (.iconst 0, 1) := by decide +kernel
theorem dX5_endTies_37 : decode cX5_endTies 37 = .ok (.istore_n 2, 1) := by decide +kernel
theorem dX5_endTies_38 : decode cX5_endTies 38 = .ok (.iload_n 2, 1) := by decide +kernel
theorem dX5_endTies_39 : decode cX5_endTies 39 = .ok (.iconst 4, 1) := by decide +kernel
theorem dX5_endTies_40 : decode cX5_endTies 40 = .ok (.if_icmp .ge 36, 3) := by decide +kernel
theorem dX5_endTies_43 : decode cX5_endTies 43 = .ok (.iload_n 2, 1) := by decide +kernel
theorem dX5_endTies_44 : decode cX5_endTies 44 = .ok (.iload_n 1, 1) := by decide +kernel
theorem dX5_endTies_45 : decode cX5_endTies 45 = .ok (.if_icmp .eq 16, 3) := by decide +kernel
theorem dX5_endTies_48 : decode cX5_endTies 48 = .ok (.aload_n 0, 1) := by decide +kernel
theorem dX5_endTies_49 : decode cX5_endTies 49 = .ok (.getfield 19, 3) := by decide +kernel
theorem dX5_endTies_52 : decode cX5_endTies 52 = .ok (.iload_n 2, 1) := by decide +kernel
theorem dX5_endTies_53 : decode cX5_endTies 53 = .ok (.aaload, 1) := by decide +kernel
theorem dX5_endTies_54 : decode cX5_endTies 54 = .ok (.getfield 215, 3) := by decide +kernel
theorem dX5_endTies_57 : decode cX5_endTies 57 = .ok (.iload_n 1, 1) := by decide +kernel
theorem dX5_endTies_58 : decode cX5_endTies 58 = .ok (.if_icmp .ne 12, 3) := by decide +kernel
theorem dX5_endTies_61 : decode cX5_endTies 61 = .ok (.aload_n 0, 1) := by decide +kernel
theorem dX5_endTies_62 : decode cX5_endTies 62 = .ok (.getfield 19, 3) := by decide +kernel
theorem dX5_endTies_65 : decode cX5_endTies 65 = .ok (.iload_n 2, 1) := by decide +kernel
theorem dX5_endTies_66 : decode cX5_endTies 66 = .ok (.aaload, 1) := by decide +kernel
theorem dX5_endTies_67 : decode cX5_endTies 67 = .ok (.invokevirtual 340, 3) := by decide +kernel
theorem dX5_endTies_70 : decode cX5_endTies 70 = .ok (.iinc 2 1, 3) := by decide +kernel
theorem dX5_endTies_73 : decode cX5_endTies 73 = .ok (.goto (-35), 3) := by decide +kernel
theorem dX5_endTies_76 : decode cX5_endTies 76 = .ok (.return_, 1) := by decide +kernel
theorem dX5_shortest_0 : decode cX5_shortest 0 = .ok (.aload_n 0, 1) := by decide +kernel
theorem dX5_shortest_1 : decode cX5_shortest 1 = .ok (.iload_n 1, 1) := by decide +kernel
theorem dX5_shortest_2 : decode cX5_shortest 2 = .ok (.iload_n 2, 1) := by decide +kernel
theorem dX5_shortest_3 : decode cX5_shortest 3 = .ok (.invokevirtual 248, 3) := by decide +kernel
theorem dX5_shortest_6 : decode cX5_shortest 6 = .ok (.astore 5, 2) := by decide +kernel
theorem dX5_shortest_8 : decode cX5_shortest 8 = .ok (.aload 5, 2) := by decide +kernel
theorem dX5_shortest_10 : decode cX5_shortest 10 = .ok (.ifnull 13, 3) := by decide +kernel
theorem dX5_shortest_13 : decode cX5_shortest 13 = .ok (.iload 4, 2) := by decide +kernel
theorem dX5_shortest_15 : decode cX5_shortest 15 = .ok (.iconst 0, 1) := by decide +kernel
theorem dX5_shortest_16 : decode cX5_shortest 16 = .ok (.iconst 1, 1) := by decide +kernel
theorem dX5_shortest_17 : decode cX5_shortest 17 = .ok (.invokestatic 59, 3) := by decide +kernel
theorem dX5_shortest_20 : decode cX5_shortest 20 = .ok (.ifCond .ne 5, 3) := by decide +kernel
theorem dX5_shortest_23 : decode cX5_shortest 23 = .ok (.iconst (-1), 1) := by decide +kernel
theorem dX5_shortest_24 : decode cX5_shortest 24 = .ok (.ireturn, 1) := by decide +kernel
theorem dX5_shortest_25 : decode cX5_shortest 25 = .ok (.aload 5, 2) := by decide +kernel
theorem dX5_shortest_27 : decode cX5_shortest 27 = .ok (.getfield 154, 3) := by decide +kernel
theorem dX5_shortest_30 : decode cX5_shortest 30 = .ok (.iconst 1, 1) := by decide +kernel
theorem dX5_shortest_31 : decode cX5_shortest 31 = .ok (.iadd, 1) := by decide +kernel
theorem dX5_shortest_32 : decode cX5_shortest 32 = .ok (.istore 6, 2) := by decide +kernel
theorem dX5_shortest_34 : decode cX5_shortest 34 = .ok (.iconst (-1), 1) := by decide +kernel
theorem dX5_shortest_35 : decode cX5_shortest 35 = .ok (.istore 7, 2) := by decide +kernel
theorem dX5_shortest_37 : decode cX5_shortest 37 = .ok (.iconst 0, 1) := by decide +kernel
theorem dX5_shortest_38 : decode cX5_shortest 38 = .ok (.istore 8, 2) := by decide +kernel
theorem dX5_shortest_40 : decode cX5_shortest 40 = .ok (.iload 8, 2) := by decide +kernel
theorem dX5_shortest_42 : decode cX5_shortest 42 = .ok (.aload 5, 2) := by decide +kernel
theorem dX5_shortest_44 : decode cX5_shortest 44 = .ok (.getfield 154, 3) := by decide +kernel
theorem dX5_shortest_47 : decode cX5_shortest 47 = .ok (.if_icmp .ge 93, 3) := by decide +kernel
theorem dX5_shortest_50 : decode cX5_shortest 50 = .ok (.aload_n 0, 1) := by decide +kernel
theorem dX5_shortest_51 : decode cX5_shortest 51 = .ok (.getfield 40, 3) := by decide +kernel
theorem dX5_shortest_54 : decode cX5_shortest 54 = .ok (.aload 5, 2) := by decide +kernel
theorem dX5_shortest_56 : decode cX5_shortest 56 = .ok (.getfield 98, 3) := by decide +kernel
theorem dX5_shortest_59 : decode cX5_shortest 59 = .ok (.invokevirtual 251, 3) := by decide +kernel
theorem dX5_shortest_62 : decode cX5_shortest 62 = .ok (.iload 8, 2) := by decide +kernel
theorem dX5_shortest_64 : decode cX5_shortest 64 = .ok (.istore 9, 2) := by decide +kernel
theorem dX5_shortest_66 : decode cX5_shortest 66 = .ok (.iload 9, 2) := by decide +kernel
theorem dX5_shortest_68 : decode cX5_shortest 68 = .ok (.aload 5, 2) := by decide +kernel
theorem dX5_shortest_70 : decode cX5_shortest 70 = .ok (.getfield 154, 3) := by decide +kernel
theorem dX5_shortest_73 : decode cX5_shortest 73 = .ok (.if_icmp .ge 61, 3) := by decide +kernel
theorem dX5_shortest_76 : decode cX5_shortest 76 = .ok (.iload 9, 2) := by decide +kernel
theorem dX5_shortest_78 : decode cX5_shortest 78 = .ok (.iload 8, 2) := by decide +kernel
theorem dX5_shortest_80 : decode cX5_shortest 80 = .ok (.isub, 1) := by decide +kernel
theorem dX5_shortest_81 : decode cX5_shortest 81 = .ok (.iconst 1, 1) := by decide +kernel
theorem dX5_shortest_82 : decode cX5_shortest 82 = .ok (.iadd, 1) := by decide +kernel
theorem dX5_shortest_83 : decode cX5_shortest 83 = .ok (.iload 6, 2) := by decide +kernel
theorem dX5_shortest_85 : decode cX5_shortest 85 = .ok (.if_icmp .ge 49, 3) := by decide +kernel
theorem dX5_shortest_88 : decode cX5_shortest 88 = .ok (.aload_n 0, 1) := by decide +kernel
theorem dX5_shortest_89 : decode cX5_shortest 89 = .ok (.getfield 40, 3) := by decide +kernel
theorem dX5_shortest_92 : decode cX5_shortest 92 = .ok (.aload 5, 2) := by decide +kernel
theorem dX5_shortest_94 : decode cX5_shortest 94 = .ok (.getfield 176, 3) := by decide +kernel
theorem dX5_shortest_97 : decode cX5_shortest 97 = .ok (.iload 9, 2) := by decide +kernel
theorem dX5_shortest_99 : decode cX5_shortest 99 = .ok (.iaload, 1) := by decide +kernel
theorem dX5_shortest_100 : decode cX5_shortest 100 = .ok (.invokevirtual 253, 3) := by decide +kernel
theorem dX5_shortest_103 : decode cX5_shortest 103 = .ok (.aload_n 0, 1) := by decide +kernel
theorem dX5_shortest_104 : decode cX5_shortest 104 = .ok (.getfield 40, 3) := by decide +kernel
theorem dX5_shortest_107 : decode cX5_shortest 107 = .ok (.iload_n 2, 1) := by decide +kernel
theorem dX5_shortest_108 : decode cX5_shortest 108 = .ok (.iload_n 3, 1) := by decide +kernel
theorem dX5_shortest_109 : decode cX5_shortest 109 = .ok (.invokevirtual 256, 3) := by decide +kernel
theorem dX5_shortest_112 : decode cX5_shortest 112 = .ok (.ifCond .eq 16, 3) := by decide +kernel
theorem dX5_shortest_115 : decode cX5_shortest 115 = .ok (.iload 9, 2) := by decide +kernel
theorem dX5_shortest_117 : decode cX5_shortest 117 = .ok (.iload 8, 2) := by decide +kernel
theorem dX5_shortest_119 : decode cX5_shortest 119 = .ok (.isub, 1) := by decide +kernel
theorem dX5_shortest_120 : decode cX5_shortest 120 = .ok (.iconst 1, 1) := by decide +kernel
theorem dX5_shortest_121 : decode cX5_shortest 121 = .ok (.iadd, 1) := by decide +kernel
theorem dX5_shortest_122 : decode cX5_shortest 122 = .ok (.istore 6, 2) := by decide +kernel
theorem dX5_shortest_124 : decode cX5_shortest 124 = .ok (.iload 8, 2) := by decide +kernel
theorem dX5_shortest_126 : decode cX5_shortest 126 = .ok (.istore 7, 2) := by decide +kernel
theorem dX5_shortest_128 : decode cX5_shortest 128 = .ok (.iinc 9 1, 3) := by decide +kernel
theorem dX5_shortest_131 : decode cX5_shortest 131 = .ok (.goto (-65), 3) := by decide +kernel
theorem dX5_shortest_134 : decode cX5_shortest 134 = .ok (.iinc 8 1, 3) := by decide +kernel
theorem dX5_shortest_137 : decode cX5_shortest 137 = .ok (.goto (-97), 3) := by decide +kernel
theorem dX5_shortest_140 : decode cX5_shortest 140 = .ok (.iload 7, 2) := by decide +kernel
theorem dX5_shortest_142 : decode cX5_shortest 142 = .ok (.iconst (-1), 1) := by decide +kernel
theorem dX5_shortest_143 : decode cX5_shortest 143 = .ok (.if_icmp .ne 7, 3) := by decide +kernel
theorem dX5_shortest_146 : decode cX5_shortest 146 = .ok (.iconst (-1), 1) := by decide +kernel
theorem dX5_shortest_147 : decode cX5_shortest 147 = .ok (.goto 15, 3) := by decide +kernel
theorem dX5_shortest_150 : decode cX5_shortest 150 = .ok (.iload 4, 2) := by decide +kernel
theorem dX5_shortest_152 : decode cX5_shortest 152 = .ok (.ifCond .ne 8, 3) := by decide +kernel
theorem dX5_shortest_155 : decode cX5_shortest 155 = .ok (.iload 6, 2) := by decide +kernel
theorem dX5_shortest_157 : decode cX5_shortest 157 = .ok (.goto 5, 3) := by decide +kernel
theorem dX5_shortest_160 : decode cX5_shortest 160 = .ok (.iload 7, 2) := by decide +kernel
theorem dX5_shortest_162 : decode cX5_shortest 162 = .ok (.ireturn, 1) := by decide +kernel
theorem dX5_windows_0 : decode cX5_windows 0 = .ok (.aload_n 0, 1) := by decide +kernel
theorem dX5_windows_1 : decode cX5_windows 1 = .ok (.iload_n 1, 1) := by decide +kernel
theorem dX5_windows_2 : decode cX5_windows 2 = .ok (.iload_n 2, 1) := by decide +kernel
theorem dX5_windows_3 : decode cX5_windows 3 = .ok (.invokevirtual 248, 3) := by decide +kernel
theorem dX5_windows_6 : decode cX5_windows 6 = .ok (.astore 5, 2) := by decide +kernel
theorem dX5_windows_8 : decode cX5_windows 8 = .ok (.aload 5, 2) := by decide +kernel
theorem dX5_windows_10 : decode cX5_windows 10 = .ok (.ifnonnull 5, 3) := by decide +kernel
theorem dX5_windows_13 : decode cX5_windows 13 = .ok (.iconst (-1), 1) := by decide +kernel
theorem dX5_windows_14 : decode cX5_windows 14 = .ok (.ireturn, 1) := by decide +kernel
theorem dX5_windows_15 : decode cX5_windows 15 = .ok (.iconst 0, 1) := by decide +kernel
theorem dX5_windows_16 : decode cX5_windows 16 = .ok (.istore 6, 2) := by decide +kernel
theorem dX5_windows_18 : decode cX5_windows 18 = .ok (.iconst 0, 1) := by decide +kernel
theorem dX5_windows_19 : decode cX5_windows 19 = .ok (.istore 7, 2) := by decide +kernel
theorem dX5_windows_21 : decode cX5_windows 21 = .ok (.iload 7, 2) := by decide +kernel
theorem dX5_windows_23 : decode cX5_windows 23 = .ok (.aload 5, 2) := by decide +kernel
theorem dX5_windows_25 : decode cX5_windows 25 = .ok (.getfield 154, 3) := by decide +kernel
theorem dX5_windows_28 : decode cX5_windows 28 = .ok (.if_icmp .ge 94, 3) := by decide +kernel
theorem dX5_windows_31 : decode cX5_windows 31 = .ok (.aload_n 0, 1) := by decide +kernel
theorem dX5_windows_32 : decode cX5_windows 32 = .ok (.getfield 40, 3) := by decide +kernel
theorem dX5_windows_35 : decode cX5_windows 35 = .ok (.aload 5, 2) := by decide +kernel
theorem dX5_windows_37 : decode cX5_windows 37 = .ok (.getfield 98, 3) := by decide +kernel
theorem dX5_windows_40 : decode cX5_windows 40 = .ok (.invokevirtual 251, 3) := by decide +kernel
theorem dX5_windows_43 : decode cX5_windows 43 = .ok (.iload 7, 2) := by decide +kernel
theorem dX5_windows_45 : decode cX5_windows 45 = .ok (.istore 8, 2) := by decide +kernel
theorem dX5_windows_47 : decode cX5_windows 47 = .ok (.iload 8, 2) := by decide +kernel
theorem dX5_windows_49 : decode cX5_windows 49 = .ok (.aload 5, 2) := by decide +kernel
theorem dX5_windows_51 : decode cX5_windows 51 = .ok (.getfield 154, 3) := by decide +kernel
theorem dX5_windows_54 : decode cX5_windows 54 = .ok (.if_icmp .ge 62, 3) := by decide +kernel
theorem dX5_windows_57 : decode cX5_windows 57 = .ok (.aload_n 0, 1) := by decide +kernel
theorem dX5_windows_58 : decode cX5_windows 58 = .ok (.getfield 40, 3) := by decide +kernel
theorem dX5_windows_61 : decode cX5_windows 61 = .ok (.aload 5, 2) := by decide +kernel
theorem dX5_windows_63 : decode cX5_windows 63 = .ok (.getfield 176, 3) := by decide +kernel
theorem dX5_windows_66 : decode cX5_windows 66 = .ok (.iload 8, 2) := by decide +kernel
theorem dX5_windows_68 : decode cX5_windows 68 = .ok (.iaload, 1) := by decide +kernel
theorem dX5_windows_69 : decode cX5_windows 69 = .ok (.invokevirtual 253, 3) := by decide +kernel
theorem dX5_windows_72 : decode cX5_windows 72 = .ok (.aload_n 0, 1) := by decide +kernel
theorem dX5_windows_73 : decode cX5_windows 73 = .ok (.getfield 40, 3) := by decide +kernel
theorem dX5_windows_76 : decode cX5_windows 76 = .ok (.iload_n 2, 1) := by decide +kernel
theorem dX5_windows_77 : decode cX5_windows 77 = .ok (.invokevirtual 273, 3) := by decide +kernel
theorem dX5_windows_80 : decode cX5_windows 80 = .ok (.istore 9, 2) := by decide +kernel
theorem dX5_windows_82 : decode cX5_windows 82 = .ok (.iload 6, 2) := by decide +kernel
theorem dX5_windows_84 : decode cX5_windows 84 = .ok (.iload 9, 2) := by decide +kernel
theorem dX5_windows_86 : decode cX5_windows 86 = .ok (.ldc 175, 2) := by decide +kernel
theorem dX5_windows_88 : decode cX5_windows 88 = .ok (.if_icmp .eq 18, 3) := by decide +kernel
theorem dX5_windows_91 : decode cX5_windows 91 = .ok (.iload 9, 2) := by decide +kernel
theorem dX5_windows_93 : decode cX5_windows 93 = .ok (.iload_n 3, 1) := by decide +kernel
theorem dX5_windows_94 : decode cX5_windows 94 = .ok (.iload 4, 2) := by decide +kernel
theorem dX5_windows_96 : decode cX5_windows 96 = .ok (.invokestatic 59, 3) := by decide +kernel
theorem dX5_windows_99 : decode cX5_windows 99 = .ok (.ifCond .eq 7, 3) := by decide +kernel
theorem dX5_windows_102 : decode cX5_windows 102 = .ok (.iconst 1, 1) := by decide +kernel
theorem dX5_windows_103 : decode cX5_windows 103 = .ok (.goto 4, 3) := by decide +kernel
theorem dX5_windows_106 : decode cX5_windows 106 = .ok (.iconst 0, 1) := by decide +kernel
theorem dX5_windows_107 : decode cX5_windows 107 = .ok (.iadd, 1) := by decide +kernel
theorem dX5_windows_108 : decode cX5_windows 108 = .ok (.istore 6, 2) := by decide +kernel
theorem dX5_windows_110 : decode cX5_windows 110 = .ok (.iinc 8 1, 3) := by decide +kernel
theorem dX5_windows_113 : decode cX5_windows 113 = .ok (.goto (-66), 3) := by decide +kernel
theorem dX5_windows_116 : decode cX5_windows 116 = .ok (.iinc 7 1, 3) := by decide +kernel
theorem dX5_windows_119 : decode cX5_windows 119 = .ok (.goto (-98), 3) := by decide +kernel
theorem dX5_windows_122 : decode cX5_windows 122 = .ok (.iload 6, 2) := by decide +kernel
theorem dX5_windows_124 : decode cX5_windows 124 = .ok (.ireturn, 1) := by decide +kernel
theorem dX5_were_0 : decode cX5_were 0 = .ok (.aload_n 0, 1) := by decide +kernel
theorem dX5_were_1 : decode cX5_were 1 = .ok (.iload_n 1, 1) := by decide +kernel
theorem dX5_were_2 : decode cX5_were 2 = .ok (.iload 4, 2) := by decide +kernel
theorem dX5_were_4 : decode cX5_were 4 = .ok (.invokevirtual 248, 3) := by decide +kernel
theorem dX5_were_7 : decode cX5_were 7 = .ok (.astore 5, 2) := by decide +kernel
theorem dX5_were_9 : decode cX5_were 9 = .ok (.aload 5, 2) := by decide +kernel
theorem dX5_were_11 : decode cX5_were 11 = .ok (.ifnull 34, 3) := by decide +kernel
theorem dX5_were_14 : decode cX5_were 14 = .ok (.iload_n 2, 1) := by decide +kernel
theorem dX5_were_15 : decode cX5_were 15 = .ok (.invokestatic 127, 3) := by decide +kernel
theorem dX5_were_18 : decode cX5_were 18 = .ok (.ifCond .eq 27, 3) := by decide +kernel
theorem dX5_were_21 : decode cX5_were 21 = .ok (.iload_n 3, 1) := by decide +kernel
theorem dX5_were_22 : decode cX5_were 22 = .ok (.invokestatic 130, 3) := by decide +kernel
theorem dX5_were_25 : decode cX5_were 25 = .ok (.ifCond .eq 20, 3) := by decide +kernel
theorem dX5_were_28 : decode cX5_were 28 = .ok (.aload 5, 2) := by decide +kernel
theorem dX5_were_30 : decode cX5_were 30 = .ok (.iload_n 2, 1) := by decide +kernel
theorem dX5_were_31 : decode cX5_were 31 = .ok (.invokevirtual 133, 3) := by decide +kernel
theorem dX5_were_34 : decode cX5_were 34 = .ok (.ifCond .ne 11, 3) := by decide +kernel
theorem dX5_were_37 : decode cX5_were 37 = .ok (.aload 5, 2) := by decide +kernel
theorem dX5_were_39 : decode cX5_were 39 = .ok (.invokevirtual 139, 3) := by decide +kernel
theorem dX5_were_42 : decode cX5_were 42 = .ok (.ifCond .eq 6, 3) := by decide +kernel
theorem dX5_were_45 : decode cX5_were 45 = .ok (.ldc 175, 2) := by decide +kernel
theorem dX5_were_47 : decode cX5_were 47 = .ok (.ireturn, 1) := by decide +kernel
theorem dX5_were_48 : decode cX5_were 48 = .ok (.aload 5, 2) := by decide +kernel
theorem dX5_were_50 : decode cX5_were 50 = .ok (.iload_n 2, 1) := by decide +kernel
theorem dX5_were_51 : decode cX5_were 51 = .ok (.i2l, 1) := by decide +kernel
theorem dX5_were_52 : decode cX5_were 52 = .ok (.invokevirtual 167, 3) := by decide +kernel
theorem dX5_were_55 : decode cX5_were 55 = .ok (.istore 6, 2) := by decide +kernel
theorem dX5_were_57 : decode cX5_were 57 = .ok (.aload 5, 2) := by decide +kernel
theorem dX5_were_59 : decode cX5_were 59 = .ok (.getfield 157, 3) := by decide +kernel
theorem dX5_were_62 : decode cX5_were 62 = .ok (.iload_n 2, 1) := by decide +kernel
theorem dX5_were_63 : decode cX5_were 63 = .ok (.invokestatic 239, 3) := by decide +kernel
theorem dX5_were_66 : decode cX5_were 66 = .ok (.istore 7, 2) := by decide +kernel
theorem dX5_were_68 : decode cX5_were 68 = .ok (.aload_n 0, 1) := by decide +kernel
theorem dX5_were_69 : decode cX5_were 69 = .ok (.getfield 40, 3) := by decide +kernel
theorem dX5_were_72 : decode cX5_were 72 = .ok (.aload 5, 2) := by decide +kernel
theorem dX5_were_74 : decode cX5_were 74 = .ok (.getfield 98, 3) := by decide +kernel
theorem dX5_were_77 : decode cX5_were 77 = .ok (.invokevirtual 251, 3) := by decide +kernel
theorem dX5_were_80 : decode cX5_were 80 = .ok (.iconst 0, 1) := by decide +kernel
theorem dX5_were_81 : decode cX5_were 81 = .ok (.istore 8, 2) := by decide +kernel
theorem dX5_were_83 : decode cX5_were 83 = .ok (.iload 8, 2) := by decide +kernel
theorem dX5_were_85 : decode cX5_were 85 = .ok (.aload 5, 2) := by decide +kernel
theorem dX5_were_87 : decode cX5_were 87 = .ok (.getfield 154, 3) := by decide +kernel
theorem dX5_were_90 : decode cX5_were 90 = .ok (.if_icmp .gt 96, 3) := by decide +kernel
theorem dX5_were_93 : decode cX5_were 93 = .ok (.iload 8, 2) := by decide +kernel
theorem dX5_were_95 : decode cX5_were 95 = .ok (.iload 6, 2) := by decide +kernel
theorem dX5_were_97 : decode cX5_were 97 = .ok (.if_icmp .ge 8, 3) := by decide +kernel
theorem dX5_were_100 : decode cX5_were 100 = .ok (.iload 8, 2) := by decide +kernel
theorem dX5_were_102 : decode cX5_were 102 = .ok (.goto 7, 3) := by decide +kernel
theorem dX5_were_105 : decode cX5_were 105 = .ok (.iload 8, 2) := by decide +kernel
theorem dX5_were_107 : decode cX5_were 107 = .ok (.iconst 1, 1) := by decide +kernel
theorem dX5_were_108 : decode cX5_were 108 = .ok (.isub, 1) := by decide +kernel
theorem dX5_were_109 : decode cX5_were 109 = .ok (.istore 9, 2) := by decide +kernel
theorem dX5_were_111 : decode cX5_were 111 = .ok (.iload 8, 2) := by decide +kernel
theorem dX5_were_113 : decode cX5_were 113 = .ok (.iload 6, 2) := by decide +kernel
theorem dX5_were_115 : decode cX5_were 115 = .ok (.if_icmp .ne 7, 3) := by decide +kernel
theorem dX5_were_118 : decode cX5_were 118 = .ok (.iload_n 2, 1) := by decide +kernel
theorem dX5_were_119 : decode cX5_were 119 = .ok (.goto 11, 3) := by decide +kernel
theorem dX5_were_122 : decode cX5_were 122 = .ok (.aload 5, 2) := by decide +kernel
theorem dX5_were_124 : decode cX5_were 124 = .ok (.getfield 198, 3) := by decide +kernel
theorem dX5_were_127 : decode cX5_were 127 = .ok (.iload 9, 2) := by decide +kernel
theorem dX5_were_129 : decode cX5_were 129 = .ok (.iaload, 1) := by decide +kernel
theorem dX5_were_130 : decode cX5_were 130 = .ok (.istore 10, 2) := by decide +kernel
theorem dX5_were_132 : decode cX5_were 132 = .ok (.aload 5, 2) := by decide +kernel
theorem dX5_were_134 : decode cX5_were 134 = .ok (.aload 5, 2) := by decide +kernel
theorem dX5_were_136 : decode cX5_were 136 = .ok (.getfield 154, 3) := by decide +kernel
theorem dX5_were_139 : decode cX5_were 139 = .ok (.iconst 1, 1) := by decide +kernel
theorem dX5_were_140 : decode cX5_were 140 = .ok (.iadd, 1) := by decide +kernel
theorem dX5_were_141 : decode cX5_were 141 = .ok (.iload 8, 2) := by decide +kernel
theorem dX5_were_143 : decode cX5_were 143 = .ok (.isub, 1) := by decide +kernel
theorem dX5_were_144 : decode cX5_were 144 = .ok (.iload 10, 2) := by decide +kernel
theorem dX5_were_146 : decode cX5_were 146 = .ok (.iload 7, 2) := by decide +kernel
theorem dX5_were_148 : decode cX5_were 148 = .ok (.invokevirtual 201, 3) := by decide +kernel
theorem dX5_were_151 : decode cX5_were 151 = .ok (.ifCond .ne 29, 3) := by decide +kernel
theorem dX5_were_154 : decode cX5_were 154 = .ok (.aload_n 0, 1) := by decide +kernel
theorem dX5_were_155 : decode cX5_were 155 = .ok (.getfield 40, 3) := by decide +kernel
theorem dX5_were_158 : decode cX5_were 158 = .ok (.iload 8, 2) := by decide +kernel
theorem dX5_were_160 : decode cX5_were 160 = .ok (.iload 6, 2) := by decide +kernel
theorem dX5_were_162 : decode cX5_were 162 = .ok (.if_icmp .ne 7, 3) := by decide +kernel
theorem dX5_were_165 : decode cX5_were 165 = .ok (.iload_n 3, 1) := by decide +kernel
theorem dX5_were_166 : decode cX5_were 166 = .ok (.goto 11, 3) := by decide +kernel
theorem dX5_were_169 : decode cX5_were 169 = .ok (.aload 5, 2) := by decide +kernel
theorem dX5_were_171 : decode cX5_were 171 = .ok (.getfield 176, 3) := by decide +kernel
theorem dX5_were_174 : decode cX5_were 174 = .ok (.iload 9, 2) := by decide +kernel
theorem dX5_were_176 : decode cX5_were 176 = .ok (.iaload, 1) := by decide +kernel
theorem dX5_were_177 : decode cX5_were 177 = .ok (.invokevirtual 253, 3) := by decide +kernel
theorem dX5_were_180 : decode cX5_were 180 = .ok (.iinc 8 1, 3) := by decide +kernel
theorem dX5_were_183 : decode cX5_were 183 = .ok (.goto (-100), 3) := by decide +kernel
theorem dX5_were_186 : decode cX5_were 186 = .ok (.aload_n 0, 1) := by decide +kernel
theorem dX5_were_187 : decode cX5_were 187 = .ok (.getfield 40, 3) := by decide +kernel
theorem dX5_were_190 : decode cX5_were 190 = .ok (.iload 4, 2) := by decide +kernel
theorem dX5_were_192 : decode cX5_were 192 = .ok (.invokevirtual 273, 3) := by decide +kernel
theorem dX5_were_195 : decode cX5_were 195 = .ok (.ireturn, 1) := by decide +kernel
theorem dX5_parted_0 : decode cX5_parted 0 = .ok (.aload_n 0, 1) := by decide +kernel
theorem dX5_parted_1 : decode cX5_parted 1 = .ok (.iload_n 1, 1) := by decide +kernel
theorem dX5_parted_2 : decode cX5_parted 2 = .ok (.iload_n 3, 1) := by decide +kernel
theorem dX5_parted_3 : decode cX5_parted 3 = .ok (.invokevirtual 248, 3) := by decide +kernel
theorem dX5_parted_6 : decode cX5_parted 6 = .ok (.astore 5, 2) := by decide +kernel
theorem dX5_parted_8 : decode cX5_parted 8 = .ok (.aload 5, 2) := by decide +kernel
theorem dX5_parted_10 : decode cX5_parted 10 = .ok (.ifnull 31, 3) := by decide +kernel
theorem dX5_parted_13 : decode cX5_parted 13 = .ok (.iload_n 2, 1) := by decide +kernel
theorem dX5_parted_14 : decode cX5_parted 14 = .ok (.iconst 1, 1) := by decide +kernel
theorem dX5_parted_15 : decode cX5_parted 15 = .ok (.iconst 4, 1) := by decide +kernel
theorem dX5_parted_16 : decode cX5_parted 16 = .ok (.invokestatic 59, 3) := by decide +kernel
theorem dX5_parted_19 : decode cX5_parted 19 = .ok (.ifCond .eq 22, 3) := by decide +kernel
theorem dX5_parted_22 : decode cX5_parted 22 = .ok (.iload 4, 2) := by decide +kernel
theorem dX5_parted_24 : decode cX5_parted 24 = .ok (.iconst 0, 1) := by decide +kernel
theorem dX5_parted_25 : decode cX5_parted 25 = .ok (.iload_n 2, 1) := by decide +kernel
theorem dX5_parted_26 : decode cX5_parted 26 = .ok (.invokestatic 59, 3) := by decide +kernel
theorem dX5_parted_29 : decode cX5_parted 29 = .ok (.ifCond .eq 12, 3) := by decide +kernel
theorem dX5_parted_32 : decode cX5_parted 32 = .ok (.aload 5, 2) := by decide +kernel
theorem dX5_parted_34 : decode cX5_parted 34 = .ok (.getfield 154, 3) := by decide +kernel
theorem dX5_parted_37 : decode cX5_parted 37 = .ok (.iload_n 2, 1) := by decide +kernel
theorem dX5_parted_38 : decode cX5_parted 38 = .ok (.if_icmp .ge 6, 3) := by decide +kernel
theorem dX5_parted_41 : decode cX5_parted 41 = .ok (.ldc 175, 2) := by decide +kernel
theorem dX5_parted_43 : decode cX5_parted 43 = .ok (.ireturn, 1) := by decide +kernel
theorem dX5_parted_44 : decode cX5_parted 44 = .ok (.aload 5, 2) := by decide +kernel
theorem dX5_parted_46 : decode cX5_parted 46 = .ok (.getfield 154, 3) := by decide +kernel
theorem dX5_parted_49 : decode cX5_parted 49 = .ok (.iconst 1, 1) := by decide +kernel
theorem dX5_parted_50 : decode cX5_parted 50 = .ok (.isub, 1) := by decide +kernel
theorem dX5_parted_51 : decode cX5_parted 51 = .ok (.istore 6, 2) := by decide +kernel
theorem dX5_parted_53 : decode cX5_parted 53 = .ok (.iload 6, 2) := by decide +kernel
theorem dX5_parted_55 : decode cX5_parted 55 = .ok (.ifCond .lt 19, 3) := by decide +kernel
theorem dX5_parted_58 : decode cX5_parted 58 = .ok (.aload_n 0, 1) := by decide +kernel
theorem dX5_parted_59 : decode cX5_parted 59 = .ok (.aload 5, 2) := by decide +kernel
theorem dX5_parted_61 : decode cX5_parted 61 = .ok (.iload 6, 2) := by decide +kernel
theorem dX5_parted_63 : decode cX5_parted 63 = .ok (.iload_n 2, 1) := by decide +kernel
theorem dX5_parted_64 : decode cX5_parted 64 = .ok (.iload_n 3, 1) := by decide +kernel
theorem dX5_parted_65 : decode cX5_parted 65 = .ok (.invokevirtual 345, 3) := by decide +kernel
theorem dX5_parted_68 : decode cX5_parted 68 = .ok (.iinc 6 (-1), 3) := by decide +kernel
theorem dX5_parted_71 : decode cX5_parted 71 = .ok (.goto (-18), 3) := by decide +kernel
theorem dX5_parted_74 : decode cX5_parted 74 = .ok (.aload_n 0, 1) := by decide +kernel
theorem dX5_parted_75 : decode cX5_parted 75 = .ok (.getfield 53, 3) := by decide +kernel
theorem dX5_parted_78 : decode cX5_parted 78 = .ok (.iload_n 2, 1) := by decide +kernel
theorem dX5_parted_79 : decode cX5_parted 79 = .ok (.aaload, 1) := by decide +kernel
theorem dX5_parted_80 : decode cX5_parted 80 = .ok (.iconst 0, 1) := by decide +kernel
theorem dX5_parted_81 : decode cX5_parted 81 = .ok (.iaload, 1) := by decide +kernel
theorem dX5_parted_82 : decode cX5_parted 82 = .ok (.istore 6, 2) := by decide +kernel
theorem dX5_parted_84 : decode cX5_parted 84 = .ok (.iload 6, 2) := by decide +kernel
theorem dX5_parted_86 : decode cX5_parted 86 = .ok (.ldc 175, 2) := by decide +kernel
theorem dX5_parted_88 : decode cX5_parted 88 = .ok (.if_icmp .eq 8, 3) := by decide +kernel
theorem dX5_parted_91 : decode cX5_parted 91 = .ok (.iload 4, 2) := by decide +kernel
theorem dX5_parted_93 : decode cX5_parted 93 = .ok (.ifCond .ne 6, 3) := by decide +kernel
theorem dX5_parted_96 : decode cX5_parted 96 = .ok (.iload 6, 2) := by decide +kernel
theorem dX5_parted_98 : decode cX5_parted 98 = .ok (.ireturn, 1) := by decide +kernel
theorem dX5_parted_99 : decode cX5_parted 99 = .ok (.iconst 0, 1) := by decide +kernel
theorem dX5_parted_100 : decode cX5_parted 100 = .ok (.istore 7, 2) := by decide +kernel
theorem dX5_parted_102 : decode cX5_parted 102 = .ok (.iconst 1, 1) := by decide +kernel
theorem dX5_parted_103 : decode cX5_parted 103 = .ok (.istore 8, 2) := by decide +kernel
theorem dX5_parted_105 : decode cX5_parted 105 = .ok (.iload 8, 2) := by decide +kernel
theorem dX5_parted_107 : decode cX5_parted 107 = .ok (.iload 4, 2) := by decide +kernel
theorem dX5_parted_109 : decode cX5_parted 109 = .ok (.if_icmp .ge 25, 3) := by decide +kernel
theorem dX5_parted_112 : decode cX5_parted 112 = .ok (.aload_n 0, 1) := by decide +kernel
theorem dX5_parted_113 : decode cX5_parted 113 = .ok (.getfield 56, 3) := by decide +kernel
theorem dX5_parted_116 : decode cX5_parted 116 = .ok (.iload_n 2, 1) := by decide +kernel
theorem dX5_parted_117 : decode cX5_parted 117 = .ok (.iload 8, 2) := by decide +kernel
theorem dX5_parted_119 : decode cX5_parted 119 = .ok (.isub, 1) := by decide +kernel
theorem dX5_parted_120 : decode cX5_parted 120 = .ok (.iconst 1, 1) := by decide +kernel
theorem dX5_parted_121 : decode cX5_parted 121 = .ok (.iadd, 1) := by decide +kernel
theorem dX5_parted_122 : decode cX5_parted 122 = .ok (.aaload, 1) := by decide +kernel
theorem dX5_parted_123 : decode cX5_parted 123 = .ok (.iload 7, 2) := by decide +kernel
theorem dX5_parted_125 : decode cX5_parted 125 = .ok (.iaload, 1) := by decide +kernel
theorem dX5_parted_126 : decode cX5_parted 126 = .ok (.istore 7, 2) := by decide +kernel
theorem dX5_parted_128 : decode cX5_parted 128 = .ok (.iinc 8 1, 3) := by decide +kernel
theorem dX5_parted_131 : decode cX5_parted 131 = .ok (.goto (-26), 3) := by decide +kernel
theorem dX5_parted_134 : decode cX5_parted 134 = .ok (.iload 7, 2) := by decide +kernel
theorem dX5_parted_136 : decode cX5_parted 136 = .ok (.ireturn, 1) := by decide +kernel
theorem dX5_partFrom_0 : decode cX5_partFrom 0 = .ok (.iconst 1, 1) := by decide +kernel
theorem dX5_partFrom_1 : decode cX5_partFrom 1 = .ok (.istore 5, 2) := by decide +kernel
theorem dX5_partFrom_3 : decode cX5_partFrom 3 = .ok (.iload 5, 2) := by decide +kernel
theorem dX5_partFrom_5 : decode cX5_partFrom 5 = .ok (.iload_n 3, 1) := by decide +kernel
theorem dX5_partFrom_6 : decode cX5_partFrom 6 = .ok (.if_icmp .gt 20, 3) := by decide +kernel
theorem dX5_partFrom_9 : decode cX5_partFrom 9 = .ok (.aload_n 0, 1) := by decide +kernel
theorem dX5_partFrom_10 : decode cX5_partFrom 10 = .ok (.getfield 53, 3) := by decide +kernel
theorem dX5_partFrom_13 : decode cX5_partFrom 13 = .ok (.iload 5, 2) := by decide +kernel
theorem dX5_partFrom_15 : decode cX5_partFrom 15 = .ok (.aaload, 1) := by decide +kernel
theorem dX5_partFrom_16 : decode cX5_partFrom 16 = .ok (.iload_n 2, 1) := by decide +kernel
theorem dX5_partFrom_17 : decode cX5_partFrom 17 = .ok (.ldc 175, 2) := by decide +kernel
theorem dX5_partFrom_19 : decode cX5_partFrom 19 = .ok (.iastore, 1) := by decide +kernel
theorem dX5_partFrom_20 : decode cX5_partFrom 20 = .ok (.iinc 5 1, 3) := by decide +kernel
theorem dX5_partFrom_23 : decode cX5_partFrom 23 = .ok (.goto (-20), 3) := by decide +kernel
theorem dX5_partFrom_26 : decode cX5_partFrom 26 = .ok (.aload_n 0, 1) := by decide +kernel
theorem dX5_partFrom_27 : decode cX5_partFrom 27 = .ok (.getfield 40, 3) := by decide +kernel
theorem dX5_partFrom_30 : decode cX5_partFrom 30 = .ok (.aload_n 1, 1) := by decide +kernel
theorem dX5_partFrom_31 : decode cX5_partFrom 31 = .ok (.getfield 98, 3) := by decide +kernel
theorem dX5_partFrom_34 : decode cX5_partFrom 34 = .ok (.invokevirtual 251, 3) := by decide +kernel
theorem dX5_partFrom_37 : decode cX5_partFrom 37 = .ok (.iload_n 2, 1) := by decide +kernel
theorem dX5_partFrom_38 : decode cX5_partFrom 38 = .ok (.iconst 1, 1) := by decide +kernel
theorem dX5_partFrom_39 : decode cX5_partFrom 39 = .ok (.iadd, 1) := by decide +kernel
theorem dX5_partFrom_40 : decode cX5_partFrom 40 = .ok (.istore 5, 2) := by decide +kernel
theorem dX5_partFrom_42 : decode cX5_partFrom 42 = .ok (.iload 5, 2) := by decide +kernel
theorem dX5_partFrom_44 : decode cX5_partFrom 44 = .ok (.aload_n 1, 1) := by decide +kernel
theorem dX5_partFrom_45 : decode cX5_partFrom 45 = .ok (.getfield 154, 3) := by decide +kernel
theorem dX5_partFrom_48 : decode cX5_partFrom 48 = .ok (.if_icmp .ge 121, 3) := by decide +kernel
theorem dX5_partFrom_51 : decode cX5_partFrom 51 = .ok (.aload_n 0, 1) := by decide +kernel
theorem dX5_partFrom_52 : decode cX5_partFrom 52 = .ok (.getfield 40, 3) := by decide +kernel
theorem dX5_partFrom_55 : decode cX5_partFrom 55 = .ok (.aload_n 1, 1) := by decide +kernel
theorem dX5_partFrom_56 : decode cX5_partFrom 56 = .ok (.getfield 176, 3) := by decide +kernel
theorem dX5_partFrom_59 : decode cX5_partFrom 59 = .ok (.iload 5, 2) := by decide +kernel
theorem dX5_partFrom_61 : decode cX5_partFrom 61 = .ok (.iconst 1, 1) := by decide +kernel
theorem dX5_partFrom_62 : decode cX5_partFrom 62 = .ok (.isub, 1) := by decide +kernel
theorem dX5_partFrom_63 : decode cX5_partFrom 63 = .ok (.iaload, 1) := by decide +kernel
theorem dX5_partFrom_64 : decode cX5_partFrom 64 = .ok (.invokevirtual 253, 3) := by decide +kernel
theorem dX5_partFrom_67 : decode cX5_partFrom 67 = .ok (.aload_n 0, 1) := by decide +kernel
theorem dX5_partFrom_68 : decode cX5_partFrom 68 = .ok (.getfield 40, 3) := by decide +kernel
theorem dX5_partFrom_71 : decode cX5_partFrom 71 = .ok (.iload 4, 2) := by decide +kernel
theorem dX5_partFrom_73 : decode cX5_partFrom 73 = .ok (.invokevirtual 273, 3) := by decide +kernel
theorem dX5_partFrom_76 : decode cX5_partFrom 76 = .ok (.istore 6, 2) := by decide +kernel
theorem dX5_partFrom_78 : decode cX5_partFrom 78 = .ok (.iconst 2, 1) := by decide +kernel
theorem dX5_partFrom_79 : decode cX5_partFrom 79 = .ok (.istore 7, 2) := by decide +kernel
theorem dX5_partFrom_81 : decode cX5_partFrom 81 = .ok (.iload 7, 2) := by decide +kernel
theorem dX5_partFrom_83 : decode cX5_partFrom 83 = .ok (.iload_n 3, 1) := by decide +kernel
theorem dX5_partFrom_84 : decode cX5_partFrom 84 = .ok (.if_icmp .gt 79, 3) := by decide +kernel
theorem dX5_partFrom_87 : decode cX5_partFrom 87 = .ok (.iload 6, 2) := by decide +kernel
theorem dX5_partFrom_89 : decode cX5_partFrom 89 = .ok (.ldc 175, 2) := by decide +kernel
theorem dX5_partFrom_91 : decode cX5_partFrom 91 = .ok (.if_icmp .eq 72, 3) := by decide +kernel
theorem dX5_partFrom_94 : decode cX5_partFrom 94 = .ok (.aload_n 0, 1) := by decide +kernel
theorem dX5_partFrom_95 : decode cX5_partFrom 95 = .ok (.getfield 53, 3) := by decide +kernel
theorem dX5_partFrom_98 : decode cX5_partFrom 98 = .ok (.iload 7, 2) := by decide +kernel
theorem dX5_partFrom_100 : decode cX5_partFrom 100 = .ok (.iconst 1, 1) := by decide +kernel
theorem dX5_partFrom_101 : decode cX5_partFrom 101 = .ok (.isub, 1) := by decide +kernel
theorem dX5_partFrom_102 : decode cX5_partFrom 102 = .ok (.aaload, 1) := by decide +kernel
theorem dX5_partFrom_103 : decode cX5_partFrom 103 = .ok (.iload 5, 2) := by decide +kernel
theorem dX5_partFrom_105 : decode cX5_partFrom 105 = .ok (.iaload, 1) := by decide +kernel
theorem dX5_partFrom_106 : decode cX5_partFrom 106 = .ok (.istore 8, 2) := by decide +kernel
theorem dX5_partFrom_108 : decode cX5_partFrom 108 = .ok (.iload 8, 2) := by decide +kernel
theorem dX5_partFrom_110 : decode cX5_partFrom 110 = .ok (.ldc 175, 2) := by decide +kernel
theorem dX5_partFrom_112 : decode cX5_partFrom 112 = .ok (.if_icmp .eq 45, 3) := by decide +kernel
theorem dX5_partFrom_115 : decode cX5_partFrom 115 = .ok (.iload 6, 2) := by decide +kernel
theorem dX5_partFrom_117 : decode cX5_partFrom 117 = .ok (.iload 8, 2) := by decide +kernel
theorem dX5_partFrom_119 : decode cX5_partFrom 119 = .ok (.iadd, 1) := by decide +kernel
theorem dX5_partFrom_120 : decode cX5_partFrom 120 = .ok (.aload_n 0, 1) := by decide +kernel
theorem dX5_partFrom_121 : decode cX5_partFrom 121 = .ok (.getfield 53, 3) := by decide +kernel
theorem dX5_partFrom_124 : decode cX5_partFrom 124 = .ok (.iload 7, 2) := by decide +kernel
theorem dX5_partFrom_126 : decode cX5_partFrom 126 = .ok (.aaload, 1) := by decide +kernel
theorem dX5_partFrom_127 : decode cX5_partFrom 127 = .ok (.iload_n 2, 1) := by decide +kernel
theorem dX5_partFrom_128 : decode cX5_partFrom 128 = .ok (.iaload, 1) := by decide +kernel
theorem dX5_partFrom_129 : decode cX5_partFrom 129 = .ok (.if_icmp .le 28, 3) := by decide +kernel
theorem dX5_partFrom_132 : decode cX5_partFrom 132 = .ok (.aload_n 0, 1) := by decide +kernel
theorem dX5_partFrom_133 : decode cX5_partFrom 133 = .ok (.getfield 53, 3) := by decide +kernel
theorem dX5_partFrom_136 : decode cX5_partFrom 136 = .ok (.iload 7, 2) := by decide +kernel
theorem dX5_partFrom_138 : decode cX5_partFrom 138 = .ok (.aaload, 1) := by decide +kernel
theorem dX5_partFrom_139 : decode cX5_partFrom 139 = .ok (.iload_n 2, 1) := by decide +kernel
theorem dX5_partFrom_140 : decode cX5_partFrom 140 = .ok (.iload 6, 2) := by decide +kernel
theorem dX5_partFrom_142 : decode cX5_partFrom 142 = .ok (.iload 8, 2) := by decide +kernel
theorem dX5_partFrom_144 : decode cX5_partFrom 144 = .ok (.iadd, 1) := by decide +kernel
theorem dX5_partFrom_145 : decode cX5_partFrom 145 = .ok (.iastore, 1) := by decide +kernel
theorem dX5_partFrom_146 : decode cX5_partFrom 146 = .ok (.aload_n 0, 1) := by decide +kernel
theorem dX5_partFrom_147 : decode cX5_partFrom 147 = .ok (.getfield 56, 3) := by decide +kernel
theorem dX5_partFrom_150 : decode cX5_partFrom 150 = .ok (.iload 7, 2) := by decide +kernel
theorem dX5_partFrom_152 : decode cX5_partFrom 152 = .ok (.aaload, 1) := by decide +kernel
theorem dX5_partFrom_153 : decode cX5_partFrom 153 = .ok (.iload_n 2, 1) := by decide +kernel
theorem dX5_partFrom_154 : decode cX5_partFrom 154 = .ok (.iload 5, 2) := by decide +kernel
theorem dX5_partFrom_156 : decode cX5_partFrom 156 = .ok (.iastore, 1) := by decide +kernel
theorem dX5_partFrom_157 : decode cX5_partFrom 157 = .ok (.iinc 7 1, 3) := by decide +kernel
theorem dX5_partFrom_160 : decode cX5_partFrom 160 = .ok (.goto (-79), 3) := by decide +kernel
theorem dX5_partFrom_163 : decode cX5_partFrom 163 = .ok (.iinc 5 1, 3) := by decide +kernel
theorem dX5_partFrom_166 : decode cX5_partFrom 166 = .ok (.goto (-124), 3) := by decide +kernel
theorem dX5_partFrom_169 : decode cX5_partFrom 169 = .ok (.aload_n 0, 1) := by decide +kernel
theorem dX5_partFrom_170 : decode cX5_partFrom 170 = .ok (.getfield 40, 3) := by decide +kernel
theorem dX5_partFrom_173 : decode cX5_partFrom 173 = .ok (.aload_n 1, 1) := by decide +kernel
theorem dX5_partFrom_174 : decode cX5_partFrom 174 = .ok (.getfield 176, 3) := by decide +kernel
theorem dX5_partFrom_177 : decode cX5_partFrom 177 = .ok (.aload_n 1, 1) := by decide +kernel
theorem dX5_partFrom_178 : decode cX5_partFrom 178 = .ok (.getfield 154, 3) := by decide +kernel
theorem dX5_partFrom_181 : decode cX5_partFrom 181 = .ok (.iconst 1, 1) := by decide +kernel
theorem dX5_partFrom_182 : decode cX5_partFrom 182 = .ok (.isub, 1) := by decide +kernel
theorem dX5_partFrom_183 : decode cX5_partFrom 183 = .ok (.iaload, 1) := by decide +kernel
theorem dX5_partFrom_184 : decode cX5_partFrom 184 = .ok (.invokevirtual 253, 3) := by decide +kernel
theorem dX5_partFrom_187 : decode cX5_partFrom 187 = .ok (.aload_n 0, 1) := by decide +kernel
theorem dX5_partFrom_188 : decode cX5_partFrom 188 = .ok (.getfield 53, 3) := by decide +kernel
theorem dX5_partFrom_191 : decode cX5_partFrom 191 = .ok (.iconst 1, 1) := by decide +kernel
theorem dX5_partFrom_192 : decode cX5_partFrom 192 = .ok (.aaload, 1) := by decide +kernel
theorem dX5_partFrom_193 : decode cX5_partFrom 193 = .ok (.iload_n 2, 1) := by decide +kernel
theorem dX5_partFrom_194 : decode cX5_partFrom 194 = .ok (.aload_n 0, 1) := by decide +kernel
theorem dX5_partFrom_195 : decode cX5_partFrom 195 = .ok (.getfield 40, 3) := by decide +kernel
theorem dX5_partFrom_198 : decode cX5_partFrom 198 = .ok (.iload 4, 2) := by decide +kernel
theorem dX5_partFrom_200 : decode cX5_partFrom 200 = .ok (.invokevirtual 273, 3) := by decide +kernel
theorem dX5_partFrom_203 : decode cX5_partFrom 203 = .ok (.iastore, 1) := by decide +kernel
theorem dX5_partFrom_204 : decode cX5_partFrom 204 = .ok (.return_, 1) := by decide +kernel
theorem dX5_keep_0 : decode cX5_keep 0 = .ok (.aload_n 0, 1) := by decide +kernel
theorem dX5_keep_1 : decode cX5_keep 1 = .ok (.iload_n 1, 1) := by decide +kernel
theorem dX5_keep_2 : decode cX5_keep 2 = .ok (.invokevirtual 123, 3) := by decide +kernel
theorem dX5_keep_5 : decode cX5_keep 5 = .ok (.astore_n 3, 1) := by decide +kernel
theorem dX5_keep_6 : decode cX5_keep 6 = .ok (.aload_n 3, 1) := by decide +kernel
theorem dX5_keep_7 : decode cX5_keep 7 = .ok (.ifnull 12, 3) := by decide +kernel
theorem dX5_keep_10 : decode cX5_keep 10 = .ok (.iload_n 2, 1) := by decide +kernel
theorem dX5_keep_11 : decode cX5_keep 11 = .ok (.iconst 0, 1) := by decide +kernel
theorem dX5_keep_12 : decode cX5_keep 12 = .ok (.iconst 2, 1) := by decide +kernel
theorem dX5_keep_13 : decode cX5_keep 13 = .ok (.invokestatic 59, 3) := by decide +kernel
theorem dX5_keep_16 : decode cX5_keep 16 = .ok (.ifCond .ne 5, 3) := by decide +kernel
theorem dX5_keep_19 : decode cX5_keep 19 = .ok (.iconst (-1), 1) := by decide +kernel
theorem dX5_keep_20 : decode cX5_keep 20 = .ok (.ireturn, 1) := by decide +kernel
theorem dX5_keep_21 : decode cX5_keep 21 = .ok (.aload_n 0, 1) := by decide +kernel
theorem dX5_keep_22 : decode cX5_keep 22 = .ok (.getfield 27, 3) := by decide +kernel
theorem dX5_keep_25 : decode cX5_keep 25 = .ok (.iload_n 2, 1) := by decide +kernel
theorem dX5_keep_26 : decode cX5_keep 26 = .ok (.aaload, 1) := by decide +kernel
theorem dX5_keep_27 : decode cX5_keep 27 = .ok (.aload_n 3, 1) := by decide +kernel
theorem dX5_keep_28 : decode cX5_keep 28 = .ok (.invokevirtual 349, 3) := by decide +kernel
theorem dX5_keep_31 : decode cX5_keep 31 = .ok (.aload_n 3, 1) := by decide +kernel
theorem dX5_keep_32 : decode cX5_keep 32 = .ok (.getfield 154, 3) := by decide +kernel
theorem dX5_keep_35 : decode cX5_keep 35 = .ok (.ireturn, 1) := by decide +kernel
theorem dX5_back_0 : decode cX5_back 0 = .ok (.iload_n 1, 1) := by decide +kernel
theorem dX5_back_1 : decode cX5_back 1 = .ok (.iconst 0, 1) := by decide +kernel
theorem dX5_back_2 : decode cX5_back 2 = .ok (.iconst 2, 1) := by decide +kernel
theorem dX5_back_3 : decode cX5_back 3 = .ok (.invokestatic 59, 3) := by decide +kernel
theorem dX5_back_6 : decode cX5_back 6 = .ok (.ifCond .eq 15, 3) := by decide +kernel
theorem dX5_back_9 : decode cX5_back 9 = .ok (.aload_n 0, 1) := by decide +kernel
theorem dX5_back_10 : decode cX5_back 10 = .ok (.getfield 27, 3) := by decide +kernel
theorem dX5_back_13 : decode cX5_back 13 = .ok (.iload_n 1, 1) := by decide +kernel
theorem dX5_back_14 : decode cX5_back 14 = .ok (.aaload, 1) := by decide +kernel
theorem dX5_back_15 : decode cX5_back 15 = .ok (.getfield 94, 3) := by decide +kernel
theorem dX5_back_18 : decode cX5_back 18 = .ok (.ifCond .ne 5, 3) := by decide +kernel
theorem dX5_back_21 : decode cX5_back 21 = .ok (.iconst (-1), 1) := by decide +kernel
theorem dX5_back_22 : decode cX5_back 22 = .ok (.ireturn, 1) := by decide +kernel
theorem dX5_back_23 : decode cX5_back 23 = .ok (.aload_n 0, 1) := by decide +kernel
theorem dX5_back_24 : decode cX5_back 24 = .ok (.getfield 27, 3) := by decide +kernel
theorem dX5_back_27 : decode cX5_back 27 = .ok (.iload_n 1, 1) := by decide +kernel
theorem dX5_back_28 : decode cX5_back 28 = .ok (.aaload, 1) := by decide +kernel
theorem dX5_back_29 : decode cX5_back 29 = .ok (.astore_n 2, 1) := by decide +kernel
theorem dX5_back_30 : decode cX5_back 30 = .ok (.aload_n 0, 1) := by decide +kernel
theorem dX5_back_31 : decode cX5_back 31 = .ok (.getfield 13, 3) := by decide +kernel
theorem dX5_back_34 : decode cX5_back 34 = .ok (.aload_n 2, 1) := by decide +kernel
theorem dX5_back_35 : decode cX5_back 35 = .ok (.getfield 212, 3) := by decide +kernel
theorem dX5_back_38 : decode cX5_back 38 = .ok (.aaload, 1) := by decide +kernel
theorem dX5_back_39 : decode cX5_back 39 = .ok (.aload_n 2, 1) := by decide +kernel
theorem dX5_back_40 : decode cX5_back 40 = .ok (.invokevirtual 349, 3) := by decide +kernel
theorem dX5_back_43 : decode cX5_back 43 = .ok (.aload_n 0, 1) := by decide +kernel
theorem dX5_back_44 : decode cX5_back 44 = .ok (.aload_n 2, 1) := by decide +kernel
theorem dX5_back_45 : decode cX5_back 45 = .ok (.getfield 212, 3) := by decide +kernel
theorem dX5_back_48 : decode cX5_back 48 = .ok (.invokevirtual 117, 3) := by decide +kernel
theorem dX5_back_51 : decode cX5_back 51 = .ok (.aload_n 2, 1) := by decide +kernel
theorem dX5_back_52 : decode cX5_back 52 = .ok (.getfield 154, 3) := by decide +kernel
theorem dX5_back_55 : decode cX5_back 55 = .ok (.ireturn, 1) := by decide +kernel
theorem dX5_about_0 : decode cX5_about 0 = .ok (.iload_n 1, 1) := by decide +kernel
theorem dX5_about_1 : decode cX5_about 1 = .ok (.tableswitch 78 0 6 #[43, 48, 53, 58, 63, 68, 73], 43) := by decide +kernel
theorem dX5_about_44 : decode cX5_about 44 = .ok (.aload_n 0, 1) := by decide +kernel
theorem dX5_about_45 : decode cX5_about 45 = .ok (.invokevirtual 120, 3) := by decide +kernel
theorem dX5_about_48 : decode cX5_about 48 = .ok (.ireturn, 1) := by decide +kernel
theorem dX5_about_49 : decode cX5_about 49 = .ok (.aload_n 0, 1) := by decide +kernel
theorem dX5_about_50 : decode cX5_about 50 = .ok (.invokevirtual 351, 3) := by decide +kernel
theorem dX5_about_53 : decode cX5_about 53 = .ok (.ireturn, 1) := by decide +kernel
theorem dX5_about_54 : decode cX5_about 54 = .ok (.aload_n 0, 1) := by decide +kernel
theorem dX5_about_55 : decode cX5_about 55 = .ok (.invokevirtual 354, 3) := by decide +kernel
theorem dX5_about_58 : decode cX5_about 58 = .ok (.ireturn, 1) := by decide +kernel
theorem dX5_about_59 : decode cX5_about 59 = .ok (.aload_n 0, 1) := by decide +kernel
theorem dX5_about_60 : decode cX5_about 60 = .ok (.invokevirtual 357, 3) := by decide +kernel
theorem dX5_about_63 : decode cX5_about 63 = .ok (.ireturn, 1) := by decide +kernel
theorem dX5_about_64 : decode cX5_about 64 = .ok (.aload_n 0, 1) := by decide +kernel
theorem dX5_about_65 : decode cX5_about 65 = .ok (.invokevirtual 360, 3) := by decide +kernel
theorem dX5_about_68 : decode cX5_about 68 = .ok (.ireturn, 1) := by decide +kernel
theorem dX5_about_69 : decode cX5_about 69 = .ok (.aload_n 0, 1) := by decide +kernel
theorem dX5_about_70 : decode cX5_about 70 = .ok (.invokevirtual 363, 3) := by decide +kernel
theorem dX5_about_73 : decode cX5_about 73 = .ok (.ireturn, 1) := by decide +kernel
theorem dX5_about_74 : decode cX5_about 74 = .ok (.aload_n 0, 1) := by decide +kernel
theorem dX5_about_75 : decode cX5_about 75 = .ok (.invokevirtual 366, 3) := by decide +kernel
theorem dX5_about_78 : decode cX5_about 78 = .ok (.ireturn, 1) := by decide +kernel
theorem dX5_about_79 : decode cX5_about 79 = .ok (.iconst (-1), 1) := by decide +kernel
theorem dX5_about_80 : decode cX5_about 80 = .ok (.ireturn, 1) := by decide +kernel
theorem dX5_openLanes_0 : decode cX5_openLanes 0 = .ok (.iconst 0, 1) := by decide +kernel
theorem dX5_openLanes_1 : decode cX5_openLanes 1 = .ok (.istore_n 1, 1) := by decide +kernel
theorem dX5_openLanes_2 : decode cX5_openLanes 2 = .ok (.iconst 0, 1) := by decide +kernel
theorem dX5_openLanes_3 : decode cX5_openLanes 3 = .ok (.istore_n 2, 1) := by decide +kernel
theorem dX5_openLanes_4 : decode cX5_openLanes 4 = .ok (.iload_n 2, 1) := by decide +kernel
theorem dX5_openLanes_5 : decode cX5_openLanes 5 = .ok (.iconst 4, 1) := by decide +kernel
theorem dX5_openLanes_6 : decode cX5_openLanes 6 = .ok (.if_icmp .ge 29, 3) := by decide +kernel
theorem dX5_openLanes_9 : decode cX5_openLanes 9 = .ok (.iload_n 1, 1) := by decide +kernel
theorem dX5_openLanes_10 : decode cX5_openLanes 10 = .ok (.aload_n 0, 1) := by decide +kernel
theorem dX5_openLanes_11 : decode cX5_openLanes 11 = .ok (.getfield 13, 3) := by decide +kernel
theorem dX5_openLanes_14 : decode cX5_openLanes 14 = .ok (.iload_n 2, 1) := by decide +kernel
theorem dX5_openLanes_15 : decode cX5_openLanes 15 = .ok (.aaload, 1) := by decide +kernel
theorem dX5_openLanes_16 : decode cX5_openLanes 16 = .ok (.getfield 94, 3) := by decide +kernel
theorem dX5_openLanes_19 : decode cX5_openLanes 19 = .ok (.ifCond .eq 7, 3) := by decide +kernel
theorem dX5_openLanes_22 : decode cX5_openLanes 22 = .ok (.iconst 1, 1) := by decide +kernel
theorem dX5_openLanes_23 : decode cX5_openLanes 23 = .ok (.goto 4, 3) := by decide +kernel
theorem dX5_openLanes_26 : decode cX5_openLanes 26 = .ok (.iconst 0, 1) := by decide +kernel
theorem dX5_openLanes_27 : decode cX5_openLanes 27 = .ok (.iadd, 1) := by decide +kernel
theorem dX5_openLanes_28 : decode cX5_openLanes 28 = .ok (.istore_n 1, 1) := by decide +kernel
theorem dX5_openLanes_29 : decode cX5_openLanes 29 = .ok (.iinc 2 1, 3) := by decide +kernel
theorem dX5_openLanes_32 : decode cX5_openLanes 32 = .ok (.goto (-28), 3) := by decide +kernel
theorem dX5_openLanes_35 : decode cX5_openLanes 35 = .ok (.iload_n 1, 1) := by decide +kernel
theorem dX5_openLanes_36 : decode cX5_openLanes 36 = .ok (.ireturn, 1) := by decide +kernel
theorem dX5_heldInAll_0 : decode cX5_heldInAll 0 = .ok (.iconst 0, 1) := by decide +kernel
theorem dX5_heldInAll_1 : decode cX5_heldInAll 1 = .ok (.istore_n 1, 1) := by decide +kernel
theorem dX5_heldInAll_2 : decode cX5_heldInAll 2 = .ok (.iconst 0, 1) := by decide +kernel
theorem dX5_heldInAll_3 : decode cX5_heldInAll 3 = .ok (.istore_n 2, 1) := by decide +kernel
theorem dX5_heldInAll_4 : decode cX5_heldInAll 4 = .ok (.iload_n 2, 1) := by decide +kernel
theorem dX5_heldInAll_5 : decode cX5_heldInAll 5 = .ok (.iconst 4, 1) := by decide +kernel
theorem dX5_heldInAll_6 : decode cX5_heldInAll 6 = .ok (.if_icmp .ge 37, 3) := by decide +kernel
theorem dX5_heldInAll_9 : decode cX5_heldInAll 9 = .ok (.iload_n 1, 1) := by decide +kernel
theorem dX5_heldInAll_10 : decode cX5_heldInAll 10 = .ok (.aload_n 0, 1) := by decide +kernel
theorem dX5_heldInAll_11 : decode cX5_heldInAll 11 = .ok (.getfield 13, 3) := by decide +kernel
theorem dX5_heldInAll_14 : decode cX5_heldInAll 14 = .ok (.iload_n 2, 1) := by decide +kernel
theorem dX5_heldInAll_15 : decode cX5_heldInAll 15 = .ok (.aaload, 1) := by decide +kernel
theorem dX5_heldInAll_16 : decode cX5_heldInAll 16 = .ok (.getfield 94, 3) := by decide +kernel
theorem dX5_heldInAll_19 : decode cX5_heldInAll 19 = .ok (.ifCond .eq 15, 3) := by decide +kernel
theorem dX5_heldInAll_22 : decode cX5_heldInAll 22 = .ok (.aload_n 0, 1) := by decide +kernel
theorem dX5_heldInAll_23 : decode cX5_heldInAll 23 = .ok (.getfield 13, 3) := by decide +kernel
theorem dX5_heldInAll_26 : decode cX5_heldInAll 26 = .ok (.iload_n 2, 1) := by decide +kernel
theorem dX5_heldInAll_27 : decode cX5_heldInAll 27 = .ok (.aaload, 1) := by decide +kernel
theorem dX5_heldInAll_28 : decode cX5_heldInAll 28 = .ok (.getfield 154, 3) := by decide +kernel
theorem dX5_heldInAll_31 : decode cX5_heldInAll 31 = .ok (.goto 4, 3) := by decide +kernel
theorem dX5_heldInAll_34 : decode cX5_heldInAll 34 = .ok (.iconst 0, 1) := by decide +kernel
theorem dX5_heldInAll_35 : decode cX5_heldInAll 35 = .ok (.iadd, 1) := by decide +kernel
theorem dX5_heldInAll_36 : decode cX5_heldInAll 36 = .ok (.istore_n 1, 1) := by decide +kernel
theorem dX5_heldInAll_37 : decode cX5_heldInAll 37 = .ok (.iinc 2 1, 3) := by decide +kernel
theorem dX5_heldInAll_40 : decode cX5_heldInAll 40 = .ok (.goto (-36), 3) := by decide +kernel
theorem dX5_heldInAll_43 : decode cX5_heldInAll 43 = .ok (.iload_n 1, 1) := by decide +kernel
theorem dX5_heldInAll_44 : decode cX5_heldInAll 44 = .ok (.ireturn, 1) := by decide +kernel
theorem dX5_spentInAll_0 : decode cX5_spentInAll 0 = .ok (.iconst 0, 1) := by decide +kernel
theorem dX5_spentInAll_1 : decode cX5_spentInAll 1 = .ok (.istore_n 1, 1) := by decide +kernel
theorem dX5_spentInAll_2 : decode cX5_spentInAll 2 = .ok (.iconst 0, 1) := by decide +kernel
theorem dX5_spentInAll_3 : decode cX5_spentInAll 3 = .ok (.istore_n 2, 1) := by decide +kernel
theorem dX5_spentInAll_4 : decode cX5_spentInAll 4 = .ok (.iload_n 2, 1) := by decide +kernel
theorem dX5_spentInAll_5 : decode cX5_spentInAll 5 = .ok (.iconst 4, 1) := by decide +kernel
theorem dX5_spentInAll_6 : decode cX5_spentInAll 6 = .ok (.if_icmp .ge 40, 3) := by decide +kernel
theorem dX5_spentInAll_9 : decode cX5_spentInAll 9 = .ok (.iload_n 1, 1) := by decide +kernel
theorem dX5_spentInAll_10 : decode cX5_spentInAll 10 = .ok (.aload_n 0, 1) := by decide +kernel
theorem dX5_spentInAll_11 : decode cX5_spentInAll 11 = .ok (.getfield 13, 3) := by decide +kernel
theorem dX5_spentInAll_14 : decode cX5_spentInAll 14 = .ok (.iload_n 2, 1) := by decide +kernel
theorem dX5_spentInAll_15 : decode cX5_spentInAll 15 = .ok (.aaload, 1) := by decide +kernel
theorem dX5_spentInAll_16 : decode cX5_spentInAll 16 = .ok (.getfield 94, 3) := by decide +kernel
theorem dX5_spentInAll_19 : decode cX5_spentInAll 19 = .ok (.ifCond .eq 18, 3) := by decide +kernel
theorem dX5_spentInAll_22 : decode cX5_spentInAll 22 = .ok (.aload_n 0, 1) := by decide +kernel
theorem dX5_spentInAll_23 : decode cX5_spentInAll 23 = .ok (.getfield 13, 3) := by decide +kernel
theorem dX5_spentInAll_26 : decode cX5_spentInAll 26 = .ok (.iload_n 2, 1) := by decide +kernel
theorem dX5_spentInAll_27 : decode cX5_spentInAll 27 = .ok (.aaload, 1) := by decide +kernel
theorem dX5_spentInAll_28 : decode cX5_spentInAll 28 = .ok (.getfield 189, 3) := by decide +kernel
