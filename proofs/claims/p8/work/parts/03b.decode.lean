theorem dX4_note_0 : decode cX4_note 0 = .ok (.iload_n 1, 1) := by decide +kernel
theorem dX4_note_1 : decode cX4_note 1 = .ok (.ifCond .eq 25, 3) := by decide +kernel
theorem dX4_note_4 : decode cX4_note 4 = .ok (.aload_n 0, 1) := by decide +kernel
theorem dX4_note_5 : decode cX4_note 5 = .ok (.getfield 21, 3) := by decide +kernel
theorem dX4_note_8 : decode cX4_note 8 = .ok (.ifCond .ne 18, 3) := by decide +kernel
theorem dX4_note_11 : decode cX4_note 11 = .ok (.aload_n 0, 1) := by decide +kernel
theorem dX4_note_12 : decode cX4_note 12 = .ok (.dup, 1) := by decide +kernel
theorem dX4_note_13 : decode cX4_note 13 = .ok (.getfield 25, 3) := by decide +kernel
theorem dX4_note_16 : decode cX4_note 16 = .ok (.iconst 1, 1) := by decide +kernel
theorem dX4_note_17 : decode cX4_note 17 = .ok (.iadd, 1) := by decide +kernel
theorem dX4_note_18 : decode cX4_note 18 = .ok (.putfield 25, 3) := by decide +kernel
theorem dX4_note_21 : decode cX4_note 21 = .ok (.aload_n 0, 1) := by decide +kernel
theorem dX4_note_22 : decode cX4_note 22 = .ok (.iload_n 2, 1) := by decide +kernel
theorem dX4_note_23 : decode cX4_note 23 = .ok (.putfield 28, 3) := by decide +kernel
theorem dX4_note_26 : decode cX4_note 26 = .ok (.aload_n 0, 1) := by decide +kernel
theorem dX4_note_27 : decode cX4_note 27 = .ok (.iload_n 1, 1) := by decide +kernel
theorem dX4_note_28 : decode cX4_note 28 = .ok (.putfield 21, 3) := by decide +kernel
theorem dX4_note_31 : decode cX4_note 31 = .ok (.return_, 1) := by decide +kernel
theorem dX4_end_0 : decode cX4_end 0 = .ok (.aload_n 0, 1) := by decide +kernel
theorem dX4_end_1 : decode cX4_end 1 = .ok (.iconst (-1), 1) := by decide +kernel
theorem dX4_end_2 : decode cX4_end 2 = .ok (.putfield 9, 3) := by decide +kernel
theorem dX4_end_5 : decode cX4_end 5 = .ok (.return_, 1) := by decide +kernel
theorem dX5_init_0 : decode cX5_init 0 = .ok (.aload_n 0, 1) := by decide +kernel
theorem dX5_init_1 : decode cX5_init 1 = .ok (.invokespecial 3, 3) := by decide +kernel
theorem dX5_init_4 : decode cX5_init 4 = .ok (.aload_n 0, 1) := by decide +kernel
theorem dX5_init_5 : decode cX5_init 5 = .ok (.iconst 4, 1) := by decide +kernel
theorem dX5_init_6 : decode cX5_init 6 = .ok (.anewarray 11, 3) := by decide +kernel
theorem dX5_init_9 : decode cX5_init 9 = .ok (.putfield 13, 3) := by decide +kernel
theorem dX5_init_12 : decode cX5_init 12 = .ok (.aload_n 0, 1) := by decide +kernel
theorem dX5_init_13 : decode cX5_init 13 = .ok (.iconst 4, 1) := by decide +kernel
theorem dX5_init_14 : decode cX5_init 14 = .ok (.anewarray 17, 3) := by decide +kernel
theorem dX5_init_17 : decode cX5_init 17 = .ok (.putfield 19, 3) := by decide +kernel
theorem dX5_init_20 : decode cX5_init 20 = .ok (.iconst 0, 1) := by decide +kernel
theorem dX5_init_21 : decode cX5_init 21 = .ok (.istore_n 1, 1) := by decide +kernel
theorem dX5_init_22 : decode cX5_init 22 = .ok (.iload_n 1, 1) := by decide +kernel
theorem dX5_init_23 : decode cX5_init 23 = .ok (.iconst 4, 1) := by decide +kernel
theorem dX5_init_24 : decode cX5_init 24 = .ok (.if_icmp .ge 36, 3) := by decide +kernel
theorem dX5_init_27 : decode cX5_init 27 = .ok (.aload_n 0, 1) := by decide +kernel
theorem dX5_init_28 : decode cX5_init 28 = .ok (.getfield 13, 3) := by decide +kernel
theorem dX5_init_31 : decode cX5_init 31 = .ok (.iload_n 1, 1) := by decide +kernel
theorem dX5_init_32 : decode cX5_init 32 = .ok (.new 11, 3) := by decide +kernel
theorem dX5_init_35 : decode cX5_init 35 = .ok (.dup, 1) := by decide +kernel
theorem dX5_init_36 : decode cX5_init 36 = .ok (.iload_n 1, 1) := by decide +kernel
theorem dX5_init_37 : decode cX5_init 37 = .ok (.invokespecial 23, 3) := by decide +kernel
theorem dX5_init_40 : decode cX5_init 40 = .ok (.aastore, 1) := by decide +kernel
theorem dX5_init_41 : decode cX5_init 41 = .ok (.aload_n 0, 1) := by decide +kernel
theorem dX5_init_42 : decode cX5_init 42 = .ok (.getfield 19, 3) := by decide +kernel
theorem dX5_init_45 : decode cX5_init 45 = .ok (.iload_n 1, 1) := by decide +kernel
theorem dX5_init_46 : decode cX5_init 46 = .ok (.new 17, 3) := by decide +kernel
theorem dX5_init_49 : decode cX5_init 49 = .ok (.dup, 1) := by decide +kernel
theorem dX5_init_50 : decode cX5_init 50 = .ok (.invokespecial 26, 3) := by decide +kernel
theorem dX5_init_53 : decode cX5_init 53 = .ok (.aastore, 1) := by decide +kernel
theorem dX5_init_54 : decode cX5_init 54 = .ok (.iinc 1 1, 3) := by decide +kernel
theorem dX5_init_57 : decode cX5_init 57 = .ok (.goto (-35), 3) := by decide +kernel
theorem dX5_init_60 : decode cX5_init 60 = .ok (.aload_n 0, 1) := by decide +kernel
theorem dX5_init_61 : decode cX5_init 61 = .ok (.iconst 3, 1) := by decide +kernel
theorem dX5_init_62 : decode cX5_init 62 = .ok (.anewarray 11, 3) := by decide +kernel
theorem dX5_init_65 : decode cX5_init 65 = .ok (.putfield 27, 3) := by decide +kernel
theorem dX5_init_68 : decode cX5_init 68 = .ok (.iconst 0, 1) := by decide +kernel
theorem dX5_init_69 : decode cX5_init 69 = .ok (.istore_n 1, 1) := by decide +kernel
theorem dX5_init_70 : decode cX5_init 70 = .ok (.iload_n 1, 1) := by decide +kernel
theorem dX5_init_71 : decode cX5_init 71 = .ok (.iconst 3, 1) := by decide +kernel
theorem dX5_init_72 : decode cX5_init 72 = .ok (.if_icmp .ge 23, 3) := by decide +kernel
theorem dX5_init_75 : decode cX5_init 75 = .ok (.aload_n 0, 1) := by decide +kernel
theorem dX5_init_76 : decode cX5_init 76 = .ok (.getfield 27, 3) := by decide +kernel
theorem dX5_init_79 : decode cX5_init 79 = .ok (.iload_n 1, 1) := by decide +kernel
theorem dX5_init_80 : decode cX5_init 80 = .ok (.new 11, 3) := by decide +kernel
theorem dX5_init_83 : decode cX5_init 83 = .ok (.dup, 1) := by decide +kernel
theorem dX5_init_84 : decode cX5_init 84 = .ok (.iconst (-1), 1) := by decide +kernel
theorem dX5_init_85 : decode cX5_init 85 = .ok (.invokespecial 23, 3) := by decide +kernel
theorem dX5_init_88 : decode cX5_init 88 = .ok (.aastore, 1) := by decide +kernel
theorem dX5_init_89 : decode cX5_init 89 = .ok (.iinc 1 1, 3) := by decide +kernel
theorem dX5_init_92 : decode cX5_init 92 = .ok (.goto (-22), 3) := by decide +kernel
theorem dX5_init_95 : decode cX5_init 95 = .ok (.aload_n 0, 1) := by decide +kernel
theorem dX5_init_96 : decode cX5_init 96 = .ok (.bipush 8, 2) := by decide +kernel
theorem dX5_init_98 : decode cX5_init 98 = .ok (.anewarray 30, 3) := by decide +kernel
theorem dX5_init_101 : decode cX5_init 101 = .ok (.putfield 32, 3) := by decide +kernel
theorem dX5_init_104 : decode cX5_init 104 = .ok (.iconst 0, 1) := by decide +kernel
theorem dX5_init_105 : decode cX5_init 105 = .ok (.istore_n 1, 1) := by decide +kernel
theorem dX5_init_106 : decode cX5_init 106 = .ok (.iload_n 1, 1) := by decide +kernel
theorem dX5_init_107 : decode cX5_init 107 = .ok (.bipush 8, 2) := by decide +kernel
theorem dX5_init_109 : decode cX5_init 109 = .ok (.if_icmp .ge 22, 3) := by decide +kernel
theorem dX5_init_112 : decode cX5_init 112 = .ok (.aload_n 0, 1) := by decide +kernel
theorem dX5_init_113 : decode cX5_init 113 = .ok (.getfield 32, 3) := by decide +kernel
theorem dX5_init_116 : decode cX5_init 116 = .ok (.iload_n 1, 1) := by decide +kernel
theorem dX5_init_117 : decode cX5_init 117 = .ok (.new 30, 3) := by decide +kernel
theorem dX5_init_120 : decode cX5_init 120 = .ok (.dup, 1) := by decide +kernel
theorem dX5_init_121 : decode cX5_init 121 = .ok (.invokespecial 36, 3) := by decide +kernel
theorem dX5_init_124 : decode cX5_init 124 = .ok (.aastore, 1) := by decide +kernel
theorem dX5_init_125 : decode cX5_init 125 = .ok (.iinc 1 1, 3) := by decide +kernel
theorem dX5_init_128 : decode cX5_init 128 = .ok (.goto (-22), 3) := by decide +kernel
theorem dX5_init_131 : decode cX5_init 131 = .ok (.aload_n 0, 1) := by decide +kernel
theorem dX5_init_132 : decode cX5_init 132 = .ok (.new 37, 3) := by decide +kernel
theorem dX5_init_135 : decode cX5_init 135 = .ok (.dup, 1) := by decide +kernel
theorem dX5_init_136 : decode cX5_init 136 = .ok (.invokespecial 39, 3) := by decide +kernel
theorem dX5_init_139 : decode cX5_init 139 = .ok (.putfield 40, 3) := by decide +kernel
theorem dX5_init_142 : decode cX5_init 142 = .ok (.aload_n 0, 1) := by decide +kernel
theorem dX5_init_143 : decode cX5_init 143 = .ok (.new 44, 3) := by decide +kernel
theorem dX5_init_146 : decode cX5_init 146 = .ok (.dup, 1) := by decide +kernel
theorem dX5_init_147 : decode cX5_init 147 = .ok (.invokespecial 46, 3) := by decide +kernel
theorem dX5_init_150 : decode cX5_init 150 = .ok (.putfield 47, 3) := by decide +kernel
theorem dX5_init_153 : decode cX5_init 153 = .ok (.aload_n 0, 1) := by decide +kernel
theorem dX5_init_154 : decode cX5_init 154 = .ok (.iconst 5, 1) := by decide +kernel
theorem dX5_init_155 : decode cX5_init 155 = .ok (.bipush 121, 2) := by decide +kernel
theorem dX5_init_157 : decode cX5_init 157 = .ok (.multianewarray 51 2, 4) := by decide +kernel
theorem dX5_init_161 : decode cX5_init 161 = .ok (.putfield 53, 3) := by decide +kernel
theorem dX5_init_164 : decode cX5_init 164 = .ok (.aload_n 0, 1) := by decide +kernel
theorem dX5_init_165 : decode cX5_init 165 = .ok (.iconst 5, 1) := by decide +kernel
theorem dX5_init_166 : decode cX5_init 166 = .ok (.bipush 121, 2) := by decide +kernel
theorem dX5_init_168 : decode cX5_init 168 = .ok (.multianewarray 51 2, 4) := by decide +kernel
theorem dX5_init_172 : decode cX5_init 172 = .ok (.putfield 56, 3) := by decide +kernel
theorem dX5_init_175 : decode cX5_init 175 = .ok (.return_, 1) := by decide +kernel
theorem dX5_table_0 : decode cX5_table 0 = .ok (.iload_n 1, 1) := by decide +kernel
theorem dX5_table_1 : decode cX5_table 1 = .ok (.iconst 0, 1) := by decide +kernel
theorem dX5_table_2 : decode cX5_table 2 = .ok (.bipush 15, 2) := by decide +kernel
theorem dX5_table_4 : decode cX5_table 4 = .ok (.invokestatic 59, 3) := by decide +kernel
theorem dX5_table_7 : decode cX5_table 7 = .ok (.ifCond .eq 21, 3) := by decide +kernel
theorem dX5_table_10 : decode cX5_table 10 = .ok (.iload_n 2, 1) := by decide +kernel
theorem dX5_table_11 : decode cX5_table 11 = .ok (.iconst 0, 1) := by decide +kernel
theorem dX5_table_12 : decode cX5_table 12 = .ok (.iconst 3, 1) := by decide +kernel
theorem dX5_table_13 : decode cX5_table 13 = .ok (.invokestatic 59, 3) := by decide +kernel
theorem dX5_table_16 : decode cX5_table 16 = .ok (.ifCond .eq 12, 3) := by decide +kernel
theorem dX5_table_19 : decode cX5_table 19 = .ok (.aload_n 0, 1) := by decide +kernel
theorem dX5_table_20 : decode cX5_table 20 = .ok (.bipush 9, 2) := by decide +kernel
theorem dX5_table_22 : decode cX5_table 22 = .ok (.invokevirtual 63, 3) := by decide +kernel
theorem dX5_table_25 : decode cX5_table 25 = .ok (.ifCond .eq 5, 3) := by decide +kernel
theorem dX5_table_28 : decode cX5_table 28 = .ok (.iconst 0, 1) := by decide +kernel
theorem dX5_table_29 : decode cX5_table 29 = .ok (.ireturn, 1) := by decide +kernel
theorem dX5_table_30 : decode cX5_table 30 = .ok (.aload_n 0, 1) := by decide +kernel
theorem dX5_table_31 : decode cX5_table 31 = .ok (.getfield 40, 3) := by decide +kernel
theorem dX5_table_34 : decode cX5_table 34 = .ok (.getfield 67, 3) := by decide +kernel
theorem dX5_table_37 : decode cX5_table 37 = .ok (.iload_n 1, 1) := by decide +kernel
theorem dX5_table_38 : decode cX5_table 38 = .ok (.iload_n 2, 1) := by decide +kernel
theorem dX5_table_39 : decode cX5_table 39 = .ok (.iastore, 1) := by decide +kernel
theorem dX5_table_40 : decode cX5_table 40 = .ok (.iconst 1, 1) := by decide +kernel
theorem dX5_table_41 : decode cX5_table 41 = .ok (.ireturn, 1) := by decide +kernel
theorem dX5_letter_0 : decode cX5_letter 0 = .ok (.iload_n 1, 1) := by decide +kernel
theorem dX5_letter_1 : decode cX5_letter 1 = .ok (.iconst 0, 1) := by decide +kernel
theorem dX5_letter_2 : decode cX5_letter 2 = .ok (.bipush 7, 2) := by decide +kernel
theorem dX5_letter_4 : decode cX5_letter 4 = .ok (.invokestatic 59, 3) := by decide +kernel
theorem dX5_letter_7 : decode cX5_letter 7 = .ok (.ifCond .eq 22, 3) := by decide +kernel
theorem dX5_letter_10 : decode cX5_letter 10 = .ok (.iload_n 2, 1) := by decide +kernel
theorem dX5_letter_11 : decode cX5_letter 11 = .ok (.iconst 0, 1) := by decide +kernel
theorem dX5_letter_12 : decode cX5_letter 12 = .ok (.sipush 255, 3) := by decide +kernel
theorem dX5_letter_15 : decode cX5_letter 15 = .ok (.invokestatic 59, 3) := by decide +kernel
theorem dX5_letter_18 : decode cX5_letter 18 = .ok (.ifCond .eq 11, 3) := by decide +kernel
theorem dX5_letter_21 : decode cX5_letter 21 = .ok (.aload_n 0, 1) := by decide +kernel
theorem dX5_letter_22 : decode cX5_letter 22 = .ok (.iconst 4, 1) := by decide +kernel
theorem dX5_letter_23 : decode cX5_letter 23 = .ok (.invokevirtual 63, 3) := by decide +kernel
theorem dX5_letter_26 : decode cX5_letter 26 = .ok (.ifCond .eq 5, 3) := by decide +kernel
theorem dX5_letter_29 : decode cX5_letter 29 = .ok (.iconst 0, 1) := by decide +kernel
theorem dX5_letter_30 : decode cX5_letter 30 = .ok (.ireturn, 1) := by decide +kernel
theorem dX5_letter_31 : decode cX5_letter 31 = .ok (.aload_n 0, 1) := by decide +kernel
theorem dX5_letter_32 : decode cX5_letter 32 = .ok (.getfield 40, 3) := by decide +kernel
theorem dX5_letter_35 : decode cX5_letter 35 = .ok (.getfield 71, 3) := by decide +kernel
theorem dX5_letter_38 : decode cX5_letter 38 = .ok (.iload_n 1, 1) := by decide +kernel
theorem dX5_letter_39 : decode cX5_letter 39 = .ok (.iload_n 2, 1) := by decide +kernel
theorem dX5_letter_40 : decode cX5_letter 40 = .ok (.iastore, 1) := by decide +kernel
theorem dX5_letter_41 : decode cX5_letter 41 = .ok (.iconst 1, 1) := by decide +kernel
theorem dX5_letter_42 : decode cX5_letter 42 = .ok (.ireturn, 1) := by decide +kernel
theorem dX5_triple_0 : decode cX5_triple 0 = .ok (.iload_n 1, 1) := by decide +kernel
theorem dX5_triple_1 : decode cX5_triple 1 = .ok (.iconst 0, 1) := by decide +kernel
theorem dX5_triple_2 : decode cX5_triple 2 = .ok (.iconst 3, 1) := by decide +kernel
theorem dX5_triple_3 : decode cX5_triple 3 = .ok (.invokestatic 59, 3) := by decide +kernel
theorem dX5_triple_6 : decode cX5_triple 6 = .ok (.ifCond .ne 5, 3) := by decide +kernel
theorem dX5_triple_9 : decode cX5_triple 9 = .ok (.iconst (-1), 1) := by decide +kernel
theorem dX5_triple_10 : decode cX5_triple 10 = .ok (.ireturn, 1) := by decide +kernel
theorem dX5_triple_11 : decode cX5_triple 11 = .ok (.iconst (-1), 1) := by decide +kernel
theorem dX5_triple_12 : decode cX5_triple 12 = .ok (.istore_n 2, 1) := by decide +kernel
theorem dX5_triple_13 : decode cX5_triple 13 = .ok (.iconst 0, 1) := by decide +kernel
theorem dX5_triple_14 : decode cX5_triple 14 = .ok (.istore_n 3, 1) := by decide +kernel
theorem dX5_triple_15 : decode cX5_triple 15 = .ok (.iconst 0, 1) := by decide +kernel
theorem dX5_triple_16 : decode cX5_triple 16 = .ok (.istore 4, 2) := by decide +kernel
theorem dX5_triple_18 : decode cX5_triple 18 = .ok (.iload 4, 2) := by decide +kernel
theorem dX5_triple_20 : decode cX5_triple 20 = .ok (.bipush 64, 2) := by decide +kernel
theorem dX5_triple_22 : decode cX5_triple 22 = .ok (.if_icmp .ge 45, 3) := by decide +kernel
theorem dX5_triple_25 : decode cX5_triple 25 = .ok (.aload_n 0, 1) := by decide +kernel
theorem dX5_triple_26 : decode cX5_triple 26 = .ok (.iload 4, 2) := by decide +kernel
theorem dX5_triple_28 : decode cX5_triple 28 = .ok (.bipush 16, 2) := by decide +kernel
theorem dX5_triple_30 : decode cX5_triple 30 = .ok (.idiv, 1) := by decide +kernel
theorem dX5_triple_31 : decode cX5_triple 31 = .ok (.iload 4, 2) := by decide +kernel
theorem dX5_triple_33 : decode cX5_triple 33 = .ok (.iconst 4, 1) := by decide +kernel
theorem dX5_triple_34 : decode cX5_triple 34 = .ok (.idiv, 1) := by decide +kernel
theorem dX5_triple_35 : decode cX5_triple 35 = .ok (.iconst 4, 1) := by decide +kernel
theorem dX5_triple_36 : decode cX5_triple 36 = .ok (.irem, 1) := by decide +kernel
theorem dX5_triple_37 : decode cX5_triple 37 = .ok (.iload 4, 2) := by decide +kernel
theorem dX5_triple_39 : decode cX5_triple 39 = .ok (.iconst 4, 1) := by decide +kernel
theorem dX5_triple_40 : decode cX5_triple 40 = .ok (.irem, 1) := by decide +kernel
theorem dX5_triple_41 : decode cX5_triple 41 = .ok (.invokevirtual 74, 3) := by decide +kernel
theorem dX5_triple_44 : decode cX5_triple 44 = .ok (.ifCond .eq 9, 3) := by decide +kernel
theorem dX5_triple_47 : decode cX5_triple 47 = .ok (.iinc 3 1, 3) := by decide +kernel
theorem dX5_triple_50 : decode cX5_triple 50 = .ok (.goto 11, 3) := by decide +kernel
theorem dX5_triple_53 : decode cX5_triple 53 = .ok (.iload_n 2, 1) := by decide +kernel
theorem dX5_triple_54 : decode cX5_triple 54 = .ok (.iconst (-1), 1) := by decide +kernel
theorem dX5_triple_55 : decode cX5_triple 55 = .ok (.if_icmp .ne 6, 3) := by decide +kernel
theorem dX5_triple_58 : decode cX5_triple 58 = .ok (.iload 4, 2) := by decide +kernel
theorem dX5_triple_60 : decode cX5_triple 60 = .ok (.istore_n 2, 1) := by decide +kernel
theorem dX5_triple_61 : decode cX5_triple 61 = .ok (.iinc 4 1, 3) := by decide +kernel
theorem dX5_triple_64 : decode cX5_triple 64 = .ok (.goto (-46), 3) := by decide +kernel
theorem dX5_triple_67 : decode cX5_triple 67 = .ok (.iload_n 1, 1) := by decide +kernel
theorem dX5_triple_68 : decode cX5_triple 68 = .ok (.iconst 3, 1) := by decide +kernel
theorem dX5_triple_69 : decode cX5_triple 69 = .ok (.if_icmp .ne 5, 3) := by decide +kernel
theorem dX5_triple_72 : decode cX5_triple 72 = .ok (.iload_n 3, 1) := by decide +kernel
theorem dX5_triple_73 : decode cX5_triple 73 = .ok (.ireturn, 1) := by decide +kernel
theorem dX5_triple_74 : decode cX5_triple 74 = .ok (.iload_n 2, 1) := by decide +kernel
theorem dX5_triple_75 : decode cX5_triple 75 = .ok (.iconst (-1), 1) := by decide +kernel
theorem dX5_triple_76 : decode cX5_triple 76 = .ok (.if_icmp .ne 5, 3) := by decide +kernel
theorem dX5_triple_79 : decode cX5_triple 79 = .ok (.iconst (-1), 1) := by decide +kernel
theorem dX5_triple_80 : decode cX5_triple 80 = .ok (.ireturn, 1) := by decide +kernel
theorem dX5_triple_81 : decode cX5_triple 81 = .ok (.iload_n 1, 1) := by decide +kernel
theorem dX5_triple_82 : decode cX5_triple 82 = .ok (.ifCond .ne 10, 3) := by decide +kernel
theorem dX5_triple_85 : decode cX5_triple 85 = .ok (.iload_n 2, 1) := by decide +kernel
theorem dX5_triple_86 : decode cX5_triple 86 = .ok (.bipush 16, 2) := by decide +kernel
theorem dX5_triple_88 : decode cX5_triple 88 = .ok (.idiv, 1) := by decide +kernel
theorem dX5_triple_89 : decode cX5_triple 89 = .ok (.goto 19, 3) := by decide +kernel
theorem dX5_triple_92 : decode cX5_triple 92 = .ok (.iload_n 1, 1) := by decide +kernel
theorem dX5_triple_93 : decode cX5_triple 93 = .ok (.iconst 1, 1) := by decide +kernel
theorem dX5_triple_94 : decode cX5_triple 94 = .ok (.if_icmp .ne 11, 3) := by decide +kernel
theorem dX5_triple_97 : decode cX5_triple 97 = .ok (.iload_n 2, 1) := by decide +kernel
theorem dX5_triple_98 : decode cX5_triple 98 = .ok (.iconst 4, 1) := by decide +kernel
theorem dX5_triple_99 : decode cX5_triple 99 = .ok (.idiv, 1) := by decide +kernel
theorem dX5_triple_100 : decode cX5_triple 100 = .ok (.iconst 4, 1) := by decide +kernel
theorem dX5_triple_101 : decode cX5_triple 101 = .ok (.irem, 1) := by decide +kernel
theorem dX5_triple_102 : decode cX5_triple 102 = .ok (.goto 6, 3) := by decide +kernel
theorem dX5_triple_105 : decode cX5_triple 105 = .ok (.iload_n 2, 1) := by decide +kernel
theorem dX5_triple_106 : decode cX5_triple 106 = .ok (.iconst 4, 1) := by decide +kernel
theorem dX5_triple_107 : decode cX5_triple 107 = .ok (.irem, 1) := by decide +kernel
theorem dX5_triple_108 : decode cX5_triple 108 = .ok (.ireturn, 1) := by decide +kernel
theorem dX5_element_0 : decode cX5_element 0 = .ok (.iload_n 1, 1) := by decide +kernel
theorem dX5_element_1 : decode cX5_element 1 = .ok (.tableswitch 51 0 3 #[31, 36, 41, 46], 31) := by decide +kernel
theorem dX5_element_32 : decode cX5_element 32 = .ok (.aload_n 0, 1) := by decide +kernel
theorem dX5_element_33 : decode cX5_element 33 = .ok (.invokevirtual 77, 3) := by decide +kernel
theorem dX5_element_36 : decode cX5_element 36 = .ok (.ireturn, 1) := by decide +kernel
theorem dX5_element_37 : decode cX5_element 37 = .ok (.aload_n 0, 1) := by decide +kernel
theorem dX5_element_38 : decode cX5_element 38 = .ok (.invokevirtual 81, 3) := by decide +kernel
theorem dX5_element_41 : decode cX5_element 41 = .ok (.ireturn, 1) := by decide +kernel
theorem dX5_element_42 : decode cX5_element 42 = .ok (.aload_n 0, 1) := by decide +kernel
theorem dX5_element_43 : decode cX5_element 43 = .ok (.invokevirtual 84, 3) := by decide +kernel
theorem dX5_element_46 : decode cX5_element 46 = .ok (.ireturn, 1) := by decide +kernel
theorem dX5_element_47 : decode cX5_element 47 = .ok (.aload_n 0, 1) := by decide +kernel
theorem dX5_element_48 : decode cX5_element 48 = .ok (.invokevirtual 87, 3) := by decide +kernel
theorem dX5_element_51 : decode cX5_element 51 = .ok (.ireturn, 1) := by decide +kernel
theorem dX5_element_52 : decode cX5_element 52 = .ok (.iconst (-1), 1) := by decide +kernel
theorem dX5_element_53 : decode cX5_element 53 = .ok (.ireturn, 1) := by decide +kernel
theorem dX5_product_0 : decode cX5_product 0 = .ok (.aload_n 0, 1) := by decide +kernel
theorem dX5_product_1 : decode cX5_product 1 = .ok (.getfield 40, 3) := by decide +kernel
theorem dX5_product_4 : decode cX5_product 4 = .ok (.getfield 67, 3) := by decide +kernel
theorem dX5_product_7 : decode cX5_product 7 = .ok (.iconst 4, 1) := by decide +kernel
theorem dX5_product_8 : decode cX5_product 8 = .ok (.iload_n 1, 1) := by decide +kernel
theorem dX5_product_9 : decode cX5_product 9 = .ok (.imul, 1) := by decide +kernel
theorem dX5_product_10 : decode cX5_product 10 = .ok (.iload_n 2, 1) := by decide +kernel
theorem dX5_product_11 : decode cX5_product 11 = .ok (.iadd, 1) := by decide +kernel
theorem dX5_product_12 : decode cX5_product 12 = .ok (.iaload, 1) := by decide +kernel
theorem dX5_product_13 : decode cX5_product 13 = .ok (.ireturn, 1) := by decide +kernel
theorem dX5_associates_0 : decode cX5_associates 0 = .ok (.aload_n 0, 1) := by decide +kernel
theorem dX5_associates_1 : decode cX5_associates 1 = .ok (.aload_n 0, 1) := by decide +kernel
theorem dX5_associates_2 : decode cX5_associates 2 = .ok (.iload_n 1, 1) := by decide +kernel
theorem dX5_associates_3 : decode cX5_associates 3 = .ok (.iload_n 2, 1) := by decide +kernel
theorem dX5_associates_4 : decode cX5_associates 4 = .ok (.invokevirtual 90, 3) := by decide +kernel
theorem dX5_associates_7 : decode cX5_associates 7 = .ok (.iload_n 3, 1) := by decide +kernel
theorem dX5_associates_8 : decode cX5_associates 8 = .ok (.invokevirtual 90, 3) := by decide +kernel
theorem dX5_associates_11 : decode cX5_associates 11 = .ok (.aload_n 0, 1) := by decide +kernel
theorem dX5_associates_12 : decode cX5_associates 12 = .ok (.iload_n 1, 1) := by decide +kernel
theorem dX5_associates_13 : decode cX5_associates 13 = .ok (.aload_n 0, 1) := by decide +kernel
theorem dX5_associates_14 : decode cX5_associates 14 = .ok (.iload_n 2, 1) := by decide +kernel
theorem dX5_associates_15 : decode cX5_associates 15 = .ok (.iload_n 3, 1) := by decide +kernel
theorem dX5_associates_16 : decode cX5_associates 16 = .ok (.invokevirtual 90, 3) := by decide +kernel
theorem dX5_associates_19 : decode cX5_associates 19 = .ok (.invokevirtual 90, 3) := by decide +kernel
theorem dX5_associates_22 : decode cX5_associates 22 = .ok (.if_icmp .ne 7, 3) := by decide +kernel
theorem dX5_associates_25 : decode cX5_associates 25 = .ok (.iconst 1, 1) := by decide +kernel
theorem dX5_associates_26 : decode cX5_associates 26 = .ok (.goto 4, 3) := by decide +kernel
theorem dX5_associates_29 : decode cX5_associates 29 = .ok (.iconst 0, 1) := by decide +kernel
theorem dX5_associates_30 : decode cX5_associates 30 = .ok (.ireturn, 1) := by decide +kernel
theorem dX5_firstNeutral_0 : decode cX5_firstNeutral 0 = .ok (.iconst 0, 1) := by decide +kernel
theorem dX5_firstNeutral_1 : decode cX5_firstNeutral 1 = .ok (.istore_n 1, 1) := by decide +kernel
theorem dX5_firstNeutral_2 : decode cX5_firstNeutral 2 = .ok (.iload_n 1, 1) := by decide +kernel
theorem dX5_firstNeutral_3 : decode cX5_firstNeutral 3 = .ok (.iconst 4, 1) := by decide +kernel
theorem dX5_firstNeutral_4 : decode cX5_firstNeutral 4 = .ok (.if_icmp .ge 59, 3) := by decide +kernel
theorem dX5_firstNeutral_7 : decode cX5_firstNeutral 7 = .ok (.iconst 0, 1) := by decide +kernel
theorem dX5_firstNeutral_8 : decode cX5_firstNeutral 8 = .ok (.istore_n 2, 1) := by decide +kernel
theorem dX5_firstNeutral_9 : decode cX5_firstNeutral 9 = .ok (.iconst 0, 1) := by decide +kernel
theorem dX5_firstNeutral_10 : decode cX5_firstNeutral 10 = .ok (.istore_n 3, 1) := by decide +kernel
theorem dX5_firstNeutral_11 : decode cX5_firstNeutral 11 = .ok (.iload_n 3, 1) := by decide +kernel
theorem dX5_firstNeutral_12 : decode cX5_firstNeutral 12 = .ok (.iconst 4, 1) := by decide +kernel
theorem dX5_firstNeutral_13 : decode cX5_firstNeutral 13 = .ok (.if_icmp .ge 37, 3) := by decide +kernel
theorem dX5_firstNeutral_16 : decode cX5_firstNeutral 16 = .ok (.iload_n 2, 1) := by decide +kernel
theorem dX5_firstNeutral_17 : decode cX5_firstNeutral 17 = .ok (.aload_n 0, 1) := by decide +kernel
theorem dX5_firstNeutral_18 : decode cX5_firstNeutral 18 = .ok (.iload_n 1, 1) := by decide +kernel
theorem dX5_firstNeutral_19 : decode cX5_firstNeutral 19 = .ok (.iload_n 3, 1) := by decide +kernel
theorem dX5_firstNeutral_20 : decode cX5_firstNeutral 20 = .ok (.invokevirtual 90, 3) := by decide +kernel
theorem dX5_firstNeutral_23 : decode cX5_firstNeutral 23 = .ok (.iload_n 3, 1) := by decide +kernel
theorem dX5_firstNeutral_24 : decode cX5_firstNeutral 24 = .ok (.if_icmp .ne 17, 3) := by decide +kernel
theorem dX5_firstNeutral_27 : decode cX5_firstNeutral 27 = .ok (.aload_n 0, 1) := by decide +kernel
theorem dX5_firstNeutral_28 : decode cX5_firstNeutral 28 = .ok (.iload_n 3, 1) := by decide +kernel
theorem dX5_firstNeutral_29 : decode cX5_firstNeutral 29 = .ok (.iload_n 1, 1) := by decide +kernel
theorem dX5_firstNeutral_30 : decode cX5_firstNeutral 30 = .ok (.invokevirtual 90, 3) := by decide +kernel
theorem dX5_firstNeutral_33 : decode cX5_firstNeutral 33 = .ok (.iload_n 3, 1) := by decide +kernel
theorem dX5_firstNeutral_34 : decode cX5_firstNeutral 34 = .ok (.if_icmp .ne 7, 3) := by decide +kernel
theorem dX5_firstNeutral_37 : decode cX5_firstNeutral 37 = .ok (.iconst 1, 1) := by decide +kernel
theorem dX5_firstNeutral_38 : decode cX5_firstNeutral 38 = .ok (.goto 4, 3) := by decide +kernel
theorem dX5_firstNeutral_41 : decode cX5_firstNeutral 41 = .ok (.iconst 0, 1) := by decide +kernel
theorem dX5_firstNeutral_42 : decode cX5_firstNeutral 42 = .ok (.iadd, 1) := by decide +kernel
theorem dX5_firstNeutral_43 : decode cX5_firstNeutral 43 = .ok (.istore_n 2, 1) := by decide +kernel
theorem dX5_firstNeutral_44 : decode cX5_firstNeutral 44 = .ok (.iinc 3 1, 3) := by decide +kernel
theorem dX5_firstNeutral_47 : decode cX5_firstNeutral 47 = .ok (.goto (-36), 3) := by decide +kernel
theorem dX5_firstNeutral_50 : decode cX5_firstNeutral 50 = .ok (.iload_n 2, 1) := by decide +kernel
theorem dX5_firstNeutral_51 : decode cX5_firstNeutral 51 = .ok (.iconst 4, 1) := by decide +kernel
theorem dX5_firstNeutral_52 : decode cX5_firstNeutral 52 = .ok (.if_icmp .ne 5, 3) := by decide +kernel
theorem dX5_firstNeutral_55 : decode cX5_firstNeutral 55 = .ok (.iload_n 1, 1) := by decide +kernel
theorem dX5_firstNeutral_56 : decode cX5_firstNeutral 56 = .ok (.ireturn, 1) := by decide +kernel
theorem dX5_firstNeutral_57 : decode cX5_firstNeutral 57 = .ok (.iinc 1 1, 3) := by decide +kernel
theorem dX5_firstNeutral_60 : decode cX5_firstNeutral 60 = .ok (.goto (-58), 3) := by decide +kernel
theorem dX5_firstNeutral_63 : decode cX5_firstNeutral 63 = .ok (.iconst (-1), 1) := by decide +kernel
theorem dX5_firstNeutral_64 : decode cX5_firstNeutral 64 = .ok (.ireturn, 1) := by decide +kernel
theorem dX5_firstAbsorbing_0 : decode cX5_firstAbsorbing 0 = .ok (.iconst 0, 1) := by decide +kernel
theorem dX5_firstAbsorbing_1 : decode cX5_firstAbsorbing 1 = .ok (.istore_n 1, 1) := by decide +kernel
theorem dX5_firstAbsorbing_2 : decode cX5_firstAbsorbing 2 = .ok (.iload_n 1, 1) := by decide +kernel
theorem dX5_firstAbsorbing_3 : decode cX5_firstAbsorbing 3 = .ok (.iconst 4, 1) := by decide +kernel
theorem dX5_firstAbsorbing_4 : decode cX5_firstAbsorbing 4 = .ok (.if_icmp .ge 59, 3) := by decide +kernel
theorem dX5_firstAbsorbing_7 : decode cX5_firstAbsorbing 7 = .ok (.iconst 0, 1) := by decide +kernel
theorem dX5_firstAbsorbing_8 : decode cX5_firstAbsorbing 8 = .ok (.istore_n 2, 1) := by decide +kernel
theorem dX5_firstAbsorbing_9 : decode cX5_firstAbsorbing 9 = .ok (.iconst 0, 1) := by decide +kernel
theorem dX5_firstAbsorbing_10 : decode cX5_firstAbsorbing 10 = .ok (.istore_n 3, 1) := by decide +kernel
theorem dX5_firstAbsorbing_11 : decode cX5_firstAbsorbing 11 = .ok (.iload_n 3, 1) := by decide +kernel
theorem dX5_firstAbsorbing_12 : decode cX5_firstAbsorbing 12 = .ok (.iconst 4, 1) := by decide +kernel
theorem dX5_firstAbsorbing_13 : decode cX5_firstAbsorbing 13 = .ok (.if_icmp .ge 37, 3) := by decide +kernel
theorem dX5_firstAbsorbing_16 : decode cX5_firstAbsorbing 16 = .ok (.iload_n 2, 1) := by decide +kernel
theorem dX5_firstAbsorbing_17 : decode cX5_firstAbsorbing 17 = .ok (.aload_n 0, 1) := by decide +kernel
theorem dX5_firstAbsorbing_18 : decode cX5_firstAbsorbing 18 = .ok (.iload_n 1, 1) := by decide +kernel
theorem dX5_firstAbsorbing_19 : decode cX5_firstAbsorbing 19 = .ok (.iload_n 3, 1) := by decide +kernel
theorem dX5_firstAbsorbing_20 : decode cX5_firstAbsorbing 20 = .ok (.invokevirtual 90, 3) := by decide +kernel
theorem dX5_firstAbsorbing_23 : decode cX5_firstAbsorbing 23 = .ok (.iload_n 1, 1) := by decide +kernel
theorem dX5_firstAbsorbing_24 : decode cX5_firstAbsorbing 24 = .ok (.if_icmp .ne 17, 3) := by decide +kernel
theorem dX5_firstAbsorbing_27 : decode cX5_firstAbsorbing 27 = .ok (.aload_n 0, 1) := by decide +kernel
theorem dX5_firstAbsorbing_28 : decode cX5_firstAbsorbing 28 = .ok (.iload_n 3, 1) := by decide +kernel
theorem dX5_firstAbsorbing_29 : decode cX5_firstAbsorbing 29 = .ok (.iload_n 1, 1) := by decide +kernel
theorem dX5_firstAbsorbing_30 : decode cX5_firstAbsorbing 30 = .ok (.invokevirtual 90, 3) := by decide +kernel
theorem dX5_firstAbsorbing_33 : decode cX5_firstAbsorbing 33 = .ok (.iload_n 1, 1) := by decide +kernel
theorem dX5_firstAbsorbing_34 : decode cX5_firstAbsorbing 34 = .ok (.if_icmp .ne 7, 3) := by decide +kernel
theorem dX5_firstAbsorbing_37 : decode cX5_firstAbsorbing 37 = .ok (.iconst 1, 1) := by decide +kernel
theorem dX5_firstAbsorbing_38 : decode cX5_firstAbsorbing 38 = .ok (.goto 4, 3) := by decide +kernel
theorem dX5_firstAbsorbing_41 : decode cX5_firstAbsorbing 41 = .ok (.iconst 0, 1) := by decide +kernel
theorem dX5_firstAbsorbing_42 : decode cX5_firstAbsorbing 42 = .ok (.iadd, 1) := by decide +kernel
theorem dX5_firstAbsorbing_43 : decode cX5_firstAbsorbing 43 = .ok (.istore_n 2, 1) := by decide +kernel
theorem dX5_firstAbsorbing_44 : decode cX5_firstAbsorbing 44 = .ok (.iinc 3 1, 3) := by decide +kernel
theorem dX5_firstAbsorbing_47 : decode cX5_firstAbsorbing 47 = .ok (.goto (-36), 3) := by decide +kernel
theorem dX5_firstAbsorbing_50 : decode cX5_firstAbsorbing 50 = .ok (.iload_n 2, 1) := by decide +kernel
theorem dX5_firstAbsorbing_51 : decode cX5_firstAbsorbing 51 = .ok (.iconst 4, 1) := by decide +kernel
theorem dX5_firstAbsorbing_52 : decode cX5_firstAbsorbing 52 = .ok (.if_icmp .ne 5, 3) := by decide +kernel
theorem dX5_firstAbsorbing_55 : decode cX5_firstAbsorbing 55 = .ok (.iload_n 1, 1) := by decide +kernel
theorem dX5_firstAbsorbing_56 : decode cX5_firstAbsorbing 56 = .ok (.ireturn, 1) := by decide +kernel
theorem dX5_firstAbsorbing_57 : decode cX5_firstAbsorbing 57 = .ok (.iinc 1 1, 3) := by decide +kernel
theorem dX5_firstAbsorbing_60 : decode cX5_firstAbsorbing 60 = .ok (.goto (-58), 3) := by decide +kernel
theorem dX5_firstAbsorbing_63 : decode cX5_firstAbsorbing 63 = .ok (.iconst (-1), 1) := by decide +kernel
theorem dX5_firstAbsorbing_64 : decode cX5_firstAbsorbing 64 = .ok (.ireturn, 1) := by decide +kernel
theorem dX5_idempotents_0 : decode cX5_idempotents 0 = .ok (.iconst 0, 1) := by decide +kernel
theorem dX5_idempotents_1 : decode cX5_idempotents 1 = .ok (.istore_n 1, 1) := by decide +kernel
theorem dX5_idempotents_2 : decode cX5_idempotents 2 = .ok (.iconst 0, 1) := by decide +kernel
theorem dX5_idempotents_3 : decode cX5_idempotents 3 = .ok (.istore_n 2, 1) := by decide +kernel
theorem dX5_idempotents_4 : decode cX5_idempotents 4 = .ok (.iload_n 2, 1) := by decide +kernel
theorem dX5_idempotents_5 : decode cX5_idempotents 5 = .ok (.iconst 4, 1) := by decide +kernel
theorem dX5_idempotents_6 : decode cX5_idempotents 6 = .ok (.if_icmp .ge 27, 3) := by decide +kernel
theorem dX5_idempotents_9 : decode cX5_idempotents 9 = .ok (.iload_n 1, 1) := by decide +kernel
theorem dX5_idempotents_10 : decode cX5_idempotents 10 = .ok (.aload_n 0, 1) := by decide +kernel
theorem dX5_idempotents_11 : decode cX5_idempotents 11 = .ok (.iload_n 2, 1) := by decide +kernel
theorem dX5_idempotents_12 : decode cX5_idempotents 12 = .ok (.iload_n 2, 1) := by decide +kernel
theorem dX5_idempotents_13 : decode cX5_idempotents 13 = .ok (.invokevirtual 90, 3) := by decide +kernel
theorem dX5_idempotents_16 : decode cX5_idempotents 16 = .ok (.iload_n 2, 1) := by decide +kernel
theorem dX5_idempotents_17 : decode cX5_idempotents 17 = .ok (.if_icmp .ne 7, 3) := by decide +kernel
theorem dX5_idempotents_20 : decode cX5_idempotents 20 = .ok (.iconst 1, 1) := by decide +kernel
theorem dX5_idempotents_21 : decode cX5_idempotents 21 = .ok (.goto 4, 3) := by decide +kernel
theorem dX5_idempotents_24 : decode cX5_idempotents 24 = .ok (.iconst 0, 1) := by decide +kernel
theorem dX5_idempotents_25 : decode cX5_idempotents 25 = .ok (.iadd, 1) := by decide +kernel
theorem dX5_idempotents_26 : decode cX5_idempotents 26 = .ok (.istore_n 1, 1) := by decide +kernel
theorem dX5_idempotents_27 : decode cX5_idempotents 27 = .ok (.iinc 2 1, 3) := by decide +kernel
theorem dX5_idempotents_30 : decode cX5_idempotents 30 = .ok (.goto (-26), 3) := by decide +kernel
theorem dX5_idempotents_33 : decode cX5_idempotents 33 = .ok (.iload_n 1, 1) := by decide +kernel
theorem dX5_idempotents_34 : decode cX5_idempotents 34 = .ok (.ireturn, 1) := by decide +kernel
theorem dX5_commutingPairs_0 : decode cX5_commutingPairs 0 = .ok (.iconst 0, 1) := by decide +kernel
theorem dX5_commutingPairs_1 : decode cX5_commutingPairs 1 = .ok (.istore_n 1, 1) := by decide +kernel
theorem dX5_commutingPairs_2 : decode cX5_commutingPairs 2 = .ok (.iconst 0, 1) := by decide +kernel
theorem dX5_commutingPairs_3 : decode cX5_commutingPairs 3 = .ok (.istore_n 2, 1) := by decide +kernel
theorem dX5_commutingPairs_4 : decode cX5_commutingPairs 4 = .ok (.iload_n 2, 1) := by decide +kernel
theorem dX5_commutingPairs_5 : decode cX5_commutingPairs 5 = .ok (.iconst 4, 1) := by decide +kernel
theorem dX5_commutingPairs_6 : decode cX5_commutingPairs 6 = .ok (.if_icmp .ge 45, 3) := by decide +kernel
theorem dX5_commutingPairs_9 : decode cX5_commutingPairs 9 = .ok (.iconst 0, 1) := by decide +kernel
theorem dX5_commutingPairs_10 : decode cX5_commutingPairs 10 = .ok (.istore_n 3, 1) := by decide +kernel
theorem dX5_commutingPairs_11 : decode cX5_commutingPairs 11 = .ok (.iload_n 3, 1) := by decide +kernel
theorem dX5_commutingPairs_12 : decode cX5_commutingPairs 12 = .ok (.iconst 4, 1) := by decide +kernel
theorem dX5_commutingPairs_13 : decode cX5_commutingPairs 13 = .ok (.if_icmp .ge 32, 3) := by decide +kernel
theorem dX5_commutingPairs_16 : decode cX5_commutingPairs 16 = .ok (.iload_n 1, 1) := by decide +kernel
theorem dX5_commutingPairs_17 : decode cX5_commutingPairs 17 = .ok (.aload_n 0, 1) := by decide +kernel
theorem dX5_commutingPairs_18 : decode cX5_commutingPairs 18 = .ok (.iload_n 2, 1) := by decide +kernel
theorem dX5_commutingPairs_19 : decode cX5_commutingPairs 19 = .ok (.iload_n 3, 1) := by decide +kernel
theorem dX5_commutingPairs_20 : decode cX5_commutingPairs 20 = .ok (.invokevirtual 90, 3) := by decide +kernel
theorem dX5_commutingPairs_23 : decode cX5_commutingPairs 23 = .ok (.aload_n 0, 1) := by decide +kernel
theorem dX5_commutingPairs_24 : decode cX5_commutingPairs 24 = .ok (.iload_n 3, 1) := by decide +kernel
theorem dX5_commutingPairs_25 : decode cX5_commutingPairs 25 = .ok (.iload_n 2, 1) := by decide +kernel
theorem dX5_commutingPairs_26 : decode cX5_commutingPairs 26 = .ok (.invokevirtual 90, 3) := by decide +kernel
theorem dX5_commutingPairs_29 : decode cX5_commutingPairs 29 = .ok (.if_icmp .ne 7, 3) := by decide +kernel
theorem dX5_commutingPairs_32 : decode cX5_commutingPairs 32 = .ok (.iconst 1, 1) := by decide +kernel
theorem dX5_commutingPairs_33 : decode cX5_commutingPairs 33 = .ok (.goto 4, 3) := by decide +kernel
theorem dX5_commutingPairs_36 : decode cX5_commutingPairs 36 = .ok (.iconst 0, 1) := by decide +kernel
theorem dX5_commutingPairs_37 : decode cX5_commutingPairs 37 = .ok (.iadd, 1) := by decide +kernel
theorem dX5_commutingPairs_38 : decode cX5_commutingPairs 38 = .ok (.istore_n 1, 1) := by decide +kernel
theorem dX5_commutingPairs_39 : decode cX5_commutingPairs 39 = .ok (.iinc 3 1, 3) := by decide +kernel
theorem dX5_commutingPairs_42 : decode cX5_commutingPairs 42 = .ok (.goto (-31), 3) := by decide +kernel
theorem dX5_commutingPairs_45 : decode cX5_commutingPairs 45 = .ok (.iinc 2 1, 3) := by decide +kernel
theorem dX5_commutingPairs_48 : decode cX5_commutingPairs 48 = .ok (.goto (-44), 3) := by decide +kernel
theorem dX5_commutingPairs_51 : decode cX5_commutingPairs 51 = .ok (.iload_n 1, 1) := by decide +kernel
theorem dX5_commutingPairs_52 : decode cX5_commutingPairs 52 = .ok (.ireturn, 1) := by decide +kernel
theorem dX5_isUsed_0 : decode cX5_isUsed 0 = .ok (.iconst 0, 1) := by decide +kernel
theorem dX5_isUsed_1 : decode cX5_isUsed 1 = .ok (.istore_n 2, 1) := by decide +kernel
theorem dX5_isUsed_2 : decode cX5_isUsed 2 = .ok (.iload_n 2, 1) := by decide +kernel
theorem dX5_isUsed_3 : decode cX5_isUsed 3 = .ok (.iconst 4, 1) := by decide +kernel
theorem dX5_isUsed_4 : decode cX5_isUsed 4 = .ok (.if_icmp .ge 36, 3) := by decide +kernel
theorem dX5_isUsed_7 : decode cX5_isUsed 7 = .ok (.aload_n 0, 1) := by decide +kernel
theorem dX5_isUsed_8 : decode cX5_isUsed 8 = .ok (.getfield 13, 3) := by decide +kernel
theorem dX5_isUsed_11 : decode cX5_isUsed 11 = .ok (.iload_n 2, 1) := by decide +kernel
theorem dX5_isUsed_12 : decode cX5_isUsed 12 = .ok (.aaload, 1) := by decide +kernel
theorem dX5_isUsed_13 : decode cX5_isUsed 13 = .ok (.getfield 94, 3) := by decide +kernel
theorem dX5_isUsed_16 : decode cX5_isUsed 16 = .ok (.ifCond .eq 18, 3) := by decide +kernel
theorem dX5_isUsed_19 : decode cX5_isUsed 19 = .ok (.aload_n 0, 1) := by decide +kernel
theorem dX5_isUsed_20 : decode cX5_isUsed 20 = .ok (.getfield 13, 3) := by decide +kernel
theorem dX5_isUsed_23 : decode cX5_isUsed 23 = .ok (.iload_n 2, 1) := by decide +kernel
theorem dX5_isUsed_24 : decode cX5_isUsed 24 = .ok (.aaload, 1) := by decide +kernel
theorem dX5_isUsed_25 : decode cX5_isUsed 25 = .ok (.getfield 98, 3) := by decide +kernel
theorem dX5_isUsed_28 : decode cX5_isUsed 28 = .ok (.iload_n 1, 1) := by decide +kernel
theorem dX5_isUsed_29 : decode cX5_isUsed 29 = .ok (.if_icmp .ne 5, 3) := by decide +kernel
theorem dX5_isUsed_32 : decode cX5_isUsed 32 = .ok (.iconst 1, 1) := by decide +kernel
theorem dX5_isUsed_33 : decode cX5_isUsed 33 = .ok (.ireturn, 1) := by decide +kernel
theorem dX5_isUsed_34 : decode cX5_isUsed 34 = .ok (.iinc 2 1, 3) := by decide +kernel
theorem dX5_isUsed_37 : decode cX5_isUsed 37 = .ok (.goto (-35), 3) := by decide +kernel
theorem dX5_isUsed_40 : decode cX5_isUsed 40 = .ok (.iconst 0, 1) := by decide +kernel
theorem dX5_isUsed_41 : decode cX5_isUsed 41 = .ok (.istore_n 2, 1) := by decide +kernel
theorem dX5_isUsed_42 : decode cX5_isUsed 42 = .ok (.iload_n 2, 1) := by decide +kernel
theorem dX5_isUsed_43 : decode cX5_isUsed 43 = .ok (.iconst 3, 1) := by decide +kernel
theorem dX5_isUsed_44 : decode cX5_isUsed 44 = .ok (.if_icmp .ge 36, 3) := by decide +kernel
theorem dX5_isUsed_47 : decode cX5_isUsed 47 = .ok (.aload_n 0, 1) := by decide +kernel
theorem dX5_isUsed_48 : decode cX5_isUsed 48 = .ok (.getfield 27, 3) := by decide +kernel
theorem dX5_isUsed_51 : decode cX5_isUsed 51 = .ok (.iload_n 2, 1) := by decide +kernel
theorem dX5_isUsed_52 : decode cX5_isUsed 52 = .ok (.aaload, 1) := by decide +kernel
theorem dX5_isUsed_53 : decode cX5_isUsed 53 = .ok (.getfield 94, 3) := by decide +kernel
theorem dX5_isUsed_56 : decode cX5_isUsed 56 = .ok (.ifCond .eq 18, 3) := by decide +kernel
theorem dX5_isUsed_59 : decode cX5_isUsed 59 = .ok (.aload_n 0, 1) := by decide +kernel
theorem dX5_isUsed_60 : decode cX5_isUsed 60 = .ok (.getfield 27, 3) := by decide +kernel
theorem dX5_isUsed_63 : decode cX5_isUsed 63 = .ok (.iload_n 2, 1) := by decide +kernel
theorem dX5_isUsed_64 : decode cX5_isUsed 64 = .ok (.aaload, 1) := by decide +kernel
theorem dX5_isUsed_65 : decode cX5_isUsed 65 = .ok (.getfield 98, 3) := by decide +kernel
theorem dX5_isUsed_68 : decode cX5_isUsed 68 = .ok (.iload_n 1, 1) := by decide +kernel
theorem dX5_isUsed_69 : decode cX5_isUsed 69 = .ok (.if_icmp .ne 5, 3) := by decide +kernel
theorem dX5_isUsed_72 : decode cX5_isUsed 72 = .ok (.iconst 1, 1) := by decide +kernel
theorem dX5_isUsed_73 : decode cX5_isUsed 73 = .ok (.ireturn, 1) := by decide +kernel
theorem dX5_isUsed_74 : decode cX5_isUsed 74 = .ok (.iinc 2 1, 3) := by decide +kernel
theorem dX5_isUsed_77 : decode cX5_isUsed 77 = .ok (.goto (-35), 3) := by decide +kernel
theorem dX5_isUsed_80 : decode cX5_isUsed 80 = .ok (.iconst 0, 1) := by decide +kernel
theorem dX5_isUsed_81 : decode cX5_isUsed 81 = .ok (.ireturn, 1) := by decide +kernel
theorem dX5_open_0 : decode cX5_open 0 = .ok (.iload_n 1, 1) := by decide +kernel
theorem dX5_open_1 : decode cX5_open 1 = .ok (.invokestatic 102, 3) := by decide +kernel
theorem dX5_open_4 : decode cX5_open 4 = .ok (.ifCond .eq 34, 3) := by decide +kernel
theorem dX5_open_7 : decode cX5_open 7 = .ok (.iload_n 2, 1) := by decide +kernel
theorem dX5_open_8 : decode cX5_open 8 = .ok (.iconst 0, 1) := by decide +kernel
theorem dX5_open_9 : decode cX5_open 9 = .ok (.bipush 9, 2) := by decide +kernel
theorem dX5_open_11 : decode cX5_open 11 = .ok (.invokestatic 59, 3) := by decide +kernel
theorem dX5_open_14 : decode cX5_open 14 = .ok (.ifCond .eq 24, 3) := by decide +kernel
theorem dX5_open_17 : decode cX5_open 17 = .ok (.iload 5, 2) := by decide +kernel
theorem dX5_open_19 : decode cX5_open 19 = .ok (.iconst 0, 1) := by decide +kernel
theorem dX5_open_20 : decode cX5_open 20 = .ok (.sipush 10000, 3) := by decide +kernel
theorem dX5_open_23 : decode cX5_open 23 = .ok (.invokestatic 59, 3) := by decide +kernel
theorem dX5_open_26 : decode cX5_open 26 = .ok (.ifCond .eq 12, 3) := by decide +kernel
theorem dX5_open_29 : decode cX5_open 29 = .ok (.iload_n 3, 1) := by decide +kernel
theorem dX5_open_30 : decode cX5_open 30 = .ok (.iload 4, 2) := by decide +kernel
theorem dX5_open_32 : decode cX5_open 32 = .ok (.invokestatic 105, 3) := by decide +kernel
theorem dX5_open_35 : decode cX5_open 35 = .ok (.ifCond .ne 5, 3) := by decide +kernel
theorem dX5_open_38 : decode cX5_open 38 = .ok (.iconst (-1), 1) := by decide +kernel
theorem dX5_open_39 : decode cX5_open 39 = .ok (.ireturn, 1) := by decide +kernel
theorem dX5_open_40 : decode cX5_open 40 = .ok (.iload_n 2, 1) := by decide +kernel
theorem dX5_open_41 : decode cX5_open 41 = .ok (.bipush 9, 2) := by decide +kernel
theorem dX5_open_43 : decode cX5_open 43 = .ok (.if_icmp .ne 15, 3) := by decide +kernel
theorem dX5_open_46 : decode cX5_open 46 = .ok (.aload_n 0, 1) := by decide +kernel
theorem dX5_open_47 : decode cX5_open 47 = .ok (.iconst 3, 1) := by decide +kernel
theorem dX5_open_48 : decode cX5_open 48 = .ok (.invokevirtual 109, 3) := by decide +kernel
theorem dX5_open_51 : decode cX5_open 51 = .ok (.bipush 64, 2) := by decide +kernel
theorem dX5_open_53 : decode cX5_open 53 = .ok (.if_icmp .eq 5, 3) := by decide +kernel
theorem dX5_open_56 : decode cX5_open 56 = .ok (.iconst (-1), 1) := by decide +kernel
theorem dX5_open_57 : decode cX5_open 57 = .ok (.ireturn, 1) := by decide +kernel
theorem dX5_open_58 : decode cX5_open 58 = .ok (.aload_n 0, 1) := by decide +kernel
theorem dX5_open_59 : decode cX5_open 59 = .ok (.getfield 13, 3) := by decide +kernel
theorem dX5_open_62 : decode cX5_open 62 = .ok (.iload_n 1, 1) := by decide +kernel
theorem dX5_open_63 : decode cX5_open 63 = .ok (.aaload, 1) := by decide +kernel
theorem dX5_open_64 : decode cX5_open 64 = .ok (.iload_n 2, 1) := by decide +kernel
theorem dX5_open_65 : decode cX5_open 65 = .ok (.iload_n 3, 1) := by decide +kernel
theorem dX5_open_66 : decode cX5_open 66 = .ok (.iload_n 3, 1) := by decide +kernel
theorem dX5_open_67 : decode cX5_open 67 = .ok (.ifCond .ne 7, 3) := by decide +kernel
theorem dX5_open_70 : decode cX5_open 70 = .ok (.iconst 0, 1) := by decide +kernel
theorem dX5_open_71 : decode cX5_open 71 = .ok (.goto 5, 3) := by decide +kernel
theorem dX5_open_74 : decode cX5_open 74 = .ok (.iload 4, 2) := by decide +kernel
theorem dX5_open_76 : decode cX5_open 76 = .ok (.iload 5, 2) := by decide +kernel
theorem dX5_open_78 : decode cX5_open 78 = .ok (.invokevirtual 113, 3) := by decide +kernel
theorem dX5_open_81 : decode cX5_open 81 = .ok (.aload_n 0, 1) := by decide +kernel
theorem dX5_open_82 : decode cX5_open 82 = .ok (.iload_n 1, 1) := by decide +kernel
theorem dX5_open_83 : decode cX5_open 83 = .ok (.invokevirtual 117, 3) := by decide +kernel
theorem dX5_open_86 : decode cX5_open 86 = .ok (.aload_n 0, 1) := by decide +kernel
theorem dX5_open_87 : decode cX5_open 87 = .ok (.invokevirtual 120, 3) := by decide +kernel
theorem dX5_open_90 : decode cX5_open 90 = .ok (.ireturn, 1) := by decide +kernel
theorem dX5_isSize_0 : decode cX5_isSize 0 = .ok (.iload_n 0, 1) := by decide +kernel
theorem dX5_isSize_1 : decode cX5_isSize 1 = .ok (.tableswitch 46 0 2 #[27, 29, 37], 27) := by decide +kernel
theorem dX5_isSize_28 : decode cX5_isSize 28 = .ok (.iconst 1, 1) := by decide +kernel
theorem dX5_isSize_29 : decode cX5_isSize 29 = .ok (.ireturn, 1) := by decide +kernel
theorem dX5_isSize_30 : decode cX5_isSize 30 = .ok (.iload_n 1, 1) := by decide +kernel
theorem dX5_isSize_31 : decode cX5_isSize 31 = .ok (.iconst 1, 1) := by decide +kernel
theorem dX5_isSize_32 : decode cX5_isSize 32 = .ok (.bipush 120, 2) := by decide +kernel
theorem dX5_isSize_34 : decode cX5_isSize 34 = .ok (.invokestatic 59, 3) := by decide +kernel
theorem dX5_isSize_37 : decode cX5_isSize 37 = .ok (.ireturn, 1) := by decide +kernel
theorem dX5_isSize_38 : decode cX5_isSize 38 = .ok (.iload_n 1, 1) := by decide +kernel
theorem dX5_isSize_39 : decode cX5_isSize 39 = .ok (.iconst 1, 1) := by decide +kernel
theorem dX5_isSize_40 : decode cX5_isSize 40 = .ok (.sipush 10000, 3) := by decide +kernel
theorem dX5_isSize_43 : decode cX5_isSize 43 = .ok (.invokestatic 59, 3) := by decide +kernel
theorem dX5_isSize_46 : decode cX5_isSize 46 = .ok (.ireturn, 1) := by decide +kernel
theorem dX5_isSize_47 : decode cX5_isSize 47 = .ok (.iconst 0, 1) := by decide +kernel
theorem dX5_isSize_48 : decode cX5_isSize 48 = .ok (.ireturn, 1) := by decide +kernel
theorem dX5_shut_0 : decode cX5_shut 0 = .ok (.aload_n 0, 1) := by decide +kernel
theorem dX5_shut_1 : decode cX5_shut 1 = .ok (.iload_n 1, 1) := by decide +kernel
theorem dX5_shut_2 : decode cX5_shut 2 = .ok (.invokevirtual 123, 3) := by decide +kernel
theorem dX5_shut_5 : decode cX5_shut 5 = .ok (.astore_n 2, 1) := by decide +kernel
theorem dX5_shut_6 : decode cX5_shut 6 = .ok (.aload_n 2, 1) := by decide +kernel
theorem dX5_shut_7 : decode cX5_shut 7 = .ok (.ifnonnull 5, 3) := by decide +kernel
theorem dX5_shut_10 : decode cX5_shut 10 = .ok (.iconst 0, 1) := by decide +kernel
theorem dX5_shut_11 : decode cX5_shut 11 = .ok (.ireturn, 1) := by decide +kernel
theorem dX5_shut_12 : decode cX5_shut 12 = .ok (.aload_n 2, 1) := by decide +kernel
theorem dX5_shut_13 : decode cX5_shut 13 = .ok (.iconst 0, 1) := by decide +kernel
theorem dX5_shut_14 : decode cX5_shut 14 = .ok (.putfield 94, 3) := by decide +kernel
theorem dX5_shut_17 : decode cX5_shut 17 = .ok (.aload_n 0, 1) := by decide +kernel
theorem dX5_shut_18 : decode cX5_shut 18 = .ok (.iload_n 1, 1) := by decide +kernel
theorem dX5_shut_19 : decode cX5_shut 19 = .ok (.invokevirtual 117, 3) := by decide +kernel
theorem dX5_shut_22 : decode cX5_shut 22 = .ok (.iconst 1, 1) := by decide +kernel
theorem dX5_shut_23 : decode cX5_shut 23 = .ok (.ireturn, 1) := by decide +kernel
theorem dX5_come_0 : decode cX5_come 0 = .ok (.aload_n 0, 1) := by decide +kernel
theorem dX5_come_1 : decode cX5_come 1 = .ok (.iload_n 1, 1) := by decide +kernel
theorem dX5_come_2 : decode cX5_come 2 = .ok (.invokevirtual 123, 3) := by decide +kernel
theorem dX5_come_5 : decode cX5_come 5 = .ok (.astore 4, 2) := by decide +kernel
theorem dX5_come_7 : decode cX5_come 7 = .ok (.aload 4, 2) := by decide +kernel
theorem dX5_come_9 : decode cX5_come 9 = .ok (.ifnull 17, 3) := by decide +kernel
theorem dX5_come_12 : decode cX5_come 12 = .ok (.iload_n 2, 1) := by decide +kernel
theorem dX5_come_13 : decode cX5_come 13 = .ok (.invokestatic 127, 3) := by decide +kernel
theorem dX5_come_16 : decode cX5_come 16 = .ok (.ifCond .eq 10, 3) := by decide +kernel
theorem dX5_come_19 : decode cX5_come 19 = .ok (.iload_n 3, 1) := by decide +kernel
theorem dX5_come_20 : decode cX5_come 20 = .ok (.invokestatic 130, 3) := by decide +kernel
theorem dX5_come_23 : decode cX5_come 23 = .ok (.ifCond .ne 5, 3) := by decide +kernel
theorem dX5_come_26 : decode cX5_come 26 = .ok (.iconst (-1), 1) := by decide +kernel
theorem dX5_come_27 : decode cX5_come 27 = .ok (.ireturn, 1) := by decide +kernel
theorem dX5_come_28 : decode cX5_come 28 = .ok (.aload 4, 2) := by decide +kernel
theorem dX5_come_30 : decode cX5_come 30 = .ok (.iload_n 2, 1) := by decide +kernel
theorem dX5_come_31 : decode cX5_come 31 = .ok (.invokevirtual 133, 3) := by decide +kernel
theorem dX5_come_34 : decode cX5_come 34 = .ok (.ifCond .eq 17, 3) := by decide +kernel
theorem dX5_come_37 : decode cX5_come 37 = .ok (.aload 4, 2) := by decide +kernel
theorem dX5_come_39 : decode cX5_come 39 = .ok (.dup, 1) := by decide +kernel
theorem dX5_come_40 : decode cX5_come 40 = .ok (.getfield 136, 3) := by decide +kernel
theorem dX5_come_43 : decode cX5_come 43 = .ok (.iconst 1, 1) := by decide +kernel
theorem dX5_come_44 : decode cX5_come 44 = .ok (.iadd, 1) := by decide +kernel
theorem dX5_come_45 : decode cX5_come 45 = .ok (.putfield 136, 3) := by decide +kernel
theorem dX5_come_48 : decode cX5_come 48 = .ok (.bipush (-2), 2) := by decide +kernel
theorem dX5_come_50 : decode cX5_come 50 = .ok (.ireturn, 1) := by decide +kernel
theorem dX5_come_51 : decode cX5_come 51 = .ok (.aload 4, 2) := by decide +kernel
theorem dX5_come_53 : decode cX5_come 53 = .ok (.invokevirtual 139, 3) := by decide +kernel
theorem dX5_come_56 : decode cX5_come 56 = .ok (.ifCond .eq 5, 3) := by decide +kernel
theorem dX5_come_59 : decode cX5_come 59 = .ok (.iconst (-1), 1) := by decide +kernel
theorem dX5_come_60 : decode cX5_come 60 = .ok (.ireturn, 1) := by decide +kernel
theorem dX5_come_61 : decode cX5_come 61 = .ok (.aload_n 0, 1) := by decide +kernel
theorem dX5_come_62 : decode cX5_come 62 = .ok (.aload 4, 2) := by decide +kernel
theorem dX5_come_64 : decode cX5_come 64 = .ok (.iload_n 2, 1) := by decide +kernel
theorem dX5_come_65 : decode cX5_come 65 = .ok (.invokevirtual 143, 3) := by decide +kernel
theorem dX5_come_68 : decode cX5_come 68 = .ok (.aload_n 0, 1) := by decide +kernel
theorem dX5_come_69 : decode cX5_come 69 = .ok (.aload 4, 2) := by decide +kernel
theorem dX5_come_71 : decode cX5_come 71 = .ok (.iload_n 2, 1) := by decide +kernel
theorem dX5_come_72 : decode cX5_come 72 = .ok (.iload_n 3, 1) := by decide +kernel
theorem dX5_come_73 : decode cX5_come 73 = .ok (.invokevirtual 147, 3) := by decide +kernel
theorem dX5_come_76 : decode cX5_come 76 = .ok (.aload_n 0, 1) := by decide +kernel
theorem dX5_come_77 : decode cX5_come 77 = .ok (.invokevirtual 151, 3) := by decide +kernel
theorem dX5_come_80 : decode cX5_come 80 = .ok (.aload 4, 2) := by decide +kernel
theorem dX5_come_82 : decode cX5_come 82 = .ok (.getfield 154, 3) := by decide +kernel
theorem dX5_come_85 : decode cX5_come 85 = .ok (.ireturn, 1) := by decide +kernel
theorem dX5_burst_0 : decode cX5_burst 0 = .ok (.aload_n 0, 1) := by decide +kernel
theorem dX5_burst_1 : decode cX5_burst 1 = .ok (.iload_n 1, 1) := by decide +kernel
theorem dX5_burst_2 : decode cX5_burst 2 = .ok (.invokevirtual 123, 3) := by decide +kernel
theorem dX5_burst_5 : decode cX5_burst 5 = .ok (.astore 5, 2) := by decide +kernel
theorem dX5_burst_7 : decode cX5_burst 7 = .ok (.aload 5, 2) := by decide +kernel
theorem dX5_burst_9 : decode cX5_burst 9 = .ok (.ifnull 27, 3) := by decide +kernel
theorem dX5_burst_12 : decode cX5_burst 12 = .ok (.iload_n 2, 1) := by decide +kernel
theorem dX5_burst_13 : decode cX5_burst 13 = .ok (.iconst 1, 1) := by decide +kernel
theorem dX5_burst_14 : decode cX5_burst 14 = .ok (.bipush 40, 2) := by decide +kernel
theorem dX5_burst_16 : decode cX5_burst 16 = .ok (.invokestatic 59, 3) := by decide +kernel
theorem dX5_burst_19 : decode cX5_burst 19 = .ok (.ifCond .eq 17, 3) := by decide +kernel
theorem dX5_burst_22 : decode cX5_burst 22 = .ok (.iload 4, 2) := by decide +kernel
theorem dX5_burst_24 : decode cX5_burst 24 = .ok (.sipush (-1000), 3) := by decide +kernel
theorem dX5_burst_27 : decode cX5_burst 27 = .ok (.sipush 1000, 3) := by decide +kernel
theorem dX5_burst_30 : decode cX5_burst 30 = .ok (.invokestatic 59, 3) := by decide +kernel
theorem dX5_burst_33 : decode cX5_burst 33 = .ok (.ifCond .ne 5, 3) := by decide +kernel
theorem dX5_burst_36 : decode cX5_burst 36 = .ok (.iconst (-1), 1) := by decide +kernel
theorem dX5_burst_37 : decode cX5_burst 37 = .ok (.ireturn, 1) := by decide +kernel
theorem dX5_burst_38 : decode cX5_burst 38 = .ok (.iload_n 3, 1) := by decide +kernel
theorem dX5_burst_39 : decode cX5_burst 39 = .ok (.invokestatic 130, 3) := by decide +kernel
theorem dX5_burst_42 : decode cX5_burst 42 = .ok (.ifCond .eq 30, 3) := by decide +kernel
theorem dX5_burst_45 : decode cX5_burst 45 = .ok (.iload_n 3, 1) := by decide +kernel
theorem dX5_burst_46 : decode cX5_burst 46 = .ok (.iload_n 2, 1) := by decide +kernel
theorem dX5_burst_47 : decode cX5_burst 47 = .ok (.iconst 1, 1) := by decide +kernel
theorem dX5_burst_48 : decode cX5_burst 48 = .ok (.isub, 1) := by decide +kernel
theorem dX5_burst_49 : decode cX5_burst 49 = .ok (.iload 4, 2) := by decide +kernel
theorem dX5_burst_51 : decode cX5_burst 51 = .ok (.imul, 1) := by decide +kernel
theorem dX5_burst_52 : decode cX5_burst 52 = .ok (.iadd, 1) := by decide +kernel
theorem dX5_burst_53 : decode cX5_burst 53 = .ok (.invokestatic 130, 3) := by decide +kernel
theorem dX5_burst_56 : decode cX5_burst 56 = .ok (.ifCond .eq 16, 3) := by decide +kernel
theorem dX5_burst_59 : decode cX5_burst 59 = .ok (.aload 5, 2) := by decide +kernel
theorem dX5_burst_61 : decode cX5_burst 61 = .ok (.getfield 157, 3) := by decide +kernel
theorem dX5_burst_64 : decode cX5_burst 64 = .ok (.iload_n 2, 1) := by decide +kernel
theorem dX5_burst_65 : decode cX5_burst 65 = .ok (.iadd, 1) := by decide +kernel
theorem dX5_burst_66 : decode cX5_burst 66 = .ok (.invokestatic 127, 3) := by decide +kernel
theorem dX5_burst_69 : decode cX5_burst 69 = .ok (.ifCond .ne 5, 3) := by decide +kernel
theorem dX5_burst_72 : decode cX5_burst 72 = .ok (.iconst (-1), 1) := by decide +kernel
theorem dX5_burst_73 : decode cX5_burst 73 = .ok (.ireturn, 1) := by decide +kernel
theorem dX5_burst_74 : decode cX5_burst 74 = .ok (.aload 5, 2) := by decide +kernel
theorem dX5_burst_76 : decode cX5_burst 76 = .ok (.getfield 160, 3) := by decide +kernel
theorem dX5_burst_79 : decode cX5_burst 79 = .ok (.iconst 1, 1) := by decide +kernel
theorem dX5_burst_80 : decode cX5_burst 80 = .ok (.if_icmp .eq 17, 3) := by decide +kernel
theorem dX5_burst_83 : decode cX5_burst 83 = .ok (.aload 5, 2) := by decide +kernel
theorem dX5_burst_85 : decode cX5_burst 85 = .ok (.getfield 154, 3) := by decide +kernel
theorem dX5_burst_88 : decode cX5_burst 88 = .ok (.iload_n 2, 1) := by decide +kernel
theorem dX5_burst_89 : decode cX5_burst 89 = .ok (.iadd, 1) := by decide +kernel
theorem dX5_burst_90 : decode cX5_burst 90 = .ok (.bipush 120, 2) := by decide +kernel
theorem dX5_burst_92 : decode cX5_burst 92 = .ok (.if_icmp .le 5, 3) := by decide +kernel
theorem dX5_burst_95 : decode cX5_burst 95 = .ok (.iconst (-1), 1) := by decide +kernel
theorem dX5_burst_96 : decode cX5_burst 96 = .ok (.ireturn, 1) := by decide +kernel
theorem dX5_burst_97 : decode cX5_burst 97 = .ok (.iconst 0, 1) := by decide +kernel
theorem dX5_burst_98 : decode cX5_burst 98 = .ok (.istore 6, 2) := by decide +kernel
theorem dX5_burst_100 : decode cX5_burst 100 = .ok (.iload 6, 2) := by decide +kernel
theorem dX5_burst_102 : decode cX5_burst 102 = .ok (.iload_n 2, 1) := by decide +kernel
theorem dX5_burst_103 : decode cX5_burst 103 = .ok (.if_icmp .ge 41, 3) := by decide +kernel
theorem dX5_burst_106 : decode cX5_burst 106 = .ok (.aload 5, 2) := by decide +kernel
theorem dX5_burst_108 : decode cX5_burst 108 = .ok (.getfield 157, 3) := by decide +kernel
theorem dX5_burst_111 : decode cX5_burst 111 = .ok (.iconst 1, 1) := by decide +kernel
theorem dX5_burst_112 : decode cX5_burst 112 = .ok (.iadd, 1) := by decide +kernel
theorem dX5_burst_113 : decode cX5_burst 113 = .ok (.istore 7, 2) := by decide +kernel
theorem dX5_burst_115 : decode cX5_burst 115 = .ok (.aload_n 0, 1) := by decide +kernel
theorem dX5_burst_116 : decode cX5_burst 116 = .ok (.aload 5, 2) := by decide +kernel
theorem dX5_burst_118 : decode cX5_burst 118 = .ok (.iload 7, 2) := by decide +kernel
theorem dX5_burst_120 : decode cX5_burst 120 = .ok (.invokevirtual 143, 3) := by decide +kernel
theorem dX5_burst_123 : decode cX5_burst 123 = .ok (.aload_n 0, 1) := by decide +kernel
theorem dX5_burst_124 : decode cX5_burst 124 = .ok (.aload 5, 2) := by decide +kernel
theorem dX5_burst_126 : decode cX5_burst 126 = .ok (.iload 7, 2) := by decide +kernel
theorem dX5_burst_128 : decode cX5_burst 128 = .ok (.iload_n 3, 1) := by decide +kernel
theorem dX5_burst_129 : decode cX5_burst 129 = .ok (.iload 6, 2) := by decide +kernel
theorem dX5_burst_131 : decode cX5_burst 131 = .ok (.iload 4, 2) := by decide +kernel
theorem dX5_burst_133 : decode cX5_burst 133 = .ok (.imul, 1) := by decide +kernel
theorem dX5_burst_134 : decode cX5_burst 134 = .ok (.iadd, 1) := by decide +kernel
theorem dX5_burst_135 : decode cX5_burst 135 = .ok (.invokevirtual 147, 3) := by decide +kernel
theorem dX5_burst_138 : decode cX5_burst 138 = .ok (.iinc 6 1, 3) := by decide +kernel
theorem dX5_burst_141 : decode cX5_burst 141 = .ok (.goto (-41), 3) := by decide +kernel
theorem dX5_burst_144 : decode cX5_burst 144 = .ok (.aload_n 0, 1) := by decide +kernel
theorem dX5_burst_145 : decode cX5_burst 145 = .ok (.invokevirtual 151, 3) := by decide +kernel
theorem dX5_burst_148 : decode cX5_burst 148 = .ok (.aload 5, 2) := by decide +kernel
theorem dX5_burst_150 : decode cX5_burst 150 = .ok (.getfield 154, 3) := by decide +kernel
theorem dX5_burst_153 : decode cX5_burst 153 = .ok (.ireturn, 1) := by decide +kernel
theorem dX5_leave_0 : decode cX5_leave 0 = .ok (.aload_n 0, 1) := by decide +kernel
theorem dX5_leave_1 : decode cX5_leave 1 = .ok (.iload_n 1, 1) := by decide +kernel
theorem dX5_leave_2 : decode cX5_leave 2 = .ok (.invokevirtual 123, 3) := by decide +kernel
theorem dX5_leave_5 : decode cX5_leave 5 = .ok (.astore_n 3, 1) := by decide +kernel
theorem dX5_leave_6 : decode cX5_leave 6 = .ok (.aload_n 3, 1) := by decide +kernel
theorem dX5_leave_7 : decode cX5_leave 7 = .ok (.ifnull 15, 3) := by decide +kernel
theorem dX5_leave_10 : decode cX5_leave 10 = .ok (.iload_n 2, 1) := by decide +kernel
theorem dX5_leave_11 : decode cX5_leave 11 = .ok (.iconst 0, 1) := by decide +kernel
theorem dX5_leave_12 : decode cX5_leave 12 = .ok (.aload_n 3, 1) := by decide +kernel
theorem dX5_leave_13 : decode cX5_leave 13 = .ok (.getfield 154, 3) := by decide +kernel
theorem dX5_leave_16 : decode cX5_leave 16 = .ok (.invokestatic 59, 3) := by decide +kernel
theorem dX5_leave_19 : decode cX5_leave 19 = .ok (.ifCond .ne 5, 3) := by decide +kernel
theorem dX5_leave_22 : decode cX5_leave 22 = .ok (.iconst (-1), 1) := by decide +kernel
theorem dX5_leave_23 : decode cX5_leave 23 = .ok (.ireturn, 1) := by decide +kernel
theorem dX5_leave_24 : decode cX5_leave 24 = .ok (.iconst 0, 1) := by decide +kernel
theorem dX5_leave_25 : decode cX5_leave 25 = .ok (.istore 4, 2) := by decide +kernel
theorem dX5_leave_27 : decode cX5_leave 27 = .ok (.iload 4, 2) := by decide +kernel
theorem dX5_leave_29 : decode cX5_leave 29 = .ok (.iload_n 2, 1) := by decide +kernel
theorem dX5_leave_30 : decode cX5_leave 30 = .ok (.if_icmp .ge 14, 3) := by decide +kernel
theorem dX5_leave_33 : decode cX5_leave 33 = .ok (.aload_n 0, 1) := by decide +kernel
theorem dX5_leave_34 : decode cX5_leave 34 = .ok (.aload_n 3, 1) := by decide +kernel
theorem dX5_leave_35 : decode cX5_leave 35 = .ok (.invokevirtual 163, 3) := by decide +kernel
theorem dX5_leave_38 : decode cX5_leave 38 = .ok (.iinc 4 1, 3) := by decide +kernel
theorem dX5_leave_41 : decode cX5_leave 41 = .ok (.goto (-14), 3) := by decide +kernel
theorem dX5_leave_44 : decode cX5_leave 44 = .ok (.aload_n 3, 1) := by decide +kernel
theorem dX5_leave_45 : decode cX5_leave 45 = .ok (.getfield 154, 3) := by decide +kernel
theorem dX5_leave_48 : decode cX5_leave 48 = .ok (.ireturn, 1) := by decide +kernel
theorem dX5_until_0 : decode cX5_until 0 = .ok (.aload_n 0, 1) := by decide +kernel
theorem dX5_until_1 : decode cX5_until 1 = .ok (.iload_n 1, 1) := by decide +kernel
theorem dX5_until_2 : decode cX5_until 2 = .ok (.invokevirtual 123, 3) := by decide +kernel
theorem dX5_until_5 : decode cX5_until 5 = .ok (.astore_n 3, 1) := by decide +kernel
theorem dX5_until_6 : decode cX5_until 6 = .ok (.aload_n 3, 1) := by decide +kernel
theorem dX5_until_7 : decode cX5_until 7 = .ok (.ifnonnull 5, 3) := by decide +kernel
theorem dX5_until_10 : decode cX5_until 10 = .ok (.iconst (-1), 1) := by decide +kernel
theorem dX5_until_11 : decode cX5_until 11 = .ok (.ireturn, 1) := by decide +kernel
theorem dX5_until_12 : decode cX5_until 12 = .ok (.aload_n 3, 1) := by decide +kernel
theorem dX5_until_13 : decode cX5_until 13 = .ok (.iload_n 2, 1) := by decide +kernel
theorem dX5_until_14 : decode cX5_until 14 = .ok (.i2l, 1) := by decide +kernel
theorem dX5_until_15 : decode cX5_until 15 = .ok (.invokevirtual 167, 3) := by decide +kernel
theorem dX5_until_18 : decode cX5_until 18 = .ok (.istore 4, 2) := by decide +kernel
theorem dX5_until_20 : decode cX5_until 20 = .ok (.iconst 0, 1) := by decide +kernel
theorem dX5_until_21 : decode cX5_until 21 = .ok (.istore 5, 2) := by decide +kernel
theorem dX5_until_23 : decode cX5_until 23 = .ok (.iload 5, 2) := by decide +kernel
theorem dX5_until_25 : decode cX5_until 25 = .ok (.iload 4, 2) := by decide +kernel
theorem dX5_until_27 : decode cX5_until 27 = .ok (.if_icmp .ge 14, 3) := by decide +kernel
theorem dX5_until_30 : decode cX5_until 30 = .ok (.aload_n 0, 1) := by decide +kernel
theorem dX5_until_31 : decode cX5_until 31 = .ok (.aload_n 3, 1) := by decide +kernel
theorem dX5_until_32 : decode cX5_until 32 = .ok (.invokevirtual 163, 3) := by decide +kernel
theorem dX5_until_35 : decode cX5_until 35 = .ok (.iinc 5 1, 3) := by decide +kernel
theorem dX5_until_38 : decode cX5_until 38 = .ok (.goto (-15), 3) := by decide +kernel
theorem dX5_until_41 : decode cX5_until 41 = .ok (.iload 4, 2) := by decide +kernel
theorem dX5_until_43 : decode cX5_until 43 = .ok (.ireturn, 1) := by decide +kernel
theorem dX5_take_0 : decode cX5_take 0 = .ok (.aload_n 0, 1) := by decide +kernel
theorem dX5_take_1 : decode cX5_take 1 = .ok (.iload_n 1, 1) := by decide +kernel
theorem dX5_take_2 : decode cX5_take 2 = .ok (.iload_n 2, 1) := by decide +kernel
theorem dX5_take_3 : decode cX5_take 3 = .ok (.invokevirtual 171, 3) := by decide +kernel
theorem dX5_take_6 : decode cX5_take 6 = .ok (.astore_n 3, 1) := by decide +kernel
theorem dX5_take_7 : decode cX5_take 7 = .ok (.aload_n 3, 1) := by decide +kernel
theorem dX5_take_8 : decode cX5_take 8 = .ok (.ifnonnull 6, 3) := by decide +kernel
theorem dX5_take_11 : decode cX5_take 11 = .ok (.ldc 175, 2) := by decide +kernel
theorem dX5_take_13 : decode cX5_take 13 = .ok (.ireturn, 1) := by decide +kernel
theorem dX5_take_14 : decode cX5_take 14 = .ok (.aload_n 3, 1) := by decide +kernel
theorem dX5_take_15 : decode cX5_take 15 = .ok (.getfield 176, 3) := by decide +kernel
theorem dX5_take_18 : decode cX5_take 18 = .ok (.iload_n 2, 1) := by decide +kernel
theorem dX5_take_19 : decode cX5_take 19 = .ok (.iaload, 1) := by decide +kernel
theorem dX5_take_20 : decode cX5_take 20 = .ok (.istore 4, 2) := by decide +kernel
theorem dX5_take_22 : decode cX5_take 22 = .ok (.aload_n 3, 1) := by decide +kernel
theorem dX5_take_23 : decode cX5_take 23 = .ok (.iload_n 2, 1) := by decide +kernel
theorem dX5_take_24 : decode cX5_take 24 = .ok (.invokevirtual 179, 3) := by decide +kernel
theorem dX5_take_27 : decode cX5_take 27 = .ok (.aload_n 0, 1) := by decide +kernel
theorem dX5_take_28 : decode cX5_take 28 = .ok (.aload_n 3, 1) := by decide +kernel
theorem dX5_take_29 : decode cX5_take 29 = .ok (.invokevirtual 182, 3) := by decide +kernel
theorem dX5_take_32 : decode cX5_take 32 = .ok (.iload 4, 2) := by decide +kernel
theorem dX5_take_34 : decode cX5_take 34 = .ok (.ireturn, 1) := by decide +kernel
theorem dX5_alter_0 : decode cX5_alter 0 = .ok (.aload_n 0, 1) := by decide +kernel
theorem dX5_alter_1 : decode cX5_alter 1 = .ok (.iload_n 1, 1) := by decide +kernel
theorem dX5_alter_2 : decode cX5_alter 2 = .ok (.iload_n 2, 1) := by decide +kernel
theorem dX5_alter_3 : decode cX5_alter 3 = .ok (.invokevirtual 171, 3) := by decide +kernel
theorem dX5_alter_6 : decode cX5_alter 6 = .ok (.astore 4, 2) := by decide +kernel
theorem dX5_alter_8 : decode cX5_alter 8 = .ok (.aload 4, 2) := by decide +kernel
theorem dX5_alter_10 : decode cX5_alter 10 = .ok (.ifnull 10, 3) := by decide +kernel
theorem dX5_alter_13 : decode cX5_alter 13 = .ok (.iload_n 3, 1) := by decide +kernel
theorem dX5_alter_14 : decode cX5_alter 14 = .ok (.invokestatic 130, 3) := by decide +kernel
theorem dX5_alter_17 : decode cX5_alter 17 = .ok (.ifCond .ne 5, 3) := by decide +kernel
theorem dX5_alter_20 : decode cX5_alter 20 = .ok (.iconst 0, 1) := by decide +kernel
theorem dX5_alter_21 : decode cX5_alter 21 = .ok (.ireturn, 1) := by decide +kernel
theorem dX5_alter_22 : decode cX5_alter 22 = .ok (.aload 4, 2) := by decide +kernel
theorem dX5_alter_24 : decode cX5_alter 24 = .ok (.getfield 176, 3) := by decide +kernel
theorem dX5_alter_27 : decode cX5_alter 27 = .ok (.iload_n 2, 1) := by decide +kernel
theorem dX5_alter_28 : decode cX5_alter 28 = .ok (.iload_n 3, 1) := by decide +kernel
theorem dX5_alter_29 : decode cX5_alter 29 = .ok (.iastore, 1) := by decide +kernel
theorem dX5_alter_30 : decode cX5_alter 30 = .ok (.aload_n 0, 1) := by decide +kernel
theorem dX5_alter_31 : decode cX5_alter 31 = .ok (.aload 4, 2) := by decide +kernel
theorem dX5_alter_33 : decode cX5_alter 33 = .ok (.invokevirtual 182, 3) := by decide +kernel
theorem dX5_alter_36 : decode cX5_alter 36 = .ok (.iconst 1, 1) := by decide +kernel
theorem dX5_alter_37 : decode cX5_alter 37 = .ok (.ireturn, 1) := by decide +kernel
theorem dX5_place_0 : decode cX5_place 0 = .ok (.aload_n 1, 1) := by decide +kernel
theorem dX5_place_1 : decode cX5_place 1 = .ok (.iload_n 2, 1) := by decide +kernel
theorem dX5_place_2 : decode cX5_place 2 = .ok (.i2l, 1) := by decide +kernel
theorem dX5_place_3 : decode cX5_place 3 = .ok (.invokevirtual 167, 3) := by decide +kernel
theorem dX5_place_6 : decode cX5_place 6 = .ok (.istore 4, 2) := by decide +kernel
theorem dX5_place_8 : decode cX5_place 8 = .ok (.iload 4, 2) := by decide +kernel
theorem dX5_place_10 : decode cX5_place 10 = .ok (.aload_n 1, 1) := by decide +kernel
theorem dX5_place_11 : decode cX5_place 11 = .ok (.getfield 154, 3) := by decide +kernel
theorem dX5_place_14 : decode cX5_place 14 = .ok (.if_icmp .ne 7, 3) := by decide +kernel
theorem dX5_place_17 : decode cX5_place 17 = .ok (.iconst 1, 1) := by decide +kernel
theorem dX5_place_18 : decode cX5_place 18 = .ok (.goto 4, 3) := by decide +kernel
theorem dX5_place_21 : decode cX5_place 21 = .ok (.iconst 0, 1) := by decide +kernel
theorem dX5_place_22 : decode cX5_place 22 = .ok (.istore 5, 2) := by decide +kernel
theorem dX5_place_24 : decode cX5_place 24 = .ok (.aload_n 1, 1) := by decide +kernel
theorem dX5_place_25 : decode cX5_place 25 = .ok (.iload 4, 2) := by decide +kernel
theorem dX5_place_27 : decode cX5_place 27 = .ok (.iload_n 2, 1) := by decide +kernel
theorem dX5_place_28 : decode cX5_place 28 = .ok (.iload_n 3, 1) := by decide +kernel
theorem dX5_place_29 : decode cX5_place 29 = .ok (.invokevirtual 185, 3) := by decide +kernel
theorem dX5_place_32 : decode cX5_place 32 = .ok (.iload 5, 2) := by decide +kernel
theorem dX5_place_34 : decode cX5_place 34 = .ok (.ifCond .eq 18, 3) := by decide +kernel
theorem dX5_place_37 : decode cX5_place 37 = .ok (.aload_n 1, 1) := by decide +kernel
theorem dX5_place_38 : decode cX5_place 38 = .ok (.getfield 189, 3) := by decide +kernel
theorem dX5_place_41 : decode cX5_place 41 = .ok (.invokevirtual 192, 3) := by decide +kernel
theorem dX5_place_44 : decode cX5_place 44 = .ok (.aload_n 0, 1) := by decide +kernel
theorem dX5_place_45 : decode cX5_place 45 = .ok (.aload_n 1, 1) := by decide +kernel
theorem dX5_place_46 : decode cX5_place 46 = .ok (.invokevirtual 195, 3) := by decide +kernel
theorem dX5_place_49 : decode cX5_place 49 = .ok (.goto 8, 3) := by decide +kernel
theorem dX5_place_52 : decode cX5_place 52 = .ok (.aload_n 0, 1) := by decide +kernel
theorem dX5_place_53 : decode cX5_place 53 = .ok (.aload_n 1, 1) := by decide +kernel
theorem dX5_place_54 : decode cX5_place 54 = .ok (.invokevirtual 182, 3) := by decide +kernel
theorem dX5_place_57 : decode cX5_place 57 = .ok (.aload_n 1, 1) := by decide +kernel
theorem dX5_place_58 : decode cX5_place 58 = .ok (.getfield 154, 3) := by decide +kernel
theorem dX5_place_61 : decode cX5_place 61 = .ok (.istore 6, 2) := by decide +kernel
theorem dX5_place_63 : decode cX5_place 63 = .ok (.iload 6, 2) := by decide +kernel
theorem dX5_place_65 : decode cX5_place 65 = .ok (.ifCond .le 35, 3) := by decide +kernel
theorem dX5_place_68 : decode cX5_place 68 = .ok (.aload_n 1, 1) := by decide +kernel
theorem dX5_place_69 : decode cX5_place 69 = .ok (.aload_n 1, 1) := by decide +kernel
theorem dX5_place_70 : decode cX5_place 70 = .ok (.getfield 154, 3) := by decide +kernel
theorem dX5_place_73 : decode cX5_place 73 = .ok (.aload_n 1, 1) := by decide +kernel
theorem dX5_place_74 : decode cX5_place 74 = .ok (.getfield 198, 3) := by decide +kernel
theorem dX5_place_77 : decode cX5_place 77 = .ok (.iconst 0, 1) := by decide +kernel
theorem dX5_place_78 : decode cX5_place 78 = .ok (.iaload, 1) := by decide +kernel
theorem dX5_place_79 : decode cX5_place 79 = .ok (.aload_n 1, 1) := by decide +kernel
theorem dX5_place_80 : decode cX5_place 80 = .ok (.getfield 157, 3) := by decide +kernel
theorem dX5_place_83 : decode cX5_place 83 = .ok (.invokevirtual 201, 3) := by decide +kernel
theorem dX5_place_86 : decode cX5_place 86 = .ok (.ifCond .eq 14, 3) := by decide +kernel
theorem dX5_place_89 : decode cX5_place 89 = .ok (.aload_n 0, 1) := by decide +kernel
theorem dX5_place_90 : decode cX5_place 90 = .ok (.aload_n 1, 1) := by decide +kernel
theorem dX5_place_91 : decode cX5_place 91 = .ok (.invokevirtual 163, 3) := by decide +kernel
theorem dX5_place_94 : decode cX5_place 94 = .ok (.iinc 6 (-1), 3) := by decide +kernel
theorem dX5_place_97 : decode cX5_place 97 = .ok (.goto (-34), 3) := by decide +kernel
theorem dX5_place_100 : decode cX5_place 100 = .ok (.return_, 1) := by decide +kernel
theorem dX5_dropOldest_0 : decode cX5_dropOldest 0 = .ok (.aload_n 1, 1) := by decide +kernel
theorem dX5_dropOldest_1 : decode cX5_dropOldest 1 = .ok (.iconst 0, 1) := by decide +kernel
theorem dX5_dropOldest_2 : decode cX5_dropOldest 2 = .ok (.invokevirtual 179, 3) := by decide +kernel
theorem dX5_dropOldest_5 : decode cX5_dropOldest 5 = .ok (.aload_n 1, 1) := by decide +kernel
theorem dX5_dropOldest_6 : decode cX5_dropOldest 6 = .ok (.dup, 1) := by decide +kernel
theorem dX5_dropOldest_7 : decode cX5_dropOldest 7 = .ok (.getfield 204, 3) := by decide +kernel
theorem dX5_dropOldest_10 : decode cX5_dropOldest 10 = .ok (.iconst 1, 1) := by decide +kernel
theorem dX5_dropOldest_11 : decode cX5_dropOldest 11 = .ok (.iadd, 1) := by decide +kernel
theorem dX5_dropOldest_12 : decode cX5_dropOldest 12 = .ok (.putfield 204, 3) := by decide +kernel
theorem dX5_dropOldest_15 : decode cX5_dropOldest 15 = .ok (.aload_n 1, 1) := by decide +kernel
theorem dX5_dropOldest_16 : decode cX5_dropOldest 16 = .ok (.getfield 189, 3) := by decide +kernel
theorem dX5_dropOldest_19 : decode cX5_dropOldest 19 = .ok (.invokevirtual 207, 3) := by decide +kernel
theorem dX5_dropOldest_22 : decode cX5_dropOldest 22 = .ok (.aload_n 0, 1) := by decide +kernel
theorem dX5_dropOldest_23 : decode cX5_dropOldest 23 = .ok (.aload_n 1, 1) := by decide +kernel
theorem dX5_dropOldest_24 : decode cX5_dropOldest 24 = .ok (.invokevirtual 195, 3) := by decide +kernel
theorem dX5_dropOldest_27 : decode cX5_dropOldest 27 = .ok (.return_, 1) := by decide +kernel
theorem dX5_layAnew_0 : decode cX5_layAnew 0 = .ok (.aload_n 1, 1) := by decide +kernel
theorem dX5_layAnew_1 : decode cX5_layAnew 1 = .ok (.getfield 189, 3) := by decide +kernel
theorem dX5_layAnew_4 : decode cX5_layAnew 4 = .ok (.aload_n 1, 1) := by decide +kernel
theorem dX5_layAnew_5 : decode cX5_layAnew 5 = .ok (.getfield 154, 3) := by decide +kernel
theorem dX5_layAnew_8 : decode cX5_layAnew 8 = .ok (.invokevirtual 210, 3) := by decide +kernel
theorem dX5_layAnew_11 : decode cX5_layAnew 11 = .ok (.aload_n 0, 1) := by decide +kernel
theorem dX5_layAnew_12 : decode cX5_layAnew 12 = .ok (.aload_n 1, 1) := by decide +kernel
theorem dX5_layAnew_13 : decode cX5_layAnew 13 = .ok (.invokevirtual 195, 3) := by decide +kernel
theorem dX5_layAnew_16 : decode cX5_layAnew 16 = .ok (.return_, 1) := by decide +kernel
theorem dX5_give_0 : decode cX5_give 0 = .ok (.aload_n 0, 1) := by decide +kernel
theorem dX5_give_1 : decode cX5_give 1 = .ok (.getfield 19, 3) := by decide +kernel
theorem dX5_give_4 : decode cX5_give 4 = .ok (.aload_n 1, 1) := by decide +kernel
theorem dX5_give_5 : decode cX5_give 5 = .ok (.getfield 212, 3) := by decide +kernel
theorem dX5_give_8 : decode cX5_give 8 = .ok (.aaload, 1) := by decide +kernel
theorem dX5_give_9 : decode cX5_give 9 = .ok (.astore_n 3, 1) := by decide +kernel
theorem dX5_give_10 : decode cX5_give 10 = .ok (.aload_n 0, 1) := by decide +kernel
theorem dX5_give_11 : decode cX5_give 11 = .ok (.aload_n 3, 1) := by decide +kernel
theorem dX5_give_12 : decode cX5_give 12 = .ok (.getfield 215, 3) := by decide +kernel
theorem dX5_give_15 : decode cX5_give 15 = .ok (.invokevirtual 123, 3) := by decide +kernel
theorem dX5_give_18 : decode cX5_give 18 = .ok (.astore 4, 2) := by decide +kernel
theorem dX5_give_20 : decode cX5_give 20 = .ok (.aload_n 1, 1) := by decide +kernel
theorem dX5_give_21 : decode cX5_give 21 = .ok (.getfield 154, 3) := by decide +kernel
theorem dX5_give_24 : decode cX5_give 24 = .ok (.iconst 1, 1) := by decide +kernel
theorem dX5_give_25 : decode cX5_give 25 = .ok (.isub, 1) := by decide +kernel
theorem dX5_give_26 : decode cX5_give 26 = .ok (.istore 5, 2) := by decide +kernel
theorem dX5_give_28 : decode cX5_give 28 = .ok (.aload 4, 2) := by decide +kernel
theorem dX5_give_30 : decode cX5_give 30 = .ok (.ifnull 32, 3) := by decide +kernel
theorem dX5_give_33 : decode cX5_give 33 = .ok (.iload 5, 2) := by decide +kernel
theorem dX5_give_35 : decode cX5_give 35 = .ok (.ifCond .lt 27, 3) := by decide +kernel
theorem dX5_give_38 : decode cX5_give 38 = .ok (.iload_n 2, 1) := by decide +kernel
theorem dX5_give_39 : decode cX5_give 39 = .ok (.aload_n 1, 1) := by decide +kernel
theorem dX5_give_40 : decode cX5_give 40 = .ok (.getfield 198, 3) := by decide +kernel
theorem dX5_give_43 : decode cX5_give 43 = .ok (.iload 5, 2) := by decide +kernel
theorem dX5_give_45 : decode cX5_give 45 = .ok (.iaload, 1) := by decide +kernel
theorem dX5_give_46 : decode cX5_give 46 = .ok (.isub, 1) := by decide +kernel
theorem dX5_give_47 : decode cX5_give 47 = .ok (.aload_n 3, 1) := by decide +kernel
theorem dX5_give_48 : decode cX5_give 48 = .ok (.getfield 218, 3) := by decide +kernel
theorem dX5_give_51 : decode cX5_give 51 = .ok (.if_icmp .le 11, 3) := by decide +kernel
theorem dX5_give_54 : decode cX5_give 54 = .ok (.aload 4, 2) := by decide +kernel
theorem dX5_give_56 : decode cX5_give 56 = .ok (.invokevirtual 139, 3) := by decide +kernel
theorem dX5_give_59 : decode cX5_give 59 = .ok (.ifCond .eq 4, 3) := by decide +kernel
theorem dX5_give_62 : decode cX5_give 62 = .ok (.return_, 1) := by decide +kernel
theorem dX5_give_63 : decode cX5_give 63 = .ok (.iload 5, 2) := by decide +kernel
theorem dX5_give_65 : decode cX5_give 65 = .ok (.istore 6, 2) := by decide +kernel
theorem dX5_give_67 : decode cX5_give 67 = .ok (.iload 6, 2) := by decide +kernel
theorem dX5_give_69 : decode cX5_give 69 = .ok (.ifCond .le 22, 3) := by decide +kernel
theorem dX5_give_72 : decode cX5_give 72 = .ok (.aload_n 1, 1) := by decide +kernel
theorem dX5_give_73 : decode cX5_give 73 = .ok (.iload 6, 2) := by decide +kernel
theorem dX5_give_75 : decode cX5_give 75 = .ok (.aload_n 3, 1) := by decide +kernel
theorem dX5_give_76 : decode cX5_give 76 = .ok (.getfield 218, 3) := by decide +kernel
theorem dX5_give_79 : decode cX5_give 79 = .ok (.invokevirtual 221, 3) := by decide +kernel
theorem dX5_give_82 : decode cX5_give 82 = .ok (.ifCond .ne 9, 3) := by decide +kernel
theorem dX5_give_85 : decode cX5_give 85 = .ok (.iinc 6 (-1), 3) := by decide +kernel
theorem dX5_give_88 : decode cX5_give 88 = .ok (.goto (-21), 3) := by decide +kernel
theorem dX5_give_91 : decode cX5_give 91 = .ok (.aload_n 0, 1) := by decide +kernel
theorem dX5_give_92 : decode cX5_give 92 = .ok (.aload_n 1, 1) := by decide +kernel
theorem dX5_give_93 : decode cX5_give 93 = .ok (.iload 6, 2) := by decide +kernel
theorem dX5_give_95 : decode cX5_give 95 = .ok (.aload_n 1, 1) := by decide +kernel
theorem dX5_give_96 : decode cX5_give 96 = .ok (.getfield 154, 3) := by decide +kernel
theorem dX5_give_99 : decode cX5_give 99 = .ok (.aload_n 3, 1) := by decide +kernel
theorem dX5_give_100 : decode cX5_give 100 = .ok (.getfield 224, 3) := by decide +kernel
theorem dX5_give_103 : decode cX5_give 103 = .ok (.invokevirtual 227, 3) := by decide +kernel
theorem dX5_give_106 : decode cX5_give 106 = .ok (.istore 7, 2) := by decide +kernel
theorem dX5_give_108 : decode cX5_give 108 = .ok (.iload 7, 2) := by decide +kernel
theorem dX5_give_110 : decode cX5_give 110 = .ok (.ldc 175, 2) := by decide +kernel
theorem dX5_give_112 : decode cX5_give 112 = .ok (.if_icmp .ne 4, 3) := by decide +kernel
theorem dX5_give_115 : decode cX5_give 115 = .ok (.return_, 1) := by decide +kernel
theorem dX5_give_116 : decode cX5_give 116 = .ok (.aload_n 1, 1) := by decide +kernel
theorem dX5_give_117 : decode cX5_give 117 = .ok (.getfield 198, 3) := by decide +kernel
theorem dX5_give_120 : decode cX5_give 120 = .ok (.iload 5, 2) := by decide +kernel
theorem dX5_give_122 : decode cX5_give 122 = .ok (.iaload, 1) := by decide +kernel
theorem dX5_give_123 : decode cX5_give 123 = .ok (.istore 8, 2) := by decide +kernel
theorem dX5_give_125 : decode cX5_give 125 = .ok (.aload 4, 2) := by decide +kernel
theorem dX5_give_127 : decode cX5_give 127 = .ok (.iload 8, 2) := by decide +kernel
theorem dX5_give_129 : decode cX5_give 129 = .ok (.invokevirtual 133, 3) := by decide +kernel
theorem dX5_give_132 : decode cX5_give 132 = .ok (.ifCond .eq 15, 3) := by decide +kernel
theorem dX5_give_135 : decode cX5_give 135 = .ok (.aload 4, 2) := by decide +kernel
theorem dX5_give_137 : decode cX5_give 137 = .ok (.dup, 1) := by decide +kernel
theorem dX5_give_138 : decode cX5_give 138 = .ok (.getfield 136, 3) := by decide +kernel
theorem dX5_give_141 : decode cX5_give 141 = .ok (.iconst 1, 1) := by decide +kernel
theorem dX5_give_142 : decode cX5_give 142 = .ok (.iadd, 1) := by decide +kernel
theorem dX5_give_143 : decode cX5_give 143 = .ok (.putfield 136, 3) := by decide +kernel
theorem dX5_give_146 : decode cX5_give 146 = .ok (.return_, 1) := by decide +kernel
theorem dX5_give_147 : decode cX5_give 147 = .ok (.aload_n 3, 1) := by decide +kernel
theorem dX5_give_148 : decode cX5_give 148 = .ok (.dup, 1) := by decide +kernel
theorem dX5_give_149 : decode cX5_give 149 = .ok (.getfield 231, 3) := by decide +kernel
theorem dX5_give_152 : decode cX5_give 152 = .ok (.iconst 1, 1) := by decide +kernel
theorem dX5_give_153 : decode cX5_give 153 = .ok (.iadd, 1) := by decide +kernel
theorem dX5_give_154 : decode cX5_give 154 = .ok (.putfield 231, 3) := by decide +kernel
theorem dX5_give_157 : decode cX5_give 157 = .ok (.aload_n 0, 1) := by decide +kernel
theorem dX5_give_158 : decode cX5_give 158 = .ok (.aload 4, 2) := by decide +kernel
theorem dX5_give_160 : decode cX5_give 160 = .ok (.iload 8, 2) := by decide +kernel
theorem dX5_give_162 : decode cX5_give 162 = .ok (.sipush (-1000), 3) := by decide +kernel
theorem dX5_give_165 : decode cX5_give 165 = .ok (.sipush 1000, 3) := by decide +kernel
theorem dX5_give_168 : decode cX5_give 168 = .ok (.iload 7, 2) := by decide +kernel
theorem dX5_give_170 : decode cX5_give 170 = .ok (.invokestatic 234, 3) := by decide +kernel
theorem dX5_give_173 : decode cX5_give 173 = .ok (.invokestatic 239, 3) := by decide +kernel
theorem dX5_give_176 : decode cX5_give 176 = .ok (.invokevirtual 147, 3) := by decide +kernel
theorem dX5_give_179 : decode cX5_give 179 = .ok (.return_, 1) := by decide +kernel
theorem dX5_noteMost_0 : decode cX5_noteMost 0 = .ok (.iconst 0, 1) := by decide +kernel
theorem dX5_noteMost_1 : decode cX5_noteMost 1 = .ok (.istore_n 1, 1) := by decide +kernel
theorem dX5_noteMost_2 : decode cX5_noteMost 2 = .ok (.iload_n 1, 1) := by decide +kernel
theorem dX5_noteMost_3 : decode cX5_noteMost 3 = .ok (.iconst 4, 1) := by decide +kernel
theorem dX5_noteMost_4 : decode cX5_noteMost 4 = .ok (.if_icmp .ge 39, 3) := by decide +kernel
theorem dX5_noteMost_7 : decode cX5_noteMost 7 = .ok (.aload_n 0, 1) := by decide +kernel
theorem dX5_noteMost_8 : decode cX5_noteMost 8 = .ok (.getfield 13, 3) := by decide +kernel
theorem dX5_noteMost_11 : decode cX5_noteMost 11 = .ok (.iload_n 1, 1) := by decide +kernel
theorem dX5_noteMost_12 : decode cX5_noteMost 12 = .ok (.aaload, 1) := by decide +kernel
theorem dX5_noteMost_13 : decode cX5_noteMost 13 = .ok (.aload_n 0, 1) := by decide +kernel
theorem dX5_noteMost_14 : decode cX5_noteMost 14 = .ok (.getfield 13, 3) := by decide +kernel
theorem dX5_noteMost_17 : decode cX5_noteMost 17 = .ok (.iload_n 1, 1) := by decide +kernel
theorem dX5_noteMost_18 : decode cX5_noteMost 18 = .ok (.aaload, 1) := by decide +kernel
theorem dX5_noteMost_19 : decode cX5_noteMost 19 = .ok (.getfield 242, 3) := by decide +kernel
theorem dX5_noteMost_22 : decode cX5_noteMost 22 = .ok (.aload_n 0, 1) := by decide +kernel
theorem dX5_noteMost_23 : decode cX5_noteMost 23 = .ok (.getfield 13, 3) := by decide +kernel
theorem dX5_noteMost_26 : decode cX5_noteMost 26 = .ok (.iload_n 1, 1) := by decide +kernel
theorem dX5_noteMost_27 : decode cX5_noteMost 27 = .ok (.aaload, 1) := by decide +kernel
theorem dX5_noteMost_28 : decode cX5_noteMost 28 = .ok (.getfield 154, 3) := by decide +kernel
theorem dX5_noteMost_31 : decode cX5_noteMost 31 = .ok (.invokestatic 239, 3) := by decide +kernel
theorem dX5_noteMost_34 : decode cX5_noteMost 34 = .ok (.putfield 242, 3) := by decide +kernel
theorem dX5_noteMost_37 : decode cX5_noteMost 37 = .ok (.iinc 1 1, 3) := by decide +kernel
theorem dX5_noteMost_40 : decode cX5_noteMost 40 = .ok (.goto (-38), 3) := by decide +kernel
theorem dX5_noteMost_43 : decode cX5_noteMost 43 = .ok (.return_, 1) := by decide +kernel
theorem dX5_event_0 : decode cX5_event 0 = .ok (.aload_n 0, 1) := by decide +kernel
theorem dX5_event_1 : decode cX5_event 1 = .ok (.iload_n 1, 1) := by decide +kernel
theorem dX5_event_2 : decode cX5_event 2 = .ok (.iload_n 2, 1) := by decide +kernel
theorem dX5_event_3 : decode cX5_event 3 = .ok (.invokevirtual 171, 3) := by decide +kernel
theorem dX5_event_6 : decode cX5_event 6 = .ok (.astore 4, 2) := by decide +kernel
theorem dX5_event_8 : decode cX5_event 8 = .ok (.aload 4, 2) := by decide +kernel
theorem dX5_event_10 : decode cX5_event 10 = .ok (.ifnonnull 6, 3) := by decide +kernel
theorem dX5_event_13 : decode cX5_event 13 = .ok (.ldc 175, 2) := by decide +kernel
theorem dX5_event_15 : decode cX5_event 15 = .ok (.ireturn, 1) := by decide +kernel
theorem dX5_event_16 : decode cX5_event 16 = .ok (.iload_n 3, 1) := by decide +kernel
theorem dX5_event_17 : decode cX5_event 17 = .ok (.tableswitch 51 0 2 #[27, 35, 43], 27) := by decide +kernel
theorem dX5_event_44 : decode cX5_event 44 = .ok (.aload 4, 2) := by decide +kernel
theorem dX5_event_46 : decode cX5_event 46 = .ok (.getfield 198, 3) := by decide +kernel
theorem dX5_event_49 : decode cX5_event 49 = .ok (.iload_n 2, 1) := by decide +kernel
theorem dX5_event_50 : decode cX5_event 50 = .ok (.iaload, 1) := by decide +kernel
theorem dX5_event_51 : decode cX5_event 51 = .ok (.ireturn, 1) := by decide +kernel
theorem dX5_event_52 : decode cX5_event 52 = .ok (.aload 4, 2) := by decide +kernel
theorem dX5_event_54 : decode cX5_event 54 = .ok (.getfield 176, 3) := by decide +kernel
theorem dX5_event_57 : decode cX5_event 57 = .ok (.iload_n 2, 1) := by decide +kernel
theorem dX5_event_58 : decode cX5_event 58 = .ok (.iaload, 1) := by decide +kernel
theorem dX5_event_59 : decode cX5_event 59 = .ok (.ireturn, 1) := by decide +kernel
theorem dX5_event_60 : decode cX5_event 60 = .ok (.aload 4, 2) := by decide +kernel
theorem dX5_event_62 : decode cX5_event 62 = .ok (.getfield 245, 3) := by decide +kernel
theorem dX5_event_65 : decode cX5_event 65 = .ok (.iload_n 2, 1) := by decide +kernel
theorem dX5_event_66 : decode cX5_event 66 = .ok (.iaload, 1) := by decide +kernel
theorem dX5_event_67 : decode cX5_event 67 = .ok (.ireturn, 1) := by decide +kernel
theorem dX5_event_68 : decode cX5_event 68 = .ok (.ldc 175, 2) := by decide +kernel
theorem dX5_event_70 : decode cX5_event 70 = .ok (.ireturn, 1) := by decide +kernel
theorem dX5_total_0 : decode cX5_total 0 = .ok (.aload_n 0, 1) := by decide +kernel
theorem dX5_total_1 : decode cX5_total 1 = .ok (.iload_n 1, 1) := by decide +kernel
theorem dX5_total_2 : decode cX5_total 2 = .ok (.iload_n 2, 1) := by decide +kernel
theorem dX5_total_3 : decode cX5_total 3 = .ok (.invokevirtual 248, 3) := by decide +kernel
theorem dX5_total_6 : decode cX5_total 6 = .ok (.astore_n 3, 1) := by decide +kernel
theorem dX5_total_7 : decode cX5_total 7 = .ok (.aload_n 3, 1) := by decide +kernel
theorem dX5_total_8 : decode cX5_total 8 = .ok (.ifnonnull 8, 3) := by decide +kernel
theorem dX5_total_11 : decode cX5_total 11 = .ok (.ldc 175, 2) := by decide +kernel
theorem dX5_total_13 : decode cX5_total 13 = .ok (.goto 14, 3) := by decide +kernel
theorem dX5_total_16 : decode cX5_total 16 = .ok (.aload_n 0, 1) := by decide +kernel
theorem dX5_total_17 : decode cX5_total 17 = .ok (.aload_n 3, 1) := by decide +kernel
theorem dX5_total_18 : decode cX5_total 18 = .ok (.iconst 0, 1) := by decide +kernel
theorem dX5_total_19 : decode cX5_total 19 = .ok (.aload_n 3, 1) := by decide +kernel
theorem dX5_total_20 : decode cX5_total 20 = .ok (.getfield 154, 3) := by decide +kernel
theorem dX5_total_23 : decode cX5_total 23 = .ok (.iload_n 2, 1) := by decide +kernel
theorem dX5_total_24 : decode cX5_total 24 = .ok (.invokevirtual 227, 3) := by decide +kernel
theorem dX5_total_27 : decode cX5_total 27 = .ok (.ireturn, 1) := by decide +kernel
theorem dX5_part_0 : decode cX5_part 0 = .ok (.aload_n 0, 1) := by decide +kernel
theorem dX5_part_1 : decode cX5_part 1 = .ok (.iload_n 1, 1) := by decide +kernel
theorem dX5_part_2 : decode cX5_part 2 = .ok (.iload 4, 2) := by decide +kernel
theorem dX5_part_4 : decode cX5_part 4 = .ok (.invokevirtual 248, 3) := by decide +kernel
theorem dX5_part_7 : decode cX5_part 7 = .ok (.astore 5, 2) := by decide +kernel
theorem dX5_part_9 : decode cX5_part 9 = .ok (.aload 5, 2) := by decide +kernel
theorem dX5_part_11 : decode cX5_part 11 = .ok (.ifnull 21, 3) := by decide +kernel
theorem dX5_part_14 : decode cX5_part 14 = .ok (.iload_n 2, 1) := by decide +kernel
theorem dX5_part_15 : decode cX5_part 15 = .ok (.ifCond .lt 17, 3) := by decide +kernel
theorem dX5_part_18 : decode cX5_part 18 = .ok (.iload_n 3, 1) := by decide +kernel
theorem dX5_part_19 : decode cX5_part 19 = .ok (.iload_n 2, 1) := by decide +kernel
theorem dX5_part_20 : decode cX5_part 20 = .ok (.if_icmp .lt 12, 3) := by decide +kernel
theorem dX5_part_23 : decode cX5_part 23 = .ok (.iload_n 3, 1) := by decide +kernel
theorem dX5_part_24 : decode cX5_part 24 = .ok (.aload 5, 2) := by decide +kernel
theorem dX5_part_26 : decode cX5_part 26 = .ok (.getfield 154, 3) := by decide +kernel
theorem dX5_part_29 : decode cX5_part 29 = .ok (.if_icmp .lt 6, 3) := by decide +kernel
theorem dX5_part_32 : decode cX5_part 32 = .ok (.ldc 175, 2) := by decide +kernel
theorem dX5_part_34 : decode cX5_part 34 = .ok (.ireturn, 1) := by decide +kernel
theorem dX5_part_35 : decode cX5_part 35 = .ok (.aload_n 0, 1) := by decide +kernel
theorem dX5_part_36 : decode cX5_part 36 = .ok (.aload 5, 2) := by decide +kernel
theorem dX5_part_38 : decode cX5_part 38 = .ok (.iload_n 2, 1) := by decide +kernel
theorem dX5_part_39 : decode cX5_part 39 = .ok (.iload_n 3, 1) := by decide +kernel
theorem dX5_part_40 : decode cX5_part 40 = .ok (.iconst 1, 1) := by decide +kernel
theorem dX5_part_41 : decode cX5_part 41 = .ok (.iadd, 1) := by decide +kernel
theorem dX5_part_42 : decode cX5_part 42 = .ok (.iload 4, 2) := by decide +kernel
theorem dX5_part_44 : decode cX5_part 44 = .ok (.invokevirtual 227, 3) := by decide +kernel
theorem dX5_part_47 : decode cX5_part 47 = .ok (.ireturn, 1) := by decide +kernel
theorem dX5_during_0 : decode cX5_during 0 = .ok (.aload_n 0, 1) := by decide +kernel
theorem dX5_during_1 : decode cX5_during 1 = .ok (.iload_n 1, 1) := by decide +kernel
theorem dX5_during_2 : decode cX5_during 2 = .ok (.iload 4, 2) := by decide +kernel
theorem dX5_during_4 : decode cX5_during 4 = .ok (.invokevirtual 248, 3) := by decide +kernel
theorem dX5_during_7 : decode cX5_during 7 = .ok (.astore 5, 2) := by decide +kernel
theorem dX5_during_9 : decode cX5_during 9 = .ok (.aload 5, 2) := by decide +kernel
theorem dX5_during_11 : decode cX5_during 11 = .ok (.ifnonnull 8, 3) := by decide +kernel
theorem dX5_during_14 : decode cX5_during 14 = .ok (.ldc 175, 2) := by decide +kernel
theorem dX5_during_16 : decode cX5_during 16 = .ok (.goto 27, 3) := by decide +kernel
theorem dX5_during_19 : decode cX5_during 19 = .ok (.aload_n 0, 1) := by decide +kernel
theorem dX5_during_20 : decode cX5_during 20 = .ok (.aload 5, 2) := by decide +kernel
theorem dX5_during_22 : decode cX5_during 22 = .ok (.aload 5, 2) := by decide +kernel
theorem dX5_during_24 : decode cX5_during 24 = .ok (.iload_n 2, 1) := by decide +kernel
theorem dX5_during_25 : decode cX5_during 25 = .ok (.i2l, 1) := by decide +kernel
theorem dX5_during_26 : decode cX5_during 26 = .ok (.lconst 1, 1) := by decide +kernel
theorem dX5_during_27 : decode cX5_during 27 = .ok (.lsub, 1) := by decide +kernel
theorem dX5_during_28 : decode cX5_during 28 = .ok (.invokevirtual 167, 3) := by decide +kernel
theorem dX5_during_31 : decode cX5_during 31 = .ok (.aload 5, 2) := by decide +kernel
theorem dX5_during_33 : decode cX5_during 33 = .ok (.iload_n 3, 1) := by decide +kernel
theorem dX5_during_34 : decode cX5_during 34 = .ok (.i2l, 1) := by decide +kernel
theorem dX5_during_35 : decode cX5_during 35 = .ok (.invokevirtual 167, 3) := by decide +kernel
theorem dX5_during_38 : decode cX5_during 38 = .ok (.iload 4, 2) := by decide +kernel
theorem dX5_during_40 : decode cX5_during 40 = .ok (.invokevirtual 227, 3) := by decide +kernel
theorem dX5_during_43 : decode cX5_during 43 = .ok (.ireturn, 1) := by decide +kernel
theorem dX5_many_0 : decode cX5_many 0 = .ok (.aload_n 0, 1) := by decide +kernel
theorem dX5_many_1 : decode cX5_many 1 = .ok (.iload_n 1, 1) := by decide +kernel
theorem dX5_many_2 : decode cX5_many 2 = .ok (.invokevirtual 123, 3) := by decide +kernel
theorem dX5_many_5 : decode cX5_many 5 = .ok (.astore 4, 2) := by decide +kernel
theorem dX5_many_7 : decode cX5_many 7 = .ok (.aload 4, 2) := by decide +kernel
theorem dX5_many_9 : decode cX5_many 9 = .ok (.ifnonnull 7, 3) := by decide +kernel
theorem dX5_many_12 : decode cX5_many 12 = .ok (.iconst (-1), 1) := by decide +kernel
theorem dX5_many_13 : decode cX5_many 13 = .ok (.goto 24, 3) := by decide +kernel
theorem dX5_many_16 : decode cX5_many 16 = .ok (.iconst 0, 1) := by decide +kernel
theorem dX5_many_17 : decode cX5_many 17 = .ok (.aload 4, 2) := by decide +kernel
theorem dX5_many_19 : decode cX5_many 19 = .ok (.iload_n 3, 1) := by decide +kernel
theorem dX5_many_20 : decode cX5_many 20 = .ok (.i2l, 1) := by decide +kernel
theorem dX5_many_21 : decode cX5_many 21 = .ok (.invokevirtual 167, 3) := by decide +kernel
theorem dX5_many_24 : decode cX5_many 24 = .ok (.aload 4, 2) := by decide +kernel
theorem dX5_many_26 : decode cX5_many 26 = .ok (.iload_n 2, 1) := by decide +kernel
theorem dX5_many_27 : decode cX5_many 27 = .ok (.i2l, 1) := by decide +kernel
theorem dX5_many_28 : decode cX5_many 28 = .ok (.lconst 1, 1) := by decide +kernel
theorem dX5_many_29 : decode cX5_many 29 = .ok (.lsub, 1) := by decide +kernel
theorem dX5_many_30 : decode cX5_many 30 = .ok (.invokevirtual 167, 3) := by decide +kernel
theorem dX5_many_33 : decode cX5_many 33 = .ok (.isub, 1) := by decide +kernel
theorem dX5_many_34 : decode cX5_many 34 = .ok (.invokestatic 239, 3) := by decide +kernel
theorem dX5_many_37 : decode cX5_many 37 = .ok (.ireturn, 1) := by decide +kernel
theorem dX5_reach_0 : decode cX5_reach 0 = .ok (.aload_n 0, 1) := by decide +kernel
theorem dX5_reach_1 : decode cX5_reach 1 = .ok (.iload_n 1, 1) := by decide +kernel
theorem dX5_reach_2 : decode cX5_reach 2 = .ok (.iload_n 2, 1) := by decide +kernel
theorem dX5_reach_3 : decode cX5_reach 3 = .ok (.invokevirtual 248, 3) := by decide +kernel
theorem dX5_reach_6 : decode cX5_reach 6 = .ok (.astore 4, 2) := by decide +kernel
theorem dX5_reach_8 : decode cX5_reach 8 = .ok (.aload 4, 2) := by decide +kernel
theorem dX5_reach_10 : decode cX5_reach 10 = .ok (.ifnonnull 5, 3) := by decide +kernel
theorem dX5_reach_13 : decode cX5_reach 13 = .ok (.iconst (-1), 1) := by decide +kernel
theorem dX5_reach_14 : decode cX5_reach 14 = .ok (.ireturn, 1) := by decide +kernel
theorem dX5_reach_15 : decode cX5_reach 15 = .ok (.aload_n 0, 1) := by decide +kernel
theorem dX5_reach_16 : decode cX5_reach 16 = .ok (.getfield 40, 3) := by decide +kernel
theorem dX5_reach_19 : decode cX5_reach 19 = .ok (.aload 4, 2) := by decide +kernel
theorem dX5_reach_21 : decode cX5_reach 21 = .ok (.getfield 98, 3) := by decide +kernel
theorem dX5_reach_24 : decode cX5_reach 24 = .ok (.invokevirtual 251, 3) := by decide +kernel
theorem dX5_reach_27 : decode cX5_reach 27 = .ok (.iconst 0, 1) := by decide +kernel
theorem dX5_reach_28 : decode cX5_reach 28 = .ok (.istore 5, 2) := by decide +kernel
theorem dX5_reach_30 : decode cX5_reach 30 = .ok (.iload 5, 2) := by decide +kernel
theorem dX5_reach_32 : decode cX5_reach 32 = .ok (.aload 4, 2) := by decide +kernel
theorem dX5_reach_34 : decode cX5_reach 34 = .ok (.getfield 154, 3) := by decide +kernel
theorem dX5_reach_37 : decode cX5_reach 37 = .ok (.if_icmp .ge 41, 3) := by decide +kernel
theorem dX5_reach_40 : decode cX5_reach 40 = .ok (.aload_n 0, 1) := by decide +kernel
theorem dX5_reach_41 : decode cX5_reach 41 = .ok (.getfield 40, 3) := by decide +kernel
theorem dX5_reach_44 : decode cX5_reach 44 = .ok (.aload 4, 2) := by decide +kernel
theorem dX5_reach_46 : decode cX5_reach 46 = .ok (.getfield 176, 3) := by decide +kernel
theorem dX5_reach_49 : decode cX5_reach 49 = .ok (.iload 5, 2) := by decide +kernel
theorem dX5_reach_51 : decode cX5_reach 51 = .ok (.iaload, 1) := by decide +kernel
theorem dX5_reach_52 : decode cX5_reach 52 = .ok (.invokevirtual 253, 3) := by decide +kernel
theorem dX5_reach_55 : decode cX5_reach 55 = .ok (.aload_n 0, 1) := by decide +kernel
theorem dX5_reach_56 : decode cX5_reach 56 = .ok (.getfield 40, 3) := by decide +kernel
theorem dX5_reach_59 : decode cX5_reach 59 = .ok (.iload_n 2, 1) := by decide +kernel
theorem dX5_reach_60 : decode cX5_reach 60 = .ok (.iload_n 3, 1) := by decide +kernel
theorem dX5_reach_61 : decode cX5_reach 61 = .ok (.invokevirtual 256, 3) := by decide +kernel
theorem dX5_reach_64 : decode cX5_reach 64 = .ok (.ifCond .eq 8, 3) := by decide +kernel
theorem dX5_reach_67 : decode cX5_reach 67 = .ok (.iload 5, 2) := by decide +kernel
theorem dX5_reach_69 : decode cX5_reach 69 = .ok (.iconst 1, 1) := by decide +kernel
theorem dX5_reach_70 : decode cX5_reach 70 = .ok (.iadd, 1) := by decide +kernel
theorem dX5_reach_71 : decode cX5_reach 71 = .ok (.ireturn, 1) := by decide +kernel
theorem dX5_reach_72 : decode cX5_reach 72 = .ok (.iinc 5 1, 3) := by decide +kernel
theorem dX5_reach_75 : decode cX5_reach 75 = .ok (.goto (-45), 3) := by decide +kernel
theorem dX5_reach_78 : decode cX5_reach 78 = .ok (.iconst (-1), 1) := by decide +kernel
theorem dX5_reach_79 : decode cX5_reach 79 = .ok (.ireturn, 1) := by decide +kernel
theorem dX5_reachBack_0 : decode cX5_reachBack 0 = .ok (.aload_n 0, 1) := by decide +kernel
theorem dX5_reachBack_1 : decode cX5_reachBack 1 = .ok (.iload_n 1, 1) := by decide +kernel
theorem dX5_reachBack_2 : decode cX5_reachBack 2 = .ok (.iload_n 2, 1) := by decide +kernel
theorem dX5_reachBack_3 : decode cX5_reachBack 3 = .ok (.invokevirtual 248, 3) := by decide +kernel
theorem dX5_reachBack_6 : decode cX5_reachBack 6 = .ok (.astore 4, 2) := by decide +kernel
theorem dX5_reachBack_8 : decode cX5_reachBack 8 = .ok (.aload 4, 2) := by decide +kernel
theorem dX5_reachBack_10 : decode cX5_reachBack 10 = .ok (.ifnonnull 5, 3) := by decide +kernel
theorem dX5_reachBack_13 : decode cX5_reachBack 13 = .ok (.iconst (-1), 1) := by decide +kernel
theorem dX5_reachBack_14 : decode cX5_reachBack 14 = .ok (.ireturn, 1) := by decide +kernel
theorem dX5_reachBack_15 : decode cX5_reachBack 15 = .ok (.iconst 1, 1) := by decide +kernel
theorem dX5_reachBack_16 : decode cX5_reachBack 16 = .ok (.istore 5, 2) := by decide +kernel
theorem dX5_reachBack_18 : decode cX5_reachBack 18 = .ok (.iload 5, 2) := by decide +kernel
theorem dX5_reachBack_20 : decode cX5_reachBack 20 = .ok (.aload 4, 2) := by decide +kernel
theorem dX5_reachBack_22 : decode cX5_reachBack 22 = .ok (.getfield 154, 3) := by decide +kernel
theorem dX5_reachBack_25 : decode cX5_reachBack 25 = .ok (.if_icmp .gt 43, 3) := by decide +kernel
theorem dX5_reachBack_28 : decode cX5_reachBack 28 = .ok (.aload_n 0, 1) := by decide +kernel
theorem dX5_reachBack_29 : decode cX5_reachBack 29 = .ok (.aload 4, 2) := by decide +kernel
theorem dX5_reachBack_31 : decode cX5_reachBack 31 = .ok (.aload 4, 2) := by decide +kernel
theorem dX5_reachBack_33 : decode cX5_reachBack 33 = .ok (.getfield 154, 3) := by decide +kernel
theorem dX5_reachBack_36 : decode cX5_reachBack 36 = .ok (.iload 5, 2) := by decide +kernel
theorem dX5_reachBack_38 : decode cX5_reachBack 38 = .ok (.isub, 1) := by decide +kernel
theorem dX5_reachBack_39 : decode cX5_reachBack 39 = .ok (.aload 4, 2) := by decide +kernel
theorem dX5_reachBack_41 : decode cX5_reachBack 41 = .ok (.getfield 154, 3) := by decide +kernel
theorem dX5_reachBack_44 : decode cX5_reachBack 44 = .ok (.invokevirtual 259, 3) := by decide +kernel
theorem dX5_reachBack_47 : decode cX5_reachBack 47 = .ok (.aload_n 0, 1) := by decide +kernel
theorem dX5_reachBack_48 : decode cX5_reachBack 48 = .ok (.getfield 40, 3) := by decide +kernel
theorem dX5_reachBack_51 : decode cX5_reachBack 51 = .ok (.iload_n 2, 1) := by decide +kernel
theorem dX5_reachBack_52 : decode cX5_reachBack 52 = .ok (.iload_n 3, 1) := by decide +kernel
theorem dX5_reachBack_53 : decode cX5_reachBack 53 = .ok (.invokevirtual 256, 3) := by decide +kernel
theorem dX5_reachBack_56 : decode cX5_reachBack 56 = .ok (.ifCond .eq 6, 3) := by decide +kernel
theorem dX5_reachBack_59 : decode cX5_reachBack 59 = .ok (.iload 5, 2) := by decide +kernel
theorem dX5_reachBack_61 : decode cX5_reachBack 61 = .ok (.ireturn, 1) := by decide +kernel
theorem dX5_reachBack_62 : decode cX5_reachBack 62 = .ok (.iinc 5 1, 3) := by decide +kernel
theorem dX5_reachBack_65 : decode cX5_reachBack 65 = .ok (.goto (-47), 3) := by decide +kernel
theorem dX5_reachBack_68 : decode cX5_reachBack 68 = .ok (.iconst (-1), 1) := by decide +kernel
theorem dX5_reachBack_69 : decode cX5_reachBack 69 = .ok (.ireturn, 1) := by decide +kernel
theorem dX5_peak_0 : decode cX5_peak 0 = .ok (.aload_n 0, 1) := by decide +kernel
theorem dX5_peak_1 : decode cX5_peak 1 = .ok (.iload_n 1, 1) := by decide +kernel
theorem dX5_peak_2 : decode cX5_peak 2 = .ok (.iload_n 2, 1) := by decide +kernel
theorem dX5_peak_3 : decode cX5_peak 3 = .ok (.iload_n 3, 1) := by decide +kernel
theorem dX5_peak_4 : decode cX5_peak 4 = .ok (.invokevirtual 262, 3) := by decide +kernel
theorem dX5_peak_7 : decode cX5_peak 7 = .ok (.istore 4, 2) := by decide +kernel
theorem dX5_peak_9 : decode cX5_peak 9 = .ok (.iload 4, 2) := by decide +kernel
theorem dX5_peak_11 : decode cX5_peak 11 = .ok (.iconst (-1), 1) := by decide +kernel
theorem dX5_peak_12 : decode cX5_peak 12 = .ok (.if_icmp .ne 8, 3) := by decide +kernel
theorem dX5_peak_15 : decode cX5_peak 15 = .ok (.ldc 175, 2) := by decide +kernel
theorem dX5_peak_17 : decode cX5_peak 17 = .ok (.goto 20, 3) := by decide +kernel
theorem dX5_peak_20 : decode cX5_peak 20 = .ok (.aload_n 0, 1) := by decide +kernel
theorem dX5_peak_21 : decode cX5_peak 21 = .ok (.aload_n 0, 1) := by decide +kernel
theorem dX5_peak_22 : decode cX5_peak 22 = .ok (.getfield 13, 3) := by decide +kernel
theorem dX5_peak_25 : decode cX5_peak 25 = .ok (.iload_n 1, 1) := by decide +kernel
theorem dX5_peak_26 : decode cX5_peak 26 = .ok (.aaload, 1) := by decide +kernel
theorem dX5_peak_27 : decode cX5_peak 27 = .ok (.iload 4, 2) := by decide +kernel
theorem dX5_peak_29 : decode cX5_peak 29 = .ok (.iload 4, 2) := by decide +kernel
theorem dX5_peak_31 : decode cX5_peak 31 = .ok (.iload_n 2, 1) := by decide +kernel
theorem dX5_peak_32 : decode cX5_peak 32 = .ok (.iadd, 1) := by decide +kernel
theorem dX5_peak_33 : decode cX5_peak 33 = .ok (.iload_n 3, 1) := by decide +kernel
theorem dX5_peak_34 : decode cX5_peak 34 = .ok (.invokevirtual 227, 3) := by decide +kernel
theorem dX5_peak_37 : decode cX5_peak 37 = .ok (.ireturn, 1) := by decide +kernel
theorem dX5_peakAt_0 : decode cX5_peakAt 0 = .ok (.aload_n 0, 1) := by decide +kernel
theorem dX5_peakAt_1 : decode cX5_peakAt 1 = .ok (.iload_n 1, 1) := by decide +kernel
theorem dX5_peakAt_2 : decode cX5_peakAt 2 = .ok (.iload_n 3, 1) := by decide +kernel
theorem dX5_peakAt_3 : decode cX5_peakAt 3 = .ok (.invokevirtual 248, 3) := by decide +kernel
theorem dX5_peakAt_6 : decode cX5_peakAt 6 = .ok (.astore 4, 2) := by decide +kernel
theorem dX5_peakAt_8 : decode cX5_peakAt 8 = .ok (.aload 4, 2) := by decide +kernel
theorem dX5_peakAt_10 : decode cX5_peakAt 10 = .ok (.ifnull 16, 3) := by decide +kernel
theorem dX5_peakAt_13 : decode cX5_peakAt 13 = .ok (.iload_n 2, 1) := by decide +kernel
theorem dX5_peakAt_14 : decode cX5_peakAt 14 = .ok (.iconst 1, 1) := by decide +kernel
theorem dX5_peakAt_15 : decode cX5_peakAt 15 = .ok (.aload 4, 2) := by decide +kernel
theorem dX5_peakAt_17 : decode cX5_peakAt 17 = .ok (.getfield 154, 3) := by decide +kernel
theorem dX5_peakAt_20 : decode cX5_peakAt 20 = .ok (.invokestatic 59, 3) := by decide +kernel
theorem dX5_peakAt_23 : decode cX5_peakAt 23 = .ok (.ifCond .ne 5, 3) := by decide +kernel
theorem dX5_peakAt_26 : decode cX5_peakAt 26 = .ok (.iconst (-1), 1) := by decide +kernel
theorem dX5_peakAt_27 : decode cX5_peakAt 27 = .ok (.ireturn, 1) := by decide +kernel
theorem dX5_peakAt_28 : decode cX5_peakAt 28 = .ok (.iconst 0, 1) := by decide +kernel
theorem dX5_peakAt_29 : decode cX5_peakAt 29 = .ok (.istore 5, 2) := by decide +kernel
theorem dX5_peakAt_31 : decode cX5_peakAt 31 = .ok (.ldc 175, 2) := by decide +kernel
theorem dX5_peakAt_33 : decode cX5_peakAt 33 = .ok (.istore 6, 2) := by decide +kernel
theorem dX5_peakAt_35 : decode cX5_peakAt 35 = .ok (.iconst 0, 1) := by decide +kernel
theorem dX5_peakAt_36 : decode cX5_peakAt 36 = .ok (.istore 7, 2) := by decide +kernel
theorem dX5_peakAt_38 : decode cX5_peakAt 38 = .ok (.iload 7, 2) := by decide +kernel
theorem dX5_peakAt_40 : decode cX5_peakAt 40 = .ok (.iload_n 2, 1) := by decide +kernel
theorem dX5_peakAt_41 : decode cX5_peakAt 41 = .ok (.iadd, 1) := by decide +kernel
theorem dX5_peakAt_42 : decode cX5_peakAt 42 = .ok (.aload 4, 2) := by decide +kernel
theorem dX5_peakAt_44 : decode cX5_peakAt 44 = .ok (.getfield 154, 3) := by decide +kernel
theorem dX5_peakAt_47 : decode cX5_peakAt 47 = .ok (.if_icmp .gt 39, 3) := by decide +kernel
theorem dX5_peakAt_50 : decode cX5_peakAt 50 = .ok (.aload_n 0, 1) := by decide +kernel
theorem dX5_peakAt_51 : decode cX5_peakAt 51 = .ok (.aload 4, 2) := by decide +kernel
theorem dX5_peakAt_53 : decode cX5_peakAt 53 = .ok (.iload 7, 2) := by decide +kernel
theorem dX5_peakAt_55 : decode cX5_peakAt 55 = .ok (.iload 7, 2) := by decide +kernel
theorem dX5_peakAt_57 : decode cX5_peakAt 57 = .ok (.iload_n 2, 1) := by decide +kernel
theorem dX5_peakAt_58 : decode cX5_peakAt 58 = .ok (.iadd, 1) := by decide +kernel
theorem dX5_peakAt_59 : decode cX5_peakAt 59 = .ok (.iload_n 3, 1) := by decide +kernel
theorem dX5_peakAt_60 : decode cX5_peakAt 60 = .ok (.invokevirtual 227, 3) := by decide +kernel
theorem dX5_peakAt_63 : decode cX5_peakAt 63 = .ok (.istore 8, 2) := by decide +kernel
theorem dX5_peakAt_65 : decode cX5_peakAt 65 = .ok (.iload 8, 2) := by decide +kernel
theorem dX5_peakAt_67 : decode cX5_peakAt 67 = .ok (.iload 6, 2) := by decide +kernel
theorem dX5_peakAt_69 : decode cX5_peakAt 69 = .ok (.if_icmp .le 11, 3) := by decide +kernel
theorem dX5_peakAt_72 : decode cX5_peakAt 72 = .ok (.iload 8, 2) := by decide +kernel
theorem dX5_peakAt_74 : decode cX5_peakAt 74 = .ok (.istore 6, 2) := by decide +kernel
theorem dX5_peakAt_76 : decode cX5_peakAt 76 = .ok (.iload 7, 2) := by decide +kernel
theorem dX5_peakAt_78 : decode cX5_peakAt 78 = .ok (.istore 5, 2) := by decide +kernel
theorem dX5_peakAt_80 : decode cX5_peakAt 80 = .ok (.iinc 7 1, 3) := by decide +kernel
theorem dX5_peakAt_83 : decode cX5_peakAt 83 = .ok (.goto (-45), 3) := by decide +kernel
theorem dX5_peakAt_86 : decode cX5_peakAt 86 = .ok (.iload 5, 2) := by decide +kernel
theorem dX5_peakAt_88 : decode cX5_peakAt 88 = .ok (.ireturn, 1) := by decide +kernel
theorem dX5_without_0 : decode cX5_without 0 = .ok (.aload_n 0, 1) := by decide +kernel
theorem dX5_without_1 : decode cX5_without 1 = .ok (.iload_n 1, 1) := by decide +kernel
theorem dX5_without_2 : decode cX5_without 2 = .ok (.iload_n 2, 1) := by decide +kernel
theorem dX5_without_3 : decode cX5_without 3 = .ok (.invokevirtual 171, 3) := by decide +kernel
theorem dX5_without_6 : decode cX5_without 6 = .ok (.astore 4, 2) := by decide +kernel
theorem dX5_without_8 : decode cX5_without 8 = .ok (.aload 4, 2) := by decide +kernel
theorem dX5_without_10 : decode cX5_without 10 = .ok (.ifnull 12, 3) := by decide +kernel
theorem dX5_without_13 : decode cX5_without 13 = .ok (.aload 4, 2) := by decide +kernel
theorem dX5_without_15 : decode cX5_without 15 = .ok (.iload_n 3, 1) := by decide +kernel
theorem dX5_without_16 : decode cX5_without 16 = .ok (.invokevirtual 266, 3) := by decide +kernel
theorem dX5_without_19 : decode cX5_without 19 = .ok (.ifCond .ne 8, 3) := by decide +kernel
theorem dX5_without_22 : decode cX5_without 22 = .ok (.ldc 175, 2) := by decide +kernel
theorem dX5_without_24 : decode cX5_without 24 = .ok (.goto 11, 3) := by decide +kernel
theorem dX5_without_27 : decode cX5_without 27 = .ok (.aload_n 0, 1) := by decide +kernel
theorem dX5_without_28 : decode cX5_without 28 = .ok (.aload 4, 2) := by decide +kernel
theorem dX5_without_30 : decode cX5_without 30 = .ok (.iload_n 2, 1) := by decide +kernel
theorem dX5_without_31 : decode cX5_without 31 = .ok (.iload_n 3, 1) := by decide +kernel
theorem dX5_without_32 : decode cX5_without 32 = .ok (.invokevirtual 269, 3) := by decide +kernel
theorem dX5_without_35 : decode cX5_without 35 = .ok (.ireturn, 1) := by decide +kernel
theorem dX5_spare_0 : decode cX5_spare 0 = .ok (.aload_n 0, 1) := by decide +kernel
theorem dX5_spare_1 : decode cX5_spare 1 = .ok (.iload_n 1, 1) := by decide +kernel
theorem dX5_spare_2 : decode cX5_spare 2 = .ok (.iload_n 2, 1) := by decide +kernel
theorem dX5_spare_3 : decode cX5_spare 3 = .ok (.invokevirtual 248, 3) := by decide +kernel
theorem dX5_spare_6 : decode cX5_spare 6 = .ok (.astore_n 3, 1) := by decide +kernel
theorem dX5_spare_7 : decode cX5_spare 7 = .ok (.aload_n 3, 1) := by decide +kernel
theorem dX5_spare_8 : decode cX5_spare 8 = .ok (.ifnull 11, 3) := by decide +kernel
theorem dX5_spare_11 : decode cX5_spare 11 = .ok (.aload_n 3, 1) := by decide +kernel
theorem dX5_spare_12 : decode cX5_spare 12 = .ok (.getfield 154, 3) := by decide +kernel
theorem dX5_spare_15 : decode cX5_spare 15 = .ok (.iconst 2, 1) := by decide +kernel
theorem dX5_spare_16 : decode cX5_spare 16 = .ok (.if_icmp .ge 5, 3) := by decide +kernel
theorem dX5_spare_19 : decode cX5_spare 19 = .ok (.iconst (-1), 1) := by decide +kernel
theorem dX5_spare_20 : decode cX5_spare 20 = .ok (.ireturn, 1) := by decide +kernel
theorem dX5_spare_21 : decode cX5_spare 21 = .ok (.iconst 0, 1) := by decide +kernel
theorem dX5_spare_22 : decode cX5_spare 22 = .ok (.istore 4, 2) := by decide +kernel
theorem dX5_spare_24 : decode cX5_spare 24 = .ok (.ldc 175, 2) := by decide +kernel
theorem dX5_spare_26 : decode cX5_spare 26 = .ok (.istore 5, 2) := by decide +kernel
theorem dX5_spare_28 : decode cX5_spare 28 = .ok (.iconst 0, 1) := by decide +kernel
theorem dX5_spare_29 : decode cX5_spare 29 = .ok (.istore 6, 2) := by decide +kernel
theorem dX5_spare_31 : decode cX5_spare 31 = .ok (.iload 6, 2) := by decide +kernel
theorem dX5_spare_33 : decode cX5_spare 33 = .ok (.aload_n 3, 1) := by decide +kernel
theorem dX5_spare_34 : decode cX5_spare 34 = .ok (.getfield 154, 3) := by decide +kernel
theorem dX5_spare_37 : decode cX5_spare 37 = .ok (.if_icmp .ge 34, 3) := by decide +kernel
theorem dX5_spare_40 : decode cX5_spare 40 = .ok (.aload_n 0, 1) := by decide +kernel
theorem dX5_spare_41 : decode cX5_spare 41 = .ok (.aload_n 3, 1) := by decide +kernel
theorem dX5_spare_42 : decode cX5_spare 42 = .ok (.iload 6, 2) := by decide +kernel
theorem dX5_spare_44 : decode cX5_spare 44 = .ok (.iload_n 2, 1) := by decide +kernel
theorem dX5_spare_45 : decode cX5_spare 45 = .ok (.invokevirtual 269, 3) := by decide +kernel
theorem dX5_spare_48 : decode cX5_spare 48 = .ok (.istore 7, 2) := by decide +kernel
theorem dX5_spare_50 : decode cX5_spare 50 = .ok (.iload 7, 2) := by decide +kernel
theorem dX5_spare_52 : decode cX5_spare 52 = .ok (.iload 5, 2) := by decide +kernel
theorem dX5_spare_54 : decode cX5_spare 54 = .ok (.if_icmp .le 11, 3) := by decide +kernel
theorem dX5_spare_57 : decode cX5_spare 57 = .ok (.iload 7, 2) := by decide +kernel
theorem dX5_spare_59 : decode cX5_spare 59 = .ok (.istore 5, 2) := by decide +kernel
theorem dX5_spare_61 : decode cX5_spare 61 = .ok (.iload 6, 2) := by decide +kernel
theorem dX5_spare_63 : decode cX5_spare 63 = .ok (.istore 4, 2) := by decide +kernel
theorem dX5_spare_65 : decode cX5_spare 65 = .ok (.iinc 6 1, 3) := by decide +kernel
theorem dX5_spare_68 : decode cX5_spare 68 = .ok (.goto (-37), 3) := by decide +kernel
theorem dX5_spare_71 : decode cX5_spare 71 = .ok (.iload 4, 2) := by decide +kernel
theorem dX5_spare_73 : decode cX5_spare 73 = .ok (.ireturn, 1) := by decide +kernel
theorem dX5_turned_0 : decode cX5_turned 0 = .ok (.aload_n 0, 1) := by decide +kernel
theorem dX5_turned_1 : decode cX5_turned 1 = .ok (.iload_n 1, 1) := by decide +kernel
theorem dX5_turned_2 : decode cX5_turned 2 = .ok (.iload_n 2, 1) := by decide +kernel
theorem dX5_turned_3 : decode cX5_turned 3 = .ok (.invokevirtual 248, 3) := by decide +kernel
theorem dX5_turned_6 : decode cX5_turned 6 = .ok (.astore_n 3, 1) := by decide +kernel
theorem dX5_turned_7 : decode cX5_turned 7 = .ok (.aload_n 3, 1) := by decide +kernel
theorem dX5_turned_8 : decode cX5_turned 8 = .ok (.ifnonnull 6, 3) := by decide +kernel
theorem dX5_turned_11 : decode cX5_turned 11 = .ok (.ldc 175, 2) := by decide +kernel
theorem dX5_turned_13 : decode cX5_turned 13 = .ok (.ireturn, 1) := by decide +kernel
theorem dX5_turned_14 : decode cX5_turned 14 = .ok (.aload_n 0, 1) := by decide +kernel
theorem dX5_turned_15 : decode cX5_turned 15 = .ok (.getfield 40, 3) := by decide +kernel
theorem dX5_turned_18 : decode cX5_turned 18 = .ok (.aload_n 3, 1) := by decide +kernel
theorem dX5_turned_19 : decode cX5_turned 19 = .ok (.getfield 98, 3) := by decide +kernel
theorem dX5_turned_22 : decode cX5_turned 22 = .ok (.invokevirtual 251, 3) := by decide +kernel
theorem dX5_turned_25 : decode cX5_turned 25 = .ok (.aload_n 3, 1) := by decide +kernel
theorem dX5_turned_26 : decode cX5_turned 26 = .ok (.getfield 154, 3) := by decide +kernel
theorem dX5_turned_29 : decode cX5_turned 29 = .ok (.iconst 1, 1) := by decide +kernel
theorem dX5_turned_30 : decode cX5_turned 30 = .ok (.isub, 1) := by decide +kernel
theorem dX5_turned_31 : decode cX5_turned 31 = .ok (.istore 4, 2) := by decide +kernel
theorem dX5_turned_33 : decode cX5_turned 33 = .ok (.iload 4, 2) := by decide +kernel
theorem dX5_turned_35 : decode cX5_turned 35 = .ok (.ifCond .lt 23, 3) := by decide +kernel
theorem dX5_turned_38 : decode cX5_turned 38 = .ok (.aload_n 0, 1) := by decide +kernel
theorem dX5_turned_39 : decode cX5_turned 39 = .ok (.getfield 40, 3) := by decide +kernel
theorem dX5_turned_42 : decode cX5_turned 42 = .ok (.aload_n 3, 1) := by decide +kernel
theorem dX5_turned_43 : decode cX5_turned 43 = .ok (.getfield 176, 3) := by decide +kernel
theorem dX5_turned_46 : decode cX5_turned 46 = .ok (.iload 4, 2) := by decide +kernel
theorem dX5_turned_48 : decode cX5_turned 48 = .ok (.iaload, 1) := by decide +kernel
theorem dX5_turned_49 : decode cX5_turned 49 = .ok (.invokevirtual 253, 3) := by decide +kernel
theorem dX5_turned_52 : decode cX5_turned 52 = .ok (.iinc 4 (-1), 3) := by decide +kernel
theorem dX5_turned_55 : decode cX5_turned 55 = .ok (.goto (-22), 3) := by decide +kernel
theorem dX5_turned_58 : decode cX5_turned 58 = .ok (.aload_n 0, 1) := by decide +kernel
theorem dX5_turned_59 : decode cX5_turned 59 = .ok (.getfield 40, 3) := by decide +kernel
theorem dX5_turned_62 : decode cX5_turned 62 = .ok (.iload_n 2, 1) := by decide +kernel
theorem dX5_turned_63 : decode cX5_turned 63 = .ok (.invokevirtual 273, 3) := by decide +kernel
theorem dX5_turned_66 : decode cX5_turned 66 = .ok (.ireturn, 1) := by decide +kernel
theorem dX5_commutes_0 : decode cX5_commutes 0 = .ok (.aload_n 0, 1) := by decide +kernel
theorem dX5_commutes_1 : decode cX5_commutes 1 = .ok (.iload_n 1, 1) := by decide +kernel
theorem dX5_commutes_2 : decode cX5_commutes 2 = .ok (.iload_n 2, 1) := by decide +kernel
theorem dX5_commutes_3 : decode cX5_commutes 3 = .ok (.invokevirtual 171, 3) := by decide +kernel
theorem dX5_commutes_6 : decode cX5_commutes 6 = .ok (.astore_n 3, 1) := by decide +kernel
theorem dX5_commutes_7 : decode cX5_commutes 7 = .ok (.aload_n 3, 1) := by decide +kernel
theorem dX5_commutes_8 : decode cX5_commutes 8 = .ok (.ifnull 13, 3) := by decide +kernel
theorem dX5_commutes_11 : decode cX5_commutes 11 = .ok (.iload_n 2, 1) := by decide +kernel
theorem dX5_commutes_12 : decode cX5_commutes 12 = .ok (.aload_n 3, 1) := by decide +kernel
theorem dX5_commutes_13 : decode cX5_commutes 13 = .ok (.getfield 154, 3) := by decide +kernel
theorem dX5_commutes_16 : decode cX5_commutes 16 = .ok (.iconst 1, 1) := by decide +kernel
theorem dX5_commutes_17 : decode cX5_commutes 17 = .ok (.isub, 1) := by decide +kernel
theorem dX5_commutes_18 : decode cX5_commutes 18 = .ok (.if_icmp .ne 5, 3) := by decide +kernel
theorem dX5_commutes_21 : decode cX5_commutes 21 = .ok (.iconst (-1), 1) := by decide +kernel
theorem dX5_commutes_22 : decode cX5_commutes 22 = .ok (.ireturn, 1) := by decide +kernel
theorem dX5_commutes_23 : decode cX5_commutes 23 = .ok (.aload_n 0, 1) := by decide +kernel
theorem dX5_commutes_24 : decode cX5_commutes 24 = .ok (.aload_n 3, 1) := by decide +kernel
theorem dX5_commutes_25 : decode cX5_commutes 25 = .ok (.iconst 0, 1) := by decide +kernel
theorem dX5_commutes_26 : decode cX5_commutes 26 = .ok (.aload_n 3, 1) := by decide +kernel
theorem dX5_commutes_27 : decode cX5_commutes 27 = .ok (.getfield 154, 3) := by decide +kernel
theorem dX5_commutes_30 : decode cX5_commutes 30 = .ok (.invokevirtual 259, 3) := by decide +kernel
theorem dX5_commutes_33 : decode cX5_commutes 33 = .ok (.aload_n 0, 1) := by decide +kernel
theorem dX5_commutes_34 : decode cX5_commutes 34 = .ok (.getfield 40, 3) := by decide +kernel
theorem dX5_commutes_37 : decode cX5_commutes 37 = .ok (.invokevirtual 275, 3) := by decide +kernel
theorem dX5_commutes_40 : decode cX5_commutes 40 = .ok (.aload_n 0, 1) := by decide +kernel
theorem dX5_commutes_41 : decode cX5_commutes 41 = .ok (.getfield 40, 3) := by decide +kernel
theorem dX5_commutes_44 : decode cX5_commutes 44 = .ok (.aload_n 3, 1) := by decide +kernel
theorem dX5_commutes_45 : decode cX5_commutes 45 = .ok (.getfield 98, 3) := by decide +kernel
theorem dX5_commutes_48 : decode cX5_commutes 48 = .ok (.invokevirtual 251, 3) := by decide +kernel
theorem dX5_commutes_51 : decode cX5_commutes 51 = .ok (.iconst 0, 1) := by decide +kernel
theorem dX5_commutes_52 : decode cX5_commutes 52 = .ok (.istore 4, 2) := by decide +kernel
theorem dX5_commutes_54 : decode cX5_commutes 54 = .ok (.iload 4, 2) := by decide +kernel
theorem dX5_commutes_56 : decode cX5_commutes 56 = .ok (.aload_n 3, 1) := by decide +kernel
theorem dX5_commutes_57 : decode cX5_commutes 57 = .ok (.getfield 154, 3) := by decide +kernel
theorem dX5_commutes_60 : decode cX5_commutes 60 = .ok (.if_icmp .ge 51, 3) := by decide +kernel
theorem dX5_commutes_63 : decode cX5_commutes 63 = .ok (.iload 4, 2) := by decide +kernel
theorem dX5_commutes_65 : decode cX5_commutes 65 = .ok (.iload_n 2, 1) := by decide +kernel
theorem dX5_commutes_66 : decode cX5_commutes 66 = .ok (.if_icmp .ne 9, 3) := by decide +kernel
theorem dX5_commutes_69 : decode cX5_commutes 69 = .ok (.iload_n 2, 1) := by decide +kernel
theorem dX5_commutes_70 : decode cX5_commutes 70 = .ok (.iconst 1, 1) := by decide +kernel
theorem dX5_commutes_71 : decode cX5_commutes 71 = .ok (.iadd, 1) := by decide +kernel
theorem dX5_commutes_72 : decode cX5_commutes 72 = .ok (.goto 17, 3) := by decide +kernel
theorem dX5_commutes_75 : decode cX5_commutes 75 = .ok (.iload 4, 2) := by decide +kernel
theorem dX5_commutes_77 : decode cX5_commutes 77 = .ok (.iload_n 2, 1) := by decide +kernel
theorem dX5_commutes_78 : decode cX5_commutes 78 = .ok (.iconst 1, 1) := by decide +kernel
theorem dX5_commutes_79 : decode cX5_commutes 79 = .ok (.iadd, 1) := by decide +kernel
theorem dX5_commutes_80 : decode cX5_commutes 80 = .ok (.if_icmp .ne 7, 3) := by decide +kernel
theorem dX5_commutes_83 : decode cX5_commutes 83 = .ok (.iload_n 2, 1) := by decide +kernel
theorem dX5_commutes_84 : decode cX5_commutes 84 = .ok (.goto 5, 3) := by decide +kernel
theorem dX5_commutes_87 : decode cX5_commutes 87 = .ok (.iload 4, 2) := by decide +kernel
theorem dX5_commutes_89 : decode cX5_commutes 89 = .ok (.istore 5, 2) := by decide +kernel
theorem dX5_commutes_91 : decode cX5_commutes 91 = .ok (.aload_n 0, 1) := by decide +kernel
theorem dX5_commutes_92 : decode cX5_commutes 92 = .ok (.getfield 40, 3) := by decide +kernel
theorem dX5_commutes_95 : decode cX5_commutes 95 = .ok (.aload_n 3, 1) := by decide +kernel
theorem dX5_commutes_96 : decode cX5_commutes 96 = .ok (.getfield 176, 3) := by decide +kernel
theorem dX5_commutes_99 : decode cX5_commutes 99 = .ok (.iload 5, 2) := by decide +kernel
theorem dX5_commutes_101 : decode cX5_commutes 101 = .ok (.iaload, 1) := by decide +kernel
theorem dX5_commutes_102 : decode cX5_commutes 102 = .ok (.invokevirtual 253, 3) := by decide +kernel
theorem dX5_commutes_105 : decode cX5_commutes 105 = .ok (.iinc 4 1, 3) := by decide +kernel
theorem dX5_commutes_108 : decode cX5_commutes 108 = .ok (.goto (-54), 3) := by decide +kernel
theorem dX5_commutes_111 : decode cX5_commutes 111 = .ok (.aload_n 0, 1) := by decide +kernel
theorem dX5_commutes_112 : decode cX5_commutes 112 = .ok (.getfield 40, 3) := by decide +kernel
theorem dX5_commutes_115 : decode cX5_commutes 115 = .ok (.invokevirtual 278, 3) := by decide +kernel
theorem dX5_commutes_118 : decode cX5_commutes 118 = .ok (.ifCond .eq 7, 3) := by decide +kernel
theorem dX5_commutes_121 : decode cX5_commutes 121 = .ok (.iconst 1, 1) := by decide +kernel
theorem dX5_commutes_122 : decode cX5_commutes 122 = .ok (.goto 4, 3) := by decide +kernel
theorem dX5_commutes_125 : decode cX5_commutes 125 = .ok (.iconst 0, 1) := by decide +kernel
theorem dX5_commutes_126 : decode cX5_commutes 126 = .ok (.ireturn, 1) := by decide +kernel
theorem dX5_law_0 : decode cX5_law 0 = .ok (.iload_n 2, 1) := by decide +kernel
theorem dX5_law_1 : decode cX5_law 1 = .ok (.iconst 0, 1) := by decide +kernel
theorem dX5_law_2 : decode cX5_law 2 = .ok (.iconst 2, 1) := by decide +kernel
theorem dX5_law_3 : decode cX5_law 3 = .ok (.invokestatic 59, 3) := by decide +kernel
theorem dX5_law_6 : decode cX5_law 6 = .ok (.ifCond .eq 12, 3) := by decide +kernel
theorem dX5_law_9 : decode cX5_law 9 = .ok (.aload_n 0, 1) := by decide +kernel
theorem dX5_law_10 : decode cX5_law 10 = .ok (.iload_n 1, 1) := by decide +kernel
theorem dX5_law_11 : decode cX5_law 11 = .ok (.iload_n 3, 1) := by decide +kernel
theorem dX5_law_12 : decode cX5_law 12 = .ok (.invokevirtual 281, 3) := by decide +kernel
theorem dX5_law_15 : decode cX5_law 15 = .ok (.goto 5, 3) := by decide +kernel
theorem dX5_law_18 : decode cX5_law 18 = .ok (.ldc 175, 2) := by decide +kernel
theorem dX5_law_20 : decode cX5_law 20 = .ok (.ireturn, 1) := by decide +kernel
theorem dX5_joined_0 : decode cX5_joined 0 = .ok (.aload_n 0, 1) := by decide +kernel
theorem dX5_joined_1 : decode cX5_joined 1 = .ok (.iload_n 1, 1) := by decide +kernel
theorem dX5_joined_2 : decode cX5_joined 2 = .ok (.iload_n 3, 1) := by decide +kernel
theorem dX5_joined_3 : decode cX5_joined 3 = .ok (.invokevirtual 248, 3) := by decide +kernel
theorem dX5_joined_6 : decode cX5_joined 6 = .ok (.astore 4, 2) := by decide +kernel
theorem dX5_joined_8 : decode cX5_joined 8 = .ok (.aload_n 0, 1) := by decide +kernel
theorem dX5_joined_9 : decode cX5_joined 9 = .ok (.iload_n 2, 1) := by decide +kernel
theorem dX5_joined_10 : decode cX5_joined 10 = .ok (.invokevirtual 123, 3) := by decide +kernel
theorem dX5_joined_13 : decode cX5_joined 13 = .ok (.astore 5, 2) := by decide +kernel
theorem dX5_joined_15 : decode cX5_joined 15 = .ok (.aload 4, 2) := by decide +kernel
theorem dX5_joined_17 : decode cX5_joined 17 = .ok (.ifnull 21, 3) := by decide +kernel
theorem dX5_joined_20 : decode cX5_joined 20 = .ok (.aload 5, 2) := by decide +kernel
