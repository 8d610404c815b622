theorem dX6_were_33 : decode cX6_were 33 = .ok (.aload_n 0, 1) := by decide +kernel
theorem dX6_were_34 : decode cX6_were 34 = .ok (.iload_n 1, 1) := by decide +kernel
theorem dX6_were_35 : decode cX6_were 35 = .ok (.iload_n 2, 1) := by decide +kernel
theorem dX6_were_36 : decode cX6_were 36 = .ok (.invokevirtual 247, 3) := by decide +kernel
theorem dX6_were_39 : decode cX6_were 39 = .ok (.ifCond .ne 11, 3) := by decide +kernel
theorem dX6_were_42 : decode cX6_were 42 = .ok (.aload_n 0, 1) := by decide +kernel
theorem dX6_were_43 : decode cX6_were 43 = .ok (.iload_n 1, 1) := by decide +kernel
theorem dX6_were_44 : decode cX6_were 44 = .ok (.invokevirtual 250, 3) := by decide +kernel
theorem dX6_were_47 : decode cX6_were 47 = .ok (.ifCond .eq 6, 3) := by decide +kernel
theorem dX6_were_50 : decode cX6_were 50 = .ok (.ldc 160, 2) := by decide +kernel
theorem dX6_were_52 : decode cX6_were 52 = .ok (.ireturn, 1) := by decide +kernel
theorem dX6_were_53 : decode cX6_were 53 = .ok (.aload_n 0, 1) := by decide +kernel
theorem dX6_were_54 : decode cX6_were 54 = .ok (.iload_n 1, 1) := by decide +kernel
theorem dX6_were_55 : decode cX6_were 55 = .ok (.bipush 7, 2) := by decide +kernel
theorem dX6_were_57 : decode cX6_were 57 = .ok (.invokevirtual 292, 3) := by decide +kernel
theorem dX6_were_60 : decode cX6_were 60 = .ok (.aload_n 0, 1) := by decide +kernel
theorem dX6_were_61 : decode cX6_were 61 = .ok (.bipush 7, 2) := by decide +kernel
theorem dX6_were_63 : decode cX6_were 63 = .ok (.iload_n 2, 1) := by decide +kernel
theorem dX6_were_64 : decode cX6_were 64 = .ok (.iload_n 3, 1) := by decide +kernel
theorem dX6_were_65 : decode cX6_were 65 = .ok (.invokevirtual 253, 3) := by decide +kernel
theorem dX6_were_68 : decode cX6_were 68 = .ok (.aload_n 0, 1) := by decide +kernel
theorem dX6_were_69 : decode cX6_were 69 = .ok (.bipush 7, 2) := by decide +kernel
theorem dX6_were_71 : decode cX6_were 71 = .ok (.iconst 0, 1) := by decide +kernel
theorem dX6_were_72 : decode cX6_were 72 = .ok (.aload_n 0, 1) := by decide +kernel
theorem dX6_were_73 : decode cX6_were 73 = .ok (.bipush 7, 2) := by decide +kernel
theorem dX6_were_75 : decode cX6_were 75 = .ok (.invokevirtual 116, 3) := by decide +kernel
theorem dX6_were_78 : decode cX6_were 78 = .ok (.iconst 1, 1) := by decide +kernel
theorem dX6_were_79 : decode cX6_were 79 = .ok (.isub, 1) := by decide +kernel
theorem dX6_were_80 : decode cX6_were 80 = .ok (.iload 4, 2) := by decide +kernel
theorem dX6_were_82 : decode cX6_were 82 = .ok (.invokevirtual 243, 3) := by decide +kernel
theorem dX6_were_85 : decode cX6_were 85 = .ok (.istore 5, 2) := by decide +kernel
theorem dX6_were_87 : decode cX6_were 87 = .ok (.aload_n 0, 1) := by decide +kernel
theorem dX6_were_88 : decode cX6_were 88 = .ok (.bipush 7, 2) := by decide +kernel
theorem dX6_were_90 : decode cX6_were 90 = .ok (.iconst 0, 1) := by decide +kernel
theorem dX6_were_91 : decode cX6_were 91 = .ok (.iconst 0, 1) := by decide +kernel
theorem dX6_were_92 : decode cX6_were 92 = .ok (.invokevirtual 173, 3) := by decide +kernel
theorem dX6_were_95 : decode cX6_were 95 = .ok (.iload 5, 2) := by decide +kernel
theorem dX6_were_97 : decode cX6_were 97 = .ok (.ireturn, 1) := by decide +kernel
theorem dX6_cost_0 : decode cX6_cost 0 = .ok (.aload_n 0, 1) := by decide +kernel
theorem dX6_cost_1 : decode cX6_cost 1 = .ok (.iload_n 1, 1) := by decide +kernel
theorem dX6_cost_2 : decode cX6_cost 2 = .ok (.invokevirtual 124, 3) := by decide +kernel
theorem dX6_cost_5 : decode cX6_cost 5 = .ok (.ifCond .eq 23, 3) := by decide +kernel
theorem dX6_cost_8 : decode cX6_cost 8 = .ok (.iload_n 2, 1) := by decide +kernel
theorem dX6_cost_9 : decode cX6_cost 9 = .ok (.iconst 0, 1) := by decide +kernel
theorem dX6_cost_10 : decode cX6_cost 10 = .ok (.sipush 200, 3) := by decide +kernel
theorem dX6_cost_13 : decode cX6_cost 13 = .ok (.invokestatic 76, 3) := by decide +kernel
theorem dX6_cost_16 : decode cX6_cost 16 = .ok (.ifCond .eq 12, 3) := by decide +kernel
theorem dX6_cost_19 : decode cX6_cost 19 = .ok (.iload_n 3, 1) := by decide +kernel
theorem dX6_cost_20 : decode cX6_cost 20 = .ok (.iconst 0, 1) := by decide +kernel
theorem dX6_cost_21 : decode cX6_cost 21 = .ok (.iconst 1, 1) := by decide +kernel
theorem dX6_cost_22 : decode cX6_cost 22 = .ok (.invokestatic 76, 3) := by decide +kernel
theorem dX6_cost_25 : decode cX6_cost 25 = .ok (.ifCond .ne 5, 3) := by decide +kernel
theorem dX6_cost_28 : decode cX6_cost 28 = .ok (.iconst (-1), 1) := by decide +kernel
theorem dX6_cost_29 : decode cX6_cost 29 = .ok (.ireturn, 1) := by decide +kernel
theorem dX6_cost_30 : decode cX6_cost 30 = .ok (.aload_n 0, 1) := by decide +kernel
theorem dX6_cost_31 : decode cX6_cost 31 = .ok (.iload_n 1, 1) := by decide +kernel
theorem dX6_cost_32 : decode cX6_cost 32 = .ok (.bipush 7, 2) := by decide +kernel
theorem dX6_cost_34 : decode cX6_cost 34 = .ok (.invokevirtual 292, 3) := by decide +kernel
theorem dX6_cost_37 : decode cX6_cost 37 = .ok (.iconst 0, 1) := by decide +kernel
theorem dX6_cost_38 : decode cX6_cost 38 = .ok (.istore 4, 2) := by decide +kernel
theorem dX6_cost_40 : decode cX6_cost 40 = .ok (.iconst 0, 1) := by decide +kernel
theorem dX6_cost_41 : decode cX6_cost 41 = .ok (.istore 5, 2) := by decide +kernel
theorem dX6_cost_43 : decode cX6_cost 43 = .ok (.iconst 0, 1) := by decide +kernel
theorem dX6_cost_44 : decode cX6_cost 44 = .ok (.istore 6, 2) := by decide +kernel
theorem dX6_cost_46 : decode cX6_cost 46 = .ok (.iload 6, 2) := by decide +kernel
theorem dX6_cost_48 : decode cX6_cost 48 = .ok (.iload_n 2, 1) := by decide +kernel
theorem dX6_cost_49 : decode cX6_cost 49 = .ok (.if_icmp .ge 80, 3) := by decide +kernel
theorem dX6_cost_52 : decode cX6_cost 52 = .ok (.aload_n 0, 1) := by decide +kernel
theorem dX6_cost_53 : decode cX6_cost 53 = .ok (.bipush 7, 2) := by decide +kernel
theorem dX6_cost_55 : decode cX6_cost 55 = .ok (.bipush 14, 2) := by decide +kernel
theorem dX6_cost_57 : decode cX6_cost 57 = .ok (.invokevirtual 80, 3) := by decide +kernel
theorem dX6_cost_60 : decode cX6_cost 60 = .ok (.ifCond .le 7, 3) := by decide +kernel
theorem dX6_cost_63 : decode cX6_cost 63 = .ok (.iconst 1, 1) := by decide +kernel
theorem dX6_cost_64 : decode cX6_cost 64 = .ok (.goto 4, 3) := by decide +kernel
theorem dX6_cost_67 : decode cX6_cost 67 = .ok (.iconst 0, 1) := by decide +kernel
theorem dX6_cost_68 : decode cX6_cost 68 = .ok (.istore 7, 2) := by decide +kernel
theorem dX6_cost_70 : decode cX6_cost 70 = .ok (.aload_n 0, 1) := by decide +kernel
theorem dX6_cost_71 : decode cX6_cost 71 = .ok (.bipush 7, 2) := by decide +kernel
theorem dX6_cost_73 : decode cX6_cost 73 = .ok (.bipush 14, 2) := by decide +kernel
theorem dX6_cost_75 : decode cX6_cost 75 = .ok (.iconst 1, 1) := by decide +kernel
theorem dX6_cost_76 : decode cX6_cost 76 = .ok (.invokevirtual 188, 3) := by decide +kernel
theorem dX6_cost_79 : decode cX6_cost 79 = .ok (.aload_n 0, 1) := by decide +kernel
theorem dX6_cost_80 : decode cX6_cost 80 = .ok (.bipush 7, 2) := by decide +kernel
theorem dX6_cost_82 : decode cX6_cost 82 = .ok (.iload 7, 2) := by decide +kernel
theorem dX6_cost_84 : decode cX6_cost 84 = .ok (.invokevirtual 221, 3) := by decide +kernel
theorem dX6_cost_87 : decode cX6_cost 87 = .ok (.iload 4, 2) := by decide +kernel
theorem dX6_cost_89 : decode cX6_cost 89 = .ok (.aload_n 0, 1) := by decide +kernel
theorem dX6_cost_90 : decode cX6_cost 90 = .ok (.bipush 7, 2) := by decide +kernel
theorem dX6_cost_92 : decode cX6_cost 92 = .ok (.bipush 18, 2) := by decide +kernel
theorem dX6_cost_94 : decode cX6_cost 94 = .ok (.invokevirtual 80, 3) := by decide +kernel
theorem dX6_cost_97 : decode cX6_cost 97 = .ok (.iadd, 1) := by decide +kernel
theorem dX6_cost_98 : decode cX6_cost 98 = .ok (.istore 4, 2) := by decide +kernel
theorem dX6_cost_100 : decode cX6_cost 100 = .ok (.aload_n 0, 1) := by decide +kernel
theorem dX6_cost_101 : decode cX6_cost 101 = .ok (.bipush 7, 2) := by decide +kernel
theorem dX6_cost_103 : decode cX6_cost 103 = .ok (.bipush 18, 2) := by decide +kernel
theorem dX6_cost_105 : decode cX6_cost 105 = .ok (.invokevirtual 80, 3) := by decide +kernel
theorem dX6_cost_108 : decode cX6_cost 108 = .ok (.iload 5, 2) := by decide +kernel
theorem dX6_cost_110 : decode cX6_cost 110 = .ok (.if_icmp .le 13, 3) := by decide +kernel
theorem dX6_cost_113 : decode cX6_cost 113 = .ok (.aload_n 0, 1) := by decide +kernel
theorem dX6_cost_114 : decode cX6_cost 114 = .ok (.bipush 7, 2) := by decide +kernel
theorem dX6_cost_116 : decode cX6_cost 116 = .ok (.bipush 18, 2) := by decide +kernel
theorem dX6_cost_118 : decode cX6_cost 118 = .ok (.invokevirtual 80, 3) := by decide +kernel
theorem dX6_cost_121 : decode cX6_cost 121 = .ok (.istore 5, 2) := by decide +kernel
theorem dX6_cost_123 : decode cX6_cost 123 = .ok (.iinc 6 1, 3) := by decide +kernel
theorem dX6_cost_126 : decode cX6_cost 126 = .ok (.goto (-80), 3) := by decide +kernel
theorem dX6_cost_129 : decode cX6_cost 129 = .ok (.aload_n 0, 1) := by decide +kernel
theorem dX6_cost_130 : decode cX6_cost 130 = .ok (.bipush 7, 2) := by decide +kernel
theorem dX6_cost_132 : decode cX6_cost 132 = .ok (.iconst 0, 1) := by decide +kernel
theorem dX6_cost_133 : decode cX6_cost 133 = .ok (.iconst 0, 1) := by decide +kernel
theorem dX6_cost_134 : decode cX6_cost 134 = .ok (.invokevirtual 173, 3) := by decide +kernel
theorem dX6_cost_137 : decode cX6_cost 137 = .ok (.iload_n 3, 1) := by decide +kernel
theorem dX6_cost_138 : decode cX6_cost 138 = .ok (.ifCond .ne 8, 3) := by decide +kernel
theorem dX6_cost_141 : decode cX6_cost 141 = .ok (.iload 4, 2) := by decide +kernel
theorem dX6_cost_143 : decode cX6_cost 143 = .ok (.goto 5, 3) := by decide +kernel
theorem dX6_cost_146 : decode cX6_cost 146 = .ok (.iload 5, 2) := by decide +kernel
theorem dX6_cost_148 : decode cX6_cost 148 = .ok (.ireturn, 1) := by decide +kernel
theorem dX6_isWidth_0 : decode cX6_isWidth 0 = .ok (.iload_n 1, 1) := by decide +kernel
theorem dX6_isWidth_1 : decode cX6_isWidth 1 = .ok (.iconst 1, 1) := by decide +kernel
theorem dX6_isWidth_2 : decode cX6_isWidth 2 = .ok (.ldc 239, 2) := by decide +kernel
theorem dX6_isWidth_4 : decode cX6_isWidth 4 = .ok (.invokestatic 76, 3) := by decide +kernel
theorem dX6_isWidth_7 : decode cX6_isWidth 7 = .ok (.ireturn, 1) := by decide +kernel
theorem dX6_inPane_0 : decode cX6_inPane 0 = .ok (.iconst 1, 1) := by decide +kernel
theorem dX6_inPane_1 : decode cX6_inPane 1 = .ok (.istore 4, 2) := by decide +kernel
theorem dX6_inPane_3 : decode cX6_inPane 3 = .ok (.iload_n 2, 1) := by decide +kernel
theorem dX6_inPane_4 : decode cX6_inPane 4 = .ok (.iload 4, 2) := by decide +kernel
theorem dX6_inPane_6 : decode cX6_inPane 6 = .ok (.iadd, 1) := by decide +kernel
theorem dX6_inPane_7 : decode cX6_inPane 7 = .ok (.aload_n 0, 1) := by decide +kernel
theorem dX6_inPane_8 : decode cX6_inPane 8 = .ok (.iload_n 1, 1) := by decide +kernel
theorem dX6_inPane_9 : decode cX6_inPane 9 = .ok (.invokevirtual 116, 3) := by decide +kernel
theorem dX6_inPane_12 : decode cX6_inPane 12 = .ok (.if_icmp .ge 41, 3) := by decide +kernel
theorem dX6_inPane_15 : decode cX6_inPane 15 = .ok (.aload_n 0, 1) := by decide +kernel
theorem dX6_inPane_16 : decode cX6_inPane 16 = .ok (.getfield 13, 3) := by decide +kernel
theorem dX6_inPane_19 : decode cX6_inPane 19 = .ok (.bipush 121, 2) := by decide +kernel
theorem dX6_inPane_21 : decode cX6_inPane 21 = .ok (.iload_n 1, 1) := by decide +kernel
theorem dX6_inPane_22 : decode cX6_inPane 22 = .ok (.imul, 1) := by decide +kernel
theorem dX6_inPane_23 : decode cX6_inPane 23 = .ok (.iload_n 2, 1) := by decide +kernel
theorem dX6_inPane_24 : decode cX6_inPane 24 = .ok (.iadd, 1) := by decide +kernel
theorem dX6_inPane_25 : decode cX6_inPane 25 = .ok (.iload 4, 2) := by decide +kernel
theorem dX6_inPane_27 : decode cX6_inPane 27 = .ok (.iadd, 1) := by decide +kernel
theorem dX6_inPane_28 : decode cX6_inPane 28 = .ok (.iaload, 1) := by decide +kernel
theorem dX6_inPane_29 : decode cX6_inPane 29 = .ok (.iload_n 3, 1) := by decide +kernel
theorem dX6_inPane_30 : decode cX6_inPane 30 = .ok (.idiv, 1) := by decide +kernel
theorem dX6_inPane_31 : decode cX6_inPane 31 = .ok (.aload_n 0, 1) := by decide +kernel
theorem dX6_inPane_32 : decode cX6_inPane 32 = .ok (.getfield 13, 3) := by decide +kernel
theorem dX6_inPane_35 : decode cX6_inPane 35 = .ok (.bipush 121, 2) := by decide +kernel
theorem dX6_inPane_37 : decode cX6_inPane 37 = .ok (.iload_n 1, 1) := by decide +kernel
theorem dX6_inPane_38 : decode cX6_inPane 38 = .ok (.imul, 1) := by decide +kernel
theorem dX6_inPane_39 : decode cX6_inPane 39 = .ok (.iload_n 2, 1) := by decide +kernel
theorem dX6_inPane_40 : decode cX6_inPane 40 = .ok (.iadd, 1) := by decide +kernel
theorem dX6_inPane_41 : decode cX6_inPane 41 = .ok (.iaload, 1) := by decide +kernel
theorem dX6_inPane_42 : decode cX6_inPane 42 = .ok (.iload_n 3, 1) := by decide +kernel
theorem dX6_inPane_43 : decode cX6_inPane 43 = .ok (.idiv, 1) := by decide +kernel
theorem dX6_inPane_44 : decode cX6_inPane 44 = .ok (.if_icmp .ne 9, 3) := by decide +kernel
theorem dX6_inPane_47 : decode cX6_inPane 47 = .ok (.iinc 4 1, 3) := by decide +kernel
theorem dX6_inPane_50 : decode cX6_inPane 50 = .ok (.goto (-47), 3) := by decide +kernel
theorem dX6_inPane_53 : decode cX6_inPane 53 = .ok (.iload 4, 2) := by decide +kernel
theorem dX6_inPane_55 : decode cX6_inPane 55 = .ok (.ireturn, 1) := by decide +kernel
theorem dX6_panes_0 : decode cX6_panes 0 = .ok (.aload_n 0, 1) := by decide +kernel
theorem dX6_panes_1 : decode cX6_panes 1 = .ok (.iload_n 1, 1) := by decide +kernel
theorem dX6_panes_2 : decode cX6_panes 2 = .ok (.invokevirtual 124, 3) := by decide +kernel
theorem dX6_panes_5 : decode cX6_panes 5 = .ok (.ifCond .eq 11, 3) := by decide +kernel
theorem dX6_panes_8 : decode cX6_panes 8 = .ok (.aload_n 0, 1) := by decide +kernel
theorem dX6_panes_9 : decode cX6_panes 9 = .ok (.iload_n 2, 1) := by decide +kernel
theorem dX6_panes_10 : decode cX6_panes 10 = .ok (.invokevirtual 295, 3) := by decide +kernel
theorem dX6_panes_13 : decode cX6_panes 13 = .ok (.ifCond .ne 5, 3) := by decide +kernel
theorem dX6_panes_16 : decode cX6_panes 16 = .ok (.iconst (-1), 1) := by decide +kernel
theorem dX6_panes_17 : decode cX6_panes 17 = .ok (.ireturn, 1) := by decide +kernel
theorem dX6_panes_18 : decode cX6_panes 18 = .ok (.iconst 0, 1) := by decide +kernel
theorem dX6_panes_19 : decode cX6_panes 19 = .ok (.istore_n 3, 1) := by decide +kernel
theorem dX6_panes_20 : decode cX6_panes 20 = .ok (.iconst 0, 1) := by decide +kernel
theorem dX6_panes_21 : decode cX6_panes 21 = .ok (.istore 4, 2) := by decide +kernel
theorem dX6_panes_23 : decode cX6_panes 23 = .ok (.iload 4, 2) := by decide +kernel
theorem dX6_panes_25 : decode cX6_panes 25 = .ok (.aload_n 0, 1) := by decide +kernel
theorem dX6_panes_26 : decode cX6_panes 26 = .ok (.iload_n 1, 1) := by decide +kernel
theorem dX6_panes_27 : decode cX6_panes 27 = .ok (.invokevirtual 116, 3) := by decide +kernel
theorem dX6_panes_30 : decode cX6_panes 30 = .ok (.if_icmp .ge 22, 3) := by decide +kernel
theorem dX6_panes_33 : decode cX6_panes 33 = .ok (.iinc 3 1, 3) := by decide +kernel
theorem dX6_panes_36 : decode cX6_panes 36 = .ok (.iload 4, 2) := by decide +kernel
theorem dX6_panes_38 : decode cX6_panes 38 = .ok (.aload_n 0, 1) := by decide +kernel
theorem dX6_panes_39 : decode cX6_panes 39 = .ok (.iload_n 1, 1) := by decide +kernel
theorem dX6_panes_40 : decode cX6_panes 40 = .ok (.iload 4, 2) := by decide +kernel
theorem dX6_panes_42 : decode cX6_panes 42 = .ok (.iload_n 2, 1) := by decide +kernel
theorem dX6_panes_43 : decode cX6_panes 43 = .ok (.invokevirtual 298, 3) := by decide +kernel
theorem dX6_panes_46 : decode cX6_panes 46 = .ok (.iadd, 1) := by decide +kernel
theorem dX6_panes_47 : decode cX6_panes 47 = .ok (.istore 4, 2) := by decide +kernel
theorem dX6_panes_49 : decode cX6_panes 49 = .ok (.goto (-26), 3) := by decide +kernel
theorem dX6_panes_52 : decode cX6_panes 52 = .ok (.iload_n 3, 1) := by decide +kernel
theorem dX6_panes_53 : decode cX6_panes 53 = .ok (.ireturn, 1) := by decide +kernel
theorem dX6_fullest_0 : decode cX6_fullest 0 = .ok (.aload_n 0, 1) := by decide +kernel
theorem dX6_fullest_1 : decode cX6_fullest 1 = .ok (.iload_n 1, 1) := by decide +kernel
theorem dX6_fullest_2 : decode cX6_fullest 2 = .ok (.invokevirtual 124, 3) := by decide +kernel
theorem dX6_fullest_5 : decode cX6_fullest 5 = .ok (.ifCond .eq 11, 3) := by decide +kernel
theorem dX6_fullest_8 : decode cX6_fullest 8 = .ok (.aload_n 0, 1) := by decide +kernel
theorem dX6_fullest_9 : decode cX6_fullest 9 = .ok (.iload_n 2, 1) := by decide +kernel
theorem dX6_fullest_10 : decode cX6_fullest 10 = .ok (.invokevirtual 295, 3) := by decide +kernel
theorem dX6_fullest_13 : decode cX6_fullest 13 = .ok (.ifCond .ne 5, 3) := by decide +kernel
theorem dX6_fullest_16 : decode cX6_fullest 16 = .ok (.iconst (-1), 1) := by decide +kernel
theorem dX6_fullest_17 : decode cX6_fullest 17 = .ok (.ireturn, 1) := by decide +kernel
theorem dX6_fullest_18 : decode cX6_fullest 18 = .ok (.iconst (-1), 1) := by decide +kernel
theorem dX6_fullest_19 : decode cX6_fullest 19 = .ok (.istore_n 3, 1) := by decide +kernel
theorem dX6_fullest_20 : decode cX6_fullest 20 = .ok (.iconst 0, 1) := by decide +kernel
theorem dX6_fullest_21 : decode cX6_fullest 21 = .ok (.istore 4, 2) := by decide +kernel
theorem dX6_fullest_23 : decode cX6_fullest 23 = .ok (.iconst 0, 1) := by decide +kernel
theorem dX6_fullest_24 : decode cX6_fullest 24 = .ok (.istore 5, 2) := by decide +kernel
theorem dX6_fullest_26 : decode cX6_fullest 26 = .ok (.iload 5, 2) := by decide +kernel
theorem dX6_fullest_28 : decode cX6_fullest 28 = .ok (.aload_n 0, 1) := by decide +kernel
theorem dX6_fullest_29 : decode cX6_fullest 29 = .ok (.iload_n 1, 1) := by decide +kernel
theorem dX6_fullest_30 : decode cX6_fullest 30 = .ok (.invokevirtual 116, 3) := by decide +kernel
theorem dX6_fullest_33 : decode cX6_fullest 33 = .ok (.if_icmp .ge 60, 3) := by decide +kernel
theorem dX6_fullest_36 : decode cX6_fullest 36 = .ok (.aload_n 0, 1) := by decide +kernel
theorem dX6_fullest_37 : decode cX6_fullest 37 = .ok (.iload_n 1, 1) := by decide +kernel
theorem dX6_fullest_38 : decode cX6_fullest 38 = .ok (.iload 5, 2) := by decide +kernel
theorem dX6_fullest_40 : decode cX6_fullest 40 = .ok (.iload_n 2, 1) := by decide +kernel
theorem dX6_fullest_41 : decode cX6_fullest 41 = .ok (.invokevirtual 298, 3) := by decide +kernel
theorem dX6_fullest_44 : decode cX6_fullest 44 = .ok (.iload 4, 2) := by decide +kernel
theorem dX6_fullest_46 : decode cX6_fullest 46 = .ok (.if_icmp .gt 6, 3) := by decide +kernel
theorem dX6_fullest_49 : decode cX6_fullest 49 = .ok (.goto 28, 3) := by decide +kernel
theorem dX6_fullest_52 : decode cX6_fullest 52 = .ok (.aload_n 0, 1) := by decide +kernel
theorem dX6_fullest_53 : decode cX6_fullest 53 = .ok (.iload_n 1, 1) := by decide +kernel
theorem dX6_fullest_54 : decode cX6_fullest 54 = .ok (.iload 5, 2) := by decide +kernel
theorem dX6_fullest_56 : decode cX6_fullest 56 = .ok (.iload_n 2, 1) := by decide +kernel
theorem dX6_fullest_57 : decode cX6_fullest 57 = .ok (.invokevirtual 298, 3) := by decide +kernel
theorem dX6_fullest_60 : decode cX6_fullest 60 = .ok (.istore 4, 2) := by decide +kernel
theorem dX6_fullest_62 : decode cX6_fullest 62 = .ok (.aload_n 0, 1) := by decide +kernel
theorem dX6_fullest_63 : decode cX6_fullest 63 = .ok (.getfield 13, 3) := by decide +kernel
theorem dX6_fullest_66 : decode cX6_fullest 66 = .ok (.bipush 121, 2) := by decide +kernel
theorem dX6_fullest_68 : decode cX6_fullest 68 = .ok (.iload_n 1, 1) := by decide +kernel
theorem dX6_fullest_69 : decode cX6_fullest 69 = .ok (.imul, 1) := by decide +kernel
theorem dX6_fullest_70 : decode cX6_fullest 70 = .ok (.iload 5, 2) := by decide +kernel
theorem dX6_fullest_72 : decode cX6_fullest 72 = .ok (.iadd, 1) := by decide +kernel
theorem dX6_fullest_73 : decode cX6_fullest 73 = .ok (.iaload, 1) := by decide +kernel
theorem dX6_fullest_74 : decode cX6_fullest 74 = .ok (.iload_n 2, 1) := by decide +kernel
theorem dX6_fullest_75 : decode cX6_fullest 75 = .ok (.idiv, 1) := by decide +kernel
theorem dX6_fullest_76 : decode cX6_fullest 76 = .ok (.istore_n 3, 1) := by decide +kernel
theorem dX6_fullest_77 : decode cX6_fullest 77 = .ok (.iload 5, 2) := by decide +kernel
theorem dX6_fullest_79 : decode cX6_fullest 79 = .ok (.aload_n 0, 1) := by decide +kernel
theorem dX6_fullest_80 : decode cX6_fullest 80 = .ok (.iload_n 1, 1) := by decide +kernel
theorem dX6_fullest_81 : decode cX6_fullest 81 = .ok (.iload 5, 2) := by decide +kernel
theorem dX6_fullest_83 : decode cX6_fullest 83 = .ok (.iload_n 2, 1) := by decide +kernel
theorem dX6_fullest_84 : decode cX6_fullest 84 = .ok (.invokevirtual 298, 3) := by decide +kernel
theorem dX6_fullest_87 : decode cX6_fullest 87 = .ok (.iadd, 1) := by decide +kernel
theorem dX6_fullest_88 : decode cX6_fullest 88 = .ok (.istore 5, 2) := by decide +kernel
theorem dX6_fullest_90 : decode cX6_fullest 90 = .ok (.goto (-64), 3) := by decide +kernel
theorem dX6_fullest_93 : decode cX6_fullest 93 = .ok (.iload_n 3, 1) := by decide +kernel
theorem dX6_fullest_94 : decode cX6_fullest 94 = .ok (.ireturn, 1) := by decide +kernel
theorem dX6_isGap_0 : decode cX6_isGap 0 = .ok (.iload_n 1, 1) := by decide +kernel
theorem dX6_isGap_1 : decode cX6_isGap 1 = .ok (.iconst 0, 1) := by decide +kernel
theorem dX6_isGap_2 : decode cX6_isGap 2 = .ok (.ldc 239, 2) := by decide +kernel
theorem dX6_isGap_4 : decode cX6_isGap 4 = .ok (.invokestatic 76, 3) := by decide +kernel
theorem dX6_isGap_7 : decode cX6_isGap 7 = .ok (.ireturn, 1) := by decide +kernel
theorem dX6_inSession_0 : decode cX6_inSession 0 = .ok (.iconst 1, 1) := by decide +kernel
theorem dX6_inSession_1 : decode cX6_inSession 1 = .ok (.istore 4, 2) := by decide +kernel
theorem dX6_inSession_3 : decode cX6_inSession 3 = .ok (.iload_n 2, 1) := by decide +kernel
theorem dX6_inSession_4 : decode cX6_inSession 4 = .ok (.iload 4, 2) := by decide +kernel
theorem dX6_inSession_6 : decode cX6_inSession 6 = .ok (.iadd, 1) := by decide +kernel
theorem dX6_inSession_7 : decode cX6_inSession 7 = .ok (.aload_n 0, 1) := by decide +kernel
theorem dX6_inSession_8 : decode cX6_inSession 8 = .ok (.iload_n 1, 1) := by decide +kernel
theorem dX6_inSession_9 : decode cX6_inSession 9 = .ok (.invokevirtual 116, 3) := by decide +kernel
theorem dX6_inSession_12 : decode cX6_inSession 12 = .ok (.if_icmp .ge 44, 3) := by decide +kernel
theorem dX6_inSession_15 : decode cX6_inSession 15 = .ok (.aload_n 0, 1) := by decide +kernel
theorem dX6_inSession_16 : decode cX6_inSession 16 = .ok (.getfield 13, 3) := by decide +kernel
theorem dX6_inSession_19 : decode cX6_inSession 19 = .ok (.bipush 121, 2) := by decide +kernel
theorem dX6_inSession_21 : decode cX6_inSession 21 = .ok (.iload_n 1, 1) := by decide +kernel
theorem dX6_inSession_22 : decode cX6_inSession 22 = .ok (.imul, 1) := by decide +kernel
theorem dX6_inSession_23 : decode cX6_inSession 23 = .ok (.iload_n 2, 1) := by decide +kernel
theorem dX6_inSession_24 : decode cX6_inSession 24 = .ok (.iadd, 1) := by decide +kernel
theorem dX6_inSession_25 : decode cX6_inSession 25 = .ok (.iload 4, 2) := by decide +kernel
theorem dX6_inSession_27 : decode cX6_inSession 27 = .ok (.iadd, 1) := by decide +kernel
theorem dX6_inSession_28 : decode cX6_inSession 28 = .ok (.iaload, 1) := by decide +kernel
theorem dX6_inSession_29 : decode cX6_inSession 29 = .ok (.aload_n 0, 1) := by decide +kernel
theorem dX6_inSession_30 : decode cX6_inSession 30 = .ok (.getfield 13, 3) := by decide +kernel
theorem dX6_inSession_33 : decode cX6_inSession 33 = .ok (.bipush 121, 2) := by decide +kernel
theorem dX6_inSession_35 : decode cX6_inSession 35 = .ok (.iload_n 1, 1) := by decide +kernel
theorem dX6_inSession_36 : decode cX6_inSession 36 = .ok (.imul, 1) := by decide +kernel
theorem dX6_inSession_37 : decode cX6_inSession 37 = .ok (.iload_n 2, 1) := by decide +kernel
theorem dX6_inSession_38 : decode cX6_inSession 38 = .ok (.iadd, 1) := by decide +kernel
theorem dX6_inSession_39 : decode cX6_inSession 39 = .ok (.iload 4, 2) := by decide +kernel
theorem dX6_inSession_41 : decode cX6_inSession 41 = .ok (.iadd, 1) := by decide +kernel
theorem dX6_inSession_42 : decode cX6_inSession 42 = .ok (.iconst 1, 1) := by decide +kernel
theorem dX6_inSession_43 : decode cX6_inSession 43 = .ok (.isub, 1) := by decide +kernel
theorem dX6_inSession_44 : decode cX6_inSession 44 = .ok (.iaload, 1) := by decide +kernel
theorem dX6_inSession_45 : decode cX6_inSession 45 = .ok (.isub, 1) := by decide +kernel
theorem dX6_inSession_46 : decode cX6_inSession 46 = .ok (.iload_n 3, 1) := by decide +kernel
theorem dX6_inSession_47 : decode cX6_inSession 47 = .ok (.if_icmp .gt 9, 3) := by decide +kernel
theorem dX6_inSession_50 : decode cX6_inSession 50 = .ok (.iinc 4 1, 3) := by decide +kernel
theorem dX6_inSession_53 : decode cX6_inSession 53 = .ok (.goto (-50), 3) := by decide +kernel
theorem dX6_inSession_56 : decode cX6_inSession 56 = .ok (.iload 4, 2) := by decide +kernel
theorem dX6_inSession_58 : decode cX6_inSession 58 = .ok (.ireturn, 1) := by decide +kernel
theorem dX6_sessions_0 : decode cX6_sessions 0 = .ok (.aload_n 0, 1) := by decide +kernel
theorem dX6_sessions_1 : decode cX6_sessions 1 = .ok (.iload_n 1, 1) := by decide +kernel
theorem dX6_sessions_2 : decode cX6_sessions 2 = .ok (.invokevirtual 124, 3) := by decide +kernel
theorem dX6_sessions_5 : decode cX6_sessions 5 = .ok (.ifCond .eq 11, 3) := by decide +kernel
theorem dX6_sessions_8 : decode cX6_sessions 8 = .ok (.aload_n 0, 1) := by decide +kernel
theorem dX6_sessions_9 : decode cX6_sessions 9 = .ok (.iload_n 2, 1) := by decide +kernel
theorem dX6_sessions_10 : decode cX6_sessions 10 = .ok (.invokevirtual 301, 3) := by decide +kernel
theorem dX6_sessions_13 : decode cX6_sessions 13 = .ok (.ifCond .ne 5, 3) := by decide +kernel
theorem dX6_sessions_16 : decode cX6_sessions 16 = .ok (.iconst (-1), 1) := by decide +kernel
theorem dX6_sessions_17 : decode cX6_sessions 17 = .ok (.ireturn, 1) := by decide +kernel
theorem dX6_sessions_18 : decode cX6_sessions 18 = .ok (.iconst 0, 1) := by decide +kernel
theorem dX6_sessions_19 : decode cX6_sessions 19 = .ok (.istore_n 3, 1) := by decide +kernel
theorem dX6_sessions_20 : decode cX6_sessions 20 = .ok (.iconst 0, 1) := by decide +kernel
theorem dX6_sessions_21 : decode cX6_sessions 21 = .ok (.istore 4, 2) := by decide +kernel
theorem dX6_sessions_23 : decode cX6_sessions 23 = .ok (.iload 4, 2) := by decide +kernel
theorem dX6_sessions_25 : decode cX6_sessions 25 = .ok (.aload_n 0, 1) := by decide +kernel
theorem dX6_sessions_26 : decode cX6_sessions 26 = .ok (.iload_n 1, 1) := by decide +kernel
theorem dX6_sessions_27 : decode cX6_sessions 27 = .ok (.invokevirtual 116, 3) := by decide +kernel
theorem dX6_sessions_30 : decode cX6_sessions 30 = .ok (.if_icmp .ge 22, 3) := by decide +kernel
theorem dX6_sessions_33 : decode cX6_sessions 33 = .ok (.iinc 3 1, 3) := by decide +kernel
theorem dX6_sessions_36 : decode cX6_sessions 36 = .ok (.iload 4, 2) := by decide +kernel
theorem dX6_sessions_38 : decode cX6_sessions 38 = .ok (.aload_n 0, 1) := by decide +kernel
theorem dX6_sessions_39 : decode cX6_sessions 39 = .ok (.iload_n 1, 1) := by decide +kernel
theorem dX6_sessions_40 : decode cX6_sessions 40 = .ok (.iload 4, 2) := by decide +kernel
theorem dX6_sessions_42 : decode cX6_sessions 42 = .ok (.iload_n 2, 1) := by decide +kernel
theorem dX6_sessions_43 : decode cX6_sessions 43 = .ok (.invokevirtual 304, 3) := by decide +kernel
theorem dX6_sessions_46 : decode cX6_sessions 46 = .ok (.iadd, 1) := by decide +kernel
theorem dX6_sessions_47 : decode cX6_sessions 47 = .ok (.istore 4, 2) := by decide +kernel
theorem dX6_sessions_49 : decode cX6_sessions 49 = .ok (.goto (-26), 3) := by decide +kernel
theorem dX6_sessions_52 : decode cX6_sessions 52 = .ok (.iload_n 3, 1) := by decide +kernel
theorem dX6_sessions_53 : decode cX6_sessions 53 = .ok (.ireturn, 1) := by decide +kernel
theorem dX6_session_0 : decode cX6_session 0 = .ok (.aload_n 0, 1) := by decide +kernel
theorem dX6_session_1 : decode cX6_session 1 = .ok (.iload_n 1, 1) := by decide +kernel
theorem dX6_session_2 : decode cX6_session 2 = .ok (.iload 4, 2) := by decide +kernel
theorem dX6_session_4 : decode cX6_session 4 = .ok (.invokevirtual 207, 3) := by decide +kernel
theorem dX6_session_7 : decode cX6_session 7 = .ok (.ifCond .eq 15, 3) := by decide +kernel
theorem dX6_session_10 : decode cX6_session 10 = .ok (.aload_n 0, 1) := by decide +kernel
theorem dX6_session_11 : decode cX6_session 11 = .ok (.iload_n 2, 1) := by decide +kernel
theorem dX6_session_12 : decode cX6_session 12 = .ok (.invokevirtual 301, 3) := by decide +kernel
theorem dX6_session_15 : decode cX6_session 15 = .ok (.ifCond .eq 7, 3) := by decide +kernel
theorem dX6_session_18 : decode cX6_session 18 = .ok (.iload_n 3, 1) := by decide +kernel
theorem dX6_session_19 : decode cX6_session 19 = .ok (.ifCond .ge 6, 3) := by decide +kernel
theorem dX6_session_22 : decode cX6_session 22 = .ok (.ldc 160, 2) := by decide +kernel
theorem dX6_session_24 : decode cX6_session 24 = .ok (.ireturn, 1) := by decide +kernel
theorem dX6_session_25 : decode cX6_session 25 = .ok (.iconst 0, 1) := by decide +kernel
theorem dX6_session_26 : decode cX6_session 26 = .ok (.istore 5, 2) := by decide +kernel
theorem dX6_session_28 : decode cX6_session 28 = .ok (.iconst 0, 1) := by decide +kernel
theorem dX6_session_29 : decode cX6_session 29 = .ok (.istore 6, 2) := by decide +kernel
theorem dX6_session_31 : decode cX6_session 31 = .ok (.iload 6, 2) := by decide +kernel
theorem dX6_session_33 : decode cX6_session 33 = .ok (.iload_n 3, 1) := by decide +kernel
theorem dX6_session_34 : decode cX6_session 34 = .ok (.if_icmp .ge 32, 3) := by decide +kernel
theorem dX6_session_37 : decode cX6_session 37 = .ok (.iload 5, 2) := by decide +kernel
theorem dX6_session_39 : decode cX6_session 39 = .ok (.aload_n 0, 1) := by decide +kernel
theorem dX6_session_40 : decode cX6_session 40 = .ok (.iload_n 1, 1) := by decide +kernel
theorem dX6_session_41 : decode cX6_session 41 = .ok (.invokevirtual 116, 3) := by decide +kernel
theorem dX6_session_44 : decode cX6_session 44 = .ok (.if_icmp .ge 22, 3) := by decide +kernel
theorem dX6_session_47 : decode cX6_session 47 = .ok (.iload 5, 2) := by decide +kernel
theorem dX6_session_49 : decode cX6_session 49 = .ok (.aload_n 0, 1) := by decide +kernel
theorem dX6_session_50 : decode cX6_session 50 = .ok (.iload_n 1, 1) := by decide +kernel
theorem dX6_session_51 : decode cX6_session 51 = .ok (.iload 5, 2) := by decide +kernel
theorem dX6_session_53 : decode cX6_session 53 = .ok (.iload_n 2, 1) := by decide +kernel
theorem dX6_session_54 : decode cX6_session 54 = .ok (.invokevirtual 304, 3) := by decide +kernel
theorem dX6_session_57 : decode cX6_session 57 = .ok (.iadd, 1) := by decide +kernel
theorem dX6_session_58 : decode cX6_session 58 = .ok (.istore 5, 2) := by decide +kernel
theorem dX6_session_60 : decode cX6_session 60 = .ok (.iinc 6 1, 3) := by decide +kernel
theorem dX6_session_63 : decode cX6_session 63 = .ok (.goto (-32), 3) := by decide +kernel
theorem dX6_session_66 : decode cX6_session 66 = .ok (.iload 5, 2) := by decide +kernel
theorem dX6_session_68 : decode cX6_session 68 = .ok (.aload_n 0, 1) := by decide +kernel
theorem dX6_session_69 : decode cX6_session 69 = .ok (.iload_n 1, 1) := by decide +kernel
theorem dX6_session_70 : decode cX6_session 70 = .ok (.invokevirtual 116, 3) := by decide +kernel
theorem dX6_session_73 : decode cX6_session 73 = .ok (.if_icmp .ge 28, 3) := by decide +kernel
theorem dX6_session_76 : decode cX6_session 76 = .ok (.aload_n 0, 1) := by decide +kernel
theorem dX6_session_77 : decode cX6_session 77 = .ok (.iload_n 1, 1) := by decide +kernel
theorem dX6_session_78 : decode cX6_session 78 = .ok (.iload 5, 2) := by decide +kernel
theorem dX6_session_80 : decode cX6_session 80 = .ok (.iload 5, 2) := by decide +kernel
theorem dX6_session_82 : decode cX6_session 82 = .ok (.aload_n 0, 1) := by decide +kernel
theorem dX6_session_83 : decode cX6_session 83 = .ok (.iload_n 1, 1) := by decide +kernel
theorem dX6_session_84 : decode cX6_session 84 = .ok (.iload 5, 2) := by decide +kernel
theorem dX6_session_86 : decode cX6_session 86 = .ok (.iload_n 2, 1) := by decide +kernel
theorem dX6_session_87 : decode cX6_session 87 = .ok (.invokevirtual 304, 3) := by decide +kernel
theorem dX6_session_90 : decode cX6_session 90 = .ok (.iadd, 1) := by decide +kernel
theorem dX6_session_91 : decode cX6_session 91 = .ok (.iconst 1, 1) := by decide +kernel
theorem dX6_session_92 : decode cX6_session 92 = .ok (.isub, 1) := by decide +kernel
theorem dX6_session_93 : decode cX6_session 93 = .ok (.iload 4, 2) := by decide +kernel
theorem dX6_session_95 : decode cX6_session 95 = .ok (.invokevirtual 243, 3) := by decide +kernel
theorem dX6_session_98 : decode cX6_session 98 = .ok (.goto 5, 3) := by decide +kernel
theorem dX6_session_101 : decode cX6_session 101 = .ok (.ldc 160, 2) := by decide +kernel
theorem dX6_session_103 : decode cX6_session 103 = .ok (.ireturn, 1) := by decide +kernel
theorem dX6_longest_0 : decode cX6_longest 0 = .ok (.aload_n 0, 1) := by decide +kernel
theorem dX6_longest_1 : decode cX6_longest 1 = .ok (.iload_n 1, 1) := by decide +kernel
theorem dX6_longest_2 : decode cX6_longest 2 = .ok (.invokevirtual 124, 3) := by decide +kernel
theorem dX6_longest_5 : decode cX6_longest 5 = .ok (.ifCond .eq 11, 3) := by decide +kernel
theorem dX6_longest_8 : decode cX6_longest 8 = .ok (.aload_n 0, 1) := by decide +kernel
theorem dX6_longest_9 : decode cX6_longest 9 = .ok (.iload_n 2, 1) := by decide +kernel
theorem dX6_longest_10 : decode cX6_longest 10 = .ok (.invokevirtual 301, 3) := by decide +kernel
theorem dX6_longest_13 : decode cX6_longest 13 = .ok (.ifCond .ne 5, 3) := by decide +kernel
theorem dX6_longest_16 : decode cX6_longest 16 = .ok (.iconst (-1), 1) := by decide +kernel
theorem dX6_longest_17 : decode cX6_longest 17 = .ok (.ireturn, 1) := by decide +kernel
theorem dX6_longest_18 : decode cX6_longest 18 = .ok (.iconst (-1), 1) := by decide +kernel
theorem dX6_longest_19 : decode cX6_longest 19 = .ok (.istore_n 3, 1) := by decide +kernel
theorem dX6_longest_20 : decode cX6_longest 20 = .ok (.iconst 0, 1) := by decide +kernel
theorem dX6_longest_21 : decode cX6_longest 21 = .ok (.istore 4, 2) := by decide +kernel
theorem dX6_longest_23 : decode cX6_longest 23 = .ok (.iconst 0, 1) := by decide +kernel
theorem dX6_longest_24 : decode cX6_longest 24 = .ok (.istore 5, 2) := by decide +kernel
theorem dX6_longest_26 : decode cX6_longest 26 = .ok (.iconst 0, 1) := by decide +kernel
theorem dX6_longest_27 : decode cX6_longest 27 = .ok (.istore 6, 2) := by decide +kernel
theorem dX6_longest_29 : decode cX6_longest 29 = .ok (.iload 6, 2) := by decide +kernel
theorem dX6_longest_31 : decode cX6_longest 31 = .ok (.aload_n 0, 1) := by decide +kernel
theorem dX6_longest_32 : decode cX6_longest 32 = .ok (.iload_n 1, 1) := by decide +kernel
theorem dX6_longest_33 : decode cX6_longest 33 = .ok (.invokevirtual 116, 3) := by decide +kernel
theorem dX6_longest_36 : decode cX6_longest 36 = .ok (.if_icmp .ge 48, 3) := by decide +kernel
theorem dX6_longest_39 : decode cX6_longest 39 = .ok (.aload_n 0, 1) := by decide +kernel
theorem dX6_longest_40 : decode cX6_longest 40 = .ok (.iload_n 1, 1) := by decide +kernel
theorem dX6_longest_41 : decode cX6_longest 41 = .ok (.iload 6, 2) := by decide +kernel
theorem dX6_longest_43 : decode cX6_longest 43 = .ok (.iload_n 2, 1) := by decide +kernel
theorem dX6_longest_44 : decode cX6_longest 44 = .ok (.invokevirtual 304, 3) := by decide +kernel
theorem dX6_longest_47 : decode cX6_longest 47 = .ok (.iload 4, 2) := by decide +kernel
theorem dX6_longest_49 : decode cX6_longest 49 = .ok (.if_icmp .le 16, 3) := by decide +kernel
theorem dX6_longest_52 : decode cX6_longest 52 = .ok (.aload_n 0, 1) := by decide +kernel
theorem dX6_longest_53 : decode cX6_longest 53 = .ok (.iload_n 1, 1) := by decide +kernel
theorem dX6_longest_54 : decode cX6_longest 54 = .ok (.iload 6, 2) := by decide +kernel
theorem dX6_longest_56 : decode cX6_longest 56 = .ok (.iload_n 2, 1) := by decide +kernel
theorem dX6_longest_57 : decode cX6_longest 57 = .ok (.invokevirtual 304, 3) := by decide +kernel
theorem dX6_longest_60 : decode cX6_longest 60 = .ok (.istore 4, 2) := by decide +kernel
theorem dX6_longest_62 : decode cX6_longest 62 = .ok (.iload 5, 2) := by decide +kernel
theorem dX6_longest_64 : decode cX6_longest 64 = .ok (.istore_n 3, 1) := by decide +kernel
theorem dX6_longest_65 : decode cX6_longest 65 = .ok (.iinc 5 1, 3) := by decide +kernel
theorem dX6_longest_68 : decode cX6_longest 68 = .ok (.iload 6, 2) := by decide +kernel
theorem dX6_longest_70 : decode cX6_longest 70 = .ok (.aload_n 0, 1) := by decide +kernel
theorem dX6_longest_71 : decode cX6_longest 71 = .ok (.iload_n 1, 1) := by decide +kernel
theorem dX6_longest_72 : decode cX6_longest 72 = .ok (.iload 6, 2) := by decide +kernel
theorem dX6_longest_74 : decode cX6_longest 74 = .ok (.iload_n 2, 1) := by decide +kernel
theorem dX6_longest_75 : decode cX6_longest 75 = .ok (.invokevirtual 304, 3) := by decide +kernel
theorem dX6_longest_78 : decode cX6_longest 78 = .ok (.iadd, 1) := by decide +kernel
theorem dX6_longest_79 : decode cX6_longest 79 = .ok (.istore 6, 2) := by decide +kernel
theorem dX6_longest_81 : decode cX6_longest 81 = .ok (.goto (-52), 3) := by decide +kernel
theorem dX6_longest_84 : decode cX6_longest 84 = .ok (.iload_n 3, 1) := by decide +kernel
theorem dX6_longest_85 : decode cX6_longest 85 = .ok (.ireturn, 1) := by decide +kernel
theorem dX6_lane_0 : decode cX6_lane 0 = .ok (.aload_n 0, 1) := by decide +kernel
theorem dX6_lane_1 : decode cX6_lane 1 = .ok (.iload_n 1, 1) := by decide +kernel
theorem dX6_lane_2 : decode cX6_lane 2 = .ok (.invokevirtual 124, 3) := by decide +kernel
theorem dX6_lane_5 : decode cX6_lane 5 = .ok (.ifCond .ne 5, 3) := by decide +kernel
theorem dX6_lane_8 : decode cX6_lane 8 = .ok (.iconst (-1), 1) := by decide +kernel
theorem dX6_lane_9 : decode cX6_lane 9 = .ok (.ireturn, 1) := by decide +kernel
theorem dX6_lane_10 : decode cX6_lane 10 = .ok (.iload_n 2, 1) := by decide +kernel
theorem dX6_lane_11 : decode cX6_lane 11 = .ok (.tableswitch 139 0 10 #[57, 64, 71, 78, 85, 91, 99, 107, 115, 123, 131], 57) := by decide +kernel
theorem dX6_lane_68 : decode cX6_lane 68 = .ok (.aload_n 0, 1) := by decide +kernel
theorem dX6_lane_69 : decode cX6_lane 69 = .ok (.iload_n 1, 1) := by decide +kernel
theorem dX6_lane_70 : decode cX6_lane 70 = .ok (.iconst 1, 1) := by decide +kernel
theorem dX6_lane_71 : decode cX6_lane 71 = .ok (.invokevirtual 80, 3) := by decide +kernel
theorem dX6_lane_74 : decode cX6_lane 74 = .ok (.ireturn, 1) := by decide +kernel
theorem dX6_lane_75 : decode cX6_lane 75 = .ok (.aload_n 0, 1) := by decide +kernel
theorem dX6_lane_76 : decode cX6_lane 76 = .ok (.iload_n 1, 1) := by decide +kernel
theorem dX6_lane_77 : decode cX6_lane 77 = .ok (.iconst 2, 1) := by decide +kernel
theorem dX6_lane_78 : decode cX6_lane 78 = .ok (.invokevirtual 80, 3) := by decide +kernel
theorem dX6_lane_81 : decode cX6_lane 81 = .ok (.ireturn, 1) := by decide +kernel
theorem dX6_lane_82 : decode cX6_lane 82 = .ok (.aload_n 0, 1) := by decide +kernel
theorem dX6_lane_83 : decode cX6_lane 83 = .ok (.iload_n 1, 1) := by decide +kernel
theorem dX6_lane_84 : decode cX6_lane 84 = .ok (.iconst 3, 1) := by decide +kernel
theorem dX6_lane_85 : decode cX6_lane 85 = .ok (.invokevirtual 80, 3) := by decide +kernel
theorem dX6_lane_88 : decode cX6_lane 88 = .ok (.ireturn, 1) := by decide +kernel
theorem dX6_lane_89 : decode cX6_lane 89 = .ok (.aload_n 0, 1) := by decide +kernel
theorem dX6_lane_90 : decode cX6_lane 90 = .ok (.iload_n 1, 1) := by decide +kernel
theorem dX6_lane_91 : decode cX6_lane 91 = .ok (.iconst 4, 1) := by decide +kernel
theorem dX6_lane_92 : decode cX6_lane 92 = .ok (.invokevirtual 80, 3) := by decide +kernel
theorem dX6_lane_95 : decode cX6_lane 95 = .ok (.ireturn, 1) := by decide +kernel
theorem dX6_lane_96 : decode cX6_lane 96 = .ok (.aload_n 0, 1) := by decide +kernel
theorem dX6_lane_97 : decode cX6_lane 97 = .ok (.iload_n 1, 1) := by decide +kernel
theorem dX6_lane_98 : decode cX6_lane 98 = .ok (.invokevirtual 116, 3) := by decide +kernel
theorem dX6_lane_101 : decode cX6_lane 101 = .ok (.ireturn, 1) := by decide +kernel
theorem dX6_lane_102 : decode cX6_lane 102 = .ok (.aload_n 0, 1) := by decide +kernel
theorem dX6_lane_103 : decode cX6_lane 103 = .ok (.iload_n 1, 1) := by decide +kernel
theorem dX6_lane_104 : decode cX6_lane 104 = .ok (.bipush 6, 2) := by decide +kernel
theorem dX6_lane_106 : decode cX6_lane 106 = .ok (.invokevirtual 80, 3) := by decide +kernel
theorem dX6_lane_109 : decode cX6_lane 109 = .ok (.ireturn, 1) := by decide +kernel
theorem dX6_lane_110 : decode cX6_lane 110 = .ok (.aload_n 0, 1) := by decide +kernel
theorem dX6_lane_111 : decode cX6_lane 111 = .ok (.iload_n 1, 1) := by decide +kernel
theorem dX6_lane_112 : decode cX6_lane 112 = .ok (.bipush 7, 2) := by decide +kernel
theorem dX6_lane_114 : decode cX6_lane 114 = .ok (.invokevirtual 80, 3) := by decide +kernel
theorem dX6_lane_117 : decode cX6_lane 117 = .ok (.ireturn, 1) := by decide +kernel
theorem dX6_lane_118 : decode cX6_lane 118 = .ok (.aload_n 0, 1) := by decide +kernel
theorem dX6_lane_119 : decode cX6_lane 119 = .ok (.iload_n 1, 1) := by decide +kernel
theorem dX6_lane_120 : decode cX6_lane 120 = .ok (.bipush 8, 2) := by decide +kernel
theorem dX6_lane_122 : decode cX6_lane 122 = .ok (.invokevirtual 80, 3) := by decide +kernel
theorem dX6_lane_125 : decode cX6_lane 125 = .ok (.ireturn, 1) := by decide +kernel
theorem dX6_lane_126 : decode cX6_lane 126 = .ok (.aload_n 0, 1) := by decide +kernel
theorem dX6_lane_127 : decode cX6_lane 127 = .ok (.iload_n 1, 1) := by decide +kernel
theorem dX6_lane_128 : decode cX6_lane 128 = .ok (.bipush 9, 2) := by decide +kernel
theorem dX6_lane_130 : decode cX6_lane 130 = .ok (.invokevirtual 80, 3) := by decide +kernel
theorem dX6_lane_133 : decode cX6_lane 133 = .ok (.ireturn, 1) := by decide +kernel
theorem dX6_lane_134 : decode cX6_lane 134 = .ok (.aload_n 0, 1) := by decide +kernel
theorem dX6_lane_135 : decode cX6_lane 135 = .ok (.iload_n 1, 1) := by decide +kernel
theorem dX6_lane_136 : decode cX6_lane 136 = .ok (.bipush 10, 2) := by decide +kernel
theorem dX6_lane_138 : decode cX6_lane 138 = .ok (.invokevirtual 80, 3) := by decide +kernel
theorem dX6_lane_141 : decode cX6_lane 141 = .ok (.ireturn, 1) := by decide +kernel
theorem dX6_lane_142 : decode cX6_lane 142 = .ok (.aload_n 0, 1) := by decide +kernel
theorem dX6_lane_143 : decode cX6_lane 143 = .ok (.iload_n 1, 1) := by decide +kernel
theorem dX6_lane_144 : decode cX6_lane 144 = .ok (.bipush 11, 2) := by decide +kernel
theorem dX6_lane_146 : decode cX6_lane 146 = .ok (.invokevirtual 80, 3) := by decide +kernel
theorem dX6_lane_149 : decode cX6_lane 149 = .ok (.ireturn, 1) := by decide +kernel
theorem dX6_lane_150 : decode cX6_lane 150 = .ok (.iconst (-1), 1) := by decide +kernel
theorem dX6_lane_151 : decode cX6_lane 151 = .ok (.ireturn, 1) := by decide +kernel
theorem dX6_copyLane_0 : decode cX6_copyLane 0 = .ok (.iconst 0, 1) := by decide +kernel
theorem dX6_copyLane_1 : decode cX6_copyLane 1 = .ok (.istore_n 3, 1) := by decide +kernel
theorem dX6_copyLane_2 : decode cX6_copyLane 2 = .ok (.iload_n 3, 1) := by decide +kernel
theorem dX6_copyLane_3 : decode cX6_copyLane 3 = .ok (.bipush 22, 2) := by decide +kernel
theorem dX6_copyLane_5 : decode cX6_copyLane 5 = .ok (.if_icmp .ge 21, 3) := by decide +kernel
theorem dX6_copyLane_8 : decode cX6_copyLane 8 = .ok (.aload_n 0, 1) := by decide +kernel
theorem dX6_copyLane_9 : decode cX6_copyLane 9 = .ok (.iload_n 2, 1) := by decide +kernel
theorem dX6_copyLane_10 : decode cX6_copyLane 10 = .ok (.iload_n 3, 1) := by decide +kernel
theorem dX6_copyLane_11 : decode cX6_copyLane 11 = .ok (.aload_n 0, 1) := by decide +kernel
theorem dX6_copyLane_12 : decode cX6_copyLane 12 = .ok (.iload_n 1, 1) := by decide +kernel
theorem dX6_copyLane_13 : decode cX6_copyLane 13 = .ok (.iload_n 3, 1) := by decide +kernel
theorem dX6_copyLane_14 : decode cX6_copyLane 14 = .ok (.invokevirtual 80, 3) := by decide +kernel
theorem dX6_copyLane_17 : decode cX6_copyLane 17 = .ok (.invokevirtual 173, 3) := by decide +kernel
theorem dX6_copyLane_20 : decode cX6_copyLane 20 = .ok (.iinc 3 1, 3) := by decide +kernel
theorem dX6_copyLane_23 : decode cX6_copyLane 23 = .ok (.goto (-21), 3) := by decide +kernel
theorem dX6_copyLane_26 : decode cX6_copyLane 26 = .ok (.iconst 0, 1) := by decide +kernel
theorem dX6_copyLane_27 : decode cX6_copyLane 27 = .ok (.istore_n 3, 1) := by decide +kernel
theorem dX6_copyLane_28 : decode cX6_copyLane 28 = .ok (.iload_n 3, 1) := by decide +kernel
theorem dX6_copyLane_29 : decode cX6_copyLane 29 = .ok (.aload_n 0, 1) := by decide +kernel
theorem dX6_copyLane_30 : decode cX6_copyLane 30 = .ok (.iload_n 1, 1) := by decide +kernel
theorem dX6_copyLane_31 : decode cX6_copyLane 31 = .ok (.invokevirtual 116, 3) := by decide +kernel
theorem dX6_copyLane_34 : decode cX6_copyLane 34 = .ok (.if_icmp .ge 25, 3) := by decide +kernel
theorem dX6_copyLane_37 : decode cX6_copyLane 37 = .ok (.aload_n 0, 1) := by decide +kernel
theorem dX6_copyLane_38 : decode cX6_copyLane 38 = .ok (.bipush 121, 2) := by decide +kernel
theorem dX6_copyLane_40 : decode cX6_copyLane 40 = .ok (.iload_n 1, 1) := by decide +kernel
theorem dX6_copyLane_41 : decode cX6_copyLane 41 = .ok (.imul, 1) := by decide +kernel
theorem dX6_copyLane_42 : decode cX6_copyLane 42 = .ok (.iload_n 3, 1) := by decide +kernel
theorem dX6_copyLane_43 : decode cX6_copyLane 43 = .ok (.iadd, 1) := by decide +kernel
theorem dX6_copyLane_44 : decode cX6_copyLane 44 = .ok (.bipush 121, 2) := by decide +kernel
theorem dX6_copyLane_46 : decode cX6_copyLane 46 = .ok (.iload_n 2, 1) := by decide +kernel
theorem dX6_copyLane_47 : decode cX6_copyLane 47 = .ok (.imul, 1) := by decide +kernel
theorem dX6_copyLane_48 : decode cX6_copyLane 48 = .ok (.iload_n 3, 1) := by decide +kernel
theorem dX6_copyLane_49 : decode cX6_copyLane 49 = .ok (.iadd, 1) := by decide +kernel
theorem dX6_copyLane_50 : decode cX6_copyLane 50 = .ok (.invokevirtual 213, 3) := by decide +kernel
theorem dX6_copyLane_53 : decode cX6_copyLane 53 = .ok (.iinc 3 1, 3) := by decide +kernel
theorem dX6_copyLane_56 : decode cX6_copyLane 56 = .ok (.goto (-28), 3) := by decide +kernel
theorem dX6_copyLane_59 : decode cX6_copyLane 59 = .ok (.return_, 1) := by decide +kernel
theorem dX6_keep_0 : decode cX6_keep 0 = .ok (.aload_n 0, 1) := by decide +kernel
theorem dX6_keep_1 : decode cX6_keep 1 = .ok (.iload_n 1, 1) := by decide +kernel
theorem dX6_keep_2 : decode cX6_keep 2 = .ok (.invokevirtual 124, 3) := by decide +kernel
theorem dX6_keep_5 : decode cX6_keep 5 = .ok (.ifCond .eq 12, 3) := by decide +kernel
theorem dX6_keep_8 : decode cX6_keep 8 = .ok (.iload_n 2, 1) := by decide +kernel
theorem dX6_keep_9 : decode cX6_keep 9 = .ok (.iconst 0, 1) := by decide +kernel
theorem dX6_keep_10 : decode cX6_keep 10 = .ok (.iconst 2, 1) := by decide +kernel
theorem dX6_keep_11 : decode cX6_keep 11 = .ok (.invokestatic 76, 3) := by decide +kernel
theorem dX6_keep_14 : decode cX6_keep 14 = .ok (.ifCond .ne 5, 3) := by decide +kernel
theorem dX6_keep_17 : decode cX6_keep 17 = .ok (.iconst (-1), 1) := by decide +kernel
theorem dX6_keep_18 : decode cX6_keep 18 = .ok (.ireturn, 1) := by decide +kernel
theorem dX6_keep_19 : decode cX6_keep 19 = .ok (.aload_n 0, 1) := by decide +kernel
theorem dX6_keep_20 : decode cX6_keep 20 = .ok (.iload_n 1, 1) := by decide +kernel
theorem dX6_keep_21 : decode cX6_keep 21 = .ok (.iconst 4, 1) := by decide +kernel
theorem dX6_keep_22 : decode cX6_keep 22 = .ok (.iload_n 2, 1) := by decide +kernel
theorem dX6_keep_23 : decode cX6_keep 23 = .ok (.iadd, 1) := by decide +kernel
theorem dX6_keep_24 : decode cX6_keep 24 = .ok (.invokevirtual 292, 3) := by decide +kernel
theorem dX6_keep_27 : decode cX6_keep 27 = .ok (.aload_n 0, 1) := by decide +kernel
theorem dX6_keep_28 : decode cX6_keep 28 = .ok (.iconst 4, 1) := by decide +kernel
theorem dX6_keep_29 : decode cX6_keep 29 = .ok (.iload_n 2, 1) := by decide +kernel
theorem dX6_keep_30 : decode cX6_keep 30 = .ok (.iadd, 1) := by decide +kernel
theorem dX6_keep_31 : decode cX6_keep 31 = .ok (.bipush 21, 2) := by decide +kernel
theorem dX6_keep_33 : decode cX6_keep 33 = .ok (.iload_n 1, 1) := by decide +kernel
theorem dX6_keep_34 : decode cX6_keep 34 = .ok (.invokevirtual 173, 3) := by decide +kernel
theorem dX6_keep_37 : decode cX6_keep 37 = .ok (.aload_n 0, 1) := by decide +kernel
theorem dX6_keep_38 : decode cX6_keep 38 = .ok (.iload_n 1, 1) := by decide +kernel
theorem dX6_keep_39 : decode cX6_keep 39 = .ok (.invokevirtual 116, 3) := by decide +kernel
theorem dX6_keep_42 : decode cX6_keep 42 = .ok (.ireturn, 1) := by decide +kernel
theorem dX6_back_0 : decode cX6_back 0 = .ok (.iload_n 1, 1) := by decide +kernel
theorem dX6_back_1 : decode cX6_back 1 = .ok (.iconst 0, 1) := by decide +kernel
theorem dX6_back_2 : decode cX6_back 2 = .ok (.iconst 2, 1) := by decide +kernel
theorem dX6_back_3 : decode cX6_back 3 = .ok (.invokestatic 76, 3) := by decide +kernel
theorem dX6_back_6 : decode cX6_back 6 = .ok (.ifCond .eq 14, 3) := by decide +kernel
theorem dX6_back_9 : decode cX6_back 9 = .ok (.aload_n 0, 1) := by decide +kernel
theorem dX6_back_10 : decode cX6_back 10 = .ok (.iconst 4, 1) := by decide +kernel
theorem dX6_back_11 : decode cX6_back 11 = .ok (.iload_n 1, 1) := by decide +kernel
theorem dX6_back_12 : decode cX6_back 12 = .ok (.iadd, 1) := by decide +kernel
theorem dX6_back_13 : decode cX6_back 13 = .ok (.iconst 0, 1) := by decide +kernel
theorem dX6_back_14 : decode cX6_back 14 = .ok (.invokevirtual 80, 3) := by decide +kernel
theorem dX6_back_17 : decode cX6_back 17 = .ok (.ifCond .ne 5, 3) := by decide +kernel
theorem dX6_back_20 : decode cX6_back 20 = .ok (.iconst (-1), 1) := by decide +kernel
theorem dX6_back_21 : decode cX6_back 21 = .ok (.ireturn, 1) := by decide +kernel
theorem dX6_back_22 : decode cX6_back 22 = .ok (.aload_n 0, 1) := by decide +kernel
theorem dX6_back_23 : decode cX6_back 23 = .ok (.iconst 4, 1) := by decide +kernel
theorem dX6_back_24 : decode cX6_back 24 = .ok (.iload_n 1, 1) := by decide +kernel
theorem dX6_back_25 : decode cX6_back 25 = .ok (.iadd, 1) := by decide +kernel
theorem dX6_back_26 : decode cX6_back 26 = .ok (.bipush 21, 2) := by decide +kernel
theorem dX6_back_28 : decode cX6_back 28 = .ok (.invokevirtual 80, 3) := by decide +kernel
theorem dX6_back_31 : decode cX6_back 31 = .ok (.istore_n 2, 1) := by decide +kernel
theorem dX6_back_32 : decode cX6_back 32 = .ok (.aload_n 0, 1) := by decide +kernel
theorem dX6_back_33 : decode cX6_back 33 = .ok (.iconst 4, 1) := by decide +kernel
theorem dX6_back_34 : decode cX6_back 34 = .ok (.iload_n 1, 1) := by decide +kernel
theorem dX6_back_35 : decode cX6_back 35 = .ok (.iadd, 1) := by decide +kernel
theorem dX6_back_36 : decode cX6_back 36 = .ok (.iload_n 2, 1) := by decide +kernel
theorem dX6_back_37 : decode cX6_back 37 = .ok (.invokevirtual 292, 3) := by decide +kernel
theorem dX6_back_40 : decode cX6_back 40 = .ok (.aload_n 0, 1) := by decide +kernel
theorem dX6_back_41 : decode cX6_back 41 = .ok (.iload_n 2, 1) := by decide +kernel
theorem dX6_back_42 : decode cX6_back 42 = .ok (.invokevirtual 176, 3) := by decide +kernel
theorem dX6_back_45 : decode cX6_back 45 = .ok (.aload_n 0, 1) := by decide +kernel
theorem dX6_back_46 : decode cX6_back 46 = .ok (.iload_n 2, 1) := by decide +kernel
theorem dX6_back_47 : decode cX6_back 47 = .ok (.invokevirtual 179, 3) := by decide +kernel
theorem dX6_back_50 : decode cX6_back 50 = .ok (.aload_n 0, 1) := by decide +kernel
theorem dX6_back_51 : decode cX6_back 51 = .ok (.iload_n 2, 1) := by decide +kernel
theorem dX6_back_52 : decode cX6_back 52 = .ok (.invokevirtual 116, 3) := by decide +kernel
theorem dX6_back_55 : decode cX6_back 55 = .ok (.ireturn, 1) := by decide +kernel
theorem dX6_sumOf_0 : decode cX6_sumOf 0 = .ok (.iconst 0, 1) := by decide +kernel
theorem dX6_sumOf_1 : decode cX6_sumOf 1 = .ok (.istore_n 2, 1) := by decide +kernel
theorem dX6_sumOf_2 : decode cX6_sumOf 2 = .ok (.iconst 0, 1) := by decide +kernel
theorem dX6_sumOf_3 : decode cX6_sumOf 3 = .ok (.istore_n 3, 1) := by decide +kernel
theorem dX6_sumOf_4 : decode cX6_sumOf 4 = .ok (.iload_n 3, 1) := by decide +kernel
theorem dX6_sumOf_5 : decode cX6_sumOf 5 = .ok (.iconst 4, 1) := by decide +kernel
theorem dX6_sumOf_6 : decode cX6_sumOf 6 = .ok (.if_icmp .ge 32, 3) := by decide +kernel
theorem dX6_sumOf_9 : decode cX6_sumOf 9 = .ok (.iload_n 2, 1) := by decide +kernel
theorem dX6_sumOf_10 : decode cX6_sumOf 10 = .ok (.aload_n 0, 1) := by decide +kernel
theorem dX6_sumOf_11 : decode cX6_sumOf 11 = .ok (.iload_n 3, 1) := by decide +kernel
theorem dX6_sumOf_12 : decode cX6_sumOf 12 = .ok (.iconst 0, 1) := by decide +kernel
theorem dX6_sumOf_13 : decode cX6_sumOf 13 = .ok (.invokevirtual 80, 3) := by decide +kernel
theorem dX6_sumOf_16 : decode cX6_sumOf 16 = .ok (.iconst 1, 1) := by decide +kernel
theorem dX6_sumOf_17 : decode cX6_sumOf 17 = .ok (.if_icmp .ne 12, 3) := by decide +kernel
theorem dX6_sumOf_20 : decode cX6_sumOf 20 = .ok (.aload_n 0, 1) := by decide +kernel
theorem dX6_sumOf_21 : decode cX6_sumOf 21 = .ok (.iload_n 3, 1) := by decide +kernel
theorem dX6_sumOf_22 : decode cX6_sumOf 22 = .ok (.iload_n 1, 1) := by decide +kernel
theorem dX6_sumOf_23 : decode cX6_sumOf 23 = .ok (.invokevirtual 80, 3) := by decide +kernel
theorem dX6_sumOf_26 : decode cX6_sumOf 26 = .ok (.goto 4, 3) := by decide +kernel
theorem dX6_sumOf_29 : decode cX6_sumOf 29 = .ok (.iconst 0, 1) := by decide +kernel
theorem dX6_sumOf_30 : decode cX6_sumOf 30 = .ok (.iadd, 1) := by decide +kernel
theorem dX6_sumOf_31 : decode cX6_sumOf 31 = .ok (.istore_n 2, 1) := by decide +kernel
theorem dX6_sumOf_32 : decode cX6_sumOf 32 = .ok (.iinc 3 1, 3) := by decide +kernel
theorem dX6_sumOf_35 : decode cX6_sumOf 35 = .ok (.goto (-31), 3) := by decide +kernel
theorem dX6_sumOf_38 : decode cX6_sumOf 38 = .ok (.iload_n 2, 1) := by decide +kernel
theorem dX6_sumOf_39 : decode cX6_sumOf 39 = .ok (.ireturn, 1) := by decide +kernel
theorem dX6_boxesNow_0 : decode cX6_boxesNow 0 = .ok (.iconst 0, 1) := by decide +kernel
theorem dX6_boxesNow_1 : decode cX6_boxesNow 1 = .ok (.istore_n 1, 1) := by decide +kernel
theorem dX6_boxesNow_2 : decode cX6_boxesNow 2 = .ok (.iconst 0, 1) := by decide +kernel
theorem dX6_boxesNow_3 : decode cX6_boxesNow 3 = .ok (.istore_n 2, 1) := by decide +kernel
theorem dX6_boxesNow_4 : decode cX6_boxesNow 4 = .ok (.iload_n 2, 1) := by decide +kernel
theorem dX6_boxesNow_5 : decode cX6_boxesNow 5 = .ok (.iconst 3, 1) := by decide +kernel
theorem dX6_boxesNow_6 : decode cX6_boxesNow 6 = .ok (.if_icmp .ge 20, 3) := by decide +kernel
theorem dX6_boxesNow_9 : decode cX6_boxesNow 9 = .ok (.iload_n 1, 1) := by decide +kernel
theorem dX6_boxesNow_10 : decode cX6_boxesNow 10 = .ok (.aload_n 0, 1) := by decide +kernel
theorem dX6_boxesNow_11 : decode cX6_boxesNow 11 = .ok (.iconst 4, 1) := by decide +kernel
theorem dX6_boxesNow_12 : decode cX6_boxesNow 12 = .ok (.iload_n 2, 1) := by decide +kernel
theorem dX6_boxesNow_13 : decode cX6_boxesNow 13 = .ok (.iadd, 1) := by decide +kernel
theorem dX6_boxesNow_14 : decode cX6_boxesNow 14 = .ok (.iconst 0, 1) := by decide +kernel
theorem dX6_boxesNow_15 : decode cX6_boxesNow 15 = .ok (.invokevirtual 80, 3) := by decide +kernel
theorem dX6_boxesNow_18 : decode cX6_boxesNow 18 = .ok (.iadd, 1) := by decide +kernel
theorem dX6_boxesNow_19 : decode cX6_boxesNow 19 = .ok (.istore_n 1, 1) := by decide +kernel
theorem dX6_boxesNow_20 : decode cX6_boxesNow 20 = .ok (.iinc 2 1, 3) := by decide +kernel
theorem dX6_boxesNow_23 : decode cX6_boxesNow 23 = .ok (.goto (-19), 3) := by decide +kernel
theorem dX6_boxesNow_26 : decode cX6_boxesNow 26 = .ok (.iload_n 1, 1) := by decide +kernel
theorem dX6_boxesNow_27 : decode cX6_boxesNow 27 = .ok (.ireturn, 1) := by decide +kernel
theorem dX6_toldNow_0 : decode cX6_toldNow 0 = .ok (.iconst 0, 1) := by decide +kernel
theorem dX6_toldNow_1 : decode cX6_toldNow 1 = .ok (.istore_n 2, 1) := by decide +kernel
theorem dX6_toldNow_2 : decode cX6_toldNow 2 = .ok (.iconst 0, 1) := by decide +kernel
theorem dX6_toldNow_3 : decode cX6_toldNow 3 = .ok (.istore_n 3, 1) := by decide +kernel
theorem dX6_toldNow_4 : decode cX6_toldNow 4 = .ok (.iload_n 3, 1) := by decide +kernel
theorem dX6_toldNow_5 : decode cX6_toldNow 5 = .ok (.bipush 8, 2) := by decide +kernel
theorem dX6_toldNow_7 : decode cX6_toldNow 7 = .ok (.if_icmp .ge 34, 3) := by decide +kernel
theorem dX6_toldNow_10 : decode cX6_toldNow 10 = .ok (.aload_n 0, 1) := by decide +kernel
theorem dX6_toldNow_11 : decode cX6_toldNow 11 = .ok (.iload_n 3, 1) := by decide +kernel
theorem dX6_toldNow_12 : decode cX6_toldNow 12 = .ok (.invokevirtual 210, 3) := by decide +kernel
theorem dX6_toldNow_15 : decode cX6_toldNow 15 = .ok (.ifCond .eq 20, 3) := by decide +kernel
theorem dX6_toldNow_18 : decode cX6_toldNow 18 = .ok (.iload_n 2, 1) := by decide +kernel
theorem dX6_toldNow_19 : decode cX6_toldNow 19 = .ok (.iload_n 1, 1) := by decide +kernel
theorem dX6_toldNow_20 : decode cX6_toldNow 20 = .ok (.ifCond .eq 12, 3) := by decide +kernel
theorem dX6_toldNow_23 : decode cX6_toldNow 23 = .ok (.aload_n 0, 1) := by decide +kernel
theorem dX6_toldNow_24 : decode cX6_toldNow 24 = .ok (.getfield 46, 3) := by decide +kernel
theorem dX6_toldNow_27 : decode cX6_toldNow 27 = .ok (.iload_n 3, 1) := by decide +kernel
theorem dX6_toldNow_28 : decode cX6_toldNow 28 = .ok (.iaload, 1) := by decide +kernel
theorem dX6_toldNow_29 : decode cX6_toldNow 29 = .ok (.goto 4, 3) := by decide +kernel
theorem dX6_toldNow_32 : decode cX6_toldNow 32 = .ok (.iconst 1, 1) := by decide +kernel
theorem dX6_toldNow_33 : decode cX6_toldNow 33 = .ok (.iadd, 1) := by decide +kernel
theorem dX6_toldNow_34 : decode cX6_toldNow 34 = .ok (.istore_n 2, 1) := by decide +kernel
theorem dX6_toldNow_35 : decode cX6_toldNow 35 = .ok (.iinc 3 1, 3) := by decide +kernel
theorem dX6_toldNow_38 : decode cX6_toldNow 38 = .ok (.goto (-34), 3) := by decide +kernel
theorem dX6_toldNow_41 : decode cX6_toldNow 41 = .ok (.iload_n 2, 1) := by decide +kernel
theorem dX6_toldNow_42 : decode cX6_toldNow 42 = .ok (.ireturn, 1) := by decide +kernel
theorem dX6_linksNow_0 : decode cX6_linksNow 0 = .ok (.iconst 0, 1) := by decide +kernel
theorem dX6_linksNow_1 : decode cX6_linksNow 1 = .ok (.istore_n 1, 1) := by decide +kernel
theorem dX6_linksNow_2 : decode cX6_linksNow 2 = .ok (.iconst 0, 1) := by decide +kernel
theorem dX6_linksNow_3 : decode cX6_linksNow 3 = .ok (.istore_n 2, 1) := by decide +kernel
theorem dX6_linksNow_4 : decode cX6_linksNow 4 = .ok (.iload_n 2, 1) := by decide +kernel
theorem dX6_linksNow_5 : decode cX6_linksNow 5 = .ok (.iconst 4, 1) := by decide +kernel
theorem dX6_linksNow_6 : decode cX6_linksNow 6 = .ok (.if_icmp .ge 26, 3) := by decide +kernel
theorem dX6_linksNow_9 : decode cX6_linksNow 9 = .ok (.iload_n 1, 1) := by decide +kernel
theorem dX6_linksNow_10 : decode cX6_linksNow 10 = .ok (.aload_n 0, 1) := by decide +kernel
theorem dX6_linksNow_11 : decode cX6_linksNow 11 = .ok (.getfield 52, 3) := by decide +kernel
theorem dX6_linksNow_14 : decode cX6_linksNow 14 = .ok (.iload_n 2, 1) := by decide +kernel
theorem dX6_linksNow_15 : decode cX6_linksNow 15 = .ok (.iaload, 1) := by decide +kernel
theorem dX6_linksNow_16 : decode cX6_linksNow 16 = .ok (.ifCond .lt 7, 3) := by decide +kernel
theorem dX6_linksNow_19 : decode cX6_linksNow 19 = .ok (.iconst 1, 1) := by decide +kernel
theorem dX6_linksNow_20 : decode cX6_linksNow 20 = .ok (.goto 4, 3) := by decide +kernel
theorem dX6_linksNow_23 : decode cX6_linksNow 23 = .ok (.iconst 0, 1) := by decide +kernel
theorem dX6_linksNow_24 : decode cX6_linksNow 24 = .ok (.iadd, 1) := by decide +kernel
theorem dX6_linksNow_25 : decode cX6_linksNow 25 = .ok (.istore_n 1, 1) := by decide +kernel
theorem dX6_linksNow_26 : decode cX6_linksNow 26 = .ok (.iinc 2 1, 3) := by decide +kernel
theorem dX6_linksNow_29 : decode cX6_linksNow 29 = .ok (.goto (-25), 3) := by decide +kernel
theorem dX6_linksNow_32 : decode cX6_linksNow 32 = .ok (.iload_n 1, 1) := by decide +kernel
theorem dX6_linksNow_33 : decode cX6_linksNow 33 = .ok (.ireturn, 1) := by decide +kernel
theorem dX6_about_0 : decode cX6_about 0 = .ok (.iload_n 1, 1) := by decide +kernel
theorem dX6_about_1 : decode cX6_about 1 = .ok (.tableswitch 83 0 6 #[43, 48, 54, 61, 67, 72, 78], 43) := by decide +kernel
theorem dX6_about_44 : decode cX6_about 44 = .ok (.aload_n 0, 1) := by decide +kernel
theorem dX6_about_45 : decode cX6_about 45 = .ok (.invokevirtual 182, 3) := by decide +kernel
theorem dX6_about_48 : decode cX6_about 48 = .ok (.ireturn, 1) := by decide +kernel
theorem dX6_about_49 : decode cX6_about 49 = .ok (.aload_n 0, 1) := by decide +kernel
theorem dX6_about_50 : decode cX6_about 50 = .ok (.iconst 5, 1) := by decide +kernel
theorem dX6_about_51 : decode cX6_about 51 = .ok (.invokevirtual 307, 3) := by decide +kernel
theorem dX6_about_54 : decode cX6_about 54 = .ok (.ireturn, 1) := by decide +kernel
theorem dX6_about_55 : decode cX6_about 55 = .ok (.aload_n 0, 1) := by decide +kernel
theorem dX6_about_56 : decode cX6_about 56 = .ok (.bipush 19, 2) := by decide +kernel
theorem dX6_about_58 : decode cX6_about 58 = .ok (.invokevirtual 307, 3) := by decide +kernel
theorem dX6_about_61 : decode cX6_about 61 = .ok (.ireturn, 1) := by decide +kernel
theorem dX6_about_62 : decode cX6_about 62 = .ok (.aload_n 0, 1) := by decide +kernel
theorem dX6_about_63 : decode cX6_about 63 = .ok (.iconst 0, 1) := by decide +kernel
theorem dX6_about_64 : decode cX6_about 64 = .ok (.invokevirtual 310, 3) := by decide +kernel
theorem dX6_about_67 : decode cX6_about 67 = .ok (.ireturn, 1) := by decide +kernel
theorem dX6_about_68 : decode cX6_about 68 = .ok (.aload_n 0, 1) := by decide +kernel
theorem dX6_about_69 : decode cX6_about 69 = .ok (.invokevirtual 314, 3) := by decide +kernel
theorem dX6_about_72 : decode cX6_about 72 = .ok (.ireturn, 1) := by decide +kernel
theorem dX6_about_73 : decode cX6_about 73 = .ok (.aload_n 0, 1) := by decide +kernel
theorem dX6_about_74 : decode cX6_about 74 = .ok (.iconst 1, 1) := by decide +kernel
theorem dX6_about_75 : decode cX6_about 75 = .ok (.invokevirtual 310, 3) := by decide +kernel
theorem dX6_about_78 : decode cX6_about 78 = .ok (.ireturn, 1) := by decide +kernel
theorem dX6_about_79 : decode cX6_about 79 = .ok (.aload_n 0, 1) := by decide +kernel
theorem dX6_about_80 : decode cX6_about 80 = .ok (.invokevirtual 317, 3) := by decide +kernel
theorem dX6_about_83 : decode cX6_about 83 = .ok (.ireturn, 1) := by decide +kernel
theorem dX6_about_84 : decode cX6_about 84 = .ok (.iconst (-1), 1) := by decide +kernel
theorem dX6_about_85 : decode cX6_about 85 = .ok (.ireturn, 1) := by decide +kernel
theorem dJ6_bitCount_0f7a4_0 : decode cJ6_bitCount_0f7a4 0 = .ok (.iload_n 0, 1) := by decide +kernel
theorem dJ6_bitCount_0f7a4_1 : decode cJ6_bitCount_0f7a4 1 = .ok (.iload_n 0, 1) := by decide +kernel
theorem dJ6_bitCount_0f7a4_2 : decode cJ6_bitCount_0f7a4 2 = .ok (.iconst 1, 1) := by decide +kernel
theorem dJ6_bitCount_0f7a4_3 : decode cJ6_bitCount_0f7a4 3 = .ok (.iushr, 1) := by decide +kernel
theorem dJ6_bitCount_0f7a4_4 : decode cJ6_bitCount_0f7a4 4 = .ok (.ldc_w 265, 3) := by decide +kernel
theorem dJ6_bitCount_0f7a4_7 : decode cJ6_bitCount_0f7a4 7 = .ok (.iand, 1) := by decide +kernel
theorem dJ6_bitCount_0f7a4_8 : decode cJ6_bitCount_0f7a4 8 = .ok (.isub, 1) := by decide +kernel
theorem dJ6_bitCount_0f7a4_9 : decode cJ6_bitCount_0f7a4 9 = .ok (.istore_n 0, 1) := by decide +kernel
theorem dJ6_bitCount_0f7a4_10 : decode cJ6_bitCount_0f7a4 10 = .ok (.iload_n 0, 1) := by decide +kernel
theorem dJ6_bitCount_0f7a4_11 : decode cJ6_bitCount_0f7a4 11 = .ok (.ldc_w 266, 3) := by decide +kernel
theorem dJ6_bitCount_0f7a4_14 : decode cJ6_bitCount_0f7a4 14 = .ok (.iand, 1) := by decide +kernel
theorem dJ6_bitCount_0f7a4_15 : decode cJ6_bitCount_0f7a4 15 = .ok (.iload_n 0, 1) := by decide +kernel
theorem dJ6_bitCount_0f7a4_16 : decode cJ6_bitCount_0f7a4 16 = .ok (.iconst 2, 1) := by decide +kernel
theorem dJ6_bitCount_0f7a4_17 : decode cJ6_bitCount_0f7a4 17 = .ok (.iushr, 1) := by decide +kernel
theorem dJ6_bitCount_0f7a4_18 : decode cJ6_bitCount_0f7a4 18 = .ok (.ldc_w 266, 3) := by decide +kernel
theorem dJ6_bitCount_0f7a4_21 : decode cJ6_bitCount_0f7a4 21 = .ok (.iand, 1) := by decide +kernel
theorem dJ6_bitCount_0f7a4_22 : decode cJ6_bitCount_0f7a4 22 = .ok (.iadd, 1) := by decide +kernel
theorem dJ6_bitCount_0f7a4_23 : decode cJ6_bitCount_0f7a4 23 = .ok (.istore_n 0, 1) := by decide +kernel
theorem dJ6_bitCount_0f7a4_24 : decode cJ6_bitCount_0f7a4 24 = .ok (.iload_n 0, 1) := by decide +kernel
theorem dJ6_bitCount_0f7a4_25 : decode cJ6_bitCount_0f7a4 25 = .ok (.iload_n 0, 1) := by decide +kernel
theorem dJ6_bitCount_0f7a4_26 : decode cJ6_bitCount_0f7a4 26 = .ok (.iconst 4, 1) := by decide +kernel
theorem dJ6_bitCount_0f7a4_27 : decode cJ6_bitCount_0f7a4 27 = .ok (.iushr, 1) := by decide +kernel
theorem dJ6_bitCount_0f7a4_28 : decode cJ6_bitCount_0f7a4 28 = .ok (.iadd, 1) := by decide +kernel
theorem dJ6_bitCount_0f7a4_29 : decode cJ6_bitCount_0f7a4 29 = .ok (.ldc_w 267, 3) := by decide +kernel
theorem dJ6_bitCount_0f7a4_32 : decode cJ6_bitCount_0f7a4 32 = .ok (.iand, 1) := by decide +kernel
theorem dJ6_bitCount_0f7a4_33 : decode cJ6_bitCount_0f7a4 33 = .ok (.istore_n 0, 1) := by decide +kernel
theorem dJ6_bitCount_0f7a4_34 : decode cJ6_bitCount_0f7a4 34 = .ok (.iload_n 0, 1) := by decide +kernel
theorem dJ6_bitCount_0f7a4_35 : decode cJ6_bitCount_0f7a4 35 = .ok (.iload_n 0, 1) := by decide +kernel
theorem dJ6_bitCount_0f7a4_36 : decode cJ6_bitCount_0f7a4 36 = .ok (.bipush 8, 2) := by decide +kernel
theorem dJ6_bitCount_0f7a4_38 : decode cJ6_bitCount_0f7a4 38 = .ok (.iushr, 1) := by decide +kernel
theorem dJ6_bitCount_0f7a4_39 : decode cJ6_bitCount_0f7a4 39 = .ok (.iadd, 1) := by decide +kernel
theorem dJ6_bitCount_0f7a4_40 : decode cJ6_bitCount_0f7a4 40 = .ok (.istore_n 0, 1) := by decide +kernel
theorem dJ6_bitCount_0f7a4_41 : decode cJ6_bitCount_0f7a4 41 = .ok (.iload_n 0, 1) := by decide +kernel
theorem dJ6_bitCount_0f7a4_42 : decode cJ6_bitCount_0f7a4 42 = .ok (.iload_n 0, 1) := by decide +kernel
theorem dJ6_bitCount_0f7a4_43 : decode cJ6_bitCount_0f7a4 43 = .ok (.bipush 16, 2) := by decide +kernel
theorem dJ6_bitCount_0f7a4_45 : decode cJ6_bitCount_0f7a4 45 = .ok (.iushr, 1) := by decide +kernel
theorem dJ6_bitCount_0f7a4_46 : decode cJ6_bitCount_0f7a4 46 = .ok (.iadd, 1) := by decide +kernel
theorem dJ6_bitCount_0f7a4_47 : decode cJ6_bitCount_0f7a4 47 = .ok (.istore_n 0, 1) := by decide +kernel
theorem dJ6_bitCount_0f7a4_48 : decode cJ6_bitCount_0f7a4 48 = .ok (.iload_n 0, 1) := by decide +kernel
theorem dJ6_bitCount_0f7a4_49 : decode cJ6_bitCount_0f7a4 49 = .ok (.bipush 63, 2) := by decide +kernel
theorem dJ6_bitCount_0f7a4_51 : decode cJ6_bitCount_0f7a4 51 = .ok (.iand, 1) := by decide +kernel
theorem dJ6_bitCount_0f7a4_52 : decode cJ6_bitCount_0f7a4 52 = .ok (.ireturn, 1) := by decide +kernel
theorem dJ9_floorMod_7cf53_0 : decode cJ9_floorMod_7cf53 0 = .ok (.iload_n 0, 1) := by decide +kernel
theorem dJ9_floorMod_7cf53_1 : decode cJ9_floorMod_7cf53 1 = .ok (.iload_n 1, 1) := by decide +kernel
theorem dJ9_floorMod_7cf53_2 : decode cJ9_floorMod_7cf53 2 = .ok (.irem, 1) := by decide +kernel
theorem dJ9_floorMod_7cf53_3 : decode cJ9_floorMod_7cf53 3 = .ok (.istore_n 2, 1) := by decide +kernel
theorem dJ9_floorMod_7cf53_4 : decode cJ9_floorMod_7cf53 4 = .ok (.iload_n 0, 1) := by decide +kernel
theorem dJ9_floorMod_7cf53_5 : decode cJ9_floorMod_7cf53 5 = .ok (.iload_n 1, 1) := by decide +kernel
theorem dJ9_floorMod_7cf53_6 : decode cJ9_floorMod_7cf53 6 = .ok (.ixor, 1) := by decide +kernel
theorem dJ9_floorMod_7cf53_7 : decode cJ9_floorMod_7cf53 7 = .ok (.ifCond .ge 11, 3) := by decide +kernel
theorem dJ9_floorMod_7cf53_10 : decode cJ9_floorMod_7cf53 10 = .ok (.iload_n 2, 1) := by decide +kernel
theorem dJ9_floorMod_7cf53_11 : decode cJ9_floorMod_7cf53 11 = .ok (.ifCond .eq 7, 3) := by decide +kernel
theorem dJ9_floorMod_7cf53_14 : decode cJ9_floorMod_7cf53 14 = .ok (.iload_n 2, 1) := by decide +kernel
theorem dJ9_floorMod_7cf53_15 : decode cJ9_floorMod_7cf53 15 = .ok (.iload_n 1, 1) := by decide +kernel
theorem dJ9_floorMod_7cf53_16 : decode cJ9_floorMod_7cf53 16 = .ok (.iadd, 1) := by decide +kernel
theorem dJ9_floorMod_7cf53_17 : decode cJ9_floorMod_7cf53 17 = .ok (.ireturn, 1) := by decide +kernel
theorem dJ9_floorMod_7cf53_18 : decode cJ9_floorMod_7cf53 18 = .ok (.iload_n 2, 1) := by decide +kernel
theorem dJ9_floorMod_7cf53_19 : decode cJ9_floorMod_7cf53 19 = .ok (.ireturn, 1) := by decide +kernel
theorem dJ9_abs_0f7a4_0 : decode cJ9_abs_0f7a4 0 = .ok (.iload_n 0, 1) := by decide +kernel
theorem dJ9_abs_0f7a4_1 : decode cJ9_abs_0f7a4 1 = .ok (.ifCond .ge 8, 3) := by decide +kernel
theorem dJ9_abs_0f7a4_4 : decode cJ9_abs_0f7a4 4 = .ok (.iload_n 0, 1) := by decide +kernel
theorem dJ9_abs_0f7a4_5 : decode cJ9_abs_0f7a4 5 = .ok (.ineg, 1) := by decide +kernel
theorem dJ9_abs_0f7a4_6 : decode cJ9_abs_0f7a4 6 = .ok (.goto 4, 3) := by decide +kernel
theorem dJ9_abs_0f7a4_9 : decode cJ9_abs_0f7a4 9 = .ok (.iload_n 0, 1) := by decide +kernel
theorem dJ9_abs_0f7a4_10 : decode cJ9_abs_0f7a4 10 = .ok (.ireturn, 1) := by decide +kernel
theorem dJ9_max_7cf53_0 : decode cJ9_max_7cf53 0 = .ok (.iload_n 0, 1) := by decide +kernel
theorem dJ9_max_7cf53_1 : decode cJ9_max_7cf53 1 = .ok (.iload_n 1, 1) := by decide +kernel
theorem dJ9_max_7cf53_2 : decode cJ9_max_7cf53 2 = .ok (.if_icmp .lt 7, 3) := by decide +kernel
theorem dJ9_max_7cf53_5 : decode cJ9_max_7cf53 5 = .ok (.iload_n 0, 1) := by decide +kernel
theorem dJ9_max_7cf53_6 : decode cJ9_max_7cf53 6 = .ok (.goto 4, 3) := by decide +kernel
theorem dJ9_max_7cf53_9 : decode cJ9_max_7cf53 9 = .ok (.iload_n 1, 1) := by decide +kernel
theorem dJ9_max_7cf53_10 : decode cJ9_max_7cf53 10 = .ok (.ireturn, 1) := by decide +kernel
theorem dJ9_min_7cf53_0 : decode cJ9_min_7cf53 0 = .ok (.iload_n 0, 1) := by decide +kernel
theorem dJ9_min_7cf53_1 : decode cJ9_min_7cf53 1 = .ok (.iload_n 1, 1) := by decide +kernel
theorem dJ9_min_7cf53_2 : decode cJ9_min_7cf53 2 = .ok (.if_icmp .gt 7, 3) := by decide +kernel
theorem dJ9_min_7cf53_5 : decode cJ9_min_7cf53 5 = .ok (.iload_n 0, 1) := by decide +kernel
theorem dJ9_min_7cf53_6 : decode cJ9_min_7cf53 6 = .ok (.goto 4, 3) := by decide +kernel
theorem dJ9_min_7cf53_9 : decode cJ9_min_7cf53 9 = .ok (.iload_n 1, 1) := by decide +kernel
theorem dJ9_min_7cf53_10 : decode cJ9_min_7cf53 10 = .ok (.ireturn, 1) := by decide +kernel
theorem dJ7_fill_53178_0 : decode cJ7_fill_53178 0 = .ok (.iconst 0, 1) := by decide +kernel
theorem dJ7_fill_53178_1 : decode cJ7_fill_53178 1 = .ok (.istore_n 2, 1) := by decide +kernel
theorem dJ7_fill_53178_2 : decode cJ7_fill_53178 2 = .ok (.aload_n 0, 1) := by decide +kernel
theorem dJ7_fill_53178_3 : decode cJ7_fill_53178 3 = .ok (.arraylength, 1) := by decide +kernel
theorem dJ7_fill_53178_4 : decode cJ7_fill_53178 4 = .ok (.istore_n 3, 1) := by decide +kernel
theorem dJ7_fill_53178_5 : decode cJ7_fill_53178 5 = .ok (.iload_n 2, 1) := by decide +kernel
theorem dJ7_fill_53178_6 : decode cJ7_fill_53178 6 = .ok (.iload_n 3, 1) := by decide +kernel
theorem dJ7_fill_53178_7 : decode cJ7_fill_53178 7 = .ok (.if_icmp .ge 13, 3) := by decide +kernel
theorem dJ7_fill_53178_10 : decode cJ7_fill_53178 10 = .ok (.aload_n 0, 1) := by decide +kernel
theorem dJ7_fill_53178_11 : decode cJ7_fill_53178 11 = .ok (.iload_n 2, 1) := by decide +kernel
theorem dJ7_fill_53178_12 : decode cJ7_fill_53178 12 = .ok (.iload_n 1, 1) := by decide +kernel
theorem dJ7_fill_53178_13 : decode cJ7_fill_53178 13 = .ok (.iastore, 1) := by decide +kernel
theorem dJ7_fill_53178_14 : decode cJ7_fill_53178 14 = .ok (.iinc 2 1, 3) := by decide +kernel
theorem dJ7_fill_53178_17 : decode cJ7_fill_53178 17 = .ok (.goto (-12), 3) := by decide +kernel
theorem dJ7_fill_53178_20 : decode cJ7_fill_53178 20 = .ok (.return_, 1) := by decide +kernel
theorem dL_law_0 : decode cL_law 0 = .ok (.new 7, 3) := by decide +kernel
theorem dL_law_3 : decode cL_law 3 = .ok (.dup, 1) := by decide +kernel
theorem dL_law_4 : decode cL_law 4 = .ok (.invokespecial 9, 3) := by decide +kernel
theorem dL_law_7 : decode cL_law 7 = .ok (.astore_n 1, 1) := by decide +kernel
theorem dL_law_8 : decode cL_law 8 = .ok (.new 10, 3) := by decide +kernel
theorem dL_law_11 : decode cL_law 11 = .ok (.dup, 1) := by decide +kernel
theorem dL_law_12 : decode cL_law 12 = .ok (.invokespecial 12, 3) := by decide +kernel
theorem dL_law_15 : decode cL_law 15 = .ok (.astore_n 2, 1) := by decide +kernel
theorem dL_law_16 : decode cL_law 16 = .ok (.iconst 0, 1) := by decide +kernel
theorem dL_law_17 : decode cL_law 17 = .ok (.istore_n 3, 1) := by decide +kernel
theorem dL_law_18 : decode cL_law 18 = .ok (.iload_n 3, 1) := by decide +kernel
theorem dL_law_19 : decode cL_law 19 = .ok (.aload_n 0, 1) := by decide +kernel
theorem dL_law_20 : decode cL_law 20 = .ok (.arraylength, 1) := by decide +kernel
theorem dL_law_21 : decode cL_law 21 = .ok (.bipush 6, 2) := by decide +kernel
theorem dL_law_23 : decode cL_law 23 = .ok (.isub, 1) := by decide +kernel
theorem dL_law_24 : decode cL_law 24 = .ok (.if_icmp .gt 2197, 3) := by decide +kernel
theorem dL_law_27 : decode cL_law 27 = .ok (.aload_n 0, 1) := by decide +kernel
theorem dL_law_28 : decode cL_law 28 = .ok (.iload_n 3, 1) := by decide +kernel
theorem dL_law_29 : decode cL_law 29 = .ok (.iaload, 1) := by decide +kernel
theorem dL_law_30 : decode cL_law 30 = .ok (.bipush 63, 2) := by decide +kernel
theorem dL_law_32 : decode cL_law 32 = .ok (.iand, 1) := by decide +kernel
theorem dL_law_33 : decode cL_law 33 = .ok (.tableswitch 2182 0 50 #[219, 252, 285, 308, 331, 394, 417, 460, 513, 546, 579, 612, 655, 698, 731, 784, 837, 880, 923, 966, 1009, 1052, 1095, 1128, 1161, 1194, 1237, 1280, 1313, 1346, 1379, 1412, 1465, 1498, 1541, 1574, 1607, 1640, 1693, 1716, 1739, 1792, 1815, 1848, 1901, 1954, 2007, 2050, 2103, 2136, 2159], 219) := by decide +kernel
theorem dL_law_252 : decode cL_law 252 = .ok (.aload_n 1, 1) := by decide +kernel
theorem dL_law_253 : decode cL_law 253 = .ok (.aload_n 0, 1) := by decide +kernel
theorem dL_law_254 : decode cL_law 254 = .ok (.iload_n 3, 1) := by decide +kernel
theorem dL_law_255 : decode cL_law 255 = .ok (.iconst 1, 1) := by decide +kernel
theorem dL_law_256 : decode cL_law 256 = .ok (.iadd, 1) := by decide +kernel
theorem dL_law_257 : decode cL_law 257 = .ok (.iaload, 1) := by decide +kernel
theorem dL_law_258 : decode cL_law 258 = .ok (.aload_n 0, 1) := by decide +kernel
theorem dL_law_259 : decode cL_law 259 = .ok (.iload_n 3, 1) := by decide +kernel
theorem dL_law_260 : decode cL_law 260 = .ok (.iconst 2, 1) := by decide +kernel
theorem dL_law_261 : decode cL_law 261 = .ok (.iadd, 1) := by decide +kernel
theorem dL_law_262 : decode cL_law 262 = .ok (.iaload, 1) := by decide +kernel
theorem dL_law_263 : decode cL_law 263 = .ok (.invokevirtual 13, 3) := by decide +kernel
theorem dL_law_266 : decode cL_law 266 = .ok (.pop, 1) := by decide +kernel
theorem dL_law_267 : decode cL_law 267 = .ok (.aload_n 2, 1) := by decide +kernel
theorem dL_law_268 : decode cL_law 268 = .ok (.aload_n 0, 1) := by decide +kernel
theorem dL_law_269 : decode cL_law 269 = .ok (.iload_n 3, 1) := by decide +kernel
theorem dL_law_270 : decode cL_law 270 = .ok (.iconst 1, 1) := by decide +kernel
theorem dL_law_271 : decode cL_law 271 = .ok (.iadd, 1) := by decide +kernel
theorem dL_law_272 : decode cL_law 272 = .ok (.iaload, 1) := by decide +kernel
theorem dL_law_273 : decode cL_law 273 = .ok (.aload_n 0, 1) := by decide +kernel
theorem dL_law_274 : decode cL_law 274 = .ok (.iload_n 3, 1) := by decide +kernel
theorem dL_law_275 : decode cL_law 275 = .ok (.iconst 2, 1) := by decide +kernel
theorem dL_law_276 : decode cL_law 276 = .ok (.iadd, 1) := by decide +kernel
theorem dL_law_277 : decode cL_law 277 = .ok (.iaload, 1) := by decide +kernel
theorem dL_law_278 : decode cL_law 278 = .ok (.invokevirtual 17, 3) := by decide +kernel
theorem dL_law_281 : decode cL_law 281 = .ok (.pop, 1) := by decide +kernel
theorem dL_law_282 : decode cL_law 282 = .ok (.goto 1933, 3) := by decide +kernel
theorem dL_law_285 : decode cL_law 285 = .ok (.aload_n 1, 1) := by decide +kernel
theorem dL_law_286 : decode cL_law 286 = .ok (.aload_n 0, 1) := by decide +kernel
theorem dL_law_287 : decode cL_law 287 = .ok (.iload_n 3, 1) := by decide +kernel
theorem dL_law_288 : decode cL_law 288 = .ok (.iconst 1, 1) := by decide +kernel
theorem dL_law_289 : decode cL_law 289 = .ok (.iadd, 1) := by decide +kernel
theorem dL_law_290 : decode cL_law 290 = .ok (.iaload, 1) := by decide +kernel
theorem dL_law_291 : decode cL_law 291 = .ok (.aload_n 0, 1) := by decide +kernel
theorem dL_law_292 : decode cL_law 292 = .ok (.iload_n 3, 1) := by decide +kernel
theorem dL_law_293 : decode cL_law 293 = .ok (.iconst 2, 1) := by decide +kernel
theorem dL_law_294 : decode cL_law 294 = .ok (.iadd, 1) := by decide +kernel
theorem dL_law_295 : decode cL_law 295 = .ok (.iaload, 1) := by decide +kernel
theorem dL_law_296 : decode cL_law 296 = .ok (.invokevirtual 18, 3) := by decide +kernel
theorem dL_law_299 : decode cL_law 299 = .ok (.pop, 1) := by decide +kernel
theorem dL_law_300 : decode cL_law 300 = .ok (.aload_n 2, 1) := by decide +kernel
theorem dL_law_301 : decode cL_law 301 = .ok (.aload_n 0, 1) := by decide +kernel
theorem dL_law_302 : decode cL_law 302 = .ok (.iload_n 3, 1) := by decide +kernel
theorem dL_law_303 : decode cL_law 303 = .ok (.iconst 1, 1) := by decide +kernel
theorem dL_law_304 : decode cL_law 304 = .ok (.iadd, 1) := by decide +kernel
theorem dL_law_305 : decode cL_law 305 = .ok (.iaload, 1) := by decide +kernel
theorem dL_law_306 : decode cL_law 306 = .ok (.aload_n 0, 1) := by decide +kernel
theorem dL_law_307 : decode cL_law 307 = .ok (.iload_n 3, 1) := by decide +kernel
theorem dL_law_308 : decode cL_law 308 = .ok (.iconst 2, 1) := by decide +kernel
theorem dL_law_309 : decode cL_law 309 = .ok (.iadd, 1) := by decide +kernel
theorem dL_law_310 : decode cL_law 310 = .ok (.iaload, 1) := by decide +kernel
theorem dL_law_311 : decode cL_law 311 = .ok (.invokevirtual 21, 3) := by decide +kernel
theorem dL_law_314 : decode cL_law 314 = .ok (.pop, 1) := by decide +kernel
theorem dL_law_315 : decode cL_law 315 = .ok (.goto 1900, 3) := by decide +kernel
theorem dL_law_318 : decode cL_law 318 = .ok (.aload_n 1, 1) := by decide +kernel
theorem dL_law_319 : decode cL_law 319 = .ok (.aload_n 0, 1) := by decide +kernel
theorem dL_law_320 : decode cL_law 320 = .ok (.iload_n 3, 1) := by decide +kernel
theorem dL_law_321 : decode cL_law 321 = .ok (.iconst 1, 1) := by decide +kernel
theorem dL_law_322 : decode cL_law 322 = .ok (.iadd, 1) := by decide +kernel
theorem dL_law_323 : decode cL_law 323 = .ok (.iaload, 1) := by decide +kernel
theorem dL_law_324 : decode cL_law 324 = .ok (.invokevirtual 22, 3) := by decide +kernel
theorem dL_law_327 : decode cL_law 327 = .ok (.pop, 1) := by decide +kernel
theorem dL_law_328 : decode cL_law 328 = .ok (.aload_n 2, 1) := by decide +kernel
theorem dL_law_329 : decode cL_law 329 = .ok (.aload_n 0, 1) := by decide +kernel
theorem dL_law_330 : decode cL_law 330 = .ok (.iload_n 3, 1) := by decide +kernel
theorem dL_law_331 : decode cL_law 331 = .ok (.iconst 1, 1) := by decide +kernel
theorem dL_law_332 : decode cL_law 332 = .ok (.iadd, 1) := by decide +kernel
theorem dL_law_333 : decode cL_law 333 = .ok (.iaload, 1) := by decide +kernel
theorem dL_law_334 : decode cL_law 334 = .ok (.invokevirtual 26, 3) := by decide +kernel
theorem dL_law_337 : decode cL_law 337 = .ok (.pop, 1) := by decide +kernel
theorem dL_law_338 : decode cL_law 338 = .ok (.goto 1877, 3) := by decide +kernel
theorem dL_law_341 : decode cL_law 341 = .ok (.aload_n 1, 1) := by decide +kernel
theorem dL_law_342 : decode cL_law 342 = .ok (.aload_n 0, 1) := by decide +kernel
theorem dL_law_343 : decode cL_law 343 = .ok (.iload_n 3, 1) := by decide +kernel
theorem dL_law_344 : decode cL_law 344 = .ok (.iconst 1, 1) := by decide +kernel
theorem dL_law_345 : decode cL_law 345 = .ok (.iadd, 1) := by decide +kernel
theorem dL_law_346 : decode cL_law 346 = .ok (.iaload, 1) := by decide +kernel
theorem dL_law_347 : decode cL_law 347 = .ok (.invokevirtual 27, 3) := by decide +kernel
theorem dL_law_350 : decode cL_law 350 = .ok (.pop, 1) := by decide +kernel
theorem dL_law_351 : decode cL_law 351 = .ok (.aload_n 2, 1) := by decide +kernel
theorem dL_law_352 : decode cL_law 352 = .ok (.aload_n 0, 1) := by decide +kernel
theorem dL_law_353 : decode cL_law 353 = .ok (.iload_n 3, 1) := by decide +kernel
theorem dL_law_354 : decode cL_law 354 = .ok (.iconst 1, 1) := by decide +kernel
theorem dL_law_355 : decode cL_law 355 = .ok (.iadd, 1) := by decide +kernel
theorem dL_law_356 : decode cL_law 356 = .ok (.iaload, 1) := by decide +kernel
theorem dL_law_357 : decode cL_law 357 = .ok (.invokevirtual 30, 3) := by decide +kernel
theorem dL_law_360 : decode cL_law 360 = .ok (.pop, 1) := by decide +kernel
theorem dL_law_361 : decode cL_law 361 = .ok (.goto 1854, 3) := by decide +kernel
theorem dL_law_364 : decode cL_law 364 = .ok (.aload_n 1, 1) := by decide +kernel
theorem dL_law_365 : decode cL_law 365 = .ok (.aload_n 0, 1) := by decide +kernel
theorem dL_law_366 : decode cL_law 366 = .ok (.iload_n 3, 1) := by decide +kernel
theorem dL_law_367 : decode cL_law 367 = .ok (.iconst 1, 1) := by decide +kernel
theorem dL_law_368 : decode cL_law 368 = .ok (.iadd, 1) := by decide +kernel
theorem dL_law_369 : decode cL_law 369 = .ok (.iaload, 1) := by decide +kernel
theorem dL_law_370 : decode cL_law 370 = .ok (.aload_n 0, 1) := by decide +kernel
theorem dL_law_371 : decode cL_law 371 = .ok (.iload_n 3, 1) := by decide +kernel
theorem dL_law_372 : decode cL_law 372 = .ok (.iconst 2, 1) := by decide +kernel
theorem dL_law_373 : decode cL_law 373 = .ok (.iadd, 1) := by decide +kernel
theorem dL_law_374 : decode cL_law 374 = .ok (.iaload, 1) := by decide +kernel
theorem dL_law_375 : decode cL_law 375 = .ok (.aload_n 0, 1) := by decide +kernel
theorem dL_law_376 : decode cL_law 376 = .ok (.iload_n 3, 1) := by decide +kernel
theorem dL_law_377 : decode cL_law 377 = .ok (.iconst 3, 1) := by decide +kernel
theorem dL_law_378 : decode cL_law 378 = .ok (.iadd, 1) := by decide +kernel
theorem dL_law_379 : decode cL_law 379 = .ok (.iaload, 1) := by decide +kernel
theorem dL_law_380 : decode cL_law 380 = .ok (.aload_n 0, 1) := by decide +kernel
theorem dL_law_381 : decode cL_law 381 = .ok (.iload_n 3, 1) := by decide +kernel
theorem dL_law_382 : decode cL_law 382 = .ok (.iconst 4, 1) := by decide +kernel
theorem dL_law_383 : decode cL_law 383 = .ok (.iadd, 1) := by decide +kernel
theorem dL_law_384 : decode cL_law 384 = .ok (.iaload, 1) := by decide +kernel
theorem dL_law_385 : decode cL_law 385 = .ok (.aload_n 0, 1) := by decide +kernel
theorem dL_law_386 : decode cL_law 386 = .ok (.iload_n 3, 1) := by decide +kernel
theorem dL_law_387 : decode cL_law 387 = .ok (.iconst 5, 1) := by decide +kernel
theorem dL_law_388 : decode cL_law 388 = .ok (.iadd, 1) := by decide +kernel
theorem dL_law_389 : decode cL_law 389 = .ok (.iaload, 1) := by decide +kernel
theorem dL_law_390 : decode cL_law 390 = .ok (.invokevirtual 31, 3) := by decide +kernel
theorem dL_law_393 : decode cL_law 393 = .ok (.pop, 1) := by decide +kernel
theorem dL_law_394 : decode cL_law 394 = .ok (.aload_n 2, 1) := by decide +kernel
theorem dL_law_395 : decode cL_law 395 = .ok (.aload_n 0, 1) := by decide +kernel
theorem dL_law_396 : decode cL_law 396 = .ok (.iload_n 3, 1) := by decide +kernel
theorem dL_law_397 : decode cL_law 397 = .ok (.iconst 1, 1) := by decide +kernel
theorem dL_law_398 : decode cL_law 398 = .ok (.iadd, 1) := by decide +kernel
theorem dL_law_399 : decode cL_law 399 = .ok (.iaload, 1) := by decide +kernel
theorem dL_law_400 : decode cL_law 400 = .ok (.aload_n 0, 1) := by decide +kernel
theorem dL_law_401 : decode cL_law 401 = .ok (.iload_n 3, 1) := by decide +kernel
theorem dL_law_402 : decode cL_law 402 = .ok (.iconst 2, 1) := by decide +kernel
theorem dL_law_403 : decode cL_law 403 = .ok (.iadd, 1) := by decide +kernel
theorem dL_law_404 : decode cL_law 404 = .ok (.iaload, 1) := by decide +kernel
theorem dL_law_405 : decode cL_law 405 = .ok (.aload_n 0, 1) := by decide +kernel
theorem dL_law_406 : decode cL_law 406 = .ok (.iload_n 3, 1) := by decide +kernel
theorem dL_law_407 : decode cL_law 407 = .ok (.iconst 3, 1) := by decide +kernel
theorem dL_law_408 : decode cL_law 408 = .ok (.iadd, 1) := by decide +kernel
theorem dL_law_409 : decode cL_law 409 = .ok (.iaload, 1) := by decide +kernel
theorem dL_law_410 : decode cL_law 410 = .ok (.aload_n 0, 1) := by decide +kernel
theorem dL_law_411 : decode cL_law 411 = .ok (.iload_n 3, 1) := by decide +kernel
theorem dL_law_412 : decode cL_law 412 = .ok (.iconst 4, 1) := by decide +kernel
theorem dL_law_413 : decode cL_law 413 = .ok (.iadd, 1) := by decide +kernel
theorem dL_law_414 : decode cL_law 414 = .ok (.iaload, 1) := by decide +kernel
theorem dL_law_415 : decode cL_law 415 = .ok (.aload_n 0, 1) := by decide +kernel
theorem dL_law_416 : decode cL_law 416 = .ok (.iload_n 3, 1) := by decide +kernel
theorem dL_law_417 : decode cL_law 417 = .ok (.iconst 5, 1) := by decide +kernel
theorem dL_law_418 : decode cL_law 418 = .ok (.iadd, 1) := by decide +kernel
theorem dL_law_419 : decode cL_law 419 = .ok (.iaload, 1) := by decide +kernel
theorem dL_law_420 : decode cL_law 420 = .ok (.invokevirtual 35, 3) := by decide +kernel
theorem dL_law_423 : decode cL_law 423 = .ok (.pop, 1) := by decide +kernel
theorem dL_law_424 : decode cL_law 424 = .ok (.goto 1791, 3) := by decide +kernel
theorem dL_law_427 : decode cL_law 427 = .ok (.aload_n 1, 1) := by decide +kernel
theorem dL_law_428 : decode cL_law 428 = .ok (.aload_n 0, 1) := by decide +kernel
theorem dL_law_429 : decode cL_law 429 = .ok (.iload_n 3, 1) := by decide +kernel
theorem dL_law_430 : decode cL_law 430 = .ok (.iconst 1, 1) := by decide +kernel
theorem dL_law_431 : decode cL_law 431 = .ok (.iadd, 1) := by decide +kernel
theorem dL_law_432 : decode cL_law 432 = .ok (.iaload, 1) := by decide +kernel
theorem dL_law_433 : decode cL_law 433 = .ok (.invokevirtual 36, 3) := by decide +kernel
theorem dL_law_436 : decode cL_law 436 = .ok (.pop, 1) := by decide +kernel
theorem dL_law_437 : decode cL_law 437 = .ok (.aload_n 2, 1) := by decide +kernel
theorem dL_law_438 : decode cL_law 438 = .ok (.aload_n 0, 1) := by decide +kernel
theorem dL_law_439 : decode cL_law 439 = .ok (.iload_n 3, 1) := by decide +kernel
theorem dL_law_440 : decode cL_law 440 = .ok (.iconst 1, 1) := by decide +kernel
theorem dL_law_441 : decode cL_law 441 = .ok (.iadd, 1) := by decide +kernel
theorem dL_law_442 : decode cL_law 442 = .ok (.iaload, 1) := by decide +kernel
theorem dL_law_443 : decode cL_law 443 = .ok (.invokevirtual 40, 3) := by decide +kernel
theorem dL_law_446 : decode cL_law 446 = .ok (.pop, 1) := by decide +kernel
theorem dL_law_447 : decode cL_law 447 = .ok (.goto 1768, 3) := by decide +kernel
theorem dL_law_450 : decode cL_law 450 = .ok (.aload_n 1, 1) := by decide +kernel
theorem dL_law_451 : decode cL_law 451 = .ok (.aload_n 0, 1) := by decide +kernel
theorem dL_law_452 : decode cL_law 452 = .ok (.iload_n 3, 1) := by decide +kernel
theorem dL_law_453 : decode cL_law 453 = .ok (.iconst 1, 1) := by decide +kernel
theorem dL_law_454 : decode cL_law 454 = .ok (.iadd, 1) := by decide +kernel
theorem dL_law_455 : decode cL_law 455 = .ok (.iaload, 1) := by decide +kernel
theorem dL_law_456 : decode cL_law 456 = .ok (.aload_n 0, 1) := by decide +kernel
theorem dL_law_457 : decode cL_law 457 = .ok (.iload_n 3, 1) := by decide +kernel
theorem dL_law_458 : decode cL_law 458 = .ok (.iconst 2, 1) := by decide +kernel
theorem dL_law_459 : decode cL_law 459 = .ok (.iadd, 1) := by decide +kernel
theorem dL_law_460 : decode cL_law 460 = .ok (.iaload, 1) := by decide +kernel
theorem dL_law_461 : decode cL_law 461 = .ok (.aload_n 0, 1) := by decide +kernel
theorem dL_law_462 : decode cL_law 462 = .ok (.iload_n 3, 1) := by decide +kernel
theorem dL_law_463 : decode cL_law 463 = .ok (.iconst 3, 1) := by decide +kernel
theorem dL_law_464 : decode cL_law 464 = .ok (.iadd, 1) := by decide +kernel
theorem dL_law_465 : decode cL_law 465 = .ok (.iaload, 1) := by decide +kernel
theorem dL_law_466 : decode cL_law 466 = .ok (.invokevirtual 41, 3) := by decide +kernel
theorem dL_law_469 : decode cL_law 469 = .ok (.aload_n 2, 1) := by decide +kernel
theorem dL_law_470 : decode cL_law 470 = .ok (.aload_n 0, 1) := by decide +kernel
theorem dL_law_471 : decode cL_law 471 = .ok (.iload_n 3, 1) := by decide +kernel
theorem dL_law_472 : decode cL_law 472 = .ok (.iconst 1, 1) := by decide +kernel
theorem dL_law_473 : decode cL_law 473 = .ok (.iadd, 1) := by decide +kernel
theorem dL_law_474 : decode cL_law 474 = .ok (.iaload, 1) := by decide +kernel
theorem dL_law_475 : decode cL_law 475 = .ok (.aload_n 0, 1) := by decide +kernel
theorem dL_law_476 : decode cL_law 476 = .ok (.iload_n 3, 1) := by decide +kernel
theorem dL_law_477 : decode cL_law 477 = .ok (.iconst 2, 1) := by decide +kernel
theorem dL_law_478 : decode cL_law 478 = .ok (.iadd, 1) := by decide +kernel
theorem dL_law_479 : decode cL_law 479 = .ok (.iaload, 1) := by decide +kernel
theorem dL_law_480 : decode cL_law 480 = .ok (.aload_n 0, 1) := by decide +kernel
theorem dL_law_481 : decode cL_law 481 = .ok (.iload_n 3, 1) := by decide +kernel
theorem dL_law_482 : decode cL_law 482 = .ok (.iconst 3, 1) := by decide +kernel
theorem dL_law_483 : decode cL_law 483 = .ok (.iadd, 1) := by decide +kernel
theorem dL_law_484 : decode cL_law 484 = .ok (.iaload, 1) := by decide +kernel
theorem dL_law_485 : decode cL_law 485 = .ok (.invokevirtual 45, 3) := by decide +kernel
theorem dL_law_488 : decode cL_law 488 = .ok (.if_icmp .eq 1727, 3) := by decide +kernel
theorem dL_law_491 : decode cL_law 491 = .ok (.iconst 0, 1) := by decide +kernel
theorem dL_law_492 : decode cL_law 492 = .ok (.ireturn, 1) := by decide +kernel
theorem dL_law_493 : decode cL_law 493 = .ok (.aload_n 1, 1) := by decide +kernel
theorem dL_law_494 : decode cL_law 494 = .ok (.aload_n 0, 1) := by decide +kernel
theorem dL_law_495 : decode cL_law 495 = .ok (.iload_n 3, 1) := by decide +kernel
theorem dL_law_496 : decode cL_law 496 = .ok (.iconst 1, 1) := by decide +kernel
theorem dL_law_497 : decode cL_law 497 = .ok (.iadd, 1) := by decide +kernel
theorem dL_law_498 : decode cL_law 498 = .ok (.iaload, 1) := by decide +kernel
theorem dL_law_499 : decode cL_law 499 = .ok (.aload_n 0, 1) := by decide +kernel
theorem dL_law_500 : decode cL_law 500 = .ok (.iload_n 3, 1) := by decide +kernel
theorem dL_law_501 : decode cL_law 501 = .ok (.iconst 2, 1) := by decide +kernel
theorem dL_law_502 : decode cL_law 502 = .ok (.iadd, 1) := by decide +kernel
theorem dL_law_503 : decode cL_law 503 = .ok (.iaload, 1) := by decide +kernel
theorem dL_law_504 : decode cL_law 504 = .ok (.aload_n 0, 1) := by decide +kernel
theorem dL_law_505 : decode cL_law 505 = .ok (.iload_n 3, 1) := by decide +kernel
theorem dL_law_506 : decode cL_law 506 = .ok (.iconst 3, 1) := by decide +kernel
theorem dL_law_507 : decode cL_law 507 = .ok (.iadd, 1) := by decide +kernel
theorem dL_law_508 : decode cL_law 508 = .ok (.iaload, 1) := by decide +kernel
theorem dL_law_509 : decode cL_law 509 = .ok (.aload_n 0, 1) := by decide +kernel
theorem dL_law_510 : decode cL_law 510 = .ok (.iload_n 3, 1) := by decide +kernel
theorem dL_law_511 : decode cL_law 511 = .ok (.iconst 4, 1) := by decide +kernel
theorem dL_law_512 : decode cL_law 512 = .ok (.iadd, 1) := by decide +kernel
theorem dL_law_513 : decode cL_law 513 = .ok (.iaload, 1) := by decide +kernel
theorem dL_law_514 : decode cL_law 514 = .ok (.invokevirtual 46, 3) := by decide +kernel
theorem dL_law_517 : decode cL_law 517 = .ok (.pop, 1) := by decide +kernel
theorem dL_law_518 : decode cL_law 518 = .ok (.aload_n 2, 1) := by decide +kernel
theorem dL_law_519 : decode cL_law 519 = .ok (.aload_n 0, 1) := by decide +kernel
theorem dL_law_520 : decode cL_law 520 = .ok (.iload_n 3, 1) := by decide +kernel
theorem dL_law_521 : decode cL_law 521 = .ok (.iconst 1, 1) := by decide +kernel
theorem dL_law_522 : decode cL_law 522 = .ok (.iadd, 1) := by decide +kernel
theorem dL_law_523 : decode cL_law 523 = .ok (.iaload, 1) := by decide +kernel
theorem dL_law_524 : decode cL_law 524 = .ok (.aload_n 0, 1) := by decide +kernel
theorem dL_law_525 : decode cL_law 525 = .ok (.iload_n 3, 1) := by decide +kernel
theorem dL_law_526 : decode cL_law 526 = .ok (.iconst 2, 1) := by decide +kernel
theorem dL_law_527 : decode cL_law 527 = .ok (.iadd, 1) := by decide +kernel
theorem dL_law_528 : decode cL_law 528 = .ok (.iaload, 1) := by decide +kernel
theorem dL_law_529 : decode cL_law 529 = .ok (.aload_n 0, 1) := by decide +kernel
theorem dL_law_530 : decode cL_law 530 = .ok (.iload_n 3, 1) := by decide +kernel
theorem dL_law_531 : decode cL_law 531 = .ok (.iconst 3, 1) := by decide +kernel
theorem dL_law_532 : decode cL_law 532 = .ok (.iadd, 1) := by decide +kernel
theorem dL_law_533 : decode cL_law 533 = .ok (.iaload, 1) := by decide +kernel
theorem dL_law_534 : decode cL_law 534 = .ok (.aload_n 0, 1) := by decide +kernel
theorem dL_law_535 : decode cL_law 535 = .ok (.iload_n 3, 1) := by decide +kernel
theorem dL_law_536 : decode cL_law 536 = .ok (.iconst 4, 1) := by decide +kernel
theorem dL_law_537 : decode cL_law 537 = .ok (.iadd, 1) := by decide +kernel
theorem dL_law_538 : decode cL_law 538 = .ok (.iaload, 1) := by decide +kernel
theorem dL_law_539 : decode cL_law 539 = .ok (.invokevirtual 50, 3) := by decide +kernel
theorem dL_law_542 : decode cL_law 542 = .ok (.pop, 1) := by decide +kernel
theorem dL_law_543 : decode cL_law 543 = .ok (.goto 1672, 3) := by decide +kernel
theorem dL_law_546 : decode cL_law 546 = .ok (.aload_n 1, 1) := by decide +kernel
theorem dL_law_547 : decode cL_law 547 = .ok (.aload_n 0, 1) := by decide +kernel
theorem dL_law_548 : decode cL_law 548 = .ok (.iload_n 3, 1) := by decide +kernel
theorem dL_law_549 : decode cL_law 549 = .ok (.iconst 1, 1) := by decide +kernel
theorem dL_law_550 : decode cL_law 550 = .ok (.iadd, 1) := by decide +kernel
theorem dL_law_551 : decode cL_law 551 = .ok (.iaload, 1) := by decide +kernel
theorem dL_law_552 : decode cL_law 552 = .ok (.aload_n 0, 1) := by decide +kernel
theorem dL_law_553 : decode cL_law 553 = .ok (.iload_n 3, 1) := by decide +kernel
theorem dL_law_554 : decode cL_law 554 = .ok (.iconst 2, 1) := by decide +kernel
theorem dL_law_555 : decode cL_law 555 = .ok (.iadd, 1) := by decide +kernel
theorem dL_law_556 : decode cL_law 556 = .ok (.iaload, 1) := by decide +kernel
theorem dL_law_557 : decode cL_law 557 = .ok (.invokevirtual 51, 3) := by decide +kernel
theorem dL_law_560 : decode cL_law 560 = .ok (.pop, 1) := by decide +kernel
theorem dL_law_561 : decode cL_law 561 = .ok (.aload_n 2, 1) := by decide +kernel
theorem dL_law_562 : decode cL_law 562 = .ok (.aload_n 0, 1) := by decide +kernel
theorem dL_law_563 : decode cL_law 563 = .ok (.iload_n 3, 1) := by decide +kernel
theorem dL_law_564 : decode cL_law 564 = .ok (.iconst 1, 1) := by decide +kernel
theorem dL_law_565 : decode cL_law 565 = .ok (.iadd, 1) := by decide +kernel
theorem dL_law_566 : decode cL_law 566 = .ok (.iaload, 1) := by decide +kernel
theorem dL_law_567 : decode cL_law 567 = .ok (.aload_n 0, 1) := by decide +kernel
theorem dL_law_568 : decode cL_law 568 = .ok (.iload_n 3, 1) := by decide +kernel
theorem dL_law_569 : decode cL_law 569 = .ok (.iconst 2, 1) := by decide +kernel
theorem dL_law_570 : decode cL_law 570 = .ok (.iadd, 1) := by decide +kernel
theorem dL_law_571 : decode cL_law 571 = .ok (.iaload, 1) := by decide +kernel
theorem dL_law_572 : decode cL_law 572 = .ok (.invokevirtual 55, 3) := by decide +kernel
theorem dL_law_575 : decode cL_law 575 = .ok (.pop, 1) := by decide +kernel
theorem dL_law_576 : decode cL_law 576 = .ok (.goto 1639, 3) := by decide +kernel
theorem dL_law_579 : decode cL_law 579 = .ok (.aload_n 1, 1) := by decide +kernel
theorem dL_law_580 : decode cL_law 580 = .ok (.aload_n 0, 1) := by decide +kernel
theorem dL_law_581 : decode cL_law 581 = .ok (.iload_n 3, 1) := by decide +kernel
theorem dL_law_582 : decode cL_law 582 = .ok (.iconst 1, 1) := by decide +kernel
theorem dL_law_583 : decode cL_law 583 = .ok (.iadd, 1) := by decide +kernel
theorem dL_law_584 : decode cL_law 584 = .ok (.iaload, 1) := by decide +kernel
theorem dL_law_585 : decode cL_law 585 = .ok (.aload_n 0, 1) := by decide +kernel
theorem dL_law_586 : decode cL_law 586 = .ok (.iload_n 3, 1) := by decide +kernel
theorem dL_law_587 : decode cL_law 587 = .ok (.iconst 2, 1) := by decide +kernel
theorem dL_law_588 : decode cL_law 588 = .ok (.iadd, 1) := by decide +kernel
theorem dL_law_589 : decode cL_law 589 = .ok (.iaload, 1) := by decide +kernel
theorem dL_law_590 : decode cL_law 590 = .ok (.invokevirtual 56, 3) := by decide +kernel
theorem dL_law_593 : decode cL_law 593 = .ok (.pop, 1) := by decide +kernel
theorem dL_law_594 : decode cL_law 594 = .ok (.aload_n 2, 1) := by decide +kernel
theorem dL_law_595 : decode cL_law 595 = .ok (.aload_n 0, 1) := by decide +kernel
theorem dL_law_596 : decode cL_law 596 = .ok (.iload_n 3, 1) := by decide +kernel
theorem dL_law_597 : decode cL_law 597 = .ok (.iconst 1, 1) := by decide +kernel
theorem dL_law_598 : decode cL_law 598 = .ok (.iadd, 1) := by decide +kernel
theorem dL_law_599 : decode cL_law 599 = .ok (.iaload, 1) := by decide +kernel
theorem dL_law_600 : decode cL_law 600 = .ok (.aload_n 0, 1) := by decide +kernel
theorem dL_law_601 : decode cL_law 601 = .ok (.iload_n 3, 1) := by decide +kernel
theorem dL_law_602 : decode cL_law 602 = .ok (.iconst 2, 1) := by decide +kernel
theorem dL_law_603 : decode cL_law 603 = .ok (.iadd, 1) := by decide +kernel
theorem dL_law_604 : decode cL_law 604 = .ok (.iaload, 1) := by decide +kernel
theorem dL_law_605 : decode cL_law 605 = .ok (.invokevirtual 59, 3) := by decide +kernel
theorem dL_law_608 : decode cL_law 608 = .ok (.pop, 1) := by decide +kernel
theorem dL_law_609 : decode cL_law 609 = .ok (.goto 1606, 3) := by decide +kernel
theorem dL_law_612 : decode cL_law 612 = .ok (.aload_n 1, 1) := by decide +kernel
theorem dL_law_613 : decode cL_law 613 = .ok (.aload_n 0, 1) := by decide +kernel
theorem dL_law_614 : decode cL_law 614 = .ok (.iload_n 3, 1) := by decide +kernel
theorem dL_law_615 : decode cL_law 615 = .ok (.iconst 1, 1) := by decide +kernel
theorem dL_law_616 : decode cL_law 616 = .ok (.iadd, 1) := by decide +kernel
theorem dL_law_617 : decode cL_law 617 = .ok (.iaload, 1) := by decide +kernel
theorem dL_law_618 : decode cL_law 618 = .ok (.aload_n 0, 1) := by decide +kernel
theorem dL_law_619 : decode cL_law 619 = .ok (.iload_n 3, 1) := by decide +kernel
theorem dL_law_620 : decode cL_law 620 = .ok (.iconst 2, 1) := by decide +kernel
theorem dL_law_621 : decode cL_law 621 = .ok (.iadd, 1) := by decide +kernel
theorem dL_law_622 : decode cL_law 622 = .ok (.iaload, 1) := by decide +kernel
theorem dL_law_623 : decode cL_law 623 = .ok (.invokevirtual 60, 3) := by decide +kernel
theorem dL_law_626 : decode cL_law 626 = .ok (.pop, 1) := by decide +kernel
theorem dL_law_627 : decode cL_law 627 = .ok (.aload_n 2, 1) := by decide +kernel
theorem dL_law_628 : decode cL_law 628 = .ok (.aload_n 0, 1) := by decide +kernel
theorem dL_law_629 : decode cL_law 629 = .ok (.iload_n 3, 1) := by decide +kernel
theorem dL_law_630 : decode cL_law 630 = .ok (.iconst 1, 1) := by decide +kernel
theorem dL_law_631 : decode cL_law 631 = .ok (.iadd, 1) := by decide +kernel
theorem dL_law_632 : decode cL_law 632 = .ok (.iaload, 1) := by decide +kernel
theorem dL_law_633 : decode cL_law 633 = .ok (.aload_n 0, 1) := by decide +kernel
theorem dL_law_634 : decode cL_law 634 = .ok (.iload_n 3, 1) := by decide +kernel
theorem dL_law_635 : decode cL_law 635 = .ok (.iconst 2, 1) := by decide +kernel
theorem dL_law_636 : decode cL_law 636 = .ok (.iadd, 1) := by decide +kernel
theorem dL_law_637 : decode cL_law 637 = .ok (.iaload, 1) := by decide +kernel
theorem dL_law_638 : decode cL_law 638 = .ok (.invokevirtual 63, 3) := by decide +kernel
theorem dL_law_641 : decode cL_law 641 = .ok (.pop, 1) := by decide +kernel
theorem dL_law_642 : decode cL_law 642 = .ok (.goto 1573, 3) := by decide +kernel
theorem dL_law_645 : decode cL_law 645 = .ok (.aload_n 1, 1) := by decide +kernel
theorem dL_law_646 : decode cL_law 646 = .ok (.aload_n 0, 1) := by decide +kernel
theorem dL_law_647 : decode cL_law 647 = .ok (.iload_n 3, 1) := by decide +kernel
theorem dL_law_648 : decode cL_law 648 = .ok (.iconst 1, 1) := by decide +kernel
theorem dL_law_649 : decode cL_law 649 = .ok (.iadd, 1) := by decide +kernel
theorem dL_law_650 : decode cL_law 650 = .ok (.iaload, 1) := by decide +kernel
theorem dL_law_651 : decode cL_law 651 = .ok (.aload_n 0, 1) := by decide +kernel
theorem dL_law_652 : decode cL_law 652 = .ok (.iload_n 3, 1) := by decide +kernel
theorem dL_law_653 : decode cL_law 653 = .ok (.iconst 2, 1) := by decide +kernel
theorem dL_law_654 : decode cL_law 654 = .ok (.iadd, 1) := by decide +kernel
theorem dL_law_655 : decode cL_law 655 = .ok (.iaload, 1) := by decide +kernel
theorem dL_law_656 : decode cL_law 656 = .ok (.aload_n 0, 1) := by decide +kernel
theorem dL_law_657 : decode cL_law 657 = .ok (.iload_n 3, 1) := by decide +kernel
theorem dL_law_658 : decode cL_law 658 = .ok (.iconst 3, 1) := by decide +kernel
theorem dL_law_659 : decode cL_law 659 = .ok (.iadd, 1) := by decide +kernel
theorem dL_law_660 : decode cL_law 660 = .ok (.iaload, 1) := by decide +kernel
theorem dL_law_661 : decode cL_law 661 = .ok (.invokevirtual 64, 3) := by decide +kernel
theorem dL_law_664 : decode cL_law 664 = .ok (.pop, 1) := by decide +kernel
theorem dL_law_665 : decode cL_law 665 = .ok (.aload_n 2, 1) := by decide +kernel
theorem dL_law_666 : decode cL_law 666 = .ok (.aload_n 0, 1) := by decide +kernel
theorem dL_law_667 : decode cL_law 667 = .ok (.iload_n 3, 1) := by decide +kernel
theorem dL_law_668 : decode cL_law 668 = .ok (.iconst 1, 1) := by decide +kernel
theorem dL_law_669 : decode cL_law 669 = .ok (.iadd, 1) := by decide +kernel
theorem dL_law_670 : decode cL_law 670 = .ok (.iaload, 1) := by decide +kernel
theorem dL_law_671 : decode cL_law 671 = .ok (.aload_n 0, 1) := by decide +kernel
theorem dL_law_672 : decode cL_law 672 = .ok (.iload_n 3, 1) := by decide +kernel
theorem dL_law_673 : decode cL_law 673 = .ok (.iconst 2, 1) := by decide +kernel
theorem dL_law_674 : decode cL_law 674 = .ok (.iadd, 1) := by decide +kernel
theorem dL_law_675 : decode cL_law 675 = .ok (.iaload, 1) := by decide +kernel
theorem dL_law_676 : decode cL_law 676 = .ok (.aload_n 0, 1) := by decide +kernel
theorem dL_law_677 : decode cL_law 677 = .ok (.iload_n 3, 1) := by decide +kernel
theorem dL_law_678 : decode cL_law 678 = .ok (.iconst 3, 1) := by decide +kernel
theorem dL_law_679 : decode cL_law 679 = .ok (.iadd, 1) := by decide +kernel
theorem dL_law_680 : decode cL_law 680 = .ok (.iaload, 1) := by decide +kernel
theorem dL_law_681 : decode cL_law 681 = .ok (.invokevirtual 68, 3) := by decide +kernel
theorem dL_law_684 : decode cL_law 684 = .ok (.pop, 1) := by decide +kernel
theorem dL_law_685 : decode cL_law 685 = .ok (.goto 1530, 3) := by decide +kernel
theorem dL_law_688 : decode cL_law 688 = .ok (.aload_n 1, 1) := by decide +kernel
theorem dL_law_689 : decode cL_law 689 = .ok (.aload_n 0, 1) := by decide +kernel
theorem dL_law_690 : decode cL_law 690 = .ok (.iload_n 3, 1) := by decide +kernel
theorem dL_law_691 : decode cL_law 691 = .ok (.iconst 1, 1) := by decide +kernel
theorem dL_law_692 : decode cL_law 692 = .ok (.iadd, 1) := by decide +kernel
theorem dL_law_693 : decode cL_law 693 = .ok (.iaload, 1) := by decide +kernel
theorem dL_law_694 : decode cL_law 694 = .ok (.aload_n 0, 1) := by decide +kernel
theorem dL_law_695 : decode cL_law 695 = .ok (.iload_n 3, 1) := by decide +kernel
theorem dL_law_696 : decode cL_law 696 = .ok (.iconst 2, 1) := by decide +kernel
theorem dL_law_697 : decode cL_law 697 = .ok (.iadd, 1) := by decide +kernel
theorem dL_law_698 : decode cL_law 698 = .ok (.iaload, 1) := by decide +kernel
theorem dL_law_699 : decode cL_law 699 = .ok (.aload_n 0, 1) := by decide +kernel
theorem dL_law_700 : decode cL_law 700 = .ok (.iload_n 3, 1) := by decide +kernel
theorem dL_law_701 : decode cL_law 701 = .ok (.iconst 3, 1) := by decide +kernel
theorem dL_law_702 : decode cL_law 702 = .ok (.iadd, 1) := by decide +kernel
theorem dL_law_703 : decode cL_law 703 = .ok (.iaload, 1) := by decide +kernel
theorem dL_law_704 : decode cL_law 704 = .ok (.invokevirtual 69, 3) := by decide +kernel
theorem dL_law_707 : decode cL_law 707 = .ok (.pop, 1) := by decide +kernel
theorem dL_law_708 : decode cL_law 708 = .ok (.aload_n 2, 1) := by decide +kernel
theorem dL_law_709 : decode cL_law 709 = .ok (.aload_n 0, 1) := by decide +kernel
theorem dL_law_710 : decode cL_law 710 = .ok (.iload_n 3, 1) := by decide +kernel
theorem dL_law_711 : decode cL_law 711 = .ok (.iconst 1, 1) := by decide +kernel
theorem dL_law_712 : decode cL_law 712 = .ok (.iadd, 1) := by decide +kernel
theorem dL_law_713 : decode cL_law 713 = .ok (.iaload, 1) := by decide +kernel
theorem dL_law_714 : decode cL_law 714 = .ok (.aload_n 0, 1) := by decide +kernel
theorem dL_law_715 : decode cL_law 715 = .ok (.iload_n 3, 1) := by decide +kernel
theorem dL_law_716 : decode cL_law 716 = .ok (.iconst 2, 1) := by decide +kernel
theorem dL_law_717 : decode cL_law 717 = .ok (.iadd, 1) := by decide +kernel
theorem dL_law_718 : decode cL_law 718 = .ok (.iaload, 1) := by decide +kernel
theorem dL_law_719 : decode cL_law 719 = .ok (.aload_n 0, 1) := by decide +kernel
theorem dL_law_720 : decode cL_law 720 = .ok (.iload_n 3, 1) := by decide +kernel
theorem dL_law_721 : decode cL_law 721 = .ok (.iconst 3, 1) := by decide +kernel
theorem dL_law_722 : decode cL_law 722 = .ok (.iadd, 1) := by decide +kernel
theorem dL_law_723 : decode cL_law 723 = .ok (.iaload, 1) := by decide +kernel
theorem dL_law_724 : decode cL_law 724 = .ok (.invokevirtual 72, 3) := by decide +kernel
theorem dL_law_727 : decode cL_law 727 = .ok (.pop, 1) := by decide +kernel
theorem dL_law_728 : decode cL_law 728 = .ok (.goto 1487, 3) := by decide +kernel
theorem dL_law_731 : decode cL_law 731 = .ok (.aload_n 1, 1) := by decide +kernel
theorem dL_law_732 : decode cL_law 732 = .ok (.aload_n 0, 1) := by decide +kernel
theorem dL_law_733 : decode cL_law 733 = .ok (.iload_n 3, 1) := by decide +kernel
theorem dL_law_734 : decode cL_law 734 = .ok (.iconst 1, 1) := by decide +kernel
theorem dL_law_735 : decode cL_law 735 = .ok (.iadd, 1) := by decide +kernel
theorem dL_law_736 : decode cL_law 736 = .ok (.iaload, 1) := by decide +kernel
theorem dL_law_737 : decode cL_law 737 = .ok (.aload_n 0, 1) := by decide +kernel
theorem dL_law_738 : decode cL_law 738 = .ok (.iload_n 3, 1) := by decide +kernel
theorem dL_law_739 : decode cL_law 739 = .ok (.iconst 2, 1) := by decide +kernel
theorem dL_law_740 : decode cL_law 740 = .ok (.iadd, 1) := by decide +kernel
theorem dL_law_741 : decode cL_law 741 = .ok (.iaload, 1) := by decide +kernel
theorem dL_law_742 : decode cL_law 742 = .ok (.invokevirtual 73, 3) := by decide +kernel
theorem dL_law_745 : decode cL_law 745 = .ok (.pop, 1) := by decide +kernel
theorem dL_law_746 : decode cL_law 746 = .ok (.aload_n 2, 1) := by decide +kernel
theorem dL_law_747 : decode cL_law 747 = .ok (.aload_n 0, 1) := by decide +kernel
theorem dL_law_748 : decode cL_law 748 = .ok (.iload_n 3, 1) := by decide +kernel
theorem dL_law_749 : decode cL_law 749 = .ok (.iconst 1, 1) := by decide +kernel
theorem dL_law_750 : decode cL_law 750 = .ok (.iadd, 1) := by decide +kernel
theorem dL_law_751 : decode cL_law 751 = .ok (.iaload, 1) := by decide +kernel
theorem dL_law_752 : decode cL_law 752 = .ok (.aload_n 0, 1) := by decide +kernel
theorem dL_law_753 : decode cL_law 753 = .ok (.iload_n 3, 1) := by decide +kernel
theorem dL_law_754 : decode cL_law 754 = .ok (.iconst 2, 1) := by decide +kernel
theorem dL_law_755 : decode cL_law 755 = .ok (.iadd, 1) := by decide +kernel
theorem dL_law_756 : decode cL_law 756 = .ok (.iaload, 1) := by decide +kernel
theorem dL_law_757 : decode cL_law 757 = .ok (.invokevirtual 76, 3) := by decide +kernel
theorem dL_law_760 : decode cL_law 760 = .ok (.pop, 1) := by decide +kernel
theorem dL_law_761 : decode cL_law 761 = .ok (.goto 1454, 3) := by decide +kernel
theorem dL_law_764 : decode cL_law 764 = .ok (.aload_n 1, 1) := by decide +kernel
theorem dL_law_765 : decode cL_law 765 = .ok (.aload_n 0, 1) := by decide +kernel
theorem dL_law_766 : decode cL_law 766 = .ok (.iload_n 3, 1) := by decide +kernel
theorem dL_law_767 : decode cL_law 767 = .ok (.iconst 1, 1) := by decide +kernel
theorem dL_law_768 : decode cL_law 768 = .ok (.iadd, 1) := by decide +kernel
theorem dL_law_769 : decode cL_law 769 = .ok (.iaload, 1) := by decide +kernel
theorem dL_law_770 : decode cL_law 770 = .ok (.aload_n 0, 1) := by decide +kernel
theorem dL_law_771 : decode cL_law 771 = .ok (.iload_n 3, 1) := by decide +kernel
theorem dL_law_772 : decode cL_law 772 = .ok (.iconst 2, 1) := by decide +kernel
theorem dL_law_773 : decode cL_law 773 = .ok (.iadd, 1) := by decide +kernel
theorem dL_law_774 : decode cL_law 774 = .ok (.iaload, 1) := by decide +kernel
theorem dL_law_775 : decode cL_law 775 = .ok (.aload_n 0, 1) := by decide +kernel
theorem dL_law_776 : decode cL_law 776 = .ok (.iload_n 3, 1) := by decide +kernel
theorem dL_law_777 : decode cL_law 777 = .ok (.iconst 3, 1) := by decide +kernel
theorem dL_law_778 : decode cL_law 778 = .ok (.iadd, 1) := by decide +kernel
theorem dL_law_779 : decode cL_law 779 = .ok (.iaload, 1) := by decide +kernel
theorem dL_law_780 : decode cL_law 780 = .ok (.aload_n 0, 1) := by decide +kernel
theorem dL_law_781 : decode cL_law 781 = .ok (.iload_n 3, 1) := by decide +kernel
theorem dL_law_782 : decode cL_law 782 = .ok (.iconst 4, 1) := by decide +kernel
theorem dL_law_783 : decode cL_law 783 = .ok (.iadd, 1) := by decide +kernel
theorem dL_law_784 : decode cL_law 784 = .ok (.iaload, 1) := by decide +kernel
theorem dL_law_785 : decode cL_law 785 = .ok (.invokevirtual 77, 3) := by decide +kernel
theorem dL_law_788 : decode cL_law 788 = .ok (.pop, 1) := by decide +kernel
theorem dL_law_789 : decode cL_law 789 = .ok (.aload_n 2, 1) := by decide +kernel
theorem dL_law_790 : decode cL_law 790 = .ok (.aload_n 0, 1) := by decide +kernel
theorem dL_law_791 : decode cL_law 791 = .ok (.iload_n 3, 1) := by decide +kernel
theorem dL_law_792 : decode cL_law 792 = .ok (.iconst 1, 1) := by decide +kernel
theorem dL_law_793 : decode cL_law 793 = .ok (.iadd, 1) := by decide +kernel
theorem dL_law_794 : decode cL_law 794 = .ok (.iaload, 1) := by decide +kernel
theorem dL_law_795 : decode cL_law 795 = .ok (.aload_n 0, 1) := by decide +kernel
theorem dL_law_796 : decode cL_law 796 = .ok (.iload_n 3, 1) := by decide +kernel
theorem dL_law_797 : decode cL_law 797 = .ok (.iconst 2, 1) := by decide +kernel
theorem dL_law_798 : decode cL_law 798 = .ok (.iadd, 1) := by decide +kernel
theorem dL_law_799 : decode cL_law 799 = .ok (.iaload, 1) := by decide +kernel
theorem dL_law_800 : decode cL_law 800 = .ok (.aload_n 0, 1) := by decide +kernel
theorem dL_law_801 : decode cL_law 801 = .ok (.iload_n 3, 1) := by decide +kernel
theorem dL_law_802 : decode cL_law 802 = .ok (.iconst 3, 1) := by decide +kernel
theorem dL_law_803 : decode cL_law 803 = .ok (.iadd, 1) := by decide +kernel
theorem dL_law_804 : decode cL_law 804 = .ok (.iaload, 1) := by decide +kernel
theorem dL_law_805 : decode cL_law 805 = .ok (.aload_n 0, 1) := by decide +kernel
theorem dL_law_806 : decode cL_law 806 = .ok (.iload_n 3, 1) := by decide +kernel
theorem dL_law_807 : decode cL_law 807 = .ok (.iconst 4, 1) := by decide +kernel
theorem dL_law_808 : decode cL_law 808 = .ok (.iadd, 1) := by decide +kernel
theorem dL_law_809 : decode cL_law 809 = .ok (.iaload, 1) := by decide +kernel
theorem dL_law_810 : decode cL_law 810 = .ok (.invokevirtual 80, 3) := by decide +kernel
theorem dL_law_813 : decode cL_law 813 = .ok (.pop, 1) := by decide +kernel
theorem dL_law_814 : decode cL_law 814 = .ok (.goto 1401, 3) := by decide +kernel
theorem dL_law_817 : decode cL_law 817 = .ok (.aload_n 1, 1) := by decide +kernel
theorem dL_law_818 : decode cL_law 818 = .ok (.aload_n 0, 1) := by decide +kernel
theorem dL_law_819 : decode cL_law 819 = .ok (.iload_n 3, 1) := by decide +kernel
theorem dL_law_820 : decode cL_law 820 = .ok (.iconst 1, 1) := by decide +kernel
theorem dL_law_821 : decode cL_law 821 = .ok (.iadd, 1) := by decide +kernel
theorem dL_law_822 : decode cL_law 822 = .ok (.iaload, 1) := by decide +kernel
theorem dL_law_823 : decode cL_law 823 = .ok (.aload_n 0, 1) := by decide +kernel
theorem dL_law_824 : decode cL_law 824 = .ok (.iload_n 3, 1) := by decide +kernel
theorem dL_law_825 : decode cL_law 825 = .ok (.iconst 2, 1) := by decide +kernel
theorem dL_law_826 : decode cL_law 826 = .ok (.iadd, 1) := by decide +kernel
theorem dL_law_827 : decode cL_law 827 = .ok (.iaload, 1) := by decide +kernel
theorem dL_law_828 : decode cL_law 828 = .ok (.aload_n 0, 1) := by decide +kernel
theorem dL_law_829 : decode cL_law 829 = .ok (.iload_n 3, 1) := by decide +kernel
theorem dL_law_830 : decode cL_law 830 = .ok (.iconst 3, 1) := by decide +kernel
theorem dL_law_831 : decode cL_law 831 = .ok (.iadd, 1) := by decide +kernel
theorem dL_law_832 : decode cL_law 832 = .ok (.iaload, 1) := by decide +kernel
theorem dL_law_833 : decode cL_law 833 = .ok (.aload_n 0, 1) := by decide +kernel
theorem dL_law_834 : decode cL_law 834 = .ok (.iload_n 3, 1) := by decide +kernel
theorem dL_law_835 : decode cL_law 835 = .ok (.iconst 4, 1) := by decide +kernel
theorem dL_law_836 : decode cL_law 836 = .ok (.iadd, 1) := by decide +kernel
theorem dL_law_837 : decode cL_law 837 = .ok (.iaload, 1) := by decide +kernel
theorem dL_law_838 : decode cL_law 838 = .ok (.invokevirtual 81, 3) := by decide +kernel
theorem dL_law_841 : decode cL_law 841 = .ok (.pop, 1) := by decide +kernel
theorem dL_law_842 : decode cL_law 842 = .ok (.aload_n 2, 1) := by decide +kernel
theorem dL_law_843 : decode cL_law 843 = .ok (.aload_n 0, 1) := by decide +kernel
theorem dL_law_844 : decode cL_law 844 = .ok (.iload_n 3, 1) := by decide +kernel
theorem dL_law_845 : decode cL_law 845 = .ok (.iconst 1, 1) := by decide +kernel
theorem dL_law_846 : decode cL_law 846 = .ok (.iadd, 1) := by decide +kernel
theorem dL_law_847 : decode cL_law 847 = .ok (.iaload, 1) := by decide +kernel
theorem dL_law_848 : decode cL_law 848 = .ok (.aload_n 0, 1) := by decide +kernel
theorem dL_law_849 : decode cL_law 849 = .ok (.iload_n 3, 1) := by decide +kernel
theorem dL_law_850 : decode cL_law 850 = .ok (.iconst 2, 1) := by decide +kernel
theorem dL_law_851 : decode cL_law 851 = .ok (.iadd, 1) := by decide +kernel
theorem dL_law_852 : decode cL_law 852 = .ok (.iaload, 1) := by decide +kernel
theorem dL_law_853 : decode cL_law 853 = .ok (.aload_n 0, 1) := by decide +kernel
theorem dL_law_854 : decode cL_law 854 = .ok (.iload_n 3, 1) := by decide +kernel
theorem dL_law_855 : decode cL_law 855 = .ok (.iconst 3, 1) := by decide +kernel
theorem dL_law_856 : decode cL_law 856 = .ok (.iadd, 1) := by decide +kernel
theorem dL_law_857 : decode cL_law 857 = .ok (.iaload, 1) := by decide +kernel
theorem dL_law_858 : decode cL_law 858 = .ok (.aload_n 0, 1) := by decide +kernel
theorem dL_law_859 : decode cL_law 859 = .ok (.iload_n 3, 1) := by decide +kernel
theorem dL_law_860 : decode cL_law 860 = .ok (.iconst 4, 1) := by decide +kernel
theorem dL_law_861 : decode cL_law 861 = .ok (.iadd, 1) := by decide +kernel
theorem dL_law_862 : decode cL_law 862 = .ok (.iaload, 1) := by decide +kernel
theorem dL_law_863 : decode cL_law 863 = .ok (.invokevirtual 84, 3) := by decide +kernel
theorem dL_law_866 : decode cL_law 866 = .ok (.pop, 1) := by decide +kernel
theorem dL_law_867 : decode cL_law 867 = .ok (.goto 1348, 3) := by decide +kernel
theorem dL_law_870 : decode cL_law 870 = .ok (.aload_n 1, 1) := by decide +kernel
theorem dL_law_871 : decode cL_law 871 = .ok (.aload_n 0, 1) := by decide +kernel
theorem dL_law_872 : decode cL_law 872 = .ok (.iload_n 3, 1) := by decide +kernel
theorem dL_law_873 : decode cL_law 873 = .ok (.iconst 1, 1) := by decide +kernel
theorem dL_law_874 : decode cL_law 874 = .ok (.iadd, 1) := by decide +kernel
theorem dL_law_875 : decode cL_law 875 = .ok (.iaload, 1) := by decide +kernel
theorem dL_law_876 : decode cL_law 876 = .ok (.aload_n 0, 1) := by decide +kernel
theorem dL_law_877 : decode cL_law 877 = .ok (.iload_n 3, 1) := by decide +kernel
theorem dL_law_878 : decode cL_law 878 = .ok (.iconst 2, 1) := by decide +kernel
theorem dL_law_879 : decode cL_law 879 = .ok (.iadd, 1) := by decide +kernel
theorem dL_law_880 : decode cL_law 880 = .ok (.iaload, 1) := by decide +kernel
theorem dL_law_881 : decode cL_law 881 = .ok (.aload_n 0, 1) := by decide +kernel
theorem dL_law_882 : decode cL_law 882 = .ok (.iload_n 3, 1) := by decide +kernel
theorem dL_law_883 : decode cL_law 883 = .ok (.iconst 3, 1) := by decide +kernel
theorem dL_law_884 : decode cL_law 884 = .ok (.iadd, 1) := by decide +kernel
theorem dL_law_885 : decode cL_law 885 = .ok (.iaload, 1) := by decide +kernel
theorem dL_law_886 : decode cL_law 886 = .ok (.invokevirtual 85, 3) := by decide +kernel
theorem dL_law_889 : decode cL_law 889 = .ok (.pop, 1) := by decide +kernel
theorem dL_law_890 : decode cL_law 890 = .ok (.aload_n 2, 1) := by decide +kernel
theorem dL_law_891 : decode cL_law 891 = .ok (.aload_n 0, 1) := by decide +kernel
theorem dL_law_892 : decode cL_law 892 = .ok (.iload_n 3, 1) := by decide +kernel
theorem dL_law_893 : decode cL_law 893 = .ok (.iconst 1, 1) := by decide +kernel
theorem dL_law_894 : decode cL_law 894 = .ok (.iadd, 1) := by decide +kernel
theorem dL_law_895 : decode cL_law 895 = .ok (.iaload, 1) := by decide +kernel
theorem dL_law_896 : decode cL_law 896 = .ok (.aload_n 0, 1) := by decide +kernel
theorem dL_law_897 : decode cL_law 897 = .ok (.iload_n 3, 1) := by decide +kernel
theorem dL_law_898 : decode cL_law 898 = .ok (.iconst 2, 1) := by decide +kernel
theorem dL_law_899 : decode cL_law 899 = .ok (.iadd, 1) := by decide +kernel
theorem dL_law_900 : decode cL_law 900 = .ok (.iaload, 1) := by decide +kernel
theorem dL_law_901 : decode cL_law 901 = .ok (.aload_n 0, 1) := by decide +kernel
theorem dL_law_902 : decode cL_law 902 = .ok (.iload_n 3, 1) := by decide +kernel
theorem dL_law_903 : decode cL_law 903 = .ok (.iconst 3, 1) := by decide +kernel
theorem dL_law_904 : decode cL_law 904 = .ok (.iadd, 1) := by decide +kernel
theorem dL_law_905 : decode cL_law 905 = .ok (.iaload, 1) := by decide +kernel
theorem dL_law_906 : decode cL_law 906 = .ok (.invokevirtual 88, 3) := by decide +kernel
theorem dL_law_909 : decode cL_law 909 = .ok (.pop, 1) := by decide +kernel
theorem dL_law_910 : decode cL_law 910 = .ok (.goto 1305, 3) := by decide +kernel
theorem dL_law_913 : decode cL_law 913 = .ok (.aload_n 1, 1) := by decide +kernel
theorem dL_law_914 : decode cL_law 914 = .ok (.aload_n 0, 1) := by decide +kernel
theorem dL_law_915 : decode cL_law 915 = .ok (.iload_n 3, 1) := by decide +kernel
theorem dL_law_916 : decode cL_law 916 = .ok (.iconst 1, 1) := by decide +kernel
theorem dL_law_917 : decode cL_law 917 = .ok (.iadd, 1) := by decide +kernel
theorem dL_law_918 : decode cL_law 918 = .ok (.iaload, 1) := by decide +kernel
theorem dL_law_919 : decode cL_law 919 = .ok (.aload_n 0, 1) := by decide +kernel
theorem dL_law_920 : decode cL_law 920 = .ok (.iload_n 3, 1) := by decide +kernel
theorem dL_law_921 : decode cL_law 921 = .ok (.iconst 2, 1) := by decide +kernel
theorem dL_law_922 : decode cL_law 922 = .ok (.iadd, 1) := by decide +kernel
