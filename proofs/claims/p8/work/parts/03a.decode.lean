theorem dX0_init_0 : decode cX0_init 0 = .ok (.aload_n 0, 1) := by decide +kernel
theorem dX0_init_1 : decode cX0_init 1 = .ok (.invokespecial 3, 3) := by decide +kernel
theorem dX0_init_4 : decode cX0_init 4 = .ok (.return_, 1) := by decide +kernel
theorem dX0_clear_0 : decode cX0_clear 0 = .ok (.aload_n 0, 1) := by decide +kernel
theorem dX0_clear_1 : decode cX0_clear 1 = .ok (.iconst 0, 1) := by decide +kernel
theorem dX0_clear_2 : decode cX0_clear 2 = .ok (.putfield 9, 3) := by decide +kernel
theorem dX0_clear_5 : decode cX0_clear 5 = .ok (.aload_n 0, 1) := by decide +kernel
theorem dX0_clear_6 : decode cX0_clear 6 = .ok (.iconst 0, 1) := by decide +kernel
theorem dX0_clear_7 : decode cX0_clear 7 = .ok (.putfield 15, 3) := by decide +kernel
theorem dX0_clear_10 : decode cX0_clear 10 = .ok (.aload_n 0, 1) := by decide +kernel
theorem dX0_clear_11 : decode cX0_clear 11 = .ok (.iconst 0, 1) := by decide +kernel
theorem dX0_clear_12 : decode cX0_clear 12 = .ok (.putfield 18, 3) := by decide +kernel
theorem dX0_clear_15 : decode cX0_clear 15 = .ok (.aload_n 0, 1) := by decide +kernel
theorem dX0_clear_16 : decode cX0_clear 16 = .ok (.iconst 0, 1) := by decide +kernel
theorem dX0_clear_17 : decode cX0_clear 17 = .ok (.putfield 21, 3) := by decide +kernel
theorem dX0_clear_20 : decode cX0_clear 20 = .ok (.aload_n 0, 1) := by decide +kernel
theorem dX0_clear_21 : decode cX0_clear 21 = .ok (.iconst 0, 1) := by decide +kernel
theorem dX0_clear_22 : decode cX0_clear 22 = .ok (.putfield 24, 3) := by decide +kernel
theorem dX0_clear_25 : decode cX0_clear 25 = .ok (.aload_n 0, 1) := by decide +kernel
theorem dX0_clear_26 : decode cX0_clear 26 = .ok (.iconst 0, 1) := by decide +kernel
theorem dX0_clear_27 : decode cX0_clear 27 = .ok (.putfield 27, 3) := by decide +kernel
theorem dX0_clear_30 : decode cX0_clear 30 = .ok (.aload_n 0, 1) := by decide +kernel
theorem dX0_clear_31 : decode cX0_clear 31 = .ok (.iconst 0, 1) := by decide +kernel
theorem dX0_clear_32 : decode cX0_clear 32 = .ok (.putfield 30, 3) := by decide +kernel
theorem dX0_clear_35 : decode cX0_clear 35 = .ok (.return_, 1) := by decide +kernel
theorem dX0_copyFrom_0 : decode cX0_copyFrom 0 = .ok (.aload_n 0, 1) := by decide +kernel
theorem dX0_copyFrom_1 : decode cX0_copyFrom 1 = .ok (.aload_n 1, 1) := by decide +kernel
theorem dX0_copyFrom_2 : decode cX0_copyFrom 2 = .ok (.getfield 9, 3) := by decide +kernel
theorem dX0_copyFrom_5 : decode cX0_copyFrom 5 = .ok (.putfield 9, 3) := by decide +kernel
theorem dX0_copyFrom_8 : decode cX0_copyFrom 8 = .ok (.aload_n 0, 1) := by decide +kernel
theorem dX0_copyFrom_9 : decode cX0_copyFrom 9 = .ok (.aload_n 1, 1) := by decide +kernel
theorem dX0_copyFrom_10 : decode cX0_copyFrom 10 = .ok (.getfield 15, 3) := by decide +kernel
theorem dX0_copyFrom_13 : decode cX0_copyFrom 13 = .ok (.putfield 15, 3) := by decide +kernel
theorem dX0_copyFrom_16 : decode cX0_copyFrom 16 = .ok (.aload_n 0, 1) := by decide +kernel
theorem dX0_copyFrom_17 : decode cX0_copyFrom 17 = .ok (.aload_n 1, 1) := by decide +kernel
theorem dX0_copyFrom_18 : decode cX0_copyFrom 18 = .ok (.getfield 18, 3) := by decide +kernel
theorem dX0_copyFrom_21 : decode cX0_copyFrom 21 = .ok (.putfield 18, 3) := by decide +kernel
theorem dX0_copyFrom_24 : decode cX0_copyFrom 24 = .ok (.aload_n 0, 1) := by decide +kernel
theorem dX0_copyFrom_25 : decode cX0_copyFrom 25 = .ok (.aload_n 1, 1) := by decide +kernel
theorem dX0_copyFrom_26 : decode cX0_copyFrom 26 = .ok (.getfield 21, 3) := by decide +kernel
theorem dX0_copyFrom_29 : decode cX0_copyFrom 29 = .ok (.putfield 21, 3) := by decide +kernel
theorem dX0_copyFrom_32 : decode cX0_copyFrom 32 = .ok (.aload_n 0, 1) := by decide +kernel
theorem dX0_copyFrom_33 : decode cX0_copyFrom 33 = .ok (.aload_n 1, 1) := by decide +kernel
theorem dX0_copyFrom_34 : decode cX0_copyFrom 34 = .ok (.getfield 24, 3) := by decide +kernel
theorem dX0_copyFrom_37 : decode cX0_copyFrom 37 = .ok (.putfield 24, 3) := by decide +kernel
theorem dX0_copyFrom_40 : decode cX0_copyFrom 40 = .ok (.aload_n 0, 1) := by decide +kernel
theorem dX0_copyFrom_41 : decode cX0_copyFrom 41 = .ok (.aload_n 1, 1) := by decide +kernel
theorem dX0_copyFrom_42 : decode cX0_copyFrom 42 = .ok (.getfield 27, 3) := by decide +kernel
theorem dX0_copyFrom_45 : decode cX0_copyFrom 45 = .ok (.putfield 27, 3) := by decide +kernel
theorem dX0_copyFrom_48 : decode cX0_copyFrom 48 = .ok (.aload_n 0, 1) := by decide +kernel
theorem dX0_copyFrom_49 : decode cX0_copyFrom 49 = .ok (.aload_n 1, 1) := by decide +kernel
theorem dX0_copyFrom_50 : decode cX0_copyFrom 50 = .ok (.getfield 30, 3) := by decide +kernel
theorem dX0_copyFrom_53 : decode cX0_copyFrom 53 = .ok (.putfield 30, 3) := by decide +kernel
theorem dX0_copyFrom_56 : decode cX0_copyFrom 56 = .ok (.return_, 1) := by decide +kernel
theorem dX0_add_0 : decode cX0_add 0 = .ok (.aload_n 0, 1) := by decide +kernel
theorem dX0_add_1 : decode cX0_add 1 = .ok (.getfield 18, 3) := by decide +kernel
theorem dX0_add_4 : decode cX0_add 4 = .ok (.ifCond .le 7, 3) := by decide +kernel
theorem dX0_add_7 : decode cX0_add 7 = .ok (.iconst 1, 1) := by decide +kernel
theorem dX0_add_8 : decode cX0_add 8 = .ok (.goto 4, 3) := by decide +kernel
theorem dX0_add_11 : decode cX0_add 11 = .ok (.iconst 0, 1) := by decide +kernel
theorem dX0_add_12 : decode cX0_add 12 = .ok (.istore_n 1, 1) := by decide +kernel
theorem dX0_add_13 : decode cX0_add 13 = .ok (.aload_n 0, 1) := by decide +kernel
theorem dX0_add_14 : decode cX0_add 14 = .ok (.dup, 1) := by decide +kernel
theorem dX0_add_15 : decode cX0_add 15 = .ok (.getfield 18, 3) := by decide +kernel
theorem dX0_add_18 : decode cX0_add 18 = .ok (.iconst 1, 1) := by decide +kernel
theorem dX0_add_19 : decode cX0_add 19 = .ok (.iadd, 1) := by decide +kernel
theorem dX0_add_20 : decode cX0_add 20 = .ok (.putfield 18, 3) := by decide +kernel
theorem dX0_add_23 : decode cX0_add 23 = .ok (.aload_n 0, 1) := by decide +kernel
theorem dX0_add_24 : decode cX0_add 24 = .ok (.iload_n 1, 1) := by decide +kernel
theorem dX0_add_25 : decode cX0_add 25 = .ok (.invokevirtual 33, 3) := by decide +kernel
theorem dX0_add_28 : decode cX0_add 28 = .ok (.return_, 1) := by decide +kernel
theorem dX0_drop_0 : decode cX0_drop 0 = .ok (.aload_n 0, 1) := by decide +kernel
theorem dX0_drop_1 : decode cX0_drop 1 = .ok (.dup, 1) := by decide +kernel
theorem dX0_drop_2 : decode cX0_drop 2 = .ok (.getfield 9, 3) := by decide +kernel
theorem dX0_drop_5 : decode cX0_drop 5 = .ok (.iconst 1, 1) := by decide +kernel
theorem dX0_drop_6 : decode cX0_drop 6 = .ok (.isub, 1) := by decide +kernel
theorem dX0_drop_7 : decode cX0_drop 7 = .ok (.putfield 9, 3) := by decide +kernel
theorem dX0_drop_10 : decode cX0_drop 10 = .ok (.aload_n 0, 1) := by decide +kernel
theorem dX0_drop_11 : decode cX0_drop 11 = .ok (.getfield 21, 3) := by decide +kernel
theorem dX0_drop_14 : decode cX0_drop 14 = .ok (.ifCond .le 13, 3) := by decide +kernel
theorem dX0_drop_17 : decode cX0_drop 17 = .ok (.aload_n 0, 1) := by decide +kernel
theorem dX0_drop_18 : decode cX0_drop 18 = .ok (.dup, 1) := by decide +kernel
theorem dX0_drop_19 : decode cX0_drop 19 = .ok (.getfield 21, 3) := by decide +kernel
theorem dX0_drop_22 : decode cX0_drop 22 = .ok (.iconst 1, 1) := by decide +kernel
theorem dX0_drop_23 : decode cX0_drop 23 = .ok (.isub, 1) := by decide +kernel
theorem dX0_drop_24 : decode cX0_drop 24 = .ok (.putfield 21, 3) := by decide +kernel
theorem dX0_drop_27 : decode cX0_drop 27 = .ok (.aload_n 0, 1) := by decide +kernel
theorem dX0_drop_28 : decode cX0_drop 28 = .ok (.iconst 0, 1) := by decide +kernel
theorem dX0_drop_29 : decode cX0_drop 29 = .ok (.invokevirtual 33, 3) := by decide +kernel
theorem dX0_drop_32 : decode cX0_drop 32 = .ok (.return_, 1) := by decide +kernel
theorem dX0_layAnew_0 : decode cX0_layAnew 0 = .ok (.aload_n 0, 1) := by decide +kernel
theorem dX0_layAnew_1 : decode cX0_layAnew 1 = .ok (.iload_n 1, 1) := by decide +kernel
theorem dX0_layAnew_2 : decode cX0_layAnew 2 = .ok (.putfield 9, 3) := by decide +kernel
theorem dX0_layAnew_5 : decode cX0_layAnew 5 = .ok (.aload_n 0, 1) := by decide +kernel
theorem dX0_layAnew_6 : decode cX0_layAnew 6 = .ok (.iconst 0, 1) := by decide +kernel
theorem dX0_layAnew_7 : decode cX0_layAnew 7 = .ok (.putfield 15, 3) := by decide +kernel
theorem dX0_layAnew_10 : decode cX0_layAnew 10 = .ok (.aload_n 0, 1) := by decide +kernel
theorem dX0_layAnew_11 : decode cX0_layAnew 11 = .ok (.iconst 0, 1) := by decide +kernel
theorem dX0_layAnew_12 : decode cX0_layAnew 12 = .ok (.putfield 18, 3) := by decide +kernel
theorem dX0_layAnew_15 : decode cX0_layAnew 15 = .ok (.aload_n 0, 1) := by decide +kernel
theorem dX0_layAnew_16 : decode cX0_layAnew 16 = .ok (.iconst 0, 1) := by decide +kernel
theorem dX0_layAnew_17 : decode cX0_layAnew 17 = .ok (.putfield 21, 3) := by decide +kernel
theorem dX0_layAnew_20 : decode cX0_layAnew 20 = .ok (.aload_n 0, 1) := by decide +kernel
theorem dX0_layAnew_21 : decode cX0_layAnew 21 = .ok (.iconst 0, 1) := by decide +kernel
theorem dX0_layAnew_22 : decode cX0_layAnew 22 = .ok (.iload_n 1, 1) := by decide +kernel
theorem dX0_layAnew_23 : decode cX0_layAnew 23 = .ok (.iconst 1, 1) := by decide +kernel
theorem dX0_layAnew_24 : decode cX0_layAnew 24 = .ok (.isub, 1) := by decide +kernel
theorem dX0_layAnew_25 : decode cX0_layAnew 25 = .ok (.invokestatic 37, 3) := by decide +kernel
theorem dX0_layAnew_28 : decode cX0_layAnew 28 = .ok (.putfield 24, 3) := by decide +kernel
theorem dX0_layAnew_31 : decode cX0_layAnew 31 = .ok (.aload_n 0, 1) := by decide +kernel
theorem dX0_layAnew_32 : decode cX0_layAnew 32 = .ok (.dup, 1) := by decide +kernel
theorem dX0_layAnew_33 : decode cX0_layAnew 33 = .ok (.getfield 27, 3) := by decide +kernel
theorem dX0_layAnew_36 : decode cX0_layAnew 36 = .ok (.aload_n 0, 1) := by decide +kernel
theorem dX0_layAnew_37 : decode cX0_layAnew 37 = .ok (.getfield 24, 3) := by decide +kernel
theorem dX0_layAnew_40 : decode cX0_layAnew 40 = .ok (.iadd, 1) := by decide +kernel
theorem dX0_layAnew_41 : decode cX0_layAnew 41 = .ok (.putfield 27, 3) := by decide +kernel
theorem dX0_layAnew_44 : decode cX0_layAnew 44 = .ok (.return_, 1) := by decide +kernel
theorem dX0_endMove_0 : decode cX0_endMove 0 = .ok (.iload_n 1, 1) := by decide +kernel
theorem dX0_endMove_1 : decode cX0_endMove 1 = .ok (.istore_n 2, 1) := by decide +kernel
theorem dX0_endMove_2 : decode cX0_endMove 2 = .ok (.aload_n 0, 1) := by decide +kernel
theorem dX0_endMove_3 : decode cX0_endMove 3 = .ok (.getfield 15, 3) := by decide +kernel
theorem dX0_endMove_6 : decode cX0_endMove 6 = .ok (.ifCond .ne 43, 3) := by decide +kernel
theorem dX0_endMove_9 : decode cX0_endMove 9 = .ok (.aload_n 0, 1) := by decide +kernel
theorem dX0_endMove_10 : decode cX0_endMove 10 = .ok (.getfield 18, 3) := by decide +kernel
theorem dX0_endMove_13 : decode cX0_endMove 13 = .ok (.aload_n 0, 1) := by decide +kernel
theorem dX0_endMove_14 : decode cX0_endMove 14 = .ok (.getfield 9, 3) := by decide +kernel
theorem dX0_endMove_17 : decode cX0_endMove 17 = .ok (.if_icmp .le 32, 3) := by decide +kernel
theorem dX0_endMove_20 : decode cX0_endMove 20 = .ok (.aload_n 0, 1) := by decide +kernel
theorem dX0_endMove_21 : decode cX0_endMove 21 = .ok (.aload_n 0, 1) := by decide +kernel
theorem dX0_endMove_22 : decode cX0_endMove 22 = .ok (.getfield 18, 3) := by decide +kernel
theorem dX0_endMove_25 : decode cX0_endMove 25 = .ok (.putfield 15, 3) := by decide +kernel
theorem dX0_endMove_28 : decode cX0_endMove 28 = .ok (.aload_n 0, 1) := by decide +kernel
theorem dX0_endMove_29 : decode cX0_endMove 29 = .ok (.iconst 0, 1) := by decide +kernel
theorem dX0_endMove_30 : decode cX0_endMove 30 = .ok (.putfield 18, 3) := by decide +kernel
theorem dX0_endMove_33 : decode cX0_endMove 33 = .ok (.aload_n 0, 1) := by decide +kernel
theorem dX0_endMove_34 : decode cX0_endMove 34 = .ok (.aload_n 0, 1) := by decide +kernel
theorem dX0_endMove_35 : decode cX0_endMove 35 = .ok (.getfield 15, 3) := by decide +kernel
theorem dX0_endMove_38 : decode cX0_endMove 38 = .ok (.aload_n 0, 1) := by decide +kernel
theorem dX0_endMove_39 : decode cX0_endMove 39 = .ok (.getfield 9, 3) := by decide +kernel
theorem dX0_endMove_42 : decode cX0_endMove 42 = .ok (.iadd, 1) := by decide +kernel
theorem dX0_endMove_43 : decode cX0_endMove 43 = .ok (.putfield 21, 3) := by decide +kernel
theorem dX0_endMove_46 : decode cX0_endMove 46 = .ok (.iinc 2 (-1), 3) := by decide +kernel
theorem dX0_endMove_49 : decode cX0_endMove 49 = .ok (.iconst 3, 1) := by decide +kernel
theorem dX0_endMove_50 : decode cX0_endMove 50 = .ok (.aload_n 0, 1) := by decide +kernel
theorem dX0_endMove_51 : decode cX0_endMove 51 = .ok (.getfield 21, 3) := by decide +kernel
theorem dX0_endMove_54 : decode cX0_endMove 54 = .ok (.invokestatic 43, 3) := by decide +kernel
theorem dX0_endMove_57 : decode cX0_endMove 57 = .ok (.istore_n 3, 1) := by decide +kernel
theorem dX0_endMove_58 : decode cX0_endMove 58 = .ok (.aload_n 0, 1) := by decide +kernel
theorem dX0_endMove_59 : decode cX0_endMove 59 = .ok (.dup, 1) := by decide +kernel
theorem dX0_endMove_60 : decode cX0_endMove 60 = .ok (.getfield 21, 3) := by decide +kernel
theorem dX0_endMove_63 : decode cX0_endMove 63 = .ok (.iload_n 3, 1) := by decide +kernel
theorem dX0_endMove_64 : decode cX0_endMove 64 = .ok (.isub, 1) := by decide +kernel
theorem dX0_endMove_65 : decode cX0_endMove 65 = .ok (.putfield 21, 3) := by decide +kernel
theorem dX0_endMove_68 : decode cX0_endMove 68 = .ok (.iload_n 2, 1) := by decide +kernel
theorem dX0_endMove_69 : decode cX0_endMove 69 = .ok (.iload_n 3, 1) := by decide +kernel
theorem dX0_endMove_70 : decode cX0_endMove 70 = .ok (.iadd, 1) := by decide +kernel
theorem dX0_endMove_71 : decode cX0_endMove 71 = .ok (.istore_n 2, 1) := by decide +kernel
theorem dX0_endMove_72 : decode cX0_endMove 72 = .ok (.aload_n 0, 1) := by decide +kernel
theorem dX0_endMove_73 : decode cX0_endMove 73 = .ok (.getfield 21, 3) := by decide +kernel
theorem dX0_endMove_76 : decode cX0_endMove 76 = .ok (.ifCond .ne 21, 3) := by decide +kernel
theorem dX0_endMove_79 : decode cX0_endMove 79 = .ok (.aload_n 0, 1) := by decide +kernel
theorem dX0_endMove_80 : decode cX0_endMove 80 = .ok (.dup, 1) := by decide +kernel
theorem dX0_endMove_81 : decode cX0_endMove 81 = .ok (.getfield 9, 3) := by decide +kernel
theorem dX0_endMove_84 : decode cX0_endMove 84 = .ok (.aload_n 0, 1) := by decide +kernel
theorem dX0_endMove_85 : decode cX0_endMove 85 = .ok (.getfield 15, 3) := by decide +kernel
theorem dX0_endMove_88 : decode cX0_endMove 88 = .ok (.iadd, 1) := by decide +kernel
theorem dX0_endMove_89 : decode cX0_endMove 89 = .ok (.putfield 9, 3) := by decide +kernel
theorem dX0_endMove_92 : decode cX0_endMove 92 = .ok (.aload_n 0, 1) := by decide +kernel
theorem dX0_endMove_93 : decode cX0_endMove 93 = .ok (.iconst 0, 1) := by decide +kernel
theorem dX0_endMove_94 : decode cX0_endMove 94 = .ok (.putfield 15, 3) := by decide +kernel
theorem dX0_endMove_97 : decode cX0_endMove 97 = .ok (.aload_n 0, 1) := by decide +kernel
theorem dX0_endMove_98 : decode cX0_endMove 98 = .ok (.iload_n 2, 1) := by decide +kernel
theorem dX0_endMove_99 : decode cX0_endMove 99 = .ok (.putfield 24, 3) := by decide +kernel
theorem dX0_endMove_102 : decode cX0_endMove 102 = .ok (.aload_n 0, 1) := by decide +kernel
theorem dX0_endMove_103 : decode cX0_endMove 103 = .ok (.dup, 1) := by decide +kernel
theorem dX0_endMove_104 : decode cX0_endMove 104 = .ok (.getfield 27, 3) := by decide +kernel
theorem dX0_endMove_107 : decode cX0_endMove 107 = .ok (.iload_n 2, 1) := by decide +kernel
theorem dX0_endMove_108 : decode cX0_endMove 108 = .ok (.iadd, 1) := by decide +kernel
theorem dX0_endMove_109 : decode cX0_endMove 109 = .ok (.putfield 27, 3) := by decide +kernel
theorem dX0_endMove_112 : decode cX0_endMove 112 = .ok (.aload_n 0, 1) := by decide +kernel
theorem dX0_endMove_113 : decode cX0_endMove 113 = .ok (.aload_n 0, 1) := by decide +kernel
theorem dX0_endMove_114 : decode cX0_endMove 114 = .ok (.getfield 30, 3) := by decide +kernel
theorem dX0_endMove_117 : decode cX0_endMove 117 = .ok (.iload_n 2, 1) := by decide +kernel
theorem dX0_endMove_118 : decode cX0_endMove 118 = .ok (.invokestatic 37, 3) := by decide +kernel
theorem dX0_endMove_121 : decode cX0_endMove 121 = .ok (.putfield 30, 3) := by decide +kernel
theorem dX0_endMove_124 : decode cX0_endMove 124 = .ok (.return_, 1) := by decide +kernel
theorem dX0_told_0 : decode cX0_told 0 = .ok (.iload_n 1, 1) := by decide +kernel
theorem dX0_told_1 : decode cX0_told 1 = .ok (.tableswitch 78 0 6 #[43, 48, 53, 58, 63, 68, 73], 43) := by decide +kernel
theorem dX0_told_44 : decode cX0_told 44 = .ok (.aload_n 0, 1) := by decide +kernel
theorem dX0_told_45 : decode cX0_told 45 = .ok (.getfield 9, 3) := by decide +kernel
theorem dX0_told_48 : decode cX0_told 48 = .ok (.ireturn, 1) := by decide +kernel
theorem dX0_told_49 : decode cX0_told 49 = .ok (.aload_n 0, 1) := by decide +kernel
theorem dX0_told_50 : decode cX0_told 50 = .ok (.getfield 15, 3) := by decide +kernel
theorem dX0_told_53 : decode cX0_told 53 = .ok (.ireturn, 1) := by decide +kernel
theorem dX0_told_54 : decode cX0_told 54 = .ok (.aload_n 0, 1) := by decide +kernel
theorem dX0_told_55 : decode cX0_told 55 = .ok (.getfield 18, 3) := by decide +kernel
theorem dX0_told_58 : decode cX0_told 58 = .ok (.ireturn, 1) := by decide +kernel
theorem dX0_told_59 : decode cX0_told 59 = .ok (.aload_n 0, 1) := by decide +kernel
theorem dX0_told_60 : decode cX0_told 60 = .ok (.getfield 21, 3) := by decide +kernel
theorem dX0_told_63 : decode cX0_told 63 = .ok (.ireturn, 1) := by decide +kernel
theorem dX0_told_64 : decode cX0_told 64 = .ok (.aload_n 0, 1) := by decide +kernel
theorem dX0_told_65 : decode cX0_told 65 = .ok (.getfield 24, 3) := by decide +kernel
theorem dX0_told_68 : decode cX0_told 68 = .ok (.ireturn, 1) := by decide +kernel
theorem dX0_told_69 : decode cX0_told 69 = .ok (.aload_n 0, 1) := by decide +kernel
theorem dX0_told_70 : decode cX0_told 70 = .ok (.getfield 27, 3) := by decide +kernel
theorem dX0_told_73 : decode cX0_told 73 = .ok (.ireturn, 1) := by decide +kernel
theorem dX0_told_74 : decode cX0_told 74 = .ok (.aload_n 0, 1) := by decide +kernel
theorem dX0_told_75 : decode cX0_told 75 = .ok (.getfield 30, 3) := by decide +kernel
theorem dX0_told_78 : decode cX0_told 78 = .ok (.ireturn, 1) := by decide +kernel
theorem dX0_told_79 : decode cX0_told 79 = .ok (.iconst (-1), 1) := by decide +kernel
theorem dX0_told_80 : decode cX0_told 80 = .ok (.ireturn, 1) := by decide +kernel
theorem dX1_init_0 : decode cX1_init 0 = .ok (.aload_n 0, 1) := by decide +kernel
theorem dX1_init_1 : decode cX1_init 1 = .ok (.invokespecial 3, 3) := by decide +kernel
theorem dX1_init_4 : decode cX1_init 4 = .ok (.aload_n 0, 1) := by decide +kernel
theorem dX1_init_5 : decode cX1_init 5 = .ok (.bipush 16, 2) := by decide +kernel
theorem dX1_init_7 : decode cX1_init 7 = .ok (.newarray .int, 2) := by decide +kernel
theorem dX1_init_9 : decode cX1_init 9 = .ok (.putfield 9, 3) := by decide +kernel
theorem dX1_init_12 : decode cX1_init 12 = .ok (.aload_n 0, 1) := by decide +kernel
theorem dX1_init_13 : decode cX1_init 13 = .ok (.bipush 8, 2) := by decide +kernel
theorem dX1_init_15 : decode cX1_init 15 = .ok (.newarray .int, 2) := by decide +kernel
theorem dX1_init_17 : decode cX1_init 17 = .ok (.putfield 15, 3) := by decide +kernel
theorem dX1_init_20 : decode cX1_init 20 = .ok (.aload_n 0, 1) := by decide +kernel
theorem dX1_init_21 : decode cX1_init 21 = .ok (.getfield 15, 3) := by decide +kernel
theorem dX1_init_24 : decode cX1_init 24 = .ok (.sipush 228, 3) := by decide +kernel
theorem dX1_init_27 : decode cX1_init 27 = .ok (.invokestatic 18, 3) := by decide +kernel
theorem dX1_init_30 : decode cX1_init 30 = .ok (.aload_n 0, 1) := by decide +kernel
theorem dX1_init_31 : decode cX1_init 31 = .ok (.bipush 7, 2) := by decide +kernel
theorem dX1_init_33 : decode cX1_init 33 = .ok (.newarray .int, 2) := by decide +kernel
theorem dX1_init_35 : decode cX1_init 35 = .ok (.putfield 24, 3) := by decide +kernel
theorem dX1_init_38 : decode cX1_init 38 = .ok (.aload_n 0, 1) := by decide +kernel
theorem dX1_init_39 : decode cX1_init 39 = .ok (.bipush 7, 2) := by decide +kernel
theorem dX1_init_41 : decode cX1_init 41 = .ok (.newarray .int, 2) := by decide +kernel
theorem dX1_init_43 : decode cX1_init 43 = .ok (.putfield 27, 3) := by decide +kernel
theorem dX1_init_46 : decode cX1_init 46 = .ok (.return_, 1) := by decide +kernel
theorem dX1_begin_0 : decode cX1_begin 0 = .ok (.aload_n 0, 1) := by decide +kernel
theorem dX1_begin_1 : decode cX1_begin 1 = .ok (.iload_n 1, 1) := by decide +kernel
theorem dX1_begin_2 : decode cX1_begin 2 = .ok (.putfield 30, 3) := by decide +kernel
theorem dX1_begin_5 : decode cX1_begin 5 = .ok (.aload_n 0, 1) := by decide +kernel
theorem dX1_begin_6 : decode cX1_begin 6 = .ok (.iconst 0, 1) := by decide +kernel
theorem dX1_begin_7 : decode cX1_begin 7 = .ok (.putfield 34, 3) := by decide +kernel
theorem dX1_begin_10 : decode cX1_begin 10 = .ok (.aload_n 0, 1) := by decide +kernel
theorem dX1_begin_11 : decode cX1_begin 11 = .ok (.iconst 0, 1) := by decide +kernel
theorem dX1_begin_12 : decode cX1_begin 12 = .ok (.putfield 37, 3) := by decide +kernel
theorem dX1_begin_15 : decode cX1_begin 15 = .ok (.aload_n 0, 1) := by decide +kernel
theorem dX1_begin_16 : decode cX1_begin 16 = .ok (.getfield 24, 3) := by decide +kernel
theorem dX1_begin_19 : decode cX1_begin 19 = .ok (.iconst 0, 1) := by decide +kernel
theorem dX1_begin_20 : decode cX1_begin 20 = .ok (.invokestatic 18, 3) := by decide +kernel
theorem dX1_begin_23 : decode cX1_begin 23 = .ok (.iload_n 1, 1) := by decide +kernel
theorem dX1_begin_24 : decode cX1_begin 24 = .ok (.iconst 2, 1) := by decide +kernel
theorem dX1_begin_25 : decode cX1_begin 25 = .ok (.if_icmp .ne 13, 3) := by decide +kernel
theorem dX1_begin_28 : decode cX1_begin 28 = .ok (.aload_n 0, 1) := by decide +kernel
theorem dX1_begin_29 : decode cX1_begin 29 = .ok (.getfield 24, 3) := by decide +kernel
theorem dX1_begin_32 : decode cX1_begin 32 = .ok (.iconst 0, 1) := by decide +kernel
theorem dX1_begin_33 : decode cX1_begin 33 = .ok (.iconst 1, 1) := by decide +kernel
theorem dX1_begin_34 : decode cX1_begin 34 = .ok (.iastore, 1) := by decide +kernel
theorem dX1_begin_35 : decode cX1_begin 35 = .ok (.goto 53, 3) := by decide +kernel
theorem dX1_begin_38 : decode cX1_begin 38 = .ok (.iload_n 1, 1) := by decide +kernel
theorem dX1_begin_39 : decode cX1_begin 39 = .ok (.iconst 4, 1) := by decide +kernel
theorem dX1_begin_40 : decode cX1_begin 40 = .ok (.if_icmp .ne 26, 3) := by decide +kernel
theorem dX1_begin_43 : decode cX1_begin 43 = .ok (.iconst 0, 1) := by decide +kernel
theorem dX1_begin_44 : decode cX1_begin 44 = .ok (.istore_n 2, 1) := by decide +kernel
theorem dX1_begin_45 : decode cX1_begin 45 = .ok (.iload_n 2, 1) := by decide +kernel
theorem dX1_begin_46 : decode cX1_begin 46 = .ok (.iconst 4, 1) := by decide +kernel
theorem dX1_begin_47 : decode cX1_begin 47 = .ok (.if_icmp .ge 16, 3) := by decide +kernel
theorem dX1_begin_50 : decode cX1_begin 50 = .ok (.aload_n 0, 1) := by decide +kernel
theorem dX1_begin_51 : decode cX1_begin 51 = .ok (.getfield 24, 3) := by decide +kernel
theorem dX1_begin_54 : decode cX1_begin 54 = .ok (.iload_n 2, 1) := by decide +kernel
theorem dX1_begin_55 : decode cX1_begin 55 = .ok (.iload_n 2, 1) := by decide +kernel
theorem dX1_begin_56 : decode cX1_begin 56 = .ok (.iastore, 1) := by decide +kernel
theorem dX1_begin_57 : decode cX1_begin 57 = .ok (.iinc 2 1, 3) := by decide +kernel
theorem dX1_begin_60 : decode cX1_begin 60 = .ok (.goto (-15), 3) := by decide +kernel
theorem dX1_begin_63 : decode cX1_begin 63 = .ok (.goto 25, 3) := by decide +kernel
theorem dX1_begin_66 : decode cX1_begin 66 = .ok (.iload_n 1, 1) := by decide +kernel
theorem dX1_begin_67 : decode cX1_begin 67 = .ok (.bipush 8, 2) := by decide +kernel
theorem dX1_begin_69 : decode cX1_begin 69 = .ok (.if_icmp .ne 19, 3) := by decide +kernel
theorem dX1_begin_72 : decode cX1_begin 72 = .ok (.aload_n 0, 1) := by decide +kernel
theorem dX1_begin_73 : decode cX1_begin 73 = .ok (.getfield 24, 3) := by decide +kernel
theorem dX1_begin_76 : decode cX1_begin 76 = .ok (.iconst 0, 1) := by decide +kernel
theorem dX1_begin_77 : decode cX1_begin 77 = .ok (.ldc 40, 2) := by decide +kernel
theorem dX1_begin_79 : decode cX1_begin 79 = .ok (.iastore, 1) := by decide +kernel
theorem dX1_begin_80 : decode cX1_begin 80 = .ok (.aload_n 0, 1) := by decide +kernel
theorem dX1_begin_81 : decode cX1_begin 81 = .ok (.getfield 24, 3) := by decide +kernel
theorem dX1_begin_84 : decode cX1_begin 84 = .ok (.iconst 1, 1) := by decide +kernel
theorem dX1_begin_85 : decode cX1_begin 85 = .ok (.ldc 40, 2) := by decide +kernel
theorem dX1_begin_87 : decode cX1_begin 87 = .ok (.iastore, 1) := by decide +kernel
theorem dX1_begin_88 : decode cX1_begin 88 = .ok (.return_, 1) := by decide +kernel
theorem dX1_number_0 : decode cX1_number 0 = .ok (.aload_n 0, 1) := by decide +kernel
theorem dX1_number_1 : decode cX1_number 1 = .ok (.getfield 34, 3) := by decide +kernel
theorem dX1_number_4 : decode cX1_number 4 = .ok (.ifCond .eq 19, 3) := by decide +kernel
theorem dX1_number_7 : decode cX1_number 7 = .ok (.iload_n 1, 1) := by decide +kernel
theorem dX1_number_8 : decode cX1_number 8 = .ok (.ifCond .lt 15, 3) := by decide +kernel
theorem dX1_number_11 : decode cX1_number 11 = .ok (.iload_n 1, 1) := by decide +kernel
theorem dX1_number_12 : decode cX1_number 12 = .ok (.getstatic 41, 3) := by decide +kernel
theorem dX1_number_15 : decode cX1_number 15 = .ok (.aload_n 0, 1) := by decide +kernel
theorem dX1_number_16 : decode cX1_number 16 = .ok (.getfield 30, 3) := by decide +kernel
theorem dX1_number_19 : decode cX1_number 19 = .ok (.iaload, 1) := by decide +kernel
theorem dX1_number_20 : decode cX1_number 20 = .ok (.if_icmp .lt 8, 3) := by decide +kernel
theorem dX1_number_23 : decode cX1_number 23 = .ok (.ldc 40, 2) := by decide +kernel
theorem dX1_number_25 : decode cX1_number 25 = .ok (.goto 9, 3) := by decide +kernel
theorem dX1_number_28 : decode cX1_number 28 = .ok (.aload_n 0, 1) := by decide +kernel
theorem dX1_number_29 : decode cX1_number 29 = .ok (.getfield 24, 3) := by decide +kernel
theorem dX1_number_32 : decode cX1_number 32 = .ok (.iload_n 1, 1) := by decide +kernel
theorem dX1_number_33 : decode cX1_number 33 = .ok (.iaload, 1) := by decide +kernel
theorem dX1_number_34 : decode cX1_number 34 = .ok (.ireturn, 1) := by decide +kernel
theorem dX1_reaches_0 : decode cX1_reaches 0 = .ok (.aload_n 0, 1) := by decide +kernel
theorem dX1_reaches_1 : decode cX1_reaches 1 = .ok (.iload_n 1, 1) := by decide +kernel
theorem dX1_reaches_2 : decode cX1_reaches 2 = .ok (.invokevirtual 44, 3) := by decide +kernel
theorem dX1_reaches_5 : decode cX1_reaches 5 = .ok (.istore_n 3, 1) := by decide +kernel
theorem dX1_reaches_6 : decode cX1_reaches 6 = .ok (.iload_n 3, 1) := by decide +kernel
theorem dX1_reaches_7 : decode cX1_reaches 7 = .ok (.ldc 40, 2) := by decide +kernel
theorem dX1_reaches_9 : decode cX1_reaches 9 = .ok (.if_icmp .eq 12, 3) := by decide +kernel
theorem dX1_reaches_12 : decode cX1_reaches 12 = .ok (.iload_n 3, 1) := by decide +kernel
theorem dX1_reaches_13 : decode cX1_reaches 13 = .ok (.iload_n 2, 1) := by decide +kernel
theorem dX1_reaches_14 : decode cX1_reaches 14 = .ok (.if_icmp .lt 7, 3) := by decide +kernel
theorem dX1_reaches_17 : decode cX1_reaches 17 = .ok (.iconst 1, 1) := by decide +kernel
theorem dX1_reaches_18 : decode cX1_reaches 18 = .ok (.goto 4, 3) := by decide +kernel
theorem dX1_reaches_21 : decode cX1_reaches 21 = .ok (.iconst 0, 1) := by decide +kernel
theorem dX1_reaches_22 : decode cX1_reaches 22 = .ok (.ireturn, 1) := by decide +kernel
theorem dX1_noteNumbers_0 : decode cX1_noteNumbers 0 = .ok (.aload_n 0, 1) := by decide +kernel
theorem dX1_noteNumbers_1 : decode cX1_noteNumbers 1 = .ok (.getfield 24, 3) := by decide +kernel
theorem dX1_noteNumbers_4 : decode cX1_noteNumbers 4 = .ok (.iconst 0, 1) := by decide +kernel
theorem dX1_noteNumbers_5 : decode cX1_noteNumbers 5 = .ok (.aload_n 0, 1) := by decide +kernel
theorem dX1_noteNumbers_6 : decode cX1_noteNumbers 6 = .ok (.getfield 27, 3) := by decide +kernel
theorem dX1_noteNumbers_9 : decode cX1_noteNumbers 9 = .ok (.iconst 0, 1) := by decide +kernel
theorem dX1_noteNumbers_10 : decode cX1_noteNumbers 10 = .ok (.bipush 7, 2) := by decide +kernel
theorem dX1_noteNumbers_12 : decode cX1_noteNumbers 12 = .ok (.invokestatic 48, 3) := by decide +kernel
theorem dX1_noteNumbers_15 : decode cX1_noteNumbers 15 = .ok (.aload_n 0, 1) := by decide +kernel
theorem dX1_noteNumbers_16 : decode cX1_noteNumbers 16 = .ok (.aload_n 0, 1) := by decide +kernel
theorem dX1_noteNumbers_17 : decode cX1_noteNumbers 17 = .ok (.getfield 34, 3) := by decide +kernel
theorem dX1_noteNumbers_20 : decode cX1_noteNumbers 20 = .ok (.putfield 54, 3) := by decide +kernel
theorem dX1_noteNumbers_23 : decode cX1_noteNumbers 23 = .ok (.return_, 1) := by decide +kernel
theorem dX1_isAsNoted_0 : decode cX1_isAsNoted 0 = .ok (.aload_n 0, 1) := by decide +kernel
theorem dX1_isAsNoted_1 : decode cX1_isAsNoted 1 = .ok (.getfield 34, 3) := by decide +kernel
theorem dX1_isAsNoted_4 : decode cX1_isAsNoted 4 = .ok (.ifCond .eq 10, 3) := by decide +kernel
theorem dX1_isAsNoted_7 : decode cX1_isAsNoted 7 = .ok (.aload_n 0, 1) := by decide +kernel
theorem dX1_isAsNoted_8 : decode cX1_isAsNoted 8 = .ok (.getfield 54, 3) := by decide +kernel
theorem dX1_isAsNoted_11 : decode cX1_isAsNoted 11 = .ok (.ifCond .ne 20, 3) := by decide +kernel
theorem dX1_isAsNoted_14 : decode cX1_isAsNoted 14 = .ok (.aload_n 0, 1) := by decide +kernel
theorem dX1_isAsNoted_15 : decode cX1_isAsNoted 15 = .ok (.getfield 34, 3) := by decide +kernel
theorem dX1_isAsNoted_18 : decode cX1_isAsNoted 18 = .ok (.aload_n 0, 1) := by decide +kernel
theorem dX1_isAsNoted_19 : decode cX1_isAsNoted 19 = .ok (.getfield 54, 3) := by decide +kernel
theorem dX1_isAsNoted_22 : decode cX1_isAsNoted 22 = .ok (.if_icmp .ne 7, 3) := by decide +kernel
theorem dX1_isAsNoted_25 : decode cX1_isAsNoted 25 = .ok (.iconst 1, 1) := by decide +kernel
theorem dX1_isAsNoted_26 : decode cX1_isAsNoted 26 = .ok (.goto 4, 3) := by decide +kernel
theorem dX1_isAsNoted_29 : decode cX1_isAsNoted 29 = .ok (.iconst 0, 1) := by decide +kernel
theorem dX1_isAsNoted_30 : decode cX1_isAsNoted 30 = .ok (.ireturn, 1) := by decide +kernel
theorem dX1_isAsNoted_31 : decode cX1_isAsNoted 31 = .ok (.iconst 0, 1) := by decide +kernel
theorem dX1_isAsNoted_32 : decode cX1_isAsNoted 32 = .ok (.istore_n 1, 1) := by decide +kernel
theorem dX1_isAsNoted_33 : decode cX1_isAsNoted 33 = .ok (.iload_n 1, 1) := by decide +kernel
theorem dX1_isAsNoted_34 : decode cX1_isAsNoted 34 = .ok (.getstatic 41, 3) := by decide +kernel
theorem dX1_isAsNoted_37 : decode cX1_isAsNoted 37 = .ok (.aload_n 0, 1) := by decide +kernel
theorem dX1_isAsNoted_38 : decode cX1_isAsNoted 38 = .ok (.getfield 30, 3) := by decide +kernel
theorem dX1_isAsNoted_41 : decode cX1_isAsNoted 41 = .ok (.iaload, 1) := by decide +kernel
theorem dX1_isAsNoted_42 : decode cX1_isAsNoted 42 = .ok (.if_icmp .ge 26, 3) := by decide +kernel
theorem dX1_isAsNoted_45 : decode cX1_isAsNoted 45 = .ok (.aload_n 0, 1) := by decide +kernel
theorem dX1_isAsNoted_46 : decode cX1_isAsNoted 46 = .ok (.getfield 24, 3) := by decide +kernel
theorem dX1_isAsNoted_49 : decode cX1_isAsNoted 49 = .ok (.iload_n 1, 1) := by decide +kernel
theorem dX1_isAsNoted_50 : decode cX1_isAsNoted 50 = .ok (.iaload, 1) := by decide +kernel
theorem dX1_isAsNoted_51 : decode cX1_isAsNoted 51 = .ok (.aload_n 0, 1) := by decide +kernel
theorem dX1_isAsNoted_52 : decode cX1_isAsNoted 52 = .ok (.getfield 27, 3) := by decide +kernel
theorem dX1_isAsNoted_55 : decode cX1_isAsNoted 55 = .ok (.iload_n 1, 1) := by decide +kernel
theorem dX1_isAsNoted_56 : decode cX1_isAsNoted 56 = .ok (.iaload, 1) := by decide +kernel
theorem dX1_isAsNoted_57 : decode cX1_isAsNoted 57 = .ok (.if_icmp .eq 5, 3) := by decide +kernel
theorem dX1_isAsNoted_60 : decode cX1_isAsNoted 60 = .ok (.iconst 0, 1) := by decide +kernel
theorem dX1_isAsNoted_61 : decode cX1_isAsNoted 61 = .ok (.ireturn, 1) := by decide +kernel
theorem dX1_isAsNoted_62 : decode cX1_isAsNoted 62 = .ok (.iinc 1 1, 3) := by decide +kernel
theorem dX1_isAsNoted_65 : decode cX1_isAsNoted 65 = .ok (.goto (-32), 3) := by decide +kernel
theorem dX1_isAsNoted_68 : decode cX1_isAsNoted 68 = .ok (.iconst 1, 1) := by decide +kernel
theorem dX1_isAsNoted_69 : decode cX1_isAsNoted 69 = .ok (.ireturn, 1) := by decide +kernel
theorem dX1_append_0 : decode cX1_append 0 = .ok (.aload_n 0, 1) := by decide +kernel
theorem dX1_append_1 : decode cX1_append 1 = .ok (.getfield 30, 3) := by decide +kernel
theorem dX1_append_4 : decode cX1_append 4 = .ok (.tableswitch 124 0 8 #[52, 60, 68, 76, 84, 92, 100, 108, 116], 52) := by decide +kernel
theorem dX1_append_56 : decode cX1_append 56 = .ok (.aload_n 0, 1) := by decide +kernel
theorem dX1_append_57 : decode cX1_append 57 = .ok (.iload_n 1, 1) := by decide +kernel
theorem dX1_append_58 : decode cX1_append 58 = .ok (.invokevirtual 57, 3) := by decide +kernel
theorem dX1_append_61 : decode cX1_append 61 = .ok (.goto 72, 3) := by decide +kernel
theorem dX1_append_64 : decode cX1_append 64 = .ok (.aload_n 0, 1) := by decide +kernel
theorem dX1_append_65 : decode cX1_append 65 = .ok (.iload_n 1, 1) := by decide +kernel
theorem dX1_append_66 : decode cX1_append 66 = .ok (.invokevirtual 61, 3) := by decide +kernel
theorem dX1_append_69 : decode cX1_append 69 = .ok (.goto 64, 3) := by decide +kernel
theorem dX1_append_72 : decode cX1_append 72 = .ok (.aload_n 0, 1) := by decide +kernel
theorem dX1_append_73 : decode cX1_append 73 = .ok (.iload_n 1, 1) := by decide +kernel
theorem dX1_append_74 : decode cX1_append 74 = .ok (.invokevirtual 64, 3) := by decide +kernel
theorem dX1_append_77 : decode cX1_append 77 = .ok (.goto 56, 3) := by decide +kernel
theorem dX1_append_80 : decode cX1_append 80 = .ok (.aload_n 0, 1) := by decide +kernel
theorem dX1_append_81 : decode cX1_append 81 = .ok (.iload_n 1, 1) := by decide +kernel
theorem dX1_append_82 : decode cX1_append 82 = .ok (.invokevirtual 67, 3) := by decide +kernel
theorem dX1_append_85 : decode cX1_append 85 = .ok (.goto 48, 3) := by decide +kernel
theorem dX1_append_88 : decode cX1_append 88 = .ok (.aload_n 0, 1) := by decide +kernel
theorem dX1_append_89 : decode cX1_append 89 = .ok (.iload_n 1, 1) := by decide +kernel
theorem dX1_append_90 : decode cX1_append 90 = .ok (.invokevirtual 70, 3) := by decide +kernel
theorem dX1_append_93 : decode cX1_append 93 = .ok (.goto 40, 3) := by decide +kernel
theorem dX1_append_96 : decode cX1_append 96 = .ok (.aload_n 0, 1) := by decide +kernel
theorem dX1_append_97 : decode cX1_append 97 = .ok (.iload_n 1, 1) := by decide +kernel
theorem dX1_append_98 : decode cX1_append 98 = .ok (.invokevirtual 73, 3) := by decide +kernel
theorem dX1_append_101 : decode cX1_append 101 = .ok (.goto 32, 3) := by decide +kernel
theorem dX1_append_104 : decode cX1_append 104 = .ok (.aload_n 0, 1) := by decide +kernel
theorem dX1_append_105 : decode cX1_append 105 = .ok (.iload_n 1, 1) := by decide +kernel
theorem dX1_append_106 : decode cX1_append 106 = .ok (.invokevirtual 76, 3) := by decide +kernel
theorem dX1_append_109 : decode cX1_append 109 = .ok (.goto 24, 3) := by decide +kernel
theorem dX1_append_112 : decode cX1_append 112 = .ok (.aload_n 0, 1) := by decide +kernel
theorem dX1_append_113 : decode cX1_append 113 = .ok (.iload_n 1, 1) := by decide +kernel
theorem dX1_append_114 : decode cX1_append 114 = .ok (.invokevirtual 79, 3) := by decide +kernel
theorem dX1_append_117 : decode cX1_append 117 = .ok (.goto 16, 3) := by decide +kernel
theorem dX1_append_120 : decode cX1_append 120 = .ok (.aload_n 0, 1) := by decide +kernel
theorem dX1_append_121 : decode cX1_append 121 = .ok (.iload_n 1, 1) := by decide +kernel
theorem dX1_append_122 : decode cX1_append 122 = .ok (.invokevirtual 82, 3) := by decide +kernel
theorem dX1_append_125 : decode cX1_append 125 = .ok (.goto 8, 3) := by decide +kernel
theorem dX1_append_128 : decode cX1_append 128 = .ok (.aload_n 0, 1) := by decide +kernel
theorem dX1_append_129 : decode cX1_append 129 = .ok (.iload_n 1, 1) := by decide +kernel
theorem dX1_append_130 : decode cX1_append 130 = .ok (.invokevirtual 85, 3) := by decide +kernel
theorem dX1_append_133 : decode cX1_append 133 = .ok (.aload_n 0, 1) := by decide +kernel
theorem dX1_append_134 : decode cX1_append 134 = .ok (.dup, 1) := by decide +kernel
theorem dX1_append_135 : decode cX1_append 135 = .ok (.getfield 34, 3) := by decide +kernel
theorem dX1_append_138 : decode cX1_append 138 = .ok (.iconst 1, 1) := by decide +kernel
theorem dX1_append_139 : decode cX1_append 139 = .ok (.iadd, 1) := by decide +kernel
theorem dX1_append_140 : decode cX1_append 140 = .ok (.putfield 34, 3) := by decide +kernel
theorem dX1_append_143 : decode cX1_append 143 = .ok (.return_, 1) := by decide +kernel
theorem dX1_addGreatest_0 : decode cX1_addGreatest 0 = .ok (.aload_n 0, 1) := by decide +kernel
theorem dX1_addGreatest_1 : decode cX1_addGreatest 1 = .ok (.getfield 34, 3) := by decide +kernel
theorem dX1_addGreatest_4 : decode cX1_addGreatest 4 = .ok (.ifCond .eq 13, 3) := by decide +kernel
theorem dX1_addGreatest_7 : decode cX1_addGreatest 7 = .ok (.iload_n 1, 1) := by decide +kernel
theorem dX1_addGreatest_8 : decode cX1_addGreatest 8 = .ok (.aload_n 0, 1) := by decide +kernel
theorem dX1_addGreatest_9 : decode cX1_addGreatest 9 = .ok (.getfield 24, 3) := by decide +kernel
theorem dX1_addGreatest_12 : decode cX1_addGreatest 12 = .ok (.iconst 0, 1) := by decide +kernel
theorem dX1_addGreatest_13 : decode cX1_addGreatest 13 = .ok (.iaload, 1) := by decide +kernel
theorem dX1_addGreatest_14 : decode cX1_addGreatest 14 = .ok (.if_icmp .le 30, 3) := by decide +kernel
theorem dX1_addGreatest_17 : decode cX1_addGreatest 17 = .ok (.aload_n 0, 1) := by decide +kernel
theorem dX1_addGreatest_18 : decode cX1_addGreatest 18 = .ok (.getfield 24, 3) := by decide +kernel
theorem dX1_addGreatest_21 : decode cX1_addGreatest 21 = .ok (.iconst 0, 1) := by decide +kernel
theorem dX1_addGreatest_22 : decode cX1_addGreatest 22 = .ok (.iload_n 1, 1) := by decide +kernel
theorem dX1_addGreatest_23 : decode cX1_addGreatest 23 = .ok (.iastore, 1) := by decide +kernel
theorem dX1_addGreatest_24 : decode cX1_addGreatest 24 = .ok (.aload_n 0, 1) := by decide +kernel
theorem dX1_addGreatest_25 : decode cX1_addGreatest 25 = .ok (.getfield 24, 3) := by decide +kernel
theorem dX1_addGreatest_28 : decode cX1_addGreatest 28 = .ok (.iconst 1, 1) := by decide +kernel
theorem dX1_addGreatest_29 : decode cX1_addGreatest 29 = .ok (.iconst 1, 1) := by decide +kernel
theorem dX1_addGreatest_30 : decode cX1_addGreatest 30 = .ok (.iastore, 1) := by decide +kernel
theorem dX1_addGreatest_31 : decode cX1_addGreatest 31 = .ok (.aload_n 0, 1) := by decide +kernel
theorem dX1_addGreatest_32 : decode cX1_addGreatest 32 = .ok (.getfield 24, 3) := by decide +kernel
theorem dX1_addGreatest_35 : decode cX1_addGreatest 35 = .ok (.iconst 2, 1) := by decide +kernel
theorem dX1_addGreatest_36 : decode cX1_addGreatest 36 = .ok (.aload_n 0, 1) := by decide +kernel
theorem dX1_addGreatest_37 : decode cX1_addGreatest 37 = .ok (.getfield 34, 3) := by decide +kernel
theorem dX1_addGreatest_40 : decode cX1_addGreatest 40 = .ok (.iastore, 1) := by decide +kernel
theorem dX1_addGreatest_41 : decode cX1_addGreatest 41 = .ok (.goto 23, 3) := by decide +kernel
theorem dX1_addGreatest_44 : decode cX1_addGreatest 44 = .ok (.iload_n 1, 1) := by decide +kernel
theorem dX1_addGreatest_45 : decode cX1_addGreatest 45 = .ok (.aload_n 0, 1) := by decide +kernel
theorem dX1_addGreatest_46 : decode cX1_addGreatest 46 = .ok (.getfield 24, 3) := by decide +kernel
theorem dX1_addGreatest_49 : decode cX1_addGreatest 49 = .ok (.iconst 0, 1) := by decide +kernel
theorem dX1_addGreatest_50 : decode cX1_addGreatest 50 = .ok (.iaload, 1) := by decide +kernel
theorem dX1_addGreatest_51 : decode cX1_addGreatest 51 = .ok (.if_icmp .ne 13, 3) := by decide +kernel
theorem dX1_addGreatest_54 : decode cX1_addGreatest 54 = .ok (.aload_n 0, 1) := by decide +kernel
theorem dX1_addGreatest_55 : decode cX1_addGreatest 55 = .ok (.getfield 24, 3) := by decide +kernel
theorem dX1_addGreatest_58 : decode cX1_addGreatest 58 = .ok (.iconst 1, 1) := by decide +kernel
theorem dX1_addGreatest_59 : decode cX1_addGreatest 59 = .ok (.dup2, 1) := by decide +kernel
theorem dX1_addGreatest_60 : decode cX1_addGreatest 60 = .ok (.iaload, 1) := by decide +kernel
theorem dX1_addGreatest_61 : decode cX1_addGreatest 61 = .ok (.iconst 1, 1) := by decide +kernel
theorem dX1_addGreatest_62 : decode cX1_addGreatest 62 = .ok (.iadd, 1) := by decide +kernel
theorem dX1_addGreatest_63 : decode cX1_addGreatest 63 = .ok (.iastore, 1) := by decide +kernel
theorem dX1_addGreatest_64 : decode cX1_addGreatest 64 = .ok (.aload_n 0, 1) := by decide +kernel
theorem dX1_addGreatest_65 : decode cX1_addGreatest 65 = .ok (.getfield 24, 3) := by decide +kernel
theorem dX1_addGreatest_68 : decode cX1_addGreatest 68 = .ok (.iconst 3, 1) := by decide +kernel
theorem dX1_addGreatest_69 : decode cX1_addGreatest 69 = .ok (.aload_n 0, 1) := by decide +kernel
theorem dX1_addGreatest_70 : decode cX1_addGreatest 70 = .ok (.getfield 34, 3) := by decide +kernel
theorem dX1_addGreatest_73 : decode cX1_addGreatest 73 = .ok (.iconst 1, 1) := by decide +kernel
theorem dX1_addGreatest_74 : decode cX1_addGreatest 74 = .ok (.iadd, 1) := by decide +kernel
theorem dX1_addGreatest_75 : decode cX1_addGreatest 75 = .ok (.iastore, 1) := by decide +kernel
theorem dX1_addGreatest_76 : decode cX1_addGreatest 76 = .ok (.return_, 1) := by decide +kernel
theorem dX1_addShare_0 : decode cX1_addShare 0 = .ok (.aload_n 0, 1) := by decide +kernel
theorem dX1_addShare_1 : decode cX1_addShare 1 = .ok (.getfield 24, 3) := by decide +kernel
theorem dX1_addShare_4 : decode cX1_addShare 4 = .ok (.iconst 0, 1) := by decide +kernel
theorem dX1_addShare_5 : decode cX1_addShare 5 = .ok (.iaload, 1) := by decide +kernel
theorem dX1_addShare_6 : decode cX1_addShare 6 = .ok (.istore_n 2, 1) := by decide +kernel
theorem dX1_addShare_7 : decode cX1_addShare 7 = .ok (.iload_n 1, 1) := by decide +kernel
theorem dX1_addShare_8 : decode cX1_addShare 8 = .ok (.invokestatic 88, 3) := by decide +kernel
theorem dX1_addShare_11 : decode cX1_addShare 11 = .ok (.istore_n 3, 1) := by decide +kernel
theorem dX1_addShare_12 : decode cX1_addShare 12 = .ok (.iconst 0, 1) := by decide +kernel
theorem dX1_addShare_13 : decode cX1_addShare 13 = .ok (.istore 4, 2) := by decide +kernel
theorem dX1_addShare_15 : decode cX1_addShare 15 = .ok (.iload_n 3, 1) := by decide +kernel
theorem dX1_addShare_16 : decode cX1_addShare 16 = .ok (.ifCond .eq 27, 3) := by decide +kernel
theorem dX1_addShare_19 : decode cX1_addShare 19 = .ok (.iload 4, 2) := by decide +kernel
theorem dX1_addShare_21 : decode cX1_addShare 21 = .ok (.sipush 1000, 3) := by decide +kernel
theorem dX1_addShare_24 : decode cX1_addShare 24 = .ok (.if_icmp .gt 19, 3) := by decide +kernel
theorem dX1_addShare_27 : decode cX1_addShare 27 = .ok (.iload_n 2, 1) := by decide +kernel
theorem dX1_addShare_28 : decode cX1_addShare 28 = .ok (.iload_n 3, 1) := by decide +kernel
theorem dX1_addShare_29 : decode cX1_addShare 29 = .ok (.irem, 1) := by decide +kernel
theorem dX1_addShare_30 : decode cX1_addShare 30 = .ok (.istore 5, 2) := by decide +kernel
theorem dX1_addShare_32 : decode cX1_addShare 32 = .ok (.iload_n 3, 1) := by decide +kernel
theorem dX1_addShare_33 : decode cX1_addShare 33 = .ok (.istore_n 2, 1) := by decide +kernel
theorem dX1_addShare_34 : decode cX1_addShare 34 = .ok (.iload 5, 2) := by decide +kernel
theorem dX1_addShare_36 : decode cX1_addShare 36 = .ok (.istore_n 3, 1) := by decide +kernel
theorem dX1_addShare_37 : decode cX1_addShare 37 = .ok (.iinc 4 1, 3) := by decide +kernel
theorem dX1_addShare_40 : decode cX1_addShare 40 = .ok (.goto (-25), 3) := by decide +kernel
theorem dX1_addShare_43 : decode cX1_addShare 43 = .ok (.aload_n 0, 1) := by decide +kernel
theorem dX1_addShare_44 : decode cX1_addShare 44 = .ok (.getfield 24, 3) := by decide +kernel
theorem dX1_addShare_47 : decode cX1_addShare 47 = .ok (.iconst 0, 1) := by decide +kernel
theorem dX1_addShare_48 : decode cX1_addShare 48 = .ok (.iload_n 2, 1) := by decide +kernel
theorem dX1_addShare_49 : decode cX1_addShare 49 = .ok (.iastore, 1) := by decide +kernel
theorem dX1_addShare_50 : decode cX1_addShare 50 = .ok (.aload_n 0, 1) := by decide +kernel
theorem dX1_addShare_51 : decode cX1_addShare 51 = .ok (.getfield 24, 3) := by decide +kernel
theorem dX1_addShare_54 : decode cX1_addShare 54 = .ok (.iconst 1, 1) := by decide +kernel
theorem dX1_addShare_55 : decode cX1_addShare 55 = .ok (.dup2, 1) := by decide +kernel
theorem dX1_addShare_56 : decode cX1_addShare 56 = .ok (.iaload, 1) := by decide +kernel
theorem dX1_addShare_57 : decode cX1_addShare 57 = .ok (.iload_n 1, 1) := by decide +kernel
theorem dX1_addShare_58 : decode cX1_addShare 58 = .ok (.ifCond .eq 7, 3) := by decide +kernel
theorem dX1_addShare_61 : decode cX1_addShare 61 = .ok (.iconst 1, 1) := by decide +kernel
theorem dX1_addShare_62 : decode cX1_addShare 62 = .ok (.goto 4, 3) := by decide +kernel
theorem dX1_addShare_65 : decode cX1_addShare 65 = .ok (.iconst 0, 1) := by decide +kernel
theorem dX1_addShare_66 : decode cX1_addShare 66 = .ok (.iadd, 1) := by decide +kernel
theorem dX1_addShare_67 : decode cX1_addShare 67 = .ok (.iastore, 1) := by decide +kernel
theorem dX1_addShare_68 : decode cX1_addShare 68 = .ok (.return_, 1) := by decide +kernel
theorem dX1_addLine_0 : decode cX1_addLine 0 = .ok (.iload_n 1, 1) := by decide +kernel
theorem dX1_addLine_1 : decode cX1_addLine 1 = .ok (.sipush 997, 3) := by decide +kernel
theorem dX1_addLine_4 : decode cX1_addLine 4 = .ok (.invokestatic 93, 3) := by decide +kernel
theorem dX1_addLine_7 : decode cX1_addLine 7 = .ok (.istore_n 2, 1) := by decide +kernel
theorem dX1_addLine_8 : decode cX1_addLine 8 = .ok (.bipush 7, 2) := by decide +kernel
theorem dX1_addLine_10 : decode cX1_addLine 10 = .ok (.iload_n 1, 1) := by decide +kernel
theorem dX1_addLine_11 : decode cX1_addLine 11 = .ok (.imul, 1) := by decide +kernel
theorem dX1_addLine_12 : decode cX1_addLine 12 = .ok (.iconst 1, 1) := by decide +kernel
theorem dX1_addLine_13 : decode cX1_addLine 13 = .ok (.iadd, 1) := by decide +kernel
theorem dX1_addLine_14 : decode cX1_addLine 14 = .ok (.sipush 997, 3) := by decide +kernel
theorem dX1_addLine_17 : decode cX1_addLine 17 = .ok (.invokestatic 93, 3) := by decide +kernel
theorem dX1_addLine_20 : decode cX1_addLine 20 = .ok (.istore_n 3, 1) := by decide +kernel
theorem dX1_addLine_21 : decode cX1_addLine 21 = .ok (.aload_n 0, 1) := by decide +kernel
theorem dX1_addLine_22 : decode cX1_addLine 22 = .ok (.getfield 24, 3) := by decide +kernel
theorem dX1_addLine_25 : decode cX1_addLine 25 = .ok (.iconst 0, 1) := by decide +kernel
theorem dX1_addLine_26 : decode cX1_addLine 26 = .ok (.iload_n 2, 1) := by decide +kernel
theorem dX1_addLine_27 : decode cX1_addLine 27 = .ok (.aload_n 0, 1) := by decide +kernel
theorem dX1_addLine_28 : decode cX1_addLine 28 = .ok (.getfield 24, 3) := by decide +kernel
theorem dX1_addLine_31 : decode cX1_addLine 31 = .ok (.iconst 0, 1) := by decide +kernel
theorem dX1_addLine_32 : decode cX1_addLine 32 = .ok (.iaload, 1) := by decide +kernel
theorem dX1_addLine_33 : decode cX1_addLine 33 = .ok (.imul, 1) := by decide +kernel
theorem dX1_addLine_34 : decode cX1_addLine 34 = .ok (.sipush 997, 3) := by decide +kernel
theorem dX1_addLine_37 : decode cX1_addLine 37 = .ok (.irem, 1) := by decide +kernel
theorem dX1_addLine_38 : decode cX1_addLine 38 = .ok (.iastore, 1) := by decide +kernel
theorem dX1_addLine_39 : decode cX1_addLine 39 = .ok (.aload_n 0, 1) := by decide +kernel
theorem dX1_addLine_40 : decode cX1_addLine 40 = .ok (.getfield 24, 3) := by decide +kernel
theorem dX1_addLine_43 : decode cX1_addLine 43 = .ok (.iconst 1, 1) := by decide +kernel
theorem dX1_addLine_44 : decode cX1_addLine 44 = .ok (.iload_n 2, 1) := by decide +kernel
theorem dX1_addLine_45 : decode cX1_addLine 45 = .ok (.aload_n 0, 1) := by decide +kernel
theorem dX1_addLine_46 : decode cX1_addLine 46 = .ok (.getfield 24, 3) := by decide +kernel
theorem dX1_addLine_49 : decode cX1_addLine 49 = .ok (.iconst 1, 1) := by decide +kernel
theorem dX1_addLine_50 : decode cX1_addLine 50 = .ok (.iaload, 1) := by decide +kernel
theorem dX1_addLine_51 : decode cX1_addLine 51 = .ok (.imul, 1) := by decide +kernel
theorem dX1_addLine_52 : decode cX1_addLine 52 = .ok (.iload_n 3, 1) := by decide +kernel
theorem dX1_addLine_53 : decode cX1_addLine 53 = .ok (.iadd, 1) := by decide +kernel
theorem dX1_addLine_54 : decode cX1_addLine 54 = .ok (.sipush 997, 3) := by decide +kernel
theorem dX1_addLine_57 : decode cX1_addLine 57 = .ok (.irem, 1) := by decide +kernel
theorem dX1_addLine_58 : decode cX1_addLine 58 = .ok (.iastore, 1) := by decide +kernel
theorem dX1_addLine_59 : decode cX1_addLine 59 = .ok (.return_, 1) := by decide +kernel
theorem dX1_addRun_0 : decode cX1_addRun 0 = .ok (.aload_n 0, 1) := by decide +kernel
theorem dX1_addRun_1 : decode cX1_addRun 1 = .ok (.getfield 34, 3) := by decide +kernel
theorem dX1_addRun_4 : decode cX1_addRun 4 = .ok (.ifCond .ne 7, 3) := by decide +kernel
theorem dX1_addRun_7 : decode cX1_addRun 7 = .ok (.iconst 1, 1) := by decide +kernel
theorem dX1_addRun_8 : decode cX1_addRun 8 = .ok (.goto 4, 3) := by decide +kernel
theorem dX1_addRun_11 : decode cX1_addRun 11 = .ok (.iconst 0, 1) := by decide +kernel
theorem dX1_addRun_12 : decode cX1_addRun 12 = .ok (.istore_n 2, 1) := by decide +kernel
theorem dX1_addRun_13 : decode cX1_addRun 13 = .ok (.aload_n 0, 1) := by decide +kernel
theorem dX1_addRun_14 : decode cX1_addRun 14 = .ok (.getfield 24, 3) := by decide +kernel
theorem dX1_addRun_17 : decode cX1_addRun 17 = .ok (.iconst 1, 1) := by decide +kernel
theorem dX1_addRun_18 : decode cX1_addRun 18 = .ok (.dup2, 1) := by decide +kernel
theorem dX1_addRun_19 : decode cX1_addRun 19 = .ok (.iaload, 1) := by decide +kernel
theorem dX1_addRun_20 : decode cX1_addRun 20 = .ok (.iload_n 1, 1) := by decide +kernel
theorem dX1_addRun_21 : decode cX1_addRun 21 = .ok (.iadd, 1) := by decide +kernel
theorem dX1_addRun_22 : decode cX1_addRun 22 = .ok (.iastore, 1) := by decide +kernel
theorem dX1_addRun_23 : decode cX1_addRun 23 = .ok (.aload_n 0, 1) := by decide +kernel
theorem dX1_addRun_24 : decode cX1_addRun 24 = .ok (.getfield 24, 3) := by decide +kernel
theorem dX1_addRun_27 : decode cX1_addRun 27 = .ok (.iconst 2, 1) := by decide +kernel
theorem dX1_addRun_28 : decode cX1_addRun 28 = .ok (.iload_n 2, 1) := by decide +kernel
theorem dX1_addRun_29 : decode cX1_addRun 29 = .ok (.ifCond .eq 7, 3) := by decide +kernel
theorem dX1_addRun_32 : decode cX1_addRun 32 = .ok (.iload_n 1, 1) := by decide +kernel
theorem dX1_addRun_33 : decode cX1_addRun 33 = .ok (.goto 18, 3) := by decide +kernel
theorem dX1_addRun_36 : decode cX1_addRun 36 = .ok (.aload_n 0, 1) := by decide +kernel
theorem dX1_addRun_37 : decode cX1_addRun 37 = .ok (.getfield 24, 3) := by decide +kernel
theorem dX1_addRun_40 : decode cX1_addRun 40 = .ok (.iconst 2, 1) := by decide +kernel
theorem dX1_addRun_41 : decode cX1_addRun 41 = .ok (.iaload, 1) := by decide +kernel
theorem dX1_addRun_42 : decode cX1_addRun 42 = .ok (.aload_n 0, 1) := by decide +kernel
theorem dX1_addRun_43 : decode cX1_addRun 43 = .ok (.getfield 24, 3) := by decide +kernel
theorem dX1_addRun_46 : decode cX1_addRun 46 = .ok (.iconst 1, 1) := by decide +kernel
theorem dX1_addRun_47 : decode cX1_addRun 47 = .ok (.iaload, 1) := by decide +kernel
theorem dX1_addRun_48 : decode cX1_addRun 48 = .ok (.invokestatic 97, 3) := by decide +kernel
theorem dX1_addRun_51 : decode cX1_addRun 51 = .ok (.iastore, 1) := by decide +kernel
theorem dX1_addRun_52 : decode cX1_addRun 52 = .ok (.aload_n 0, 1) := by decide +kernel
theorem dX1_addRun_53 : decode cX1_addRun 53 = .ok (.getfield 24, 3) := by decide +kernel
theorem dX1_addRun_56 : decode cX1_addRun 56 = .ok (.iconst 3, 1) := by decide +kernel
theorem dX1_addRun_57 : decode cX1_addRun 57 = .ok (.iload_n 2, 1) := by decide +kernel
theorem dX1_addRun_58 : decode cX1_addRun 58 = .ok (.ifCond .eq 7, 3) := by decide +kernel
theorem dX1_addRun_61 : decode cX1_addRun 61 = .ok (.iload_n 1, 1) := by decide +kernel
theorem dX1_addRun_62 : decode cX1_addRun 62 = .ok (.goto 15, 3) := by decide +kernel
theorem dX1_addRun_65 : decode cX1_addRun 65 = .ok (.aload_n 0, 1) := by decide +kernel
theorem dX1_addRun_66 : decode cX1_addRun 66 = .ok (.getfield 24, 3) := by decide +kernel
theorem dX1_addRun_69 : decode cX1_addRun 69 = .ok (.iconst 3, 1) := by decide +kernel
theorem dX1_addRun_70 : decode cX1_addRun 70 = .ok (.iaload, 1) := by decide +kernel
theorem dX1_addRun_71 : decode cX1_addRun 71 = .ok (.iload_n 1, 1) := by decide +kernel
theorem dX1_addRun_72 : decode cX1_addRun 72 = .ok (.iadd, 1) := by decide +kernel
theorem dX1_addRun_73 : decode cX1_addRun 73 = .ok (.iload_n 1, 1) := by decide +kernel
theorem dX1_addRun_74 : decode cX1_addRun 74 = .ok (.invokestatic 97, 3) := by decide +kernel
theorem dX1_addRun_77 : decode cX1_addRun 77 = .ok (.iastore, 1) := by decide +kernel
theorem dX1_addRun_78 : decode cX1_addRun 78 = .ok (.aload_n 0, 1) := by decide +kernel
theorem dX1_addRun_79 : decode cX1_addRun 79 = .ok (.getfield 24, 3) := by decide +kernel
theorem dX1_addRun_82 : decode cX1_addRun 82 = .ok (.iconst 0, 1) := by decide +kernel
theorem dX1_addRun_83 : decode cX1_addRun 83 = .ok (.iload_n 2, 1) := by decide +kernel
theorem dX1_addRun_84 : decode cX1_addRun 84 = .ok (.ifCond .eq 7, 3) := by decide +kernel
theorem dX1_addRun_87 : decode cX1_addRun 87 = .ok (.iload_n 1, 1) := by decide +kernel
theorem dX1_addRun_88 : decode cX1_addRun 88 = .ok (.goto 18, 3) := by decide +kernel
theorem dX1_addRun_91 : decode cX1_addRun 91 = .ok (.aload_n 0, 1) := by decide +kernel
theorem dX1_addRun_92 : decode cX1_addRun 92 = .ok (.getfield 24, 3) := by decide +kernel
theorem dX1_addRun_95 : decode cX1_addRun 95 = .ok (.iconst 0, 1) := by decide +kernel
theorem dX1_addRun_96 : decode cX1_addRun 96 = .ok (.iaload, 1) := by decide +kernel
theorem dX1_addRun_97 : decode cX1_addRun 97 = .ok (.aload_n 0, 1) := by decide +kernel
theorem dX1_addRun_98 : decode cX1_addRun 98 = .ok (.getfield 24, 3) := by decide +kernel
theorem dX1_addRun_101 : decode cX1_addRun 101 = .ok (.iconst 3, 1) := by decide +kernel
theorem dX1_addRun_102 : decode cX1_addRun 102 = .ok (.iaload, 1) := by decide +kernel
theorem dX1_addRun_103 : decode cX1_addRun 103 = .ok (.invokestatic 97, 3) := by decide +kernel
theorem dX1_addRun_106 : decode cX1_addRun 106 = .ok (.iastore, 1) := by decide +kernel
theorem dX1_addRun_107 : decode cX1_addRun 107 = .ok (.return_, 1) := by decide +kernel
theorem dX1_addLetter_0 : decode cX1_addLetter 0 = .ok (.aload_n 0, 1) := by decide +kernel
theorem dX1_addLetter_1 : decode cX1_addLetter 1 = .ok (.getfield 15, 3) := by decide +kernel
theorem dX1_addLetter_4 : decode cX1_addLetter 4 = .ok (.iload_n 1, 1) := by decide +kernel
theorem dX1_addLetter_5 : decode cX1_addLetter 5 = .ok (.bipush 8, 2) := by decide +kernel
theorem dX1_addLetter_7 : decode cX1_addLetter 7 = .ok (.invokestatic 93, 3) := by decide +kernel
theorem dX1_addLetter_10 : decode cX1_addLetter 10 = .ok (.iaload, 1) := by decide +kernel
theorem dX1_addLetter_11 : decode cX1_addLetter 11 = .ok (.istore_n 2, 1) := by decide +kernel
theorem dX1_addLetter_12 : decode cX1_addLetter 12 = .ok (.iconst 0, 1) := by decide +kernel
theorem dX1_addLetter_13 : decode cX1_addLetter 13 = .ok (.istore_n 3, 1) := by decide +kernel
theorem dX1_addLetter_14 : decode cX1_addLetter 14 = .ok (.iconst 0, 1) := by decide +kernel
theorem dX1_addLetter_15 : decode cX1_addLetter 15 = .ok (.istore 4, 2) := by decide +kernel
theorem dX1_addLetter_17 : decode cX1_addLetter 17 = .ok (.iload 4, 2) := by decide +kernel
theorem dX1_addLetter_19 : decode cX1_addLetter 19 = .ok (.iconst 4, 1) := by decide +kernel
theorem dX1_addLetter_20 : decode cX1_addLetter 20 = .ok (.if_icmp .ge 41, 3) := by decide +kernel
theorem dX1_addLetter_23 : decode cX1_addLetter 23 = .ok (.aload_n 0, 1) := by decide +kernel
theorem dX1_addLetter_24 : decode cX1_addLetter 24 = .ok (.getfield 24, 3) := by decide +kernel
theorem dX1_addLetter_27 : decode cX1_addLetter 27 = .ok (.iload 4, 2) := by decide +kernel
theorem dX1_addLetter_29 : decode cX1_addLetter 29 = .ok (.iload_n 2, 1) := by decide +kernel
theorem dX1_addLetter_30 : decode cX1_addLetter 30 = .ok (.iconst 2, 1) := by decide +kernel
theorem dX1_addLetter_31 : decode cX1_addLetter 31 = .ok (.aload_n 0, 1) := by decide +kernel
theorem dX1_addLetter_32 : decode cX1_addLetter 32 = .ok (.getfield 24, 3) := by decide +kernel
theorem dX1_addLetter_35 : decode cX1_addLetter 35 = .ok (.iload 4, 2) := by decide +kernel
theorem dX1_addLetter_37 : decode cX1_addLetter 37 = .ok (.iaload, 1) := by decide +kernel
theorem dX1_addLetter_38 : decode cX1_addLetter 38 = .ok (.imul, 1) := by decide +kernel
theorem dX1_addLetter_39 : decode cX1_addLetter 39 = .ok (.ishr, 1) := by decide +kernel
theorem dX1_addLetter_40 : decode cX1_addLetter 40 = .ok (.iconst 3, 1) := by decide +kernel
theorem dX1_addLetter_41 : decode cX1_addLetter 41 = .ok (.iand, 1) := by decide +kernel
theorem dX1_addLetter_42 : decode cX1_addLetter 42 = .ok (.iastore, 1) := by decide +kernel
theorem dX1_addLetter_43 : decode cX1_addLetter 43 = .ok (.iload_n 3, 1) := by decide +kernel
theorem dX1_addLetter_44 : decode cX1_addLetter 44 = .ok (.iconst 1, 1) := by decide +kernel
theorem dX1_addLetter_45 : decode cX1_addLetter 45 = .ok (.aload_n 0, 1) := by decide +kernel
theorem dX1_addLetter_46 : decode cX1_addLetter 46 = .ok (.getfield 24, 3) := by decide +kernel
theorem dX1_addLetter_49 : decode cX1_addLetter 49 = .ok (.iload 4, 2) := by decide +kernel
theorem dX1_addLetter_51 : decode cX1_addLetter 51 = .ok (.iaload, 1) := by decide +kernel
theorem dX1_addLetter_52 : decode cX1_addLetter 52 = .ok (.ishl, 1) := by decide +kernel
theorem dX1_addLetter_53 : decode cX1_addLetter 53 = .ok (.ior, 1) := by decide +kernel
theorem dX1_addLetter_54 : decode cX1_addLetter 54 = .ok (.istore_n 3, 1) := by decide +kernel
theorem dX1_addLetter_55 : decode cX1_addLetter 55 = .ok (.iinc 4 1, 3) := by decide +kernel
theorem dX1_addLetter_58 : decode cX1_addLetter 58 = .ok (.goto (-41), 3) := by decide +kernel
theorem dX1_addLetter_61 : decode cX1_addLetter 61 = .ok (.aload_n 0, 1) := by decide +kernel
theorem dX1_addLetter_62 : decode cX1_addLetter 62 = .ok (.getfield 24, 3) := by decide +kernel
theorem dX1_addLetter_65 : decode cX1_addLetter 65 = .ok (.iconst 4, 1) := by decide +kernel
theorem dX1_addLetter_66 : decode cX1_addLetter 66 = .ok (.iload_n 3, 1) := by decide +kernel
theorem dX1_addLetter_67 : decode cX1_addLetter 67 = .ok (.invokestatic 100, 3) := by decide +kernel
theorem dX1_addLetter_70 : decode cX1_addLetter 70 = .ok (.iastore, 1) := by decide +kernel
theorem dX1_addLetter_71 : decode cX1_addLetter 71 = .ok (.return_, 1) := by decide +kernel
theorem dX1_addNest_0 : decode cX1_addNest 0 = .ok (.iload_n 1, 1) := by decide +kernel
theorem dX1_addNest_1 : decode cX1_addNest 1 = .ok (.ifCond .lt 16, 3) := by decide +kernel
theorem dX1_addNest_4 : decode cX1_addNest 4 = .ok (.aload_n 0, 1) := by decide +kernel
theorem dX1_addNest_5 : decode cX1_addNest 5 = .ok (.getfield 24, 3) := by decide +kernel
theorem dX1_addNest_8 : decode cX1_addNest 8 = .ok (.iconst 1, 1) := by decide +kernel
theorem dX1_addNest_9 : decode cX1_addNest 9 = .ok (.dup2, 1) := by decide +kernel
theorem dX1_addNest_10 : decode cX1_addNest 10 = .ok (.iaload, 1) := by decide +kernel
theorem dX1_addNest_11 : decode cX1_addNest 11 = .ok (.iconst 1, 1) := by decide +kernel
theorem dX1_addNest_12 : decode cX1_addNest 12 = .ok (.iadd, 1) := by decide +kernel
theorem dX1_addNest_13 : decode cX1_addNest 13 = .ok (.iastore, 1) := by decide +kernel
theorem dX1_addNest_14 : decode cX1_addNest 14 = .ok (.goto 45, 3) := by decide +kernel
theorem dX1_addNest_17 : decode cX1_addNest 17 = .ok (.aload_n 0, 1) := by decide +kernel
theorem dX1_addNest_18 : decode cX1_addNest 18 = .ok (.getfield 24, 3) := by decide +kernel
theorem dX1_addNest_21 : decode cX1_addNest 21 = .ok (.iconst 1, 1) := by decide +kernel
theorem dX1_addNest_22 : decode cX1_addNest 22 = .ok (.iaload, 1) := by decide +kernel
theorem dX1_addNest_23 : decode cX1_addNest 23 = .ok (.ifCond .le 26, 3) := by decide +kernel
theorem dX1_addNest_26 : decode cX1_addNest 26 = .ok (.aload_n 0, 1) := by decide +kernel
theorem dX1_addNest_27 : decode cX1_addNest 27 = .ok (.getfield 24, 3) := by decide +kernel
theorem dX1_addNest_30 : decode cX1_addNest 30 = .ok (.iconst 1, 1) := by decide +kernel
theorem dX1_addNest_31 : decode cX1_addNest 31 = .ok (.dup2, 1) := by decide +kernel
theorem dX1_addNest_32 : decode cX1_addNest 32 = .ok (.iaload, 1) := by decide +kernel
theorem dX1_addNest_33 : decode cX1_addNest 33 = .ok (.iconst 1, 1) := by decide +kernel
theorem dX1_addNest_34 : decode cX1_addNest 34 = .ok (.isub, 1) := by decide +kernel
theorem dX1_addNest_35 : decode cX1_addNest 35 = .ok (.iastore, 1) := by decide +kernel
theorem dX1_addNest_36 : decode cX1_addNest 36 = .ok (.aload_n 0, 1) := by decide +kernel
theorem dX1_addNest_37 : decode cX1_addNest 37 = .ok (.getfield 24, 3) := by decide +kernel
theorem dX1_addNest_40 : decode cX1_addNest 40 = .ok (.iconst 2, 1) := by decide +kernel
theorem dX1_addNest_41 : decode cX1_addNest 41 = .ok (.dup2, 1) := by decide +kernel
theorem dX1_addNest_42 : decode cX1_addNest 42 = .ok (.iaload, 1) := by decide +kernel
theorem dX1_addNest_43 : decode cX1_addNest 43 = .ok (.iconst 1, 1) := by decide +kernel
theorem dX1_addNest_44 : decode cX1_addNest 44 = .ok (.iadd, 1) := by decide +kernel
theorem dX1_addNest_45 : decode cX1_addNest 45 = .ok (.iastore, 1) := by decide +kernel
theorem dX1_addNest_46 : decode cX1_addNest 46 = .ok (.goto 13, 3) := by decide +kernel
theorem dX1_addNest_49 : decode cX1_addNest 49 = .ok (.aload_n 0, 1) := by decide +kernel
theorem dX1_addNest_50 : decode cX1_addNest 50 = .ok (.getfield 24, 3) := by decide +kernel
theorem dX1_addNest_53 : decode cX1_addNest 53 = .ok (.iconst 0, 1) := by decide +kernel
theorem dX1_addNest_54 : decode cX1_addNest 54 = .ok (.dup2, 1) := by decide +kernel
theorem dX1_addNest_55 : decode cX1_addNest 55 = .ok (.iaload, 1) := by decide +kernel
theorem dX1_addNest_56 : decode cX1_addNest 56 = .ok (.iconst 1, 1) := by decide +kernel
theorem dX1_addNest_57 : decode cX1_addNest 57 = .ok (.iadd, 1) := by decide +kernel
theorem dX1_addNest_58 : decode cX1_addNest 58 = .ok (.iastore, 1) := by decide +kernel
theorem dX1_addNest_59 : decode cX1_addNest 59 = .ok (.aload_n 0, 1) := by decide +kernel
theorem dX1_addNest_60 : decode cX1_addNest 60 = .ok (.getfield 24, 3) := by decide +kernel
theorem dX1_addNest_63 : decode cX1_addNest 63 = .ok (.iconst 3, 1) := by decide +kernel
theorem dX1_addNest_64 : decode cX1_addNest 64 = .ok (.aload_n 0, 1) := by decide +kernel
theorem dX1_addNest_65 : decode cX1_addNest 65 = .ok (.getfield 24, 3) := by decide +kernel
theorem dX1_addNest_68 : decode cX1_addNest 68 = .ok (.iconst 3, 1) := by decide +kernel
theorem dX1_addNest_69 : decode cX1_addNest 69 = .ok (.iaload, 1) := by decide +kernel
theorem dX1_addNest_70 : decode cX1_addNest 70 = .ok (.aload_n 0, 1) := by decide +kernel
theorem dX1_addNest_71 : decode cX1_addNest 71 = .ok (.getfield 24, 3) := by decide +kernel
theorem dX1_addNest_74 : decode cX1_addNest 74 = .ok (.iconst 1, 1) := by decide +kernel
theorem dX1_addNest_75 : decode cX1_addNest 75 = .ok (.iaload, 1) := by decide +kernel
theorem dX1_addNest_76 : decode cX1_addNest 76 = .ok (.aload_n 0, 1) := by decide +kernel
theorem dX1_addNest_77 : decode cX1_addNest 77 = .ok (.getfield 24, 3) := by decide +kernel
theorem dX1_addNest_80 : decode cX1_addNest 80 = .ok (.iconst 0, 1) := by decide +kernel
theorem dX1_addNest_81 : decode cX1_addNest 81 = .ok (.iaload, 1) := by decide +kernel
theorem dX1_addNest_82 : decode cX1_addNest 82 = .ok (.isub, 1) := by decide +kernel
theorem dX1_addNest_83 : decode cX1_addNest 83 = .ok (.invokestatic 97, 3) := by decide +kernel
theorem dX1_addNest_86 : decode cX1_addNest 86 = .ok (.iastore, 1) := by decide +kernel
theorem dX1_addNest_87 : decode cX1_addNest 87 = .ok (.return_, 1) := by decide +kernel
theorem dX1_addLike_0 : decode cX1_addLike 0 = .ok (.aload_n 0, 1) := by decide +kernel
theorem dX1_addLike_1 : decode cX1_addLike 1 = .ok (.getfield 34, 3) := by decide +kernel
theorem dX1_addLike_4 : decode cX1_addLike 4 = .ok (.ifCond .le 27, 3) := by decide +kernel
theorem dX1_addLike_7 : decode cX1_addLike 7 = .ok (.iload_n 1, 1) := by decide +kernel
theorem dX1_addLike_8 : decode cX1_addLike 8 = .ok (.aload_n 0, 1) := by decide +kernel
theorem dX1_addLike_9 : decode cX1_addLike 9 = .ok (.getfield 24, 3) := by decide +kernel
theorem dX1_addLike_12 : decode cX1_addLike 12 = .ok (.bipush 6, 2) := by decide +kernel
theorem dX1_addLike_14 : decode cX1_addLike 14 = .ok (.iaload, 1) := by decide +kernel
theorem dX1_addLike_15 : decode cX1_addLike 15 = .ok (.if_icmp .ne 16, 3) := by decide +kernel
theorem dX1_addLike_18 : decode cX1_addLike 18 = .ok (.aload_n 0, 1) := by decide +kernel
theorem dX1_addLike_19 : decode cX1_addLike 19 = .ok (.getfield 24, 3) := by decide +kernel
theorem dX1_addLike_22 : decode cX1_addLike 22 = .ok (.iconst 4, 1) := by decide +kernel
theorem dX1_addLike_23 : decode cX1_addLike 23 = .ok (.dup2, 1) := by decide +kernel
theorem dX1_addLike_24 : decode cX1_addLike 24 = .ok (.iaload, 1) := by decide +kernel
theorem dX1_addLike_25 : decode cX1_addLike 25 = .ok (.iconst 1, 1) := by decide +kernel
theorem dX1_addLike_26 : decode cX1_addLike 26 = .ok (.iadd, 1) := by decide +kernel
theorem dX1_addLike_27 : decode cX1_addLike 27 = .ok (.iastore, 1) := by decide +kernel
theorem dX1_addLike_28 : decode cX1_addLike 28 = .ok (.goto 20, 3) := by decide +kernel
theorem dX1_addLike_31 : decode cX1_addLike 31 = .ok (.aload_n 0, 1) := by decide +kernel
theorem dX1_addLike_32 : decode cX1_addLike 32 = .ok (.getfield 24, 3) := by decide +kernel
theorem dX1_addLike_35 : decode cX1_addLike 35 = .ok (.iconst 2, 1) := by decide +kernel
theorem dX1_addLike_36 : decode cX1_addLike 36 = .ok (.dup2, 1) := by decide +kernel
theorem dX1_addLike_37 : decode cX1_addLike 37 = .ok (.iaload, 1) := by decide +kernel
theorem dX1_addLike_38 : decode cX1_addLike 38 = .ok (.iconst 1, 1) := by decide +kernel
theorem dX1_addLike_39 : decode cX1_addLike 39 = .ok (.iadd, 1) := by decide +kernel
theorem dX1_addLike_40 : decode cX1_addLike 40 = .ok (.iastore, 1) := by decide +kernel
theorem dX1_addLike_41 : decode cX1_addLike 41 = .ok (.aload_n 0, 1) := by decide +kernel
theorem dX1_addLike_42 : decode cX1_addLike 42 = .ok (.getfield 24, 3) := by decide +kernel
theorem dX1_addLike_45 : decode cX1_addLike 45 = .ok (.iconst 4, 1) := by decide +kernel
theorem dX1_addLike_46 : decode cX1_addLike 46 = .ok (.iconst 1, 1) := by decide +kernel
theorem dX1_addLike_47 : decode cX1_addLike 47 = .ok (.iastore, 1) := by decide +kernel
theorem dX1_addLike_48 : decode cX1_addLike 48 = .ok (.aload_n 0, 1) := by decide +kernel
theorem dX1_addLike_49 : decode cX1_addLike 49 = .ok (.getfield 34, 3) := by decide +kernel
theorem dX1_addLike_52 : decode cX1_addLike 52 = .ok (.ifCond .ne 10, 3) := by decide +kernel
theorem dX1_addLike_55 : decode cX1_addLike 55 = .ok (.aload_n 0, 1) := by decide +kernel
theorem dX1_addLike_56 : decode cX1_addLike 56 = .ok (.getfield 24, 3) := by decide +kernel
theorem dX1_addLike_59 : decode cX1_addLike 59 = .ok (.iconst 5, 1) := by decide +kernel
theorem dX1_addLike_60 : decode cX1_addLike 60 = .ok (.iload_n 1, 1) := by decide +kernel
theorem dX1_addLike_61 : decode cX1_addLike 61 = .ok (.iastore, 1) := by decide +kernel
theorem dX1_addLike_62 : decode cX1_addLike 62 = .ok (.aload_n 0, 1) := by decide +kernel
theorem dX1_addLike_63 : decode cX1_addLike 63 = .ok (.getfield 24, 3) := by decide +kernel
theorem dX1_addLike_66 : decode cX1_addLike 66 = .ok (.iconst 2, 1) := by decide +kernel
theorem dX1_addLike_67 : decode cX1_addLike 67 = .ok (.iaload, 1) := by decide +kernel
theorem dX1_addLike_68 : decode cX1_addLike 68 = .ok (.iconst 1, 1) := by decide +kernel
theorem dX1_addLike_69 : decode cX1_addLike 69 = .ok (.if_icmp .ne 15, 3) := by decide +kernel
theorem dX1_addLike_72 : decode cX1_addLike 72 = .ok (.aload_n 0, 1) := by decide +kernel
theorem dX1_addLike_73 : decode cX1_addLike 73 = .ok (.getfield 24, 3) := by decide +kernel
theorem dX1_addLike_76 : decode cX1_addLike 76 = .ok (.iconst 3, 1) := by decide +kernel
theorem dX1_addLike_77 : decode cX1_addLike 77 = .ok (.aload_n 0, 1) := by decide +kernel
theorem dX1_addLike_78 : decode cX1_addLike 78 = .ok (.getfield 24, 3) := by decide +kernel
theorem dX1_addLike_81 : decode cX1_addLike 81 = .ok (.iconst 4, 1) := by decide +kernel
theorem dX1_addLike_82 : decode cX1_addLike 82 = .ok (.iaload, 1) := by decide +kernel
theorem dX1_addLike_83 : decode cX1_addLike 83 = .ok (.iastore, 1) := by decide +kernel
theorem dX1_addLike_84 : decode cX1_addLike 84 = .ok (.aload_n 0, 1) := by decide +kernel
theorem dX1_addLike_85 : decode cX1_addLike 85 = .ok (.getfield 24, 3) := by decide +kernel
theorem dX1_addLike_88 : decode cX1_addLike 88 = .ok (.iconst 4, 1) := by decide +kernel
theorem dX1_addLike_89 : decode cX1_addLike 89 = .ok (.iaload, 1) := by decide +kernel
theorem dX1_addLike_90 : decode cX1_addLike 90 = .ok (.aload_n 0, 1) := by decide +kernel
theorem dX1_addLike_91 : decode cX1_addLike 91 = .ok (.getfield 24, 3) := by decide +kernel
theorem dX1_addLike_94 : decode cX1_addLike 94 = .ok (.iconst 0, 1) := by decide +kernel
theorem dX1_addLike_95 : decode cX1_addLike 95 = .ok (.iaload, 1) := by decide +kernel
theorem dX1_addLike_96 : decode cX1_addLike 96 = .ok (.if_icmp .le 22, 3) := by decide +kernel
theorem dX1_addLike_99 : decode cX1_addLike 99 = .ok (.aload_n 0, 1) := by decide +kernel
theorem dX1_addLike_100 : decode cX1_addLike 100 = .ok (.getfield 24, 3) := by decide +kernel
theorem dX1_addLike_103 : decode cX1_addLike 103 = .ok (.iconst 0, 1) := by decide +kernel
theorem dX1_addLike_104 : decode cX1_addLike 104 = .ok (.aload_n 0, 1) := by decide +kernel
theorem dX1_addLike_105 : decode cX1_addLike 105 = .ok (.getfield 24, 3) := by decide +kernel
theorem dX1_addLike_108 : decode cX1_addLike 108 = .ok (.iconst 4, 1) := by decide +kernel
theorem dX1_addLike_109 : decode cX1_addLike 109 = .ok (.iaload, 1) := by decide +kernel
theorem dX1_addLike_110 : decode cX1_addLike 110 = .ok (.iastore, 1) := by decide +kernel
theorem dX1_addLike_111 : decode cX1_addLike 111 = .ok (.aload_n 0, 1) := by decide +kernel
theorem dX1_addLike_112 : decode cX1_addLike 112 = .ok (.getfield 24, 3) := by decide +kernel
theorem dX1_addLike_115 : decode cX1_addLike 115 = .ok (.iconst 1, 1) := by decide +kernel
theorem dX1_addLike_116 : decode cX1_addLike 116 = .ok (.iload_n 1, 1) := by decide +kernel
theorem dX1_addLike_117 : decode cX1_addLike 117 = .ok (.iastore, 1) := by decide +kernel
theorem dX1_addLike_118 : decode cX1_addLike 118 = .ok (.aload_n 0, 1) := by decide +kernel
theorem dX1_addLike_119 : decode cX1_addLike 119 = .ok (.getfield 24, 3) := by decide +kernel
theorem dX1_addLike_122 : decode cX1_addLike 122 = .ok (.bipush 6, 2) := by decide +kernel
theorem dX1_addLike_124 : decode cX1_addLike 124 = .ok (.iload_n 1, 1) := by decide +kernel
theorem dX1_addLike_125 : decode cX1_addLike 125 = .ok (.iastore, 1) := by decide +kernel
theorem dX1_addLike_126 : decode cX1_addLike 126 = .ok (.return_, 1) := by decide +kernel
theorem dX1_addStep_0 : decode cX1_addStep 0 = .ok (.aload_n 0, 1) := by decide +kernel
theorem dX1_addStep_1 : decode cX1_addStep 1 = .ok (.getfield 34, 3) := by decide +kernel
theorem dX1_addStep_4 : decode cX1_addStep 4 = .ok (.ifCond .ne 7, 3) := by decide +kernel
theorem dX1_addStep_7 : decode cX1_addStep 7 = .ok (.iconst 1, 1) := by decide +kernel
theorem dX1_addStep_8 : decode cX1_addStep 8 = .ok (.goto 4, 3) := by decide +kernel
theorem dX1_addStep_11 : decode cX1_addStep 11 = .ok (.iconst 0, 1) := by decide +kernel
theorem dX1_addStep_12 : decode cX1_addStep 12 = .ok (.istore_n 2, 1) := by decide +kernel
theorem dX1_addStep_13 : decode cX1_addStep 13 = .ok (.iload_n 2, 1) := by decide +kernel
theorem dX1_addStep_14 : decode cX1_addStep 14 = .ok (.ifCond .ne 17, 3) := by decide +kernel
theorem dX1_addStep_17 : decode cX1_addStep 17 = .ok (.iload_n 1, 1) := by decide +kernel
theorem dX1_addStep_18 : decode cX1_addStep 18 = .ok (.aload_n 0, 1) := by decide +kernel
theorem dX1_addStep_19 : decode cX1_addStep 19 = .ok (.getfield 24, 3) := by decide +kernel
theorem dX1_addStep_22 : decode cX1_addStep 22 = .ok (.iconst 3, 1) := by decide +kernel
theorem dX1_addStep_23 : decode cX1_addStep 23 = .ok (.iaload, 1) := by decide +kernel
theorem dX1_addStep_24 : decode cX1_addStep 24 = .ok (.if_icmp .ge 7, 3) := by decide +kernel
theorem dX1_addStep_27 : decode cX1_addStep 27 = .ok (.iconst 1, 1) := by decide +kernel
theorem dX1_addStep_28 : decode cX1_addStep 28 = .ok (.goto 4, 3) := by decide +kernel
theorem dX1_addStep_31 : decode cX1_addStep 31 = .ok (.iconst 0, 1) := by decide +kernel
theorem dX1_addStep_32 : decode cX1_addStep 32 = .ok (.istore_n 3, 1) := by decide +kernel
theorem dX1_addStep_33 : decode cX1_addStep 33 = .ok (.iload_n 2, 1) := by decide +kernel
theorem dX1_addStep_34 : decode cX1_addStep 34 = .ok (.ifCond .ne 17, 3) := by decide +kernel
theorem dX1_addStep_37 : decode cX1_addStep 37 = .ok (.iload_n 1, 1) := by decide +kernel
theorem dX1_addStep_38 : decode cX1_addStep 38 = .ok (.aload_n 0, 1) := by decide +kernel
theorem dX1_addStep_39 : decode cX1_addStep 39 = .ok (.getfield 24, 3) := by decide +kernel
theorem dX1_addStep_42 : decode cX1_addStep 42 = .ok (.iconst 3, 1) := by decide +kernel
theorem dX1_addStep_43 : decode cX1_addStep 43 = .ok (.iaload, 1) := by decide +kernel
theorem dX1_addStep_44 : decode cX1_addStep 44 = .ok (.if_icmp .le 7, 3) := by decide +kernel
theorem dX1_addStep_47 : decode cX1_addStep 47 = .ok (.iconst 1, 1) := by decide +kernel
theorem dX1_addStep_48 : decode cX1_addStep 48 = .ok (.goto 4, 3) := by decide +kernel
theorem dX1_addStep_51 : decode cX1_addStep 51 = .ok (.iconst 0, 1) := by decide +kernel
theorem dX1_addStep_52 : decode cX1_addStep 52 = .ok (.istore 4, 2) := by decide +kernel
theorem dX1_addStep_54 : decode cX1_addStep 54 = .ok (.aload_n 0, 1) := by decide +kernel
theorem dX1_addStep_55 : decode cX1_addStep 55 = .ok (.getfield 24, 3) := by decide +kernel
theorem dX1_addStep_58 : decode cX1_addStep 58 = .ok (.iconst 0, 1) := by decide +kernel
theorem dX1_addStep_59 : decode cX1_addStep 59 = .ok (.dup2, 1) := by decide +kernel
theorem dX1_addStep_60 : decode cX1_addStep 60 = .ok (.iaload, 1) := by decide +kernel
theorem dX1_addStep_61 : decode cX1_addStep 61 = .ok (.iload_n 3, 1) := by decide +kernel
theorem dX1_addStep_62 : decode cX1_addStep 62 = .ok (.ifCond .eq 7, 3) := by decide +kernel
theorem dX1_addStep_65 : decode cX1_addStep 65 = .ok (.iconst 1, 1) := by decide +kernel
theorem dX1_addStep_66 : decode cX1_addStep 66 = .ok (.goto 4, 3) := by decide +kernel
theorem dX1_addStep_69 : decode cX1_addStep 69 = .ok (.iconst 0, 1) := by decide +kernel
theorem dX1_addStep_70 : decode cX1_addStep 70 = .ok (.iadd, 1) := by decide +kernel
theorem dX1_addStep_71 : decode cX1_addStep 71 = .ok (.iastore, 1) := by decide +kernel
theorem dX1_addStep_72 : decode cX1_addStep 72 = .ok (.aload_n 0, 1) := by decide +kernel
theorem dX1_addStep_73 : decode cX1_addStep 73 = .ok (.getfield 24, 3) := by decide +kernel
theorem dX1_addStep_76 : decode cX1_addStep 76 = .ok (.iconst 1, 1) := by decide +kernel
theorem dX1_addStep_77 : decode cX1_addStep 77 = .ok (.dup2, 1) := by decide +kernel
theorem dX1_addStep_78 : decode cX1_addStep 78 = .ok (.iaload, 1) := by decide +kernel
theorem dX1_addStep_79 : decode cX1_addStep 79 = .ok (.iload 4, 2) := by decide +kernel
theorem dX1_addStep_81 : decode cX1_addStep 81 = .ok (.ifCond .eq 7, 3) := by decide +kernel
theorem dX1_addStep_84 : decode cX1_addStep 84 = .ok (.iconst 1, 1) := by decide +kernel
theorem dX1_addStep_85 : decode cX1_addStep 85 = .ok (.goto 4, 3) := by decide +kernel
theorem dX1_addStep_88 : decode cX1_addStep 88 = .ok (.iconst 0, 1) := by decide +kernel
theorem dX1_addStep_89 : decode cX1_addStep 89 = .ok (.iadd, 1) := by decide +kernel
theorem dX1_addStep_90 : decode cX1_addStep 90 = .ok (.iastore, 1) := by decide +kernel
theorem dX1_addStep_91 : decode cX1_addStep 91 = .ok (.aload_n 0, 1) := by decide +kernel
theorem dX1_addStep_92 : decode cX1_addStep 92 = .ok (.getfield 24, 3) := by decide +kernel
theorem dX1_addStep_95 : decode cX1_addStep 95 = .ok (.iconst 2, 1) := by decide +kernel
theorem dX1_addStep_96 : decode cX1_addStep 96 = .ok (.iload_n 2, 1) := by decide +kernel
theorem dX1_addStep_97 : decode cX1_addStep 97 = .ok (.ifCond .eq 7, 3) := by decide +kernel
theorem dX1_addStep_100 : decode cX1_addStep 100 = .ok (.iload_n 1, 1) := by decide +kernel
theorem dX1_addStep_101 : decode cX1_addStep 101 = .ok (.goto 9, 3) := by decide +kernel
theorem dX1_addStep_104 : decode cX1_addStep 104 = .ok (.aload_n 0, 1) := by decide +kernel
theorem dX1_addStep_105 : decode cX1_addStep 105 = .ok (.getfield 24, 3) := by decide +kernel
theorem dX1_addStep_108 : decode cX1_addStep 108 = .ok (.iconst 2, 1) := by decide +kernel
theorem dX1_addStep_109 : decode cX1_addStep 109 = .ok (.iaload, 1) := by decide +kernel
theorem dX1_addStep_110 : decode cX1_addStep 110 = .ok (.iastore, 1) := by decide +kernel
theorem dX1_addStep_111 : decode cX1_addStep 111 = .ok (.aload_n 0, 1) := by decide +kernel
theorem dX1_addStep_112 : decode cX1_addStep 112 = .ok (.getfield 24, 3) := by decide +kernel
theorem dX1_addStep_115 : decode cX1_addStep 115 = .ok (.iconst 3, 1) := by decide +kernel
theorem dX1_addStep_116 : decode cX1_addStep 116 = .ok (.iload_n 1, 1) := by decide +kernel
theorem dX1_addStep_117 : decode cX1_addStep 117 = .ok (.iastore, 1) := by decide +kernel
theorem dX1_addStep_118 : decode cX1_addStep 118 = .ok (.aload_n 0, 1) := by decide +kernel
theorem dX1_addStep_119 : decode cX1_addStep 119 = .ok (.iload_n 3, 1) := by decide +kernel
theorem dX1_addStep_120 : decode cX1_addStep 120 = .ok (.ifCond .eq 7, 3) := by decide +kernel
theorem dX1_addStep_123 : decode cX1_addStep 123 = .ok (.iconst 1, 1) := by decide +kernel
theorem dX1_addStep_124 : decode cX1_addStep 124 = .ok (.goto 9, 3) := by decide +kernel
theorem dX1_addStep_127 : decode cX1_addStep 127 = .ok (.aload_n 0, 1) := by decide +kernel
theorem dX1_addStep_128 : decode cX1_addStep 128 = .ok (.getfield 37, 3) := by decide +kernel
theorem dX1_addStep_131 : decode cX1_addStep 131 = .ok (.iconst 1, 1) := by decide +kernel
theorem dX1_addStep_132 : decode cX1_addStep 132 = .ok (.iadd, 1) := by decide +kernel
theorem dX1_addStep_133 : decode cX1_addStep 133 = .ok (.putfield 37, 3) := by decide +kernel
theorem dX1_addStep_136 : decode cX1_addStep 136 = .ok (.aload_n 0, 1) := by decide +kernel
theorem dX1_addStep_137 : decode cX1_addStep 137 = .ok (.getfield 24, 3) := by decide +kernel
theorem dX1_addStep_140 : decode cX1_addStep 140 = .ok (.iconst 4, 1) := by decide +kernel
theorem dX1_addStep_141 : decode cX1_addStep 141 = .ok (.aload_n 0, 1) := by decide +kernel
theorem dX1_addStep_142 : decode cX1_addStep 142 = .ok (.getfield 24, 3) := by decide +kernel
theorem dX1_addStep_145 : decode cX1_addStep 145 = .ok (.iconst 4, 1) := by decide +kernel
theorem dX1_addStep_146 : decode cX1_addStep 146 = .ok (.iaload, 1) := by decide +kernel
theorem dX1_addStep_147 : decode cX1_addStep 147 = .ok (.aload_n 0, 1) := by decide +kernel
theorem dX1_addStep_148 : decode cX1_addStep 148 = .ok (.getfield 37, 3) := by decide +kernel
theorem dX1_addStep_151 : decode cX1_addStep 151 = .ok (.invokestatic 97, 3) := by decide +kernel
theorem dX1_addStep_154 : decode cX1_addStep 154 = .ok (.iastore, 1) := by decide +kernel
theorem dX1_addStep_155 : decode cX1_addStep 155 = .ok (.return_, 1) := by decide +kernel
theorem dX1_addSpread_0 : decode cX1_addSpread 0 = .ok (.iload_n 1, 1) := by decide +kernel
theorem dX1_addSpread_1 : decode cX1_addSpread 1 = .ok (.ifCond .le 34, 3) := by decide +kernel
theorem dX1_addSpread_4 : decode cX1_addSpread 4 = .ok (.aload_n 0, 1) := by decide +kernel
theorem dX1_addSpread_5 : decode cX1_addSpread 5 = .ok (.getfield 24, 3) := by decide +kernel
theorem dX1_addSpread_8 : decode cX1_addSpread 8 = .ok (.iconst 0, 1) := by decide +kernel
theorem dX1_addSpread_9 : decode cX1_addSpread 9 = .ok (.iaload, 1) := by decide +kernel
theorem dX1_addSpread_10 : decode cX1_addSpread 10 = .ok (.ldc 40, 2) := by decide +kernel
theorem dX1_addSpread_12 : decode cX1_addSpread 12 = .ok (.if_icmp .eq 13, 3) := by decide +kernel
theorem dX1_addSpread_15 : decode cX1_addSpread 15 = .ok (.iload_n 1, 1) := by decide +kernel
theorem dX1_addSpread_16 : decode cX1_addSpread 16 = .ok (.aload_n 0, 1) := by decide +kernel
theorem dX1_addSpread_17 : decode cX1_addSpread 17 = .ok (.getfield 24, 3) := by decide +kernel
theorem dX1_addSpread_20 : decode cX1_addSpread 20 = .ok (.iconst 0, 1) := by decide +kernel
theorem dX1_addSpread_21 : decode cX1_addSpread 21 = .ok (.iaload, 1) := by decide +kernel
theorem dX1_addSpread_22 : decode cX1_addSpread 22 = .ok (.if_icmp .ge 13, 3) := by decide +kernel
theorem dX1_addSpread_25 : decode cX1_addSpread 25 = .ok (.aload_n 0, 1) := by decide +kernel
theorem dX1_addSpread_26 : decode cX1_addSpread 26 = .ok (.getfield 24, 3) := by decide +kernel
theorem dX1_addSpread_29 : decode cX1_addSpread 29 = .ok (.iconst 0, 1) := by decide +kernel
theorem dX1_addSpread_30 : decode cX1_addSpread 30 = .ok (.iload_n 1, 1) := by decide +kernel
theorem dX1_addSpread_31 : decode cX1_addSpread 31 = .ok (.iastore, 1) := by decide +kernel
theorem dX1_addSpread_32 : decode cX1_addSpread 32 = .ok (.goto 40, 3) := by decide +kernel
theorem dX1_addSpread_35 : decode cX1_addSpread 35 = .ok (.iload_n 1, 1) := by decide +kernel
theorem dX1_addSpread_36 : decode cX1_addSpread 36 = .ok (.ifCond .ge 22, 3) := by decide +kernel
theorem dX1_addSpread_39 : decode cX1_addSpread 39 = .ok (.aload_n 0, 1) := by decide +kernel
theorem dX1_addSpread_40 : decode cX1_addSpread 40 = .ok (.getfield 24, 3) := by decide +kernel
theorem dX1_addSpread_43 : decode cX1_addSpread 43 = .ok (.iconst 1, 1) := by decide +kernel
theorem dX1_addSpread_44 : decode cX1_addSpread 44 = .ok (.aload_n 0, 1) := by decide +kernel
theorem dX1_addSpread_45 : decode cX1_addSpread 45 = .ok (.getfield 24, 3) := by decide +kernel
theorem dX1_addSpread_48 : decode cX1_addSpread 48 = .ok (.iconst 1, 1) := by decide +kernel
theorem dX1_addSpread_49 : decode cX1_addSpread 49 = .ok (.iaload, 1) := by decide +kernel
theorem dX1_addSpread_50 : decode cX1_addSpread 50 = .ok (.iload_n 1, 1) := by decide +kernel
theorem dX1_addSpread_51 : decode cX1_addSpread 51 = .ok (.invokestatic 97, 3) := by decide +kernel
theorem dX1_addSpread_54 : decode cX1_addSpread 54 = .ok (.iastore, 1) := by decide +kernel
theorem dX1_addSpread_55 : decode cX1_addSpread 55 = .ok (.goto 17, 3) := by decide +kernel
theorem dX1_addSpread_58 : decode cX1_addSpread 58 = .ok (.iload_n 1, 1) := by decide +kernel
theorem dX1_addSpread_59 : decode cX1_addSpread 59 = .ok (.ifCond .ne 13, 3) := by decide +kernel
theorem dX1_addSpread_62 : decode cX1_addSpread 62 = .ok (.aload_n 0, 1) := by decide +kernel
theorem dX1_addSpread_63 : decode cX1_addSpread 63 = .ok (.getfield 24, 3) := by decide +kernel
theorem dX1_addSpread_66 : decode cX1_addSpread 66 = .ok (.iconst 2, 1) := by decide +kernel
theorem dX1_addSpread_67 : decode cX1_addSpread 67 = .ok (.dup2, 1) := by decide +kernel
theorem dX1_addSpread_68 : decode cX1_addSpread 68 = .ok (.iaload, 1) := by decide +kernel
theorem dX1_addSpread_69 : decode cX1_addSpread 69 = .ok (.iconst 1, 1) := by decide +kernel
theorem dX1_addSpread_70 : decode cX1_addSpread 70 = .ok (.iadd, 1) := by decide +kernel
theorem dX1_addSpread_71 : decode cX1_addSpread 71 = .ok (.iastore, 1) := by decide +kernel
theorem dX1_addSpread_72 : decode cX1_addSpread 72 = .ok (.return_, 1) := by decide +kernel
theorem dX1_addElement_0 : decode cX1_addElement 0 = .ok (.iload_n 1, 1) := by decide +kernel
theorem dX1_addElement_1 : decode cX1_addElement 1 = .ok (.iconst 4, 1) := by decide +kernel
theorem dX1_addElement_2 : decode cX1_addElement 2 = .ok (.invokestatic 93, 3) := by decide +kernel
theorem dX1_addElement_5 : decode cX1_addElement 5 = .ok (.istore_n 2, 1) := by decide +kernel
theorem dX1_addElement_6 : decode cX1_addElement 6 = .ok (.aload_n 0, 1) := by decide +kernel
theorem dX1_addElement_7 : decode cX1_addElement 7 = .ok (.getfield 24, 3) := by decide +kernel
theorem dX1_addElement_10 : decode cX1_addElement 10 = .ok (.iconst 0, 1) := by decide +kernel
theorem dX1_addElement_11 : decode cX1_addElement 11 = .ok (.aload_n 0, 1) := by decide +kernel
theorem dX1_addElement_12 : decode cX1_addElement 12 = .ok (.getfield 34, 3) := by decide +kernel
theorem dX1_addElement_15 : decode cX1_addElement 15 = .ok (.ifCond .ne 7, 3) := by decide +kernel
theorem dX1_addElement_18 : decode cX1_addElement 18 = .ok (.iload_n 2, 1) := by decide +kernel
theorem dX1_addElement_19 : decode cX1_addElement 19 = .ok (.goto 18, 3) := by decide +kernel
theorem dX1_addElement_22 : decode cX1_addElement 22 = .ok (.aload_n 0, 1) := by decide +kernel
theorem dX1_addElement_23 : decode cX1_addElement 23 = .ok (.getfield 9, 3) := by decide +kernel
theorem dX1_addElement_26 : decode cX1_addElement 26 = .ok (.iconst 4, 1) := by decide +kernel
theorem dX1_addElement_27 : decode cX1_addElement 27 = .ok (.aload_n 0, 1) := by decide +kernel
theorem dX1_addElement_28 : decode cX1_addElement 28 = .ok (.getfield 24, 3) := by decide +kernel
theorem dX1_addElement_31 : decode cX1_addElement 31 = .ok (.iconst 0, 1) := by decide +kernel
theorem dX1_addElement_32 : decode cX1_addElement 32 = .ok (.iaload, 1) := by decide +kernel
theorem dX1_addElement_33 : decode cX1_addElement 33 = .ok (.imul, 1) := by decide +kernel
theorem dX1_addElement_34 : decode cX1_addElement 34 = .ok (.iload_n 2, 1) := by decide +kernel
theorem dX1_addElement_35 : decode cX1_addElement 35 = .ok (.iadd, 1) := by decide +kernel
theorem dX1_addElement_36 : decode cX1_addElement 36 = .ok (.iaload, 1) := by decide +kernel
theorem dX1_addElement_37 : decode cX1_addElement 37 = .ok (.iastore, 1) := by decide +kernel
theorem dX1_addElement_38 : decode cX1_addElement 38 = .ok (.return_, 1) := by decide +kernel
theorem dX2_init_0 : decode cX2_init 0 = .ok (.aload_n 0, 1) := by decide +kernel
theorem dX2_init_1 : decode cX2_init 1 = .ok (.invokespecial 3, 3) := by decide +kernel
theorem dX2_init_4 : decode cX2_init 4 = .ok (.aload_n 0, 1) := by decide +kernel
theorem dX2_init_5 : decode cX2_init 5 = .ok (.iload_n 1, 1) := by decide +kernel
theorem dX2_init_6 : decode cX2_init 6 = .ok (.putfield 9, 3) := by decide +kernel
theorem dX2_init_9 : decode cX2_init 9 = .ok (.aload_n 0, 1) := by decide +kernel
theorem dX2_init_10 : decode cX2_init 10 = .ok (.bipush 121, 2) := by decide +kernel
theorem dX2_init_12 : decode cX2_init 12 = .ok (.newarray .int, 2) := by decide +kernel
theorem dX2_init_14 : decode cX2_init 14 = .ok (.putfield 15, 3) := by decide +kernel
theorem dX2_init_17 : decode cX2_init 17 = .ok (.aload_n 0, 1) := by decide +kernel
theorem dX2_init_18 : decode cX2_init 18 = .ok (.bipush 121, 2) := by decide +kernel
theorem dX2_init_20 : decode cX2_init 20 = .ok (.newarray .int, 2) := by decide +kernel
theorem dX2_init_22 : decode cX2_init 22 = .ok (.putfield 19, 3) := by decide +kernel
theorem dX2_init_25 : decode cX2_init 25 = .ok (.aload_n 0, 1) := by decide +kernel
theorem dX2_init_26 : decode cX2_init 26 = .ok (.bipush 121, 2) := by decide +kernel
theorem dX2_init_28 : decode cX2_init 28 = .ok (.newarray .int, 2) := by decide +kernel
theorem dX2_init_30 : decode cX2_init 30 = .ok (.putfield 22, 3) := by decide +kernel
theorem dX2_init_33 : decode cX2_init 33 = .ok (.aload_n 0, 1) := by decide +kernel
theorem dX2_init_34 : decode cX2_init 34 = .ok (.new 25, 3) := by decide +kernel
theorem dX2_init_37 : decode cX2_init 37 = .ok (.dup, 1) := by decide +kernel
theorem dX2_init_38 : decode cX2_init 38 = .ok (.invokespecial 27, 3) := by decide +kernel
theorem dX2_init_41 : decode cX2_init 41 = .ok (.putfield 28, 3) := by decide +kernel
theorem dX2_init_44 : decode cX2_init 44 = .ok (.return_, 1) := by decide +kernel
theorem dX2_begin_0 : decode cX2_begin 0 = .ok (.aload_n 0, 1) := by decide +kernel
theorem dX2_begin_1 : decode cX2_begin 1 = .ok (.iconst 1, 1) := by decide +kernel
theorem dX2_begin_2 : decode cX2_begin 2 = .ok (.putfield 32, 3) := by decide +kernel
theorem dX2_begin_5 : decode cX2_begin 5 = .ok (.aload_n 0, 1) := by decide +kernel
theorem dX2_begin_6 : decode cX2_begin 6 = .ok (.iload_n 1, 1) := by decide +kernel
theorem dX2_begin_7 : decode cX2_begin 7 = .ok (.putfield 36, 3) := by decide +kernel
theorem dX2_begin_10 : decode cX2_begin 10 = .ok (.aload_n 0, 1) := by decide +kernel
theorem dX2_begin_11 : decode cX2_begin 11 = .ok (.iload_n 2, 1) := by decide +kernel
theorem dX2_begin_12 : decode cX2_begin 12 = .ok (.putfield 39, 3) := by decide +kernel
theorem dX2_begin_15 : decode cX2_begin 15 = .ok (.aload_n 0, 1) := by decide +kernel
theorem dX2_begin_16 : decode cX2_begin 16 = .ok (.iload_n 3, 1) := by decide +kernel
theorem dX2_begin_17 : decode cX2_begin 17 = .ok (.putfield 42, 3) := by decide +kernel
theorem dX2_begin_20 : decode cX2_begin 20 = .ok (.aload_n 0, 1) := by decide +kernel
theorem dX2_begin_21 : decode cX2_begin 21 = .ok (.iload 4, 2) := by decide +kernel
theorem dX2_begin_23 : decode cX2_begin 23 = .ok (.putfield 45, 3) := by decide +kernel
theorem dX2_begin_26 : decode cX2_begin 26 = .ok (.aload_n 0, 1) := by decide +kernel
theorem dX2_begin_27 : decode cX2_begin 27 = .ok (.iconst 0, 1) := by decide +kernel
theorem dX2_begin_28 : decode cX2_begin 28 = .ok (.putfield 48, 3) := by decide +kernel
theorem dX2_begin_31 : decode cX2_begin 31 = .ok (.aload_n 0, 1) := by decide +kernel
theorem dX2_begin_32 : decode cX2_begin 32 = .ok (.iconst (-1), 1) := by decide +kernel
theorem dX2_begin_33 : decode cX2_begin 33 = .ok (.putfield 51, 3) := by decide +kernel
theorem dX2_begin_36 : decode cX2_begin 36 = .ok (.aload_n 0, 1) := by decide +kernel
theorem dX2_begin_37 : decode cX2_begin 37 = .ok (.iconst 0, 1) := by decide +kernel
theorem dX2_begin_38 : decode cX2_begin 38 = .ok (.putfield 54, 3) := by decide +kernel
theorem dX2_begin_41 : decode cX2_begin 41 = .ok (.aload_n 0, 1) := by decide +kernel
theorem dX2_begin_42 : decode cX2_begin 42 = .ok (.iconst 0, 1) := by decide +kernel
theorem dX2_begin_43 : decode cX2_begin 43 = .ok (.putfield 57, 3) := by decide +kernel
theorem dX2_begin_46 : decode cX2_begin 46 = .ok (.aload_n 0, 1) := by decide +kernel
theorem dX2_begin_47 : decode cX2_begin 47 = .ok (.iconst 0, 1) := by decide +kernel
theorem dX2_begin_48 : decode cX2_begin 48 = .ok (.putfield 60, 3) := by decide +kernel
theorem dX2_begin_51 : decode cX2_begin 51 = .ok (.aload_n 0, 1) := by decide +kernel
theorem dX2_begin_52 : decode cX2_begin 52 = .ok (.iconst 0, 1) := by decide +kernel
theorem dX2_begin_53 : decode cX2_begin 53 = .ok (.putfield 63, 3) := by decide +kernel
theorem dX2_begin_56 : decode cX2_begin 56 = .ok (.aload_n 0, 1) := by decide +kernel
theorem dX2_begin_57 : decode cX2_begin 57 = .ok (.iconst 0, 1) := by decide +kernel
theorem dX2_begin_58 : decode cX2_begin 58 = .ok (.putfield 66, 3) := by decide +kernel
theorem dX2_begin_61 : decode cX2_begin 61 = .ok (.aload_n 0, 1) := by decide +kernel
theorem dX2_begin_62 : decode cX2_begin 62 = .ok (.getfield 28, 3) := by decide +kernel
theorem dX2_begin_65 : decode cX2_begin 65 = .ok (.invokevirtual 69, 3) := by decide +kernel
theorem dX2_begin_68 : decode cX2_begin 68 = .ok (.return_, 1) := by decide +kernel
theorem dX2_copyFrom_0 : decode cX2_copyFrom 0 = .ok (.aload_n 0, 1) := by decide +kernel
theorem dX2_copyFrom_1 : decode cX2_copyFrom 1 = .ok (.aload_n 1, 1) := by decide +kernel
theorem dX2_copyFrom_2 : decode cX2_copyFrom 2 = .ok (.getfield 9, 3) := by decide +kernel
theorem dX2_copyFrom_5 : decode cX2_copyFrom 5 = .ok (.putfield 9, 3) := by decide +kernel
theorem dX2_copyFrom_8 : decode cX2_copyFrom 8 = .ok (.aload_n 0, 1) := by decide +kernel
theorem dX2_copyFrom_9 : decode cX2_copyFrom 9 = .ok (.aload_n 1, 1) := by decide +kernel
theorem dX2_copyFrom_10 : decode cX2_copyFrom 10 = .ok (.getfield 32, 3) := by decide +kernel
theorem dX2_copyFrom_13 : decode cX2_copyFrom 13 = .ok (.putfield 32, 3) := by decide +kernel
theorem dX2_copyFrom_16 : decode cX2_copyFrom 16 = .ok (.aload_n 0, 1) := by decide +kernel
theorem dX2_copyFrom_17 : decode cX2_copyFrom 17 = .ok (.aload_n 1, 1) := by decide +kernel
theorem dX2_copyFrom_18 : decode cX2_copyFrom 18 = .ok (.getfield 36, 3) := by decide +kernel
theorem dX2_copyFrom_21 : decode cX2_copyFrom 21 = .ok (.putfield 36, 3) := by decide +kernel
theorem dX2_copyFrom_24 : decode cX2_copyFrom 24 = .ok (.aload_n 0, 1) := by decide +kernel
theorem dX2_copyFrom_25 : decode cX2_copyFrom 25 = .ok (.aload_n 1, 1) := by decide +kernel
theorem dX2_copyFrom_26 : decode cX2_copyFrom 26 = .ok (.getfield 39, 3) := by decide +kernel
theorem dX2_copyFrom_29 : decode cX2_copyFrom 29 = .ok (.putfield 39, 3) := by decide +kernel
theorem dX2_copyFrom_32 : decode cX2_copyFrom 32 = .ok (.aload_n 0, 1) := by decide +kernel
theorem dX2_copyFrom_33 : decode cX2_copyFrom 33 = .ok (.aload_n 1, 1) := by decide +kernel
theorem dX2_copyFrom_34 : decode cX2_copyFrom 34 = .ok (.getfield 42, 3) := by decide +kernel
theorem dX2_copyFrom_37 : decode cX2_copyFrom 37 = .ok (.putfield 42, 3) := by decide +kernel
theorem dX2_copyFrom_40 : decode cX2_copyFrom 40 = .ok (.aload_n 0, 1) := by decide +kernel
theorem dX2_copyFrom_41 : decode cX2_copyFrom 41 = .ok (.aload_n 1, 1) := by decide +kernel
theorem dX2_copyFrom_42 : decode cX2_copyFrom 42 = .ok (.getfield 45, 3) := by decide +kernel
theorem dX2_copyFrom_45 : decode cX2_copyFrom 45 = .ok (.putfield 45, 3) := by decide +kernel
theorem dX2_copyFrom_48 : decode cX2_copyFrom 48 = .ok (.aload_n 0, 1) := by decide +kernel
theorem dX2_copyFrom_49 : decode cX2_copyFrom 49 = .ok (.aload_n 1, 1) := by decide +kernel
theorem dX2_copyFrom_50 : decode cX2_copyFrom 50 = .ok (.getfield 48, 3) := by decide +kernel
theorem dX2_copyFrom_53 : decode cX2_copyFrom 53 = .ok (.putfield 48, 3) := by decide +kernel
theorem dX2_copyFrom_56 : decode cX2_copyFrom 56 = .ok (.aload_n 1, 1) := by decide +kernel
theorem dX2_copyFrom_57 : decode cX2_copyFrom 57 = .ok (.getfield 15, 3) := by decide +kernel
theorem dX2_copyFrom_60 : decode cX2_copyFrom 60 = .ok (.iconst 0, 1) := by decide +kernel
theorem dX2_copyFrom_61 : decode cX2_copyFrom 61 = .ok (.aload_n 0, 1) := by decide +kernel
theorem dX2_copyFrom_62 : decode cX2_copyFrom 62 = .ok (.getfield 15, 3) := by decide +kernel
theorem dX2_copyFrom_65 : decode cX2_copyFrom 65 = .ok (.iconst 0, 1) := by decide +kernel
theorem dX2_copyFrom_66 : decode cX2_copyFrom 66 = .ok (.aload_n 0, 1) := by decide +kernel
theorem dX2_copyFrom_67 : decode cX2_copyFrom 67 = .ok (.getfield 48, 3) := by decide +kernel
theorem dX2_copyFrom_70 : decode cX2_copyFrom 70 = .ok (.invokestatic 72, 3) := by decide +kernel
theorem dX2_copyFrom_73 : decode cX2_copyFrom 73 = .ok (.aload_n 1, 1) := by decide +kernel
theorem dX2_copyFrom_74 : decode cX2_copyFrom 74 = .ok (.getfield 19, 3) := by decide +kernel
theorem dX2_copyFrom_77 : decode cX2_copyFrom 77 = .ok (.iconst 0, 1) := by decide +kernel
theorem dX2_copyFrom_78 : decode cX2_copyFrom 78 = .ok (.aload_n 0, 1) := by decide +kernel
theorem dX2_copyFrom_79 : decode cX2_copyFrom 79 = .ok (.getfield 19, 3) := by decide +kernel
theorem dX2_copyFrom_82 : decode cX2_copyFrom 82 = .ok (.iconst 0, 1) := by decide +kernel
theorem dX2_copyFrom_83 : decode cX2_copyFrom 83 = .ok (.aload_n 0, 1) := by decide +kernel
theorem dX2_copyFrom_84 : decode cX2_copyFrom 84 = .ok (.getfield 48, 3) := by decide +kernel
theorem dX2_copyFrom_87 : decode cX2_copyFrom 87 = .ok (.invokestatic 72, 3) := by decide +kernel
theorem dX2_copyFrom_90 : decode cX2_copyFrom 90 = .ok (.aload_n 1, 1) := by decide +kernel
theorem dX2_copyFrom_91 : decode cX2_copyFrom 91 = .ok (.getfield 22, 3) := by decide +kernel
theorem dX2_copyFrom_94 : decode cX2_copyFrom 94 = .ok (.iconst 0, 1) := by decide +kernel
theorem dX2_copyFrom_95 : decode cX2_copyFrom 95 = .ok (.aload_n 0, 1) := by decide +kernel
theorem dX2_copyFrom_96 : decode cX2_copyFrom 96 = .ok (.getfield 22, 3) := by decide +kernel
theorem dX2_copyFrom_99 : decode cX2_copyFrom 99 = .ok (.iconst 0, 1) := by decide +kernel
theorem dX2_copyFrom_100 : decode cX2_copyFrom 100 = .ok (.aload_n 0, 1) := by decide +kernel
theorem dX2_copyFrom_101 : decode cX2_copyFrom 101 = .ok (.getfield 48, 3) := by decide +kernel
theorem dX2_copyFrom_104 : decode cX2_copyFrom 104 = .ok (.invokestatic 72, 3) := by decide +kernel
theorem dX2_copyFrom_107 : decode cX2_copyFrom 107 = .ok (.aload_n 0, 1) := by decide +kernel
theorem dX2_copyFrom_108 : decode cX2_copyFrom 108 = .ok (.aload_n 1, 1) := by decide +kernel
theorem dX2_copyFrom_109 : decode cX2_copyFrom 109 = .ok (.getfield 51, 3) := by decide +kernel
theorem dX2_copyFrom_112 : decode cX2_copyFrom 112 = .ok (.putfield 51, 3) := by decide +kernel
theorem dX2_copyFrom_115 : decode cX2_copyFrom 115 = .ok (.aload_n 0, 1) := by decide +kernel
theorem dX2_copyFrom_116 : decode cX2_copyFrom 116 = .ok (.aload_n 1, 1) := by decide +kernel
theorem dX2_copyFrom_117 : decode cX2_copyFrom 117 = .ok (.getfield 54, 3) := by decide +kernel
theorem dX2_copyFrom_120 : decode cX2_copyFrom 120 = .ok (.putfield 54, 3) := by decide +kernel
theorem dX2_copyFrom_123 : decode cX2_copyFrom 123 = .ok (.aload_n 0, 1) := by decide +kernel
theorem dX2_copyFrom_124 : decode cX2_copyFrom 124 = .ok (.aload_n 1, 1) := by decide +kernel
theorem dX2_copyFrom_125 : decode cX2_copyFrom 125 = .ok (.getfield 57, 3) := by decide +kernel
theorem dX2_copyFrom_128 : decode cX2_copyFrom 128 = .ok (.putfield 57, 3) := by decide +kernel
theorem dX2_copyFrom_131 : decode cX2_copyFrom 131 = .ok (.aload_n 0, 1) := by decide +kernel
theorem dX2_copyFrom_132 : decode cX2_copyFrom 132 = .ok (.aload_n 1, 1) := by decide +kernel
theorem dX2_copyFrom_133 : decode cX2_copyFrom 133 = .ok (.getfield 60, 3) := by decide +kernel
theorem dX2_copyFrom_136 : decode cX2_copyFrom 136 = .ok (.putfield 60, 3) := by decide +kernel
theorem dX2_copyFrom_139 : decode cX2_copyFrom 139 = .ok (.aload_n 0, 1) := by decide +kernel
theorem dX2_copyFrom_140 : decode cX2_copyFrom 140 = .ok (.aload_n 1, 1) := by decide +kernel
theorem dX2_copyFrom_141 : decode cX2_copyFrom 141 = .ok (.getfield 63, 3) := by decide +kernel
theorem dX2_copyFrom_144 : decode cX2_copyFrom 144 = .ok (.putfield 63, 3) := by decide +kernel
theorem dX2_copyFrom_147 : decode cX2_copyFrom 147 = .ok (.aload_n 0, 1) := by decide +kernel
theorem dX2_copyFrom_148 : decode cX2_copyFrom 148 = .ok (.aload_n 1, 1) := by decide +kernel
theorem dX2_copyFrom_149 : decode cX2_copyFrom 149 = .ok (.getfield 66, 3) := by decide +kernel
theorem dX2_copyFrom_152 : decode cX2_copyFrom 152 = .ok (.putfield 66, 3) := by decide +kernel
theorem dX2_copyFrom_155 : decode cX2_copyFrom 155 = .ok (.aload_n 0, 1) := by decide +kernel
theorem dX2_copyFrom_156 : decode cX2_copyFrom 156 = .ok (.getfield 28, 3) := by decide +kernel
theorem dX2_copyFrom_159 : decode cX2_copyFrom 159 = .ok (.aload_n 1, 1) := by decide +kernel
theorem dX2_copyFrom_160 : decode cX2_copyFrom 160 = .ok (.getfield 28, 3) := by decide +kernel
theorem dX2_copyFrom_163 : decode cX2_copyFrom 163 = .ok (.invokevirtual 78, 3) := by decide +kernel
theorem dX2_copyFrom_166 : decode cX2_copyFrom 166 = .ok (.return_, 1) := by decide +kernel
theorem dX2_hasNumber_0 : decode cX2_hasNumber 0 = .ok (.iload_n 1, 1) := by decide +kernel
theorem dX2_hasNumber_1 : decode cX2_hasNumber 1 = .ok (.iconst 0, 1) := by decide +kernel
theorem dX2_hasNumber_2 : decode cX2_hasNumber 2 = .ok (.getstatic 82, 3) := by decide +kernel
theorem dX2_hasNumber_5 : decode cX2_hasNumber 5 = .ok (.aload_n 0, 1) := by decide +kernel
theorem dX2_hasNumber_6 : decode cX2_hasNumber 6 = .ok (.getfield 36, 3) := by decide +kernel
theorem dX2_hasNumber_9 : decode cX2_hasNumber 9 = .ok (.iaload, 1) := by decide +kernel
theorem dX2_hasNumber_10 : decode cX2_hasNumber 10 = .ok (.iconst 1, 1) := by decide +kernel
theorem dX2_hasNumber_11 : decode cX2_hasNumber 11 = .ok (.isub, 1) := by decide +kernel
theorem dX2_hasNumber_12 : decode cX2_hasNumber 12 = .ok (.invokestatic 85, 3) := by decide +kernel
theorem dX2_hasNumber_15 : decode cX2_hasNumber 15 = .ok (.ireturn, 1) := by decide +kernel
theorem dX2_isFull_0 : decode cX2_isFull 0 = .ok (.aload_n 0, 1) := by decide +kernel
theorem dX2_isFull_1 : decode cX2_isFull 1 = .ok (.getfield 39, 3) := by decide +kernel
theorem dX2_isFull_4 : decode cX2_isFull 4 = .ok (.iconst 1, 1) := by decide +kernel
theorem dX2_isFull_5 : decode cX2_isFull 5 = .ok (.if_icmp .eq 16, 3) := by decide +kernel
theorem dX2_isFull_8 : decode cX2_isFull 8 = .ok (.aload_n 0, 1) := by decide +kernel
theorem dX2_isFull_9 : decode cX2_isFull 9 = .ok (.getfield 48, 3) := by decide +kernel
theorem dX2_isFull_12 : decode cX2_isFull 12 = .ok (.bipush 120, 2) := by decide +kernel
theorem dX2_isFull_14 : decode cX2_isFull 14 = .ok (.if_icmp .lt 7, 3) := by decide +kernel
theorem dX2_isFull_17 : decode cX2_isFull 17 = .ok (.iconst 1, 1) := by decide +kernel
theorem dX2_isFull_18 : decode cX2_isFull 18 = .ok (.goto 4, 3) := by decide +kernel
theorem dX2_isFull_21 : decode cX2_isFull 21 = .ok (.iconst 0, 1) := by decide +kernel
theorem dX2_isFull_22 : decode cX2_isFull 22 = .ok (.ireturn, 1) := by decide +kernel
theorem dX2_isTooLate_0 : decode cX2_isTooLate 0 = .ok (.iload_n 1, 1) := by decide +kernel
theorem dX2_isTooLate_1 : decode cX2_isTooLate 1 = .ok (.aload_n 0, 1) := by decide +kernel
theorem dX2_isTooLate_2 : decode cX2_isTooLate 2 = .ok (.getfield 51, 3) := by decide +kernel
theorem dX2_isTooLate_5 : decode cX2_isTooLate 5 = .ok (.aload_n 0, 1) := by decide +kernel
theorem dX2_isTooLate_6 : decode cX2_isTooLate 6 = .ok (.getfield 45, 3) := by decide +kernel
theorem dX2_isTooLate_9 : decode cX2_isTooLate 9 = .ok (.isub, 1) := by decide +kernel
theorem dX2_isTooLate_10 : decode cX2_isTooLate 10 = .ok (.if_icmp .ge 7, 3) := by decide +kernel
theorem dX2_isTooLate_13 : decode cX2_isTooLate 13 = .ok (.iconst 1, 1) := by decide +kernel
theorem dX2_isTooLate_14 : decode cX2_isTooLate 14 = .ok (.goto 4, 3) := by decide +kernel
theorem dX2_isTooLate_17 : decode cX2_isTooLate 17 = .ok (.iconst 0, 1) := by decide +kernel
theorem dX2_isTooLate_18 : decode cX2_isTooLate 18 = .ok (.ireturn, 1) := by decide +kernel
theorem dX2_heldUntil_0 : decode cX2_heldUntil 0 = .ok (.aload_n 0, 1) := by decide +kernel
theorem dX2_heldUntil_1 : decode cX2_heldUntil 1 = .ok (.getfield 48, 3) := by decide +kernel
theorem dX2_heldUntil_4 : decode cX2_heldUntil 4 = .ok (.istore_n 3, 1) := by decide +kernel
theorem dX2_heldUntil_5 : decode cX2_heldUntil 5 = .ok (.iload_n 3, 1) := by decide +kernel
theorem dX2_heldUntil_6 : decode cX2_heldUntil 6 = .ok (.ifCond .le 23, 3) := by decide +kernel
theorem dX2_heldUntil_9 : decode cX2_heldUntil 9 = .ok (.aload_n 0, 1) := by decide +kernel
theorem dX2_heldUntil_10 : decode cX2_heldUntil 10 = .ok (.getfield 15, 3) := by decide +kernel
theorem dX2_heldUntil_13 : decode cX2_heldUntil 13 = .ok (.iload_n 3, 1) := by decide +kernel
theorem dX2_heldUntil_14 : decode cX2_heldUntil 14 = .ok (.iconst 1, 1) := by decide +kernel
theorem dX2_heldUntil_15 : decode cX2_heldUntil 15 = .ok (.isub, 1) := by decide +kernel
theorem dX2_heldUntil_16 : decode cX2_heldUntil 16 = .ok (.iaload, 1) := by decide +kernel
theorem dX2_heldUntil_17 : decode cX2_heldUntil 17 = .ok (.i2l, 1) := by decide +kernel
theorem dX2_heldUntil_18 : decode cX2_heldUntil 18 = .ok (.lload_n 1, 1) := by decide +kernel
theorem dX2_heldUntil_19 : decode cX2_heldUntil 19 = .ok (.lcmp, 1) := by decide +kernel
theorem dX2_heldUntil_20 : decode cX2_heldUntil 20 = .ok (.ifCond .le 9, 3) := by decide +kernel
theorem dX2_heldUntil_23 : decode cX2_heldUntil 23 = .ok (.iinc 3 (-1), 3) := by decide +kernel
theorem dX2_heldUntil_26 : decode cX2_heldUntil 26 = .ok (.goto (-21), 3) := by decide +kernel
theorem dX2_heldUntil_29 : decode cX2_heldUntil 29 = .ok (.iload_n 3, 1) := by decide +kernel
theorem dX2_heldUntil_30 : decode cX2_heldUntil 30 = .ok (.ireturn, 1) := by decide +kernel
theorem dX2_startsSession_0 : decode cX2_startsSession 0 = .ok (.iload_n 1, 1) := by decide +kernel
theorem dX2_startsSession_1 : decode cX2_startsSession 1 = .ok (.ifCond .eq 22, 3) := by decide +kernel
theorem dX2_startsSession_4 : decode cX2_startsSession 4 = .ok (.aload_n 0, 1) := by decide +kernel
theorem dX2_startsSession_5 : decode cX2_startsSession 5 = .ok (.getfield 15, 3) := by decide +kernel
theorem dX2_startsSession_8 : decode cX2_startsSession 8 = .ok (.iload_n 1, 1) := by decide +kernel
theorem dX2_startsSession_9 : decode cX2_startsSession 9 = .ok (.iaload, 1) := by decide +kernel
theorem dX2_startsSession_10 : decode cX2_startsSession 10 = .ok (.aload_n 0, 1) := by decide +kernel
theorem dX2_startsSession_11 : decode cX2_startsSession 11 = .ok (.getfield 15, 3) := by decide +kernel
theorem dX2_startsSession_14 : decode cX2_startsSession 14 = .ok (.iload_n 1, 1) := by decide +kernel
theorem dX2_startsSession_15 : decode cX2_startsSession 15 = .ok (.iconst 1, 1) := by decide +kernel
theorem dX2_startsSession_16 : decode cX2_startsSession 16 = .ok (.isub, 1) := by decide +kernel
theorem dX2_startsSession_17 : decode cX2_startsSession 17 = .ok (.iaload, 1) := by decide +kernel
theorem dX2_startsSession_18 : decode cX2_startsSession 18 = .ok (.isub, 1) := by decide +kernel
theorem dX2_startsSession_19 : decode cX2_startsSession 19 = .ok (.iload_n 2, 1) := by decide +kernel
theorem dX2_startsSession_20 : decode cX2_startsSession 20 = .ok (.if_icmp .le 7, 3) := by decide +kernel
theorem dX2_startsSession_23 : decode cX2_startsSession 23 = .ok (.iconst 1, 1) := by decide +kernel
theorem dX2_startsSession_24 : decode cX2_startsSession 24 = .ok (.goto 4, 3) := by decide +kernel
theorem dX2_startsSession_27 : decode cX2_startsSession 27 = .ok (.iconst 0, 1) := by decide +kernel
theorem dX2_startsSession_28 : decode cX2_startsSession 28 = .ok (.ireturn, 1) := by decide +kernel
theorem dX2_goes_0 : decode cX2_goes 0 = .ok (.aload_n 0, 1) := by decide +kernel
theorem dX2_goes_1 : decode cX2_goes 1 = .ok (.getfield 39, 3) := by decide +kernel
theorem dX2_goes_4 : decode cX2_goes 4 = .ok (.iconst 1, 1) := by decide +kernel
theorem dX2_goes_5 : decode cX2_goes 5 = .ok (.if_icmp .ne 11, 3) := by decide +kernel
theorem dX2_goes_8 : decode cX2_goes 8 = .ok (.iload_n 1, 1) := by decide +kernel
theorem dX2_goes_9 : decode cX2_goes 9 = .ok (.aload_n 0, 1) := by decide +kernel
theorem dX2_goes_10 : decode cX2_goes 10 = .ok (.getfield 42, 3) := by decide +kernel
theorem dX2_goes_13 : decode cX2_goes 13 = .ok (.if_icmp .gt 21, 3) := by decide +kernel
theorem dX2_goes_16 : decode cX2_goes 16 = .ok (.aload_n 0, 1) := by decide +kernel
theorem dX2_goes_17 : decode cX2_goes 17 = .ok (.getfield 39, 3) := by decide +kernel
theorem dX2_goes_20 : decode cX2_goes 20 = .ok (.iconst 2, 1) := by decide +kernel
theorem dX2_goes_21 : decode cX2_goes 21 = .ok (.if_icmp .ne 17, 3) := by decide +kernel
theorem dX2_goes_24 : decode cX2_goes 24 = .ok (.iload_n 2, 1) := by decide +kernel
theorem dX2_goes_25 : decode cX2_goes 25 = .ok (.iload_n 3, 1) := by decide +kernel
theorem dX2_goes_26 : decode cX2_goes 26 = .ok (.aload_n 0, 1) := by decide +kernel
theorem dX2_goes_27 : decode cX2_goes 27 = .ok (.getfield 42, 3) := by decide +kernel
theorem dX2_goes_30 : decode cX2_goes 30 = .ok (.isub, 1) := by decide +kernel
theorem dX2_goes_31 : decode cX2_goes 31 = .ok (.if_icmp .gt 7, 3) := by decide +kernel
theorem dX2_goes_34 : decode cX2_goes 34 = .ok (.iconst 1, 1) := by decide +kernel
theorem dX2_goes_35 : decode cX2_goes 35 = .ok (.goto 4, 3) := by decide +kernel
theorem dX2_goes_38 : decode cX2_goes 38 = .ok (.iconst 0, 1) := by decide +kernel
theorem dX2_goes_39 : decode cX2_goes 39 = .ok (.ireturn, 1) := by decide +kernel
theorem dX2_insert_0 : decode cX2_insert 0 = .ok (.aload_n 0, 1) := by decide +kernel
theorem dX2_insert_1 : decode cX2_insert 1 = .ok (.aload_n 0, 1) := by decide +kernel
theorem dX2_insert_2 : decode cX2_insert 2 = .ok (.getfield 48, 3) := by decide +kernel
theorem dX2_insert_5 : decode cX2_insert 5 = .ok (.iload_n 1, 1) := by decide +kernel
theorem dX2_insert_6 : decode cX2_insert 6 = .ok (.isub, 1) := by decide +kernel
theorem dX2_insert_7 : decode cX2_insert 7 = .ok (.putfield 63, 3) := by decide +kernel
theorem dX2_insert_10 : decode cX2_insert 10 = .ok (.aload_n 0, 1) := by decide +kernel
theorem dX2_insert_11 : decode cX2_insert 11 = .ok (.iload_n 1, 1) := by decide +kernel
theorem dX2_insert_12 : decode cX2_insert 12 = .ok (.iload_n 1, 1) := by decide +kernel
theorem dX2_insert_13 : decode cX2_insert 13 = .ok (.iconst 1, 1) := by decide +kernel
theorem dX2_insert_14 : decode cX2_insert 14 = .ok (.iadd, 1) := by decide +kernel
theorem dX2_insert_15 : decode cX2_insert 15 = .ok (.aload_n 0, 1) := by decide +kernel
theorem dX2_insert_16 : decode cX2_insert 16 = .ok (.getfield 63, 3) := by decide +kernel
theorem dX2_insert_19 : decode cX2_insert 19 = .ok (.invokevirtual 89, 3) := by decide +kernel
theorem dX2_insert_22 : decode cX2_insert 22 = .ok (.aload_n 0, 1) := by decide +kernel
theorem dX2_insert_23 : decode cX2_insert 23 = .ok (.getfield 15, 3) := by decide +kernel
theorem dX2_insert_26 : decode cX2_insert 26 = .ok (.iload_n 1, 1) := by decide +kernel
theorem dX2_insert_27 : decode cX2_insert 27 = .ok (.iload_n 2, 1) := by decide +kernel
theorem dX2_insert_28 : decode cX2_insert 28 = .ok (.iastore, 1) := by decide +kernel
theorem dX2_insert_29 : decode cX2_insert 29 = .ok (.aload_n 0, 1) := by decide +kernel
theorem dX2_insert_30 : decode cX2_insert 30 = .ok (.getfield 19, 3) := by decide +kernel
theorem dX2_insert_33 : decode cX2_insert 33 = .ok (.iload_n 1, 1) := by decide +kernel
theorem dX2_insert_34 : decode cX2_insert 34 = .ok (.iload_n 3, 1) := by decide +kernel
theorem dX2_insert_35 : decode cX2_insert 35 = .ok (.iastore, 1) := by decide +kernel
theorem dX2_insert_36 : decode cX2_insert 36 = .ok (.aload_n 0, 1) := by decide +kernel
theorem dX2_insert_37 : decode cX2_insert 37 = .ok (.getfield 22, 3) := by decide +kernel
theorem dX2_insert_40 : decode cX2_insert 40 = .ok (.iload_n 1, 1) := by decide +kernel
theorem dX2_insert_41 : decode cX2_insert 41 = .ok (.aload_n 0, 1) := by decide +kernel
theorem dX2_insert_42 : decode cX2_insert 42 = .ok (.getfield 57, 3) := by decide +kernel
theorem dX2_insert_45 : decode cX2_insert 45 = .ok (.iastore, 1) := by decide +kernel
theorem dX2_insert_46 : decode cX2_insert 46 = .ok (.aload_n 0, 1) := by decide +kernel
theorem dX2_insert_47 : decode cX2_insert 47 = .ok (.dup, 1) := by decide +kernel
theorem dX2_insert_48 : decode cX2_insert 48 = .ok (.getfield 48, 3) := by decide +kernel
theorem dX2_insert_51 : decode cX2_insert 51 = .ok (.iconst 1, 1) := by decide +kernel
theorem dX2_insert_52 : decode cX2_insert 52 = .ok (.iadd, 1) := by decide +kernel
theorem dX2_insert_53 : decode cX2_insert 53 = .ok (.putfield 48, 3) := by decide +kernel
theorem dX2_insert_56 : decode cX2_insert 56 = .ok (.aload_n 0, 1) := by decide +kernel
theorem dX2_insert_57 : decode cX2_insert 57 = .ok (.dup, 1) := by decide +kernel
theorem dX2_insert_58 : decode cX2_insert 58 = .ok (.getfield 57, 3) := by decide +kernel
theorem dX2_insert_61 : decode cX2_insert 61 = .ok (.iconst 1, 1) := by decide +kernel
theorem dX2_insert_62 : decode cX2_insert 62 = .ok (.iadd, 1) := by decide +kernel
theorem dX2_insert_63 : decode cX2_insert 63 = .ok (.putfield 57, 3) := by decide +kernel
theorem dX2_insert_66 : decode cX2_insert 66 = .ok (.aload_n 0, 1) := by decide +kernel
theorem dX2_insert_67 : decode cX2_insert 67 = .ok (.aload_n 0, 1) := by decide +kernel
theorem dX2_insert_68 : decode cX2_insert 68 = .ok (.getfield 51, 3) := by decide +kernel
theorem dX2_insert_71 : decode cX2_insert 71 = .ok (.iload_n 2, 1) := by decide +kernel
theorem dX2_insert_72 : decode cX2_insert 72 = .ok (.invokestatic 93, 3) := by decide +kernel
theorem dX2_insert_75 : decode cX2_insert 75 = .ok (.putfield 51, 3) := by decide +kernel
theorem dX2_insert_78 : decode cX2_insert 78 = .ok (.return_, 1) := by decide +kernel
theorem dX2_remove_0 : decode cX2_remove 0 = .ok (.aload_n 0, 1) := by decide +kernel
theorem dX2_remove_1 : decode cX2_remove 1 = .ok (.iload_n 1, 1) := by decide +kernel
theorem dX2_remove_2 : decode cX2_remove 2 = .ok (.iconst 1, 1) := by decide +kernel
theorem dX2_remove_3 : decode cX2_remove 3 = .ok (.iadd, 1) := by decide +kernel
theorem dX2_remove_4 : decode cX2_remove 4 = .ok (.iload_n 1, 1) := by decide +kernel
theorem dX2_remove_5 : decode cX2_remove 5 = .ok (.aload_n 0, 1) := by decide +kernel
theorem dX2_remove_6 : decode cX2_remove 6 = .ok (.getfield 48, 3) := by decide +kernel
theorem dX2_remove_9 : decode cX2_remove 9 = .ok (.iload_n 1, 1) := by decide +kernel
theorem dX2_remove_10 : decode cX2_remove 10 = .ok (.isub, 1) := by decide +kernel
theorem dX2_remove_11 : decode cX2_remove 11 = .ok (.iconst 1, 1) := by decide +kernel
theorem dX2_remove_12 : decode cX2_remove 12 = .ok (.isub, 1) := by decide +kernel
theorem dX2_remove_13 : decode cX2_remove 13 = .ok (.invokevirtual 89, 3) := by decide +kernel
theorem dX2_remove_16 : decode cX2_remove 16 = .ok (.aload_n 0, 1) := by decide +kernel
theorem dX2_remove_17 : decode cX2_remove 17 = .ok (.dup, 1) := by decide +kernel
theorem dX2_remove_18 : decode cX2_remove 18 = .ok (.getfield 48, 3) := by decide +kernel
theorem dX2_remove_21 : decode cX2_remove 21 = .ok (.iconst 1, 1) := by decide +kernel
theorem dX2_remove_22 : decode cX2_remove 22 = .ok (.isub, 1) := by decide +kernel
theorem dX2_remove_23 : decode cX2_remove 23 = .ok (.putfield 48, 3) := by decide +kernel
theorem dX2_remove_26 : decode cX2_remove 26 = .ok (.return_, 1) := by decide +kernel
theorem dX2_shift_0 : decode cX2_shift 0 = .ok (.aload_n 0, 1) := by decide +kernel
theorem dX2_shift_1 : decode cX2_shift 1 = .ok (.getfield 15, 3) := by decide +kernel
theorem dX2_shift_4 : decode cX2_shift 4 = .ok (.iload_n 1, 1) := by decide +kernel
theorem dX2_shift_5 : decode cX2_shift 5 = .ok (.aload_n 0, 1) := by decide +kernel
theorem dX2_shift_6 : decode cX2_shift 6 = .ok (.getfield 15, 3) := by decide +kernel
theorem dX2_shift_9 : decode cX2_shift 9 = .ok (.iload_n 2, 1) := by decide +kernel
theorem dX2_shift_10 : decode cX2_shift 10 = .ok (.iload_n 3, 1) := by decide +kernel
theorem dX2_shift_11 : decode cX2_shift 11 = .ok (.invokestatic 72, 3) := by decide +kernel
theorem dX2_shift_14 : decode cX2_shift 14 = .ok (.aload_n 0, 1) := by decide +kernel
theorem dX2_shift_15 : decode cX2_shift 15 = .ok (.getfield 19, 3) := by decide +kernel
theorem dX2_shift_18 : decode cX2_shift 18 = .ok (.iload_n 1, 1) := by decide +kernel
theorem dX2_shift_19 : decode cX2_shift 19 = .ok (.aload_n 0, 1) := by decide +kernel
theorem dX2_shift_20 : decode cX2_shift 20 = .ok (.getfield 19, 3) := by decide +kernel
theorem dX2_shift_23 : decode cX2_shift 23 = .ok (.iload_n 2, 1) := by decide +kernel
theorem dX2_shift_24 : decode cX2_shift 24 = .ok (.iload_n 3, 1) := by decide +kernel
theorem dX2_shift_25 : decode cX2_shift 25 = .ok (.invokestatic 72, 3) := by decide +kernel
theorem dX2_shift_28 : decode cX2_shift 28 = .ok (.aload_n 0, 1) := by decide +kernel
theorem dX2_shift_29 : decode cX2_shift 29 = .ok (.getfield 22, 3) := by decide +kernel
theorem dX2_shift_32 : decode cX2_shift 32 = .ok (.iload_n 1, 1) := by decide +kernel
theorem dX2_shift_33 : decode cX2_shift 33 = .ok (.aload_n 0, 1) := by decide +kernel
theorem dX2_shift_34 : decode cX2_shift 34 = .ok (.getfield 22, 3) := by decide +kernel
theorem dX2_shift_37 : decode cX2_shift 37 = .ok (.iload_n 2, 1) := by decide +kernel
theorem dX2_shift_38 : decode cX2_shift 38 = .ok (.iload_n 3, 1) := by decide +kernel
theorem dX2_shift_39 : decode cX2_shift 39 = .ok (.invokestatic 72, 3) := by decide +kernel
theorem dX2_shift_42 : decode cX2_shift 42 = .ok (.return_, 1) := by decide +kernel
theorem dX2_told_0 : decode cX2_told 0 = .ok (.iload_n 1, 1) := by decide +kernel
theorem dX2_told_1 : decode cX2_told 1 = .ok (.tableswitch 114 0 10 #[59, 64, 69, 74, 79, 84, 89, 94, 99, 104, 109], 59) := by decide +kernel
theorem dX2_told_60 : decode cX2_told 60 = .ok (.aload_n 0, 1) := by decide +kernel
theorem dX2_told_61 : decode cX2_told 61 = .ok (.getfield 36, 3) := by decide +kernel
theorem dX2_told_64 : decode cX2_told 64 = .ok (.ireturn, 1) := by decide +kernel
theorem dX2_told_65 : decode cX2_told 65 = .ok (.aload_n 0, 1) := by decide +kernel
theorem dX2_told_66 : decode cX2_told 66 = .ok (.getfield 39, 3) := by decide +kernel
theorem dX2_told_69 : decode cX2_told 69 = .ok (.ireturn, 1) := by decide +kernel
theorem dX2_told_70 : decode cX2_told 70 = .ok (.aload_n 0, 1) := by decide +kernel
theorem dX2_told_71 : decode cX2_told 71 = .ok (.getfield 42, 3) := by decide +kernel
theorem dX2_told_74 : decode cX2_told 74 = .ok (.ireturn, 1) := by decide +kernel
theorem dX2_told_75 : decode cX2_told 75 = .ok (.aload_n 0, 1) := by decide +kernel
theorem dX2_told_76 : decode cX2_told 76 = .ok (.getfield 45, 3) := by decide +kernel
theorem dX2_told_79 : decode cX2_told 79 = .ok (.ireturn, 1) := by decide +kernel
theorem dX2_told_80 : decode cX2_told 80 = .ok (.aload_n 0, 1) := by decide +kernel
theorem dX2_told_81 : decode cX2_told 81 = .ok (.getfield 48, 3) := by decide +kernel
theorem dX2_told_84 : decode cX2_told 84 = .ok (.ireturn, 1) := by decide +kernel
theorem dX2_told_85 : decode cX2_told 85 = .ok (.aload_n 0, 1) := by decide +kernel
theorem dX2_told_86 : decode cX2_told 86 = .ok (.getfield 51, 3) := by decide +kernel
theorem dX2_told_89 : decode cX2_told 89 = .ok (.ireturn, 1) := by decide +kernel
theorem dX2_told_90 : decode cX2_told 90 = .ok (.aload_n 0, 1) := by decide +kernel
theorem dX2_told_91 : decode cX2_told 91 = .ok (.getfield 54, 3) := by decide +kernel
theorem dX2_told_94 : decode cX2_told 94 = .ok (.ireturn, 1) := by decide +kernel
theorem dX2_told_95 : decode cX2_told 95 = .ok (.aload_n 0, 1) := by decide +kernel
theorem dX2_told_96 : decode cX2_told 96 = .ok (.getfield 57, 3) := by decide +kernel
theorem dX2_told_99 : decode cX2_told 99 = .ok (.ireturn, 1) := by decide +kernel
theorem dX2_told_100 : decode cX2_told 100 = .ok (.aload_n 0, 1) := by decide +kernel
theorem dX2_told_101 : decode cX2_told 101 = .ok (.getfield 60, 3) := by decide +kernel
theorem dX2_told_104 : decode cX2_told 104 = .ok (.ireturn, 1) := by decide +kernel
theorem dX2_told_105 : decode cX2_told 105 = .ok (.aload_n 0, 1) := by decide +kernel
theorem dX2_told_106 : decode cX2_told 106 = .ok (.getfield 63, 3) := by decide +kernel
theorem dX2_told_109 : decode cX2_told 109 = .ok (.ireturn, 1) := by decide +kernel
theorem dX2_told_110 : decode cX2_told 110 = .ok (.aload_n 0, 1) := by decide +kernel
theorem dX2_told_111 : decode cX2_told 111 = .ok (.getfield 66, 3) := by decide +kernel
theorem dX2_told_114 : decode cX2_told 114 = .ok (.ireturn, 1) := by decide +kernel
theorem dX2_told_115 : decode cX2_told 115 = .ok (.iconst (-1), 1) := by decide +kernel
theorem dX2_told_116 : decode cX2_told 116 = .ok (.ireturn, 1) := by decide +kernel
theorem dX3_init_0 : decode cX3_init 0 = .ok (.aload_n 0, 1) := by decide +kernel
theorem dX3_init_1 : decode cX3_init 1 = .ok (.invokespecial 3, 3) := by decide +kernel
theorem dX3_init_4 : decode cX3_init 4 = .ok (.aload_n 0, 1) := by decide +kernel
theorem dX3_init_5 : decode cX3_init 5 = .ok (.iconst (-1), 1) := by decide +kernel
theorem dX3_init_6 : decode cX3_init 6 = .ok (.putfield 9, 3) := by decide +kernel
theorem dX3_init_9 : decode cX3_init 9 = .ok (.return_, 1) := by decide +kernel
theorem dX3_begin_0 : decode cX3_begin 0 = .ok (.aload_n 0, 1) := by decide +kernel
theorem dX3_begin_1 : decode cX3_begin 1 = .ok (.iload_n 1, 1) := by decide +kernel
theorem dX3_begin_2 : decode cX3_begin 2 = .ok (.putfield 9, 3) := by decide +kernel
theorem dX3_begin_5 : decode cX3_begin 5 = .ok (.aload_n 0, 1) := by decide +kernel
theorem dX3_begin_6 : decode cX3_begin 6 = .ok (.iload_n 2, 1) := by decide +kernel
theorem dX3_begin_7 : decode cX3_begin 7 = .ok (.putfield 15, 3) := by decide +kernel
theorem dX3_begin_10 : decode cX3_begin 10 = .ok (.aload_n 0, 1) := by decide +kernel
theorem dX3_begin_11 : decode cX3_begin 11 = .ok (.iload_n 3, 1) := by decide +kernel
theorem dX3_begin_12 : decode cX3_begin 12 = .ok (.putfield 18, 3) := by decide +kernel
theorem dX3_begin_15 : decode cX3_begin 15 = .ok (.aload_n 0, 1) := by decide +kernel
theorem dX3_begin_16 : decode cX3_begin 16 = .ok (.iconst 0, 1) := by decide +kernel
theorem dX3_begin_17 : decode cX3_begin 17 = .ok (.putfield 21, 3) := by decide +kernel
theorem dX3_begin_20 : decode cX3_begin 20 = .ok (.return_, 1) := by decide +kernel
theorem dX3_end_0 : decode cX3_end 0 = .ok (.aload_n 0, 1) := by decide +kernel
theorem dX3_end_1 : decode cX3_end 1 = .ok (.iconst (-1), 1) := by decide +kernel
theorem dX3_end_2 : decode cX3_end 2 = .ok (.putfield 9, 3) := by decide +kernel
theorem dX3_end_5 : decode cX3_end 5 = .ok (.return_, 1) := by decide +kernel
theorem dX3_told_0 : decode cX3_told 0 = .ok (.iload_n 1, 1) := by decide +kernel
theorem dX3_told_1 : decode cX3_told 1 = .ok (.tableswitch 51 0 3 #[31, 36, 41, 46], 31) := by decide +kernel
theorem dX3_told_32 : decode cX3_told 32 = .ok (.aload_n 0, 1) := by decide +kernel
theorem dX3_told_33 : decode cX3_told 33 = .ok (.getfield 9, 3) := by decide +kernel
theorem dX3_told_36 : decode cX3_told 36 = .ok (.ireturn, 1) := by decide +kernel
theorem dX3_told_37 : decode cX3_told 37 = .ok (.aload_n 0, 1) := by decide +kernel
theorem dX3_told_38 : decode cX3_told 38 = .ok (.getfield 15, 3) := by decide +kernel
theorem dX3_told_41 : decode cX3_told 41 = .ok (.ireturn, 1) := by decide +kernel
theorem dX3_told_42 : decode cX3_told 42 = .ok (.aload_n 0, 1) := by decide +kernel
theorem dX3_told_43 : decode cX3_told 43 = .ok (.getfield 18, 3) := by decide +kernel
theorem dX3_told_46 : decode cX3_told 46 = .ok (.ireturn, 1) := by decide +kernel
theorem dX3_told_47 : decode cX3_told 47 = .ok (.aload_n 0, 1) := by decide +kernel
theorem dX3_told_48 : decode cX3_told 48 = .ok (.getfield 21, 3) := by decide +kernel
theorem dX3_told_51 : decode cX3_told 51 = .ok (.ireturn, 1) := by decide +kernel
theorem dX3_told_52 : decode cX3_told 52 = .ok (.iconst (-1), 1) := by decide +kernel
theorem dX3_told_53 : decode cX3_told 53 = .ok (.ireturn, 1) := by decide +kernel
theorem dX4_init_0 : decode cX4_init 0 = .ok (.aload_n 0, 1) := by decide +kernel
theorem dX4_init_1 : decode cX4_init 1 = .ok (.invokespecial 3, 3) := by decide +kernel
theorem dX4_init_4 : decode cX4_init 4 = .ok (.aload_n 0, 1) := by decide +kernel
theorem dX4_init_5 : decode cX4_init 5 = .ok (.iconst (-1), 1) := by decide +kernel
theorem dX4_init_6 : decode cX4_init 6 = .ok (.putfield 9, 3) := by decide +kernel
theorem dX4_init_9 : decode cX4_init 9 = .ok (.return_, 1) := by decide +kernel
theorem dX4_begin_0 : decode cX4_begin 0 = .ok (.aload_n 0, 1) := by decide +kernel
theorem dX4_begin_1 : decode cX4_begin 1 = .ok (.iload_n 1, 1) := by decide +kernel
theorem dX4_begin_2 : decode cX4_begin 2 = .ok (.putfield 9, 3) := by decide +kernel
theorem dX4_begin_5 : decode cX4_begin 5 = .ok (.aload_n 0, 1) := by decide +kernel
theorem dX4_begin_6 : decode cX4_begin 6 = .ok (.iload_n 2, 1) := by decide +kernel
theorem dX4_begin_7 : decode cX4_begin 7 = .ok (.putfield 15, 3) := by decide +kernel
theorem dX4_begin_10 : decode cX4_begin 10 = .ok (.aload_n 0, 1) := by decide +kernel
theorem dX4_begin_11 : decode cX4_begin 11 = .ok (.iload_n 3, 1) := by decide +kernel
theorem dX4_begin_12 : decode cX4_begin 12 = .ok (.putfield 18, 3) := by decide +kernel
theorem dX4_begin_15 : decode cX4_begin 15 = .ok (.aload_n 0, 1) := by decide +kernel
theorem dX4_begin_16 : decode cX4_begin 16 = .ok (.iload 4, 2) := by decide +kernel
theorem dX4_begin_18 : decode cX4_begin 18 = .ok (.putfield 21, 3) := by decide +kernel
theorem dX4_begin_21 : decode cX4_begin 21 = .ok (.aload_n 0, 1) := by decide +kernel
theorem dX4_begin_22 : decode cX4_begin 22 = .ok (.iconst 0, 1) := by decide +kernel
theorem dX4_begin_23 : decode cX4_begin 23 = .ok (.putfield 25, 3) := by decide +kernel
theorem dX4_begin_26 : decode cX4_begin 26 = .ok (.aload_n 0, 1) := by decide +kernel
theorem dX4_begin_27 : decode cX4_begin 27 = .ok (.iconst (-1), 1) := by decide +kernel
theorem dX4_begin_28 : decode cX4_begin 28 = .ok (.putfield 28, 3) := by decide +kernel
theorem dX4_begin_31 : decode cX4_begin 31 = .ok (.return_, 1) := by decide +kernel
